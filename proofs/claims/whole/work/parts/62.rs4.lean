/-! strangers: the reference's search answers what the class answers -/
def me (T : TS) (s : Nat) : Nat := mk5 T s % 5
def ah (T : TS) (e : Nat) : Nat := if tl T = 2 then 1 <<< e else 0
theorem mks_1 : ∀ s, s < 32 → many s = 1 → 1 <<< (mks s 5 0 % 5) = s := by decide +kernel
theorem me_lt (T : TS) (s : Nat) : me T s < 5 := Nat.mod_lt _ (by decide)
theorem ah_me {T : TS} (hn : tn T ≤ 5) {s' : Nat} (h : ps (tl T) s' 0 = true) (hs : s' < 2 ^ tn T) (s : Nat) : ps (tl T) s (ah T (me T s')) = ps (tl T) s s' := by
  by_cases e : tl T = 2
  · have h32 : s' < 32 := Nat.lt_of_lt_of_le hs (Nat.pow_le_pow_right (n := 2) (j := 5) (by decide) hn)
    rw [e] at h
    have := mks_1 s' h32 (ps_2.mp h).1
    unfold ah me mk5
    rw [if_pos e, if_pos e, this]
  · exact ps_n2 e _ _ _
def bpT (T : TS) (E : Nat → Nat) : BP := (NC T, fun y => decide (pl T y = y) && ps (tl T) (DD T (gd T y) E) 0, fun y => 5 * y + me T (DD T (gd T y) E), fun K y => decide (pl T y = y) && ps (tl T) (DD T (gd T y) (gd T (K / 5))) (ah T (K % 5)), fun K y => 5 * y + me T (DD T (gd T y) (gd T (K / 5))))
section SQ
variable {T : TS} {E x : Nat → Nat}
theorem bpT_W (hW : TW T) : bW (bpT T E) := by
  have hN : NC T ≤ 1024 := cds_1024 hW
  refine ⟨fun y hy _ => ?_, fun K y _ hy _ => ?_, fun y y' _ _ _ _ h => ?_⟩
  · have := me_lt T (DD T (gd T y) E)
    have hy : y < NC T := hy
    show 5 * y + _ < 5120
    omega
  · have := me_lt T (DD T (gd T y) (gd T (K / 5)))
    have hy : y < NC T := hy
    show 5 * y + _ < 5120
    omega
  · have h : 5 * y + me T (DD T (gd T y) E) = 5 * y' + me T (DD T (gd T y') E) := h
    have := me_lt T (DD T (gd T y) E)
    have := me_lt T (DD T (gd T y') E)
    omega
theorem bL_Lc (hW : TW T) : ∀ k K, bL (bpT T E) k K ↔ ∃ c s, Lc T E k c s ∧ K = 5 * c + me T s
  | 0, K => by
    constructor
    · rintro ⟨y, h1, h2, h3⟩
      have h2 : (decide (pl T y = y) && ps (tl T) (DD T (gd T y) E) 0) = true := h2
      rw [Bool.and_eq_true, decide_eq_true_eq] at h2
      exact ⟨y, _, ⟨⟨h1, h2.1⟩, rfl, h2.2⟩, h3.symm⟩
    · rintro ⟨c, s, ⟨h1, h2, h3⟩, h4⟩
      refine ⟨c, h1.1, ?_, ?_⟩
      · show (decide (pl T c = c) && ps (tl T) (DD T (gd T c) E) 0) = true
        rw [Bool.and_eq_true, decide_eq_true_eq, ← h2]
        exact ⟨h1.2, h3⟩
      · rw [h4, h2]; rfl
  | k + 1, K => by
    constructor
    · rintro ⟨K', y, h1, h2, h3, h4⟩
      obtain ⟨c', s', g1, g2⟩ := (bL_Lc hW k K').mp h1
      have g := Lc_p g1
      have hm := me_lt T s'
      have e1 : K' / 5 = c' := by omega
      have e2 : K' % 5 = me T s' := by omega
      have h3 : (decide (pl T y = y) && ps (tl T) (DD T (gd T y) (gd T (K' / 5))) (ah T (K' % 5))) = true := h3
      rw [Bool.and_eq_true, decide_eq_true_eq, e1, e2, ah_me hW.1 g.2.1 g.2.2] at h3
      have h4 : 5 * y + me T (DD T (gd T y) (gd T (K' / 5))) = K := h4
      rw [e1] at h4
      exact ⟨y, _, ⟨⟨h2, h3.1⟩, c', s', g1, rfl, h3.2⟩, h4.symm⟩
    · rintro ⟨c, s, ⟨h1, c', s', h2, h3, h4⟩, h5⟩
      have g := Lc_p h2
      have hm := me_lt T s'
      have e1 : (5 * c' + me T s') / 5 = c' := by omega
      have e2 : (5 * c' + me T s') % 5 = me T s' := by omega
      refine ⟨5 * c' + me T s', c, (bL_Lc hW k _).mpr ⟨c', s', h2, rfl⟩, h1.1, ?_, ?_⟩
      · show (decide (pl T c = c) && ps (tl T) (DD T (gd T c) (gd T ((5 * c' + me T s') / 5))) (ah T ((5 * c' + me T s') % 5))) = true
        rw [Bool.and_eq_true, decide_eq_true_eq, e1, e2, ah_me hW.1 g.2.1 g.2.2, ← h3]
        exact ⟨h1.2, h4⟩
      · show 5 * c + me T (DD T (gd T c) (gd T ((5 * c' + me T s') / 5))) = K
        rw [e1, ← h3, h5]
/-- a first stranger c, v strangers in all -/
def Cd (T : TS) (x E : Nat → Nat) (v c : Nat) : Prop := ps (tl T) (DD T x (gd T c)) 0 = true ∧ rc T v (bb T (DD T x (gd T c))) (DD T (gd T c) E) = true
theorem H_iff (hW : TW T) (hx : Vd T x) (hE : Vd T E) (v : Nat) : rc T (v + 1) 0 (DD T x E) = true ↔ ∃ c, c < NC T ∧ pl T c = c ∧ Cd T x E v c := by
  rw [rc_z hx hE]
  constructor
  · rintro ⟨z, z1, z2, z3⟩
    refine ⟨pc T z, pc_lt hW z1, pl_pc hW z1, ?_⟩
    unfold Cd
    rw [DD_pc' hW z1, DD_pc hW z1]
    exact ⟨z2, z3⟩
  · rintro ⟨c, _, _, h1, h2⟩
    exact ⟨gd T c, gd_V hW c, h1, h2⟩
theorem Cd_pl (hW : TW T) {v c : Nat} (h : Cd T x E v c) : Cd T x E v (pl T c) := by
  unfold Cd at h ⊢
  rw [DD_pc' hW (gd_V hW c), DD_pc hW (gd_V hW c)]
  exact h
theorem C_iff (hW : TW T) (hE : Vd T E) {v c : Nat} (hc : c < NC T) (hp : pl T c = c) : Cd T x E (v + 1) c ↔ ∃ e, e < 5 ∧ bL (bpT T E) v (5 * c + e) ∧ ps (tl T) (DD T x (gd T c)) (ah T e) = true := by
  unfold Cd
  constructor
  · rintro ⟨h1, h2⟩
    rw [rcL hW hE v c _ hc hp] at h2
    obtain ⟨s, g1, g2⟩ := h2
    have g := Lc_p g1
    rw [bar_ps hW.1 (DD_2n _ _ _) (Or.inr ⟨_, h1⟩)] at g2
    refine ⟨me T s, me_lt T s, (bL_Lc hW v _).mpr ⟨c, s, g1, rfl⟩, ?_⟩
    rw [ah_me hW.1 g.2.1 g.2.2]
    exact (ps_sym h1 g.2.1).mp g2
  · rintro ⟨e, he, h1, h2⟩
    obtain ⟨c', s, g1, g2⟩ := (bL_Lc hW v _).mp h1
    have hm := me_lt T s
    have e1 : c' = c := by omega
    have e2 : e = me T s := by omega
    subst e1
    have g := Lc_p g1
    rw [e2, ah_me hW.1 g.2.1 g.2.2] at h2
    refine ⟨ps_0 h2, ?_⟩
    rw [rcL hW hE v c' _ hc hp]
    refine ⟨s, g1, ?_⟩
    rw [bar_ps hW.1 (DD_2n _ _ _) (Or.inr ⟨_, h2⟩)]
    exact (ps_sym h2 g.2.1).mpr h2
theorem rc_1 (hx : Vd T x) (hE : Vd T E) (hno : ps (tl T) (DD T x E) 0 = false) : rc T 1 0 (DD T x E) = false := by
  rw [← Bool.not_eq_true]
  intro h
  obtain ⟨z, z1, z2, z3⟩ := (rc_z hx hE 0 0).mp h
  have z3 : (DD T z E == 0) = true := z3
  have z3 : DD T z E = 0 := by simpa using z3
  have e : DD T x z = DD T x E := DD_congr (fun _ _ _ => rfl) (DD_0 z3)
  rw [e] at z2
  have z2 : ps (tl T) (DD T x E) 0 = true := z2
  rw [hno] at z2
  exact absurd z2 (by decide)
/-- what the scan keeps: L the least way (0: none), F its first stranger -/
abbrev okS (T : TS) (x : Nat → Nat) (d : Nat → Nat) (K : Nat) : Prop := 1 ≤ d K ∧ ps (tl T) (DD T x (gd T (K / 5))) (ah T (K % 5)) = true
abbrev scI (T : TS) (x d : Nat → Nat) (n L F : Nat) : Prop := (L = 0 → ∀ K, K < n → ¬ okS T x d K) ∧ (L ≠ 0 → (∃ K, K < n ∧ okS T x d K ∧ d K = L ∧ K / 5 = F) ∧ ∀ K, K < n → okS T x d K → L ≤ d K ∧ (d K = L → F ≤ K / 5))
theorem scI_0 (T : TS) (x d : Nat → Nat) : scI T x d 0 0 0 := ⟨fun _ K hK => absurd hK (Nat.not_lt_zero _), fun h => absurd rfl h⟩
theorem scI_n {d : Nat → Nat} {n L F : Nat} (h : scI T x d n L F) (hno : ¬ (okS T x d n ∧ (L = 0 ∨ d n < L))) : scI T x d (n + 1) L F := by
  refine ⟨fun hL K hK => ?_, fun hL => ?_⟩
  · by_cases e : K = n
    · rw [e]; exact fun q => hno ⟨q, Or.inl hL⟩
    · exact h.1 hL K (by omega)
  · obtain ⟨⟨K, k1, k2⟩, h2⟩ := h.2 hL
    refine ⟨⟨K, by omega, k2⟩, fun J hJ ho => ?_⟩
    by_cases e : J = n
    · subst e
      refine ⟨?_, fun _ => by omega⟩
      rcases Nat.lt_or_ge (d J) L with q | q
      · exact absurd ⟨ho, Or.inr q⟩ hno
      · exact q
    · exact h2 J (by omega) ho
theorem scI_y {d : Nat → Nat} {n L F : Nat} (h : scI T x d n L F) (ho : okS T x d n) (hL : L = 0 ∨ d n < L) : scI T x d (n + 1) (d n) (n / 5) := by
  refine ⟨fun z => absurd ho.1 (by omega), fun _ => ⟨⟨n, by omega, ho, rfl, rfl⟩, fun K hK hk => ?_⟩⟩
  by_cases e : K = n
  · rw [e]; exact ⟨Nat.le_refl _, fun _ => Nat.le_refl _⟩
  · by_cases z : L = 0
    · exact absurd hk (h.1 z K (by omega))
    · have := (h.2 z).2 K (by omega) hk
      omega
theorem fwS_y {u L : Nat} (h1 : rc T (L + 1) 0 u = true) : ∀ d n, n ≤ L → L < n + d → (∀ m, n ≤ m → m < L → rc T (m + 1) 0 u = false) → fwS T u d n = nI L
  | 0, n, a, b, _ => by omega
  | d + 1, n, a, b, h => by
    unfold fwS
    by_cases e : n = L
    · rw [if_pos (by rw [e]; exact h1), e]
    · rw [if_neg (by rw [h n (Nat.le_refl _) (by omega)]; decide)]
      exact fwS_y h1 d (n + 1) (by omega) (by omega) (fun m a b => h m (by omega) b)
theorem fwS_x {u : Nat} : ∀ d n, (∀ m, n ≤ m → rc T (m + 1) 0 u = false) → fwS T u d n = -4
  | 0, n, _ => rfl
  | d + 1, n, h => by
    unfold fwS
    rw [if_neg (by rw [h n (Nat.le_refl _)]; decide)]
    exact fwS_x d (n + 1) (fun m a => h m (by omega))
theorem lfS_y {L F : Nat} (h1 : Cd T x E L F) : ∀ d c, c ≤ F → F < c + d → (∀ m, c ≤ m → m < F → ¬ Cd T x E L m) → lfS T x E L d c = nI F
  | 0, c, a, b, _ => by omega
  | d + 1, c, a, b, h => by
    rw [lfS_s]
    by_cases e : c = F
    · rw [if_pos (by rw [e]; exact h1), e]
    · rw [if_neg (show ¬ (_ ∧ _) from h c (Nat.le_refl _) (by omega))]
      exact lfS_y h1 d (c + 1) (by omega) (by omega) (fun m a b => h m (by omega) b)
def noI (n L : Nat) : Int32 := if L = 0 then -4 else nI n
theorem st_eq (hW : TW T) (hx : Vd T x) (hE : Vd T E) (hno : ps (tl T) (DD T x E) 0 = false) {d : Nat → Nat} (hA : ∀ K, 1 ≤ d K → bL (bpT T E) (d K - 1) K) (hB : ∀ k K, bL (bpT T E) k K → 1 ≤ d K ∧ d K ≤ k + 1) {L F : Nat} (hS : scI T x d (5 * NC T) L F) (hbd : ∀ k, rc T (k + 1) 0 (DD T x E) = true → ∃ k', k' ≤ 12 ∧ rc T (k' + 1) 0 (DD T x E) = true) : fwS T (DD T x E) 13 0 = noI L L ∧ (L ≠ 0 → L ≤ 12 ∧ lfS T x E L (NC T) 0 = nI F) := by
  have h1 := rc_1 hx hE hno
  -- any way is no shorter
  have lo : ∀ v c, c < NC T → pl T c = c → Cd T x E (v + 1) c → L ≠ 0 ∧ L ≤ v + 1 ∧ (L = v + 1 → F ≤ c) := by
    intro v c hc hp h
    obtain ⟨e, e1, e2, e3⟩ := (C_iff hW hE hc hp).mp h
    have hd := hB v _ e2
    have ho : okS T x d (5 * c + e) := ⟨hd.1, by rw [show (5 * c + e) / 5 = c by omega, show (5 * c + e) % 5 = e by omega]; exact e3⟩
    have hL : L ≠ 0 := fun z => hS.1 z (5 * c + e) (by omega) ho
    have := (hS.2 hL).2 (5 * c + e) (by omega) ho
    rw [show (5 * c + e) / 5 = c by omega] at this
    refine ⟨hL, by omega, fun z => this.2 (by omega)⟩
  have lo2 : ∀ v, rc T (v + 1) 0 (DD T x E) = true → L ≠ 0 ∧ L ≤ v := by
    intro v hv
    rcases v with _ | v
    · rw [h1] at hv; exact absurd hv (by decide)
    · obtain ⟨c, c1, c2, c3⟩ := (H_iff hW hx hE (v + 1)).mp hv
      have := lo v c c1 c2 c3
      exact ⟨this.1, this.2.1⟩
  by_cases hL : L = 0
  · refine ⟨?_, fun q => absurd hL q⟩
    rw [noI, if_pos hL]
    refine fwS_x 13 0 (fun m _ => ?_)
    rw [← Bool.not_eq_true]
    exact fun q => (lo2 m q).1 hL
  · obtain ⟨⟨K, k1, k2, k3, k4⟩, _⟩ := hS.2 hL
    have hF : F < NC T := by omega
    obtain ⟨c', s, g1, g2⟩ := (bL_Lc hW _ _).mp (hA K k2.1)
    have hm := me_lt T s
    have ec : c' = F := by omega
    subst ec
    have g := Lc_p g1
    have hC : Cd T x E L c' := by
      have : L = (L - 1) + 1 := by omega
      rw [this]
      refine (C_iff hW hE g.1.1 g.1.2).mpr ⟨K % 5, by omega, ?_, ?_⟩
      · rw [show 5 * c' + K % 5 = K by omega, ← k3]
        exact hA K k2.1
      · have := k2.2
        rw [k4] at this
        exact this
    have hH : rc T (L + 1) 0 (DD T x E) = true := (H_iff hW hx hE L).mpr ⟨c', g.1.1, g.1.2, hC⟩
    obtain ⟨k', q1, q2⟩ := hbd L hH
    have q3 := (lo2 k' q2).2
    refine ⟨?_, fun _ => ⟨by omega, ?_⟩⟩
    · rw [noI, if_neg hL]
      refine fwS_y hH 13 0 (by omega) (by omega) (fun m _ hm => ?_)
      rw [← Bool.not_eq_true]
      intro q
      have := (lo2 m q).2
      omega
    · refine lfS_y hC (NC T) 0 (by omega) (by omega) (fun m _ hm q => ?_)
      have hmN : m < NC T := by omega
      have hle := pl_le hmN
      have hC' := Cd_pl hW q
      have : L = (L - 1) + 1 := by omega
      rw [this] at hC'
      have := lo (L - 1) (pl T m) (pc_lt hW (gd_V hW m)) (pl_pc hW (gd_V hW m)) hC'
      have := this.2.2 (by omega)
      omega
end SQ

