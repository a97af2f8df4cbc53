/-! codes and their values; plain codes; rows of strangers as the reference seeks them -/
theorem rsk_cdn {v x : Nat → Nat} {n : Nat} (hx : ∀ t, t < n → x t < v t) : ∀ k, k ≤ n → rsk v n (cdn v x n) k = cdn v x (n - k)
  | 0, _ => rfl
  | k + 1, h => by
    show rsk v n (cdn v x n) k / v (n - 1 - k) = _
    rw [rsk_cdn hx k (by omega), show n - k = (n - 1 - k) + 1 by omega, show n - (k + 1) = n - 1 - k by omega]
    show (cdn v x (n - 1 - k) * v (n - 1 - k) + x (n - 1 - k)) / v (n - 1 - k) = _
    have h1 := hx (n - 1 - k) (by omega)
    rw [Nat.mul_comm, Nat.mul_add_div (by omega), Nat.div_eq_of_lt h1, Nat.add_zero]
theorem dgv_cdn {v x : Nat → Nat} {n : Nat} (hx : ∀ t, t < n → x t < v t) {t : Nat} (ht : t < n) : dgv v n (cdn v x n) t = x t := by
  unfold dgv
  rw [rsk_cdn hx _ (by omega), show n - (n - 1 - t) = t + 1 by omega]
  show (cdn v x t * v t + x t) % v t = _
  rw [Nat.mul_comm, Nat.mul_add_mod, Nat.mod_eq_of_lt (hx t ht)]
theorem rsk_lt {v : Nat → Nat} {n c : Nat} (hc : c < cds v n) : ∀ k, k ≤ n → rsk v n c k < cds v (n - k)
  | 0, _ => hc
  | k + 1, h => by
    have := rsk_lt hc k (by omega)
    rw [show n - k = (n - 1 - k) + 1 by omega] at this
    show rsk v n c k / v (n - 1 - k) < _
    rw [show n - (k + 1) = n - 1 - k by omega]
    have this : rsk v n c k < cds v (n - 1 - k) * v (n - 1 - k) := this
    exact Nat.div_lt_of_lt_mul (by rw [Nat.mul_comm]; exact this)
theorem cdn_dgv_m {v : Nat → Nat} {n c : Nat} (hc : c < cds v n) : ∀ m, m ≤ n → cdn v (dgv v n c) m = rsk v n c (n - m)
  | 0, _ => by
    have := rsk_lt hc n (Nat.le_refl _)
    rw [Nat.sub_self] at this
    have this : rsk v n c n < 1 := this
    rw [Nat.sub_zero]
    show 0 = _
    omega
  | m + 1, h => by
    show cdn v (dgv v n c) m * v m + dgv v n c m = _
    rw [cdn_dgv_m hc m (by omega)]
    unfold dgv
    have e : rsk v n c (n - m) = rsk v n c (n - 1 - m) / v m := by
      rw [show n - m = (n - 1 - m) + 1 by omega]
      show rsk v n c (n - 1 - m) / v (n - 1 - (n - 1 - m)) = _
      rw [show n - 1 - (n - 1 - m) = m by omega]
    rw [e, show n - (m + 1) = n - 1 - m by omega, Nat.mul_comm]
    exact Nat.div_add_mod _ _
theorem cdn_dgv {v : Nat → Nat} {n c : Nat} (hc : c < cds v n) : cdn v (dgv v n c) n = c := by
  rw [cdn_dgv_m hc n (Nat.le_refl _), Nat.sub_self]
  rfl
theorem cdn_lt {v x : Nat → Nat} : ∀ n, (∀ t, t < n → x t < v t) → cdn v x n < cds v n
  | 0, _ => Nat.zero_lt_one
  | n + 1, h => by
    have h1 := cdn_lt n (fun t ht => h t (by omega))
    have h2 := h n (by omega)
    show cdn v x n * v n + x n < cds v n * v n
    have : (cdn v x n + 1) * v n ≤ cds v n * v n := Nat.mul_le_mul_right _ h1
    rw [Nat.add_mul, Nat.one_mul] at this
    omega
theorem cdn_le {v x x' : Nat → Nat} : ∀ n, (∀ t, t < n → x t ≤ x' t) → cdn v x n ≤ cdn v x' n
  | 0, _ => Nat.le_refl _
  | n + 1, h => Nat.add_le_add (Nat.mul_le_mul_right _ (cdn_le n (fun t ht => h t (by omega)))) (h n (by omega))
theorem cdn_cg {v x x' : Nat → Nat} : ∀ n, (∀ t, t < n → x t = x' t) → cdn v x n = cdn v x' n
  | 0, _ => rfl
  | n + 1, h => by
    show _ * _ + _ = _ * _ + _
    rw [cdn_cg n (fun t ht => h t (by omega)), h n (by omega)]
abbrev NC (T : TS) : Nat := cds (tv T) (tn T)
abbrev gd (T : TS) (c : Nat) : Nat → Nat := dgv (tv T) (tn T) c
def pv (T : TS) (x : Nat → Nat) (t : Nat) : Nat := if (seen T).testBit t = true then x t else 0
def pc (T : TS) (x : Nat → Nat) : Nat := cdn (tv T) (pv T x) (tn T)
abbrev pl (T : TS) (c : Nat) : Nat := pc T (gd T c)
section LC
variable {T : TS}
theorem gd_V (hW : TW T) (c : Nat) : Vd T (gd T c) := dgv_lt hW c
theorem pv_V (hW : TW T) {x : Nat → Nat} (hx : Vd T x) : Vd T (pv T x) := by
  intro t ht
  unfold pv
  split
  · exact hx t ht
  · exact (hW.2.1 t ht).1
theorem pc_lt (hW : TW T) {x : Nat → Nat} (hx : Vd T x) : pc T x < NC T := cdn_lt _ (pv_V hW hx)
theorem gd_pc (hW : TW T) {x : Nat → Nat} (hx : Vd T x) {t : Nat} (ht : t < tn T) : gd T (pc T x) t = pv T x t := dgv_cdn (pv_V hW hx) ht
theorem DD_pc (hW : TW T) {x : Nat → Nat} (hx : Vd T x) (y : Nat → Nat) : DD T (gd T (pc T x)) y = DD T x y := DD_congr (fun t h1 h2 => by rw [gd_pc hW hx h1]; unfold pv; rw [if_pos h2]) (fun _ _ _ => rfl)
theorem DD_pc' (hW : TW T) {x : Nat → Nat} (hx : Vd T x) (y : Nat → Nat) : DD T y (gd T (pc T x)) = DD T y x := by rw [DD_comm, DD_pc hW hx, DD_comm]
theorem pl_pc (hW : TW T) {x : Nat → Nat} (hx : Vd T x) : pl T (pc T x) = pc T x := cdn_cg _ (fun t ht => by
  unfold pv
  split
  · rename_i q
    rw [gd_pc hW hx ht]
    unfold pv
    rw [if_pos q]
  · rfl)
theorem pl_le {c : Nat} (hc : c < NC T) : pl T c ≤ c := by
  have h := cdn_le (v := tv T) (x := pv T (gd T c)) (x' := gd T c) (tn T) (fun t _ => by unfold pv; split; exact Nat.le_refl _; exact Nat.zero_le _)
  have e : cdn (tv T) (gd T c) (tn T) = c := cdn_dgv hc
  rw [e] at h
  exact h
theorem many_0 : many 0 = 0 := by decide
theorem ps_0 {l s a : Nat} (h : ps l s a = true) : ps l s 0 = true := by
  unfold ps at h ⊢
  split
  · rename_i q; rw [if_pos q] at h; exact h
  · rename_i q
    rw [if_neg q] at h
    split
    · rename_i q2; rw [if_pos q2] at h; exact h
    · rename_i q2
      rw [if_neg q2] at h
      split
      · rename_i q3
        rw [if_pos q3] at h
        simp at h ⊢
        refine ⟨h.1, fun z => ?_⟩
        rw [z, many_0] at h
        exact absurd h.1 (by decide)
      · rename_i q3; rw [if_neg q3] at h; exact h
theorem ps_n2 {l : Nat} (h : l ≠ 2) (s a b : Nat) : ps l s a = ps l s b := by
  unfold ps
  simp [h]
theorem ps_2 {s a : Nat} : ps 2 s a = true ↔ many s = 1 ∧ s ≠ a := by
  unfold ps
  simp
theorem ps_sym {l a b x y : Nat} (ha : ps l a x = true) (hb : ps l b y = true) : ps l b a = true ↔ ps l a b = true := by
  by_cases h : l = 2
  · subst h
    rw [ps_2] at ha hb
    rw [ps_2, ps_2]
    exact ⟨fun q => ⟨ha.1, fun z => q.2 z.symm⟩, fun q => ⟨hb.1, fun z => q.2 z.symm⟩⟩
  · rw [ps_n2 h b a y, ps_n2 h a b x]
    exact ⟨fun _ => ha, fun _ => hb⟩
def Lc (T : TS) (E : Nat → Nat) : Nat → Nat → Nat → Prop
  | 0, c, s => (c < NC T ∧ pl T c = c) ∧ s = DD T (gd T c) E ∧ ps (tl T) s 0 = true
  | k + 1, c, s => (c < NC T ∧ pl T c = c) ∧ ∃ c' s', Lc T E k c' s' ∧ s = DD T (gd T c) (gd T c') ∧ ps (tl T) s s' = true
theorem Lc_p {E : Nat → Nat} : ∀ {k c s}, Lc T E k c s → (c < NC T ∧ pl T c = c) ∧ ps (tl T) s 0 = true ∧ s < 2 ^ tn T
  | 0, c, s, h => ⟨h.1, h.2.2, by rw [h.2.1]; exact DD_2n _ _ _⟩
  | k + 1, c, s, ⟨h, c', s', h1, h2, h3⟩ => ⟨h, ps_0 h3, by rw [h2]; exact DD_2n _ _ _⟩
theorem rcL (hW : TW T) {E : Nat → Nat} (hE : Vd T E) : ∀ k c bar, c < NC T → pl T c = c → (rc T (k + 1) bar (DD T (gd T c) E) = true ↔ ∃ s, Lc T E k c s ∧ ps (tl T) s (brd bar) = true)
  | 0, c, bar, hc, hp => by
    rw [rc_z (gd_V hW c) hE]
    constructor
    · rintro ⟨z, z1, z2, z3⟩
      have z3 : (DD T z E == 0) = true := z3
      have z3 : DD T z E = 0 := by simpa using z3
      have e : DD T (gd T c) z = DD T (gd T c) E := DD_congr (fun _ _ _ => rfl) (DD_0 z3)
      rw [e] at z2
      exact ⟨_, ⟨⟨hc, hp⟩, rfl, ps_0 z2⟩, z2⟩
    · rintro ⟨s, ⟨_, h1, h2⟩, h3⟩
      rw [h1] at h3
      refine ⟨E, hE, h3, ?_⟩
      show (DD T E E == 0) = true
      rw [DD_self]
      rfl
  | k + 1, c, bar, hc, hp => by
    rw [rc_z (gd_V hW c) hE]
    constructor
    · rintro ⟨z, z1, z2, z3⟩
      rw [← DD_pc hW z1 E, rcL hW hE k (pc T z) _ (pc_lt hW z1) (pl_pc hW z1)] at z3
      obtain ⟨s', h1, h2⟩ := z3
      rw [bar_ps hW.1 (DD_2n _ _ _) (Or.inr ⟨_, z2⟩)] at h2
      have e := DD_pc' hW z1 (gd T c)
      refine ⟨DD T (gd T c) z, ⟨⟨hc, hp⟩, pc T z, s', h1, e.symm, (ps_sym z2 (Lc_p h1).2.1).mp h2⟩, z2⟩
    · rintro ⟨s, ⟨_, c', s', h1, h2, h3⟩, h4⟩
      have hp' := Lc_p h1
      refine ⟨gd T c', gd_V hW c', by rw [← h2]; exact h4, ?_⟩
      rw [rcL hW hE k c' _ hp'.1.1 hp'.1.2]
      refine ⟨s', h1, ?_⟩
      rw [bar_ps hW.1 (DD_2n _ _ _) (Or.inr ⟨brd bar, by rw [← h2]; exact h4⟩), ← h2]
      exact (ps_sym h3 hp'.2.1).mpr h3
end LC

