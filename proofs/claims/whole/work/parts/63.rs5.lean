/-! no way between looks needs more than five passes, if there is one -/
def Hm (t : Nat) : Nat := if t = 0 then 2863311530 else if t = 1 then 3435973836 else if t = 2 then 4042322160 else if t = 3 then 4278255360 else 4294901760
def Cm (t : Nat) : Nat := if t = 0 then 1431655765 else if t = 1 then 858993459 else if t = 2 then 252645135 else if t = 3 then 16711935 else 65535
def tuM (B t M : Nat) : Nat := ((M &&& Hm t) >>> (1 <<< t)) ||| (((M &&& Cm t) <<< (1 <<< t)) ||| (if B.testBit t then M &&& Hm t else 0))
theorem hm1 : ∀ t, t < 5 → ∀ u, u < 32 → (Hm t).testBit (1 <<< t + u) = !u.testBit t := by decide +kernel
theorem hm2 : ∀ t, t < 5 → ∀ u, u < 32 → (decide (u ≥ 1 <<< t) && (Cm t).testBit (u - 1 <<< t)) = u.testBit t := by decide +kernel
theorem hm3 : ∀ t, t < 5 → ∀ u, u < 32 → (Hm t).testBit u = u.testBit t := by decide +kernel
theorem tuM_tb {B t M u : Nat} (ht : t < 5) (hu : u < 32) : (tuM B t M).testBit u = (M.testBit (u ^^^ (1 <<< t)) || (B.testBit t && (u.testBit t && M.testBit u))) := by
  unfold tuM
  have a1 := hm1 t ht u hu
  have a2 := hm2 t ht u hu
  have a3 := hm3 t ht u hu
  rw [Nat.testBit_or, Nat.testBit_or, Nat.testBit_shiftRight, Nat.testBit_shiftLeft, Nat.testBit_and, Nat.testBit_and, a1, u_flip t ht u hu]
  have e2 : (decide (u ≥ 1 <<< t) && (M.testBit (u - 1 <<< t) && (Cm t).testBit (u - 1 <<< t))) = (M.testBit (u - 1 <<< t) && u.testBit t) := by
    rw [← a2]
    cases decide (u ≥ 1 <<< t) <;> simp
  rw [e2]
  have e3 : (if B.testBit t then M &&& Hm t else 0).testBit u = (B.testBit t && (u.testBit t && M.testBit u)) := by
    cases B.testBit t
    · simp
    · simp [a3, Bool.and_comm]
  rw [e3]
  cases hb : u.testBit t <;> simp [Nat.add_comm]
def twM (B w M : Nat) : Nat → Nat
  | 0 => M
  | t + 1 => if w.testBit t then tuM B t (twM B w M t) else twM B w M t
def AT (T : TS) : Nat := bits (fun t => decide (2 ≤ tv T t)) (tn T) &&& seen T
theorem xor_32 {u t : Nat} (ht : t < 5) (hu : u < 32) : u ^^^ (1 <<< t) < 32 := Nat.xor_lt_two_pow (n := 5) hu (u_5 t ht)
section BD
variable {T : TS}
theorem moreT_tb (T : TS) {t : Nat} (ht : t < tn T) : (moreT T).testBit t = decide (2 < tv T t) := by
  unfold moreT
  rw [tb_bits]
  simp [ht]
theorem tI_A {w : Nat} {S : Nat → Bool} : ∀ n u, tI T w S n u = true → ∀ t, t < n → w.testBit t = true → 2 ≤ tv T t
  | 0, u, _, t, ht, _ => absurd ht (Nat.not_lt_zero _)
  | n + 1, u, h, t, ht, hw => by
    have h : (if w.testBit n = true then t1 (tv T n) n (tI T w S n) else tI T w S n) u = true := h
    by_cases hb : w.testBit n = true
    · rw [if_pos hb] at h
      unfold t1 at h
      simp only [Bool.and_eq_true, Bool.or_eq_true, decide_eq_true_eq] at h
      by_cases e : t = n
      · rw [e]; exact h.1
      · rcases h.2 with q | q
        · exact tI_A n _ q t (by omega) hw
        · exact tI_A n _ q.2.2 t (by omega) hw
    · rw [if_neg hb] at h
      by_cases e : t = n
      · rw [e] at hw; exact absurd hw hb
      · exact tI_A n _ h t (by omega) hw
theorem tw_f (hn : tn T ≤ 5) {w M B : Nat} (hB : ∀ t, t < tn T → w.testBit t = true → B.testBit t = decide (2 < tv T t)) {S : Nat → Bool} (hS : ∀ u, u < 32 → S u = true → M.testBit u = true) : ∀ n, n ≤ tn T → ∀ u, u < 32 → tI T w S n u = true → (twM B w M n).testBit u = true
  | 0, _, u, hu, h => hS u hu h
  | n + 1, hnn, u, hu, h => by
    have h : (if w.testBit n = true then t1 (tv T n) n (tI T w S n) else tI T w S n) u = true := h
    show (if w.testBit n = true then _ else _ : Nat).testBit u = true
    by_cases hb : w.testBit n = true
    · rw [if_pos hb] at h
      rw [if_pos hb, tuM_tb (by omega) hu, hB n (by omega) hb]
      unfold t1 at h
      simp only [Bool.and_eq_true, Bool.or_eq_true, decide_eq_true_eq] at h ⊢
      rcases h.2 with q | q
      · exact Or.inl (tw_f hn hB hS n (by omega) _ (xor_32 (by omega) hu) q)
      · exact Or.inr ⟨q.1, q.2.1, tw_f hn hB hS n (by omega) _ hu q.2.2⟩
    · rw [if_neg hb] at h
      rw [if_neg hb]
      exact tw_f hn hB hS n (by omega) u hu h
theorem tw_b (hn : tn T ≤ 5) {w M B : Nat} (hB : ∀ t, t < tn T → w.testBit t = true → B.testBit t = decide (2 < tv T t)) (hA : ∀ t, t < tn T → w.testBit t = true → 2 ≤ tv T t) : ∀ n, n ≤ tn T → ∀ u, u < 32 → (twM B w M n).testBit u = true → ∃ u', u' < 32 ∧ M.testBit u' = true ∧ ∀ S : Nat → Bool, S u' = true → tI T w S n u = true
  | 0, _, u, hu, h => ⟨u, hu, h, fun S hS => hS⟩
  | n + 1, hnn, u, hu, h => by
    have h : (if w.testBit n = true then tuM B n (twM B w M n) else twM B w M n).testBit u = true := h
    have go : ∀ S : Nat → Bool, tI T w S (n + 1) u = (if w.testBit n = true then t1 (tv T n) n (tI T w S n) else tI T w S n) u := fun S => rfl
    by_cases hb : w.testBit n = true
    · rw [if_pos hb, tuM_tb (by omega) hu, hB n (by omega) hb] at h
      have h2 := hA n (by omega) hb
      simp only [Bool.and_eq_true, Bool.or_eq_true, decide_eq_true_eq] at h
      rcases h with q | q
      · obtain ⟨u', a, b, c⟩ := tw_b hn hB hA n (by omega) _ (xor_32 (by omega) hu) q
        refine ⟨u', a, b, fun S hS => ?_⟩
        rw [go, if_pos hb]
        unfold t1
        rw [c S hS]
        simp [h2]
      · obtain ⟨u', a, b, c⟩ := tw_b hn hB hA n (by omega) _ hu q.2.2
        refine ⟨u', a, b, fun S hS => ?_⟩
        rw [go, if_pos hb]
        unfold t1
        rw [c S hS]
        simp [h2, q.1, q.2.1]
    · rw [if_neg hb] at h
      obtain ⟨u', a, b, c⟩ := tw_b hn hB hA n (by omega) u hu h
      refine ⟨u', a, b, fun S hS => ?_⟩
      rw [go, if_neg hb]
      exact c S hS
theorem tw_5 {B w M n : Nat} (hw : w < 2 ^ n) : ∀ k, twM B w M (n + k) = twM B w M n
  | 0 => rfl
  | k + 1 => by
    show (if w.testBit (n + k) = true then _ else _) = _
    rw [if_neg (by rw [Nat.testBit_lt_two_pow (Nat.lt_of_lt_of_le hw (Nat.pow_le_pow_right (by decide) (by omega)))]; decide)]
    exact tw_5 hw k
end BD
/-- six sets of sets in one number -/
def pkZ (f : Nat → Nat) : Nat → Nat
  | 0 => 0
  | n + 1 => pkZ f n ||| ((f n &&& 4294967295) <<< (32 * n))
def gz (Z b : Nat) : Nat := Z >>> (32 * b)
theorem F_tb : ∀ u, u < 32 → (4294967295).testBit u = true := by decide +kernel
theorem F_tb' {u : Nat} (h : 32 ≤ u) : (4294967295).testBit u = false := Nat.testBit_lt_two_pow (Nat.lt_of_lt_of_le (show 4294967295 < 2 ^ 32 by decide) (Nat.pow_le_pow_right (by decide) h))
theorem pk_hi {f : Nat → Nat} {b u : Nat} (hu : u < 32) : ∀ n, n ≤ b → (pkZ f n).testBit (32 * b + u) = false
  | 0, _ => Nat.zero_testBit _
  | n + 1, h => by
    unfold pkZ
    rw [Nat.testBit_or, pk_hi hu n (by omega), Nat.testBit_shiftLeft, Nat.testBit_and, F_tb' (by omega)]
    simp
theorem pk_tb {f : Nat → Nat} {b u : Nat} (hu : u < 32) : ∀ n, b < n → (gz (pkZ f n) b).testBit u = (f b).testBit u
  | 0, h => absurd h (Nat.not_lt_zero _)
  | n + 1, h => by
    unfold gz pkZ
    rw [Nat.testBit_shiftRight, Nat.testBit_or]
    by_cases e : b = n
    · subst e
      rw [pk_hi hu b (Nat.le_refl _), Nat.testBit_shiftLeft, Nat.testBit_and, show 32 * b + u - 32 * b = u by omega, F_tb u hu]
      simp
    · have := pk_tb (f := f) (b := b) hu n (by omega)
      unfold gz at this
      rw [Nat.testBit_shiftRight] at this
      rw [this, Nat.testBit_shiftLeft]
      simp [show ¬ 32 * n ≤ 32 * b + u by omega]
theorem gz_or (Y Z b u : Nat) : (gz (Y ||| Z) b).testBit u = ((gz Y b).testBit u || (gz Z b).testBit u) := by
  unfold gz
  rw [Nat.testBit_shiftRight, Nat.testBit_or, Nat.testBit_shiftRight, Nat.testBit_shiftRight]
def mvs (l : Nat) : List Nat := if l = 1 then [3, 5, 6, 9, 10, 12, 17, 18, 20, 24] else if l = 3 then [0, 1, 2, 4, 8, 16] else [1, 2, 4, 8, 16]
def okw (l A b w : Nat) : Bool := w &&& A == w && (l != 2 || w != brd b)
def bbA (l w : Nat) : Nat := if l = 2 then bbs w 5 0 else 0
def stF (l A B Z b : Nat) : List Nat → Nat
  | [] => 0
  | w :: ws => (if okw l A b w = true then twM B w (gz Z (bbA l w)) 5 else 0) ||| stF l A B Z b ws
def nbr (l : Nat) : Nat := if l = 2 then 6 else 1
def stZ (l A B Z : Nat) : Nat := pkZ (fun b => stF l A B Z b (mvs l)) (nbr l)
def z0 : Nat := pkZ (fun _ => 1) 6
def zs (l A B : Nat) : Nat → Nat
  | 0 => stZ l A B z0
  | k + 1 => stZ l A B z0 ||| stZ l A B (zs l A B k)
theorem zs_cl : ∀ l, l < 4 → ∀ A, A < 32 → ∀ B, B < 32 → B &&& A = B → stZ l A B (zs l A B 4) ||| zs l A B 4 = zs l A B 4 := by decide +kernel
theorem mvs_m : ∀ l, l < 4 → ∀ w, w < 32 → (ps l w 32 = true ↔ w ∈ mvs l) := by decide +kernel
theorem mv_32 : ∀ l, l < 4 → ∀ w, w ∈ mvs l → w < 32 := by decide +kernel
theorem ps_mv {l w b : Nat} (hl : l < 4) (hw : w < 32) : ps l w b = true ↔ w ∈ mvs l ∧ (l = 2 → w ≠ b) := by
  rw [← mvs_m l hl w hw]
  by_cases e : l = 2
  · subst e
    rw [ps_2, ps_2]
    exact ⟨fun q => ⟨⟨q.1, by omega⟩, fun _ => q.2⟩, fun q => ⟨q.1.1, q.2 rfl⟩⟩
  · rw [ps_n2 e w b 32]
    exact ⟨fun q => ⟨q, fun z => absurd z e⟩, fun q => q.1⟩
theorem stF_tb (l A B Z b u : Nat) : ∀ ws, (stF l A B Z b ws).testBit u = true ↔ ∃ w, w ∈ ws ∧ okw l A b w = true ∧ (twM B w (gz Z (bbA l w)) 5).testBit u = true
  | [] => by
    constructor
    · intro h
      rw [show stF l A B Z b [] = 0 from rfl, Nat.zero_testBit] at h
      exact absurd h (by decide)
    · rintro ⟨w, h, _⟩
      exact absurd h List.not_mem_nil
  | w :: ws => by
    show ((if okw l A b w = true then twM B w (gz Z (bbA l w)) 5 else 0) ||| stF l A B Z b ws).testBit u = true ↔ _
    rw [Nat.testBit_or, Bool.or_eq_true, stF_tb l A B Z b u ws]
    constructor
    · rintro (h | ⟨v, h1, h2⟩)
      · by_cases q : okw l A b w = true
        · rw [if_pos q] at h
          exact ⟨w, List.mem_cons_self, q, h⟩
        · rw [if_neg q, Nat.zero_testBit] at h
          exact absurd h (by decide)
      · exact ⟨v, List.mem_cons_of_mem _ h1, h2⟩
    · rintro ⟨v, h1, h2, h3⟩
      rcases List.mem_cons.mp h1 with e | e
      · subst e
        left
        rw [if_pos h2]
        exact h3
      · exact Or.inr ⟨v, e, h2, h3⟩
section BD2
variable {T : TS}
def BT (T : TS) : Nat := moreT T &&& AT T
theorem AT_tb (T : TS) (t : Nat) : (AT T).testBit t = ((decide (t < tn T) && decide (2 ≤ tv T t)) && (seen T).testBit t) := by
  unfold AT
  rw [Nat.testBit_and, tb_bits]
theorem BT_tb {w t : Nat} (hw : w &&& AT T = w) (ht : t < tn T) (hb : w.testBit t = true) : (BT T).testBit t = decide (2 < tv T t) := by
  unfold BT
  rw [Nat.testBit_and, sub_tb hw hb, moreT_tb T ht, Bool.and_true]
theorem bb_A (hW : TW T) {w b : Nat} (h2 : w < 2 ^ tn T) (hp : ps (tl T) w b = true) : bb T w = bbA (tl T) w ∧ bb T w < nbr (tl T) := by
  have hn := hW.1
  unfold bb bbA nbr
  by_cases e : tl T = 2
  · rw [if_pos e, if_pos e, if_pos e]
    rw [e] at hp
    have h32 : w < 2 ^ 5 := Nat.lt_of_lt_of_le h2 (Nat.pow_le_pow_right (n := 2) (j := 5) (by decide) hn)
    have a := mk_d (tn T) (by omega) w h32 h2 (ps_2.mp hp).1
    have c := mk_d 5 (by omega) w h32 h32 (ps_2.mp hp).1
    omega
  · rw [if_neg e, if_neg e, if_neg e]
    exact ⟨rfl, by decide⟩
theorem w_2n {w : Nat} (h : w &&& seen T = w) : w < 2 ^ tn T := by
  rw [← h]
  exact Nat.lt_of_le_of_lt Nat.and_le_right (seen_2n T)
theorem st_f (hW : TW T) {Z : Nat} {R : Nat → Nat → Bool} (hR : ∀ b, b < nbr (tl T) → ∀ u, u < 32 → R b u = true → (gz Z b).testBit u = true) {b u w : Nat} (hb : b < nbr (tl T)) (hu : u < 32) (h1 : w &&& seen T = w) (h2 : ps (tl T) w (brd b) = true) (h3 : tI T w (R (bb T w)) (tn T) u = true) : (gz (stZ (tl T) (AT T) (BT T) Z) b).testBit u = true := by
  have hn := hW.1
  have hl := hW.2.2.2.2.2.2.1
  have hw2 := w_2n h1
  have h32 : w < 32 := Nat.lt_of_lt_of_le hw2 (Nat.pow_le_pow_right (n := 2) (j := 5) (by decide) hn)
  have hA := tI_A _ _ h3
  have hwA : w &&& AT T = w := by
    apply Nat.eq_of_testBit_eq
    intro t
    rw [Nat.testBit_and]
    cases q : w.testBit t
    · rfl
    · have q1 := sub_tb h1 q
      have q2 := seen_n q1
      rw [AT_tb, q1]
      simp [q2, hA t q2 q]
  obtain ⟨e1, e2⟩ := bb_A hW hw2 h2
  have hm := (ps_mv (by omega) h32).mp h2
  unfold stZ
  rw [pk_tb hu _ hb, stF_tb]
  refine ⟨w, hm.1, ?_, ?_⟩
  · unfold okw
    rw [hwA]
    by_cases e : tl T = 2
    · simp [e, hm.2 e]
    · simp [e]
  · have := tw_f hn (fun t ht hb => BT_tb hwA ht hb) (fun u hu h => hR (bb T w) e2 u hu h) (tn T) (Nat.le_refl _) u hu h3
    rw [e1] at this
    rw [show (5 : Nat) = tn T + (5 - tn T) by omega, tw_5 hw2]
    exact this
theorem st_b (hW : TW T) {Z b u : Nat} (hb : b < nbr (tl T)) (hu : u < 32) (h : (gz (stZ (tl T) (AT T) (BT T) Z) b).testBit u = true) : ∃ w u', w &&& seen T = w ∧ ps (tl T) w (brd b) = true ∧ u' < 32 ∧ bb T w < nbr (tl T) ∧ (gz Z (bb T w)).testBit u' = true ∧ ∀ S : Nat → Bool, S u' = true → tI T w S (tn T) u = true := by
  have hn := hW.1
  have hl := hW.2.2.2.2.2.2.1
  unfold stZ at h
  rw [pk_tb hu _ hb, stF_tb] at h
  obtain ⟨w, h1, h2, h3⟩ := h
  have h32 := mv_32 (tl T) (by omega) w h1
  unfold okw at h2
  rw [Bool.and_eq_true, beq_iff_eq] at h2
  obtain ⟨hwA, hbr⟩ := h2
  have hws : w &&& seen T = w := by
    rw [← hwA]
    unfold AT
    rw [Nat.and_assoc, Nat.and_assoc, Nat.and_self]
  have hps : ps (tl T) w (brd b) = true := (ps_mv (by omega) h32).mpr ⟨h1, fun e => by simpa [e] using hbr⟩
  have hw2 := w_2n hws
  obtain ⟨e1, e2⟩ := bb_A hW hw2 hps
  rw [show (5 : Nat) = tn T + (5 - tn T) by omega, tw_5 hw2, ← e1] at h3
  obtain ⟨u', a, c, d⟩ := tw_b hn (fun t ht hb => BT_tb hwA ht hb) (fun t ht hb => by
    have := sub_tb hwA hb
    rw [AT_tb] at this
    simp at this
    exact this.1.2) (tn T) (Nat.le_refl _) u hu h3
  exact ⟨w, u', hws, hps, a, e2, c, d⟩
theorem z0_tb {b u : Nat} (hb : b < 6) (hu : u < 32) : (gz z0 b).testBit u = (u == 0) := by
  unfold z0
  rw [pk_tb hu _ hb]
  exact (show ∀ u, u < 32 → (1 : Nat).testBit u = (u == 0) by decide) u hu
theorem nbr_6 (l : Nat) : nbr l ≤ 6 := by
  unfold nbr
  split <;> decide
theorem BT_lt (hW : TW T) : AT T < 32 ∧ BT T < 32 ∧ BT T &&& AT T = BT T := by
  have a : AT T < 32 := Nat.lt_of_le_of_lt Nat.and_le_right (seen_lt hW)
  refine ⟨a, Nat.lt_of_le_of_lt Nat.and_le_right a, ?_⟩
  unfold BT
  rw [Nat.and_assoc, Nat.and_self]
theorem zs_f (hW : TW T) : ∀ k b u, b < nbr (tl T) → u < 32 → rc T (k + 1) b u = true → (gz (zs (tl T) (AT T) (BT T) 4) b).testBit u = true
  | 0, b, u, hb, hu, h => by
    obtain ⟨w, h1, h2, h3⟩ := (rc_succ T 0 b u).mp h
    have := st_f hW (Z := z0) (R := rc T 0) (fun b hb u hu q => by
      rw [z0_tb (Nat.lt_of_lt_of_le hb (nbr_6 _)) hu]
      exact q) hb hu h1 h2 h3
    show (gz (stZ _ _ _ z0 ||| _) b).testBit u = true
    rw [gz_or, this, Bool.true_or]
  | k + 1, b, u, hb, hu, h => by
    obtain ⟨w, h1, h2, h3⟩ := (rc_succ T (k + 1) b u).mp h
    have := st_f hW (Z := zs (tl T) (AT T) (BT T) 4) (R := rc T (k + 1)) (fun b hb u hu q => zs_f hW k b u hb hu q) hb hu h1 h2 h3
    have hl := hW.2.2.2.2.2.2.1
    obtain ⟨a1, a2, a3⟩ := BT_lt hW
    rw [← zs_cl (tl T) (by omega) _ a1 _ a2 a3, gz_or, this, Bool.true_or]
theorem zs_b (hW : TW T) : ∀ k b u, b < nbr (tl T) → u < 32 → (gz (zs (tl T) (AT T) (BT T) k) b).testBit u = true → ∃ k', k' ≤ k ∧ rc T (k' + 1) b u = true := by
  have base : ∀ b u, b < nbr (tl T) → u < 32 → (gz (stZ (tl T) (AT T) (BT T) z0) b).testBit u = true → rc T (0 + 1) b u = true := by
    intro b u hb hu h
    obtain ⟨w, u', h1, h2, h3, h4, h5, h6⟩ := st_b hW hb hu h
    refine (rc_succ T 0 b u).mpr ⟨w, h1, h2, h6 _ ?_⟩
    rw [z0_tb (Nat.lt_of_lt_of_le h4 (nbr_6 _)) h3] at h5
    exact h5
  intro k
  induction k with
  | zero => exact fun b u hb hu h => ⟨0, Nat.le_refl _, base b u hb hu h⟩
  | succ k ih =>
    intro b u hb hu h
    have h : (gz (stZ _ _ _ z0 ||| stZ _ _ _ _) b).testBit u = true := h
    rw [gz_or, Bool.or_eq_true] at h
    rcases h with h | h
    · exact ⟨0, Nat.zero_le _, base b u hb hu h⟩
    · obtain ⟨w, u', h1, h2, h3, h4, h5, h6⟩ := st_b hW hb hu h
      obtain ⟨k', k1, k2⟩ := ih _ u' h4 h3 h5
      exact ⟨k' + 1, by omega, (rc_succ T (k' + 1) b u).mpr ⟨w, h1, h2, h6 _ k2⟩⟩
theorem st_bd (hW : TW T) {u : Nat} (hu : u < 32) {k : Nat} (h : rc T (k + 1) 0 u = true) : ∃ k', k' ≤ 12 ∧ rc T (k' + 1) 0 u = true := by
  have h0 : 0 < nbr (tl T) := by unfold nbr; split <;> decide
  obtain ⟨k', a, b⟩ := zs_b hW 4 0 u h0 hu (zs_f hW k 0 u h0 hu h)
  exact ⟨k', by omega, b⟩
end BD2

