/-! strangers: what a row of passes is, pure -/
abbrev DD (T : TS) (x y : Nat → Nat) : Nat := bits (fun t => x t != y t) (tn T) &&& seen T
theorem DD_tb (T : TS) (x y : Nat → Nat) (t : Nat) : (DD T x y).testBit t = ((decide (t < tn T) && (x t != y t)) && (seen T).testBit t) := by
  rw [Nat.testBit_and, tb_bits]
theorem DD_congr {T : TS} {x x' y y' : Nat → Nat} (hx : ∀ t, t < tn T → (seen T).testBit t = true → x t = x' t) (hy : ∀ t, t < tn T → (seen T).testBit t = true → y t = y' t) : DD T x y = DD T x' y' := by
  apply Nat.eq_of_testBit_eq
  intro t
  rw [DD_tb, DD_tb]
  by_cases h1 : t < tn T
  · cases h2 : (seen T).testBit t
    · simp
    · rw [hx t h1 h2, hy t h1 h2]
  · simp [h1]
theorem DD_comm (T : TS) (x y : Nat → Nat) : DD T x y = DD T y x := by
  show bits _ _ &&& _ = bits _ _ &&& _
  rw [bits_congr (fun t _ => bne_comm)]
theorem DD_lt {T : TS} (hn : tn T ≤ 5) (x y : Nat → Nat) : DD T x y < 32 := and_lt32 (Nat.lt_of_lt_of_le (bits_lt _ _) (Nat.pow_le_pow_right (n := 2) (j := 5) (by decide) hn))
theorem DD_2n (T : TS) (x y : Nat → Nat) : DD T x y < 2 ^ tn T := Nat.lt_of_le_of_lt Nat.and_le_left (bits_lt _ _)
theorem seen_2n (T : TS) : seen T < 2 ^ tn T := by
  refine Nat.lt_of_le_of_lt Nat.and_le_right ?_
  rw [Nat.shiftLeft_eq, Nat.one_mul]
  have := Nat.two_pow_pos (tn T)
  omega
theorem seen_n {T : TS} {t : Nat} (h : (seen T).testBit t = true) : t < tn T := by
  rcases Nat.lt_or_ge t (tn T) with q | q
  · exact q
  · rw [Nat.testBit_lt_two_pow (Nat.lt_of_lt_of_le (seen_2n T) (Nat.pow_le_pow_right (by decide) q))] at h
    exact absurd h (by decide)
theorem sub_tb {w s t : Nat} (h : w &&& s = w) (h2 : w.testBit t = true) : s.testBit t = true := by
  rw [← h, Nat.testBit_and] at h2
  simp at h2
  exact h2.2
theorem DD_0 {T : TS} {x y : Nat → Nat} (h : DD T x y = 0) : ∀ t, t < tn T → (seen T).testBit t = true → x t = y t := by
  intro t h1 h2
  have := DD_tb T x y t
  rw [h, h2] at this
  simp [h1] at this
  exact this
theorem DD_self (T : TS) (x : Nat → Nat) : DD T x x = 0 := by
  apply Nat.eq_of_testBit_eq
  intro t
  rw [DD_tb]
  simp
def set1 (x : Nat → Nat) (n v : Nat) (t : Nat) : Nat := if t = n then v else x t
theorem DD_set {T : TS} {x y : Nat → Nat} {n v : Nat} (hn : n < tn T) (hs : (seen T).testBit n = true) : DD T (set1 x n v) y = if ((v != y n) == (x n != y n)) = true then DD T x y else DD T x y ^^^ 1 <<< n := by
  apply Nat.eq_of_testBit_eq
  intro t
  by_cases e : t = n
  · subst e
    rw [DD_tb, hs]
    simp only [set1, if_true]
    by_cases q : ((v != y t) == (x t != y t)) = true
    · rw [if_pos q, DD_tb, hs, eq_of_beq q]
    · rw [if_neg q, Nat.testBit_xor, DD_tb, hs, tb_one]
      cases h1 : v != y t <;> cases h2 : x t != y t <;> simp_all
  · have e' : ¬ n = t := fun q => e q.symm
    have e1 : (DD T (set1 x n v) y).testBit t = (DD T x y).testBit t := by
      rw [DD_tb, DD_tb]
      simp only [set1, if_neg e]
    rw [e1]
    split
    · rfl
    · rw [Nat.testBit_xor, tb_one]
      simp [e']
theorem rBy_iff (T : TS) (R : Nat → Nat → Bool) (bar u : Nat) : ∀ n, rBy T R bar n u = true ↔ ∃ w, w < n ∧ w &&& seen T = w ∧ ps (tl T) w (brd bar) = true ∧ tI T w (R (bb T w)) (tn T) u = true
  | 0 => ⟨fun q => absurd q (by simp [rBy]), fun ⟨w, q, _⟩ => absurd q (Nat.not_lt_zero _)⟩
  | n + 1 => by
    show (rBy T R bar n u || _) = true ↔ _
    rw [Bool.or_eq_true, rBy_iff T R bar u n]
    constructor
    · rintro (⟨w, h1, h2⟩ | h)
      · exact ⟨w, by omega, h2⟩
      · rw [Bool.and_eq_true, Bool.and_eq_true] at h
        exact ⟨n, by omega, by simpa using h.1, h.2.1, h.2.2⟩
    · rintro ⟨w, h1, h2, h3, h4⟩
      by_cases e : w = n
      · subst e
        right
        rw [h3, h4]
        simp [h2]
      · exact Or.inl ⟨w, by omega, h2, h3, h4⟩
theorem rc_succ (T : TS) (k bar u : Nat) : rc T (k + 1) bar u = true ↔ ∃ w, w &&& seen T = w ∧ ps (tl T) w (brd bar) = true ∧ tI T w (rc T k (bb T w)) (tn T) u = true := by
  show rBy T (rc T k) bar (seen T + 1) u = true ↔ _
  rw [rBy_iff]
  constructor
  · rintro ⟨w, _, h⟩
    exact ⟨w, h⟩
  · rintro ⟨w, h1, h⟩
    refine ⟨w, ?_, h1, h⟩
    have : w &&& seen T ≤ seen T := Nat.and_le_right
    omega
abbrev Vd (T : TS) (x : Nat → Nat) : Prop := ∀ t, t < tn T → x t < tv T t
theorem Vd_set {T : TS} {x : Nat → Nat} (h : Vd T x) {n v : Nat} (hv : v < tv T n) : Vd T (set1 x n v) := by
  intro t ht
  unfold set1
  by_cases e : t = n
  · rw [if_pos e, e]; exact hv
  · rw [if_neg e]; exact h t ht
theorem tI_iff {T : TS} {y : Nat → Nat} (hy : Vd T y) {w : Nat} (hw : w &&& seen T = w) (S : Nat → Bool) : ∀ n, n ≤ tn T → ∀ x, Vd T x → (tI T w S n (DD T x y) = true ↔ ∃ z, Vd T z ∧ (∀ t, t < n → (x t ≠ z t ↔ w.testBit t = true)) ∧ (∀ t, n ≤ t → z t = x t) ∧ S (DD T z y) = true)
  | 0, _, x, hx => by
    show S (DD T x y) = true ↔ _
    constructor
    · intro h
      exact ⟨x, hx, fun t ht => absurd ht (Nat.not_lt_zero _), fun _ _ => rfl, h⟩
    · rintro ⟨z, _, _, hz, h⟩
      rwa [show z = x from funext (fun t => hz t (Nat.zero_le _))] at h
  | n + 1, hn, x, hx => by
    have ih := tI_iff hy hw S n (by omega)
    by_cases hb : w.testBit n = true
    · have hs := sub_tb hw hb
      have hnn : n < tn T := by omega
      have go : ∀ v, v < tv T n → v ≠ x n → tI T w S n (DD T (set1 x n v) y) = true → ∃ z, Vd T z ∧ (∀ t, t < n + 1 → (x t ≠ z t ↔ w.testBit t = true)) ∧ (∀ t, n + 1 ≤ t → z t = x t) ∧ S (DD T z y) = true := by
        intro v hv hvx h
        obtain ⟨z, z1, z2, z3, z4⟩ := (ih (set1 x n v) (Vd_set hx hv)).mp h
        refine ⟨z, z1, fun t ht => ?_, fun t ht => ?_, z4⟩
        · by_cases e : t = n
          · subst e
            have := z3 t (Nat.le_refl _)
            simp only [set1, if_true] at this
            rw [this]
            exact ⟨fun _ => hb, fun _ q => hvx q.symm⟩
          · have := z2 t (by omega)
            simp only [set1, if_neg e] at this
            exact this
        · have := z3 t (by omega)
          simp only [set1, if_neg (show ¬ t = n by omega)] at this
          exact this
      have e0 : tI T w S (n + 1) (DD T x y) = t1 (tv T n) n (tI T w S n) (DD T x y) := by
        show (if w.testBit n = true then _ else _ : Nat → Bool) _ = _
        rw [if_pos hb]
      rw [e0]
      have eu : (DD T x y).testBit n = (x n != y n) := by rw [DD_tb, hs]; simp [hnn]
      constructor
      · intro h
        unfold t1 at h
        rw [eu] at h
        simp only [Bool.and_eq_true, Bool.or_eq_true, decide_eq_true_eq] at h
        obtain ⟨h2, h⟩ := h
        have hxn := hx n hnn
        have hyn := hy n hnn
        rcases h with h | ⟨h3, h4, h5⟩
        · by_cases q : x n = y n
          · refine go (if x n = 0 then 1 else 0) (by split <;> omega) (by split <;> omega) ?_
            rw [DD_set hnn hs, if_neg]
            · exact h
            · rw [q]
              have : ((if y n = 0 then 1 else 0 : Nat) != y n) = true := by
                split
                · rename_i z; rw [z]; rfl
                · rename_i z; simp; omega
              simp [this]
          · refine go (y n) hyn (fun z => q z.symm) ?_
            rw [DD_set hnn hs, if_neg]
            · exact h
            · simp [q]
        · have h4 : x n ≠ y n := by simpa using h4
          have : ∃ v, v < 3 ∧ v ≠ x n ∧ v ≠ y n := by
            by_cases a : x n ≠ 0 ∧ y n ≠ 0
            · exact ⟨0, by decide, fun q => a.1 q.symm, fun q => a.2 q.symm⟩
            · by_cases b : x n ≠ 1 ∧ y n ≠ 1
              · exact ⟨1, by decide, fun q => b.1 q.symm, fun q => b.2 q.symm⟩
              · exact ⟨2, by decide, by omega, by omega⟩
          obtain ⟨v, v1, v2, v3⟩ := this
          refine go v (by omega) v2 ?_
          rw [DD_set hnn hs, if_pos]
          · exact h5
          · rw [show (v != y n) = true by simpa using v3, show (x n != y n) = true by simpa using h4]
            rfl
      · rintro ⟨z, z1, z2, z3, z4⟩
        have hne := (z2 n (by omega)).mpr hb
        have hxn := hx n hnn
        have hyn := hy n hnn
        have hzn := z1 n hnn
        have h := (ih (set1 x n (z n)) (Vd_set hx hzn)).mpr ⟨z, z1, fun t ht => by
          rw [show set1 x n (z n) t = x t from if_neg (by omega)]
          exact z2 t (by omega), fun t ht => by
          by_cases e : t = n
          · rw [e]; simp [set1]
          · rw [show set1 x n (z n) t = x t from if_neg e]
            exact z3 t (by omega), z4⟩
        rw [DD_set hnn hs] at h
        unfold t1
        rw [eu]
        simp only [Bool.and_eq_true, Bool.or_eq_true, decide_eq_true_eq]
        refine ⟨by omega, ?_⟩
        by_cases q : ((z n != y n) == (x n != y n)) = true
        · rw [if_pos q] at h
          have q' := eq_of_beq q
          by_cases q1 : x n = y n
          · exfalso
            rw [q1] at q'
            simp at q'
            omega
          · have q2 : z n ≠ y n := by
              intro e
              rw [e] at q'
              simp at q'
              exact q1 q'
            right
            exact ⟨by omega, by simpa using q1, h⟩
        · rw [if_neg q] at h
          exact Or.inl h
    · have e0 : tI T w S (n + 1) (DD T x y) = tI T w S n (DD T x y) := by
        show (if w.testBit n = true then _ else _ : Nat → Bool) _ = _
        rw [if_neg hb]
      rw [e0, ih x hx]
      constructor
      · rintro ⟨z, z1, z2, z3, z4⟩
        refine ⟨z, z1, fun t ht => ?_, fun t ht => z3 t (by omega), z4⟩
        by_cases e : t = n
        · subst e
          exact ⟨fun q => absurd (z3 t (Nat.le_refl _)).symm q, fun q => absurd q hb⟩
        · exact z2 t (by omega)
      · rintro ⟨z, z1, z2, z3, z4⟩
        refine ⟨z, z1, fun t ht => z2 t (by omega), fun t ht => ?_, z4⟩
        by_cases e : t = n
        · subst e
          have := z2 t (by omega)
          by_cases q : x t = z t
          · exact q.symm
          · exact absurd (this.mp q) hb
        · exact z3 t (by omega)
/-- one pass more -/
theorem rc_z {T : TS} {x y : Nat → Nat} (hx : Vd T x) (hy : Vd T y) (k bar : Nat) : rc T (k + 1) bar (DD T x y) = true ↔ ∃ z, Vd T z ∧ ps (tl T) (DD T x z) (brd bar) = true ∧ rc T k (bb T (DD T x z)) (DD T z y) = true := by
  rw [rc_succ]
  constructor
  · rintro ⟨w, h1, h2, h3⟩
    obtain ⟨z, z1, z2, z3, z4⟩ := (tI_iff hy h1 _ (tn T) (Nat.le_refl _) x hx).mp h3
    have e : DD T x z = w := by
      apply Nat.eq_of_testBit_eq
      intro t
      rw [DD_tb]
      cases q : w.testBit t
      · by_cases q1 : t < tn T
        · have : x t = z t := by
            by_cases q2 : x t = z t
            · exact q2
            · rw [(z2 t q1).mp q2] at q; exact absurd q (by decide)
          simp [this]
        · simp [q1]
      · have q1 := sub_tb h1 q
        have q2 := seen_n q1
        have := (z2 t q2).mpr q
        rw [q1]
        simp [q2, this]
    exact ⟨z, z1, by rw [e]; exact h2, by rw [e]; exact z4⟩
  · rintro ⟨z, z1, z2, z3⟩
    refine ⟨DD T x z, ?_, z2, ?_⟩
    · show bits _ _ &&& seen T &&& seen T = _
      rw [Nat.and_assoc, Nat.and_self]
    · refine (tI_iff hy (by show bits _ _ &&& seen T &&& seen T = _; rw [Nat.and_assoc, Nat.and_self]) _ (tn T) (Nat.le_refl _) x hx).mpr ⟨fun t => if t < tn T ∧ (seen T).testBit t = true then z t else x t, fun t ht => ?_, fun t ht => ?_, fun t ht => ?_, ?_⟩
      · show (if _ then _ else _) < _
        split
        · exact z1 t ht
        · exact hx t ht
      · rw [DD_tb]
        show x t ≠ (if t < tn T ∧ (seen T).testBit t = true then z t else x t) ↔ _
        cases q : (seen T).testBit t <;> simp [ht]
      · exact if_neg (by omega)
      · have e : DD T (fun t => if t < tn T ∧ (seen T).testBit t = true then z t else x t) y = DD T z y := DD_congr (fun t h1 h2 => if_pos ⟨h1, h2⟩) (fun _ _ _ => rfl)
        rw [e]
        exact z3

