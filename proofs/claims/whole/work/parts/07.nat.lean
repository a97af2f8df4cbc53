/-! numbers: nI under the machine's operations -/
theorem nx_and (a b : Nat) : nI a &&& nI b = nI (a &&& b) := by
  apply Int32.toBitVec_inj.1
  show BitVec.ofNat 32 a &&& BitVec.ofNat 32 b = BitVec.ofNat 32 (a &&& b)
  apply BitVec.eq_of_getLsbD_eq
  intro i hi
  simp [hi]
theorem nx_xor (a b : Nat) : nI a ^^^ nI b = nI (a ^^^ b) := by
  apply Int32.toBitVec_inj.1
  show BitVec.ofNat 32 a ^^^ BitVec.ofNat 32 b = BitVec.ofNat 32 (a ^^^ b)
  apply BitVec.eq_of_getLsbD_eq
  intro i hi
  simp [hi]
theorem nx_or (a b : Nat) : nI a ||| nI b = nI (a ||| b) := by
  apply Int32.toBitVec_inj.1
  show BitVec.ofNat 32 a ||| BitVec.ofNat 32 b = BitVec.ofNat 32 (a ||| b)
  apply BitVec.eq_of_getLsbD_eq
  intro i hi
  simp [hi]
theorem nx_cl : ∀ l, l < 32 → ((nI l &&& 31).toBitVec.smod 32).toNat = l := by decide +kernel
theorem nx_cu : ∀ l, l < 32 → (((nI l).toUInt32 &&& Int32.toUInt32 31).toBitVec % 32).toNat = l := by decide +kernel
theorem nx_shl (a : Nat) {k : Nat} (hk : k < 32) : nI a <<< (nI k &&& 31) = nI (a <<< k) := by
  apply Int32.toBitVec_inj.1
  show BitVec.ofNat 32 a <<< ((nI k &&& 31).toBitVec.smod 32) = BitVec.ofNat 32 (a <<< k)
  rw [BitVec.shiftLeft_eq', nx_cl k hk]
  apply BitVec.eq_of_toNat_eq
  simp [BitVec.toNat_shiftLeft, Nat.shiftLeft_eq, Nat.mod_mul_mod]
theorem nx_ush {a k : Nat} (ha : a < 2 ^ 32) (hk : k < 32) : ((nI a).toUInt32 >>> ((nI k).toUInt32 &&& Int32.toUInt32 31)).toInt32 = nI (a >>> k) := by
  rw [pk_ushrN ha _ k (nx_cu k hk), Nat.shiftRight_eq_div_pow]
theorem nx_shr {a k : Nat} (ha : a < 2 ^ 31) (hk : k < 32) : nI a >>> (nI k &&& 31) = nI (a >>> k) := by
  rw [pk_shrN ha _ k (nx_cl k hk), Nat.shiftRight_eq_div_pow]
theorem nx_0 : (0 : Int32) = nI 0 := rfl
theorem nx_1 : (1 : Int32) = nI 1 := rfl
def b2 (b : Bool) : Nat := if b then 1 else 0
theorem b2_t : b2 true = 1 := rfl
theorem b2_f : b2 false = 0 := rfl
theorem b2_01 (b : Bool) : nI (b2 b) = 0 ∨ nI (b2 b) = 1 := by cases b <;> simp [b2, nI]
theorem b2_lt (b : Bool) : b2 b < 2 := by cases b <;> decide
/-! sets of bits -/
def bits (p : Nat → Bool) : Nat → Nat
  | 0 => 0
  | n + 1 => bits p n ||| (if p n then 1 <<< n else 0)
theorem tb_one (n j : Nat) : (1 <<< n).testBit j = decide (n = j) := by
  rw [Nat.shiftLeft_eq, Nat.one_mul, Nat.testBit_two_pow]
theorem tb_bits (p : Nat → Bool) (n j : Nat) : (bits p n).testBit j = (decide (j < n) && p j) := by
  induction n with
  | zero => simp [bits]
  | succ n ih =>
    unfold bits
    rw [Nat.testBit_or, ih]
    by_cases hp : p n = true
    · rw [if_pos hp, tb_one]
      by_cases h : n = j
      · subst h
        simp [hp]
      · have : decide (j < n + 1) = decide (j < n) := by
          have : j < n + 1 ↔ j < n := by omega
          simp [this]
        simp [h, this]
    · rw [if_neg hp]
      by_cases h : n = j
      · subst h
        simp [hp]
      · have : decide (j < n + 1) = decide (j < n) := by
          have : j < n + 1 ↔ j < n := by omega
          simp [this]
        simp [this]
theorem bits_lt (p : Nat → Bool) (n : Nat) : bits p n < 2 ^ n := by
  apply Nat.lt_pow_two_of_testBit
  intro j hj
  rw [tb_bits]
  simp [Nat.not_lt.mpr hj]
theorem bits_congr {p q : Nat → Bool} {n : Nat} (h : ∀ t, t < n → p t = q t) : bits p n = bits q n := by
  induction n with
  | zero => rfl
  | succ n ih =>
    unfold bits
    rw [ih (fun t ht => h t (by omega)), h n (by omega)]
def cnt (x : Nat) : Nat → Nat
  | 0 => 0
  | k + 1 => cnt x k + (x >>> k &&& 1)
def many (x : Nat) : Nat := cnt x 10
theorem cnt_le (x k : Nat) : cnt x k ≤ k := by
  induction k with
  | zero => exact Nat.le_refl 0
  | succ k ih =>
    have : x >>> k &&& 1 ≤ 1 := by rw [Nat.and_one_is_mod]; omega
    unfold cnt
    omega
/-- who may pass: the law, in what they differ, in what the one ahead differed -/
def ps (law set ahead : Nat) : Bool := if law = 0 then many set == 1 else if law = 1 then many set == 2 else if law = 2 then many set == 1 && set != ahead else decide (many set < 2)
/-! looks -/
def lw (t v : Nat) : Nat := ((v &&& 1) <<< t) ||| (((v >>> 1) &&& 1) <<< (t + 5))
def lkn (v : Nat → Nat) : Nat → Nat
  | 0 => 0
  | n + 1 => lkn v n ||| lw n (v n)
def ulk (a b : Nat) : Nat := ((a ^^^ b) ||| ((a ^^^ b) >>> 5)) &&& 31
theorem tb_sh (x t j : Nat) : ((x &&& 1) <<< t).testBit j = (decide (t = j) && x.testBit 0) := by
  rw [Nat.testBit_shiftLeft]
  by_cases h : t = j
  · subst h
    simp
  · by_cases h2 : j ≥ t
    · have h3 : j - t ≠ 0 := by omega
      have : (x &&& 1).testBit (j - t) = false := by
        rw [Nat.testBit_and]
        have : (1 : Nat).testBit (j - t) = false := by
          have := Nat.testBit_two_pow (n := 0) (m := j - t)
          simp at this
          rw [this]
          simp; omega
        rw [this]; simp
      rw [this]
      simp [h]
    · simp [h, h2]
theorem tb_lw (t v j : Nat) (ht : t < 5) : (lw t v).testBit j = ((decide (t = j) && v.testBit 0) || (decide (t + 5 = j) && v.testBit 1)) := by
  unfold lw
  rw [Nat.testBit_or, tb_sh, tb_sh, Nat.testBit_shiftRight]
theorem tb_lkn (v : Nat → Nat) (n : Nat) (hn : n ≤ 5) (j : Nat) : (lkn v n).testBit j = ((decide (j < n) && (v j).testBit 0) || (decide (5 ≤ j ∧ j < n + 5) && (v (j - 5)).testBit 1)) := by
  induction n with
  | zero =>
    have : ¬ (5 ≤ j ∧ j < 0 + 5) := by omega
    simp [lkn, this]
  | succ n ih =>
    unfold lkn
    rw [Nat.testBit_or, ih (by omega), tb_lw _ _ _ (by omega)]
    by_cases h : n = j
    · subst h
      have h1 : ¬ (5 ≤ n ∧ n < n + 5) := by omega
      have h2 : ¬ (5 ≤ n ∧ n < n + 1 + 5) := by omega
      simp [h2]; omega
    · have h1 : decide (j < n + 1) = decide (j < n) := by
        have : j < n + 1 ↔ j < n := by omega
        simp [this]
      by_cases h2 : n + 5 = j
      · subst h2
        have e : ¬ n + 5 < n := by omega
        have e2 : ¬ n + 5 < n + 1 := by omega
        simp [e, e2]
      · have h3 : decide (5 ≤ j ∧ j < n + 1 + 5) = decide (5 ≤ j ∧ j < n + 5) := by
          have : (5 ≤ j ∧ j < n + 1 + 5) ↔ (5 ≤ j ∧ j < n + 5) := by omega
          simp only [this]
        simp only [h1, h3, h, h2, decide_false, Bool.false_and, Bool.or_false]
theorem lkn_lt (v : Nat → Nat) (n : Nat) (hn : n ≤ 5) : lkn v n < 1024 := by
  apply Nat.lt_pow_two_of_testBit (n := 10)
  intro j hj
  rw [tb_lkn v n hn]
  have h1 : ¬ j < n := by omega
  have h2 : ¬ (5 ≤ j ∧ j < n + 5) := by omega
  simp [h1, h2]
theorem v4_ne : ∀ v, v < 4 → ∀ w, w < 4 → (v != w) = ((v.testBit 0 ^^ w.testBit 0) || (v.testBit 1 ^^ w.testBit 1)) := by decide
theorem tb_31 (j : Nat) : (31 : Nat).testBit j = decide (j < 5) := by
  have := Nat.testBit_two_pow_sub_one 5 j
  simpa using this
theorem ulk_lkn {v w : Nat → Nat} {n : Nat} (hn : n ≤ 5) (hv : ∀ t, t < n → v t < 4) (hw : ∀ t, t < n → w t < 4) : ulk (lkn v n) (lkn w n) = bits (fun t => v t != w t) n := by
  apply Nat.eq_of_testBit_eq
  intro j
  unfold ulk
  rw [tb_bits, Nat.testBit_and, Nat.testBit_or, Nat.testBit_shiftRight, Nat.testBit_xor, Nat.testBit_xor, tb_lkn v n hn, tb_lkn w n hn, tb_lkn v n hn, tb_lkn w n hn, tb_31]
  by_cases h5 : j < 5
  · have e1 : ¬ (5 ≤ j ∧ j < n + 5) := by omega
    have e2 : ¬ (5 + j < n) := by omega
    have e3 : (5 ≤ 5 + j ∧ 5 + j < n + 5) ↔ j < n := by omega
    by_cases hj : j < n
    · have e4 : 5 + j - 5 = j := by omega
      have e5 := v4_ne (v j) (hv j hj) (w j) (hw j hj)
      simp only [e1, e2, e3, hj, h5, e4, e5, decide_true, decide_false, Bool.true_and, Bool.false_and, Bool.or_false, Bool.false_or, Bool.and_true]
    · simp only [e1, e2, e3, hj, h5, decide_true, decide_false, Bool.false_and, Bool.or_false, Bool.and_true, Bool.xor_self]
  · have hj : ¬ j < n := by omega
    simp [h5, hj]
