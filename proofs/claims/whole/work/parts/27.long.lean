/-! the longest rows -/
def mxJ (f : Nat → Nat) : Nat → Nat
  | 0 => 0
  | n + 1 => if mxJ f n < f n then f n else mxJ f n
theorem mxJ_s (f : Nat → Nat) (n : Nat) : mxJ f (n + 1) = if mxJ f n < f n then f n else mxJ f n := rfl
def clr (s i : Nat) : Nat := if s.testBit i then s - 1 <<< i else s
/-- the longest row of a set that begins with i, what is barred for the second one: its length -/
def LN (T : TS) : Nat → Nat → Nat → Nat → Nat
  | 0, _, _, _ => 0
  | d + 1, set, i, b => if set.testBit i = true then mxJ (fun j => if ps (tl T) (UU T i j &&& seen T) (brd b) = true then LN T d (clr set i) j (bb T (UU T i j &&& seen T)) else 0) (tm T) + 1 else 0
def Ls (T : TS) (set i b : Nat) : Nat := LN T (set + 1) set i b
theorem mxJ_congr {f g : Nat → Nat} : ∀ n, (∀ j, j < n → f j = g j) → mxJ f n = mxJ g n
  | 0, _ => rfl
  | n + 1, h => by
    unfold mxJ
    rw [mxJ_congr n (fun j hj => h j (by omega)), h n (by omega)]
theorem clr_lt {s i : Nat} (h : s.testBit i = true) : clr s i < s := by
  unfold clr
  rw [if_pos h]
  have h1 := Nat.ge_two_pow_of_testBit h
  have h2 : 1 <<< i = 2 ^ i := by rw [Nat.shiftLeft_eq, Nat.one_mul]
  have h3 := Nat.two_pow_pos i
  omega
theorem clr_le (s i : Nat) : clr s i ≤ s := by
  unfold clr
  split
  · exact Nat.sub_le _ _
  · exact Nat.le_refl _
theorem LN_fuel (T : TS) : ∀ d d' set i b, set < d → set < d' → LN T d set i b = LN T d' set i b
  | 0, _, _, _, _, h, _ => absurd h (Nat.not_lt_zero _)
  | _, 0, _, _, _, _, h => absurd h (Nat.not_lt_zero _)
  | d + 1, d' + 1, set, i, b, h, h' => by
    unfold LN
    by_cases hs : set.testBit i = true
    · rw [if_pos hs, if_pos hs]
      have hc := clr_lt hs
      congr 1
      refine mxJ_congr _ (fun j _ => ?_)
      split
      · exact LN_fuel T d d' _ _ _ (by omega) (by omega)
      · rfl
    · rw [if_neg hs, if_neg hs]
theorem Ls_eq (T : TS) (set i b : Nat) : Ls T set i b = if set.testBit i = true then mxJ (fun j => if ps (tl T) (UU T i j &&& seen T) (brd b) = true then Ls T (clr set i) j (bb T (UU T i j &&& seen T)) else 0) (tm T) + 1 else 0 := by
  show LN T (set + 1) set i b = _
  unfold LN
  by_cases hs : set.testBit i = true
  · rw [if_pos hs, if_pos hs]
    have hc := clr_lt hs
    congr 1
    refine mxJ_congr _ (fun j _ => ?_)
    split
    · exact LN_fuel T _ _ _ _ _ (by omega) (by omega)
    · rfl
  · rw [if_neg hs, if_neg hs]
theorem mxJ_le {f : Nat → Nat} {B : Nat} : ∀ n, (∀ j, j < n → f j ≤ B) → mxJ f n ≤ B
  | 0, _ => Nat.zero_le _
  | n + 1, h => by
    unfold mxJ
    split
    · exact h n (by omega)
    · exact mxJ_le n (fun j hj => h j (by omega))
/-- a set of nine: how many bits -/
theorem clr_many : ∀ i, i < 9 → ∀ s, s < 512 → s.testBit i = true → many (clr s i) + 1 = many s := by decide +kernel
theorem clr_512 {s i : Nat} (h : s < 512) : clr s i < 512 := Nat.lt_of_le_of_lt (clr_le s i) h
theorem Ls_le (T : TS) (hm : tm T ≤ 9) : ∀ k set i b, set < 512 → i < tm T → many set ≤ k → Ls T set i b ≤ many set
  | 0, set, i, b, hs, hi, hk => by
    rw [Ls_eq]
    split
    · rename_i hb
      have := clr_many i (by omega) set hs hb
      omega
    · exact Nat.zero_le _
  | k + 1, set, i, b, hs, hi, hk => by
    rw [Ls_eq]
    split
    · rename_i hb
      have e := clr_many i (by omega) set hs hb
      rw [← e]
      refine Nat.succ_le_succ (mxJ_le _ (fun j hj => ?_))
      split
      · exact Ls_le T hm k _ _ _ (clr_512 hs) hj (by omega)
      · exact Nat.zero_le _
    · exact Nat.zero_le _
theorem many9 : ∀ s, s < 512 → many s ≤ 9 := by decide +kernel
theorem Ls_9 {T : TS} (hm : tm T ≤ 9) {set i b : Nat} (hs : set < 512) (hi : i < tm T) : Ls T set i b ≤ 9 := Nat.le_trans (Ls_le T hm _ set i b hs hi (Nat.le_refl _)) (many9 set hs)
/-- figures of four bits -/
def pk6 (v : Nat → Nat) : Nat → Nat
  | 0 => 0
  | b + 1 => pk6 v b ||| (v b <<< (4 * b))
theorem tb_pk6 {v : Nat → Nat} : ∀ n, (∀ b, b < n → v b < 16) → ∀ j, (pk6 v n).testBit j = (decide (j / 4 < n) && (v (j / 4)).testBit (j % 4))
  | 0, _, j => by simp [pk6]
  | n + 1, h, j => by
    unfold pk6
    rw [Nat.testBit_or, tb_pk6 n (fun b hb => h b (by omega)), Nat.testBit_shiftLeft]
    by_cases h1 : j / 4 = n
    · have h2 : j ≥ 4 * n := by omega
      have h3 : j - 4 * n = j % 4 := by omega
      rw [h1, h3]
      simp [h2]
    · by_cases h2 : j / 4 < n
      · have h3 : ¬ j ≥ 4 * n := by omega
        have h4 : j / 4 < n + 1 := by omega
        simp [h2, h3, h4]
      · have h3 : j ≥ 4 * n := by omega
        have h4 : ¬ j / 4 < n + 1 := by omega
        have h5 : (v n).testBit (j - 4 * n) = false := by
          refine Nat.testBit_lt_two_pow (Nat.lt_of_lt_of_le (h n (by omega)) ?_)
          exact Nat.pow_le_pow_right (n := 2) (i := 4) (by decide) (by omega)
        simp [h2, h4, h5]
theorem pk6_lt {v : Nat → Nat} {n : Nat} (hn : n ≤ 6) (h : ∀ b, b < n → v b < 16) : pk6 v n < 2 ^ 24 := by
  apply Nat.lt_pow_two_of_testBit
  intro j hj
  rw [tb_pk6 n h]
  have : ¬ j / 4 < n := by omega
  simp [this]
theorem pk6_at {v : Nat → Nat} {n b : Nat} (h : ∀ b, b < n → v b < 16) (hb : b < n) : (pk6 v n >>> (4 * b)) &&& 15 = v b := by
  apply Nat.eq_of_testBit_eq
  intro j
  have e15 : (15 : Nat).testBit j = decide (j < 4) := by
    have := Nat.testBit_two_pow_sub_one 4 j
    simpa using this
  rw [Nat.testBit_and, Nat.testBit_shiftRight, tb_pk6 n h, e15]
  by_cases hj : j < 4
  · have h1 : (4 * b + j) / 4 = b := by omega
    have h2 : (4 * b + j) % 4 = j := by omega
    rw [h1, h2]
    simp [hb, hj]
  · have h3 : (v b).testBit j = false := by
      refine Nat.testBit_lt_two_pow (Nat.lt_of_lt_of_le (h b hb) ?_)
      exact Nat.pow_le_pow_right (n := 2) (i := 4) (by decide) (by omega)
    simp [hj, h3]
theorem clr_I : ∀ i, i < 9 → ∀ s, s < 512 → nI s &&& (nI (1 <<< i) ^^^ (-1 : Int32)) = if s.testBit i then nI (s - 1 <<< i) else nI s := by decide +kernel
theorem clr_I' {i s : Nat} (hi : i < 9) (hs : s < 512) : nI s &&& (nI (1 <<< i) ^^^ (-1 : Int32)) = nI (clr s i) := by
  rw [clr_I i hi s hs]
  unfold clr
  split <;> rfl
def LA (T : TS) (f : Nat → Int32) (s : Nat) : Prop := ∀ set, set < s → ∀ i, i < tm T → set.testBit i = true → f (set * 9 + i) = nI (pk6 (Ls T set i) (brs T))
section LONG
variable {G : GG} {σ : WW} {T : TS}
theorem bit_c {s i : Nat} (hs : s < 512) (hi : i < 9) : ((nI s).toUInt32 >>> ((nI i).toUInt32 &&& Int32.toUInt32 31)).toInt32 &&& nI 1 = nI (b2 (s.testBit i)) := by
  rw [nx_ush (by omega) (by omega), nx_and, tb_b2]
theorem t_length {k : Int32} {f : Nat → Int32} (h6 : Cl G σ 6 (cLong G k)) (h18 : Cl G σ 18 (iA G 4608 f)) (hW : TW T) {set i bar : Nat} (hs : set < 512) (hi : i < tm T) (hb : bar < brs T) (hf : set.testBit i = true → f (set * 9 + i) = nI (pk6 (Ls T set i) (brs T))) : Mt G mX3_length [.ref (ga G 6), .int (nI set), .int (nI i), .int (nI bar)] σ (some (.int (nI (Ls T set i bar)))) σ := by
  have hm := hW.2.2.2.2.1
  have hbs := brs_le hW
  have h16 : ∀ b, b < brs T → Ls T set i b < 16 := fun b _ => Nat.lt_of_le_of_lt (Ls_9 hm hs hi) (by decide)
  refine Mt.of (by decide +kernel) (Nat.le_of_ble_eq_true rfl) (fun κ C => ?_)
  cases hc : set.testBit i
  · have e0 : Ls T set i bar = 0 := by rw [Ls_eq, hc]; simp
    rw [e0]
    refine g_iload_n (pc := 0) C dX3_length_0 rfl ?_
    refine g_iload_n (pc := 1) C dX3_length_1 rfl ?_
    refine g_iushr (pc := 2) C dX3_length_2 ?_
    refine g_iconst (pc := 3) (v := nI 1) C dX3_length_3 (by decide) ?_
    refine g_iand (pc := 4) C dX3_length_4 ?_
    rw [bit_c hs (by omega), hc]
    refine g_if_nE (pc := 5) C 10 dX3_length_5 (by decide) (fun c5 => ?_) (fun c5 => ?_)
    · exact absurd rfl c5
    · refine g_iconst (pc := 8) (v := nI 0) C dX3_length_8 (by decide) ?_
      exact g_ireturn (pc := 9) C dX3_length_9 rfl (rfl) (rfl)
  · refine g_iload_n (pc := 0) C dX3_length_0 rfl ?_
    refine g_iload_n (pc := 1) C dX3_length_1 rfl ?_
    refine g_iushr (pc := 2) C dX3_length_2 ?_
    refine g_iconst (pc := 3) (v := nI 1) C dX3_length_3 (by decide) ?_
    refine g_iand (pc := 4) C dX3_length_4 ?_
    rw [bit_c hs (by omega), hc]
    refine g_if_nE (pc := 5) C 10 dX3_length_5 (by decide) (fun c5 => ?_) (fun c5 => ?_)
    · refine g_aload_n (pc := 10) C dX3_length_10 rfl ?_
      apply gf_X3_9 (pc := 11) C rfl dX3_length_11
      · repeat (first | assumption | exact Cl.s (by assumption) | refine Cl.n (by first | decide | omega) ?_)
      · rfl
      refine g_iload_n (pc := 14) C dX3_length_14 rfl ?_
      refine g_bipush (pc := 15) (v := nI 9) C dX3_length_15 (by decide) ?_
      refine g_imul (pc := 17) C dX3_length_17 ?_
      refine g_iload_n (pc := 18) C dX3_length_18 rfl ?_
      refine g_iadd (pc := 19) C dX3_length_19 ?_
      rw [pk_mul, nI_add]
      apply g_iaload (pc := 20) C dX3_length_20
      · repeat (first | assumption | exact Cl.s (by assumption) | refine Cl.n (by first | decide | omega) ?_)
      · exact vp_in_nI (by omega) (by decide)
      rw [nI_clamp (by omega), hf hc]
      refine g_iconst (pc := 21) (v := nI 4) C dX3_length_21 (by decide) ?_
      refine g_iload_n (pc := 22) C dX3_length_22 rfl ?_
      refine g_imul (pc := 23) C dX3_length_23 ?_
      refine g_iushr (pc := 24) C dX3_length_24 ?_
      refine g_bipush (pc := 25) (v := nI 15) C dX3_length_25 (by decide) ?_
      refine g_iand (pc := 27) C dX3_length_27 ?_
      exact g_ireturn (pc := 28) C dX3_length_28 rfl (by rw [pk_mul, nx_ush (by have := pk6_lt hbs h16; omega) (by omega), nx_and, pk6_at h16 hb]) (rfl)
    · exact absurd c5 (by decide)
theorem t_lengthFrom {k : Int32} {f : Nat → Int32} (hT : RT G σ T) (h6 : Cl G σ 6 (cLong G k)) (h18 : Cl G σ 18 (iA G 4608 f)) {set i bar : Nat} (hs : set < 512) (hi : i < tm T) (hb : bar < brs T) (hf : LA T f set) : Mt G mX3_lengthFrom [.ref (ga G 6), .ref (ga G 9), .int (nI set), .int (nI i), .int (nI bar)] σ (some (.int (nI (Ls T set i bar)))) σ := by
  have hW := hT.w
  have hm := hW.2.2.2.2.1
  have hbs := brs_le hW
  obtain ⟨bo, hc0, h9⟩ := hT.c
  refine Mt.of (by decide +kernel) (Nat.le_of_ble_eq_true rfl) (fun κ C => ?_)
  cases hc : set.testBit i
  · have e0 : Ls T set i bar = 0 := by rw [Ls_eq, hc]; simp
    rw [e0]
    refine g_iload_n (pc := 0) C dX3_lengthFrom_0 rfl ?_
    refine g_iload_n (pc := 1) C dX3_lengthFrom_1 rfl ?_
    refine g_iushr (pc := 2) C dX3_lengthFrom_2 ?_
    refine g_iconst (pc := 3) (v := nI 1) C dX3_lengthFrom_3 (by decide) ?_
    refine g_iand (pc := 4) C dX3_lengthFrom_4 ?_
    rw [bit_c hs (by omega), hc]
    refine g_if_nE (pc := 5) C 10 dX3_lengthFrom_5 (by decide) (fun c5 => ?_) (fun c5 => ?_)
    · exact absurd rfl c5
    · refine g_iconst (pc := 8) (v := nI 0) C dX3_lengthFrom_8 (by decide) ?_
      exact g_ireturn (pc := 9) C dX3_lengthFrom_9 rfl (rfl) (rfl)
  · have e0 : Ls T set i bar = mxJ (fun j => if ps (tl T) (UU T i j &&& seen T) (brd bar) = true then Ls T (clr set i) j (bb T (UU T i j &&& seen T)) else 0) (tm T) + 1 := by rw [Ls_eq, if_pos hc]
    rw [e0]
    have hcl := clr_lt hc
    have hc5 := clr_512 (i := i) hs
    generalize hM : (fun j => if ps (tl T) (UU T i j &&& seen T) (brd bar) = true then Ls T (clr set i) j (bb T (UU T i j &&& seen T)) else 0) = M
    have hM9 : ∀ n, n ≤ tm T → mxJ M n ≤ 9 := fun n hn => mxJ_le n (fun j hj => by
      rw [← hM]
      show (if _ then _ else _) ≤ 9
      split
      · exact Ls_9 hm hc5 (by omega)
      · exact Nat.zero_le _)
    have loop : ∀ d j, j + d = tm T → Go G mX3_lengthFrom κ (some (.int (nI (mxJ M (tm T) + 1)))) σ σ 25 [(0, .ref (ga G 6)), (1, .ref (ga G 9)), (3, .int (nI i)), (4, .int (nI bar)), (5, .int (nI (clr set i))), (6, .int (nI (mxJ M j))), (7, .int (nI j))] [] := by
      intro d
      induction d with
      | zero =>
        intro j hj
        refine g_iload (pc := 25) C dX3_lengthFrom_25 rfl ?_
        refine g_aload_n (pc := 27) C dX3_lengthFrom_27 rfl ?_
        apply gf_X3_23 (pc := 28) C rfl dX3_lengthFrom_28
        · repeat (first | assumption | exact Cl.s (by assumption) | refine Cl.n (by first | decide | omega) ?_)
        · rfl
        refine g_icmp_ge (pc := 31) C 84 dX3_lengthFrom_31 (by decide) (fun c31 => ?_) (fun c31 => ?_)
        · refine g_iload (pc := 84) C dX3_lengthFrom_84 rfl ?_
          refine g_iconst (pc := 86) (v := nI 1) C dX3_lengthFrom_86 (by decide) ?_
          refine g_iadd (pc := 87) C dX3_lengthFrom_87 ?_
          exact g_ireturn (pc := 88) C dX3_lengthFrom_88 rfl (by rw [show j = tm T by omega, nI_add]) (rfl)
        · exact absurd (nI_le (by omega) (by omega)) c31
      | succ d ih =>
        intro j hj
        have hu := and_lt32 (b := seen T) (UU_lt T i j hW.1)
        have hbr := brd_lt (b := bar) (by omega)
        have hMj := hM9 j (by omega)
        cases hp : ps (tl T) (UU T i j &&& seen T) (brd bar)
        · have e1 : M j = 0 := by rw [← hM]; simp [hp]
          have e2 : mxJ M (j + 1) = mxJ M j := by rw [mxJ_s, e1, if_neg (Nat.not_lt_zero _)]
          refine g_iload (pc := 25) C dX3_lengthFrom_25 rfl ?_
          refine g_aload_n (pc := 27) C dX3_lengthFrom_27 rfl ?_
          apply gf_X3_23 (pc := 28) C rfl dX3_lengthFrom_28
          · repeat (first | assumption | exact Cl.s (by assumption) | refine Cl.n (by first | decide | omega) ?_)
          · rfl
          refine g_icmp_ge (pc := 31) C 84 dX3_lengthFrom_31 (by decide) (fun c31 => ?_) (fun c31 => ?_)
          · exact absurd c31 (nI_ge (by omega) (by omega))
          · refine g_aload_n (pc := 34) C dX3_lengthFrom_34 rfl ?_
            refine g_iload_n (pc := 35) C dX3_lengthFrom_35 rfl ?_
            refine g_iload (pc := 36) C dX3_lengthFrom_36 rfl ?_
            apply cl_X3_47 (pc := 38) C rfl (t_seenUnlike hT hi (by omega)) dX3_lengthFrom_38
            · repeat (first | assumption | exact Cl.s (by assumption) | refine Cl.n (by first | decide | omega) ?_)
            · rfl
            · exact Nat.le_of_ble_eq_true rfl
            refine g_istore (pc := 41) C dX3_lengthFrom_41 (by decide) rfl ?_
            refine g_aload_n (pc := 43) C dX3_lengthFrom_43 rfl ?_
            refine g_iload (pc := 44) C dX3_lengthFrom_44 rfl ?_
            refine g_iload (pc := 46) C dX3_lengthFrom_46 rfl ?_
            refine cl_X3_50 (pc := 48) C rfl (t_barredBy (by omega)) dX3_lengthFrom_48 rfl (Nat.le_of_ble_eq_true rfl) ?_
            apply cl_X3_54 (pc := 51) C rfl (t_lets hT (by omega) (by omega)) dX3_lengthFrom_51
            · repeat (first | assumption | exact Cl.s (by assumption) | refine Cl.n (by first | decide | omega) ?_)
            · rfl
            · exact Nat.le_of_ble_eq_true rfl
            refine g_if_eq (pc := 54) C 78 dX3_lengthFrom_54 (by decide) (fun c54 => ?_) (fun c54 => ?_)
            · refine g_iinc (pc := 78) C dX3_lengthFrom_78 rfl (by decide) rfl ?_
              refine g_goto (pc := 81) C 25 dX3_lengthFrom_81 (by decide) ?_
              exact g_to (ih (j + 1) (by omega)) ⟨rfl, rfl, rfl, rfl, rfl, lgi (by rw [e2]), lgi (nI_1 j), trivial⟩
            · exact absurd (by rw [hp]; rfl) c54
        · have hbl : bb T (UU T i j &&& seen T) < brs T := by
            unfold bb brs
            split
            · have := bbs_le (UU T i j &&& seen T) (tn T) 0; omega
            · decide
          have e1 : M j = Ls T (clr set i) j (bb T (UU T i j &&& seen T)) := by rw [← hM]; simp [hp]
          have hM1 : M j ≤ 9 := by rw [e1]; exact Ls_9 hm hc5 (by omega)
          refine g_iload (pc := 25) C dX3_lengthFrom_25 rfl ?_
          refine g_aload_n (pc := 27) C dX3_lengthFrom_27 rfl ?_
          apply gf_X3_23 (pc := 28) C rfl dX3_lengthFrom_28
          · repeat (first | assumption | exact Cl.s (by assumption) | refine Cl.n (by first | decide | omega) ?_)
          · rfl
          refine g_icmp_ge (pc := 31) C 84 dX3_lengthFrom_31 (by decide) (fun c31 => ?_) (fun c31 => ?_)
          · exact absurd c31 (nI_ge (by omega) (by omega))
          · refine g_aload_n (pc := 34) C dX3_lengthFrom_34 rfl ?_
            refine g_iload_n (pc := 35) C dX3_lengthFrom_35 rfl ?_
            refine g_iload (pc := 36) C dX3_lengthFrom_36 rfl ?_
            apply cl_X3_47 (pc := 38) C rfl (t_seenUnlike hT hi (by omega)) dX3_lengthFrom_38
            · repeat (first | assumption | exact Cl.s (by assumption) | refine Cl.n (by first | decide | omega) ?_)
            · rfl
            · exact Nat.le_of_ble_eq_true rfl
            refine g_istore (pc := 41) C dX3_lengthFrom_41 (by decide) rfl ?_
            refine g_aload_n (pc := 43) C dX3_lengthFrom_43 rfl ?_
            refine g_iload (pc := 44) C dX3_lengthFrom_44 rfl ?_
            refine g_iload (pc := 46) C dX3_lengthFrom_46 rfl ?_
            refine cl_X3_50 (pc := 48) C rfl (t_barredBy (by omega)) dX3_lengthFrom_48 rfl (Nat.le_of_ble_eq_true rfl) ?_
            apply cl_X3_54 (pc := 51) C rfl (t_lets hT (by omega) (by omega)) dX3_lengthFrom_51
            · repeat (first | assumption | exact Cl.s (by assumption) | refine Cl.n (by first | decide | omega) ?_)
            · rfl
            · exact Nat.le_of_ble_eq_true rfl
            refine g_if_eq (pc := 54) C 78 dX3_lengthFrom_54 (by decide) (fun c54 => ?_) (fun c54 => ?_)
            · exact absurd c54 (by rw [hp]; decide)
            · refine g_iload (pc := 57) C dX3_lengthFrom_57 rfl ?_
              refine g_aload_n (pc := 59) C dX3_lengthFrom_59 rfl ?_
              refine g_iload (pc := 60) C dX3_lengthFrom_60 rfl ?_
              refine g_iload (pc := 62) C dX3_lengthFrom_62 rfl ?_
              refine g_aload_n (pc := 64) C dX3_lengthFrom_64 rfl ?_
              refine g_iload (pc := 65) C dX3_lengthFrom_65 rfl ?_
              apply cl_X3_58 (pc := 67) C rfl (t_barBehind hT (by omega)) dX3_lengthFrom_67
              · repeat (first | assumption | exact Cl.s (by assumption) | refine Cl.n (by first | decide | omega) ?_)
              · rfl
              · exact Nat.le_of_ble_eq_true rfl
              apply cl_X3_29 (pc := 70) C rfl (t_length h6 h18 hW hc5 (by omega) hbl (hf (clr set i) hcl j (by omega))) dX3_lengthFrom_70
              · repeat (first | assumption | exact Cl.s (by assumption) | refine Cl.n (by first | decide | omega) ?_)
              · rfl
              · exact Nat.le_of_ble_eq_true rfl
              refine g_mmax (pc := 73) C dX3_lengthFrom_73 w_mmax (by decide) (Nat.le_of_ble_eq_true rfl) ?_
              refine g_istore (pc := 76) C dX3_lengthFrom_76 (by decide) rfl ?_
              refine g_iinc (pc := 78) C dX3_lengthFrom_78 rfl (by decide) rfl ?_
              refine g_goto (pc := 81) C 25 dX3_lengthFrom_81 (by decide) ?_
              exact g_to (ih (j + 1) (by omega)) ⟨rfl, rfl, rfl, rfl, rfl, lgi (by
                rw [← e1, mxJ_s]
                by_cases q : mxJ M j < M j
                · rw [if_pos q, if_pos ((nI_ltI (by omega) (by omega)).mpr q)]
                · rw [if_neg q, if_neg (fun z => q ((nI_ltI (by omega) (by omega)).mp z))]), lgi (nI_1 j), trivial⟩
    refine g_iload_n (pc := 0) C dX3_lengthFrom_0 rfl ?_
    refine g_iload_n (pc := 1) C dX3_lengthFrom_1 rfl ?_
    refine g_iushr (pc := 2) C dX3_lengthFrom_2 ?_
    refine g_iconst (pc := 3) (v := nI 1) C dX3_lengthFrom_3 (by decide) ?_
    refine g_iand (pc := 4) C dX3_lengthFrom_4 ?_
    rw [bit_c hs (by omega), hc]
    refine g_if_nE (pc := 5) C 10 dX3_lengthFrom_5 (by decide) (fun c5 => ?_) (fun c5 => ?_)
    · refine g_iload_n (pc := 10) C dX3_lengthFrom_10 rfl ?_
      refine g_iconst (pc := 11) (v := nI 1) C dX3_lengthFrom_11 (by decide) ?_
      refine g_iload_n (pc := 12) C dX3_lengthFrom_12 rfl ?_
      refine g_ishl (pc := 13) C dX3_lengthFrom_13 ?_
      rw [nx_shl _ (by omega)]
      refine g_iconst (pc := 14) (v := -1) C dX3_lengthFrom_14 (by decide) ?_
      refine g_ixor (pc := 15) C dX3_lengthFrom_15 ?_
      refine g_iand (pc := 16) C dX3_lengthFrom_16 ?_
      rw [clr_I' (by omega) hs]
      refine g_istore (pc := 17) C dX3_lengthFrom_17 (by decide) rfl ?_
      refine g_iconst (pc := 19) (v := nI 0) C dX3_lengthFrom_19 (by decide) ?_
      refine g_istore (pc := 20) C dX3_lengthFrom_20 (by decide) rfl ?_
      refine g_iconst (pc := 22) (v := nI 0) C dX3_lengthFrom_22 (by decide) ?_
      refine g_istore (pc := 23) C dX3_lengthFrom_23 (by decide) rfl ?_
      exact g_to (loop (tm T) 0 (by omega)) ⟨rfl, rfl, rfl, rfl, rfl, rfl, rfl, trivial⟩
    · exact absurd c5 (by decide)
end LONG

