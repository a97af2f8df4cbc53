/-! hats lent -/
def hdg (T : TS) : Nat → Nat → Nat → Nat
  | 0, _, _ => 0
  | k + 1, j, t => if tb T k = 1 then (if t = k then j % tv T k else hdg T k (j / tv T k) t) else hdg T k j t
/-- the values of one who wears the j-th hat -/
def wv (T : TS) (x : Nat → Nat) (j t : Nat) : Nat := if tb T t = 1 then hdg T (tn T) j t else x t
theorem tb_hatn (T : TS) : ∀ k, k ≤ 5 → ∀ j q, (hatn T k j).testBit q = ((decide (q < k) && (decide (tb T q = 1) && (hdg T k j q).testBit 0)) || (decide (5 ≤ q ∧ q < k + 5) && (decide (tb T (q - 5) = 1) && (hdg T k j (q - 5)).testBit 1)))
  | 0, _, j, q => by
    have : ¬ (5 ≤ q ∧ q < 0 + 5) := by omega
    simp [hatn, this]
  | k + 1, hk, j, q => by
    by_cases hb : tb T k = 1
    · have e1 : hatn T (k + 1) j = hatn T k (j / tv T k) ||| lw k (j % tv T k) := by show (if tb T k = 1 then _ else _) = _; rw [if_pos hb]
      have e2 : ∀ t, hdg T (k + 1) j t = if t = k then j % tv T k else hdg T k (j / tv T k) t := fun t => by show (if tb T k = 1 then _ else _) = _; rw [if_pos hb]
      rw [e1, Nat.testBit_or, tb_hatn T k (by omega), tb_lw _ _ _ (by omega), e2, e2]
      by_cases h1 : k = q
      · subst h1
        have n1 : ¬ (5 ≤ k ∧ k < k + 5) := by omega
        have n2 : ¬ (5 ≤ k ∧ k < k + 1 + 5) := by omega
        have n3 : ¬ k + 5 = k := by omega
        simp [n1, n2, hb]
        intro z; omega
      · by_cases h2 : k + 5 = q
        · subst h2
          have n1 : ¬ k + 5 < k := by omega
          have n2 : ¬ k + 5 < k + 1 := by omega
          simp [n1, n2, hb]
        · have n1 : (q < k + 1) ↔ q < k := by omega
          have n2 : (5 ≤ q ∧ q < k + 1 + 5) ↔ (5 ≤ q ∧ q < k + 5) := by omega
          have n3 : ¬ q = k := fun z => h1 z.symm
          by_cases n4 : q - 5 = k
          · have n5 : ¬ (5 ≤ q ∧ q < k + 5) := by omega
            have n6 : ¬ (5 ≤ q) := by omega
            simp only [n1, n2, h1, h2, n3, n5, if_neg, decide_false, Bool.false_and, Bool.or_false, not_false_eq_true]
          · simp only [n1, n2, h1, h2, n3, n4, if_neg, decide_false, Bool.false_and, Bool.or_false, not_false_eq_true]
    · have e1 : hatn T (k + 1) j = hatn T k j := by show (if tb T k = 1 then _ else _) = _; rw [if_neg hb]
      have e2 : ∀ t, hdg T (k + 1) j t = hdg T k j t := fun t => by show (if tb T k = 1 then _ else _) = _; rw [if_neg hb]
      rw [e1, tb_hatn T k (by omega), e2, e2]
      by_cases h1 : q = k
      · subst h1
        have n1 : ¬ (5 ≤ q ∧ q < q + 5) := by omega
        have n2 : ¬ (5 ≤ q ∧ q < q + 1 + 5) := by omega
        simp [n1, n2, hb]
        intro z; omega
      · by_cases h2 : q = k + 5
        · subst h2
          have n1 : ¬ k + 5 < k := by omega
          have n2 : ¬ k + 5 < k + 1 := by omega
          simp [n1, n2, hb]
        · have n1 : (q < k + 1) ↔ q < k := by omega
          have n2 : (5 ≤ q ∧ q < k + 1 + 5) ↔ (5 ≤ q ∧ q < k + 5) := by omega
          simp only [n1, n2]
theorem bt_nI (a : Nat) {i : Nat} (hi : i < 32) : bt (nI a) i = a.testBit i := by
  show (BitVec.ofNat 32 a).getLsbD i = _
  rw [BitVec.getLsbD_ofNat]
  simp [hi]
theorem nI_bits {X : Int32} {a : Nat} (h : ∀ i, i < 32 → bt X i = a.testBit i) : X = nI a := by
  apply Int32.toBitVec_inj.mp
  apply BitVec.eq_of_getLsbD_eq
  intro i hi
  show bt X i = bt (nI a) i
  rw [h i hi, bt_nI a hi]
theorem lkn_wv {T : TS} (hW : TW T) (x : Nat → Nat) (j : Nat) : (nI (lkn x (tn T)) &&& ((nI (bset T) ||| nI (bset T) <<< (nI 5 &&& 31)) ^^^ -1)) ||| nI (hatn T (tn T) j) = nI (lkn (wv T x j) (tn T)) := by
  have hn := hW.1
  apply nI_bits
  intro i hi
  rw [b_or, b_and, b_xor, b_or, b_shl 5 (by decide) _ hi, b_m1 i hi, bt_nI _ hi, bt_nI _ hi, bt_nI _ hi, bt_nI _ (show i - 5 < 32 by omega), tb_lkn x _ hn, tb_lkn (wv T x j) _ hn, tb_hatn T _ hn]
  unfold bset
  rw [tb_bits, tb_bits]
  by_cases h5 : i < 5
  · have n1 : ¬ (5 ≤ i ∧ i < tn T + 5) := by omega
    have n2 : ¬ 5 ≤ i := by omega
    by_cases hi2 : i < tn T
    · unfold wv
      by_cases hb : tb T i = 1
      · simp [n1, n2, hi2, hb]
      · simp [n1, n2, hi2, hb]
    · simp [n1, n2, hi2]
  · have n1 : ¬ i < tn T := by omega
    by_cases n2 : i < tn T + 5
    · have n3 : 5 ≤ i ∧ i < tn T + 5 := by omega
      have n4 : i - 5 < tn T := by omega
      have n5 : 5 ≤ i := by omega
      unfold wv
      by_cases hb : tb T (i - 5) = 1
      · simp [n1, n3, n4, n5, hb]
      · simp [n1, n3, n4, n5, hb]
    · have n3 : ¬ (5 ≤ i ∧ i < tn T + 5) := by omega
      simp [n1, n3]
theorem hdg_4 {T : TS} (hv : ∀ t, t < tn T → 1 ≤ tv T t ∧ tv T t ≤ 4) : ∀ k, k ≤ tn T → ∀ j t, t < k → tb T t = 1 → hdg T k j t < tv T t
  | 0, _, _, t, ht, _ => absurd ht (Nat.not_lt_zero t)
  | k + 1, hk, j, t, ht, hb => by
    unfold hdg
    by_cases e : t = k
    · subst e
      rw [if_pos hb, if_pos rfl]
      exact Nat.mod_lt _ (hv t (by omega)).1
    · by_cases hbk : tb T k = 1
      · rw [if_pos hbk, if_neg e]
        exact hdg_4 hv k (by omega) _ t (by omega) hb
      · rw [if_neg hbk]
        exact hdg_4 hv k (by omega) _ t (by omega) hb
theorem wv_4 {T : TS} (hW : TW T) {x : Nat → Nat} (hx : ∀ t, t < tn T → x t < 4) (j : Nat) : ∀ t, t < tn T → wv T x j t < 4 := fun t ht => by
  unfold wv
  split
  · rename_i hb
    exact Nat.lt_of_lt_of_le (hdg_4 hW.2.1 _ (Nat.le_refl _) j t ht hb) (hW.2.1 t ht).2
  · exact hx t ht
/-- in how many things two are unlike -/
def dfn (T : TS) (x y : Nat → Nat) : Nat := many (bits (fun t => x t != y t) (tn T))
def mfl (T : TS) (x y : Nat → Nat) : Bool := ps (tl T) (bits (fun t => x t != y t) (tn T) &&& seen T) 0
def mnH (f : Nat → Nat) : Nat → Nat
  | 0 => 1000
  | n + 1 => if f n < mnH f n then f n else mnH f n
def m1000 (x : Nat) : Nat := if x < 1000 then x else 1000
/-- the fewest others from this place of the row on, with this hat -/
def cst (T : TS) (w : Nat → Nat) : Nat → Nat → Nat → Nat
  | 0, k, h => m1000 (dfn T (tp T (w k)) (wv T (tp T (w k)) h))
  | d + 1, k, h => m1000 (dfn T (tp T (w k)) (wv T (tp T (w k)) h) + mnH (fun h' => if mfl T (wv T (tp T (w k)) h) (wv T (tp T (w (k + 1))) h') = true then cst T w d (k + 1) h' else 1000) (hcn T (tn T)))
section LEND
variable {G : GG} {σ : WW} {T : TS}
theorem hc_le (hW : TW T) : 1 ≤ hcn T (tn T) ∧ hcn T (tn T) ≤ 16 := by
  obtain ⟨a, b⟩ := hcn_le hW.2.1 hW.2.2.1 (tn T) (Nat.le_refl _)
  exact ⟨a, Nat.le_trans b (Nat.pow_le_pow_right (n := 4) (j := 2) (by decide) hW.2.2.2.1)⟩
theorem t_lookWithHat (hT : RT G σ T) {x : Nat → Nat} {j : Nat} (hj : j < hcn T (tn T)) : Mt G mX7_lookWithHat [.ref (ga G 9), .int (nI (lkn x (tn T))), .int (nI j)] σ (some (.int (nI (lkn (wv T x j) (tn T))))) σ := by
  obtain ⟨fv, fl, fh, h9, h21, h22, h23, hW, hv, hl, hh⟩ := hT
  have hc := hc_le hW
  refine Mt.of (by decide +kernel) (Nat.le_of_ble_eq_true rfl) (fun κ C => ?_)
  refine g_iload_n (pc := 0) C dX7_lookWithHat_0 rfl ?_
  refine g_aload_n (pc := 1) C dX7_lookWithHat_1 rfl ?_
  apply gf_X7_28 (pc := 2) C rfl dX7_lookWithHat_2
  · repeat (first | assumption | exact Cl.s (by assumption) | refine Cl.n (by first | decide | omega) ?_)
  · rfl
  refine g_aload_n (pc := 5) C dX7_lookWithHat_5 rfl ?_
  apply gf_X7_28 (pc := 6) C rfl dX7_lookWithHat_6
  · repeat (first | assumption | exact Cl.s (by assumption) | refine Cl.n (by first | decide | omega) ?_)
  · rfl
  refine g_iconst (pc := 9) (v := nI 5) C dX7_lookWithHat_9 (by decide) ?_
  refine g_ishl (pc := 10) C dX7_lookWithHat_10 ?_
  refine g_ior (pc := 11) C dX7_lookWithHat_11 ?_
  refine g_iconst (pc := 12) (v := -1) C dX7_lookWithHat_12 (by decide) ?_
  refine g_ixor (pc := 13) C dX7_lookWithHat_13 ?_
  refine g_iand (pc := 14) C dX7_lookWithHat_14 ?_
  refine g_istore_n (pc := 15) C dX7_lookWithHat_15 (by decide) rfl ?_
  refine g_iload_n (pc := 16) C dX7_lookWithHat_16 rfl ?_
  refine g_if_lt (pc := 17) C 39 dX7_lookWithHat_17 (by decide) (fun c17 => ?_) (fun c17 => ?_)
  · exact absurd c17 (nI_pos (by omega))
  · refine g_iload_n (pc := 20) C dX7_lookWithHat_20 rfl ?_
    refine g_aload_n (pc := 21) C dX7_lookWithHat_21 rfl ?_
    apply gf_X7_31 (pc := 22) C rfl dX7_lookWithHat_22
    · repeat (first | assumption | exact Cl.s (by assumption) | refine Cl.n (by first | decide | omega) ?_)
    · rfl
    refine g_icmp_ge (pc := 25) C 39 dX7_lookWithHat_25 (by decide) (fun c25 => ?_) (fun c25 => ?_)
    · exact absurd c25 (nI_ge hj (by omega))
    · refine g_iload_n (pc := 28) C dX7_lookWithHat_28 rfl ?_
      refine g_aload_n (pc := 29) C dX7_lookWithHat_29 rfl ?_
      apply gf_X7_18 (pc := 30) C rfl dX7_lookWithHat_30
      · repeat (first | assumption | exact Cl.s (by assumption) | refine Cl.n (by first | decide | omega) ?_)
      · rfl
      refine g_iload_n (pc := 33) C dX7_lookWithHat_33 rfl ?_
      apply g_iaload (pc := 34) C dX7_lookWithHat_34
      · repeat (first | assumption | exact Cl.s (by assumption) | refine Cl.n (by first | decide | omega) ?_)
      · exact vp_in_nI (by omega) (by decide)
      refine g_ior (pc := 35) C dX7_lookWithHat_35 ?_
      refine g_goto (pc := 36) C 40 dX7_lookWithHat_36 (by decide) ?_
      exact g_ireturn (pc := 40) C dX7_lookWithHat_40 rfl (by rw [nI_clamp (by omega), hh j hj, lkn_wv hW]) (rfl)
theorem t_mayFollow {r : Nat} {w : Nat → Nat} (hT : RT G σ T) (h8 : ∃ e, Cl G σ 8 (.inr (1, e))) (hr : RR G σ r w) (hr16 : r ≤ 16) (hw : ∀ k, k < r → w k < tm T) {x : Nat → Nat} (hx : ∀ t, t < tn T → x t < 4) {k h : Nat} (hk : k < r) (hh : h < hcn T (tn T)) : Mt G mX1_mayFollow [.ref (ga G 8), .ref (ga G 9), .ref (ga G 3), .int (nI (lkn x (tn T))), .int (nI k), .int (nI h)] σ (some (.int (nI (b2 (mfl T x (wv T (tp T (w k)) h)))))) σ := by
  have hW := hT.w
  have hn := hW.1
  have h3 := hr.1
  obtain ⟨bo, hc0, h9⟩ := hT.c
  have hb32 : ∀ p : Nat → Bool, bits p (tn T) < 32 := fun p => Nat.lt_of_lt_of_le (bits_lt _ _) (Nat.pow_le_pow_right (n := 2) (j := 5) (by decide) hn)
  have hxk := tp4 hT (hw k hk)
  have hu := and_lt32 (b := seen T) (hb32 (fun t => x t != wv T (tp T (w k)) h t))
  refine Mt.of (by decide +kernel) (Nat.le_of_ble_eq_true rfl) (fun κ C => ?_)
  refine g_aload_n (pc := 0) C dX1_mayFollow_0 rfl ?_
  refine g_aload_n (pc := 1) C dX1_mayFollow_1 rfl ?_
  refine g_aload_n (pc := 2) C dX1_mayFollow_2 rfl ?_
  refine g_iload (pc := 3) C dX1_mayFollow_3 rfl ?_
  apply cl_X1_36 (pc := 5) C rfl (t_at hr hk hr16) dX1_mayFollow_5
  · repeat (first | assumption | exact Cl.s (by assumption) | refine Cl.n (by first | decide | omega) ?_)
  · rfl
  · exact Nat.le_of_ble_eq_true rfl
  apply cl_X1_40 (pc := 8) C rfl (t_look hT (hw k hk)) dX1_mayFollow_8
  · repeat (first | assumption | exact Cl.s (by assumption) | refine Cl.n (by first | decide | omega) ?_)
  · rfl
  · exact Nat.le_of_ble_eq_true rfl
  refine g_iload (pc := 11) C dX1_mayFollow_11 rfl ?_
  apply cl_X1_43 (pc := 13) C rfl (t_lookWithHat hT hh) dX1_mayFollow_13
  · repeat (first | assumption | exact Cl.s (by assumption) | refine Cl.n (by first | decide | omega) ?_)
  · rfl
  · exact Nat.le_of_ble_eq_true rfl
  refine g_istore (pc := 16) C dX1_mayFollow_16 (by decide) rfl ?_
  refine g_aload_n (pc := 18) C dX1_mayFollow_18 rfl ?_
  refine g_iload_n (pc := 19) C dX1_mayFollow_19 rfl ?_
  refine g_iload (pc := 20) C dX1_mayFollow_20 rfl ?_
  refine cl_X1_50 (pc := 22) C rfl (t_unlike (lkn_lt _ _ hn) (lkn_lt _ _ hn)) dX1_mayFollow_22 rfl (Nat.le_of_ble_eq_true rfl) ?_
  refine g_aload_n (pc := 25) C dX1_mayFollow_25 rfl ?_
  apply cl_X1_58 (pc := 26) C rfl (t_sees hT) dX1_mayFollow_26
  · repeat (first | assumption | exact Cl.s (by assumption) | refine Cl.n (by first | decide | omega) ?_)
  · rfl
  · exact Nat.le_of_ble_eq_true rfl
  refine g_iand (pc := 29) C dX1_mayFollow_29 ?_
  rw [ulk_lkn hn hx (wv_4 hW hxk h), nx_and]
  refine g_iconst (pc := 30) (v := nI 0) C dX1_mayFollow_30 (by decide) ?_
  apply cl_X1_62 (pc := 31) C rfl (t_lets hT (by omega) (by decide)) dX1_mayFollow_31
  · repeat (first | assumption | exact Cl.s (by assumption) | refine Cl.n (by first | decide | omega) ?_)
  · rfl
  · exact Nat.le_of_ble_eq_true rfl
  exact g_zreturn (pc := 34) C dX1_mayFollow_34 rfl (b2_01 _) (rfl) (rfl)
end LEND

