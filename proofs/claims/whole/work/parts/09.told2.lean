theorem g_ldcw {G : GG} {M : MM} {κ : KK} {r : Option Value} {σ σ' : WW} {pc : Nat} {lv : List (Nat × Value)} {st : List Value} (C : Cx G M κ) {ix : Nat} {v : Int32} (hd : decode (Mc M) pc = .ok (.ldc_w ix, 3)) (hw : Cond.constant (My M).cls ix v ∈ GW) (k : Go G M κ r σ' σ (pc + 3) lv (.int v :: st)) : Go G M κ r σ' σ pc lv st := fun H locs ls hP hS hl => lv_ldcw C.1 C.2.1 C.2.2.2.2.1 (C.2.2.2.2.2.1 _ hw) hd (k H locs ls hP hS hl)
section GO3
variable {G : GG} {M : MM} {κ : KK} {r : Option Value} {σ σ' : WW} {pc : Nat} {lv lv' : List (Nat × Value)} {st : List Value}
theorem g_to (k : Go G M κ r σ' σ pc lv' st) (h : lvs lv lv') : Go G M κ r σ' σ pc lv st := g_lv lv' h k
theorem g_if_nE (C : Cx G M κ) {x : Int32} {off : Int} (tgt : Nat) (hd : decode (Mc M) pc = .ok (.ifCond .ne off, 3)) (ht : (pc : Int) + off = (tgt : Int)) (kt : ¬ x = 0 → Go G M κ r σ' σ tgt lv st) (kf : x = 0 → Go G M κ r σ' σ (pc + 3) lv st) : Go G M κ r σ' σ pc lv (.int x :: st) := g_if_ne C tgt hd ht kt (fun h => kf (Classical.not_not.mp h))
theorem g_icmp_nE (C : Cx G M κ) {x y : Int32} {off : Int} (tgt : Nat) (hd : decode (Mc M) pc = .ok (.if_icmp .ne off, 3)) (ht : (pc : Int) + off = (tgt : Int)) (kt : ¬ x = y → Go G M κ r σ' σ tgt lv st) (kf : x = y → Go G M κ r σ' σ (pc + 3) lv st) : Go G M κ r σ' σ pc lv (.int y :: .int x :: st) := g_icmp_ne C tgt hd ht kt (fun h => kf (Classical.not_not.mp h))
end GO3
theorem lgi {z w : Int32} (e : z = w) : some (Value.int z) = some (Value.int w) := by rw [e]
theorem lgl {z w : Int64} (e : z = w) : some (Value.long z) = some (Value.long w) := by rw [e]
def ush (x : Int32) (k : Nat) : Int32 := (x.toUInt32 >>> ((nI k).toUInt32 &&& Int32.toUInt32 31)).toInt32
def bc1 (x : Int32) : Int32 := x - (ush x 1 &&& 1431655765)
def bc2 (x : Int32) : Int32 := (x &&& 858993459) + (ush x 2 &&& 858993459)
def bc3 (x : Int32) : Int32 := (x + ush x 4) &&& 252645135
def bc4 (x : Int32) : Int32 := x + ush x 8
def bc5 (x : Int32) : Int32 := (x + ush x 16) &&& nI 63
theorem bc_ok : ∀ x, x < 1024 → bc5 (bc4 (bc3 (bc2 (bc1 (nI x))))) = nI (many x) := by decide +kernel
section TOLD2
variable {G : GG} {σ : WW} {T : TS}
theorem many_lt (x : Nat) : many x < 2 ^ 31 := Nat.lt_of_le_of_lt (cnt_le x 10) (by decide)
theorem t_bitCount {x : Nat} (hx : x < 1024) : Mt G mJ6_bitCount_0f7a4 [.int (nI x)] σ (some (.int (nI (many x)))) σ := by
  refine Mt.of (by decide +kernel) (Nat.le_of_ble_eq_true rfl) (fun κ C => ?_)
  refine g_iload_n (pc := 0) C dJ6_bitCount_0f7a4_0 rfl ?_
  refine g_iload_n (pc := 1) C dJ6_bitCount_0f7a4_1 rfl ?_
  refine g_iconst (pc := 2) (v := nI 1) C dJ6_bitCount_0f7a4_2 (by decide) ?_
  refine g_iushr (pc := 3) C dJ6_bitCount_0f7a4_3 ?_
  refine g_ldcw (pc := 4) C dJ6_bitCount_0f7a4_4 k_J6_265 ?_
  refine g_iand (pc := 7) C dJ6_bitCount_0f7a4_7 ?_
  refine g_isub (pc := 8) C dJ6_bitCount_0f7a4_8 ?_
  refine g_istore_n (pc := 9) C dJ6_bitCount_0f7a4_9 (by decide) rfl ?_
  refine g_iload_n (pc := 10) C dJ6_bitCount_0f7a4_10 rfl ?_
  refine g_ldcw (pc := 11) C dJ6_bitCount_0f7a4_11 k_J6_266 ?_
  refine g_iand (pc := 14) C dJ6_bitCount_0f7a4_14 ?_
  refine g_iload_n (pc := 15) C dJ6_bitCount_0f7a4_15 rfl ?_
  refine g_iconst (pc := 16) (v := nI 2) C dJ6_bitCount_0f7a4_16 (by decide) ?_
  refine g_iushr (pc := 17) C dJ6_bitCount_0f7a4_17 ?_
  refine g_ldcw (pc := 18) C dJ6_bitCount_0f7a4_18 k_J6_266 ?_
  refine g_iand (pc := 21) C dJ6_bitCount_0f7a4_21 ?_
  refine g_iadd (pc := 22) C dJ6_bitCount_0f7a4_22 ?_
  refine g_istore_n (pc := 23) C dJ6_bitCount_0f7a4_23 (by decide) rfl ?_
  refine g_iload_n (pc := 24) C dJ6_bitCount_0f7a4_24 rfl ?_
  refine g_iload_n (pc := 25) C dJ6_bitCount_0f7a4_25 rfl ?_
  refine g_iconst (pc := 26) (v := nI 4) C dJ6_bitCount_0f7a4_26 (by decide) ?_
  refine g_iushr (pc := 27) C dJ6_bitCount_0f7a4_27 ?_
  refine g_iadd (pc := 28) C dJ6_bitCount_0f7a4_28 ?_
  refine g_ldcw (pc := 29) C dJ6_bitCount_0f7a4_29 k_J6_267 ?_
  refine g_iand (pc := 32) C dJ6_bitCount_0f7a4_32 ?_
  refine g_istore_n (pc := 33) C dJ6_bitCount_0f7a4_33 (by decide) rfl ?_
  refine g_iload_n (pc := 34) C dJ6_bitCount_0f7a4_34 rfl ?_
  refine g_iload_n (pc := 35) C dJ6_bitCount_0f7a4_35 rfl ?_
  refine g_bipush (pc := 36) (v := nI 8) C dJ6_bitCount_0f7a4_36 (by decide) ?_
  refine g_iushr (pc := 38) C dJ6_bitCount_0f7a4_38 ?_
  refine g_iadd (pc := 39) C dJ6_bitCount_0f7a4_39 ?_
  refine g_istore_n (pc := 40) C dJ6_bitCount_0f7a4_40 (by decide) rfl ?_
  refine g_iload_n (pc := 41) C dJ6_bitCount_0f7a4_41 rfl ?_
  refine g_iload_n (pc := 42) C dJ6_bitCount_0f7a4_42 rfl ?_
  refine g_bipush (pc := 43) (v := nI 16) C dJ6_bitCount_0f7a4_43 (by decide) ?_
  refine g_iushr (pc := 45) C dJ6_bitCount_0f7a4_45 ?_
  refine g_iadd (pc := 46) C dJ6_bitCount_0f7a4_46 ?_
  refine g_istore_n (pc := 47) C dJ6_bitCount_0f7a4_47 (by decide) rfl ?_
  refine g_iload_n (pc := 48) C dJ6_bitCount_0f7a4_48 rfl ?_
  refine g_bipush (pc := 49) (v := nI 63) C dJ6_bitCount_0f7a4_49 (by decide) ?_
  refine g_iand (pc := 51) C dJ6_bitCount_0f7a4_51 ?_
  exact g_ireturn (pc := 52) C dJ6_bitCount_0f7a4_52 rfl (congrArg (fun z => some (Value.int z)) (bc_ok x hx).symm) (rfl)
theorem t_lets (hT : RT G σ T) {u b : Nat} (hu : u < 1024) (hb : b < 2 ^ 31) : Mt G mX7_lets [.ref (ga G 9), .int (nI u), .int (nI b)] σ (some (.int (nI (b2 (ps (tl T) u b))))) σ := by
  obtain ⟨fv, fl, fh, h9, h21, h22, h23, hW, hv, hl, hh⟩ := hT
  have hlaw : tl T = 0 ∨ tl T = 1 ∨ tl T = 2 ∨ tl T = 3 := by have := hW.2.2.2.2.2.2.1; omega
  have hmu := many_lt u
  refine Mt.of (by decide +kernel) (Nat.le_of_ble_eq_true rfl) (fun κ C => ?_)
  refine g_iload_n (pc := 0) C dX7_lets_0 rfl ?_
  refine cl_X7_44 (pc := 1) C rfl (t_bitCount hu) dX7_lets_1 rfl (Nat.le_of_ble_eq_true rfl) ?_
  refine g_istore_n (pc := 4) C dX7_lets_4 (by decide) rfl ?_
  refine g_aload_n (pc := 5) C dX7_lets_5 rfl ?_
  apply gf_X7_34 (pc := 6) C rfl dX7_lets_6
  · repeat (first | assumption | exact Cl.s (by assumption) | refine Cl.n (by first | decide | omega) ?_)
  · rfl
  rcases hlaw with e | e | e | e
  · refine g_tableOut (pc := 9) C 74 dX7_lets_9 (by rw [e]; decide) (by decide) ?_
    refine g_iload_n (pc := 74) C dX7_lets_74 rfl ?_
    refine g_iconst (pc := 75) (v := nI 1) C dX7_lets_75 (by decide) ?_
    refine g_icmp_nE (pc := 76) C 83 dX7_lets_76 (by decide) (fun c76 => ?_) (fun c76 => ?_)
    · refine g_iconst (pc := 83) (v := nI 0) C dX7_lets_83 (by decide) ?_
      exact g_zreturn (pc := 84) C dX7_lets_84 rfl (by first | exact Or.inl rfl | exact Or.inr rfl) (by rw [nI_eq hmu (by decide)] at c76; simp [ps, e, c76, b2]) (rfl)
    · refine g_iconst (pc := 79) (v := nI 1) C dX7_lets_79 (by decide) ?_
      refine g_goto (pc := 80) C 84 dX7_lets_80 (by decide) ?_
      exact g_zreturn (pc := 84) C dX7_lets_84 rfl (by first | exact Or.inl rfl | exact Or.inr rfl) (by rw [nI_eq hmu (by decide)] at c76; simp [ps, e, c76, b2]) (rfl)
  · refine g_tableIn (pc := 9) C 36 dX7_lets_9 (by rw [e]; decide) (by rw [e]; decide) (by rw [e]; rfl) (by decide) ?_
    refine g_iload_n (pc := 36) C dX7_lets_36 rfl ?_
    refine g_iconst (pc := 37) (v := nI 2) C dX7_lets_37 (by decide) ?_
    refine g_icmp_nE (pc := 38) C 45 dX7_lets_38 (by decide) (fun c38 => ?_) (fun c38 => ?_)
    · refine g_iconst (pc := 45) (v := nI 0) C dX7_lets_45 (by decide) ?_
      exact g_zreturn (pc := 46) C dX7_lets_46 rfl (by first | exact Or.inl rfl | exact Or.inr rfl) (by rw [nI_eq hmu (by decide)] at c38; simp [ps, e, c38, b2]) (rfl)
    · refine g_iconst (pc := 41) (v := nI 1) C dX7_lets_41 (by decide) ?_
      refine g_goto (pc := 42) C 46 dX7_lets_42 (by decide) ?_
      exact g_zreturn (pc := 46) C dX7_lets_46 rfl (by first | exact Or.inl rfl | exact Or.inr rfl) (by rw [nI_eq hmu (by decide)] at c38; simp [ps, e, c38, b2]) (rfl)
  · refine g_tableIn (pc := 9) C 47 dX7_lets_9 (by rw [e]; decide) (by rw [e]; decide) (by rw [e]; rfl) (by decide) ?_
    refine g_iload_n (pc := 47) C dX7_lets_47 rfl ?_
    refine g_iconst (pc := 48) (v := nI 1) C dX7_lets_48 (by decide) ?_
    refine g_icmp_nE (pc := 49) C 61 dX7_lets_49 (by decide) (fun c49 => ?_) (fun c49 => ?_)
    · refine g_iconst (pc := 61) (v := nI 0) C dX7_lets_61 (by decide) ?_
      exact g_zreturn (pc := 62) C dX7_lets_62 rfl (by first | exact Or.inl rfl | exact Or.inr rfl) (by first | (rw [nI_eq hmu (by decide)] at c49; rw [nI_eq (by omega) hb] at c54; simp_all [ps, e, b2]; done) | (rw [nI_eq hmu (by decide)] at c49; simp_all [ps, e, b2]; done)) (rfl)
    · refine g_iload_n (pc := 52) C dX7_lets_52 rfl ?_
      refine g_iload_n (pc := 53) C dX7_lets_53 rfl ?_
      refine g_icmp_eq (pc := 54) C 61 dX7_lets_54 (by decide) (fun c54 => ?_) (fun c54 => ?_)
      · refine g_iconst (pc := 61) (v := nI 0) C dX7_lets_61 (by decide) ?_
        exact g_zreturn (pc := 62) C dX7_lets_62 rfl (by first | exact Or.inl rfl | exact Or.inr rfl) (by first | (rw [nI_eq hmu (by decide)] at c49; rw [nI_eq (by omega) hb] at c54; simp_all [ps, e, b2]; done) | (rw [nI_eq hmu (by decide)] at c49; simp_all [ps, e, b2]; done)) (rfl)
      · refine g_iconst (pc := 57) (v := nI 1) C dX7_lets_57 (by decide) ?_
        refine g_goto (pc := 58) C 62 dX7_lets_58 (by decide) ?_
        exact g_zreturn (pc := 62) C dX7_lets_62 rfl (by first | exact Or.inl rfl | exact Or.inr rfl) (by first | (rw [nI_eq hmu (by decide)] at c49; rw [nI_eq (by omega) hb] at c54; simp_all [ps, e, b2]; done) | (rw [nI_eq hmu (by decide)] at c49; simp_all [ps, e, b2]; done)) (rfl)
  · refine g_tableIn (pc := 9) C 63 dX7_lets_9 (by rw [e]; decide) (by rw [e]; decide) (by rw [e]; rfl) (by decide) ?_
    refine g_iload_n (pc := 63) C dX7_lets_63 rfl ?_
    refine g_iconst (pc := 64) (v := nI 1) C dX7_lets_64 (by decide) ?_
    refine g_icmp_gt (pc := 65) C 72 dX7_lets_65 (by decide) (fun c65 => ?_) (fun c65 => ?_)
    · refine g_iconst (pc := 72) (v := nI 0) C dX7_lets_72 (by decide) ?_
      exact g_zreturn (pc := 73) C dX7_lets_73 rfl (by first | exact Or.inl rfl | exact Or.inr rfl) (by rw [nI_ltI (by decide) hmu] at c65; first | (have c : ¬ many u < 2 := (by omega); simp [ps, e, b2, c]; done) | (have c : many u < 2 := (by omega); simp [ps, e, b2, c]; done)) (rfl)
    · refine g_iconst (pc := 68) (v := nI 1) C dX7_lets_68 (by decide) ?_
      refine g_goto (pc := 69) C 73 dX7_lets_69 (by decide) ?_
      exact g_zreturn (pc := 73) C dX7_lets_73 rfl (by first | exact Or.inl rfl | exact Or.inr rfl) (by rw [nI_ltI (by decide) hmu] at c65; first | (have c : ¬ many u < 2 := (by omega); simp [ps, e, b2, c]; done) | (have c : many u < 2 := (by omega); simp [ps, e, b2, c]; done)) (rfl)
def brd (bar : Nat) : Nat := if bar = 0 then 0 else 1 <<< (bar - 1)
theorem t_barredBy {bar : Nat} (hb : bar ≤ 5) : Mt G mX9_barredBy [.int (nI bar)] σ (some (.int (nI (brd bar)))) σ := by
  refine Mt.of (by decide +kernel) (Nat.le_of_ble_eq_true rfl) (fun κ C => ?_)
  refine g_iload_n (pc := 0) C dX9_barredBy_0 rfl ?_
  refine g_if_nE (pc := 1) C 8 dX9_barredBy_1 (by decide) (fun c1 => ?_) (fun c1 => ?_)
  · refine g_iconst (pc := 8) (v := nI 1) C dX9_barredBy_8 (by decide) ?_
    refine g_iload_n (pc := 9) C dX9_barredBy_9 rfl ?_
    refine g_iconst (pc := 10) (v := nI 1) C dX9_barredBy_10 (by decide) ?_
    refine g_isub (pc := 11) C dX9_barredBy_11 ?_
    refine g_ishl (pc := 12) C dX9_barredBy_12 ?_
    exact g_ireturn (pc := 13) C dX9_barredBy_13 rfl (by first | (rw [nx_0, nI_eq (by omega) (by decide)] at c1; rw [pk_sub (by omega), nx_shl _ (by omega)]; simp [brd, c1]; done) | (rw [nx_0, nI_eq (by omega) (by decide)] at c1; simp_all [brd]; done)) (rfl)
  · refine g_iconst (pc := 4) (v := nI 0) C dX9_barredBy_4 (by decide) ?_
    refine g_goto (pc := 5) C 13 dX9_barredBy_5 (by decide) ?_
    exact g_ireturn (pc := 13) C dX9_barredBy_13 rfl (by first | (rw [nx_0, nI_eq (by omega) (by decide)] at c1; rw [pk_sub (by omega), nx_shl _ (by omega)]; simp [brd, c1]; done) | (rw [nx_0, nI_eq (by omega) (by decide)] at c1; simp_all [brd]; done)) (rfl)
def vlk (a t : Nat) : Nat := ((a >>> t) &&& 1) ||| (((a >>> (t + 5)) &&& 1) <<< 1)
theorem t_valueOf {a t : Nat} (ha : a < 1024) (ht : t < 5) : Mt G mX9_valueOf [.int (nI a), .int (nI t)] σ (some (.int (nI (vlk a t)))) σ := by
  refine Mt.of (by decide +kernel) (Nat.le_of_ble_eq_true rfl) (fun κ C => ?_)
  refine g_iload_n (pc := 0) C dX9_valueOf_0 rfl ?_
  refine g_iload_n (pc := 1) C dX9_valueOf_1 rfl ?_
  refine g_iushr (pc := 2) C dX9_valueOf_2 ?_
  refine g_iconst (pc := 3) (v := nI 1) C dX9_valueOf_3 (by decide) ?_
  refine g_iand (pc := 4) C dX9_valueOf_4 ?_
  refine g_iload_n (pc := 5) C dX9_valueOf_5 rfl ?_
  refine g_iload_n (pc := 6) C dX9_valueOf_6 rfl ?_
  refine g_iconst (pc := 7) (v := nI 5) C dX9_valueOf_7 (by decide) ?_
  refine g_iadd (pc := 8) C dX9_valueOf_8 ?_
  refine g_iushr (pc := 9) C dX9_valueOf_9 ?_
  refine g_iconst (pc := 10) (v := nI 1) C dX9_valueOf_10 (by decide) ?_
  refine g_iand (pc := 11) C dX9_valueOf_11 ?_
  refine g_iconst (pc := 12) (v := nI 1) C dX9_valueOf_12 (by decide) ?_
  refine g_ishl (pc := 13) C dX9_valueOf_13 ?_
  refine g_ior (pc := 14) C dX9_valueOf_14 ?_
  exact g_ireturn (pc := 15) C dX9_valueOf_15 rfl (by rw [nI_add, nx_ush (by omega) (by omega), nx_ush (by omega) (by omega), nx_and, nx_and, nx_shl _ (by decide), nx_or]; rfl) (rfl)
theorem t_lookWith {t v : Nat} (ht : t < 5) (hv : v < 4) : Mt G mX9_lookWith [.int (nI t), .int (nI v)] σ (some (.int (nI (lw t v)))) σ := by
  refine Mt.of (by decide +kernel) (Nat.le_of_ble_eq_true rfl) (fun κ C => ?_)
  refine g_iload_n (pc := 0) C dX9_lookWith_0 rfl ?_
  refine g_iconst (pc := 1) (v := nI 1) C dX9_lookWith_1 (by decide) ?_
  refine g_iand (pc := 2) C dX9_lookWith_2 ?_
  refine g_iload_n (pc := 3) C dX9_lookWith_3 rfl ?_
  refine g_ishl (pc := 4) C dX9_lookWith_4 ?_
  refine g_iload_n (pc := 5) C dX9_lookWith_5 rfl ?_
  refine g_iconst (pc := 6) (v := nI 1) C dX9_lookWith_6 (by decide) ?_
  refine g_iushr (pc := 7) C dX9_lookWith_7 ?_
  refine g_iconst (pc := 8) (v := nI 1) C dX9_lookWith_8 (by decide) ?_
  refine g_iand (pc := 9) C dX9_lookWith_9 ?_
  refine g_iload_n (pc := 10) C dX9_lookWith_10 rfl ?_
  refine g_iconst (pc := 11) (v := nI 5) C dX9_lookWith_11 (by decide) ?_
  refine g_iadd (pc := 12) C dX9_lookWith_12 ?_
  refine g_ishl (pc := 13) C dX9_lookWith_13 ?_
  refine g_ior (pc := 14) C dX9_lookWith_14 ?_
  exact g_ireturn (pc := 15) C dX9_lookWith_15 rfl (by rw [nI_add, nx_and, nx_shl _ (by omega), nx_ush (by omega) (by decide), nx_and, nx_shl _ (by omega), nx_or]; rfl) (rfl)
theorem vlk_lkn {v : Nat → Nat} {n t : Nat} (hn : n ≤ 5) (ht : t < n) (hv : v t < 4) : vlk (lkn v n) t = v t := by
  have h0 : ∀ x, x < 4 → (b2 (x.testBit 0) ||| (b2 (x.testBit 1) <<< 1)) = x := by decide
  have e : ∀ a j, (a >>> j) &&& 1 = b2 (Nat.testBit a j) := by
    intro a j
    unfold Nat.testBit b2
    rw [Nat.and_comm 1, Nat.and_one_is_mod]
    rcases Nat.mod_two_eq_zero_or_one (a >>> j) with h | h <;> simp [h]
  unfold vlk
  rw [e, e, tb_lkn v n hn, tb_lkn v n hn]
  have e1 : ¬ (5 ≤ t ∧ t < n + 5) := by omega
  have e2 : ¬ (t + 5 < n) := by omega
  have e3 : 5 ≤ t + 5 ∧ t + 5 < n + 5 := by omega
  have e4 : t + 5 - 5 = t := by omega
  simp only [e1, e2, e3, e4, ht, and_self, decide_true, decide_false, Bool.true_and, Bool.false_and, Bool.or_false, Bool.false_or]
  exact h0 (v t) hv
theorem t_allThings (hT : RT G σ T) : Mt G mX7_allThings [.ref (ga G 9)] σ (some (.int (nI (1 <<< tn T - 1)))) σ := by
  obtain ⟨fv, fl, fh, h9, h21, h22, h23, hW, hv, hl, hh⟩ := hT
  have hn := hW.1
  refine Mt.of (by decide +kernel) (Nat.le_of_ble_eq_true rfl) (fun κ C => ?_)
  refine g_iconst (pc := 0) (v := nI 1) C dX7_allThings_0 (by decide) ?_
  refine g_aload_n (pc := 1) C dX7_allThings_1 rfl ?_
  apply gf_X7_21 (pc := 2) C rfl dX7_allThings_2
  · repeat (first | assumption | exact Cl.s (by assumption) | refine Cl.n (by first | decide | omega) ?_)
  · rfl
  refine g_ishl (pc := 5) C dX7_allThings_5 ?_
  refine g_iconst (pc := 6) (v := nI 1) C dX7_allThings_6 (by decide) ?_
  refine g_isub (pc := 7) C dX7_allThings_7 ?_
  exact g_ireturn (pc := 8) C dX7_allThings_8 rfl (by rw [nx_shl _ (by omega), pk_sub (by rw [Nat.shiftLeft_eq, Nat.one_mul]; exact Nat.one_le_two_pow)]) (rfl)
def brs (T : TS) : Nat := if tl T = 2 then tn T + 1 else 1
theorem t_bars (hT : RT G σ T) : Mt G mX7_bars [.ref (ga G 9)] σ (some (.int (nI (brs T)))) σ := by
  obtain ⟨fv, fl, fh, h9, h21, h22, h23, hW, hv, hl, hh⟩ := hT
  have hlaw := hW.2.2.2.2.2.2.1
  refine Mt.of (by decide +kernel) (Nat.le_of_ble_eq_true rfl) (fun κ C => ?_)
  refine g_aload_n (pc := 0) C dX7_bars_0 rfl ?_
  apply gf_X7_34 (pc := 1) C rfl dX7_bars_1
  · repeat (first | assumption | exact Cl.s (by assumption) | refine Cl.n (by first | decide | omega) ?_)
  · rfl
  refine g_iconst (pc := 4) (v := nI 2) C dX7_bars_4 (by decide) ?_
  refine g_icmp_nE (pc := 5) C 17 dX7_bars_5 (by decide) (fun c5 => ?_) (fun c5 => ?_)
  · refine g_iconst (pc := 17) (v := nI 1) C dX7_bars_17 (by decide) ?_
    exact g_ireturn (pc := 18) C dX7_bars_18 rfl (by rw [nI_eq (by omega) (by decide)] at c5; simp [brs, c5, nI_add]) (rfl)
  · refine g_aload_n (pc := 8) C dX7_bars_8 rfl ?_
    apply gf_X7_21 (pc := 9) C rfl dX7_bars_9
    · repeat (first | assumption | exact Cl.s (by assumption) | refine Cl.n (by first | decide | omega) ?_)
    · rfl
    refine g_iconst (pc := 12) (v := nI 1) C dX7_bars_12 (by decide) ?_
    refine g_iadd (pc := 13) C dX7_bars_13 ?_
    refine g_goto (pc := 14) C 18 dX7_bars_14 (by decide) ?_
    exact g_ireturn (pc := 18) C dX7_bars_18 rfl (by rw [nI_eq (by omega) (by decide)] at c5; simp [brs, c5, nI_add]) (rfl)
/-- the code of values, the first thing's the highest -/
def cdn (v x : Nat → Nat) : Nat → Nat
  | 0 => 0
  | t + 1 => cdn v x t * v t + x t
theorem t_code (hT : RT G σ T) {x : Nat → Nat} (hx : ∀ t, t < tn T → x t < 4) : Mt G mX7_code [.ref (ga G 9), .int (nI (lkn x (tn T)))] σ (some (.int (nI (cdn (tv T) x (tn T))))) σ := by
  obtain ⟨fv, fl, fh, h9, h21, h22, h23, hW, hv, hl, hh⟩ := hT
  have hn := hW.1
  refine Mt.of (by decide +kernel) (Nat.le_of_ble_eq_true rfl) (fun κ C => ?_)
  have loop : ∀ d i, i + d = tn T → Go G mX7_code κ (some (.int (nI (cdn (tv T) x (tn T))))) σ σ 4 [(0, .ref (ga G 9)), (1, .int (nI (lkn x (tn T)))), (2, .int (nI (cdn (tv T) x i))), (3, .int (nI i))] [] := by
    intro d
    induction d with
    | zero =>
      intro i hi
      refine g_iload_n (pc := 4) C dX7_code_4 rfl ?_
      refine g_aload_n (pc := 5) C dX7_code_5 rfl ?_
      apply gf_X7_21 (pc := 6) C rfl dX7_code_6
      · repeat (first | assumption | exact Cl.s (by assumption) | refine Cl.n (by first | decide | omega) ?_)
      · rfl
      refine g_icmp_ge (pc := 9) C 33 dX7_code_9 (by decide) (fun c9 => ?_) (fun c9 => ?_)
      · refine g_iload_n (pc := 33) C dX7_code_33 rfl ?_
        exact g_ireturn (pc := 34) C dX7_code_34 rfl (by rw [show i = tn T by omega]) (rfl)
      · exact absurd (nI_le (by omega) (by omega)) c9
    | succ d ih =>
      intro i hi
      refine g_iload_n (pc := 4) C dX7_code_4 rfl ?_
      refine g_aload_n (pc := 5) C dX7_code_5 rfl ?_
      apply gf_X7_21 (pc := 6) C rfl dX7_code_6
      · repeat (first | assumption | exact Cl.s (by assumption) | refine Cl.n (by first | decide | omega) ?_)
      · rfl
      refine g_icmp_ge (pc := 9) C 33 dX7_code_9 (by decide) (fun c9 => ?_) (fun c9 => ?_)
      · exact absurd c9 (nI_ge (by omega) (by omega))
      · refine g_iload_n (pc := 12) C dX7_code_12 rfl ?_
        refine g_aload_n (pc := 13) C dX7_code_13 rfl ?_
        apply gf_X7_9 (pc := 14) C rfl dX7_code_14
        · repeat (first | assumption | exact Cl.s (by assumption) | refine Cl.n (by first | decide | omega) ?_)
        · rfl
        refine g_iload_n (pc := 17) C dX7_code_17 rfl ?_
        apply g_iaload (pc := 18) C dX7_code_18
        · repeat (first | assumption | exact Cl.s (by assumption) | refine Cl.n (by first | decide | omega) ?_)
        · exact vp_in_nI (by omega) (by omega)
        refine g_imul (pc := 19) C dX7_code_19 ?_
        refine g_iload_n (pc := 20) C dX7_code_20 rfl ?_
        refine g_iload_n (pc := 21) C dX7_code_21 rfl ?_
        refine cl_X7_64 (pc := 22) C rfl (t_valueOf (lkn_lt _ _ hn) (by omega)) dX7_code_22 rfl (Nat.le_of_ble_eq_true rfl) ?_
        refine g_iadd (pc := 25) C dX7_code_25 ?_
        refine g_istore_n (pc := 26) C dX7_code_26 (by decide) rfl ?_
        refine g_iinc (pc := 27) C dX7_code_27 rfl (by decide) rfl ?_
        refine g_goto (pc := 30) C 4 dX7_code_30 (by decide) ?_
        exact g_to (ih (i + 1) (by omega)) ⟨rfl, rfl, lgi (by rw [nI_clamp (by omega), hv i (by omega), vlk_lkn hn (by omega) (hx i (by omega)), pk_mul, nI_add]; rfl), lgi (nI_1 i), trivial⟩
  refine g_iconst (pc := 0) (v := nI 0) C dX7_code_0 (by decide) ?_
  refine g_istore_n (pc := 1) C dX7_code_1 (by decide) rfl ?_
  refine g_iconst (pc := 2) (v := nI 0) C dX7_code_2 (by decide) ?_
  refine g_istore_n (pc := 3) C dX7_code_3 (by decide) rfl ?_
  exact g_to (loop (tn T) 0 (by omega)) ⟨rfl, rfl, rfl, rfl, trivial⟩
def cds (v : Nat → Nat) : Nat → Nat
  | 0 => 1
  | t + 1 => cds v t * v t
theorem t_codes (hT : RT G σ T) : Mt G mX7_codes [.ref (ga G 9)] σ (some (.int (nI (cds (tv T) (tn T))))) σ := by
  obtain ⟨fv, fl, fh, h9, h21, h22, h23, hW, hv, hl, hh⟩ := hT
  have hn := hW.1
  refine Mt.of (by decide +kernel) (Nat.le_of_ble_eq_true rfl) (fun κ C => ?_)
  have loop : ∀ d i, i + d = tn T → Go G mX7_codes κ (some (.int (nI (cds (tv T) (tn T))))) σ σ 4 [(0, .ref (ga G 9)), (1, .int (nI (cds (tv T) i))), (2, .int (nI i))] [] := by
    intro d
    induction d with
    | zero =>
      intro i hi
      refine g_iload_n (pc := 4) C dX7_codes_4 rfl ?_
      refine g_aload_n (pc := 5) C dX7_codes_5 rfl ?_
      apply gf_X7_21 (pc := 6) C rfl dX7_codes_6
      · repeat (first | assumption | exact Cl.s (by assumption) | refine Cl.n (by first | decide | omega) ?_)
      · rfl
      refine g_icmp_ge (pc := 9) C 27 dX7_codes_9 (by decide) (fun c9 => ?_) (fun c9 => ?_)
      · refine g_iload_n (pc := 27) C dX7_codes_27 rfl ?_
        exact g_ireturn (pc := 28) C dX7_codes_28 rfl (by rw [show i = tn T by omega]) (rfl)
      · exact absurd (nI_le (by omega) (by omega)) c9
    | succ d ih =>
      intro i hi
      refine g_iload_n (pc := 4) C dX7_codes_4 rfl ?_
      refine g_aload_n (pc := 5) C dX7_codes_5 rfl ?_
      apply gf_X7_21 (pc := 6) C rfl dX7_codes_6
      · repeat (first | assumption | exact Cl.s (by assumption) | refine Cl.n (by first | decide | omega) ?_)
      · rfl
      refine g_icmp_ge (pc := 9) C 27 dX7_codes_9 (by decide) (fun c9 => ?_) (fun c9 => ?_)
      · exact absurd c9 (nI_ge (by omega) (by omega))
      · refine g_iload_n (pc := 12) C dX7_codes_12 rfl ?_
        refine g_aload_n (pc := 13) C dX7_codes_13 rfl ?_
        apply gf_X7_9 (pc := 14) C rfl dX7_codes_14
        · repeat (first | assumption | exact Cl.s (by assumption) | refine Cl.n (by first | decide | omega) ?_)
        · rfl
        refine g_iload_n (pc := 17) C dX7_codes_17 rfl ?_
        apply g_iaload (pc := 18) C dX7_codes_18
        · repeat (first | assumption | exact Cl.s (by assumption) | refine Cl.n (by first | decide | omega) ?_)
        · exact vp_in_nI (by omega) (by omega)
        refine g_imul (pc := 19) C dX7_codes_19 ?_
        refine g_istore_n (pc := 20) C dX7_codes_20 (by decide) rfl ?_
        refine g_iinc (pc := 21) C dX7_codes_21 rfl (by decide) rfl ?_
        refine g_goto (pc := 24) C 4 dX7_codes_24 (by decide) ?_
        exact g_to (ih (i + 1) (by omega)) ⟨rfl, lgi (by rw [nI_clamp (by omega), hv i (by omega), pk_mul]; rfl), lgi (nI_1 i), trivial⟩
  refine g_iconst (pc := 0) (v := nI 1) C dX7_codes_0 (by decide) ?_
  refine g_istore_n (pc := 1) C dX7_codes_1 (by decide) rfl ?_
  refine g_iconst (pc := 2) (v := nI 0) C dX7_codes_2 (by decide) ?_
  refine g_istore_n (pc := 3) C dX7_codes_3 (by decide) rfl ?_
  exact g_to (loop (tn T) 0 (by omega)) ⟨rfl, rfl, rfl, trivial⟩
/-- the bar behind one who differed in this set: the thing and 1, if it is one alone, by TURNS -/
def bbs (u : Nat) : Nat → Nat → Nat
  | 0, _ => 0
  | d + 1, t => if u = 1 <<< t then t + 1 else bbs u d (t + 1)
def bb (T : TS) (u : Nat) : Nat := if tl T = 2 then bbs u (tn T) 0 else 0
theorem t_barBehind (hT : RT G σ T) {u : Nat} (hu : u < 1024) : Mt G mX7_barBehind [.ref (ga G 9), .int (nI u)] σ (some (.int (nI (bb T u)))) σ := by
  obtain ⟨fv, fl, fh, h9, h21, h22, h23, hW, hv, hl, hh⟩ := hT
  have hn := hW.1
  have hlaw := hW.2.2.2.2.2.2.1
  refine Mt.of (by decide +kernel) (Nat.le_of_ble_eq_true rfl) (fun κ C => ?_)
  have loop : ∀ d i, i + d = tn T → Go G mX7_barBehind κ (some (.int (nI (bbs u d i)))) σ σ 10 [(0, .ref (ga G 9)), (1, .int (nI u)), (2, .int (nI i))] [] := by
    intro d
    induction d with
    | zero =>
      intro i hi
      refine g_iload_n (pc := 10) C dX7_barBehind_10 rfl ?_
      refine g_aload_n (pc := 11) C dX7_barBehind_11 rfl ?_
      apply gf_X7_21 (pc := 12) C rfl dX7_barBehind_12
      · repeat (first | assumption | exact Cl.s (by assumption) | refine Cl.n (by first | decide | omega) ?_)
      · rfl
      refine g_icmp_ge (pc := 15) C 35 dX7_barBehind_15 (by decide) (fun c15 => ?_) (fun c15 => ?_)
      · refine g_iconst (pc := 35) (v := nI 0) C dX7_barBehind_35 (by decide) ?_
        exact g_ireturn (pc := 36) C dX7_barBehind_36 rfl (rfl) (rfl)
      · exact absurd (nI_le (by omega) (by omega)) c15
    | succ d ih =>
      intro i hi
      have hs : 1 <<< i < 2 ^ 31 := by rw [Nat.shiftLeft_eq, Nat.one_mul]; exact Nat.pow_lt_pow_right (by decide) (by omega)
      by_cases hc : u = 1 <<< i
      · refine g_iload_n (pc := 10) C dX7_barBehind_10 rfl ?_
        refine g_aload_n (pc := 11) C dX7_barBehind_11 rfl ?_
        apply gf_X7_21 (pc := 12) C rfl dX7_barBehind_12
        · repeat (first | assumption | exact Cl.s (by assumption) | refine Cl.n (by first | decide | omega) ?_)
        · rfl
        refine g_icmp_ge (pc := 15) C 35 dX7_barBehind_15 (by decide) (fun c15 => ?_) (fun c15 => ?_)
        · exact absurd c15 (nI_ge (by omega) (by omega))
        · refine g_iload_n (pc := 18) C dX7_barBehind_18 rfl ?_
          refine g_iconst (pc := 19) (v := nI 1) C dX7_barBehind_19 (by decide) ?_
          refine g_iload_n (pc := 20) C dX7_barBehind_20 rfl ?_
          refine g_ishl (pc := 21) C dX7_barBehind_21 ?_
          refine g_icmp_nE (pc := 22) C 29 dX7_barBehind_22 (by decide) (fun c22 => ?_) (fun c22 => ?_)
          · exact absurd (by rw [nx_shl _ (by omega), ← hc]) c22
          · refine g_iload_n (pc := 25) C dX7_barBehind_25 rfl ?_
            refine g_iconst (pc := 26) (v := nI 1) C dX7_barBehind_26 (by decide) ?_
            refine g_iadd (pc := 27) C dX7_barBehind_27 ?_
            exact g_ireturn (pc := 28) C dX7_barBehind_28 rfl (by rw [nI_add]; simp [bbs, hc]) (rfl)
      · have e : bbs u (d + 1) i = bbs u d (i + 1) := by simp [bbs, hc]
        rw [e]
        refine g_iload_n (pc := 10) C dX7_barBehind_10 rfl ?_
        refine g_aload_n (pc := 11) C dX7_barBehind_11 rfl ?_
        apply gf_X7_21 (pc := 12) C rfl dX7_barBehind_12
        · repeat (first | assumption | exact Cl.s (by assumption) | refine Cl.n (by first | decide | omega) ?_)
        · rfl
        refine g_icmp_ge (pc := 15) C 35 dX7_barBehind_15 (by decide) (fun c15 => ?_) (fun c15 => ?_)
        · exact absurd c15 (nI_ge (by omega) (by omega))
        · refine g_iload_n (pc := 18) C dX7_barBehind_18 rfl ?_
          refine g_iconst (pc := 19) (v := nI 1) C dX7_barBehind_19 (by decide) ?_
          refine g_iload_n (pc := 20) C dX7_barBehind_20 rfl ?_
          refine g_ishl (pc := 21) C dX7_barBehind_21 ?_
          refine g_icmp_nE (pc := 22) C 29 dX7_barBehind_22 (by decide) (fun c22 => ?_) (fun c22 => ?_)
          · refine g_iinc (pc := 29) C dX7_barBehind_29 rfl (by decide) rfl ?_
            refine g_goto (pc := 32) C 10 dX7_barBehind_32 (by decide) ?_
            exact g_to (ih (i + 1) (by omega)) ⟨rfl, rfl, lgi (nI_1 i), trivial⟩
          · exact absurd (by rw [nx_shl _ (by omega), nI_eq (by omega) hs] at c22; exact c22) hc
  by_cases hc : tl T = 2
  · have e : bb T u = bbs u (tn T) 0 := by simp [bb, hc]
    rw [e]
    refine g_aload_n (pc := 0) C dX7_barBehind_0 rfl ?_
    apply gf_X7_34 (pc := 1) C rfl dX7_barBehind_1
    · repeat (first | assumption | exact Cl.s (by assumption) | refine Cl.n (by first | decide | omega) ?_)
    · rfl
    refine g_iconst (pc := 4) (v := nI 2) C dX7_barBehind_4 (by decide) ?_
    refine g_icmp_nE (pc := 5) C 35 dX7_barBehind_5 (by decide) (fun c5 => ?_) (fun c5 => ?_)
    · exact absurd (by rw [hc]) c5
    · refine g_iconst (pc := 8) (v := nI 0) C dX7_barBehind_8 (by decide) ?_
      refine g_istore_n (pc := 9) C dX7_barBehind_9 (by decide) rfl ?_
      exact g_to (loop (tn T) 0 (by omega)) ⟨rfl, rfl, rfl, trivial⟩
  · have e : bb T u = 0 := by simp [bb, hc]
    rw [e]
    refine g_aload_n (pc := 0) C dX7_barBehind_0 rfl ?_
    apply gf_X7_34 (pc := 1) C rfl dX7_barBehind_1
    · repeat (first | assumption | exact Cl.s (by assumption) | refine Cl.n (by first | decide | omega) ?_)
    · rfl
    refine g_iconst (pc := 4) (v := nI 2) C dX7_barBehind_4 (by decide) ?_
    refine g_icmp_nE (pc := 5) C 35 dX7_barBehind_5 (by decide) (fun c5 => ?_) (fun c5 => ?_)
    · refine g_iconst (pc := 35) (v := nI 0) C dX7_barBehind_35 (by decide) ?_
      exact g_ireturn (pc := 36) C dX7_barBehind_36 rfl (rfl) (rfl)
    · exact absurd (by rw [nI_eq (by omega) (by decide)] at c5; exact c5) hc
end TOLD2

