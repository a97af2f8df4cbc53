/-! proof and mustSee -/
def absI (x : Int32) : Int32 := if 0 ≤ x then x else 0 - x
section MATH
variable {G : GG} {M : MM} {κ : KK} {r : Option Value} {σ σ' : WW} {pc : Nat} {lv : List (Nat × Value)} {st : List Value}
theorem g_mmax (C : Cx G M κ) {ix : Nat} {x y : Int32} (hd : decode (Mc M) pc = .ok (.invokestatic ix, 3)) (hw : ∀ w ∈ ([.methodLink (My M).cls ix Lib.Math.max.name, .static Lib.Math.max.name, .initialized "java/lang/Math", .code Lib.Math.max.name Lib.Math.max.code 2 (some .int)] : List Cond), w ∈ GW) (hf : 1 ≤ (Mr M).frames) (hlo : (st.map fun v => v.category).sum + 13 ≤ (Mr M).locals) (kk : Go G M κ r σ' σ (pc + 3) lv (.int (if x < y then y else x) :: st)) : Go G M κ r σ' σ pc lv (.int y :: .int x :: st) := fun H locs ls hP hS hl => va_mmax C.1 C.2.1 (C.ml.trans hl.1.symm) C.own (C.ts _ (hw _ (List.mem_cons_self))) (C.ts _ (hw _ (List.mem_cons_of_mem _ List.mem_cons_self))) (C.ts _ (hw _ (List.mem_cons_of_mem _ (List.mem_cons_of_mem _ List.mem_cons_self)))) (C.ts _ (hw _ (List.mem_cons_of_mem _ (List.mem_cons_of_mem _ (List.mem_cons_of_mem _ List.mem_cons_self))))) hf hlo (Nat.zero_le _) (Nat.zero_le _) hd (kk H locs ls hP hS hl)
theorem g_mmin (C : Cx G M κ) {ix : Nat} {x y : Int32} (hd : decode (Mc M) pc = .ok (.invokestatic ix, 3)) (hw : ∀ w ∈ ([.methodLink (My M).cls ix Lib.Math.min.name, .static Lib.Math.min.name, .initialized "java/lang/Math", .code Lib.Math.min.name Lib.Math.min.code 2 (some .int)] : List Cond), w ∈ GW) (hf : 1 ≤ (Mr M).frames) (hlo : (st.map fun v => v.category).sum + 13 ≤ (Mr M).locals) (kk : Go G M κ r σ' σ (pc + 3) lv (.int (if y < x then y else x) :: st)) : Go G M κ r σ' σ pc lv (.int y :: .int x :: st) := fun H locs ls hP hS hl => va_mmin C.1 C.2.1 (C.ml.trans hl.1.symm) C.own (C.ts _ (hw _ (List.mem_cons_self))) (C.ts _ (hw _ (List.mem_cons_of_mem _ List.mem_cons_self))) (C.ts _ (hw _ (List.mem_cons_of_mem _ (List.mem_cons_of_mem _ List.mem_cons_self)))) (C.ts _ (hw _ (List.mem_cons_of_mem _ (List.mem_cons_of_mem _ (List.mem_cons_of_mem _ List.mem_cons_self))))) hf hlo (Nat.zero_le _) (Nat.zero_le _) hd (kk H locs ls hP hS hl)
theorem g_mabs (C : Cx G M κ) {ix : Nat} {x : Int32} (hd : decode (Mc M) pc = .ok (.invokestatic ix, 3)) (hw : ∀ w ∈ ([.methodLink (My M).cls ix Lib.Math.abs.name, .static Lib.Math.abs.name, .initialized "java/lang/Math", .code Lib.Math.abs.name Lib.Math.abs.code 1 (some .int)] : List Cond), w ∈ GW) (hf : 1 ≤ (Mr M).frames) (hlo : (st.map fun v => v.category).sum + 13 ≤ (Mr M).locals) (kk : Go G M κ r σ' σ (pc + 3) lv (.int (absI x) :: st)) : Go G M κ r σ' σ pc lv (.int x :: st) := fun H locs ls hP hS hl => va_mabs C.1 C.2.1 (C.ml.trans hl.1.symm) C.own (C.ts _ (hw _ (List.mem_cons_self))) (C.ts _ (hw _ (List.mem_cons_of_mem _ List.mem_cons_self))) (C.ts _ (hw _ (List.mem_cons_of_mem _ (List.mem_cons_of_mem _ List.mem_cons_self)))) (C.ts _ (hw _ (List.mem_cons_of_mem _ (List.mem_cons_of_mem _ (List.mem_cons_of_mem _ List.mem_cons_self))))) hf hlo (Nat.zero_le _) (Nat.zero_le _) hd (kk H locs ls hP hS hl)
end MATH
theorem w_mmax : ∀ w ∈ ([.methodLink RX3 33 Lib.Math.max.name, .static Lib.Math.max.name, .initialized "java/lang/Math", .code Lib.Math.max.name Lib.Math.max.code 2 (some .int)] : List Cond), w ∈ GW := List.forall_mem_cons.mpr ⟨gw_tbl (List.mem_of_getElem? (i := 533) (by decide +kernel)) (by decide +kernel), List.forall_mem_cons.mpr ⟨gw_tbl (List.mem_of_getElem? (i := 534) (by decide +kernel)) (by decide +kernel), List.forall_mem_cons.mpr ⟨gw_tbl (List.mem_of_getElem? (i := 18) (by decide +kernel)) (by decide +kernel), List.forall_mem_cons.mpr ⟨gw_tbl (List.mem_of_getElem? (i := 535) (by decide +kernel)) (by decide +kernel), fun _ h => absurd h List.not_mem_nil⟩⟩⟩⟩
theorem w_mabs : ∀ w ∈ ([.methodLink RX9 198 Lib.Math.abs.name, .static Lib.Math.abs.name, .initialized "java/lang/Math", .code Lib.Math.abs.name Lib.Math.abs.code 1 (some .int)] : List Cond), w ∈ GW := List.forall_mem_cons.mpr ⟨gw_tbl (List.mem_of_getElem? (i := 565) (by decide +kernel)) (by decide +kernel), List.forall_mem_cons.mpr ⟨gw_tbl (List.mem_of_getElem? (i := 566) (by decide +kernel)) (by decide +kernel), List.forall_mem_cons.mpr ⟨gw_tbl (List.mem_of_getElem? (i := 18) (by decide +kernel)) (by decide +kernel), List.forall_mem_cons.mpr ⟨gw_tbl (List.mem_of_getElem? (i := 567) (by decide +kernel)) (by decide +kernel), fun _ h => absurd h List.not_mem_nil⟩⟩⟩⟩
theorem w_mmin : ∀ w ∈ ([.methodLink RX1 30 Lib.Math.min.name, .static Lib.Math.min.name, .initialized "java/lang/Math", .code Lib.Math.min.name Lib.Math.min.code 2 (some .int)] : List Cond), w ∈ GW := List.forall_mem_cons.mpr ⟨gw_tbl (List.mem_of_getElem? (i := 670) (by decide +kernel)) (by decide +kernel), List.forall_mem_cons.mpr ⟨gw_tbl (List.mem_of_getElem? (i := 671) (by decide +kernel)) (by decide +kernel), List.forall_mem_cons.mpr ⟨gw_tbl (List.mem_of_getElem? (i := 18) (by decide +kernel)) (by decide +kernel), List.forall_mem_cons.mpr ⟨gw_tbl (List.mem_of_getElem? (i := 672) (by decide +kernel)) (by decide +kernel), fun _ h => absurd h List.not_mem_nil⟩⟩⟩⟩
def moreT (T : TS) : Nat := bits (fun t => decide (2 < tv T t)) (tn T)
def oe (T : TS) : Nat → Int32
  | 0 => nI 0
  | i + 1 => oe T i + (if many (lkn (tp T i) (tn T) &&& 31) % 2 = 1 then nI 1 else -1)
def proofC (T : TS) : Bool := tl T == 0 && (seen T == 1 <<< tn T - 1 && moreT T == 0)
def proofF (T : TS) : Int32 := nI (b2 (proofC T && !decide (absI (oe T (tm T)) < 2)))
/-- whether by seeing this set the same two may pass as by seeing all -/
def sgJ (T : TS) (set i : Nat) : Nat → Nat → Bool
  | 0, _ => true
  | d + 1, j => (ps (tl T) (UU T i j) 0 == ps (tl T) (UU T i j &&& set) 0) && sgJ T set i d (j + 1)
def sgI (T : TS) (set : Nat) : Nat → Nat → Bool
  | 0, _ => true
  | d + 1, i => sgJ T set i i 0 && sgI T set d (i + 1)
def msD (T : TS) : Nat → Nat → Nat
  | 0, b => b
  | d + 1, b => msD T d (if many d ≤ many b ∧ sgI T d (tm T) 0 = true then d else b)
section MUST
variable {G : GG} {σ : WW} {T : TS}
theorem t_moreT (hT : RT G σ T) : Mt G mX7_thingsOfMoreThan [.ref (ga G 9), .int (nI 2)] σ (some (.int (nI (moreT T)))) σ := by
  obtain ⟨fv, fl, fh, h9, h21, h22, h23, hW, hv, hl, hh⟩ := hT
  have hn := hW.1
  refine Mt.of (by decide +kernel) (Nat.le_of_ble_eq_true rfl) (fun κ C => ?_)
  have loop : ∀ d i, i + d = tn T → Go G mX7_thingsOfMoreThan κ (some (.int (nI (moreT T)))) σ σ 4 [(0, .ref (ga G 9)), (1, .int (nI 2)), (2, .int (nI (bits (fun t => decide (2 < tv T t)) i))), (3, .int (nI i))] [] := by
    intro d
    induction d with
    | zero =>
      intro i hi
      refine g_iload_n (pc := 4) C dX7_thingsOfMoreThan_4 rfl ?_
      refine g_aload_n (pc := 5) C dX7_thingsOfMoreThan_5 rfl ?_
      apply gf_X7_21 (pc := 6) C rfl dX7_thingsOfMoreThan_6
      · repeat (first | assumption | exact Cl.s (by assumption) | refine Cl.n (by first | decide | omega) ?_)
      · rfl
      refine g_icmp_ge (pc := 9) C 34 dX7_thingsOfMoreThan_9 (by decide) (fun c9 => ?_) (fun c9 => ?_)
      · refine g_iload_n (pc := 34) C dX7_thingsOfMoreThan_34 rfl ?_
        exact g_ireturn (pc := 35) C dX7_thingsOfMoreThan_35 rfl (by rw [show i = tn T by omega]; rfl) (rfl)
      · exact absurd (nI_le (by omega) (by omega)) c9
    | succ d ih =>
      intro i hi
      have ev := hv i (by omega)
      have hv4 := (hW.2.1 i (by omega)).2
      by_cases hc : 2 < tv T i
      · refine g_iload_n (pc := 4) C dX7_thingsOfMoreThan_4 rfl ?_
        refine g_aload_n (pc := 5) C dX7_thingsOfMoreThan_5 rfl ?_
        apply gf_X7_21 (pc := 6) C rfl dX7_thingsOfMoreThan_6
        · repeat (first | assumption | exact Cl.s (by assumption) | refine Cl.n (by first | decide | omega) ?_)
        · rfl
        refine g_icmp_ge (pc := 9) C 34 dX7_thingsOfMoreThan_9 (by decide) (fun c9 => ?_) (fun c9 => ?_)
        · exact absurd c9 (nI_ge (by omega) (by omega))
        · refine g_aload_n (pc := 12) C dX7_thingsOfMoreThan_12 rfl ?_
          apply gf_X7_9 (pc := 13) C rfl dX7_thingsOfMoreThan_13
          · repeat (first | assumption | exact Cl.s (by assumption) | refine Cl.n (by first | decide | omega) ?_)
          · rfl
          refine g_iload_n (pc := 16) C dX7_thingsOfMoreThan_16 rfl ?_
          apply g_iaload (pc := 17) C dX7_thingsOfMoreThan_17
          · repeat (first | assumption | exact Cl.s (by assumption) | refine Cl.n (by first | decide | omega) ?_)
          · exact vp_in_nI (by omega) (by omega)
          rw [nI_clamp (by omega), ev]
          refine g_iload_n (pc := 18) C dX7_thingsOfMoreThan_18 rfl ?_
          refine g_icmp_le (pc := 19) C 28 dX7_thingsOfMoreThan_19 (by decide) (fun c19 => ?_) (fun c19 => ?_)
          · exact absurd c19 (nI_ge hc (by omega))
          · refine g_iload_n (pc := 22) C dX7_thingsOfMoreThan_22 rfl ?_
            refine g_iconst (pc := 23) (v := nI 1) C dX7_thingsOfMoreThan_23 (by decide) ?_
            refine g_iload_n (pc := 24) C dX7_thingsOfMoreThan_24 rfl ?_
            refine g_ishl (pc := 25) C dX7_thingsOfMoreThan_25 ?_
            refine g_ior (pc := 26) C dX7_thingsOfMoreThan_26 ?_
            refine g_istore_n (pc := 27) C dX7_thingsOfMoreThan_27 (by decide) rfl ?_
            refine g_iinc (pc := 28) C dX7_thingsOfMoreThan_28 rfl (by decide) rfl ?_
            refine g_goto (pc := 31) C 4 dX7_thingsOfMoreThan_31 (by decide) ?_
            exact g_to (ih (i + 1) (by omega)) ⟨rfl, rfl, lgi (by rw [nx_shl _ (by omega), nx_or]; simp [bits, hc]), lgi (nI_1 i), trivial⟩
      · refine g_iload_n (pc := 4) C dX7_thingsOfMoreThan_4 rfl ?_
        refine g_aload_n (pc := 5) C dX7_thingsOfMoreThan_5 rfl ?_
        apply gf_X7_21 (pc := 6) C rfl dX7_thingsOfMoreThan_6
        · repeat (first | assumption | exact Cl.s (by assumption) | refine Cl.n (by first | decide | omega) ?_)
        · rfl
        refine g_icmp_ge (pc := 9) C 34 dX7_thingsOfMoreThan_9 (by decide) (fun c9 => ?_) (fun c9 => ?_)
        · exact absurd c9 (nI_ge (by omega) (by omega))
        · refine g_aload_n (pc := 12) C dX7_thingsOfMoreThan_12 rfl ?_
          apply gf_X7_9 (pc := 13) C rfl dX7_thingsOfMoreThan_13
          · repeat (first | assumption | exact Cl.s (by assumption) | refine Cl.n (by first | decide | omega) ?_)
          · rfl
          refine g_iload_n (pc := 16) C dX7_thingsOfMoreThan_16 rfl ?_
          apply g_iaload (pc := 17) C dX7_thingsOfMoreThan_17
          · repeat (first | assumption | exact Cl.s (by assumption) | refine Cl.n (by first | decide | omega) ?_)
          · exact vp_in_nI (by omega) (by omega)
          rw [nI_clamp (by omega), ev]
          refine g_iload_n (pc := 18) C dX7_thingsOfMoreThan_18 rfl ?_
          refine g_icmp_le (pc := 19) C 28 dX7_thingsOfMoreThan_19 (by decide) (fun c19 => ?_) (fun c19 => ?_)
          · refine g_iinc (pc := 28) C dX7_thingsOfMoreThan_28 rfl (by decide) rfl ?_
            refine g_goto (pc := 31) C 4 dX7_thingsOfMoreThan_31 (by decide) ?_
            exact g_to (ih (i + 1) (by omega)) ⟨rfl, rfl, lgi (by simp [bits, hc]), lgi (nI_1 i), trivial⟩
          · exact absurd (nI_le (by omega) (by decide)) c19
  refine g_iconst (pc := 0) (v := nI 0) C dX7_thingsOfMoreThan_0 (by decide) ?_
  refine g_istore_n (pc := 1) C dX7_thingsOfMoreThan_1 (by decide) rfl ?_
  refine g_iconst (pc := 2) (v := nI 0) C dX7_thingsOfMoreThan_2 (by decide) ?_
  refine g_istore_n (pc := 3) C dX7_thingsOfMoreThan_3 (by decide) rfl ?_
  exact g_to (loop (tn T) 0 (by omega)) ⟨rfl, rfl, rfl, rfl, trivial⟩
theorem t_oe (hT : RT G σ T) : Mt G mX7_oddMinusEven [.ref (ga G 9)] σ (some (.int (oe T (tm T)))) σ := by
  obtain ⟨fv, fl, fh, h9, h21, h22, h23, hW, hv, hl, hh⟩ := hT
  have hm := hW.2.2.2.2.1
  refine Mt.of (by decide +kernel) (Nat.le_of_ble_eq_true rfl) (fun κ C => ?_)
  have loop : ∀ d i, i + d = tm T → Go G mX7_oddMinusEven κ (some (.int (oe T (tm T)))) σ σ 4 [(0, .ref (ga G 9)), (1, .int (oe T i)), (2, .int (nI i))] [] := by
    intro d
    induction d with
    | zero =>
      intro i hi
      refine g_iload_n (pc := 4) C dX7_oddMinusEven_4 rfl ?_
      refine g_aload_n (pc := 5) C dX7_oddMinusEven_5 rfl ?_
      apply gf_X7_25 (pc := 6) C rfl dX7_oddMinusEven_6
      · repeat (first | assumption | exact Cl.s (by assumption) | refine Cl.n (by first | decide | omega) ?_)
      · rfl
      refine g_icmp_ge (pc := 9) C 44 dX7_oddMinusEven_9 (by decide) (fun c9 => ?_) (fun c9 => ?_)
      · refine g_iload_n (pc := 44) C dX7_oddMinusEven_44 rfl ?_
        exact g_ireturn (pc := 45) C dX7_oddMinusEven_45 rfl (by rw [show i = tm T by omega]) (rfl)
      · exact absurd (nI_le (by omega) (by omega)) c9
    | succ d ih =>
      intro i hi
      have e2 : nI (many (lkn (tp T i) (tn T) &&& 31)) - nI (many (lkn (tp T i) (tn T) &&& 31)) / nI 2 * nI 2 = nI (many (lkn (tp T i) (tn T) &&& 31) % 2) := pk_rem (many_lt _) (by decide) (by decide)
      have h31 : lkn (tp T i) (tn T) &&& 31 < 1024 := Nat.lt_of_le_of_lt Nat.and_le_left (lkn_lt _ _ hW.1)
      by_cases hc : many (lkn (tp T i) (tn T) &&& 31) % 2 = 1
      · refine g_iload_n (pc := 4) C dX7_oddMinusEven_4 rfl ?_
        refine g_aload_n (pc := 5) C dX7_oddMinusEven_5 rfl ?_
        apply gf_X7_25 (pc := 6) C rfl dX7_oddMinusEven_6
        · repeat (first | assumption | exact Cl.s (by assumption) | refine Cl.n (by first | decide | omega) ?_)
        · rfl
        refine g_icmp_ge (pc := 9) C 44 dX7_oddMinusEven_9 (by decide) (fun c9 => ?_) (fun c9 => ?_)
        · exact absurd c9 (nI_ge (by omega) (by omega))
        · refine g_iload_n (pc := 12) C dX7_oddMinusEven_12 rfl ?_
          refine g_aload_n (pc := 13) C dX7_oddMinusEven_13 rfl ?_
          apply gf_X7_15 (pc := 14) C rfl dX7_oddMinusEven_14
          · repeat (first | assumption | exact Cl.s (by assumption) | refine Cl.n (by first | decide | omega) ?_)
          · rfl
          refine g_iload_n (pc := 17) C dX7_oddMinusEven_17 rfl ?_
          apply g_iaload (pc := 18) C dX7_oddMinusEven_18
          · repeat (first | assumption | exact Cl.s (by assumption) | refine Cl.n (by first | decide | omega) ?_)
          · exact vp_in_nI (by omega) (by omega)
          rw [nI_clamp (by omega), hl i (by omega)]
          refine g_bipush (pc := 19) (v := nI 31) C dX7_oddMinusEven_19 (by decide) ?_
          refine g_iand (pc := 21) C dX7_oddMinusEven_21 ?_
          rw [nx_and]
          refine cl_X7_44 (pc := 22) C rfl (t_bitCount h31) dX7_oddMinusEven_22 rfl (Nat.le_of_ble_eq_true rfl) ?_
          refine g_iconst (pc := 25) (v := nI 2) C dX7_oddMinusEven_25 (by decide) ?_
          refine g_irem (pc := 26) C dX7_oddMinusEven_26 (by decide) ?_
          rw [e2, hc]
          refine g_iconst (pc := 27) (v := nI 1) C dX7_oddMinusEven_27 (by decide) ?_
          refine g_icmp_nE (pc := 28) C 35 dX7_oddMinusEven_28 (by decide) (fun c28 => ?_) (fun c28 => ?_)
          · exact absurd rfl c28
          · refine g_iconst (pc := 31) (v := nI 1) C dX7_oddMinusEven_31 (by decide) ?_
            refine g_goto (pc := 32) C 36 dX7_oddMinusEven_32 (by decide) ?_
            refine g_iadd (pc := 36) C dX7_oddMinusEven_36 ?_
            refine g_istore_n (pc := 37) C dX7_oddMinusEven_37 (by decide) rfl ?_
            refine g_iinc (pc := 38) C dX7_oddMinusEven_38 rfl (by decide) rfl ?_
            refine g_goto (pc := 41) C 4 dX7_oddMinusEven_41 (by decide) ?_
            exact g_to (ih (i + 1) (by omega)) ⟨rfl, lgi (by simp [oe, hc]), lgi (nI_1 i), trivial⟩
      · refine g_iload_n (pc := 4) C dX7_oddMinusEven_4 rfl ?_
        refine g_aload_n (pc := 5) C dX7_oddMinusEven_5 rfl ?_
        apply gf_X7_25 (pc := 6) C rfl dX7_oddMinusEven_6
        · repeat (first | assumption | exact Cl.s (by assumption) | refine Cl.n (by first | decide | omega) ?_)
        · rfl
        refine g_icmp_ge (pc := 9) C 44 dX7_oddMinusEven_9 (by decide) (fun c9 => ?_) (fun c9 => ?_)
        · exact absurd c9 (nI_ge (by omega) (by omega))
        · refine g_iload_n (pc := 12) C dX7_oddMinusEven_12 rfl ?_
          refine g_aload_n (pc := 13) C dX7_oddMinusEven_13 rfl ?_
          apply gf_X7_15 (pc := 14) C rfl dX7_oddMinusEven_14
          · repeat (first | assumption | exact Cl.s (by assumption) | refine Cl.n (by first | decide | omega) ?_)
          · rfl
          refine g_iload_n (pc := 17) C dX7_oddMinusEven_17 rfl ?_
          apply g_iaload (pc := 18) C dX7_oddMinusEven_18
          · repeat (first | assumption | exact Cl.s (by assumption) | refine Cl.n (by first | decide | omega) ?_)
          · exact vp_in_nI (by omega) (by omega)
          rw [nI_clamp (by omega), hl i (by omega)]
          refine g_bipush (pc := 19) (v := nI 31) C dX7_oddMinusEven_19 (by decide) ?_
          refine g_iand (pc := 21) C dX7_oddMinusEven_21 ?_
          rw [nx_and]
          refine cl_X7_44 (pc := 22) C rfl (t_bitCount h31) dX7_oddMinusEven_22 rfl (Nat.le_of_ble_eq_true rfl) ?_
          refine g_iconst (pc := 25) (v := nI 2) C dX7_oddMinusEven_25 (by decide) ?_
          refine g_irem (pc := 26) C dX7_oddMinusEven_26 (by decide) ?_
          rw [e2]
          refine g_iconst (pc := 27) (v := nI 1) C dX7_oddMinusEven_27 (by decide) ?_
          refine g_icmp_nE (pc := 28) C 35 dX7_oddMinusEven_28 (by decide) (fun c28 => ?_) (fun c28 => ?_)
          · refine g_iconst (pc := 35) (v := -1) C dX7_oddMinusEven_35 (by decide) ?_
            refine g_iadd (pc := 36) C dX7_oddMinusEven_36 ?_
            refine g_istore_n (pc := 37) C dX7_oddMinusEven_37 (by decide) rfl ?_
            refine g_iinc (pc := 38) C dX7_oddMinusEven_38 rfl (by decide) rfl ?_
            refine g_goto (pc := 41) C 4 dX7_oddMinusEven_41 (by decide) ?_
            exact g_to (ih (i + 1) (by omega)) ⟨rfl, lgi (by simp [oe, hc]), lgi (nI_1 i), trivial⟩
          · exact absurd ((nI_eq (by omega) (by decide)).mp c28) hc
  refine g_iconst (pc := 0) (v := nI 0) C dX7_oddMinusEven_0 (by decide) ?_
  refine g_istore_n (pc := 1) C dX7_oddMinusEven_1 (by decide) rfl ?_
  refine g_iconst (pc := 2) (v := nI 0) C dX7_oddMinusEven_2 (by decide) ?_
  refine g_istore_n (pc := 3) C dX7_oddMinusEven_3 (by decide) rfl ?_
  exact g_to (loop (tm T) 0 (by omega)) ⟨rfl, rfl, rfl, trivial⟩
theorem c_proof (h0 : Cl G σ 0 (cMain G)) (hT : RT G σ T) : Mt G mX9_proof [.ref (ga G 0)] σ (some (.int (proofF T))) σ := by
  obtain ⟨bo, hc0, h9⟩ := hT.c
  have hlaw := hT.w.2.2.2.2.2.2.1
  have hn := hT.w.1
  have hs31 : seen T < 2 ^ 31 := Nat.lt_of_le_of_lt (Nat.le_trans Nat.and_le_left hT.w.2.2.2.2.2.2.2) (by decide)
  have ha31 : 1 <<< tn T - 1 < 2 ^ 31 := by
    have : 1 <<< tn T ≤ 32 := by rw [Nat.shiftLeft_eq, Nat.one_mul]; exact Nat.pow_le_pow_right (n := 2) (by decide) hn
    omega
  have hm31 : moreT T < 2 ^ 31 := Nat.lt_trans (bits_lt _ _) (Nat.pow_lt_pow_right (by decide) (by omega))
  refine Mt.of (by decide +kernel) (Nat.le_of_ble_eq_true rfl) (fun κ C => ?_)
  cases hc : proofC T
  · have j0 : Go G mX9_proof κ (some (.int (proofF T))) σ σ 44 [(0, .ref (ga G 0)), (1, .int (nI 0))] [] := by
      refine g_iload_n (pc := 44) C dX9_proof_44 rfl ?_
      refine g_if_eq (pc := 45) C 66 dX9_proof_45 (by decide) (fun c45 => ?_) (fun c45 => ?_)
      · refine g_iconst (pc := 66) (v := nI 0) C dX9_proof_66 (by decide) ?_
        exact g_ireturn (pc := 67) C dX9_proof_67 rfl (by simp [proofF, hc, b2]) (rfl)
      · exact absurd rfl c45
    refine g_aload_n (pc := 0) C dX9_proof_0 rfl ?_
    apply gf_X9_68 (pc := 1) C rfl dX9_proof_1
    · repeat (first | assumption | exact Cl.s (by assumption) | refine Cl.n (by first | decide | omega) ?_)
    · rfl
    apply gf_X9_183 (pc := 4) C rfl dX9_proof_4
    · repeat (first | assumption | exact Cl.s (by assumption) | refine Cl.n (by first | decide | omega) ?_)
    · rfl
    refine g_if_nE (pc := 7) C 42 dX9_proof_7 (by decide) (fun c7 => ?_) (fun c7 => ?_)
    · refine g_iconst (pc := 42) (v := nI 0) C dX9_proof_42 (by decide) ?_
      refine g_istore_n (pc := 43) C dX9_proof_43 (by decide) rfl ?_
      exact g_to j0 ⟨rfl, rfl, trivial⟩
    · refine g_aload_n (pc := 10) C dX9_proof_10 rfl ?_
      apply gf_X9_68 (pc := 11) C rfl dX9_proof_11
      · repeat (first | assumption | exact Cl.s (by assumption) | refine Cl.n (by first | decide | omega) ?_)
      · rfl
      apply cl_X9_186 (pc := 14) C rfl (t_sees hT) dX9_proof_14
      · repeat (first | assumption | exact Cl.s (by assumption) | refine Cl.n (by first | decide | omega) ?_)
      · rfl
      · exact Nat.le_of_ble_eq_true rfl
      refine g_aload_n (pc := 17) C dX9_proof_17 rfl ?_
      apply gf_X9_68 (pc := 18) C rfl dX9_proof_18
      · repeat (first | assumption | exact Cl.s (by assumption) | refine Cl.n (by first | decide | omega) ?_)
      · rfl
      apply cl_X9_189 (pc := 21) C rfl (t_allThings hT) dX9_proof_21
      · repeat (first | assumption | exact Cl.s (by assumption) | refine Cl.n (by first | decide | omega) ?_)
      · rfl
      · exact Nat.le_of_ble_eq_true rfl
      refine g_icmp_nE (pc := 24) C 42 dX9_proof_24 (by decide) (fun c24 => ?_) (fun c24 => ?_)
      · refine g_iconst (pc := 42) (v := nI 0) C dX9_proof_42 (by decide) ?_
        refine g_istore_n (pc := 43) C dX9_proof_43 (by decide) rfl ?_
        exact g_to j0 ⟨rfl, rfl, trivial⟩
      · refine g_aload_n (pc := 27) C dX9_proof_27 rfl ?_
        apply gf_X9_68 (pc := 28) C rfl dX9_proof_28
        · repeat (first | assumption | exact Cl.s (by assumption) | refine Cl.n (by first | decide | omega) ?_)
        · rfl
        refine g_iconst (pc := 31) (v := nI 2) C dX9_proof_31 (by decide) ?_
        apply cl_X9_192 (pc := 32) C rfl (t_moreT hT) dX9_proof_32
        · repeat (first | assumption | exact Cl.s (by assumption) | refine Cl.n (by first | decide | omega) ?_)
        · rfl
        · exact Nat.le_of_ble_eq_true rfl
        refine g_if_nE (pc := 35) C 42 dX9_proof_35 (by decide) (fun c35 => ?_) (fun c35 => ?_)
        · refine g_iconst (pc := 42) (v := nI 0) C dX9_proof_42 (by decide) ?_
          refine g_istore_n (pc := 43) C dX9_proof_43 (by decide) rfl ?_
          exact g_to j0 ⟨rfl, rfl, trivial⟩
        · exact absurd hc (by rw [nx_0, nI_eq (by omega) (by decide)] at c7; rw [nI_eq hs31 ha31] at c24; rw [nx_0, nI_eq hm31 (by decide)] at c35; simp [proofC, c7, c24, c35])
  · have hc' := hc
    simp only [proofC, Bool.and_eq_true, beq_iff_eq] at hc'
    obtain ⟨q1, q2, q3⟩ := hc'
    have j1 : Go G mX9_proof κ (some (.int (proofF T))) σ σ 44 [(0, .ref (ga G 0)), (1, .int (nI 1))] [] := by
      refine g_iload_n (pc := 44) C dX9_proof_44 rfl ?_
      refine g_if_eq (pc := 45) C 66 dX9_proof_45 (by decide) (fun c45 => ?_) (fun c45 => ?_)
      · exact absurd c45 (by decide)
      · refine g_aload_n (pc := 48) C dX9_proof_48 rfl ?_
        apply gf_X9_68 (pc := 49) C rfl dX9_proof_49
        · repeat (first | assumption | exact Cl.s (by assumption) | refine Cl.n (by first | decide | omega) ?_)
        · rfl
        apply cl_X9_195 (pc := 52) C rfl (t_oe hT) dX9_proof_52
        · repeat (first | assumption | exact Cl.s (by assumption) | refine Cl.n (by first | decide | omega) ?_)
        · rfl
        · exact Nat.le_of_ble_eq_true rfl
        refine g_mabs (pc := 55) C dX9_proof_55 w_mabs (by decide) (Nat.le_of_ble_eq_true rfl) ?_
        refine g_iconst (pc := 58) (v := nI 2) C dX9_proof_58 (by decide) ?_
        refine g_icmp_lt (pc := 59) C 66 dX9_proof_59 (by decide) (fun c59 => ?_) (fun c59 => ?_)
        · refine g_iconst (pc := 66) (v := nI 0) C dX9_proof_66 (by decide) ?_
          exact g_ireturn (pc := 67) C dX9_proof_67 rfl (by first | (have c : absI (oe T (tm T)) < 2 := c59; simp [proofF, hc, c, b2]; done) | (have c : ¬ absI (oe T (tm T)) < 2 := c59; simp [proofF, hc, c, b2]; done)) (rfl)
        · refine g_iconst (pc := 62) (v := nI 1) C dX9_proof_62 (by decide) ?_
          refine g_goto (pc := 63) C 67 dX9_proof_63 (by decide) ?_
          exact g_ireturn (pc := 67) C dX9_proof_67 rfl (by first | (have c : absI (oe T (tm T)) < 2 := c59; simp [proofF, hc, c, b2]; done) | (have c : ¬ absI (oe T (tm T)) < 2 := c59; simp [proofF, hc, c, b2]; done)) (rfl)
    refine g_aload_n (pc := 0) C dX9_proof_0 rfl ?_
    apply gf_X9_68 (pc := 1) C rfl dX9_proof_1
    · repeat (first | assumption | exact Cl.s (by assumption) | refine Cl.n (by first | decide | omega) ?_)
    · rfl
    apply gf_X9_183 (pc := 4) C rfl dX9_proof_4
    · repeat (first | assumption | exact Cl.s (by assumption) | refine Cl.n (by first | decide | omega) ?_)
    · rfl
    refine g_if_nE (pc := 7) C 42 dX9_proof_7 (by decide) (fun c7 => ?_) (fun c7 => ?_)
    · exact absurd (by rw [q1]; rfl) c7
    · refine g_aload_n (pc := 10) C dX9_proof_10 rfl ?_
      apply gf_X9_68 (pc := 11) C rfl dX9_proof_11
      · repeat (first | assumption | exact Cl.s (by assumption) | refine Cl.n (by first | decide | omega) ?_)
      · rfl
      apply cl_X9_186 (pc := 14) C rfl (t_sees hT) dX9_proof_14
      · repeat (first | assumption | exact Cl.s (by assumption) | refine Cl.n (by first | decide | omega) ?_)
      · rfl
      · exact Nat.le_of_ble_eq_true rfl
      refine g_aload_n (pc := 17) C dX9_proof_17 rfl ?_
      apply gf_X9_68 (pc := 18) C rfl dX9_proof_18
      · repeat (first | assumption | exact Cl.s (by assumption) | refine Cl.n (by first | decide | omega) ?_)
      · rfl
      apply cl_X9_189 (pc := 21) C rfl (t_allThings hT) dX9_proof_21
      · repeat (first | assumption | exact Cl.s (by assumption) | refine Cl.n (by first | decide | omega) ?_)
      · rfl
      · exact Nat.le_of_ble_eq_true rfl
      refine g_icmp_nE (pc := 24) C 42 dX9_proof_24 (by decide) (fun c24 => ?_) (fun c24 => ?_)
      · exact absurd (by rw [q2]) c24
      · refine g_aload_n (pc := 27) C dX9_proof_27 rfl ?_
        apply gf_X9_68 (pc := 28) C rfl dX9_proof_28
        · repeat (first | assumption | exact Cl.s (by assumption) | refine Cl.n (by first | decide | omega) ?_)
        · rfl
        refine g_iconst (pc := 31) (v := nI 2) C dX9_proof_31 (by decide) ?_
        apply cl_X9_192 (pc := 32) C rfl (t_moreT hT) dX9_proof_32
        · repeat (first | assumption | exact Cl.s (by assumption) | refine Cl.n (by first | decide | omega) ?_)
        · rfl
        · exact Nat.le_of_ble_eq_true rfl
        refine g_if_nE (pc := 35) C 42 dX9_proof_35 (by decide) (fun c35 => ?_) (fun c35 => ?_)
        · exact absurd (by rw [q3]; rfl) c35
        · refine g_iconst (pc := 38) (v := nI 1) C dX9_proof_38 (by decide) ?_
          refine g_goto (pc := 39) C 43 dX9_proof_39 (by decide) ?_
          refine g_istore_n (pc := 43) C dX9_proof_43 (by decide) rfl ?_
          exact g_to j1 ⟨rfl, rfl, trivial⟩
theorem t_same (hT : RT G σ T) {set : Nat} (hs : set < 32) : Mt G mX7_isSameGuard [.ref (ga G 9), .int (nI set)] σ (some (.int (nI (b2 (sgI T set (tm T) 0))))) σ := by
  have hT' := hT
  obtain ⟨fv, fl, fh, h9, h21, h22, h23, hW, hv, hl, hh⟩ := hT
  have hm := hW.2.2.2.2.1
  have hn := hW.1
  refine Mt.of (by decide +kernel) (Nat.le_of_ble_eq_true rfl) (fun κ C => ?_)
  have inner : ∀ d i j r, i < tm T → j + d = i → (sgJ T set i d j = true → Go G mX7_isSameGuard κ r σ σ 61 [(0, .ref (ga G 9)), (1, .int (nI set)), (2, .int (nI i))] []) → (sgJ T set i d j = false → r = some (.int (nI 0))) → Go G mX7_isSameGuard κ r σ σ 12 [(0, .ref (ga G 9)), (1, .int (nI set)), (2, .int (nI i)), (3, .int (nI j))] [] := by
    intro d
    induction d with
    | zero =>
      intro i j r hi hj k1 k2
      refine g_iload_n (pc := 12) C dX7_isSameGuard_12 rfl ?_
      refine g_iload_n (pc := 13) C dX7_isSameGuard_13 rfl ?_
      refine g_icmp_ge (pc := 14) C 61 dX7_isSameGuard_14 (by decide) (fun c14 => ?_) (fun c14 => ?_)
      · exact g_to (k1 rfl) ⟨rfl, rfl, rfl, trivial⟩
      · exact absurd (nI_le (by omega) (by omega)) c14
    | succ d ih =>
      intro i j r hi hj k1 k2
      have eU : ulk (lkn (tp T i) (tn T)) (lkn (tp T j) (tn T)) = UU T i j := ulk_lkn hn (tp4 hT' hi) (tp4 hT' (by omega))
      have hU := UU_lt T i j hn
      cases hq : (ps (tl T) (UU T i j) 0 == ps (tl T) (UU T i j &&& set) 0)
      · have hr := k2 (by simp [sgJ, hq])
        subst hr
        refine g_iload_n (pc := 12) C dX7_isSameGuard_12 rfl ?_
        refine g_iload_n (pc := 13) C dX7_isSameGuard_13 rfl ?_
        refine g_icmp_ge (pc := 14) C 61 dX7_isSameGuard_14 (by decide) (fun c14 => ?_) (fun c14 => ?_)
        · exact absurd c14 (nI_ge (by omega) (by omega))
        · refine g_aload_n (pc := 17) C dX7_isSameGuard_17 rfl ?_
          apply gf_X7_15 (pc := 18) C rfl dX7_isSameGuard_18
          · repeat (first | assumption | exact Cl.s (by assumption) | refine Cl.n (by first | decide | omega) ?_)
          · rfl
          refine g_iload_n (pc := 21) C dX7_isSameGuard_21 rfl ?_
          apply g_iaload (pc := 22) C dX7_isSameGuard_22
          · repeat (first | assumption | exact Cl.s (by assumption) | refine Cl.n (by first | decide | omega) ?_)
          · exact vp_in_nI (by omega) (by omega)
          rw [nI_clamp (by omega), hl i hi]
          refine g_aload_n (pc := 23) C dX7_isSameGuard_23 rfl ?_
          apply gf_X7_15 (pc := 24) C rfl dX7_isSameGuard_24
          · repeat (first | assumption | exact Cl.s (by assumption) | refine Cl.n (by first | decide | omega) ?_)
          · rfl
          refine g_iload_n (pc := 27) C dX7_isSameGuard_27 rfl ?_
          apply g_iaload (pc := 28) C dX7_isSameGuard_28
          · repeat (first | assumption | exact Cl.s (by assumption) | refine Cl.n (by first | decide | omega) ?_)
          · exact vp_in_nI (by omega) (by omega)
          rw [nI_clamp (by omega), hl j (by omega)]
          refine cl_X7_57 (pc := 29) C rfl (t_unlike (lkn_lt _ _ hn) (lkn_lt _ _ hn)) dX7_isSameGuard_29 rfl (Nat.le_of_ble_eq_true rfl) ?_
          rw [eU]
          refine g_istore (pc := 32) C dX7_isSameGuard_32 (by decide) rfl ?_
          refine g_aload_n (pc := 34) C dX7_isSameGuard_34 rfl ?_
          refine g_iload (pc := 35) C dX7_isSameGuard_35 rfl ?_
          refine g_iconst (pc := 37) (v := nI 0) C dX7_isSameGuard_37 (by decide) ?_
          apply cl_X7_67 (pc := 38) C rfl (t_lets hT' (by omega) (by decide)) dX7_isSameGuard_38
          · repeat (first | assumption | exact Cl.s (by assumption) | refine Cl.n (by first | decide | omega) ?_)
          · rfl
          · exact Nat.le_of_ble_eq_true rfl
          refine g_aload_n (pc := 41) C dX7_isSameGuard_41 rfl ?_
          refine g_iload (pc := 42) C dX7_isSameGuard_42 rfl ?_
          refine g_iload_n (pc := 44) C dX7_isSameGuard_44 rfl ?_
          refine g_iand (pc := 45) C dX7_isSameGuard_45 ?_
          rw [nx_and]
          refine g_iconst (pc := 46) (v := nI 0) C dX7_isSameGuard_46 (by decide) ?_
          apply cl_X7_67 (pc := 47) C rfl (t_lets hT' (Nat.lt_of_lt_of_le (and_lt32 hU) (by decide)) (by decide)) dX7_isSameGuard_47
          · repeat (first | assumption | exact Cl.s (by assumption) | refine Cl.n (by first | decide | omega) ?_)
          · rfl
          · exact Nat.le_of_ble_eq_true rfl
          refine g_icmp_eq (pc := 50) C 55 dX7_isSameGuard_50 (by decide) (fun c50 => ?_) (fun c50 => ?_)
          · exact absurd c50 (by revert hq; cases ps (tl T) (UU T i j) 0 <;> cases ps (tl T) (UU T i j &&& set) 0 <;> decide)
          · refine g_iconst (pc := 53) (v := nI 0) C dX7_isSameGuard_53 (by decide) ?_
            exact g_zreturn (pc := 54) C dX7_isSameGuard_54 rfl (by first | exact Or.inl rfl | exact Or.inr rfl) (rfl) (rfl)
      · have e1 : sgJ T set i (d + 1) j = sgJ T set i d (j + 1) := by simp [sgJ, hq]
        rw [e1] at k1 k2
        refine g_iload_n (pc := 12) C dX7_isSameGuard_12 rfl ?_
        refine g_iload_n (pc := 13) C dX7_isSameGuard_13 rfl ?_
        refine g_icmp_ge (pc := 14) C 61 dX7_isSameGuard_14 (by decide) (fun c14 => ?_) (fun c14 => ?_)
        · exact absurd c14 (nI_ge (by omega) (by omega))
        · refine g_aload_n (pc := 17) C dX7_isSameGuard_17 rfl ?_
          apply gf_X7_15 (pc := 18) C rfl dX7_isSameGuard_18
          · repeat (first | assumption | exact Cl.s (by assumption) | refine Cl.n (by first | decide | omega) ?_)
          · rfl
          refine g_iload_n (pc := 21) C dX7_isSameGuard_21 rfl ?_
          apply g_iaload (pc := 22) C dX7_isSameGuard_22
          · repeat (first | assumption | exact Cl.s (by assumption) | refine Cl.n (by first | decide | omega) ?_)
          · exact vp_in_nI (by omega) (by omega)
          rw [nI_clamp (by omega), hl i hi]
          refine g_aload_n (pc := 23) C dX7_isSameGuard_23 rfl ?_
          apply gf_X7_15 (pc := 24) C rfl dX7_isSameGuard_24
          · repeat (first | assumption | exact Cl.s (by assumption) | refine Cl.n (by first | decide | omega) ?_)
          · rfl
          refine g_iload_n (pc := 27) C dX7_isSameGuard_27 rfl ?_
          apply g_iaload (pc := 28) C dX7_isSameGuard_28
          · repeat (first | assumption | exact Cl.s (by assumption) | refine Cl.n (by first | decide | omega) ?_)
          · exact vp_in_nI (by omega) (by omega)
          rw [nI_clamp (by omega), hl j (by omega)]
          refine cl_X7_57 (pc := 29) C rfl (t_unlike (lkn_lt _ _ hn) (lkn_lt _ _ hn)) dX7_isSameGuard_29 rfl (Nat.le_of_ble_eq_true rfl) ?_
          rw [eU]
          refine g_istore (pc := 32) C dX7_isSameGuard_32 (by decide) rfl ?_
          refine g_aload_n (pc := 34) C dX7_isSameGuard_34 rfl ?_
          refine g_iload (pc := 35) C dX7_isSameGuard_35 rfl ?_
          refine g_iconst (pc := 37) (v := nI 0) C dX7_isSameGuard_37 (by decide) ?_
          apply cl_X7_67 (pc := 38) C rfl (t_lets hT' (by omega) (by decide)) dX7_isSameGuard_38
          · repeat (first | assumption | exact Cl.s (by assumption) | refine Cl.n (by first | decide | omega) ?_)
          · rfl
          · exact Nat.le_of_ble_eq_true rfl
          refine g_aload_n (pc := 41) C dX7_isSameGuard_41 rfl ?_
          refine g_iload (pc := 42) C dX7_isSameGuard_42 rfl ?_
          refine g_iload_n (pc := 44) C dX7_isSameGuard_44 rfl ?_
          refine g_iand (pc := 45) C dX7_isSameGuard_45 ?_
          rw [nx_and]
          refine g_iconst (pc := 46) (v := nI 0) C dX7_isSameGuard_46 (by decide) ?_
          apply cl_X7_67 (pc := 47) C rfl (t_lets hT' (Nat.lt_of_lt_of_le (and_lt32 hU) (by decide)) (by decide)) dX7_isSameGuard_47
          · repeat (first | assumption | exact Cl.s (by assumption) | refine Cl.n (by first | decide | omega) ?_)
          · rfl
          · exact Nat.le_of_ble_eq_true rfl
          refine g_icmp_eq (pc := 50) C 55 dX7_isSameGuard_50 (by decide) (fun c50 => ?_) (fun c50 => ?_)
          · refine g_iinc (pc := 55) C dX7_isSameGuard_55 rfl (by decide) rfl ?_
            refine g_goto (pc := 58) C 12 dX7_isSameGuard_58 (by decide) ?_
            exact g_to (ih i (j + 1) r hi (by omega) k1 k2) ⟨rfl, rfl, rfl, lgi (nI_1 j), trivial⟩
          · exact absurd (by rw [eq_of_beq hq]) c50
  have outer : ∀ d i, i + d = tm T → Go G mX7_isSameGuard κ (some (.int (nI (b2 (sgI T set d i))))) σ σ 2 [(0, .ref (ga G 9)), (1, .int (nI set)), (2, .int (nI i))] [] := by
    intro d
    induction d with
    | zero =>
      intro i hi
      refine g_iload_n (pc := 2) C dX7_isSameGuard_2 rfl ?_
      refine g_aload_n (pc := 3) C dX7_isSameGuard_3 rfl ?_
      apply gf_X7_25 (pc := 4) C rfl dX7_isSameGuard_4
      · repeat (first | assumption | exact Cl.s (by assumption) | refine Cl.n (by first | decide | omega) ?_)
      · rfl
      refine g_icmp_ge (pc := 7) C 67 dX7_isSameGuard_7 (by decide) (fun c7 => ?_) (fun c7 => ?_)
      · refine g_iconst (pc := 67) (v := nI 1) C dX7_isSameGuard_67 (by decide) ?_
        exact g_zreturn (pc := 68) C dX7_isSameGuard_68 rfl (by first | exact Or.inl rfl | exact Or.inr rfl) (rfl) (rfl)
      · exact absurd (nI_le (by omega) (by omega)) c7
    | succ d ih =>
      intro i hi
      have k61 : sgJ T set i i 0 = true → Go G mX7_isSameGuard κ (some (.int (nI (b2 (sgI T set (d + 1) i))))) σ σ 61 [(0, .ref (ga G 9)), (1, .int (nI set)), (2, .int (nI i))] [] := by
        intro q
        have e : sgI T set (d + 1) i = sgI T set d (i + 1) := by simp [sgI, q]
        rw [e]
        refine g_iinc (pc := 61) C dX7_isSameGuard_61 rfl (by decide) rfl ?_
        refine g_goto (pc := 64) C 2 dX7_isSameGuard_64 (by decide) ?_
        exact g_to (ih (i + 1) (by omega)) ⟨rfl, rfl, lgi (nI_1 i), trivial⟩
      refine g_iload_n (pc := 2) C dX7_isSameGuard_2 rfl ?_
      refine g_aload_n (pc := 3) C dX7_isSameGuard_3 rfl ?_
      apply gf_X7_25 (pc := 4) C rfl dX7_isSameGuard_4
      · repeat (first | assumption | exact Cl.s (by assumption) | refine Cl.n (by first | decide | omega) ?_)
      · rfl
      refine g_icmp_ge (pc := 7) C 67 dX7_isSameGuard_7 (by decide) (fun c7 => ?_) (fun c7 => ?_)
      · exact absurd c7 (nI_ge (by omega) (by omega))
      · refine g_iconst (pc := 10) (v := nI 0) C dX7_isSameGuard_10 (by decide) ?_
        refine g_istore_n (pc := 11) C dX7_isSameGuard_11 (by decide) rfl ?_
        exact g_to (inner i i 0 _ (by omega) (by omega) k61 (fun q => by simp [sgI, q, b2])) ⟨rfl, rfl, rfl, rfl, trivial⟩
  refine g_iconst (pc := 0) (v := nI 0) C dX7_isSameGuard_0 (by decide) ?_
  refine g_istore_n (pc := 1) C dX7_isSameGuard_1 (by decide) rfl ?_
  exact g_to (outer (tm T) 0 (by omega)) ⟨rfl, rfl, rfl, trivial⟩
def msF (T : TS) : Nat := msD T (1 <<< tn T) (1 <<< tn T - 1)
theorem c_mustSee (h0 : Cl G σ 0 (cMain G)) (hT : RT G σ T) : Mt G mX9_mustSee [.ref (ga G 0)] σ (some (.int (nI (msF T)))) σ := by
  obtain ⟨bo, hc0, h9⟩ := hT.c
  have hn := hT.w.1
  have ha : 1 <<< tn T ≤ 32 ∧ 1 ≤ 1 <<< tn T := by
    rw [Nat.shiftLeft_eq, Nat.one_mul]
    exact ⟨Nat.pow_le_pow_right (n := 2) (by decide) hn, Nat.one_le_two_pow⟩
  refine Mt.of (by decide +kernel) (Nat.le_of_ble_eq_true rfl) (fun κ C => ?_)
  have loop : ∀ d b, d ≤ 32 → b < 32 → Go G mX9_mustSee κ (some (.int (nI (msD T d b)))) σ σ 16 [(0, .ref (ga G 0)), (1, .int (nI b)), (2, .int (lat d))] [] := by
    intro d
    induction d with
    | zero =>
      intro b hd hb
      refine g_iload_n (pc := 16) C dX9_mustSee_16 rfl ?_
      refine g_if_lt (pc := 17) C 50 dX9_mustSee_17 (by decide) (fun c17 => ?_) (fun c17 => ?_)
      · refine g_iload_n (pc := 50) C dX9_mustSee_50 rfl ?_
        exact g_ireturn (pc := 51) C dX9_mustSee_51 rfl (rfl) (rfl)
      · exact absurd (by rw [lat_0]; decide) c17
    | succ d ih =>
      intro b hd hb
      have el : nI d + Int32.ofInt (-1) = lat d := by rw [lat, Int32.sub_eq_add_neg]; rfl
      by_cases h1 : many d ≤ many b
      · cases h2 : sgI T d (tm T) 0
        · have e : msD T (d + 1) b = msD T d b := by simp [msD, h2]
          rw [e]
          rw [lat_s]
          refine g_iload_n (pc := 16) C dX9_mustSee_16 rfl ?_
          refine g_if_lt (pc := 17) C 50 dX9_mustSee_17 (by decide) (fun c17 => ?_) (fun c17 => ?_)
          · exact absurd c17 (nI_pos (by omega))
          · refine g_iload_n (pc := 20) C dX9_mustSee_20 rfl ?_
            refine cl_X9_231 (pc := 21) C rfl (t_bitCount (by omega)) dX9_mustSee_21 rfl (Nat.le_of_ble_eq_true rfl) ?_
            refine g_iload_n (pc := 24) C dX9_mustSee_24 rfl ?_
            refine cl_X9_231 (pc := 25) C rfl (t_bitCount (by omega)) dX9_mustSee_25 rfl (Nat.le_of_ble_eq_true rfl) ?_
            refine g_icmp_gt (pc := 28) C 44 dX9_mustSee_28 (by decide) (fun c28 => ?_) (fun c28 => ?_)
            · exact absurd c28 (nI_nlt h1 (many_lt _))
            · refine g_aload_n (pc := 31) C dX9_mustSee_31 rfl ?_
              apply gf_X9_68 (pc := 32) C rfl dX9_mustSee_32
              · repeat (first | assumption | exact Cl.s (by assumption) | refine Cl.n (by first | decide | omega) ?_)
              · rfl
              refine g_iload_n (pc := 35) C dX9_mustSee_35 rfl ?_
              apply cl_X9_236 (pc := 36) C rfl (t_same hT (by omega)) dX9_mustSee_36
              · repeat (first | assumption | exact Cl.s (by assumption) | refine Cl.n (by first | decide | omega) ?_)
              · rfl
              · exact Nat.le_of_ble_eq_true rfl
              refine g_if_eq (pc := 39) C 44 dX9_mustSee_39 (by decide) (fun c39 => ?_) (fun c39 => ?_)
              · refine g_iinc (pc := 44) C dX9_mustSee_44 rfl (by decide) rfl ?_
                refine g_goto (pc := 47) C 16 dX9_mustSee_47 (by decide) ?_
                exact g_to (ih b (by omega) hb) ⟨rfl, rfl, lgi el, trivial⟩
              · exact absurd (by rw [h2]; rfl) c39
        · have e : msD T (d + 1) b = msD T d d := by simp [msD, h2, h1]
          rw [e]
          rw [lat_s]
          refine g_iload_n (pc := 16) C dX9_mustSee_16 rfl ?_
          refine g_if_lt (pc := 17) C 50 dX9_mustSee_17 (by decide) (fun c17 => ?_) (fun c17 => ?_)
          · exact absurd c17 (nI_pos (by omega))
          · refine g_iload_n (pc := 20) C dX9_mustSee_20 rfl ?_
            refine cl_X9_231 (pc := 21) C rfl (t_bitCount (by omega)) dX9_mustSee_21 rfl (Nat.le_of_ble_eq_true rfl) ?_
            refine g_iload_n (pc := 24) C dX9_mustSee_24 rfl ?_
            refine cl_X9_231 (pc := 25) C rfl (t_bitCount (by omega)) dX9_mustSee_25 rfl (Nat.le_of_ble_eq_true rfl) ?_
            refine g_icmp_gt (pc := 28) C 44 dX9_mustSee_28 (by decide) (fun c28 => ?_) (fun c28 => ?_)
            · exact absurd c28 (nI_nlt h1 (many_lt _))
            · refine g_aload_n (pc := 31) C dX9_mustSee_31 rfl ?_
              apply gf_X9_68 (pc := 32) C rfl dX9_mustSee_32
              · repeat (first | assumption | exact Cl.s (by assumption) | refine Cl.n (by first | decide | omega) ?_)
              · rfl
              refine g_iload_n (pc := 35) C dX9_mustSee_35 rfl ?_
              apply cl_X9_236 (pc := 36) C rfl (t_same hT (by omega)) dX9_mustSee_36
              · repeat (first | assumption | exact Cl.s (by assumption) | refine Cl.n (by first | decide | omega) ?_)
              · rfl
              · exact Nat.le_of_ble_eq_true rfl
              refine g_if_eq (pc := 39) C 44 dX9_mustSee_39 (by decide) (fun c39 => ?_) (fun c39 => ?_)
              · exact absurd c39 (by rw [h2]; decide)
              · refine g_iload_n (pc := 42) C dX9_mustSee_42 rfl ?_
                refine g_istore_n (pc := 43) C dX9_mustSee_43 (by decide) rfl ?_
                refine g_iinc (pc := 44) C dX9_mustSee_44 rfl (by decide) rfl ?_
                refine g_goto (pc := 47) C 16 dX9_mustSee_47 (by decide) ?_
                exact g_to (ih d (by omega) (by omega)) ⟨rfl, rfl, lgi el, trivial⟩
      · have e : msD T (d + 1) b = msD T d b := by simp [msD, h1]
        rw [e]
        rw [lat_s]
        refine g_iload_n (pc := 16) C dX9_mustSee_16 rfl ?_
        refine g_if_lt (pc := 17) C 50 dX9_mustSee_17 (by decide) (fun c17 => ?_) (fun c17 => ?_)
        · exact absurd c17 (nI_pos (by omega))
        · refine g_iload_n (pc := 20) C dX9_mustSee_20 rfl ?_
          refine cl_X9_231 (pc := 21) C rfl (t_bitCount (by omega)) dX9_mustSee_21 rfl (Nat.le_of_ble_eq_true rfl) ?_
          refine g_iload_n (pc := 24) C dX9_mustSee_24 rfl ?_
          refine cl_X9_231 (pc := 25) C rfl (t_bitCount (by omega)) dX9_mustSee_25 rfl (Nat.le_of_ble_eq_true rfl) ?_
          refine g_icmp_gt (pc := 28) C 44 dX9_mustSee_28 (by decide) (fun c28 => ?_) (fun c28 => ?_)
          · refine g_iinc (pc := 44) C dX9_mustSee_44 rfl (by decide) rfl ?_
            refine g_goto (pc := 47) C 16 dX9_mustSee_47 (by decide) ?_
            exact g_to (ih b (by omega) hb) ⟨rfl, rfl, lgi el, trivial⟩
          · exact absurd (nI_lt (by omega) (many_lt _)) c28
  refine g_aload_n (pc := 0) C dX9_mustSee_0 rfl ?_
  apply gf_X9_68 (pc := 1) C rfl dX9_mustSee_1
  · repeat (first | assumption | exact Cl.s (by assumption) | refine Cl.n (by first | decide | omega) ?_)
  · rfl
  apply cl_X9_189 (pc := 4) C rfl (t_allThings hT) dX9_mustSee_4
  · repeat (first | assumption | exact Cl.s (by assumption) | refine Cl.n (by first | decide | omega) ?_)
  · rfl
  · exact Nat.le_of_ble_eq_true rfl
  refine g_istore_n (pc := 7) C dX9_mustSee_7 (by decide) rfl ?_
  refine g_aload_n (pc := 8) C dX9_mustSee_8 rfl ?_
  apply gf_X9_68 (pc := 9) C rfl dX9_mustSee_9
  · repeat (first | assumption | exact Cl.s (by assumption) | refine Cl.n (by first | decide | omega) ?_)
  · rfl
  apply cl_X9_189 (pc := 12) C rfl (t_allThings hT) dX9_mustSee_12
  · repeat (first | assumption | exact Cl.s (by assumption) | refine Cl.n (by first | decide | omega) ?_)
  · rfl
  · exact Nat.le_of_ble_eq_true rfl
  refine g_istore_n (pc := 15) C dX9_mustSee_15 (by decide) rfl ?_
  exact g_to (loop (1 <<< tn T) (1 <<< tn T - 1) ha.1 (by omega)) ⟨rfl, rfl, lgi (by rw [lat, nx_1, pk_sub ha.2]), trivial⟩
end MUST

