def longestF (T : TS) (set i : Int32) : Int32 := if inR set (1 <<< tm T) = true ∧ -1 ≤ i then (if i = -1 then nI (mostL T set.toNatClampNeg) else if i < nI (mostL T set.toNatClampNeg) then pA T (i.toNatClampNeg + 1) set.toNatClampNeg 0 0 (mostL T set.toNatClampNeg) else -4) else -1
section LONG3
variable {G : GG} {σ : WW} {T : TS}
theorem t_personAt {f : Nat → Int32} {k0 : Int32} (hT : RT G σ T) (h6 : Cl G σ 6 (cLong G k0)) (h18 : Cl G σ 18 (iA G 4608 f)) (hf : LA T f (1 <<< tm T)) (hl : RLi G σ) {set most i : Nat} (hs : set < 1 <<< tm T) (hi : i < most) (hm9 : most ≤ 9) : ∃ σ', Mt G mX3_personAt [.ref (ga G 6), .ref (ga G 9), .ref (ga G 4), .int (nI set), .int (nI most), .int (nI i)] σ (some (.int (pA T (i + 1) set 0 0 most))) σ' ∧ RLi G σ' ∧ Fr σ σ' [4] := by
  have hW := hT.w
  have hm := hW.2.2.2.2.1
  obtain ⟨hN, hN1⟩ := shl_512 hm
  have loop : ∀ c k rest L d {σ1 : WW}, k + c = i + 1 → rest < 1 <<< tm T → L ≤ tm T → d < 32 → Cl G σ1 4 (cLine L d) → Fr σ σ1 [4] → ∃ σ', (∀ κ, Cx G mX3_personAt κ → Go G mX3_personAt κ (some (.int (pA T c rest L d (most - k)))) σ' σ1 10 [(0, .ref (ga G 6)), (1, .ref (ga G 9)), (2, .ref (ga G 4)), (4, .int (nI most)), (5, .int (nI i)), (6, .int (nI rest)), (7, .int (nI k))] []) ∧ RLi G σ' ∧ Fr σ σ' [4] := by
    intro c
    induction c with
    | zero =>
      intro k rest L d σ1 hk hr hL hd h4 hF
      refine ⟨σ1, fun κ C => ?_, ⟨_, _, h4⟩, hF⟩
      refine g_iload (pc := 10) C dX3_personAt_10 rfl ?_
      refine g_iload (pc := 12) C dX3_personAt_12 rfl ?_
      refine g_icmp_gt (pc := 14) C 72 dX3_personAt_14 (by decide) (fun c14 => ?_) (fun c14 => ?_)
      · refine g_aload_n (pc := 72) C dX3_personAt_72 rfl ?_
        apply gf_X3_74 (pc := 73) C rfl dX3_personAt_73
        · repeat (first | assumption | exact Cl.s (by assumption) | refine Cl.n (by first | decide | omega) ?_)
        · rfl
        exact g_ireturn (pc := 76) C dX3_personAt_76 rfl (rfl) (rfl)
      · exact absurd (nI_lt (by omega) (by omega)) c14
    | succ c ih =>
      intro k rest L d σ1 hk hr hL hd h4 hF
      have hT1 := hT.fr hF (by decide) (by decide) (by decide) (by decide)
      have z6 := h6.fr hF (by decide)
      have z18 := h18.fr hF (by decide)
      obtain ⟨bo, hc0, h9⟩ := hT1.c
      have tf := t_firstWith hT1 z6 z18 hf (rest := rest) (need := most - k) h4 hL hd hr (by omega)
      have es : nI most - nI k = nI (most - k) := pk_sub (by omega)
      cases hw : fw T rest L d (most - k) (tm T) 0 with
      | none =>
        rw [hw] at tf
        refine ⟨σ1, fun κ C => ?_, ⟨_, _, h4⟩, hF⟩
        rw [show pA T (c + 1) rest L d (most - k) = -4 by unfold pA; rw [hw]]
        refine g_iload (pc := 10) C dX3_personAt_10 rfl ?_
        refine g_iload (pc := 12) C dX3_personAt_12 rfl ?_
        refine g_icmp_gt (pc := 14) C 72 dX3_personAt_14 (by decide) (fun c14 => ?_) (fun c14 => ?_)
        · exact absurd c14 (nI_nlt (by omega) (by omega))
        · refine g_iload (pc := 17) C dX3_personAt_17 rfl ?_
          refine g_iload (pc := 19) C dX3_personAt_19 rfl ?_
          refine g_icmp_ge (pc := 21) C 72 dX3_personAt_21 (by decide) (fun c21 => ?_) (fun c21 => ?_)
          · exact absurd c21 (nI_ge (by omega) (by omega))
          · refine g_aload_n (pc := 24) C dX3_personAt_24 rfl ?_
            refine g_aload_n (pc := 25) C dX3_personAt_25 rfl ?_
            refine g_aload_n (pc := 26) C dX3_personAt_26 rfl ?_
            refine g_iload (pc := 27) C dX3_personAt_27 rfl ?_
            refine g_iload (pc := 29) C dX3_personAt_29 rfl ?_
            refine g_iload (pc := 31) C dX3_personAt_31 rfl ?_
            refine g_isub (pc := 33) C dX3_personAt_33 ?_
            rw [es]
            apply cl_X3_66 (pc := 34) C rfl tf dX3_personAt_34
            · repeat (first | assumption | exact Cl.s (by assumption) | refine Cl.n (by first | decide | omega) ?_)
            · rfl
            · exact Nat.le_of_ble_eq_true rfl
            refine g_istore (pc := 37) C dX3_personAt_37 (by decide) rfl ?_
            refine g_iload (pc := 39) C dX3_personAt_39 rfl ?_
            refine g_iconst (pc := 41) (v := -1) C dX3_personAt_41 (by decide) ?_
            refine g_icmp_nE (pc := 42) C 48 dX3_personAt_42 (by decide) (fun c42 => ?_) (fun c42 => ?_)
            · exact absurd rfl c42
            · refine g_bipush (pc := 45) (v := -4) C dX3_personAt_45 (by decide) ?_
              exact g_ireturn (pc := 47) C dX3_personAt_47 rfl (rfl) (rfl)
      | some p =>
        rw [hw] at tf
        have hp := fw_lt _ _ _ hw
        have hp : p < tm T := by omega
        have hcl := clr_le rest p
        obtain ⟨σ2, j1, j2, j3⟩ := ih (k + 1) (clr rest p) (p + 1) (uL T L p) (σ1 := va_up σ1 4 (cLine (p + 1) (uL T L p))) (by omega) (by omega) (by omega) (uL_lt T _ _ hW.1) (Cl.s h4) (fr3 hF (by decide))
        refine ⟨σ2, fun κ C => ?_, j2, j3⟩
        have e1 : pA T (c + 1) rest L d (most - k) = pA T c (clr rest p) (p + 1) (uL T L p) (most - (k + 1)) := by
          conv => lhs; unfold pA
          rw [hw]
          rfl
        rw [e1]
        refine g_iload (pc := 10) C dX3_personAt_10 rfl ?_
        refine g_iload (pc := 12) C dX3_personAt_12 rfl ?_
        refine g_icmp_gt (pc := 14) C 72 dX3_personAt_14 (by decide) (fun c14 => ?_) (fun c14 => ?_)
        · exact absurd c14 (nI_nlt (by omega) (by omega))
        · refine g_iload (pc := 17) C dX3_personAt_17 rfl ?_
          refine g_iload (pc := 19) C dX3_personAt_19 rfl ?_
          refine g_icmp_ge (pc := 21) C 72 dX3_personAt_21 (by decide) (fun c21 => ?_) (fun c21 => ?_)
          · exact absurd c21 (nI_ge (by omega) (by omega))
          · refine g_aload_n (pc := 24) C dX3_personAt_24 rfl ?_
            refine g_aload_n (pc := 25) C dX3_personAt_25 rfl ?_
            refine g_aload_n (pc := 26) C dX3_personAt_26 rfl ?_
            refine g_iload (pc := 27) C dX3_personAt_27 rfl ?_
            refine g_iload (pc := 29) C dX3_personAt_29 rfl ?_
            refine g_iload (pc := 31) C dX3_personAt_31 rfl ?_
            refine g_isub (pc := 33) C dX3_personAt_33 ?_
            rw [es]
            apply cl_X3_66 (pc := 34) C rfl tf dX3_personAt_34
            · repeat (first | assumption | exact Cl.s (by assumption) | refine Cl.n (by first | decide | omega) ?_)
            · rfl
            · exact Nat.le_of_ble_eq_true rfl
            refine g_istore (pc := 37) C dX3_personAt_37 (by decide) rfl ?_
            refine g_iload (pc := 39) C dX3_personAt_39 rfl ?_
            refine g_iconst (pc := 41) (v := -1) C dX3_personAt_41 (by decide) ?_
            refine g_icmp_nE (pc := 42) C 48 dX3_personAt_42 (by decide) (fun c42 => ?_) (fun c42 => ?_)
            · refine g_aload_n (pc := 48) C dX3_personAt_48 rfl ?_
              refine g_aload_n (pc := 49) C dX3_personAt_49 rfl ?_
              refine g_iload (pc := 50) C dX3_personAt_50 rfl ?_
              apply cl_X3_70 (pc := 52) C rfl (t_take hT1 h4 hL hp) dX3_personAt_52
              · repeat (first | assumption | exact Cl.s (by assumption) | refine Cl.n (by first | decide | omega) ?_)
              · rfl
              · exact Nat.le_of_ble_eq_true rfl
              refine g_iload (pc := 55) C dX3_personAt_55 rfl ?_
              refine g_iconst (pc := 57) (v := nI 1) C dX3_personAt_57 (by decide) ?_
              refine g_iload (pc := 58) C dX3_personAt_58 rfl ?_
              refine g_ishl (pc := 60) C dX3_personAt_60 ?_
              rw [nx_shl _ (by omega)]
              refine g_iconst (pc := 61) (v := -1) C dX3_personAt_61 (by decide) ?_
              refine g_ixor (pc := 62) C dX3_personAt_62 ?_
              refine g_iand (pc := 63) C dX3_personAt_63 ?_
              rw [clr_I' (by omega) (by omega)]
              refine g_istore (pc := 64) C dX3_personAt_64 (by decide) rfl ?_
              refine g_iinc (pc := 66) C dX3_personAt_66 rfl (by decide) rfl ?_
              refine g_goto (pc := 69) C 10 dX3_personAt_69 (by decide) ?_
              exact g_to (j1 κ C) ⟨rfl, rfl, rfl, rfl, rfl, rfl, lgi (nI_1 k), trivial⟩
            · exact absurd (show nI p = -1 from c42) (by rw [← lat_s]; exact lat_ne (by omega))
  obtain ⟨x, y, h4⟩ := hl
  obtain ⟨σ2, j1, j2, j3⟩ := loop (i + 1) 0 set 0 0 (σ1 := va_up σ 4 (cLine 0 0)) (by omega) hs (by omega) (by omega) (Cl.s h4) (fr3 fr0 (by decide))
  refine ⟨σ2, ?_, j2, j3⟩
  refine Mt.of (by decide +kernel) (Nat.le_of_ble_eq_true rfl) (fun κ C => ?_)
  refine g_iload_n (pc := 0) C dX3_personAt_0 rfl ?_
  refine g_istore (pc := 1) C dX3_personAt_1 (by decide) rfl ?_
  refine g_aload_n (pc := 3) C dX3_personAt_3 rfl ?_
  apply cl_X3_61 (pc := 4) C rfl (t_lclear h4) dX3_personAt_4
  · repeat (first | assumption | exact Cl.s (by assumption) | refine Cl.n (by first | decide | omega) ?_)
  · rfl
  · exact Nat.le_of_ble_eq_true rfl
  refine g_iconst (pc := 7) (v := nI 0) C dX3_personAt_7 (by decide) ?_
  refine g_istore (pc := 8) C dX3_personAt_8 (by decide) rfl ?_
  exact g_to (j1 κ C) ⟨rfl, rfl, rfl, rfl, rfl, rfl, rfl, trivial⟩
theorem c_longest (h0 : Cl G σ 0 (cMain G)) (hT : RT G σ T) (hlo : RLo G σ T) (hl : RLi G σ) (set i : Int32) : ∃ σ', Mt G mX9_longest [.ref (ga G 0), .int set, .int i] σ (some (.int (longestF T set i))) σ' ∧ RLo G σ' T ∧ RLi G σ' ∧ Fr σ σ' [4, 6, 18] := by
  have hW := hT.w
  have hm := hW.2.2.2.2.1
  obtain ⟨hN, hN1⟩ := shl_512 hm
  obtain ⟨bo, hc0, h9⟩ := hT.c
  by_cases hb : inR set (1 <<< tm T) = true ∧ -1 ≤ i
  · obtain ⟨hb1, hb2⟩ := hb
    have hb' : inR set (1 <<< tm T) = true ∧ -1 ≤ i := ⟨hb1, hb2⟩
    rcases inR_c set (m := 1 <<< tm T) (by omega) with e | ⟨e, s, hs, rfl⟩
    · rw [e] at hb1; cases hb1
    have es := nI_clamp (n := s) (by omega)
    obtain ⟨σ1, f, m1, z6, z18, hf, hF⟩ := t_most hT hlo hs
    have hmost : mostL T s ≤ 9 := mxJ_le _ (fun j hj => Ls_9 hm (by omega) hj)
    have h01 := h0.fr hF (by decide)
    have hlo1 : RLo G σ1 T := ⟨f, true, z6, z18, fun _ => hf⟩
    obtain ⟨x, y, h4⟩ := hl
    have hl1 : RLi G σ1 := ⟨x, y, h4.fr hF (by decide)⟩
    have h6' : ∃ q, Cl G σ 6 (cLong G q) := by
      obtain ⟨_, k, q, _⟩ := hlo
      exact ⟨_, q⟩
    obtain ⟨q6, h6'⟩ := h6'
    have hT1 := hT.fr hF (by decide) (by decide) (by decide) (by decide)
    obtain ⟨bo1, hc1, h91⟩ := hT1.c
    by_cases hi1 : i = -1
    · subst hi1
      rw [show longestF T (nI s) (-1) = nI (mostL T s) by unfold longestF; rw [if_pos hb', if_pos rfl, es]]
      refine ⟨σ1, ?_, hlo1, hl1, fun j hj => hF j (fun q => hj (by simp at q ⊢; omega))⟩
      refine Mt.of (by decide +kernel) (Nat.le_of_ble_eq_true rfl) (fun κ C => ?_)
      refine g_iload_n (pc := 0) C dX9_longest_0 rfl ?_
      refine g_if_lt (pc := 1) C 22 dX9_longest_1 (by decide) (fun c1 => ?_) (fun c1 => ?_)
      · exact absurd c1 (nI_pos (by omega))
      · refine g_iload_n (pc := 4) C dX9_longest_4 rfl ?_
        refine g_iconst (pc := 5) (v := nI 1) C dX9_longest_5 (by decide) ?_
        refine g_aload_n (pc := 6) C dX9_longest_6 rfl ?_
        apply gf_X9_68 (pc := 7) C rfl dX9_longest_7
        · repeat (first | assumption | exact Cl.s (by assumption) | refine Cl.n (by first | decide | omega) ?_)
        · rfl
        apply gf_X9_105 (pc := 10) C rfl dX9_longest_10
        · repeat (first | assumption | exact Cl.s (by assumption) | refine Cl.n (by first | decide | omega) ?_)
        · rfl
        refine g_ishl (pc := 13) C dX9_longest_13 ?_
        rw [nx_shl _ (by omega)]
        refine g_icmp_ge (pc := 14) C 22 dX9_longest_14 (by decide) (fun c14 => ?_) (fun c14 => ?_)
        · exact absurd c14 (nI_ge hs (by omega))
        · refine g_iload_n (pc := 17) C dX9_longest_17 rfl ?_
          refine g_iconst (pc := 18) (v := -1) C dX9_longest_18 (by decide) ?_
          refine g_icmp_ge (pc := 19) C 24 dX9_longest_19 (by decide) (fun c19 => ?_) (fun c19 => ?_)
          · refine g_aload_n (pc := 24) C dX9_longest_24 rfl ?_
            apply gf_X9_47 (pc := 25) C rfl dX9_longest_25
            · repeat (first | assumption | exact Cl.s (by assumption) | refine Cl.n (by first | decide | omega) ?_)
            · rfl
            refine g_aload_n (pc := 28) C dX9_longest_28 rfl ?_
            apply gf_X9_68 (pc := 29) C rfl dX9_longest_29
            · repeat (first | assumption | exact Cl.s (by assumption) | refine Cl.n (by first | decide | omega) ?_)
            · rfl
            refine g_iload_n (pc := 32) C dX9_longest_32 rfl ?_
            apply cl_X9_175 (pc := 33) C rfl m1 dX9_longest_33
            · repeat (first | assumption | exact Cl.s (by assumption) | refine Cl.n (by first | decide | omega) ?_)
            · rfl
            · exact Nat.le_of_ble_eq_true rfl
            refine g_istore_n (pc := 36) C dX9_longest_36 (by decide) rfl ?_
            refine g_iload_n (pc := 37) C dX9_longest_37 rfl ?_
            refine g_iconst (pc := 38) (v := -1) C dX9_longest_38 (by decide) ?_
            refine g_icmp_nE (pc := 39) C 44 dX9_longest_39 (by decide) (fun c39 => ?_) (fun c39 => ?_)
            · exact absurd rfl c39
            · refine g_iload_n (pc := 42) C dX9_longest_42 rfl ?_
              exact g_ireturn (pc := 43) C dX9_longest_43 rfl (rfl) (rfl)
          · exact absurd (by decide) c19
    · by_cases hlt : i < nI (mostL T s)
      · obtain ⟨k, hk, rfl⟩ : ∃ k, k < mostL T s ∧ i = nI k := by
          rcases pk_ix i (n := mostL T s) (by omega) with q | q | q
          · exact absurd (Int32.le_antisymm (by
              rw [Int32.le_iff_toInt_le]
              have := Int32.lt_iff_toInt_lt.mp q
              have e0 : (0 : Int32).toInt = 0 := rfl
              have e1 : (-1 : Int32).toInt = -1 := by decide
              omega) hb2) hi1
          · exact absurd hlt (Int32.not_lt.mpr q)
          · exact q
        rw [show longestF T (nI s) (nI k) = pA T (k + 1) s 0 0 (mostL T s) by unfold longestF; rw [if_pos hb', if_neg hi1, es, if_pos hlt, nI_clamp (by omega)]]
        obtain ⟨σ2, p1, p2, p3⟩ := t_personAt hT1 z6 z18 hf hl1 hs hk hmost
        refine ⟨σ2, ?_, ⟨f, true, z6.fr p3 (by decide), z18.fr p3 (by decide), fun _ => hf⟩, p2, fun j hj => (p3 j (fun q => hj (by simp at q ⊢; omega))).trans (hF j (fun q => hj (by simp at q ⊢; omega)))⟩
        refine Mt.of (by decide +kernel) (Nat.le_of_ble_eq_true rfl) (fun κ C => ?_)
        refine g_iload_n (pc := 0) C dX9_longest_0 rfl ?_
        refine g_if_lt (pc := 1) C 22 dX9_longest_1 (by decide) (fun c1 => ?_) (fun c1 => ?_)
        · exact absurd c1 (nI_pos (by omega))
        · refine g_iload_n (pc := 4) C dX9_longest_4 rfl ?_
          refine g_iconst (pc := 5) (v := nI 1) C dX9_longest_5 (by decide) ?_
          refine g_aload_n (pc := 6) C dX9_longest_6 rfl ?_
          apply gf_X9_68 (pc := 7) C rfl dX9_longest_7
          · repeat (first | assumption | exact Cl.s (by assumption) | refine Cl.n (by first | decide | omega) ?_)
          · rfl
          apply gf_X9_105 (pc := 10) C rfl dX9_longest_10
          · repeat (first | assumption | exact Cl.s (by assumption) | refine Cl.n (by first | decide | omega) ?_)
          · rfl
          refine g_ishl (pc := 13) C dX9_longest_13 ?_
          rw [nx_shl _ (by omega)]
          refine g_icmp_ge (pc := 14) C 22 dX9_longest_14 (by decide) (fun c14 => ?_) (fun c14 => ?_)
          · exact absurd c14 (nI_ge hs (by omega))
          · refine g_iload_n (pc := 17) C dX9_longest_17 rfl ?_
            refine g_iconst (pc := 18) (v := -1) C dX9_longest_18 (by decide) ?_
            refine g_icmp_ge (pc := 19) C 24 dX9_longest_19 (by decide) (fun c19 => ?_) (fun c19 => ?_)
            · refine g_aload_n (pc := 24) C dX9_longest_24 rfl ?_
              apply gf_X9_47 (pc := 25) C rfl dX9_longest_25
              · repeat (first | assumption | exact Cl.s (by assumption) | refine Cl.n (by first | decide | omega) ?_)
              · rfl
              refine g_aload_n (pc := 28) C dX9_longest_28 rfl ?_
              apply gf_X9_68 (pc := 29) C rfl dX9_longest_29
              · repeat (first | assumption | exact Cl.s (by assumption) | refine Cl.n (by first | decide | omega) ?_)
              · rfl
              refine g_iload_n (pc := 32) C dX9_longest_32 rfl ?_
              apply cl_X9_175 (pc := 33) C rfl m1 dX9_longest_33
              · repeat (first | assumption | exact Cl.s (by assumption) | refine Cl.n (by first | decide | omega) ?_)
              · rfl
              · exact Nat.le_of_ble_eq_true rfl
              refine g_istore_n (pc := 36) C dX9_longest_36 (by decide) rfl ?_
              refine g_iload_n (pc := 37) C dX9_longest_37 rfl ?_
              refine g_iconst (pc := 38) (v := -1) C dX9_longest_38 (by decide) ?_
              refine g_icmp_nE (pc := 39) C 44 dX9_longest_39 (by decide) (fun c39 => ?_) (fun c39 => ?_)
              · refine g_iload_n (pc := 44) C dX9_longest_44 rfl ?_
                refine g_iload_n (pc := 45) C dX9_longest_45 rfl ?_
                refine g_icmp_ge (pc := 46) C 70 dX9_longest_46 (by decide) (fun c46 => ?_) (fun c46 => ?_)
                · exact absurd hlt (Int32.not_lt.mpr c46)
                · refine g_aload_n (pc := 49) C dX9_longest_49 rfl ?_
                  apply gf_X9_47 (pc := 50) C rfl dX9_longest_50
                  · repeat (first | assumption | exact Cl.s (by assumption) | refine Cl.n (by first | decide | omega) ?_)
                  · rfl
                  refine g_aload_n (pc := 53) C dX9_longest_53 rfl ?_
                  apply gf_X9_68 (pc := 54) C rfl dX9_longest_54
                  · repeat (first | assumption | exact Cl.s (by assumption) | refine Cl.n (by first | decide | omega) ?_)
                  · rfl
                  refine g_aload_n (pc := 57) C dX9_longest_57 rfl ?_
                  apply gf_X9_33 (pc := 58) C rfl dX9_longest_58
                  · repeat (first | assumption | exact Cl.s (by assumption) | refine Cl.n (by first | decide | omega) ?_)
                  · rfl
                  refine g_iload_n (pc := 61) C dX9_longest_61 rfl ?_
                  refine g_iload_n (pc := 62) C dX9_longest_62 rfl ?_
                  refine g_iload_n (pc := 63) C dX9_longest_63 rfl ?_
                  apply cl_X9_179 (pc := 64) C rfl p1 dX9_longest_64
                  · repeat (first | assumption | exact Cl.s (by assumption) | refine Cl.n (by first | decide | omega) ?_)
                  · rfl
                  · exact Nat.le_of_ble_eq_true rfl
                  refine g_goto (pc := 67) C 72 dX9_longest_67 (by decide) ?_
                  exact g_ireturn (pc := 72) C dX9_longest_72 rfl (rfl) (rfl)
              · exact absurd c39 hi1
            · exact absurd hb2 c19
      · rw [show longestF T (nI s) i = -4 by unfold longestF; rw [if_pos hb', if_neg hi1, es, if_neg hlt]]
        refine ⟨σ1, ?_, hlo1, hl1, fun j hj => hF j (fun q => hj (by simp at q ⊢; omega))⟩
        refine Mt.of (by decide +kernel) (Nat.le_of_ble_eq_true rfl) (fun κ C => ?_)
        refine g_iload_n (pc := 0) C dX9_longest_0 rfl ?_
        refine g_if_lt (pc := 1) C 22 dX9_longest_1 (by decide) (fun c1 => ?_) (fun c1 => ?_)
        · exact absurd c1 (nI_pos (by omega))
        · refine g_iload_n (pc := 4) C dX9_longest_4 rfl ?_
          refine g_iconst (pc := 5) (v := nI 1) C dX9_longest_5 (by decide) ?_
          refine g_aload_n (pc := 6) C dX9_longest_6 rfl ?_
          apply gf_X9_68 (pc := 7) C rfl dX9_longest_7
          · repeat (first | assumption | exact Cl.s (by assumption) | refine Cl.n (by first | decide | omega) ?_)
          · rfl
          apply gf_X9_105 (pc := 10) C rfl dX9_longest_10
          · repeat (first | assumption | exact Cl.s (by assumption) | refine Cl.n (by first | decide | omega) ?_)
          · rfl
          refine g_ishl (pc := 13) C dX9_longest_13 ?_
          rw [nx_shl _ (by omega)]
          refine g_icmp_ge (pc := 14) C 22 dX9_longest_14 (by decide) (fun c14 => ?_) (fun c14 => ?_)
          · exact absurd c14 (nI_ge hs (by omega))
          · refine g_iload_n (pc := 17) C dX9_longest_17 rfl ?_
            refine g_iconst (pc := 18) (v := -1) C dX9_longest_18 (by decide) ?_
            refine g_icmp_ge (pc := 19) C 24 dX9_longest_19 (by decide) (fun c19 => ?_) (fun c19 => ?_)
            · refine g_aload_n (pc := 24) C dX9_longest_24 rfl ?_
              apply gf_X9_47 (pc := 25) C rfl dX9_longest_25
              · repeat (first | assumption | exact Cl.s (by assumption) | refine Cl.n (by first | decide | omega) ?_)
              · rfl
              refine g_aload_n (pc := 28) C dX9_longest_28 rfl ?_
              apply gf_X9_68 (pc := 29) C rfl dX9_longest_29
              · repeat (first | assumption | exact Cl.s (by assumption) | refine Cl.n (by first | decide | omega) ?_)
              · rfl
              refine g_iload_n (pc := 32) C dX9_longest_32 rfl ?_
              apply cl_X9_175 (pc := 33) C rfl m1 dX9_longest_33
              · repeat (first | assumption | exact Cl.s (by assumption) | refine Cl.n (by first | decide | omega) ?_)
              · rfl
              · exact Nat.le_of_ble_eq_true rfl
              refine g_istore_n (pc := 36) C dX9_longest_36 (by decide) rfl ?_
              refine g_iload_n (pc := 37) C dX9_longest_37 rfl ?_
              refine g_iconst (pc := 38) (v := -1) C dX9_longest_38 (by decide) ?_
              refine g_icmp_nE (pc := 39) C 44 dX9_longest_39 (by decide) (fun c39 => ?_) (fun c39 => ?_)
              · refine g_iload_n (pc := 44) C dX9_longest_44 rfl ?_
                refine g_iload_n (pc := 45) C dX9_longest_45 rfl ?_
                refine g_icmp_ge (pc := 46) C 70 dX9_longest_46 (by decide) (fun c46 => ?_) (fun c46 => ?_)
                · refine g_bipush (pc := 70) (v := -4) C dX9_longest_70 (by decide) ?_
                  exact g_ireturn (pc := 72) C dX9_longest_72 rfl (rfl) (rfl)
                · exact absurd (Int32.not_lt.mp hlt) c46
              · exact absurd c39 hi1
            · exact absurd hb2 c19
  · rw [show longestF T set i = -1 by unfold longestF; rw [if_neg hb]]
    refine ⟨σ, ?_, hlo, hl, fr0⟩
    refine Mt.of (by decide +kernel) (Nat.le_of_ble_eq_true rfl) (fun κ C => ?_)
    refine g_iload_n (pc := 0) C dX9_longest_0 rfl ?_
    refine g_if_lt (pc := 1) C 22 dX9_longest_1 (by decide) (fun c1 => ?_) (fun c1 => ?_)
    · refine g_iconst (pc := 22) (v := -1) C dX9_longest_22 (by decide) ?_
      exact g_ireturn (pc := 23) C dX9_longest_23 rfl (rfl) (rfl)
    · refine g_iload_n (pc := 4) C dX9_longest_4 rfl ?_
      refine g_iconst (pc := 5) (v := nI 1) C dX9_longest_5 (by decide) ?_
      refine g_aload_n (pc := 6) C dX9_longest_6 rfl ?_
      apply gf_X9_68 (pc := 7) C rfl dX9_longest_7
      · repeat (first | assumption | exact Cl.s (by assumption) | refine Cl.n (by first | decide | omega) ?_)
      · rfl
      apply gf_X9_105 (pc := 10) C rfl dX9_longest_10
      · repeat (first | assumption | exact Cl.s (by assumption) | refine Cl.n (by first | decide | omega) ?_)
      · rfl
      refine g_ishl (pc := 13) C dX9_longest_13 ?_
      rw [nx_shl _ (by omega)]
      refine g_icmp_ge (pc := 14) C 22 dX9_longest_14 (by decide) (fun c14 => ?_) (fun c14 => ?_)
      · refine g_iconst (pc := 22) (v := -1) C dX9_longest_22 (by decide) ?_
        exact g_ireturn (pc := 23) C dX9_longest_23 rfl (rfl) (rfl)
      · refine g_iload_n (pc := 17) C dX9_longest_17 rfl ?_
        refine g_iconst (pc := 18) (v := -1) C dX9_longest_18 (by decide) ?_
        refine g_icmp_ge (pc := 19) C 24 dX9_longest_19 (by decide) (fun c19 => ?_) (fun c19 => ?_)
        · exact absurd ⟨inR_t c1 c14, c19⟩ hb
        · refine g_iconst (pc := 22) (v := -1) C dX9_longest_22 (by decide) ?_
          exact g_ireturn (pc := 23) C dX9_longest_23 rfl (rfl) (rfl)
end LONG3

