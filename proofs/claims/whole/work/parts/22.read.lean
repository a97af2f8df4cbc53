section READ2
variable {G : GG} {σ : WW} {P : TS}
theorem t_takeItem {n : Nat} {f x : Nat → Int32} (h : RP G σ P) (h1 : Cl G σ 1 (cText G n)) (h11 : Cl G σ 11 (bA G 300 f)) {a e : Nat} (hae : a < e ∨ (a = e ∧ x a = 59)) (ha : a < 300) (he : e ≤ 300) (hf : ∀ k, k < e → f k = x k) (hfa : f a = x a) (hx : ∀ k, k < e → BB (x k)) : ∃ σ', Mt G mX6_takeItem [.ref (ga G 1), .ref (ga G 10), .int (nI a), .int (nI e)] σ (some (.int (nI (b2 (itm x a e P).isSome)))) σ' ∧ (match itm x a e P with | some P' => RP G σ' P' | none => RPa G σ') ∧ Fr σ σ' sp4 := by
  have hP10 := h
  obtain ⟨_, _, _, h10, -⟩ := h
  by_cases k1 : x a = 116
  · have hlt : a < e := by
      rcases hae with q | ⟨-, q⟩
      · exact q
      · rw [k1] at q; exact absurd q (by decide)
    have ei : itm x a e P = thg P (numN x (a + 1) (fnd x 44 (e - (a + 1)) (a + 1))) (numN x (fnd x 44 (e - (a + 1)) (a + 1) + 1) e) := by unfold itm; rw [if_pos k1]
    rw [ei]
    have hc := fnd_le x 44 (e - (a + 1)) (a + 1)
    obtain ⟨σ1, g1, g2, g3⟩ := t_takeThing hP10 (o1 := numN x (a + 1) (fnd x 44 (e - (a + 1)) (a + 1))) (o2 := numN x (fnd x 44 (e - (a + 1)) (a + 1) + 1) e) (fun v hv => numN_lt hv) (fun v hv => numN_lt hv)
    refine ⟨σ1, ?_, g2, g3⟩
    refine Mt.of (by decide +kernel) (Nat.le_of_ble_eq_true rfl) (fun κ C => ?_)
    refine g_aload_n (pc := 0) C dX6_takeItem_0 rfl ?_
    apply gf_X6_9 (pc := 1) C rfl dX6_takeItem_1
    · repeat (first | assumption | exact Cl.s (by assumption) | refine Cl.n (by first | decide | omega) ?_)
    · rfl
    refine g_iload_n (pc := 4) C dX6_takeItem_4 rfl ?_
    apply g_baload (pc := 5) C dX6_takeItem_5
    · repeat (first | assumption | exact Cl.s (by assumption) | refine Cl.n (by first | decide | omega) ?_)
    · exact vp_in_nI (by omega) (by decide)
    rw [nI_clamp (by omega), hfa, k1]
    refine g_istore (pc := 6) C dX6_takeItem_6 (by decide) rfl ?_
    refine g_iload_n (pc := 8) C dX6_takeItem_8 rfl ?_
    refine g_iconst (pc := 9) (v := nI 1) C dX6_takeItem_9 (by decide) ?_
    refine g_iadd (pc := 10) C dX6_takeItem_10 ?_
    rw [nI_add]
    refine g_istore (pc := 11) C dX6_takeItem_11 (by decide) rfl ?_
    refine g_iload (pc := 13) C dX6_takeItem_13 rfl ?_
    refine g_lookup (pc := 15) (off := 41) C 56 dX6_takeItem_15 rfl (by decide) (by decide) ?_
    refine g_aload_n (pc := 56) C dX6_takeItem_56 rfl ?_
    refine g_bipush (pc := 57) (v := nI 44) C dX6_takeItem_57 (by decide) ?_
    refine g_iload (pc := 59) C dX6_takeItem_59 rfl ?_
    refine g_iload_n (pc := 61) C dX6_takeItem_61 rfl ?_
    apply cl_X6_24 (pc := 62) C rfl (t_find h1 h11 44 (by omega) he hf) dX6_takeItem_62
    · repeat (first | assumption | exact Cl.s (by assumption) | refine Cl.n (by first | decide | omega) ?_)
    · rfl
    · exact Nat.le_of_ble_eq_true rfl
    refine g_istore (pc := 65) C dX6_takeItem_65 (by decide) rfl ?_
    refine g_aload_n (pc := 67) C dX6_takeItem_67 rfl ?_
    refine g_aload_n (pc := 68) C dX6_takeItem_68 rfl ?_
    refine g_iload (pc := 69) C dX6_takeItem_69 rfl ?_
    refine g_iload (pc := 71) C dX6_takeItem_71 rfl ?_
    apply cl_X6_32 (pc := 73) C rfl (t_number h1 h11 (by omega) (by omega) (fun k hk => hf k (by omega))) dX6_takeItem_73
    · repeat (first | assumption | exact Cl.s (by assumption) | refine Cl.n (by first | decide | omega) ?_)
    · rfl
    · exact Nat.le_of_ble_eq_true rfl
    refine g_aload_n (pc := 76) C dX6_takeItem_76 rfl ?_
    refine g_iload (pc := 77) C dX6_takeItem_77 rfl ?_
    refine g_iconst (pc := 79) (v := nI 1) C dX6_takeItem_79 (by decide) ?_
    refine g_iadd (pc := 80) C dX6_takeItem_80 ?_
    rw [nI_add]
    refine g_iload_n (pc := 81) C dX6_takeItem_81 rfl ?_
    apply cl_X6_32 (pc := 82) C rfl (t_number h1 h11 (by omega) he hf) dX6_takeItem_82
    · repeat (first | assumption | exact Cl.s (by assumption) | refine Cl.n (by first | decide | omega) ?_)
    · rfl
    · exact Nat.le_of_ble_eq_true rfl
    apply cl_X6_36 (pc := 85) C rfl g1 dX6_takeItem_85
    · repeat (first | assumption | exact Cl.s (by assumption) | refine Cl.n (by first | decide | omega) ?_)
    · rfl
    · exact Nat.le_of_ble_eq_true rfl
    exact g_zreturn (pc := 88) C dX6_takeItem_88 rfl (b2_01 _) (rfl) (rfl)
  · by_cases k2 : x a = 112
    · have hlt : a < e := by
        rcases hae with q | ⟨-, q⟩
        · exact q
        · rw [k2] at q; exact absurd q (by decide)
      have ei : itm x a e P = prs P x (a + 1) e := by unfold itm; rw [if_neg k1, if_pos k2]
      rw [ei]
      obtain ⟨σ1, g1, g2, g3⟩ := t_takePerson hP10 h11 (a := a + 1) (e := e) (by omega) he hf hx
      refine ⟨σ1, ?_, g2, g3⟩
      refine Mt.of (by decide +kernel) (Nat.le_of_ble_eq_true rfl) (fun κ C => ?_)
      refine g_aload_n (pc := 0) C dX6_takeItem_0 rfl ?_
      apply gf_X6_9 (pc := 1) C rfl dX6_takeItem_1
      · repeat (first | assumption | exact Cl.s (by assumption) | refine Cl.n (by first | decide | omega) ?_)
      · rfl
      refine g_iload_n (pc := 4) C dX6_takeItem_4 rfl ?_
      apply g_baload (pc := 5) C dX6_takeItem_5
      · repeat (first | assumption | exact Cl.s (by assumption) | refine Cl.n (by first | decide | omega) ?_)
      · exact vp_in_nI (by omega) (by decide)
      rw [nI_clamp (by omega), hfa, k2]
      refine g_istore (pc := 6) C dX6_takeItem_6 (by decide) rfl ?_
      refine g_iload_n (pc := 8) C dX6_takeItem_8 rfl ?_
      refine g_iconst (pc := 9) (v := nI 1) C dX6_takeItem_9 (by decide) ?_
      refine g_iadd (pc := 10) C dX6_takeItem_10 ?_
      rw [nI_add]
      refine g_istore (pc := 11) C dX6_takeItem_11 (by decide) rfl ?_
      refine g_iload (pc := 13) C dX6_takeItem_13 rfl ?_
      refine g_lookup (pc := 15) (off := 74) C 89 dX6_takeItem_15 rfl (by decide) (by decide) ?_
      refine g_aload_n (pc := 89) C dX6_takeItem_89 rfl ?_
      refine g_aload_n (pc := 90) C dX6_takeItem_90 rfl ?_
      apply gf_X6_9 (pc := 91) C rfl dX6_takeItem_91
      · repeat (first | assumption | exact Cl.s (by assumption) | refine Cl.n (by first | decide | omega) ?_)
      · rfl
      refine g_iload (pc := 94) C dX6_takeItem_94 rfl ?_
      refine g_iload_n (pc := 96) C dX6_takeItem_96 rfl ?_
      apply cl_X6_40 (pc := 97) C rfl g1 dX6_takeItem_97
      · repeat (first | assumption | exact Cl.s (by assumption) | refine Cl.n (by first | decide | omega) ?_)
      · rfl
      · exact Nat.le_of_ble_eq_true rfl
      exact g_zreturn (pc := 100) C dX6_takeItem_100 rfl (b2_01 _) (rfl) (rfl)
    · by_cases k3 : x a = 108
      · have hlt : a < e := by
          rcases hae with q | ⟨-, q⟩
          · exact q
          · rw [k3] at q; exact absurd q (by decide)
        have ei : itm x a e P = lawO P (numN x (a + 1) e) := by unfold itm; rw [if_neg k1, if_neg k2, if_pos k3]
        rw [ei]
        obtain ⟨σ1, g1, g2, g3⟩ := t_takeLaw (o := numN x (a + 1) e) hP10 (fun v hv => numN_lt hv)
        refine ⟨σ1, ?_, ?_, g3⟩
        · refine Mt.of (by decide +kernel) (Nat.le_of_ble_eq_true rfl) (fun κ C => ?_)
          refine g_aload_n (pc := 0) C dX6_takeItem_0 rfl ?_
          apply gf_X6_9 (pc := 1) C rfl dX6_takeItem_1
          · repeat (first | assumption | exact Cl.s (by assumption) | refine Cl.n (by first | decide | omega) ?_)
          · rfl
          refine g_iload_n (pc := 4) C dX6_takeItem_4 rfl ?_
          apply g_baload (pc := 5) C dX6_takeItem_5
          · repeat (first | assumption | exact Cl.s (by assumption) | refine Cl.n (by first | decide | omega) ?_)
          · exact vp_in_nI (by omega) (by decide)
          rw [nI_clamp (by omega), hfa, k3]
          refine g_istore (pc := 6) C dX6_takeItem_6 (by decide) rfl ?_
          refine g_iload_n (pc := 8) C dX6_takeItem_8 rfl ?_
          refine g_iconst (pc := 9) (v := nI 1) C dX6_takeItem_9 (by decide) ?_
          refine g_iadd (pc := 10) C dX6_takeItem_10 ?_
          rw [nI_add]
          refine g_istore (pc := 11) C dX6_takeItem_11 (by decide) rfl ?_
          refine g_iload (pc := 13) C dX6_takeItem_13 rfl ?_
          refine g_lookup (pc := 15) (off := 86) C 101 dX6_takeItem_15 rfl (by decide) (by decide) ?_
          refine g_aload_n (pc := 101) C dX6_takeItem_101 rfl ?_
          refine g_aload_n (pc := 102) C dX6_takeItem_102 rfl ?_
          refine g_iload (pc := 103) C dX6_takeItem_103 rfl ?_
          refine g_iload_n (pc := 105) C dX6_takeItem_105 rfl ?_
          apply cl_X6_32 (pc := 106) C rfl (t_number h1 h11 (by omega) he hf) dX6_takeItem_106
          · repeat (first | assumption | exact Cl.s (by assumption) | refine Cl.n (by first | decide | omega) ?_)
          · rfl
          · exact Nat.le_of_ble_eq_true rfl
          apply cl_X6_44 (pc := 109) C rfl g1 dX6_takeItem_109
          · repeat (first | assumption | exact Cl.s (by assumption) | refine Cl.n (by first | decide | omega) ?_)
          · rfl
          · exact Nat.le_of_ble_eq_true rfl
          exact g_zreturn (pc := 112) C dX6_takeItem_112 rfl (b2_01 _) (rfl) (rfl)
        · revert g2
          cases lawO P (numN x (a + 1) e) with
          | none => exact fun g2 => g2.a
          | some P' => exact fun g2 => g2
      · by_cases k4 : x a = 103
        · have hlt : a < e := by
            rcases hae with q | ⟨-, q⟩
            · exact q
            · rw [k4] at q; exact absurd q (by decide)
          have ei : itm x a e P = grdO P (numN x (a + 1) e) := by unfold itm; rw [if_neg k1, if_neg k2, if_neg k3, if_pos k4]
          rw [ei]
          obtain ⟨σ1, g1, g2, g3⟩ := t_takeGuard (o := numN x (a + 1) e) hP10 (fun v hv => numN_lt hv)
          refine ⟨σ1, ?_, ?_, g3⟩
          · refine Mt.of (by decide +kernel) (Nat.le_of_ble_eq_true rfl) (fun κ C => ?_)
            refine g_aload_n (pc := 0) C dX6_takeItem_0 rfl ?_
            apply gf_X6_9 (pc := 1) C rfl dX6_takeItem_1
            · repeat (first | assumption | exact Cl.s (by assumption) | refine Cl.n (by first | decide | omega) ?_)
            · rfl
            refine g_iload_n (pc := 4) C dX6_takeItem_4 rfl ?_
            apply g_baload (pc := 5) C dX6_takeItem_5
            · repeat (first | assumption | exact Cl.s (by assumption) | refine Cl.n (by first | decide | omega) ?_)
            · exact vp_in_nI (by omega) (by decide)
            rw [nI_clamp (by omega), hfa, k4]
            refine g_istore (pc := 6) C dX6_takeItem_6 (by decide) rfl ?_
            refine g_iload_n (pc := 8) C dX6_takeItem_8 rfl ?_
            refine g_iconst (pc := 9) (v := nI 1) C dX6_takeItem_9 (by decide) ?_
            refine g_iadd (pc := 10) C dX6_takeItem_10 ?_
            rw [nI_add]
            refine g_istore (pc := 11) C dX6_takeItem_11 (by decide) rfl ?_
            refine g_iload (pc := 13) C dX6_takeItem_13 rfl ?_
            refine g_lookup (pc := 15) (off := 98) C 113 dX6_takeItem_15 rfl (by decide) (by decide) ?_
            refine g_aload_n (pc := 113) C dX6_takeItem_113 rfl ?_
            refine g_aload_n (pc := 114) C dX6_takeItem_114 rfl ?_
            refine g_iload (pc := 115) C dX6_takeItem_115 rfl ?_
            refine g_iload_n (pc := 117) C dX6_takeItem_117 rfl ?_
            apply cl_X6_32 (pc := 118) C rfl (t_number h1 h11 (by omega) he hf) dX6_takeItem_118
            · repeat (first | assumption | exact Cl.s (by assumption) | refine Cl.n (by first | decide | omega) ?_)
            · rfl
            · exact Nat.le_of_ble_eq_true rfl
            apply cl_X6_48 (pc := 121) C rfl g1 dX6_takeItem_121
            · repeat (first | assumption | exact Cl.s (by assumption) | refine Cl.n (by first | decide | omega) ?_)
            · rfl
            · exact Nat.le_of_ble_eq_true rfl
            exact g_zreturn (pc := 124) C dX6_takeItem_124 rfl (b2_01 _) (rfl) (rfl)
          · revert g2
            cases grdO P (numN x (a + 1) e) with
            | none => exact fun g2 => g2.a
            | some P' => exact fun g2 => g2
        · have ei : itm x a e P = none := by unfold itm; rw [if_neg k1, if_neg k2, if_neg k3, if_neg k4]
          rw [ei]
          refine ⟨σ, ?_, hP10.a, fr0⟩
          refine Mt.of (by decide +kernel) (Nat.le_of_ble_eq_true rfl) (fun κ C => ?_)
          have z : ∀ c : Int32, ¬ x a = c → ¬ c.toInt = (x a).toInt := fun c hc q => hc (Int32.toInt_inj.mp q.symm)
          have z1 := z 116 k1
          have z2 := z 112 k2
          have z3 := z 108 k3
          have z4 := z 103 k4
          rw [show (116 : Int32).toInt = 116 by decide] at z1
          rw [show (112 : Int32).toInt = 112 by decide] at z2
          rw [show (108 : Int32).toInt = 108 by decide] at z3
          rw [show (103 : Int32).toInt = 103 by decide] at z4
          refine g_aload_n (pc := 0) C dX6_takeItem_0 rfl ?_
          apply gf_X6_9 (pc := 1) C rfl dX6_takeItem_1
          · repeat (first | assumption | exact Cl.s (by assumption) | refine Cl.n (by first | decide | omega) ?_)
          · rfl
          refine g_iload_n (pc := 4) C dX6_takeItem_4 rfl ?_
          apply g_baload (pc := 5) C dX6_takeItem_5
          · repeat (first | assumption | exact Cl.s (by assumption) | refine Cl.n (by first | decide | omega) ?_)
          · exact vp_in_nI (by omega) (by decide)
          rw [nI_clamp (by omega), hfa]
          refine g_istore (pc := 6) C dX6_takeItem_6 (by decide) rfl ?_
          refine g_iload_n (pc := 8) C dX6_takeItem_8 rfl ?_
          refine g_iconst (pc := 9) (v := nI 1) C dX6_takeItem_9 (by decide) ?_
          refine g_iadd (pc := 10) C dX6_takeItem_10 ?_
          refine g_istore (pc := 11) C dX6_takeItem_11 (by decide) rfl ?_
          refine g_iload (pc := 13) C dX6_takeItem_13 rfl ?_
          refine g_lookup (pc := 15) (off := 110) C 125 dX6_takeItem_15 rfl (by simp [Op.lookupswitch.offset, z1, z2, z3, z4]) (by decide) ?_
          refine g_iconst (pc := 125) (v := nI 0) C dX6_takeItem_125 (by decide) ?_
          exact g_zreturn (pc := 126) C dX6_takeItem_126 rfl (by first | exact Or.inl rfl | exact Or.inr rfl) (rfl) (rfl)
theorem t_readInto {n : Nat} {x : Nat → Int32} (h : RPa G σ) (hX : RX G σ n x) (hn : n ≤ 300) (hx : ∀ k, k < n → BB (x k)) : ∃ σ', Mt G mX6_readInto [.ref (ga G 1), .ref (ga G 10)] σ (some (.int (fltI (rd x n 300 0 P0).1))) σ' ∧ (match rd x n 300 0 P0 with | (none, P) => RP G σ' P | (some _, _) => RPa G σ') ∧ Fr σ σ' sp4 := by
  obtain ⟨σ0, gm, gP, gF⟩ := t_told_clear h
  have loop : ∀ d i a P {σ1 : WW}, i + d = 300 → a ≤ n → RP G σ1 P → Fr σ σ1 sp4 → ∃ σ', (∀ κ, Cx G mX6_readInto κ → Go G mX6_readInto κ (some (.int (fltI (rd x n d a P).1))) σ' σ1 8 [(0, .ref (ga G 1)), (1, .ref (ga G 10)), (2, .int (nI a)), (3, .int (nI i))] []) ∧ (match rd x n d a P with | (none, P) => RP G σ' P | (some _, _) => RPa G σ') ∧ Fr σ σ' sp4 := by
    intro d
    induction d with
    | zero =>
      intro i a P σ1 hi ha hP hF
      obtain ⟨h1, f, h11, hf⟩ := hX.fr hF (by decide) (by decide)
      refine ⟨σ1, fun κ C => ?_, hP, hF⟩
      refine g_iload_n (pc := 8) C dX6_readInto_8 rfl ?_
      refine g_sipush (pc := 9) (v := nI 300) C dX6_readInto_9 (by decide) ?_
      refine g_icmp_ge (pc := 12) C 69 dX6_readInto_12 (by decide) (fun c12 => ?_) (fun c12 => ?_)
      · refine g_bipush (pc := 69) (v := -4) C dX6_readInto_69 (by decide) ?_
        exact g_ireturn (pc := 71) C dX6_readInto_71 rfl (rfl) (rfl)
      · exact absurd (nI_le (by omega) (by omega)) c12
    | succ d ih =>
      intro i a P σ1 hi ha hP hF
      obtain ⟨h1, f, h11, hf⟩ := hX.fr hF (by decide) (by decide)
      by_cases hna : n ≤ a
      · rw [show rd x n (d + 1) a P = (none, P) by unfold rd; rw [if_pos hna]]
        refine ⟨σ1, fun κ C => ?_, hP, hF⟩
        refine g_iload_n (pc := 8) C dX6_readInto_8 rfl ?_
        refine g_sipush (pc := 9) (v := nI 300) C dX6_readInto_9 (by decide) ?_
        refine g_icmp_ge (pc := 12) C 69 dX6_readInto_12 (by decide) (fun c12 => ?_) (fun c12 => ?_)
        · exact absurd c12 (nI_ge (by omega) (by omega))
        · refine g_iload_n (pc := 15) C dX6_readInto_15 rfl ?_
          refine g_aload_n (pc := 16) C dX6_readInto_16 rfl ?_
          apply gf_X6_15 (pc := 17) C rfl dX6_readInto_17
          · repeat (first | assumption | exact Cl.s (by assumption) | refine Cl.n (by first | decide | omega) ?_)
          · rfl
          refine g_icmp_ge (pc := 20) C 69 dX6_readInto_20 (by decide) (fun c20 => ?_) (fun c20 => ?_)
          · refine g_bipush (pc := 69) (v := -4) C dX6_readInto_69 (by decide) ?_
            exact g_ireturn (pc := 71) C dX6_readInto_71 rfl (rfl) (rfl)
          · exact absurd (nI_le hna (by omega)) c20
      · have hfl := fnd_le x 59 (n - a) a
        by_cases hen : fnd x 59 (n - a) a = n
        · rw [show rd x n (d + 1) a P = (some a, P) by unfold rd; rw [if_neg hna, if_pos hen]]
          refine ⟨σ1, fun κ C => ?_, hP.a, hF⟩
          refine g_iload_n (pc := 8) C dX6_readInto_8 rfl ?_
          refine g_sipush (pc := 9) (v := nI 300) C dX6_readInto_9 (by decide) ?_
          refine g_icmp_ge (pc := 12) C 69 dX6_readInto_12 (by decide) (fun c12 => ?_) (fun c12 => ?_)
          · exact absurd c12 (nI_ge (by omega) (by omega))
          · refine g_iload_n (pc := 15) C dX6_readInto_15 rfl ?_
            refine g_aload_n (pc := 16) C dX6_readInto_16 rfl ?_
            apply gf_X6_15 (pc := 17) C rfl dX6_readInto_17
            · repeat (first | assumption | exact Cl.s (by assumption) | refine Cl.n (by first | decide | omega) ?_)
            · rfl
            refine g_icmp_ge (pc := 20) C 69 dX6_readInto_20 (by decide) (fun c20 => ?_) (fun c20 => ?_)
            · exact absurd c20 (nI_ge (by omega) (by omega))
            · refine g_aload_n (pc := 23) C dX6_readInto_23 rfl ?_
              refine g_bipush (pc := 24) (v := nI 59) C dX6_readInto_24 (by decide) ?_
              refine g_iload_n (pc := 26) C dX6_readInto_26 rfl ?_
              refine g_aload_n (pc := 27) C dX6_readInto_27 rfl ?_
              apply gf_X6_15 (pc := 28) C rfl dX6_readInto_28
              · repeat (first | assumption | exact Cl.s (by assumption) | refine Cl.n (by first | decide | omega) ?_)
              · rfl
              apply cl_X6_24 (pc := 31) C rfl (t_find h1 h11 59 ha hn hf) dX6_readInto_31
              · repeat (first | assumption | exact Cl.s (by assumption) | refine Cl.n (by first | decide | omega) ?_)
              · rfl
              · exact Nat.le_of_ble_eq_true rfl
              refine g_istore (pc := 34) C dX6_readInto_34 (by decide) rfl ?_
              refine g_iload (pc := 36) C dX6_readInto_36 rfl ?_
              refine g_aload_n (pc := 38) C dX6_readInto_38 rfl ?_
              apply gf_X6_15 (pc := 39) C rfl dX6_readInto_39
              · repeat (first | assumption | exact Cl.s (by assumption) | refine Cl.n (by first | decide | omega) ?_)
              · rfl
              refine g_icmp_eq (pc := 42) C 56 dX6_readInto_42 (by decide) (fun c42 => ?_) (fun c42 => ?_)
              · refine g_iload_n (pc := 56) C dX6_readInto_56 rfl ?_
                exact g_ireturn (pc := 57) C dX6_readInto_57 rfl (rfl) (rfl)
              · exact absurd (by rw [hen]) c42
        · have hfe : fnd x 59 (n - a) a < n := by omega
          have hae : a < fnd x 59 (n - a) a ∨ (a = fnd x 59 (n - a) a ∧ x a = 59) := by
            obtain ⟨m, hm⟩ : ∃ m, n - a = m + 1 := ⟨n - a - 1, by omega⟩
            rw [hm]
            unfold fnd
            by_cases q : x a = 59
            · rw [if_pos q]; exact Or.inr ⟨rfl, q⟩
            · rw [if_neg q]
              have := fnd_le x 59 m (a + 1)
              exact Or.inl (by omega)
          obtain ⟨σ2, g1, g2, g3⟩ := t_takeItem (n := n) (f := f) (x := x) hP h1 h11 (a := a) (e := fnd x 59 (n - a) a) hae (by omega) (by omega) (fun k hk => hf k (by omega)) (hf a (by omega)) (fun k hk => hx k (by omega))
          have hF2 : Fr σ σ2 sp4 := fun j hj => (g3 j hj).trans (hF j hj)
          cases hi2 : itm x a (fnd x 59 (n - a) a) P with
          | none =>
            rw [hi2] at g1 g2
            rw [show rd x n (d + 1) a P = (some a, P) by unfold rd; rw [if_neg hna, if_neg hen, hi2]]
            refine ⟨σ2, fun κ C => ?_, g2, hF2⟩
            refine g_iload_n (pc := 8) C dX6_readInto_8 rfl ?_
            refine g_sipush (pc := 9) (v := nI 300) C dX6_readInto_9 (by decide) ?_
            refine g_icmp_ge (pc := 12) C 69 dX6_readInto_12 (by decide) (fun c12 => ?_) (fun c12 => ?_)
            · exact absurd c12 (nI_ge (by omega) (by omega))
            · refine g_iload_n (pc := 15) C dX6_readInto_15 rfl ?_
              refine g_aload_n (pc := 16) C dX6_readInto_16 rfl ?_
              apply gf_X6_15 (pc := 17) C rfl dX6_readInto_17
              · repeat (first | assumption | exact Cl.s (by assumption) | refine Cl.n (by first | decide | omega) ?_)
              · rfl
              refine g_icmp_ge (pc := 20) C 69 dX6_readInto_20 (by decide) (fun c20 => ?_) (fun c20 => ?_)
              · exact absurd c20 (nI_ge (by omega) (by omega))
              · refine g_aload_n (pc := 23) C dX6_readInto_23 rfl ?_
                refine g_bipush (pc := 24) (v := nI 59) C dX6_readInto_24 (by decide) ?_
                refine g_iload_n (pc := 26) C dX6_readInto_26 rfl ?_
                refine g_aload_n (pc := 27) C dX6_readInto_27 rfl ?_
                apply gf_X6_15 (pc := 28) C rfl dX6_readInto_28
                · repeat (first | assumption | exact Cl.s (by assumption) | refine Cl.n (by first | decide | omega) ?_)
                · rfl
                apply cl_X6_24 (pc := 31) C rfl (t_find h1 h11 59 ha hn hf) dX6_readInto_31
                · repeat (first | assumption | exact Cl.s (by assumption) | refine Cl.n (by first | decide | omega) ?_)
                · rfl
                · exact Nat.le_of_ble_eq_true rfl
                refine g_istore (pc := 34) C dX6_readInto_34 (by decide) rfl ?_
                refine g_iload (pc := 36) C dX6_readInto_36 rfl ?_
                refine g_aload_n (pc := 38) C dX6_readInto_38 rfl ?_
                apply gf_X6_15 (pc := 39) C rfl dX6_readInto_39
                · repeat (first | assumption | exact Cl.s (by assumption) | refine Cl.n (by first | decide | omega) ?_)
                · rfl
                refine g_icmp_eq (pc := 42) C 56 dX6_readInto_42 (by decide) (fun c42 => ?_) (fun c42 => ?_)
                · exact absurd ((nI_eq (by omega) (by omega)).mp c42) hen
                · refine g_aload_n (pc := 45) C dX6_readInto_45 rfl ?_
                  refine g_aload_n (pc := 46) C dX6_readInto_46 rfl ?_
                  refine g_iload_n (pc := 47) C dX6_readInto_47 rfl ?_
                  refine g_iload (pc := 48) C dX6_readInto_48 rfl ?_
                  apply cl_X6_28 (pc := 50) C rfl g1 dX6_readInto_50
                  · repeat (first | assumption | exact Cl.s (by assumption) | refine Cl.n (by first | decide | omega) ?_)
                  · rfl
                  · exact Nat.le_of_ble_eq_true rfl
                  refine g_if_nE (pc := 53) C 58 dX6_readInto_53 (by decide) (fun c53 => ?_) (fun c53 => ?_)
                  · exact absurd rfl c53
                  · refine g_iload_n (pc := 56) C dX6_readInto_56 rfl ?_
                    exact g_ireturn (pc := 57) C dX6_readInto_57 rfl (rfl) (rfl)
          | some P2 =>
            rw [hi2] at g1 g2
            have e2 : rd x n (d + 1) a P = rd x n d (fnd x 59 (n - a) a + 1) P2 := by
              conv => lhs; unfold rd
              rw [if_neg hna, if_neg hen, hi2]
            rw [e2]
            obtain ⟨σ3, j1, j2, j3⟩ := ih (i + 1) (fnd x 59 (n - a) a + 1) P2 (σ1 := σ2) (by omega) (by omega) g2 hF2
            refine ⟨σ3, fun κ C => ?_, j2, j3⟩
            have h1' := (hX.fr hF2 (by decide) (by decide)).1
            refine g_iload_n (pc := 8) C dX6_readInto_8 rfl ?_
            refine g_sipush (pc := 9) (v := nI 300) C dX6_readInto_9 (by decide) ?_
            refine g_icmp_ge (pc := 12) C 69 dX6_readInto_12 (by decide) (fun c12 => ?_) (fun c12 => ?_)
            · exact absurd c12 (nI_ge (by omega) (by omega))
            · refine g_iload_n (pc := 15) C dX6_readInto_15 rfl ?_
              refine g_aload_n (pc := 16) C dX6_readInto_16 rfl ?_
              apply gf_X6_15 (pc := 17) C rfl dX6_readInto_17
              · repeat (first | assumption | exact Cl.s (by assumption) | refine Cl.n (by first | decide | omega) ?_)
              · rfl
              refine g_icmp_ge (pc := 20) C 69 dX6_readInto_20 (by decide) (fun c20 => ?_) (fun c20 => ?_)
              · exact absurd c20 (nI_ge (by omega) (by omega))
              · refine g_aload_n (pc := 23) C dX6_readInto_23 rfl ?_
                refine g_bipush (pc := 24) (v := nI 59) C dX6_readInto_24 (by decide) ?_
                refine g_iload_n (pc := 26) C dX6_readInto_26 rfl ?_
                refine g_aload_n (pc := 27) C dX6_readInto_27 rfl ?_
                apply gf_X6_15 (pc := 28) C rfl dX6_readInto_28
                · repeat (first | assumption | exact Cl.s (by assumption) | refine Cl.n (by first | decide | omega) ?_)
                · rfl
                apply cl_X6_24 (pc := 31) C rfl (t_find h1 h11 59 ha hn hf) dX6_readInto_31
                · repeat (first | assumption | exact Cl.s (by assumption) | refine Cl.n (by first | decide | omega) ?_)
                · rfl
                · exact Nat.le_of_ble_eq_true rfl
                refine g_istore (pc := 34) C dX6_readInto_34 (by decide) rfl ?_
                refine g_iload (pc := 36) C dX6_readInto_36 rfl ?_
                refine g_aload_n (pc := 38) C dX6_readInto_38 rfl ?_
                apply gf_X6_15 (pc := 39) C rfl dX6_readInto_39
                · repeat (first | assumption | exact Cl.s (by assumption) | refine Cl.n (by first | decide | omega) ?_)
                · rfl
                refine g_icmp_eq (pc := 42) C 56 dX6_readInto_42 (by decide) (fun c42 => ?_) (fun c42 => ?_)
                · exact absurd ((nI_eq (by omega) (by omega)).mp c42) hen
                · refine g_aload_n (pc := 45) C dX6_readInto_45 rfl ?_
                  refine g_aload_n (pc := 46) C dX6_readInto_46 rfl ?_
                  refine g_iload_n (pc := 47) C dX6_readInto_47 rfl ?_
                  refine g_iload (pc := 48) C dX6_readInto_48 rfl ?_
                  apply cl_X6_28 (pc := 50) C rfl g1 dX6_readInto_50
                  · repeat (first | assumption | exact Cl.s (by assumption) | refine Cl.n (by first | decide | omega) ?_)
                  · rfl
                  · exact Nat.le_of_ble_eq_true rfl
                  refine g_if_nE (pc := 53) C 58 dX6_readInto_53 (by decide) (fun c53 => ?_) (fun c53 => ?_)
                  · refine g_iload (pc := 58) C dX6_readInto_58 rfl ?_
                    refine g_iconst (pc := 60) (v := nI 1) C dX6_readInto_60 (by decide) ?_
                    refine g_iadd (pc := 61) C dX6_readInto_61 ?_
                    refine g_istore_n (pc := 62) C dX6_readInto_62 (by decide) rfl ?_
                    refine g_iinc (pc := 63) C dX6_readInto_63 rfl (by decide) rfl ?_
                    refine g_goto (pc := 66) C 8 dX6_readInto_66 (by decide) ?_
                    exact g_to (j1 κ C) ⟨rfl, rfl, lgi (nI_add _ _), lgi (nI_1 i), trivial⟩
                  · exact absurd (show nI 1 = 0 from c53) (by decide)
  obtain ⟨σ1, g1, g2, g3⟩ := loop 300 0 0 P0 (σ1 := σ0) (by omega) (by omega) gP gF
  refine ⟨σ1, ?_, g2, g3⟩
  obtain ⟨_, _, _, _, _, _, _, _, _, h10, -⟩ := h
  refine Mt.of (by decide +kernel) (Nat.le_of_ble_eq_true rfl) (fun κ C => ?_)
  refine g_aload_n (pc := 0) C dX6_readInto_0 rfl ?_
  apply cl_X6_19 (pc := 1) C rfl gm dX6_readInto_1
  · repeat (first | assumption | exact Cl.s (by assumption) | refine Cl.n (by first | decide | omega) ?_)
  · rfl
  · exact Nat.le_of_ble_eq_true rfl
  refine g_iconst (pc := 4) (v := nI 0) C dX6_readInto_4 (by decide) ?_
  refine g_istore_n (pc := 5) C dX6_readInto_5 (by decide) rfl ?_
  refine g_iconst (pc := 6) (v := nI 0) C dX6_readInto_6 (by decide) ?_
  refine g_istore_n (pc := 7) C dX6_readInto_7 (by decide) rfl ?_
  exact g_to (g1 κ C) ⟨rfl, rfl, rfl, rfl, trivial⟩
theorem c_fault {n : Nat} {x : Nat → Int32} (h0 : Cl G σ 0 (cMain G)) (h : RPa G σ) (hX : RX G σ n x) (hn : n ≤ 300) (hx : ∀ k, k < n → BB (x k)) : ∃ σ', Mt G mX9_fault [.ref (ga G 0)] σ (some (.int (fltI (rd x n 300 0 P0).1))) σ' ∧ RPa G σ' ∧ Fr σ σ' sp4 := by
  obtain ⟨σ1, g1, g2, g3⟩ := t_readInto h hX hn hx
  have h1 := hX.1
  refine ⟨σ1, ?_, ?_, g3⟩
  · refine Mt.of (by decide +kernel) (Nat.le_of_ble_eq_true rfl) (fun κ C => ?_)
    refine g_aload_n (pc := 0) C dX9_fault_0 rfl ?_
    apply gf_X9_12 (pc := 1) C rfl dX9_fault_1
    · repeat (first | assumption | exact Cl.s (by assumption) | refine Cl.n (by first | decide | omega) ?_)
    · rfl
    refine g_aload_n (pc := 4) C dX9_fault_4 rfl ?_
    apply gf_X9_72 (pc := 5) C rfl dX9_fault_5
    · repeat (first | assumption | exact Cl.s (by assumption) | refine Cl.n (by first | decide | omega) ?_)
    · rfl
    apply cl_X9_91 (pc := 8) C rfl g1 dX9_fault_8
    · repeat (first | assumption | exact Cl.s (by assumption) | refine Cl.n (by first | decide | omega) ?_)
    · rfl
    · exact Nat.le_of_ble_eq_true rfl
    exact g_ireturn (pc := 11) C dX9_fault_11 rfl (rfl) (rfl)
  · revert g2
    rcases rd x n 300 0 P0 with ⟨_ | a, P⟩
    · exact fun g2 => RP.a g2
    · exact fun g2 => g2
end READ2

