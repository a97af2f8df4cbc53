def latR (L : Nat) : Int32 := if L = 0 then -4 else nI (L - 1)
theorem latR_s (k : Nat) : latR (k + 1) = nI k := by simp [latR]
/-- a gate's picture in three cells -/
def s3 (f : Nat → Int32) (o : Nat) (g : GS) : Prop := f o = nI g.1 ∧ f (o + 1) = latR g.2.1 ∧ f (o + 2) = nI g.2.2
def QG (G : GG) (σ : WW) (len at_ rm : Int32) (h : HH) : Prop := Cl G σ 0 (cRef G len at_ (nI h.2.2.2.1) (nI h.2.1) rm) ∧ (∃ fs, Cl G σ 8 (iA G 9 fs) ∧ s3 fs 0 h.1 ∧ ∀ k, k < h.2.2.2.1 → s3 fs (3 * (k + 1)) (h.2.2.2.2 k)) ∧ ∃ fw, Cl G σ 9 (iA G 24 fw) ∧ ∀ k, k < h.2.1 → s3 fw (3 * k) (h.2.2.1 k)
section REF2
variable {G : GG} {σ : WW} {T : TS} {h : HH} {len at_ rm : Int32}
theorem q_person (hT : QT G σ T) (hg : QG G σ len at_ rm h) (hw : HW (tm T) h) (i t : Int32) : Mt G mX10_person [.ref (ga G 0), .int i, .int t] σ (some (.int (personF T h i t))) σ := by
  have hT' := hT
  obtain ⟨ft, fn, fv, fl, fm, fp, h2, h3, h4, h5, h6, h7, hW, h1, e0, e1, e2, e3, hv, hl, hp⟩ := hT
  obtain ⟨h0, ⟨fs, h8, hs0, hs1⟩, fw, h9', hfw⟩ := hg
  have hm := hW.2.2.2.2.1
  have hn := hW.1
  rcases inR_c i (m := tm T) (by omega) with e | ⟨e, k, hk, rfl⟩
  · rw [show personF T h i t = -1 by simp [personF, e]]
    refine Mt.of (by decide +kernel) (Nat.le_of_ble_eq_true rfl) (fun κ C => ?_)
    refine g_aload_n (pc := 0) C dX10_person_0 rfl ?_
    refine g_iload_n (pc := 1) C dX10_person_1 rfl ?_
    apply cl_X10_126 (pc := 2) C rfl (r_isMan h0 hT' i) dX10_person_2
    · repeat (first | assumption | exact Cl.s (by assumption) | refine Cl.n (by first | decide | omega) ?_)
    · rfl
    · exact Nat.le_of_ble_eq_true rfl
    refine g_if_eq (pc := 5) C 28 dX10_person_5 (by decide) (fun c5 => ?_) (fun c5 => ?_)
    · refine g_iconst (pc := 28) (v := -1) C dX10_person_28 (by decide) ?_
      exact g_ireturn (pc := 29) C dX10_person_29 rfl (rfl) (rfl)
    · exact absurd (by rw [e]; rfl) c5
  · have ek := nI_clamp (n := k) (by omega)
    have eB : ∀ b : Bool, inB t.toInt64 (-2) (nI (tn T) - nI 1).toInt64 = b ↔ (decide (-2 ≤ t.toInt ∧ t.toInt < (tn T : Int))) = b := by
      intro b
      by_cases hn0 : tn T = 0
      · rw [inB_I, hn0, show (nI 0 - nI 1).toInt64.toInt = -1 by decide, show (-2 : Int64).toInt = -2 by decide]
        by_cases q : -2 ≤ t.toInt ∧ t.toInt ≤ -1
        · rw [decide_eq_true q, decide_eq_true (show -2 ≤ t.toInt ∧ t.toInt < ((0 : Nat) : Int) by omega)]
        · rw [decide_eq_false q, decide_eq_false (show ¬ (-2 ≤ t.toInt ∧ t.toInt < ((0 : Nat) : Int)) by omega)]
      · rw [inB_I, pk_sub (by omega), Int32.toInt_toInt64, nI_toInt (by omega), show (-2 : Int64).toInt = -2 by decide]
        by_cases q : -2 ≤ t.toInt ∧ t.toInt ≤ ((tn T - 1 : Nat) : Int)
        · rw [decide_eq_true q, decide_eq_true (show -2 ≤ t.toInt ∧ t.toInt < (tn T : Int) by omega)]
        · rw [decide_eq_false q, decide_eq_false (show ¬ (-2 ≤ t.toInt ∧ t.toInt < (tn T : Int)) by omega)]
    have m2 : (-2 : Int32).toInt = -2 := by decide
    have m1 : (-1 : Int32).toInt = -1 := by decide
    by_cases ht2 : t = -2
    · rw [show personF T h (nI k) t = nI (b2 (h.1.1.testBit k)) by simp [personF, e, ht2, ek]]
      have eb : inB t.toInt64 (-2) (nI (tn T) - nI 1).toInt64 = true := (eB true).mpr (by rw [ht2, m2]; exact decide_eq_true (by omega))
      refine Mt.of (by decide +kernel) (Nat.le_of_ble_eq_true rfl) (fun κ C => ?_)
      refine g_aload_n (pc := 0) C dX10_person_0 rfl ?_
      refine g_iload_n (pc := 1) C dX10_person_1 rfl ?_
      apply cl_X10_126 (pc := 2) C rfl (r_isMan h0 hT' (nI k)) dX10_person_2
      · repeat (first | assumption | exact Cl.s (by assumption) | refine Cl.n (by first | decide | omega) ?_)
      · rfl
      · exact Nat.le_of_ble_eq_true rfl
      refine g_if_eq (pc := 5) C 28 dX10_person_5 (by decide) (fun c5 => ?_) (fun c5 => ?_)
      · exact absurd c5 (by rw [e]; decide)
      · refine g_iload_n (pc := 8) C dX10_person_8 rfl ?_
        refine g_i2l (pc := 9) C dX10_person_9 ?_
        refine g_ldc2 (pc := 10) C dX10_person_10 k_X10_130 ?_
        refine g_aload_n (pc := 13) C dX10_person_13 rfl ?_
        apply gf_X10_17 (pc := 14) C rfl dX10_person_14
        · repeat (first | assumption | exact Cl.s (by assumption) | refine Cl.n (by first | decide | omega) ?_)
        · rfl
        refine g_iconst (pc := 17) (v := nI 0) C dX10_person_17 (by decide) ?_
        apply g_iaload (pc := 18) C dX10_person_18
        · repeat (first | assumption | exact Cl.s (by assumption) | refine Cl.n (by first | decide | omega) ?_)
        · exact vp_in_nI (n := 0) (by decide) (by decide)
        rw [nI_clamp (by decide), e2]
        refine g_iconst (pc := 19) (v := nI 1) C dX10_person_19 (by decide) ?_
        refine g_isub (pc := 20) C dX10_person_20 ?_
        refine g_i2l (pc := 21) C dX10_person_21 ?_
        refine cl_X10_74 (pc := 22) C rfl (r_in _ _ _) dX10_person_22 rfl (Nat.le_of_ble_eq_true rfl) ?_
        refine g_if_nE (pc := 25) C 30 dX10_person_25 (by decide) (fun c25 => ?_) (fun c25 => ?_)
        · refine g_iload_n (pc := 30) C dX10_person_30 rfl ?_
          refine g_bipush (pc := 31) (v := -2) C dX10_person_31 (by decide) ?_
          refine g_icmp_nE (pc := 33) C 49 dX10_person_33 (by decide) (fun c33 => ?_) (fun c33 => ?_)
          · exact absurd ht2 c33
          · refine g_aload_n (pc := 36) C dX10_person_36 rfl ?_
            apply gf_X10_32 (pc := 37) C rfl dX10_person_37
            · repeat (first | assumption | exact Cl.s (by assumption) | refine Cl.n (by first | decide | omega) ?_)
            · rfl
            refine g_iconst (pc := 40) (v := nI 0) C dX10_person_40 (by decide) ?_
            apply g_iaload (pc := 41) C dX10_person_41
            · repeat (first | assumption | exact Cl.s (by assumption) | refine Cl.n (by first | decide | omega) ?_)
            · exact vp_in_nI (n := 0) (by decide) (by decide)
            refine g_iload_n (pc := 42) C dX10_person_42 rfl ?_
            refine g_ishr (pc := 43) C dX10_person_43 ?_
            refine g_iconst (pc := 44) (v := nI 1) C dX10_person_44 (by decide) ?_
            refine g_iand (pc := 45) C dX10_person_45 ?_
            refine g_goto (pc := 46) C 72 dX10_person_46 (by decide) ?_
            exact g_ireturn (pc := 72) C dX10_person_72 rfl (by rw [nI_clamp (by decide), hs0.1, nx_shr (by have := hw.1.1; omega) (by omega), nx_and, tb_b2]) (rfl)
        · exact absurd c25 (by rw [eb]; decide)
    · by_cases ht1 : t = -1
      · rw [show personF T h (nI k) t = nI (cdn (tv T) (tp T k) (tn T)) by simp [personF, e, ht1, ek]]
        have eb : inB t.toInt64 (-2) (nI (tn T) - nI 1).toInt64 = true := (eB true).mpr (by rw [ht1, m1]; exact decide_eq_true (by omega))
        refine Mt.of (by decide +kernel) (Nat.le_of_ble_eq_true rfl) (fun κ C => ?_)
        refine g_aload_n (pc := 0) C dX10_person_0 rfl ?_
        refine g_iload_n (pc := 1) C dX10_person_1 rfl ?_
        apply cl_X10_126 (pc := 2) C rfl (r_isMan h0 hT' (nI k)) dX10_person_2
        · repeat (first | assumption | exact Cl.s (by assumption) | refine Cl.n (by first | decide | omega) ?_)
        · rfl
        · exact Nat.le_of_ble_eq_true rfl
        refine g_if_eq (pc := 5) C 28 dX10_person_5 (by decide) (fun c5 => ?_) (fun c5 => ?_)
        · exact absurd c5 (by rw [e]; decide)
        · refine g_iload_n (pc := 8) C dX10_person_8 rfl ?_
          refine g_i2l (pc := 9) C dX10_person_9 ?_
          refine g_ldc2 (pc := 10) C dX10_person_10 k_X10_130 ?_
          refine g_aload_n (pc := 13) C dX10_person_13 rfl ?_
          apply gf_X10_17 (pc := 14) C rfl dX10_person_14
          · repeat (first | assumption | exact Cl.s (by assumption) | refine Cl.n (by first | decide | omega) ?_)
          · rfl
          refine g_iconst (pc := 17) (v := nI 0) C dX10_person_17 (by decide) ?_
          apply g_iaload (pc := 18) C dX10_person_18
          · repeat (first | assumption | exact Cl.s (by assumption) | refine Cl.n (by first | decide | omega) ?_)
          · exact vp_in_nI (n := 0) (by decide) (by decide)
          rw [nI_clamp (by decide), e2]
          refine g_iconst (pc := 19) (v := nI 1) C dX10_person_19 (by decide) ?_
          refine g_isub (pc := 20) C dX10_person_20 ?_
          refine g_i2l (pc := 21) C dX10_person_21 ?_
          refine cl_X10_74 (pc := 22) C rfl (r_in _ _ _) dX10_person_22 rfl (Nat.le_of_ble_eq_true rfl) ?_
          refine g_if_nE (pc := 25) C 30 dX10_person_25 (by decide) (fun c25 => ?_) (fun c25 => ?_)
          · refine g_iload_n (pc := 30) C dX10_person_30 rfl ?_
            refine g_bipush (pc := 31) (v := -2) C dX10_person_31 (by decide) ?_
            refine g_icmp_nE (pc := 33) C 49 dX10_person_33 (by decide) (fun c33 => ?_) (fun c33 => ?_)
            · refine g_iload_n (pc := 49) C dX10_person_49 rfl ?_
              refine g_iconst (pc := 50) (v := -1) C dX10_person_50 (by decide) ?_
              refine g_icmp_nE (pc := 51) C 62 dX10_person_51 (by decide) (fun c51 => ?_) (fun c51 => ?_)
              · exact absurd ht1 c51
              · refine g_aload_n (pc := 54) C dX10_person_54 rfl ?_
                refine g_iload_n (pc := 55) C dX10_person_55 rfl ?_
                apply cl_X10_132 (pc := 56) C rfl (r_codeOf h0 hT' hk) dX10_person_56
                · repeat (first | assumption | exact Cl.s (by assumption) | refine Cl.n (by first | decide | omega) ?_)
                · rfl
                · exact Nat.le_of_ble_eq_true rfl
                refine g_goto (pc := 59) C 72 dX10_person_59 (by decide) ?_
                exact g_ireturn (pc := 72) C dX10_person_72 rfl (rfl) (rfl)
            · exact absurd c33 ht2
          · exact absurd c25 (by rw [eb]; decide)
      · rcases inR_c t (m := tn T) (by omega) with q2 | ⟨q2, j, hj, rfl⟩
        · rw [show personF T h (nI k) t = -1 by simp [personF, e, ht1, ht2, q2]]
          have eb : inB t.toInt64 (-2) (nI (tn T) - nI 1).toInt64 = false := (eB false).mpr (by
            rw [decide_eq_false_iff_not]
            intro z
            have hne2 : t.toInt ≠ -2 := fun q => ht2 (Int32.toInt_inj.mp (by rw [q, m2]))
            have hne1 : t.toInt ≠ -1 := fun q => ht1 (Int32.toInt_inj.mp (by rw [q, m1]))
            have z1 : ¬ t < 0 := fun q => by
              have := Int32.lt_iff_toInt_lt.mp q
              rw [show (0 : Int32).toInt = 0 from rfl] at this
              omega
            have z2 : ¬ nI (tn T) ≤ t := fun q => by
              have := Int32.le_iff_toInt_le.mp q
              rw [nI_toInt (by omega)] at this
              omega
            rw [inR_t z1 z2] at q2
            cases q2)
          refine Mt.of (by decide +kernel) (Nat.le_of_ble_eq_true rfl) (fun κ C => ?_)
          refine g_aload_n (pc := 0) C dX10_person_0 rfl ?_
          refine g_iload_n (pc := 1) C dX10_person_1 rfl ?_
          apply cl_X10_126 (pc := 2) C rfl (r_isMan h0 hT' (nI k)) dX10_person_2
          · repeat (first | assumption | exact Cl.s (by assumption) | refine Cl.n (by first | decide | omega) ?_)
          · rfl
          · exact Nat.le_of_ble_eq_true rfl
          refine g_if_eq (pc := 5) C 28 dX10_person_5 (by decide) (fun c5 => ?_) (fun c5 => ?_)
          · exact absurd c5 (by rw [e]; decide)
          · refine g_iload_n (pc := 8) C dX10_person_8 rfl ?_
            refine g_i2l (pc := 9) C dX10_person_9 ?_
            refine g_ldc2 (pc := 10) C dX10_person_10 k_X10_130 ?_
            refine g_aload_n (pc := 13) C dX10_person_13 rfl ?_
            apply gf_X10_17 (pc := 14) C rfl dX10_person_14
            · repeat (first | assumption | exact Cl.s (by assumption) | refine Cl.n (by first | decide | omega) ?_)
            · rfl
            refine g_iconst (pc := 17) (v := nI 0) C dX10_person_17 (by decide) ?_
            apply g_iaload (pc := 18) C dX10_person_18
            · repeat (first | assumption | exact Cl.s (by assumption) | refine Cl.n (by first | decide | omega) ?_)
            · exact vp_in_nI (n := 0) (by decide) (by decide)
            rw [nI_clamp (by decide), e2]
            refine g_iconst (pc := 19) (v := nI 1) C dX10_person_19 (by decide) ?_
            refine g_isub (pc := 20) C dX10_person_20 ?_
            refine g_i2l (pc := 21) C dX10_person_21 ?_
            refine cl_X10_74 (pc := 22) C rfl (r_in _ _ _) dX10_person_22 rfl (Nat.le_of_ble_eq_true rfl) ?_
            refine g_if_nE (pc := 25) C 30 dX10_person_25 (by decide) (fun c25 => ?_) (fun c25 => ?_)
            · exact absurd (by rw [eb]; rfl) c25
            · refine g_iconst (pc := 28) (v := -1) C dX10_person_28 (by decide) ?_
              exact g_ireturn (pc := 29) C dX10_person_29 rfl (rfl) (rfl)
        · rw [show personF T h (nI k) (nI j) = nI (tp T k j) by simp [personF, e, ht1, ht2, q2, ek, nI_clamp (show j < 2 ^ 31 by omega)]]
          have eb : inB (nI j).toInt64 (-2) (nI (tn T) - nI 1).toInt64 = true := (eB true).mpr (by rw [nI_toInt (by omega)]; exact decide_eq_true (by omega))
          refine Mt.of (by decide +kernel) (Nat.le_of_ble_eq_true rfl) (fun κ C => ?_)
          refine g_aload_n (pc := 0) C dX10_person_0 rfl ?_
          refine g_iload_n (pc := 1) C dX10_person_1 rfl ?_
          apply cl_X10_126 (pc := 2) C rfl (r_isMan h0 hT' (nI k)) dX10_person_2
          · repeat (first | assumption | exact Cl.s (by assumption) | refine Cl.n (by first | decide | omega) ?_)
          · rfl
          · exact Nat.le_of_ble_eq_true rfl
          refine g_if_eq (pc := 5) C 28 dX10_person_5 (by decide) (fun c5 => ?_) (fun c5 => ?_)
          · exact absurd c5 (by rw [e]; decide)
          · refine g_iload_n (pc := 8) C dX10_person_8 rfl ?_
            refine g_i2l (pc := 9) C dX10_person_9 ?_
            refine g_ldc2 (pc := 10) C dX10_person_10 k_X10_130 ?_
            refine g_aload_n (pc := 13) C dX10_person_13 rfl ?_
            apply gf_X10_17 (pc := 14) C rfl dX10_person_14
            · repeat (first | assumption | exact Cl.s (by assumption) | refine Cl.n (by first | decide | omega) ?_)
            · rfl
            refine g_iconst (pc := 17) (v := nI 0) C dX10_person_17 (by decide) ?_
            apply g_iaload (pc := 18) C dX10_person_18
            · repeat (first | assumption | exact Cl.s (by assumption) | refine Cl.n (by first | decide | omega) ?_)
            · exact vp_in_nI (n := 0) (by decide) (by decide)
            rw [nI_clamp (by decide), e2]
            refine g_iconst (pc := 19) (v := nI 1) C dX10_person_19 (by decide) ?_
            refine g_isub (pc := 20) C dX10_person_20 ?_
            refine g_i2l (pc := 21) C dX10_person_21 ?_
            refine cl_X10_74 (pc := 22) C rfl (r_in _ _ _) dX10_person_22 rfl (Nat.le_of_ble_eq_true rfl) ?_
            refine g_if_nE (pc := 25) C 30 dX10_person_25 (by decide) (fun c25 => ?_) (fun c25 => ?_)
            · refine g_iload_n (pc := 30) C dX10_person_30 rfl ?_
              refine g_bipush (pc := 31) (v := -2) C dX10_person_31 (by decide) ?_
              refine g_icmp_nE (pc := 33) C 49 dX10_person_33 (by decide) (fun c33 => ?_) (fun c33 => ?_)
              · refine g_iload_n (pc := 49) C dX10_person_49 rfl ?_
                refine g_iconst (pc := 50) (v := -1) C dX10_person_50 (by decide) ?_
                refine g_icmp_nE (pc := 51) C 62 dX10_person_51 (by decide) (fun c51 => ?_) (fun c51 => ?_)
                · refine g_aload_n (pc := 62) C dX10_person_62 rfl ?_
                  apply gf_X10_29 (pc := 63) C rfl dX10_person_63
                  · repeat (first | assumption | exact Cl.s (by assumption) | refine Cl.n (by first | decide | omega) ?_)
                  · rfl
                  refine g_iconst (pc := 66) (v := nI 5) C dX10_person_66 (by decide) ?_
                  refine g_iload_n (pc := 67) C dX10_person_67 rfl ?_
                  refine g_imul (pc := 68) C dX10_person_68 ?_
                  refine g_iload_n (pc := 69) C dX10_person_69 rfl ?_
                  refine g_iadd (pc := 70) C dX10_person_70 ?_
                  rw [pk_mul, nI_add]
                  apply g_iaload (pc := 71) C dX10_person_71
                  · repeat (first | assumption | exact Cl.s (by assumption) | refine Cl.n (by first | decide | omega) ?_)
                  · exact vp_in_nI (by omega) (by decide)
                  exact g_ireturn (pc := 72) C dX10_person_72 rfl (by rw [nI_clamp (by omega), hp k hk j hj]) (rfl)
                · exact absurd c51 ht1
              · exact absurd c33 ht2
            · exact absurd c25 (by rw [eb]; decide)
theorem q_differ (hT : QT G σ T) {kept done : Int32} (h0 : Cl G σ 0 (cRef G len at_ kept done rm)) (i j : Int32) (z : Bool) : Mt G mX10_differ [.ref (ga G 0), .int i, .int j, .int (nI (b2 z))] σ (some (.int (differF T i j z))) σ := by
  have hm := hT.w.1.2.2.2.2.1
  rcases inR_c i (m := tm T) (by omega) with e | ⟨e, k, hk, rfl⟩
  · rw [show differF T i j z = -1 by simp [differF, e]]
    refine Mt.of (by decide +kernel) (Nat.le_of_ble_eq_true rfl) (fun κ C => ?_)
    refine g_aload_n (pc := 0) C dX10_differ_0 rfl ?_
    refine g_iload_n (pc := 1) C dX10_differ_1 rfl ?_
    apply cl_X10_126 (pc := 2) C rfl (r_isMan h0 hT i) dX10_differ_2
    · repeat (first | assumption | exact Cl.s (by assumption) | refine Cl.n (by first | decide | omega) ?_)
    · rfl
    · exact Nat.le_of_ble_eq_true rfl
    refine g_if_eq (pc := 5) C 16 dX10_differ_5 (by decide) (fun c5 => ?_) (fun c5 => ?_)
    · refine g_iconst (pc := 16) (v := -1) C dX10_differ_16 (by decide) ?_
      refine g_goto (pc := 17) C 44 dX10_differ_17 (by decide) ?_
      exact g_ireturn (pc := 44) C dX10_differ_44 rfl (rfl) (rfl)
    · exact absurd (by rw [e]; rfl) c5
  · rcases inR_c j (m := tm T) (by omega) with e2 | ⟨e2, q, hq, rfl⟩
    · rw [show differF T (nI k) j z = -1 by simp [differF, e2]]
      refine Mt.of (by decide +kernel) (Nat.le_of_ble_eq_true rfl) (fun κ C => ?_)
      refine g_aload_n (pc := 0) C dX10_differ_0 rfl ?_
      refine g_iload_n (pc := 1) C dX10_differ_1 rfl ?_
      apply cl_X10_126 (pc := 2) C rfl (r_isMan h0 hT (nI k)) dX10_differ_2
      · repeat (first | assumption | exact Cl.s (by assumption) | refine Cl.n (by first | decide | omega) ?_)
      · rfl
      · exact Nat.le_of_ble_eq_true rfl
      refine g_if_eq (pc := 5) C 16 dX10_differ_5 (by decide) (fun c5 => ?_) (fun c5 => ?_)
      · exact absurd c5 (by rw [e]; decide)
      · refine g_aload_n (pc := 8) C dX10_differ_8 rfl ?_
        refine g_iload_n (pc := 9) C dX10_differ_9 rfl ?_
        apply cl_X10_126 (pc := 10) C rfl (r_isMan h0 hT j) dX10_differ_10
        · repeat (first | assumption | exact Cl.s (by assumption) | refine Cl.n (by first | decide | omega) ?_)
        · rfl
        · exact Nat.le_of_ble_eq_true rfl
        refine g_if_nE (pc := 13) C 20 dX10_differ_13 (by decide) (fun c13 => ?_) (fun c13 => ?_)
        · exact absurd (by rw [e2]; rfl) c13
        · refine g_iconst (pc := 16) (v := -1) C dX10_differ_16 (by decide) ?_
          refine g_goto (pc := 17) C 44 dX10_differ_17 (by decide) ?_
          exact g_ireturn (pc := 44) C dX10_differ_44 rfl (rfl) (rfl)
    · have ek := nI_clamp (n := k) (by omega)
      have eq := nI_clamp (n := q) (by omega)
      cases z
      · rw [show differF T (nI k) (nI q) false = nI (UU T k q) by simp [differF, e, e2, ek, eq]]
        refine Mt.of (by decide +kernel) (Nat.le_of_ble_eq_true rfl) (fun κ C => ?_)
        refine g_aload_n (pc := 0) C dX10_differ_0 rfl ?_
        refine g_iload_n (pc := 1) C dX10_differ_1 rfl ?_
        apply cl_X10_126 (pc := 2) C rfl (r_isMan h0 hT (nI k)) dX10_differ_2
        · repeat (first | assumption | exact Cl.s (by assumption) | refine Cl.n (by first | decide | omega) ?_)
        · rfl
        · exact Nat.le_of_ble_eq_true rfl
        refine g_if_eq (pc := 5) C 16 dX10_differ_5 (by decide) (fun c5 => ?_) (fun c5 => ?_)
        · exact absurd c5 (by rw [e]; decide)
        · refine g_aload_n (pc := 8) C dX10_differ_8 rfl ?_
          refine g_iload_n (pc := 9) C dX10_differ_9 rfl ?_
          apply cl_X10_126 (pc := 10) C rfl (r_isMan h0 hT (nI q)) dX10_differ_10
          · repeat (first | assumption | exact Cl.s (by assumption) | refine Cl.n (by first | decide | omega) ?_)
          · rfl
          · exact Nat.le_of_ble_eq_true rfl
          refine g_if_nE (pc := 13) C 20 dX10_differ_13 (by decide) (fun c13 => ?_) (fun c13 => ?_)
          · refine g_iload_n (pc := 20) C dX10_differ_20 rfl ?_
            refine g_if_eq (pc := 21) C 38 dX10_differ_21 (by decide) (fun c21 => ?_) (fun c21 => ?_)
            · refine g_aload_n (pc := 38) C dX10_differ_38 rfl ?_
              refine g_iload_n (pc := 39) C dX10_differ_39 rfl ?_
              refine g_iload_n (pc := 40) C dX10_differ_40 rfl ?_
              apply cl_X10_136 (pc := 41) C rfl (r_unlike h0 hT hk hq) dX10_differ_41
              · repeat (first | assumption | exact Cl.s (by assumption) | refine Cl.n (by first | decide | omega) ?_)
              · rfl
              · exact Nat.le_of_ble_eq_true rfl
              exact g_ireturn (pc := 44) C dX10_differ_44 rfl (rfl) (rfl)
            · exact absurd rfl c21
          · exact absurd c13 (by rw [e2]; decide)
      · rw [show differF T (nI k) (nI q) true = nI (UU T k q &&& seen T) by simp [differF, e, e2, ek, eq]]
        refine Mt.of (by decide +kernel) (Nat.le_of_ble_eq_true rfl) (fun κ C => ?_)
        refine g_aload_n (pc := 0) C dX10_differ_0 rfl ?_
        refine g_iload_n (pc := 1) C dX10_differ_1 rfl ?_
        apply cl_X10_126 (pc := 2) C rfl (r_isMan h0 hT (nI k)) dX10_differ_2
        · repeat (first | assumption | exact Cl.s (by assumption) | refine Cl.n (by first | decide | omega) ?_)
        · rfl
        · exact Nat.le_of_ble_eq_true rfl
        refine g_if_eq (pc := 5) C 16 dX10_differ_5 (by decide) (fun c5 => ?_) (fun c5 => ?_)
        · exact absurd c5 (by rw [e]; decide)
        · refine g_aload_n (pc := 8) C dX10_differ_8 rfl ?_
          refine g_iload_n (pc := 9) C dX10_differ_9 rfl ?_
          apply cl_X10_126 (pc := 10) C rfl (r_isMan h0 hT (nI q)) dX10_differ_10
          · repeat (first | assumption | exact Cl.s (by assumption) | refine Cl.n (by first | decide | omega) ?_)
          · rfl
          · exact Nat.le_of_ble_eq_true rfl
          refine g_if_nE (pc := 13) C 20 dX10_differ_13 (by decide) (fun c13 => ?_) (fun c13 => ?_)
          · refine g_iload_n (pc := 20) C dX10_differ_20 rfl ?_
            refine g_if_eq (pc := 21) C 38 dX10_differ_21 (by decide) (fun c21 => ?_) (fun c21 => ?_)
            · exact absurd c21 (by decide)
            · refine g_aload_n (pc := 24) C dX10_differ_24 rfl ?_
              refine g_iload_n (pc := 25) C dX10_differ_25 rfl ?_
              refine g_iload_n (pc := 26) C dX10_differ_26 rfl ?_
              apply cl_X10_136 (pc := 27) C rfl (r_unlike h0 hT hk hq) dX10_differ_27
              · repeat (first | assumption | exact Cl.s (by assumption) | refine Cl.n (by first | decide | omega) ?_)
              · rfl
              · exact Nat.le_of_ble_eq_true rfl
              refine g_aload_n (pc := 30) C dX10_differ_30 rfl ?_
              apply cl_X10_140 (pc := 31) C rfl (r_seen h0 hT) dX10_differ_31
              · repeat (first | assumption | exact Cl.s (by assumption) | refine Cl.n (by first | decide | omega) ?_)
              · rfl
              · exact Nat.le_of_ble_eq_true rfl
              refine g_iand (pc := 34) C dX10_differ_34 ?_
              refine g_goto (pc := 35) C 44 dX10_differ_35 (by decide) ?_
              exact g_ireturn (pc := 44) C dX10_differ_44 rfl (by rw [nx_and]) (rfl)
          · exact absurd c13 (by rw [e2]; decide)
theorem r_mayNow (hT : QT G σ T) (hg : QG G σ len at_ rm h) (hw : HW (tm T) h) {i : Nat} (hi : i < tm T) : Mt G mX10_mayNow [.ref (ga G 0), .int (nI i)] σ (some (.int (nI (b2 (lLets T h.1.2.1 h.1.2.2 i))))) σ := by
  have hT' := hT
  obtain ⟨ft, fn, fv, fl, fm, fp, h2, h3, h4, h5, h6, h7, hW, h1, e0, e1, e2, e3, hv, hl, hp⟩ := hT
  obtain ⟨h0, ⟨fs, h8, hs0, hs1⟩, fw, h9', hfw⟩ := hg
  have hm := hW.2.2.2.2.1
  have hlaw := hW.2.2.2.2.2.2.1
  obtain ⟨o1, o2, o3⟩ := hw.1
  obtain ⟨s0, s1, s2⟩ := hs0
  rw [Nat.zero_add] at s1 s2
  refine Mt.of (by decide +kernel) (Nat.le_of_ble_eq_true rfl) (fun κ C => ?_)
  rcases hL : h.1.2.1 with _ | k
  · rw [hL] at s1
    refine g_aload_n (pc := 0) C dX10_mayNow_0 rfl ?_
    apply gf_X10_32 (pc := 1) C rfl dX10_mayNow_1
    · repeat (first | assumption | exact Cl.s (by assumption) | refine Cl.n (by first | decide | omega) ?_)
    · rfl
    refine g_iconst (pc := 4) (v := nI 1) C dX10_mayNow_4 (by decide) ?_
    apply g_iaload (pc := 5) C dX10_mayNow_5
    · repeat (first | assumption | exact Cl.s (by assumption) | refine Cl.n (by first | decide | omega) ?_)
    · exact vp_in_nI (n := 1) (by decide) (by decide)
    rw [nI_clamp (by decide), s1]
    refine g_if_lt (pc := 6) C 43 dX10_mayNow_6 (by decide) (fun c6 => ?_) (fun c6 => ?_)
    · refine g_iconst (pc := 43) (v := nI 1) C dX10_mayNow_43 (by decide) ?_
      refine g_goto (pc := 44) C 48 dX10_mayNow_44 (by decide) ?_
      exact g_zreturn (pc := 48) C dX10_mayNow_48 rfl (by first | exact Or.inl rfl | exact Or.inr rfl) (by simp [lLets, b2]) (rfl)
    · exact absurd (by decide) c6
  · rw [hL, latR_s] at s1
    have hu := and_lt32 (b := seen T) (UU_lt T i k hW.1)
    have eL : lLets T (k + 1) h.1.2.2 i = ps (tl T) (UU T i k &&& seen T) h.1.2.2 := by
      simp [lLets, uL, UU_comm T k i]
    rw [eL]
    cases hp2 : ps (tl T) (UU T i k &&& seen T) h.1.2.2
    · refine g_aload_n (pc := 0) C dX10_mayNow_0 rfl ?_
      apply gf_X10_32 (pc := 1) C rfl dX10_mayNow_1
      · repeat (first | assumption | exact Cl.s (by assumption) | refine Cl.n (by first | decide | omega) ?_)
      · rfl
      refine g_iconst (pc := 4) (v := nI 1) C dX10_mayNow_4 (by decide) ?_
      apply g_iaload (pc := 5) C dX10_mayNow_5
      · repeat (first | assumption | exact Cl.s (by assumption) | refine Cl.n (by first | decide | omega) ?_)
      · exact vp_in_nI (n := 1) (by decide) (by decide)
      rw [nI_clamp (by decide), s1]
      refine g_if_lt (pc := 6) C 43 dX10_mayNow_6 (by decide) (fun c6 => ?_) (fun c6 => ?_)
      · exact absurd c6 (nI_pos (by omega))
      · refine g_aload_n (pc := 9) C dX10_mayNow_9 rfl ?_
        apply gf_X10_13 (pc := 10) C rfl dX10_mayNow_10
        · repeat (first | assumption | exact Cl.s (by assumption) | refine Cl.n (by first | decide | omega) ?_)
        · rfl
        refine g_iconst (pc := 13) (v := nI 0) C dX10_mayNow_13 (by decide) ?_
        apply g_iaload (pc := 14) C dX10_mayNow_14
        · repeat (first | assumption | exact Cl.s (by assumption) | refine Cl.n (by first | decide | omega) ?_)
        · exact vp_in_nI (n := 0) (by decide) (by decide)
        rw [nI_clamp (by decide), e0]
        refine g_aload_n (pc := 15) C dX10_mayNow_15 rfl ?_
        refine g_iload_n (pc := 16) C dX10_mayNow_16 rfl ?_
        refine g_aload_n (pc := 17) C dX10_mayNow_17 rfl ?_
        apply gf_X10_32 (pc := 18) C rfl dX10_mayNow_18
        · repeat (first | assumption | exact Cl.s (by assumption) | refine Cl.n (by first | decide | omega) ?_)
        · rfl
        refine g_iconst (pc := 21) (v := nI 1) C dX10_mayNow_21 (by decide) ?_
        apply g_iaload (pc := 22) C dX10_mayNow_22
        · repeat (first | assumption | exact Cl.s (by assumption) | refine Cl.n (by first | decide | omega) ?_)
        · exact vp_in_nI (n := 1) (by decide) (by decide)
        rw [nI_clamp (by decide), s1]
        apply cl_X10_136 (pc := 23) C rfl (r_unlike h0 hT' hi (by omega)) dX10_mayNow_23
        · repeat (first | assumption | exact Cl.s (by assumption) | refine Cl.n (by first | decide | omega) ?_)
        · rfl
        · exact Nat.le_of_ble_eq_true rfl
        refine g_aload_n (pc := 26) C dX10_mayNow_26 rfl ?_
        apply cl_X10_140 (pc := 27) C rfl (r_seen h0 hT') dX10_mayNow_27
        · repeat (first | assumption | exact Cl.s (by assumption) | refine Cl.n (by first | decide | omega) ?_)
        · rfl
        · exact Nat.le_of_ble_eq_true rfl
        refine g_iand (pc := 30) C dX10_mayNow_30 ?_
        refine g_aload_n (pc := 31) C dX10_mayNow_31 rfl ?_
        apply gf_X10_32 (pc := 32) C rfl dX10_mayNow_32
        · repeat (first | assumption | exact Cl.s (by assumption) | refine Cl.n (by first | decide | omega) ?_)
        · rfl
        refine g_iconst (pc := 35) (v := nI 2) C dX10_mayNow_35 (by decide) ?_
        apply g_iaload (pc := 36) C dX10_mayNow_36
        · repeat (first | assumption | exact Cl.s (by assumption) | refine Cl.n (by first | decide | omega) ?_)
        · exact vp_in_nI (n := 2) (by decide) (by decide)
        rw [nI_clamp (by decide), s2, nx_and]
        refine cl_X10_146 (pc := 37) C rfl (r_passes hlaw (by omega) (by omega)) dX10_mayNow_37 rfl (Nat.le_of_ble_eq_true rfl) ?_
        refine g_if_eq (pc := 40) C 47 dX10_mayNow_40 (by decide) (fun c40 => ?_) (fun c40 => ?_)
        · refine g_iconst (pc := 47) (v := nI 0) C dX10_mayNow_47 (by decide) ?_
          exact g_zreturn (pc := 48) C dX10_mayNow_48 rfl (by first | exact Or.inl rfl | exact Or.inr rfl) (rfl) (rfl)
        · exact absurd (by rw [hp2]; rfl) c40
    · refine g_aload_n (pc := 0) C dX10_mayNow_0 rfl ?_
      apply gf_X10_32 (pc := 1) C rfl dX10_mayNow_1
      · repeat (first | assumption | exact Cl.s (by assumption) | refine Cl.n (by first | decide | omega) ?_)
      · rfl
      refine g_iconst (pc := 4) (v := nI 1) C dX10_mayNow_4 (by decide) ?_
      apply g_iaload (pc := 5) C dX10_mayNow_5
      · repeat (first | assumption | exact Cl.s (by assumption) | refine Cl.n (by first | decide | omega) ?_)
      · exact vp_in_nI (n := 1) (by decide) (by decide)
      rw [nI_clamp (by decide), s1]
      refine g_if_lt (pc := 6) C 43 dX10_mayNow_6 (by decide) (fun c6 => ?_) (fun c6 => ?_)
      · exact absurd c6 (nI_pos (by omega))
      · refine g_aload_n (pc := 9) C dX10_mayNow_9 rfl ?_
        apply gf_X10_13 (pc := 10) C rfl dX10_mayNow_10
        · repeat (first | assumption | exact Cl.s (by assumption) | refine Cl.n (by first | decide | omega) ?_)
        · rfl
        refine g_iconst (pc := 13) (v := nI 0) C dX10_mayNow_13 (by decide) ?_
        apply g_iaload (pc := 14) C dX10_mayNow_14
        · repeat (first | assumption | exact Cl.s (by assumption) | refine Cl.n (by first | decide | omega) ?_)
        · exact vp_in_nI (n := 0) (by decide) (by decide)
        rw [nI_clamp (by decide), e0]
        refine g_aload_n (pc := 15) C dX10_mayNow_15 rfl ?_
        refine g_iload_n (pc := 16) C dX10_mayNow_16 rfl ?_
        refine g_aload_n (pc := 17) C dX10_mayNow_17 rfl ?_
        apply gf_X10_32 (pc := 18) C rfl dX10_mayNow_18
        · repeat (first | assumption | exact Cl.s (by assumption) | refine Cl.n (by first | decide | omega) ?_)
        · rfl
        refine g_iconst (pc := 21) (v := nI 1) C dX10_mayNow_21 (by decide) ?_
        apply g_iaload (pc := 22) C dX10_mayNow_22
        · repeat (first | assumption | exact Cl.s (by assumption) | refine Cl.n (by first | decide | omega) ?_)
        · exact vp_in_nI (n := 1) (by decide) (by decide)
        rw [nI_clamp (by decide), s1]
        apply cl_X10_136 (pc := 23) C rfl (r_unlike h0 hT' hi (by omega)) dX10_mayNow_23
        · repeat (first | assumption | exact Cl.s (by assumption) | refine Cl.n (by first | decide | omega) ?_)
        · rfl
        · exact Nat.le_of_ble_eq_true rfl
        refine g_aload_n (pc := 26) C dX10_mayNow_26 rfl ?_
        apply cl_X10_140 (pc := 27) C rfl (r_seen h0 hT') dX10_mayNow_27
        · repeat (first | assumption | exact Cl.s (by assumption) | refine Cl.n (by first | decide | omega) ?_)
        · rfl
        · exact Nat.le_of_ble_eq_true rfl
        refine g_iand (pc := 30) C dX10_mayNow_30 ?_
        refine g_aload_n (pc := 31) C dX10_mayNow_31 rfl ?_
        apply gf_X10_32 (pc := 32) C rfl dX10_mayNow_32
        · repeat (first | assumption | exact Cl.s (by assumption) | refine Cl.n (by first | decide | omega) ?_)
        · rfl
        refine g_iconst (pc := 35) (v := nI 2) C dX10_mayNow_35 (by decide) ?_
        apply g_iaload (pc := 36) C dX10_mayNow_36
        · repeat (first | assumption | exact Cl.s (by assumption) | refine Cl.n (by first | decide | omega) ?_)
        · exact vp_in_nI (n := 2) (by decide) (by decide)
        rw [nI_clamp (by decide), s2, nx_and]
        refine cl_X10_146 (pc := 37) C rfl (r_passes hlaw (by omega) (by omega)) dX10_mayNow_37 rfl (Nat.le_of_ble_eq_true rfl) ?_
        refine g_if_eq (pc := 40) C 47 dX10_mayNow_40 (by decide) (fun c40 => ?_) (fun c40 => ?_)
        · exact absurd c40 (by rw [hp2]; decide)
        · refine g_iconst (pc := 43) (v := nI 1) C dX10_mayNow_43 (by decide) ?_
          refine g_goto (pc := 44) C 48 dX10_mayNow_44 (by decide) ?_
          exact g_zreturn (pc := 48) C dX10_mayNow_48 rfl (by first | exact Or.inl rfl | exact Or.inr rfl) (rfl) (rfl)
theorem q_may (hT : QT G σ T) (hg : QG G σ len at_ rm h) (hw : HW (tm T) h) (i : Int32) : Mt G mX10_may [.ref (ga G 0), .int i] σ (some (.int (mayF T h i))) σ := by
  have hm := hT.w.1.2.2.2.2.1
  have h0 := hg.1
  rcases inR_c i (m := tm T) (by omega) with e | ⟨e, k, hk, rfl⟩
  · rw [show mayF T h i = -1 by simp [mayF, e]]
    refine Mt.of (by decide +kernel) (Nat.le_of_ble_eq_true rfl) (fun κ C => ?_)
    refine g_aload_n (pc := 0) C dX10_may_0 rfl ?_
    refine g_iload_n (pc := 1) C dX10_may_1 rfl ?_
    apply cl_X10_126 (pc := 2) C rfl (r_isMan h0 hT i) dX10_may_2
    · repeat (first | assumption | exact Cl.s (by assumption) | refine Cl.n (by first | decide | omega) ?_)
    · rfl
    · exact Nat.le_of_ble_eq_true rfl
    refine g_if_nE (pc := 5) C 12 dX10_may_5 (by decide) (fun c5 => ?_) (fun c5 => ?_)
    · exact absurd (by rw [e]; rfl) c5
    · refine g_iconst (pc := 8) (v := -1) C dX10_may_8 (by decide) ?_
      refine g_goto (pc := 9) C 25 dX10_may_9 (by decide) ?_
      exact g_ireturn (pc := 25) C dX10_may_25 rfl (rfl) (rfl)
  · rw [show mayF T h (nI k) = nI (b2 (lLets T h.1.2.1 h.1.2.2 k)) by simp [mayF, e, nI_clamp (show k < 2 ^ 31 by omega)]]
    cases hc : lLets T h.1.2.1 h.1.2.2 k
    · refine Mt.of (by decide +kernel) (Nat.le_of_ble_eq_true rfl) (fun κ C => ?_)
      refine g_aload_n (pc := 0) C dX10_may_0 rfl ?_
      refine g_iload_n (pc := 1) C dX10_may_1 rfl ?_
      apply cl_X10_126 (pc := 2) C rfl (r_isMan h0 hT (nI k)) dX10_may_2
      · repeat (first | assumption | exact Cl.s (by assumption) | refine Cl.n (by first | decide | omega) ?_)
      · rfl
      · exact Nat.le_of_ble_eq_true rfl
      refine g_if_nE (pc := 5) C 12 dX10_may_5 (by decide) (fun c5 => ?_) (fun c5 => ?_)
      · refine g_aload_n (pc := 12) C dX10_may_12 rfl ?_
        refine g_iload_n (pc := 13) C dX10_may_13 rfl ?_
        apply cl_X10_150 (pc := 14) C rfl (r_mayNow hT hg hw hk) dX10_may_14
        · repeat (first | assumption | exact Cl.s (by assumption) | refine Cl.n (by first | decide | omega) ?_)
        · rfl
        · exact Nat.le_of_ble_eq_true rfl
        refine g_if_eq (pc := 17) C 24 dX10_may_17 (by decide) (fun c17 => ?_) (fun c17 => ?_)
        · refine g_iconst (pc := 24) (v := nI 0) C dX10_may_24 (by decide) ?_
          exact g_ireturn (pc := 25) C dX10_may_25 rfl (rfl) (rfl)
        · exact absurd (by rw [hc]; rfl) c17
      · exact absurd c5 (by rw [e]; decide)
    · refine Mt.of (by decide +kernel) (Nat.le_of_ble_eq_true rfl) (fun κ C => ?_)
      refine g_aload_n (pc := 0) C dX10_may_0 rfl ?_
      refine g_iload_n (pc := 1) C dX10_may_1 rfl ?_
      apply cl_X10_126 (pc := 2) C rfl (r_isMan h0 hT (nI k)) dX10_may_2
      · repeat (first | assumption | exact Cl.s (by assumption) | refine Cl.n (by first | decide | omega) ?_)
      · rfl
      · exact Nat.le_of_ble_eq_true rfl
      refine g_if_nE (pc := 5) C 12 dX10_may_5 (by decide) (fun c5 => ?_) (fun c5 => ?_)
      · refine g_aload_n (pc := 12) C dX10_may_12 rfl ?_
        refine g_iload_n (pc := 13) C dX10_may_13 rfl ?_
        apply cl_X10_150 (pc := 14) C rfl (r_mayNow hT hg hw hk) dX10_may_14
        · repeat (first | assumption | exact Cl.s (by assumption) | refine Cl.n (by first | decide | omega) ?_)
        · rfl
        · exact Nat.le_of_ble_eq_true rfl
        refine g_if_eq (pc := 17) C 24 dX10_may_17 (by decide) (fun c17 => ?_) (fun c17 => ?_)
        · exact absurd c17 (by rw [hc]; decide)
        · refine g_iconst (pc := 20) (v := nI 1) C dX10_may_20 (by decide) ?_
          refine g_goto (pc := 21) C 25 dX10_may_21 (by decide) ?_
          exact g_ireturn (pc := 25) C dX10_may_25 rfl (rfl) (rfl)
      · exact absurd c5 (by rw [e]; decide)
theorem q_last (hg : QG G σ len at_ rm h) : Mt G mX10_last [.ref (ga G 0)] σ (some (.int (lastF h))) σ := by
  obtain ⟨h0, ⟨fs, h8, hs0, hs1⟩, -⟩ := hg
  refine Mt.of (by decide +kernel) (Nat.le_of_ble_eq_true rfl) (fun κ C => ?_)
  refine g_aload_n (pc := 0) C dX10_last_0 rfl ?_
  apply gf_X10_32 (pc := 1) C rfl dX10_last_1
  · repeat (first | assumption | exact Cl.s (by assumption) | refine Cl.n (by first | decide | omega) ?_)
  · rfl
  refine g_iconst (pc := 4) (v := nI 1) C dX10_last_4 (by decide) ?_
  apply g_iaload (pc := 5) C dX10_last_5
  · repeat (first | assumption | exact Cl.s (by assumption) | refine Cl.n (by first | decide | omega) ?_)
  · exact vp_in_nI (n := 1) (by decide) (by decide)
  exact g_ireturn (pc := 6) C dX10_last_6 rfl (by rw [nI_clamp (by decide), hs0.2.1]; rfl) (rfl)
end REF2

