/-! judge, person, differ, count -/
def jd (T : TS) (w : Nat → Nat) : Nat → Nat → Nat → Nat → Int32
  | 0, _, _, _ => -4
  | d2 + 1, k, L, d => if lLets T L d (w k) then jd T w d2 (k + 1) (w k + 1) (uL T L (w k)) else nI k
def RLi (G : GG) (σ : WW) : Prop := ∃ a b : Int32, Cl G σ 4 (.inr (2, [.int a, .int b]))
def personF (T : TS) (h : HH) (i t : Int32) : Int32 := if inR i (tm T) then (if t = -2 then nI (b2 (h.1.1.testBit i.toNatClampNeg)) else if t = -1 then nI (cdn (tv T) (tp T i.toNatClampNeg) (tn T)) else if inR t (tn T) then nI (tp T i.toNatClampNeg t.toNatClampNeg) else -1) else -1
def differF (T : TS) (i j : Int32) (z : Bool) : Int32 := if inR i (tm T) && inR j (tm T) then (if z then nI (UU T i.toNatClampNeg j.toNatClampNeg &&& seen T) else nI (UU T i.toNatClampNeg j.toNatClampNeg)) else -1
section READ
variable {G : GG} {σ : WW} {T : TS} {h : HH}
theorem c_judge {n : Nat} {w : Nat → Nat} (h0 : Cl G σ 0 (cMain G)) (hT : RT G σ T) (hr : RR G σ n w) (hn : n ≤ 16) (hw : ∀ k, k < n → w k < tm T) (hl : RLi G σ) : ∃ σ', Mt G mX9_judge [.ref (ga G 0)] σ (some (.int (jd T w n 0 0 0))) σ' ∧ RLi G σ' ∧ Fr σ σ' [4] := by
  obtain ⟨a, b, h4⟩ := hl
  have hm := hT.w.2.2.2.2.1
  have loop : ∀ d2 k L d {σ1 : WW}, k + d2 = n → L ≤ tm T → d < 32 → Fr σ σ1 [4] → Cl G σ1 4 (cLine L d) → ∃ σ', (∀ κ, Cx G mX9_judge κ → Go G mX9_judge κ (some (.int (jd T w d2 k L d))) σ' σ1 9 [(0, .ref (ga G 0)), (1, .int (nI k))] []) ∧ RLi G σ' ∧ Fr σ σ' [4] := by
    intro d2
    induction d2 with
    | zero =>
      intro k L d σ1 hk hL hd hf h41
      have h01 := h0.fr hf (by decide)
      have h31 := hr.1.fr hf (by decide)
      refine ⟨σ1, fun κ C => ?_, ⟨_, _, h41⟩, hf⟩
      refine g_iload_n (pc := 9) C dX9_judge_9 rfl ?_
      refine g_aload_n (pc := 10) C dX9_judge_10 rfl ?_
      apply gf_X9_26 (pc := 11) C rfl dX9_judge_11
      · repeat (first | assumption | exact Cl.s (by assumption) | refine Cl.n (by first | decide | omega) ?_)
      · rfl
      apply gf_X9_109 (pc := 14) C rfl dX9_judge_14
      · repeat (first | assumption | exact Cl.s (by assumption) | refine Cl.n (by first | decide | omega) ?_)
      · rfl
      refine g_icmp_ge (pc := 17) C 64 dX9_judge_17 (by decide) (fun c17 => ?_) (fun c17 => ?_)
      · refine g_bipush (pc := 64) (v := -4) C dX9_judge_64 (by decide) ?_
        exact g_ireturn (pc := 66) C dX9_judge_66 rfl (rfl) (rfl)
      · exact absurd (nI_le (by omega) (by omega)) c17
    | succ d2 ih =>
      intro k L d σ1 hk hL hd hf h41
      have h01 := h0.fr hf (by decide)
      have hr1 := hr.fr hf (by decide) (by decide)
      have h31 := hr1.1
      have hT1 := hT.fr hf (by decide) (by decide) (by decide) (by decide)
      obtain ⟨bo, hc, h9⟩ := hT1.c
      have hwk := hw k (by omega)
      cases hl : lLets T L d (w k)
      · refine ⟨σ1, fun κ C => ?_, ⟨_, _, h41⟩, hf⟩
        rw [show jd T w (d2 + 1) k L d = nI k by simp [jd, hl]]
        refine g_iload_n (pc := 9) C dX9_judge_9 rfl ?_
        refine g_aload_n (pc := 10) C dX9_judge_10 rfl ?_
        apply gf_X9_26 (pc := 11) C rfl dX9_judge_11
        · repeat (first | assumption | exact Cl.s (by assumption) | refine Cl.n (by first | decide | omega) ?_)
        · rfl
        apply gf_X9_109 (pc := 14) C rfl dX9_judge_14
        · repeat (first | assumption | exact Cl.s (by assumption) | refine Cl.n (by first | decide | omega) ?_)
        · rfl
        refine g_icmp_ge (pc := 17) C 64 dX9_judge_17 (by decide) (fun c17 => ?_) (fun c17 => ?_)
        · exact absurd c17 (nI_ge (by omega) (by omega))
        · refine g_aload_n (pc := 20) C dX9_judge_20 rfl ?_
          apply gf_X9_26 (pc := 21) C rfl dX9_judge_21
          · repeat (first | assumption | exact Cl.s (by assumption) | refine Cl.n (by first | decide | omega) ?_)
          · rfl
          refine g_iload_n (pc := 24) C dX9_judge_24 rfl ?_
          apply cl_X9_169 (pc := 25) C rfl (t_at hr1 (by omega) hn) dX9_judge_25
          · repeat (first | assumption | exact Cl.s (by assumption) | refine Cl.n (by first | decide | omega) ?_)
          · rfl
          · exact Nat.le_of_ble_eq_true rfl
          refine g_istore_n (pc := 28) C dX9_judge_28 (by decide) rfl ?_
          refine g_aload_n (pc := 29) C dX9_judge_29 rfl ?_
          apply gf_X9_33 (pc := 30) C rfl dX9_judge_30
          · repeat (first | assumption | exact Cl.s (by assumption) | refine Cl.n (by first | decide | omega) ?_)
          · rfl
          refine g_aload_n (pc := 33) C dX9_judge_33 rfl ?_
          apply gf_X9_68 (pc := 34) C rfl dX9_judge_34
          · repeat (first | assumption | exact Cl.s (by assumption) | refine Cl.n (by first | decide | omega) ?_)
          · rfl
          refine g_iload_n (pc := 37) C dX9_judge_37 rfl ?_
          apply cl_X9_142 (pc := 38) C rfl (t_llets hT1 h41 hL hd hwk) dX9_judge_38
          · repeat (first | assumption | exact Cl.s (by assumption) | refine Cl.n (by first | decide | omega) ?_)
          · rfl
          · exact Nat.le_of_ble_eq_true rfl
          refine g_if_nE (pc := 41) C 46 dX9_judge_41 (by decide) (fun c41 => ?_) (fun c41 => ?_)
          · exact absurd (by rw [hl]; rfl) c41
          · refine g_iload_n (pc := 44) C dX9_judge_44 rfl ?_
            exact g_ireturn (pc := 45) C dX9_judge_45 rfl (rfl) (rfl)
      · obtain ⟨σ2, g1, g2, g3⟩ := ih (k + 1) (w k + 1) (uL T L (w k)) (σ1 := va_up σ1 4 (cLine (w k + 1) (uL T L (w k)))) (by omega) (by omega) (uL_lt T _ _ hT.w.1) (fr3 hf (by decide)) (Cl.s h41)
        refine ⟨σ2, fun κ C => ?_, g2, g3⟩
        rw [show jd T w (d2 + 1) k L d = jd T w d2 (k + 1) (w k + 1) (uL T L (w k)) by simp [jd, hl]]
        refine g_iload_n (pc := 9) C dX9_judge_9 rfl ?_
        refine g_aload_n (pc := 10) C dX9_judge_10 rfl ?_
        apply gf_X9_26 (pc := 11) C rfl dX9_judge_11
        · repeat (first | assumption | exact Cl.s (by assumption) | refine Cl.n (by first | decide | omega) ?_)
        · rfl
        apply gf_X9_109 (pc := 14) C rfl dX9_judge_14
        · repeat (first | assumption | exact Cl.s (by assumption) | refine Cl.n (by first | decide | omega) ?_)
        · rfl
        refine g_icmp_ge (pc := 17) C 64 dX9_judge_17 (by decide) (fun c17 => ?_) (fun c17 => ?_)
        · exact absurd c17 (nI_ge (by omega) (by omega))
        · refine g_aload_n (pc := 20) C dX9_judge_20 rfl ?_
          apply gf_X9_26 (pc := 21) C rfl dX9_judge_21
          · repeat (first | assumption | exact Cl.s (by assumption) | refine Cl.n (by first | decide | omega) ?_)
          · rfl
          refine g_iload_n (pc := 24) C dX9_judge_24 rfl ?_
          apply cl_X9_169 (pc := 25) C rfl (t_at hr1 (by omega) hn) dX9_judge_25
          · repeat (first | assumption | exact Cl.s (by assumption) | refine Cl.n (by first | decide | omega) ?_)
          · rfl
          · exact Nat.le_of_ble_eq_true rfl
          refine g_istore_n (pc := 28) C dX9_judge_28 (by decide) rfl ?_
          refine g_aload_n (pc := 29) C dX9_judge_29 rfl ?_
          apply gf_X9_33 (pc := 30) C rfl dX9_judge_30
          · repeat (first | assumption | exact Cl.s (by assumption) | refine Cl.n (by first | decide | omega) ?_)
          · rfl
          refine g_aload_n (pc := 33) C dX9_judge_33 rfl ?_
          apply gf_X9_68 (pc := 34) C rfl dX9_judge_34
          · repeat (first | assumption | exact Cl.s (by assumption) | refine Cl.n (by first | decide | omega) ?_)
          · rfl
          refine g_iload_n (pc := 37) C dX9_judge_37 rfl ?_
          apply cl_X9_142 (pc := 38) C rfl (t_llets hT1 h41 hL hd hwk) dX9_judge_38
          · repeat (first | assumption | exact Cl.s (by assumption) | refine Cl.n (by first | decide | omega) ?_)
          · rfl
          · exact Nat.le_of_ble_eq_true rfl
          refine g_if_nE (pc := 41) C 46 dX9_judge_41 (by decide) (fun c41 => ?_) (fun c41 => ?_)
          · refine g_aload_n (pc := 46) C dX9_judge_46 rfl ?_
            apply gf_X9_33 (pc := 47) C rfl dX9_judge_47
            · repeat (first | assumption | exact Cl.s (by assumption) | refine Cl.n (by first | decide | omega) ?_)
            · rfl
            refine g_aload_n (pc := 50) C dX9_judge_50 rfl ?_
            apply gf_X9_68 (pc := 51) C rfl dX9_judge_51
            · repeat (first | assumption | exact Cl.s (by assumption) | refine Cl.n (by first | decide | omega) ?_)
            · rfl
            refine g_iload_n (pc := 54) C dX9_judge_54 rfl ?_
            apply cl_X9_172 (pc := 55) C rfl (t_take hT1 h41 hL hwk) dX9_judge_55
            · repeat (first | assumption | exact Cl.s (by assumption) | refine Cl.n (by first | decide | omega) ?_)
            · rfl
            · exact Nat.le_of_ble_eq_true rfl
            refine g_iinc (pc := 58) C dX9_judge_58 rfl (by decide) rfl ?_
            refine g_goto (pc := 61) C 9 dX9_judge_61 (by decide) ?_
            exact g_to (g1 κ C) ⟨rfl, lgi (nI_1 k), trivial⟩
          · exact absurd c41 (by rw [hl]; decide)
  obtain ⟨σ2, g1, g2, g3⟩ := loop n 0 0 0 (σ1 := va_up σ 4 (cLine 0 0)) (by omega) (by omega) (by omega) (fr3 fr0 (by decide)) (Cl.s h4)
  refine ⟨σ2, ?_, g2, g3⟩
  refine Mt.of (by decide +kernel) (Nat.le_of_ble_eq_true rfl) (fun κ C => ?_)
  refine g_aload_n (pc := 0) C dX9_judge_0 rfl ?_
  apply gf_X9_33 (pc := 1) C rfl dX9_judge_1
  · repeat (first | assumption | exact Cl.s (by assumption) | refine Cl.n (by first | decide | omega) ?_)
  · rfl
  apply cl_X9_168 (pc := 4) C rfl (t_lclear h4) dX9_judge_4
  · repeat (first | assumption | exact Cl.s (by assumption) | refine Cl.n (by first | decide | omega) ?_)
  · rfl
  · exact Nat.le_of_ble_eq_true rfl
  refine g_iconst (pc := 7) (v := nI 0) C dX9_judge_7 (by decide) ?_
  refine g_istore_n (pc := 8) C dX9_judge_8 (by decide) rfl ?_
  exact g_to (g1 κ C) ⟨rfl, rfl, trivial⟩
theorem tp4 (hT : RT G σ T) {i : Nat} (hi : i < tm T) : ∀ t, t < tn T → tp T i t < 4 := fun t ht => Nat.lt_of_lt_of_le (hT.w.2.2.2.2.2.1 i hi t ht) (hT.w.2.1 t ht).2
theorem c_person (h0 : Cl G σ 0 (cMain G)) (hT : RT G σ T) (hg : RG G σ h) (hw : HW (tm T) h) (i t : Int32) : Mt G mX9_person [.ref (ga G 0), .int i, .int t] σ (some (.int (personF T h i t))) σ := by
  have hm := hT.w.2.2.2.2.1
  have hn := hT.w.1
  obtain ⟨bo, hc, h9⟩ := hT.c
  have h2 := hg.1
  rcases inR_c i (m := tm T) (by omega) with e | ⟨e, k, hk, rfl⟩
  · rw [show personF T h i t = -1 by simp [personF, e]]
    refine Mt.of (by decide +kernel) (Nat.le_of_ble_eq_true rfl) (fun κ C => ?_)
    refine g_aload_n (pc := 0) C dX9_person_0 rfl ?_
    apply gf_X9_68 (pc := 1) C rfl dX9_person_1
    · repeat (first | assumption | exact Cl.s (by assumption) | refine Cl.n (by first | decide | omega) ?_)
    · rfl
    refine g_iload_n (pc := 4) C dX9_person_4 rfl ?_
    apply cl_X9_115 (pc := 5) C rfl (t_hasPerson hT i) dX9_person_5
    · repeat (first | assumption | exact Cl.s (by assumption) | refine Cl.n (by first | decide | omega) ?_)
    · rfl
    · exact Nat.le_of_ble_eq_true rfl
    refine g_if_nE (pc := 8) C 13 dX9_person_8 (by decide) (fun c8 => ?_) (fun c8 => ?_)
    · exact absurd (by rw [e]; rfl) c8
    · refine g_iconst (pc := 11) (v := -1) C dX9_person_11 (by decide) ?_
      exact g_ireturn (pc := 12) C dX9_person_12 rfl (rfl) (rfl)
  · have ek := nI_clamp (n := k) (by omega)
    by_cases ht2 : t = -2
    · rw [show personF T h (nI k) t = nI (b2 (h.1.1.testBit k)) by simp [personF, e, ht2, ek]]
      cases hb : h.1.1.testBit k
      · refine Mt.of (by decide +kernel) (Nat.le_of_ble_eq_true rfl) (fun κ C => ?_)
        refine g_aload_n (pc := 0) C dX9_person_0 rfl ?_
        apply gf_X9_68 (pc := 1) C rfl dX9_person_1
        · repeat (first | assumption | exact Cl.s (by assumption) | refine Cl.n (by first | decide | omega) ?_)
        · rfl
        refine g_iload_n (pc := 4) C dX9_person_4 rfl ?_
        apply cl_X9_115 (pc := 5) C rfl (t_hasPerson hT (nI k)) dX9_person_5
        · repeat (first | assumption | exact Cl.s (by assumption) | refine Cl.n (by first | decide | omega) ?_)
        · rfl
        · exact Nat.le_of_ble_eq_true rfl
        refine g_if_nE (pc := 8) C 13 dX9_person_8 (by decide) (fun c8 => ?_) (fun c8 => ?_)
        · refine g_iload_n (pc := 13) C dX9_person_13 rfl ?_
          refine g_bipush (pc := 14) (v := -2) C dX9_person_14 (by decide) ?_
          refine g_icmp_nE (pc := 16) C 36 dX9_person_16 (by decide) (fun c16 => ?_) (fun c16 => ?_)
          · exact absurd ht2 c16
          · refine g_aload_n (pc := 19) C dX9_person_19 rfl ?_
            apply gf_X9_19 (pc := 20) C rfl dX9_person_20
            · repeat (first | assumption | exact Cl.s (by assumption) | refine Cl.n (by first | decide | omega) ?_)
            · rfl
            refine g_iload_n (pc := 23) C dX9_person_23 rfl ?_
            apply cl_X9_118 (pc := 24) C rfl (t_holds h2 hw.1.1 (by omega)) dX9_person_24
            · repeat (first | assumption | exact Cl.s (by assumption) | refine Cl.n (by first | decide | omega) ?_)
            · rfl
            · exact Nat.le_of_ble_eq_true rfl
            refine g_if_eq (pc := 27) C 34 dX9_person_27 (by decide) (fun c27 => ?_) (fun c27 => ?_)
            · refine g_iconst (pc := 34) (v := nI 0) C dX9_person_34 (by decide) ?_
              exact g_ireturn (pc := 35) C dX9_person_35 rfl (rfl) (rfl)
            · exact absurd (by rw [hb]; rfl) c27
        · exact absurd c8 (by rw [e]; decide)
      · refine Mt.of (by decide +kernel) (Nat.le_of_ble_eq_true rfl) (fun κ C => ?_)
        refine g_aload_n (pc := 0) C dX9_person_0 rfl ?_
        apply gf_X9_68 (pc := 1) C rfl dX9_person_1
        · repeat (first | assumption | exact Cl.s (by assumption) | refine Cl.n (by first | decide | omega) ?_)
        · rfl
        refine g_iload_n (pc := 4) C dX9_person_4 rfl ?_
        apply cl_X9_115 (pc := 5) C rfl (t_hasPerson hT (nI k)) dX9_person_5
        · repeat (first | assumption | exact Cl.s (by assumption) | refine Cl.n (by first | decide | omega) ?_)
        · rfl
        · exact Nat.le_of_ble_eq_true rfl
        refine g_if_nE (pc := 8) C 13 dX9_person_8 (by decide) (fun c8 => ?_) (fun c8 => ?_)
        · refine g_iload_n (pc := 13) C dX9_person_13 rfl ?_
          refine g_bipush (pc := 14) (v := -2) C dX9_person_14 (by decide) ?_
          refine g_icmp_nE (pc := 16) C 36 dX9_person_16 (by decide) (fun c16 => ?_) (fun c16 => ?_)
          · exact absurd ht2 c16
          · refine g_aload_n (pc := 19) C dX9_person_19 rfl ?_
            apply gf_X9_19 (pc := 20) C rfl dX9_person_20
            · repeat (first | assumption | exact Cl.s (by assumption) | refine Cl.n (by first | decide | omega) ?_)
            · rfl
            refine g_iload_n (pc := 23) C dX9_person_23 rfl ?_
            apply cl_X9_118 (pc := 24) C rfl (t_holds h2 hw.1.1 (by omega)) dX9_person_24
            · repeat (first | assumption | exact Cl.s (by assumption) | refine Cl.n (by first | decide | omega) ?_)
            · rfl
            · exact Nat.le_of_ble_eq_true rfl
            refine g_if_eq (pc := 27) C 34 dX9_person_27 (by decide) (fun c27 => ?_) (fun c27 => ?_)
            · exact absurd c27 (by rw [hb]; decide)
            · refine g_iconst (pc := 30) (v := nI 1) C dX9_person_30 (by decide) ?_
              refine g_goto (pc := 31) C 35 dX9_person_31 (by decide) ?_
              exact g_ireturn (pc := 35) C dX9_person_35 rfl (rfl) (rfl)
        · exact absurd c8 (by rw [e]; decide)
    · by_cases ht1 : t = -1
      · rw [show personF T h (nI k) t = nI (cdn (tv T) (tp T k) (tn T)) by simp [personF, e, ht1, ek]]
        refine Mt.of (by decide +kernel) (Nat.le_of_ble_eq_true rfl) (fun κ C => ?_)
        refine g_aload_n (pc := 0) C dX9_person_0 rfl ?_
        apply gf_X9_68 (pc := 1) C rfl dX9_person_1
        · repeat (first | assumption | exact Cl.s (by assumption) | refine Cl.n (by first | decide | omega) ?_)
        · rfl
        refine g_iload_n (pc := 4) C dX9_person_4 rfl ?_
        apply cl_X9_115 (pc := 5) C rfl (t_hasPerson hT (nI k)) dX9_person_5
        · repeat (first | assumption | exact Cl.s (by assumption) | refine Cl.n (by first | decide | omega) ?_)
        · rfl
        · exact Nat.le_of_ble_eq_true rfl
        refine g_if_nE (pc := 8) C 13 dX9_person_8 (by decide) (fun c8 => ?_) (fun c8 => ?_)
        · refine g_iload_n (pc := 13) C dX9_person_13 rfl ?_
          refine g_bipush (pc := 14) (v := -2) C dX9_person_14 (by decide) ?_
          refine g_icmp_nE (pc := 16) C 36 dX9_person_16 (by decide) (fun c16 => ?_) (fun c16 => ?_)
          · refine g_iload_n (pc := 36) C dX9_person_36 rfl ?_
            refine g_iconst (pc := 37) (v := -1) C dX9_person_37 (by decide) ?_
            refine g_icmp_nE (pc := 38) C 57 dX9_person_38 (by decide) (fun c38 => ?_) (fun c38 => ?_)
            · exact absurd ht1 c38
            · refine g_aload_n (pc := 41) C dX9_person_41 rfl ?_
              apply gf_X9_68 (pc := 42) C rfl dX9_person_42
              · repeat (first | assumption | exact Cl.s (by assumption) | refine Cl.n (by first | decide | omega) ?_)
              · rfl
              refine g_aload_n (pc := 45) C dX9_person_45 rfl ?_
              apply gf_X9_68 (pc := 46) C rfl dX9_person_46
              · repeat (first | assumption | exact Cl.s (by assumption) | refine Cl.n (by first | decide | omega) ?_)
              · rfl
              refine g_iload_n (pc := 49) C dX9_person_49 rfl ?_
              apply cl_X9_121 (pc := 50) C rfl (t_look hT hk) dX9_person_50
              · repeat (first | assumption | exact Cl.s (by assumption) | refine Cl.n (by first | decide | omega) ?_)
              · rfl
              · exact Nat.le_of_ble_eq_true rfl
              apply cl_X9_125 (pc := 53) C rfl (t_code hT (tp4 hT hk)) dX9_person_53
              · repeat (first | assumption | exact Cl.s (by assumption) | refine Cl.n (by first | decide | omega) ?_)
              · rfl
              · exact Nat.le_of_ble_eq_true rfl
              exact g_ireturn (pc := 56) C dX9_person_56 rfl (rfl) (rfl)
          · exact absurd c16 ht2
        · exact absurd c8 (by rw [e]; decide)
      · rcases inR_c t (m := tn T) (by omega) with e2 | ⟨e2, j, hj, rfl⟩
        · rw [show personF T h (nI k) t = -1 by simp [personF, e, ht1, ht2, e2]]
          refine Mt.of (by decide +kernel) (Nat.le_of_ble_eq_true rfl) (fun κ C => ?_)
          refine g_aload_n (pc := 0) C dX9_person_0 rfl ?_
          apply gf_X9_68 (pc := 1) C rfl dX9_person_1
          · repeat (first | assumption | exact Cl.s (by assumption) | refine Cl.n (by first | decide | omega) ?_)
          · rfl
          refine g_iload_n (pc := 4) C dX9_person_4 rfl ?_
          apply cl_X9_115 (pc := 5) C rfl (t_hasPerson hT (nI k)) dX9_person_5
          · repeat (first | assumption | exact Cl.s (by assumption) | refine Cl.n (by first | decide | omega) ?_)
          · rfl
          · exact Nat.le_of_ble_eq_true rfl
          refine g_if_nE (pc := 8) C 13 dX9_person_8 (by decide) (fun c8 => ?_) (fun c8 => ?_)
          · refine g_iload_n (pc := 13) C dX9_person_13 rfl ?_
            refine g_bipush (pc := 14) (v := -2) C dX9_person_14 (by decide) ?_
            refine g_icmp_nE (pc := 16) C 36 dX9_person_16 (by decide) (fun c16 => ?_) (fun c16 => ?_)
            · refine g_iload_n (pc := 36) C dX9_person_36 rfl ?_
              refine g_iconst (pc := 37) (v := -1) C dX9_person_37 (by decide) ?_
              refine g_icmp_nE (pc := 38) C 57 dX9_person_38 (by decide) (fun c38 => ?_) (fun c38 => ?_)
              · refine g_aload_n (pc := 57) C dX9_person_57 rfl ?_
                apply gf_X9_68 (pc := 58) C rfl dX9_person_58
                · repeat (first | assumption | exact Cl.s (by assumption) | refine Cl.n (by first | decide | omega) ?_)
                · rfl
                refine g_iload_n (pc := 61) C dX9_person_61 rfl ?_
                apply cl_X9_128 (pc := 62) C rfl (t_hasThing hT t) dX9_person_62
                · repeat (first | assumption | exact Cl.s (by assumption) | refine Cl.n (by first | decide | omega) ?_)
                · rfl
                · exact Nat.le_of_ble_eq_true rfl
                refine g_if_eq (pc := 65) C 83 dX9_person_65 (by decide) (fun c65 => ?_) (fun c65 => ?_)
                · refine g_iconst (pc := 83) (v := -1) C dX9_person_83 (by decide) ?_
                  exact g_ireturn (pc := 84) C dX9_person_84 rfl (rfl) (rfl)
                · exact absurd (by rw [e2]; rfl) c65
              · exact absurd c38 ht1
            · exact absurd c16 ht2
          · exact absurd c8 (by rw [e]; decide)
        · rw [show personF T h (nI k) (nI j) = nI (tp T k j) by simp [personF, e, ht1, ht2, e2, ek, nI_clamp (show j < 2 ^ 31 by omega)]]
          refine Mt.of (by decide +kernel) (Nat.le_of_ble_eq_true rfl) (fun κ C => ?_)
          refine g_aload_n (pc := 0) C dX9_person_0 rfl ?_
          apply gf_X9_68 (pc := 1) C rfl dX9_person_1
          · repeat (first | assumption | exact Cl.s (by assumption) | refine Cl.n (by first | decide | omega) ?_)
          · rfl
          refine g_iload_n (pc := 4) C dX9_person_4 rfl ?_
          apply cl_X9_115 (pc := 5) C rfl (t_hasPerson hT (nI k)) dX9_person_5
          · repeat (first | assumption | exact Cl.s (by assumption) | refine Cl.n (by first | decide | omega) ?_)
          · rfl
          · exact Nat.le_of_ble_eq_true rfl
          refine g_if_nE (pc := 8) C 13 dX9_person_8 (by decide) (fun c8 => ?_) (fun c8 => ?_)
          · refine g_iload_n (pc := 13) C dX9_person_13 rfl ?_
            refine g_bipush (pc := 14) (v := -2) C dX9_person_14 (by decide) ?_
            refine g_icmp_nE (pc := 16) C 36 dX9_person_16 (by decide) (fun c16 => ?_) (fun c16 => ?_)
            · refine g_iload_n (pc := 36) C dX9_person_36 rfl ?_
              refine g_iconst (pc := 37) (v := -1) C dX9_person_37 (by decide) ?_
              refine g_icmp_nE (pc := 38) C 57 dX9_person_38 (by decide) (fun c38 => ?_) (fun c38 => ?_)
              · refine g_aload_n (pc := 57) C dX9_person_57 rfl ?_
                apply gf_X9_68 (pc := 58) C rfl dX9_person_58
                · repeat (first | assumption | exact Cl.s (by assumption) | refine Cl.n (by first | decide | omega) ?_)
                · rfl
                refine g_iload_n (pc := 61) C dX9_person_61 rfl ?_
                apply cl_X9_128 (pc := 62) C rfl (t_hasThing hT (nI j)) dX9_person_62
                · repeat (first | assumption | exact Cl.s (by assumption) | refine Cl.n (by first | decide | omega) ?_)
                · rfl
                · exact Nat.le_of_ble_eq_true rfl
                refine g_if_eq (pc := 65) C 83 dX9_person_65 (by decide) (fun c65 => ?_) (fun c65 => ?_)
                · exact absurd c65 (by rw [e2]; decide)
                · refine g_aload_n (pc := 68) C dX9_person_68 rfl ?_
                  apply gf_X9_68 (pc := 69) C rfl dX9_person_69
                  · repeat (first | assumption | exact Cl.s (by assumption) | refine Cl.n (by first | decide | omega) ?_)
                  · rfl
                  refine g_iload_n (pc := 72) C dX9_person_72 rfl ?_
                  apply cl_X9_121 (pc := 73) C rfl (t_look hT hk) dX9_person_73
                  · repeat (first | assumption | exact Cl.s (by assumption) | refine Cl.n (by first | decide | omega) ?_)
                  · rfl
                  · exact Nat.le_of_ble_eq_true rfl
                  refine g_iload_n (pc := 76) C dX9_person_76 rfl ?_
                  refine cl_X9_131 (pc := 77) C rfl (t_valueOf (lkn_lt _ _ hn) (by omega)) dX9_person_77 rfl (Nat.le_of_ble_eq_true rfl) ?_
                  refine g_goto (pc := 80) C 84 dX9_person_80 (by decide) ?_
                  exact g_ireturn (pc := 84) C dX9_person_84 rfl (by rw [vlk_lkn hn hj (tp4 hT hk j hj)]) (rfl)
              · exact absurd c38 ht1
            · exact absurd c16 ht2
          · exact absurd c8 (by rw [e]; decide)
theorem c_differ (h0 : Cl G σ 0 (cMain G)) (hT : RT G σ T) (i j : Int32) (z : Bool) : Mt G mX9_differ [.ref (ga G 0), .int i, .int j, .int (nI (b2 z))] σ (some (.int (differF T i j z))) σ := by
  have hm := hT.w.2.2.2.2.1
  have hn := hT.w.1
  obtain ⟨bo, hc, h9⟩ := hT.c
  rcases inR_c i (m := tm T) (by omega) with e | ⟨e, k, hk, rfl⟩
  · rw [show differF T i j z = -1 by simp [differF, e]]
    refine Mt.of (by decide +kernel) (Nat.le_of_ble_eq_true rfl) (fun κ C => ?_)
    refine g_aload_n (pc := 0) C dX9_differ_0 rfl ?_
    apply gf_X9_68 (pc := 1) C rfl dX9_differ_1
    · repeat (first | assumption | exact Cl.s (by assumption) | refine Cl.n (by first | decide | omega) ?_)
    · rfl
    refine g_iload_n (pc := 4) C dX9_differ_4 rfl ?_
    apply cl_X9_115 (pc := 5) C rfl (t_hasPerson hT i) dX9_differ_5
    · repeat (first | assumption | exact Cl.s (by assumption) | refine Cl.n (by first | decide | omega) ?_)
    · rfl
    · exact Nat.le_of_ble_eq_true rfl
    refine g_if_eq (pc := 8) C 22 dX9_differ_8 (by decide) (fun c8 => ?_) (fun c8 => ?_)
    · refine g_iconst (pc := 22) (v := -1) C dX9_differ_22 (by decide) ?_
      exact g_ireturn (pc := 23) C dX9_differ_23 rfl (rfl) (rfl)
    · exact absurd (by rw [e]; rfl) c8
  · rcases inR_c j (m := tm T) (by omega) with e2 | ⟨e2, q, hq, rfl⟩
    · rw [show differF T (nI k) j z = -1 by simp [differF, e2]]
      refine Mt.of (by decide +kernel) (Nat.le_of_ble_eq_true rfl) (fun κ C => ?_)
      refine g_aload_n (pc := 0) C dX9_differ_0 rfl ?_
      apply gf_X9_68 (pc := 1) C rfl dX9_differ_1
      · repeat (first | assumption | exact Cl.s (by assumption) | refine Cl.n (by first | decide | omega) ?_)
      · rfl
      refine g_iload_n (pc := 4) C dX9_differ_4 rfl ?_
      apply cl_X9_115 (pc := 5) C rfl (t_hasPerson hT (nI k)) dX9_differ_5
      · repeat (first | assumption | exact Cl.s (by assumption) | refine Cl.n (by first | decide | omega) ?_)
      · rfl
      · exact Nat.le_of_ble_eq_true rfl
      refine g_if_eq (pc := 8) C 22 dX9_differ_8 (by decide) (fun c8 => ?_) (fun c8 => ?_)
      · exact absurd c8 (by rw [e]; decide)
      · refine g_aload_n (pc := 11) C dX9_differ_11 rfl ?_
        apply gf_X9_68 (pc := 12) C rfl dX9_differ_12
        · repeat (first | assumption | exact Cl.s (by assumption) | refine Cl.n (by first | decide | omega) ?_)
        · rfl
        refine g_iload_n (pc := 15) C dX9_differ_15 rfl ?_
        apply cl_X9_115 (pc := 16) C rfl (t_hasPerson hT j) dX9_differ_16
        · repeat (first | assumption | exact Cl.s (by assumption) | refine Cl.n (by first | decide | omega) ?_)
        · rfl
        · exact Nat.le_of_ble_eq_true rfl
        refine g_if_nE (pc := 19) C 24 dX9_differ_19 (by decide) (fun c19 => ?_) (fun c19 => ?_)
        · exact absurd (by rw [e2]; rfl) c19
        · refine g_iconst (pc := 22) (v := -1) C dX9_differ_22 (by decide) ?_
          exact g_ireturn (pc := 23) C dX9_differ_23 rfl (rfl) (rfl)
    · have ek := nI_clamp (n := k) (by omega)
      have eq := nI_clamp (n := q) (by omega)
      cases z
      · rw [show differF T (nI k) (nI q) false = nI (UU T k q) by simp [differF, e, e2, ek, eq]]
        refine Mt.of (by decide +kernel) (Nat.le_of_ble_eq_true rfl) (fun κ C => ?_)
        refine g_aload_n (pc := 0) C dX9_differ_0 rfl ?_
        apply gf_X9_68 (pc := 1) C rfl dX9_differ_1
        · repeat (first | assumption | exact Cl.s (by assumption) | refine Cl.n (by first | decide | omega) ?_)
        · rfl
        refine g_iload_n (pc := 4) C dX9_differ_4 rfl ?_
        apply cl_X9_115 (pc := 5) C rfl (t_hasPerson hT (nI k)) dX9_differ_5
        · repeat (first | assumption | exact Cl.s (by assumption) | refine Cl.n (by first | decide | omega) ?_)
        · rfl
        · exact Nat.le_of_ble_eq_true rfl
        refine g_if_eq (pc := 8) C 22 dX9_differ_8 (by decide) (fun c8 => ?_) (fun c8 => ?_)
        · exact absurd c8 (by rw [e]; decide)
        · refine g_aload_n (pc := 11) C dX9_differ_11 rfl ?_
          apply gf_X9_68 (pc := 12) C rfl dX9_differ_12
          · repeat (first | assumption | exact Cl.s (by assumption) | refine Cl.n (by first | decide | omega) ?_)
          · rfl
          refine g_iload_n (pc := 15) C dX9_differ_15 rfl ?_
          apply cl_X9_115 (pc := 16) C rfl (t_hasPerson hT (nI q)) dX9_differ_16
          · repeat (first | assumption | exact Cl.s (by assumption) | refine Cl.n (by first | decide | omega) ?_)
          · rfl
          · exact Nat.le_of_ble_eq_true rfl
          refine g_if_nE (pc := 19) C 24 dX9_differ_19 (by decide) (fun c19 => ?_) (fun c19 => ?_)
          · refine g_iload_n (pc := 24) C dX9_differ_24 rfl ?_
            refine g_if_eq (pc := 25) C 40 dX9_differ_25 (by decide) (fun c25 => ?_) (fun c25 => ?_)
            · refine g_aload_n (pc := 40) C dX9_differ_40 rfl ?_
              apply gf_X9_68 (pc := 41) C rfl dX9_differ_41
              · repeat (first | assumption | exact Cl.s (by assumption) | refine Cl.n (by first | decide | omega) ?_)
              · rfl
              refine g_iload_n (pc := 44) C dX9_differ_44 rfl ?_
              apply cl_X9_121 (pc := 45) C rfl (t_look hT hk) dX9_differ_45
              · repeat (first | assumption | exact Cl.s (by assumption) | refine Cl.n (by first | decide | omega) ?_)
              · rfl
              · exact Nat.le_of_ble_eq_true rfl
              refine g_aload_n (pc := 48) C dX9_differ_48 rfl ?_
              apply gf_X9_68 (pc := 49) C rfl dX9_differ_49
              · repeat (first | assumption | exact Cl.s (by assumption) | refine Cl.n (by first | decide | omega) ?_)
              · rfl
              refine g_iload_n (pc := 52) C dX9_differ_52 rfl ?_
              apply cl_X9_121 (pc := 53) C rfl (t_look hT hq) dX9_differ_53
              · repeat (first | assumption | exact Cl.s (by assumption) | refine Cl.n (by first | decide | omega) ?_)
              · rfl
              · exact Nat.le_of_ble_eq_true rfl
              refine cl_X9_138 (pc := 56) C rfl (t_unlike (lkn_lt _ _ hn) (lkn_lt _ _ hn)) dX9_differ_56 rfl (Nat.le_of_ble_eq_true rfl) ?_
              exact g_ireturn (pc := 59) C dX9_differ_59 rfl (by rw [ulk_lkn hn (tp4 hT hk) (tp4 hT hq)]; rfl) (rfl)
            · exact absurd rfl c25
          · exact absurd c19 (by rw [e2]; decide)
      · rw [show differF T (nI k) (nI q) true = nI (UU T k q &&& seen T) by simp [differF, e, e2, ek, eq]]
        refine Mt.of (by decide +kernel) (Nat.le_of_ble_eq_true rfl) (fun κ C => ?_)
        refine g_aload_n (pc := 0) C dX9_differ_0 rfl ?_
        apply gf_X9_68 (pc := 1) C rfl dX9_differ_1
        · repeat (first | assumption | exact Cl.s (by assumption) | refine Cl.n (by first | decide | omega) ?_)
        · rfl
        refine g_iload_n (pc := 4) C dX9_differ_4 rfl ?_
        apply cl_X9_115 (pc := 5) C rfl (t_hasPerson hT (nI k)) dX9_differ_5
        · repeat (first | assumption | exact Cl.s (by assumption) | refine Cl.n (by first | decide | omega) ?_)
        · rfl
        · exact Nat.le_of_ble_eq_true rfl
        refine g_if_eq (pc := 8) C 22 dX9_differ_8 (by decide) (fun c8 => ?_) (fun c8 => ?_)
        · exact absurd c8 (by rw [e]; decide)
        · refine g_aload_n (pc := 11) C dX9_differ_11 rfl ?_
          apply gf_X9_68 (pc := 12) C rfl dX9_differ_12
          · repeat (first | assumption | exact Cl.s (by assumption) | refine Cl.n (by first | decide | omega) ?_)
          · rfl
          refine g_iload_n (pc := 15) C dX9_differ_15 rfl ?_
          apply cl_X9_115 (pc := 16) C rfl (t_hasPerson hT (nI q)) dX9_differ_16
          · repeat (first | assumption | exact Cl.s (by assumption) | refine Cl.n (by first | decide | omega) ?_)
          · rfl
          · exact Nat.le_of_ble_eq_true rfl
          refine g_if_nE (pc := 19) C 24 dX9_differ_19 (by decide) (fun c19 => ?_) (fun c19 => ?_)
          · refine g_iload_n (pc := 24) C dX9_differ_24 rfl ?_
            refine g_if_eq (pc := 25) C 40 dX9_differ_25 (by decide) (fun c25 => ?_) (fun c25 => ?_)
            · exact absurd c25 (by decide)
            · refine g_aload_n (pc := 28) C dX9_differ_28 rfl ?_
              apply gf_X9_68 (pc := 29) C rfl dX9_differ_29
              · repeat (first | assumption | exact Cl.s (by assumption) | refine Cl.n (by first | decide | omega) ?_)
              · rfl
              refine g_iload_n (pc := 32) C dX9_differ_32 rfl ?_
              refine g_iload_n (pc := 33) C dX9_differ_33 rfl ?_
              apply cl_X9_135 (pc := 34) C rfl (t_seenUnlike hT hk hq) dX9_differ_34
              · repeat (first | assumption | exact Cl.s (by assumption) | refine Cl.n (by first | decide | omega) ?_)
              · rfl
              · exact Nat.le_of_ble_eq_true rfl
              refine g_goto (pc := 37) C 59 dX9_differ_37 (by decide) ?_
              exact g_ireturn (pc := 59) C dX9_differ_59 rfl (rfl) (rfl)
          · exact absurd c19 (by rw [e2]; decide)
end READ

