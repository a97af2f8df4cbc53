/-! the public calls of the gate -/
def mayF (T : TS) (h : HH) (i : Int32) : Int32 := if inR i (tm T) then nI (b2 (lLets T h.1.2.1 h.1.2.2 i.toNatClampNeg)) else -1
def goF (T : TS) (h : HH) (i : Int32) (inn : Bool) : Int32 × HH := if inR i (tm T) then (if (h.1.1.testBit i.toNatClampNeg == inn || !lLets T h.1.2.1 h.1.2.2 i.toNatClampNeg) then (-2, h) else (nI (many (passH T h i.toNatClampNeg).1.1), passH T h i.toNatClampNeg)) else (-1, h)
def undoF (h : HH) : Int32 × HH := if h.2.1 = 0 then (-2, h) else (nI (h.2.1 - 1), undoH h)
def lastF (h : HH) : Int32 := if h.1.2.1 = 0 then -4 else nI (h.1.2.1 - 1)
def keepF (h : HH) : Int32 × HH := if h.2.2.2.1 = 2 then (-3, h) else (nI (h.2.2.2.1 + 1), keepH h)
def backF (h : HH) : Int32 × HH := if h.2.2.2.1 = 0 then (-2, h) else (nI (h.2.2.2.1 - 1), backH h)
section PUB
variable {G : GG} {σ : WW} {T : TS} {h : HH}
theorem RT.w (hT : RT G σ T) : TW T := by obtain ⟨_, _, _, _, _, _, _, hW, _⟩ := hT; exact hW
theorem RT.c (hT : RT G σ T) : ∃ bo hc, Cl G σ 9 (cTold G 21 22 23 (nI (tn T)) (nI (tm T)) bo hc (nI (tl T)) (nI (tg T))) := by obtain ⟨_, _, _, h9, _⟩ := hT; exact ⟨_, _, h9⟩
theorem c_may (h0 : Cl G σ 0 (cMain G)) (hT : RT G σ T) (hg : RG G σ h) (hw : HW (tm T) h) (i : Int32) : Mt G mX9_may [.ref (ga G 0), .int i] σ (some (.int (mayF T h i))) σ := by
  have hm := hT.w.2.2.2.2.1
  have hg' := hg
  obtain ⟨bo, hc, h9⟩ := hT.c
  obtain ⟨h2, h12, -⟩ := hg
  rcases inR_c i (m := tm T) (by omega) with e | ⟨e, k, hk, rfl⟩
  · rw [show mayF T h i = -1 by simp [mayF, e]]
    refine Mt.of (by decide +kernel) (Nat.le_of_ble_eq_true rfl) (fun κ C => ?_)
    refine g_aload_n (pc := 0) C dX9_may_0 rfl ?_
    apply gf_X9_68 (pc := 1) C rfl dX9_may_1
    · repeat (first | assumption | exact Cl.s (by assumption) | refine Cl.n (by first | decide | omega) ?_)
    · rfl
    refine g_iload_n (pc := 4) C dX9_may_4 rfl ?_
    apply cl_X9_115 (pc := 5) C rfl (t_hasPerson hT i) dX9_may_5
    · repeat (first | assumption | exact Cl.s (by assumption) | refine Cl.n (by first | decide | omega) ?_)
    · rfl
    · exact Nat.le_of_ble_eq_true rfl
    refine g_if_nE (pc := 8) C 13 dX9_may_8 (by decide) (fun c8 => ?_) (fun c8 => ?_)
    · exact absurd (by rw [e]; rfl) c8
    · refine g_iconst (pc := 11) (v := -1) C dX9_may_11 (by decide) ?_
      exact g_ireturn (pc := 12) C dX9_may_12 rfl (rfl) (rfl)
  · rw [show mayF T h (nI k) = nI (b2 (lLets T h.1.2.1 h.1.2.2 k)) by simp [mayF, e, nI_clamp (show k < 2 ^ 31 by omega)]]
    cases hc2 : lLets T h.1.2.1 h.1.2.2 k
    · refine Mt.of (by decide +kernel) (Nat.le_of_ble_eq_true rfl) (fun κ C => ?_)
      refine g_aload_n (pc := 0) C dX9_may_0 rfl ?_
      apply gf_X9_68 (pc := 1) C rfl dX9_may_1
      · repeat (first | assumption | exact Cl.s (by assumption) | refine Cl.n (by first | decide | omega) ?_)
      · rfl
      refine g_iload_n (pc := 4) C dX9_may_4 rfl ?_
      apply cl_X9_115 (pc := 5) C rfl (t_hasPerson hT (nI k)) dX9_may_5
      · repeat (first | assumption | exact Cl.s (by assumption) | refine Cl.n (by first | decide | omega) ?_)
      · rfl
      · exact Nat.le_of_ble_eq_true rfl
      refine g_if_nE (pc := 8) C 13 dX9_may_8 (by decide) (fun c8 => ?_) (fun c8 => ?_)
      · refine g_aload_n (pc := 13) C dX9_may_13 rfl ?_
        apply gf_X9_19 (pc := 14) C rfl dX9_may_14
        · repeat (first | assumption | exact Cl.s (by assumption) | refine Cl.n (by first | decide | omega) ?_)
        · rfl
        apply gf_X9_141 (pc := 17) C rfl dX9_may_17
        · repeat (first | assumption | exact Cl.s (by assumption) | refine Cl.n (by first | decide | omega) ?_)
        · rfl
        refine g_aload_n (pc := 20) C dX9_may_20 rfl ?_
        apply gf_X9_68 (pc := 21) C rfl dX9_may_21
        · repeat (first | assumption | exact Cl.s (by assumption) | refine Cl.n (by first | decide | omega) ?_)
        · rfl
        refine g_iload_n (pc := 24) C dX9_may_24 rfl ?_
        apply cl_X9_142 (pc := 25) C rfl (t_llets hT h12 hw.1.2.1 hw.1.2.2 hk) dX9_may_25
        · repeat (first | assumption | exact Cl.s (by assumption) | refine Cl.n (by first | decide | omega) ?_)
        · rfl
        · exact Nat.le_of_ble_eq_true rfl
        refine g_if_eq (pc := 28) C 35 dX9_may_28 (by decide) (fun c28 => ?_) (fun c28 => ?_)
        · refine g_iconst (pc := 35) (v := nI 0) C dX9_may_35 (by decide) ?_
          exact g_ireturn (pc := 36) C dX9_may_36 rfl (rfl) (rfl)
        · exact absurd (by rw [hc2]; rfl) c28
      · exact absurd c8 (by rw [e]; decide)
    · refine Mt.of (by decide +kernel) (Nat.le_of_ble_eq_true rfl) (fun κ C => ?_)
      refine g_aload_n (pc := 0) C dX9_may_0 rfl ?_
      apply gf_X9_68 (pc := 1) C rfl dX9_may_1
      · repeat (first | assumption | exact Cl.s (by assumption) | refine Cl.n (by first | decide | omega) ?_)
      · rfl
      refine g_iload_n (pc := 4) C dX9_may_4 rfl ?_
      apply cl_X9_115 (pc := 5) C rfl (t_hasPerson hT (nI k)) dX9_may_5
      · repeat (first | assumption | exact Cl.s (by assumption) | refine Cl.n (by first | decide | omega) ?_)
      · rfl
      · exact Nat.le_of_ble_eq_true rfl
      refine g_if_nE (pc := 8) C 13 dX9_may_8 (by decide) (fun c8 => ?_) (fun c8 => ?_)
      · refine g_aload_n (pc := 13) C dX9_may_13 rfl ?_
        apply gf_X9_19 (pc := 14) C rfl dX9_may_14
        · repeat (first | assumption | exact Cl.s (by assumption) | refine Cl.n (by first | decide | omega) ?_)
        · rfl
        apply gf_X9_141 (pc := 17) C rfl dX9_may_17
        · repeat (first | assumption | exact Cl.s (by assumption) | refine Cl.n (by first | decide | omega) ?_)
        · rfl
        refine g_aload_n (pc := 20) C dX9_may_20 rfl ?_
        apply gf_X9_68 (pc := 21) C rfl dX9_may_21
        · repeat (first | assumption | exact Cl.s (by assumption) | refine Cl.n (by first | decide | omega) ?_)
        · rfl
        refine g_iload_n (pc := 24) C dX9_may_24 rfl ?_
        apply cl_X9_142 (pc := 25) C rfl (t_llets hT h12 hw.1.2.1 hw.1.2.2 hk) dX9_may_25
        · repeat (first | assumption | exact Cl.s (by assumption) | refine Cl.n (by first | decide | omega) ?_)
        · rfl
        · exact Nat.le_of_ble_eq_true rfl
        refine g_if_eq (pc := 28) C 35 dX9_may_28 (by decide) (fun c28 => ?_) (fun c28 => ?_)
        · exact absurd c28 (by rw [hc2]; decide)
        · refine g_iconst (pc := 31) (v := nI 1) C dX9_may_31 (by decide) ?_
          refine g_goto (pc := 32) C 36 dX9_may_32 (by decide) ?_
          exact g_ireturn (pc := 36) C dX9_may_36 rfl (rfl) (rfl)
      · exact absurd c8 (by rw [e]; decide)
def pgF (T : TS) (h : HH) (k : Nat) : Int32 × HH := if lLets T h.1.2.1 h.1.2.2 k then (nI (many (passH T h k).1.1), passH T h k) else (-2, h)
theorem c_passGate (h0 : Cl G σ 0 (cMain G)) (hT : RT G σ T) (hg : RG G σ h) (hw : HW (tm T) h) {k : Nat} (hk : k < tm T) : ∃ σ', Mt G mX9_passGate [.ref (ga G 0), .int (nI k)] σ (some (.int (pgF T h k).1)) σ' ∧ RG G σ' (pgF T h k).2 ∧ Fr σ σ' [2, 12, 13] := by
  have hm := hT.w.2.2.2.2.1
  have hg' := hg
  obtain ⟨bo, hc, h9⟩ := hT.c
  obtain ⟨h2, h12, hx⟩ := hg
  cases hc2 : lLets T h.1.2.1 h.1.2.2 k
  · rw [show pgF T h k = (-2, h) by simp [pgF, hc2]]
    refine ⟨σ, ?_, hg', fr0⟩
    refine Mt.of (by decide +kernel) (Nat.le_of_ble_eq_true rfl) (fun κ C => ?_)
    refine g_aload_n (pc := 0) C dX9_passGate_0 rfl ?_
    apply gf_X9_19 (pc := 1) C rfl dX9_passGate_1
    · repeat (first | assumption | exact Cl.s (by assumption) | refine Cl.n (by first | decide | omega) ?_)
    · rfl
    apply gf_X9_141 (pc := 4) C rfl dX9_passGate_4
    · repeat (first | assumption | exact Cl.s (by assumption) | refine Cl.n (by first | decide | omega) ?_)
    · rfl
    refine g_aload_n (pc := 7) C dX9_passGate_7 rfl ?_
    apply gf_X9_68 (pc := 8) C rfl dX9_passGate_8
    · repeat (first | assumption | exact Cl.s (by assumption) | refine Cl.n (by first | decide | omega) ?_)
    · rfl
    refine g_iload_n (pc := 11) C dX9_passGate_11 rfl ?_
    apply cl_X9_142 (pc := 12) C rfl (t_llets hT h12 hw.1.2.1 hw.1.2.2 hk) dX9_passGate_12
    · repeat (first | assumption | exact Cl.s (by assumption) | refine Cl.n (by first | decide | omega) ?_)
    · rfl
    · exact Nat.le_of_ble_eq_true rfl
    refine g_if_nE (pc := 15) C 21 dX9_passGate_15 (by decide) (fun c15 => ?_) (fun c15 => ?_)
    · exact absurd (by rw [hc2]; rfl) c15
    · refine g_bipush (pc := 18) (v := -2) C dX9_passGate_18 (by decide) ?_
      exact g_ireturn (pc := 20) C dX9_passGate_20 rfl (rfl) (rfl)
  · rw [show pgF T h k = (nI (many (passH T h k).1.1), passH T h k) by simp [pgF, hc2]]
    obtain ⟨σ1, hmt, hg1, hf⟩ := t_pass hT hg' hw hk
    have h01 := h0.fr hf (by decide)
    have h21 := hg1.1
    refine ⟨σ1, ?_, hg1, hf⟩
    refine Mt.of (by decide +kernel) (Nat.le_of_ble_eq_true rfl) (fun κ C => ?_)
    refine g_aload_n (pc := 0) C dX9_passGate_0 rfl ?_
    apply gf_X9_19 (pc := 1) C rfl dX9_passGate_1
    · repeat (first | assumption | exact Cl.s (by assumption) | refine Cl.n (by first | decide | omega) ?_)
    · rfl
    apply gf_X9_141 (pc := 4) C rfl dX9_passGate_4
    · repeat (first | assumption | exact Cl.s (by assumption) | refine Cl.n (by first | decide | omega) ?_)
    · rfl
    refine g_aload_n (pc := 7) C dX9_passGate_7 rfl ?_
    apply gf_X9_68 (pc := 8) C rfl dX9_passGate_8
    · repeat (first | assumption | exact Cl.s (by assumption) | refine Cl.n (by first | decide | omega) ?_)
    · rfl
    refine g_iload_n (pc := 11) C dX9_passGate_11 rfl ?_
    apply cl_X9_142 (pc := 12) C rfl (t_llets hT h12 hw.1.2.1 hw.1.2.2 hk) dX9_passGate_12
    · repeat (first | assumption | exact Cl.s (by assumption) | refine Cl.n (by first | decide | omega) ?_)
    · rfl
    · exact Nat.le_of_ble_eq_true rfl
    refine g_if_nE (pc := 15) C 21 dX9_passGate_15 (by decide) (fun c15 => ?_) (fun c15 => ?_)
    · refine g_aload_n (pc := 21) C dX9_passGate_21 rfl ?_
      apply gf_X9_19 (pc := 22) C rfl dX9_passGate_22
      · repeat (first | assumption | exact Cl.s (by assumption) | refine Cl.n (by first | decide | omega) ?_)
      · rfl
      refine g_aload_n (pc := 25) C dX9_passGate_25 rfl ?_
      apply gf_X9_68 (pc := 26) C rfl dX9_passGate_26
      · repeat (first | assumption | exact Cl.s (by assumption) | refine Cl.n (by first | decide | omega) ?_)
      · rfl
      refine g_iload_n (pc := 29) C dX9_passGate_29 rfl ?_
      apply cl_X9_149 (pc := 30) C rfl hmt dX9_passGate_30
      · repeat (first | assumption | exact Cl.s (by assumption) | refine Cl.n (by first | decide | omega) ?_)
      · rfl
      · exact Nat.le_of_ble_eq_true rfl
      refine g_aload_n (pc := 33) C dX9_passGate_33 rfl ?_
      apply gf_X9_19 (pc := 34) C rfl dX9_passGate_34
      · repeat (first | assumption | exact Cl.s (by assumption) | refine Cl.n (by first | decide | omega) ?_)
      · rfl
      apply cl_X9_153 (pc := 37) C rfl (t_howManyIn h21 (Nat.xor_lt_two_pow (n := 9) hw.1.1 (one_shl_lt (by omega)))) dX9_passGate_37
      · repeat (first | assumption | exact Cl.s (by assumption) | refine Cl.n (by first | decide | omega) ?_)
      · rfl
      · exact Nat.le_of_ble_eq_true rfl
      exact g_ireturn (pc := 40) C dX9_passGate_40 rfl (rfl) (rfl)
    · exact absurd c15 (by rw [hc2]; decide)
theorem c_goIn (h0 : Cl G σ 0 (cMain G)) (hT : RT G σ T) (hg : RG G σ h) (hw : HW (tm T) h) (i : Int32) : ∃ σ', Mt G mX9_goIn [.ref (ga G 0), .int i] σ (some (.int (goF T h i true).1)) σ' ∧ RG G σ' (goF T h i true).2 ∧ Fr σ σ' [2, 12, 13] := by
  have hm := hT.w.2.2.2.2.1
  obtain ⟨bo, hc, h9⟩ := hT.c
  have h2 := hg.1
  rcases inR_c i (m := tm T) (by omega) with e | ⟨e, k, hk, rfl⟩
  · rw [show goF T h i true = (-1, h) by simp [goF, e]]
    refine ⟨σ, ?_, hg, fr0⟩
    refine Mt.of (by decide +kernel) (Nat.le_of_ble_eq_true rfl) (fun κ C => ?_)
    refine g_aload_n (pc := 0) C dX9_goIn_0 rfl ?_
    apply gf_X9_68 (pc := 1) C rfl dX9_goIn_1
    · repeat (first | assumption | exact Cl.s (by assumption) | refine Cl.n (by first | decide | omega) ?_)
    · rfl
    refine g_iload_n (pc := 4) C dX9_goIn_4 rfl ?_
    apply cl_X9_115 (pc := 5) C rfl (t_hasPerson hT i) dX9_goIn_5
    · repeat (first | assumption | exact Cl.s (by assumption) | refine Cl.n (by first | decide | omega) ?_)
    · rfl
    · exact Nat.le_of_ble_eq_true rfl
    refine g_if_nE (pc := 8) C 13 dX9_goIn_8 (by decide) (fun c8 => ?_) (fun c8 => ?_)
    · exact absurd (by rw [e]; rfl) c8
    · refine g_iconst (pc := 11) (v := -1) C dX9_goIn_11 (by decide) ?_
      exact g_ireturn (pc := 12) C dX9_goIn_12 rfl (rfl) (rfl)
  · cases hb : h.1.1.testBit k
    · rw [show goF T h (nI k) true = pgF T h k by cases hl : lLets T h.1.2.1 h.1.2.2 k <;> simp [goF, pgF, e, nI_clamp (show k < 2 ^ 31 by omega), hb, hl]]
      obtain ⟨σ1, hmt, hg1, hf⟩ := c_passGate h0 hT hg hw hk
      refine ⟨σ1, ?_, hg1, hf⟩
      refine Mt.of (by decide +kernel) (Nat.le_of_ble_eq_true rfl) (fun κ C => ?_)
      refine g_aload_n (pc := 0) C dX9_goIn_0 rfl ?_
      apply gf_X9_68 (pc := 1) C rfl dX9_goIn_1
      · repeat (first | assumption | exact Cl.s (by assumption) | refine Cl.n (by first | decide | omega) ?_)
      · rfl
      refine g_iload_n (pc := 4) C dX9_goIn_4 rfl ?_
      apply cl_X9_115 (pc := 5) C rfl (t_hasPerson hT (nI k)) dX9_goIn_5
      · repeat (first | assumption | exact Cl.s (by assumption) | refine Cl.n (by first | decide | omega) ?_)
      · rfl
      · exact Nat.le_of_ble_eq_true rfl
      refine g_if_nE (pc := 8) C 13 dX9_goIn_8 (by decide) (fun c8 => ?_) (fun c8 => ?_)
      · refine g_aload_n (pc := 13) C dX9_goIn_13 rfl ?_
        apply gf_X9_19 (pc := 14) C rfl dX9_goIn_14
        · repeat (first | assumption | exact Cl.s (by assumption) | refine Cl.n (by first | decide | omega) ?_)
        · rfl
        refine g_iload_n (pc := 17) C dX9_goIn_17 rfl ?_
        apply cl_X9_118 (pc := 18) C rfl (t_holds h2 hw.1.1 (by omega)) dX9_goIn_18
        · repeat (first | assumption | exact Cl.s (by assumption) | refine Cl.n (by first | decide | omega) ?_)
        · rfl
        · exact Nat.le_of_ble_eq_true rfl
        refine g_if_eq (pc := 21) C 29 dX9_goIn_21 (by decide) (fun c21 => ?_) (fun c21 => ?_)
        · refine g_aload_n (pc := 29) C dX9_goIn_29 rfl ?_
          refine g_iload_n (pc := 30) C dX9_goIn_30 rfl ?_
          apply cl_X9_146 (pc := 31) C rfl hmt dX9_goIn_31
          · repeat (first | assumption | exact Cl.s (by assumption) | refine Cl.n (by first | decide | omega) ?_)
          · rfl
          · exact Nat.le_of_ble_eq_true rfl
          exact g_ireturn (pc := 34) C dX9_goIn_34 rfl (rfl) (rfl)
        · exact absurd (by rw [hb]; rfl) c21
      · exact absurd c8 (by rw [e]; decide)
    · rw [show goF T h (nI k) true = (-2, h) by simp [goF, e, nI_clamp (show k < 2 ^ 31 by omega), hb]]
      refine ⟨σ, ?_, hg, fr0⟩
      refine Mt.of (by decide +kernel) (Nat.le_of_ble_eq_true rfl) (fun κ C => ?_)
      refine g_aload_n (pc := 0) C dX9_goIn_0 rfl ?_
      apply gf_X9_68 (pc := 1) C rfl dX9_goIn_1
      · repeat (first | assumption | exact Cl.s (by assumption) | refine Cl.n (by first | decide | omega) ?_)
      · rfl
      refine g_iload_n (pc := 4) C dX9_goIn_4 rfl ?_
      apply cl_X9_115 (pc := 5) C rfl (t_hasPerson hT (nI k)) dX9_goIn_5
      · repeat (first | assumption | exact Cl.s (by assumption) | refine Cl.n (by first | decide | omega) ?_)
      · rfl
      · exact Nat.le_of_ble_eq_true rfl
      refine g_if_nE (pc := 8) C 13 dX9_goIn_8 (by decide) (fun c8 => ?_) (fun c8 => ?_)
      · refine g_aload_n (pc := 13) C dX9_goIn_13 rfl ?_
        apply gf_X9_19 (pc := 14) C rfl dX9_goIn_14
        · repeat (first | assumption | exact Cl.s (by assumption) | refine Cl.n (by first | decide | omega) ?_)
        · rfl
        refine g_iload_n (pc := 17) C dX9_goIn_17 rfl ?_
        apply cl_X9_118 (pc := 18) C rfl (t_holds h2 hw.1.1 (by omega)) dX9_goIn_18
        · repeat (first | assumption | exact Cl.s (by assumption) | refine Cl.n (by first | decide | omega) ?_)
        · rfl
        · exact Nat.le_of_ble_eq_true rfl
        refine g_if_eq (pc := 21) C 29 dX9_goIn_21 (by decide) (fun c21 => ?_) (fun c21 => ?_)
        · exact absurd c21 (by rw [hb]; decide)
        · refine g_bipush (pc := 24) (v := -2) C dX9_goIn_24 (by decide) ?_
          refine g_goto (pc := 26) C 34 dX9_goIn_26 (by decide) ?_
          exact g_ireturn (pc := 34) C dX9_goIn_34 rfl (rfl) (rfl)
      · exact absurd c8 (by rw [e]; decide)
theorem c_goOut (h0 : Cl G σ 0 (cMain G)) (hT : RT G σ T) (hg : RG G σ h) (hw : HW (tm T) h) (i : Int32) : ∃ σ', Mt G mX9_goOut [.ref (ga G 0), .int i] σ (some (.int (goF T h i false).1)) σ' ∧ RG G σ' (goF T h i false).2 ∧ Fr σ σ' [2, 12, 13] := by
  have hm := hT.w.2.2.2.2.1
  obtain ⟨bo, hc, h9⟩ := hT.c
  have h2 := hg.1
  rcases inR_c i (m := tm T) (by omega) with e | ⟨e, k, hk, rfl⟩
  · rw [show goF T h i false = (-1, h) by simp [goF, e]]
    refine ⟨σ, ?_, hg, fr0⟩
    refine Mt.of (by decide +kernel) (Nat.le_of_ble_eq_true rfl) (fun κ C => ?_)
    refine g_aload_n (pc := 0) C dX9_goOut_0 rfl ?_
    apply gf_X9_68 (pc := 1) C rfl dX9_goOut_1
    · repeat (first | assumption | exact Cl.s (by assumption) | refine Cl.n (by first | decide | omega) ?_)
    · rfl
    refine g_iload_n (pc := 4) C dX9_goOut_4 rfl ?_
    apply cl_X9_115 (pc := 5) C rfl (t_hasPerson hT i) dX9_goOut_5
    · repeat (first | assumption | exact Cl.s (by assumption) | refine Cl.n (by first | decide | omega) ?_)
    · rfl
    · exact Nat.le_of_ble_eq_true rfl
    refine g_if_nE (pc := 8) C 13 dX9_goOut_8 (by decide) (fun c8 => ?_) (fun c8 => ?_)
    · exact absurd (by rw [e]; rfl) c8
    · refine g_iconst (pc := 11) (v := -1) C dX9_goOut_11 (by decide) ?_
      exact g_ireturn (pc := 12) C dX9_goOut_12 rfl (rfl) (rfl)
  · cases hb : h.1.1.testBit k
    · rw [show goF T h (nI k) false = (-2, h) by simp [goF, e, nI_clamp (show k < 2 ^ 31 by omega), hb]]
      refine ⟨σ, ?_, hg, fr0⟩
      refine Mt.of (by decide +kernel) (Nat.le_of_ble_eq_true rfl) (fun κ C => ?_)
      refine g_aload_n (pc := 0) C dX9_goOut_0 rfl ?_
      apply gf_X9_68 (pc := 1) C rfl dX9_goOut_1
      · repeat (first | assumption | exact Cl.s (by assumption) | refine Cl.n (by first | decide | omega) ?_)
      · rfl
      refine g_iload_n (pc := 4) C dX9_goOut_4 rfl ?_
      apply cl_X9_115 (pc := 5) C rfl (t_hasPerson hT (nI k)) dX9_goOut_5
      · repeat (first | assumption | exact Cl.s (by assumption) | refine Cl.n (by first | decide | omega) ?_)
      · rfl
      · exact Nat.le_of_ble_eq_true rfl
      refine g_if_nE (pc := 8) C 13 dX9_goOut_8 (by decide) (fun c8 => ?_) (fun c8 => ?_)
      · refine g_aload_n (pc := 13) C dX9_goOut_13 rfl ?_
        apply gf_X9_19 (pc := 14) C rfl dX9_goOut_14
        · repeat (first | assumption | exact Cl.s (by assumption) | refine Cl.n (by first | decide | omega) ?_)
        · rfl
        refine g_iload_n (pc := 17) C dX9_goOut_17 rfl ?_
        apply cl_X9_118 (pc := 18) C rfl (t_holds h2 hw.1.1 (by omega)) dX9_goOut_18
        · repeat (first | assumption | exact Cl.s (by assumption) | refine Cl.n (by first | decide | omega) ?_)
        · rfl
        · exact Nat.le_of_ble_eq_true rfl
        refine g_if_eq (pc := 21) C 32 dX9_goOut_21 (by decide) (fun c21 => ?_) (fun c21 => ?_)
        · refine g_bipush (pc := 32) (v := -2) C dX9_goOut_32 (by decide) ?_
          exact g_ireturn (pc := 34) C dX9_goOut_34 rfl (rfl) (rfl)
        · exact absurd (by rw [hb]; rfl) c21
      · exact absurd c8 (by rw [e]; decide)
    · rw [show goF T h (nI k) false = pgF T h k by cases hl : lLets T h.1.2.1 h.1.2.2 k <;> simp [goF, pgF, e, nI_clamp (show k < 2 ^ 31 by omega), hb, hl]]
      obtain ⟨σ1, hmt, hg1, hf⟩ := c_passGate h0 hT hg hw hk
      refine ⟨σ1, ?_, hg1, hf⟩
      refine Mt.of (by decide +kernel) (Nat.le_of_ble_eq_true rfl) (fun κ C => ?_)
      refine g_aload_n (pc := 0) C dX9_goOut_0 rfl ?_
      apply gf_X9_68 (pc := 1) C rfl dX9_goOut_1
      · repeat (first | assumption | exact Cl.s (by assumption) | refine Cl.n (by first | decide | omega) ?_)
      · rfl
      refine g_iload_n (pc := 4) C dX9_goOut_4 rfl ?_
      apply cl_X9_115 (pc := 5) C rfl (t_hasPerson hT (nI k)) dX9_goOut_5
      · repeat (first | assumption | exact Cl.s (by assumption) | refine Cl.n (by first | decide | omega) ?_)
      · rfl
      · exact Nat.le_of_ble_eq_true rfl
      refine g_if_nE (pc := 8) C 13 dX9_goOut_8 (by decide) (fun c8 => ?_) (fun c8 => ?_)
      · refine g_aload_n (pc := 13) C dX9_goOut_13 rfl ?_
        apply gf_X9_19 (pc := 14) C rfl dX9_goOut_14
        · repeat (first | assumption | exact Cl.s (by assumption) | refine Cl.n (by first | decide | omega) ?_)
        · rfl
        refine g_iload_n (pc := 17) C dX9_goOut_17 rfl ?_
        apply cl_X9_118 (pc := 18) C rfl (t_holds h2 hw.1.1 (by omega)) dX9_goOut_18
        · repeat (first | assumption | exact Cl.s (by assumption) | refine Cl.n (by first | decide | omega) ?_)
        · rfl
        · exact Nat.le_of_ble_eq_true rfl
        refine g_if_eq (pc := 21) C 32 dX9_goOut_21 (by decide) (fun c21 => ?_) (fun c21 => ?_)
        · exact absurd c21 (by rw [hb]; decide)
        · refine g_aload_n (pc := 24) C dX9_goOut_24 rfl ?_
          refine g_iload_n (pc := 25) C dX9_goOut_25 rfl ?_
          apply cl_X9_146 (pc := 26) C rfl hmt dX9_goOut_26
          · repeat (first | assumption | exact Cl.s (by assumption) | refine Cl.n (by first | decide | omega) ?_)
          · rfl
          · exact Nat.le_of_ble_eq_true rfl
          refine g_goto (pc := 29) C 34 dX9_goOut_29 (by decide) ?_
          exact g_ireturn (pc := 34) C dX9_goOut_34 rfl (rfl) (rfl)
      · exact absurd c8 (by rw [e]; decide)
theorem c_undo {m : Nat} (hm : m ≤ 9) (h0 : Cl G σ 0 (cMain G)) (hg : RG G σ h) (hw : HW m h) : ∃ σ', Mt G mX9_undo [.ref (ga G 0)] σ (some (.int (undoF h).1)) σ' ∧ RG G σ' (undoF h).2 ∧ Fr σ σ' [2, 12] := by
  have h2 := hg.1
  by_cases hu : h.2.1 = 0
  · rw [show undoF h = (-2, h) by simp [undoF, hu]]
    refine ⟨σ, ?_, hg, fr0⟩
    refine Mt.of (by decide +kernel) (Nat.le_of_ble_eq_true rfl) (fun κ C => ?_)
    refine g_aload_n (pc := 0) C dX9_undo_0 rfl ?_
    apply gf_X9_19 (pc := 1) C rfl dX9_undo_1
    · repeat (first | assumption | exact Cl.s (by assumption) | refine Cl.n (by first | decide | omega) ?_)
    · rfl
    apply cl_X9_156 (pc := 4) C rfl (t_takeBack0 hg hu) dX9_undo_4
    · repeat (first | assumption | exact Cl.s (by assumption) | refine Cl.n (by first | decide | omega) ?_)
    · rfl
    · exact Nat.le_of_ble_eq_true rfl
    refine g_if_eq (pc := 7) C 20 dX9_undo_7 (by decide) (fun c7 => ?_) (fun c7 => ?_)
    · refine g_bipush (pc := 20) (v := -2) C dX9_undo_20 (by decide) ?_
      exact g_ireturn (pc := 22) C dX9_undo_22 rfl (rfl) (rfl)
    · exact absurd rfl c7
  · rw [show undoF h = (nI (h.2.1 - 1), undoH h) by simp [undoF, hu]]
    obtain ⟨σ1, hmt, hg1, hf⟩ := t_takeBack hm hg hw (by omega)
    have h01 := h0.fr hf (by decide)
    have h21 := hg1.1
    refine ⟨σ1, ?_, hg1, hf⟩
    refine Mt.of (by decide +kernel) (Nat.le_of_ble_eq_true rfl) (fun κ C => ?_)
    refine g_aload_n (pc := 0) C dX9_undo_0 rfl ?_
    apply gf_X9_19 (pc := 1) C rfl dX9_undo_1
    · repeat (first | assumption | exact Cl.s (by assumption) | refine Cl.n (by first | decide | omega) ?_)
    · rfl
    apply cl_X9_156 (pc := 4) C rfl hmt dX9_undo_4
    · repeat (first | assumption | exact Cl.s (by assumption) | refine Cl.n (by first | decide | omega) ?_)
    · rfl
    · exact Nat.le_of_ble_eq_true rfl
    refine g_if_eq (pc := 7) C 20 dX9_undo_7 (by decide) (fun c7 => ?_) (fun c7 => ?_)
    · exact absurd c7 (by decide)
    · refine g_aload_n (pc := 10) C dX9_undo_10 rfl ?_
      apply gf_X9_19 (pc := 11) C rfl dX9_undo_11
      · repeat (first | assumption | exact Cl.s (by assumption) | refine Cl.n (by first | decide | omega) ?_)
      · rfl
      apply gf_X9_160 (pc := 14) C rfl dX9_undo_14
      · repeat (first | assumption | exact Cl.s (by assumption) | refine Cl.n (by first | decide | omega) ?_)
      · rfl
      refine g_goto (pc := 17) C 22 dX9_undo_17 (by decide) ?_
      exact g_ireturn (pc := 22) C dX9_undo_22 rfl (rfl) (rfl)
theorem c_keep {m : Nat} (h0 : Cl G σ 0 (cMain G)) (hg : RG G σ h) (hw : HW m h) : ∃ σ', Mt G mX9_keep [.ref (ga G 0)] σ (some (.int (keepF h).1)) σ' ∧ RG G σ' (keepF h).2 ∧ Fr σ σ' [2, 14] := by
  have h2 := hg.1
  by_cases hu : h.2.2.2.1 = 2
  · rw [show keepF h = (-3, h) by simp [keepF, hu]]
    refine ⟨σ, ?_, hg, fr0⟩
    refine Mt.of (by decide +kernel) (Nat.le_of_ble_eq_true rfl) (fun κ C => ?_)
    refine g_aload_n (pc := 0) C dX9_keep_0 rfl ?_
    apply gf_X9_19 (pc := 1) C rfl dX9_keep_1
    · repeat (first | assumption | exact Cl.s (by assumption) | refine Cl.n (by first | decide | omega) ?_)
    · rfl
    apply cl_X9_242 (pc := 4) C rfl (t_store2 hg hu) dX9_keep_4
    · repeat (first | assumption | exact Cl.s (by assumption) | refine Cl.n (by first | decide | omega) ?_)
    · rfl
    · exact Nat.le_of_ble_eq_true rfl
    refine g_if_eq (pc := 7) C 20 dX9_keep_7 (by decide) (fun c7 => ?_) (fun c7 => ?_)
    · refine g_bipush (pc := 20) (v := -3) C dX9_keep_20 (by decide) ?_
      exact g_ireturn (pc := 22) C dX9_keep_22 rfl (rfl) (rfl)
    · exact absurd rfl c7
  · rw [show keepF h = (nI (h.2.2.2.1 + 1), keepH h) by simp [keepF, hu]]
    obtain ⟨σ1, hmt, hg1, hf⟩ := t_store hg hw (by have := hw.2.2.2.1; omega)
    have h01 := h0.fr hf (by decide)
    have h21 := hg1.1
    refine ⟨σ1, ?_, hg1, hf⟩
    refine Mt.of (by decide +kernel) (Nat.le_of_ble_eq_true rfl) (fun κ C => ?_)
    refine g_aload_n (pc := 0) C dX9_keep_0 rfl ?_
    apply gf_X9_19 (pc := 1) C rfl dX9_keep_1
    · repeat (first | assumption | exact Cl.s (by assumption) | refine Cl.n (by first | decide | omega) ?_)
    · rfl
    apply cl_X9_242 (pc := 4) C rfl hmt dX9_keep_4
    · repeat (first | assumption | exact Cl.s (by assumption) | refine Cl.n (by first | decide | omega) ?_)
    · rfl
    · exact Nat.le_of_ble_eq_true rfl
    refine g_if_eq (pc := 7) C 20 dX9_keep_7 (by decide) (fun c7 => ?_) (fun c7 => ?_)
    · exact absurd c7 (by decide)
    · refine g_aload_n (pc := 10) C dX9_keep_10 rfl ?_
      apply gf_X9_19 (pc := 11) C rfl dX9_keep_11
      · repeat (first | assumption | exact Cl.s (by assumption) | refine Cl.n (by first | decide | omega) ?_)
      · rfl
      apply gf_X9_245 (pc := 14) C rfl dX9_keep_14
      · repeat (first | assumption | exact Cl.s (by assumption) | refine Cl.n (by first | decide | omega) ?_)
      · rfl
      refine g_goto (pc := 17) C 22 dX9_keep_17 (by decide) ?_
      exact g_ireturn (pc := 22) C dX9_keep_22 rfl (rfl) (rfl)
theorem c_back {m : Nat} (hm : m ≤ 9) (h0 : Cl G σ 0 (cMain G)) (hg : RG G σ h) (hw : HW m h) : ∃ σ', Mt G mX9_back [.ref (ga G 0)] σ (some (.int (backF h).1)) σ' ∧ RG G σ' (backF h).2 ∧ Fr σ σ' [2, 12] := by
  have h2 := hg.1
  by_cases hu : h.2.2.2.1 = 0
  · rw [show backF h = (-2, h) by simp [backF, hu]]
    refine ⟨σ, ?_, hg, fr0⟩
    refine Mt.of (by decide +kernel) (Nat.le_of_ble_eq_true rfl) (fun κ C => ?_)
    refine g_aload_n (pc := 0) C dX9_back_0 rfl ?_
    apply gf_X9_19 (pc := 1) C rfl dX9_back_1
    · repeat (first | assumption | exact Cl.s (by assumption) | refine Cl.n (by first | decide | omega) ?_)
    · rfl
    apply cl_X9_248 (pc := 4) C rfl (t_fetch0 hg hu) dX9_back_4
    · repeat (first | assumption | exact Cl.s (by assumption) | refine Cl.n (by first | decide | omega) ?_)
    · rfl
    · exact Nat.le_of_ble_eq_true rfl
    refine g_if_eq (pc := 7) C 20 dX9_back_7 (by decide) (fun c7 => ?_) (fun c7 => ?_)
    · refine g_bipush (pc := 20) (v := -2) C dX9_back_20 (by decide) ?_
      exact g_ireturn (pc := 22) C dX9_back_22 rfl (rfl) (rfl)
    · exact absurd rfl c7
  · rw [show backF h = (nI (h.2.2.2.1 - 1), backH h) by simp [backF, hu]]
    obtain ⟨σ1, hmt, hg1, hf⟩ := t_fetch hm hg hw (by omega)
    have h01 := h0.fr hf (by decide)
    have h21 := hg1.1
    refine ⟨σ1, ?_, hg1, hf⟩
    refine Mt.of (by decide +kernel) (Nat.le_of_ble_eq_true rfl) (fun κ C => ?_)
    refine g_aload_n (pc := 0) C dX9_back_0 rfl ?_
    apply gf_X9_19 (pc := 1) C rfl dX9_back_1
    · repeat (first | assumption | exact Cl.s (by assumption) | refine Cl.n (by first | decide | omega) ?_)
    · rfl
    apply cl_X9_248 (pc := 4) C rfl hmt dX9_back_4
    · repeat (first | assumption | exact Cl.s (by assumption) | refine Cl.n (by first | decide | omega) ?_)
    · rfl
    · exact Nat.le_of_ble_eq_true rfl
    refine g_if_eq (pc := 7) C 20 dX9_back_7 (by decide) (fun c7 => ?_) (fun c7 => ?_)
    · exact absurd c7 (by decide)
    · refine g_aload_n (pc := 10) C dX9_back_10 rfl ?_
      apply gf_X9_19 (pc := 11) C rfl dX9_back_11
      · repeat (first | assumption | exact Cl.s (by assumption) | refine Cl.n (by first | decide | omega) ?_)
      · rfl
      apply gf_X9_245 (pc := 14) C rfl dX9_back_14
      · repeat (first | assumption | exact Cl.s (by assumption) | refine Cl.n (by first | decide | omega) ?_)
      · rfl
      refine g_goto (pc := 17) C 22 dX9_back_17 (by decide) ?_
      exact g_ireturn (pc := 22) C dX9_back_22 rfl (rfl) (rfl)
theorem c_last {m : Nat} (hm : m ≤ 9) (h0 : Cl G σ 0 (cMain G)) (hg : RG G σ h) (hw : HW m h) : Mt G mX9_last [.ref (ga G 0)] σ (some (.int (lastF h))) σ := by
  have hL := hw.1.2.1
  obtain ⟨h2, h12, -⟩ := hg
  refine Mt.of (by decide +kernel) (Nat.le_of_ble_eq_true rfl) (fun κ C => ?_)
  rcases hc : h.1.2.1 with _ | k
  · rw [hc] at h12
    refine g_aload_n (pc := 0) C dX9_last_0 rfl ?_
    apply gf_X9_19 (pc := 1) C rfl dX9_last_1
    · repeat (first | assumption | exact Cl.s (by assumption) | refine Cl.n (by first | decide | omega) ?_)
    · rfl
    apply gf_X9_141 (pc := 4) C rfl dX9_last_4
    · repeat (first | assumption | exact Cl.s (by assumption) | refine Cl.n (by first | decide | omega) ?_)
    · rfl
    apply gf_X9_163 (pc := 7) C rfl dX9_last_7
    · repeat (first | assumption | exact Cl.s (by assumption) | refine Cl.n (by first | decide | omega) ?_)
    · rfl
    refine g_iconst (pc := 10) (v := -1) C dX9_last_10 (by decide) ?_
    refine g_icmp_nE (pc := 11) C 19 dX9_last_11 (by decide) (fun c11 => ?_) (fun c11 => ?_)
    · exact absurd lat_0 c11
    · refine g_bipush (pc := 14) (v := -4) C dX9_last_14 (by decide) ?_
      refine g_goto (pc := 16) C 29 dX9_last_16 (by decide) ?_
      exact g_ireturn (pc := 29) C dX9_last_29 rfl (by simp [lastF, hc]) (rfl)
  · rw [hc] at h12
    refine g_aload_n (pc := 0) C dX9_last_0 rfl ?_
    apply gf_X9_19 (pc := 1) C rfl dX9_last_1
    · repeat (first | assumption | exact Cl.s (by assumption) | refine Cl.n (by first | decide | omega) ?_)
    · rfl
    apply gf_X9_141 (pc := 4) C rfl dX9_last_4
    · repeat (first | assumption | exact Cl.s (by assumption) | refine Cl.n (by first | decide | omega) ?_)
    · rfl
    apply gf_X9_163 (pc := 7) C rfl dX9_last_7
    · repeat (first | assumption | exact Cl.s (by assumption) | refine Cl.n (by first | decide | omega) ?_)
    · rfl
    refine g_iconst (pc := 10) (v := -1) C dX9_last_10 (by decide) ?_
    refine g_icmp_nE (pc := 11) C 19 dX9_last_11 (by decide) (fun c11 => ?_) (fun c11 => ?_)
    · refine g_aload_n (pc := 19) C dX9_last_19 rfl ?_
      apply gf_X9_19 (pc := 20) C rfl dX9_last_20
      · repeat (first | assumption | exact Cl.s (by assumption) | refine Cl.n (by first | decide | omega) ?_)
      · rfl
      apply gf_X9_141 (pc := 23) C rfl dX9_last_23
      · repeat (first | assumption | exact Cl.s (by assumption) | refine Cl.n (by first | decide | omega) ?_)
      · rfl
      apply gf_X9_163 (pc := 26) C rfl dX9_last_26
      · repeat (first | assumption | exact Cl.s (by assumption) | refine Cl.n (by first | decide | omega) ?_)
      · rfl
      exact g_ireturn (pc := 29) C dX9_last_29 rfl (by rw [lat_s]; simp [lastF, hc]) (rfl)
    · exact absurd c11 (lat_ne (by omega))
end PUB

