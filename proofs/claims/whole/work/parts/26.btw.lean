def RWk (G : GG) (σ : WW) : Prop := ∃ (a b : Nat) (f g : Nat → Int64), AB a b ∧ Cl G σ 5 (cWalk G a b) ∧ Cl G σ a (lA G 54 f) ∧ Cl G σ b (lA G 54 g)
abbrev wk3 : List Nat := [5, 16, 17]
theorem AB.fr {σ0 σ : WW} {a b i : Nat} {e : va_E} (h : AB a b) (hi : i = 5 ∨ i = a ∨ i = b) (hf : Fr σ0 σ wk3) : Fr σ0 (va_up σ i e) wk3 := fr3 hf (by
  unfold AB at h
  have : i = 5 ∨ i = 16 ∨ i = 17 := by omega
  rcases this with rfl | rfl | rfl <;> decide)
def betweenF (T : TS) (i j n : Int32) : Int64 := if inR i (tm T) && (inR j (tm T) && inR n 13) then lN (btw T i.toNatClampNeg j.toNatClampNeg n.toNatClampNeg) else -1
/-- the least n of which there is one -/
def nrs (T : TS) (i j : Nat) : Nat → Nat → Int32
  | 0, _ => -4
  | d + 1, n => if btw T i j n = 0 then nrs T i j d (n + 1) else nI n
def nearestF (T : TS) (i j : Int32) : Int32 := if inR i (tm T) && inR j (tm T) then nrs T i.toNatClampNeg j.toNatClampNeg 13 0 else -1
section BTW
variable {G : GG} {σ : WW} {T : TS}
theorem c_between (h0 : Cl G σ 0 (cMain G)) (hT : RT G σ T) (hw : RWk G σ) (i j n : Int32) : ∃ σ', Mt G mX9_between [.ref (ga G 0), .int i, .int j, .int n] σ (some (.long (betweenF T i j n))) σ' ∧ RWk G σ' ∧ Fr σ σ' wk3 := by
  have hW := hT.w
  have hm := hW.2.2.2.2.1
  obtain ⟨bo, hc0, h9⟩ := hT.c
  have hw' := hw
  rcases inR_c i (m := tm T) (by omega) with e | ⟨e, i, hi, rfl⟩
  · rw [show betweenF T i j n = -1 by simp [betweenF, e]]
    refine ⟨σ, ?_, hw', fr0⟩
    refine Mt.of (by decide +kernel) (Nat.le_of_ble_eq_true rfl) (fun κ C => ?_)
    refine g_aload_n (pc := 0) C dX9_between_0 rfl ?_
    apply gf_X9_68 (pc := 1) C rfl dX9_between_1
    · repeat (first | assumption | exact Cl.s (by assumption) | refine Cl.n (by first | decide | omega) ?_)
    · rfl
    refine g_iload_n (pc := 4) C dX9_between_4 rfl ?_
    apply cl_X9_115 (pc := 5) C rfl (t_hasPerson hT i) dX9_between_5
    · repeat (first | assumption | exact Cl.s (by assumption) | refine Cl.n (by first | decide | omega) ?_)
    · rfl
    · exact Nat.le_of_ble_eq_true rfl
    refine g_if_eq (pc := 8) C 32 dX9_between_8 (by decide) (fun c8 => ?_) (fun c8 => ?_)
    · refine g_ldc2 (pc := 32) C dX9_between_32 k_X9_203 ?_
      exact g_lreturn (pc := 35) C dX9_between_35 rfl (rfl) (rfl)
    · exact absurd (by rw [e]; rfl) c8
  · rcases inR_c j (m := tm T) (by omega) with e2 | ⟨e2, j, hj, rfl⟩
    · rw [show betweenF T (nI i) j n = -1 by simp [betweenF, e2]]
      refine ⟨σ, ?_, hw', fr0⟩
      refine Mt.of (by decide +kernel) (Nat.le_of_ble_eq_true rfl) (fun κ C => ?_)
      refine g_aload_n (pc := 0) C dX9_between_0 rfl ?_
      apply gf_X9_68 (pc := 1) C rfl dX9_between_1
      · repeat (first | assumption | exact Cl.s (by assumption) | refine Cl.n (by first | decide | omega) ?_)
      · rfl
      refine g_iload_n (pc := 4) C dX9_between_4 rfl ?_
      apply cl_X9_115 (pc := 5) C rfl (t_hasPerson hT (nI i)) dX9_between_5
      · repeat (first | assumption | exact Cl.s (by assumption) | refine Cl.n (by first | decide | omega) ?_)
      · rfl
      · exact Nat.le_of_ble_eq_true rfl
      refine g_if_eq (pc := 8) C 32 dX9_between_8 (by decide) (fun c8 => ?_) (fun c8 => ?_)
      · exact absurd c8 (by rw [e]; decide)
      · refine g_aload_n (pc := 11) C dX9_between_11 rfl ?_
        apply gf_X9_68 (pc := 12) C rfl dX9_between_12
        · repeat (first | assumption | exact Cl.s (by assumption) | refine Cl.n (by first | decide | omega) ?_)
        · rfl
        refine g_iload_n (pc := 15) C dX9_between_15 rfl ?_
        apply cl_X9_115 (pc := 16) C rfl (t_hasPerson hT j) dX9_between_16
        · repeat (first | assumption | exact Cl.s (by assumption) | refine Cl.n (by first | decide | omega) ?_)
        · rfl
        · exact Nat.le_of_ble_eq_true rfl
        refine g_if_eq (pc := 19) C 32 dX9_between_19 (by decide) (fun c19 => ?_) (fun c19 => ?_)
        · refine g_ldc2 (pc := 32) C dX9_between_32 k_X9_203 ?_
          exact g_lreturn (pc := 35) C dX9_between_35 rfl (rfl) (rfl)
        · exact absurd (by rw [e2]; rfl) c19
    · rcases inR_c n (m := 13) (by decide) with e3 | ⟨e3, n, hn, rfl⟩
      · rw [show betweenF T (nI i) (nI j) n = -1 by simp [betweenF, e3]]
        refine ⟨σ, ?_, hw', fr0⟩
        refine Mt.of (by decide +kernel) (Nat.le_of_ble_eq_true rfl) (fun κ C => ?_)
        refine g_aload_n (pc := 0) C dX9_between_0 rfl ?_
        apply gf_X9_68 (pc := 1) C rfl dX9_between_1
        · repeat (first | assumption | exact Cl.s (by assumption) | refine Cl.n (by first | decide | omega) ?_)
        · rfl
        refine g_iload_n (pc := 4) C dX9_between_4 rfl ?_
        apply cl_X9_115 (pc := 5) C rfl (t_hasPerson hT (nI i)) dX9_between_5
        · repeat (first | assumption | exact Cl.s (by assumption) | refine Cl.n (by first | decide | omega) ?_)
        · rfl
        · exact Nat.le_of_ble_eq_true rfl
        refine g_if_eq (pc := 8) C 32 dX9_between_8 (by decide) (fun c8 => ?_) (fun c8 => ?_)
        · exact absurd c8 (by rw [e]; decide)
        · refine g_aload_n (pc := 11) C dX9_between_11 rfl ?_
          apply gf_X9_68 (pc := 12) C rfl dX9_between_12
          · repeat (first | assumption | exact Cl.s (by assumption) | refine Cl.n (by first | decide | omega) ?_)
          · rfl
          refine g_iload_n (pc := 15) C dX9_between_15 rfl ?_
          apply cl_X9_115 (pc := 16) C rfl (t_hasPerson hT (nI j)) dX9_between_16
          · repeat (first | assumption | exact Cl.s (by assumption) | refine Cl.n (by first | decide | omega) ?_)
          · rfl
          · exact Nat.le_of_ble_eq_true rfl
          refine g_if_eq (pc := 19) C 32 dX9_between_19 (by decide) (fun c19 => ?_) (fun c19 => ?_)
          · exact absurd c19 (by rw [e2]; decide)
          · refine g_iload_n (pc := 22) C dX9_between_22 rfl ?_
            refine g_if_lt (pc := 23) C 32 dX9_between_23 (by decide) (fun c23 => ?_) (fun c23 => ?_)
            · refine g_ldc2 (pc := 32) C dX9_between_32 k_X9_203 ?_
              exact g_lreturn (pc := 35) C dX9_between_35 rfl (rfl) (rfl)
            · refine g_iload_n (pc := 26) C dX9_between_26 rfl ?_
              refine g_bipush (pc := 27) (v := nI 12) C dX9_between_27 (by decide) ?_
              refine g_icmp_le (pc := 29) C 36 dX9_between_29 (by decide) (fun c29 => ?_) (fun c29 => ?_)
              · exact absurd e3 (by
                  rw [inR_t c23 (fun q => absurd (Int32.le_trans q c29) (by decide))]
                  decide)
              · refine g_ldc2 (pc := 32) C dX9_between_32 k_X9_203 ?_
                exact g_lreturn (pc := 35) C dX9_between_35 rfl (rfl) (rfl)
      · rw [show betweenF T (nI i) (nI j) (nI n) = lN (btw T i j n) by simp [betweenF, e, e2, e3, nI_clamp (show i < 2 ^ 31 by omega), nI_clamp (show j < 2 ^ 31 by omega), nI_clamp (show n < 2 ^ 31 by omega)]]
        obtain ⟨a, b, f, g, hab, h5, ha, hb⟩ := hw
        have loop : ∀ d k {σ1 : WW} {a b : Nat} {f g : Nat → Int64}, k + d = n + 1 → AB a b → Cl G σ1 5 (cWalk G a b) → Cl G σ1 a (lA G 54 f) → Cl G σ1 b (lA G 54 g) → A2 (tm T) f (wk T i k) → Fr σ σ1 wk3 → ∃ σ', (∀ κ, Cx G mX9_between κ → Go G mX9_between κ (some (.long (lN (btw T i j n)))) σ' σ1 47 [(0, .ref (ga G 0)), (2, .int (nI j)), (3, .int (nI n)), (4, .int (nI k))] []) ∧ RWk G σ' ∧ Fr σ σ' wk3 := by
          intro d
          induction d with
          | zero =>
            intro k σ1 a b f g hk hab h5 ha hb hf hF
            have h01 := h0.fr hF (by decide)
            refine ⟨σ1, fun κ C => ?_, ⟨a, b, f, g, hab, h5, ha, hb⟩, hF⟩
            have hk' : k = n + 1 := by omega
            subst hk'
            refine g_iload (pc := 47) C dX9_between_47 rfl ?_
            refine g_iload_n (pc := 49) C dX9_between_49 rfl ?_
            refine g_icmp_gt (pc := 50) C 70 dX9_between_50 (by decide) (fun c50 => ?_) (fun c50 => ?_)
            · refine g_aload_n (pc := 70) C dX9_between_70 rfl ?_
              apply gf_X9_40 (pc := 71) C rfl dX9_between_71
              · repeat (first | assumption | exact Cl.s (by assumption) | refine Cl.n (by first | decide | omega) ?_)
              · rfl
              refine g_iload_n (pc := 74) C dX9_between_74 rfl ?_
              apply cl_X9_213 (pc := 75) C rfl (t_waysTo h5 ha hf hj hm) dX9_between_75
              · repeat (first | assumption | exact Cl.s (by assumption) | refine Cl.n (by first | decide | omega) ?_)
              · rfl
              · exact Nat.le_of_ble_eq_true rfl
              exact g_lreturn (pc := 78) C dX9_between_78 rfl (rfl) (rfl)
            · exact absurd (nI_lt (by omega) (by omega)) c50
          | succ d ih =>
            intro k σ1 a b f g hk hab h5 ha hb hf hF
            have h01 := h0.fr hF (by decide)
            have hT1 := hT.fr hF (by decide) (by decide) (by decide) (by decide)
            obtain ⟨g', m1, m2⟩ := t_goOn hT1 hab h5 ha hb hf (fun p q hq => Nat.lt_trans (wk_lt hW (by omega) hq) (by decide))
            have hab' : AB b a := by unfold AB at hab ⊢; omega
            have a5 : a ≠ 5 := by unfold AB at hab; omega
            have b5 : b ≠ 5 := by unfold AB at hab; omega
            have ba : a ≠ b := by unfold AB at hab; omega
            obtain ⟨σ2, j1, j2, j3⟩ := ih (k + 1) (σ1 := va_up (va_up (va_up σ1 b (lA G 54 g')) 5 (cWalk G b b)) 5 (cWalk G b a)) (a := b) (b := a) (f := g') (g := f) (by omega) hab' (Cl.s (Cl.s (Cl.n (Ne.symm b5) h5))) (Cl.n b5 (Cl.n b5 (Cl.s hb))) (Cl.n a5 (Cl.n a5 (Cl.n ba ha))) m2 (hab.fr (Or.inl rfl) (hab.fr (Or.inl rfl) (hab.fr (Or.inr (Or.inr rfl)) hF)))
            refine ⟨σ2, fun κ C => ?_, j2, j3⟩
            obtain ⟨bo, hc0, h9⟩ := hT1.c
            refine g_iload (pc := 47) C dX9_between_47 rfl ?_
            refine g_iload_n (pc := 49) C dX9_between_49 rfl ?_
            refine g_icmp_gt (pc := 50) C 70 dX9_between_50 (by decide) (fun c50 => ?_) (fun c50 => ?_)
            · exact absurd c50 (nI_nlt (by omega) (by omega))
            · refine g_aload_n (pc := 53) C dX9_between_53 rfl ?_
              apply gf_X9_40 (pc := 54) C rfl dX9_between_54
              · repeat (first | assumption | exact Cl.s (by assumption) | refine Cl.n (by first | decide | omega) ?_)
              · rfl
              refine g_aload_n (pc := 57) C dX9_between_57 rfl ?_
              apply gf_X9_68 (pc := 58) C rfl dX9_between_58
              · repeat (first | assumption | exact Cl.s (by assumption) | refine Cl.n (by first | decide | omega) ?_)
              · rfl
              apply cl_X9_209 (pc := 61) C rfl m1 dX9_between_61
              · repeat (first | assumption | exact Cl.s (by assumption) | refine Cl.n (by first | decide | omega) ?_)
              · rfl
              · exact Nat.le_of_ble_eq_true rfl
              refine g_iinc (pc := 64) C dX9_between_64 rfl (by decide) rfl ?_
              refine g_goto (pc := 67) C 47 dX9_between_67 (by decide) ?_
              exact g_to (j1 κ C) ⟨rfl, rfl, rfl, lgi (nI_1 k), trivial⟩
        obtain ⟨f', s1, s2⟩ := t_startAt (T := T) (g := g) hab h5 ha (i := i) (by omega)
        have a5 : a ≠ 5 := by unfold AB at hab; omega
        have ba : b ≠ a := by unfold AB at hab; omega
        obtain ⟨σ2, j1, j2, j3⟩ := loop (n + 1) 0 (σ1 := va_up σ a (lA G 54 f')) (by omega) hab (Cl.n (Ne.symm a5) h5) (Cl.s ha) (Cl.n ba hb) (fun p hp q hq => s2 p (by omega) q hq) (hab.fr (Or.inr (Or.inl rfl)) fr0)
        refine ⟨σ2, ?_, j2, j3⟩
        refine Mt.of (by decide +kernel) (Nat.le_of_ble_eq_true rfl) (fun κ C => ?_)
        refine g_aload_n (pc := 0) C dX9_between_0 rfl ?_
        apply gf_X9_68 (pc := 1) C rfl dX9_between_1
        · repeat (first | assumption | exact Cl.s (by assumption) | refine Cl.n (by first | decide | omega) ?_)
        · rfl
        refine g_iload_n (pc := 4) C dX9_between_4 rfl ?_
        apply cl_X9_115 (pc := 5) C rfl (t_hasPerson hT (nI i)) dX9_between_5
        · repeat (first | assumption | exact Cl.s (by assumption) | refine Cl.n (by first | decide | omega) ?_)
        · rfl
        · exact Nat.le_of_ble_eq_true rfl
        refine g_if_eq (pc := 8) C 32 dX9_between_8 (by decide) (fun c8 => ?_) (fun c8 => ?_)
        · exact absurd c8 (by rw [e]; decide)
        · refine g_aload_n (pc := 11) C dX9_between_11 rfl ?_
          apply gf_X9_68 (pc := 12) C rfl dX9_between_12
          · repeat (first | assumption | exact Cl.s (by assumption) | refine Cl.n (by first | decide | omega) ?_)
          · rfl
          refine g_iload_n (pc := 15) C dX9_between_15 rfl ?_
          apply cl_X9_115 (pc := 16) C rfl (t_hasPerson hT (nI j)) dX9_between_16
          · repeat (first | assumption | exact Cl.s (by assumption) | refine Cl.n (by first | decide | omega) ?_)
          · rfl
          · exact Nat.le_of_ble_eq_true rfl
          refine g_if_eq (pc := 19) C 32 dX9_between_19 (by decide) (fun c19 => ?_) (fun c19 => ?_)
          · exact absurd c19 (by rw [e2]; decide)
          · refine g_iload_n (pc := 22) C dX9_between_22 rfl ?_
            refine g_if_lt (pc := 23) C 32 dX9_between_23 (by decide) (fun c23 => ?_) (fun c23 => ?_)
            · exact absurd c23 (nI_pos (by omega))
            · refine g_iload_n (pc := 26) C dX9_between_26 rfl ?_
              refine g_bipush (pc := 27) (v := nI 12) C dX9_between_27 (by decide) ?_
              refine g_icmp_le (pc := 29) C 36 dX9_between_29 (by decide) (fun c29 => ?_) (fun c29 => ?_)
              · refine g_aload_n (pc := 36) C dX9_between_36 rfl ?_
                apply gf_X9_40 (pc := 37) C rfl dX9_between_37
                · repeat (first | assumption | exact Cl.s (by assumption) | refine Cl.n (by first | decide | omega) ?_)
                · rfl
                refine g_iload_n (pc := 40) C dX9_between_40 rfl ?_
                apply cl_X9_205 (pc := 41) C rfl s1 dX9_between_41
                · repeat (first | assumption | exact Cl.s (by assumption) | refine Cl.n (by first | decide | omega) ?_)
                · rfl
                · exact Nat.le_of_ble_eq_true rfl
                refine g_iconst (pc := 44) (v := nI 0) C dX9_between_44 (by decide) ?_
                refine g_istore (pc := 45) C dX9_between_45 (by decide) rfl ?_
                exact g_to (j1 κ C) ⟨rfl, rfl, rfl, rfl, trivial⟩
              · exact absurd (nI_le (by omega) (by decide)) c29
theorem c_nearest (h0 : Cl G σ 0 (cMain G)) (hT : RT G σ T) (hw : RWk G σ) (i j : Int32) : ∃ σ', Mt G mX9_nearest [.ref (ga G 0), .int i, .int j] σ (some (.int (nearestF T i j))) σ' ∧ RWk G σ' ∧ Fr σ σ' wk3 := by
  have hW := hT.w
  have hm := hW.2.2.2.2.1
  obtain ⟨bo, hc0, h9⟩ := hT.c
  have hw' := hw
  rcases inR_c i (m := tm T) (by omega) with e | ⟨e, i, hi, rfl⟩
  · rw [show nearestF T i j = -1 by simp [nearestF, e]]
    refine ⟨σ, ?_, hw', fr0⟩
    refine Mt.of (by decide +kernel) (Nat.le_of_ble_eq_true rfl) (fun κ C => ?_)
    refine g_aload_n (pc := 0) C dX9_nearest_0 rfl ?_
    apply gf_X9_68 (pc := 1) C rfl dX9_nearest_1
    · repeat (first | assumption | exact Cl.s (by assumption) | refine Cl.n (by first | decide | omega) ?_)
    · rfl
    refine g_iload_n (pc := 4) C dX9_nearest_4 rfl ?_
    apply cl_X9_115 (pc := 5) C rfl (t_hasPerson hT i) dX9_nearest_5
    · repeat (first | assumption | exact Cl.s (by assumption) | refine Cl.n (by first | decide | omega) ?_)
    · rfl
    · exact Nat.le_of_ble_eq_true rfl
    refine g_if_eq (pc := 8) C 22 dX9_nearest_8 (by decide) (fun c8 => ?_) (fun c8 => ?_)
    · refine g_iconst (pc := 22) (v := -1) C dX9_nearest_22 (by decide) ?_
      exact g_ireturn (pc := 23) C dX9_nearest_23 rfl (rfl) (rfl)
    · exact absurd (by rw [e]; rfl) c8
  · rcases inR_c j (m := tm T) (by omega) with e2 | ⟨e2, j, hj, rfl⟩
    · rw [show nearestF T (nI i) j = -1 by simp [nearestF, e2]]
      refine ⟨σ, ?_, hw', fr0⟩
      refine Mt.of (by decide +kernel) (Nat.le_of_ble_eq_true rfl) (fun κ C => ?_)
      refine g_aload_n (pc := 0) C dX9_nearest_0 rfl ?_
      apply gf_X9_68 (pc := 1) C rfl dX9_nearest_1
      · repeat (first | assumption | exact Cl.s (by assumption) | refine Cl.n (by first | decide | omega) ?_)
      · rfl
      refine g_iload_n (pc := 4) C dX9_nearest_4 rfl ?_
      apply cl_X9_115 (pc := 5) C rfl (t_hasPerson hT (nI i)) dX9_nearest_5
      · repeat (first | assumption | exact Cl.s (by assumption) | refine Cl.n (by first | decide | omega) ?_)
      · rfl
      · exact Nat.le_of_ble_eq_true rfl
      refine g_if_eq (pc := 8) C 22 dX9_nearest_8 (by decide) (fun c8 => ?_) (fun c8 => ?_)
      · exact absurd c8 (by rw [e]; decide)
      · refine g_aload_n (pc := 11) C dX9_nearest_11 rfl ?_
        apply gf_X9_68 (pc := 12) C rfl dX9_nearest_12
        · repeat (first | assumption | exact Cl.s (by assumption) | refine Cl.n (by first | decide | omega) ?_)
        · rfl
        refine g_iload_n (pc := 15) C dX9_nearest_15 rfl ?_
        apply cl_X9_115 (pc := 16) C rfl (t_hasPerson hT j) dX9_nearest_16
        · repeat (first | assumption | exact Cl.s (by assumption) | refine Cl.n (by first | decide | omega) ?_)
        · rfl
        · exact Nat.le_of_ble_eq_true rfl
        refine g_if_nE (pc := 19) C 24 dX9_nearest_19 (by decide) (fun c19 => ?_) (fun c19 => ?_)
        · exact absurd (by rw [e2]; rfl) c19
        · refine g_iconst (pc := 22) (v := -1) C dX9_nearest_22 (by decide) ?_
          exact g_ireturn (pc := 23) C dX9_nearest_23 rfl (rfl) (rfl)
    · rw [show nearestF T (nI i) (nI j) = nrs T i j 13 0 by simp [nearestF, e, e2, nI_clamp (show i < 2 ^ 31 by omega), nI_clamp (show j < 2 ^ 31 by omega)]]
      obtain ⟨a, b, f, g, hab, h5, ha, hb⟩ := hw
      have loop : ∀ d k {σ1 : WW} {a b : Nat} {f g : Nat → Int64}, k + d = 13 → AB a b → Cl G σ1 5 (cWalk G a b) → Cl G σ1 a (lA G 54 f) → Cl G σ1 b (lA G 54 g) → A2 (tm T) f (wk T i k) → Fr σ σ1 wk3 → ∃ σ', (∀ κ, Cx G mX9_nearest κ → Go G mX9_nearest κ (some (.int (nrs T i j d k))) σ' σ1 34 [(0, .ref (ga G 0)), (2, .int (nI j)), (3, .int (nI k))] []) ∧ RWk G σ' ∧ Fr σ σ' wk3 := by
        intro d
        induction d with
        | zero =>
          intro k σ1 a b f g hk hab h5 ha hb hf hF
          refine ⟨σ1, fun κ C => ?_, ⟨a, b, f, g, hab, h5, ha, hb⟩, hF⟩
          refine g_iload_n (pc := 34) C dX9_nearest_34 rfl ?_
          refine g_bipush (pc := 35) (v := nI 12) C dX9_nearest_35 (by decide) ?_
          refine g_icmp_gt (pc := 37) C 72 dX9_nearest_37 (by decide) (fun c37 => ?_) (fun c37 => ?_)
          · refine g_bipush (pc := 72) (v := -4) C dX9_nearest_72 (by decide) ?_
            exact g_ireturn (pc := 74) C dX9_nearest_74 rfl (rfl) (rfl)
          · exact absurd (nI_lt (by omega) (by omega)) c37
        | succ d ih =>
          intro k σ1 a b f g hk hab h5 ha hb hf hF
          have h01 := h0.fr hF (by decide)
          have hT1 := hT.fr hF (by decide) (by decide) (by decide) (by decide)
          obtain ⟨bo, hc0, h9⟩ := hT1.c
          obtain ⟨g', m1, m2⟩ := t_goOn hT1 hab h5 ha hb hf (fun p q hq => Nat.lt_trans (wk_lt hW (by omega) hq) (by decide))
          have hab' : AB b a := by unfold AB at hab ⊢; omega
          have a5 : a ≠ 5 := by unfold AB at hab; omega
          have b5 : b ≠ 5 := by unfold AB at hab; omega
          have ba : a ≠ b := by unfold AB at hab; omega
          have z5 : Cl G (va_up (va_up (va_up σ1 b (lA G 54 g')) 5 (cWalk G b b)) 5 (cWalk G b a)) 5 (cWalk G b a) := Cl.s (Cl.s (Cl.n (Ne.symm b5) h5))
          have zb : Cl G (va_up (va_up (va_up σ1 b (lA G 54 g')) 5 (cWalk G b b)) 5 (cWalk G b a)) b (lA G 54 g') := Cl.n b5 (Cl.n b5 (Cl.s hb))
          have za : Cl G (va_up (va_up (va_up σ1 b (lA G 54 g')) 5 (cWalk G b b)) 5 (cWalk G b a)) a (lA G 54 f) := Cl.n a5 (Cl.n a5 (Cl.n ba ha))
          have zF := hab.fr (i := 5) (e := cWalk G b a) (Or.inl rfl) (hab.fr (i := 5) (e := cWalk G b b) (Or.inl rfl) (hab.fr (i := b) (e := lA G 54 g') (Or.inr (Or.inr rfl)) hF))
          have z0 := h0.fr zF (by decide)
          have hbl : btw T i j k < 2 ^ 63 := by
            have : btw T i j k < 2 ^ 62 := wks_lt hW (k := k + 1) (by omega)
            omega
          by_cases hz : btw T i j k = 0
          · obtain ⟨σ2, j1, j2, j3⟩ := ih (k + 1) (a := b) (b := a) (f := g') (g := f) (by omega) hab' z5 zb za m2 zF
            refine ⟨σ2, fun κ C => ?_, j2, j3⟩
            rw [show nrs T i j (d + 1) k = nrs T i j d (k + 1) by simp [nrs, hz]]
            refine g_iload_n (pc := 34) C dX9_nearest_34 rfl ?_
            refine g_bipush (pc := 35) (v := nI 12) C dX9_nearest_35 (by decide) ?_
            refine g_icmp_gt (pc := 37) C 72 dX9_nearest_37 (by decide) (fun c37 => ?_) (fun c37 => ?_)
            · exact absurd c37 (nI_nlt (by omega) (by omega))
            · refine g_aload_n (pc := 40) C dX9_nearest_40 rfl ?_
              apply gf_X9_40 (pc := 41) C rfl dX9_nearest_41
              · repeat (first | assumption | exact Cl.s (by assumption) | refine Cl.n (by first | decide | omega) ?_)
              · rfl
              refine g_aload_n (pc := 44) C dX9_nearest_44 rfl ?_
              apply gf_X9_68 (pc := 45) C rfl dX9_nearest_45
              · repeat (first | assumption | exact Cl.s (by assumption) | refine Cl.n (by first | decide | omega) ?_)
              · rfl
              apply cl_X9_209 (pc := 48) C rfl m1 dX9_nearest_48
              · repeat (first | assumption | exact Cl.s (by assumption) | refine Cl.n (by first | decide | omega) ?_)
              · rfl
              · exact Nat.le_of_ble_eq_true rfl
              refine g_aload_n (pc := 51) C dX9_nearest_51 rfl ?_
              apply gf_X9_40 (pc := 52) C rfl dX9_nearest_52
              · repeat (first | assumption | exact Cl.s (by assumption) | refine Cl.n (by first | decide | omega) ?_)
              · rfl
              refine g_iload_n (pc := 55) C dX9_nearest_55 rfl ?_
              apply cl_X9_213 (pc := 56) C rfl (t_waysTo z5 zb m2 hj hm) dX9_nearest_56
              · repeat (first | assumption | exact Cl.s (by assumption) | refine Cl.n (by first | decide | omega) ?_)
              · rfl
              · exact Nat.le_of_ble_eq_true rfl
              refine g_lconst (pc := 59) (v := 0) C dX9_nearest_59 (by decide) ?_
              refine g_lcmp (pc := 60) C dX9_nearest_60 ?_
              refine g_if_le (pc := 61) C 66 dX9_nearest_61 (by decide) (fun c61 => ?_) (fun c61 => ?_)
              · refine g_iinc (pc := 66) C dX9_nearest_66 rfl (by decide) rfl ?_
                refine g_goto (pc := 69) C 34 dX9_nearest_69 (by decide) ?_
                exact g_to (j1 κ C) ⟨rfl, rfl, lgi (nI_1 k), trivial⟩
              · exact absurd (lc_0 hz) c61
          · refine ⟨_, fun κ C => ?_, ⟨b, a, g', f, hab', z5, zb, za⟩, zF⟩
            rw [show nrs T i j (d + 1) k = nI k by simp [nrs, hz]]
            refine g_iload_n (pc := 34) C dX9_nearest_34 rfl ?_
            refine g_bipush (pc := 35) (v := nI 12) C dX9_nearest_35 (by decide) ?_
            refine g_icmp_gt (pc := 37) C 72 dX9_nearest_37 (by decide) (fun c37 => ?_) (fun c37 => ?_)
            · exact absurd c37 (nI_nlt (by omega) (by omega))
            · refine g_aload_n (pc := 40) C dX9_nearest_40 rfl ?_
              apply gf_X9_40 (pc := 41) C rfl dX9_nearest_41
              · repeat (first | assumption | exact Cl.s (by assumption) | refine Cl.n (by first | decide | omega) ?_)
              · rfl
              refine g_aload_n (pc := 44) C dX9_nearest_44 rfl ?_
              apply gf_X9_68 (pc := 45) C rfl dX9_nearest_45
              · repeat (first | assumption | exact Cl.s (by assumption) | refine Cl.n (by first | decide | omega) ?_)
              · rfl
              apply cl_X9_209 (pc := 48) C rfl m1 dX9_nearest_48
              · repeat (first | assumption | exact Cl.s (by assumption) | refine Cl.n (by first | decide | omega) ?_)
              · rfl
              · exact Nat.le_of_ble_eq_true rfl
              refine g_aload_n (pc := 51) C dX9_nearest_51 rfl ?_
              apply gf_X9_40 (pc := 52) C rfl dX9_nearest_52
              · repeat (first | assumption | exact Cl.s (by assumption) | refine Cl.n (by first | decide | omega) ?_)
              · rfl
              refine g_iload_n (pc := 55) C dX9_nearest_55 rfl ?_
              apply cl_X9_213 (pc := 56) C rfl (t_waysTo z5 zb m2 hj hm) dX9_nearest_56
              · repeat (first | assumption | exact Cl.s (by assumption) | refine Cl.n (by first | decide | omega) ?_)
              · rfl
              · exact Nat.le_of_ble_eq_true rfl
              refine g_lconst (pc := 59) (v := 0) C dX9_nearest_59 (by decide) ?_
              refine g_lcmp (pc := 60) C dX9_nearest_60 ?_
              refine g_if_le (pc := 61) C 66 dX9_nearest_61 (by decide) (fun c61 => ?_) (fun c61 => ?_)
              · exact absurd c61 (lc_1 hz hbl)
              · refine g_iload_n (pc := 64) C dX9_nearest_64 rfl ?_
                exact g_ireturn (pc := 65) C dX9_nearest_65 rfl (rfl) (rfl)
      obtain ⟨f', s1, s2⟩ := t_startAt (T := T) (g := g) hab h5 ha (i := i) (by omega)
      have a5 : a ≠ 5 := by unfold AB at hab; omega
      have ba : b ≠ a := by unfold AB at hab; omega
      obtain ⟨σ2, j1, j2, j3⟩ := loop 13 0 (σ1 := va_up σ a (lA G 54 f')) (by omega) hab (Cl.n (Ne.symm a5) h5) (Cl.s ha) (Cl.n ba hb) (fun p hp q hq => s2 p (by omega) q hq) (hab.fr (Or.inr (Or.inl rfl)) fr0)
      refine ⟨σ2, ?_, j2, j3⟩
      refine Mt.of (by decide +kernel) (Nat.le_of_ble_eq_true rfl) (fun κ C => ?_)
      refine g_aload_n (pc := 0) C dX9_nearest_0 rfl ?_
      apply gf_X9_68 (pc := 1) C rfl dX9_nearest_1
      · repeat (first | assumption | exact Cl.s (by assumption) | refine Cl.n (by first | decide | omega) ?_)
      · rfl
      refine g_iload_n (pc := 4) C dX9_nearest_4 rfl ?_
      apply cl_X9_115 (pc := 5) C rfl (t_hasPerson hT (nI i)) dX9_nearest_5
      · repeat (first | assumption | exact Cl.s (by assumption) | refine Cl.n (by first | decide | omega) ?_)
      · rfl
      · exact Nat.le_of_ble_eq_true rfl
      refine g_if_eq (pc := 8) C 22 dX9_nearest_8 (by decide) (fun c8 => ?_) (fun c8 => ?_)
      · exact absurd c8 (by rw [e]; decide)
      · refine g_aload_n (pc := 11) C dX9_nearest_11 rfl ?_
        apply gf_X9_68 (pc := 12) C rfl dX9_nearest_12
        · repeat (first | assumption | exact Cl.s (by assumption) | refine Cl.n (by first | decide | omega) ?_)
        · rfl
        refine g_iload_n (pc := 15) C dX9_nearest_15 rfl ?_
        apply cl_X9_115 (pc := 16) C rfl (t_hasPerson hT (nI j)) dX9_nearest_16
        · repeat (first | assumption | exact Cl.s (by assumption) | refine Cl.n (by first | decide | omega) ?_)
        · rfl
        · exact Nat.le_of_ble_eq_true rfl
        refine g_if_nE (pc := 19) C 24 dX9_nearest_19 (by decide) (fun c19 => ?_) (fun c19 => ?_)
        · refine g_aload_n (pc := 24) C dX9_nearest_24 rfl ?_
          apply gf_X9_40 (pc := 25) C rfl dX9_nearest_25
          · repeat (first | assumption | exact Cl.s (by assumption) | refine Cl.n (by first | decide | omega) ?_)
          · rfl
          refine g_iload_n (pc := 28) C dX9_nearest_28 rfl ?_
          apply cl_X9_205 (pc := 29) C rfl s1 dX9_nearest_29
          · repeat (first | assumption | exact Cl.s (by assumption) | refine Cl.n (by first | decide | omega) ?_)
          · rfl
          · exact Nat.le_of_ble_eq_true rfl
          refine g_iconst (pc := 32) (v := nI 0) C dX9_nearest_32 (by decide) ?_
          refine g_istore_n (pc := 33) C dX9_nearest_33 (by decide) rfl ?_
          exact g_to (j1 κ C) ⟨rfl, rfl, rfl, trivial⟩
        · exact absurd c19 (by rw [e2]; decide)
end BTW

