theorem lkn_0 : ∀ n, lkn (fun _ => 0) n = 0
  | 0 => rfl
  | n + 1 => by
    unfold lkn
    rw [lkn_0 n]
    simp [lw]
section LEND3
variable {G : GG} {σ : WW} {T : TS} {r : Nat} {w : Nat → Nat}
theorem t_firstHat {f : Nat → Int32} (hT : RT G σ T) (h8 : Cl G σ 8 (cLend G)) (h20 : Cl G σ 20 (iA G 256 f)) (hr : RR G σ r w) (hr16 : r ≤ 16) (hw : ∀ k, k < r → w k < tm T) {pv : Nat → Nat} (hpv : ∀ t, t < tn T → pv t < 4) {k : Nat} (hk : k < r) (left : Int32) (hf : OA T w r f 0) : Mt G mX1_firstHat [.ref (ga G 8), .ref (ga G 9), .ref (ga G 3), .int (nI (lkn pv (tn T))), .int (nI k), .int left] σ (some (.int (match fhS T w r k pv left (hcn T (tn T)) 0 with | none => -4 | some h => nI h))) σ := by
  have hW := hT.w
  have hc := hc_le hW
  obtain ⟨bo, h9⟩ := hT.c2
  refine Mt.of (by decide +kernel) (Nat.le_of_ble_eq_true rfl) (fun κ C => ?_)
  have loop : ∀ e h, h + e = hcn T (tn T) → Go G mX1_firstHat κ (some (.int (match fhS T w r k pv left e h with | none => -4 | some h => nI h))) σ σ 3 [(0, .ref (ga G 8)), (1, .ref (ga G 9)), (2, .ref (ga G 3)), (3, .int (nI (lkn pv (tn T)))), (4, .int (nI k)), (5, .int left), (6, .int (nI h))] [] := by
    intro e
    induction e with
    | zero =>
      intro h hh
      refine g_iload (pc := 3) C dX1_firstHat_3 rfl ?_
      refine g_aload_n (pc := 5) C dX1_firstHat_5 rfl ?_
      apply gf_X1_21 (pc := 6) C rfl dX1_firstHat_6
      · repeat (first | assumption | exact Cl.s (by assumption) | refine Cl.n (by first | decide | omega) ?_)
      · rfl
      refine g_icmp_ge (pc := 9) C 70 dX1_firstHat_9 (by decide) (fun c9 => ?_) (fun c9 => ?_)
      · refine g_bipush (pc := 70) (v := -4) C dX1_firstHat_70 (by decide) ?_
        exact g_ireturn (pc := 72) C dX1_firstHat_72 rfl (rfl) (rfl)
      · exact absurd (nI_le (by omega) (by omega)) c9
    | succ e ih =>
      intro h hh
      have es : fhS T w r k pv left (e + 1) h = if (k = 0 ∨ mfl T pv (wv T (tp T (w k)) h) = true) ∧ nI (cst T w (r - 1 - k) k h) = left then some h else fhS T w r k pv left e (h + 1) := rfl
      have mf := t_mayFollow hT ⟨_, h8⟩ hr hr16 hw hpv hk (h := h) (by omega)
      have eo := hf k (Nat.zero_le _) hk h (by omega)
      by_cases hfit : k = 0 ∨ mfl T pv (wv T (tp T (w k)) h) = true
      · have j1 : Go G mX1_firstHat κ (some (.int (match fhS T w r k pv left (e + 1) h with | none => -4 | some h => nI h))) σ σ 38 [(0, .ref (ga G 8)), (1, .ref (ga G 9)), (2, .ref (ga G 3)), (3, .int (nI (lkn pv (tn T)))), (4, .int (nI k)), (5, .int left), (6, .int (nI h)), (7, .int (nI 1))] [] := by
          by_cases hc : nI (cst T w (r - 1 - k) k h) = left
          · rw [es, if_pos ⟨hfit, hc⟩]
            refine g_iload (pc := 38) C dX1_firstHat_38 rfl ?_
            refine g_if_eq (pc := 40) C 64 dX1_firstHat_40 (by decide) (fun c40 => ?_) (fun c40 => ?_)
            · exact absurd c40 (by decide)
            · refine g_aload_n (pc := 43) C dX1_firstHat_43 rfl ?_
              apply gf_X1_9 (pc := 44) C rfl dX1_firstHat_44
              · repeat (first | assumption | exact Cl.s (by assumption) | refine Cl.n (by first | decide | omega) ?_)
              · rfl
              refine g_iload (pc := 47) C dX1_firstHat_47 rfl ?_
              refine g_bipush (pc := 49) (v := nI 16) C dX1_firstHat_49 (by decide) ?_
              refine g_imul (pc := 51) C dX1_firstHat_51 ?_
              refine g_iload (pc := 52) C dX1_firstHat_52 rfl ?_
              refine g_iadd (pc := 54) C dX1_firstHat_54 ?_
              rw [pk_mul, nI_add]
              apply g_iaload (pc := 55) C dX1_firstHat_55
              · repeat (first | assumption | exact Cl.s (by assumption) | refine Cl.n (by first | decide | omega) ?_)
              · exact vp_in_nI (by omega) (by decide)
              refine g_iload (pc := 56) C dX1_firstHat_56 rfl ?_
              refine g_icmp_nE (pc := 58) C 64 dX1_firstHat_58 (by decide) (fun c58 => ?_) (fun c58 => ?_)
              · exact absurd (by rw [nI_clamp (by omega), eo, hc]) c58
              · refine g_iload (pc := 61) C dX1_firstHat_61 rfl ?_
                exact g_ireturn (pc := 63) C dX1_firstHat_63 rfl (rfl) (rfl)
          · rw [es, if_neg (fun z => hc z.2)]
            refine g_iload (pc := 38) C dX1_firstHat_38 rfl ?_
            refine g_if_eq (pc := 40) C 64 dX1_firstHat_40 (by decide) (fun c40 => ?_) (fun c40 => ?_)
            · exact absurd c40 (by decide)
            · refine g_aload_n (pc := 43) C dX1_firstHat_43 rfl ?_
              apply gf_X1_9 (pc := 44) C rfl dX1_firstHat_44
              · repeat (first | assumption | exact Cl.s (by assumption) | refine Cl.n (by first | decide | omega) ?_)
              · rfl
              refine g_iload (pc := 47) C dX1_firstHat_47 rfl ?_
              refine g_bipush (pc := 49) (v := nI 16) C dX1_firstHat_49 (by decide) ?_
              refine g_imul (pc := 51) C dX1_firstHat_51 ?_
              refine g_iload (pc := 52) C dX1_firstHat_52 rfl ?_
              refine g_iadd (pc := 54) C dX1_firstHat_54 ?_
              rw [pk_mul, nI_add]
              apply g_iaload (pc := 55) C dX1_firstHat_55
              · repeat (first | assumption | exact Cl.s (by assumption) | refine Cl.n (by first | decide | omega) ?_)
              · exact vp_in_nI (by omega) (by decide)
              refine g_iload (pc := 56) C dX1_firstHat_56 rfl ?_
              refine g_icmp_nE (pc := 58) C 64 dX1_firstHat_58 (by decide) (fun c58 => ?_) (fun c58 => ?_)
              · refine g_iinc (pc := 64) C dX1_firstHat_64 rfl (by decide) rfl ?_
                refine g_goto (pc := 67) C 3 dX1_firstHat_67 (by decide) ?_
                exact g_to (ih (h + 1) (by omega)) ⟨rfl, rfl, rfl, rfl, rfl, rfl, lgi (nI_1 h), trivial⟩
              · exact absurd (by rw [nI_clamp (by omega), eo] at c58; exact c58) hc
        by_cases hk0 : k = 0
        · refine g_iload (pc := 3) C dX1_firstHat_3 rfl ?_
          refine g_aload_n (pc := 5) C dX1_firstHat_5 rfl ?_
          apply gf_X1_21 (pc := 6) C rfl dX1_firstHat_6
          · repeat (first | assumption | exact Cl.s (by assumption) | refine Cl.n (by first | decide | omega) ?_)
          · rfl
          refine g_icmp_ge (pc := 9) C 70 dX1_firstHat_9 (by decide) (fun c9 => ?_) (fun c9 => ?_)
          · exact absurd c9 (nI_ge (by omega) (by omega))
          · refine g_iload (pc := 12) C dX1_firstHat_12 rfl ?_
            refine g_if_eq (pc := 14) C 31 dX1_firstHat_14 (by decide) (fun c14 => ?_) (fun c14 => ?_)
            · refine g_iconst (pc := 31) (v := nI 1) C dX1_firstHat_31 (by decide) ?_
              refine g_goto (pc := 32) C 36 dX1_firstHat_32 (by decide) ?_
              refine g_istore (pc := 36) C dX1_firstHat_36 (by decide) rfl ?_
              exact g_to j1 ⟨rfl, rfl, rfl, rfl, rfl, rfl, rfl, rfl, trivial⟩
            · exact absurd (by rw [hk0]; rfl) c14
        · have hm : mfl T pv (wv T (tp T (w k)) h) = true := hfit.resolve_left hk0
          refine g_iload (pc := 3) C dX1_firstHat_3 rfl ?_
          refine g_aload_n (pc := 5) C dX1_firstHat_5 rfl ?_
          apply gf_X1_21 (pc := 6) C rfl dX1_firstHat_6
          · repeat (first | assumption | exact Cl.s (by assumption) | refine Cl.n (by first | decide | omega) ?_)
          · rfl
          refine g_icmp_ge (pc := 9) C 70 dX1_firstHat_9 (by decide) (fun c9 => ?_) (fun c9 => ?_)
          · exact absurd c9 (nI_ge (by omega) (by omega))
          · refine g_iload (pc := 12) C dX1_firstHat_12 rfl ?_
            refine g_if_eq (pc := 14) C 31 dX1_firstHat_14 (by decide) (fun c14 => ?_) (fun c14 => ?_)
            · exact absurd c14 (by rw [nx_0, nI_eq (by omega) (by decide)]; exact hk0)
            · refine g_aload_n (pc := 17) C dX1_firstHat_17 rfl ?_
              refine g_aload_n (pc := 18) C dX1_firstHat_18 rfl ?_
              refine g_aload_n (pc := 19) C dX1_firstHat_19 rfl ?_
              refine g_iload_n (pc := 20) C dX1_firstHat_20 rfl ?_
              refine g_iload (pc := 21) C dX1_firstHat_21 rfl ?_
              refine g_iload (pc := 23) C dX1_firstHat_23 rfl ?_
              apply cl_X1_46 (pc := 25) C rfl mf dX1_firstHat_25
              · repeat (first | assumption | exact Cl.s (by assumption) | refine Cl.n (by first | decide | omega) ?_)
              · rfl
              · exact Nat.le_of_ble_eq_true rfl
              refine g_if_eq (pc := 28) C 35 dX1_firstHat_28 (by decide) (fun c28 => ?_) (fun c28 => ?_)
              · exact absurd c28 (by rw [hm]; decide)
              · refine g_iconst (pc := 31) (v := nI 1) C dX1_firstHat_31 (by decide) ?_
                refine g_goto (pc := 32) C 36 dX1_firstHat_32 (by decide) ?_
                refine g_istore (pc := 36) C dX1_firstHat_36 (by decide) rfl ?_
                exact g_to j1 ⟨rfl, rfl, rfl, rfl, rfl, rfl, rfl, rfl, trivial⟩
      · have hk0 : ¬ k = 0 := fun z => hfit (Or.inl z)
        have hm : mfl T pv (wv T (tp T (w k)) h) = false := by
          cases q : mfl T pv (wv T (tp T (w k)) h)
          · rfl
          · exact absurd (Or.inr q) hfit
        rw [es, if_neg (fun z => hfit z.1)]
        refine g_iload (pc := 3) C dX1_firstHat_3 rfl ?_
        refine g_aload_n (pc := 5) C dX1_firstHat_5 rfl ?_
        apply gf_X1_21 (pc := 6) C rfl dX1_firstHat_6
        · repeat (first | assumption | exact Cl.s (by assumption) | refine Cl.n (by first | decide | omega) ?_)
        · rfl
        refine g_icmp_ge (pc := 9) C 70 dX1_firstHat_9 (by decide) (fun c9 => ?_) (fun c9 => ?_)
        · exact absurd c9 (nI_ge (by omega) (by omega))
        · refine g_iload (pc := 12) C dX1_firstHat_12 rfl ?_
          refine g_if_eq (pc := 14) C 31 dX1_firstHat_14 (by decide) (fun c14 => ?_) (fun c14 => ?_)
          · exact absurd c14 (by rw [nx_0, nI_eq (by omega) (by decide)]; exact hk0)
          · refine g_aload_n (pc := 17) C dX1_firstHat_17 rfl ?_
            refine g_aload_n (pc := 18) C dX1_firstHat_18 rfl ?_
            refine g_aload_n (pc := 19) C dX1_firstHat_19 rfl ?_
            refine g_iload_n (pc := 20) C dX1_firstHat_20 rfl ?_
            refine g_iload (pc := 21) C dX1_firstHat_21 rfl ?_
            refine g_iload (pc := 23) C dX1_firstHat_23 rfl ?_
            apply cl_X1_46 (pc := 25) C rfl mf dX1_firstHat_25
            · repeat (first | assumption | exact Cl.s (by assumption) | refine Cl.n (by first | decide | omega) ?_)
            · rfl
            · exact Nat.le_of_ble_eq_true rfl
            refine g_if_eq (pc := 28) C 35 dX1_firstHat_28 (by decide) (fun c28 => ?_) (fun c28 => ?_)
            · refine g_iconst (pc := 35) (v := nI 0) C dX1_firstHat_35 (by decide) ?_
              refine g_istore (pc := 36) C dX1_firstHat_36 (by decide) rfl ?_
              refine g_iload (pc := 38) C dX1_firstHat_38 rfl ?_
              refine g_if_eq (pc := 40) C 64 dX1_firstHat_40 (by decide) (fun c40 => ?_) (fun c40 => ?_)
              · refine g_iinc (pc := 64) C dX1_firstHat_64 rfl (by decide) rfl ?_
                refine g_goto (pc := 67) C 3 dX1_firstHat_67 (by decide) ?_
                exact g_to (ih (h + 1) (by omega)) ⟨rfl, rfl, rfl, rfl, rfl, rfl, lgi (nI_1 h), trivial⟩
              · exact absurd rfl c40
            · exact absurd (by rw [hm]; rfl) c28
  refine g_iconst (pc := 0) (v := nI 0) C dX1_firstHat_0 (by decide) ?_
  refine g_istore (pc := 1) C dX1_firstHat_1 (by decide) rfl ?_
  exact g_to (loop (hcn T (tn T)) 0 (by omega)) ⟨rfl, rfl, rfl, rfl, rfl, rfl, rfl, trivial⟩
theorem t_codeAt {f : Nat → Int32} (hT : RT G σ T) (h8 : Cl G σ 8 (cLend G)) (h20 : Cl G σ 20 (iA G 256 f)) (hr : RR G σ r w) (hr16 : r ≤ 16) (hw : ∀ k, k < r → w k < tm T) {i : Nat} (hi : i < r) : ∃ f', Mt G mX1_codeAt [.ref (ga G 8), .ref (ga G 9), .ref (ga G 3), .int (nI i)] σ (some (.int (gA T w r (i + 1) 0 (fun _ => 0) (fewF T w r)))) (va_up σ 20 (iA G 256 f')) := by
  have hW := hT.w
  have hn := hW.1
  have hc := hc_le hW
  obtain ⟨f', m1, m2⟩ := t_fewestL hT h8 h20 hr hr16 hw
  have hT1 := hT.up (i := 20) (e := iA G 256 f') (by decide) (by decide) (by decide) (by decide)
  have z8 : Cl G (va_up σ 20 (iA G 256 f')) 8 (cLend G) := Cl.n (by decide) h8
  have z20 : Cl G (va_up σ 20 (iA G 256 f')) 20 (iA G 256 f') := Cl.s h20
  have zr : RR G (va_up σ 20 (iA G 256 f')) r w := hr.fr (ps := [20]) (fr3 fr0 (by decide)) (by decide) (by decide)
  have z3 := zr.1
  obtain ⟨bo, h9⟩ := hT1.c2
  refine ⟨f', ?_⟩
  refine Mt.of (by decide +kernel) (Nat.le_of_ble_eq_true rfl) (fun κ C => ?_)
  have loop : ∀ c k pv left, k + c = i + 1 → (∀ t, t < tn T → pv t < 4) → Go G mX1_codeAt κ (some (.int (gA T w r c k pv left))) (va_up σ 20 (iA G 256 f')) (va_up σ 20 (iA G 256 f')) 14 [(0, .ref (ga G 8)), (1, .ref (ga G 9)), (2, .ref (ga G 3)), (3, .int (nI i)), (4, .int left), (5, .int (nI (lkn pv (tn T)))), (6, .int (nI k))] [] := by
    intro c
    induction c with
    | zero =>
      intro k pv left hk hpv
      refine g_iload (pc := 14) C dX1_codeAt_14 rfl ?_
      refine g_iload_n (pc := 16) C dX1_codeAt_16 rfl ?_
      refine g_icmp_gt (pc := 17) C 96 dX1_codeAt_17 (by decide) (fun c17 => ?_) (fun c17 => ?_)
      · refine g_aload_n (pc := 96) C dX1_codeAt_96 rfl ?_
        refine g_iload (pc := 97) C dX1_codeAt_97 rfl ?_
        apply cl_X1_74 (pc := 99) C rfl (t_code hT1 hpv) dX1_codeAt_99
        · repeat (first | assumption | exact Cl.s (by assumption) | refine Cl.n (by first | decide | omega) ?_)
        · rfl
        · exact Nat.le_of_ble_eq_true rfl
        exact g_ireturn (pc := 102) C dX1_codeAt_102 rfl (rfl) (rfl)
      · exact absurd (nI_lt (by omega) (by omega)) c17
    | succ c ih =>
      intro k pv left hk hpv
      have fh := t_firstHat hT1 z8 z20 zr hr16 hw hpv (k := k) (by omega) left m2
      have hxk := tp4 hT (hw k (by omega))
      cases hq : fhS T w r k pv left (hcn T (tn T)) 0 with
      | none =>
        rw [hq] at fh
        rw [show gA T w r (c + 1) k pv left = -4 by unfold gA; rw [hq]]
        refine g_iload (pc := 14) C dX1_codeAt_14 rfl ?_
        refine g_iload_n (pc := 16) C dX1_codeAt_16 rfl ?_
        refine g_icmp_gt (pc := 17) C 96 dX1_codeAt_17 (by decide) (fun c17 => ?_) (fun c17 => ?_)
        · exact absurd c17 (nI_nlt (by omega) (by omega))
        · refine g_iload (pc := 20) C dX1_codeAt_20 rfl ?_
          refine g_aload_n (pc := 22) C dX1_codeAt_22 rfl ?_
          apply gf_X1_15 (pc := 23) C rfl dX1_codeAt_23
          · repeat (first | assumption | exact Cl.s (by assumption) | refine Cl.n (by first | decide | omega) ?_)
          · rfl
          refine g_icmp_ge (pc := 26) C 96 dX1_codeAt_26 (by decide) (fun c26 => ?_) (fun c26 => ?_)
          · exact absurd c26 (nI_ge (by omega) (by omega))
          · refine g_aload_n (pc := 29) C dX1_codeAt_29 rfl ?_
            refine g_aload_n (pc := 30) C dX1_codeAt_30 rfl ?_
            refine g_aload_n (pc := 31) C dX1_codeAt_31 rfl ?_
            refine g_iload (pc := 32) C dX1_codeAt_32 rfl ?_
            refine g_iload (pc := 34) C dX1_codeAt_34 rfl ?_
            refine g_iload (pc := 36) C dX1_codeAt_36 rfl ?_
            apply cl_X1_70 (pc := 38) C rfl fh dX1_codeAt_38
            · repeat (first | assumption | exact Cl.s (by assumption) | refine Cl.n (by first | decide | omega) ?_)
            · rfl
            · exact Nat.le_of_ble_eq_true rfl
            refine g_istore (pc := 41) C dX1_codeAt_41 (by decide) rfl ?_
            refine g_iload (pc := 43) C dX1_codeAt_43 rfl ?_
            refine g_bipush (pc := 45) (v := -4) C dX1_codeAt_45 (by decide) ?_
            refine g_icmp_nE (pc := 47) C 53 dX1_codeAt_47 (by decide) (fun c47 => ?_) (fun c47 => ?_)
            · exact absurd rfl c47
            · refine g_bipush (pc := 50) (v := -4) C dX1_codeAt_50 (by decide) ?_
              exact g_ireturn (pc := 52) C dX1_codeAt_52 rfl (rfl) (rfl)
      | some h =>
        rw [hq] at fh
        have hh := fhS_lt _ _ _ hq
        have hb1024 : bits (fun t => tp T (w k) t != wv T (tp T (w k)) h t) (tn T) < 1024 := Nat.lt_of_lt_of_le (bits_lt _ _) (Nat.pow_le_pow_right (n := 2) (j := 10) (by decide) (by omega))
        have e1 : gA T w r (c + 1) k pv left = gA T w r c (k + 1) (wv T (tp T (w k)) h) (left - nI (dfn T (tp T (w k)) (wv T (tp T (w k)) h))) := by
          conv => lhs; unfold gA
          rw [hq]
        rw [e1]
        refine g_iload (pc := 14) C dX1_codeAt_14 rfl ?_
        refine g_iload_n (pc := 16) C dX1_codeAt_16 rfl ?_
        refine g_icmp_gt (pc := 17) C 96 dX1_codeAt_17 (by decide) (fun c17 => ?_) (fun c17 => ?_)
        · exact absurd c17 (nI_nlt (by omega) (by omega))
        · refine g_iload (pc := 20) C dX1_codeAt_20 rfl ?_
          refine g_aload_n (pc := 22) C dX1_codeAt_22 rfl ?_
          apply gf_X1_15 (pc := 23) C rfl dX1_codeAt_23
          · repeat (first | assumption | exact Cl.s (by assumption) | refine Cl.n (by first | decide | omega) ?_)
          · rfl
          refine g_icmp_ge (pc := 26) C 96 dX1_codeAt_26 (by decide) (fun c26 => ?_) (fun c26 => ?_)
          · exact absurd c26 (nI_ge (by omega) (by omega))
          · refine g_aload_n (pc := 29) C dX1_codeAt_29 rfl ?_
            refine g_aload_n (pc := 30) C dX1_codeAt_30 rfl ?_
            refine g_aload_n (pc := 31) C dX1_codeAt_31 rfl ?_
            refine g_iload (pc := 32) C dX1_codeAt_32 rfl ?_
            refine g_iload (pc := 34) C dX1_codeAt_34 rfl ?_
            refine g_iload (pc := 36) C dX1_codeAt_36 rfl ?_
            apply cl_X1_70 (pc := 38) C rfl fh dX1_codeAt_38
            · repeat (first | assumption | exact Cl.s (by assumption) | refine Cl.n (by first | decide | omega) ?_)
            · rfl
            · exact Nat.le_of_ble_eq_true rfl
            refine g_istore (pc := 41) C dX1_codeAt_41 (by decide) rfl ?_
            refine g_iload (pc := 43) C dX1_codeAt_43 rfl ?_
            refine g_bipush (pc := 45) (v := -4) C dX1_codeAt_45 (by decide) ?_
            refine g_icmp_nE (pc := 47) C 53 dX1_codeAt_47 (by decide) (fun c47 => ?_) (fun c47 => ?_)
            · refine g_aload_n (pc := 53) C dX1_codeAt_53 rfl ?_
              refine g_aload_n (pc := 54) C dX1_codeAt_54 rfl ?_
              refine g_iload (pc := 55) C dX1_codeAt_55 rfl ?_
              apply cl_X1_36 (pc := 57) C rfl (t_at zr (by omega) hr16) dX1_codeAt_57
              · repeat (first | assumption | exact Cl.s (by assumption) | refine Cl.n (by first | decide | omega) ?_)
              · rfl
              · exact Nat.le_of_ble_eq_true rfl
              apply cl_X1_40 (pc := 60) C rfl (t_look hT1 (hw k (by omega))) dX1_codeAt_60
              · repeat (first | assumption | exact Cl.s (by assumption) | refine Cl.n (by first | decide | omega) ?_)
              · rfl
              · exact Nat.le_of_ble_eq_true rfl
              refine g_istore (pc := 63) C dX1_codeAt_63 (by decide) rfl ?_
              refine g_aload_n (pc := 65) C dX1_codeAt_65 rfl ?_
              refine g_iload (pc := 66) C dX1_codeAt_66 rfl ?_
              refine g_iload (pc := 68) C dX1_codeAt_68 rfl ?_
              apply cl_X1_43 (pc := 70) C rfl (t_lookWithHat hT1 (j := h) (by omega)) dX1_codeAt_70
              · repeat (first | assumption | exact Cl.s (by assumption) | refine Cl.n (by first | decide | omega) ?_)
              · rfl
              · exact Nat.le_of_ble_eq_true rfl
              refine g_istore (pc := 73) C dX1_codeAt_73 (by decide) rfl ?_
              refine g_iload (pc := 75) C dX1_codeAt_75 rfl ?_
              refine g_iload (pc := 77) C dX1_codeAt_77 rfl ?_
              refine g_iload (pc := 79) C dX1_codeAt_79 rfl ?_
              refine cl_X1_50 (pc := 81) C rfl (t_unlike (lkn_lt _ _ hn) (lkn_lt _ _ hn)) dX1_codeAt_81 rfl (Nat.le_of_ble_eq_true rfl) ?_
              rw [ulk_lkn hn hxk (wv_4 hW hxk h)]
              refine cl_X1_53 (pc := 84) C rfl (t_bitCount hb1024) dX1_codeAt_84 rfl (Nat.le_of_ble_eq_true rfl) ?_
              refine g_isub (pc := 87) C dX1_codeAt_87 ?_
              refine g_istore (pc := 88) C dX1_codeAt_88 (by decide) rfl ?_
              refine g_iinc (pc := 90) C dX1_codeAt_90 rfl (by decide) rfl ?_
              refine g_goto (pc := 93) C 14 dX1_codeAt_93 (by decide) ?_
              exact g_to (ih (k + 1) _ _ (by omega) (wv_4 hW hxk h)) ⟨rfl, rfl, rfl, rfl, rfl, rfl, lgi (nI_1 k), trivial⟩
            · exact absurd (show nI h = -4 from c47) (m4_n (by omega))
  refine g_aload_n (pc := 0) C dX1_codeAt_0 rfl ?_
  refine g_aload_n (pc := 1) C dX1_codeAt_1 rfl ?_
  refine g_aload_n (pc := 2) C dX1_codeAt_2 rfl ?_
  apply cl_X1_66 (pc := 3) C rfl m1 dX1_codeAt_3
  · repeat (first | assumption | exact Cl.s (by assumption) | refine Cl.n (by first | decide | omega) ?_)
  · rfl
  · exact Nat.le_of_ble_eq_true rfl
  refine g_istore (pc := 6) C dX1_codeAt_6 (by decide) rfl ?_
  refine g_iconst (pc := 8) (v := nI 0) C dX1_codeAt_8 (by decide) ?_
  refine g_istore (pc := 9) C dX1_codeAt_9 (by decide) rfl ?_
  refine g_iconst (pc := 11) (v := nI 0) C dX1_codeAt_11 (by decide) ?_
  refine g_istore (pc := 12) C dX1_codeAt_12 (by decide) rfl ?_
  exact g_to (loop (i + 1) 0 (fun _ => 0) _ (by omega) (fun _ _ => by decide)) ⟨rfl, rfl, rfl, rfl, rfl, lgi (by rw [lkn_0]), rfl, trivial⟩
def RLe (G : GG) (σ : WW) : Prop := Cl G σ 8 (cLend G) ∧ ∃ f, Cl G σ 20 (iA G 256 f)
theorem c_lent (h0 : Cl G σ 0 (cMain G)) (hT : RT G σ T) (hl : RLe G σ) (hr : RR G σ r w) (hr16 : r ≤ 16) (hw : ∀ k, k < r → w k < tm T) (i : Int32) : ∃ σ', Mt G mX9_lent [.ref (ga G 0), .int i] σ (some (.int (lentF T w r i))) σ' ∧ RLe G σ' ∧ Fr σ σ' [20] := by
  have h3 := hr.1
  have hl' := hl
  obtain ⟨h8, f, h20⟩ := hl
  by_cases hb : -1 ≤ i ∧ i < nI r
  · by_cases hi1 : i = -1
    · subst hi1
      rw [show lentF T w r (-1) = fewF T w r by unfold lentF; rw [if_pos hb, if_pos rfl]]
      obtain ⟨f', m1, -⟩ := t_fewestL hT h8 h20 hr hr16 hw
      refine ⟨_, ?_, ⟨Cl.n (by decide) h8, f', Cl.s h20⟩, fr3 fr0 (by decide)⟩
      refine Mt.of (by decide +kernel) (Nat.le_of_ble_eq_true rfl) (fun κ C => ?_)
      refine g_iload_n (pc := 0) C dX9_lent_0 rfl ?_
      refine g_iconst (pc := 1) (v := -1) C dX9_lent_1 (by decide) ?_
      refine g_icmp_lt (pc := 2) C 16 dX9_lent_2 (by decide) (fun c2 => ?_) (fun c2 => ?_)
      · exact absurd c2 (by decide)
      · refine g_iload_n (pc := 5) C dX9_lent_5 rfl ?_
        refine g_aload_n (pc := 6) C dX9_lent_6 rfl ?_
        apply gf_X9_26 (pc := 7) C rfl dX9_lent_7
        · repeat (first | assumption | exact Cl.s (by assumption) | refine Cl.n (by first | decide | omega) ?_)
        · rfl
        apply gf_X9_109 (pc := 10) C rfl dX9_lent_10
        · repeat (first | assumption | exact Cl.s (by assumption) | refine Cl.n (by first | decide | omega) ?_)
        · rfl
        refine g_icmp_lt (pc := 13) C 18 dX9_lent_13 (by decide) (fun c13 => ?_) (fun c13 => ?_)
        · refine g_iload_n (pc := 18) C dX9_lent_18 rfl ?_
          refine g_iconst (pc := 19) (v := -1) C dX9_lent_19 (by decide) ?_
          refine g_icmp_nE (pc := 20) C 41 dX9_lent_20 (by decide) (fun c20 => ?_) (fun c20 => ?_)
          · exact absurd rfl c20
          · refine g_aload_n (pc := 23) C dX9_lent_23 rfl ?_
            apply gf_X9_61 (pc := 24) C rfl dX9_lent_24
            · repeat (first | assumption | exact Cl.s (by assumption) | refine Cl.n (by first | decide | omega) ?_)
            · rfl
            refine g_aload_n (pc := 27) C dX9_lent_27 rfl ?_
            apply gf_X9_68 (pc := 28) C rfl dX9_lent_28
            · repeat (first | assumption | exact Cl.s (by assumption) | refine Cl.n (by first | decide | omega) ?_)
            · rfl
            refine g_aload_n (pc := 31) C dX9_lent_31 rfl ?_
            apply gf_X9_26 (pc := 32) C rfl dX9_lent_32
            · repeat (first | assumption | exact Cl.s (by assumption) | refine Cl.n (by first | decide | omega) ?_)
            · rfl
            apply cl_X9_224 (pc := 35) C rfl m1 dX9_lent_35
            · repeat (first | assumption | exact Cl.s (by assumption) | refine Cl.n (by first | decide | omega) ?_)
            · rfl
            · exact Nat.le_of_ble_eq_true rfl
            refine g_goto (pc := 38) C 57 dX9_lent_38 (by decide) ?_
            exact g_ireturn (pc := 57) C dX9_lent_57 rfl (rfl) (rfl)
        · exact absurd hb.2 c13
    · obtain ⟨k, hk, rfl⟩ : ∃ k, k < r ∧ i = nI k := by
        rcases pk_ix i (n := r) (by omega) with q | q | q
        · exact absurd (Int32.le_antisymm (by
            rw [Int32.le_iff_toInt_le]
            have := Int32.lt_iff_toInt_lt.mp q
            have e0 : (0 : Int32).toInt = 0 := rfl
            have e1 : (-1 : Int32).toInt = -1 := by decide
            omega) hb.1) hi1
        · exact absurd hb.2 (Int32.not_lt.mpr q)
        · exact q
      rw [show lentF T w r (nI k) = gA T w r (k + 1) 0 (fun _ => 0) (fewF T w r) by unfold lentF; rw [if_pos hb, if_neg hi1, nI_clamp (by omega)]]
      obtain ⟨f', m1⟩ := t_codeAt hT h8 h20 hr hr16 hw hk
      refine ⟨_, ?_, ⟨Cl.n (by decide) h8, f', Cl.s h20⟩, fr3 fr0 (by decide)⟩
      refine Mt.of (by decide +kernel) (Nat.le_of_ble_eq_true rfl) (fun κ C => ?_)
      refine g_iload_n (pc := 0) C dX9_lent_0 rfl ?_
      refine g_iconst (pc := 1) (v := -1) C dX9_lent_1 (by decide) ?_
      refine g_icmp_lt (pc := 2) C 16 dX9_lent_2 (by decide) (fun c2 => ?_) (fun c2 => ?_)
      · exact absurd c2 (Int32.not_lt.mpr hb.1)
      · refine g_iload_n (pc := 5) C dX9_lent_5 rfl ?_
        refine g_aload_n (pc := 6) C dX9_lent_6 rfl ?_
        apply gf_X9_26 (pc := 7) C rfl dX9_lent_7
        · repeat (first | assumption | exact Cl.s (by assumption) | refine Cl.n (by first | decide | omega) ?_)
        · rfl
        apply gf_X9_109 (pc := 10) C rfl dX9_lent_10
        · repeat (first | assumption | exact Cl.s (by assumption) | refine Cl.n (by first | decide | omega) ?_)
        · rfl
        refine g_icmp_lt (pc := 13) C 18 dX9_lent_13 (by decide) (fun c13 => ?_) (fun c13 => ?_)
        · refine g_iload_n (pc := 18) C dX9_lent_18 rfl ?_
          refine g_iconst (pc := 19) (v := -1) C dX9_lent_19 (by decide) ?_
          refine g_icmp_nE (pc := 20) C 41 dX9_lent_20 (by decide) (fun c20 => ?_) (fun c20 => ?_)
          · refine g_aload_n (pc := 41) C dX9_lent_41 rfl ?_
            apply gf_X9_61 (pc := 42) C rfl dX9_lent_42
            · repeat (first | assumption | exact Cl.s (by assumption) | refine Cl.n (by first | decide | omega) ?_)
            · rfl
            refine g_aload_n (pc := 45) C dX9_lent_45 rfl ?_
            apply gf_X9_68 (pc := 46) C rfl dX9_lent_46
            · repeat (first | assumption | exact Cl.s (by assumption) | refine Cl.n (by first | decide | omega) ?_)
            · rfl
            refine g_aload_n (pc := 49) C dX9_lent_49 rfl ?_
            apply gf_X9_26 (pc := 50) C rfl dX9_lent_50
            · repeat (first | assumption | exact Cl.s (by assumption) | refine Cl.n (by first | decide | omega) ?_)
            · rfl
            refine g_iload_n (pc := 53) C dX9_lent_53 rfl ?_
            apply cl_X9_227 (pc := 54) C rfl m1 dX9_lent_54
            · repeat (first | assumption | exact Cl.s (by assumption) | refine Cl.n (by first | decide | omega) ?_)
            · rfl
            · exact Nat.le_of_ble_eq_true rfl
            exact g_ireturn (pc := 57) C dX9_lent_57 rfl (rfl) (rfl)
          · exact absurd c20 hi1
        · exact absurd hb.2 c13
  · rw [show lentF T w r i = -1 by unfold lentF; rw [if_neg hb]]
    refine ⟨σ, ?_, hl', fr0⟩
    refine Mt.of (by decide +kernel) (Nat.le_of_ble_eq_true rfl) (fun κ C => ?_)
    refine g_iload_n (pc := 0) C dX9_lent_0 rfl ?_
    refine g_iconst (pc := 1) (v := -1) C dX9_lent_1 (by decide) ?_
    refine g_icmp_lt (pc := 2) C 16 dX9_lent_2 (by decide) (fun c2 => ?_) (fun c2 => ?_)
    · refine g_iconst (pc := 16) (v := -1) C dX9_lent_16 (by decide) ?_
      exact g_ireturn (pc := 17) C dX9_lent_17 rfl (rfl) (rfl)
    · refine g_iload_n (pc := 5) C dX9_lent_5 rfl ?_
      refine g_aload_n (pc := 6) C dX9_lent_6 rfl ?_
      apply gf_X9_26 (pc := 7) C rfl dX9_lent_7
      · repeat (first | assumption | exact Cl.s (by assumption) | refine Cl.n (by first | decide | omega) ?_)
      · rfl
      apply gf_X9_109 (pc := 10) C rfl dX9_lent_10
      · repeat (first | assumption | exact Cl.s (by assumption) | refine Cl.n (by first | decide | omega) ?_)
      · rfl
      refine g_icmp_lt (pc := 13) C 18 dX9_lent_13 (by decide) (fun c13 => ?_) (fun c13 => ?_)
      · exact absurd ⟨Int32.not_lt.mp c2, c13⟩ hb
      · refine g_iconst (pc := 16) (v := -1) C dX9_lent_16 (by decide) ?_
        exact g_ireturn (pc := 17) C dX9_lent_17 rfl (rfl) (rfl)
end LEND3

