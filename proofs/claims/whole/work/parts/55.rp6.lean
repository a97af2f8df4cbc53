def tnO (P : TS) : Prop := 1 ≤ tm P → 1 ≤ tn P
theorem itm_tn {P P2 : TS} {x : Nat → Int32} {a e : Nat} (hP : tnO P) (h : itm x a e P = some P2) : tnO P2 := by
  unfold itm at h
  split at h
  · obtain ⟨v, w, hv, hw⟩ := thg_some h
    rw [hv, hw, thg_ss] at h
    split at h
    · cases h
      intro _
      show 1 ≤ tn P + 1
      omega
    · cases h
  · split at h
    · unfold prs at h
      split at h
      · rename_i q
        cases h
        exact fun _ => q.1
      · cases h
    · split at h
      · obtain ⟨v, hv⟩ := law_some h
        rw [hv] at h
        have h : (if v ≤ 3 then some (lawS P v) else none) = some P2 := h
        split at h
        · cases h; exact hP
        · cases h
      · split at h
        · obtain ⟨v, hv⟩ := grd_some h
          rw [hv] at h
          have h : (if v ≤ 31 then some (grdS P v) else none) = some P2 := h
          split at h
          · cases h; exact hP
          · cases h
        · cases h
theorem rd_tn (x : Nat → Int32) (n : Nat) : ∀ d a P, tnO P → tnO (rd x n d a P).2
  | 0, a, P, h => h
  | d + 1, a, P, h => by
    unfold rd
    split
    · exact h
    · split
      · exact h
      · split
        · exact h
        · rename_i P2 q
          exact rd_tn x n d _ P2 (itm_tn h q)
section RP6
variable {G : GG} {σ : WW} {T P : TS} {n : Nat} {x : Nat → Int32} {kept done rm : Int32}
theorem r_begins {len at_ : Int32} (h0 : Cl G σ 0 (cRef G len at_ kept done rm)) {ft fn fv fl fm fp : Nat → Int32} (hA : QA G σ ft fn fv fl fm fp) : ∃ σ', Mt G mX10_begins [.ref (ga G 0)] σ none σ' ∧ QA G σ' (upd (upd ft 2 (nI 0)) 3 (nI 31)) (upd fn 1 (nI 0)) fv fl (upd fm 1 (nI 0)) fp ∧ Fr σ σ' [2, 3, 6] := by
  obtain ⟨h2, h3, h4, h5, h6, h7⟩ := hA
  refine ⟨va_up (va_up (va_up (va_up σ 2 (iA G 4 (upd ft 2 (nI 0)))) 2 (iA G 4 (upd (upd ft 2 (nI 0)) 3 (nI 31)))) 3 (iA G 2 (upd fn 1 (nI 0)))) 6 (iA G 2 (upd fm 1 (nI 0))), ?_, ⟨Cl.n (by decide) (Cl.n (by decide) (Cl.s (Cl.s h2))), Cl.n (by decide) (Cl.s (Cl.n (by decide) (Cl.n (by decide) h3))), Cl.n (by decide) (Cl.n (by decide) (Cl.n (by decide) (Cl.n (by decide) h4))), Cl.n (by decide) (Cl.n (by decide) (Cl.n (by decide) (Cl.n (by decide) h5))), Cl.s (Cl.n (by decide) (Cl.n (by decide) (Cl.n (by decide) h6))), Cl.n (by decide) (Cl.n (by decide) (Cl.n (by decide) (Cl.n (by decide) h7)))⟩, fr3 (fr3 (fr3 (fr3 fr0 (by decide)) (by decide)) (by decide)) (by decide)⟩
  refine Mt.of (by decide +kernel) (Nat.le_of_ble_eq_true rfl) (fun κ C => ?_)
  refine g_aload_n (pc := 0) C dX10_begins_0 rfl ?_
  apply gf_X10_13 (pc := 1) C rfl dX10_begins_1
  · repeat (first | assumption | exact Cl.s (by assumption) | refine Cl.n (by first | decide | omega) ?_)
  · rfl
  refine g_iconst (pc := 4) (v := nI 2) C dX10_begins_4 (by decide) ?_
  refine g_iconst (pc := 5) (v := nI 0) C dX10_begins_5 (by decide) ?_
  apply g_iastore (pc := 6) C dX10_begins_6
  · repeat (first | assumption | exact Cl.s (by assumption) | refine Cl.n (by first | decide | omega) ?_)
  · exact vp_in_nI (n := 2) (by decide) (by decide)
  intro hw6
  rw [nI_clamp (by decide)]
  refine g_aload_n (pc := 7) C dX10_begins_7 rfl ?_
  apply gf_X10_13 (pc := 8) C rfl dX10_begins_8
  · repeat (first | assumption | exact Cl.s (by assumption) | refine Cl.n (by first | decide | omega) ?_)
  · rfl
  refine g_iconst (pc := 11) (v := nI 3) C dX10_begins_11 (by decide) ?_
  refine g_bipush (pc := 12) (v := nI 31) C dX10_begins_12 (by decide) ?_
  apply g_iastore (pc := 14) C dX10_begins_14
  · repeat (first | assumption | exact Cl.s (by assumption) | refine Cl.n (by first | decide | omega) ?_)
  · exact vp_in_nI (n := 3) (by decide) (by decide)
  intro hw14
  rw [nI_clamp (by decide)]
  refine g_aload_n (pc := 15) C dX10_begins_15 rfl ?_
  apply gf_X10_17 (pc := 16) C rfl dX10_begins_16
  · repeat (first | assumption | exact Cl.s (by assumption) | refine Cl.n (by first | decide | omega) ?_)
  · rfl
  refine g_iconst (pc := 19) (v := nI 1) C dX10_begins_19 (by decide) ?_
  refine g_iconst (pc := 20) (v := nI 0) C dX10_begins_20 (by decide) ?_
  apply g_iastore (pc := 21) C dX10_begins_21
  · repeat (first | assumption | exact Cl.s (by assumption) | refine Cl.n (by first | decide | omega) ?_)
  · exact vp_in_nI (n := 1) (by decide) (by decide)
  intro hw21
  rw [nI_clamp (by decide)]
  refine g_aload_n (pc := 22) C dX10_begins_22 rfl ?_
  apply gf_X10_26 (pc := 23) C rfl dX10_begins_23
  · repeat (first | assumption | exact Cl.s (by assumption) | refine Cl.n (by first | decide | omega) ?_)
  · rfl
  refine g_iconst (pc := 26) (v := nI 1) C dX10_begins_26 (by decide) ?_
  refine g_iconst (pc := 27) (v := nI 0) C dX10_begins_27 (by decide) ?_
  apply g_iastore (pc := 28) C dX10_begins_28
  · repeat (first | assumption | exact Cl.s (by assumption) | refine Cl.n (by first | decide | omega) ?_)
  · exact vp_in_nI (n := 1) (by decide) (by decide)
  intro hw28
  rw [nI_clamp (by decide)]
  exact g_return (pc := 29) C dX10_begins_29 rfl rfl (rfl)
theorem q_fault {at_ : Int32} (hn : n ≤ 300) (h0 : Cl G σ 0 (cRef G (nI n) at_ kept done rm)) (hx : QX G σ n x) (hT : QT G σ T) : ∃ σ', Mt G mX10_fault [.ref (ga G 0)] σ (some (.int (fltI (rd x n 300 0 P0).1))) σ' ∧ (∃ at', Cl G σ' 0 (cRef G (nI n) at' kept done rm)) ∧ QS G σ' T (rdR x n 300 0 P0).2 ∧ Fr σ σ' [0, 2, 3, 4, 5, 6, 7] := by
  rw [← (rdR_rd x n 300 0 P0).1]
  have loop : ∀ (d a : Nat) (P : TS) {σ1 : WW}, n ≤ a + d → a ≤ n → Cl G σ1 0 (cRef G (nI n) (nI a) kept done rm) → QS G σ1 T (some P) → Fr σ σ1 [0, 2, 3, 4, 5, 6, 7] → ∃ σ', (∀ κ, Cx G mX10_fault κ → Go G mX10_fault κ (some (.int (fltI (rdR x n d a P).1))) σ' σ1 9 [(0, .ref (ga G 0))] []) ∧ (∃ at', Cl G σ' 0 (cRef G (nI n) at' kept done rm)) ∧ QS G σ' T (rdR x n d a P).2 ∧ Fr σ σ' [0, 2, 3, 4, 5, 6, 7] := by
    intro d
    have stopN : ∀ (d a : Nat) (P : TS) {σ1 : WW}, n ≤ a → a ≤ n → Cl G σ1 0 (cRef G (nI n) (nI a) kept done rm) → QS G σ1 T (some P) → Fr σ σ1 [0, 2, 3, 4, 5, 6, 7] → ∃ σ', (∀ κ, Cx G mX10_fault κ → Go G mX10_fault κ (some (.int (fltI (rdR x n d a P).1))) σ' σ1 9 [(0, .ref (ga G 0))] []) ∧ (∃ at', Cl G σ' 0 (cRef G (nI n) at' kept done rm)) ∧ QS G σ' T (rdR x n d a P).2 ∧ Fr σ σ' [0, 2, 3, 4, 5, 6, 7] := by
      intro d a P σ1 hna han z0 zS zF
      have e : rdR x n d a P = (none, some P) := by
        rcases d with _ | d
        · rfl
        · unfold rdR; rw [if_pos hna]
      rw [e]
      refine ⟨σ1, fun κ C => ?_, ⟨_, z0⟩, zS, zF⟩
      refine g_aload_n (pc := 9) C dX10_fault_9 rfl ?_
      apply gf_X10_82 (pc := 10) C rfl dX10_fault_10
      · repeat (first | assumption | exact Cl.s (by assumption) | refine Cl.n (by first | decide | omega) ?_)
      · rfl
      refine g_aload_n (pc := 13) C dX10_fault_13 rfl ?_
      apply gf_X10_78 (pc := 14) C rfl dX10_fault_14
      · repeat (first | assumption | exact Cl.s (by assumption) | refine Cl.n (by first | decide | omega) ?_)
      · rfl
      refine g_icmp_ge (pc := 17) C 37 dX10_fault_17 (by decide) (fun c17 => ?_) (fun c17 => ?_)
      · refine g_bipush (pc := 37) (v := -4) C dX10_fault_37 (by decide) ?_
        exact g_ireturn (pc := 39) C dX10_fault_39 rfl (rfl) (rfl)
      · exact absurd (nI_le hna (by omega)) c17
    induction d with
    | zero =>
      intro a P σ1 hd han z0 zS zF
      exact stopN 0 a P (by omega) han z0 zS zF
    | succ d ih =>
      intro a P σ1 hd han z0 zS zF
      by_cases hna : n ≤ a
      · exact stopN (d + 1) a P hna han z0 zS zF
      · obtain ⟨gt, gn, gv, gl', gm, gp, gA, gT, gP⟩ := zS
        obtain ⟨σ2, k1, ⟨at', y0, hat⟩, k2, k3⟩ := r_isItem (a := a) (by omega) hn z0 (hx.fr zF (by decide)) gA gT (gP P rfl)
        have F2 : Fr σ σ2 [0, 2, 3, 4, 5, 6, 7] := fun j hj => (k3 j hj).trans (zF j hj)
        rcases ho : itO x n a P with _ | P2
        · have e : rdR x n (d + 1) a P = (some a, none) := by rw [rdR, if_neg hna, ho]
          rw [e]
          rw [ho] at k1 k2
          refine ⟨σ2, fun κ C => ?_, ⟨_, y0⟩, k2, F2⟩
          refine g_aload_n (pc := 9) C dX10_fault_9 rfl ?_
          apply gf_X10_82 (pc := 10) C rfl dX10_fault_10
          · repeat (first | assumption | exact Cl.s (by assumption) | refine Cl.n (by first | decide | omega) ?_)
          · rfl
          refine g_aload_n (pc := 13) C dX10_fault_13 rfl ?_
          apply gf_X10_78 (pc := 14) C rfl dX10_fault_14
          · repeat (first | assumption | exact Cl.s (by assumption) | refine Cl.n (by first | decide | omega) ?_)
          · rfl
          refine g_icmp_ge (pc := 17) C 37 dX10_fault_17 (by decide) (fun c17 => ?_) (fun c17 => ?_)
          · exact absurd c17 (nI_ge (by omega) (by omega))
          · refine g_aload_n (pc := 20) C dX10_fault_20 rfl ?_
            apply gf_X10_82 (pc := 21) C rfl dX10_fault_21
            · repeat (first | assumption | exact Cl.s (by assumption) | refine Cl.n (by first | decide | omega) ?_)
            · rfl
            refine g_istore_n (pc := 24) C dX10_fault_24 (by decide) rfl ?_
            refine g_aload_n (pc := 25) C dX10_fault_25 rfl ?_
            apply cl_X10_120 (pc := 26) C rfl k1 dX10_fault_26
            · repeat (first | assumption | exact Cl.s (by assumption) | refine Cl.n (by first | decide | omega) ?_)
            · rfl
            · exact Nat.le_of_ble_eq_true rfl
            refine g_if_nE (pc := 29) C 34 dX10_fault_29 (by decide) (fun c29 => ?_) (fun c29 => ?_)
            · exact absurd rfl c29
            · refine g_iload_n (pc := 32) C dX10_fault_32 rfl ?_
              exact g_ireturn (pc := 33) C dX10_fault_33 rfl (rfl) (rfl)
        · have e : rdR x n (d + 1) a P = rdR x n d (itE x n a + 1) P2 := by rw [rdR, if_neg hna, ho]
          obtain ⟨f1, f2, f3⟩ := it_fwd (by omega) ho
          have f4 := (fnd_le x 59 (n - a) a).1
          rw [e]
          rw [ho] at k1 k2 hat
          rw [hat rfl] at y0
          obtain ⟨σ3, j1, j2⟩ := ih (itE x n a + 1) P2 (by omega) (by omega) y0 k2 F2
          refine ⟨σ3, fun κ C => ?_, j2⟩
          refine g_aload_n (pc := 9) C dX10_fault_9 rfl ?_
          apply gf_X10_82 (pc := 10) C rfl dX10_fault_10
          · repeat (first | assumption | exact Cl.s (by assumption) | refine Cl.n (by first | decide | omega) ?_)
          · rfl
          refine g_aload_n (pc := 13) C dX10_fault_13 rfl ?_
          apply gf_X10_78 (pc := 14) C rfl dX10_fault_14
          · repeat (first | assumption | exact Cl.s (by assumption) | refine Cl.n (by first | decide | omega) ?_)
          · rfl
          refine g_icmp_ge (pc := 17) C 37 dX10_fault_17 (by decide) (fun c17 => ?_) (fun c17 => ?_)
          · exact absurd c17 (nI_ge (by omega) (by omega))
          · refine g_aload_n (pc := 20) C dX10_fault_20 rfl ?_
            apply gf_X10_82 (pc := 21) C rfl dX10_fault_21
            · repeat (first | assumption | exact Cl.s (by assumption) | refine Cl.n (by first | decide | omega) ?_)
            · rfl
            refine g_istore_n (pc := 24) C dX10_fault_24 (by decide) rfl ?_
            refine g_aload_n (pc := 25) C dX10_fault_25 rfl ?_
            apply cl_X10_120 (pc := 26) C rfl k1 dX10_fault_26
            · repeat (first | assumption | exact Cl.s (by assumption) | refine Cl.n (by first | decide | omega) ?_)
            · rfl
            · exact Nat.le_of_ble_eq_true rfl
            refine g_if_nE (pc := 29) C 34 dX10_fault_29 (by decide) (fun c29 => ?_) (fun c29 => ?_)
            · refine g_goto (pc := 34) C 9 dX10_fault_34 (by decide) ?_
              exact g_to (j1 κ C) ⟨rfl, trivial⟩
            · exact absurd c29 (by show ¬ nI (b2 true) = 0; decide)
  obtain ⟨ft, fn, fv, fl, fm, fp, hA, hTT⟩ := hT.a
  have z0 : Cl G (va_up σ 0 (cRef G (nI n) (nI 0) kept done rm)) 0 (cRef G (nI n) (nI 0) kept done rm) := Cl.s h0
  obtain ⟨σ1, b1, b2, b3⟩ := r_begins z0 (hA.u0 (e := cRef G (nI n) (nI 0) kept done rm))
  have y0 := z0.fr b3 (by decide)
  obtain ⟨σ2, k1, k2, k3, k4⟩ := loop 300 0 P0 (σ1 := σ1) (by omega) (by omega) y0 ⟨_, _, _, _, _, _, b2, hTT.cg (by rw [pk_un (by decide), pk_un (by decide)]) (by rw [pk_un (by decide), pk_un (by decide)]) (pk_un (by decide)) (pk_un (by decide)) (fun _ _ => rfl) (fun _ _ => rfl) (fun _ _ => rfl), fun P z => by
    cases z
    exact ⟨TW_P0, by rw [pk_un (by decide), pk_us]; rfl, pk_us, pk_us, pk_us, fun t ht => absurd ht (Nat.not_lt_zero t), fun t ht => absurd ht (Nat.not_lt_zero t), fun t ht => absurd ht (Nat.not_lt_zero t)⟩⟩ (fun j hj => (b3 j (fun z => hj (by revert z; simp; omega))).trans (fr3 fr0 (by decide) j hj))
  refine ⟨σ2, ?_, k2, k3, k4⟩
  refine Mt.of (by decide +kernel) (Nat.le_of_ble_eq_true rfl) (fun κ C => ?_)
  refine g_aload_n (pc := 0) C dX10_fault_0 rfl ?_
  refine g_iconst (pc := 1) (v := nI 0) C dX10_fault_1 (by decide) ?_
  apply pf_X10_82 (pc := 2) C rfl dX10_fault_2
  · repeat (first | assumption | exact Cl.s (by assumption) | refine Cl.n (by first | decide | omega) ?_)
  · rfl
  · rfl
  · exact Nat.le_of_ble_eq_true rfl
  intro hw2
  refine g_aload_n (pc := 5) C dX10_fault_5 rfl ?_
  apply cl_X10_66 (pc := 6) C rfl b1 dX10_fault_6
  · repeat (first | assumption | exact Cl.s (by assumption) | refine Cl.n (by first | decide | omega) ?_)
  · rfl
  · exact Nat.le_of_ble_eq_true rfl
  exact g_to (k1 κ C) ⟨rfl, trivial⟩
theorem r_takes {len at_ : Int32} (h0 : Cl G σ 0 (cRef G len at_ kept done rm)) {ft fn fv fl fm fp fs : Nat → Int32} (hA : QA G σ ft fn fv fl fm fp) (hP : tP P ft fn fv fl fm fp) (hm1 : 1 ≤ tm P) (h8 : Cl G σ 8 (iA G 9 fs)) : ∃ σ', Mt G mX10_takes [.ref (ga G 0)] σ none σ' ∧ Cl G σ' 0 (cRef G len at_ (nI 0) (nI 0) (nI 0)) ∧ QT G σ' P ∧ (∃ fs', Cl G σ' 8 (iA G 9 fs') ∧ s3 fs' 0 (0, 0, 0)) ∧ Fr σ σ' [0, 2, 3, 4, 5, 6, 7, 8] := by
  obtain ⟨h2, h3, h4, h5, h6, h7⟩ := id hA
  obtain ⟨hW, p0, p1, p2, p3, p4, p5, p6⟩ := id hP
  have hn5 := hW.1
  have hm9 := hW.2.2.2.2.1
  have loop : ∀ (d k : Nat) {σ1 : WW} {fv1 fl1 fp1 : Nat → Int32}, k + d = 45 → Cl G σ1 0 (cRef G len at_ kept done rm) → Cl G σ1 8 (iA G 9 fs) → QA G σ1 (upd (upd ft 0 (ft 2)) 1 (ft 3)) (upd fn 0 (fn 1)) fv1 fl1 (upd fm 0 (fm 1)) fp1 → (∀ j, j < k → fp1 j = fp (45 + j)) → (∀ j, 45 ≤ j → fp1 j = fp j) → (∀ j, j < k → j < 5 → fv1 j = fv (5 + j)) → (∀ j, 5 ≤ j → fv1 j = fv j) → (∀ j, j < k → j < 5 → fl1 j = fl (5 + j)) → (∀ j, 5 ≤ j → fl1 j = fl j) → Fr σ σ1 [0, 2, 3, 4, 5, 6, 7, 8] → ∃ σ', (∀ κ, Cx G mX10_takes κ → Go G mX10_takes κ none σ' σ1 50 [(0, .ref (ga G 0)), (1, .int (nI k))] []) ∧ Cl G σ' 0 (cRef G len at_ (nI 0) (nI 0) (nI 0)) ∧ QT G σ' P ∧ (∃ fs', Cl G σ' 8 (iA G 9 fs') ∧ s3 fs' 0 (0, 0, 0)) ∧ Fr σ σ' [0, 2, 3, 4, 5, 6, 7, 8] := by
    intro d
    induction d with
    | zero =>
      intro k σ1 fv1 fl1 fp1 hk z0 z8 zA a1 a2 b1 b2 c1 c2 zF
      have hk' : k = 45 := by omega
      subst hk'
      have zF2 : Fr σ1 (va_up (va_up (va_up (va_up (va_up (va_up σ1 8 (iA G 9 (upd fs 0 (nI 0)))) 8 (iA G 9 (upd (upd fs 0 (nI 0)) 1 (-4)))) 8 (iA G 9 (upd (upd (upd fs 0 (nI 0)) 1 (-4)) 2 (nI 0)))) 0 (cRef G len at_ kept done (nI 0))) 0 (cRef G len at_ kept (nI 0) (nI 0))) 0 (cRef G len at_ (nI 0) (nI 0) (nI 0))) [0, 8] := fr3 (fr3 (fr3 (fr3 (fr3 (fr3 fr0 (by decide)) (by decide)) (by decide)) (by decide)) (by decide)) (by decide)
      refine ⟨_, fun κ C => ?_, Cl.s (Cl.s (Cl.s (Cl.n (by decide) (Cl.n (by decide) (Cl.n (by decide) z0))))), ?_, ⟨_, Cl.n (by decide) (Cl.n (by decide) (Cl.n (by decide) (Cl.s (Cl.s (Cl.s z8))))), ?_, ?_, ?_⟩, fun j hj => (zF2 j (fun z => hj (by revert z; simp; omega))).trans (zF j hj)⟩
      · refine g_iload_n (pc := 50) C dX10_takes_50 rfl ?_
        refine g_bipush (pc := 51) (v := nI 45) C dX10_takes_51 (by decide) ?_
        refine g_icmp_ge (pc := 53) C 110 dX10_takes_53 (by decide) (fun c53 => ?_) (fun c53 => ?_)
        · refine g_aload_n (pc := 110) C dX10_takes_110 rfl ?_
          apply gf_X10_32 (pc := 111) C rfl dX10_takes_111
          · repeat (first | assumption | exact Cl.s (by assumption) | refine Cl.n (by first | decide | omega) ?_)
          · rfl
          refine g_iconst (pc := 114) (v := nI 0) C dX10_takes_114 (by decide) ?_
          refine g_iconst (pc := 115) (v := nI 0) C dX10_takes_115 (by decide) ?_
          apply g_iastore (pc := 116) C dX10_takes_116
          · repeat (first | assumption | exact Cl.s (by assumption) | refine Cl.n (by first | decide | omega) ?_)
          · exact vp_in_nI (n := 0) (by decide) (by decide)
          intro hw116
          rw [nI_clamp (by decide)]
          refine g_aload_n (pc := 117) C dX10_takes_117 rfl ?_
          apply gf_X10_32 (pc := 118) C rfl dX10_takes_118
          · repeat (first | assumption | exact Cl.s (by assumption) | refine Cl.n (by first | decide | omega) ?_)
          · rfl
          refine g_iconst (pc := 121) (v := nI 1) C dX10_takes_121 (by decide) ?_
          refine g_bipush (pc := 122) (v := -4) C dX10_takes_122 (by decide) ?_
          apply g_iastore (pc := 124) C dX10_takes_124
          · repeat (first | assumption | exact Cl.s (by assumption) | refine Cl.n (by first | decide | omega) ?_)
          · exact vp_in_nI (n := 1) (by decide) (by decide)
          intro hw124
          rw [nI_clamp (by decide)]
          refine g_aload_n (pc := 125) C dX10_takes_125 rfl ?_
          apply gf_X10_32 (pc := 126) C rfl dX10_takes_126
          · repeat (first | assumption | exact Cl.s (by assumption) | refine Cl.n (by first | decide | omega) ?_)
          · rfl
          refine g_iconst (pc := 129) (v := nI 2) C dX10_takes_129 (by decide) ?_
          refine g_iconst (pc := 130) (v := nI 0) C dX10_takes_130 (by decide) ?_
          apply g_iastore (pc := 131) C dX10_takes_131
          · repeat (first | assumption | exact Cl.s (by assumption) | refine Cl.n (by first | decide | omega) ?_)
          · exact vp_in_nI (n := 2) (by decide) (by decide)
          intro hw131
          rw [nI_clamp (by decide)]
          refine g_aload_n (pc := 132) C dX10_takes_132 rfl ?_
          refine g_iconst (pc := 133) (v := nI 0) C dX10_takes_133 (by decide) ?_
          apply pf_X10_111 (pc := 134) C rfl dX10_takes_134
          · repeat (first | assumption | exact Cl.s (by assumption) | refine Cl.n (by first | decide | omega) ?_)
          · rfl
          · rfl
          · exact Nat.le_of_ble_eq_true rfl
          intro hw134
          refine g_aload_n (pc := 137) C dX10_takes_137 rfl ?_
          refine g_iconst (pc := 138) (v := nI 0) C dX10_takes_138 (by decide) ?_
          apply pf_X10_114 (pc := 139) C rfl dX10_takes_139
          · repeat (first | assumption | exact Cl.s (by assumption) | refine Cl.n (by first | decide | omega) ?_)
          · rfl
          · rfl
          · exact Nat.le_of_ble_eq_true rfl
          intro hw139
          refine g_aload_n (pc := 142) C dX10_takes_142 rfl ?_
          refine g_iconst (pc := 143) (v := nI 0) C dX10_takes_143 (by decide) ?_
          apply pf_X10_117 (pc := 144) C rfl dX10_takes_144
          · repeat (first | assumption | exact Cl.s (by assumption) | refine Cl.n (by first | decide | omega) ?_)
          · rfl
          · rfl
          · exact Nat.le_of_ble_eq_true rfl
          intro hw144
          exact g_return (pc := 147) C dX10_takes_147 rfl rfl (rfl)
        · exact absurd (nI_le (by omega) (by omega)) c53
      · refine QT.of (zA.fr zF2 (by decide) (by decide) (by decide) (by decide) (by decide) (by decide)) ⟨hW, hm1, ?_, ?_, ?_, ?_, fun t ht => ?_, fun t ht => ?_, fun i hi t ht => ?_⟩
        · rw [pk_un (by decide), pk_us, p0]
        · rw [pk_us, p1]
        · rw [pk_us, p2]
        · rw [pk_us, p3]
        · rw [b1 t (by omega) (by omega)]; exact p4 t ht
        · rw [c1 t (by omega) (by omega)]; exact p5 t ht
        · rw [a1 (5 * i + t) (by omega), ← Nat.add_assoc]; exact p6 i hi t ht
      · rw [pk_un (by decide), pk_un (by decide), pk_us]
      · show _ = (-4 : Int32)
        rw [pk_un (by decide), pk_us]
      · rw [pk_us]
    | succ d ih =>
      intro k σ1 fv1 fl1 fp1 hk z0 z8 zA a1 a2 b1 b2 c1 c2 zF
      obtain ⟨g2, g3, g4, g5, g6, g7⟩ := id zA
      by_cases h5' : k < 5
      · obtain ⟨σ', k1, k2⟩ := ih (k + 1) (σ1 := va_up (va_up (va_up σ1 7 (iA G 90 (upd fp1 k (fp (45 + k))))) 4 (iA G 10 (upd fv1 k (fv (5 + k))))) 5 (iA G 10 (upd fl1 k (fl (5 + k))))) (fv1 := upd fv1 k (fv (5 + k))) (fl1 := upd fl1 k (fl (5 + k))) (fp1 := upd fp1 k (fp (45 + k))) (by omega) (Cl.n (by decide) (Cl.n (by decide) (Cl.n (by decide) z0))) (Cl.n (by decide) (Cl.n (by decide) (Cl.n (by decide) z8))) ⟨Cl.n (by decide) (Cl.n (by decide) (Cl.n (by decide) g2)), Cl.n (by decide) (Cl.n (by decide) (Cl.n (by decide) g3)), Cl.n (by decide) (Cl.s (Cl.n (by decide) g4)), Cl.s (Cl.n (by decide) (Cl.n (by decide) g5)), Cl.n (by decide) (Cl.n (by decide) (Cl.n (by decide) g6)), Cl.n (by decide) (Cl.n (by decide) (Cl.s g7))⟩ (fun j hj => by
          by_cases z : j = k
          · rw [z, pk_us]
          · rw [pk_un z]; exact a1 j (by omega)) (fun j hj => by rw [pk_un (by omega)]; exact a2 j hj) (fun j hj h5 => by
          by_cases z : j = k
          · rw [z, pk_us]
          · rw [pk_un z]; exact b1 j (by omega) h5) (fun j hj => by rw [pk_un (by omega)]; exact b2 j hj) (fun j hj h5 => by
          by_cases z : j = k
          · rw [z, pk_us]
          · rw [pk_un z]; exact c1 j (by omega) h5) (fun j hj => by rw [pk_un (by omega)]; exact c2 j hj) (fr3 (fr3 (fr3 zF (by decide)) (by decide)) (by decide))
        refine ⟨σ', fun κ C => ?_, k2⟩
        refine g_iload_n (pc := 50) C dX10_takes_50 rfl ?_
        refine g_bipush (pc := 51) (v := nI 45) C dX10_takes_51 (by decide) ?_
        refine g_icmp_ge (pc := 53) C 110 dX10_takes_53 (by decide) (fun c53 => ?_) (fun c53 => ?_)
        · exact absurd c53 (nI_ge (by omega) (by decide))
        · refine g_aload_n (pc := 56) C dX10_takes_56 rfl ?_
          apply gf_X10_29 (pc := 57) C rfl dX10_takes_57
          · repeat (first | assumption | exact Cl.s (by assumption) | refine Cl.n (by first | decide | omega) ?_)
          · rfl
          refine g_iload_n (pc := 60) C dX10_takes_60 rfl ?_
          refine g_aload_n (pc := 61) C dX10_takes_61 rfl ?_
          apply gf_X10_29 (pc := 62) C rfl dX10_takes_62
          · repeat (first | assumption | exact Cl.s (by assumption) | refine Cl.n (by first | decide | omega) ?_)
          · rfl
          refine g_bipush (pc := 65) (v := nI 45) C dX10_takes_65 (by decide) ?_
          refine g_iload_n (pc := 67) C dX10_takes_67 rfl ?_
          refine g_iadd (pc := 68) C dX10_takes_68 ?_
          rw [nI_add]
          apply g_iaload (pc := 69) C dX10_takes_69
          · repeat (first | assumption | exact Cl.s (by assumption) | refine Cl.n (by first | decide | omega) ?_)
          · exact vp_in_nI (by omega) (by decide)
          rw [nI_clamp (by omega), a2 _ (by omega)]
          apply g_iastore (pc := 70) C dX10_takes_70
          · repeat (first | assumption | exact Cl.s (by assumption) | refine Cl.n (by first | decide | omega) ?_)
          · exact vp_in_nI (by omega) (by decide)
          intro hw70
          rw [nI_clamp (by omega)]
          refine g_iload_n (pc := 71) C dX10_takes_71 rfl ?_
          refine g_iconst (pc := 72) (v := nI 5) C dX10_takes_72 (by decide) ?_
          refine g_icmp_ge (pc := 73) C 104 dX10_takes_73 (by decide) (fun c73 => ?_) (fun c73 => ?_)
          · exact absurd c73 (nI_ge h5' (by decide))
          · refine g_aload_n (pc := 76) C dX10_takes_76 rfl ?_
            apply gf_X10_20 (pc := 77) C rfl dX10_takes_77
            · repeat (first | assumption | exact Cl.s (by assumption) | refine Cl.n (by first | decide | omega) ?_)
            · rfl
            refine g_iload_n (pc := 80) C dX10_takes_80 rfl ?_
            refine g_aload_n (pc := 81) C dX10_takes_81 rfl ?_
            apply gf_X10_20 (pc := 82) C rfl dX10_takes_82
            · repeat (first | assumption | exact Cl.s (by assumption) | refine Cl.n (by first | decide | omega) ?_)
            · rfl
            refine g_iconst (pc := 85) (v := nI 5) C dX10_takes_85 (by decide) ?_
            refine g_iload_n (pc := 86) C dX10_takes_86 rfl ?_
            refine g_iadd (pc := 87) C dX10_takes_87 ?_
            rw [nI_add]
            apply g_iaload (pc := 88) C dX10_takes_88
            · repeat (first | assumption | exact Cl.s (by assumption) | refine Cl.n (by first | decide | omega) ?_)
            · exact vp_in_nI (by omega) (by decide)
            rw [nI_clamp (by omega), b2 _ (by omega)]
            apply g_iastore (pc := 89) C dX10_takes_89
            · repeat (first | assumption | exact Cl.s (by assumption) | refine Cl.n (by first | decide | omega) ?_)
            · exact vp_in_nI (by omega) (by decide)
            intro hw89
            rw [nI_clamp (by omega)]
            refine g_aload_n (pc := 90) C dX10_takes_90 rfl ?_
            apply gf_X10_23 (pc := 91) C rfl dX10_takes_91
            · repeat (first | assumption | exact Cl.s (by assumption) | refine Cl.n (by first | decide | omega) ?_)
            · rfl
            refine g_iload_n (pc := 94) C dX10_takes_94 rfl ?_
            refine g_aload_n (pc := 95) C dX10_takes_95 rfl ?_
            apply gf_X10_23 (pc := 96) C rfl dX10_takes_96
            · repeat (first | assumption | exact Cl.s (by assumption) | refine Cl.n (by first | decide | omega) ?_)
            · rfl
            refine g_iconst (pc := 99) (v := nI 5) C dX10_takes_99 (by decide) ?_
            refine g_iload_n (pc := 100) C dX10_takes_100 rfl ?_
            refine g_iadd (pc := 101) C dX10_takes_101 ?_
            rw [nI_add]
            apply g_iaload (pc := 102) C dX10_takes_102
            · repeat (first | assumption | exact Cl.s (by assumption) | refine Cl.n (by first | decide | omega) ?_)
            · exact vp_in_nI (by omega) (by decide)
            rw [nI_clamp (by omega), c2 _ (by omega)]
            apply g_iastore (pc := 103) C dX10_takes_103
            · repeat (first | assumption | exact Cl.s (by assumption) | refine Cl.n (by first | decide | omega) ?_)
            · exact vp_in_nI (by omega) (by decide)
            intro hw103
            rw [nI_clamp (by omega)]
            refine g_iinc (pc := 104) C dX10_takes_104 rfl (by decide) rfl ?_
            refine g_goto (pc := 107) C 50 dX10_takes_107 (by decide) ?_
            exact g_to (k1 κ C) ⟨rfl, lgi (nI_1 k), trivial⟩
      · obtain ⟨σ', k1, k2⟩ := ih (k + 1) (σ1 := va_up σ1 7 (iA G 90 (upd fp1 k (fp (45 + k))))) (fv1 := fv1) (fl1 := fl1) (fp1 := upd fp1 k (fp (45 + k))) (by omega) (Cl.n (by decide) z0) (Cl.n (by decide) z8) ⟨Cl.n (by decide) g2, Cl.n (by decide) g3, Cl.n (by decide) g4, Cl.n (by decide) g5, Cl.n (by decide) g6, Cl.s g7⟩ (fun j hj => by
          by_cases z : j = k
          · rw [z, pk_us]
          · rw [pk_un z]; exact a1 j (by omega)) (fun j hj => by rw [pk_un (by omega)]; exact a2 j hj) (fun j hj h5 => b1 j (by omega) h5) b2 (fun j hj h5 => c1 j (by omega) h5) c2 (fr3 zF (by decide))
        refine ⟨σ', fun κ C => ?_, k2⟩
        refine g_iload_n (pc := 50) C dX10_takes_50 rfl ?_
        refine g_bipush (pc := 51) (v := nI 45) C dX10_takes_51 (by decide) ?_
        refine g_icmp_ge (pc := 53) C 110 dX10_takes_53 (by decide) (fun c53 => ?_) (fun c53 => ?_)
        · exact absurd c53 (nI_ge (by omega) (by decide))
        · refine g_aload_n (pc := 56) C dX10_takes_56 rfl ?_
          apply gf_X10_29 (pc := 57) C rfl dX10_takes_57
          · repeat (first | assumption | exact Cl.s (by assumption) | refine Cl.n (by first | decide | omega) ?_)
          · rfl
          refine g_iload_n (pc := 60) C dX10_takes_60 rfl ?_
          refine g_aload_n (pc := 61) C dX10_takes_61 rfl ?_
          apply gf_X10_29 (pc := 62) C rfl dX10_takes_62
          · repeat (first | assumption | exact Cl.s (by assumption) | refine Cl.n (by first | decide | omega) ?_)
          · rfl
          refine g_bipush (pc := 65) (v := nI 45) C dX10_takes_65 (by decide) ?_
          refine g_iload_n (pc := 67) C dX10_takes_67 rfl ?_
          refine g_iadd (pc := 68) C dX10_takes_68 ?_
          rw [nI_add]
          apply g_iaload (pc := 69) C dX10_takes_69
          · repeat (first | assumption | exact Cl.s (by assumption) | refine Cl.n (by first | decide | omega) ?_)
          · exact vp_in_nI (by omega) (by decide)
          rw [nI_clamp (by omega), a2 _ (by omega)]
          apply g_iastore (pc := 70) C dX10_takes_70
          · repeat (first | assumption | exact Cl.s (by assumption) | refine Cl.n (by first | decide | omega) ?_)
          · exact vp_in_nI (by omega) (by decide)
          intro hw70
          rw [nI_clamp (by omega)]
          refine g_iload_n (pc := 71) C dX10_takes_71 rfl ?_
          refine g_iconst (pc := 72) (v := nI 5) C dX10_takes_72 (by decide) ?_
          refine g_icmp_ge (pc := 73) C 104 dX10_takes_73 (by decide) (fun c73 => ?_) (fun c73 => ?_)
          · refine g_iinc (pc := 104) C dX10_takes_104 rfl (by decide) rfl ?_
            refine g_goto (pc := 107) C 50 dX10_takes_107 (by decide) ?_
            exact g_to (k1 κ C) ⟨rfl, lgi (nI_1 k), trivial⟩
          · exact absurd (nI_le (by omega) (by omega)) c73
  obtain ⟨σ', k1, k2⟩ := loop 45 0 (σ1 := va_up (va_up (va_up (va_up σ 2 (iA G 4 (upd ft 0 (ft 2)))) 2 (iA G 4 (upd (upd ft 0 (ft 2)) 1 (ft 3)))) 3 (iA G 2 (upd fn 0 (fn 1)))) 6 (iA G 2 (upd fm 0 (fm 1)))) (fv1 := fv) (fl1 := fl) (fp1 := fp) (by omega) (Cl.n (by decide) (Cl.n (by decide) (Cl.n (by decide) (Cl.n (by decide) h0)))) (Cl.n (by decide) (Cl.n (by decide) (Cl.n (by decide) (Cl.n (by decide) h8)))) ⟨Cl.n (by decide) (Cl.n (by decide) (Cl.s (Cl.s h2))), Cl.n (by decide) (Cl.s (Cl.n (by decide) (Cl.n (by decide) h3))), Cl.n (by decide) (Cl.n (by decide) (Cl.n (by decide) (Cl.n (by decide) h4))), Cl.n (by decide) (Cl.n (by decide) (Cl.n (by decide) (Cl.n (by decide) h5))), Cl.s (Cl.n (by decide) (Cl.n (by decide) (Cl.n (by decide) h6))), Cl.n (by decide) (Cl.n (by decide) (Cl.n (by decide) (Cl.n (by decide) h7)))⟩ (fun j hj => absurd hj (Nat.not_lt_zero j)) (fun _ _ => rfl) (fun j hj => absurd hj (Nat.not_lt_zero j)) (fun _ _ => rfl) (fun j hj => absurd hj (Nat.not_lt_zero j)) (fun _ _ => rfl) (fr3 (fr3 (fr3 (fr3 fr0 (by decide)) (by decide)) (by decide)) (by decide))
  refine ⟨σ', ?_, k2⟩
  refine Mt.of (by decide +kernel) (Nat.le_of_ble_eq_true rfl) (fun κ C => ?_)
  refine g_aload_n (pc := 0) C dX10_takes_0 rfl ?_
  apply gf_X10_13 (pc := 1) C rfl dX10_takes_1
  · repeat (first | assumption | exact Cl.s (by assumption) | refine Cl.n (by first | decide | omega) ?_)
  · rfl
  refine g_iconst (pc := 4) (v := nI 0) C dX10_takes_4 (by decide) ?_
  refine g_aload_n (pc := 5) C dX10_takes_5 rfl ?_
  apply gf_X10_13 (pc := 6) C rfl dX10_takes_6
  · repeat (first | assumption | exact Cl.s (by assumption) | refine Cl.n (by first | decide | omega) ?_)
  · rfl
  refine g_iconst (pc := 9) (v := nI 2) C dX10_takes_9 (by decide) ?_
  apply g_iaload (pc := 10) C dX10_takes_10
  · repeat (first | assumption | exact Cl.s (by assumption) | refine Cl.n (by first | decide | omega) ?_)
  · exact vp_in_nI (n := 2) (by decide) (by decide)
  rw [nI_clamp (by decide)]
  apply g_iastore (pc := 11) C dX10_takes_11
  · repeat (first | assumption | exact Cl.s (by assumption) | refine Cl.n (by first | decide | omega) ?_)
  · exact vp_in_nI (n := 0) (by decide) (by decide)
  intro hw11
  rw [nI_clamp (by decide)]
  refine g_aload_n (pc := 12) C dX10_takes_12 rfl ?_
  apply gf_X10_13 (pc := 13) C rfl dX10_takes_13
  · repeat (first | assumption | exact Cl.s (by assumption) | refine Cl.n (by first | decide | omega) ?_)
  · rfl
  refine g_iconst (pc := 16) (v := nI 1) C dX10_takes_16 (by decide) ?_
  refine g_aload_n (pc := 17) C dX10_takes_17 rfl ?_
  apply gf_X10_13 (pc := 18) C rfl dX10_takes_18
  · repeat (first | assumption | exact Cl.s (by assumption) | refine Cl.n (by first | decide | omega) ?_)
  · rfl
  refine g_iconst (pc := 21) (v := nI 3) C dX10_takes_21 (by decide) ?_
  apply g_iaload (pc := 22) C dX10_takes_22
  · repeat (first | assumption | exact Cl.s (by assumption) | refine Cl.n (by first | decide | omega) ?_)
  · exact vp_in_nI (n := 3) (by decide) (by decide)
  rw [nI_clamp (by decide), pk_un (by decide)]
  apply g_iastore (pc := 23) C dX10_takes_23
  · repeat (first | assumption | exact Cl.s (by assumption) | refine Cl.n (by first | decide | omega) ?_)
  · exact vp_in_nI (n := 1) (by decide) (by decide)
  intro hw23
  rw [nI_clamp (by decide)]
  refine g_aload_n (pc := 24) C dX10_takes_24 rfl ?_
  apply gf_X10_17 (pc := 25) C rfl dX10_takes_25
  · repeat (first | assumption | exact Cl.s (by assumption) | refine Cl.n (by first | decide | omega) ?_)
  · rfl
  refine g_iconst (pc := 28) (v := nI 0) C dX10_takes_28 (by decide) ?_
  refine g_aload_n (pc := 29) C dX10_takes_29 rfl ?_
  apply gf_X10_17 (pc := 30) C rfl dX10_takes_30
  · repeat (first | assumption | exact Cl.s (by assumption) | refine Cl.n (by first | decide | omega) ?_)
  · rfl
  refine g_iconst (pc := 33) (v := nI 1) C dX10_takes_33 (by decide) ?_
  apply g_iaload (pc := 34) C dX10_takes_34
  · repeat (first | assumption | exact Cl.s (by assumption) | refine Cl.n (by first | decide | omega) ?_)
  · exact vp_in_nI (n := 1) (by decide) (by decide)
  rw [nI_clamp (by decide)]
  apply g_iastore (pc := 35) C dX10_takes_35
  · repeat (first | assumption | exact Cl.s (by assumption) | refine Cl.n (by first | decide | omega) ?_)
  · exact vp_in_nI (n := 0) (by decide) (by decide)
  intro hw35
  rw [nI_clamp (by decide)]
  refine g_aload_n (pc := 36) C dX10_takes_36 rfl ?_
  apply gf_X10_26 (pc := 37) C rfl dX10_takes_37
  · repeat (first | assumption | exact Cl.s (by assumption) | refine Cl.n (by first | decide | omega) ?_)
  · rfl
  refine g_iconst (pc := 40) (v := nI 0) C dX10_takes_40 (by decide) ?_
  refine g_aload_n (pc := 41) C dX10_takes_41 rfl ?_
  apply gf_X10_26 (pc := 42) C rfl dX10_takes_42
  · repeat (first | assumption | exact Cl.s (by assumption) | refine Cl.n (by first | decide | omega) ?_)
  · rfl
  refine g_iconst (pc := 45) (v := nI 1) C dX10_takes_45 (by decide) ?_
  apply g_iaload (pc := 46) C dX10_takes_46
  · repeat (first | assumption | exact Cl.s (by assumption) | refine Cl.n (by first | decide | omega) ?_)
  · exact vp_in_nI (n := 1) (by decide) (by decide)
  rw [nI_clamp (by decide)]
  apply g_iastore (pc := 47) C dX10_takes_47
  · repeat (first | assumption | exact Cl.s (by assumption) | refine Cl.n (by first | decide | omega) ?_)
  · exact vp_in_nI (n := 0) (by decide) (by decide)
  intro hw47
  rw [nI_clamp (by decide)]
  refine g_iconst (pc := 48) (v := nI 0) C dX10_takes_48 (by decide) ?_
  refine g_istore_n (pc := 49) C dX10_takes_49 (by decide) rfl ?_
  exact g_to (k1 κ C) ⟨rfl, rfl, trivial⟩
theorem q_layNo {at_ : Int32} {h : HH} (hn : n ≤ 300) (hg : QG G σ (nI n) at_ rm h) (hx : QX G σ n x) (hT : QT G σ T) (hno : (∃ a, (rd x n 300 0 P0).1 = some a) ∨ ((rd x n 300 0 P0).1 = none ∧ tm (rd x n 300 0 P0).2 = 0)) : ∃ σ', Mt G mX10_lay [.ref (ga G 0)] σ (some (.int (-2))) σ' ∧ (∃ at', QG G σ' (nI n) at' rm h) ∧ QT G σ' T ∧ Fr σ σ' [0, 2, 3, 4, 5, 6, 7] := by
  obtain ⟨h0, ⟨fs, h8, hs0, hs1⟩, fw, h9', hfw⟩ := hg
  obtain ⟨σ1, k1, ⟨at', y0⟩, k2, k3⟩ := q_fault hn h0 hx hT
  obtain ⟨gt, gn, gv, gl', gm, gp, gA, gT, gP⟩ := k2
  refine ⟨σ1, ?_, ⟨at', y0, ⟨fs, h8.fr k3 (by decide), hs0, hs1⟩, fw, h9'.fr k3 (by decide), hfw⟩, QT.of gA gT, k3⟩
  refine Mt.of (by decide +kernel) (Nat.le_of_ble_eq_true rfl) (fun κ C => ?_)
  rcases hno with ⟨a, ha⟩ | ⟨ha, hm0⟩
  · rw [ha] at k1
    have hne : ¬ nI a = -4 := by
      have hle : a ≤ 300 := by
        have : ∀ d b P, (rd x n d b P).1 = some a → a ≤ n := by
          intro d
          induction d with
          | zero => intro b P q; cases q
          | succ d ih =>
            intro b P q
            unfold rd at q
            split at q
            · cases q
            · split at q
              · cases q; omega
              · split at q
                · cases q; omega
                · exact ih _ _ q
        have := this _ _ _ ha
        omega
      intro q
      have := congrArg Int32.toInt q
      rw [nI_toInt (by omega), show (-4 : Int32).toInt = -4 by decide] at this
      omega
    refine g_aload_n (pc := 0) C dX10_lay_0 rfl ?_
    apply cl_X10_123 (pc := 1) C rfl k1 dX10_lay_1
    · repeat (first | assumption | exact Cl.s (by assumption) | refine Cl.n (by first | decide | omega) ?_)
    · rfl
    · exact Nat.le_of_ble_eq_true rfl
    refine g_bipush (pc := 4) (v := -4) C dX10_lay_4 (by decide) ?_
    refine g_icmp_nE (pc := 6) C 27 dX10_lay_6 (by decide) (fun c6 => ?_) (fun c6 => ?_)
    · refine g_bipush (pc := 27) (v := -2) C dX10_lay_27 (by decide) ?_
      exact g_ireturn (pc := 29) C dX10_lay_29 rfl (rfl) (rfl)
    · exact absurd c6 hne
  · have hP := gP _ ((rdR_rd x n 300 0 P0).2 ha)
    obtain ⟨hW, p0, p1, p2, p3, p4, p5, p6⟩ := id hP
    obtain ⟨g2, g3, g4, g5, g6, g7⟩ := id gA
    rw [ha] at k1
    refine g_aload_n (pc := 0) C dX10_lay_0 rfl ?_
    apply cl_X10_123 (pc := 1) C rfl k1 dX10_lay_1
    · repeat (first | assumption | exact Cl.s (by assumption) | refine Cl.n (by first | decide | omega) ?_)
    · rfl
    · exact Nat.le_of_ble_eq_true rfl
    refine g_bipush (pc := 4) (v := -4) C dX10_lay_4 (by decide) ?_
    refine g_icmp_nE (pc := 6) C 27 dX10_lay_6 (by decide) (fun c6 => ?_) (fun c6 => ?_)
    · exact absurd rfl c6
    · refine g_aload_n (pc := 9) C dX10_lay_9 rfl ?_
      apply gf_X10_17 (pc := 10) C rfl dX10_lay_10
      · repeat (first | assumption | exact Cl.s (by assumption) | refine Cl.n (by first | decide | omega) ?_)
      · rfl
      refine g_iconst (pc := 13) (v := nI 1) C dX10_lay_13 (by decide) ?_
      apply g_iaload (pc := 14) C dX10_lay_14
      · repeat (first | assumption | exact Cl.s (by assumption) | refine Cl.n (by first | decide | omega) ?_)
      · exact vp_in_nI (n := 1) (by decide) (by decide)
      refine g_if_eq (pc := 15) C 27 dX10_lay_15 (by decide) (fun c15 => ?_) (fun c15 => ?_)
      · refine g_bipush (pc := 27) (v := -2) C dX10_lay_27 (by decide) ?_
        exact g_ireturn (pc := 29) C dX10_lay_29 rfl (rfl) (rfl)
      · refine g_aload_n (pc := 18) C dX10_lay_18 rfl ?_
        apply gf_X10_26 (pc := 19) C rfl dX10_lay_19
        · repeat (first | assumption | exact Cl.s (by assumption) | refine Cl.n (by first | decide | omega) ?_)
        · rfl
        refine g_iconst (pc := 22) (v := nI 1) C dX10_lay_22 (by decide) ?_
        apply g_iaload (pc := 23) C dX10_lay_23
        · repeat (first | assumption | exact Cl.s (by assumption) | refine Cl.n (by first | decide | omega) ?_)
        · exact vp_in_nI (n := 1) (by decide) (by decide)
        rw [nI_clamp (by decide), p3, hm0]
        refine g_if_nE (pc := 24) C 30 dX10_lay_24 (by decide) (fun c24 => ?_) (fun c24 => ?_)
        · exact absurd rfl c24
        · refine g_bipush (pc := 27) (v := -2) C dX10_lay_27 (by decide) ?_
          exact g_ireturn (pc := 29) C dX10_lay_29 rfl (rfl) (rfl)
theorem q_lay {at_ : Int32} {h : HH} {P : TS} (hn : n ≤ 300) (hg : QG G σ (nI n) at_ rm h) (hx : QX G σ n x) (hT : QT G σ T) (hrd : rd x n 300 0 P0 = (none, P)) (hm1 : 1 ≤ tm P) : ∃ σ', Mt G mX10_lay [.ref (ga G 0)] σ (some (.int (nI (tm P)))) σ' ∧ (∃ at', QG G σ' (nI n) at' (nI 0) ((0, 0, 0), 0, h.2.2.1, 0, h.2.2.2.2)) ∧ QT G σ' P ∧ Fr σ σ' [0, 2, 3, 4, 5, 6, 7, 8] := by
  obtain ⟨h0, ⟨fs, h8, hs0, hs1⟩, fw, h9', hfw⟩ := hg
  obtain ⟨σ1, k1, ⟨at', y0⟩, k2, k3⟩ := q_fault hn h0 hx hT
  obtain ⟨gt, gn, gv, gl', gm, gp, gA, gT, gP⟩ := k2
  have ha : (rd x n 300 0 P0).1 = none := by rw [hrd]
  have hP := gP _ ((rdR_rd x n 300 0 P0).2 ha)
  rw [hrd] at hP k1
  obtain ⟨hW, p0, p1, p2, p3, p4, p5, p6⟩ := id hP
  obtain ⟨g2, g3, g4, g5, g6, g7⟩ := id gA
  have hn1 : 1 ≤ tn P := by
    have := rd_tn x n 300 0 P0 (fun q => absurd q (by decide))
    rw [hrd] at this
    exact this hm1
  have p2 : gn 1 = nI (tn P) := p2
  have p3 : gm 1 = nI (tm P) := p3
  have hn5 : tn P ≤ 5 := hW.1
  have hm9 : tm P ≤ 9 := hW.2.2.2.2.1
  obtain ⟨σ2, t1, t2, t3, ⟨fs', t4, t5⟩, t6⟩ := r_takes y0 gA hP hm1 (h8.fr k3 (by decide))
  refine ⟨σ2, ?_, ⟨at', t2, ⟨fs', t4, t5, fun k hk => absurd hk (Nat.not_lt_zero k)⟩, fw, (h9'.fr k3 (by decide)).fr t6 (by decide), fun k hk => absurd hk (Nat.not_lt_zero k)⟩, t3, fun j hj => (t6 j hj).trans (k3 j (fun z => hj (by revert z; simp; omega)))⟩
  obtain ⟨rt, rn, rv, rl, rm', rp, q2, q3, q4, q5, q6, q7, _, _, e0, e1, e2, e3, _⟩ := t3
  refine Mt.of (by decide +kernel) (Nat.le_of_ble_eq_true rfl) (fun κ C => ?_)
  refine g_aload_n (pc := 0) C dX10_lay_0 rfl ?_
  apply cl_X10_123 (pc := 1) C rfl k1 dX10_lay_1
  · repeat (first | assumption | exact Cl.s (by assumption) | refine Cl.n (by first | decide | omega) ?_)
  · rfl
  · exact Nat.le_of_ble_eq_true rfl
  refine g_bipush (pc := 4) (v := -4) C dX10_lay_4 (by decide) ?_
  refine g_icmp_nE (pc := 6) C 27 dX10_lay_6 (by decide) (fun c6 => ?_) (fun c6 => ?_)
  · exact absurd rfl c6
  · refine g_aload_n (pc := 9) C dX10_lay_9 rfl ?_
    apply gf_X10_17 (pc := 10) C rfl dX10_lay_10
    · repeat (first | assumption | exact Cl.s (by assumption) | refine Cl.n (by first | decide | omega) ?_)
    · rfl
    refine g_iconst (pc := 13) (v := nI 1) C dX10_lay_13 (by decide) ?_
    apply g_iaload (pc := 14) C dX10_lay_14
    · repeat (first | assumption | exact Cl.s (by assumption) | refine Cl.n (by first | decide | omega) ?_)
    · exact vp_in_nI (n := 1) (by decide) (by decide)
    rw [nI_clamp (by decide), p2]
    refine g_if_eq (pc := 15) C 27 dX10_lay_15 (by decide) (fun c15 => ?_) (fun c15 => ?_)
    · exact absurd c15 (nI_ne0 (by omega) (by omega))
    · refine g_aload_n (pc := 18) C dX10_lay_18 rfl ?_
      apply gf_X10_26 (pc := 19) C rfl dX10_lay_19
      · repeat (first | assumption | exact Cl.s (by assumption) | refine Cl.n (by first | decide | omega) ?_)
      · rfl
      refine g_iconst (pc := 22) (v := nI 1) C dX10_lay_22 (by decide) ?_
      apply g_iaload (pc := 23) C dX10_lay_23
      · repeat (first | assumption | exact Cl.s (by assumption) | refine Cl.n (by first | decide | omega) ?_)
      · exact vp_in_nI (n := 1) (by decide) (by decide)
      rw [nI_clamp (by decide), p3]
      refine g_if_nE (pc := 24) C 30 dX10_lay_24 (by decide) (fun c24 => ?_) (fun c24 => ?_)
      · refine g_aload_n (pc := 30) C dX10_lay_30 rfl ?_
        apply cl_X10_69 (pc := 31) C rfl t1 dX10_lay_31
        · repeat (first | assumption | exact Cl.s (by assumption) | refine Cl.n (by first | decide | omega) ?_)
        · rfl
        · exact Nat.le_of_ble_eq_true rfl
        refine g_aload_n (pc := 34) C dX10_lay_34 rfl ?_
        apply gf_X10_26 (pc := 35) C rfl dX10_lay_35
        · repeat (first | assumption | exact Cl.s (by assumption) | refine Cl.n (by first | decide | omega) ?_)
        · rfl
        refine g_iconst (pc := 38) (v := nI 0) C dX10_lay_38 (by decide) ?_
        apply g_iaload (pc := 39) C dX10_lay_39
        · repeat (first | assumption | exact Cl.s (by assumption) | refine Cl.n (by first | decide | omega) ?_)
        · exact vp_in_nI (n := 0) (by decide) (by decide)
        exact g_ireturn (pc := 40) C dX10_lay_40 rfl (by rw [nI_clamp (by decide), e3]) (rfl)
      · exact absurd c24 (nI_ne0 (by omega) (by omega))
end RP6

