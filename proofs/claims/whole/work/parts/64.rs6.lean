section RS6
variable {G : GG} {σ : WW} {T : TS} {len at_ kept done rm : Int32}
theorem r_valueOf (h0 : Cl G σ 0 (cRef G len at_ kept done rm)) (hT : QT G σ T) {c t : Nat} (hc : c < 1024) (ht : t < tn T) : Mt G mX10_valueOf [.ref (ga G 0), .int (nI c), .int (nI t)] σ (some (.int (nI (gd T c t)))) σ := by
  obtain ⟨ft, fn, fv, fl, fm, fp, h2, h3, h4, h5, h6, h7, hW, h1, e0, e1, e2, e3, hv, hl, hp⟩ := id hT
  have hn := hW.1
  refine Mt.of (by decide +kernel) (Nat.le_of_ble_eq_true rfl) (fun κ C => ?_)
  have loop : ∀ k, t + k + 1 ≤ tn T → Go G mX10_valueOf κ (some (.int (nI (gd T c t)))) σ σ 12 [(0, .ref (ga G 0)), (2, .int (nI t)), (3, .int (nI (rsk (tv T) (tn T) c (tn T - 1 - t - k)))), (4, .int (nI (t + k)))] [] := by
    intro k
    induction k with
    | zero =>
      intro hk
      have hr := rsk_le (tv T) (tn T) c (tn T - 1 - t - 0)
      have hvt := hW.2.1 t ht
      refine g_iload (pc := 12) C dX10_valueOf_12 rfl ?_
      refine g_iload_n (pc := 14) C dX10_valueOf_14 rfl ?_
      refine g_icmp_le (pc := 15) C 34 dX10_valueOf_15 (by decide) (fun c15 => ?_) (fun c15 => ?_)
      · refine g_iload_n (pc := 34) C dX10_valueOf_34 rfl ?_
        refine g_aload_n (pc := 35) C dX10_valueOf_35 rfl ?_
        apply gf_X10_20 (pc := 36) C rfl dX10_valueOf_36
        · repeat (first | assumption | exact Cl.s (by assumption) | refine Cl.n (by first | decide | omega) ?_)
        · rfl
        refine g_iload_n (pc := 39) C dX10_valueOf_39 rfl ?_
        apply g_iaload (pc := 40) C dX10_valueOf_40
        · repeat (first | assumption | exact Cl.s (by assumption) | refine Cl.n (by first | decide | omega) ?_)
        · exact vp_in_nI (by omega) (by decide)
        rw [nI_clamp (by omega), hv t ht]
        refine g_irem (pc := 41) C dX10_valueOf_41 (by rw [nx_0, nI_eq (by omega) (by decide)]; omega) ?_
        exact g_ireturn (pc := 42) C dX10_valueOf_42 rfl (by rw [pk_rem (by omega) (by omega) (by omega)]; rfl) (rfl)
      · exact absurd (nI_le (by omega) (by omega)) c15
    | succ k ih =>
      intro hk
      have hr := rsk_le (tv T) (tn T) c (tn T - 1 - t - (k + 1))
      have hvt := hW.2.1 (t + (k + 1)) (by omega)
      refine g_iload (pc := 12) C dX10_valueOf_12 rfl ?_
      refine g_iload_n (pc := 14) C dX10_valueOf_14 rfl ?_
      refine g_icmp_le (pc := 15) C 34 dX10_valueOf_15 (by decide) (fun c15 => ?_) (fun c15 => ?_)
      · exact absurd c15 (nI_ge (by omega) (by omega))
      · refine g_iload_n (pc := 18) C dX10_valueOf_18 rfl ?_
        refine g_aload_n (pc := 19) C dX10_valueOf_19 rfl ?_
        apply gf_X10_20 (pc := 20) C rfl dX10_valueOf_20
        · repeat (first | assumption | exact Cl.s (by assumption) | refine Cl.n (by first | decide | omega) ?_)
        · rfl
        refine g_iload (pc := 23) C dX10_valueOf_23 rfl ?_
        apply g_iaload (pc := 25) C dX10_valueOf_25
        · repeat (first | assumption | exact Cl.s (by assumption) | refine Cl.n (by first | decide | omega) ?_)
        · exact vp_in_nI (by omega) (by decide)
        rw [nI_clamp (by omega), hv _ (by omega)]
        refine g_idiv (pc := 26) C dX10_valueOf_26 (by rw [nx_0, nI_eq (by omega) (by decide)]; omega) ?_
        refine g_istore_n (pc := 27) C dX10_valueOf_27 (by decide) rfl ?_
        refine g_iinc (pc := 28) C dX10_valueOf_28 rfl (by decide) rfl ?_
        refine g_goto (pc := 31) C 12 dX10_valueOf_31 (by decide) ?_
        exact g_to (ih (by omega)) ⟨rfl, rfl, lgi (by
          rw [pk_div (by omega) (by omega) (by omega), show tn T - 1 - t - k = (tn T - 1 - t - (k + 1)) + 1 by omega]
          show _ = nI (rsk _ _ _ _ / tv T (tn T - 1 - (tn T - 1 - t - (k + 1))))
          rw [show tn T - 1 - (tn T - 1 - t - (k + 1)) = t + (k + 1) by omega]), lgi (by
          rw [show nI (t + (k + 1)) + Int32.ofInt (-1) = lat (t + k + 1) by rw [lat, Int32.sub_eq_add_neg]; rfl, lat_s]), trivial⟩
  refine g_iload_n (pc := 0) C dX10_valueOf_0 rfl ?_
  refine g_istore_n (pc := 1) C dX10_valueOf_1 (by decide) rfl ?_
  refine g_aload_n (pc := 2) C dX10_valueOf_2 rfl ?_
  apply gf_X10_17 (pc := 3) C rfl dX10_valueOf_3
  · repeat (first | assumption | exact Cl.s (by assumption) | refine Cl.n (by first | decide | omega) ?_)
  · rfl
  refine g_iconst (pc := 6) (v := nI 0) C dX10_valueOf_6 (by decide) ?_
  apply g_iaload (pc := 7) C dX10_valueOf_7
  · repeat (first | assumption | exact Cl.s (by assumption) | refine Cl.n (by first | decide | omega) ?_)
  · exact vp_in_nI (n := 0) (by decide) (by decide)
  rw [nI_clamp (by decide), e2]
  refine g_iconst (pc := 8) (v := nI 1) C dX10_valueOf_8 (by decide) ?_
  refine g_isub (pc := 9) C dX10_valueOf_9 ?_
  rw [pk_sub (by omega)]
  refine g_istore (pc := 10) C dX10_valueOf_10 (by decide) rfl ?_
  exact g_to (loop (tn T - 1 - t) (by omega)) ⟨rfl, rfl, lgi (by rw [Nat.sub_self]; rfl), lgi (by congr 1; omega), trivial⟩
theorem r_all (h0 : Cl G σ 0 (cRef G len at_ kept done rm)) (hT : QT G σ T) : Mt G mX10_all [.ref (ga G 0)] σ (some (.int (nI (NC T)))) σ := by
  obtain ⟨ft, fn, fv, fl, fm, fp, h2, h3, h4, h5, h6, h7, hW, h1, e0, e1, e2, e3, hv, hl, hp⟩ := id hT
  have hn := hW.1
  refine Mt.of (by decide +kernel) (Nat.le_of_ble_eq_true rfl) (fun κ C => ?_)
  have loop : ∀ d i, i + d = tn T → Go G mX10_all κ (some (.int (nI (NC T)))) σ σ 4 [(0, .ref (ga G 0)), (1, .int (nI (cds (tv T) i))), (2, .int (nI i))] [] := by
    intro d
    induction d with
    | zero =>
      intro i hi
      refine g_iload_n (pc := 4) C dX10_all_4 rfl ?_
      refine g_aload_n (pc := 5) C dX10_all_5 rfl ?_
      apply gf_X10_17 (pc := 6) C rfl dX10_all_6
      · repeat (first | assumption | exact Cl.s (by assumption) | refine Cl.n (by first | decide | omega) ?_)
      · rfl
      refine g_iconst (pc := 9) (v := nI 0) C dX10_all_9 (by decide) ?_
      apply g_iaload (pc := 10) C dX10_all_10
      · repeat (first | assumption | exact Cl.s (by assumption) | refine Cl.n (by first | decide | omega) ?_)
      · exact vp_in_nI (n := 0) (by decide) (by decide)
      rw [nI_clamp (by decide), e2]
      refine g_icmp_ge (pc := 11) C 29 dX10_all_11 (by decide) (fun c11 => ?_) (fun c11 => ?_)
      · refine g_iload_n (pc := 29) C dX10_all_29 rfl ?_
        exact g_ireturn (pc := 30) C dX10_all_30 rfl (by rw [show i = tn T by omega]) (rfl)
      · exact absurd (nI_le (by omega) (by omega)) c11
    | succ d ih =>
      intro i hi
      refine g_iload_n (pc := 4) C dX10_all_4 rfl ?_
      refine g_aload_n (pc := 5) C dX10_all_5 rfl ?_
      apply gf_X10_17 (pc := 6) C rfl dX10_all_6
      · repeat (first | assumption | exact Cl.s (by assumption) | refine Cl.n (by first | decide | omega) ?_)
      · rfl
      refine g_iconst (pc := 9) (v := nI 0) C dX10_all_9 (by decide) ?_
      apply g_iaload (pc := 10) C dX10_all_10
      · repeat (first | assumption | exact Cl.s (by assumption) | refine Cl.n (by first | decide | omega) ?_)
      · exact vp_in_nI (n := 0) (by decide) (by decide)
      rw [nI_clamp (by decide), e2]
      refine g_icmp_ge (pc := 11) C 29 dX10_all_11 (by decide) (fun c11 => ?_) (fun c11 => ?_)
      · exact absurd c11 (nI_ge (by omega) (by omega))
      · refine g_iload_n (pc := 14) C dX10_all_14 rfl ?_
        refine g_aload_n (pc := 15) C dX10_all_15 rfl ?_
        apply gf_X10_20 (pc := 16) C rfl dX10_all_16
        · repeat (first | assumption | exact Cl.s (by assumption) | refine Cl.n (by first | decide | omega) ?_)
        · rfl
        refine g_iload_n (pc := 19) C dX10_all_19 rfl ?_
        apply g_iaload (pc := 20) C dX10_all_20
        · repeat (first | assumption | exact Cl.s (by assumption) | refine Cl.n (by first | decide | omega) ?_)
        · exact vp_in_nI (by omega) (by decide)
        refine g_imul (pc := 21) C dX10_all_21 ?_
        refine g_istore_n (pc := 22) C dX10_all_22 (by decide) rfl ?_
        refine g_iinc (pc := 23) C dX10_all_23 rfl (by decide) rfl ?_
        refine g_goto (pc := 26) C 4 dX10_all_26 (by decide) ?_
        exact g_to (ih (i + 1) (by omega)) ⟨rfl, lgi (by rw [nI_clamp (by omega), hv i (by omega), pk_mul]; rfl), lgi (nI_1 i), trivial⟩
  refine g_iconst (pc := 0) (v := nI 1) C dX10_all_0 (by decide) ?_
  refine g_istore_n (pc := 1) C dX10_all_1 (by decide) rfl ?_
  refine g_iconst (pc := 2) (v := nI 0) C dX10_all_2 (by decide) ?_
  refine g_istore_n (pc := 3) C dX10_all_3 (by decide) rfl ?_
  exact g_to (loop (tn T) 0 (by omega)) ⟨rfl, rfl, rfl, trivial⟩
/-- as the reference gathers it -/
theorem DD_bits (T : TS) (x y : Nat → Nat) : DD T x y = bits (fun t => (seen T).testBit t && (x t != y t)) (tn T) := by
  apply Nat.eq_of_testBit_eq
  intro t
  rw [DD_tb, tb_bits]
  cases decide (t < tn T) <;> cases (seen T).testBit t <;> simp
theorem r_unlikeCodes (h0 : Cl G σ 0 (cRef G len at_ kept done rm)) (hT : QT G σ T) {a c : Nat} (ha : a < 1024) (hc : c < 1024) : Mt G mX10_unlikeCodes [.ref (ga G 0), .int (nI a), .int (nI c)] σ (some (.int (nI (DD T (gd T a) (gd T c))))) σ := by
  obtain ⟨ft, fn, fv, fl, fm, fp, h2, h3, h4, h5, h6, h7, hW, h1, e0, e1, e2, e3, hv, hl, hp⟩ := id hT
  have hn := hW.1
  have hs := seen_lt hW
  rw [DD_bits]
  refine Mt.of (by decide +kernel) (Nat.le_of_ble_eq_true rfl) (fun κ C => ?_)
  have loop : ∀ d i, i + d = tn T → Go G mX10_unlikeCodes κ (some (.int (nI (bits (fun t => (seen T).testBit t && (gd T a t != gd T c t)) (tn T))))) σ σ 5 [(0, .ref (ga G 0)), (1, .int (nI a)), (2, .int (nI c)), (3, .int (nI (bits (fun t => (seen T).testBit t && (gd T a t != gd T c t)) i))), (4, .int (nI i))] [] := by
    intro d
    induction d with
    | zero =>
      intro i hi
      refine g_iload (pc := 5) C dX10_unlikeCodes_5 rfl ?_
      refine g_aload_n (pc := 7) C dX10_unlikeCodes_7 rfl ?_
      apply gf_X10_17 (pc := 8) C rfl dX10_unlikeCodes_8
      · repeat (first | assumption | exact Cl.s (by assumption) | refine Cl.n (by first | decide | omega) ?_)
      · rfl
      refine g_iconst (pc := 11) (v := nI 0) C dX10_unlikeCodes_11 (by decide) ?_
      apply g_iaload (pc := 12) C dX10_unlikeCodes_12
      · repeat (first | assumption | exact Cl.s (by assumption) | refine Cl.n (by first | decide | omega) ?_)
      · exact vp_in_nI (n := 0) (by decide) (by decide)
      rw [nI_clamp (by decide), e2]
      refine g_icmp_ge (pc := 13) C 63 dX10_unlikeCodes_13 (by decide) (fun c13 => ?_) (fun c13 => ?_)
      · refine g_iload_n (pc := 63) C dX10_unlikeCodes_63 rfl ?_
        exact g_ireturn (pc := 64) C dX10_unlikeCodes_64 rfl (by rw [show i = tn T by omega]) (rfl)
      · exact absurd (nI_le (by omega) (by omega)) c13
    | succ d ih =>
      intro i hi
      have ga4 : gd T a i < 4 := dgv_4 hW a i (by omega)
      have gc4 : gd T c i < 4 := dgv_4 hW c i (by omega)
      have eb : nI (seen T) >>> (nI i &&& 31) &&& nI 1 = nI (b2 ((seen T).testBit i)) := by rw [nx_shr (by omega) (by omega), nx_and, tb_b2]
      cases hb : (seen T).testBit i
      · refine g_iload (pc := 5) C dX10_unlikeCodes_5 rfl ?_
        refine g_aload_n (pc := 7) C dX10_unlikeCodes_7 rfl ?_
        apply gf_X10_17 (pc := 8) C rfl dX10_unlikeCodes_8
        · repeat (first | assumption | exact Cl.s (by assumption) | refine Cl.n (by first | decide | omega) ?_)
        · rfl
        refine g_iconst (pc := 11) (v := nI 0) C dX10_unlikeCodes_11 (by decide) ?_
        apply g_iaload (pc := 12) C dX10_unlikeCodes_12
        · repeat (first | assumption | exact Cl.s (by assumption) | refine Cl.n (by first | decide | omega) ?_)
        · exact vp_in_nI (n := 0) (by decide) (by decide)
        rw [nI_clamp (by decide), e2]
        refine g_icmp_ge (pc := 13) C 63 dX10_unlikeCodes_13 (by decide) (fun c13 => ?_) (fun c13 => ?_)
        · exact absurd c13 (nI_ge (by omega) (by omega))
        · refine g_iload_n (pc := 16) C dX10_unlikeCodes_16 rfl ?_
          refine g_aload_n (pc := 17) C dX10_unlikeCodes_17 rfl ?_
          apply cl_X10_140 (pc := 18) C rfl (r_seen h0 hT) dX10_unlikeCodes_18
          · repeat (first | assumption | exact Cl.s (by assumption) | refine Cl.n (by first | decide | omega) ?_)
          · rfl
          · exact Nat.le_of_ble_eq_true rfl
          refine g_iload (pc := 21) C dX10_unlikeCodes_21 rfl ?_
          refine g_ishr (pc := 23) C dX10_unlikeCodes_23 ?_
          refine g_iconst (pc := 24) (v := nI 1) C dX10_unlikeCodes_24 (by decide) ?_
          refine g_iand (pc := 25) C dX10_unlikeCodes_25 ?_
          refine g_iconst (pc := 26) (v := nI 1) C dX10_unlikeCodes_26 (by decide) ?_
          refine g_icmp_nE (pc := 27) C 54 dX10_unlikeCodes_27 (by decide) (fun c27 => ?_) (fun c27 => ?_)
          · refine g_iconst (pc := 54) (v := nI 0) C dX10_unlikeCodes_54 (by decide) ?_
            refine g_ior (pc := 55) C dX10_unlikeCodes_55 ?_
            refine g_istore_n (pc := 56) C dX10_unlikeCodes_56 (by decide) rfl ?_
            refine g_iinc (pc := 57) C dX10_unlikeCodes_57 rfl (by decide) rfl ?_
            refine g_goto (pc := 60) C 5 dX10_unlikeCodes_60 (by decide) ?_
            exact g_to (ih (i + 1) (by omega)) ⟨rfl, rfl, rfl, lgi (by rw [nx_or]; congr 1; show _ = _ ||| (if _ then _ else _); simp [hb]), lgi (nI_1 i), trivial⟩
          · exact absurd (by rw [eb, hb] at c27; exact c27) (by decide)
      · by_cases hd : gd T a i = gd T c i
        · refine g_iload (pc := 5) C dX10_unlikeCodes_5 rfl ?_
          refine g_aload_n (pc := 7) C dX10_unlikeCodes_7 rfl ?_
          apply gf_X10_17 (pc := 8) C rfl dX10_unlikeCodes_8
          · repeat (first | assumption | exact Cl.s (by assumption) | refine Cl.n (by first | decide | omega) ?_)
          · rfl
          refine g_iconst (pc := 11) (v := nI 0) C dX10_unlikeCodes_11 (by decide) ?_
          apply g_iaload (pc := 12) C dX10_unlikeCodes_12
          · repeat (first | assumption | exact Cl.s (by assumption) | refine Cl.n (by first | decide | omega) ?_)
          · exact vp_in_nI (n := 0) (by decide) (by decide)
          rw [nI_clamp (by decide), e2]
          refine g_icmp_ge (pc := 13) C 63 dX10_unlikeCodes_13 (by decide) (fun c13 => ?_) (fun c13 => ?_)
          · exact absurd c13 (nI_ge (by omega) (by omega))
          · refine g_iload_n (pc := 16) C dX10_unlikeCodes_16 rfl ?_
            refine g_aload_n (pc := 17) C dX10_unlikeCodes_17 rfl ?_
            apply cl_X10_140 (pc := 18) C rfl (r_seen h0 hT) dX10_unlikeCodes_18
            · repeat (first | assumption | exact Cl.s (by assumption) | refine Cl.n (by first | decide | omega) ?_)
            · rfl
            · exact Nat.le_of_ble_eq_true rfl
            refine g_iload (pc := 21) C dX10_unlikeCodes_21 rfl ?_
            refine g_ishr (pc := 23) C dX10_unlikeCodes_23 ?_
            refine g_iconst (pc := 24) (v := nI 1) C dX10_unlikeCodes_24 (by decide) ?_
            refine g_iand (pc := 25) C dX10_unlikeCodes_25 ?_
            refine g_iconst (pc := 26) (v := nI 1) C dX10_unlikeCodes_26 (by decide) ?_
            refine g_icmp_nE (pc := 27) C 54 dX10_unlikeCodes_27 (by decide) (fun c27 => ?_) (fun c27 => ?_)
            · exact absurd (by rw [eb, hb]; rfl) c27
            · refine g_aload_n (pc := 30) C dX10_unlikeCodes_30 rfl ?_
              refine g_iload_n (pc := 31) C dX10_unlikeCodes_31 rfl ?_
              refine g_iload (pc := 32) C dX10_unlikeCodes_32 rfl ?_
              apply cl_X10_170 (pc := 34) C rfl (r_valueOf h0 hT ha (by omega)) dX10_unlikeCodes_34
              · repeat (first | assumption | exact Cl.s (by assumption) | refine Cl.n (by first | decide | omega) ?_)
              · rfl
              · exact Nat.le_of_ble_eq_true rfl
              refine g_aload_n (pc := 37) C dX10_unlikeCodes_37 rfl ?_
              refine g_iload_n (pc := 38) C dX10_unlikeCodes_38 rfl ?_
              refine g_iload (pc := 39) C dX10_unlikeCodes_39 rfl ?_
              apply cl_X10_170 (pc := 41) C rfl (r_valueOf h0 hT hc (by omega)) dX10_unlikeCodes_41
              · repeat (first | assumption | exact Cl.s (by assumption) | refine Cl.n (by first | decide | omega) ?_)
              · rfl
              · exact Nat.le_of_ble_eq_true rfl
              refine g_icmp_eq (pc := 44) C 54 dX10_unlikeCodes_44 (by decide) (fun c44 => ?_) (fun c44 => ?_)
              · refine g_iconst (pc := 54) (v := nI 0) C dX10_unlikeCodes_54 (by decide) ?_
                refine g_ior (pc := 55) C dX10_unlikeCodes_55 ?_
                refine g_istore_n (pc := 56) C dX10_unlikeCodes_56 (by decide) rfl ?_
                refine g_iinc (pc := 57) C dX10_unlikeCodes_57 rfl (by decide) rfl ?_
                refine g_goto (pc := 60) C 5 dX10_unlikeCodes_60 (by decide) ?_
                exact g_to (ih (i + 1) (by omega)) ⟨rfl, rfl, rfl, lgi (by rw [nx_or]; congr 1; show _ = _ ||| (if _ then _ else _); simp [hd]), lgi (nI_1 i), trivial⟩
              · exact absurd (by rw [hd]) c44
        · refine g_iload (pc := 5) C dX10_unlikeCodes_5 rfl ?_
          refine g_aload_n (pc := 7) C dX10_unlikeCodes_7 rfl ?_
          apply gf_X10_17 (pc := 8) C rfl dX10_unlikeCodes_8
          · repeat (first | assumption | exact Cl.s (by assumption) | refine Cl.n (by first | decide | omega) ?_)
          · rfl
          refine g_iconst (pc := 11) (v := nI 0) C dX10_unlikeCodes_11 (by decide) ?_
          apply g_iaload (pc := 12) C dX10_unlikeCodes_12
          · repeat (first | assumption | exact Cl.s (by assumption) | refine Cl.n (by first | decide | omega) ?_)
          · exact vp_in_nI (n := 0) (by decide) (by decide)
          rw [nI_clamp (by decide), e2]
          refine g_icmp_ge (pc := 13) C 63 dX10_unlikeCodes_13 (by decide) (fun c13 => ?_) (fun c13 => ?_)
          · exact absurd c13 (nI_ge (by omega) (by omega))
          · refine g_iload_n (pc := 16) C dX10_unlikeCodes_16 rfl ?_
            refine g_aload_n (pc := 17) C dX10_unlikeCodes_17 rfl ?_
            apply cl_X10_140 (pc := 18) C rfl (r_seen h0 hT) dX10_unlikeCodes_18
            · repeat (first | assumption | exact Cl.s (by assumption) | refine Cl.n (by first | decide | omega) ?_)
            · rfl
            · exact Nat.le_of_ble_eq_true rfl
            refine g_iload (pc := 21) C dX10_unlikeCodes_21 rfl ?_
            refine g_ishr (pc := 23) C dX10_unlikeCodes_23 ?_
            refine g_iconst (pc := 24) (v := nI 1) C dX10_unlikeCodes_24 (by decide) ?_
            refine g_iand (pc := 25) C dX10_unlikeCodes_25 ?_
            refine g_iconst (pc := 26) (v := nI 1) C dX10_unlikeCodes_26 (by decide) ?_
            refine g_icmp_nE (pc := 27) C 54 dX10_unlikeCodes_27 (by decide) (fun c27 => ?_) (fun c27 => ?_)
            · exact absurd (by rw [eb, hb]; rfl) c27
            · refine g_aload_n (pc := 30) C dX10_unlikeCodes_30 rfl ?_
              refine g_iload_n (pc := 31) C dX10_unlikeCodes_31 rfl ?_
              refine g_iload (pc := 32) C dX10_unlikeCodes_32 rfl ?_
              apply cl_X10_170 (pc := 34) C rfl (r_valueOf h0 hT ha (by omega)) dX10_unlikeCodes_34
              · repeat (first | assumption | exact Cl.s (by assumption) | refine Cl.n (by first | decide | omega) ?_)
              · rfl
              · exact Nat.le_of_ble_eq_true rfl
              refine g_aload_n (pc := 37) C dX10_unlikeCodes_37 rfl ?_
              refine g_iload_n (pc := 38) C dX10_unlikeCodes_38 rfl ?_
              refine g_iload (pc := 39) C dX10_unlikeCodes_39 rfl ?_
              apply cl_X10_170 (pc := 41) C rfl (r_valueOf h0 hT hc (by omega)) dX10_unlikeCodes_41
              · repeat (first | assumption | exact Cl.s (by assumption) | refine Cl.n (by first | decide | omega) ?_)
              · rfl
              · exact Nat.le_of_ble_eq_true rfl
              refine g_icmp_eq (pc := 44) C 54 dX10_unlikeCodes_44 (by decide) (fun c44 => ?_) (fun c44 => ?_)
              · exact absurd ((nI_eq (by omega) (by omega)).mp c44) hd
              · refine g_iconst (pc := 47) (v := nI 1) C dX10_unlikeCodes_47 (by decide) ?_
                refine g_iload (pc := 48) C dX10_unlikeCodes_48 rfl ?_
                refine g_ishl (pc := 50) C dX10_unlikeCodes_50 ?_
                refine g_goto (pc := 51) C 55 dX10_unlikeCodes_51 (by decide) ?_
                rw [nx_shl _ (by omega)]
                refine g_ior (pc := 55) C dX10_unlikeCodes_55 ?_
                refine g_istore_n (pc := 56) C dX10_unlikeCodes_56 (by decide) rfl ?_
                refine g_iinc (pc := 57) C dX10_unlikeCodes_57 rfl (by decide) rfl ?_
                refine g_goto (pc := 60) C 5 dX10_unlikeCodes_60 (by decide) ?_
                exact g_to (ih (i + 1) (by omega)) ⟨rfl, rfl, rfl, lgi (by rw [nx_or]; congr 1; show _ = _ ||| (if _ then _ else _); simp [hb, hd]), lgi (nI_1 i), trivial⟩
  refine g_iconst (pc := 0) (v := nI 0) C dX10_unlikeCodes_0 (by decide) ?_
  refine g_istore_n (pc := 1) C dX10_unlikeCodes_1 (by decide) rfl ?_
  refine g_iconst (pc := 2) (v := nI 0) C dX10_unlikeCodes_2 (by decide) ?_
  refine g_istore (pc := 3) C dX10_unlikeCodes_3 (by decide) rfl ?_
  exact g_to (loop (tn T) 0 (by omega)) ⟨rfl, rfl, rfl, rfl, rfl, trivial⟩
theorem r_plain (h0 : Cl G σ 0 (cRef G len at_ kept done rm)) (hT : QT G σ T) {c : Nat} (hc : c < 1024) : Mt G mX10_plain [.ref (ga G 0), .int (nI c)] σ (some (.int (nI (pl T c)))) σ := by
  obtain ⟨ft, fn, fv, fl, fm, fp, h2, h3, h4, h5, h6, h7, hW, h1, e0, e1, e2, e3, hv, hl, hp⟩ := id hT
  have hn := hW.1
  have hs := seen_lt hW
  refine Mt.of (by decide +kernel) (Nat.le_of_ble_eq_true rfl) (fun κ C => ?_)
  have loop : ∀ d i, i + d = tn T → Go G mX10_plain κ (some (.int (nI (pl T c)))) σ σ 4 [(0, .ref (ga G 0)), (1, .int (nI c)), (2, .int (nI (cdn (tv T) (pv T (gd T c)) i))), (3, .int (nI i))] [] := by
    intro d
    induction d with
    | zero =>
      intro i hi
      refine g_iload_n (pc := 4) C dX10_plain_4 rfl ?_
      refine g_aload_n (pc := 5) C dX10_plain_5 rfl ?_
      apply gf_X10_17 (pc := 6) C rfl dX10_plain_6
      · repeat (first | assumption | exact Cl.s (by assumption) | refine Cl.n (by first | decide | omega) ?_)
      · rfl
      refine g_iconst (pc := 9) (v := nI 0) C dX10_plain_9 (by decide) ?_
      apply g_iaload (pc := 10) C dX10_plain_10
      · repeat (first | assumption | exact Cl.s (by assumption) | refine Cl.n (by first | decide | omega) ?_)
      · exact vp_in_nI (n := 0) (by decide) (by decide)
      rw [nI_clamp (by decide), e2]
      refine g_icmp_ge (pc := 11) C 52 dX10_plain_11 (by decide) (fun c11 => ?_) (fun c11 => ?_)
      · refine g_iload_n (pc := 52) C dX10_plain_52 rfl ?_
        exact g_ireturn (pc := 53) C dX10_plain_53 rfl (by rw [show i = tn T by omega]; rfl) (rfl)
      · exact absurd (nI_le (by omega) (by omega)) c11
    | succ d ih =>
      intro i hi
      have eb : nI (seen T) >>> (nI i &&& 31) &&& nI 1 = nI (b2 ((seen T).testBit i)) := by rw [nx_shr (by omega) (by omega), nx_and, tb_b2]
      cases hb : (seen T).testBit i
      · have ep : pv T (gd T c) i = 0 := by unfold pv; rw [hb]; rfl
        refine g_iload_n (pc := 4) C dX10_plain_4 rfl ?_
        refine g_aload_n (pc := 5) C dX10_plain_5 rfl ?_
        apply gf_X10_17 (pc := 6) C rfl dX10_plain_6
        · repeat (first | assumption | exact Cl.s (by assumption) | refine Cl.n (by first | decide | omega) ?_)
        · rfl
        refine g_iconst (pc := 9) (v := nI 0) C dX10_plain_9 (by decide) ?_
        apply g_iaload (pc := 10) C dX10_plain_10
        · repeat (first | assumption | exact Cl.s (by assumption) | refine Cl.n (by first | decide | omega) ?_)
        · exact vp_in_nI (n := 0) (by decide) (by decide)
        rw [nI_clamp (by decide), e2]
        refine g_icmp_ge (pc := 11) C 52 dX10_plain_11 (by decide) (fun c11 => ?_) (fun c11 => ?_)
        · exact absurd c11 (nI_ge (by omega) (by omega))
        · refine g_iload_n (pc := 14) C dX10_plain_14 rfl ?_
          refine g_aload_n (pc := 15) C dX10_plain_15 rfl ?_
          apply gf_X10_20 (pc := 16) C rfl dX10_plain_16
          · repeat (first | assumption | exact Cl.s (by assumption) | refine Cl.n (by first | decide | omega) ?_)
          · rfl
          refine g_iload_n (pc := 19) C dX10_plain_19 rfl ?_
          apply g_iaload (pc := 20) C dX10_plain_20
          · repeat (first | assumption | exact Cl.s (by assumption) | refine Cl.n (by first | decide | omega) ?_)
          · exact vp_in_nI (by omega) (by decide)
          rw [nI_clamp (by omega), hv i (by omega)]
          refine g_imul (pc := 21) C dX10_plain_21 ?_
          rw [pk_mul]
          refine g_aload_n (pc := 22) C dX10_plain_22 rfl ?_
          apply cl_X10_140 (pc := 23) C rfl (r_seen h0 hT) dX10_plain_23
          · repeat (first | assumption | exact Cl.s (by assumption) | refine Cl.n (by first | decide | omega) ?_)
          · rfl
          · exact Nat.le_of_ble_eq_true rfl
          refine g_iload_n (pc := 26) C dX10_plain_26 rfl ?_
          refine g_ishr (pc := 27) C dX10_plain_27 ?_
          refine g_iconst (pc := 28) (v := nI 1) C dX10_plain_28 (by decide) ?_
          refine g_iand (pc := 29) C dX10_plain_29 ?_
          refine g_iconst (pc := 30) (v := nI 1) C dX10_plain_30 (by decide) ?_
          refine g_icmp_nE (pc := 31) C 43 dX10_plain_31 (by decide) (fun c31 => ?_) (fun c31 => ?_)
          · refine g_iconst (pc := 43) (v := nI 0) C dX10_plain_43 (by decide) ?_
            refine g_iadd (pc := 44) C dX10_plain_44 ?_
            refine g_istore_n (pc := 45) C dX10_plain_45 (by decide) rfl ?_
            refine g_iinc (pc := 46) C dX10_plain_46 rfl (by decide) rfl ?_
            refine g_goto (pc := 49) C 4 dX10_plain_49 (by decide) ?_
            exact g_to (ih (i + 1) (by omega)) ⟨rfl, rfl, lgi (by rw [nI_add]; congr 1; show _ = _ * _ + pv T (gd T c) i; rw [ep]), lgi (nI_1 i), trivial⟩
          · exact absurd (by rw [eb, hb] at c31; exact c31) (by decide)
      · have ep : pv T (gd T c) i = gd T c i := by unfold pv; rw [if_pos hb]
        refine g_iload_n (pc := 4) C dX10_plain_4 rfl ?_
        refine g_aload_n (pc := 5) C dX10_plain_5 rfl ?_
        apply gf_X10_17 (pc := 6) C rfl dX10_plain_6
        · repeat (first | assumption | exact Cl.s (by assumption) | refine Cl.n (by first | decide | omega) ?_)
        · rfl
        refine g_iconst (pc := 9) (v := nI 0) C dX10_plain_9 (by decide) ?_
        apply g_iaload (pc := 10) C dX10_plain_10
        · repeat (first | assumption | exact Cl.s (by assumption) | refine Cl.n (by first | decide | omega) ?_)
        · exact vp_in_nI (n := 0) (by decide) (by decide)
        rw [nI_clamp (by decide), e2]
        refine g_icmp_ge (pc := 11) C 52 dX10_plain_11 (by decide) (fun c11 => ?_) (fun c11 => ?_)
        · exact absurd c11 (nI_ge (by omega) (by omega))
        · refine g_iload_n (pc := 14) C dX10_plain_14 rfl ?_
          refine g_aload_n (pc := 15) C dX10_plain_15 rfl ?_
          apply gf_X10_20 (pc := 16) C rfl dX10_plain_16
          · repeat (first | assumption | exact Cl.s (by assumption) | refine Cl.n (by first | decide | omega) ?_)
          · rfl
          refine g_iload_n (pc := 19) C dX10_plain_19 rfl ?_
          apply g_iaload (pc := 20) C dX10_plain_20
          · repeat (first | assumption | exact Cl.s (by assumption) | refine Cl.n (by first | decide | omega) ?_)
          · exact vp_in_nI (by omega) (by decide)
          rw [nI_clamp (by omega), hv i (by omega)]
          refine g_imul (pc := 21) C dX10_plain_21 ?_
          rw [pk_mul]
          refine g_aload_n (pc := 22) C dX10_plain_22 rfl ?_
          apply cl_X10_140 (pc := 23) C rfl (r_seen h0 hT) dX10_plain_23
          · repeat (first | assumption | exact Cl.s (by assumption) | refine Cl.n (by first | decide | omega) ?_)
          · rfl
          · exact Nat.le_of_ble_eq_true rfl
          refine g_iload_n (pc := 26) C dX10_plain_26 rfl ?_
          refine g_ishr (pc := 27) C dX10_plain_27 ?_
          refine g_iconst (pc := 28) (v := nI 1) C dX10_plain_28 (by decide) ?_
          refine g_iand (pc := 29) C dX10_plain_29 ?_
          refine g_iconst (pc := 30) (v := nI 1) C dX10_plain_30 (by decide) ?_
          refine g_icmp_nE (pc := 31) C 43 dX10_plain_31 (by decide) (fun c31 => ?_) (fun c31 => ?_)
          · exact absurd (by rw [eb, hb]; rfl) c31
          · refine g_aload_n (pc := 34) C dX10_plain_34 rfl ?_
            refine g_iload_n (pc := 35) C dX10_plain_35 rfl ?_
            refine g_iload_n (pc := 36) C dX10_plain_36 rfl ?_
            apply cl_X10_170 (pc := 37) C rfl (r_valueOf h0 hT hc (by omega)) dX10_plain_37
            · repeat (first | assumption | exact Cl.s (by assumption) | refine Cl.n (by first | decide | omega) ?_)
            · rfl
            · exact Nat.le_of_ble_eq_true rfl
            refine g_goto (pc := 40) C 44 dX10_plain_40 (by decide) ?_
            refine g_iadd (pc := 44) C dX10_plain_44 ?_
            refine g_istore_n (pc := 45) C dX10_plain_45 (by decide) rfl ?_
            refine g_iinc (pc := 46) C dX10_plain_46 rfl (by decide) rfl ?_
            refine g_goto (pc := 49) C 4 dX10_plain_49 (by decide) ?_
            exact g_to (ih (i + 1) (by omega)) ⟨rfl, rfl, lgi (by rw [nI_add]; congr 1; show _ = _ * _ + pv T (gd T c) i; rw [ep]), lgi (nI_1 i), trivial⟩
  refine g_iconst (pc := 0) (v := nI 0) C dX10_plain_0 (by decide) ?_
  refine g_istore_n (pc := 1) C dX10_plain_1 (by decide) rfl ?_
  refine g_iconst (pc := 2) (v := nI 0) C dX10_plain_2 (by decide) ?_
  refine g_istore_n (pc := 3) C dX10_plain_3 (by decide) rfl ?_
  exact g_to (loop (tn T) 0 (by omega)) ⟨rfl, rfl, rfl, rfl, trivial⟩
end RS6

