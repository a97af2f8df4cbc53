theorem lfS_s (T : TS) (x y : Nat → Nat) (n d c : Nat) : lfS T x y n (d + 1) c = if ps (tl T) (bits (fun t => x t != dgv (tv T) (tn T) c t) (tn T) &&& seen T) 0 = true ∧ rc T n (bb T (bits (fun t => x t != dgv (tv T) (tn T) c t) (tn T) &&& seen T)) (bits (fun t => dgv (tv T) (tn T) c t != y t) (tn T) &&& seen T) = true then nI c else lfS T x y n d (c + 1) := rfl
theorem cds_le {v : Nat → Nat} : ∀ n, (∀ t, t < n → 1 ≤ v t ∧ v t ≤ 4) → cds v n ≤ 4 ^ n
  | 0, _ => Nat.le_refl 1
  | n + 1, h => by
    unfold cds
    rw [Nat.pow_succ]
    exact Nat.mul_le_mul (cds_le n (fun t ht => h t (by omega))) (h n (by omega)).2
theorem cds_1024 {T : TS} (hW : TW T) : cds (tv T) (tn T) ≤ 1024 := Nat.le_trans (cds_le _ hW.2.1) (Nat.pow_le_pow_right (n := 4) (j := 5) (by decide) hW.1)
theorem rsk_le (v : Nat → Nat) (n code : Nat) : ∀ k, rsk v n code k ≤ code
  | 0 => Nat.le_refl _
  | k + 1 => Nat.le_trans (Nat.div_le_self _ _) (rsk_le v n code k)
theorem dgv_lt {T : TS} (hW : TW T) (c : Nat) : ∀ t, t < tn T → dgv (tv T) (tn T) c t < tv T t := fun t ht => Nat.mod_lt _ (hW.2.1 t ht).1
theorem dgv_4 {T : TS} (hW : TW T) (c : Nat) : ∀ t, t < tn T → dgv (tv T) (tn T) c t < 4 := fun t ht => Nat.lt_of_lt_of_le (dgv_lt hW c t ht) (hW.2.1 t ht).2
section STEPS2
variable {G : GG} {σ : WW} {T : TS}
theorem t_lookOfCode (hT : RT G σ T) {c : Nat} (hc : c < 1024) : Mt G mX7_lookOfCode [.ref (ga G 9), .int (nI c)] σ (some (.int (nI (lkn (dgv (tv T) (tn T) c) (tn T))))) σ := by
  obtain ⟨fv, fl, fh, h9, h21, h22, h23, hW, hv, hl, hh⟩ := hT
  have hn := hW.1
  refine Mt.of (by decide +kernel) (Nat.le_of_ble_eq_true rfl) (fun κ C => ?_)
  have loop : ∀ d, d ≤ tn T → Go G mX7_lookOfCode κ (some (.int (nI (lkn (dgv (tv T) (tn T) c) (tn T))))) σ σ 12 [(0, .ref (ga G 9)), (2, .int (nI (lkU (dgv (tv T) (tn T) c) (tn T - d) d))), (3, .int (nI (rsk (tv T) (tn T) c (tn T - d)))), (4, .int (lat d))] [] := by
    intro d
    induction d with
    | zero =>
      intro hd
      refine g_iload (pc := 12) C dX7_lookOfCode_12 rfl ?_
      refine g_if_lt (pc := 14) C 54 dX7_lookOfCode_14 (by decide) (fun c14 => ?_) (fun c14 => ?_)
      · refine g_iload_n (pc := 54) C dX7_lookOfCode_54 rfl ?_
        exact g_ireturn (pc := 55) C dX7_lookOfCode_55 rfl (by
  have e := lkU_lkn (dgv (tv T) (tn T) c) (tn T) 0
  rw [Nat.zero_add] at e
  rw [← e, Nat.sub_zero]
  show _ = some (Value.int (nI (lkU _ _ 0)))
  simp [lkn]) (rfl)
      · exact absurd (by rw [lat_0]; decide) c14
    | succ d ih =>
      intro hd
      have ev := hv d (by omega)
      have hv4 := hW.2.1 d (by omega)
      have el : nI d + Int32.ofInt (-1) = lat d := by rw [lat, Int32.sub_eq_add_neg]; rfl
      have hr := rsk_le (tv T) (tn T) c (tn T - (d + 1))
      have e1 : tn T - d = tn T - (d + 1) + 1 := by omega
      have e2 : tn T - 1 - (tn T - (d + 1)) = d := by omega
      have e3 : tn T - 1 - d = tn T - (d + 1) := by omega
      have ed : nI (rsk (tv T) (tn T) c (tn T - (d + 1))) - nI (rsk (tv T) (tn T) c (tn T - (d + 1))) / nI (tv T d) * nI (tv T d) = nI (dgv (tv T) (tn T) c d) := by
        rw [pk_rem (by omega) (by omega) (by omega)]
        unfold dgv
        rw [e3]
      have hg := dgv_4 hW c d (by omega)
      rw [lat_s]
      refine g_iload (pc := 12) C dX7_lookOfCode_12 rfl ?_
      refine g_if_lt (pc := 14) C 54 dX7_lookOfCode_14 (by decide) (fun c14 => ?_) (fun c14 => ?_)
      · exact absurd c14 (nI_pos (by omega))
      · refine g_aload_n (pc := 17) C dX7_lookOfCode_17 rfl ?_
        apply gf_X7_9 (pc := 18) C rfl dX7_lookOfCode_18
        · repeat (first | assumption | exact Cl.s (by assumption) | refine Cl.n (by first | decide | omega) ?_)
        · rfl
        refine g_iload (pc := 21) C dX7_lookOfCode_21 rfl ?_
        apply g_iaload (pc := 23) C dX7_lookOfCode_23
        · repeat (first | assumption | exact Cl.s (by assumption) | refine Cl.n (by first | decide | omega) ?_)
        · exact vp_in_nI (by omega) (by decide)
        rw [nI_clamp (by omega), ev]
        refine g_istore (pc := 24) C dX7_lookOfCode_24 (by decide) rfl ?_
        refine g_iload (pc := 26) C dX7_lookOfCode_26 rfl ?_
        refine g_if_le (pc := 28) C 48 dX7_lookOfCode_28 (by decide) (fun c28 => ?_) (fun c28 => ?_)
        · exact absurd c28 (by rw [nx_0]; exact nI_ge (by omega) (by omega))
        · refine g_iload_n (pc := 31) C dX7_lookOfCode_31 rfl ?_
          refine g_iload (pc := 32) C dX7_lookOfCode_32 rfl ?_
          refine g_iload_n (pc := 34) C dX7_lookOfCode_34 rfl ?_
          refine g_iload (pc := 35) C dX7_lookOfCode_35 rfl ?_
          refine g_irem (pc := 37) C dX7_lookOfCode_37 (by rw [nx_0, nI_eq (by omega) (by decide)]; omega) ?_
          rw [ed]
          refine cl_X7_50 (pc := 38) C rfl (t_lookWith (by omega) hg) dX7_lookOfCode_38 rfl (Nat.le_of_ble_eq_true rfl) ?_
          refine g_ior (pc := 41) C dX7_lookOfCode_41 ?_
          refine g_istore_n (pc := 42) C dX7_lookOfCode_42 (by decide) rfl ?_
          refine g_iload_n (pc := 43) C dX7_lookOfCode_43 rfl ?_
          refine g_iload (pc := 44) C dX7_lookOfCode_44 rfl ?_
          refine g_idiv (pc := 46) C dX7_lookOfCode_46 (by rw [nx_0, nI_eq (by omega) (by decide)]; omega) ?_
          refine g_istore_n (pc := 47) C dX7_lookOfCode_47 (by decide) rfl ?_
          refine g_iinc (pc := 48) C dX7_lookOfCode_48 rfl (by decide) rfl ?_
          refine g_goto (pc := 51) C 12 dX7_lookOfCode_51 (by decide) ?_
          exact g_to (ih (by omega)) ⟨rfl, lgi (by rw [nx_or, e1]; show _ = nI (lw d _ ||| lkU _ _ (d + 1)); rw [Nat.or_comm]), lgi (by rw [pk_div (by omega) (by omega) (by omega), e1]; show _ = nI (rsk _ _ _ _ / tv T (tn T - 1 - (tn T - (d + 1)))); rw [e2]), lgi el, trivial⟩
  refine g_iconst (pc := 0) (v := nI 0) C dX7_lookOfCode_0 (by decide) ?_
  refine g_istore_n (pc := 1) C dX7_lookOfCode_1 (by decide) rfl ?_
  refine g_iload_n (pc := 2) C dX7_lookOfCode_2 rfl ?_
  refine g_istore_n (pc := 3) C dX7_lookOfCode_3 (by decide) rfl ?_
  refine g_aload_n (pc := 4) C dX7_lookOfCode_4 rfl ?_
  apply gf_X7_21 (pc := 5) C rfl dX7_lookOfCode_5
  · repeat (first | assumption | exact Cl.s (by assumption) | refine Cl.n (by first | decide | omega) ?_)
  · rfl
  refine g_iconst (pc := 8) (v := nI 1) C dX7_lookOfCode_8 (by decide) ?_
  refine g_isub (pc := 9) C dX7_lookOfCode_9 ?_
  refine g_istore (pc := 10) C dX7_lookOfCode_10 (by decide) rfl ?_
  exact g_to (loop (tn T) (Nat.le_refl _)) ⟨rfl, lgi (by rw [Nat.sub_self]; rfl), lgi (by rw [Nat.sub_self]; rfl), lgi (by rw [lat]; rfl), trivial⟩
theorem t_leastFirst {f : Nat → Int32} (hT : RT G σ T) (h7 : Cl G σ 7 (cStr G)) (h19 : Cl G σ 19 (iA G 84 f)) {x y : Nat → Nat} (hx : ∀ t, t < tn T → x t < 4) (hy : ∀ t, t < tn T → y t < 4) {n : Nat} (hn : n < 14) (hf : RAr T f n) : Mt G mX5_leastFirst [.ref (ga G 7), .ref (ga G 9), .int (nI (lkn x (tn T))), .int (nI (lkn y (tn T))), .int (nI n)] σ (some (.int (lfS T x y n (cds (tv T) (tn T)) 0))) σ := by
  have hW := hT.w
  have hn5 := hW.1
  have hbs := brs_le hW
  have hcd := cds_1024 hW
  obtain ⟨bo, hc0, h9⟩ := hT.c
  have hb32 : ∀ p : Nat → Bool, bits p (tn T) < 32 := fun p => Nat.lt_of_lt_of_le (bits_lt _ _) (Nat.pow_le_pow_right (n := 2) (j := 5) (by decide) hn5)
  refine Mt.of (by decide +kernel) (Nat.le_of_ble_eq_true rfl) (fun κ C => ?_)
  have loop : ∀ d c, c + d = cds (tv T) (tn T) → Go G mX5_leastFirst κ (some (.int (lfS T x y n d c))) σ σ 9 [(0, .ref (ga G 7)), (1, .ref (ga G 9)), (2, .int (nI (lkn x (tn T)))), (3, .int (nI (lkn y (tn T)))), (4, .int (nI n)), (5, .int (nI (cds (tv T) (tn T)))), (6, .int (nI c))] [] := by
    intro d
    induction d with
    | zero =>
      intro c hc
      refine g_iload (pc := 9) C dX5_leastFirst_9 rfl ?_
      refine g_iload (pc := 11) C dX5_leastFirst_11 rfl ?_
      refine g_icmp_ge (pc := 13) C 86 dX5_leastFirst_13 (by decide) (fun c13 => ?_) (fun c13 => ?_)
      · refine g_bipush (pc := 86) (v := -4) C dX5_leastFirst_86 (by decide) ?_
        exact g_ireturn (pc := 88) C dX5_leastFirst_88 rfl (rfl) (rfl)
      · exact absurd (nI_le (by omega) (by omega)) c13
    | succ d ih =>
      intro c hc
      have hg := dgv_4 hW c
      have hu1 := and_lt32 (b := seen T) (hb32 (fun t => x t != dgv (tv T) (tn T) c t))
      have hu2 := and_lt32 (b := seen T) (hb32 (fun t => dgv (tv T) (tn T) c t != y t))
      have hbb := bb_brs T (bits (fun t => x t != dgv (tv T) (tn T) c t) (tn T) &&& seen T)
      cases h1 : ps (tl T) (bits (fun t => x t != dgv (tv T) (tn T) c t) (tn T) &&& seen T) 0
      · have el : lfS T x y n (d + 1) c = lfS T x y n d (c + 1) := by rw [lfS_s, if_neg (fun z => by rw [h1] at z; exact absurd z.1 (by decide))]
        rw [el]
        refine g_iload (pc := 9) C dX5_leastFirst_9 rfl ?_
        refine g_iload (pc := 11) C dX5_leastFirst_11 rfl ?_
        refine g_icmp_ge (pc := 13) C 86 dX5_leastFirst_13 (by decide) (fun c13 => ?_) (fun c13 => ?_)
        · exact absurd c13 (nI_ge (by omega) (by omega))
        · refine g_aload_n (pc := 16) C dX5_leastFirst_16 rfl ?_
          refine g_iload (pc := 17) C dX5_leastFirst_17 rfl ?_
          apply cl_X5_63 (pc := 19) C rfl (t_lookOfCode hT (by omega)) dX5_leastFirst_19
          · repeat (first | assumption | exact Cl.s (by assumption) | refine Cl.n (by first | decide | omega) ?_)
          · rfl
          · exact Nat.le_of_ble_eq_true rfl
          refine g_istore (pc := 22) C dX5_leastFirst_22 (by decide) rfl ?_
          refine g_iload_n (pc := 24) C dX5_leastFirst_24 rfl ?_
          refine g_iload (pc := 25) C dX5_leastFirst_25 rfl ?_
          refine cl_X5_66 (pc := 27) C rfl (t_unlike (lkn_lt _ _ hn5) (lkn_lt _ _ hn5)) dX5_leastFirst_27 rfl (Nat.le_of_ble_eq_true rfl) ?_
          refine g_aload_n (pc := 30) C dX5_leastFirst_30 rfl ?_
          apply cl_X5_29 (pc := 31) C rfl (t_sees hT) dX5_leastFirst_31
          · repeat (first | assumption | exact Cl.s (by assumption) | refine Cl.n (by first | decide | omega) ?_)
          · rfl
          · exact Nat.le_of_ble_eq_true rfl
          refine g_iand (pc := 34) C dX5_leastFirst_34 ?_
          rw [ulk_lkn hn5 hx hg, nx_and]
          refine g_istore (pc := 35) C dX5_leastFirst_35 (by decide) rfl ?_
          refine g_iload (pc := 37) C dX5_leastFirst_37 rfl ?_
          refine g_iload_n (pc := 39) C dX5_leastFirst_39 rfl ?_
          refine cl_X5_66 (pc := 40) C rfl (t_unlike (lkn_lt _ _ hn5) (lkn_lt _ _ hn5)) dX5_leastFirst_40 rfl (Nat.le_of_ble_eq_true rfl) ?_
          refine g_aload_n (pc := 43) C dX5_leastFirst_43 rfl ?_
          apply cl_X5_29 (pc := 44) C rfl (t_sees hT) dX5_leastFirst_44
          · repeat (first | assumption | exact Cl.s (by assumption) | refine Cl.n (by first | decide | omega) ?_)
          · rfl
          · exact Nat.le_of_ble_eq_true rfl
          refine g_iand (pc := 47) C dX5_leastFirst_47 ?_
          rw [ulk_lkn hn5 hg hy, nx_and]
          refine g_istore (pc := 48) C dX5_leastFirst_48 (by decide) rfl ?_
          refine g_aload_n (pc := 50) C dX5_leastFirst_50 rfl ?_
          refine g_iload (pc := 51) C dX5_leastFirst_51 rfl ?_
          refine g_iconst (pc := 53) (v := nI 0) C dX5_leastFirst_53 (by decide) ?_
          apply cl_X5_36 (pc := 54) C rfl (t_lets hT (by omega) (by decide)) dX5_leastFirst_54
          · repeat (first | assumption | exact Cl.s (by assumption) | refine Cl.n (by first | decide | omega) ?_)
          · rfl
          · exact Nat.le_of_ble_eq_true rfl
          refine g_if_eq (pc := 57) C 80 dX5_leastFirst_57 (by decide) (fun c57 => ?_) (fun c57 => ?_)
          · refine g_iinc (pc := 80) C dX5_leastFirst_80 rfl (by decide) rfl ?_
            refine g_goto (pc := 83) C 9 dX5_leastFirst_83 (by decide) ?_
            exact g_to (ih (c + 1) (by omega)) ⟨rfl, rfl, rfl, rfl, rfl, rfl, lgi (nI_1 c), trivial⟩
          · exact absurd (by rw [h1]; rfl) c57
      · cases h2 : rc T n (bb T (bits (fun t => x t != dgv (tv T) (tn T) c t) (tn T) &&& seen T)) (bits (fun t => dgv (tv T) (tn T) c t != y t) (tn T) &&& seen T)
        · have el : lfS T x y n (d + 1) c = lfS T x y n d (c + 1) := by rw [lfS_s, if_neg (fun z => by rw [h2] at z; exact absurd z.2 (by decide))]
          rw [el]
          refine g_iload (pc := 9) C dX5_leastFirst_9 rfl ?_
          refine g_iload (pc := 11) C dX5_leastFirst_11 rfl ?_
          refine g_icmp_ge (pc := 13) C 86 dX5_leastFirst_13 (by decide) (fun c13 => ?_) (fun c13 => ?_)
          · exact absurd c13 (nI_ge (by omega) (by omega))
          · refine g_aload_n (pc := 16) C dX5_leastFirst_16 rfl ?_
            refine g_iload (pc := 17) C dX5_leastFirst_17 rfl ?_
            apply cl_X5_63 (pc := 19) C rfl (t_lookOfCode hT (by omega)) dX5_leastFirst_19
            · repeat (first | assumption | exact Cl.s (by assumption) | refine Cl.n (by first | decide | omega) ?_)
            · rfl
            · exact Nat.le_of_ble_eq_true rfl
            refine g_istore (pc := 22) C dX5_leastFirst_22 (by decide) rfl ?_
            refine g_iload_n (pc := 24) C dX5_leastFirst_24 rfl ?_
            refine g_iload (pc := 25) C dX5_leastFirst_25 rfl ?_
            refine cl_X5_66 (pc := 27) C rfl (t_unlike (lkn_lt _ _ hn5) (lkn_lt _ _ hn5)) dX5_leastFirst_27 rfl (Nat.le_of_ble_eq_true rfl) ?_
            refine g_aload_n (pc := 30) C dX5_leastFirst_30 rfl ?_
            apply cl_X5_29 (pc := 31) C rfl (t_sees hT) dX5_leastFirst_31
            · repeat (first | assumption | exact Cl.s (by assumption) | refine Cl.n (by first | decide | omega) ?_)
            · rfl
            · exact Nat.le_of_ble_eq_true rfl
            refine g_iand (pc := 34) C dX5_leastFirst_34 ?_
            rw [ulk_lkn hn5 hx hg, nx_and]
            refine g_istore (pc := 35) C dX5_leastFirst_35 (by decide) rfl ?_
            refine g_iload (pc := 37) C dX5_leastFirst_37 rfl ?_
            refine g_iload_n (pc := 39) C dX5_leastFirst_39 rfl ?_
            refine cl_X5_66 (pc := 40) C rfl (t_unlike (lkn_lt _ _ hn5) (lkn_lt _ _ hn5)) dX5_leastFirst_40 rfl (Nat.le_of_ble_eq_true rfl) ?_
            refine g_aload_n (pc := 43) C dX5_leastFirst_43 rfl ?_
            apply cl_X5_29 (pc := 44) C rfl (t_sees hT) dX5_leastFirst_44
            · repeat (first | assumption | exact Cl.s (by assumption) | refine Cl.n (by first | decide | omega) ?_)
            · rfl
            · exact Nat.le_of_ble_eq_true rfl
            refine g_iand (pc := 47) C dX5_leastFirst_47 ?_
            rw [ulk_lkn hn5 hg hy, nx_and]
            refine g_istore (pc := 48) C dX5_leastFirst_48 (by decide) rfl ?_
            refine g_aload_n (pc := 50) C dX5_leastFirst_50 rfl ?_
            refine g_iload (pc := 51) C dX5_leastFirst_51 rfl ?_
            refine g_iconst (pc := 53) (v := nI 0) C dX5_leastFirst_53 (by decide) ?_
            apply cl_X5_36 (pc := 54) C rfl (t_lets hT (by omega) (by decide)) dX5_leastFirst_54
            · repeat (first | assumption | exact Cl.s (by assumption) | refine Cl.n (by first | decide | omega) ?_)
            · rfl
            · exact Nat.le_of_ble_eq_true rfl
            refine g_if_eq (pc := 57) C 80 dX5_leastFirst_57 (by decide) (fun c57 => ?_) (fun c57 => ?_)
            · exact absurd c57 (by rw [h1]; decide)
            · refine g_aload_n (pc := 60) C dX5_leastFirst_60 rfl ?_
              refine g_iload (pc := 61) C dX5_leastFirst_61 rfl ?_
              refine g_aload_n (pc := 63) C dX5_leastFirst_63 rfl ?_
              refine g_iload (pc := 64) C dX5_leastFirst_64 rfl ?_
              apply cl_X5_40 (pc := 66) C rfl (t_barBehind hT (by omega)) dX5_leastFirst_66
              · repeat (first | assumption | exact Cl.s (by assumption) | refine Cl.n (by first | decide | omega) ?_)
              · rfl
              · exact Nat.le_of_ble_eq_true rfl
              refine g_iload (pc := 69) C dX5_leastFirst_69 rfl ?_
              apply cl_X5_25 (pc := 71) C rfl (t_reaches h7 h19 hn (by omega) hu2 (hf n (Nat.le_refl _) _ hbb)) dX5_leastFirst_71
              · repeat (first | assumption | exact Cl.s (by assumption) | refine Cl.n (by first | decide | omega) ?_)
              · rfl
              · exact Nat.le_of_ble_eq_true rfl
              refine g_if_eq (pc := 74) C 80 dX5_leastFirst_74 (by decide) (fun c74 => ?_) (fun c74 => ?_)
              · refine g_iinc (pc := 80) C dX5_leastFirst_80 rfl (by decide) rfl ?_
                refine g_goto (pc := 83) C 9 dX5_leastFirst_83 (by decide) ?_
                exact g_to (ih (c + 1) (by omega)) ⟨rfl, rfl, rfl, rfl, rfl, rfl, lgi (nI_1 c), trivial⟩
              · exact absurd (by rw [h2]; rfl) c74
        · rw [show lfS T x y n (d + 1) c = nI c by rw [lfS_s, if_pos ⟨h1, h2⟩]]
          refine g_iload (pc := 9) C dX5_leastFirst_9 rfl ?_
          refine g_iload (pc := 11) C dX5_leastFirst_11 rfl ?_
          refine g_icmp_ge (pc := 13) C 86 dX5_leastFirst_13 (by decide) (fun c13 => ?_) (fun c13 => ?_)
          · exact absurd c13 (nI_ge (by omega) (by omega))
          · refine g_aload_n (pc := 16) C dX5_leastFirst_16 rfl ?_
            refine g_iload (pc := 17) C dX5_leastFirst_17 rfl ?_
            apply cl_X5_63 (pc := 19) C rfl (t_lookOfCode hT (by omega)) dX5_leastFirst_19
            · repeat (first | assumption | exact Cl.s (by assumption) | refine Cl.n (by first | decide | omega) ?_)
            · rfl
            · exact Nat.le_of_ble_eq_true rfl
            refine g_istore (pc := 22) C dX5_leastFirst_22 (by decide) rfl ?_
            refine g_iload_n (pc := 24) C dX5_leastFirst_24 rfl ?_
            refine g_iload (pc := 25) C dX5_leastFirst_25 rfl ?_
            refine cl_X5_66 (pc := 27) C rfl (t_unlike (lkn_lt _ _ hn5) (lkn_lt _ _ hn5)) dX5_leastFirst_27 rfl (Nat.le_of_ble_eq_true rfl) ?_
            refine g_aload_n (pc := 30) C dX5_leastFirst_30 rfl ?_
            apply cl_X5_29 (pc := 31) C rfl (t_sees hT) dX5_leastFirst_31
            · repeat (first | assumption | exact Cl.s (by assumption) | refine Cl.n (by first | decide | omega) ?_)
            · rfl
            · exact Nat.le_of_ble_eq_true rfl
            refine g_iand (pc := 34) C dX5_leastFirst_34 ?_
            rw [ulk_lkn hn5 hx hg, nx_and]
            refine g_istore (pc := 35) C dX5_leastFirst_35 (by decide) rfl ?_
            refine g_iload (pc := 37) C dX5_leastFirst_37 rfl ?_
            refine g_iload_n (pc := 39) C dX5_leastFirst_39 rfl ?_
            refine cl_X5_66 (pc := 40) C rfl (t_unlike (lkn_lt _ _ hn5) (lkn_lt _ _ hn5)) dX5_leastFirst_40 rfl (Nat.le_of_ble_eq_true rfl) ?_
            refine g_aload_n (pc := 43) C dX5_leastFirst_43 rfl ?_
            apply cl_X5_29 (pc := 44) C rfl (t_sees hT) dX5_leastFirst_44
            · repeat (first | assumption | exact Cl.s (by assumption) | refine Cl.n (by first | decide | omega) ?_)
            · rfl
            · exact Nat.le_of_ble_eq_true rfl
            refine g_iand (pc := 47) C dX5_leastFirst_47 ?_
            rw [ulk_lkn hn5 hg hy, nx_and]
            refine g_istore (pc := 48) C dX5_leastFirst_48 (by decide) rfl ?_
            refine g_aload_n (pc := 50) C dX5_leastFirst_50 rfl ?_
            refine g_iload (pc := 51) C dX5_leastFirst_51 rfl ?_
            refine g_iconst (pc := 53) (v := nI 0) C dX5_leastFirst_53 (by decide) ?_
            apply cl_X5_36 (pc := 54) C rfl (t_lets hT (by omega) (by decide)) dX5_leastFirst_54
            · repeat (first | assumption | exact Cl.s (by assumption) | refine Cl.n (by first | decide | omega) ?_)
            · rfl
            · exact Nat.le_of_ble_eq_true rfl
            refine g_if_eq (pc := 57) C 80 dX5_leastFirst_57 (by decide) (fun c57 => ?_) (fun c57 => ?_)
            · exact absurd c57 (by rw [h1]; decide)
            · refine g_aload_n (pc := 60) C dX5_leastFirst_60 rfl ?_
              refine g_iload (pc := 61) C dX5_leastFirst_61 rfl ?_
              refine g_aload_n (pc := 63) C dX5_leastFirst_63 rfl ?_
              refine g_iload (pc := 64) C dX5_leastFirst_64 rfl ?_
              apply cl_X5_40 (pc := 66) C rfl (t_barBehind hT (by omega)) dX5_leastFirst_66
              · repeat (first | assumption | exact Cl.s (by assumption) | refine Cl.n (by first | decide | omega) ?_)
              · rfl
              · exact Nat.le_of_ble_eq_true rfl
              refine g_iload (pc := 69) C dX5_leastFirst_69 rfl ?_
              apply cl_X5_25 (pc := 71) C rfl (t_reaches h7 h19 hn (by omega) hu2 (hf n (Nat.le_refl _) _ hbb)) dX5_leastFirst_71
              · repeat (first | assumption | exact Cl.s (by assumption) | refine Cl.n (by first | decide | omega) ?_)
              · rfl
              · exact Nat.le_of_ble_eq_true rfl
              refine g_if_eq (pc := 74) C 80 dX5_leastFirst_74 (by decide) (fun c74 => ?_) (fun c74 => ?_)
              · exact absurd c74 (by rw [h2]; decide)
              · refine g_iload (pc := 77) C dX5_leastFirst_77 rfl ?_
                exact g_ireturn (pc := 79) C dX5_leastFirst_79 rfl (rfl) (rfl)
  refine g_aload_n (pc := 0) C dX5_leastFirst_0 rfl ?_
  apply cl_X5_60 (pc := 1) C rfl (t_codes hT) dX5_leastFirst_1
  · repeat (first | assumption | exact Cl.s (by assumption) | refine Cl.n (by first | decide | omega) ?_)
  · rfl
  · exact Nat.le_of_ble_eq_true rfl
  refine g_istore (pc := 4) C dX5_leastFirst_4 (by decide) rfl ?_
  refine g_iconst (pc := 6) (v := nI 0) C dX5_leastFirst_6 (by decide) ?_
  refine g_istore (pc := 7) C dX5_leastFirst_7 (by decide) rfl ?_
  exact g_to (loop _ 0 (by omega)) ⟨rfl, rfl, rfl, rfl, rfl, rfl, rfl, trivial⟩
def RSt (G : GG) (σ : WW) : Prop := Cl G σ 7 (cStr G) ∧ ∃ f, Cl G σ 19 (iA G 84 f)
theorem m4_n {k : Nat} (hk : k < 2 ^ 31) : ¬ nI k = -4 := fun q => by
  have q2 := congrArg Int32.toInt q
  rw [nI_toInt hk, show (-4 : Int32).toInt = -4 by decide] at q2
  omega
theorem c_steps (h0 : Cl G σ 0 (cMain G)) (hT : RT G σ T) (hs : RSt G σ) (i j what : Int32) : ∃ σ', Mt G mX9_steps [.ref (ga G 0), .int i, .int j, .int what] σ (some (.int (stepsF T i j what))) σ' ∧ RSt G σ' ∧ Fr σ σ' [19] := by
  have hW := hT.w
  have hm := hW.2.2.2.2.1
  obtain ⟨bo, hc0, h9⟩ := hT.c
  rcases inR_c i (m := tm T) (by omega) with e | ⟨e, i, hi, rfl⟩
  · rw [show stepsF T i j what = -1 by simp [stepsF, e]]
    refine ⟨σ, ?_, hs, fr0⟩
    refine Mt.of (by decide +kernel) (Nat.le_of_ble_eq_true rfl) (fun κ C => ?_)
    refine g_aload_n (pc := 0) C dX9_steps_0 rfl ?_
    apply gf_X9_68 (pc := 1) C rfl dX9_steps_1
    · repeat (first | assumption | exact Cl.s (by assumption) | refine Cl.n (by first | decide | omega) ?_)
    · rfl
    refine g_iload_n (pc := 4) C dX9_steps_4 rfl ?_
    apply cl_X9_115 (pc := 5) C rfl (t_hasPerson hT i) dX9_steps_5
    · repeat (first | assumption | exact Cl.s (by assumption) | refine Cl.n (by first | decide | omega) ?_)
    · rfl
    · exact Nat.le_of_ble_eq_true rfl
    refine g_if_eq (pc := 8) C 31 dX9_steps_8 (by decide) (fun c8 => ?_) (fun c8 => ?_)
    · refine g_iconst (pc := 31) (v := -1) C dX9_steps_31 (by decide) ?_
      exact g_ireturn (pc := 32) C dX9_steps_32 rfl (rfl) (rfl)
    · exact absurd (by rw [e]; rfl) c8
  · rcases inR_c j (m := tm T) (by omega) with e2 | ⟨e2, j, hj, rfl⟩
    · rw [show stepsF T (nI i) j what = -1 by simp [stepsF, e2]]
      refine ⟨σ, ?_, hs, fr0⟩
      refine Mt.of (by decide +kernel) (Nat.le_of_ble_eq_true rfl) (fun κ C => ?_)
      refine g_aload_n (pc := 0) C dX9_steps_0 rfl ?_
      apply gf_X9_68 (pc := 1) C rfl dX9_steps_1
      · repeat (first | assumption | exact Cl.s (by assumption) | refine Cl.n (by first | decide | omega) ?_)
      · rfl
      refine g_iload_n (pc := 4) C dX9_steps_4 rfl ?_
      apply cl_X9_115 (pc := 5) C rfl (t_hasPerson hT (nI i)) dX9_steps_5
      · repeat (first | assumption | exact Cl.s (by assumption) | refine Cl.n (by first | decide | omega) ?_)
      · rfl
      · exact Nat.le_of_ble_eq_true rfl
      refine g_if_eq (pc := 8) C 31 dX9_steps_8 (by decide) (fun c8 => ?_) (fun c8 => ?_)
      · exact absurd c8 (by rw [e]; decide)
      · refine g_aload_n (pc := 11) C dX9_steps_11 rfl ?_
        apply gf_X9_68 (pc := 12) C rfl dX9_steps_12
        · repeat (first | assumption | exact Cl.s (by assumption) | refine Cl.n (by first | decide | omega) ?_)
        · rfl
        refine g_iload_n (pc := 15) C dX9_steps_15 rfl ?_
        apply cl_X9_115 (pc := 16) C rfl (t_hasPerson hT j) dX9_steps_16
        · repeat (first | assumption | exact Cl.s (by assumption) | refine Cl.n (by first | decide | omega) ?_)
        · rfl
        · exact Nat.le_of_ble_eq_true rfl
        refine g_if_eq (pc := 19) C 31 dX9_steps_19 (by decide) (fun c19 => ?_) (fun c19 => ?_)
        · refine g_iconst (pc := 31) (v := -1) C dX9_steps_31 (by decide) ?_
          exact g_ireturn (pc := 32) C dX9_steps_32 rfl (rfl) (rfl)
        · exact absurd (by rw [e2]; rfl) c19
    · rcases inR_c what (m := 2) (by decide) with e3 | ⟨e3, w, hw, rfl⟩
      · rw [show stepsF T (nI i) (nI j) what = -1 by simp [stepsF, e3]]
        refine ⟨σ, ?_, hs, fr0⟩
        refine Mt.of (by decide +kernel) (Nat.le_of_ble_eq_true rfl) (fun κ C => ?_)
        refine g_aload_n (pc := 0) C dX9_steps_0 rfl ?_
        apply gf_X9_68 (pc := 1) C rfl dX9_steps_1
        · repeat (first | assumption | exact Cl.s (by assumption) | refine Cl.n (by first | decide | omega) ?_)
        · rfl
        refine g_iload_n (pc := 4) C dX9_steps_4 rfl ?_
        apply cl_X9_115 (pc := 5) C rfl (t_hasPerson hT (nI i)) dX9_steps_5
        · repeat (first | assumption | exact Cl.s (by assumption) | refine Cl.n (by first | decide | omega) ?_)
        · rfl
        · exact Nat.le_of_ble_eq_true rfl
        refine g_if_eq (pc := 8) C 31 dX9_steps_8 (by decide) (fun c8 => ?_) (fun c8 => ?_)
        · exact absurd c8 (by rw [e]; decide)
        · refine g_aload_n (pc := 11) C dX9_steps_11 rfl ?_
          apply gf_X9_68 (pc := 12) C rfl dX9_steps_12
          · repeat (first | assumption | exact Cl.s (by assumption) | refine Cl.n (by first | decide | omega) ?_)
          · rfl
          refine g_iload_n (pc := 15) C dX9_steps_15 rfl ?_
          apply cl_X9_115 (pc := 16) C rfl (t_hasPerson hT (nI j)) dX9_steps_16
          · repeat (first | assumption | exact Cl.s (by assumption) | refine Cl.n (by first | decide | omega) ?_)
          · rfl
          · exact Nat.le_of_ble_eq_true rfl
          refine g_if_eq (pc := 19) C 31 dX9_steps_19 (by decide) (fun c19 => ?_) (fun c19 => ?_)
          · exact absurd c19 (by rw [e2]; decide)
          · refine g_iload_n (pc := 22) C dX9_steps_22 rfl ?_
            refine g_if_lt (pc := 23) C 31 dX9_steps_23 (by decide) (fun c23 => ?_) (fun c23 => ?_)
            · refine g_iconst (pc := 31) (v := -1) C dX9_steps_31 (by decide) ?_
              exact g_ireturn (pc := 32) C dX9_steps_32 rfl (rfl) (rfl)
            · refine g_iload_n (pc := 26) C dX9_steps_26 rfl ?_
              refine g_iconst (pc := 27) (v := nI 1) C dX9_steps_27 (by decide) ?_
              refine g_icmp_le (pc := 28) C 33 dX9_steps_28 (by decide) (fun c28 => ?_) (fun c28 => ?_)
              · exact absurd e3 (by
                  rw [inR_t c23 (fun q => absurd (Int32.le_trans q c28) (by decide))]
                  decide)
              · refine g_iconst (pc := 31) (v := -1) C dX9_steps_31 (by decide) ?_
                exact g_ireturn (pc := 32) C dX9_steps_32 rfl (rfl) (rfl)
      · obtain ⟨h7, f, h19⟩ := hs
        have hu := and_lt32 (b := seen T) (UU_lt T i j hW.1)
        obtain ⟨f', m1, m2⟩ := t_fewestS hT h7 h19 hu
        have z7 : Cl G (va_up σ 19 (iA G 84 f')) 7 (cStr G) := Cl.n (by decide) h7
        have z19 : Cl G (va_up σ 19 (iA G 84 f')) 19 (iA G 84 f') := Cl.s h19
        have z0 : Cl G (va_up σ 19 (iA G 84 f')) 0 (cMain G) := Cl.n (by decide) h0
        have hT1 := hT.up (i := 19) (e := iA G 84 f') (by decide) (by decide) (by decide) (by decide)
        obtain ⟨bo1, hc1, z9⟩ := hT1.c
        have ei := nI_clamp (n := i) (by omega)
        have ej := nI_clamp (n := j) (by omega)
        refine ⟨va_up σ 19 (iA G 84 f'), ?_, ⟨z7, f', z19⟩, fr3 fr0 (by decide)⟩
        have hS : stepsF T (nI i) (nI j) (nI w) = (if nI w = 0 ∨ fwS T (UU T i j &&& seen T) 13 0 = -4 then fwS T (UU T i j &&& seen T) 13 0 else if fwS T (UU T i j &&& seen T) 13 0 = 0 then -4 else lfS T (tp T i) (tp T j) (fwS T (UU T i j &&& seen T) 13 0).toNatClampNeg (cds (tv T) (tn T)) 0) := by
          unfold stepsF
          rw [e, e2, e3, ei, ej]
          rfl
        rw [hS]
        refine Mt.of (by decide +kernel) (Nat.le_of_ble_eq_true rfl) (fun κ C => ?_)
        rcases fwS_n (T := T) (u := UU T i j &&& seen T) 13 0 rfl with q | ⟨k, q1, -, q2⟩
        · rw [if_pos (Or.inr q), q]
          rw [q] at m1
          refine g_aload_n (pc := 0) C dX9_steps_0 rfl ?_
          apply gf_X9_68 (pc := 1) C rfl dX9_steps_1
          · repeat (first | assumption | exact Cl.s (by assumption) | refine Cl.n (by first | decide | omega) ?_)
          · rfl
          refine g_iload_n (pc := 4) C dX9_steps_4 rfl ?_
          apply cl_X9_115 (pc := 5) C rfl (t_hasPerson hT (nI i)) dX9_steps_5
          · repeat (first | assumption | exact Cl.s (by assumption) | refine Cl.n (by first | decide | omega) ?_)
          · rfl
          · exact Nat.le_of_ble_eq_true rfl
          refine g_if_eq (pc := 8) C 31 dX9_steps_8 (by decide) (fun c8 => ?_) (fun c8 => ?_)
          · exact absurd c8 (by rw [e]; decide)
          · refine g_aload_n (pc := 11) C dX9_steps_11 rfl ?_
            apply gf_X9_68 (pc := 12) C rfl dX9_steps_12
            · repeat (first | assumption | exact Cl.s (by assumption) | refine Cl.n (by first | decide | omega) ?_)
            · rfl
            refine g_iload_n (pc := 15) C dX9_steps_15 rfl ?_
            apply cl_X9_115 (pc := 16) C rfl (t_hasPerson hT (nI j)) dX9_steps_16
            · repeat (first | assumption | exact Cl.s (by assumption) | refine Cl.n (by first | decide | omega) ?_)
            · rfl
            · exact Nat.le_of_ble_eq_true rfl
            refine g_if_eq (pc := 19) C 31 dX9_steps_19 (by decide) (fun c19 => ?_) (fun c19 => ?_)
            · exact absurd c19 (by rw [e2]; decide)
            · refine g_iload_n (pc := 22) C dX9_steps_22 rfl ?_
              refine g_if_lt (pc := 23) C 31 dX9_steps_23 (by decide) (fun c23 => ?_) (fun c23 => ?_)
              · exact absurd c23 (nI_pos (by omega))
              · refine g_iload_n (pc := 26) C dX9_steps_26 rfl ?_
                refine g_iconst (pc := 27) (v := nI 1) C dX9_steps_27 (by decide) ?_
                refine g_icmp_le (pc := 28) C 33 dX9_steps_28 (by decide) (fun c28 => ?_) (fun c28 => ?_)
                · refine g_aload_n (pc := 33) C dX9_steps_33 rfl ?_
                  apply gf_X9_54 (pc := 34) C rfl dX9_steps_34
                  · repeat (first | assumption | exact Cl.s (by assumption) | refine Cl.n (by first | decide | omega) ?_)
                  · rfl
                  refine g_aload_n (pc := 37) C dX9_steps_37 rfl ?_
                  apply gf_X9_68 (pc := 38) C rfl dX9_steps_38
                  · repeat (first | assumption | exact Cl.s (by assumption) | refine Cl.n (by first | decide | omega) ?_)
                  · rfl
                  refine g_aload_n (pc := 41) C dX9_steps_41 rfl ?_
                  apply gf_X9_68 (pc := 42) C rfl dX9_steps_42
                  · repeat (first | assumption | exact Cl.s (by assumption) | refine Cl.n (by first | decide | omega) ?_)
                  · rfl
                  refine g_iload_n (pc := 45) C dX9_steps_45 rfl ?_
                  refine g_iload_n (pc := 46) C dX9_steps_46 rfl ?_
                  apply cl_X9_135 (pc := 47) C rfl (t_seenUnlike hT hi hj) dX9_steps_47
                  · repeat (first | assumption | exact Cl.s (by assumption) | refine Cl.n (by first | decide | omega) ?_)
                  · rfl
                  · exact Nat.le_of_ble_eq_true rfl
                  apply cl_X9_217 (pc := 50) C rfl m1 dX9_steps_50
                  · repeat (first | assumption | exact Cl.s (by assumption) | refine Cl.n (by first | decide | omega) ?_)
                  · rfl
                  · exact Nat.le_of_ble_eq_true rfl
                  refine g_istore (pc := 53) C dX9_steps_53 (by decide) rfl ?_
                  refine g_iload_n (pc := 55) C dX9_steps_55 rfl ?_
                  refine g_if_eq (pc := 56) C 66 dX9_steps_56 (by decide) (fun c56 => ?_) (fun c56 => ?_)
                  · refine g_iload (pc := 66) C dX9_steps_66 rfl ?_
                    exact g_ireturn (pc := 68) C dX9_steps_68 rfl (rfl) (rfl)
                  · refine g_iload (pc := 59) C dX9_steps_59 rfl ?_
                    refine g_bipush (pc := 61) (v := -4) C dX9_steps_61 (by decide) ?_
                    refine g_icmp_nE (pc := 63) C 69 dX9_steps_63 (by decide) (fun c63 => ?_) (fun c63 => ?_)
                    · exact absurd rfl c63
                    · refine g_iload (pc := 66) C dX9_steps_66 rfl ?_
                      exact g_ireturn (pc := 68) C dX9_steps_68 rfl (rfl) (rfl)
                · exact absurd (nI_le (by omega) (by decide)) c28
        · rw [q2]
          rw [q2] at m1
          by_cases hw0 : w = 0
          · subst hw0
            rw [if_pos (show nI 0 = 0 ∨ nI k = -4 from Or.inl rfl)]
            refine g_aload_n (pc := 0) C dX9_steps_0 rfl ?_
            apply gf_X9_68 (pc := 1) C rfl dX9_steps_1
            · repeat (first | assumption | exact Cl.s (by assumption) | refine Cl.n (by first | decide | omega) ?_)
            · rfl
            refine g_iload_n (pc := 4) C dX9_steps_4 rfl ?_
            apply cl_X9_115 (pc := 5) C rfl (t_hasPerson hT (nI i)) dX9_steps_5
            · repeat (first | assumption | exact Cl.s (by assumption) | refine Cl.n (by first | decide | omega) ?_)
            · rfl
            · exact Nat.le_of_ble_eq_true rfl
            refine g_if_eq (pc := 8) C 31 dX9_steps_8 (by decide) (fun c8 => ?_) (fun c8 => ?_)
            · exact absurd c8 (by rw [e]; decide)
            · refine g_aload_n (pc := 11) C dX9_steps_11 rfl ?_
              apply gf_X9_68 (pc := 12) C rfl dX9_steps_12
              · repeat (first | assumption | exact Cl.s (by assumption) | refine Cl.n (by first | decide | omega) ?_)
              · rfl
              refine g_iload_n (pc := 15) C dX9_steps_15 rfl ?_
              apply cl_X9_115 (pc := 16) C rfl (t_hasPerson hT (nI j)) dX9_steps_16
              · repeat (first | assumption | exact Cl.s (by assumption) | refine Cl.n (by first | decide | omega) ?_)
              · rfl
              · exact Nat.le_of_ble_eq_true rfl
              refine g_if_eq (pc := 19) C 31 dX9_steps_19 (by decide) (fun c19 => ?_) (fun c19 => ?_)
              · exact absurd c19 (by rw [e2]; decide)
              · refine g_iload_n (pc := 22) C dX9_steps_22 rfl ?_
                refine g_if_lt (pc := 23) C 31 dX9_steps_23 (by decide) (fun c23 => ?_) (fun c23 => ?_)
                · exact absurd c23 (by decide)
                · refine g_iload_n (pc := 26) C dX9_steps_26 rfl ?_
                  refine g_iconst (pc := 27) (v := nI 1) C dX9_steps_27 (by decide) ?_
                  refine g_icmp_le (pc := 28) C 33 dX9_steps_28 (by decide) (fun c28 => ?_) (fun c28 => ?_)
                  · refine g_aload_n (pc := 33) C dX9_steps_33 rfl ?_
                    apply gf_X9_54 (pc := 34) C rfl dX9_steps_34
                    · repeat (first | assumption | exact Cl.s (by assumption) | refine Cl.n (by first | decide | omega) ?_)
                    · rfl
                    refine g_aload_n (pc := 37) C dX9_steps_37 rfl ?_
                    apply gf_X9_68 (pc := 38) C rfl dX9_steps_38
                    · repeat (first | assumption | exact Cl.s (by assumption) | refine Cl.n (by first | decide | omega) ?_)
                    · rfl
                    refine g_aload_n (pc := 41) C dX9_steps_41 rfl ?_
                    apply gf_X9_68 (pc := 42) C rfl dX9_steps_42
                    · repeat (first | assumption | exact Cl.s (by assumption) | refine Cl.n (by first | decide | omega) ?_)
                    · rfl
                    refine g_iload_n (pc := 45) C dX9_steps_45 rfl ?_
                    refine g_iload_n (pc := 46) C dX9_steps_46 rfl ?_
                    apply cl_X9_135 (pc := 47) C rfl (t_seenUnlike hT hi hj) dX9_steps_47
                    · repeat (first | assumption | exact Cl.s (by assumption) | refine Cl.n (by first | decide | omega) ?_)
                    · rfl
                    · exact Nat.le_of_ble_eq_true rfl
                    apply cl_X9_217 (pc := 50) C rfl m1 dX9_steps_50
                    · repeat (first | assumption | exact Cl.s (by assumption) | refine Cl.n (by first | decide | omega) ?_)
                    · rfl
                    · exact Nat.le_of_ble_eq_true rfl
                    refine g_istore (pc := 53) C dX9_steps_53 (by decide) rfl ?_
                    refine g_iload_n (pc := 55) C dX9_steps_55 rfl ?_
                    refine g_if_eq (pc := 56) C 66 dX9_steps_56 (by decide) (fun c56 => ?_) (fun c56 => ?_)
                    · refine g_iload (pc := 66) C dX9_steps_66 rfl ?_
                      exact g_ireturn (pc := 68) C dX9_steps_68 rfl (rfl) (rfl)
                    · exact absurd rfl c56
                  · exact absurd (by decide) c28
          · have hw1 : w = 1 := by omega
            subst hw1
            rw [if_neg (by rintro (z | z); exact absurd z (by decide); exact m4_n (by omega) z)]
            by_cases hk0 : k = 0
            · subst hk0
              rw [if_pos (show nI 0 = 0 from rfl)]
              refine g_aload_n (pc := 0) C dX9_steps_0 rfl ?_
              apply gf_X9_68 (pc := 1) C rfl dX9_steps_1
              · repeat (first | assumption | exact Cl.s (by assumption) | refine Cl.n (by first | decide | omega) ?_)
              · rfl
              refine g_iload_n (pc := 4) C dX9_steps_4 rfl ?_
              apply cl_X9_115 (pc := 5) C rfl (t_hasPerson hT (nI i)) dX9_steps_5
              · repeat (first | assumption | exact Cl.s (by assumption) | refine Cl.n (by first | decide | omega) ?_)
              · rfl
              · exact Nat.le_of_ble_eq_true rfl
              refine g_if_eq (pc := 8) C 31 dX9_steps_8 (by decide) (fun c8 => ?_) (fun c8 => ?_)
              · exact absurd c8 (by rw [e]; decide)
              · refine g_aload_n (pc := 11) C dX9_steps_11 rfl ?_
                apply gf_X9_68 (pc := 12) C rfl dX9_steps_12
                · repeat (first | assumption | exact Cl.s (by assumption) | refine Cl.n (by first | decide | omega) ?_)
                · rfl
                refine g_iload_n (pc := 15) C dX9_steps_15 rfl ?_
                apply cl_X9_115 (pc := 16) C rfl (t_hasPerson hT (nI j)) dX9_steps_16
                · repeat (first | assumption | exact Cl.s (by assumption) | refine Cl.n (by first | decide | omega) ?_)
                · rfl
                · exact Nat.le_of_ble_eq_true rfl
                refine g_if_eq (pc := 19) C 31 dX9_steps_19 (by decide) (fun c19 => ?_) (fun c19 => ?_)
                · exact absurd c19 (by rw [e2]; decide)
                · refine g_iload_n (pc := 22) C dX9_steps_22 rfl ?_
                  refine g_if_lt (pc := 23) C 31 dX9_steps_23 (by decide) (fun c23 => ?_) (fun c23 => ?_)
                  · exact absurd c23 (by decide)
                  · refine g_iload_n (pc := 26) C dX9_steps_26 rfl ?_
                    refine g_iconst (pc := 27) (v := nI 1) C dX9_steps_27 (by decide) ?_
                    refine g_icmp_le (pc := 28) C 33 dX9_steps_28 (by decide) (fun c28 => ?_) (fun c28 => ?_)
                    · refine g_aload_n (pc := 33) C dX9_steps_33 rfl ?_
                      apply gf_X9_54 (pc := 34) C rfl dX9_steps_34
                      · repeat (first | assumption | exact Cl.s (by assumption) | refine Cl.n (by first | decide | omega) ?_)
                      · rfl
                      refine g_aload_n (pc := 37) C dX9_steps_37 rfl ?_
                      apply gf_X9_68 (pc := 38) C rfl dX9_steps_38
                      · repeat (first | assumption | exact Cl.s (by assumption) | refine Cl.n (by first | decide | omega) ?_)
                      · rfl
                      refine g_aload_n (pc := 41) C dX9_steps_41 rfl ?_
                      apply gf_X9_68 (pc := 42) C rfl dX9_steps_42
                      · repeat (first | assumption | exact Cl.s (by assumption) | refine Cl.n (by first | decide | omega) ?_)
                      · rfl
                      refine g_iload_n (pc := 45) C dX9_steps_45 rfl ?_
                      refine g_iload_n (pc := 46) C dX9_steps_46 rfl ?_
                      apply cl_X9_135 (pc := 47) C rfl (t_seenUnlike hT hi hj) dX9_steps_47
                      · repeat (first | assumption | exact Cl.s (by assumption) | refine Cl.n (by first | decide | omega) ?_)
                      · rfl
                      · exact Nat.le_of_ble_eq_true rfl
                      apply cl_X9_217 (pc := 50) C rfl m1 dX9_steps_50
                      · repeat (first | assumption | exact Cl.s (by assumption) | refine Cl.n (by first | decide | omega) ?_)
                      · rfl
                      · exact Nat.le_of_ble_eq_true rfl
                      refine g_istore (pc := 53) C dX9_steps_53 (by decide) rfl ?_
                      refine g_iload_n (pc := 55) C dX9_steps_55 rfl ?_
                      refine g_if_eq (pc := 56) C 66 dX9_steps_56 (by decide) (fun c56 => ?_) (fun c56 => ?_)
                      · exact absurd c56 (by decide)
                      · refine g_iload (pc := 59) C dX9_steps_59 rfl ?_
                        refine g_bipush (pc := 61) (v := -4) C dX9_steps_61 (by decide) ?_
                        refine g_icmp_nE (pc := 63) C 69 dX9_steps_63 (by decide) (fun c63 => ?_) (fun c63 => ?_)
                        · refine g_iload (pc := 69) C dX9_steps_69 rfl ?_
                          refine g_if_nE (pc := 71) C 79 dX9_steps_71 (by decide) (fun c71 => ?_) (fun c71 => ?_)
                          · exact absurd rfl c71
                          · refine g_bipush (pc := 74) (v := -4) C dX9_steps_74 (by decide) ?_
                            refine g_goto (pc := 76) C 108 dX9_steps_76 (by decide) ?_
                            exact g_ireturn (pc := 108) C dX9_steps_108 rfl (rfl) (rfl)
                        · exact absurd c63 (by decide)
                    · exact absurd (by decide) c28
            · rw [if_neg (by rw [nx_0, nI_eq (by omega) (by decide)]; exact hk0), nI_clamp (by omega)]
              refine g_aload_n (pc := 0) C dX9_steps_0 rfl ?_
              apply gf_X9_68 (pc := 1) C rfl dX9_steps_1
              · repeat (first | assumption | exact Cl.s (by assumption) | refine Cl.n (by first | decide | omega) ?_)
              · rfl
              refine g_iload_n (pc := 4) C dX9_steps_4 rfl ?_
              apply cl_X9_115 (pc := 5) C rfl (t_hasPerson hT (nI i)) dX9_steps_5
              · repeat (first | assumption | exact Cl.s (by assumption) | refine Cl.n (by first | decide | omega) ?_)
              · rfl
              · exact Nat.le_of_ble_eq_true rfl
              refine g_if_eq (pc := 8) C 31 dX9_steps_8 (by decide) (fun c8 => ?_) (fun c8 => ?_)
              · exact absurd c8 (by rw [e]; decide)
              · refine g_aload_n (pc := 11) C dX9_steps_11 rfl ?_
                apply gf_X9_68 (pc := 12) C rfl dX9_steps_12
                · repeat (first | assumption | exact Cl.s (by assumption) | refine Cl.n (by first | decide | omega) ?_)
                · rfl
                refine g_iload_n (pc := 15) C dX9_steps_15 rfl ?_
                apply cl_X9_115 (pc := 16) C rfl (t_hasPerson hT (nI j)) dX9_steps_16
                · repeat (first | assumption | exact Cl.s (by assumption) | refine Cl.n (by first | decide | omega) ?_)
                · rfl
                · exact Nat.le_of_ble_eq_true rfl
                refine g_if_eq (pc := 19) C 31 dX9_steps_19 (by decide) (fun c19 => ?_) (fun c19 => ?_)
                · exact absurd c19 (by rw [e2]; decide)
                · refine g_iload_n (pc := 22) C dX9_steps_22 rfl ?_
                  refine g_if_lt (pc := 23) C 31 dX9_steps_23 (by decide) (fun c23 => ?_) (fun c23 => ?_)
                  · exact absurd c23 (by decide)
                  · refine g_iload_n (pc := 26) C dX9_steps_26 rfl ?_
                    refine g_iconst (pc := 27) (v := nI 1) C dX9_steps_27 (by decide) ?_
                    refine g_icmp_le (pc := 28) C 33 dX9_steps_28 (by decide) (fun c28 => ?_) (fun c28 => ?_)
                    · refine g_aload_n (pc := 33) C dX9_steps_33 rfl ?_
                      apply gf_X9_54 (pc := 34) C rfl dX9_steps_34
                      · repeat (first | assumption | exact Cl.s (by assumption) | refine Cl.n (by first | decide | omega) ?_)
                      · rfl
                      refine g_aload_n (pc := 37) C dX9_steps_37 rfl ?_
                      apply gf_X9_68 (pc := 38) C rfl dX9_steps_38
                      · repeat (first | assumption | exact Cl.s (by assumption) | refine Cl.n (by first | decide | omega) ?_)
                      · rfl
                      refine g_aload_n (pc := 41) C dX9_steps_41 rfl ?_
                      apply gf_X9_68 (pc := 42) C rfl dX9_steps_42
                      · repeat (first | assumption | exact Cl.s (by assumption) | refine Cl.n (by first | decide | omega) ?_)
                      · rfl
                      refine g_iload_n (pc := 45) C dX9_steps_45 rfl ?_
                      refine g_iload_n (pc := 46) C dX9_steps_46 rfl ?_
                      apply cl_X9_135 (pc := 47) C rfl (t_seenUnlike hT hi hj) dX9_steps_47
                      · repeat (first | assumption | exact Cl.s (by assumption) | refine Cl.n (by first | decide | omega) ?_)
                      · rfl
                      · exact Nat.le_of_ble_eq_true rfl
                      apply cl_X9_217 (pc := 50) C rfl m1 dX9_steps_50
                      · repeat (first | assumption | exact Cl.s (by assumption) | refine Cl.n (by first | decide | omega) ?_)
                      · rfl
                      · exact Nat.le_of_ble_eq_true rfl
                      refine g_istore (pc := 53) C dX9_steps_53 (by decide) rfl ?_
                      refine g_iload_n (pc := 55) C dX9_steps_55 rfl ?_
                      refine g_if_eq (pc := 56) C 66 dX9_steps_56 (by decide) (fun c56 => ?_) (fun c56 => ?_)
                      · exact absurd c56 (by decide)
                      · refine g_iload (pc := 59) C dX9_steps_59 rfl ?_
                        refine g_bipush (pc := 61) (v := -4) C dX9_steps_61 (by decide) ?_
                        refine g_icmp_nE (pc := 63) C 69 dX9_steps_63 (by decide) (fun c63 => ?_) (fun c63 => ?_)
                        · refine g_iload (pc := 69) C dX9_steps_69 rfl ?_
                          refine g_if_nE (pc := 71) C 79 dX9_steps_71 (by decide) (fun c71 => ?_) (fun c71 => ?_)
                          · refine g_aload_n (pc := 79) C dX9_steps_79 rfl ?_
                            apply gf_X9_54 (pc := 80) C rfl dX9_steps_80
                            · repeat (first | assumption | exact Cl.s (by assumption) | refine Cl.n (by first | decide | omega) ?_)
                            · rfl
                            refine g_aload_n (pc := 83) C dX9_steps_83 rfl ?_
                            apply gf_X9_68 (pc := 84) C rfl dX9_steps_84
                            · repeat (first | assumption | exact Cl.s (by assumption) | refine Cl.n (by first | decide | omega) ?_)
                            · rfl
                            refine g_aload_n (pc := 87) C dX9_steps_87 rfl ?_
                            apply gf_X9_68 (pc := 88) C rfl dX9_steps_88
                            · repeat (first | assumption | exact Cl.s (by assumption) | refine Cl.n (by first | decide | omega) ?_)
                            · rfl
                            refine g_iload_n (pc := 91) C dX9_steps_91 rfl ?_
                            apply cl_X9_121 (pc := 92) C rfl (t_look hT1 hi) dX9_steps_92
                            · repeat (first | assumption | exact Cl.s (by assumption) | refine Cl.n (by first | decide | omega) ?_)
                            · rfl
                            · exact Nat.le_of_ble_eq_true rfl
                            refine g_aload_n (pc := 95) C dX9_steps_95 rfl ?_
                            apply gf_X9_68 (pc := 96) C rfl dX9_steps_96
                            · repeat (first | assumption | exact Cl.s (by assumption) | refine Cl.n (by first | decide | omega) ?_)
                            · rfl
                            refine g_iload_n (pc := 99) C dX9_steps_99 rfl ?_
                            apply cl_X9_121 (pc := 100) C rfl (t_look hT1 hj) dX9_steps_100
                            · repeat (first | assumption | exact Cl.s (by assumption) | refine Cl.n (by first | decide | omega) ?_)
                            · rfl
                            · exact Nat.le_of_ble_eq_true rfl
                            refine g_iload (pc := 103) C dX9_steps_103 rfl ?_
                            apply cl_X9_220 (pc := 105) C rfl (t_leastFirst hT1 z7 z19 (tp4 hT hi) (tp4 hT hj) (n := k) (by omega) (fun k' hk' b hb => m2 k q2 q1 k' (by omega) b hb)) dX9_steps_105
                            · repeat (first | assumption | exact Cl.s (by assumption) | refine Cl.n (by first | decide | omega) ?_)
                            · rfl
                            · exact Nat.le_of_ble_eq_true rfl
                            exact g_ireturn (pc := 108) C dX9_steps_108 rfl (rfl) (rfl)
                          · exact absurd c71 (by rw [nx_0, nI_eq (by omega) (by decide)]; exact hk0)
                        · exact absurd c63 (m4_n (by omega))
                    · exact absurd (by decide) c28
end STEPS2

