section REF5
variable {G : GG} {σ : WW} {T : TS} {h : HH} {len at_ rm : Int32}
theorem r_append {v : Int64} {kept done : Int32} : ∀ d2 {σ : WW} {n : Nat} {x : Nat → Int32}, Cl G σ 0 (cRef G (nI n) at_ kept done rm) → QX G σ n x → n + d2 ≤ 300 → d2 ≤ 8 → ∃ σ', (∀ κ, Cx G mX10_write κ → Go G mX10_write κ (some (.int (nI (n + d2)))) σ' σ 34 [(0, .ref (ga G 0)), (2, .long v), (4, .int (lat d2))] []) ∧ Cl G σ' 0 (cRef G (nI (n + d2)) at_ kept done rm) ∧ QX G σ' (n + d2) (putB v n x d2) ∧ Fr σ σ' [0, 1] := by
  intro d2
  induction d2 with
  | zero =>
    intro σ n x h0 hx hn hd
    have hx' := hx
    obtain ⟨f, h1, hf⟩ := hx
    refine ⟨σ, fun κ C => ?_, h0, hx', fr0⟩
    refine g_iload (pc := 34) C dX10_write_34 rfl ?_
    refine g_if_lt (pc := 36) C 73 dX10_write_36 (by decide) (fun c36 => ?_) (fun c36 => ?_)
    · refine g_aload_n (pc := 73) C dX10_write_73 rfl ?_
      apply gf_X10_78 (pc := 74) C rfl dX10_write_74
      · repeat (first | assumption | exact Cl.s (by assumption) | refine Cl.n (by first | decide | omega) ?_)
      · rfl
      exact g_ireturn (pc := 77) C dX10_write_77 rfl (rfl) (rfl)
    · exact absurd (by rw [lat_0]; decide) c36
  | succ d2 ih =>
    intro σ n x h0 hx hn hd
    obtain ⟨f, h1, hf⟩ := hx
    have hx2 : QX G (va_up (va_up σ 1 (bA G 300 (upd f n (byt v d2)))) 0 (cRef G (nI (n + 1)) at_ kept done rm)) (n + 1) (upd x n (byt v d2)) := by
      refine ⟨upd f n (byt v d2), Cl.n (by decide) (Cl.s h1), fun k hk => ?_⟩
      by_cases e : k = n
      · rw [e, pk_us, pk_us]
      · rw [pk_un e, pk_un e]
        exact hf k (by omega)
    obtain ⟨σ1, g1, g0, g2, g3⟩ := ih (Cl.s (Cl.n (by decide) h0)) hx2 (by omega) (by omega)
    rw [show n + 1 + d2 = n + (d2 + 1) by omega] at g1 g0 g2
    refine ⟨σ1, fun κ C => ?_, g0, g2, fun j hj => (g3 j hj).trans (fr3 (fr3 fr0 (by decide)) (by decide) j hj)⟩
    have g1 := g1 κ C
    have e8 : vp_nar .byte (byt v d2) = byt v d2 := pk_vb _
    refine g_iload (pc := 34) C dX10_write_34 rfl ?_
    refine g_if_lt (pc := 36) C 73 dX10_write_36 (by decide) (fun c36 => ?_) (fun c36 => ?_)
    · exact absurd c36 (by rw [lat_s]; exact nI_pos (by omega))
    · refine g_aload_n (pc := 39) C dX10_write_39 rfl ?_
      apply gf_X10_7 (pc := 40) C rfl dX10_write_40
      · repeat (first | assumption | exact Cl.s (by assumption) | refine Cl.n (by first | decide | omega) ?_)
      · rfl
      refine g_aload_n (pc := 43) C dX10_write_43 rfl ?_
      apply gf_X10_78 (pc := 44) C rfl dX10_write_44
      · repeat (first | assumption | exact Cl.s (by assumption) | refine Cl.n (by first | decide | omega) ?_)
      · rfl
      refine g_lload_n (pc := 47) C dX10_write_47 rfl ?_
      refine g_bipush (pc := 48) (v := nI 8) C dX10_write_48 (by decide) ?_
      refine g_iload (pc := 50) C dX10_write_50 rfl ?_
      refine g_imul (pc := 52) C dX10_write_52 ?_
      rw [lat_s, pk_mul]
      refine g_lshr (pc := 53) C dX10_write_53 ?_
      refine g_l2i (pc := 54) C dX10_write_54 ?_
      refine g_i2b (pc := 55) C dX10_write_55 ?_
      rw [byt_sh v d2 (by omega)]
      apply g_bastore (pc := 56) C dX10_write_56
      · repeat (first | assumption | exact Cl.s (by assumption) | refine Cl.n (by first | decide | omega) ?_)
      · exact vp_in_nI (by omega) (by decide)
      intro hw56
      refine g_aload_n (pc := 57) C dX10_write_57 rfl ?_
      refine g_dup (pc := 58) C dX10_write_58 rfl ?_
      apply gf_X10_78 (pc := 59) C rfl dX10_write_59
      · repeat (first | assumption | exact Cl.s (by assumption) | refine Cl.n (by first | decide | omega) ?_)
      · rfl
      refine g_iconst (pc := 62) (v := nI 1) C dX10_write_62 (by decide) ?_
      refine g_iadd (pc := 63) C dX10_write_63 ?_
      apply pf_X10_78 (pc := 64) C rfl dX10_write_64
      · repeat (first | assumption | exact Cl.s (by assumption) | refine Cl.n (by first | decide | omega) ?_)
      · rfl
      · rfl
      · exact Nat.le_of_ble_eq_true rfl
      intro hw64
      refine g_iinc (pc := 67) C dX10_write_67 rfl (by decide) rfl ?_
      refine g_goto (pc := 70) C 34 dX10_write_70 (by decide) ?_
      rw [nI_clamp (by omega), nI_add]
      refine g_to (lv' := [(0, .ref (ga G 0)), (2, .long v), (4, .int (lat d2))]) ?_ ⟨rfl, rfl, lgi (by rw [lat, Int32.sub_eq_add_neg]; rfl), trivial⟩
      have e9 : ∀ z, z = byt v d2 → Go G mX10_write κ (some (.int (nI (n + (d2 + 1))))) σ1 (va_up (va_up σ 1 (bA G 300 (upd f n (vp_nar .byte z)))) 0 (cRef G (nI (n + 1)) at_ kept done rm)) 34 [(0, .ref (ga G 0)), (2, .long v), (4, .int (lat d2))] [] := fun z hz => by rw [hz, e8]; exact g1
      exact e9 _ rfl
theorem q_write {n : Nat} {x : Nat → Int32} {kept done : Int32} (h0 : Cl G σ 0 (cRef G (nI n) at_ kept done rm)) (hx : QX G σ n x) (hn : n ≤ 300) (k : Int32) (v : Int64) : ∃ σ', Mt G mX10_write [.ref (ga G 0), .int k, .long v] σ (some (.int (writeF n x k v).1)) σ' ∧ Cl G σ' 0 (cRef G (nI (writeF n x k v).2.1) at_ kept done rm) ∧ QX G σ' (writeF n x k v).2.1 (writeF n x k v).2.2 ∧ Fr σ σ' [0, 1] := by
  have eB : inB k.toInt64 1 8 = decide (1 ≤ k.toInt ∧ k.toInt ≤ 8) := inB_I k 1 8
  by_cases hb : k < 1 ∨ 8 < k
  · rw [show writeF n x k v = (-1, n, x) by unfold writeF; rw [if_pos hb]]
    refine ⟨σ, ?_, h0, hx, fr0⟩
    have e : inB k.toInt64 1 8 = false := by
      rw [eB, decide_eq_false_iff_not]
      intro q
      rcases hb with b | b
      · have := Int32.lt_iff_toInt_lt.mp b
        rw [show (1 : Int32).toInt = 1 from rfl] at this
        omega
      · have := Int32.lt_iff_toInt_lt.mp b
        rw [show (8 : Int32).toInt = 8 from rfl] at this
        omega
    refine Mt.of (by decide +kernel) (Nat.le_of_ble_eq_true rfl) (fun κ C => ?_)
    refine g_iload_n (pc := 0) C dX10_write_0 rfl ?_
    refine g_i2l (pc := 1) C dX10_write_1 ?_
    refine g_lconst (pc := 2) (v := 1) C dX10_write_2 (by decide) ?_
    refine g_ldc2 (pc := 3) C dX10_write_3 k_X10_72 ?_
    refine cl_X10_74 (pc := 6) C rfl (r_in _ _ _) dX10_write_6 rfl (Nat.le_of_ble_eq_true rfl) ?_
    refine g_if_nE (pc := 9) C 14 dX10_write_9 (by decide) (fun c9 => ?_) (fun c9 => ?_)
    · exact absurd (by change nI (b2 (inB k.toInt64 1 8)) = 0; rw [e]; rfl) c9
    · refine g_iconst (pc := 12) (v := -1) C dX10_write_12 (by decide) ?_
      exact g_ireturn (pc := 13) C dX10_write_13 rfl (rfl) (rfl)
  · have hk1 : ¬ k < 1 := fun q => hb (Or.inl q)
    have hk8 : ¬ 8 < k := fun q => hb (Or.inr q)
    have e : inB k.toInt64 1 8 = true := by
      rw [eB, decide_eq_true_iff]
      have a1 := Int32.le_iff_toInt_le.mp (Int32.not_lt.mp hk1)
      have a2 := Int32.le_iff_toInt_le.mp (Int32.not_lt.mp hk8)
      rw [show (1 : Int32).toInt = 1 from rfl] at a1
      rw [show (8 : Int32).toInt = 8 from rfl] at a2
      exact ⟨a1, a2⟩
    obtain ⟨j, hj, rfl⟩ : ∃ j : Nat, j ≤ 8 ∧ k = nI j := nI_of2 (M := 8) (n := 8) (by decide) (fun q => hk1 (Int32.lt_of_lt_of_le q (by decide))) (Int32.not_lt.mp hk8)
    have ej := nI_clamp (n := j) (by omega)
    by_cases hr : n + j ≤ 300
    · rw [show writeF n x (nI j) v = (nI (n + j), n + j, putB v n x j) by simp [writeF, hk1, hk8, ej, hr]]
      obtain ⟨σ1, g1, g0, g2, g3⟩ := r_append (v := v) j h0 hx hr hj
      refine ⟨σ1, ?_, g0, g2, g3⟩
      refine Mt.of (by decide +kernel) (Nat.le_of_ble_eq_true rfl) (fun κ C => ?_)
      refine g_iload_n (pc := 0) C dX10_write_0 rfl ?_
      refine g_i2l (pc := 1) C dX10_write_1 ?_
      refine g_lconst (pc := 2) (v := 1) C dX10_write_2 (by decide) ?_
      refine g_ldc2 (pc := 3) C dX10_write_3 k_X10_72 ?_
      refine cl_X10_74 (pc := 6) C rfl (r_in _ _ _) dX10_write_6 rfl (Nat.le_of_ble_eq_true rfl) ?_
      refine g_if_nE (pc := 9) C 14 dX10_write_9 (by decide) (fun c9 => ?_) (fun c9 => ?_)
      · refine g_aload_n (pc := 14) C dX10_write_14 rfl ?_
        apply gf_X10_78 (pc := 15) C rfl dX10_write_15
        · repeat (first | assumption | exact Cl.s (by assumption) | refine Cl.n (by first | decide | omega) ?_)
        · rfl
        refine g_iload_n (pc := 18) C dX10_write_18 rfl ?_
        refine g_iadd (pc := 19) C dX10_write_19 ?_
        rw [nI_add]
        refine g_sipush (pc := 20) (v := nI 300) C dX10_write_20 (by decide) ?_
        refine g_icmp_le (pc := 23) C 29 dX10_write_23 (by decide) (fun c23 => ?_) (fun c23 => ?_)
        · refine g_iload_n (pc := 29) C dX10_write_29 rfl ?_
          refine g_iconst (pc := 30) (v := nI 1) C dX10_write_30 (by decide) ?_
          refine g_isub (pc := 31) C dX10_write_31 ?_
          refine g_istore (pc := 32) C dX10_write_32 (by decide) rfl ?_
          exact g_to (g1 κ C) ⟨rfl, rfl, rfl, trivial⟩
        · exact absurd (nI_le hr (by decide)) c23
      · exact absurd c9 (by change ¬ nI (b2 (inB (nI j).toInt64 1 8)) = 0; rw [e]; decide)
    · rw [show writeF n x (nI j) v = (-3, n, x) by simp [writeF, hk1, hk8, ej, hr]]
      refine ⟨σ, ?_, h0, hx, fr0⟩
      refine Mt.of (by decide +kernel) (Nat.le_of_ble_eq_true rfl) (fun κ C => ?_)
      refine g_iload_n (pc := 0) C dX10_write_0 rfl ?_
      refine g_i2l (pc := 1) C dX10_write_1 ?_
      refine g_lconst (pc := 2) (v := 1) C dX10_write_2 (by decide) ?_
      refine g_ldc2 (pc := 3) C dX10_write_3 k_X10_72 ?_
      refine cl_X10_74 (pc := 6) C rfl (r_in _ _ _) dX10_write_6 rfl (Nat.le_of_ble_eq_true rfl) ?_
      refine g_if_nE (pc := 9) C 14 dX10_write_9 (by decide) (fun c9 => ?_) (fun c9 => ?_)
      · refine g_aload_n (pc := 14) C dX10_write_14 rfl ?_
        apply gf_X10_78 (pc := 15) C rfl dX10_write_15
        · repeat (first | assumption | exact Cl.s (by assumption) | refine Cl.n (by first | decide | omega) ?_)
        · rfl
        refine g_iload_n (pc := 18) C dX10_write_18 rfl ?_
        refine g_iadd (pc := 19) C dX10_write_19 ?_
        rw [nI_add]
        refine g_sipush (pc := 20) (v := nI 300) C dX10_write_20 (by decide) ?_
        refine g_icmp_le (pc := 23) C 29 dX10_write_23 (by decide) (fun c23 => ?_) (fun c23 => ?_)
        · exact absurd c23 (nI_ge (by omega) (by omega))
        · refine g_bipush (pc := 26) (v := -3) C dX10_write_26 (by decide) ?_
          exact g_ireturn (pc := 28) C dX10_write_28 rfl (rfl) (rfl)
      · exact absurd c9 (by change ¬ nI (b2 (inB (nI j).toInt64 1 8)) = 0; rw [e]; decide)
theorem q_count {n r : Nat} (hT : QT G σ T) (hg : QG G σ (nI n) at_ (nI r) h) (hw : HW (tm T) h) (y : Int32) : Mt G mX10_count [.ref (ga G 0), .int y] σ (some (.int (countF T h n r y))) σ := by
  have hT' := hT
  obtain ⟨ft, fn, fv, fl, fm, fp, h2, h3, h4, h5, h6, h7, hW, h1, e0, e1, e2, e3, hv, hl, hp⟩ := hT
  obtain ⟨h0, ⟨fs, h8, hs0, hs1⟩, fw, h9', hfw⟩ := hg
  refine Mt.of (by decide +kernel) (Nat.le_of_ble_eq_true rfl) (fun κ C => ?_)
  rcases pk_ix y (n := 9) (by decide) with q | q | ⟨j, hj, rfl⟩
  · rw [show countF T h n r y = -1 by simp [countF, inR_a q]]
    refine g_iload_n (pc := 0) C dX10_count_0 rfl ?_
    refine g_tableOut (pc := 1) C 108 dX10_count_1 (Or.inl (by simpa using Int32.lt_iff_toInt_lt.mp q)) (by decide) ?_
    refine g_iconst (pc := 108) (v := -1) C dX10_count_108 (by decide) ?_
    exact g_ireturn (pc := 109) C dX10_count_109 rfl (rfl) (rfl)
  · rw [show countF T h n r y = -1 by simp [countF, inR_b q]]
    refine g_iload_n (pc := 0) C dX10_count_0 rfl ?_
    refine g_tableOut (pc := 1) C 108 dX10_count_1 (Or.inr (by have := Int32.le_iff_toInt_le.mp q; rw [nI_toInt (by decide)] at this; omega)) (by decide) ?_
    refine g_iconst (pc := 108) (v := -1) C dX10_count_108 (by decide) ?_
    exact g_ireturn (pc := 109) C dX10_count_109 rfl (rfl) (rfl)
  · rw [show countF T h n r (nI j) = cntV T h n r j by simp [countF, inR_n hj, nI_clamp (show j < 2 ^ 31 by omega)]]
    have hj' : j = 0 ∨ j = 1 ∨ j = 2 ∨ j = 3 ∨ j = 4 ∨ j = 5 ∨ j = 6 ∨ j = 7 ∨ j = 8 := by omega
    refine g_iload_n (pc := 0) C dX10_count_0 rfl ?_
    rcases hj' with rfl | rfl | rfl | rfl | rfl | rfl | rfl | rfl | rfl
    · refine g_tableIn (pc := 1) C 52 dX10_count_1 (by decide) (by decide) rfl (by decide) ?_
      refine g_aload_n (pc := 52) C dX10_count_52 rfl ?_
      apply gf_X10_26 (pc := 53) C rfl dX10_count_53
      · repeat (first | assumption | exact Cl.s (by assumption) | refine Cl.n (by first | decide | omega) ?_)
      · rfl
      refine g_iconst (pc := 56) (v := nI 0) C dX10_count_56 (by decide) ?_
      apply g_iaload (pc := 57) C dX10_count_57
      · repeat (first | assumption | exact Cl.s (by assumption) | refine Cl.n (by first | decide | omega) ?_)
      · exact vp_in_nI (n := 0) (by decide) (by decide)
      exact g_ireturn (pc := 58) C dX10_count_58 rfl (by rw [nI_clamp (by decide), e3]; rfl) (rfl)
    · refine g_tableIn (pc := 1) C 59 dX10_count_1 (by decide) (by decide) rfl (by decide) ?_
      refine g_aload_n (pc := 59) C dX10_count_59 rfl ?_
      apply gf_X10_17 (pc := 60) C rfl dX10_count_60
      · repeat (first | assumption | exact Cl.s (by assumption) | refine Cl.n (by first | decide | omega) ?_)
      · rfl
      refine g_iconst (pc := 63) (v := nI 0) C dX10_count_63 (by decide) ?_
      apply g_iaload (pc := 64) C dX10_count_64
      · repeat (first | assumption | exact Cl.s (by assumption) | refine Cl.n (by first | decide | omega) ?_)
      · exact vp_in_nI (n := 0) (by decide) (by decide)
      exact g_ireturn (pc := 65) C dX10_count_65 rfl (by rw [nI_clamp (by decide), e2]; rfl) (rfl)
    · refine g_tableIn (pc := 1) C 66 dX10_count_1 (by decide) (by decide) rfl (by decide) ?_
      refine g_aload_n (pc := 66) C dX10_count_66 rfl ?_
      apply gf_X10_32 (pc := 67) C rfl dX10_count_67
      · repeat (first | assumption | exact Cl.s (by assumption) | refine Cl.n (by first | decide | omega) ?_)
      · rfl
      refine g_iconst (pc := 70) (v := nI 0) C dX10_count_70 (by decide) ?_
      apply g_iaload (pc := 71) C dX10_count_71
      · repeat (first | assumption | exact Cl.s (by assumption) | refine Cl.n (by first | decide | omega) ?_)
      · exact vp_in_nI (n := 0) (by decide) (by decide)
      rw [nI_clamp (by decide), hs0.1]
      refine cl_X10_143 (pc := 72) C rfl (r_many (by have := hw.1.1; omega)) dX10_count_72 rfl (Nat.le_of_ble_eq_true rfl) ?_
      exact g_ireturn (pc := 75) C dX10_count_75 rfl (rfl) (rfl)
    · refine g_tableIn (pc := 1) C 76 dX10_count_1 (by decide) (by decide) rfl (by decide) ?_
      refine g_aload_n (pc := 76) C dX10_count_76 rfl ?_
      apply gf_X10_111 (pc := 77) C rfl dX10_count_77
      · repeat (first | assumption | exact Cl.s (by assumption) | refine Cl.n (by first | decide | omega) ?_)
      · rfl
      exact g_ireturn (pc := 80) C dX10_count_80 rfl (rfl) (rfl)
    · refine g_tableIn (pc := 1) C 81 dX10_count_1 (by decide) (by decide) rfl (by decide) ?_
      refine g_aload_n (pc := 81) C dX10_count_81 rfl ?_
      apply gf_X10_114 (pc := 82) C rfl dX10_count_82
      · repeat (first | assumption | exact Cl.s (by assumption) | refine Cl.n (by first | decide | omega) ?_)
      · rfl
      exact g_ireturn (pc := 85) C dX10_count_85 rfl (rfl) (rfl)
    · refine g_tableIn (pc := 1) C 86 dX10_count_1 (by decide) (by decide) rfl (by decide) ?_
      refine g_aload_n (pc := 86) C dX10_count_86 rfl ?_
      apply gf_X10_117 (pc := 87) C rfl dX10_count_87
      · repeat (first | assumption | exact Cl.s (by assumption) | refine Cl.n (by first | decide | omega) ?_)
      · rfl
      exact g_ireturn (pc := 90) C dX10_count_90 rfl (rfl) (rfl)
    · refine g_tableIn (pc := 1) C 91 dX10_count_1 (by decide) (by decide) rfl (by decide) ?_
      refine g_aload_n (pc := 91) C dX10_count_91 rfl ?_
      apply gf_X10_78 (pc := 92) C rfl dX10_count_92
      · repeat (first | assumption | exact Cl.s (by assumption) | refine Cl.n (by first | decide | omega) ?_)
      · rfl
      exact g_ireturn (pc := 95) C dX10_count_95 rfl (rfl) (rfl)
    · refine g_tableIn (pc := 1) C 96 dX10_count_1 (by decide) (by decide) rfl (by decide) ?_
      refine g_aload_n (pc := 96) C dX10_count_96 rfl ?_
      apply gf_X10_13 (pc := 97) C rfl dX10_count_97
      · repeat (first | assumption | exact Cl.s (by assumption) | refine Cl.n (by first | decide | omega) ?_)
      · rfl
      refine g_iconst (pc := 100) (v := nI 0) C dX10_count_100 (by decide) ?_
      apply g_iaload (pc := 101) C dX10_count_101
      · repeat (first | assumption | exact Cl.s (by assumption) | refine Cl.n (by first | decide | omega) ?_)
      · exact vp_in_nI (n := 0) (by decide) (by decide)
      exact g_ireturn (pc := 102) C dX10_count_102 rfl (by rw [nI_clamp (by decide), e0]; rfl) (rfl)
    · refine g_tableIn (pc := 1) C 103 dX10_count_1 (by decide) (by decide) rfl (by decide) ?_
      refine g_aload_n (pc := 103) C dX10_count_103 rfl ?_
      apply cl_X10_140 (pc := 104) C rfl (r_seen h0 hT') dX10_count_104
      · repeat (first | assumption | exact Cl.s (by assumption) | refine Cl.n (by first | decide | omega) ?_)
      · rfl
      · exact Nat.le_of_ble_eq_true rfl
      exact g_ireturn (pc := 107) C dX10_count_107 rfl (rfl) (rfl)
theorem q_judge {n : Nat} {w : Nat → Nat} {kept done : Int32} (h0 : Cl G σ 0 (cRef G len at_ kept done (nI n))) (hT : QT G σ T) (hr : QR G σ n w) (hn : n ≤ 16) (hw : ∀ k, k < n → w k < tm T) : Mt G mX10_judge [.ref (ga G 0)] σ (some (.int (jd T w n 0 0 0))) σ := by
  have hT' := hT
  obtain ⟨ft, fn, fv, fl, fm, fp, h2, h3, h4, h5, h6, h7, hW, h1, e0, e1, e2, e3, hv, hl, hp⟩ := hT
  obtain ⟨f, h10, hf⟩ := hr
  have hlaw := hW.2.2.2.2.2.2.1
  have hm := hW.2.2.2.2.1
  refine Mt.of (by decide +kernel) (Nat.le_of_ble_eq_true rfl) (fun κ C => ?_)
  have loop : ∀ d k a, k + 1 + d = n → a < 32 → Go G mX10_judge κ (some (.int (jd T w d (k + 1) (w k + 1) a))) σ σ 4 [(0, .ref (ga G 0)), (1, .int (nI a)), (2, .int (nI (k + 1)))] [] := by
    intro d
    induction d with
    | zero =>
      intro k a hk ha
      refine g_iload_n (pc := 4) C dX10_judge_4 rfl ?_
      refine g_aload_n (pc := 5) C dX10_judge_5 rfl ?_
      apply gf_X10_111 (pc := 6) C rfl dX10_judge_6
      · repeat (first | assumption | exact Cl.s (by assumption) | refine Cl.n (by first | decide | omega) ?_)
      · rfl
      refine g_icmp_ge (pc := 9) C 60 dX10_judge_9 (by decide) (fun c9 => ?_) (fun c9 => ?_)
      · refine g_bipush (pc := 60) (v := -4) C dX10_judge_60 (by decide) ?_
        exact g_ireturn (pc := 62) C dX10_judge_62 rfl (rfl) (rfl)
      · exact absurd (nI_le (by omega) (by omega)) c9
    | succ d ih =>
      intro k a hk ha
      have w1 := hw (k + 1) (by omega)
      have w0 := hw k (by omega)
      have hu := and_lt32 (b := seen T) (UU_lt T (w (k + 1)) (w k) hW.1)
      have eu : uL T (w k + 1) (w (k + 1)) = UU T (w (k + 1)) (w k) &&& seen T := by simp [uL, UU_comm T (w k) (w (k + 1))]
      have el : lLets T (w k + 1) a (w (k + 1)) = ps (tl T) (UU T (w (k + 1)) (w k) &&& seen T) a := by simp [lLets, eu]
      cases hc : ps (tl T) (UU T (w (k + 1)) (w k) &&& seen T) a
      · rw [show jd T w (d + 1) (k + 1) (w k + 1) a = nI (k + 1) by simp [jd, el, hc]]
        refine g_iload_n (pc := 4) C dX10_judge_4 rfl ?_
        refine g_aload_n (pc := 5) C dX10_judge_5 rfl ?_
        apply gf_X10_111 (pc := 6) C rfl dX10_judge_6
        · repeat (first | assumption | exact Cl.s (by assumption) | refine Cl.n (by first | decide | omega) ?_)
        · rfl
        refine g_icmp_ge (pc := 9) C 60 dX10_judge_9 (by decide) (fun c9 => ?_) (fun c9 => ?_)
        · exact absurd c9 (nI_ge (by omega) (by omega))
        · refine g_aload_n (pc := 12) C dX10_judge_12 rfl ?_
          refine g_aload_n (pc := 13) C dX10_judge_13 rfl ?_
          apply gf_X10_38 (pc := 14) C rfl dX10_judge_14
          · repeat (first | assumption | exact Cl.s (by assumption) | refine Cl.n (by first | decide | omega) ?_)
          · rfl
          refine g_iload_n (pc := 17) C dX10_judge_17 rfl ?_
          apply g_iaload (pc := 18) C dX10_judge_18
          · repeat (first | assumption | exact Cl.s (by assumption) | refine Cl.n (by first | decide | omega) ?_)
          · exact vp_in_nI (by omega) (by decide)
          refine g_aload_n (pc := 19) C dX10_judge_19 rfl ?_
          apply gf_X10_38 (pc := 20) C rfl dX10_judge_20
          · repeat (first | assumption | exact Cl.s (by assumption) | refine Cl.n (by first | decide | omega) ?_)
          · rfl
          refine g_iload_n (pc := 23) C dX10_judge_23 rfl ?_
          refine g_iconst (pc := 24) (v := nI 1) C dX10_judge_24 (by decide) ?_
          rw [nI_clamp (by omega), hf (k + 1) (by omega)]
          refine g_isub (pc := 25) C dX10_judge_25 ?_
          rw [pk_sub (by omega), show k + 1 - 1 = k by omega]
          apply g_iaload (pc := 26) C dX10_judge_26
          · repeat (first | assumption | exact Cl.s (by assumption) | refine Cl.n (by first | decide | omega) ?_)
          · exact vp_in_nI (by omega) (by decide)
          rw [nI_clamp (by omega), hf k (by omega)]
          apply cl_X10_136 (pc := 27) C rfl (r_unlike h0 hT' w1 w0) dX10_judge_27
          · repeat (first | assumption | exact Cl.s (by assumption) | refine Cl.n (by first | decide | omega) ?_)
          · rfl
          · exact Nat.le_of_ble_eq_true rfl
          refine g_aload_n (pc := 30) C dX10_judge_30 rfl ?_
          apply cl_X10_140 (pc := 31) C rfl (r_seen h0 hT') dX10_judge_31
          · repeat (first | assumption | exact Cl.s (by assumption) | refine Cl.n (by first | decide | omega) ?_)
          · rfl
          · exact Nat.le_of_ble_eq_true rfl
          refine g_iand (pc := 34) C dX10_judge_34 ?_
          rw [nx_and]
          refine g_istore_n (pc := 35) C dX10_judge_35 (by decide) rfl ?_
          refine g_aload_n (pc := 36) C dX10_judge_36 rfl ?_
          apply gf_X10_13 (pc := 37) C rfl dX10_judge_37
          · repeat (first | assumption | exact Cl.s (by assumption) | refine Cl.n (by first | decide | omega) ?_)
          · rfl
          refine g_iconst (pc := 40) (v := nI 0) C dX10_judge_40 (by decide) ?_
          apply g_iaload (pc := 41) C dX10_judge_41
          · repeat (first | assumption | exact Cl.s (by assumption) | refine Cl.n (by first | decide | omega) ?_)
          · exact vp_in_nI (n := 0) (by decide) (by decide)
          rw [nI_clamp (by decide), e0]
          refine g_iload_n (pc := 42) C dX10_judge_42 rfl ?_
          refine g_iload_n (pc := 43) C dX10_judge_43 rfl ?_
          refine cl_X10_146 (pc := 44) C rfl (r_passes hlaw (by omega) (by omega)) dX10_judge_44 rfl (Nat.le_of_ble_eq_true rfl) ?_
          refine g_if_nE (pc := 47) C 52 dX10_judge_47 (by decide) (fun c47 => ?_) (fun c47 => ?_)
          · exact absurd (by rw [hc]; rfl) c47
          · refine g_iload_n (pc := 50) C dX10_judge_50 rfl ?_
            exact g_ireturn (pc := 51) C dX10_judge_51 rfl (rfl) (rfl)
      · rw [show jd T w (d + 1) (k + 1) (w k + 1) a = jd T w d (k + 1 + 1) (w (k + 1) + 1) (UU T (w (k + 1)) (w k) &&& seen T) by simp [jd, el, hc, eu]]
        refine g_iload_n (pc := 4) C dX10_judge_4 rfl ?_
        refine g_aload_n (pc := 5) C dX10_judge_5 rfl ?_
        apply gf_X10_111 (pc := 6) C rfl dX10_judge_6
        · repeat (first | assumption | exact Cl.s (by assumption) | refine Cl.n (by first | decide | omega) ?_)
        · rfl
        refine g_icmp_ge (pc := 9) C 60 dX10_judge_9 (by decide) (fun c9 => ?_) (fun c9 => ?_)
        · exact absurd c9 (nI_ge (by omega) (by omega))
        · refine g_aload_n (pc := 12) C dX10_judge_12 rfl ?_
          refine g_aload_n (pc := 13) C dX10_judge_13 rfl ?_
          apply gf_X10_38 (pc := 14) C rfl dX10_judge_14
          · repeat (first | assumption | exact Cl.s (by assumption) | refine Cl.n (by first | decide | omega) ?_)
          · rfl
          refine g_iload_n (pc := 17) C dX10_judge_17 rfl ?_
          apply g_iaload (pc := 18) C dX10_judge_18
          · repeat (first | assumption | exact Cl.s (by assumption) | refine Cl.n (by first | decide | omega) ?_)
          · exact vp_in_nI (by omega) (by decide)
          refine g_aload_n (pc := 19) C dX10_judge_19 rfl ?_
          apply gf_X10_38 (pc := 20) C rfl dX10_judge_20
          · repeat (first | assumption | exact Cl.s (by assumption) | refine Cl.n (by first | decide | omega) ?_)
          · rfl
          refine g_iload_n (pc := 23) C dX10_judge_23 rfl ?_
          refine g_iconst (pc := 24) (v := nI 1) C dX10_judge_24 (by decide) ?_
          rw [nI_clamp (by omega), hf (k + 1) (by omega)]
          refine g_isub (pc := 25) C dX10_judge_25 ?_
          rw [pk_sub (by omega), show k + 1 - 1 = k by omega]
          apply g_iaload (pc := 26) C dX10_judge_26
          · repeat (first | assumption | exact Cl.s (by assumption) | refine Cl.n (by first | decide | omega) ?_)
          · exact vp_in_nI (by omega) (by decide)
          rw [nI_clamp (by omega), hf k (by omega)]
          apply cl_X10_136 (pc := 27) C rfl (r_unlike h0 hT' w1 w0) dX10_judge_27
          · repeat (first | assumption | exact Cl.s (by assumption) | refine Cl.n (by first | decide | omega) ?_)
          · rfl
          · exact Nat.le_of_ble_eq_true rfl
          refine g_aload_n (pc := 30) C dX10_judge_30 rfl ?_
          apply cl_X10_140 (pc := 31) C rfl (r_seen h0 hT') dX10_judge_31
          · repeat (first | assumption | exact Cl.s (by assumption) | refine Cl.n (by first | decide | omega) ?_)
          · rfl
          · exact Nat.le_of_ble_eq_true rfl
          refine g_iand (pc := 34) C dX10_judge_34 ?_
          rw [nx_and]
          refine g_istore_n (pc := 35) C dX10_judge_35 (by decide) rfl ?_
          refine g_aload_n (pc := 36) C dX10_judge_36 rfl ?_
          apply gf_X10_13 (pc := 37) C rfl dX10_judge_37
          · repeat (first | assumption | exact Cl.s (by assumption) | refine Cl.n (by first | decide | omega) ?_)
          · rfl
          refine g_iconst (pc := 40) (v := nI 0) C dX10_judge_40 (by decide) ?_
          apply g_iaload (pc := 41) C dX10_judge_41
          · repeat (first | assumption | exact Cl.s (by assumption) | refine Cl.n (by first | decide | omega) ?_)
          · exact vp_in_nI (n := 0) (by decide) (by decide)
          rw [nI_clamp (by decide), e0]
          refine g_iload_n (pc := 42) C dX10_judge_42 rfl ?_
          refine g_iload_n (pc := 43) C dX10_judge_43 rfl ?_
          refine cl_X10_146 (pc := 44) C rfl (r_passes hlaw (by omega) (by omega)) dX10_judge_44 rfl (Nat.le_of_ble_eq_true rfl) ?_
          refine g_if_nE (pc := 47) C 52 dX10_judge_47 (by decide) (fun c47 => ?_) (fun c47 => ?_)
          · refine g_iload_n (pc := 52) C dX10_judge_52 rfl ?_
            refine g_istore_n (pc := 53) C dX10_judge_53 (by decide) rfl ?_
            refine g_iinc (pc := 54) C dX10_judge_54 rfl (by decide) rfl ?_
            refine g_goto (pc := 57) C 4 dX10_judge_57 (by decide) ?_
            exact g_to (ih (k + 1) (UU T (w (k + 1)) (w k) &&& seen T) (by omega) hu) ⟨rfl, rfl, lgi (nI_1 (k + 1)), trivial⟩
          · exact absurd c47 (by rw [hc]; decide)
  rcases n with _ | n
  · rw [show jd T w 0 0 0 0 = -4 from rfl]
    refine g_iconst (pc := 0) (v := nI 0) C dX10_judge_0 (by decide) ?_
    refine g_istore_n (pc := 1) C dX10_judge_1 (by decide) rfl ?_
    refine g_iconst (pc := 2) (v := nI 1) C dX10_judge_2 (by decide) ?_
    refine g_istore_n (pc := 3) C dX10_judge_3 (by decide) rfl ?_
    refine g_iload_n (pc := 4) C dX10_judge_4 rfl ?_
    refine g_aload_n (pc := 5) C dX10_judge_5 rfl ?_
    apply gf_X10_111 (pc := 6) C rfl dX10_judge_6
    · repeat (first | assumption | exact Cl.s (by assumption) | refine Cl.n (by first | decide | omega) ?_)
    · rfl
    refine g_icmp_ge (pc := 9) C 60 dX10_judge_9 (by decide) (fun c9 => ?_) (fun c9 => ?_)
    · refine g_bipush (pc := 60) (v := -4) C dX10_judge_60 (by decide) ?_
      exact g_ireturn (pc := 62) C dX10_judge_62 rfl (rfl) (rfl)
    · exact absurd (by decide) c9
  · rw [show jd T w (n + 1) 0 0 0 = jd T w n (0 + 1) (w 0 + 1) 0 by simp [jd, lLets, uL]]
    refine g_iconst (pc := 0) (v := nI 0) C dX10_judge_0 (by decide) ?_
    refine g_istore_n (pc := 1) C dX10_judge_1 (by decide) rfl ?_
    refine g_iconst (pc := 2) (v := nI 1) C dX10_judge_2 (by decide) ?_
    refine g_istore_n (pc := 3) C dX10_judge_3 (by decide) rfl ?_
    exact g_to (loop n 0 0 (by omega) (by decide)) ⟨rfl, rfl, rfl, trivial⟩
theorem inB_n {z a b : Nat} (hz : z < 2 ^ 31) (ha : a < 2 ^ 31) (hb : b < 2 ^ 31) : inB (nI z).toInt64 (nI a).toInt64 (nI b).toInt64 = decide (a ≤ z ∧ z ≤ b) := by
  rw [inB_I, Int32.toInt_toInt64, Int32.toInt_toInt64, nI_toInt hz, nI_toInt ha, nI_toInt hb]
  by_cases q : a ≤ z ∧ z ≤ b
  · rw [decide_eq_true q, decide_eq_true (by omega)]
  · rw [decide_eq_false q, decide_eq_false (by omega)]
theorem inB_c (v : Int32) {a b : Nat} (ha : a < 2 ^ 31) (hb : b < 2 ^ 31) : inB v.toInt64 (nI a).toInt64 (nI b).toInt64 = decide (¬ (v < nI a ∨ nI b < v)) := by
  rw [inB_I, Int32.toInt_toInt64, Int32.toInt_toInt64]
  simp only [Int32.lt_iff_toInt_lt]
  by_cases q : (nI a).toInt ≤ v.toInt ∧ v.toInt ≤ (nI b).toInt
  · rw [decide_eq_true q, decide_eq_true (by omega)]
  · rw [decide_eq_false q, decide_eq_false (by omega)]
theorem t_crowdR {kept done : Int32} (h0 : Cl G σ 0 (cRef G len at_ kept done rm)) (hT : QT G σ T) {z n : Nat} (hz : z ≤ 9999) (hn1 : 1 ≤ n) (hn : n ≤ 60) {b : Bool} : Mt G mX10_crowd [.ref (ga G 0), .int (nI z), .int (nI n), .int (nI (b2 b))] σ (some (.int (if b then lat (crw T z n 0 0 0 0).2 else nI (crw T z n 0 0 0 0).1))) σ := by
  have hT' := hT
  obtain ⟨ft, fn, fv, fl, fm, fp, h2, h3, h4, h5, h6, h7, hW, h1, e0, e1, e2, e3, hv, hl, hp⟩ := hT
  have hlaw := hW.2.2.2.2.2.2.1
  have hm := hW.2.2.2.2.1
  refine Mt.of (by decide +kernel) (Nat.le_of_ble_eq_true rfl) (fun κ C => ?_)
  have loop : ∀ d2 k L d s, k + d2 = n → L ≤ tm T → d < 32 → Go G mX10_crowd κ (some (.int (if b then lat (crw T z d2 k L d s).2 else nI (crw T z d2 k L d s).1))) σ σ 48 [(0, .ref (ga G 0)), (1, .int (nI z)), (2, .int (nI n)), (3, .int (nI (b2 b))), (4, .int (lat L)), (5, .int (nI d)), (6, .int (nI s)), (7, .int (nI k))] [] := by
    intro d2
    induction d2 with
    | zero =>
      intro k L d s hk hL hd
      cases b
      · refine g_iload (pc := 48) C dX10_crowd_48 rfl ?_
        refine g_iload_n (pc := 50) C dX10_crowd_50 rfl ?_
        refine g_icmp_ge (pc := 51) C 154 dX10_crowd_51 (by decide) (fun c51 => ?_) (fun c51 => ?_)
        · refine g_iload_n (pc := 154) C dX10_crowd_154 rfl ?_
          refine g_if_nE (pc := 155) C 163 dX10_crowd_155 (by decide) (fun c155 => ?_) (fun c155 => ?_)
          · exact absurd rfl c155
          · refine g_iload (pc := 158) C dX10_crowd_158 rfl ?_
            refine g_goto (pc := 160) C 165 dX10_crowd_160 (by decide) ?_
            exact g_ireturn (pc := 165) C dX10_crowd_165 rfl (rfl) (rfl)
        · exact absurd (nI_le (by omega) (by omega)) c51
      · refine g_iload (pc := 48) C dX10_crowd_48 rfl ?_
        refine g_iload_n (pc := 50) C dX10_crowd_50 rfl ?_
        refine g_icmp_ge (pc := 51) C 154 dX10_crowd_51 (by decide) (fun c51 => ?_) (fun c51 => ?_)
        · refine g_iload_n (pc := 154) C dX10_crowd_154 rfl ?_
          refine g_if_nE (pc := 155) C 163 dX10_crowd_155 (by decide) (fun c155 => ?_) (fun c155 => ?_)
          · refine g_iload (pc := 163) C dX10_crowd_163 rfl ?_
            exact g_ireturn (pc := 165) C dX10_crowd_165 rfl (rfl) (rfl)
          · exact absurd c155 (by decide)
        · exact absurd (nI_le (by omega) (by omega)) c51
    | succ d2 ih =>
      intro k L d s hk hL hd
      have hp := drw_lt (z := z) (k := k) h1
      rcases L with _ | L
      · rw [show crw T z (d2 + 1) k 0 d s = crw T z d2 (k + 1) (drw z k (tm T) + 1) 0 (s + 1) by simp [crw, lLets, uL]]
        refine g_iload (pc := 48) C dX10_crowd_48 rfl ?_
        refine g_iload_n (pc := 50) C dX10_crowd_50 rfl ?_
        refine g_icmp_ge (pc := 51) C 154 dX10_crowd_51 (by decide) (fun c51 => ?_) (fun c51 => ?_)
        · exact absurd c51 (nI_ge (by omega) (by omega))
        · refine g_ldc2 (pc := 54) C dX10_crowd_54 k_X10_203 ?_
          refine g_iload_n (pc := 57) C dX10_crowd_57 rfl ?_
          refine g_i2l (pc := 58) C dX10_crowd_58 ?_
          refine g_lmul (pc := 59) C dX10_crowd_59 ?_
          refine g_ldc2 (pc := 60) C dX10_crowd_60 k_X10_205 ?_
          refine g_iload (pc := 63) C dX10_crowd_63 rfl ?_
          refine g_i2l (pc := 65) C dX10_crowd_65 ?_
          refine g_lmul (pc := 66) C dX10_crowd_66 ?_
          refine g_ladd (pc := 67) C dX10_crowd_67 ?_
          refine g_lconst (pc := 68) (v := 1) C dX10_crowd_68 (by decide) ?_
          refine g_ladd (pc := 69) C dX10_crowd_69 ?_
          rw [drx hz (by omega)]
          refine g_lstore (pc := 70) C [(0, .ref (ga G 0)), (1, .int (nI z)), (2, .int (nI n)), (3, .int (nI (b2 b))), (4, .int (lat 0)), (5, .int (nI d)), (6, .int (nI s)), (7, .int (nI k))] dX10_crowd_70 (by decide) ⟨rfl, rfl, rfl, rfl, rfl, rfl, rfl, rfl, trivial⟩ rfl rfl ?_
          refine g_lload (pc := 72) C dX10_crowd_72 rfl ?_
          refine g_lload (pc := 74) C dX10_crowd_74 rfl ?_
          refine g_lmul (pc := 76) C dX10_crowd_76 ?_
          refine g_ldc2 (pc := 77) C dX10_crowd_77 k_X10_207 ?_
          refine g_lrem (pc := 80) C dX10_crowd_80 (by decide) ?_
          refine g_aload_n (pc := 81) C dX10_crowd_81 rfl ?_
          apply gf_X10_26 (pc := 82) C rfl dX10_crowd_82
          · repeat (first | assumption | exact Cl.s (by assumption) | refine Cl.n (by first | decide | omega) ?_)
          · rfl
          refine g_iconst (pc := 85) (v := nI 0) C dX10_crowd_85 (by decide) ?_
          apply g_iaload (pc := 86) C dX10_crowd_86
          · repeat (first | assumption | exact Cl.s (by assumption) | refine Cl.n (by first | decide | omega) ?_)
          · exact vp_in_nI (n := 0) (by decide) (by decide)
          rw [nI_clamp (by decide), e3]
          refine g_i2l (pc := 87) C dX10_crowd_87 ?_
          rw [nI_l (by omega)]
          refine g_lrem (pc := 88) C dX10_crowd_88 (fun q => by rw [show (0 : Int64) = lN 0 from rfl, lN_eq (by omega) (by decide)] at q; omega) ?_
          refine g_l2i (pc := 89) C dX10_crowd_89 ?_
          rw [drl (by omega) h1 hm]
          refine g_istore (pc := 90) C dX10_crowd_90 (by decide) rfl ?_
          refine g_iload (pc := 92) C dX10_crowd_92 rfl ?_
          refine g_if_ge (pc := 94) C 101 dX10_crowd_94 (by decide) (fun c94 => ?_) (fun c94 => ?_)
          · exact absurd c94 (by decide)
          · refine g_iconst (pc := 97) (v := nI 0) C dX10_crowd_97 (by decide) ?_
            refine g_goto (pc := 98) C 114 dX10_crowd_98 (by decide) ?_
            refine g_istore (pc := 114) C dX10_crowd_114 (by decide) rfl ?_
            refine g_iload (pc := 116) C dX10_crowd_116 rfl ?_
            refine g_if_lt (pc := 118) C 137 dX10_crowd_118 (by decide) (fun c118 => ?_) (fun c118 => ?_)
            · refine g_iload (pc := 137) C dX10_crowd_137 rfl ?_
              refine g_istore (pc := 139) C dX10_crowd_139 (by decide) rfl ?_
              refine g_iload (pc := 141) C dX10_crowd_141 rfl ?_
              refine g_istore (pc := 143) C dX10_crowd_143 (by decide) rfl ?_
              refine g_iinc (pc := 145) C dX10_crowd_145 rfl (by decide) rfl ?_
              refine g_iinc (pc := 148) C dX10_crowd_148 rfl (by decide) rfl ?_
              refine g_goto (pc := 151) C 48 dX10_crowd_151 (by decide) ?_
              exact g_to (ih (k + 1) (drw z k (tm T) + 1) 0 (s + 1) (by omega) (by omega) (by decide)) ⟨rfl, rfl, rfl, rfl, lgi (by rw [lat_s]; rfl), rfl, lgi (nI_1 s), lgi (nI_1 k), trivial⟩
            · exact absurd (by decide) c118
      · have hu := and_lt32 (b := seen T) (UU_lt T (drw z k (tm T)) L hW.1)
        have eu : uL T (L + 1) (drw z k (tm T)) = UU T (drw z k (tm T)) L &&& seen T := by simp [uL, UU_comm T L (drw z k (tm T))]
        have el : lLets T (L + 1) d (drw z k (tm T)) = ps (tl T) (UU T (drw z k (tm T)) L &&& seen T) d := by simp [lLets, eu]
        have ed : nI ((7919 * z + 6151 * k + 1) * (7919 * z + 6151 * k + 1) % 65521 % tm T) = nI (drw z k (tm T)) := rfl
        cases hc : ps (tl T) (UU T (drw z k (tm T)) L &&& seen T) d
        · rw [show crw T z (d2 + 1) k (L + 1) d s = crw T z d2 (k + 1) (L + 1) d s by simp [crw, el, hc]]
          refine g_iload (pc := 48) C dX10_crowd_48 rfl ?_
          refine g_iload_n (pc := 50) C dX10_crowd_50 rfl ?_
          refine g_icmp_ge (pc := 51) C 154 dX10_crowd_51 (by decide) (fun c51 => ?_) (fun c51 => ?_)
          · exact absurd c51 (nI_ge (by omega) (by omega))
          · refine g_ldc2 (pc := 54) C dX10_crowd_54 k_X10_203 ?_
            refine g_iload_n (pc := 57) C dX10_crowd_57 rfl ?_
            refine g_i2l (pc := 58) C dX10_crowd_58 ?_
            refine g_lmul (pc := 59) C dX10_crowd_59 ?_
            refine g_ldc2 (pc := 60) C dX10_crowd_60 k_X10_205 ?_
            refine g_iload (pc := 63) C dX10_crowd_63 rfl ?_
            refine g_i2l (pc := 65) C dX10_crowd_65 ?_
            refine g_lmul (pc := 66) C dX10_crowd_66 ?_
            refine g_ladd (pc := 67) C dX10_crowd_67 ?_
            refine g_lconst (pc := 68) (v := 1) C dX10_crowd_68 (by decide) ?_
            refine g_ladd (pc := 69) C dX10_crowd_69 ?_
            rw [drx hz (by omega)]
            refine g_lstore (pc := 70) C [(0, .ref (ga G 0)), (1, .int (nI z)), (2, .int (nI n)), (3, .int (nI (b2 b))), (4, .int (lat (L + 1))), (5, .int (nI d)), (6, .int (nI s)), (7, .int (nI k))] dX10_crowd_70 (by decide) ⟨rfl, rfl, rfl, rfl, rfl, rfl, rfl, rfl, trivial⟩ rfl rfl ?_
            refine g_lload (pc := 72) C dX10_crowd_72 rfl ?_
            refine g_lload (pc := 74) C dX10_crowd_74 rfl ?_
            refine g_lmul (pc := 76) C dX10_crowd_76 ?_
            refine g_ldc2 (pc := 77) C dX10_crowd_77 k_X10_207 ?_
            refine g_lrem (pc := 80) C dX10_crowd_80 (by decide) ?_
            refine g_aload_n (pc := 81) C dX10_crowd_81 rfl ?_
            apply gf_X10_26 (pc := 82) C rfl dX10_crowd_82
            · repeat (first | assumption | exact Cl.s (by assumption) | refine Cl.n (by first | decide | omega) ?_)
            · rfl
            refine g_iconst (pc := 85) (v := nI 0) C dX10_crowd_85 (by decide) ?_
            apply g_iaload (pc := 86) C dX10_crowd_86
            · repeat (first | assumption | exact Cl.s (by assumption) | refine Cl.n (by first | decide | omega) ?_)
            · exact vp_in_nI (n := 0) (by decide) (by decide)
            rw [nI_clamp (by decide), e3]
            refine g_i2l (pc := 87) C dX10_crowd_87 ?_
            rw [nI_l (by omega)]
            refine g_lrem (pc := 88) C dX10_crowd_88 (fun q => by rw [show (0 : Int64) = lN 0 from rfl, lN_eq (by omega) (by decide)] at q; omega) ?_
            refine g_l2i (pc := 89) C dX10_crowd_89 ?_
            rw [drl (by omega) h1 hm, ed]
            refine g_istore (pc := 90) C dX10_crowd_90 (by decide) rfl ?_
            refine g_iload (pc := 92) C dX10_crowd_92 rfl ?_
            refine g_if_ge (pc := 94) C 101 dX10_crowd_94 (by decide) (fun c94 => ?_) (fun c94 => ?_)
            · refine g_aload_n (pc := 101) C dX10_crowd_101 rfl ?_
              refine g_iload (pc := 102) C dX10_crowd_102 rfl ?_
              refine g_iload (pc := 104) C dX10_crowd_104 rfl ?_
              rw [lat_s]
              apply cl_X10_136 (pc := 106) C rfl (r_unlike h0 hT' hp (by omega)) dX10_crowd_106
              · repeat (first | assumption | exact Cl.s (by assumption) | refine Cl.n (by first | decide | omega) ?_)
              · rfl
              · exact Nat.le_of_ble_eq_true rfl
              refine g_aload_n (pc := 109) C dX10_crowd_109 rfl ?_
              apply cl_X10_140 (pc := 110) C rfl (r_seen h0 hT') dX10_crowd_110
              · repeat (first | assumption | exact Cl.s (by assumption) | refine Cl.n (by first | decide | omega) ?_)
              · rfl
              · exact Nat.le_of_ble_eq_true rfl
              refine g_iand (pc := 113) C dX10_crowd_113 ?_
              rw [nx_and]
              refine g_istore (pc := 114) C dX10_crowd_114 (by decide) rfl ?_
              refine g_iload (pc := 116) C dX10_crowd_116 rfl ?_
              refine g_if_lt (pc := 118) C 137 dX10_crowd_118 (by decide) (fun c118 => ?_) (fun c118 => ?_)
              · exact absurd c118 (nI_pos (by omega))
              · refine g_aload_n (pc := 121) C dX10_crowd_121 rfl ?_
                apply gf_X10_13 (pc := 122) C rfl dX10_crowd_122
                · repeat (first | assumption | exact Cl.s (by assumption) | refine Cl.n (by first | decide | omega) ?_)
                · rfl
                refine g_iconst (pc := 125) (v := nI 0) C dX10_crowd_125 (by decide) ?_
                apply g_iaload (pc := 126) C dX10_crowd_126
                · repeat (first | assumption | exact Cl.s (by assumption) | refine Cl.n (by first | decide | omega) ?_)
                · exact vp_in_nI (n := 0) (by decide) (by decide)
                rw [nI_clamp (by decide), e0]
                refine g_iload (pc := 127) C dX10_crowd_127 rfl ?_
                refine g_iload (pc := 129) C dX10_crowd_129 rfl ?_
                refine cl_X10_146 (pc := 131) C rfl (r_passes hlaw (by omega) (by omega)) dX10_crowd_131 rfl (Nat.le_of_ble_eq_true rfl) ?_
                refine g_if_eq (pc := 134) C 148 dX10_crowd_134 (by decide) (fun c134 => ?_) (fun c134 => ?_)
                · refine g_iinc (pc := 148) C dX10_crowd_148 rfl (by decide) rfl ?_
                  refine g_goto (pc := 151) C 48 dX10_crowd_151 (by decide) ?_
                  exact g_to (ih (k + 1) (L + 1) d s (by omega) (by omega) hd) ⟨rfl, rfl, rfl, rfl, lgi (lat_s L).symm, rfl, rfl, lgi (nI_1 k), trivial⟩
                · exact absurd (by rw [hc]; rfl) c134
            · exact absurd (by rw [lat_s]; exact nI_pos' (by omega)) c94
        · rw [show crw T z (d2 + 1) k (L + 1) d s = crw T z d2 (k + 1) (drw z k (tm T) + 1) (UU T (drw z k (tm T)) L &&& seen T) (s + 1) by simp [crw, el, hc, eu]]
          refine g_iload (pc := 48) C dX10_crowd_48 rfl ?_
          refine g_iload_n (pc := 50) C dX10_crowd_50 rfl ?_
          refine g_icmp_ge (pc := 51) C 154 dX10_crowd_51 (by decide) (fun c51 => ?_) (fun c51 => ?_)
          · exact absurd c51 (nI_ge (by omega) (by omega))
          · refine g_ldc2 (pc := 54) C dX10_crowd_54 k_X10_203 ?_
            refine g_iload_n (pc := 57) C dX10_crowd_57 rfl ?_
            refine g_i2l (pc := 58) C dX10_crowd_58 ?_
            refine g_lmul (pc := 59) C dX10_crowd_59 ?_
            refine g_ldc2 (pc := 60) C dX10_crowd_60 k_X10_205 ?_
            refine g_iload (pc := 63) C dX10_crowd_63 rfl ?_
            refine g_i2l (pc := 65) C dX10_crowd_65 ?_
            refine g_lmul (pc := 66) C dX10_crowd_66 ?_
            refine g_ladd (pc := 67) C dX10_crowd_67 ?_
            refine g_lconst (pc := 68) (v := 1) C dX10_crowd_68 (by decide) ?_
            refine g_ladd (pc := 69) C dX10_crowd_69 ?_
            rw [drx hz (by omega)]
            refine g_lstore (pc := 70) C [(0, .ref (ga G 0)), (1, .int (nI z)), (2, .int (nI n)), (3, .int (nI (b2 b))), (4, .int (lat (L + 1))), (5, .int (nI d)), (6, .int (nI s)), (7, .int (nI k))] dX10_crowd_70 (by decide) ⟨rfl, rfl, rfl, rfl, rfl, rfl, rfl, rfl, trivial⟩ rfl rfl ?_
            refine g_lload (pc := 72) C dX10_crowd_72 rfl ?_
            refine g_lload (pc := 74) C dX10_crowd_74 rfl ?_
            refine g_lmul (pc := 76) C dX10_crowd_76 ?_
            refine g_ldc2 (pc := 77) C dX10_crowd_77 k_X10_207 ?_
            refine g_lrem (pc := 80) C dX10_crowd_80 (by decide) ?_
            refine g_aload_n (pc := 81) C dX10_crowd_81 rfl ?_
            apply gf_X10_26 (pc := 82) C rfl dX10_crowd_82
            · repeat (first | assumption | exact Cl.s (by assumption) | refine Cl.n (by first | decide | omega) ?_)
            · rfl
            refine g_iconst (pc := 85) (v := nI 0) C dX10_crowd_85 (by decide) ?_
            apply g_iaload (pc := 86) C dX10_crowd_86
            · repeat (first | assumption | exact Cl.s (by assumption) | refine Cl.n (by first | decide | omega) ?_)
            · exact vp_in_nI (n := 0) (by decide) (by decide)
            rw [nI_clamp (by decide), e3]
            refine g_i2l (pc := 87) C dX10_crowd_87 ?_
            rw [nI_l (by omega)]
            refine g_lrem (pc := 88) C dX10_crowd_88 (fun q => by rw [show (0 : Int64) = lN 0 from rfl, lN_eq (by omega) (by decide)] at q; omega) ?_
            refine g_l2i (pc := 89) C dX10_crowd_89 ?_
            rw [drl (by omega) h1 hm, ed]
            refine g_istore (pc := 90) C dX10_crowd_90 (by decide) rfl ?_
            refine g_iload (pc := 92) C dX10_crowd_92 rfl ?_
            refine g_if_ge (pc := 94) C 101 dX10_crowd_94 (by decide) (fun c94 => ?_) (fun c94 => ?_)
            · refine g_aload_n (pc := 101) C dX10_crowd_101 rfl ?_
              refine g_iload (pc := 102) C dX10_crowd_102 rfl ?_
              refine g_iload (pc := 104) C dX10_crowd_104 rfl ?_
              rw [lat_s]
              apply cl_X10_136 (pc := 106) C rfl (r_unlike h0 hT' hp (by omega)) dX10_crowd_106
              · repeat (first | assumption | exact Cl.s (by assumption) | refine Cl.n (by first | decide | omega) ?_)
              · rfl
              · exact Nat.le_of_ble_eq_true rfl
              refine g_aload_n (pc := 109) C dX10_crowd_109 rfl ?_
              apply cl_X10_140 (pc := 110) C rfl (r_seen h0 hT') dX10_crowd_110
              · repeat (first | assumption | exact Cl.s (by assumption) | refine Cl.n (by first | decide | omega) ?_)
              · rfl
              · exact Nat.le_of_ble_eq_true rfl
              refine g_iand (pc := 113) C dX10_crowd_113 ?_
              rw [nx_and]
              refine g_istore (pc := 114) C dX10_crowd_114 (by decide) rfl ?_
              refine g_iload (pc := 116) C dX10_crowd_116 rfl ?_
              refine g_if_lt (pc := 118) C 137 dX10_crowd_118 (by decide) (fun c118 => ?_) (fun c118 => ?_)
              · exact absurd c118 (nI_pos (by omega))
              · refine g_aload_n (pc := 121) C dX10_crowd_121 rfl ?_
                apply gf_X10_13 (pc := 122) C rfl dX10_crowd_122
                · repeat (first | assumption | exact Cl.s (by assumption) | refine Cl.n (by first | decide | omega) ?_)
                · rfl
                refine g_iconst (pc := 125) (v := nI 0) C dX10_crowd_125 (by decide) ?_
                apply g_iaload (pc := 126) C dX10_crowd_126
                · repeat (first | assumption | exact Cl.s (by assumption) | refine Cl.n (by first | decide | omega) ?_)
                · exact vp_in_nI (n := 0) (by decide) (by decide)
                rw [nI_clamp (by decide), e0]
                refine g_iload (pc := 127) C dX10_crowd_127 rfl ?_
                refine g_iload (pc := 129) C dX10_crowd_129 rfl ?_
                refine cl_X10_146 (pc := 131) C rfl (r_passes hlaw (by omega) (by omega)) dX10_crowd_131 rfl (Nat.le_of_ble_eq_true rfl) ?_
                refine g_if_eq (pc := 134) C 148 dX10_crowd_134 (by decide) (fun c134 => ?_) (fun c134 => ?_)
                · exact absurd c134 (by rw [hc]; decide)
                · refine g_iload (pc := 137) C dX10_crowd_137 rfl ?_
                  refine g_istore (pc := 139) C dX10_crowd_139 (by decide) rfl ?_
                  refine g_iload (pc := 141) C dX10_crowd_141 rfl ?_
                  refine g_istore (pc := 143) C dX10_crowd_143 (by decide) rfl ?_
                  refine g_iinc (pc := 145) C dX10_crowd_145 rfl (by decide) rfl ?_
                  refine g_iinc (pc := 148) C dX10_crowd_148 rfl (by decide) rfl ?_
                  refine g_goto (pc := 151) C 48 dX10_crowd_151 (by decide) ?_
                  exact g_to (ih (k + 1) (drw z k (tm T) + 1) (UU T (drw z k (tm T)) L &&& seen T) (s + 1) (by omega) (by omega) hu) ⟨rfl, rfl, rfl, rfl, lgi (by rw [lat_s]), rfl, lgi (nI_1 s), lgi (nI_1 k), trivial⟩
            · exact absurd (by rw [lat_s]; exact nI_pos' (by omega)) c94
  refine g_iload_n (pc := 0) C dX10_crowd_0 rfl ?_
  refine g_i2l (pc := 1) C dX10_crowd_1 ?_
  refine g_lconst (pc := 2) (v := 0) C dX10_crowd_2 (by decide) ?_
  refine g_ldc2 (pc := 3) C dX10_crowd_3 k_X10_199 ?_
  refine cl_X10_74 (pc := 6) C rfl (r_in _ _ _) dX10_crowd_6 rfl (Nat.le_of_ble_eq_true rfl) ?_
  refine g_if_eq (pc := 9) C 34 dX10_crowd_9 (by decide) (fun c9 => ?_) (fun c9 => ?_)
  · exact absurd c9 (by change ¬ nI (b2 (inB (nI z).toInt64 (nI 0).toInt64 (nI 9999).toInt64)) = 0; rw [inB_n (by omega) (by decide) (by decide), decide_eq_true (by omega)]; decide)
  · refine g_iload_n (pc := 12) C dX10_crowd_12 rfl ?_
    refine g_i2l (pc := 13) C dX10_crowd_13 ?_
    refine g_lconst (pc := 14) (v := 1) C dX10_crowd_14 (by decide) ?_
    refine g_ldc2 (pc := 15) C dX10_crowd_15 k_X10_201 ?_
    refine cl_X10_74 (pc := 18) C rfl (r_in _ _ _) dX10_crowd_18 rfl (Nat.le_of_ble_eq_true rfl) ?_
    refine g_if_eq (pc := 21) C 34 dX10_crowd_21 (by decide) (fun c21 => ?_) (fun c21 => ?_)
    · exact absurd c21 (by change ¬ nI (b2 (inB (nI n).toInt64 (nI 1).toInt64 (nI 60).toInt64)) = 0; rw [inB_n (by omega) (by decide) (by decide), decide_eq_true (by omega)]; decide)
    · refine g_iload_n (pc := 24) C dX10_crowd_24 rfl ?_
      refine g_i2l (pc := 25) C dX10_crowd_25 ?_
      refine g_lconst (pc := 26) (v := 0) C dX10_crowd_26 (by decide) ?_
      refine g_lconst (pc := 27) (v := 1) C dX10_crowd_27 (by decide) ?_
      refine cl_X10_74 (pc := 28) C rfl (r_in _ _ _) dX10_crowd_28 rfl (Nat.le_of_ble_eq_true rfl) ?_
      refine g_if_nE (pc := 31) C 36 dX10_crowd_31 (by decide) (fun c31 => ?_) (fun c31 => ?_)
      · refine g_iconst (pc := 36) (v := -1) C dX10_crowd_36 (by decide) ?_
        refine g_istore (pc := 37) C dX10_crowd_37 (by decide) rfl ?_
        refine g_iconst (pc := 39) (v := nI 0) C dX10_crowd_39 (by decide) ?_
        refine g_istore (pc := 40) C dX10_crowd_40 (by decide) rfl ?_
        refine g_iconst (pc := 42) (v := nI 0) C dX10_crowd_42 (by decide) ?_
        refine g_istore (pc := 43) C dX10_crowd_43 (by decide) rfl ?_
        refine g_iconst (pc := 45) (v := nI 0) C dX10_crowd_45 (by decide) ?_
        refine g_istore (pc := 46) C dX10_crowd_46 (by decide) rfl ?_
        exact g_to (loop n 0 0 0 0 (by omega) (by omega) (by decide)) ⟨rfl, rfl, rfl, rfl, rfl, rfl, rfl, rfl, trivial⟩
      · exact absurd c31 (by have := b2_lt b; change ¬ nI (b2 (inB (nI (b2 b)).toInt64 (nI 0).toInt64 (nI 1).toInt64)) = 0; rw [inB_n (by omega) (by decide) (by decide), decide_eq_true (by omega)]; decide)
theorem q_crowd {kept done : Int32} (h0 : Cl G σ 0 (cRef G len at_ kept done rm)) (hT : QT G σ T) (z n what : Int32) : Mt G mX10_crowd [.ref (ga G 0), .int z, .int n, .int what] σ (some (.int (crowdF T z n what))) σ := by
  by_cases hb : z < 0 ∨ 9999 < z ∨ n < 1 ∨ 60 < n ∨ what < 0 ∨ 1 < what
  · rw [show crowdF T z n what = -1 by simp only [crowdF, if_pos hb]]
    refine Mt.of (by decide +kernel) (Nat.le_of_ble_eq_true rfl) (fun κ C => ?_)
    have k1 := inB_c z (a := 0) (b := 9999) (by decide) (by decide)
    have k2 := inB_c n (a := 1) (b := 60) (by decide) (by decide)
    have k3 := inB_c what (a := 0) (b := 1) (by decide) (by decide)
    refine g_iload_n (pc := 0) C dX10_crowd_0 rfl ?_
    refine g_i2l (pc := 1) C dX10_crowd_1 ?_
    refine g_lconst (pc := 2) (v := 0) C dX10_crowd_2 (by decide) ?_
    refine g_ldc2 (pc := 3) C dX10_crowd_3 k_X10_199 ?_
    refine cl_X10_74 (pc := 6) C rfl (r_in _ _ _) dX10_crowd_6 rfl (Nat.le_of_ble_eq_true rfl) ?_
    refine g_if_eq (pc := 9) C 34 dX10_crowd_9 (by decide) (fun c9 => ?_) (fun c9 => ?_)
    · refine g_iconst (pc := 34) (v := -1) C dX10_crowd_34 (by decide) ?_
      exact g_ireturn (pc := 35) C dX10_crowd_35 rfl (rfl) (rfl)
    · refine g_iload_n (pc := 12) C dX10_crowd_12 rfl ?_
      refine g_i2l (pc := 13) C dX10_crowd_13 ?_
      refine g_lconst (pc := 14) (v := 1) C dX10_crowd_14 (by decide) ?_
      refine g_ldc2 (pc := 15) C dX10_crowd_15 k_X10_201 ?_
      refine cl_X10_74 (pc := 18) C rfl (r_in _ _ _) dX10_crowd_18 rfl (Nat.le_of_ble_eq_true rfl) ?_
      refine g_if_eq (pc := 21) C 34 dX10_crowd_21 (by decide) (fun c21 => ?_) (fun c21 => ?_)
      · refine g_iconst (pc := 34) (v := -1) C dX10_crowd_34 (by decide) ?_
        exact g_ireturn (pc := 35) C dX10_crowd_35 rfl (rfl) (rfl)
      · refine g_iload_n (pc := 24) C dX10_crowd_24 rfl ?_
        refine g_i2l (pc := 25) C dX10_crowd_25 ?_
        refine g_lconst (pc := 26) (v := 0) C dX10_crowd_26 (by decide) ?_
        refine g_lconst (pc := 27) (v := 1) C dX10_crowd_27 (by decide) ?_
        refine cl_X10_74 (pc := 28) C rfl (r_in _ _ _) dX10_crowd_28 rfl (Nat.le_of_ble_eq_true rfl) ?_
        refine g_if_nE (pc := 31) C 36 dX10_crowd_31 (by decide) (fun c31 => ?_) (fun c31 => ?_)
        · change ¬ nI (b2 (inB z.toInt64 (nI 0).toInt64 (nI 9999).toInt64)) = 0 at c9
          change ¬ nI (b2 (inB n.toInt64 (nI 1).toInt64 (nI 60).toInt64)) = 0 at c21
          change ¬ nI (b2 (inB what.toInt64 (nI 0).toInt64 (nI 1).toInt64)) = 0 at c31
          rw [k1] at c9
          rw [k2] at c21
          rw [k3] at c31
          have f0 : ∀ p : Prop, [Decidable p] → ¬ nI (b2 (decide p)) = 0 → p := fun p _ q => by
            by_cases z : p
            · exact z
            · rw [decide_eq_false z] at q
              exact absurd rfl q
          have f1 := f0 _ c9
          have f2 := f0 _ c21
          have f3 := f0 _ c31
          exfalso
          rcases hb with a | a | a | a | a | a
          · exact f1 (Or.inl a)
          · exact f1 (Or.inr a)
          · exact f2 (Or.inl a)
          · exact f2 (Or.inr a)
          · exact f3 (Or.inl a)
          · exact f3 (Or.inr a)
        · refine g_iconst (pc := 34) (v := -1) C dX10_crowd_34 (by decide) ?_
          exact g_ireturn (pc := 35) C dX10_crowd_35 rfl (rfl) (rfl)
  · have hb' := hb
    simp only [not_or] at hb
    obtain ⟨b1, b2', b3, b4, b5, b6⟩ := hb
    obtain ⟨z, hz, rfl⟩ : ∃ j : Nat, j ≤ 9999 ∧ z = nI j := nI_of2 (M := 9999) (n := 9999) (by decide) b1 (Int32.not_lt.mp b2')
    obtain ⟨n, hn, rfl⟩ : ∃ j : Nat, j ≤ 60 ∧ n = nI j := nI_of2 (M := 60) (n := 60) (by decide) (fun q => b3 (Int32.lt_of_lt_of_le q (by decide))) (Int32.not_lt.mp b4)
    obtain ⟨w, hw, rfl⟩ : ∃ j : Nat, j ≤ 1 ∧ what = nI j := nI_of2 (M := 1) (n := 1) (by decide) b5 (Int32.not_lt.mp b6)
    have hn1 : 1 ≤ n := by
      rcases n with _ | n
      · exact absurd (by decide) b3
      · omega
    have ez := nI_clamp (n := z) (by omega)
    have en := nI_clamp (n := n) (by omega)
    have hw' : w = 0 ∨ w = 1 := by omega
    rcases hw' with rfl | rfl
    · rw [show crowdF T (nI z) (nI n) (nI 0) = nI (crw T z n 0 0 0 0).1 by simp only [crowdF, if_neg hb', ez, en]; rfl]
      exact t_crowdR (b := false) h0 hT hz hn1 hn
    · rw [show crowdF T (nI z) (nI n) (nI 1) = lat (crw T z n 0 0 0 0).2 by simp only [crowdF, if_neg hb', ez, en]; rfl]
      exact t_crowdR (b := true) h0 hT hz hn1 hn
end REF5

