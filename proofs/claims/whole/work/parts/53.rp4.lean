theorem inB_oN {o : Option Nat} (h : ∀ v, o = some v → v < 100) {a b : Nat} (ha : a < 2 ^ 31) (hb : b < 2 ^ 31) : inB (oN o).toInt64 (nI a).toInt64 (nI b).toInt64 = true ↔ ∃ v, o = some v ∧ a ≤ v ∧ v ≤ b := by
  rcases o with _ | v
  · rw [inB_c _ ha hb, decide_eq_true_iff]
    constructor
    · intro q
      exact absurd (Or.inl (Int32.lt_of_lt_of_le (show (-1 : Int32) < 0 by decide) (nI_pos' ha))) q
    · rintro ⟨v, q, _⟩
      cases q
  · have hv := h v rfl
    show inB (nI v).toInt64 _ _ = true ↔ _
    rw [inB_n (by omega) ha hb, decide_eq_true_iff]
    constructor
    · intro q
      exact ⟨v, rfl, q⟩
    · rintro ⟨w, q, r⟩
      cases q
      exact r
theorem thg_ss (P : TS) (n b : Nat) : thg P (some n) (some b) = if 1 ≤ n ∧ n ≤ 4 ∧ b ≤ 1 ∧ tn P < 5 ∧ tm P = 0 ∧ sumb (tb P) (tn P) + b ≤ 2 then some (thgS P n b) else none := rfl
section RP4
variable {G : GG} {σ : WW} {T P : TS} {n : Nat} {x : Nat → Int32} {kept done rm : Int32}
theorem r_isThing {p : Nat} (hp : p ≤ n) (hn : n ≤ 300) (h0 : Cl G σ 0 (cRef G (nI n) (nI p) kept done rm)) (hx : QX G σ n x) {ft fn fv fl fm fp : Nat → Int32} (hA : QA G σ ft fn fv fl fm fp) (hTT : tT T ft fn fv fl fm fp) (hP : tP P ft fn fv fl fm fp) : ∃ σ', Mt G mX10_isThing [.ref (ga G 0)] σ (some (.int (nI (b2 (thR x n p P).isSome)))) σ' ∧ prPost G σ σ' n T kept done rm (thR x n p P) (thE x n p) [0, 3, 4, 5] := by
  have hP' := hP
  obtain ⟨hW, p0, p1, p2, p3, p4, p5, p6⟩ := hP
  have hn5 := hW.1
  have hm9 := hW.2.2.2.2.1
  have hs2 := hW.2.2.2.1
  have N1 := r_number hp hn h0 hx
  have e1b := rnd_le x (n - p) p
  have e1n : ren x n p ≤ n := by have : ren x n p ≤ p + (n - p) := e1b.2; omega
  generalize he1 : ren x n p = e1 at N1 e1n
  have z0 : Cl G (va_up σ 0 (cRef G (nI n) (nI e1) kept done rm)) 0 (cRef G (nI n) (nI e1) kept done rm) := Cl.s h0
  have I1 := inB_oN (o := numN x p e1) (fun v q => numN_lt q) (a := 1) (b := 4) (by decide) (by decide)
  have w0 : Cl G (va_up (va_up σ 0 (cRef G (nI n) (nI e1) kept done rm)) 0 (cRef G (nI n) (nI (e1 + 1)) kept done rm)) 0 (cRef G (nI n) (nI (e1 + 1)) kept done rm) := Cl.s z0
  by_cases hc : (∃ v, numN x p e1 = some v ∧ 1 ≤ v ∧ v ≤ 4) ∧ e1 < n ∧ x e1 = 44
  · obtain ⟨⟨v, hv, v1, v4⟩, hlt, h44⟩ := hc
    have hx1 : QX G (va_up (va_up σ 0 (cRef G (nI n) (nI e1) kept done rm)) 0 (cRef G (nI n) (nI (e1 + 1)) kept done rm)) n x := (hx.u (by decide)).u (by decide)
    have N2 := r_number (p := e1 + 1) (by omega) hn w0 hx1
    have e2b := rnd_le x (n - (e1 + 1)) (e1 + 1)
    have e2n : ren x n (e1 + 1) ≤ n := by have : ren x n (e1 + 1) ≤ e1 + 1 + (n - (e1 + 1)) := e2b.2; omega
    have eE : thE x n p = ren x n (e1 + 1) := by unfold thE; rw [he1]
    rw [eE]
    have eR : thR x n p P = thg P (some v) (numN x (e1 + 1) (ren x n (e1 + 1))) := by unfold thR; rw [he1, if_pos ⟨hlt, h44⟩, hv]
    rw [eR]
    generalize ren x n (e1 + 1) = e2 at N2 e2n ⊢
    have I2 := inB_oN (o := numN x (e1 + 1) e2) (fun v q => numN_lt q) (a := 0) (b := 1) (by decide) (by decide)
    generalize hs2' : va_up (va_up σ 0 (cRef G (nI n) (nI e1) kept done rm)) 0 (cRef G (nI n) (nI (e1 + 1)) kept done rm) = σ1 at w0 hx1 N2
    have F1 : Fr σ σ1 [0, 3, 4, 5] := by rw [← hs2']; exact fr3 (fr3 fr0 (by decide)) (by decide)
    have A1 : QA G σ1 ft fn fv fl fm fp := by rw [← hs2']; exact hA.u0.u0
    have y0 : Cl G (va_up σ1 0 (cRef G (nI n) (nI e2) kept done rm)) 0 (cRef G (nI n) (nI e2) kept done rm) := Cl.s w0
    have A2' : QA G (va_up σ1 0 (cRef G (nI n) (nI e2) kept done rm)) ft fn fv fl fm fp := A1.u0
    have F2 : Fr σ (va_up σ1 0 (cRef G (nI n) (nI e2) kept done rm)) [0, 3, 4, 5] := fr3 F1 (by decide)
    have B2 := r_borrowed y0 A2' hP'
    -- to place 71
    have go71 : ∀ {σ' : WW} {r : Option Value}, (∀ κ, Cx G mX10_isThing κ → Go G mX10_isThing κ r σ' (va_up σ1 0 (cRef G (nI n) (nI e2) kept done rm)) 71 [(0, .ref (ga G 0)), (1, .int (nI v)), (2, .int (nI 1)), (3, .int (oN (numN x (e1 + 1) e2)))] []) → Mt G mX10_isThing [.ref (ga G 0)] σ r σ' := by
      intro σ' r k
      obtain ⟨f, h1, hf⟩ := hx
      have z1 : Cl G (va_up σ 0 (cRef G (nI n) (nI e1) kept done rm)) 1 (bA G 300 f) := Cl.n (by decide) h1
      rw [hv] at N1 I1
      refine Mt.of (by decide +kernel) (Nat.le_of_ble_eq_true rfl) (fun κ C => ?_)
      refine g_aload_n (pc := 0) C dX10_isThing_0 rfl ?_
      apply cl_X10_91 (pc := 1) C rfl N1 dX10_isThing_1
      · repeat (first | assumption | exact Cl.s (by assumption) | refine Cl.n (by first | decide | omega) ?_)
      · rfl
      · exact Nat.le_of_ble_eq_true rfl
      refine g_istore_n (pc := 4) C dX10_isThing_4 (by decide) rfl ?_
      refine g_iload_n (pc := 5) C dX10_isThing_5 rfl ?_
      refine g_i2l (pc := 6) C dX10_isThing_6 ?_
      refine g_lconst (pc := 7) (v := 1) C dX10_isThing_7 (by decide) ?_
      refine g_ldc2 (pc := 8) C dX10_isThing_8 k_X10_95 ?_
      refine cl_X10_74 (pc := 11) C rfl (r_in _ _ _) dX10_isThing_11 rfl (Nat.le_of_ble_eq_true rfl) ?_
      refine g_if_eq (pc := 14) C 46 dX10_isThing_14 (by decide) (fun c14 => ?_) (fun c14 => ?_)
      · exact absurd c14 (by rw [b2_0]; change ¬ inB (oN (some v)).toInt64 (nI 1).toInt64 (nI 4).toInt64 = false; rw [I1.mpr ⟨v, rfl, v1, v4⟩]; decide)
      · refine g_aload_n (pc := 17) C dX10_isThing_17 rfl ?_
        apply gf_X10_82 (pc := 18) C rfl dX10_isThing_18
        · repeat (first | assumption | exact Cl.s (by assumption) | refine Cl.n (by first | decide | omega) ?_)
        · rfl
        refine g_aload_n (pc := 21) C dX10_isThing_21 rfl ?_
        apply gf_X10_78 (pc := 22) C rfl dX10_isThing_22
        · repeat (first | assumption | exact Cl.s (by assumption) | refine Cl.n (by first | decide | omega) ?_)
        · rfl
        refine g_icmp_ge (pc := 25) C 46 dX10_isThing_25 (by decide) (fun c25 => ?_) (fun c25 => ?_)
        · exact absurd c25 (nI_ge hlt (by omega))
        · refine g_aload_n (pc := 28) C dX10_isThing_28 rfl ?_
          apply gf_X10_7 (pc := 29) C rfl dX10_isThing_29
          · repeat (first | assumption | exact Cl.s (by assumption) | refine Cl.n (by first | decide | omega) ?_)
          · rfl
          refine g_aload_n (pc := 32) C dX10_isThing_32 rfl ?_
          apply gf_X10_82 (pc := 33) C rfl dX10_isThing_33
          · repeat (first | assumption | exact Cl.s (by assumption) | refine Cl.n (by first | decide | omega) ?_)
          · rfl
          apply g_baload (pc := 36) C dX10_isThing_36
          · repeat (first | assumption | exact Cl.s (by assumption) | refine Cl.n (by first | decide | omega) ?_)
          · exact vp_in_nI (by omega) (by decide)
          rw [nI_clamp (by omega), hf e1 hlt, h44]
          refine g_bipush (pc := 37) (v := nI 44) C dX10_isThing_37 (by decide) ?_
          refine g_icmp_nE (pc := 39) C 46 dX10_isThing_39 (by decide) (fun c39 => ?_) (fun c39 => ?_)
          · exact absurd rfl c39
          · refine g_iconst (pc := 42) (v := nI 1) C dX10_isThing_42 (by decide) ?_
            refine g_goto (pc := 43) C 47 dX10_isThing_43 (by decide) ?_
            refine g_istore_n (pc := 47) C dX10_isThing_47 (by decide) rfl ?_
            refine g_aload_n (pc := 48) C dX10_isThing_48 rfl ?_
            refine g_dup (pc := 49) C dX10_isThing_49 rfl ?_
            apply gf_X10_82 (pc := 50) C rfl dX10_isThing_50
            · repeat (first | assumption | exact Cl.s (by assumption) | refine Cl.n (by first | decide | omega) ?_)
            · rfl
            refine g_iconst (pc := 53) (v := nI 1) C dX10_isThing_53 (by decide) ?_
            refine g_iadd (pc := 54) C dX10_isThing_54 ?_
            rw [nI_add]
            apply pf_X10_82 (pc := 55) C rfl dX10_isThing_55
            · repeat (first | assumption | exact Cl.s (by assumption) | refine Cl.n (by first | decide | omega) ?_)
            · rfl
            · rfl
            · exact Nat.le_of_ble_eq_true rfl
            intro hw55
            change Go G mX10_isThing κ r σ' (va_up (va_up σ 0 (cRef G (nI n) (nI e1) kept done rm)) 0 (cRef G (nI n) (nI (e1 + 1)) kept done rm)) _ _ _
            rw [hs2']
            refine g_iload_n (pc := 58) C dX10_isThing_58 rfl ?_
            refine g_if_eq (pc := 59) C 69 dX10_isThing_59 (by decide) (fun c59 => ?_) (fun c59 => ?_)
            · exact absurd c59 (by decide)
            · refine g_aload_n (pc := 62) C dX10_isThing_62 rfl ?_
              apply cl_X10_91 (pc := 63) C rfl N2 dX10_isThing_63
              · repeat (first | assumption | exact Cl.s (by assumption) | refine Cl.n (by first | decide | omega) ?_)
              · rfl
              · exact Nat.le_of_ble_eq_true rfl
              refine g_goto (pc := 66) C 70 dX10_isThing_66 (by decide) ?_
              refine g_istore_n (pc := 70) C dX10_isThing_70 (by decide) rfl ?_
              exact g_to (k κ C) ⟨rfl, rfl, rfl, rfl, trivial⟩
    by_cases hg : ∃ w, numN x (e1 + 1) e2 = some w ∧ w ≤ 1 ∧ tn P < 5 ∧ tm P = 0 ∧ sumb (tb P) (tn P) + w ≤ 2
    · obtain ⟨w, hw, w1, t5, m0, s2⟩ := hg
      have eT : thg P (some v) (numN x (e1 + 1) e2) = some (thgS P v w) := by
        rw [hw, thg_ss, if_pos ⟨v1, v4, w1, t5, m0, s2⟩]
      have hW2 := TW_thg hW eT
      rw [eT]
      obtain ⟨h2, h3, h4, h5, h6, h7⟩ := id A2'
      refine ⟨va_up (va_up (va_up (va_up σ1 0 (cRef G (nI n) (nI e2) kept done rm)) 4 (iA G 10 (upd fv (5 + tn P) (nI v)))) 5 (iA G 10 (upd fl (5 + tn P) (nI w)))) 3 (iA G 2 (upd fn 1 (nI (tn P + 1)))), go71 (fun κ C => ?_), ⟨⟨nI e2, Cl.n (by decide) (Cl.n (by decide) (Cl.n (by decide) y0)), fun _ => rfl⟩, ⟨ft, upd fn 1 (nI (tn P + 1)), upd fv (5 + tn P) (nI v), upd fl (5 + tn P) (nI w), fm, fp, ⟨Cl.n (by decide) (Cl.n (by decide) (Cl.n (by decide) h2)), Cl.s (Cl.n (by decide) (Cl.n (by decide) h3)), Cl.n (by decide) (Cl.n (by decide) (Cl.s h4)), Cl.n (by decide) (Cl.s (Cl.n (by decide) h5)), Cl.n (by decide) (Cl.n (by decide) (Cl.n (by decide) h6)), Cl.n (by decide) (Cl.n (by decide) (Cl.n (by decide) h7))⟩, hTT.cg rfl rfl (pk_un (by decide)) rfl (fun t ht => pk_un (by omega)) (fun t ht => pk_un (by omega)) (fun _ _ => rfl), fun P2 z => ?_⟩, fr3 (fr3 (fr3 F2 (by decide)) (by decide)) (by decide)⟩⟩
      · rw [hw] at I2 ⊢
        have eo : oN (some w) = nI w := rfl
        refine g_iload_n (pc := 71) C dX10_isThing_71 rfl ?_
        refine g_if_eq (pc := 72) C 118 dX10_isThing_72 (by decide) (fun c72 => ?_) (fun c72 => ?_)
        · exact absurd c72 (by decide)
        · refine g_iload_n (pc := 75) C dX10_isThing_75 rfl ?_
          refine g_i2l (pc := 76) C dX10_isThing_76 ?_
          refine g_lconst (pc := 77) (v := 0) C dX10_isThing_77 (by decide) ?_
          refine g_lconst (pc := 78) (v := 1) C dX10_isThing_78 (by decide) ?_
          refine cl_X10_74 (pc := 79) C rfl (r_in _ _ _) dX10_isThing_79 rfl (Nat.le_of_ble_eq_true rfl) ?_
          refine g_if_eq (pc := 82) C 118 dX10_isThing_82 (by decide) (fun c82 => ?_) (fun c82 => ?_)
          · exact absurd c82 (by rw [b2_0]; change ¬ inB (oN (some w)).toInt64 (nI 0).toInt64 (nI 1).toInt64 = false; rw [I2.mpr ⟨w, rfl, by omega, w1⟩]; decide)
          · refine g_aload_n (pc := 85) C dX10_isThing_85 rfl ?_
            apply gf_X10_17 (pc := 86) C rfl dX10_isThing_86
            · repeat (first | assumption | exact Cl.s (by assumption) | refine Cl.n (by first | decide | omega) ?_)
            · rfl
            refine g_iconst (pc := 89) (v := nI 1) C dX10_isThing_89 (by decide) ?_
            apply g_iaload (pc := 90) C dX10_isThing_90
            · repeat (first | assumption | exact Cl.s (by assumption) | refine Cl.n (by first | decide | omega) ?_)
            · exact vp_in_nI (n := 1) (by decide) (by decide)
            rw [nI_clamp (by decide), p2]
            refine g_iconst (pc := 91) (v := nI 5) C dX10_isThing_91 (by decide) ?_
            refine g_icmp_ge (pc := 92) C 118 dX10_isThing_92 (by decide) (fun c92 => ?_) (fun c92 => ?_)
            · exact absurd c92 (nI_ge t5 (by decide))
            · refine g_aload_n (pc := 95) C dX10_isThing_95 rfl ?_
              apply gf_X10_26 (pc := 96) C rfl dX10_isThing_96
              · repeat (first | assumption | exact Cl.s (by assumption) | refine Cl.n (by first | decide | omega) ?_)
              · rfl
              refine g_iconst (pc := 99) (v := nI 1) C dX10_isThing_99 (by decide) ?_
              apply g_iaload (pc := 100) C dX10_isThing_100
              · repeat (first | assumption | exact Cl.s (by assumption) | refine Cl.n (by first | decide | omega) ?_)
              · exact vp_in_nI (n := 1) (by decide) (by decide)
              rw [nI_clamp (by decide), p3, m0]
              refine g_if_nE (pc := 101) C 118 dX10_isThing_101 (by decide) (fun c101 => ?_) (fun c101 => ?_)
              · exact absurd rfl c101
              · refine g_aload_n (pc := 104) C dX10_isThing_104 rfl ?_
                apply cl_X10_97 (pc := 105) C rfl B2 dX10_isThing_105
                · repeat (first | assumption | exact Cl.s (by assumption) | refine Cl.n (by first | decide | omega) ?_)
                · rfl
                · exact Nat.le_of_ble_eq_true rfl
                refine g_iload_n (pc := 108) C dX10_isThing_108 rfl ?_
                rw [eo]
                refine g_iadd (pc := 109) C dX10_isThing_109 ?_
                rw [nI_add]
                refine g_iconst (pc := 110) (v := nI 2) C dX10_isThing_110 (by decide) ?_
                refine g_icmp_gt (pc := 111) C 118 dX10_isThing_111 (by decide) (fun c111 => ?_) (fun c111 => ?_)
                · exact absurd c111 (nI_nlt s2 (by decide))
                · refine g_iconst (pc := 114) (v := nI 1) C dX10_isThing_114 (by decide) ?_
                  refine g_goto (pc := 115) C 119 dX10_isThing_115 (by decide) ?_
                  refine g_istore_n (pc := 119) C dX10_isThing_119 (by decide) rfl ?_
                  refine g_iload_n (pc := 120) C dX10_isThing_120 rfl ?_
                  refine g_if_eq (pc := 121) C 162 dX10_isThing_121 (by decide) (fun c121 => ?_) (fun c121 => ?_)
                  · exact absurd c121 (by decide)
                  · refine g_aload_n (pc := 124) C dX10_isThing_124 rfl ?_
                    apply gf_X10_20 (pc := 125) C rfl dX10_isThing_125
                    · repeat (first | assumption | exact Cl.s (by assumption) | refine Cl.n (by first | decide | omega) ?_)
                    · rfl
                    refine g_iconst (pc := 128) (v := nI 5) C dX10_isThing_128 (by decide) ?_
                    refine g_aload_n (pc := 129) C dX10_isThing_129 rfl ?_
                    apply gf_X10_17 (pc := 130) C rfl dX10_isThing_130
                    · repeat (first | assumption | exact Cl.s (by assumption) | refine Cl.n (by first | decide | omega) ?_)
                    · rfl
                    refine g_iconst (pc := 133) (v := nI 1) C dX10_isThing_133 (by decide) ?_
                    apply g_iaload (pc := 134) C dX10_isThing_134
                    · repeat (first | assumption | exact Cl.s (by assumption) | refine Cl.n (by first | decide | omega) ?_)
                    · exact vp_in_nI (n := 1) (by decide) (by decide)
                    rw [nI_clamp (by decide), p2]
                    refine g_iadd (pc := 135) C dX10_isThing_135 ?_
                    rw [nI_add]
                    refine g_iload_n (pc := 136) C dX10_isThing_136 rfl ?_
                    apply g_iastore (pc := 137) C dX10_isThing_137
                    · repeat (first | assumption | exact Cl.s (by assumption) | refine Cl.n (by first | decide | omega) ?_)
                    · exact vp_in_nI (by omega) (by decide)
                    intro hw137
                    rw [nI_clamp (by omega)]
                    refine g_aload_n (pc := 138) C dX10_isThing_138 rfl ?_
                    apply gf_X10_23 (pc := 139) C rfl dX10_isThing_139
                    · repeat (first | assumption | exact Cl.s (by assumption) | refine Cl.n (by first | decide | omega) ?_)
                    · rfl
                    refine g_iconst (pc := 142) (v := nI 5) C dX10_isThing_142 (by decide) ?_
                    refine g_aload_n (pc := 143) C dX10_isThing_143 rfl ?_
                    apply gf_X10_17 (pc := 144) C rfl dX10_isThing_144
                    · repeat (first | assumption | exact Cl.s (by assumption) | refine Cl.n (by first | decide | omega) ?_)
                    · rfl
                    refine g_iconst (pc := 147) (v := nI 1) C dX10_isThing_147 (by decide) ?_
                    apply g_iaload (pc := 148) C dX10_isThing_148
                    · repeat (first | assumption | exact Cl.s (by assumption) | refine Cl.n (by first | decide | omega) ?_)
                    · exact vp_in_nI (n := 1) (by decide) (by decide)
                    rw [nI_clamp (by decide), p2]
                    refine g_iadd (pc := 149) C dX10_isThing_149 ?_
                    rw [nI_add]
                    refine g_iload_n (pc := 150) C dX10_isThing_150 rfl ?_
                    apply g_iastore (pc := 151) C dX10_isThing_151
                    · repeat (first | assumption | exact Cl.s (by assumption) | refine Cl.n (by first | decide | omega) ?_)
                    · exact vp_in_nI (by omega) (by decide)
                    intro hw151
                    rw [nI_clamp (by omega)]
                    refine g_aload_n (pc := 152) C dX10_isThing_152 rfl ?_
                    apply gf_X10_17 (pc := 153) C rfl dX10_isThing_153
                    · repeat (first | assumption | exact Cl.s (by assumption) | refine Cl.n (by first | decide | omega) ?_)
                    · rfl
                    refine g_iconst (pc := 156) (v := nI 1) C dX10_isThing_156 (by decide) ?_
                    refine g_dup2 (pc := 157) C dX10_isThing_157 rfl rfl ?_
                    apply g_iaload (pc := 158) C dX10_isThing_158
                    · repeat (first | assumption | exact Cl.s (by assumption) | refine Cl.n (by first | decide | omega) ?_)
                    · exact vp_in_nI (n := 1) (by decide) (by decide)
                    rw [nI_clamp (by decide), p2]
                    refine g_iconst (pc := 159) (v := nI 1) C dX10_isThing_159 (by decide) ?_
                    refine g_iadd (pc := 160) C dX10_isThing_160 ?_
                    rw [nI_add]
                    apply g_iastore (pc := 161) C dX10_isThing_161
                    · repeat (first | assumption | exact Cl.s (by assumption) | refine Cl.n (by first | decide | omega) ?_)
                    · exact vp_in_nI (n := 1) (by decide) (by decide)
                    intro hw161
                    refine g_iload_n (pc := 162) C dX10_isThing_162 rfl ?_
                    exact g_zreturn (pc := 163) C dX10_isThing_163 rfl (by first | exact Or.inl rfl | exact Or.inr rfl) (rfl) (by rw [nI_clamp (by decide)])
      · cases z
        refine ⟨hW2, p0, p1, pk_us, p3, fun t ht => ?_, fun t ht => ?_, fun i hi => ?_⟩
        · have ht : t < tn P + 1 := ht
          show _ = nI (if t = tn P then v else tv P t)
          by_cases z : t = tn P
          · rw [if_pos z, z, pk_us]
          · rw [if_neg z, pk_un (by omega)]; exact p4 t (by omega)
        · have ht : t < tn P + 1 := ht
          show _ = nI (if t = tn P then w else tb P t)
          by_cases z : t = tn P
          · rw [if_pos z, z, pk_us]
          · rw [if_neg z, pk_un (by omega)]; exact p5 t (by omega)
        · have hi : i < tm P := hi
          omega
    · have eT : thg P (some v) (numN x (e1 + 1) e2) = none := by
        rcases hw : numN x (e1 + 1) e2 with _ | w
        · rfl
        · rw [thg_ss, if_neg]
          rintro ⟨_, _, q3, q4, q5, q6⟩
          exact hg ⟨w, hw, q3, q4, q5, q6⟩
      rw [eT]
      have k118 : ∀ κ, Cx G mX10_isThing κ → Go G mX10_isThing κ (some (.int (nI (b2 (none : Option TS).isSome)))) (va_up σ1 0 (cRef G (nI n) (nI e2) kept done rm)) (va_up σ1 0 (cRef G (nI n) (nI e2) kept done rm)) 118 [(0, .ref (ga G 0)), (1, .int (nI v)), (2, .int (nI 1)), (3, .int (oN (numN x (e1 + 1) e2)))] [] := by
        intro κ C
        refine g_iconst (pc := 118) (v := nI 0) C dX10_isThing_118 (by decide) ?_
        refine g_istore_n (pc := 119) C dX10_isThing_119 (by decide) rfl ?_
        refine g_iload_n (pc := 120) C dX10_isThing_120 rfl ?_
        refine g_if_eq (pc := 121) C 162 dX10_isThing_121 (by decide) (fun c121 => ?_) (fun c121 => ?_)
        · refine g_iload_n (pc := 162) C dX10_isThing_162 rfl ?_
          exact g_zreturn (pc := 163) C dX10_isThing_163 rfl (by first | exact Or.inl rfl | exact Or.inr rfl) (rfl) (rfl)
        · exact absurd rfl c121
      obtain ⟨h2, h3, h4, h5, h6, h7⟩ := id A2'
      refine ⟨_, go71 (fun κ C => ?_), ⟨⟨nI e2, y0, fun z => by cases z⟩, ⟨ft, fn, fv, fl, fm, fp, A2', hTT, fun _ z => by cases z⟩, F2⟩⟩
      by_cases q1 : ∃ w, numN x (e1 + 1) e2 = some w ∧ 0 ≤ w ∧ w ≤ 1
      · have I2' := I2.mpr q1
        obtain ⟨w, hw, -, w1⟩ := q1
        have eo : oN (numN x (e1 + 1) e2) = nI w := by rw [hw]; rfl
        by_cases q2 : tn P < 5
        · by_cases q3 : tm P = 0
          · have q4 : 2 < sumb (tb P) (tn P) + w := by
              by_cases q : 2 < sumb (tb P) (tn P) + w
              · exact q
              · exact absurd ⟨w, hw, w1, q2, q3, by omega⟩ hg
            refine g_iload_n (pc := 71) C dX10_isThing_71 rfl ?_
            refine g_if_eq (pc := 72) C 118 dX10_isThing_72 (by decide) (fun c72 => ?_) (fun c72 => ?_)
            · exact absurd c72 (by decide)
            · refine g_iload_n (pc := 75) C dX10_isThing_75 rfl ?_
              refine g_i2l (pc := 76) C dX10_isThing_76 ?_
              refine g_lconst (pc := 77) (v := 0) C dX10_isThing_77 (by decide) ?_
              refine g_lconst (pc := 78) (v := 1) C dX10_isThing_78 (by decide) ?_
              refine cl_X10_74 (pc := 79) C rfl (r_in _ _ _) dX10_isThing_79 rfl (Nat.le_of_ble_eq_true rfl) ?_
              refine g_if_eq (pc := 82) C 118 dX10_isThing_82 (by decide) (fun c82 => ?_) (fun c82 => ?_)
              · exact absurd c82 (by rw [b2_0]; change ¬ inB (oN (numN x (e1 + 1) e2)).toInt64 (nI 0).toInt64 (nI 1).toInt64 = false; rw [I2']; decide)
              · refine g_aload_n (pc := 85) C dX10_isThing_85 rfl ?_
                apply gf_X10_17 (pc := 86) C rfl dX10_isThing_86
                · repeat (first | assumption | exact Cl.s (by assumption) | refine Cl.n (by first | decide | omega) ?_)
                · rfl
                refine g_iconst (pc := 89) (v := nI 1) C dX10_isThing_89 (by decide) ?_
                apply g_iaload (pc := 90) C dX10_isThing_90
                · repeat (first | assumption | exact Cl.s (by assumption) | refine Cl.n (by first | decide | omega) ?_)
                · exact vp_in_nI (n := 1) (by decide) (by decide)
                rw [nI_clamp (by decide), p2]
                refine g_iconst (pc := 91) (v := nI 5) C dX10_isThing_91 (by decide) ?_
                refine g_icmp_ge (pc := 92) C 118 dX10_isThing_92 (by decide) (fun c92 => ?_) (fun c92 => ?_)
                · exact absurd c92 (nI_ge q2 (by decide))
                · refine g_aload_n (pc := 95) C dX10_isThing_95 rfl ?_
                  apply gf_X10_26 (pc := 96) C rfl dX10_isThing_96
                  · repeat (first | assumption | exact Cl.s (by assumption) | refine Cl.n (by first | decide | omega) ?_)
                  · rfl
                  refine g_iconst (pc := 99) (v := nI 1) C dX10_isThing_99 (by decide) ?_
                  apply g_iaload (pc := 100) C dX10_isThing_100
                  · repeat (first | assumption | exact Cl.s (by assumption) | refine Cl.n (by first | decide | omega) ?_)
                  · exact vp_in_nI (n := 1) (by decide) (by decide)
                  rw [nI_clamp (by decide), p3, q3]
                  refine g_if_nE (pc := 101) C 118 dX10_isThing_101 (by decide) (fun c101 => ?_) (fun c101 => ?_)
                  · exact absurd rfl c101
                  · refine g_aload_n (pc := 104) C dX10_isThing_104 rfl ?_
                    apply cl_X10_97 (pc := 105) C rfl B2 dX10_isThing_105
                    · repeat (first | assumption | exact Cl.s (by assumption) | refine Cl.n (by first | decide | omega) ?_)
                    · rfl
                    · exact Nat.le_of_ble_eq_true rfl
                    refine g_iload_n (pc := 108) C dX10_isThing_108 rfl ?_
                    refine g_iadd (pc := 109) C dX10_isThing_109 ?_
                    refine g_iconst (pc := 110) (v := nI 2) C dX10_isThing_110 (by decide) ?_
                    refine g_icmp_gt (pc := 111) C 118 dX10_isThing_111 (by decide) (fun c111 => ?_) (fun c111 => ?_)
                    · exact g_to (k118 κ C) ⟨rfl, rfl, rfl, rfl, trivial⟩
                    · exact absurd (by rw [eo, nI_add]; exact nI_lt q4 (by omega)) c111
          · refine g_iload_n (pc := 71) C dX10_isThing_71 rfl ?_
            refine g_if_eq (pc := 72) C 118 dX10_isThing_72 (by decide) (fun c72 => ?_) (fun c72 => ?_)
            · exact absurd c72 (by decide)
            · refine g_iload_n (pc := 75) C dX10_isThing_75 rfl ?_
              refine g_i2l (pc := 76) C dX10_isThing_76 ?_
              refine g_lconst (pc := 77) (v := 0) C dX10_isThing_77 (by decide) ?_
              refine g_lconst (pc := 78) (v := 1) C dX10_isThing_78 (by decide) ?_
              refine cl_X10_74 (pc := 79) C rfl (r_in _ _ _) dX10_isThing_79 rfl (Nat.le_of_ble_eq_true rfl) ?_
              refine g_if_eq (pc := 82) C 118 dX10_isThing_82 (by decide) (fun c82 => ?_) (fun c82 => ?_)
              · exact absurd c82 (by rw [b2_0]; change ¬ inB (oN (numN x (e1 + 1) e2)).toInt64 (nI 0).toInt64 (nI 1).toInt64 = false; rw [I2']; decide)
              · refine g_aload_n (pc := 85) C dX10_isThing_85 rfl ?_
                apply gf_X10_17 (pc := 86) C rfl dX10_isThing_86
                · repeat (first | assumption | exact Cl.s (by assumption) | refine Cl.n (by first | decide | omega) ?_)
                · rfl
                refine g_iconst (pc := 89) (v := nI 1) C dX10_isThing_89 (by decide) ?_
                apply g_iaload (pc := 90) C dX10_isThing_90
                · repeat (first | assumption | exact Cl.s (by assumption) | refine Cl.n (by first | decide | omega) ?_)
                · exact vp_in_nI (n := 1) (by decide) (by decide)
                rw [nI_clamp (by decide), p2]
                refine g_iconst (pc := 91) (v := nI 5) C dX10_isThing_91 (by decide) ?_
                refine g_icmp_ge (pc := 92) C 118 dX10_isThing_92 (by decide) (fun c92 => ?_) (fun c92 => ?_)
                · exact absurd c92 (nI_ge q2 (by decide))
                · refine g_aload_n (pc := 95) C dX10_isThing_95 rfl ?_
                  apply gf_X10_26 (pc := 96) C rfl dX10_isThing_96
                  · repeat (first | assumption | exact Cl.s (by assumption) | refine Cl.n (by first | decide | omega) ?_)
                  · rfl
                  refine g_iconst (pc := 99) (v := nI 1) C dX10_isThing_99 (by decide) ?_
                  apply g_iaload (pc := 100) C dX10_isThing_100
                  · repeat (first | assumption | exact Cl.s (by assumption) | refine Cl.n (by first | decide | omega) ?_)
                  · exact vp_in_nI (n := 1) (by decide) (by decide)
                  rw [nI_clamp (by decide), p3]
                  refine g_if_nE (pc := 101) C 118 dX10_isThing_101 (by decide) (fun c101 => ?_) (fun c101 => ?_)
                  · exact g_to (k118 κ C) ⟨rfl, rfl, rfl, rfl, trivial⟩
                  · exact absurd ((nI_eq (b := 0) (by omega) (by decide)).mp c101) q3
        · refine g_iload_n (pc := 71) C dX10_isThing_71 rfl ?_
          refine g_if_eq (pc := 72) C 118 dX10_isThing_72 (by decide) (fun c72 => ?_) (fun c72 => ?_)
          · exact absurd c72 (by decide)
          · refine g_iload_n (pc := 75) C dX10_isThing_75 rfl ?_
            refine g_i2l (pc := 76) C dX10_isThing_76 ?_
            refine g_lconst (pc := 77) (v := 0) C dX10_isThing_77 (by decide) ?_
            refine g_lconst (pc := 78) (v := 1) C dX10_isThing_78 (by decide) ?_
            refine cl_X10_74 (pc := 79) C rfl (r_in _ _ _) dX10_isThing_79 rfl (Nat.le_of_ble_eq_true rfl) ?_
            refine g_if_eq (pc := 82) C 118 dX10_isThing_82 (by decide) (fun c82 => ?_) (fun c82 => ?_)
            · exact absurd c82 (by rw [b2_0]; change ¬ inB (oN (numN x (e1 + 1) e2)).toInt64 (nI 0).toInt64 (nI 1).toInt64 = false; rw [I2']; decide)
            · refine g_aload_n (pc := 85) C dX10_isThing_85 rfl ?_
              apply gf_X10_17 (pc := 86) C rfl dX10_isThing_86
              · repeat (first | assumption | exact Cl.s (by assumption) | refine Cl.n (by first | decide | omega) ?_)
              · rfl
              refine g_iconst (pc := 89) (v := nI 1) C dX10_isThing_89 (by decide) ?_
              apply g_iaload (pc := 90) C dX10_isThing_90
              · repeat (first | assumption | exact Cl.s (by assumption) | refine Cl.n (by first | decide | omega) ?_)
              · exact vp_in_nI (n := 1) (by decide) (by decide)
              rw [nI_clamp (by decide), p2]
              refine g_iconst (pc := 91) (v := nI 5) C dX10_isThing_91 (by decide) ?_
              refine g_icmp_ge (pc := 92) C 118 dX10_isThing_92 (by decide) (fun c92 => ?_) (fun c92 => ?_)
              · exact g_to (k118 κ C) ⟨rfl, rfl, rfl, rfl, trivial⟩
              · exact absurd (nI_le (by omega) (by omega)) c92
      · have I2' : inB (oN (numN x (e1 + 1) e2)).toInt64 (nI 0).toInt64 (nI 1).toInt64 = false := by
          cases z : inB (oN (numN x (e1 + 1) e2)).toInt64 (nI 0).toInt64 (nI 1).toInt64
          · rfl
          · exact absurd (I2.mp z) q1
        refine g_iload_n (pc := 71) C dX10_isThing_71 rfl ?_
        refine g_if_eq (pc := 72) C 118 dX10_isThing_72 (by decide) (fun c72 => ?_) (fun c72 => ?_)
        · exact absurd c72 (by decide)
        · refine g_iload_n (pc := 75) C dX10_isThing_75 rfl ?_
          refine g_i2l (pc := 76) C dX10_isThing_76 ?_
          refine g_lconst (pc := 77) (v := 0) C dX10_isThing_77 (by decide) ?_
          refine g_lconst (pc := 78) (v := 1) C dX10_isThing_78 (by decide) ?_
          refine cl_X10_74 (pc := 79) C rfl (r_in _ _ _) dX10_isThing_79 rfl (Nat.le_of_ble_eq_true rfl) ?_
          refine g_if_eq (pc := 82) C 118 dX10_isThing_82 (by decide) (fun c82 => ?_) (fun c82 => ?_)
          · exact g_to (k118 κ C) ⟨rfl, rfl, rfl, rfl, trivial⟩
          · exact absurd (b2_0.mpr I2') c82
  · have eR : thR x n p P = none := by
      unfold thR
      rw [he1]
      split
      · rename_i q
        rcases hv : numN x p e1 with _ | v
        · rfl
        · rcases numN x (e1 + 1) (ren x n (e1 + 1)) with _ | w
          · rfl
          · rw [thg_ss, if_neg]
            rintro ⟨q1, q2, _⟩
            exact hc ⟨⟨v, hv, q1, q2⟩, q⟩
      · rfl
    rw [eR]
    refine ⟨_, ?_, ⟨⟨nI (e1 + 1), w0, fun z => by cases z⟩, ⟨ft, fn, fv, fl, fm, fp, hA.u0.u0, hTT, fun _ z => by cases z⟩, fr3 (fr3 fr0 (by decide)) (by decide)⟩⟩
    obtain ⟨f, h1, hf⟩ := hx
    have z1 : Cl G (va_up σ 0 (cRef G (nI n) (nI e1) kept done rm)) 1 (bA G 300 f) := Cl.n (by decide) h1
    refine Mt.of (by decide +kernel) (Nat.le_of_ble_eq_true rfl) (fun κ C => ?_)
    have k46 : Go G mX10_isThing κ (some (.int (nI (b2 (none : Option TS).isSome)))) (va_up (va_up σ 0 (cRef G (nI n) (nI e1) kept done rm)) 0 (cRef G (nI n) (nI (e1 + 1)) kept done rm)) (va_up σ 0 (cRef G (nI n) (nI e1) kept done rm)) 46 [(0, .ref (ga G 0)), (1, .int (oN (numN x p e1)))] [] := by
      refine g_iconst (pc := 46) (v := nI 0) C dX10_isThing_46 (by decide) ?_
      refine g_istore_n (pc := 47) C dX10_isThing_47 (by decide) rfl ?_
      refine g_aload_n (pc := 48) C dX10_isThing_48 rfl ?_
      refine g_dup (pc := 49) C dX10_isThing_49 rfl ?_
      apply gf_X10_82 (pc := 50) C rfl dX10_isThing_50
      · repeat (first | assumption | exact Cl.s (by assumption) | refine Cl.n (by first | decide | omega) ?_)
      · rfl
      refine g_iconst (pc := 53) (v := nI 1) C dX10_isThing_53 (by decide) ?_
      refine g_iadd (pc := 54) C dX10_isThing_54 ?_
      rw [nI_add]
      apply pf_X10_82 (pc := 55) C rfl dX10_isThing_55
      · repeat (first | assumption | exact Cl.s (by assumption) | refine Cl.n (by first | decide | omega) ?_)
      · rfl
      · rfl
      · exact Nat.le_of_ble_eq_true rfl
      intro hw55
      refine g_iload_n (pc := 58) C dX10_isThing_58 rfl ?_
      refine g_if_eq (pc := 59) C 69 dX10_isThing_59 (by decide) (fun c59 => ?_) (fun c59 => ?_)
      · refine g_iconst (pc := 69) (v := -1) C dX10_isThing_69 (by decide) ?_
        refine g_istore_n (pc := 70) C dX10_isThing_70 (by decide) rfl ?_
        refine g_iload_n (pc := 71) C dX10_isThing_71 rfl ?_
        refine g_if_eq (pc := 72) C 118 dX10_isThing_72 (by decide) (fun c72 => ?_) (fun c72 => ?_)
        · refine g_iconst (pc := 118) (v := nI 0) C dX10_isThing_118 (by decide) ?_
          refine g_istore_n (pc := 119) C dX10_isThing_119 (by decide) rfl ?_
          refine g_iload_n (pc := 120) C dX10_isThing_120 rfl ?_
          refine g_if_eq (pc := 121) C 162 dX10_isThing_121 (by decide) (fun c121 => ?_) (fun c121 => ?_)
          · refine g_iload_n (pc := 162) C dX10_isThing_162 rfl ?_
            exact g_zreturn (pc := 163) C dX10_isThing_163 rfl (by first | exact Or.inl rfl | exact Or.inr rfl) (rfl) (rfl)
          · exact absurd rfl c121
        · exact absurd rfl c72
      · exact absurd rfl c59
    by_cases c1 : ∃ v, numN x p e1 = some v ∧ 1 ≤ v ∧ v ≤ 4
    · by_cases c2 : e1 < n
      · have c3 : ¬ x e1 = 44 := fun q => hc ⟨c1, c2, q⟩
        refine g_aload_n (pc := 0) C dX10_isThing_0 rfl ?_
        apply cl_X10_91 (pc := 1) C rfl N1 dX10_isThing_1
        · repeat (first | assumption | exact Cl.s (by assumption) | refine Cl.n (by first | decide | omega) ?_)
        · rfl
        · exact Nat.le_of_ble_eq_true rfl
        refine g_istore_n (pc := 4) C dX10_isThing_4 (by decide) rfl ?_
        refine g_iload_n (pc := 5) C dX10_isThing_5 rfl ?_
        refine g_i2l (pc := 6) C dX10_isThing_6 ?_
        refine g_lconst (pc := 7) (v := 1) C dX10_isThing_7 (by decide) ?_
        refine g_ldc2 (pc := 8) C dX10_isThing_8 k_X10_95 ?_
        refine cl_X10_74 (pc := 11) C rfl (r_in _ _ _) dX10_isThing_11 rfl (Nat.le_of_ble_eq_true rfl) ?_
        refine g_if_eq (pc := 14) C 46 dX10_isThing_14 (by decide) (fun c14 => ?_) (fun c14 => ?_)
        · exact absurd c14 (by rw [b2_0]; change ¬ inB (oN (numN x p e1)).toInt64 (nI 1).toInt64 (nI 4).toInt64 = false; rw [I1.mpr c1]; decide)
        · refine g_aload_n (pc := 17) C dX10_isThing_17 rfl ?_
          apply gf_X10_82 (pc := 18) C rfl dX10_isThing_18
          · repeat (first | assumption | exact Cl.s (by assumption) | refine Cl.n (by first | decide | omega) ?_)
          · rfl
          refine g_aload_n (pc := 21) C dX10_isThing_21 rfl ?_
          apply gf_X10_78 (pc := 22) C rfl dX10_isThing_22
          · repeat (first | assumption | exact Cl.s (by assumption) | refine Cl.n (by first | decide | omega) ?_)
          · rfl
          refine g_icmp_ge (pc := 25) C 46 dX10_isThing_25 (by decide) (fun c25 => ?_) (fun c25 => ?_)
          · exact absurd c25 (nI_ge c2 (by omega))
          · refine g_aload_n (pc := 28) C dX10_isThing_28 rfl ?_
            apply gf_X10_7 (pc := 29) C rfl dX10_isThing_29
            · repeat (first | assumption | exact Cl.s (by assumption) | refine Cl.n (by first | decide | omega) ?_)
            · rfl
            refine g_aload_n (pc := 32) C dX10_isThing_32 rfl ?_
            apply gf_X10_82 (pc := 33) C rfl dX10_isThing_33
            · repeat (first | assumption | exact Cl.s (by assumption) | refine Cl.n (by first | decide | omega) ?_)
            · rfl
            apply g_baload (pc := 36) C dX10_isThing_36
            · repeat (first | assumption | exact Cl.s (by assumption) | refine Cl.n (by first | decide | omega) ?_)
            · exact vp_in_nI (by omega) (by decide)
            rw [nI_clamp (by omega), hf e1 c2]
            refine g_bipush (pc := 37) (v := nI 44) C dX10_isThing_37 (by decide) ?_
            refine g_icmp_nE (pc := 39) C 46 dX10_isThing_39 (by decide) (fun c39 => ?_) (fun c39 => ?_)
            · exact g_to k46 ⟨rfl, rfl, trivial⟩
            · exact absurd c39 c3
      · refine g_aload_n (pc := 0) C dX10_isThing_0 rfl ?_
        apply cl_X10_91 (pc := 1) C rfl N1 dX10_isThing_1
        · repeat (first | assumption | exact Cl.s (by assumption) | refine Cl.n (by first | decide | omega) ?_)
        · rfl
        · exact Nat.le_of_ble_eq_true rfl
        refine g_istore_n (pc := 4) C dX10_isThing_4 (by decide) rfl ?_
        refine g_iload_n (pc := 5) C dX10_isThing_5 rfl ?_
        refine g_i2l (pc := 6) C dX10_isThing_6 ?_
        refine g_lconst (pc := 7) (v := 1) C dX10_isThing_7 (by decide) ?_
        refine g_ldc2 (pc := 8) C dX10_isThing_8 k_X10_95 ?_
        refine cl_X10_74 (pc := 11) C rfl (r_in _ _ _) dX10_isThing_11 rfl (Nat.le_of_ble_eq_true rfl) ?_
        refine g_if_eq (pc := 14) C 46 dX10_isThing_14 (by decide) (fun c14 => ?_) (fun c14 => ?_)
        · exact absurd c14 (by rw [b2_0]; change ¬ inB (oN (numN x p e1)).toInt64 (nI 1).toInt64 (nI 4).toInt64 = false; rw [I1.mpr c1]; decide)
        · refine g_aload_n (pc := 17) C dX10_isThing_17 rfl ?_
          apply gf_X10_82 (pc := 18) C rfl dX10_isThing_18
          · repeat (first | assumption | exact Cl.s (by assumption) | refine Cl.n (by first | decide | omega) ?_)
          · rfl
          refine g_aload_n (pc := 21) C dX10_isThing_21 rfl ?_
          apply gf_X10_78 (pc := 22) C rfl dX10_isThing_22
          · repeat (first | assumption | exact Cl.s (by assumption) | refine Cl.n (by first | decide | omega) ?_)
          · rfl
          refine g_icmp_ge (pc := 25) C 46 dX10_isThing_25 (by decide) (fun c25 => ?_) (fun c25 => ?_)
          · exact g_to k46 ⟨rfl, rfl, trivial⟩
          · exact absurd (nI_le (by omega) (by omega)) c25
    · have I1' : inB (oN (numN x p e1)).toInt64 (nI 1).toInt64 (nI 4).toInt64 = false := by
        cases z : inB (oN (numN x p e1)).toInt64 (nI 1).toInt64 (nI 4).toInt64
        · rfl
        · exact absurd (I1.mp z) c1
      refine g_aload_n (pc := 0) C dX10_isThing_0 rfl ?_
      apply cl_X10_91 (pc := 1) C rfl N1 dX10_isThing_1
      · repeat (first | assumption | exact Cl.s (by assumption) | refine Cl.n (by first | decide | omega) ?_)
      · rfl
      · exact Nat.le_of_ble_eq_true rfl
      refine g_istore_n (pc := 4) C dX10_isThing_4 (by decide) rfl ?_
      refine g_iload_n (pc := 5) C dX10_isThing_5 rfl ?_
      refine g_i2l (pc := 6) C dX10_isThing_6 ?_
      refine g_lconst (pc := 7) (v := 1) C dX10_isThing_7 (by decide) ?_
      refine g_ldc2 (pc := 8) C dX10_isThing_8 k_X10_95 ?_
      refine cl_X10_74 (pc := 11) C rfl (r_in _ _ _) dX10_isThing_11 rfl (Nat.le_of_ble_eq_true rfl) ?_
      refine g_if_eq (pc := 14) C 46 dX10_isThing_14 (by decide) (fun c14 => ?_) (fun c14 => ?_)
      · exact g_to k46 ⟨rfl, rfl, trivial⟩
      · exact absurd (b2_0.mpr I1') c14
end RP4

