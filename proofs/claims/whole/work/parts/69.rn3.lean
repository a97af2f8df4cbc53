theorem cR_le (T : TS) (w : Nat → Nat) (d k l : Nat) : cRn T w d k l ≤ 1010 := by
  cases d with
  | zero =>
    unfold cRn
    split
    · have := dfn_le T (tp T (w k)) (lnv T (tp T (w k)) l); omega
    · decide
  | succ d =>
    unfold cRn
    split
    · have a := dfn_le T (tp T (w k)) (lnv T (tp T (w k)) l)
      have b := mnH_le (fun l' => if LOk T l' ∧ mfl T (lnv T (tp T (w k)) l) (lnv T (tp T (w (k + 1))) l') = true then cRn T w d (k + 1) l' else 1000) 16
      omega
    · decide
/-- what a loan's best way on costs -/
def nxF (T : TS) (w : Nat → Nat) (d k l l' : Nat) : Nat := if LOk T l' ∧ mfl T (lnv T (tp T (w k)) l) (lnv T (tp T (w (k + 1))) l') = true then cRn T w d (k + 1) l' else 1000
theorem nxF_n {T : TS} {w : Nat → Nat} {d k l l' : Nat} (h : ¬ (LOk T l' ∧ mfl T (lnv T (tp T (w k)) l) (lnv T (tp T (w (k + 1))) l') = true)) : nxF T w d k l l' = 1000 := if_neg h
theorem nxF_or (T : TS) (w : Nat → Nat) (d k l l' : Nat) : nxF T w d k l l' = cRn T w d (k + 1) l' ∨ nxF T w d k l l' = 1000 := by
  unfold nxF
  split
  · exact Or.inl rfl
  · exact Or.inr rfl
def LnS (G : GG) (σ σ1 : WW) (fc fz : Nat → Int32) : Prop := Cl G σ1 17 (iA G 272 fc) ∧ Cl G σ1 18 (iA G 272 fz) ∧ Fr σ σ1 [17, 18]
def LnR (T : TS) (w : Nat → Nat) (r k : Nat) (fc fz : Nat → Int32) : Prop := ∀ k', k ≤ k' → k' < r → ∀ l, l < 16 → fz (16 * k' + l) = lcI T (tp T (w k')) l ∧ fc (16 * k' + l) = nI (cRn T w (r - 1 - k') k' l)
def LnE (G : GG) (σ : WW) (T : TS) (w : Nat → Nat) (r : Nat) (σ1 : WW) (pc : Nat) (lv : List (Nat × Value)) : Prop := ∃ σ', (∀ κ, Cx G mX10_loans κ → Go G mX10_loans κ none σ' σ1 pc lv []) ∧ ∃ fc fz, LnS G σ σ' fc fz ∧ LnR T w r 0 fc fz
theorem lcI_y {T : TS} {x : Nat → Nat} {l : Nat} (h : LOk T l) : lcI T x l = nI (cdn (tv T) (lnv T x l) (tn T)) := if_pos h
theorem lcI_n {T : TS} {x : Nat → Nat} {l : Nat} (h : ¬ LOk T l) : lcI T x l = -1 := if_neg h
theorem mfl_gd {T : TS} {x y : Nat → Nat} (hx : Vd T x) (hy : Vd T y) : mfl T (gd T (cdn (tv T) x (tn T))) (gd T (cdn (tv T) y (tn T))) = mfl T x y := mfl_cg (fun t ht => dgv_cdn hx ht) (fun t ht => dgv_cdn hy ht)
section RN3
variable {G : GG} {σ : WW} {T : TS} {len at_ kept done : Int32} {r : Nat} {w : Nat → Nat}
theorem ln_53 {σ1 σ' : WW} (y0 : Cl G σ1 0 (cRef G len at_ kept done (nI r))) (hT : QT G σ1 T) (hr16 : r ≤ 16) (hw : ∀ k, k < r → w k < tm T) {fc fz : Nat → Int32} (y17 : Cl G σ1 17 (iA G 272 fc)) (y18 : Cl G σ1 18 (iA G 272 fz)) {k l d : Nat} (hk : k + 1 < r) (hok : LOk T l) (hz : ∀ l', l' < 16 → fz (16 * (k + 1) + l') = lcI T (tp T (w (k + 1))) l' ∧ fc (16 * (k + 1) + l') = nI (cRn T w d (k + 1) l')) {κ : KK} (C : Cx G mX10_loans κ) (K : Go G mX10_loans κ none σ' σ1 154 [(0, .ref (ga G 0)), (1, .int (nI k)), (2, .int (nI l)), (3, .int (nI (cdn (tv T) (lnv T (tp T (w k)) l) (tn T)))), (4, .int (nI (mnH (nxF T w d k l) 16)))] []) : ∀ f n, n + f = 16 → Go G mX10_loans κ none σ' σ1 53 [(0, .ref (ga G 0)), (1, .int (nI k)), (2, .int (nI l)), (3, .int (nI (cdn (tv T) (lnv T (tp T (w k)) l) (tn T)))), (4, .int (nI (mnH (nxF T w d k l) n))), (5, .int (nI n))] [] := by
  have hW := hT.w.1
  have hN : NC T ≤ 1024 := cds_1024 hW
  have hxk : Vd T (tp T (w k)) := hW.2.2.2.2.2.1 _ (hw k (by omega))
  have hxk1 : Vd T (tp T (w (k + 1))) := hW.2.2.2.2.2.1 _ (hw (k + 1) (by omega))
  have hcode : cdn (tv T) (lnv T (tp T (w k)) l) (tn T) < NC T := cdn_lt _ (lnv_V hxk hok)
  intro f
  induction f with
  | zero =>
    intro n hn
    rw [show n = 16 by omega]
    refine g_iload (pc := 53) C dX10_loans_53 rfl ?_
    refine g_bipush (pc := 55) (v := nI 16) C dX10_loans_55 (by decide) ?_
    refine g_icmp_ge (pc := 57) C 154 dX10_loans_57 (by decide) (fun c57 => ?_) (fun c57 => ?_)
    · exact g_to K ⟨rfl, rfl, rfl, rfl, rfl, trivial⟩
    · exact absurd (by decide) c57
  | succ f ih =>
    intro n hn
    obtain ⟨hz1, hz2⟩ := hz n (by omega)
    rw [show 16 * (k + 1) + n = 16 * k + 16 + n by omega] at hz1 hz2
    have hm := mnH_le (nxF T w d k l) n
    have hc := cR_le T w d (k + 1) n
    have k1 := ih (n + 1) (by omega)
    rw [mnH_s] at k1
    have k144 : ¬ nxF T w d k l n < mnH (nxF T w d k l) n → Go G mX10_loans κ none σ' σ1 144 [(0, .ref (ga G 0)), (1, .int (nI k)), (2, .int (nI l)), (3, .int (nI (cdn (tv T) (lnv T (tp T (w k)) l) (tn T)))), (4, .int (nI (mnH (nxF T w d k l) n))), (5, .int (nI n))] [] := by
      intro h
      rw [if_neg h] at k1
      refine g_iload (pc := 144) C dX10_loans_144 rfl ?_
      refine g_istore (pc := 146) C dX10_loans_146 (by decide) rfl ?_
      refine g_iinc (pc := 148) C dX10_loans_148 rfl (by decide) rfl ?_
      refine g_goto (pc := 151) C 53 dX10_loans_151 (by decide) ?_
      exact g_to k1 ⟨rfl, rfl, rfl, rfl, rfl, lgi (nI_1 n), trivial⟩
    by_cases ho : LOk T n
    · rw [lcI_y ho] at hz1
      have hcn : cdn (tv T) (lnv T (tp T (w (k + 1))) n) (tn T) < NC T := cdn_lt _ (lnv_V hxk1 ho)
      by_cases hv : cRn T w d (k + 1) n < mnH (nxF T w d k l) n
      · by_cases hg : mfl T (lnv T (tp T (w k)) l) (lnv T (tp T (w (k + 1))) n) = true
        · have ex : nxF T w d k l n = cRn T w d (k + 1) n := by unfold nxF; rw [if_pos ⟨ho, hg⟩]
          rw [ex, if_pos hv] at k1
          refine g_iload (pc := 53) C dX10_loans_53 rfl ?_
          refine g_bipush (pc := 55) (v := nI 16) C dX10_loans_55 (by decide) ?_
          refine g_icmp_ge (pc := 57) C 154 dX10_loans_57 (by decide) (fun c57 => ?_) (fun c57 => ?_)
          · exact absurd c57 (nI_ge (by omega) (by decide))
          · refine g_iload_n (pc := 60) C dX10_loans_60 rfl ?_
            refine g_aload_n (pc := 61) C dX10_loans_61 rfl ?_
            apply gf_X10_111 (pc := 62) C rfl dX10_loans_62
            · repeat (first | assumption | exact Cl.s (by assumption) | refine Cl.n (by first | decide | omega) ?_)
            · rfl
            refine g_iconst (pc := 65) (v := nI 1) C dX10_loans_65 (by decide) ?_
            refine g_isub (pc := 66) C dX10_loans_66 ?_
            rw [pk_sub (by omega)]
            refine g_icmp_ge (pc := 67) C 154 dX10_loans_67 (by decide) (fun c67 => ?_) (fun c67 => ?_)
            · exact absurd c67 (nI_ge (by omega) (by omega))
            · refine g_iload_n (pc := 70) C dX10_loans_70 rfl ?_
              refine g_if_lt (pc := 71) C 154 dX10_loans_71 (by decide) (fun c71 => ?_) (fun c71 => ?_)
              · exact absurd c71 (nI_pos (by omega))
              · refine g_aload_n (pc := 74) C dX10_loans_74 rfl ?_
                apply gf_X10_60 (pc := 75) C rfl dX10_loans_75
                · repeat (first | assumption | exact Cl.s (by assumption) | refine Cl.n (by first | decide | omega) ?_)
                · rfl
                refine g_bipush (pc := 78) (v := nI 16) C dX10_loans_78 (by decide) ?_
                refine g_iload_n (pc := 80) C dX10_loans_80 rfl ?_
                refine g_imul (pc := 81) C dX10_loans_81 ?_
                rw [pk_mul]
                refine g_bipush (pc := 82) (v := nI 16) C dX10_loans_82 (by decide) ?_
                refine g_iadd (pc := 84) C dX10_loans_84 ?_
                rw [nI_add]
                refine g_iload (pc := 85) C dX10_loans_85 rfl ?_
                refine g_iadd (pc := 87) C dX10_loans_87 ?_
                rw [nI_add]
                apply g_iaload (pc := 88) C dX10_loans_88
                · repeat (first | assumption | exact Cl.s (by assumption) | refine Cl.n (by first | decide | omega) ?_)
                · exact vp_in_nI (by omega) (by decide)
                rw [nI_clamp (by omega), hz2]
                refine g_istore (pc := 89) C dX10_loans_89 (by decide) rfl ?_
                refine g_aload_n (pc := 91) C dX10_loans_91 rfl ?_
                apply gf_X10_63 (pc := 92) C rfl dX10_loans_92
                · repeat (first | assumption | exact Cl.s (by assumption) | refine Cl.n (by first | decide | omega) ?_)
                · rfl
                refine g_bipush (pc := 95) (v := nI 16) C dX10_loans_95 (by decide) ?_
                refine g_iload_n (pc := 97) C dX10_loans_97 rfl ?_
                refine g_imul (pc := 98) C dX10_loans_98 ?_
                rw [pk_mul]
                refine g_bipush (pc := 99) (v := nI 16) C dX10_loans_99 (by decide) ?_
                refine g_iadd (pc := 101) C dX10_loans_101 ?_
                rw [nI_add]
                refine g_iload (pc := 102) C dX10_loans_102 rfl ?_
                refine g_iadd (pc := 104) C dX10_loans_104 ?_
                rw [nI_add]
                apply g_iaload (pc := 105) C dX10_loans_105
                · repeat (first | assumption | exact Cl.s (by assumption) | refine Cl.n (by first | decide | omega) ?_)
                · exact vp_in_nI (by omega) (by decide)
                rw [nI_clamp (by omega), hz1]
                refine g_if_lt (pc := 106) C 144 dX10_loans_106 (by decide) (fun c106 => ?_) (fun c106 => ?_)
                · exact absurd c106 (nI_pos (by omega))
                · refine g_iload (pc := 109) C dX10_loans_109 rfl ?_
                  refine g_iload (pc := 111) C dX10_loans_111 rfl ?_
                  refine g_icmp_ge (pc := 113) C 144 dX10_loans_113 (by decide) (fun c113 => ?_) (fun c113 => ?_)
                  · exact absurd c113 (nI_ge (by omega) (by omega))
                  · refine g_aload_n (pc := 116) C dX10_loans_116 rfl ?_
                    refine g_iload_n (pc := 117) C dX10_loans_117 rfl ?_
                    refine g_aload_n (pc := 118) C dX10_loans_118 rfl ?_
                    apply gf_X10_63 (pc := 119) C rfl dX10_loans_119
                    · repeat (first | assumption | exact Cl.s (by assumption) | refine Cl.n (by first | decide | omega) ?_)
                    · rfl
                    refine g_bipush (pc := 122) (v := nI 16) C dX10_loans_122 (by decide) ?_
                    refine g_iload_n (pc := 124) C dX10_loans_124 rfl ?_
                    refine g_imul (pc := 125) C dX10_loans_125 ?_
                    rw [pk_mul]
                    refine g_bipush (pc := 126) (v := nI 16) C dX10_loans_126 (by decide) ?_
                    refine g_iadd (pc := 128) C dX10_loans_128 ?_
                    rw [nI_add]
                    refine g_iload (pc := 129) C dX10_loans_129 rfl ?_
                    refine g_iadd (pc := 131) C dX10_loans_131 ?_
                    rw [nI_add]
                    apply g_iaload (pc := 132) C dX10_loans_132
                    · repeat (first | assumption | exact Cl.s (by assumption) | refine Cl.n (by first | decide | omega) ?_)
                    · exact vp_in_nI (by omega) (by decide)
                    rw [nI_clamp (by omega), hz1]
                    apply cl_X10_189 (pc := 133) C rfl (r_goesWith y0 hT (by omega) (by omega)) dX10_loans_133
                    · repeat (first | assumption | exact Cl.s (by assumption) | refine Cl.n (by first | decide | omega) ?_)
                    · rfl
                    · exact Nat.le_of_ble_eq_true rfl
                    refine g_if_eq (pc := 136) C 144 dX10_loans_136 (by decide) (fun c136 => ?_) (fun c136 => ?_)
                    · exact absurd (b2_0.mp c136) (by rw [mfl_gd (lnv_V hxk hok) (lnv_V hxk1 ho), hg]; decide)
                    · refine g_iload (pc := 139) C dX10_loans_139 rfl ?_
                      refine g_goto (pc := 141) C 146 dX10_loans_141 (by decide) ?_
                      refine g_istore (pc := 146) C dX10_loans_146 (by decide) rfl ?_
                      refine g_iinc (pc := 148) C dX10_loans_148 rfl (by decide) rfl ?_
                      refine g_goto (pc := 151) C 53 dX10_loans_151 (by decide) ?_
                      exact g_to k1 ⟨rfl, rfl, rfl, rfl, rfl, lgi (nI_1 n), trivial⟩
        · have k2 := k144 (by rw [nxF_n (fun z => hg z.2)]; omega)
          refine g_iload (pc := 53) C dX10_loans_53 rfl ?_
          refine g_bipush (pc := 55) (v := nI 16) C dX10_loans_55 (by decide) ?_
          refine g_icmp_ge (pc := 57) C 154 dX10_loans_57 (by decide) (fun c57 => ?_) (fun c57 => ?_)
          · exact absurd c57 (nI_ge (by omega) (by decide))
          · refine g_iload_n (pc := 60) C dX10_loans_60 rfl ?_
            refine g_aload_n (pc := 61) C dX10_loans_61 rfl ?_
            apply gf_X10_111 (pc := 62) C rfl dX10_loans_62
            · repeat (first | assumption | exact Cl.s (by assumption) | refine Cl.n (by first | decide | omega) ?_)
            · rfl
            refine g_iconst (pc := 65) (v := nI 1) C dX10_loans_65 (by decide) ?_
            refine g_isub (pc := 66) C dX10_loans_66 ?_
            rw [pk_sub (by omega)]
            refine g_icmp_ge (pc := 67) C 154 dX10_loans_67 (by decide) (fun c67 => ?_) (fun c67 => ?_)
            · exact absurd c67 (nI_ge (by omega) (by omega))
            · refine g_iload_n (pc := 70) C dX10_loans_70 rfl ?_
              refine g_if_lt (pc := 71) C 154 dX10_loans_71 (by decide) (fun c71 => ?_) (fun c71 => ?_)
              · exact absurd c71 (nI_pos (by omega))
              · refine g_aload_n (pc := 74) C dX10_loans_74 rfl ?_
                apply gf_X10_60 (pc := 75) C rfl dX10_loans_75
                · repeat (first | assumption | exact Cl.s (by assumption) | refine Cl.n (by first | decide | omega) ?_)
                · rfl
                refine g_bipush (pc := 78) (v := nI 16) C dX10_loans_78 (by decide) ?_
                refine g_iload_n (pc := 80) C dX10_loans_80 rfl ?_
                refine g_imul (pc := 81) C dX10_loans_81 ?_
                rw [pk_mul]
                refine g_bipush (pc := 82) (v := nI 16) C dX10_loans_82 (by decide) ?_
                refine g_iadd (pc := 84) C dX10_loans_84 ?_
                rw [nI_add]
                refine g_iload (pc := 85) C dX10_loans_85 rfl ?_
                refine g_iadd (pc := 87) C dX10_loans_87 ?_
                rw [nI_add]
                apply g_iaload (pc := 88) C dX10_loans_88
                · repeat (first | assumption | exact Cl.s (by assumption) | refine Cl.n (by first | decide | omega) ?_)
                · exact vp_in_nI (by omega) (by decide)
                rw [nI_clamp (by omega), hz2]
                refine g_istore (pc := 89) C dX10_loans_89 (by decide) rfl ?_
                refine g_aload_n (pc := 91) C dX10_loans_91 rfl ?_
                apply gf_X10_63 (pc := 92) C rfl dX10_loans_92
                · repeat (first | assumption | exact Cl.s (by assumption) | refine Cl.n (by first | decide | omega) ?_)
                · rfl
                refine g_bipush (pc := 95) (v := nI 16) C dX10_loans_95 (by decide) ?_
                refine g_iload_n (pc := 97) C dX10_loans_97 rfl ?_
                refine g_imul (pc := 98) C dX10_loans_98 ?_
                rw [pk_mul]
                refine g_bipush (pc := 99) (v := nI 16) C dX10_loans_99 (by decide) ?_
                refine g_iadd (pc := 101) C dX10_loans_101 ?_
                rw [nI_add]
                refine g_iload (pc := 102) C dX10_loans_102 rfl ?_
                refine g_iadd (pc := 104) C dX10_loans_104 ?_
                rw [nI_add]
                apply g_iaload (pc := 105) C dX10_loans_105
                · repeat (first | assumption | exact Cl.s (by assumption) | refine Cl.n (by first | decide | omega) ?_)
                · exact vp_in_nI (by omega) (by decide)
                rw [nI_clamp (by omega), hz1]
                refine g_if_lt (pc := 106) C 144 dX10_loans_106 (by decide) (fun c106 => ?_) (fun c106 => ?_)
                · exact absurd c106 (nI_pos (by omega))
                · refine g_iload (pc := 109) C dX10_loans_109 rfl ?_
                  refine g_iload (pc := 111) C dX10_loans_111 rfl ?_
                  refine g_icmp_ge (pc := 113) C 144 dX10_loans_113 (by decide) (fun c113 => ?_) (fun c113 => ?_)
                  · exact absurd c113 (nI_ge (by omega) (by omega))
                  · refine g_aload_n (pc := 116) C dX10_loans_116 rfl ?_
                    refine g_iload_n (pc := 117) C dX10_loans_117 rfl ?_
                    refine g_aload_n (pc := 118) C dX10_loans_118 rfl ?_
                    apply gf_X10_63 (pc := 119) C rfl dX10_loans_119
                    · repeat (first | assumption | exact Cl.s (by assumption) | refine Cl.n (by first | decide | omega) ?_)
                    · rfl
                    refine g_bipush (pc := 122) (v := nI 16) C dX10_loans_122 (by decide) ?_
                    refine g_iload_n (pc := 124) C dX10_loans_124 rfl ?_
                    refine g_imul (pc := 125) C dX10_loans_125 ?_
                    rw [pk_mul]
                    refine g_bipush (pc := 126) (v := nI 16) C dX10_loans_126 (by decide) ?_
                    refine g_iadd (pc := 128) C dX10_loans_128 ?_
                    rw [nI_add]
                    refine g_iload (pc := 129) C dX10_loans_129 rfl ?_
                    refine g_iadd (pc := 131) C dX10_loans_131 ?_
                    rw [nI_add]
                    apply g_iaload (pc := 132) C dX10_loans_132
                    · repeat (first | assumption | exact Cl.s (by assumption) | refine Cl.n (by first | decide | omega) ?_)
                    · exact vp_in_nI (by omega) (by decide)
                    rw [nI_clamp (by omega), hz1]
                    apply cl_X10_189 (pc := 133) C rfl (r_goesWith y0 hT (by omega) (by omega)) dX10_loans_133
                    · repeat (first | assumption | exact Cl.s (by assumption) | refine Cl.n (by first | decide | omega) ?_)
                    · rfl
                    · exact Nat.le_of_ble_eq_true rfl
                    refine g_if_eq (pc := 136) C 144 dX10_loans_136 (by decide) (fun c136 => ?_) (fun c136 => ?_)
                    · exact g_to k2 ⟨rfl, rfl, rfl, rfl, rfl, rfl, trivial⟩
                    · exact absurd (b2_0.mpr (by rw [mfl_gd (lnv_V hxk hok) (lnv_V hxk1 ho)]; simpa using hg)) c136
      · have k2 := k144 (by rcases nxF_or T w d k l n with z | z <;> omega)
        refine g_iload (pc := 53) C dX10_loans_53 rfl ?_
        refine g_bipush (pc := 55) (v := nI 16) C dX10_loans_55 (by decide) ?_
        refine g_icmp_ge (pc := 57) C 154 dX10_loans_57 (by decide) (fun c57 => ?_) (fun c57 => ?_)
        · exact absurd c57 (nI_ge (by omega) (by decide))
        · refine g_iload_n (pc := 60) C dX10_loans_60 rfl ?_
          refine g_aload_n (pc := 61) C dX10_loans_61 rfl ?_
          apply gf_X10_111 (pc := 62) C rfl dX10_loans_62
          · repeat (first | assumption | exact Cl.s (by assumption) | refine Cl.n (by first | decide | omega) ?_)
          · rfl
          refine g_iconst (pc := 65) (v := nI 1) C dX10_loans_65 (by decide) ?_
          refine g_isub (pc := 66) C dX10_loans_66 ?_
          rw [pk_sub (by omega)]
          refine g_icmp_ge (pc := 67) C 154 dX10_loans_67 (by decide) (fun c67 => ?_) (fun c67 => ?_)
          · exact absurd c67 (nI_ge (by omega) (by omega))
          · refine g_iload_n (pc := 70) C dX10_loans_70 rfl ?_
            refine g_if_lt (pc := 71) C 154 dX10_loans_71 (by decide) (fun c71 => ?_) (fun c71 => ?_)
            · exact absurd c71 (nI_pos (by omega))
            · refine g_aload_n (pc := 74) C dX10_loans_74 rfl ?_
              apply gf_X10_60 (pc := 75) C rfl dX10_loans_75
              · repeat (first | assumption | exact Cl.s (by assumption) | refine Cl.n (by first | decide | omega) ?_)
              · rfl
              refine g_bipush (pc := 78) (v := nI 16) C dX10_loans_78 (by decide) ?_
              refine g_iload_n (pc := 80) C dX10_loans_80 rfl ?_
              refine g_imul (pc := 81) C dX10_loans_81 ?_
              rw [pk_mul]
              refine g_bipush (pc := 82) (v := nI 16) C dX10_loans_82 (by decide) ?_
              refine g_iadd (pc := 84) C dX10_loans_84 ?_
              rw [nI_add]
              refine g_iload (pc := 85) C dX10_loans_85 rfl ?_
              refine g_iadd (pc := 87) C dX10_loans_87 ?_
              rw [nI_add]
              apply g_iaload (pc := 88) C dX10_loans_88
              · repeat (first | assumption | exact Cl.s (by assumption) | refine Cl.n (by first | decide | omega) ?_)
              · exact vp_in_nI (by omega) (by decide)
              rw [nI_clamp (by omega), hz2]
              refine g_istore (pc := 89) C dX10_loans_89 (by decide) rfl ?_
              refine g_aload_n (pc := 91) C dX10_loans_91 rfl ?_
              apply gf_X10_63 (pc := 92) C rfl dX10_loans_92
              · repeat (first | assumption | exact Cl.s (by assumption) | refine Cl.n (by first | decide | omega) ?_)
              · rfl
              refine g_bipush (pc := 95) (v := nI 16) C dX10_loans_95 (by decide) ?_
              refine g_iload_n (pc := 97) C dX10_loans_97 rfl ?_
              refine g_imul (pc := 98) C dX10_loans_98 ?_
              rw [pk_mul]
              refine g_bipush (pc := 99) (v := nI 16) C dX10_loans_99 (by decide) ?_
              refine g_iadd (pc := 101) C dX10_loans_101 ?_
              rw [nI_add]
              refine g_iload (pc := 102) C dX10_loans_102 rfl ?_
              refine g_iadd (pc := 104) C dX10_loans_104 ?_
              rw [nI_add]
              apply g_iaload (pc := 105) C dX10_loans_105
              · repeat (first | assumption | exact Cl.s (by assumption) | refine Cl.n (by first | decide | omega) ?_)
              · exact vp_in_nI (by omega) (by decide)
              rw [nI_clamp (by omega), hz1]
              refine g_if_lt (pc := 106) C 144 dX10_loans_106 (by decide) (fun c106 => ?_) (fun c106 => ?_)
              · exact absurd c106 (nI_pos (by omega))
              · refine g_iload (pc := 109) C dX10_loans_109 rfl ?_
                refine g_iload (pc := 111) C dX10_loans_111 rfl ?_
                refine g_icmp_ge (pc := 113) C 144 dX10_loans_113 (by decide) (fun c113 => ?_) (fun c113 => ?_)
                · exact g_to k2 ⟨rfl, rfl, rfl, rfl, rfl, rfl, trivial⟩
                · exact absurd (nI_le (by omega) (by omega)) c113
    · rw [lcI_n ho] at hz1
      have k2 := k144 (by rw [nxF_n (fun z => ho z.1)]; omega)
      refine g_iload (pc := 53) C dX10_loans_53 rfl ?_
      refine g_bipush (pc := 55) (v := nI 16) C dX10_loans_55 (by decide) ?_
      refine g_icmp_ge (pc := 57) C 154 dX10_loans_57 (by decide) (fun c57 => ?_) (fun c57 => ?_)
      · exact absurd c57 (nI_ge (by omega) (by decide))
      · refine g_iload_n (pc := 60) C dX10_loans_60 rfl ?_
        refine g_aload_n (pc := 61) C dX10_loans_61 rfl ?_
        apply gf_X10_111 (pc := 62) C rfl dX10_loans_62
        · repeat (first | assumption | exact Cl.s (by assumption) | refine Cl.n (by first | decide | omega) ?_)
        · rfl
        refine g_iconst (pc := 65) (v := nI 1) C dX10_loans_65 (by decide) ?_
        refine g_isub (pc := 66) C dX10_loans_66 ?_
        rw [pk_sub (by omega)]
        refine g_icmp_ge (pc := 67) C 154 dX10_loans_67 (by decide) (fun c67 => ?_) (fun c67 => ?_)
        · exact absurd c67 (nI_ge (by omega) (by omega))
        · refine g_iload_n (pc := 70) C dX10_loans_70 rfl ?_
          refine g_if_lt (pc := 71) C 154 dX10_loans_71 (by decide) (fun c71 => ?_) (fun c71 => ?_)
          · exact absurd c71 (nI_pos (by omega))
          · refine g_aload_n (pc := 74) C dX10_loans_74 rfl ?_
            apply gf_X10_60 (pc := 75) C rfl dX10_loans_75
            · repeat (first | assumption | exact Cl.s (by assumption) | refine Cl.n (by first | decide | omega) ?_)
            · rfl
            refine g_bipush (pc := 78) (v := nI 16) C dX10_loans_78 (by decide) ?_
            refine g_iload_n (pc := 80) C dX10_loans_80 rfl ?_
            refine g_imul (pc := 81) C dX10_loans_81 ?_
            rw [pk_mul]
            refine g_bipush (pc := 82) (v := nI 16) C dX10_loans_82 (by decide) ?_
            refine g_iadd (pc := 84) C dX10_loans_84 ?_
            rw [nI_add]
            refine g_iload (pc := 85) C dX10_loans_85 rfl ?_
            refine g_iadd (pc := 87) C dX10_loans_87 ?_
            rw [nI_add]
            apply g_iaload (pc := 88) C dX10_loans_88
            · repeat (first | assumption | exact Cl.s (by assumption) | refine Cl.n (by first | decide | omega) ?_)
            · exact vp_in_nI (by omega) (by decide)
            rw [nI_clamp (by omega), hz2]
            refine g_istore (pc := 89) C dX10_loans_89 (by decide) rfl ?_
            refine g_aload_n (pc := 91) C dX10_loans_91 rfl ?_
            apply gf_X10_63 (pc := 92) C rfl dX10_loans_92
            · repeat (first | assumption | exact Cl.s (by assumption) | refine Cl.n (by first | decide | omega) ?_)
            · rfl
            refine g_bipush (pc := 95) (v := nI 16) C dX10_loans_95 (by decide) ?_
            refine g_iload_n (pc := 97) C dX10_loans_97 rfl ?_
            refine g_imul (pc := 98) C dX10_loans_98 ?_
            rw [pk_mul]
            refine g_bipush (pc := 99) (v := nI 16) C dX10_loans_99 (by decide) ?_
            refine g_iadd (pc := 101) C dX10_loans_101 ?_
            rw [nI_add]
            refine g_iload (pc := 102) C dX10_loans_102 rfl ?_
            refine g_iadd (pc := 104) C dX10_loans_104 ?_
            rw [nI_add]
            apply g_iaload (pc := 105) C dX10_loans_105
            · repeat (first | assumption | exact Cl.s (by assumption) | refine Cl.n (by first | decide | omega) ?_)
            · exact vp_in_nI (by omega) (by decide)
            rw [nI_clamp (by omega), hz1]
            refine g_if_lt (pc := 106) C 144 dX10_loans_106 (by decide) (fun c106 => ?_) (fun c106 => ?_)
            · exact g_to k2 ⟨rfl, rfl, rfl, rfl, rfl, rfl, trivial⟩
            · exact absurd (by decide) c106
theorem ln_154 {σ1 σ' : WW} (y0 : Cl G σ1 0 (cRef G len at_ kept done (nI r))) (hT : QT G σ1 T) (hR : QR G σ1 r w) (hr16 : r ≤ 16) (hw : ∀ k, k < r → w k < tm T) {fc fz : Nat → Int32} (y17 : Cl G σ1 17 (iA G 272 fc)) (y18 : Cl G σ1 18 (iA G 272 fz)) {k l a : Nat} (hk : k < r) (hl : l < 16) {κ : KK} (C : Cx G mX10_loans κ) (K : Go G mX10_loans κ none σ' (va_up (va_up σ1 18 (iA G 272 (upd fz (16 * k + l) (lcI T (tp T (w k)) l)))) 17 (iA G 272 (upd fc (16 * k + l) (nI (if LOk T l then a + dfn T (tp T (w k)) (lnv T (tp T (w k)) l) else 1000))))) 13 [(0, .ref (ga G 0)), (1, .int (nI k)), (2, .int (nI (l + 1)))] []) : Go G mX10_loans κ none σ' σ1 154 [(0, .ref (ga G 0)), (1, .int (nI k)), (2, .int (nI l)), (3, .int (lcI T (tp T (w k)) l)), (4, .int (nI a))] [] := by
  have hW := hT.w.1
  have hN : NC T ≤ 1024 := cds_1024 hW
  have hm := hW.2.2.2.2.1
  have hwk := hw k hk
  have hxk : Vd T (tp T (w k)) := hW.2.2.2.2.2.1 _ hwk
  obtain ⟨f10, y10, hf10⟩ := id hR
  by_cases ho : LOk T l
  · have hcode : cdn (tv T) (lnv T (tp T (w k)) l) (tn T) < NC T := cdn_lt _ (lnv_V hxk ho)
    rw [lcI_y ho] at K ⊢
    rw [if_pos ho] at K
    generalize hcc : cdn (tv T) (lnv T (tp T (w k)) l) (tn T) = cc at hcode K ⊢
    have hT2 : QT G (va_up σ1 18 (iA G 272 (upd fz (16 * k + l) (nI cc)))) T := hT.fr (ps := [18]) (fr3 fr0 (by decide)) (by decide) (by decide) (by decide) (by decide) (by decide) (by decide)
    have z0 : Cl G (va_up σ1 18 (iA G 272 (upd fz (16 * k + l) (nI cc)))) 0 (cRef G len at_ kept done (nI r)) := Cl.n (by decide) y0
    have edf : dfn T (tp T (w k)) (gd T cc) = dfn T (tp T (w k)) (lnv T (tp T (w k)) l) := dfn_cg (fun t ht => by rw [← hcc]; exact dgv_cdn (lnv_V hxk ho) ht)
    refine g_aload_n (pc := 154) C dX10_loans_154 rfl ?_
    apply gf_X10_63 (pc := 155) C rfl dX10_loans_155
    · repeat (first | assumption | exact Cl.s (by assumption) | refine Cl.n (by first | decide | omega) ?_)
    · rfl
    refine g_bipush (pc := 158) (v := nI 16) C dX10_loans_158 (by decide) ?_
    refine g_iload_n (pc := 160) C dX10_loans_160 rfl ?_
    refine g_imul (pc := 161) C dX10_loans_161 ?_
    rw [pk_mul]
    refine g_iload_n (pc := 162) C dX10_loans_162 rfl ?_
    refine g_iadd (pc := 163) C dX10_loans_163 ?_
    rw [nI_add]
    refine g_iload_n (pc := 164) C dX10_loans_164 rfl ?_
    apply g_iastore (pc := 165) C dX10_loans_165
    · repeat (first | assumption | exact Cl.s (by assumption) | refine Cl.n (by first | decide | omega) ?_)
    · exact vp_in_nI (by omega) (by decide)
    intro hw165
    rw [nI_clamp (by omega)]
    refine g_aload_n (pc := 166) C dX10_loans_166 rfl ?_
    apply gf_X10_60 (pc := 167) C rfl dX10_loans_167
    · repeat (first | assumption | exact Cl.s (by assumption) | refine Cl.n (by first | decide | omega) ?_)
    · rfl
    refine g_bipush (pc := 170) (v := nI 16) C dX10_loans_170 (by decide) ?_
    refine g_iload_n (pc := 172) C dX10_loans_172 rfl ?_
    refine g_imul (pc := 173) C dX10_loans_173 ?_
    rw [pk_mul]
    refine g_iload_n (pc := 174) C dX10_loans_174 rfl ?_
    refine g_iadd (pc := 175) C dX10_loans_175 ?_
    rw [nI_add]
    refine g_iload_n (pc := 176) C dX10_loans_176 rfl ?_
    refine g_if_ge (pc := 177) C 186 dX10_loans_177 (by decide) (fun c177 => ?_) (fun c177 => ?_)
    · refine g_iload (pc := 186) C dX10_loans_186 rfl ?_
      refine g_aload_n (pc := 188) C dX10_loans_188 rfl ?_
      refine g_aload_n (pc := 189) C dX10_loans_189 rfl ?_
      apply gf_X10_38 (pc := 190) C rfl dX10_loans_190
      · repeat (first | assumption | exact Cl.s (by assumption) | refine Cl.n (by first | decide | omega) ?_)
      · rfl
      refine g_iload_n (pc := 193) C dX10_loans_193 rfl ?_
      apply g_iaload (pc := 194) C dX10_loans_194
      · repeat (first | assumption | exact Cl.s (by assumption) | refine Cl.n (by first | decide | omega) ?_)
      · exact vp_in_nI (by omega) (by decide)
      rw [nI_clamp (by omega), hf10 k hk]
      refine g_iload_n (pc := 195) C dX10_loans_195 rfl ?_
      apply cl_X10_193 (pc := 196) C rfl (r_others z0 hT2 hwk (by omega)) dX10_loans_196
      · repeat (first | assumption | exact Cl.s (by assumption) | refine Cl.n (by first | decide | omega) ?_)
      · rfl
      · exact Nat.le_of_ble_eq_true rfl
      refine g_iadd (pc := 199) C dX10_loans_199 ?_
      rw [nI_add, edf]
      apply g_iastore (pc := 200) C dX10_loans_200
      · repeat (first | assumption | exact Cl.s (by assumption) | refine Cl.n (by first | decide | omega) ?_)
      · exact vp_in_nI (by omega) (by decide)
      intro hw200
      rw [nI_clamp (by omega)]
      refine g_iinc (pc := 201) C dX10_loans_201 rfl (by decide) rfl ?_
      refine g_goto (pc := 204) C 13 dX10_loans_204 (by decide) ?_
      exact g_to K ⟨rfl, rfl, lgi (nI_1 l), trivial⟩
    · exact absurd (nI_pos' (by omega)) c177
  · rw [lcI_n ho] at K ⊢
    rw [if_neg ho] at K
    refine g_aload_n (pc := 154) C dX10_loans_154 rfl ?_
    apply gf_X10_63 (pc := 155) C rfl dX10_loans_155
    · repeat (first | assumption | exact Cl.s (by assumption) | refine Cl.n (by first | decide | omega) ?_)
    · rfl
    refine g_bipush (pc := 158) (v := nI 16) C dX10_loans_158 (by decide) ?_
    refine g_iload_n (pc := 160) C dX10_loans_160 rfl ?_
    refine g_imul (pc := 161) C dX10_loans_161 ?_
    rw [pk_mul]
    refine g_iload_n (pc := 162) C dX10_loans_162 rfl ?_
    refine g_iadd (pc := 163) C dX10_loans_163 ?_
    rw [nI_add]
    refine g_iload_n (pc := 164) C dX10_loans_164 rfl ?_
    apply g_iastore (pc := 165) C dX10_loans_165
    · repeat (first | assumption | exact Cl.s (by assumption) | refine Cl.n (by first | decide | omega) ?_)
    · exact vp_in_nI (by omega) (by decide)
    intro hw165
    rw [nI_clamp (by omega)]
    refine g_aload_n (pc := 166) C dX10_loans_166 rfl ?_
    apply gf_X10_60 (pc := 167) C rfl dX10_loans_167
    · repeat (first | assumption | exact Cl.s (by assumption) | refine Cl.n (by first | decide | omega) ?_)
    · rfl
    refine g_bipush (pc := 170) (v := nI 16) C dX10_loans_170 (by decide) ?_
    refine g_iload_n (pc := 172) C dX10_loans_172 rfl ?_
    refine g_imul (pc := 173) C dX10_loans_173 ?_
    rw [pk_mul]
    refine g_iload_n (pc := 174) C dX10_loans_174 rfl ?_
    refine g_iadd (pc := 175) C dX10_loans_175 ?_
    rw [nI_add]
    refine g_iload_n (pc := 176) C dX10_loans_176 rfl ?_
    refine g_if_ge (pc := 177) C 186 dX10_loans_177 (by decide) (fun c177 => ?_) (fun c177 => ?_)
    · exact absurd c177 (by decide)
    · refine g_sipush (pc := 180) (v := nI 1000) C dX10_loans_180 (by decide) ?_
      refine g_goto (pc := 183) C 200 dX10_loans_183 (by decide) ?_
      apply g_iastore (pc := 200) C dX10_loans_200
      · repeat (first | assumption | exact Cl.s (by assumption) | refine Cl.n (by first | decide | omega) ?_)
      · exact vp_in_nI (by omega) (by decide)
      intro hw200
      rw [nI_clamp (by omega)]
      refine g_iinc (pc := 201) C dX10_loans_201 rfl (by decide) rfl ?_
      refine g_goto (pc := 204) C 13 dX10_loans_204 (by decide) ?_
      exact g_to K ⟨rfl, rfl, lgi (nI_1 l), trivial⟩
end RN3

