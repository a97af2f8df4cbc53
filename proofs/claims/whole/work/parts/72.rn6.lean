section RN6
variable {G : GG} {σ : WW} {T : TS} {len at_ kept done : Int32} {r : Nat} {w : Nat → Nat}
theorem le_114 (h0 : Cl G σ 0 (cRef G len at_ kept done (nI r))) (hT : QT G σ T) (hr16 : r ≤ 16) (hw : ∀ k, k < r → w k < tm T) {fc fz : Nat → Int32} (h17 : Cl G σ 17 (iA G 272 fc)) (h18 : Cl G σ 18 (iA G 272 fz)) (hL : LnR T w r 0 fc fz) {i k due : Nat} {pv : Nat → Nat} (hk : k < r) (hd : due < 1000) (hpv : 0 < k → Vd T pv) {ahd : Int32} (hah : 0 < k → ahd = nI (cdn (tv T) pv (tn T))) {R : Option Value} {κ : KK} (C : Cx G mX10_lent κ) (K : ∀ o, FI T w r k pv due 16 o → Go G mX10_lent κ R σ σ 212 [(0, .ref (ga G 0)), (1, .int (nI i)), (2, .int (nI due)), (3, .int ahd), (4, .int (nI k)), (5, .int (fo o))] []) : ∀ f n o, n + f = 16 → FI T w r k pv due n o → Go G mX10_lent κ R σ σ 114 [(0, .ref (ga G 0)), (1, .int (nI i)), (2, .int (nI due)), (3, .int ahd), (4, .int (nI k)), (5, .int (fo o)), (6, .int (nI n))] [] := by
  have hW := hT.w.1
  have hN : NC T ≤ 1024 := cds_1024 hW
  have hxk : Vd T (tp T (w k)) := hW.2.2.2.2.2.1 _ (hw k hk)
  intro f
  induction f with
  | zero =>
    intro n o hn hF
    have k1 := K o (by rw [← show n = 16 by omega]; exact hF)
    refine g_iload (pc := 114) C dX10_lent_114 rfl ?_
    refine g_bipush (pc := 116) (v := nI 16) C dX10_lent_116 (by decide) ?_
    refine g_icmp_ge (pc := 118) C 212 dX10_lent_118 (by decide) (fun c118 => ?_) (fun c118 => ?_)
    · exact g_to k1 ⟨rfl, rfl, rfl, rfl, rfl, rfl, trivial⟩
    · exact absurd (nI_le (by omega) (by omega)) c118
  | succ f ih =>
    intro n o hn hF
    obtain ⟨hz1, hz2⟩ := hL k (Nat.zero_le _) hk n (by omega)
    have hc := cR_le T w (r - 1 - k) k n
    have k202 : FI T w r k pv due (n + 1) o → Go G mX10_lent κ R σ σ 202 [(0, .ref (ga G 0)), (1, .int (nI i)), (2, .int (nI due)), (3, .int ahd), (4, .int (nI k)), (5, .int (fo o)), (6, .int (nI n))] [] := by
      intro hF
      have k1 := ih (n + 1) o (by omega) hF
      refine g_iload (pc := 202) C dX10_lent_202 rfl ?_
      refine g_istore (pc := 204) C dX10_lent_204 (by decide) rfl ?_
      refine g_iinc (pc := 206) C dX10_lent_206 rfl (by decide) rfl ?_
      refine g_goto (pc := 209) C 114 dX10_lent_209 (by decide) ?_
      exact g_to k1 ⟨rfl, rfl, rfl, rfl, rfl, rfl, lgi (nI_1 n), trivial⟩
    by_cases ho : LOk T n
    · rw [lcI_y ho] at hz1
      have hcd : cdL T w k n < NC T := cdn_lt _ (lnv_V hxk ho)
      generalize hcc : cdL T w k n = cc at hcd
      rw [show cdn (tv T) (lnv T (tp T (w k)) n) (tn T) = cc from hcc] at hz1
      have k173 : Pk T w r k pv due n → Go G mX10_lent κ R σ σ 173 [(0, .ref (ga G 0)), (1, .int (nI i)), (2, .int (nI due)), (3, .int ahd), (4, .int (nI k)), (5, .int (fo o)), (6, .int (nI n)), (7, .int (nI cc))] [] := by
        intro hP
        cases o with
        | none =>
          have k1 := ih (n + 1) (some cc) (by omega) (by rw [← hcc]; exact FI_y hF hP (fun c z => by cases z))
          refine g_iconst (pc := 173) (v := nI 1) C dX10_lent_173 (by decide) ?_
          refine g_goto (pc := 174) C 178 dX10_lent_174 (by decide) ?_
          refine g_istore (pc := 178) C dX10_lent_178 (by decide) rfl ?_
          refine g_iload (pc := 180) C dX10_lent_180 rfl ?_
          refine g_if_eq (pc := 182) C 202 dX10_lent_182 (by decide) (fun c182 => ?_) (fun c182 => ?_)
          · exact absurd c182 (by decide)
          · refine g_iload (pc := 185) C dX10_lent_185 rfl ?_
            refine g_if_lt (pc := 187) C 197 dX10_lent_187 (by decide) (fun c187 => ?_) (fun c187 => ?_)
            · refine g_iload (pc := 197) C dX10_lent_197 rfl ?_
              refine g_goto (pc := 199) C 204 dX10_lent_199 (by decide) ?_
              refine g_istore (pc := 204) C dX10_lent_204 (by decide) rfl ?_
              refine g_iinc (pc := 206) C dX10_lent_206 rfl (by decide) rfl ?_
              refine g_goto (pc := 209) C 114 dX10_lent_209 (by decide) ?_
              exact g_to k1 ⟨rfl, rfl, rfl, rfl, rfl, rfl, lgi (nI_1 n), trivial⟩
            · exact absurd (by decide) c187
        | some c =>
          have hc2 : c < 1024 := by
            obtain ⟨⟨l, _, hp, hl⟩, _⟩ := hF
            have := cdn_lt (v := tv T) (tn T) (lnv_V hxk hp.1)
            have hl : cdn (tv T) (lnv T (tp T (w k)) l) (tn T) = c := hl
            have this : cdn (tv T) (lnv T (tp T (w k)) l) (tn T) < NC T := this
            omega
          by_cases hlt : cc < c
          · have k1 := ih (n + 1) (some cc) (by omega) (by rw [← hcc]; exact FI_y hF hP (fun c' z => by cases z; rw [hcc]; exact hlt))
            refine g_iconst (pc := 173) (v := nI 1) C dX10_lent_173 (by decide) ?_
            refine g_goto (pc := 174) C 178 dX10_lent_174 (by decide) ?_
            refine g_istore (pc := 178) C dX10_lent_178 (by decide) rfl ?_
            refine g_iload (pc := 180) C dX10_lent_180 rfl ?_
            refine g_if_eq (pc := 182) C 202 dX10_lent_182 (by decide) (fun c182 => ?_) (fun c182 => ?_)
            · exact absurd c182 (by decide)
            · refine g_iload (pc := 185) C dX10_lent_185 rfl ?_
              refine g_if_lt (pc := 187) C 197 dX10_lent_187 (by decide) (fun c187 => ?_) (fun c187 => ?_)
              · exact absurd c187 (nI_pos (by omega))
              · refine g_iload (pc := 190) C dX10_lent_190 rfl ?_
                refine g_iload (pc := 192) C dX10_lent_192 rfl ?_
                refine g_icmp_ge (pc := 194) C 202 dX10_lent_194 (by decide) (fun c194 => ?_) (fun c194 => ?_)
                · exact absurd c194 (nI_ge (by omega) (by omega))
                · refine g_iload (pc := 197) C dX10_lent_197 rfl ?_
                  refine g_goto (pc := 199) C 204 dX10_lent_199 (by decide) ?_
                  refine g_istore (pc := 204) C dX10_lent_204 (by decide) rfl ?_
                  refine g_iinc (pc := 206) C dX10_lent_206 rfl (by decide) rfl ?_
                  refine g_goto (pc := 209) C 114 dX10_lent_209 (by decide) ?_
                  exact g_to k1 ⟨rfl, rfl, rfl, rfl, rfl, rfl, lgi (nI_1 n), trivial⟩
          · have k1 := k202 (FI_k hF (by rw [hcc]; omega))
            refine g_iconst (pc := 173) (v := nI 1) C dX10_lent_173 (by decide) ?_
            refine g_goto (pc := 174) C 178 dX10_lent_174 (by decide) ?_
            refine g_istore (pc := 178) C dX10_lent_178 (by decide) rfl ?_
            refine g_iload (pc := 180) C dX10_lent_180 rfl ?_
            refine g_if_eq (pc := 182) C 202 dX10_lent_182 (by decide) (fun c182 => ?_) (fun c182 => ?_)
            · exact absurd c182 (by decide)
            · refine g_iload (pc := 185) C dX10_lent_185 rfl ?_
              refine g_if_lt (pc := 187) C 197 dX10_lent_187 (by decide) (fun c187 => ?_) (fun c187 => ?_)
              · exact absurd c187 (nI_pos (by omega))
              · refine g_iload (pc := 190) C dX10_lent_190 rfl ?_
                refine g_iload (pc := 192) C dX10_lent_192 rfl ?_
                refine g_icmp_ge (pc := 194) C 202 dX10_lent_194 (by decide) (fun c194 => ?_) (fun c194 => ?_)
                · exact g_to k1 ⟨rfl, rfl, rfl, rfl, rfl, rfl, rfl, trivial⟩
                · exact absurd (nI_le (by omega) (by omega)) c194
      have k177 : ¬ Pk T w r k pv due n → Go G mX10_lent κ R σ σ 177 [(0, .ref (ga G 0)), (1, .int (nI i)), (2, .int (nI due)), (3, .int ahd), (4, .int (nI k)), (5, .int (fo o)), (6, .int (nI n))] [] := by
        intro hP
        have k1 := k202 (FI_n hF hP)
        refine g_iconst (pc := 177) (v := nI 0) C dX10_lent_177 (by decide) ?_
        refine g_istore (pc := 178) C dX10_lent_178 (by decide) rfl ?_
        refine g_iload (pc := 180) C dX10_lent_180 rfl ?_
        refine g_if_eq (pc := 182) C 202 dX10_lent_182 (by decide) (fun c182 => ?_) (fun c182 => ?_)
        · exact g_to k1 ⟨rfl, rfl, rfl, rfl, rfl, rfl, rfl, trivial⟩
        · exact absurd rfl c182
      by_cases hcost : cRn T w (r - 1 - k) k n = due
      · by_cases hk0 : k = 0
        · have k1 := k173 ⟨ho, hcost, Or.inl hk0⟩
          refine g_iload (pc := 114) C dX10_lent_114 rfl ?_
          refine g_bipush (pc := 116) (v := nI 16) C dX10_lent_116 (by decide) ?_
          refine g_icmp_ge (pc := 118) C 212 dX10_lent_118 (by decide) (fun c118 => ?_) (fun c118 => ?_)
          · exact absurd c118 (nI_ge (by omega) (by decide))
          · refine g_aload_n (pc := 121) C dX10_lent_121 rfl ?_
            apply gf_X10_63 (pc := 122) C rfl dX10_lent_122
            · repeat (first | assumption | exact Cl.s (by assumption) | refine Cl.n (by first | decide | omega) ?_)
            · rfl
            refine g_bipush (pc := 125) (v := nI 16) C dX10_lent_125 (by decide) ?_
            refine g_iload (pc := 127) C dX10_lent_127 rfl ?_
            refine g_imul (pc := 129) C dX10_lent_129 ?_
            rw [pk_mul]
            refine g_iload (pc := 130) C dX10_lent_130 rfl ?_
            refine g_iadd (pc := 132) C dX10_lent_132 ?_
            rw [nI_add]
            apply g_iaload (pc := 133) C dX10_lent_133
            · repeat (first | assumption | exact Cl.s (by assumption) | refine Cl.n (by first | decide | omega) ?_)
            · exact vp_in_nI (by omega) (by decide)
            rw [nI_clamp (by omega), hz1]
            refine g_istore (pc := 134) C dX10_lent_134 (by decide) rfl ?_
            refine g_iload (pc := 136) C dX10_lent_136 rfl ?_
            refine g_if_lt (pc := 138) C 177 dX10_lent_138 (by decide) (fun c138 => ?_) (fun c138 => ?_)
            · exact absurd c138 (nI_pos (by omega))
            · refine g_aload_n (pc := 141) C dX10_lent_141 rfl ?_
              apply gf_X10_60 (pc := 142) C rfl dX10_lent_142
              · repeat (first | assumption | exact Cl.s (by assumption) | refine Cl.n (by first | decide | omega) ?_)
              · rfl
              refine g_bipush (pc := 145) (v := nI 16) C dX10_lent_145 (by decide) ?_
              refine g_iload (pc := 147) C dX10_lent_147 rfl ?_
              refine g_imul (pc := 149) C dX10_lent_149 ?_
              rw [pk_mul]
              refine g_iload (pc := 150) C dX10_lent_150 rfl ?_
              refine g_iadd (pc := 152) C dX10_lent_152 ?_
              rw [nI_add]
              apply g_iaload (pc := 153) C dX10_lent_153
              · repeat (first | assumption | exact Cl.s (by assumption) | refine Cl.n (by first | decide | omega) ?_)
              · exact vp_in_nI (by omega) (by decide)
              rw [nI_clamp (by omega), hz2]
              refine g_iload_n (pc := 154) C dX10_lent_154 rfl ?_
              refine g_icmp_nE (pc := 155) C 177 dX10_lent_155 (by decide) (fun c155 => ?_) (fun c155 => ?_)
              · exact absurd (by rw [hcost]) c155
              · refine g_iload (pc := 158) C dX10_lent_158 rfl ?_
                refine g_if_eq (pc := 160) C 173 dX10_lent_160 (by decide) (fun c160 => ?_) (fun c160 => ?_)
                · exact g_to k1 ⟨rfl, rfl, rfl, rfl, rfl, rfl, rfl, rfl, trivial⟩
                · exact absurd (by rw [hk0]; rfl) c160
        · have hp0 := hpv (by omega)
          have hpc : cdn (tv T) pv (tn T) < NC T := cdn_lt _ hp0
          have ea := hah (by omega)
          have eg : mfl T (gd T (cdn (tv T) pv (tn T))) (gd T cc) = mfl T pv (lnv T (tp T (w k)) n) := by
            rw [← hcc]
            exact mfl_gd hp0 (lnv_V hxk ho)
          by_cases hg : mfl T pv (lnv T (tp T (w k)) n) = true
          · have k1 := k173 ⟨ho, hcost, Or.inr hg⟩
            rw [ea] at k1 ⊢
            refine g_iload (pc := 114) C dX10_lent_114 rfl ?_
            refine g_bipush (pc := 116) (v := nI 16) C dX10_lent_116 (by decide) ?_
            refine g_icmp_ge (pc := 118) C 212 dX10_lent_118 (by decide) (fun c118 => ?_) (fun c118 => ?_)
            · exact absurd c118 (nI_ge (by omega) (by decide))
            · refine g_aload_n (pc := 121) C dX10_lent_121 rfl ?_
              apply gf_X10_63 (pc := 122) C rfl dX10_lent_122
              · repeat (first | assumption | exact Cl.s (by assumption) | refine Cl.n (by first | decide | omega) ?_)
              · rfl
              refine g_bipush (pc := 125) (v := nI 16) C dX10_lent_125 (by decide) ?_
              refine g_iload (pc := 127) C dX10_lent_127 rfl ?_
              refine g_imul (pc := 129) C dX10_lent_129 ?_
              rw [pk_mul]
              refine g_iload (pc := 130) C dX10_lent_130 rfl ?_
              refine g_iadd (pc := 132) C dX10_lent_132 ?_
              rw [nI_add]
              apply g_iaload (pc := 133) C dX10_lent_133
              · repeat (first | assumption | exact Cl.s (by assumption) | refine Cl.n (by first | decide | omega) ?_)
              · exact vp_in_nI (by omega) (by decide)
              rw [nI_clamp (by omega), hz1]
              refine g_istore (pc := 134) C dX10_lent_134 (by decide) rfl ?_
              refine g_iload (pc := 136) C dX10_lent_136 rfl ?_
              refine g_if_lt (pc := 138) C 177 dX10_lent_138 (by decide) (fun c138 => ?_) (fun c138 => ?_)
              · exact absurd c138 (nI_pos (by omega))
              · refine g_aload_n (pc := 141) C dX10_lent_141 rfl ?_
                apply gf_X10_60 (pc := 142) C rfl dX10_lent_142
                · repeat (first | assumption | exact Cl.s (by assumption) | refine Cl.n (by first | decide | omega) ?_)
                · rfl
                refine g_bipush (pc := 145) (v := nI 16) C dX10_lent_145 (by decide) ?_
                refine g_iload (pc := 147) C dX10_lent_147 rfl ?_
                refine g_imul (pc := 149) C dX10_lent_149 ?_
                rw [pk_mul]
                refine g_iload (pc := 150) C dX10_lent_150 rfl ?_
                refine g_iadd (pc := 152) C dX10_lent_152 ?_
                rw [nI_add]
                apply g_iaload (pc := 153) C dX10_lent_153
                · repeat (first | assumption | exact Cl.s (by assumption) | refine Cl.n (by first | decide | omega) ?_)
                · exact vp_in_nI (by omega) (by decide)
                rw [nI_clamp (by omega), hz2]
                refine g_iload_n (pc := 154) C dX10_lent_154 rfl ?_
                refine g_icmp_nE (pc := 155) C 177 dX10_lent_155 (by decide) (fun c155 => ?_) (fun c155 => ?_)
                · exact absurd (by rw [hcost]) c155
                · refine g_iload (pc := 158) C dX10_lent_158 rfl ?_
                  refine g_if_eq (pc := 160) C 173 dX10_lent_160 (by decide) (fun c160 => ?_) (fun c160 => ?_)
                  · exact absurd ((nI_eq (b := 0) (by omega) (by decide)).mp c160) hk0
                  · refine g_aload_n (pc := 163) C dX10_lent_163 rfl ?_
                    refine g_iload_n (pc := 164) C dX10_lent_164 rfl ?_
                    refine g_iload (pc := 165) C dX10_lent_165 rfl ?_
                    apply cl_X10_189 (pc := 167) C rfl (r_goesWith h0 hT (by omega) (by omega)) dX10_lent_167
                    · repeat (first | assumption | exact Cl.s (by assumption) | refine Cl.n (by first | decide | omega) ?_)
                    · rfl
                    · exact Nat.le_of_ble_eq_true rfl
                    refine g_if_eq (pc := 170) C 177 dX10_lent_170 (by decide) (fun c170 => ?_) (fun c170 => ?_)
                    · exact absurd (b2_0.mp c170) (by rw [eg, hg]; decide)
                    · exact g_to k1 ⟨rfl, rfl, rfl, rfl, rfl, rfl, rfl, rfl, trivial⟩
          · have k1 := k177 (fun z => by
              rcases z.2.2 with q | q
              · exact hk0 q
              · exact hg q)
            rw [ea] at k1 ⊢
            refine g_iload (pc := 114) C dX10_lent_114 rfl ?_
            refine g_bipush (pc := 116) (v := nI 16) C dX10_lent_116 (by decide) ?_
            refine g_icmp_ge (pc := 118) C 212 dX10_lent_118 (by decide) (fun c118 => ?_) (fun c118 => ?_)
            · exact absurd c118 (nI_ge (by omega) (by decide))
            · refine g_aload_n (pc := 121) C dX10_lent_121 rfl ?_
              apply gf_X10_63 (pc := 122) C rfl dX10_lent_122
              · repeat (first | assumption | exact Cl.s (by assumption) | refine Cl.n (by first | decide | omega) ?_)
              · rfl
              refine g_bipush (pc := 125) (v := nI 16) C dX10_lent_125 (by decide) ?_
              refine g_iload (pc := 127) C dX10_lent_127 rfl ?_
              refine g_imul (pc := 129) C dX10_lent_129 ?_
              rw [pk_mul]
              refine g_iload (pc := 130) C dX10_lent_130 rfl ?_
              refine g_iadd (pc := 132) C dX10_lent_132 ?_
              rw [nI_add]
              apply g_iaload (pc := 133) C dX10_lent_133
              · repeat (first | assumption | exact Cl.s (by assumption) | refine Cl.n (by first | decide | omega) ?_)
              · exact vp_in_nI (by omega) (by decide)
              rw [nI_clamp (by omega), hz1]
              refine g_istore (pc := 134) C dX10_lent_134 (by decide) rfl ?_
              refine g_iload (pc := 136) C dX10_lent_136 rfl ?_
              refine g_if_lt (pc := 138) C 177 dX10_lent_138 (by decide) (fun c138 => ?_) (fun c138 => ?_)
              · exact absurd c138 (nI_pos (by omega))
              · refine g_aload_n (pc := 141) C dX10_lent_141 rfl ?_
                apply gf_X10_60 (pc := 142) C rfl dX10_lent_142
                · repeat (first | assumption | exact Cl.s (by assumption) | refine Cl.n (by first | decide | omega) ?_)
                · rfl
                refine g_bipush (pc := 145) (v := nI 16) C dX10_lent_145 (by decide) ?_
                refine g_iload (pc := 147) C dX10_lent_147 rfl ?_
                refine g_imul (pc := 149) C dX10_lent_149 ?_
                rw [pk_mul]
                refine g_iload (pc := 150) C dX10_lent_150 rfl ?_
                refine g_iadd (pc := 152) C dX10_lent_152 ?_
                rw [nI_add]
                apply g_iaload (pc := 153) C dX10_lent_153
                · repeat (first | assumption | exact Cl.s (by assumption) | refine Cl.n (by first | decide | omega) ?_)
                · exact vp_in_nI (by omega) (by decide)
                rw [nI_clamp (by omega), hz2]
                refine g_iload_n (pc := 154) C dX10_lent_154 rfl ?_
                refine g_icmp_nE (pc := 155) C 177 dX10_lent_155 (by decide) (fun c155 => ?_) (fun c155 => ?_)
                · exact absurd (by rw [hcost]) c155
                · refine g_iload (pc := 158) C dX10_lent_158 rfl ?_
                  refine g_if_eq (pc := 160) C 173 dX10_lent_160 (by decide) (fun c160 => ?_) (fun c160 => ?_)
                  · exact absurd ((nI_eq (b := 0) (by omega) (by decide)).mp c160) hk0
                  · refine g_aload_n (pc := 163) C dX10_lent_163 rfl ?_
                    refine g_iload_n (pc := 164) C dX10_lent_164 rfl ?_
                    refine g_iload (pc := 165) C dX10_lent_165 rfl ?_
                    apply cl_X10_189 (pc := 167) C rfl (r_goesWith h0 hT (by omega) (by omega)) dX10_lent_167
                    · repeat (first | assumption | exact Cl.s (by assumption) | refine Cl.n (by first | decide | omega) ?_)
                    · rfl
                    · exact Nat.le_of_ble_eq_true rfl
                    refine g_if_eq (pc := 170) C 177 dX10_lent_170 (by decide) (fun c170 => ?_) (fun c170 => ?_)
                    · exact g_to k1 ⟨rfl, rfl, rfl, rfl, rfl, rfl, rfl, trivial⟩
                    · exact absurd (b2_0.mpr (by rw [eg]; simpa using hg)) c170
      · have k1 := k177 (fun z => hcost z.2.1)
        refine g_iload (pc := 114) C dX10_lent_114 rfl ?_
        refine g_bipush (pc := 116) (v := nI 16) C dX10_lent_116 (by decide) ?_
        refine g_icmp_ge (pc := 118) C 212 dX10_lent_118 (by decide) (fun c118 => ?_) (fun c118 => ?_)
        · exact absurd c118 (nI_ge (by omega) (by decide))
        · refine g_aload_n (pc := 121) C dX10_lent_121 rfl ?_
          apply gf_X10_63 (pc := 122) C rfl dX10_lent_122
          · repeat (first | assumption | exact Cl.s (by assumption) | refine Cl.n (by first | decide | omega) ?_)
          · rfl
          refine g_bipush (pc := 125) (v := nI 16) C dX10_lent_125 (by decide) ?_
          refine g_iload (pc := 127) C dX10_lent_127 rfl ?_
          refine g_imul (pc := 129) C dX10_lent_129 ?_
          rw [pk_mul]
          refine g_iload (pc := 130) C dX10_lent_130 rfl ?_
          refine g_iadd (pc := 132) C dX10_lent_132 ?_
          rw [nI_add]
          apply g_iaload (pc := 133) C dX10_lent_133
          · repeat (first | assumption | exact Cl.s (by assumption) | refine Cl.n (by first | decide | omega) ?_)
          · exact vp_in_nI (by omega) (by decide)
          rw [nI_clamp (by omega), hz1]
          refine g_istore (pc := 134) C dX10_lent_134 (by decide) rfl ?_
          refine g_iload (pc := 136) C dX10_lent_136 rfl ?_
          refine g_if_lt (pc := 138) C 177 dX10_lent_138 (by decide) (fun c138 => ?_) (fun c138 => ?_)
          · exact absurd c138 (nI_pos (by omega))
          · refine g_aload_n (pc := 141) C dX10_lent_141 rfl ?_
            apply gf_X10_60 (pc := 142) C rfl dX10_lent_142
            · repeat (first | assumption | exact Cl.s (by assumption) | refine Cl.n (by first | decide | omega) ?_)
            · rfl
            refine g_bipush (pc := 145) (v := nI 16) C dX10_lent_145 (by decide) ?_
            refine g_iload (pc := 147) C dX10_lent_147 rfl ?_
            refine g_imul (pc := 149) C dX10_lent_149 ?_
            rw [pk_mul]
            refine g_iload (pc := 150) C dX10_lent_150 rfl ?_
            refine g_iadd (pc := 152) C dX10_lent_152 ?_
            rw [nI_add]
            apply g_iaload (pc := 153) C dX10_lent_153
            · repeat (first | assumption | exact Cl.s (by assumption) | refine Cl.n (by first | decide | omega) ?_)
            · exact vp_in_nI (by omega) (by decide)
            rw [nI_clamp (by omega), hz2]
            refine g_iload_n (pc := 154) C dX10_lent_154 rfl ?_
            refine g_icmp_nE (pc := 155) C 177 dX10_lent_155 (by decide) (fun c155 => ?_) (fun c155 => ?_)
            · exact g_to k1 ⟨rfl, rfl, rfl, rfl, rfl, rfl, rfl, trivial⟩
            · exact absurd ((nI_eq (by omega) (by omega)).mp c155) hcost
    · rw [lcI_n ho] at hz1
      have k1 := k202 (FI_n hF (fun z => ho z.1))
      refine g_iload (pc := 114) C dX10_lent_114 rfl ?_
      refine g_bipush (pc := 116) (v := nI 16) C dX10_lent_116 (by decide) ?_
      refine g_icmp_ge (pc := 118) C 212 dX10_lent_118 (by decide) (fun c118 => ?_) (fun c118 => ?_)
      · exact absurd c118 (nI_ge (by omega) (by decide))
      · refine g_aload_n (pc := 121) C dX10_lent_121 rfl ?_
        apply gf_X10_63 (pc := 122) C rfl dX10_lent_122
        · repeat (first | assumption | exact Cl.s (by assumption) | refine Cl.n (by first | decide | omega) ?_)
        · rfl
        refine g_bipush (pc := 125) (v := nI 16) C dX10_lent_125 (by decide) ?_
        refine g_iload (pc := 127) C dX10_lent_127 rfl ?_
        refine g_imul (pc := 129) C dX10_lent_129 ?_
        rw [pk_mul]
        refine g_iload (pc := 130) C dX10_lent_130 rfl ?_
        refine g_iadd (pc := 132) C dX10_lent_132 ?_
        rw [nI_add]
        apply g_iaload (pc := 133) C dX10_lent_133
        · repeat (first | assumption | exact Cl.s (by assumption) | refine Cl.n (by first | decide | omega) ?_)
        · exact vp_in_nI (by omega) (by decide)
        rw [nI_clamp (by omega), hz1]
        refine g_istore (pc := 134) C dX10_lent_134 (by decide) rfl ?_
        refine g_iload (pc := 136) C dX10_lent_136 rfl ?_
        refine g_if_lt (pc := 138) C 177 dX10_lent_138 (by decide) (fun c138 => ?_) (fun c138 => ?_)
        · refine g_iconst (pc := 177) (v := nI 0) C dX10_lent_177 (by decide) ?_
          refine g_istore (pc := 178) C dX10_lent_178 (by decide) rfl ?_
          refine g_iload (pc := 180) C dX10_lent_180 rfl ?_
          refine g_if_eq (pc := 182) C 202 dX10_lent_182 (by decide) (fun c182 => ?_) (fun c182 => ?_)
          · exact g_to k1 ⟨rfl, rfl, rfl, rfl, rfl, rfl, rfl, trivial⟩
          · exact absurd rfl c182
        · exact absurd (by decide) c138
theorem le_102 (h0 : Cl G σ 0 (cRef G len at_ kept done (nI r))) (hT : QT G σ T) (hR : QR G σ r w) (hr16 : r ≤ 16) (hw : ∀ k, k < r → w k < tm T) {fc fz : Nat → Int32} (h17 : Cl G σ 17 (iA G 272 fc)) (h18 : Cl G σ 18 (iA G 272 fz)) (hL : LnR T w r 0 fc fz) {i : Nat} (hi : i < r) {κ : KK} (C : Cx G mX10_lent κ) : ∀ c k due pv ahd, k + c = i + 1 → (0 < c → LI T w r k pv due) → (0 < k → Vd T pv ∧ ahd = nI (cdn (tv T) pv (tn T))) → Go G mX10_lent κ (some (.int (gA T w r c k pv (nI due)))) σ σ 102 [(0, .ref (ga G 0)), (1, .int (nI i)), (2, .int (nI due)), (3, .int ahd), (4, .int (nI k))] [] := by
  have hW := hT.w.1
  have hN : NC T ≤ 1024 := cds_1024 hW
  obtain ⟨f10, y10, hf10⟩ := id hR
  intro c
  induction c with
  | zero =>
    intro k due pv ahd hk _ hp
    obtain ⟨p1, p2⟩ := hp (by omega)
    rw [p2]
    refine g_iload (pc := 102) C dX10_lent_102 rfl ?_
    refine g_iload_n (pc := 104) C dX10_lent_104 rfl ?_
    refine g_icmp_gt (pc := 105) C 237 dX10_lent_105 (by decide) (fun c105 => ?_) (fun c105 => ?_)
    · refine g_iload_n (pc := 237) C dX10_lent_237 rfl ?_
      exact g_ireturn (pc := 238) C dX10_lent_238 rfl (rfl) (rfl)
    · exact absurd (nI_lt (by omega) (by omega)) c105
  | succ c ih =>
    intro k due pv ahd hk hI hp
    have hI := hI (by omega)
    have hkr : k < r := by omega
    have hwk := hw k hkr
    have hxk : Vd T (tp T (w k)) := hW.2.2.2.2.2.1 _ hwk
    have hm := hW.2.2.2.2.1
    obtain ⟨q, hq⟩ := LI_f hI
    have es : gA T w r (c + 1) k pv (nI due) = gA T w r c (k + 1) (wv T (tp T (w k)) q) (nI due - nI (dfn T (tp T (w k)) (wv T (tp T (w k)) q))) := by
      show (match fhS T w r k pv (nI due) (hcn T (tn T)) 0 with | none => -4 | some h => gA T w r c (k + 1) (wv T (tp T (w k)) h) (nI due - nI (dfn T (tp T (w k)) (wv T (tp T (w k)) h)))) = _
      rw [hq]
    rw [es]
    have k1 := le_114 h0 hT hr16 hw h17 h18 hL (i := i) (pv := pv) hkr hI.1 (fun z => (hp z).1) (ahd := ahd) (fun z => (hp z).2) (R := some (.int (gA T w r c (k + 1) (wv T (tp T (w k)) q) (nI due - nI (dfn T (tp T (w k)) (wv T (tp T (w k)) q)))))) C (fun o ho => by
      obtain ⟨o1, o2, o3⟩ := pick hW hI.1 ho hq
      obtain ⟨d1, d2⟩ := LI_s hI.1 o3
      subst o1
      have hVw := wv_V hW hxk q
      have hcc : cdn (tv T) (wv T (tp T (w k)) q) (tn T) < NC T := cdn_lt _ hVw
      have edf : dfn T (tp T (w k)) (gd T (cdn (tv T) (wv T (tp T (w k)) q) (tn T))) = dfn T (tp T (w k)) (wv T (tp T (w k)) q) := dfn_cg (fun t ht => dgv_cdn hVw ht)
      rw [pk_sub d1]
      have k2 := ih (k + 1) (due - dfn T (tp T (w k)) (wv T (tp T (w k)) q)) (wv T (tp T (w k)) q) (nI (cdn (tv T) (wv T (tp T (w k)) q) (tn T))) (by omega) (fun z => d2 (by omega)) (fun _ => ⟨hVw, rfl⟩)
      rw [show fo (some (cdn (tv T) (wv T (tp T (w k)) q) (tn T))) = nI (cdn (tv T) (wv T (tp T (w k)) q) (tn T)) from rfl]
      generalize cdn (tv T) (wv T (tp T (w k)) q) (tn T) = cc at hcc edf k2 ⊢
      refine g_iload (pc := 212) C dX10_lent_212 rfl ?_
      refine g_istore_n (pc := 214) C dX10_lent_214 (by decide) rfl ?_
      refine g_iload_n (pc := 215) C dX10_lent_215 rfl ?_
      refine g_aload_n (pc := 216) C dX10_lent_216 rfl ?_
      refine g_aload_n (pc := 217) C dX10_lent_217 rfl ?_
      apply gf_X10_38 (pc := 218) C rfl dX10_lent_218
      · repeat (first | assumption | exact Cl.s (by assumption) | refine Cl.n (by first | decide | omega) ?_)
      · rfl
      refine g_iload (pc := 221) C dX10_lent_221 rfl ?_
      apply g_iaload (pc := 223) C dX10_lent_223
      · repeat (first | assumption | exact Cl.s (by assumption) | refine Cl.n (by first | decide | omega) ?_)
      · exact vp_in_nI (by omega) (by decide)
      rw [nI_clamp (by omega), hf10 k hkr]
      refine g_iload (pc := 224) C dX10_lent_224 rfl ?_
      apply cl_X10_193 (pc := 226) C rfl (r_others h0 hT hwk (by omega)) dX10_lent_226
      · repeat (first | assumption | exact Cl.s (by assumption) | refine Cl.n (by first | decide | omega) ?_)
      · rfl
      · exact Nat.le_of_ble_eq_true rfl
      rw [edf]
      refine g_isub (pc := 229) C dX10_lent_229 ?_
      rw [pk_sub d1]
      refine g_istore_n (pc := 230) C dX10_lent_230 (by decide) rfl ?_
      refine g_iinc (pc := 231) C dX10_lent_231 rfl (by decide) rfl ?_
      refine g_goto (pc := 234) C 102 dX10_lent_234 (by decide) ?_
      exact g_to k2 ⟨rfl, rfl, rfl, rfl, lgi (nI_1 k), trivial⟩
      ) 16 0 none (by omega) (fun l hl => absurd hl (Nat.not_lt_zero _))
    refine g_iload (pc := 102) C dX10_lent_102 rfl ?_
    refine g_iload_n (pc := 104) C dX10_lent_104 rfl ?_
    refine g_icmp_gt (pc := 105) C 237 dX10_lent_105 (by decide) (fun c105 => ?_) (fun c105 => ?_)
    · exact absurd c105 (nI_nlt (by omega) (by omega))
    · refine g_iconst (pc := 108) (v := -1) C dX10_lent_108 (by decide) ?_
      refine g_istore (pc := 109) C dX10_lent_109 (by decide) rfl ?_
      refine g_iconst (pc := 111) (v := nI 0) C dX10_lent_111 (by decide) ?_
      refine g_istore (pc := 112) C dX10_lent_112 (by decide) rfl ?_
      exact g_to k1 ⟨rfl, rfl, rfl, rfl, rfl, rfl, rfl, trivial⟩
theorem le_39 (h0 : Cl G σ 0 (cRef G len at_ kept done (nI r))) {fc : Nat → Int32} (h17 : Cl G σ 17 (iA G 272 fc)) (hr : 0 < r) (hL : ∀ l, l < 16 → fc l = nI (cRn T w (r - 1) 0 l)) {i : Int32} {R : Option Value} {κ : KK} (C : Cx G mX10_lent κ) (K : Go G mX10_lent κ R σ σ 72 [(0, .ref (ga G 0)), (1, .int i), (2, .int (nI (mnH (cRn T w (r - 1) 0) 16)))] []) : ∀ f n, n + f = 16 → Go G mX10_lent κ R σ σ 39 [(0, .ref (ga G 0)), (1, .int i), (2, .int (nI (mnH (cRn T w (r - 1) 0) n))), (3, .int (nI n))] [] := by
  intro f
  induction f with
  | zero =>
    intro n hn
    rw [show n = 16 by omega]
    refine g_iload_n (pc := 39) C dX10_lent_39 rfl ?_
    refine g_bipush (pc := 40) (v := nI 16) C dX10_lent_40 (by decide) ?_
    refine g_icmp_ge (pc := 42) C 72 dX10_lent_42 (by decide) (fun c42 => ?_) (fun c42 => ?_)
    · exact g_to K ⟨rfl, rfl, rfl, trivial⟩
    · exact absurd (by decide) c42
  | succ f ih =>
    intro n hn
    have k1 := ih (n + 1) (by omega)
    rw [mnH_s] at k1
    have hm := mnH_le (cRn T w (r - 1) 0) n
    have hc := cR_le T w (r - 1) 0 n
    have hz := hL n (by omega)
    by_cases h : cRn T w (r - 1) 0 n < mnH (cRn T w (r - 1) 0) n
    · rw [if_pos h] at k1
      refine g_iload_n (pc := 39) C dX10_lent_39 rfl ?_
      refine g_bipush (pc := 40) (v := nI 16) C dX10_lent_40 (by decide) ?_
      refine g_icmp_ge (pc := 42) C 72 dX10_lent_42 (by decide) (fun c42 => ?_) (fun c42 => ?_)
      · exact absurd c42 (nI_ge (by omega) (by decide))
      · refine g_aload_n (pc := 45) C dX10_lent_45 rfl ?_
        apply gf_X10_60 (pc := 46) C rfl dX10_lent_46
        · repeat (first | assumption | exact Cl.s (by assumption) | refine Cl.n (by first | decide | omega) ?_)
        · rfl
        refine g_iload_n (pc := 49) C dX10_lent_49 rfl ?_
        apply g_iaload (pc := 50) C dX10_lent_50
        · repeat (first | assumption | exact Cl.s (by assumption) | refine Cl.n (by first | decide | omega) ?_)
        · exact vp_in_nI (by omega) (by decide)
        rw [nI_clamp (by omega), hz]
        refine g_iload_n (pc := 51) C dX10_lent_51 rfl ?_
        refine g_icmp_ge (pc := 52) C 64 dX10_lent_52 (by decide) (fun c52 => ?_) (fun c52 => ?_)
        · exact absurd c52 (nI_ge (by omega) (by omega))
        · refine g_aload_n (pc := 55) C dX10_lent_55 rfl ?_
          apply gf_X10_60 (pc := 56) C rfl dX10_lent_56
          · repeat (first | assumption | exact Cl.s (by assumption) | refine Cl.n (by first | decide | omega) ?_)
          · rfl
          refine g_iload_n (pc := 59) C dX10_lent_59 rfl ?_
          apply g_iaload (pc := 60) C dX10_lent_60
          · repeat (first | assumption | exact Cl.s (by assumption) | refine Cl.n (by first | decide | omega) ?_)
          · exact vp_in_nI (by omega) (by decide)
          rw [nI_clamp (by omega), hz]
          refine g_goto (pc := 61) C 65 dX10_lent_61 (by decide) ?_
          refine g_istore_n (pc := 65) C dX10_lent_65 (by decide) rfl ?_
          refine g_iinc (pc := 66) C dX10_lent_66 rfl (by decide) rfl ?_
          refine g_goto (pc := 69) C 39 dX10_lent_69 (by decide) ?_
          exact g_to k1 ⟨rfl, rfl, rfl, lgi (nI_1 n), trivial⟩
    · rw [if_neg h] at k1
      refine g_iload_n (pc := 39) C dX10_lent_39 rfl ?_
      refine g_bipush (pc := 40) (v := nI 16) C dX10_lent_40 (by decide) ?_
      refine g_icmp_ge (pc := 42) C 72 dX10_lent_42 (by decide) (fun c42 => ?_) (fun c42 => ?_)
      · exact absurd c42 (nI_ge (by omega) (by decide))
      · refine g_aload_n (pc := 45) C dX10_lent_45 rfl ?_
        apply gf_X10_60 (pc := 46) C rfl dX10_lent_46
        · repeat (first | assumption | exact Cl.s (by assumption) | refine Cl.n (by first | decide | omega) ?_)
        · rfl
        refine g_iload_n (pc := 49) C dX10_lent_49 rfl ?_
        apply g_iaload (pc := 50) C dX10_lent_50
        · repeat (first | assumption | exact Cl.s (by assumption) | refine Cl.n (by first | decide | omega) ?_)
        · exact vp_in_nI (by omega) (by decide)
        rw [nI_clamp (by omega), hz]
        refine g_iload_n (pc := 51) C dX10_lent_51 rfl ?_
        refine g_icmp_ge (pc := 52) C 64 dX10_lent_52 (by decide) (fun c52 => ?_) (fun c52 => ?_)
        · refine g_iload_n (pc := 64) C dX10_lent_64 rfl ?_
          refine g_istore_n (pc := 65) C dX10_lent_65 (by decide) rfl ?_
          refine g_iinc (pc := 66) C dX10_lent_66 rfl (by decide) rfl ?_
          refine g_goto (pc := 69) C 39 dX10_lent_69 (by decide) ?_
          exact g_to k1 ⟨rfl, rfl, rfl, lgi (nI_1 n), trivial⟩
        · exact absurd (nI_le (by omega) (by omega)) c52
theorem few_le (T : TS) (w : Nat → Nat) (r : Nat) : few T w r ≤ 1000 := by
  unfold few
  split
  · decide
  · exact mnH_le _ _
theorem q_lent (h0 : Cl G σ 0 (cRef G len at_ kept done (nI r))) (hT : QT G σ T) (hR : QR G σ r w) (hN : QN G σ) (hr16 : r ≤ 16) (hw : ∀ k, k < r → w k < tm T) (i : Int32) : ∃ σ', Mt G mX10_lent [.ref (ga G 0), .int i] σ (some (.int (lentF T w r i))) σ' ∧ QN G σ' ∧ Fr σ σ' [17, 18] := by
  have eB := inB_l i hr16
  have hW := hT.w.1
  by_cases hb : -1 ≤ i ∧ i < nI r
  · rw [decide_eq_true hb] at eB
    by_cases hr0 : r = 0
    · subst hr0
      have hi : i = -1 := by
        refine Int32.le_antisymm ?_ hb.1
        have := hb.2
        rw [Int32.le_iff_toInt_le]
        rw [Int32.lt_iff_toInt_lt] at this
        have e0 : (nI 0).toInt = 0 := rfl
        have e1 : (-1 : Int32).toInt = -1 := by decide
        omega
      rw [show lentF T w 0 i = nI 0 by unfold lentF; rw [if_pos hb, if_pos hi]; unfold fewF few; simp]
      refine ⟨σ, ?_, hN, fr0⟩
      refine Mt.of (by decide +kernel) (Nat.le_of_ble_eq_true rfl) (fun κ C => ?_)
      refine g_iload_n (pc := 0) C dX10_lent_0 rfl ?_
      refine g_i2l (pc := 1) C dX10_lent_1 ?_
      refine g_ldc2 (pc := 2) C dX10_lent_2 k_X10_168 ?_
      refine g_aload_n (pc := 5) C dX10_lent_5 rfl ?_
      apply gf_X10_111 (pc := 6) C rfl dX10_lent_6
      · repeat (first | assumption | exact Cl.s (by assumption) | refine Cl.n (by first | decide | omega) ?_)
      · rfl
      refine g_iconst (pc := 9) (v := nI 1) C dX10_lent_9 (by decide) ?_
      refine g_isub (pc := 10) C dX10_lent_10 ?_
      refine g_i2l (pc := 11) C dX10_lent_11 ?_
      refine cl_X10_74 (pc := 12) C rfl (r_in _ _ _) dX10_lent_12 rfl (Nat.le_of_ble_eq_true rfl) ?_
      refine g_if_nE (pc := 15) C 20 dX10_lent_15 (by decide) (fun c15 => ?_) (fun c15 => ?_)
      · refine g_aload_n (pc := 20) C dX10_lent_20 rfl ?_
        apply gf_X10_111 (pc := 21) C rfl dX10_lent_21
        · repeat (first | assumption | exact Cl.s (by assumption) | refine Cl.n (by first | decide | omega) ?_)
        · rfl
        refine g_if_nE (pc := 24) C 29 dX10_lent_24 (by decide) (fun c24 => ?_) (fun c24 => ?_)
        · exact absurd rfl c24
        · refine g_iconst (pc := 27) (v := nI 0) C dX10_lent_27 (by decide) ?_
          exact g_ireturn (pc := 28) C dX10_lent_28 rfl (rfl) (rfl)
      · exact absurd c15 (by rw [eB]; decide)
    · obtain ⟨σ1, m1, fc, fz, hS, hLn⟩ := r_loans h0 hT hR hN hr16 hw
      obtain ⟨y17, y18, yF⟩ := id hS
      have y0 := h0.fr yF (by decide)
      have hT1 := hT.fr yF (by decide) (by decide) (by decide) (by decide) (by decide) (by decide)
      have hR1 := hR.fr yF (by decide)
      have hf := few_le T w r
      refine ⟨σ1, ?_, ⟨fc, fz, y17, y18⟩, yF⟩
      refine Mt.of (by decide +kernel) (Nat.le_of_ble_eq_true rfl) (fun κ C => ?_)
      have k72 : Go G mX10_lent κ (some (.int (lentF T w r i))) σ1 σ1 72 [(0, .ref (ga G 0)), (1, .int i), (2, .int (nI (mnH (cRn T w (r - 1) 0) 16)))] [] := by
        rw [few_R hW hr0]
        have eL : lentF T w r i = if i = -1 then fewF T w r else gA T w r (i.toNatClampNeg + 1) 0 (fun _ => 0) (fewF T w r) := by
          unfold lentF
          rw [if_pos hb]
        by_cases hbig : few T w r < 1000
        · have eF : fewF T w r = nI (few T w r) := if_pos hbig
          rw [eF] at eL
          by_cases hi : i = -1
          · rw [if_pos hi] at eL
            rw [eL, hi]
            refine g_iload_n (pc := 72) C dX10_lent_72 rfl ?_
            refine g_sipush (pc := 73) (v := nI 1000) C dX10_lent_73 (by decide) ?_
            refine g_icmp_ge (pc := 76) C 83 dX10_lent_76 (by decide) (fun c76 => ?_) (fun c76 => ?_)
            · exact absurd c76 (nI_ge (by omega) (by decide))
            · refine g_iload_n (pc := 79) C dX10_lent_79 rfl ?_
              refine g_if_ge (pc := 80) C 97 dX10_lent_80 (by decide) (fun c80 => ?_) (fun c80 => ?_)
              · exact absurd c80 (by decide)
              · refine g_iload_n (pc := 83) C dX10_lent_83 rfl ?_
                refine g_sipush (pc := 84) (v := nI 1000) C dX10_lent_84 (by decide) ?_
                refine g_icmp_lt (pc := 87) C 95 dX10_lent_87 (by decide) (fun c87 => ?_) (fun c87 => ?_)
                · refine g_iload_n (pc := 95) C dX10_lent_95 rfl ?_
                  exact g_ireturn (pc := 96) C dX10_lent_96 rfl (rfl) (rfl)
                · exact absurd (nI_lt (by omega) (by decide)) c87
          · rw [if_neg hi] at eL
            obtain ⟨k, hk, rfl⟩ : ∃ k, k < r ∧ i = nI k := by
              rcases pk_ix i (n := r) (by omega) with q | q | q
              · exact absurd (Int32.le_antisymm (by
                  rw [Int32.le_iff_toInt_le]
                  have := Int32.lt_iff_toInt_lt.mp q
                  have e0 : (0 : Int32).toInt = 0 := rfl
                  have e1 : (-1 : Int32).toInt = -1 := by decide
                  omega) hb.1) hi
              · exact absurd hb.2 (Int32.not_lt.mpr q)
              · exact q
            rw [nI_clamp (by omega)] at eL
            rw [eL]
            have k1 := le_102 y0 hT1 hR1 hr16 hw y17 y18 hLn (i := k) hk C (k + 1) 0 (few T w r) (fun _ => 0) (-1) (by omega) (fun _ => few_LI hr0 hbig) (fun z => absurd z (Nat.lt_irrefl 0))
            refine g_iload_n (pc := 72) C dX10_lent_72 rfl ?_
            refine g_sipush (pc := 73) (v := nI 1000) C dX10_lent_73 (by decide) ?_
            refine g_icmp_ge (pc := 76) C 83 dX10_lent_76 (by decide) (fun c76 => ?_) (fun c76 => ?_)
            · exact absurd c76 (nI_ge (by omega) (by decide))
            · refine g_iload_n (pc := 79) C dX10_lent_79 rfl ?_
              refine g_if_ge (pc := 80) C 97 dX10_lent_80 (by decide) (fun c80 => ?_) (fun c80 => ?_)
              · refine g_iconst (pc := 97) (v := -1) C dX10_lent_97 (by decide) ?_
                refine g_istore_n (pc := 98) C dX10_lent_98 (by decide) rfl ?_
                refine g_iconst (pc := 99) (v := nI 0) C dX10_lent_99 (by decide) ?_
                refine g_istore (pc := 100) C dX10_lent_100 (by decide) rfl ?_
                exact g_to k1 ⟨rfl, rfl, rfl, rfl, rfl, trivial⟩
              · exact absurd (nI_pos' (by omega)) c80
        · have eF : fewF T w r = -4 := if_neg hbig
          rw [eF] at eL
          have eL : lentF T w r i = -4 := by
            rw [eL]
            split
            · rfl
            · exact gA_no
          rw [eL]
          refine g_iload_n (pc := 72) C dX10_lent_72 rfl ?_
          refine g_sipush (pc := 73) (v := nI 1000) C dX10_lent_73 (by decide) ?_
          refine g_icmp_ge (pc := 76) C 83 dX10_lent_76 (by decide) (fun c76 => ?_) (fun c76 => ?_)
          · refine g_iload_n (pc := 83) C dX10_lent_83 rfl ?_
            refine g_sipush (pc := 84) (v := nI 1000) C dX10_lent_84 (by decide) ?_
            refine g_icmp_lt (pc := 87) C 95 dX10_lent_87 (by decide) (fun c87 => ?_) (fun c87 => ?_)
            · exact absurd c87 (nI_nlt (by omega) (by omega))
            · refine g_bipush (pc := 90) (v := -4) C dX10_lent_90 (by decide) ?_
              refine g_goto (pc := 92) C 96 dX10_lent_92 (by decide) ?_
              exact g_ireturn (pc := 96) C dX10_lent_96 rfl (rfl) (rfl)
          · exact absurd (nI_le (by omega) (by omega)) c76
      have k39 := le_39 y0 y17 (by omega) (fun l hl => by
        have := (hLn 0 (Nat.le_refl _) (by omega) l hl).2
        rw [show 16 * 0 + l = l by omega] at this
        exact this) C k72 16 0 (by omega)
      refine g_iload_n (pc := 0) C dX10_lent_0 rfl ?_
      refine g_i2l (pc := 1) C dX10_lent_1 ?_
      refine g_ldc2 (pc := 2) C dX10_lent_2 k_X10_168 ?_
      refine g_aload_n (pc := 5) C dX10_lent_5 rfl ?_
      apply gf_X10_111 (pc := 6) C rfl dX10_lent_6
      · repeat (first | assumption | exact Cl.s (by assumption) | refine Cl.n (by first | decide | omega) ?_)
      · rfl
      refine g_iconst (pc := 9) (v := nI 1) C dX10_lent_9 (by decide) ?_
      refine g_isub (pc := 10) C dX10_lent_10 ?_
      refine g_i2l (pc := 11) C dX10_lent_11 ?_
      refine cl_X10_74 (pc := 12) C rfl (r_in _ _ _) dX10_lent_12 rfl (Nat.le_of_ble_eq_true rfl) ?_
      refine g_if_nE (pc := 15) C 20 dX10_lent_15 (by decide) (fun c15 => ?_) (fun c15 => ?_)
      · refine g_aload_n (pc := 20) C dX10_lent_20 rfl ?_
        apply gf_X10_111 (pc := 21) C rfl dX10_lent_21
        · repeat (first | assumption | exact Cl.s (by assumption) | refine Cl.n (by first | decide | omega) ?_)
        · rfl
        refine g_if_nE (pc := 24) C 29 dX10_lent_24 (by decide) (fun c24 => ?_) (fun c24 => ?_)
        · refine g_aload_n (pc := 29) C dX10_lent_29 rfl ?_
          apply cl_X10_196 (pc := 30) C rfl m1 dX10_lent_30
          · repeat (first | assumption | exact Cl.s (by assumption) | refine Cl.n (by first | decide | omega) ?_)
          · rfl
          · exact Nat.le_of_ble_eq_true rfl
          refine g_sipush (pc := 33) (v := nI 1000) C dX10_lent_33 (by decide) ?_
          refine g_istore_n (pc := 36) C dX10_lent_36 (by decide) rfl ?_
          refine g_iconst (pc := 37) (v := nI 0) C dX10_lent_37 (by decide) ?_
          refine g_istore_n (pc := 38) C dX10_lent_38 (by decide) rfl ?_
          exact g_to k39 ⟨rfl, rfl, rfl, rfl, trivial⟩
        · exact absurd ((nI_eq (b := 0) (by omega) (by decide)).mp c24) hr0
      · exact absurd c15 (by rw [eB]; decide)
  · rw [decide_eq_false hb] at eB
    rw [show lentF T w r i = -1 by unfold lentF; rw [if_neg hb]]
    refine ⟨σ, ?_, hN, fr0⟩
    refine Mt.of (by decide +kernel) (Nat.le_of_ble_eq_true rfl) (fun κ C => ?_)
    refine g_iload_n (pc := 0) C dX10_lent_0 rfl ?_
    refine g_i2l (pc := 1) C dX10_lent_1 ?_
    refine g_ldc2 (pc := 2) C dX10_lent_2 k_X10_168 ?_
    refine g_aload_n (pc := 5) C dX10_lent_5 rfl ?_
    apply gf_X10_111 (pc := 6) C rfl dX10_lent_6
    · repeat (first | assumption | exact Cl.s (by assumption) | refine Cl.n (by first | decide | omega) ?_)
    · rfl
    refine g_iconst (pc := 9) (v := nI 1) C dX10_lent_9 (by decide) ?_
    refine g_isub (pc := 10) C dX10_lent_10 ?_
    refine g_i2l (pc := 11) C dX10_lent_11 ?_
    refine cl_X10_74 (pc := 12) C rfl (r_in _ _ _) dX10_lent_12 rfl (Nat.le_of_ble_eq_true rfl) ?_
    refine g_if_nE (pc := 15) C 20 dX10_lent_15 (by decide) (fun c15 => ?_) (fun c15 => ?_)
    · exact absurd (by rw [eB]; rfl) c15
    · refine g_iconst (pc := 18) (v := -1) C dX10_lent_18 (by decide) ?_
      exact g_ireturn (pc := 19) C dX10_lent_19 rfl (rfl) (rfl)
end RN6

