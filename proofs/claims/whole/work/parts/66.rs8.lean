theorem lfS_cg {T : TS} {x E E' : Nat → Nat} {n : Nat} (h : ∀ c, DD T (gd T c) E = DD T (gd T c) E') : ∀ d c, lfS T x E n d c = lfS T x E' n d c
  | 0, _ => rfl
  | d + 1, c => by
    rw [lfS_s, lfS_s, lfS_cg h d (c + 1)]
    have hh : bits (fun t => dgv (tv T) (tn T) c t != E t) (tn T) &&& seen T = bits (fun t => dgv (tv T) (tn T) c t != E' t) (tn T) &&& seen T := h c
    simp only [hh]
theorem noI_0 (n : Nat) : noI n 0 = -4 := rfl
theorem noI_p {n L : Nat} (h : L ≠ 0) : noI n L = nI n := if_neg h
abbrev lvS (G : GG) (w fr L F y : Nat) : List (Nat × Value) := [(0, .ref (ga G 0)), (3, .int (nI w)), (4, .int (nI fr)), (5, .int (noI L L)), (6, .int (noI F L)), (7, .int (nI y))]
section RS8
variable {G : GG} {σ : WW} {T : TS} {len at_ kept done rm : Int32}
theorem st_120 (h0 : Cl G σ 0 (cRef G len at_ kept done rm)) (hT : QT G σ T) {fd : Nat → Int32} (h15 : Cl G σ 15 (iA G 5120 fd)) {d x : Nat → Nat} (hd : ∀ K, K < 5120 → fd K = dI (d K)) (hd5 : ∀ K, d K ≤ 5120) {w fr y : Nat} (hy : y < NC T) {R : Option Value} {κ : KK} (C : Cx G mX10_steps κ) (K : ∀ L F, scI T x d (5 * (y + 1)) L F → Go G mX10_steps κ R σ σ 215 (lvS G w fr L F y) []) : ∀ f e L F, e + f = 5 → scI T x d (5 * y + e) L F → Go G mX10_steps κ R σ σ 120 [(0, .ref (ga G 0)), (3, .int (nI w)), (4, .int (nI fr)), (5, .int (noI L L)), (6, .int (noI F L)), (7, .int (nI y)), (8, .int (nI (DD T x (gd T y)))), (9, .int (nI e))] [] := by
  have hW := hT.w.1
  have hlaw := hW.2.2.2.2.2.2.1
  have hN : NC T ≤ 1024 := cds_1024 hW
  have hs32 := DD_lt hW.1 x (gd T y)
  obtain ⟨ft, fn, fv, fl, fm, fp, h2, h3, h4, h5, h6, h7, -, -, e0, e1, e2, e3, hv, hl, hp9⟩ := id hT
  intro f
  induction f with
  | zero =>
    intro e L F hf hI
    have k1 := K L F (by rw [show 5 * (y + 1) = 5 * y + e by omega]; exact hI)
    refine g_iload (pc := 120) C dX10_steps_120 rfl ?_
    refine g_iconst (pc := 122) (v := nI 5) C dX10_steps_122 (by decide) ?_
    refine g_icmp_ge (pc := 123) C 215 dX10_steps_123 (by decide) (fun c123 => ?_) (fun c123 => ?_)
    · exact g_to k1 ⟨rfl, rfl, rfl, rfl, rfl, rfl, trivial⟩
    · exact absurd (nI_le (by omega) (by omega)) c123
  | succ f ih =>
    intro e L F hf hI
    have hah := ah_lt (T := T) (e := e) (by omega)
    have hL5 : L ≤ 5120 := by
      by_cases z : L = 0
      · omega
      · obtain ⟨⟨J, _, _, j3, _⟩, _⟩ := hI.2 z
        rw [← j3]; exact hd5 J
    have hdK := hd5 (5 * y + e)
    have hfK := hd (5 * y + e) (by omega)
    have eK1 : (5 * y + e) / 5 = y := by omega
    have eK2 : (5 * y + e) % 5 = e := by omega
    have k209 : ¬ (okS T x d (5 * y + e) ∧ (L = 0 ∨ d (5 * y + e) < L)) → Go G mX10_steps κ R σ σ 209 [(0, .ref (ga G 0)), (3, .int (nI w)), (4, .int (nI fr)), (5, .int (noI L L)), (6, .int (noI F L)), (7, .int (nI y)), (8, .int (nI (DD T x (gd T y)))), (9, .int (nI e))] [] := by
      intro hno
      have k1 := ih (e + 1) L F (by omega) (scI_n hI hno)
      refine g_iinc (pc := 209) C dX10_steps_209 rfl (by decide) rfl ?_
      refine g_goto (pc := 212) C 120 dX10_steps_212 (by decide) ?_
      exact g_to k1 ⟨rfl, rfl, rfl, rfl, rfl, rfl, rfl, lgi (nI_1 e), trivial⟩
    by_cases hd0 : d (5 * y + e) = 0
    · rw [hd0, dI_0] at hfK
      have k1 := k209 (fun z => by have := z.1.1; omega)
      refine g_iload (pc := 120) C dX10_steps_120 rfl ?_
      refine g_iconst (pc := 122) (v := nI 5) C dX10_steps_122 (by decide) ?_
      refine g_icmp_ge (pc := 123) C 215 dX10_steps_123 (by decide) (fun c123 => ?_) (fun c123 => ?_)
      · exact absurd c123 (nI_ge (by omega) (by decide))
      · refine g_aload_n (pc := 126) C dX10_steps_126 rfl ?_
        apply gf_X10_54 (pc := 127) C rfl dX10_steps_127
        · repeat (first | assumption | exact Cl.s (by assumption) | refine Cl.n (by first | decide | omega) ?_)
        · rfl
        refine g_iconst (pc := 130) (v := nI 5) C dX10_steps_130 (by decide) ?_
        refine g_iload (pc := 131) C dX10_steps_131 rfl ?_
        refine g_imul (pc := 133) C dX10_steps_133 ?_
        rw [pk_mul]
        refine g_iload (pc := 134) C dX10_steps_134 rfl ?_
        refine g_iadd (pc := 136) C dX10_steps_136 ?_
        rw [nI_add]
        apply g_iaload (pc := 137) C dX10_steps_137
        · repeat (first | assumption | exact Cl.s (by assumption) | refine Cl.n (by first | decide | omega) ?_)
        · exact vp_in_nI (by omega) (by decide)
        rw [nI_clamp (by omega), hfK]
        refine g_istore (pc := 138) C dX10_steps_138 (by decide) rfl ?_
        refine g_iload (pc := 140) C dX10_steps_140 rfl ?_
        refine g_if_le (pc := 142) C 181 dX10_steps_142 (by decide) (fun c142 => ?_) (fun c142 => ?_)
        · refine g_iconst (pc := 181) (v := nI 0) C dX10_steps_181 (by decide) ?_
          refine g_istore (pc := 182) C dX10_steps_182 (by decide) rfl ?_
          refine g_iload (pc := 184) C dX10_steps_184 rfl ?_
          refine g_if_eq (pc := 186) C 209 dX10_steps_186 (by decide) (fun c186 => ?_) (fun c186 => ?_)
          · exact g_to k1 ⟨rfl, rfl, rfl, rfl, rfl, rfl, rfl, rfl, trivial⟩
          · exact absurd rfl c186
        · exact absurd (by decide) c142
    · rw [dI_p (by omega)] at hfK
      by_cases hps : ps (tl T) (DD T x (gd T y)) (ah T e) = true
      · have hok : okS T x d (5 * y + e) := ⟨by omega, by rw [eK1, eK2]; exact hps⟩
        have k189 : Go G mX10_steps κ R σ σ 189 [(0, .ref (ga G 0)), (3, .int (nI w)), (4, .int (nI fr)), (5, .int (noI L L)), (6, .int (noI F L)), (7, .int (nI y)), (8, .int (nI (DD T x (gd T y)))), (9, .int (nI e)), (10, .int (nI (d (5 * y + e))))] [] := by
          by_cases hl : L = 0 ∨ d (5 * y + e) < L
          · have k1 := ih (e + 1) (d (5 * y + e)) y (by omega) (by have := scI_y hI hok hl; rw [eK1] at this; exact this)
            rw [noI_p hd0, noI_p hd0] at k1
            by_cases hL0 : L = 0
            · subst hL0
              refine g_iload (pc := 189) C dX10_steps_189 rfl ?_
              refine g_if_lt (pc := 191) C 201 dX10_steps_191 (by decide) (fun c191 => ?_) (fun c191 => ?_)
              · refine g_iload (pc := 201) C dX10_steps_201 rfl ?_
                refine g_istore (pc := 203) C dX10_steps_203 (by decide) rfl ?_
                refine g_iload (pc := 205) C dX10_steps_205 rfl ?_
                refine g_istore (pc := 207) C dX10_steps_207 (by decide) rfl ?_
                refine g_iinc (pc := 209) C dX10_steps_209 rfl (by decide) rfl ?_
                refine g_goto (pc := 212) C 120 dX10_steps_212 (by decide) ?_
                exact g_to k1 ⟨rfl, rfl, rfl, rfl, rfl, rfl, rfl, lgi (nI_1 e), trivial⟩
              · exact absurd (by rw [noI_0]; decide) c191
            · rw [noI_p hL0]
              refine g_iload (pc := 189) C dX10_steps_189 rfl ?_
              refine g_if_lt (pc := 191) C 201 dX10_steps_191 (by decide) (fun c191 => ?_) (fun c191 => ?_)
              · exact absurd c191 (nI_pos (by omega))
              · refine g_iload (pc := 194) C dX10_steps_194 rfl ?_
                refine g_iload (pc := 196) C dX10_steps_196 rfl ?_
                refine g_icmp_ge (pc := 198) C 209 dX10_steps_198 (by decide) (fun c198 => ?_) (fun c198 => ?_)
                · exact absurd c198 (nI_ge (by omega) (by omega))
                · refine g_iload (pc := 201) C dX10_steps_201 rfl ?_
                  refine g_istore (pc := 203) C dX10_steps_203 (by decide) rfl ?_
                  refine g_iload (pc := 205) C dX10_steps_205 rfl ?_
                  refine g_istore (pc := 207) C dX10_steps_207 (by decide) rfl ?_
                  refine g_iinc (pc := 209) C dX10_steps_209 rfl (by decide) rfl ?_
                  refine g_goto (pc := 212) C 120 dX10_steps_212 (by decide) ?_
                  exact g_to k1 ⟨rfl, rfl, rfl, rfl, rfl, rfl, rfl, lgi (nI_1 e), trivial⟩
          · have k1 := k209 (fun z => hl z.2)
            have hL0 : L ≠ 0 := fun z => hl (Or.inl z)
            rw [noI_p hL0] at k1 ⊢
            refine g_iload (pc := 189) C dX10_steps_189 rfl ?_
            refine g_if_lt (pc := 191) C 201 dX10_steps_191 (by decide) (fun c191 => ?_) (fun c191 => ?_)
            · exact absurd c191 (nI_pos (by omega))
            · refine g_iload (pc := 194) C dX10_steps_194 rfl ?_
              refine g_iload (pc := 196) C dX10_steps_196 rfl ?_
              refine g_icmp_ge (pc := 198) C 209 dX10_steps_198 (by decide) (fun c198 => ?_) (fun c198 => ?_)
              · exact g_to k1 ⟨rfl, rfl, rfl, rfl, rfl, rfl, rfl, rfl, trivial⟩
              · exact absurd (nI_le (by omega) (by omega)) c198
        by_cases hl2 : tl T = 2
        · have ea : ah T e = 1 <<< e := if_pos hl2
          rw [ea] at hps hah
          refine g_iload (pc := 120) C dX10_steps_120 rfl ?_
          refine g_iconst (pc := 122) (v := nI 5) C dX10_steps_122 (by decide) ?_
          refine g_icmp_ge (pc := 123) C 215 dX10_steps_123 (by decide) (fun c123 => ?_) (fun c123 => ?_)
          · exact absurd c123 (nI_ge (by omega) (by decide))
          · refine g_aload_n (pc := 126) C dX10_steps_126 rfl ?_
            apply gf_X10_54 (pc := 127) C rfl dX10_steps_127
            · repeat (first | assumption | exact Cl.s (by assumption) | refine Cl.n (by first | decide | omega) ?_)
            · rfl
            refine g_iconst (pc := 130) (v := nI 5) C dX10_steps_130 (by decide) ?_
            refine g_iload (pc := 131) C dX10_steps_131 rfl ?_
            refine g_imul (pc := 133) C dX10_steps_133 ?_
            rw [pk_mul]
            refine g_iload (pc := 134) C dX10_steps_134 rfl ?_
            refine g_iadd (pc := 136) C dX10_steps_136 ?_
            rw [nI_add]
            apply g_iaload (pc := 137) C dX10_steps_137
            · repeat (first | assumption | exact Cl.s (by assumption) | refine Cl.n (by first | decide | omega) ?_)
            · exact vp_in_nI (by omega) (by decide)
            rw [nI_clamp (by omega), hfK]
            refine g_istore (pc := 138) C dX10_steps_138 (by decide) rfl ?_
            refine g_iload (pc := 140) C dX10_steps_140 rfl ?_
            refine g_if_le (pc := 142) C 181 dX10_steps_142 (by decide) (fun c142 => ?_) (fun c142 => ?_)
            · exact absurd c142 (nI_nle (by omega) (by omega))
            · refine g_aload_n (pc := 145) C dX10_steps_145 rfl ?_
              apply gf_X10_13 (pc := 146) C rfl dX10_steps_146
              · repeat (first | assumption | exact Cl.s (by assumption) | refine Cl.n (by first | decide | omega) ?_)
              · rfl
              refine g_iconst (pc := 149) (v := nI 0) C dX10_steps_149 (by decide) ?_
              apply g_iaload (pc := 150) C dX10_steps_150
              · repeat (first | assumption | exact Cl.s (by assumption) | refine Cl.n (by first | decide | omega) ?_)
              · exact vp_in_nI (n := 0) (by decide) (by decide)
              rw [nI_clamp (by decide), e0]
              refine g_iload (pc := 151) C dX10_steps_151 rfl ?_
              refine g_aload_n (pc := 153) C dX10_steps_153 rfl ?_
              apply gf_X10_13 (pc := 154) C rfl dX10_steps_154
              · repeat (first | assumption | exact Cl.s (by assumption) | refine Cl.n (by first | decide | omega) ?_)
              · rfl
              refine g_iconst (pc := 157) (v := nI 0) C dX10_steps_157 (by decide) ?_
              apply g_iaload (pc := 158) C dX10_steps_158
              · repeat (first | assumption | exact Cl.s (by assumption) | refine Cl.n (by first | decide | omega) ?_)
              · exact vp_in_nI (n := 0) (by decide) (by decide)
              rw [nI_clamp (by decide), e0]
              refine g_iconst (pc := 159) (v := nI 2) C dX10_steps_159 (by decide) ?_
              refine g_icmp_nE (pc := 160) C 170 dX10_steps_160 (by decide) (fun c160 => ?_) (fun c160 => ?_)
              · exact absurd (by rw [hl2]) c160
              · refine g_iconst (pc := 163) (v := nI 1) C dX10_steps_163 (by decide) ?_
                refine g_iload (pc := 164) C dX10_steps_164 rfl ?_
                refine g_ishl (pc := 166) C dX10_steps_166 ?_
                rw [nx_shl _ (by omega)]
                refine g_goto (pc := 167) C 171 dX10_steps_167 (by decide) ?_
                refine cl_X10_146 (pc := 171) C rfl (r_passes hlaw (by omega) (by omega)) dX10_steps_171 rfl (Nat.le_of_ble_eq_true rfl) ?_
                refine g_if_eq (pc := 174) C 181 dX10_steps_174 (by decide) (fun c174 => ?_) (fun c174 => ?_)
                · exact absurd (b2_0.mp c174) (by rw [hps]; decide)
                · refine g_iconst (pc := 177) (v := nI 1) C dX10_steps_177 (by decide) ?_
                  refine g_goto (pc := 178) C 182 dX10_steps_178 (by decide) ?_
                  refine g_istore (pc := 182) C dX10_steps_182 (by decide) rfl ?_
                  refine g_iload (pc := 184) C dX10_steps_184 rfl ?_
                  refine g_if_eq (pc := 186) C 209 dX10_steps_186 (by decide) (fun c186 => ?_) (fun c186 => ?_)
                  · exact absurd c186 (by decide)
                  · exact g_to k189 ⟨rfl, rfl, rfl, rfl, rfl, rfl, rfl, rfl, rfl, trivial⟩
        · have ea : ah T e = 0 := if_neg hl2
          rw [ea] at hps
          refine g_iload (pc := 120) C dX10_steps_120 rfl ?_
          refine g_iconst (pc := 122) (v := nI 5) C dX10_steps_122 (by decide) ?_
          refine g_icmp_ge (pc := 123) C 215 dX10_steps_123 (by decide) (fun c123 => ?_) (fun c123 => ?_)
          · exact absurd c123 (nI_ge (by omega) (by decide))
          · refine g_aload_n (pc := 126) C dX10_steps_126 rfl ?_
            apply gf_X10_54 (pc := 127) C rfl dX10_steps_127
            · repeat (first | assumption | exact Cl.s (by assumption) | refine Cl.n (by first | decide | omega) ?_)
            · rfl
            refine g_iconst (pc := 130) (v := nI 5) C dX10_steps_130 (by decide) ?_
            refine g_iload (pc := 131) C dX10_steps_131 rfl ?_
            refine g_imul (pc := 133) C dX10_steps_133 ?_
            rw [pk_mul]
            refine g_iload (pc := 134) C dX10_steps_134 rfl ?_
            refine g_iadd (pc := 136) C dX10_steps_136 ?_
            rw [nI_add]
            apply g_iaload (pc := 137) C dX10_steps_137
            · repeat (first | assumption | exact Cl.s (by assumption) | refine Cl.n (by first | decide | omega) ?_)
            · exact vp_in_nI (by omega) (by decide)
            rw [nI_clamp (by omega), hfK]
            refine g_istore (pc := 138) C dX10_steps_138 (by decide) rfl ?_
            refine g_iload (pc := 140) C dX10_steps_140 rfl ?_
            refine g_if_le (pc := 142) C 181 dX10_steps_142 (by decide) (fun c142 => ?_) (fun c142 => ?_)
            · exact absurd c142 (nI_nle (by omega) (by omega))
            · refine g_aload_n (pc := 145) C dX10_steps_145 rfl ?_
              apply gf_X10_13 (pc := 146) C rfl dX10_steps_146
              · repeat (first | assumption | exact Cl.s (by assumption) | refine Cl.n (by first | decide | omega) ?_)
              · rfl
              refine g_iconst (pc := 149) (v := nI 0) C dX10_steps_149 (by decide) ?_
              apply g_iaload (pc := 150) C dX10_steps_150
              · repeat (first | assumption | exact Cl.s (by assumption) | refine Cl.n (by first | decide | omega) ?_)
              · exact vp_in_nI (n := 0) (by decide) (by decide)
              rw [nI_clamp (by decide), e0]
              refine g_iload (pc := 151) C dX10_steps_151 rfl ?_
              refine g_aload_n (pc := 153) C dX10_steps_153 rfl ?_
              apply gf_X10_13 (pc := 154) C rfl dX10_steps_154
              · repeat (first | assumption | exact Cl.s (by assumption) | refine Cl.n (by first | decide | omega) ?_)
              · rfl
              refine g_iconst (pc := 157) (v := nI 0) C dX10_steps_157 (by decide) ?_
              apply g_iaload (pc := 158) C dX10_steps_158
              · repeat (first | assumption | exact Cl.s (by assumption) | refine Cl.n (by first | decide | omega) ?_)
              · exact vp_in_nI (n := 0) (by decide) (by decide)
              rw [nI_clamp (by decide), e0]
              refine g_iconst (pc := 159) (v := nI 2) C dX10_steps_159 (by decide) ?_
              refine g_icmp_nE (pc := 160) C 170 dX10_steps_160 (by decide) (fun c160 => ?_) (fun c160 => ?_)
              · refine g_iconst (pc := 170) (v := nI 0) C dX10_steps_170 (by decide) ?_
                refine cl_X10_146 (pc := 171) C rfl (r_passes hlaw (by omega) (by decide)) dX10_steps_171 rfl (Nat.le_of_ble_eq_true rfl) ?_
                refine g_if_eq (pc := 174) C 181 dX10_steps_174 (by decide) (fun c174 => ?_) (fun c174 => ?_)
                · exact absurd (b2_0.mp c174) (by rw [hps]; decide)
                · refine g_iconst (pc := 177) (v := nI 1) C dX10_steps_177 (by decide) ?_
                  refine g_goto (pc := 178) C 182 dX10_steps_178 (by decide) ?_
                  refine g_istore (pc := 182) C dX10_steps_182 (by decide) rfl ?_
                  refine g_iload (pc := 184) C dX10_steps_184 rfl ?_
                  refine g_if_eq (pc := 186) C 209 dX10_steps_186 (by decide) (fun c186 => ?_) (fun c186 => ?_)
                  · exact absurd c186 (by decide)
                  · exact g_to k189 ⟨rfl, rfl, rfl, rfl, rfl, rfl, rfl, rfl, rfl, trivial⟩
              · exact absurd ((nI_eq (by omega) (by decide)).mp c160) hl2
      · have k1 := k209 (fun z => hps (by have := z.1.2; rw [eK1, eK2] at this; exact this))
        by_cases hl2 : tl T = 2
        · have ea : ah T e = 1 <<< e := if_pos hl2
          rw [ea] at hps hah
          refine g_iload (pc := 120) C dX10_steps_120 rfl ?_
          refine g_iconst (pc := 122) (v := nI 5) C dX10_steps_122 (by decide) ?_
          refine g_icmp_ge (pc := 123) C 215 dX10_steps_123 (by decide) (fun c123 => ?_) (fun c123 => ?_)
          · exact absurd c123 (nI_ge (by omega) (by decide))
          · refine g_aload_n (pc := 126) C dX10_steps_126 rfl ?_
            apply gf_X10_54 (pc := 127) C rfl dX10_steps_127
            · repeat (first | assumption | exact Cl.s (by assumption) | refine Cl.n (by first | decide | omega) ?_)
            · rfl
            refine g_iconst (pc := 130) (v := nI 5) C dX10_steps_130 (by decide) ?_
            refine g_iload (pc := 131) C dX10_steps_131 rfl ?_
            refine g_imul (pc := 133) C dX10_steps_133 ?_
            rw [pk_mul]
            refine g_iload (pc := 134) C dX10_steps_134 rfl ?_
            refine g_iadd (pc := 136) C dX10_steps_136 ?_
            rw [nI_add]
            apply g_iaload (pc := 137) C dX10_steps_137
            · repeat (first | assumption | exact Cl.s (by assumption) | refine Cl.n (by first | decide | omega) ?_)
            · exact vp_in_nI (by omega) (by decide)
            rw [nI_clamp (by omega), hfK]
            refine g_istore (pc := 138) C dX10_steps_138 (by decide) rfl ?_
            refine g_iload (pc := 140) C dX10_steps_140 rfl ?_
            refine g_if_le (pc := 142) C 181 dX10_steps_142 (by decide) (fun c142 => ?_) (fun c142 => ?_)
            · exact absurd c142 (nI_nle (by omega) (by omega))
            · refine g_aload_n (pc := 145) C dX10_steps_145 rfl ?_
              apply gf_X10_13 (pc := 146) C rfl dX10_steps_146
              · repeat (first | assumption | exact Cl.s (by assumption) | refine Cl.n (by first | decide | omega) ?_)
              · rfl
              refine g_iconst (pc := 149) (v := nI 0) C dX10_steps_149 (by decide) ?_
              apply g_iaload (pc := 150) C dX10_steps_150
              · repeat (first | assumption | exact Cl.s (by assumption) | refine Cl.n (by first | decide | omega) ?_)
              · exact vp_in_nI (n := 0) (by decide) (by decide)
              rw [nI_clamp (by decide), e0]
              refine g_iload (pc := 151) C dX10_steps_151 rfl ?_
              refine g_aload_n (pc := 153) C dX10_steps_153 rfl ?_
              apply gf_X10_13 (pc := 154) C rfl dX10_steps_154
              · repeat (first | assumption | exact Cl.s (by assumption) | refine Cl.n (by first | decide | omega) ?_)
              · rfl
              refine g_iconst (pc := 157) (v := nI 0) C dX10_steps_157 (by decide) ?_
              apply g_iaload (pc := 158) C dX10_steps_158
              · repeat (first | assumption | exact Cl.s (by assumption) | refine Cl.n (by first | decide | omega) ?_)
              · exact vp_in_nI (n := 0) (by decide) (by decide)
              rw [nI_clamp (by decide), e0]
              refine g_iconst (pc := 159) (v := nI 2) C dX10_steps_159 (by decide) ?_
              refine g_icmp_nE (pc := 160) C 170 dX10_steps_160 (by decide) (fun c160 => ?_) (fun c160 => ?_)
              · exact absurd (by rw [hl2]) c160
              · refine g_iconst (pc := 163) (v := nI 1) C dX10_steps_163 (by decide) ?_
                refine g_iload (pc := 164) C dX10_steps_164 rfl ?_
                refine g_ishl (pc := 166) C dX10_steps_166 ?_
                rw [nx_shl _ (by omega)]
                refine g_goto (pc := 167) C 171 dX10_steps_167 (by decide) ?_
                refine cl_X10_146 (pc := 171) C rfl (r_passes hlaw (by omega) (by omega)) dX10_steps_171 rfl (Nat.le_of_ble_eq_true rfl) ?_
                refine g_if_eq (pc := 174) C 181 dX10_steps_174 (by decide) (fun c174 => ?_) (fun c174 => ?_)
                · refine g_iconst (pc := 181) (v := nI 0) C dX10_steps_181 (by decide) ?_
                  refine g_istore (pc := 182) C dX10_steps_182 (by decide) rfl ?_
                  refine g_iload (pc := 184) C dX10_steps_184 rfl ?_
                  refine g_if_eq (pc := 186) C 209 dX10_steps_186 (by decide) (fun c186 => ?_) (fun c186 => ?_)
                  · exact g_to k1 ⟨rfl, rfl, rfl, rfl, rfl, rfl, rfl, rfl, trivial⟩
                  · exact absurd rfl c186
                · exact absurd (b2_0.mpr (by simpa using hps)) c174
        · have ea : ah T e = 0 := if_neg hl2
          rw [ea] at hps
          refine g_iload (pc := 120) C dX10_steps_120 rfl ?_
          refine g_iconst (pc := 122) (v := nI 5) C dX10_steps_122 (by decide) ?_
          refine g_icmp_ge (pc := 123) C 215 dX10_steps_123 (by decide) (fun c123 => ?_) (fun c123 => ?_)
          · exact absurd c123 (nI_ge (by omega) (by decide))
          · refine g_aload_n (pc := 126) C dX10_steps_126 rfl ?_
            apply gf_X10_54 (pc := 127) C rfl dX10_steps_127
            · repeat (first | assumption | exact Cl.s (by assumption) | refine Cl.n (by first | decide | omega) ?_)
            · rfl
            refine g_iconst (pc := 130) (v := nI 5) C dX10_steps_130 (by decide) ?_
            refine g_iload (pc := 131) C dX10_steps_131 rfl ?_
            refine g_imul (pc := 133) C dX10_steps_133 ?_
            rw [pk_mul]
            refine g_iload (pc := 134) C dX10_steps_134 rfl ?_
            refine g_iadd (pc := 136) C dX10_steps_136 ?_
            rw [nI_add]
            apply g_iaload (pc := 137) C dX10_steps_137
            · repeat (first | assumption | exact Cl.s (by assumption) | refine Cl.n (by first | decide | omega) ?_)
            · exact vp_in_nI (by omega) (by decide)
            rw [nI_clamp (by omega), hfK]
            refine g_istore (pc := 138) C dX10_steps_138 (by decide) rfl ?_
            refine g_iload (pc := 140) C dX10_steps_140 rfl ?_
            refine g_if_le (pc := 142) C 181 dX10_steps_142 (by decide) (fun c142 => ?_) (fun c142 => ?_)
            · exact absurd c142 (nI_nle (by omega) (by omega))
            · refine g_aload_n (pc := 145) C dX10_steps_145 rfl ?_
              apply gf_X10_13 (pc := 146) C rfl dX10_steps_146
              · repeat (first | assumption | exact Cl.s (by assumption) | refine Cl.n (by first | decide | omega) ?_)
              · rfl
              refine g_iconst (pc := 149) (v := nI 0) C dX10_steps_149 (by decide) ?_
              apply g_iaload (pc := 150) C dX10_steps_150
              · repeat (first | assumption | exact Cl.s (by assumption) | refine Cl.n (by first | decide | omega) ?_)
              · exact vp_in_nI (n := 0) (by decide) (by decide)
              rw [nI_clamp (by decide), e0]
              refine g_iload (pc := 151) C dX10_steps_151 rfl ?_
              refine g_aload_n (pc := 153) C dX10_steps_153 rfl ?_
              apply gf_X10_13 (pc := 154) C rfl dX10_steps_154
              · repeat (first | assumption | exact Cl.s (by assumption) | refine Cl.n (by first | decide | omega) ?_)
              · rfl
              refine g_iconst (pc := 157) (v := nI 0) C dX10_steps_157 (by decide) ?_
              apply g_iaload (pc := 158) C dX10_steps_158
              · repeat (first | assumption | exact Cl.s (by assumption) | refine Cl.n (by first | decide | omega) ?_)
              · exact vp_in_nI (n := 0) (by decide) (by decide)
              rw [nI_clamp (by decide), e0]
              refine g_iconst (pc := 159) (v := nI 2) C dX10_steps_159 (by decide) ?_
              refine g_icmp_nE (pc := 160) C 170 dX10_steps_160 (by decide) (fun c160 => ?_) (fun c160 => ?_)
              · refine g_iconst (pc := 170) (v := nI 0) C dX10_steps_170 (by decide) ?_
                refine cl_X10_146 (pc := 171) C rfl (r_passes hlaw (by omega) (by decide)) dX10_steps_171 rfl (Nat.le_of_ble_eq_true rfl) ?_
                refine g_if_eq (pc := 174) C 181 dX10_steps_174 (by decide) (fun c174 => ?_) (fun c174 => ?_)
                · refine g_iconst (pc := 181) (v := nI 0) C dX10_steps_181 (by decide) ?_
                  refine g_istore (pc := 182) C dX10_steps_182 (by decide) rfl ?_
                  refine g_iload (pc := 184) C dX10_steps_184 rfl ?_
                  refine g_if_eq (pc := 186) C 209 dX10_steps_186 (by decide) (fun c186 => ?_) (fun c186 => ?_)
                  · exact g_to k1 ⟨rfl, rfl, rfl, rfl, rfl, rfl, rfl, rfl, trivial⟩
                  · exact absurd rfl c186
                · exact absurd (b2_0.mpr (by simpa using hps)) c174
              · exact absurd ((nI_eq (by omega) (by decide)).mp c160) hl2
theorem st_98 (h0 : Cl G σ 0 (cRef G len at_ kept done rm)) (hT : QT G σ T) {fd : Nat → Int32} (h15 : Cl G σ 15 (iA G 5120 fd)) {d x : Nat → Nat} (hx : Vd T x) (hd : ∀ K, K < 5120 → fd K = dI (d K)) (hd5 : ∀ K, d K ≤ 5120) {w : Nat} (hw : w < 2) {R : Int32} {κ : KK} (C : Cx G mX10_steps κ) (hR : ∀ L F, scI T x d (5 * NC T) L F → (if w = 0 then noI L L else noI F L) = R) : ∀ f y L F, y + f = NC T → scI T x d (5 * y) L F → Go G mX10_steps κ (some (.int R)) σ σ 98 (lvS G w (pc T x) L F y) [] := by
  have hW := hT.w.1
  have hN : NC T ≤ 1024 := cds_1024 hW
  have hpc := pc_lt hW hx
  intro f
  induction f with
  | zero =>
    intro y L F hf hI
    have hr := hR L F (by rw [show NC T = y by omega]; exact hI)
    by_cases hw0 : w = 0
    · rw [if_pos hw0] at hr
      refine g_iload (pc := 98) C dX10_steps_98 rfl ?_
      refine g_aload_n (pc := 100) C dX10_steps_100 rfl ?_
      apply cl_X10_173 (pc := 101) C rfl (r_all h0 hT) dX10_steps_101
      · repeat (first | assumption | exact Cl.s (by assumption) | refine Cl.n (by first | decide | omega) ?_)
      · rfl
      · exact Nat.le_of_ble_eq_true rfl
      refine g_icmp_ge (pc := 104) C 221 dX10_steps_104 (by decide) (fun c104 => ?_) (fun c104 => ?_)
      · refine g_iload_n (pc := 221) C dX10_steps_221 rfl ?_
        refine g_if_nE (pc := 222) C 230 dX10_steps_222 (by decide) (fun c222 => ?_) (fun c222 => ?_)
        · exact absurd (by rw [hw0]; rfl) c222
        · refine g_iload (pc := 225) C dX10_steps_225 rfl ?_
          refine g_goto (pc := 227) C 232 dX10_steps_227 (by decide) ?_
          exact g_ireturn (pc := 232) C dX10_steps_232 rfl (by rw [hr]) (rfl)
      · exact absurd (nI_le (by omega) (by omega)) c104
    · rw [if_neg hw0] at hr
      refine g_iload (pc := 98) C dX10_steps_98 rfl ?_
      refine g_aload_n (pc := 100) C dX10_steps_100 rfl ?_
      apply cl_X10_173 (pc := 101) C rfl (r_all h0 hT) dX10_steps_101
      · repeat (first | assumption | exact Cl.s (by assumption) | refine Cl.n (by first | decide | omega) ?_)
      · rfl
      · exact Nat.le_of_ble_eq_true rfl
      refine g_icmp_ge (pc := 104) C 221 dX10_steps_104 (by decide) (fun c104 => ?_) (fun c104 => ?_)
      · refine g_iload_n (pc := 221) C dX10_steps_221 rfl ?_
        refine g_if_nE (pc := 222) C 230 dX10_steps_222 (by decide) (fun c222 => ?_) (fun c222 => ?_)
        · refine g_iload (pc := 230) C dX10_steps_230 rfl ?_
          exact g_ireturn (pc := 232) C dX10_steps_232 rfl (by rw [hr]) (rfl)
        · exact absurd ((nI_eq (b := 0) (by omega) (by decide)).mp c222) hw0
      · exact absurd (nI_le (by omega) (by omega)) c104
  | succ f ih =>
    intro y L F hf hI
    have k1 := st_120 h0 hT h15 (x := x) hd hd5 (w := w) (fr := pc T x) (y := y) (R := some (.int R)) (by omega) C (fun L F hI => by
      have k2 := ih (y + 1) L F (by omega) hI
      refine g_iinc (pc := 215) C dX10_steps_215 rfl (by decide) rfl ?_
      refine g_goto (pc := 218) C 98 dX10_steps_218 (by decide) ?_
      exact g_to k2 ⟨rfl, rfl, rfl, rfl, rfl, lgi (nI_1 y), trivial⟩
      ) 5 0 L F (by omega) hI
    refine g_iload (pc := 98) C dX10_steps_98 rfl ?_
    refine g_aload_n (pc := 100) C dX10_steps_100 rfl ?_
    apply cl_X10_173 (pc := 101) C rfl (r_all h0 hT) dX10_steps_101
    · repeat (first | assumption | exact Cl.s (by assumption) | refine Cl.n (by first | decide | omega) ?_)
    · rfl
    · exact Nat.le_of_ble_eq_true rfl
    refine g_icmp_ge (pc := 104) C 221 dX10_steps_104 (by decide) (fun c104 => ?_) (fun c104 => ?_)
    · exact absurd c104 (nI_ge (by omega) (by omega))
    · refine g_aload_n (pc := 107) C dX10_steps_107 rfl ?_
      refine g_iload (pc := 108) C dX10_steps_108 rfl ?_
      refine g_iload (pc := 110) C dX10_steps_110 rfl ?_
      apply cl_X10_176 (pc := 112) C rfl (r_unlikeCodes h0 hT (by omega) (by omega)) dX10_steps_112
      · repeat (first | assumption | exact Cl.s (by assumption) | refine Cl.n (by first | decide | omega) ?_)
      · rfl
      · exact Nat.le_of_ble_eq_true rfl
      refine g_istore (pc := 115) C dX10_steps_115 (by decide) rfl ?_
      refine g_iconst (pc := 117) (v := nI 0) C dX10_steps_117 (by decide) ?_
      refine g_istore (pc := 118) C dX10_steps_118 (by decide) rfl ?_
      exact g_to k1 ⟨rfl, rfl, rfl, rfl, rfl, rfl, lgi (by rw [DD_pc hW hx]), rfl, trivial⟩
theorem pl_cdn {T : TS} {x : Nat → Nat} (hx : Vd T x) : pl T (cdn (tv T) x (tn T)) = pc T x := cdn_cg _ (fun t ht => by
  unfold pv
  split
  · exact dgv_cdn hx ht
  · rfl)
theorem q_steps (h0 : Cl G σ 0 (cRef G len at_ kept done rm)) (hT : QT G σ T) (hC : QC G σ) (i j what : Int32) : ∃ σ', Mt G mX10_steps [.ref (ga G 0), .int i, .int j, .int what] σ (some (.int (stepsF T i j what))) σ' ∧ QC G σ' ∧ Fr σ σ' [15, 16] := by
  have hW := hT.w.1
  have hm := hW.2.2.2.2.1
  have hlaw := hW.2.2.2.2.2.2.1
  have hN : NC T ≤ 1024 := cds_1024 hW
  obtain ⟨ft, fn, fv, fl, fm, fp, h2, h3, h4, h5, h6, h7, -, -, e0, e1, e2, e3, hv, hl, hp9⟩ := id hT
  rcases inR_c i (m := tm T) (by omega) with e | ⟨e, i, hi, rfl⟩
  · rw [show stepsF T i j what = -1 by simp [stepsF, e]]
    refine ⟨σ, ?_, hC, fr0⟩
    refine Mt.of (by decide +kernel) (Nat.le_of_ble_eq_true rfl) (fun κ C => ?_)
    refine g_aload_n (pc := 0) C dX10_steps_0 rfl ?_
    refine g_iload_n (pc := 1) C dX10_steps_1 rfl ?_
    apply cl_X10_126 (pc := 2) C rfl (r_isMan h0 hT i) dX10_steps_2
    · repeat (first | assumption | exact Cl.s (by assumption) | refine Cl.n (by first | decide | omega) ?_)
    · rfl
    · exact Nat.le_of_ble_eq_true rfl
    refine g_if_eq (pc := 5) C 26 dX10_steps_5 (by decide) (fun c5 => ?_) (fun c5 => ?_)
    · refine g_iconst (pc := 26) (v := -1) C dX10_steps_26 (by decide) ?_
      exact g_ireturn (pc := 27) C dX10_steps_27 rfl (rfl) (rfl)
    · exact absurd (by rw [e]; rfl) c5
  · rcases inR_c j (m := tm T) (by omega) with f2 | ⟨f2, j, hj, rfl⟩
    · rw [show stepsF T (nI i) j what = -1 by simp [stepsF, f2]]
      refine ⟨σ, ?_, hC, fr0⟩
      refine Mt.of (by decide +kernel) (Nat.le_of_ble_eq_true rfl) (fun κ C => ?_)
      refine g_aload_n (pc := 0) C dX10_steps_0 rfl ?_
      refine g_iload_n (pc := 1) C dX10_steps_1 rfl ?_
      apply cl_X10_126 (pc := 2) C rfl (r_isMan h0 hT (nI i)) dX10_steps_2
      · repeat (first | assumption | exact Cl.s (by assumption) | refine Cl.n (by first | decide | omega) ?_)
      · rfl
      · exact Nat.le_of_ble_eq_true rfl
      refine g_if_eq (pc := 5) C 26 dX10_steps_5 (by decide) (fun c5 => ?_) (fun c5 => ?_)
      · exact absurd c5 (by rw [e]; decide)
      · refine g_aload_n (pc := 8) C dX10_steps_8 rfl ?_
        refine g_iload_n (pc := 9) C dX10_steps_9 rfl ?_
        apply cl_X10_126 (pc := 10) C rfl (r_isMan h0 hT j) dX10_steps_10
        · repeat (first | assumption | exact Cl.s (by assumption) | refine Cl.n (by first | decide | omega) ?_)
        · rfl
        · exact Nat.le_of_ble_eq_true rfl
        refine g_if_eq (pc := 13) C 26 dX10_steps_13 (by decide) (fun c13 => ?_) (fun c13 => ?_)
        · refine g_iconst (pc := 26) (v := -1) C dX10_steps_26 (by decide) ?_
          exact g_ireturn (pc := 27) C dX10_steps_27 rfl (rfl) (rfl)
        · exact absurd (by rw [f2]; rfl) c13
    · have eB : inB what.toInt64 0 1 = inR what 2 := inB_R (v := what) (m := 2) (by decide) (by decide)
      rcases inR_c what (m := 2) (by decide) with f3 | ⟨f3, w, hw, rfl⟩
      · rw [show stepsF T (nI i) (nI j) what = -1 by simp [stepsF, f3]]
        refine ⟨σ, ?_, hC, fr0⟩
        refine Mt.of (by decide +kernel) (Nat.le_of_ble_eq_true rfl) (fun κ C => ?_)
        refine g_aload_n (pc := 0) C dX10_steps_0 rfl ?_
        refine g_iload_n (pc := 1) C dX10_steps_1 rfl ?_
        apply cl_X10_126 (pc := 2) C rfl (r_isMan h0 hT (nI i)) dX10_steps_2
        · repeat (first | assumption | exact Cl.s (by assumption) | refine Cl.n (by first | decide | omega) ?_)
        · rfl
        · exact Nat.le_of_ble_eq_true rfl
        refine g_if_eq (pc := 5) C 26 dX10_steps_5 (by decide) (fun c5 => ?_) (fun c5 => ?_)
        · exact absurd c5 (by rw [e]; decide)
        · refine g_aload_n (pc := 8) C dX10_steps_8 rfl ?_
          refine g_iload_n (pc := 9) C dX10_steps_9 rfl ?_
          apply cl_X10_126 (pc := 10) C rfl (r_isMan h0 hT (nI j)) dX10_steps_10
          · repeat (first | assumption | exact Cl.s (by assumption) | refine Cl.n (by first | decide | omega) ?_)
          · rfl
          · exact Nat.le_of_ble_eq_true rfl
          refine g_if_eq (pc := 13) C 26 dX10_steps_13 (by decide) (fun c13 => ?_) (fun c13 => ?_)
          · exact absurd c13 (by rw [f2]; decide)
          · refine g_iload_n (pc := 16) C dX10_steps_16 rfl ?_
            refine g_i2l (pc := 17) C dX10_steps_17 ?_
            refine g_lconst (pc := 18) (v := 0) C dX10_steps_18 (by decide) ?_
            refine g_lconst (pc := 19) (v := 1) C dX10_steps_19 (by decide) ?_
            refine cl_X10_74 (pc := 20) C rfl (r_in _ _ _) dX10_steps_20 rfl (Nat.le_of_ble_eq_true rfl) ?_
            refine g_if_nE (pc := 23) C 28 dX10_steps_23 (by decide) (fun c23 => ?_) (fun c23 => ?_)
            · exact absurd (by rw [eB, f3]; rfl) c23
            · refine g_iconst (pc := 26) (v := -1) C dX10_steps_26 (by decide) ?_
              exact g_ireturn (pc := 27) C dX10_steps_27 rfl (rfl) (rfl)
      · have ei := nI_clamp (n := i) (by omega)
        have ej := nI_clamp (n := j) (by omega)
        have hxi : Vd T (tp T i) := hW.2.2.2.2.2.1 i hi
        have hxj : Vd T (tp T j) := hW.2.2.2.2.2.1 j hj
        have hu := and_lt32 (b := seen T) (UU_lt T i j hW.1)
        have hS : stepsF T (nI i) (nI j) (nI w) = (if nI w = 0 ∨ fwS T (UU T i j &&& seen T) 13 0 = -4 then fwS T (UU T i j &&& seen T) 13 0 else if fwS T (UU T i j &&& seen T) 13 0 = 0 then -4 else lfS T (tp T i) (tp T j) (fwS T (UU T i j &&& seen T) 13 0).toNatClampNeg (NC T) 0) := by
          unfold stepsF
          rw [e, f2, f3, ei, ej]
          rfl
        rw [hS]
        by_cases hps : ps (tl T) (UU T i j &&& seen T) 0 = true
        · have hf0 : fwS T (UU T i j &&& seen T) 13 0 = nI 0 := by
            refine fwS_y (L := 0) ?_ 13 0 (Nat.le_refl _) (by decide) (fun m _ hm => absurd hm (Nat.not_lt_zero _))
            refine (rc_z hxi hxj 0 0).mpr ⟨tp T j, hxj, hps, ?_⟩
            show (DD T (tp T j) (tp T j) == 0) = true
            rw [DD_self]
            rfl
          rw [hf0]
          refine ⟨σ, ?_, hC, fr0⟩
          refine Mt.of (by decide +kernel) (Nat.le_of_ble_eq_true rfl) (fun κ C => ?_)
          by_cases hw0 : w = 0
          · subst hw0
            rw [if_pos (show nI 0 = 0 ∨ nI 0 = -4 from Or.inl rfl)]
            refine g_aload_n (pc := 0) C dX10_steps_0 rfl ?_
            refine g_iload_n (pc := 1) C dX10_steps_1 rfl ?_
            apply cl_X10_126 (pc := 2) C rfl (r_isMan h0 hT (nI i)) dX10_steps_2
            · repeat (first | assumption | exact Cl.s (by assumption) | refine Cl.n (by first | decide | omega) ?_)
            · rfl
            · exact Nat.le_of_ble_eq_true rfl
            refine g_if_eq (pc := 5) C 26 dX10_steps_5 (by decide) (fun c5 => ?_) (fun c5 => ?_)
            · exact absurd c5 (by rw [e]; decide)
            · refine g_aload_n (pc := 8) C dX10_steps_8 rfl ?_
              refine g_iload_n (pc := 9) C dX10_steps_9 rfl ?_
              apply cl_X10_126 (pc := 10) C rfl (r_isMan h0 hT (nI j)) dX10_steps_10
              · repeat (first | assumption | exact Cl.s (by assumption) | refine Cl.n (by first | decide | omega) ?_)
              · rfl
              · exact Nat.le_of_ble_eq_true rfl
              refine g_if_eq (pc := 13) C 26 dX10_steps_13 (by decide) (fun c13 => ?_) (fun c13 => ?_)
              · exact absurd c13 (by rw [f2]; decide)
              · refine g_iload_n (pc := 16) C dX10_steps_16 rfl ?_
                refine g_i2l (pc := 17) C dX10_steps_17 ?_
                refine g_lconst (pc := 18) (v := 0) C dX10_steps_18 (by decide) ?_
                refine g_lconst (pc := 19) (v := 1) C dX10_steps_19 (by decide) ?_
                refine cl_X10_74 (pc := 20) C rfl (r_in _ _ _) dX10_steps_20 rfl (Nat.le_of_ble_eq_true rfl) ?_
                refine g_if_nE (pc := 23) C 28 dX10_steps_23 (by decide) (fun c23 => ?_) (fun c23 => ?_)
                · refine g_aload_n (pc := 28) C dX10_steps_28 rfl ?_
                  apply gf_X10_13 (pc := 29) C rfl dX10_steps_29
                  · repeat (first | assumption | exact Cl.s (by assumption) | refine Cl.n (by first | decide | omega) ?_)
                  · rfl
                  refine g_iconst (pc := 32) (v := nI 0) C dX10_steps_32 (by decide) ?_
                  apply g_iaload (pc := 33) C dX10_steps_33
                  · repeat (first | assumption | exact Cl.s (by assumption) | refine Cl.n (by first | decide | omega) ?_)
                  · exact vp_in_nI (n := 0) (by decide) (by decide)
                  rw [nI_clamp (by decide), e0]
                  refine g_aload_n (pc := 34) C dX10_steps_34 rfl ?_
                  refine g_iload_n (pc := 35) C dX10_steps_35 rfl ?_
                  refine g_iload_n (pc := 36) C dX10_steps_36 rfl ?_
                  apply cl_X10_136 (pc := 37) C rfl (r_unlike h0 hT hi hj) dX10_steps_37
                  · repeat (first | assumption | exact Cl.s (by assumption) | refine Cl.n (by first | decide | omega) ?_)
                  · rfl
                  · exact Nat.le_of_ble_eq_true rfl
                  refine g_aload_n (pc := 40) C dX10_steps_40 rfl ?_
                  apply cl_X10_140 (pc := 41) C rfl (r_seen h0 hT) dX10_steps_41
                  · repeat (first | assumption | exact Cl.s (by assumption) | refine Cl.n (by first | decide | omega) ?_)
                  · rfl
                  · exact Nat.le_of_ble_eq_true rfl
                  refine g_iand (pc := 44) C dX10_steps_44 ?_
                  rw [nx_and]
                  refine g_iconst (pc := 45) (v := nI 0) C dX10_steps_45 (by decide) ?_
                  refine cl_X10_146 (pc := 46) C rfl (r_passes hlaw (by omega) (by decide)) dX10_steps_46 rfl (Nat.le_of_ble_eq_true rfl) ?_
                  refine g_if_eq (pc := 49) C 63 dX10_steps_49 (by decide) (fun c49 => ?_) (fun c49 => ?_)
                  · exact absurd (b2_0.mp c49) (by rw [hps]; decide)
                  · refine g_iload_n (pc := 52) C dX10_steps_52 rfl ?_
                    refine g_if_nE (pc := 53) C 60 dX10_steps_53 (by decide) (fun c53 => ?_) (fun c53 => ?_)
                    · exact absurd rfl c53
                    · refine g_iconst (pc := 56) (v := nI 0) C dX10_steps_56 (by decide) ?_
                      refine g_goto (pc := 57) C 62 dX10_steps_57 (by decide) ?_
                      exact g_ireturn (pc := 62) C dX10_steps_62 rfl (rfl) (rfl)
                · exact absurd c23 (by rw [eB, f3]; decide)
          · have hw1 : w = 1 := by omega
            subst hw1
            rw [if_neg (show ¬ (nI 1 = 0 ∨ nI 0 = -4) by decide), if_pos (show nI 0 = 0 from rfl)]
            refine g_aload_n (pc := 0) C dX10_steps_0 rfl ?_
            refine g_iload_n (pc := 1) C dX10_steps_1 rfl ?_
            apply cl_X10_126 (pc := 2) C rfl (r_isMan h0 hT (nI i)) dX10_steps_2
            · repeat (first | assumption | exact Cl.s (by assumption) | refine Cl.n (by first | decide | omega) ?_)
            · rfl
            · exact Nat.le_of_ble_eq_true rfl
            refine g_if_eq (pc := 5) C 26 dX10_steps_5 (by decide) (fun c5 => ?_) (fun c5 => ?_)
            · exact absurd c5 (by rw [e]; decide)
            · refine g_aload_n (pc := 8) C dX10_steps_8 rfl ?_
              refine g_iload_n (pc := 9) C dX10_steps_9 rfl ?_
              apply cl_X10_126 (pc := 10) C rfl (r_isMan h0 hT (nI j)) dX10_steps_10
              · repeat (first | assumption | exact Cl.s (by assumption) | refine Cl.n (by first | decide | omega) ?_)
              · rfl
              · exact Nat.le_of_ble_eq_true rfl
              refine g_if_eq (pc := 13) C 26 dX10_steps_13 (by decide) (fun c13 => ?_) (fun c13 => ?_)
              · exact absurd c13 (by rw [f2]; decide)
              · refine g_iload_n (pc := 16) C dX10_steps_16 rfl ?_
                refine g_i2l (pc := 17) C dX10_steps_17 ?_
                refine g_lconst (pc := 18) (v := 0) C dX10_steps_18 (by decide) ?_
                refine g_lconst (pc := 19) (v := 1) C dX10_steps_19 (by decide) ?_
                refine cl_X10_74 (pc := 20) C rfl (r_in _ _ _) dX10_steps_20 rfl (Nat.le_of_ble_eq_true rfl) ?_
                refine g_if_nE (pc := 23) C 28 dX10_steps_23 (by decide) (fun c23 => ?_) (fun c23 => ?_)
                · refine g_aload_n (pc := 28) C dX10_steps_28 rfl ?_
                  apply gf_X10_13 (pc := 29) C rfl dX10_steps_29
                  · repeat (first | assumption | exact Cl.s (by assumption) | refine Cl.n (by first | decide | omega) ?_)
                  · rfl
                  refine g_iconst (pc := 32) (v := nI 0) C dX10_steps_32 (by decide) ?_
                  apply g_iaload (pc := 33) C dX10_steps_33
                  · repeat (first | assumption | exact Cl.s (by assumption) | refine Cl.n (by first | decide | omega) ?_)
                  · exact vp_in_nI (n := 0) (by decide) (by decide)
                  rw [nI_clamp (by decide), e0]
                  refine g_aload_n (pc := 34) C dX10_steps_34 rfl ?_
                  refine g_iload_n (pc := 35) C dX10_steps_35 rfl ?_
                  refine g_iload_n (pc := 36) C dX10_steps_36 rfl ?_
                  apply cl_X10_136 (pc := 37) C rfl (r_unlike h0 hT hi hj) dX10_steps_37
                  · repeat (first | assumption | exact Cl.s (by assumption) | refine Cl.n (by first | decide | omega) ?_)
                  · rfl
                  · exact Nat.le_of_ble_eq_true rfl
                  refine g_aload_n (pc := 40) C dX10_steps_40 rfl ?_
                  apply cl_X10_140 (pc := 41) C rfl (r_seen h0 hT) dX10_steps_41
                  · repeat (first | assumption | exact Cl.s (by assumption) | refine Cl.n (by first | decide | omega) ?_)
                  · rfl
                  · exact Nat.le_of_ble_eq_true rfl
                  refine g_iand (pc := 44) C dX10_steps_44 ?_
                  rw [nx_and]
                  refine g_iconst (pc := 45) (v := nI 0) C dX10_steps_45 (by decide) ?_
                  refine cl_X10_146 (pc := 46) C rfl (r_passes hlaw (by omega) (by decide)) dX10_steps_46 rfl (Nat.le_of_ble_eq_true rfl) ?_
                  refine g_if_eq (pc := 49) C 63 dX10_steps_49 (by decide) (fun c49 => ?_) (fun c49 => ?_)
                  · exact absurd (b2_0.mp c49) (by rw [hps]; decide)
                  · refine g_iload_n (pc := 52) C dX10_steps_52 rfl ?_
                    refine g_if_nE (pc := 53) C 60 dX10_steps_53 (by decide) (fun c53 => ?_) (fun c53 => ?_)
                    · refine g_bipush (pc := 60) (v := -4) C dX10_steps_60 (by decide) ?_
                      exact g_ireturn (pc := 62) C dX10_steps_62 rfl (rfl) (rfl)
                    · exact absurd c53 (by decide)
                · exact absurd c23 (by rw [eB, f3]; decide)
        · have hpj := pc_lt hW hxj
          obtain ⟨σ1, m1, fd, fq, d, hS1, p1, p2, p3, p4⟩ := r_circles h0 hT hC (e := pc T (tp T j)) (by omega)
          obtain ⟨y15, y16, yF⟩ := id hS1
          have y0 := h0.fr yF (by decide)
          have hT1 := hT.fr yF (by decide) (by decide) (by decide) (by decide) (by decide) (by decide)
          have hE : ∀ x, DD T x (gd T (pc T (tp T j))) = DD T x (tp T j) := fun x => DD_pc' hW hxj x
          have hci : cdn (tv T) (tp T i) (tn T) < NC T := cdn_lt _ hxi
          have hcj : cdn (tv T) (tp T j) (tn T) < NC T := cdn_lt _ hxj
          have hno : ps (tl T) (DD T (tp T i) (gd T (pc T (tp T j)))) 0 = false := by
            rw [hE]
            have q : ps (tl T) (UU T i j &&& seen T) 0 = false := by simpa using hps
            exact q
          refine ⟨σ1, ?_, ⟨fd, fq, y15, y16⟩, yF⟩
          refine Mt.of (by decide +kernel) (Nat.le_of_ble_eq_true rfl) (fun κ C => ?_)
          have k1 := st_98 y0 hT1 y15 hxi p1 p2 hw (R := (if nI w = 0 ∨ fwS T (UU T i j &&& seen T) 13 0 = -4 then fwS T (UU T i j &&& seen T) 13 0 else if fwS T (UU T i j &&& seen T) 13 0 = 0 then -4 else lfS T (tp T i) (tp T j) (fwS T (UU T i j &&& seen T) 13 0).toNatClampNeg (NC T) 0)) C (fun L F hI => by
            obtain ⟨q1, q2⟩ := st_eq hW hxi (gd_V hW _) hno p3 p4 hI (fun k hk => st_bd hW (DD_lt hW.1 _ _) hk)
            rw [hE] at q1
            have q1 : fwS T (UU T i j &&& seen T) 13 0 = noI L L := q1
            rw [q1]
            by_cases hL : L = 0
            · subst hL
              rw [noI_0, noI_0]
              simp
            · obtain ⟨q3, q4⟩ := q2 hL
              rw [lfS_cg (fun c => hE _)] at q4
              rw [noI_p hL, noI_p hL, nI_clamp (by omega), q4]
              by_cases hw0 : w = 0
              · rw [if_pos hw0, if_pos (Or.inl (by rw [hw0]; rfl))]
              · rw [if_neg hw0, if_neg (by
                  rintro (z | z)
                  · exact hw0 ((nI_eq (b := 0) (by omega) (by decide)).mp z)
                  · exact m4_n (by omega) z), if_neg (show ¬ nI L = 0 from fun z => hL ((nI_eq (b := 0) (by omega) (by decide)).mp z))]) (NC T) 0 0 0 (by omega) (scI_0 _ _ _)
          refine g_aload_n (pc := 0) C dX10_steps_0 rfl ?_
          refine g_iload_n (pc := 1) C dX10_steps_1 rfl ?_
          apply cl_X10_126 (pc := 2) C rfl (r_isMan h0 hT (nI i)) dX10_steps_2
          · repeat (first | assumption | exact Cl.s (by assumption) | refine Cl.n (by first | decide | omega) ?_)
          · rfl
          · exact Nat.le_of_ble_eq_true rfl
          refine g_if_eq (pc := 5) C 26 dX10_steps_5 (by decide) (fun c5 => ?_) (fun c5 => ?_)
          · exact absurd c5 (by rw [e]; decide)
          · refine g_aload_n (pc := 8) C dX10_steps_8 rfl ?_
            refine g_iload_n (pc := 9) C dX10_steps_9 rfl ?_
            apply cl_X10_126 (pc := 10) C rfl (r_isMan h0 hT (nI j)) dX10_steps_10
            · repeat (first | assumption | exact Cl.s (by assumption) | refine Cl.n (by first | decide | omega) ?_)
            · rfl
            · exact Nat.le_of_ble_eq_true rfl
            refine g_if_eq (pc := 13) C 26 dX10_steps_13 (by decide) (fun c13 => ?_) (fun c13 => ?_)
            · exact absurd c13 (by rw [f2]; decide)
            · refine g_iload_n (pc := 16) C dX10_steps_16 rfl ?_
              refine g_i2l (pc := 17) C dX10_steps_17 ?_
              refine g_lconst (pc := 18) (v := 0) C dX10_steps_18 (by decide) ?_
              refine g_lconst (pc := 19) (v := 1) C dX10_steps_19 (by decide) ?_
              refine cl_X10_74 (pc := 20) C rfl (r_in _ _ _) dX10_steps_20 rfl (Nat.le_of_ble_eq_true rfl) ?_
              refine g_if_nE (pc := 23) C 28 dX10_steps_23 (by decide) (fun c23 => ?_) (fun c23 => ?_)
              · refine g_aload_n (pc := 28) C dX10_steps_28 rfl ?_
                apply gf_X10_13 (pc := 29) C rfl dX10_steps_29
                · repeat (first | assumption | exact Cl.s (by assumption) | refine Cl.n (by first | decide | omega) ?_)
                · rfl
                refine g_iconst (pc := 32) (v := nI 0) C dX10_steps_32 (by decide) ?_
                apply g_iaload (pc := 33) C dX10_steps_33
                · repeat (first | assumption | exact Cl.s (by assumption) | refine Cl.n (by first | decide | omega) ?_)
                · exact vp_in_nI (n := 0) (by decide) (by decide)
                rw [nI_clamp (by decide), e0]
                refine g_aload_n (pc := 34) C dX10_steps_34 rfl ?_
                refine g_iload_n (pc := 35) C dX10_steps_35 rfl ?_
                refine g_iload_n (pc := 36) C dX10_steps_36 rfl ?_
                apply cl_X10_136 (pc := 37) C rfl (r_unlike h0 hT hi hj) dX10_steps_37
                · repeat (first | assumption | exact Cl.s (by assumption) | refine Cl.n (by first | decide | omega) ?_)
                · rfl
                · exact Nat.le_of_ble_eq_true rfl
                refine g_aload_n (pc := 40) C dX10_steps_40 rfl ?_
                apply cl_X10_140 (pc := 41) C rfl (r_seen h0 hT) dX10_steps_41
                · repeat (first | assumption | exact Cl.s (by assumption) | refine Cl.n (by first | decide | omega) ?_)
                · rfl
                · exact Nat.le_of_ble_eq_true rfl
                refine g_iand (pc := 44) C dX10_steps_44 ?_
                rw [nx_and]
                refine g_iconst (pc := 45) (v := nI 0) C dX10_steps_45 (by decide) ?_
                refine cl_X10_146 (pc := 46) C rfl (r_passes hlaw (by omega) (by decide)) dX10_steps_46 rfl (Nat.le_of_ble_eq_true rfl) ?_
                refine g_if_eq (pc := 49) C 63 dX10_steps_49 (by decide) (fun c49 => ?_) (fun c49 => ?_)
                · refine g_aload_n (pc := 63) C dX10_steps_63 rfl ?_
                  refine g_aload_n (pc := 64) C dX10_steps_64 rfl ?_
                  refine g_aload_n (pc := 65) C dX10_steps_65 rfl ?_
                  refine g_iload_n (pc := 66) C dX10_steps_66 rfl ?_
                  apply cl_X10_132 (pc := 67) C rfl (r_codeOf h0 hT hj) dX10_steps_67
                  · repeat (first | assumption | exact Cl.s (by assumption) | refine Cl.n (by first | decide | omega) ?_)
                  · rfl
                  · exact Nat.le_of_ble_eq_true rfl
                  apply cl_X10_179 (pc := 70) C rfl (r_plain h0 hT (by omega)) dX10_steps_70
                  · repeat (first | assumption | exact Cl.s (by assumption) | refine Cl.n (by first | decide | omega) ?_)
                  · rfl
                  · exact Nat.le_of_ble_eq_true rfl
                  rw [pl_cdn hxj]
                  apply cl_X10_182 (pc := 73) C rfl m1 dX10_steps_73
                  · repeat (first | assumption | exact Cl.s (by assumption) | refine Cl.n (by first | decide | omega) ?_)
                  · rfl
                  · exact Nat.le_of_ble_eq_true rfl
                  refine g_aload_n (pc := 76) C dX10_steps_76 rfl ?_
                  refine g_aload_n (pc := 77) C dX10_steps_77 rfl ?_
                  refine g_iload_n (pc := 78) C dX10_steps_78 rfl ?_
                  apply cl_X10_132 (pc := 79) C rfl (r_codeOf y0 hT1 hi) dX10_steps_79
                  · repeat (first | assumption | exact Cl.s (by assumption) | refine Cl.n (by first | decide | omega) ?_)
                  · rfl
                  · exact Nat.le_of_ble_eq_true rfl
                  apply cl_X10_179 (pc := 82) C rfl (r_plain y0 hT1 (by omega)) dX10_steps_82
                  · repeat (first | assumption | exact Cl.s (by assumption) | refine Cl.n (by first | decide | omega) ?_)
                  · rfl
                  · exact Nat.le_of_ble_eq_true rfl
                  rw [pl_cdn hxi]
                  refine g_istore (pc := 85) C dX10_steps_85 (by decide) rfl ?_
                  refine g_bipush (pc := 87) (v := -4) C dX10_steps_87 (by decide) ?_
                  refine g_istore (pc := 89) C dX10_steps_89 (by decide) rfl ?_
                  refine g_bipush (pc := 91) (v := -4) C dX10_steps_91 (by decide) ?_
                  refine g_istore (pc := 93) C dX10_steps_93 (by decide) rfl ?_
                  refine g_iconst (pc := 95) (v := nI 0) C dX10_steps_95 (by decide) ?_
                  refine g_istore (pc := 96) C dX10_steps_96 (by decide) rfl ?_
                  exact g_to k1 ⟨rfl, rfl, rfl, rfl, rfl, rfl, trivial⟩
                · exact absurd (b2_0.mpr (by simpa using hps)) c49
              · exact absurd c23 (by rw [eB, f3]; decide)
end RS8

