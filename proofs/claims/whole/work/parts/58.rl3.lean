section RL3
variable {G : GG} {σ : WW} {T : TS} {h : HH} {len at_ kept done rm : Int32}
/-- the step down -/
theorem lo_220 (h0 : Cl G σ 0 (cRef G len at_ kept done rm)) {Bf : BS} {σ1 : WW} {fw fd fb : Nat → Int32} (hS : LoS G σ σ1 fw fd fb) {set most dep us u : Nat} (hdep : dep ≤ 8) (k : ∀ σ2 fw2 fd2, LoS G σ σ2 fw2 fd2 fb → (∀ k, k ≤ dep → fw2 k = fw k) → fw2 (dep + 1) = nI 0 → (∀ k, k ≤ dep → fd2 k = fd k) → fd2 (dep + 1) = nI u → LoE G σ Bf σ2 21 (lvL G set most (dep + 1) us)) : LoE G σ Bf σ1 220 [(0, .ref (ga G 0)), (1, .int (nI set)), (2, .int (nI most)), (3, .int (nI dep)), (4, .int (nI us)), (6, .int (nI u))] := by
  obtain ⟨y11, y12, y13, yF⟩ := id hS
  have y0 := h0.fr yF (by decide)
  obtain ⟨σ', k1, k2⟩ := k (va_up (va_up σ1 11 (iA G 10 (upd fw (dep + 1) (nI 0)))) 12 (iA G 11 (upd fd (dep + 1) (nI u)))) _ _ ⟨Cl.n (by decide) (Cl.s y11), Cl.s (Cl.n (by decide) y12), Cl.n (by decide) (Cl.n (by decide) y13), fr3 (fr3 yF (by decide)) (by decide)⟩ (fun k hk => pk_un (by omega)) pk_us (fun k hk => pk_un (by omega)) pk_us
  refine ⟨σ', fun κ C => ?_, k2⟩
  have k1 := k1 κ C
  refine g_iinc (pc := 220) C dX10_longestOf_220 rfl (by decide) rfl ?_
  rw [show nI dep + Int32.ofInt 1 = nI (dep + 1) from nI_1 dep]
  refine g_aload_n (pc := 223) C dX10_longestOf_223 rfl ?_
  apply gf_X10_41 (pc := 224) C rfl dX10_longestOf_224
  · repeat (first | assumption | exact Cl.s (by assumption) | refine Cl.n (by first | decide | omega) ?_)
  · rfl
  refine g_iload_n (pc := 227) C dX10_longestOf_227 rfl ?_
  refine g_iconst (pc := 228) (v := nI 0) C dX10_longestOf_228 (by decide) ?_
  apply g_iastore (pc := 229) C dX10_longestOf_229
  · repeat (first | assumption | exact Cl.s (by assumption) | refine Cl.n (by first | decide | omega) ?_)
  · exact vp_in_nI (by omega) (by decide)
  intro hw229
  rw [nI_clamp (by omega)]
  refine g_aload_n (pc := 230) C dX10_longestOf_230 rfl ?_
  apply gf_X10_44 (pc := 231) C rfl dX10_longestOf_231
  · repeat (first | assumption | exact Cl.s (by assumption) | refine Cl.n (by first | decide | omega) ?_)
  · rfl
  refine g_iload_n (pc := 234) C dX10_longestOf_234 rfl ?_
  refine g_iload (pc := 235) C dX10_longestOf_235 rfl ?_
  apply g_iastore (pc := 237) C dX10_longestOf_237
  · repeat (first | assumption | exact Cl.s (by assumption) | refine Cl.n (by first | decide | omega) ?_)
  · exact vp_in_nI (by omega) (by decide)
  intro hw237
  rw [nI_clamp (by omega)]
  refine g_goto (pc := 238) C 21 dX10_longestOf_238 (by decide) ?_
  exact g_to k1 ⟨rfl, rfl, rfl, rfl, rfl, trivial⟩
/-- the best copied -/
theorem lo_194 (h0 : Cl G σ 0 (cRef G len at_ kept done rm)) {Bf : BS} {set most dep us u : Nat} (hdep : dep ≤ 8) {fw fd : Nat → Int32} : ∀ e {k : Nat} {σ1 : WW} {fb : Nat → Int32}, k + e = dep + 1 → LoS G σ σ1 fw fd fb → (∀ j, j < k → fb j = fw j) → (∀ σ2 fb2, LoS G σ σ2 fw fd fb2 → (∀ j, j ≤ dep → fb2 j = fw j) → LoE G σ Bf σ2 220 [(0, .ref (ga G 0)), (1, .int (nI set)), (2, .int (nI most)), (3, .int (nI dep)), (4, .int (nI us)), (6, .int (nI u))]) → LoE G σ Bf σ1 194 [(0, .ref (ga G 0)), (1, .int (nI set)), (2, .int (nI most)), (3, .int (nI dep)), (4, .int (nI us)), (6, .int (nI u)), (8, .int (nI k))]
  | 0, k, σ1, fb, hk, hS, hb, kk => by
    obtain ⟨y11, y12, y13, yF⟩ := id hS
    have y0 := h0.fr yF (by decide)
    obtain ⟨σ', k1, k2⟩ := kk σ1 fb hS (fun j hj => hb j (by omega))
    refine ⟨σ', fun κ C => ?_, k2⟩
    have k1 := k1 κ C
    refine g_iload (pc := 194) C dX10_longestOf_194 rfl ?_
    refine g_iload_n (pc := 196) C dX10_longestOf_196 rfl ?_
    refine g_icmp_gt (pc := 197) C 220 dX10_longestOf_197 (by decide) (fun c197 => ?_) (fun c197 => ?_)
    · exact g_to k1 ⟨rfl, rfl, rfl, rfl, rfl, rfl, trivial⟩
    · exact absurd (nI_lt (by omega) (by omega)) c197
  | e + 1, k, σ1, fb, hk, hS, hb, kk => by
    obtain ⟨y11, y12, y13, yF⟩ := id hS
    have y0 := h0.fr yF (by decide)
    obtain ⟨σ', k1, k2⟩ := lo_194 h0 hdep (Bf := Bf) (set := set) (most := most) (us := us) (u := u) (fw := fw) (fd := fd) e (k := k + 1) (σ1 := va_up σ1 13 (iA G 9 (upd fb k (fw k)))) (by omega) ⟨Cl.n (by decide) y11, Cl.n (by decide) y12, Cl.s y13, fr3 yF (by decide)⟩ (fun j hj => by
      by_cases z : j = k
      · rw [z, pk_us]
      · rw [pk_un z]; exact hb j (by omega)) kk
    refine ⟨σ', fun κ C => ?_, k2⟩
    have k1 := k1 κ C
    refine g_iload (pc := 194) C dX10_longestOf_194 rfl ?_
    refine g_iload_n (pc := 196) C dX10_longestOf_196 rfl ?_
    refine g_icmp_gt (pc := 197) C 220 dX10_longestOf_197 (by decide) (fun c197 => ?_) (fun c197 => ?_)
    · exact absurd c197 (nI_nlt (by omega) (by omega))
    · refine g_aload_n (pc := 200) C dX10_longestOf_200 rfl ?_
      apply gf_X10_47 (pc := 201) C rfl dX10_longestOf_201
      · repeat (first | assumption | exact Cl.s (by assumption) | refine Cl.n (by first | decide | omega) ?_)
      · rfl
      refine g_iload (pc := 204) C dX10_longestOf_204 rfl ?_
      refine g_aload_n (pc := 206) C dX10_longestOf_206 rfl ?_
      apply gf_X10_41 (pc := 207) C rfl dX10_longestOf_207
      · repeat (first | assumption | exact Cl.s (by assumption) | refine Cl.n (by first | decide | omega) ?_)
      · rfl
      refine g_iload (pc := 210) C dX10_longestOf_210 rfl ?_
      apply g_iaload (pc := 212) C dX10_longestOf_212
      · repeat (first | assumption | exact Cl.s (by assumption) | refine Cl.n (by first | decide | omega) ?_)
      · exact vp_in_nI (by omega) (by decide)
      rw [nI_clamp (by omega)]
      apply g_iastore (pc := 213) C dX10_longestOf_213
      · repeat (first | assumption | exact Cl.s (by assumption) | refine Cl.n (by first | decide | omega) ?_)
      · exact vp_in_nI (by omega) (by decide)
      intro hw213
      rw [nI_clamp (by omega)]
      refine g_iinc (pc := 214) C dX10_longestOf_214 rfl (by decide) rfl ?_
      refine g_goto (pc := 217) C 194 dX10_longestOf_217 (by decide) ?_
      rw [show nI k + Int32.ofInt 1 = nI (k + 1) from nI_1 k]
      exact g_to k1 ⟨rfl, rfl, rfl, rfl, rfl, rfl, rfl, trivial⟩
/-- the question: yes -/
theorem lo_171 (h0 : Cl G σ 0 (cRef G len at_ kept done rm)) (hT : QT G σ T) {Bf : BS} {σ1 : WW} {fw fd fb : Nat → Int32} (hS : LoS G σ σ1 fw fd fb) {set rest most dep us p L d : Nat} (hs : set < 512) (hI : lInv set rest us) (hp : p < tm T) (hdep : dep ≤ 8) (hmo : most ≤ 9) (hfd : fd dep = nI d) (hd32 : d < 32) (hL0 : dep = 0 ↔ L = 0) (hy : rest.testBit p = true ∧ lLets T L d p = true) (k : ∀ σ2 fw2 fd2 fb2, LoS G σ σ2 fw2 fd2 fb2 → (∀ k, k ≤ dep → fw2 k = fw k) → fw2 (dep + 1) = nI 0 → (∀ k, k ≤ dep → fd2 k = fd k) → fd2 (dep + 1) = nI (uL T L p) → (most < dep + 1 → ∀ j, j ≤ dep → fb2 j = fw j) → (¬ most < dep + 1 → fb2 = fb) → LoE G σ Bf σ2 21 (lvL G set (if most < dep + 1 then dep + 1 else most) (dep + 1) (us ||| 1 <<< p))) : LoE G σ Bf σ1 108 [(0, .ref (ga G 0)), (1, .int (nI set)), (2, .int (nI most)), (3, .int (nI dep)), (4, .int (nI us)), (5, .int (nI p)), (6, .int (nI (uL T L p)))] := by
  obtain ⟨y11, y12, y13, yF⟩ := id hS
  have y0 := h0.fr yF (by decide)
  have hT1 := hT.fr yF (by decide) (by decide) (by decide) (by decide) (by decide) (by decide)
  obtain ⟨ft, fn, fv, fl, fm, fp, h2, h3, h4, h5, h6, h7, hW, -, e0, e1, e2, e3, hv, hl, hp9⟩ := id hT1
  have hm := hW.2.2.2.2.1
  have hlaw := hW.2.2.2.2.2.2.1
  have hu := uL_lt T L p hW.1
  have hu32 : us ||| 1 <<< p < 512 := Nat.or_lt_two_pow (n := 9) hI.1 (one_shl_lt (by omega))
  have tq := lo_tq (p := p) (by omega) hs hI.1
  rw [← hI.2 p (by omega)] at tq
  have k171 : LoE G σ Bf σ1 171 [(0, .ref (ga G 0)), (1, .int (nI set)), (2, .int (nI most)), (3, .int (nI dep)), (4, .int (nI us)), (5, .int (nI p)), (6, .int (nI (uL T L p)))] := by
    by_cases hlt : most < dep + 1
    · rw [if_pos hlt] at k
      obtain ⟨σ', k1, k2⟩ := lo_194 h0 hdep (Bf := Bf) (set := set) (most := dep + 1) (us := us ||| 1 <<< p) (u := uL T L p) (dep + 1) (k := 0) (by omega) hS (fun j hj => by omega) (fun σ2 fb2 s1 s2 => lo_220 h0 s1 hdep (fun σ3 fw3 fd3 t1 t2 t3 t4 t5 => k σ3 fw3 fd3 fb2 t1 t2 t3 t4 t5 (fun _ => s2) (fun q => absurd hlt q)))
      refine ⟨σ', fun κ C => ?_, k2⟩
      have k1 := k1 κ C
      refine g_iload (pc := 171) C dX10_longestOf_171 rfl ?_
      refine g_iconst (pc := 173) (v := nI 1) C dX10_longestOf_173 (by decide) ?_
      refine g_iload (pc := 174) C dX10_longestOf_174 rfl ?_
      refine g_ishl (pc := 176) C dX10_longestOf_176 ?_
      refine g_ior (pc := 177) C dX10_longestOf_177 ?_
      rw [nx_shl _ (by omega), nx_or]
      refine g_istore (pc := 178) C dX10_longestOf_178 (by decide) rfl ?_
      refine g_iload_n (pc := 180) C dX10_longestOf_180 rfl ?_
      refine g_iconst (pc := 181) (v := nI 1) C dX10_longestOf_181 (by decide) ?_
      refine g_iadd (pc := 182) C dX10_longestOf_182 ?_
      rw [nI_add]
      refine g_iload_n (pc := 183) C dX10_longestOf_183 rfl ?_
      refine g_icmp_le (pc := 184) C 220 dX10_longestOf_184 (by decide) (fun c184 => ?_) (fun c184 => ?_)
      · exact absurd c184 (nI_ge (by omega) (by omega))
      · refine g_iload_n (pc := 187) C dX10_longestOf_187 rfl ?_
        refine g_iconst (pc := 188) (v := nI 1) C dX10_longestOf_188 (by decide) ?_
        refine g_iadd (pc := 189) C dX10_longestOf_189 ?_
        rw [nI_add]
        refine g_istore_n (pc := 190) C dX10_longestOf_190 (by decide) rfl ?_
        refine g_iconst (pc := 191) (v := nI 0) C dX10_longestOf_191 (by decide) ?_
        refine g_istore (pc := 192) C dX10_longestOf_192 (by decide) rfl ?_
        exact g_to k1 ⟨rfl, rfl, rfl, rfl, rfl, rfl, rfl, trivial⟩
    · rw [if_neg hlt] at k
      obtain ⟨σ', k1, k2⟩ := lo_220 h0 hS hdep (Bf := Bf) (set := set) (most := most) (us := us ||| 1 <<< p) (u := uL T L p) (fun σ3 fw3 fd3 t1 t2 t3 t4 t5 => k σ3 fw3 fd3 fb t1 t2 t3 t4 t5 (fun q => absurd q hlt) (fun _ => rfl))
      refine ⟨σ', fun κ C => ?_, k2⟩
      have k1 := k1 κ C
      refine g_iload (pc := 171) C dX10_longestOf_171 rfl ?_
      refine g_iconst (pc := 173) (v := nI 1) C dX10_longestOf_173 (by decide) ?_
      refine g_iload (pc := 174) C dX10_longestOf_174 rfl ?_
      refine g_ishl (pc := 176) C dX10_longestOf_176 ?_
      refine g_ior (pc := 177) C dX10_longestOf_177 ?_
      rw [nx_shl _ (by omega), nx_or]
      refine g_istore (pc := 178) C dX10_longestOf_178 (by decide) rfl ?_
      refine g_iload_n (pc := 180) C dX10_longestOf_180 rfl ?_
      refine g_iconst (pc := 181) (v := nI 1) C dX10_longestOf_181 (by decide) ?_
      refine g_iadd (pc := 182) C dX10_longestOf_182 ?_
      rw [nI_add]
      refine g_iload_n (pc := 183) C dX10_longestOf_183 rfl ?_
      refine g_icmp_le (pc := 184) C 220 dX10_longestOf_184 (by decide) (fun c184 => ?_) (fun c184 => ?_)
      · exact g_to k1 ⟨rfl, rfl, rfl, rfl, rfl, rfl, trivial⟩
      · exact absurd (nI_le (by omega) (by omega)) c184
  obtain ⟨σ', k1, k2⟩ := k171
  refine ⟨σ', fun κ C => ?_, k2⟩
  have k1 := k1 κ C
  have k151 : Go G mX10_longestOf κ (some (.int (nI Bf.1))) σ' σ1 146 [(0, .ref (ga G 0)), (1, .int (nI set)), (2, .int (nI most)), (3, .int (nI dep)), (4, .int (nI us)), (5, .int (nI p)), (6, .int (nI (uL T L p)))] [] := by
    refine g_iconst (pc := 146) (v := nI 1) C dX10_longestOf_146 (by decide) ?_
    refine g_goto (pc := 147) C 151 dX10_longestOf_147 (by decide) ?_
    refine g_istore (pc := 151) C dX10_longestOf_151 (by decide) rfl ?_
    refine g_iload (pc := 153) C dX10_longestOf_153 rfl ?_
    refine g_if_nE (pc := 155) C 171 dX10_longestOf_155 (by decide) (fun c155 => ?_) (fun c155 => ?_)
    · exact g_to k1 ⟨rfl, rfl, rfl, rfl, rfl, rfl, rfl, trivial⟩
    · exact absurd c155 (by decide)
  by_cases hL : L = 0
  · refine g_iload_n (pc := 108) C dX10_longestOf_108 rfl ?_
    refine g_iload (pc := 109) C dX10_longestOf_109 rfl ?_
    refine g_iconst (pc := 111) (v := -1) C dX10_longestOf_111 (by decide) ?_
    refine g_ixor (pc := 112) C dX10_longestOf_112 ?_
    refine g_iand (pc := 113) C dX10_longestOf_113 ?_
    refine g_iconst (pc := 114) (v := nI 1) C dX10_longestOf_114 (by decide) ?_
    refine g_iload (pc := 115) C dX10_longestOf_115 rfl ?_
    refine g_ishl (pc := 117) C dX10_longestOf_117 ?_
    rw [nx_shl _ (by omega)]
    refine g_iand (pc := 118) C dX10_longestOf_118 ?_
    refine g_if_eq (pc := 119) C 150 dX10_longestOf_119 (by decide) (fun c119 => ?_) (fun c119 => ?_)
    · exact absurd (tq.mp c119) (by rw [hy.1]; decide)
    · refine g_iload_n (pc := 122) C dX10_longestOf_122 rfl ?_
      refine g_if_eq (pc := 123) C 146 dX10_longestOf_123 (by decide) (fun c123 => ?_) (fun c123 => ?_)
      · exact g_to k151 ⟨rfl, rfl, rfl, rfl, rfl, rfl, rfl, trivial⟩
      · exact absurd (by rw [hL0.mpr hL]; rfl) c123
  · have hps : ps (tl T) (uL T L p) d = true := by simpa [lLets, hL] using hy.2
    refine g_iload_n (pc := 108) C dX10_longestOf_108 rfl ?_
    refine g_iload (pc := 109) C dX10_longestOf_109 rfl ?_
    refine g_iconst (pc := 111) (v := -1) C dX10_longestOf_111 (by decide) ?_
    refine g_ixor (pc := 112) C dX10_longestOf_112 ?_
    refine g_iand (pc := 113) C dX10_longestOf_113 ?_
    refine g_iconst (pc := 114) (v := nI 1) C dX10_longestOf_114 (by decide) ?_
    refine g_iload (pc := 115) C dX10_longestOf_115 rfl ?_
    refine g_ishl (pc := 117) C dX10_longestOf_117 ?_
    rw [nx_shl _ (by omega)]
    refine g_iand (pc := 118) C dX10_longestOf_118 ?_
    refine g_if_eq (pc := 119) C 150 dX10_longestOf_119 (by decide) (fun c119 => ?_) (fun c119 => ?_)
    · exact absurd (tq.mp c119) (by rw [hy.1]; decide)
    · refine g_iload_n (pc := 122) C dX10_longestOf_122 rfl ?_
      refine g_if_eq (pc := 123) C 146 dX10_longestOf_123 (by decide) (fun c123 => ?_) (fun c123 => ?_)
      · exact absurd ((nI_eq (b := 0) (by omega) (by decide)).mp c123) (fun z => hL (hL0.mp z))
      · refine g_aload_n (pc := 126) C dX10_longestOf_126 rfl ?_
        apply gf_X10_13 (pc := 127) C rfl dX10_longestOf_127
        · repeat (first | assumption | exact Cl.s (by assumption) | refine Cl.n (by first | decide | omega) ?_)
        · rfl
        refine g_iconst (pc := 130) (v := nI 0) C dX10_longestOf_130 (by decide) ?_
        apply g_iaload (pc := 131) C dX10_longestOf_131
        · repeat (first | assumption | exact Cl.s (by assumption) | refine Cl.n (by first | decide | omega) ?_)
        · exact vp_in_nI (n := 0) (by decide) (by decide)
        rw [nI_clamp (by decide), e0]
        refine g_iload (pc := 132) C dX10_longestOf_132 rfl ?_
        refine g_aload_n (pc := 134) C dX10_longestOf_134 rfl ?_
        apply gf_X10_44 (pc := 135) C rfl dX10_longestOf_135
        · repeat (first | assumption | exact Cl.s (by assumption) | refine Cl.n (by first | decide | omega) ?_)
        · rfl
        refine g_iload_n (pc := 138) C dX10_longestOf_138 rfl ?_
        apply g_iaload (pc := 139) C dX10_longestOf_139
        · repeat (first | assumption | exact Cl.s (by assumption) | refine Cl.n (by first | decide | omega) ?_)
        · exact vp_in_nI (by omega) (by decide)
        rw [nI_clamp (by omega), hfd]
        refine cl_X10_146 (pc := 140) C rfl (r_passes hlaw (by omega) (by omega)) dX10_longestOf_140 rfl (Nat.le_of_ble_eq_true rfl) ?_
        refine g_if_eq (pc := 143) C 150 dX10_longestOf_143 (by decide) (fun c143 => ?_) (fun c143 => ?_)
        · exact absurd (b2_0.mp c143) (by rw [hps]; decide)
        · exact g_to k151 ⟨rfl, rfl, rfl, rfl, rfl, rfl, rfl, trivial⟩
/-- the step up -/
theorem lo_up (h0 : Cl G σ 0 (cRef G len at_ kept done rm)) (hT : QT G σ T) {Bf : BS} {σ1 : WW} {fw fd fb : Nat → Int32} (hS : LoS G σ σ1 fw fd fb) {set most dep us p : Nat} (hu : us < 512) (hdep : dep ≤ 8) (hp : p < 9) (hwp : fw dep = nI p) (hw : fw (dep + 1) = nI (tm T)) (k : ∀ σ2 fw2, LoS G σ σ2 fw2 fd fb → (∀ k, k < dep → fw2 k = fw k) → fw2 dep = nI (p + 1) → LoE G σ Bf σ2 21 (lvL G set most dep (clr us p))) : LoE G σ Bf σ1 21 (lvL G set most (dep + 1) us) := by
  obtain ⟨y11, y12, y13, yF⟩ := id hS
  have y0 := h0.fr yF (by decide)
  have hT1 := hT.fr yF (by decide) (by decide) (by decide) (by decide) (by decide) (by decide)
  obtain ⟨ft, fn, fv, fl, fm, fp, h2, h3, h4, h5, h6, h7, hW, -, e0, e1, e2, e3, hv, hl, hp9⟩ := id hT1
  have hm := hW.2.2.2.2.1
  obtain ⟨σ', k1, k2⟩ := k (va_up σ1 11 (iA G 10 (upd fw dep (nI (p + 1))))) _ ⟨Cl.s y11, Cl.n (by decide) y12, Cl.n (by decide) y13, fr3 yF (by decide)⟩ (fun k hk => pk_un (by omega)) pk_us
  refine ⟨σ', fun κ C => ?_, k2⟩
  have k1 := k1 κ C
  refine g_iload_n (pc := 21) C dX10_longestOf_21 rfl ?_
  refine g_if_lt (pc := 22) C 241 dX10_longestOf_22 (by decide) (fun c22 => ?_) (fun c22 => ?_)
  · exact absurd c22 (nI_pos (by omega))
  · refine g_aload_n (pc := 25) C dX10_longestOf_25 rfl ?_
    apply gf_X10_41 (pc := 26) C rfl dX10_longestOf_26
    · repeat (first | assumption | exact Cl.s (by assumption) | refine Cl.n (by first | decide | omega) ?_)
    · rfl
    refine g_iload_n (pc := 29) C dX10_longestOf_29 rfl ?_
    apply g_iaload (pc := 30) C dX10_longestOf_30
    · repeat (first | assumption | exact Cl.s (by assumption) | refine Cl.n (by first | decide | omega) ?_)
    · exact vp_in_nI (by omega) (by decide)
    rw [nI_clamp (by omega), hw]
    refine g_istore (pc := 31) C dX10_longestOf_31 (by decide) rfl ?_
    refine g_iload (pc := 33) C dX10_longestOf_33 rfl ?_
    refine g_aload_n (pc := 35) C dX10_longestOf_35 rfl ?_
    apply gf_X10_26 (pc := 36) C rfl dX10_longestOf_36
    · repeat (first | assumption | exact Cl.s (by assumption) | refine Cl.n (by first | decide | omega) ?_)
    · rfl
    refine g_iconst (pc := 39) (v := nI 0) C dX10_longestOf_39 (by decide) ?_
    apply g_iaload (pc := 40) C dX10_longestOf_40
    · repeat (first | assumption | exact Cl.s (by assumption) | refine Cl.n (by first | decide | omega) ?_)
    · exact vp_in_nI (n := 0) (by decide) (by decide)
    rw [nI_clamp (by decide), e3]
    refine g_icmp_lt (pc := 41) C 79 dX10_longestOf_41 (by decide) (fun c41 => ?_) (fun c41 => ?_)
    · exact absurd c41 (nI_nlt (Nat.le_refl _) (by omega))
    · refine g_iinc (pc := 44) C dX10_longestOf_44 rfl (by decide) rfl ?_
      rw [show nI (dep + 1) + Int32.ofInt (-1) = lat (dep + 1) by rw [lat, Int32.sub_eq_add_neg]; rfl, lat_s]
      refine g_iload_n (pc := 47) C dX10_longestOf_47 rfl ?_
      refine g_if_lt (pc := 48) C 21 dX10_longestOf_48 (by decide) (fun c48 => ?_) (fun c48 => ?_)
      · exact absurd c48 (nI_pos (by omega))
      · refine g_iload (pc := 51) C dX10_longestOf_51 rfl ?_
        refine g_iconst (pc := 53) (v := nI 1) C dX10_longestOf_53 (by decide) ?_
        refine g_aload_n (pc := 54) C dX10_longestOf_54 rfl ?_
        apply gf_X10_41 (pc := 55) C rfl dX10_longestOf_55
        · repeat (first | assumption | exact Cl.s (by assumption) | refine Cl.n (by first | decide | omega) ?_)
        · rfl
        refine g_iload_n (pc := 58) C dX10_longestOf_58 rfl ?_
        apply g_iaload (pc := 59) C dX10_longestOf_59
        · repeat (first | assumption | exact Cl.s (by assumption) | refine Cl.n (by first | decide | omega) ?_)
        · exact vp_in_nI (by omega) (by decide)
        rw [nI_clamp (by omega), hwp]
        refine g_ishl (pc := 60) C dX10_longestOf_60 ?_
        rw [nx_shl _ (by omega)]
        refine g_iconst (pc := 61) (v := -1) C dX10_longestOf_61 (by decide) ?_
        refine g_ixor (pc := 62) C dX10_longestOf_62 ?_
        refine g_iand (pc := 63) C dX10_longestOf_63 ?_
        rw [clr_I' hp hu]
        refine g_istore (pc := 64) C dX10_longestOf_64 (by decide) rfl ?_
        refine g_aload_n (pc := 66) C dX10_longestOf_66 rfl ?_
        apply gf_X10_41 (pc := 67) C rfl dX10_longestOf_67
        · repeat (first | assumption | exact Cl.s (by assumption) | refine Cl.n (by first | decide | omega) ?_)
        · rfl
        refine g_iload_n (pc := 70) C dX10_longestOf_70 rfl ?_
        refine g_dup2 (pc := 71) C dX10_longestOf_71 rfl rfl ?_
        apply g_iaload (pc := 72) C dX10_longestOf_72
        · repeat (first | assumption | exact Cl.s (by assumption) | refine Cl.n (by first | decide | omega) ?_)
        · exact vp_in_nI (by omega) (by decide)
        rw [nI_clamp (by omega), hwp]
        refine g_iconst (pc := 73) (v := nI 1) C dX10_longestOf_73 (by decide) ?_
        refine g_iadd (pc := 74) C dX10_longestOf_74 ?_
        rw [nI_add]
        apply g_iastore (pc := 75) C dX10_longestOf_75
        · repeat (first | assumption | exact Cl.s (by assumption) | refine Cl.n (by first | decide | omega) ?_)
        · exact vp_in_nI (by omega) (by decide)
        intro hw75
        rw [nI_clamp (by omega)]
        refine g_goto (pc := 76) C 21 dX10_longestOf_76 (by decide) ?_
        exact g_to k1 ⟨rfl, rfl, rfl, rfl, rfl, trivial⟩
abbrev LoH (G : GG) (σ : WW) (T : TS) (set rest L d : Nat) (ws : Nat → Int32) (dep : Nat) (B : BS) (us p : Nat) (σ1 : WW) (fw fd fb : Nat → Int32) : Prop := rest < 512 ∧ dep + many rest ≤ 9 ∧ B.1 ≤ 9 ∧ lInv set rest us ∧ LoS G σ σ1 fw fd fb ∧ fw dep = nI p ∧ fd dep = nI d ∧ d < 32 ∧ (dep = 0 ↔ L = 0) ∧ (0 < dep → 1 ≤ L ∧ L ≤ tm T ∧ fw (dep - 1) = nI (L - 1)) ∧ (∀ k, k < dep → fw k = ws k) ∧ ∀ k, k < B.1 → fb k = B.2 k
theorem LoH.r {G : GG} {σ : WW} {T : TS} {set rest L d : Nat} {ws : Nat → Int32} {dep : Nat} {B : BS} {us p : Nat} {σ1 : WW} {fw fd fb : Nat → Int32} (H : LoH G σ T set rest L d ws dep B us p σ1 fw fd fb) : rest < 512 := H.1
theorem LoH.dm {G : GG} {σ : WW} {T : TS} {set rest L d : Nat} {ws : Nat → Int32} {dep : Nat} {B : BS} {us p : Nat} {σ1 : WW} {fw fd fb : Nat → Int32} (H : LoH G σ T set rest L d ws dep B us p σ1 fw fd fb) : dep + many rest ≤ 9 := H.2.1
theorem LoH.b9 {G : GG} {σ : WW} {T : TS} {set rest L d : Nat} {ws : Nat → Int32} {dep : Nat} {B : BS} {us p : Nat} {σ1 : WW} {fw fd fb : Nat → Int32} (H : LoH G σ T set rest L d ws dep B us p σ1 fw fd fb) : B.1 ≤ 9 := H.2.2.1
theorem LoH.i {G : GG} {σ : WW} {T : TS} {set rest L d : Nat} {ws : Nat → Int32} {dep : Nat} {B : BS} {us p : Nat} {σ1 : WW} {fw fd fb : Nat → Int32} (H : LoH G σ T set rest L d ws dep B us p σ1 fw fd fb) : lInv set rest us := H.2.2.2.1
theorem LoH.s {G : GG} {σ : WW} {T : TS} {set rest L d : Nat} {ws : Nat → Int32} {dep : Nat} {B : BS} {us p : Nat} {σ1 : WW} {fw fd fb : Nat → Int32} (H : LoH G σ T set rest L d ws dep B us p σ1 fw fd fb) : LoS G σ σ1 fw fd fb := H.2.2.2.2.1
theorem LoH.w {G : GG} {σ : WW} {T : TS} {set rest L d : Nat} {ws : Nat → Int32} {dep : Nat} {B : BS} {us p : Nat} {σ1 : WW} {fw fd fb : Nat → Int32} (H : LoH G σ T set rest L d ws dep B us p σ1 fw fd fb) : fw dep = nI p := H.2.2.2.2.2.1
theorem LoH.d {G : GG} {σ : WW} {T : TS} {set rest L d : Nat} {ws : Nat → Int32} {dep : Nat} {B : BS} {us p : Nat} {σ1 : WW} {fw fd fb : Nat → Int32} (H : LoH G σ T set rest L d ws dep B us p σ1 fw fd fb) : fd dep = nI d := H.2.2.2.2.2.2.1
theorem LoH.d32 {G : GG} {σ : WW} {T : TS} {set rest L d : Nat} {ws : Nat → Int32} {dep : Nat} {B : BS} {us p : Nat} {σ1 : WW} {fw fd fb : Nat → Int32} (H : LoH G σ T set rest L d ws dep B us p σ1 fw fd fb) : d < 32 := H.2.2.2.2.2.2.2.1
theorem LoH.l0 {G : GG} {σ : WW} {T : TS} {set rest L d : Nat} {ws : Nat → Int32} {dep : Nat} {B : BS} {us p : Nat} {σ1 : WW} {fw fd fb : Nat → Int32} (H : LoH G σ T set rest L d ws dep B us p σ1 fw fd fb) : (dep = 0 ↔ L = 0) := H.2.2.2.2.2.2.2.2.1
theorem LoH.l1 {G : GG} {σ : WW} {T : TS} {set rest L d : Nat} {ws : Nat → Int32} {dep : Nat} {B : BS} {us p : Nat} {σ1 : WW} {fw fd fb : Nat → Int32} (H : LoH G σ T set rest L d ws dep B us p σ1 fw fd fb) : (0 < dep → 1 ≤ L ∧ L ≤ tm T ∧ fw (dep - 1) = nI (L - 1)) := H.2.2.2.2.2.2.2.2.2.1
theorem LoH.ws {G : GG} {σ : WW} {T : TS} {set rest L d : Nat} {ws : Nat → Int32} {dep : Nat} {B : BS} {us p : Nat} {σ1 : WW} {fw fd fb : Nat → Int32} (H : LoH G σ T set rest L d ws dep B us p σ1 fw fd fb) : (∀ k, k < dep → fw k = ws k) := H.2.2.2.2.2.2.2.2.2.2.1
theorem LoH.b {G : GG} {σ : WW} {T : TS} {set rest L d : Nat} {ws : Nat → Int32} {dep : Nat} {B : BS} {us p : Nat} {σ1 : WW} {fw fd fb : Nat → Int32} (H : LoH G σ T set rest L d ws dep B us p σ1 fw fd fb) : ∀ k, k < B.1 → fb k = B.2 k := H.2.2.2.2.2.2.2.2.2.2.2
def LoK (G : GG) (σ : WW) (T : TS) (Bf : BS) (set rest dep : Nat) (fw fd : Nat → Int32) (R : BS) : Prop := ∀ σ2 fw2 fd2 fb2 us2, LoS G σ σ2 fw2 fd2 fb2 → lInv set rest us2 → (∀ k, k < dep → fw2 k = fw k) → fw2 dep = nI (tm T) → (∀ k, k ≤ dep → fd2 k = fd k) → (∀ k, k < R.1 → fb2 k = R.2 k) → LoE G σ Bf σ2 21 (lvL G set R.1 dep us2)
theorem lo_main (h0 : Cl G σ 0 (cRef G len at_ kept done rm)) (hT : QT G σ T) {Bf : BS} {set : Nat} (hs : set < 512) : ∀ c {rest L d : Nat} {ws : Nat → Int32} {dep : Nat} {B : BS} {us : Nat} {σ1 : WW} {fw fd fb : Nat → Int32}, many rest < c → LoH G σ T set rest L d ws dep B us 0 σ1 fw fd fb → LoK G σ T Bf set rest dep fw fd (dF T c rest L d ws dep B) → LoE G σ Bf σ1 21 (lvL G set B.1 dep us)
  | 0, rest, L, d, ws, dep, B, us, σ1, fw, fd, fb, hc, H, K => by omega
  | c + 1, rest, L, d, ws, dep, B, us, σ1, fw, fd, fb, hc, H, K => by
    have hm := hT.w.1.2.2.2.2.1
    have inner : ∀ e p {B : BS} {us : Nat} {σ1 : WW} {fw fd fb : Nat → Int32}, p + e = tm T → LoH G σ T set rest L d ws dep B us p σ1 fw fd fb → LoK G σ T Bf set rest dep fw fd (dW T (dF T c) rest L d ws dep e p B) → LoE G σ Bf σ1 21 (lvL G set B.1 dep us) := by
      intro e
      induction e with
      | zero =>
        intro p B us σ1 fw fd fb hp H K
        exact K σ1 fw fd fb us H.s H.i (fun _ _ => rfl) (by rw [H.w, ← hp, Nat.add_zero]) (fun _ _ => rfl) H.b
      | succ e ih =>
        intro p B us σ1 fw fd fb hp H K
        have hpm : p < tm T := by omega
        refine lo_108 h0 hT H.s hpm (by have := H.dm; omega) H.w (H.l0.mp) H.l1 ?_
        unfold dW at K
        by_cases hq : rest.testBit p = true ∧ lLets T L d p = true
        · rw [if_pos hq] at K
          have hcm := clr_many p (by omega) rest H.r hq.1
          have hdm := H.dm
          have hset : set.testBit p = true := by
            have := H.i.2 p (by omega)
            rw [hq.1] at this
            cases z : set.testBit p
            · rw [z] at this; simp at this
            · rfl
          refine lo_171 h0 hT H.s hs H.i hpm (by omega) H.b9 H.d H.d32 H.l0 hq (fun σ2 fw2 fd2 fb2 s1 s2 s3 s4 s5 s6 s7 => ?_)
          generalize hB1 : (if B.1 < dep + 1 then ((dep + 1, upd ws dep (nI p)) : BS) else B) = B1 at K
          have eB1 : (if B.1 < dep + 1 then dep + 1 else B.1) = B1.1 := by
            rw [← hB1]; split <;> rfl
          rw [eB1]
          have hb9 := H.b9
          have hu32 := uL_lt T L p hT.w.1.1
          refine lo_main h0 hT hs c (rest := clr rest p) (L := p + 1) (d := uL T L p) (ws := upd ws dep (nI p)) (dep := dep + 1) (B := B1) (by omega) ⟨clr_512 H.r, by omega, by rw [← eB1]; split <;> omega, lInv_dn H.i H.r (by omega) hq.1, s1, s3, s5, hu32, ⟨fun q => by omega, fun q => by omega⟩, fun _ => ⟨by omega, by omega, by rw [Nat.add_sub_cancel, Nat.add_sub_cancel, s2 dep (Nat.le_refl _), H.w]⟩, fun k hk => ?_, fun k hk => ?_⟩ ?_
          · rw [s2 k (by omega)]
            by_cases z : k = dep
            · rw [z, pk_us, H.w]
            · rw [pk_un z]; exact H.ws k (by omega)
          · by_cases z : B.1 < dep + 1
            · have e2 : B1 = (dep + 1, upd ws dep (nI p)) := by rw [← hB1, if_pos z]
              rw [e2] at hk ⊢
              rw [s6 z k (by have : k < dep + 1 := hk; omega)]
              show fw k = upd ws dep (nI p) k
              by_cases z : k = dep
              · rw [z, pk_us, H.w]
              · rw [pk_un z]; exact H.ws k (by have : k < dep + 1 := hk; omega)
            · have e2 : B1 = B := by rw [← hB1, if_neg z]
              rw [e2] at hk ⊢
              rw [s7 z]
              exact H.b k hk
          · intro σ3 fw3 fd3 fb3 us3 t1 t2 t3 t4 t5 t6
            have hB1g : B1.1 ≤ 9 := by rw [← eB1]; split <;> omega
            have h9 := dF_9 hm c (clr rest p) (p + 1) (uL T L p) (upd ws dep (nI p)) (dep + 1) B1 (clr_512 H.r) (by omega) hB1g
            generalize dF T c (clr rest p) (p + 1) (uL T L p) (upd ws dep (nI p)) (dep + 1) B1 = B2 at K h9 t6 ⊢
            refine lo_up h0 hT (p := p) t1 t2.1 (by omega) (by omega) (by rw [t3 dep (by omega), s2 dep (Nat.le_refl _), H.w]) t4 (fun σ4 fw4 v1 v2 v3 => ?_)
            have efw : ∀ k, k < dep → fw4 k = fw k := fun k hk => by rw [v2 k hk, t3 k (by omega), s2 k (by omega)]
            have efd : ∀ k, k ≤ dep → fd3 k = fd k := fun k hk => by rw [t5 k (by omega), s4 k hk]
            refine ih (p + 1) (by omega) ⟨H.r, H.dm, h9, lInv_up t2 H.r (by omega) hq.1 hset, v1, v3, by rw [efd dep (Nat.le_refl _), H.d], H.d32, H.l0, fun q => ⟨(H.l1 q).1, (H.l1 q).2.1, by rw [efw _ (by omega)]; exact (H.l1 q).2.2⟩, fun k hk => by rw [efw k hk, H.ws k hk], t6⟩ ?_
            intro σ5 fw5 fd5 fb5 us5 w1 w2 w3 w4 w5 w6
            exact K σ5 fw5 fd5 fb5 us5 w1 w2 (fun k hk => by rw [w3 k hk, efw k hk]) w4 (fun k hk => by rw [w5 k hk, efd k hk]) w6
        · rw [if_neg hq] at K
          refine lo_158 h0 hT H.s hs H.i hpm (by have := H.dm; omega) H.w H.d H.d32 H.l0 hq (fun σ2 fw2 s1 s2 s3 => ?_)
          refine ih (p + 1) (by omega) ⟨H.r, H.dm, H.b9, H.i, s1, s3, H.d, H.d32, H.l0, fun q => ⟨(H.l1 q).1, (H.l1 q).2.1, by rw [s2 _ (by omega)]; exact (H.l1 q).2.2⟩, fun k hk => by rw [s2 k hk, H.ws k hk], H.b⟩ ?_
          intro σ5 fw5 fd5 fb5 us5 w1 w2 w3 w4 w5 w6
          exact K σ5 fw5 fd5 fb5 us5 w1 w2 (fun k hk => by rw [w3 k hk, s2 k hk]) w4 w5 w6
    exact inner (tm T) 0 (by omega) H K
def QL (G : GG) (σ : WW) : Prop := ∃ a b c, Cl G σ 11 (iA G 10 a) ∧ Cl G σ 12 (iA G 11 b) ∧ Cl G σ 13 (iA G 9 c)
theorem r_longestOf (h0 : Cl G σ 0 (cRef G len at_ kept done rm)) (hT : QT G σ T) (hL : QL G σ) {set : Nat} (hs : set < 1 <<< tm T) : ∃ σ' c, Mt G mX10_longestOf [.ref (ga G 0), .int (nI set)] σ (some (.int (nI (mostL T set)))) σ' ∧ QL G σ' ∧ Cl G σ' 13 (iA G 9 c) ∧ (∀ k, k < mostL T set → c k = pA T (k + 1) set 0 0 (mostL T set)) ∧ mostL T set ≤ 9 ∧ Fr σ σ' [11, 12, 13] := by
  have hm := hT.w.1.2.2.2.2.1
  obtain ⟨hN, hN1⟩ := shl_512 hm
  have hs5 : set < 512 := by omega
  obtain ⟨fw, fd, fb, y11, y12, y13⟩ := hL
  obtain ⟨p1, p2⟩ := dF_top hT.w.1.1 hm hs5 (upd fw 0 (nI 0)) (B := (0, fb)) rfl
  have h9 := dF_9 hm 10 set 0 0 (upd fw 0 (nI 0)) 0 (0, fb) hs5 (by have := many9 set hs5; omega) (Nat.zero_le _)
  generalize hBf : dF T 10 set 0 0 (upd fw 0 (nI 0)) 0 (0, fb) = Bf at p1 p2 h9
  have main : LoE G σ Bf (va_up (va_up σ 11 (iA G 10 (upd fw 0 (nI 0)))) 12 (iA G 11 (upd fd 0 (nI 0)))) 21 (lvL G set 0 0 0) := by
    refine lo_main h0 hT hs5 10 (rest := set) (L := 0) (d := 0) (ws := upd fw 0 (nI 0)) (dep := 0) (B := (0, fb)) (us := 0) (fw := upd fw 0 (nI 0)) (fd := upd fd 0 (nI 0)) (fb := fb) (by have := many9 set hs5; omega) ⟨hs5, by have := many9 set hs5; omega, Nat.zero_le _, ⟨by decide, fun i _ => by simp⟩, ⟨Cl.n (by decide) (Cl.s y11), Cl.s (Cl.n (by decide) y12), Cl.n (by decide) (Cl.n (by decide) y13), fr3 (fr3 fr0 (by decide)) (by decide)⟩, pk_us, pk_us, by decide, by decide, fun q => absurd q (by decide), fun k hk => absurd hk (by omega), fun k hk => absurd hk (by show ¬ k < 0; omega)⟩ ?_
    rw [hBf]
    intro σ2 fw2 fd2 fb2 us2 t1 t2 t3 t4 t5 t6
    obtain ⟨z11, z12, z13, zF⟩ := id t1
    have y0 := h0.fr zF (by decide)
    have hT1 := hT.fr zF (by decide) (by decide) (by decide) (by decide) (by decide) (by decide)
    obtain ⟨ft, fn, fv, fl, fm, fp, h2, h3, h4, h5, h6, h7, hW, -, e0, e1, e2, e3, hv, hl, hp9⟩ := id hT1
    refine ⟨σ2, fun κ C => ?_, ⟨fw2, fd2, fb2, z11, z12, z13, t6⟩, zF⟩
    have kend : Go G mX10_longestOf κ (some (.int (nI Bf.1))) σ2 σ2 21 [(0, .ref (ga G 0)), (2, .int (nI Bf.1)), (3, .int (-1))] [] := by
      refine g_iload_n (pc := 21) C dX10_longestOf_21 rfl ?_
      refine g_if_lt (pc := 22) C 241 dX10_longestOf_22 (by decide) (fun c22 => ?_) (fun c22 => ?_)
      · refine g_iload_n (pc := 241) C dX10_longestOf_241 rfl ?_
        exact g_ireturn (pc := 242) C dX10_longestOf_242 rfl (rfl) (rfl)
      · exact absurd (by decide) c22
    refine g_iload_n (pc := 21) C dX10_longestOf_21 rfl ?_
    refine g_if_lt (pc := 22) C 241 dX10_longestOf_22 (by decide) (fun c22 => ?_) (fun c22 => ?_)
    · exact absurd c22 (by decide)
    · refine g_aload_n (pc := 25) C dX10_longestOf_25 rfl ?_
      apply gf_X10_41 (pc := 26) C rfl dX10_longestOf_26
      · repeat (first | assumption | exact Cl.s (by assumption) | refine Cl.n (by first | decide | omega) ?_)
      · rfl
      refine g_iload_n (pc := 29) C dX10_longestOf_29 rfl ?_
      apply g_iaload (pc := 30) C dX10_longestOf_30
      · repeat (first | assumption | exact Cl.s (by assumption) | refine Cl.n (by first | decide | omega) ?_)
      · exact vp_in_nI (n := 0) (by decide) (by decide)
      rw [nI_clamp (by decide), t4]
      refine g_istore (pc := 31) C dX10_longestOf_31 (by decide) rfl ?_
      refine g_iload (pc := 33) C dX10_longestOf_33 rfl ?_
      refine g_aload_n (pc := 35) C dX10_longestOf_35 rfl ?_
      apply gf_X10_26 (pc := 36) C rfl dX10_longestOf_36
      · repeat (first | assumption | exact Cl.s (by assumption) | refine Cl.n (by first | decide | omega) ?_)
      · rfl
      refine g_iconst (pc := 39) (v := nI 0) C dX10_longestOf_39 (by decide) ?_
      apply g_iaload (pc := 40) C dX10_longestOf_40
      · repeat (first | assumption | exact Cl.s (by assumption) | refine Cl.n (by first | decide | omega) ?_)
      · exact vp_in_nI (n := 0) (by decide) (by decide)
      rw [nI_clamp (by decide), e3]
      refine g_icmp_lt (pc := 41) C 79 dX10_longestOf_41 (by decide) (fun c41 => ?_) (fun c41 => ?_)
      · exact absurd c41 (nI_nlt (Nat.le_refl _) (by omega))
      · refine g_iinc (pc := 44) C dX10_longestOf_44 rfl (by decide) rfl ?_
        refine g_iload_n (pc := 47) C dX10_longestOf_47 rfl ?_
        refine g_if_lt (pc := 48) C 21 dX10_longestOf_48 (by decide) (fun c48 => ?_) (fun c48 => ?_)
        · exact g_to kend ⟨rfl, rfl, rfl, trivial⟩
        · exact absurd (by decide) c48
  obtain ⟨σ', k1, ⟨a, b, c, z11, z12, z13, z⟩, zF⟩ := main
  rw [p1] at k1 z h9
  refine ⟨σ', c, ?_, ⟨a, b, c, z11, z12, z13⟩, z13, fun k hk => by rw [z k hk, p2 k hk], h9, zF⟩
  refine Mt.of (by decide +kernel) (Nat.le_of_ble_eq_true rfl) (fun κ C => ?_)
  have k1 := k1 κ C
  refine g_iconst (pc := 0) (v := nI 0) C dX10_longestOf_0 (by decide) ?_
  refine g_istore_n (pc := 1) C dX10_longestOf_1 (by decide) rfl ?_
  refine g_iconst (pc := 2) (v := nI 0) C dX10_longestOf_2 (by decide) ?_
  refine g_istore_n (pc := 3) C dX10_longestOf_3 (by decide) rfl ?_
  refine g_iconst (pc := 4) (v := nI 0) C dX10_longestOf_4 (by decide) ?_
  refine g_istore (pc := 5) C dX10_longestOf_5 (by decide) rfl ?_
  refine g_aload_n (pc := 7) C dX10_longestOf_7 rfl ?_
  apply gf_X10_41 (pc := 8) C rfl dX10_longestOf_8
  · repeat (first | assumption | exact Cl.s (by assumption) | refine Cl.n (by first | decide | omega) ?_)
  · rfl
  refine g_iconst (pc := 11) (v := nI 0) C dX10_longestOf_11 (by decide) ?_
  refine g_iconst (pc := 12) (v := nI 0) C dX10_longestOf_12 (by decide) ?_
  apply g_iastore (pc := 13) C dX10_longestOf_13
  · repeat (first | assumption | exact Cl.s (by assumption) | refine Cl.n (by first | decide | omega) ?_)
  · exact vp_in_nI (n := 0) (by decide) (by decide)
  intro hw13
  rw [show (nI 0).toNatClampNeg = 0 from nI_clamp (by decide)]
  refine g_aload_n (pc := 14) C dX10_longestOf_14 rfl ?_
  apply gf_X10_44 (pc := 15) C rfl dX10_longestOf_15
  · repeat (first | assumption | exact Cl.s (by assumption) | refine Cl.n (by first | decide | omega) ?_)
  · rfl
  refine g_iconst (pc := 18) (v := nI 0) C dX10_longestOf_18 (by decide) ?_
  refine g_iconst (pc := 19) (v := nI 0) C dX10_longestOf_19 (by decide) ?_
  apply g_iastore (pc := 20) C dX10_longestOf_20
  · repeat (first | assumption | exact Cl.s (by assumption) | refine Cl.n (by first | decide | omega) ?_)
  · exact vp_in_nI (n := 0) (by decide) (by decide)
  intro hw20
  rw [show (nI 0).toNatClampNeg = 0 from nI_clamp (by decide)]
  exact g_to k1 ⟨rfl, rfl, rfl, rfl, rfl, trivial⟩
theorem q_longest (h0 : Cl G σ 0 (cRef G len at_ kept done rm)) (hT : QT G σ T) (hL : QL G σ) (set i : Int32) : ∃ σ', Mt G mX10_longest [.ref (ga G 0), .int set, .int i] σ (some (.int (longestF T set i))) σ' ∧ QL G σ' ∧ Fr σ σ' [11, 12, 13] := by
  have hm := hT.w.1.2.2.2.2.1
  obtain ⟨hN, hN1⟩ := shl_512 hm
  obtain ⟨ft, fn, fv, fl, fm, fp, h2, h3, h4, h5, h6, h7, hW, -, e0, e1, e2, e3, hv, hl, hp9⟩ := id hT
  have eIn : inB set.toInt64 0 (nI (1 <<< tm T) - nI 1).toInt64 = inR set (1 <<< tm T) := inB_R (by omega) (by omega)
  by_cases hb : inR set (1 <<< tm T) = true
  · by_cases hi : -1 ≤ i
    · rcases inR_c set (m := 1 <<< tm T) (by omega) with q | ⟨-, s, hs, es⟩
      · rw [q] at hb; exact absurd hb (by decide)
      subst es
      obtain ⟨σ', c, m1, m2, m3, m4, m5, m6⟩ := r_longestOf h0 hT hL hs
      have y0 := h0.fr m6 (by decide)
      refine ⟨σ', ?_, m2, m6⟩
      have e1 : longestF T (nI s) i = if i = -1 then nI (mostL T s) else if i < nI (mostL T s) then pA T (i.toNatClampNeg + 1) s 0 0 (mostL T s) else -4 := by
        unfold longestF
        rw [if_pos ⟨hb, hi⟩, nI_clamp (by omega)]
      rw [e1]
      refine Mt.of (by decide +kernel) (Nat.le_of_ble_eq_true rfl) (fun κ C => ?_)
      have k27 : Go G mX10_longest κ (some (.int (if i = -1 then nI (mostL T s) else if i < nI (mostL T s) then pA T (i.toNatClampNeg + 1) s 0 0 (mostL T s) else -4))) σ' σ 27 [(0, .ref (ga G 0)), (1, .int (nI s)), (2, .int i)] [] := by
        by_cases hi0 : i < 0
        · have ei : i = -1 := by
            rw [Int32.le_iff_toInt_le] at hi
            rw [Int32.lt_iff_toInt_lt] at hi0
            refine Int32.toInt_inj.mp ?_
            have a1 : (-1 : Int32).toInt = -1 := rfl
            have a2 : (0 : Int32).toInt = 0 := rfl
            omega
          rw [if_pos ei]
          refine g_aload_n (pc := 27) C dX10_longest_27 rfl ?_
          refine g_iload_n (pc := 28) C dX10_longest_28 rfl ?_
          apply cl_X10_156 (pc := 29) C rfl m1 dX10_longest_29
          · repeat (first | assumption | exact Cl.s (by assumption) | refine Cl.n (by first | decide | omega) ?_)
          · rfl
          · exact Nat.le_of_ble_eq_true rfl
          refine g_istore_n (pc := 32) C dX10_longest_32 (by decide) rfl ?_
          refine g_iload_n (pc := 33) C dX10_longest_33 rfl ?_
          refine g_if_ge (pc := 34) C 41 dX10_longest_34 (by decide) (fun c34 => ?_) (fun c34 => ?_)
          · exact absurd c34 (Int32.not_le.mpr hi0)
          · refine g_iload_n (pc := 37) C dX10_longest_37 rfl ?_
            refine g_goto (pc := 38) C 57 dX10_longest_38 (by decide) ?_
            exact g_ireturn (pc := 57) C dX10_longest_57 rfl (rfl) (rfl)
        · have hi1 : i ≠ -1 := fun q => hi0 (by rw [q]; decide)
          rw [if_neg hi1]
          by_cases hlt : i < nI (mostL T s)
          · rw [if_pos hlt]
            have hin : inR i (mostL T s) = true := inR_t hi0 (Int32.not_le.mpr hlt)
            rcases inR_c i (m := mostL T s) (by omega) with q | ⟨-, k, hk, ek⟩
            · rw [q] at hin; exact absurd hin (by decide)
            subst ek
            rw [nI_clamp (by omega), ← m4 k hk]
            refine g_aload_n (pc := 27) C dX10_longest_27 rfl ?_
            refine g_iload_n (pc := 28) C dX10_longest_28 rfl ?_
            apply cl_X10_156 (pc := 29) C rfl m1 dX10_longest_29
            · repeat (first | assumption | exact Cl.s (by assumption) | refine Cl.n (by first | decide | omega) ?_)
            · rfl
            · exact Nat.le_of_ble_eq_true rfl
            refine g_istore_n (pc := 32) C dX10_longest_32 (by decide) rfl ?_
            refine g_iload_n (pc := 33) C dX10_longest_33 rfl ?_
            refine g_if_ge (pc := 34) C 41 dX10_longest_34 (by decide) (fun c34 => ?_) (fun c34 => ?_)
            · refine g_iload_n (pc := 41) C dX10_longest_41 rfl ?_
              refine g_iload_n (pc := 42) C dX10_longest_42 rfl ?_
              refine g_icmp_ge (pc := 43) C 55 dX10_longest_43 (by decide) (fun c43 => ?_) (fun c43 => ?_)
              · exact absurd c43 (Int32.not_le.mpr hlt)
              · refine g_aload_n (pc := 46) C dX10_longest_46 rfl ?_
                apply gf_X10_47 (pc := 47) C rfl dX10_longest_47
                · repeat (first | assumption | exact Cl.s (by assumption) | refine Cl.n (by first | decide | omega) ?_)
                · rfl
                refine g_iload_n (pc := 50) C dX10_longest_50 rfl ?_
                apply g_iaload (pc := 51) C dX10_longest_51
                · repeat (first | assumption | exact Cl.s (by assumption) | refine Cl.n (by first | decide | omega) ?_)
                · exact vp_in_nI (by omega) (by decide)
                rw [nI_clamp (by omega)]
                refine g_goto (pc := 52) C 57 dX10_longest_52 (by decide) ?_
                exact g_ireturn (pc := 57) C dX10_longest_57 rfl (rfl) (rfl)
            · exact absurd (Int32.not_lt.mp hi0) c34
          · rw [if_neg hlt]
            refine g_aload_n (pc := 27) C dX10_longest_27 rfl ?_
            refine g_iload_n (pc := 28) C dX10_longest_28 rfl ?_
            apply cl_X10_156 (pc := 29) C rfl m1 dX10_longest_29
            · repeat (first | assumption | exact Cl.s (by assumption) | refine Cl.n (by first | decide | omega) ?_)
            · rfl
            · exact Nat.le_of_ble_eq_true rfl
            refine g_istore_n (pc := 32) C dX10_longest_32 (by decide) rfl ?_
            refine g_iload_n (pc := 33) C dX10_longest_33 rfl ?_
            refine g_if_ge (pc := 34) C 41 dX10_longest_34 (by decide) (fun c34 => ?_) (fun c34 => ?_)
            · refine g_iload_n (pc := 41) C dX10_longest_41 rfl ?_
              refine g_iload_n (pc := 42) C dX10_longest_42 rfl ?_
              refine g_icmp_ge (pc := 43) C 55 dX10_longest_43 (by decide) (fun c43 => ?_) (fun c43 => ?_)
              · refine g_bipush (pc := 55) (v := -4) C dX10_longest_55 (by decide) ?_
                exact g_ireturn (pc := 57) C dX10_longest_57 rfl (rfl) (rfl)
              · exact absurd (Int32.not_lt.mp hlt) c43
            · exact absurd (Int32.not_lt.mp hi0) c34
      refine g_iload_n (pc := 0) C dX10_longest_0 rfl ?_
      refine g_i2l (pc := 1) C dX10_longest_1 ?_
      refine g_lconst (pc := 2) (v := 0) C dX10_longest_2 (by decide) ?_
      refine g_iconst (pc := 3) (v := nI 1) C dX10_longest_3 (by decide) ?_
      refine g_aload_n (pc := 4) C dX10_longest_4 rfl ?_
      apply gf_X10_26 (pc := 5) C rfl dX10_longest_5
      · repeat (first | assumption | exact Cl.s (by assumption) | refine Cl.n (by first | decide | omega) ?_)
      · rfl
      refine g_iconst (pc := 8) (v := nI 0) C dX10_longest_8 (by decide) ?_
      apply g_iaload (pc := 9) C dX10_longest_9
      · repeat (first | assumption | exact Cl.s (by assumption) | refine Cl.n (by first | decide | omega) ?_)
      · exact vp_in_nI (n := 0) (by decide) (by decide)
      rw [nI_clamp (by decide), e3]
      refine g_ishl (pc := 10) C dX10_longest_10 ?_
      refine g_iconst (pc := 11) (v := nI 1) C dX10_longest_11 (by decide) ?_
      rw [nx_shl _ (by omega)]
      refine g_isub (pc := 12) C dX10_longest_12 ?_
      refine g_i2l (pc := 13) C dX10_longest_13 ?_
      refine cl_X10_74 (pc := 14) C rfl (r_in _ _ _) dX10_longest_14 rfl (Nat.le_of_ble_eq_true rfl) ?_
      refine g_if_eq (pc := 17) C 25 dX10_longest_17 (by decide) (fun c17 => ?_) (fun c17 => ?_)
      · exact absurd (b2_0.mp c17) (by rw [eIn, hb]; decide)
      · refine g_iload_n (pc := 20) C dX10_longest_20 rfl ?_
        refine g_iconst (pc := 21) (v := -1) C dX10_longest_21 (by decide) ?_
        refine g_icmp_ge (pc := 22) C 27 dX10_longest_22 (by decide) (fun c22 => ?_) (fun c22 => ?_)
        · exact g_to k27 ⟨rfl, rfl, rfl, trivial⟩
        · exact absurd hi c22
    · refine ⟨σ, ?_, hL, fr0⟩
      rw [show longestF T set i = -1 by unfold longestF; rw [if_neg (fun q => hi q.2)]]
      refine Mt.of (by decide +kernel) (Nat.le_of_ble_eq_true rfl) (fun κ C => ?_)
      refine g_iload_n (pc := 0) C dX10_longest_0 rfl ?_
      refine g_i2l (pc := 1) C dX10_longest_1 ?_
      refine g_lconst (pc := 2) (v := 0) C dX10_longest_2 (by decide) ?_
      refine g_iconst (pc := 3) (v := nI 1) C dX10_longest_3 (by decide) ?_
      refine g_aload_n (pc := 4) C dX10_longest_4 rfl ?_
      apply gf_X10_26 (pc := 5) C rfl dX10_longest_5
      · repeat (first | assumption | exact Cl.s (by assumption) | refine Cl.n (by first | decide | omega) ?_)
      · rfl
      refine g_iconst (pc := 8) (v := nI 0) C dX10_longest_8 (by decide) ?_
      apply g_iaload (pc := 9) C dX10_longest_9
      · repeat (first | assumption | exact Cl.s (by assumption) | refine Cl.n (by first | decide | omega) ?_)
      · exact vp_in_nI (n := 0) (by decide) (by decide)
      rw [nI_clamp (by decide), e3]
      refine g_ishl (pc := 10) C dX10_longest_10 ?_
      refine g_iconst (pc := 11) (v := nI 1) C dX10_longest_11 (by decide) ?_
      rw [nx_shl _ (by omega)]
      refine g_isub (pc := 12) C dX10_longest_12 ?_
      refine g_i2l (pc := 13) C dX10_longest_13 ?_
      refine cl_X10_74 (pc := 14) C rfl (r_in _ _ _) dX10_longest_14 rfl (Nat.le_of_ble_eq_true rfl) ?_
      refine g_if_eq (pc := 17) C 25 dX10_longest_17 (by decide) (fun c17 => ?_) (fun c17 => ?_)
      · refine g_iconst (pc := 25) (v := -1) C dX10_longest_25 (by decide) ?_
        exact g_ireturn (pc := 26) C dX10_longest_26 rfl (rfl) (rfl)
      · refine g_iload_n (pc := 20) C dX10_longest_20 rfl ?_
        refine g_iconst (pc := 21) (v := -1) C dX10_longest_21 (by decide) ?_
        refine g_icmp_ge (pc := 22) C 27 dX10_longest_22 (by decide) (fun c22 => ?_) (fun c22 => ?_)
        · exact absurd c22 hi
        · refine g_iconst (pc := 25) (v := -1) C dX10_longest_25 (by decide) ?_
          exact g_ireturn (pc := 26) C dX10_longest_26 rfl (rfl) (rfl)
  · refine ⟨σ, ?_, hL, fr0⟩
    rw [show longestF T set i = -1 by unfold longestF; rw [if_neg (fun q => hb q.1)]]
    refine Mt.of (by decide +kernel) (Nat.le_of_ble_eq_true rfl) (fun κ C => ?_)
    refine g_iload_n (pc := 0) C dX10_longest_0 rfl ?_
    refine g_i2l (pc := 1) C dX10_longest_1 ?_
    refine g_lconst (pc := 2) (v := 0) C dX10_longest_2 (by decide) ?_
    refine g_iconst (pc := 3) (v := nI 1) C dX10_longest_3 (by decide) ?_
    refine g_aload_n (pc := 4) C dX10_longest_4 rfl ?_
    apply gf_X10_26 (pc := 5) C rfl dX10_longest_5
    · repeat (first | assumption | exact Cl.s (by assumption) | refine Cl.n (by first | decide | omega) ?_)
    · rfl
    refine g_iconst (pc := 8) (v := nI 0) C dX10_longest_8 (by decide) ?_
    apply g_iaload (pc := 9) C dX10_longest_9
    · repeat (first | assumption | exact Cl.s (by assumption) | refine Cl.n (by first | decide | omega) ?_)
    · exact vp_in_nI (n := 0) (by decide) (by decide)
    rw [nI_clamp (by decide), e3]
    refine g_ishl (pc := 10) C dX10_longest_10 ?_
    refine g_iconst (pc := 11) (v := nI 1) C dX10_longest_11 (by decide) ?_
    rw [nx_shl _ (by omega)]
    refine g_isub (pc := 12) C dX10_longest_12 ?_
    refine g_i2l (pc := 13) C dX10_longest_13 ?_
    refine cl_X10_74 (pc := 14) C rfl (r_in _ _ _) dX10_longest_14 rfl (Nat.le_of_ble_eq_true rfl) ?_
    refine g_if_eq (pc := 17) C 25 dX10_longest_17 (by decide) (fun c17 => ?_) (fun c17 => ?_)
    · refine g_iconst (pc := 25) (v := -1) C dX10_longest_25 (by decide) ?_
      exact g_ireturn (pc := 26) C dX10_longest_26 rfl (rfl) (rfl)
    · exact absurd (b2_0.mpr (by rw [eIn]; simpa using hb)) c17
end RL3

