section REF10
variable {G : GG} {σ : WW} {T : TS} {h : HH} {len at_ rm : Int32}
abbrev lv4 (G : GG) (i j n : Nat) : List (Nat × Value) := [(0, .ref (ga G 0)), (1, .int (nI i)), (2, .int (nI j)), (3, .int (nI n))]
theorem r_rowsK {kept done : Int32} (h0 : Cl G σ 0 (cRef G len at_ kept done rm)) (hT : QT G σ T) {i j n : Nat} {fw : Nat → Int64} (h14 : Cl G σ 14 (lA G 324 fw)) (r : Option Value) {c : Nat → Nat} {q : Nat} (hc : ∀ k, k < 54 → c k ≠ 0 → k / 6 < tm T) (hcl : ∀ k, k < 54 → c k < 2 ^ 62) (K : ∀ f', (∀ x, x < 54 → f' x = lN (c x)) → (∀ x, x < 54 → f' (54 + x) = lN (sumb (fun k => gq T c k x) 54)) → RwE G σ r f' 206 [(0, .ref (ga G 0)), (1, .int (nI i)), (2, .int (nI j)), (3, .int (nI n)), (4, .int (nI q))]) : ∀ (e k : Nat) (f : Nat → Int64), k + e = 54 → (∀ x, x < 54 → f x = lN (c x)) → (∀ x, x < 54 → f (54 + x) = lN (sumb (fun k => gq T c k x) k)) → RwE G σ r f 79 [(0, .ref (ga G 0)), (1, .int (nI i)), (2, .int (nI j)), (3, .int (nI n)), (4, .int (nI q)), (5, .int (nI k))] := by
  intro e
  induction e with
  | zero =>
    intro k f hk f1 f2
    have hk' : k = 54 := by omega
    subst hk'
    obtain ⟨f', g⟩ := K f f1 f2
    refine ⟨f', fun κ C => ?_⟩
    refine g_iload (pc := 79) C dX10_rows_79 rfl ?_
    refine g_bipush (pc := 81) (v := nI 54) C dX10_rows_81 (by decide) ?_
    refine g_icmp_ge (pc := 83) C 206 dX10_rows_83 (by decide) (fun c83 => ?_) (fun c83 => ?_)
    · exact g_to (g κ C) ⟨rfl, rfl, rfl, rfl, rfl, trivial⟩
    · exact absurd (nI_le (by omega) (by omega)) c83
  | succ e ih =>
    intro k f hk f1 f2
    obtain ⟨f', g⟩ := r_rowsP h0 hT (i := i) (j := j) (n := n) (q := q) h14 r (k := k) (by omega) (hc k (by omega)) (hcl k (by omega)) f1 f2 (fun f' a1 a2 => by
      obtain ⟨f'', g⟩ := ih (k + 1) f' (by omega) a1 a2
      refine ⟨f'', fun κ C => ?_⟩
      refine g_iinc (pc := 200) C dX10_rows_200 rfl (by decide) rfl ?_
      refine g_goto (pc := 203) C 79 dX10_rows_203 (by decide) ?_
      exact g_to (g κ C) ⟨rfl, rfl, rfl, rfl, rfl, lgi (nI_1 k), trivial⟩
      )
    refine ⟨f', fun κ C => ?_⟩
    refine g_iload (pc := 79) C dX10_rows_79 rfl ?_
    refine g_bipush (pc := 81) (v := nI 54) C dX10_rows_81 (by decide) ?_
    refine g_icmp_ge (pc := 83) C 206 dX10_rows_83 (by decide) (fun c83 => ?_) (fun c83 => ?_)
    · exact absurd c83 (nI_ge (by omega) (by decide))
    · refine g_iconst (pc := 86) (v := nI 0) C dX10_rows_86 (by decide) ?_
      refine g_istore (pc := 87) C dX10_rows_87 (by decide) rfl ?_
      exact g_to (g κ C) ⟨rfl, rfl, rfl, rfl, rfl, rfl, rfl, trivial⟩
theorem r_rowsZ {kept done : Int32} (h0 : Cl G σ 0 (cRef G len at_ kept done rm)) {i j n : Nat} {fw : Nat → Int64} (h14 : Cl G σ 14 (lA G 324 fw)) (r : Option Value) {c : Nat → Nat} {q : Nat} (K : ∀ f', (∀ x, x < 54 → f' x = lN (c x)) → (∀ x, x < 54 → f' (54 + x) = lN 0) → RwE G σ r f' 76 [(0, .ref (ga G 0)), (1, .int (nI i)), (2, .int (nI j)), (3, .int (nI n)), (4, .int (nI q))]) : ∀ (e k : Nat) (f : Nat → Int64), k + e = 54 → (∀ x, x < 54 → f x = lN (c x)) → (∀ x, x < k → f (54 + x) = lN 0) → RwE G σ r f 52 [(0, .ref (ga G 0)), (1, .int (nI i)), (2, .int (nI j)), (3, .int (nI n)), (4, .int (nI q)), (5, .int (nI k))] := by
  intro e
  induction e with
  | zero =>
    intro k f hk f1 f2
    have hk' : k = 54 := by omega
    subst hk'
    obtain ⟨f', g⟩ := K f f1 f2
    refine ⟨f', fun κ C => ?_⟩
    refine g_iload (pc := 52) C dX10_rows_52 rfl ?_
    refine g_bipush (pc := 54) (v := nI 54) C dX10_rows_54 (by decide) ?_
    refine g_icmp_ge (pc := 56) C 76 dX10_rows_56 (by decide) (fun c56 => ?_) (fun c56 => ?_)
    · exact g_to (g κ C) ⟨rfl, rfl, rfl, rfl, rfl, trivial⟩
    · exact absurd (nI_le (by omega) (by omega)) c56
  | succ e ih =>
    intro k f hk f1 f2
    obtain ⟨f', g⟩ := ih (k + 1) (vp_updL f (54 + k) 0) (by omega) (fun x hx => by rw [pk_uLn (by omega)]; exact f1 x hx) (fun x hx => by
      by_cases z : x = k
      · rw [z, pk_uLs]; rfl
      · rw [pk_uLn (by omega)]; exact f2 x (by omega))
    refine ⟨f', fun κ C => ?_⟩
    have y0 : Cl G (va_up σ 14 (lA G 324 f)) 0 (cRef G len at_ kept done rm) := Cl.n (by decide) h0
    have y14 : Cl G (va_up σ 14 (lA G 324 f)) 14 (lA G 324 f) := Cl.s h14
    refine g_iload (pc := 52) C dX10_rows_52 rfl ?_
    refine g_bipush (pc := 54) (v := nI 54) C dX10_rows_54 (by decide) ?_
    refine g_icmp_ge (pc := 56) C 76 dX10_rows_56 (by decide) (fun c56 => ?_) (fun c56 => ?_)
    · exact absurd c56 (nI_ge (by omega) (by decide))
    · refine g_aload_n (pc := 59) C dX10_rows_59 rfl ?_
      apply gf_X10_50 (pc := 60) C rfl dX10_rows_60
      · repeat (first | assumption | exact Cl.s (by assumption) | refine Cl.n (by first | decide | omega) ?_)
      · rfl
      refine g_bipush (pc := 63) (v := nI 54) C dX10_rows_63 (by decide) ?_
      refine g_iload (pc := 65) C dX10_rows_65 rfl ?_
      refine g_iadd (pc := 67) C dX10_rows_67 ?_
      rw [nI_add]
      refine g_lconst (pc := 68) (v := 0) C dX10_rows_68 (by decide) ?_
      apply g_lastore (pc := 69) C dX10_rows_69
      · repeat (first | assumption | exact Cl.s (by assumption) | refine Cl.n (by first | decide | omega) ?_)
      · exact vp_in_nI (by omega) (by decide)
      intro hw69
      refine g_iinc (pc := 70) C dX10_rows_70 rfl (by decide) rfl ?_
      refine g_goto (pc := 73) C 52 dX10_rows_73 (by decide) ?_
      rw [nI_clamp (by omega), bx_uu σ 14]
      exact g_to (g κ C) ⟨rfl, rfl, rfl, rfl, rfl, lgi (nI_1 k), trivial⟩
theorem r_rowsC {kept done : Int32} (h0 : Cl G σ 0 (cRef G len at_ kept done rm)) {i j n : Nat} {fw : Nat → Int64} (h14 : Cl G σ 14 (lA G 324 fw)) (r : Option Value) {c : Nat → Nat} {q : Nat} (K : ∀ f', (∀ x, x < 54 → f' x = lN (c x)) → RwE G σ r f' 239 [(0, .ref (ga G 0)), (1, .int (nI i)), (2, .int (nI j)), (3, .int (nI n)), (4, .int (nI q))]) : ∀ (e k : Nat) (f : Nat → Int64), k + e = 54 → (∀ x, x < k → f x = lN (c x)) → (∀ x, x < 54 → f (54 + x) = lN (c x)) → RwE G σ r f 209 [(0, .ref (ga G 0)), (1, .int (nI i)), (2, .int (nI j)), (3, .int (nI n)), (4, .int (nI q)), (5, .int (nI k))] := by
  intro e
  induction e with
  | zero =>
    intro k f hk f1 f2
    have hk' : k = 54 := by omega
    subst hk'
    obtain ⟨f', g⟩ := K f f1
    refine ⟨f', fun κ C => ?_⟩
    refine g_iload (pc := 209) C dX10_rows_209 rfl ?_
    refine g_bipush (pc := 211) (v := nI 54) C dX10_rows_211 (by decide) ?_
    refine g_icmp_ge (pc := 213) C 239 dX10_rows_213 (by decide) (fun c213 => ?_) (fun c213 => ?_)
    · exact g_to (g κ C) ⟨rfl, rfl, rfl, rfl, rfl, trivial⟩
    · exact absurd (nI_le (by omega) (by omega)) c213
  | succ e ih =>
    intro k f hk f1 f2
    obtain ⟨f', g⟩ := ih (k + 1) (vp_updL f k (lN (c k))) (by omega) (fun x hx => by
      by_cases z : x = k
      · rw [z, pk_uLs]
      · rw [pk_uLn (by omega)]; exact f1 x (by omega)) (fun x hx => by rw [pk_uLn (by omega)]; exact f2 x hx)
    refine ⟨f', fun κ C => ?_⟩
    have y0 : Cl G (va_up σ 14 (lA G 324 f)) 0 (cRef G len at_ kept done rm) := Cl.n (by decide) h0
    have y14 : Cl G (va_up σ 14 (lA G 324 f)) 14 (lA G 324 f) := Cl.s h14
    refine g_iload (pc := 209) C dX10_rows_209 rfl ?_
    refine g_bipush (pc := 211) (v := nI 54) C dX10_rows_211 (by decide) ?_
    refine g_icmp_ge (pc := 213) C 239 dX10_rows_213 (by decide) (fun c213 => ?_) (fun c213 => ?_)
    · exact absurd c213 (nI_ge (by omega) (by decide))
    · refine g_aload_n (pc := 216) C dX10_rows_216 rfl ?_
      apply gf_X10_50 (pc := 217) C rfl dX10_rows_217
      · repeat (first | assumption | exact Cl.s (by assumption) | refine Cl.n (by first | decide | omega) ?_)
      · rfl
      refine g_iload (pc := 220) C dX10_rows_220 rfl ?_
      refine g_aload_n (pc := 222) C dX10_rows_222 rfl ?_
      apply gf_X10_50 (pc := 223) C rfl dX10_rows_223
      · repeat (first | assumption | exact Cl.s (by assumption) | refine Cl.n (by first | decide | omega) ?_)
      · rfl
      refine g_bipush (pc := 226) (v := nI 54) C dX10_rows_226 (by decide) ?_
      refine g_iload (pc := 228) C dX10_rows_228 rfl ?_
      refine g_iadd (pc := 230) C dX10_rows_230 ?_
      rw [nI_add]
      apply g_laload (pc := 231) C dX10_rows_231
      · repeat (first | assumption | exact Cl.s (by assumption) | refine Cl.n (by first | decide | omega) ?_)
      · exact vp_in_nI (by omega) (by decide)
      rw [nI_clamp (by omega), f2 k (by omega)]
      apply g_lastore (pc := 232) C dX10_rows_232
      · repeat (first | assumption | exact Cl.s (by assumption) | refine Cl.n (by first | decide | omega) ?_)
      · exact vp_in_nI (by omega) (by decide)
      intro hw232
      refine g_iinc (pc := 233) C dX10_rows_233 rfl (by decide) rfl ?_
      refine g_goto (pc := 236) C 209 dX10_rows_236 (by decide) ?_
      rw [nI_clamp (by omega), bx_uu σ 14]
      exact g_to (g κ C) ⟨rfl, rfl, rfl, rfl, rfl, lgi (nI_1 k), trivial⟩
theorem r_rowsS {kept done : Int32} (h0 : Cl G σ 0 (cRef G len at_ kept done rm)) (hT : QT G σ T) {i j n : Nat} (hj : j < tm T) {fw : Nat → Int64} (h14 : Cl G σ 14 (lA G 324 fw)) {f : Nat → Int64} (f1 : ∀ x, x < 54 → f x = lN (rwk T i n x)) : ∀ κ, Cx G mX10_rows κ → ∀ (e k : Nat), k + e = 54 → Go G mX10_rows κ (some (.long (lN (rsum T i j n)))) (va_up σ 14 (lA G 324 f)) (va_up σ 14 (lA G 324 f)) 251 [(0, .ref (ga G 0)), (1, .int (nI i)), (2, .int (nI j)), (3, .int (nI n)), (4, .long (lN (sumb (rsF T i j n) k))), (6, .int (nI k))] [] := by
  intro κ C e
  have hW := hT.w.1
  have hm := hW.2.2.2.2.1
  have hlaw := hW.2.2.2.2.2.2.1
  have hm1 := hT.w.2
  have y0 : Cl G (va_up σ 14 (lA G 324 f)) 0 (cRef G len at_ kept done rm) := Cl.n (by decide) h0
  have y14 : Cl G (va_up σ 14 (lA G 324 f)) 14 (lA G 324 f) := Cl.s h14
  have hT1 := hT.f14 (f := f)
  obtain ⟨ft, fn, fv, fl, fm, fp, h2, h3, h4, h5, h6, h7, -, -, e0, e1, e2, e3, hv, hl, hp9⟩ := hT.f14 (f := f)
  induction e with
  | zero =>
    intro k hk
    have hk' : k = 54 := by omega
    subst hk'
    refine g_iload (pc := 251) C dX10_rows_251 rfl ?_
    refine g_bipush (pc := 253) (v := nI 54) C dX10_rows_253 (by decide) ?_
    refine g_icmp_ge (pc := 255) C 334 dX10_rows_255 (by decide) (fun c255 => ?_) (fun c255 => ?_)
    · refine g_lload (pc := 334) C dX10_rows_334 rfl ?_
      exact g_lreturn (pc := 336) C dX10_rows_336 rfl (rfl) (rfl)
    · exact absurd (nI_le (by omega) (by omega)) c255
  | succ e ih =>
    intro k hk
    have hkm : k / 6 % tm T < tm T := Nat.mod_lt _ (by omega)
    have hu := and_lt32 (b := seen T) (UU_lt T j (k / 6 % tm T) hW.1)
    have hb6 := brph_lt (m := k % 6) (by omega)
    have es : sumb (rsF T i j n) (k + 1) = sumb (rsF T i j n) k + rsF T i j n k := rfl
    cases hps : ps (tl T) (UU T j (k / 6 % tm T) &&& seen T) (brd (ph (k % 6)))
    · have er : rsF T i j n k = 0 := by unfold rsF; rw [if_neg (by rw [hps]; decide)]
      refine g_iload (pc := 251) C dX10_rows_251 rfl ?_
      refine g_bipush (pc := 253) (v := nI 54) C dX10_rows_253 (by decide) ?_
      refine g_icmp_ge (pc := 255) C 334 dX10_rows_255 (by decide) (fun c255 => ?_) (fun c255 => ?_)
      · exact absurd c255 (nI_ge (by omega) (by decide))
      · refine g_lload (pc := 258) C dX10_rows_258 rfl ?_
        refine g_aload_n (pc := 260) C dX10_rows_260 rfl ?_
        apply gf_X10_13 (pc := 261) C rfl dX10_rows_261
        · repeat (first | assumption | exact Cl.s (by assumption) | refine Cl.n (by first | decide | omega) ?_)
        · rfl
        refine g_iconst (pc := 264) (v := nI 0) C dX10_rows_264 (by decide) ?_
        apply g_iaload (pc := 265) C dX10_rows_265
        · repeat (first | assumption | exact Cl.s (by assumption) | refine Cl.n (by first | decide | omega) ?_)
        · exact vp_in_nI (n := 0) (by decide) (by decide)
        rw [nI_clamp (by decide), e0]
        refine g_aload_n (pc := 266) C dX10_rows_266 rfl ?_
        refine g_iload_n (pc := 267) C dX10_rows_267 rfl ?_
        refine g_iload (pc := 268) C dX10_rows_268 rfl ?_
        refine g_bipush (pc := 270) (v := nI 6) C dX10_rows_270 (by decide) ?_
        refine g_idiv (pc := 272) C dX10_rows_272 (by decide) ?_
        refine g_aload_n (pc := 273) C dX10_rows_273 rfl ?_
        apply gf_X10_26 (pc := 274) C rfl dX10_rows_274
        · repeat (first | assumption | exact Cl.s (by assumption) | refine Cl.n (by first | decide | omega) ?_)
        · rfl
        refine g_iconst (pc := 277) (v := nI 0) C dX10_rows_277 (by decide) ?_
        apply g_iaload (pc := 278) C dX10_rows_278
        · repeat (first | assumption | exact Cl.s (by assumption) | refine Cl.n (by first | decide | omega) ?_)
        · exact vp_in_nI (n := 0) (by decide) (by decide)
        rw [nI_clamp (by decide), e3, pk_div (by omega) (by decide) (by decide)]
        refine g_irem (pc := 279) C dX10_rows_279 (nI_ne0 (by omega) (by omega)) ?_
        rw [pk_rem (by omega) (by omega) (by omega)]
        apply cl_X10_136 (pc := 280) C rfl (r_unlike y0 hT1 hj hkm) dX10_rows_280
        · repeat (first | assumption | exact Cl.s (by assumption) | refine Cl.n (by first | decide | omega) ?_)
        · rfl
        · exact Nat.le_of_ble_eq_true rfl
        refine g_aload_n (pc := 283) C dX10_rows_283 rfl ?_
        apply cl_X10_140 (pc := 284) C rfl (r_seen y0 hT1) dX10_rows_284
        · repeat (first | assumption | exact Cl.s (by assumption) | refine Cl.n (by first | decide | omega) ?_)
        · rfl
        · exact Nat.le_of_ble_eq_true rfl
        refine g_iand (pc := 287) C dX10_rows_287 ?_
        rw [nx_and]
        refine g_iload (pc := 288) C dX10_rows_288 rfl ?_
        refine g_bipush (pc := 290) (v := nI 6) C dX10_rows_290 (by decide) ?_
        refine g_irem (pc := 292) C dX10_rows_292 (by decide) ?_
        rw [pk_rem (by omega) (by decide) (by decide)]
        refine g_iconst (pc := 293) (v := nI 5) C dX10_rows_293 (by decide) ?_
        refine g_icmp_nE (pc := 294) C 301 dX10_rows_294 (by decide) (fun c294 => ?_) (fun c294 => ?_)
        · refine g_iconst (pc := 301) (v := nI 1) C dX10_rows_301 (by decide) ?_
          refine g_iload (pc := 302) C dX10_rows_302 rfl ?_
          refine g_bipush (pc := 304) (v := nI 6) C dX10_rows_304 (by decide) ?_
          refine g_irem (pc := 306) C dX10_rows_306 (by decide) ?_
          rw [pk_rem (by omega) (by decide) (by decide)]
          refine g_ishl (pc := 307) C dX10_rows_307 ?_
          first | (have c294' := (nI_eq (by omega) (by decide)).mp c294; rw [show nI 0 = nI (brd (ph (k % 6))) by rw [c294', brph5]]) | (have c294' : ¬ k % 6 = 5 := fun q => c294 (by rw [q]); rw [nx_shl _ (by omega), ← brph c294'])
          refine cl_X10_146 (pc := 308) C rfl (r_passes hlaw (by omega) (by omega)) dX10_rows_308 rfl (Nat.le_of_ble_eq_true rfl) ?_
          refine g_if_eq (pc := 311) C 324 dX10_rows_311 (by decide) (fun c311 => ?_) (fun c311 => ?_)
          · refine g_lconst (pc := 324) (v := 0) C dX10_rows_324 (by decide) ?_
            refine g_ladd (pc := 325) C dX10_rows_325 ?_
            refine g_lstore (pc := 326) C [(0, .ref (ga G 0)), (1, .int (nI i)), (2, .int (nI j)), (3, .int (nI n)), (6, .int (nI k))] dX10_rows_326 (by decide) ⟨rfl, rfl, rfl, rfl, rfl, trivial⟩ rfl rfl ?_
            refine g_iinc (pc := 328) C dX10_rows_328 rfl (by decide) rfl ?_
            refine g_goto (pc := 331) C 251 dX10_rows_331 (by decide) ?_
            exact g_to (ih (k + 1) (by omega)) ⟨rfl, rfl, rfl, rfl, by rw [es, er, Nat.add_zero, show lN (sumb (rsF T i j n) k) + 0 = lN (sumb (rsF T i j n) k) from Int64.add_zero _]; rfl, lgi (nI_1 k), trivial⟩
          · exact absurd (by rw [hps]; rfl) c311
        · refine g_iconst (pc := 297) (v := nI 0) C dX10_rows_297 (by decide) ?_
          refine g_goto (pc := 298) C 308 dX10_rows_298 (by decide) ?_
          first | (have c294' := (nI_eq (by omega) (by decide)).mp c294; rw [show nI 0 = nI (brd (ph (k % 6))) by rw [c294', brph5]]) | (have c294' : ¬ k % 6 = 5 := fun q => c294 (by rw [q]); rw [nx_shl _ (by omega), ← brph c294'])
          refine cl_X10_146 (pc := 308) C rfl (r_passes hlaw (by omega) (by omega)) dX10_rows_308 rfl (Nat.le_of_ble_eq_true rfl) ?_
          refine g_if_eq (pc := 311) C 324 dX10_rows_311 (by decide) (fun c311 => ?_) (fun c311 => ?_)
          · refine g_lconst (pc := 324) (v := 0) C dX10_rows_324 (by decide) ?_
            refine g_ladd (pc := 325) C dX10_rows_325 ?_
            refine g_lstore (pc := 326) C [(0, .ref (ga G 0)), (1, .int (nI i)), (2, .int (nI j)), (3, .int (nI n)), (6, .int (nI k))] dX10_rows_326 (by decide) ⟨rfl, rfl, rfl, rfl, rfl, trivial⟩ rfl rfl ?_
            refine g_iinc (pc := 328) C dX10_rows_328 rfl (by decide) rfl ?_
            refine g_goto (pc := 331) C 251 dX10_rows_331 (by decide) ?_
            exact g_to (ih (k + 1) (by omega)) ⟨rfl, rfl, rfl, rfl, by rw [es, er, Nat.add_zero, show lN (sumb (rsF T i j n) k) + 0 = lN (sumb (rsF T i j n) k) from Int64.add_zero _]; rfl, lgi (nI_1 k), trivial⟩
          · exact absurd (by rw [hps]; rfl) c311
    · have er : rsF T i j n k = rwk T i n k := by unfold rsF; rw [if_pos hps]
      refine g_iload (pc := 251) C dX10_rows_251 rfl ?_
      refine g_bipush (pc := 253) (v := nI 54) C dX10_rows_253 (by decide) ?_
      refine g_icmp_ge (pc := 255) C 334 dX10_rows_255 (by decide) (fun c255 => ?_) (fun c255 => ?_)
      · exact absurd c255 (nI_ge (by omega) (by decide))
      · refine g_lload (pc := 258) C dX10_rows_258 rfl ?_
        refine g_aload_n (pc := 260) C dX10_rows_260 rfl ?_
        apply gf_X10_13 (pc := 261) C rfl dX10_rows_261
        · repeat (first | assumption | exact Cl.s (by assumption) | refine Cl.n (by first | decide | omega) ?_)
        · rfl
        refine g_iconst (pc := 264) (v := nI 0) C dX10_rows_264 (by decide) ?_
        apply g_iaload (pc := 265) C dX10_rows_265
        · repeat (first | assumption | exact Cl.s (by assumption) | refine Cl.n (by first | decide | omega) ?_)
        · exact vp_in_nI (n := 0) (by decide) (by decide)
        rw [nI_clamp (by decide), e0]
        refine g_aload_n (pc := 266) C dX10_rows_266 rfl ?_
        refine g_iload_n (pc := 267) C dX10_rows_267 rfl ?_
        refine g_iload (pc := 268) C dX10_rows_268 rfl ?_
        refine g_bipush (pc := 270) (v := nI 6) C dX10_rows_270 (by decide) ?_
        refine g_idiv (pc := 272) C dX10_rows_272 (by decide) ?_
        refine g_aload_n (pc := 273) C dX10_rows_273 rfl ?_
        apply gf_X10_26 (pc := 274) C rfl dX10_rows_274
        · repeat (first | assumption | exact Cl.s (by assumption) | refine Cl.n (by first | decide | omega) ?_)
        · rfl
        refine g_iconst (pc := 277) (v := nI 0) C dX10_rows_277 (by decide) ?_
        apply g_iaload (pc := 278) C dX10_rows_278
        · repeat (first | assumption | exact Cl.s (by assumption) | refine Cl.n (by first | decide | omega) ?_)
        · exact vp_in_nI (n := 0) (by decide) (by decide)
        rw [nI_clamp (by decide), e3, pk_div (by omega) (by decide) (by decide)]
        refine g_irem (pc := 279) C dX10_rows_279 (nI_ne0 (by omega) (by omega)) ?_
        rw [pk_rem (by omega) (by omega) (by omega)]
        apply cl_X10_136 (pc := 280) C rfl (r_unlike y0 hT1 hj hkm) dX10_rows_280
        · repeat (first | assumption | exact Cl.s (by assumption) | refine Cl.n (by first | decide | omega) ?_)
        · rfl
        · exact Nat.le_of_ble_eq_true rfl
        refine g_aload_n (pc := 283) C dX10_rows_283 rfl ?_
        apply cl_X10_140 (pc := 284) C rfl (r_seen y0 hT1) dX10_rows_284
        · repeat (first | assumption | exact Cl.s (by assumption) | refine Cl.n (by first | decide | omega) ?_)
        · rfl
        · exact Nat.le_of_ble_eq_true rfl
        refine g_iand (pc := 287) C dX10_rows_287 ?_
        rw [nx_and]
        refine g_iload (pc := 288) C dX10_rows_288 rfl ?_
        refine g_bipush (pc := 290) (v := nI 6) C dX10_rows_290 (by decide) ?_
        refine g_irem (pc := 292) C dX10_rows_292 (by decide) ?_
        rw [pk_rem (by omega) (by decide) (by decide)]
        refine g_iconst (pc := 293) (v := nI 5) C dX10_rows_293 (by decide) ?_
        refine g_icmp_nE (pc := 294) C 301 dX10_rows_294 (by decide) (fun c294 => ?_) (fun c294 => ?_)
        · refine g_iconst (pc := 301) (v := nI 1) C dX10_rows_301 (by decide) ?_
          refine g_iload (pc := 302) C dX10_rows_302 rfl ?_
          refine g_bipush (pc := 304) (v := nI 6) C dX10_rows_304 (by decide) ?_
          refine g_irem (pc := 306) C dX10_rows_306 (by decide) ?_
          rw [pk_rem (by omega) (by decide) (by decide)]
          refine g_ishl (pc := 307) C dX10_rows_307 ?_
          first | (have c294' := (nI_eq (by omega) (by decide)).mp c294; rw [show nI 0 = nI (brd (ph (k % 6))) by rw [c294', brph5]]) | (have c294' : ¬ k % 6 = 5 := fun q => c294 (by rw [q]); rw [nx_shl _ (by omega), ← brph c294'])
          refine cl_X10_146 (pc := 308) C rfl (r_passes hlaw (by omega) (by omega)) dX10_rows_308 rfl (Nat.le_of_ble_eq_true rfl) ?_
          refine g_if_eq (pc := 311) C 324 dX10_rows_311 (by decide) (fun c311 => ?_) (fun c311 => ?_)
          · exact absurd c311 (by rw [hps]; decide)
          · refine g_aload_n (pc := 314) C dX10_rows_314 rfl ?_
            apply gf_X10_50 (pc := 315) C rfl dX10_rows_315
            · repeat (first | assumption | exact Cl.s (by assumption) | refine Cl.n (by first | decide | omega) ?_)
            · rfl
            refine g_iload (pc := 318) C dX10_rows_318 rfl ?_
            apply g_laload (pc := 320) C dX10_rows_320
            · repeat (first | assumption | exact Cl.s (by assumption) | refine Cl.n (by first | decide | omega) ?_)
            · exact vp_in_nI (by omega) (by decide)
            refine g_goto (pc := 321) C 325 dX10_rows_321 (by decide) ?_
            rw [nI_clamp (by omega), f1 k (by omega)]
            refine g_ladd (pc := 325) C dX10_rows_325 ?_
            refine g_lstore (pc := 326) C [(0, .ref (ga G 0)), (1, .int (nI i)), (2, .int (nI j)), (3, .int (nI n)), (6, .int (nI k))] dX10_rows_326 (by decide) ⟨rfl, rfl, rfl, rfl, rfl, trivial⟩ rfl rfl ?_
            refine g_iinc (pc := 328) C dX10_rows_328 rfl (by decide) rfl ?_
            refine g_goto (pc := 331) C 251 dX10_rows_331 (by decide) ?_
            exact g_to (ih (k + 1) (by omega)) ⟨rfl, rfl, rfl, rfl, by rw [es, er, ← lN_add]; rfl, lgi (nI_1 k), trivial⟩
        · refine g_iconst (pc := 297) (v := nI 0) C dX10_rows_297 (by decide) ?_
          refine g_goto (pc := 298) C 308 dX10_rows_298 (by decide) ?_
          first | (have c294' := (nI_eq (by omega) (by decide)).mp c294; rw [show nI 0 = nI (brd (ph (k % 6))) by rw [c294', brph5]]) | (have c294' : ¬ k % 6 = 5 := fun q => c294 (by rw [q]); rw [nx_shl _ (by omega), ← brph c294'])
          refine cl_X10_146 (pc := 308) C rfl (r_passes hlaw (by omega) (by omega)) dX10_rows_308 rfl (Nat.le_of_ble_eq_true rfl) ?_
          refine g_if_eq (pc := 311) C 324 dX10_rows_311 (by decide) (fun c311 => ?_) (fun c311 => ?_)
          · exact absurd c311 (by rw [hps]; decide)
          · refine g_aload_n (pc := 314) C dX10_rows_314 rfl ?_
            apply gf_X10_50 (pc := 315) C rfl dX10_rows_315
            · repeat (first | assumption | exact Cl.s (by assumption) | refine Cl.n (by first | decide | omega) ?_)
            · rfl
            refine g_iload (pc := 318) C dX10_rows_318 rfl ?_
            apply g_laload (pc := 320) C dX10_rows_320
            · repeat (first | assumption | exact Cl.s (by assumption) | refine Cl.n (by first | decide | omega) ?_)
            · exact vp_in_nI (by omega) (by decide)
            refine g_goto (pc := 321) C 325 dX10_rows_321 (by decide) ?_
            rw [nI_clamp (by omega), f1 k (by omega)]
            refine g_ladd (pc := 325) C dX10_rows_325 ?_
            refine g_lstore (pc := 326) C [(0, .ref (ga G 0)), (1, .int (nI i)), (2, .int (nI j)), (3, .int (nI n)), (6, .int (nI k))] dX10_rows_326 (by decide) ⟨rfl, rfl, rfl, rfl, rfl, trivial⟩ rfl rfl ?_
            refine g_iinc (pc := 328) C dX10_rows_328 rfl (by decide) rfl ?_
            refine g_goto (pc := 331) C 251 dX10_rows_331 (by decide) ?_
            exact g_to (ih (k + 1) (by omega)) ⟨rfl, rfl, rfl, rfl, by rw [es, er, ← lN_add]; rfl, lgi (nI_1 k), trivial⟩
theorem r_rows {kept done : Int32} (h0 : Cl G σ 0 (cRef G len at_ kept done rm)) (hT : QT G σ T) {i j n : Nat} (hi : i < tm T) (hj : j < tm T) (hn : n ≤ 12) {fw : Nat → Int64} (h14 : Cl G σ 14 (lA G 324 fw)) : ∃ f', Mt G mX10_rows [.ref (ga G 0), .int (nI i), .int (nI j), .int (nI n)] σ (some (.long (lN (btw T i j n)))) (va_up σ 14 (lA G 324 f')) := by
  have hW := hT.w.1
  have hm := hW.2.2.2.2.1
  rw [← rsum_eq hW hi]
  have fin : ∀ f, (∀ x, x < 54 → f x = lN (rwk T i n x)) → RwE G σ (some (.long (lN (rsum T i j n)))) f 245 [(0, .ref (ga G 0)), (1, .int (nI i)), (2, .int (nI j)), (3, .int (nI n))] := by
    intro f f1
    refine ⟨f, fun κ C => ?_⟩
    have := r_rowsS h0 hT (i := i) (n := n) hj h14 f1 κ C 54 0 (by omega)
    refine g_lconst (pc := 245) (v := 0) C dX10_rows_245 (by decide) ?_
    refine g_lstore (pc := 246) C [(0, .ref (ga G 0)), (1, .int (nI i)), (2, .int (nI j)), (3, .int (nI n))] dX10_rows_246 (by decide) ⟨rfl, rfl, rfl, rfl, trivial⟩ rfl rfl ?_
    refine g_iconst (pc := 248) (v := nI 0) C dX10_rows_248 (by decide) ?_
    refine g_istore (pc := 249) C dX10_rows_249 (by decide) rfl ?_
    exact g_to this ⟨rfl, rfl, rfl, rfl, rfl, rfl, trivial⟩
  have outer : ∀ (e q : Nat) (f : Nat → Int64), q + e = n → (∀ x, x < 54 → f x = lN (rwk T i q x)) → RwE G σ (some (.long (lN (rsum T i j n)))) f 43 [(0, .ref (ga G 0)), (1, .int (nI i)), (2, .int (nI j)), (3, .int (nI n)), (4, .int (nI q))] := by
    intro e
    induction e with
    | zero =>
      intro q f hq f1
      have hq' : q = n := by omega
      subst hq'
      obtain ⟨f', g⟩ := fin f f1
      refine ⟨f', fun κ C => ?_⟩
      refine g_iload (pc := 43) C dX10_rows_43 rfl ?_
      refine g_iload_n (pc := 45) C dX10_rows_45 rfl ?_
      refine g_icmp_ge (pc := 46) C 245 dX10_rows_46 (by decide) (fun c46 => ?_) (fun c46 => ?_)
      · exact g_to (g κ C) ⟨rfl, rfl, rfl, rfl, trivial⟩
      · exact absurd (nI_le (by omega) (by omega)) c46
    | succ e ih =>
      intro q f hq f1
      obtain ⟨f', g⟩ := r_rowsZ h0 (i := i) (j := j) (n := n) (q := q) h14 (some (.long (lN (rsum T i j n)))) (c := rwk T i q) (fun f2 a1 a2 => by
        obtain ⟨f', g⟩ := r_rowsK h0 hT (i := i) (j := j) (n := n) (q := q) h14 (some (.long (lN (rsum T i j n)))) (c := rwk T i q) (fun k hk hz => rwk_z hW hi q hk hz) (fun k hk => rwk_lt hW hi (by omega) hk) (fun f3 b1 b2 => by
          obtain ⟨f', g⟩ := r_rowsC h0 (i := i) (j := j) (n := n) (q := q) h14 (some (.long (lN (rsum T i j n)))) (c := rwk T i (q + 1)) (fun f4 d1 => by
            obtain ⟨f', g⟩ := ih (q + 1) f4 (by omega) d1
            refine ⟨f', fun κ C => ?_⟩
            refine g_iinc (pc := 239) C dX10_rows_239 rfl (by decide) rfl ?_
            refine g_goto (pc := 242) C 43 dX10_rows_242 (by decide) ?_
            exact g_to (g κ C) ⟨rfl, rfl, rfl, rfl, lgi (nI_1 q), trivial⟩
            ) 54 0 f3 (by omega) (fun x hx => absurd hx (Nat.not_lt_zero x)) b2
          refine ⟨f', fun κ C => ?_⟩
          refine g_iconst (pc := 206) (v := nI 0) C dX10_rows_206 (by decide) ?_
          refine g_istore (pc := 207) C dX10_rows_207 (by decide) rfl ?_
          exact g_to (g κ C) ⟨rfl, rfl, rfl, rfl, rfl, rfl, trivial⟩
          ) 54 0 f2 (by omega) a1 a2
        refine ⟨f', fun κ C => ?_⟩
        refine g_iconst (pc := 76) (v := nI 0) C dX10_rows_76 (by decide) ?_
        refine g_istore (pc := 77) C dX10_rows_77 (by decide) rfl ?_
        exact g_to (g κ C) ⟨rfl, rfl, rfl, rfl, rfl, rfl, trivial⟩
        ) 54 0 f (by omega) f1 (fun x hx => absurd hx (Nat.not_lt_zero x))
      refine ⟨f', fun κ C => ?_⟩
      refine g_iload (pc := 43) C dX10_rows_43 rfl ?_
      refine g_iload_n (pc := 45) C dX10_rows_45 rfl ?_
      refine g_icmp_ge (pc := 46) C 245 dX10_rows_46 (by decide) (fun c46 => ?_) (fun c46 => ?_)
      · exact absurd c46 (nI_ge (by omega) (by omega))
      · refine g_iconst (pc := 49) (v := nI 0) C dX10_rows_49 (by decide) ?_
        refine g_istore (pc := 50) C dX10_rows_50 (by decide) rfl ?_
        exact g_to (g κ C) ⟨rfl, rfl, rfl, rfl, rfl, rfl, trivial⟩
  have init : ∀ (e k : Nat) (f : Nat → Int64), k + e = 324 → (∀ x, x < k → f x = lN (rwk T i 0 x)) → RwE G σ (some (.long (lN (rsum T i j n)))) f 3 [(0, .ref (ga G 0)), (1, .int (nI i)), (2, .int (nI j)), (3, .int (nI n)), (4, .int (nI k))] := by
    intro e
    induction e with
    | zero =>
      intro k f hk f1
      obtain ⟨f', g⟩ := outer n 0 f (by omega) (fun x hx => f1 x (by omega))
      refine ⟨f', fun κ C => ?_⟩
      refine g_iload (pc := 3) C dX10_rows_3 rfl ?_
      refine g_sipush (pc := 5) (v := nI 324) C dX10_rows_5 (by decide) ?_
      refine g_icmp_ge (pc := 8) C 40 dX10_rows_8 (by decide) (fun c8 => ?_) (fun c8 => ?_)
      · refine g_iconst (pc := 40) (v := nI 0) C dX10_rows_40 (by decide) ?_
        refine g_istore (pc := 41) C dX10_rows_41 (by decide) rfl ?_
        exact g_to (g κ C) ⟨rfl, rfl, rfl, rfl, rfl, trivial⟩
      · exact absurd (nI_le (by omega) (by omega)) c8
    | succ e ih =>
      intro k f hk f1
      obtain ⟨f', g⟩ := ih (k + 1) (vp_updL f k (lN (rwk T i 0 k))) (by omega) (fun x hx => by
        by_cases z : x = k
        · rw [z, pk_uLs]
        · rw [pk_uLn (by omega)]; exact f1 x (by omega))
      refine ⟨f', fun κ C => ?_⟩
      have y0 : Cl G (va_up σ 14 (lA G 324 f)) 0 (cRef G len at_ kept done rm) := Cl.n (by decide) h0
      have y14 : Cl G (va_up σ 14 (lA G 324 f)) 14 (lA G 324 f) := Cl.s h14
      by_cases hc : k = 6 * i + 5
      · have e1 : lN (rwk T i 0 k) = 1 := by show lN (if k = 6 * i + 5 then 1 else 0) = 1; rw [if_pos hc]; rfl
        rw [e1] at g
        refine g_iload (pc := 3) C dX10_rows_3 rfl ?_
        refine g_sipush (pc := 5) (v := nI 324) C dX10_rows_5 (by decide) ?_
        refine g_icmp_ge (pc := 8) C 40 dX10_rows_8 (by decide) (fun c8 => ?_) (fun c8 => ?_)
        · exact absurd c8 (nI_ge (by omega) (by decide))
        · refine g_aload_n (pc := 11) C dX10_rows_11 rfl ?_
          apply gf_X10_50 (pc := 12) C rfl dX10_rows_12
          · repeat (first | assumption | exact Cl.s (by assumption) | refine Cl.n (by first | decide | omega) ?_)
          · rfl
          refine g_iload (pc := 15) C dX10_rows_15 rfl ?_
          refine g_iload (pc := 17) C dX10_rows_17 rfl ?_
          refine g_bipush (pc := 19) (v := nI 6) C dX10_rows_19 (by decide) ?_
          refine g_iload_n (pc := 21) C dX10_rows_21 rfl ?_
          refine g_imul (pc := 22) C dX10_rows_22 ?_
          refine g_iconst (pc := 23) (v := nI 5) C dX10_rows_23 (by decide) ?_
          refine g_iadd (pc := 24) C dX10_rows_24 ?_
          rw [pk_mul, nI_add]
          refine g_icmp_nE (pc := 25) C 32 dX10_rows_25 (by decide) (fun c25 => ?_) (fun c25 => ?_)
          · exact absurd (by rw [hc]) c25
          · refine g_lconst (pc := 28) (v := 1) C dX10_rows_28 (by decide) ?_
            refine g_goto (pc := 29) C 33 dX10_rows_29 (by decide) ?_
            apply g_lastore (pc := 33) C dX10_rows_33
            · repeat (first | assumption | exact Cl.s (by assumption) | refine Cl.n (by first | decide | omega) ?_)
            · exact vp_in_nI (by omega) (by decide)
            intro hw33
            refine g_iinc (pc := 34) C dX10_rows_34 rfl (by decide) rfl ?_
            refine g_goto (pc := 37) C 3 dX10_rows_37 (by decide) ?_
            rw [nI_clamp (by omega), bx_uu σ 14]
            exact g_to (g κ C) ⟨rfl, rfl, rfl, rfl, lgi (nI_1 k), trivial⟩
      · have e1 : lN (rwk T i 0 k) = 0 := by show lN (if k = 6 * i + 5 then 1 else 0) = 0; rw [if_neg hc]; rfl
        rw [e1] at g
        refine g_iload (pc := 3) C dX10_rows_3 rfl ?_
        refine g_sipush (pc := 5) (v := nI 324) C dX10_rows_5 (by decide) ?_
        refine g_icmp_ge (pc := 8) C 40 dX10_rows_8 (by decide) (fun c8 => ?_) (fun c8 => ?_)
        · exact absurd c8 (nI_ge (by omega) (by decide))
        · refine g_aload_n (pc := 11) C dX10_rows_11 rfl ?_
          apply gf_X10_50 (pc := 12) C rfl dX10_rows_12
          · repeat (first | assumption | exact Cl.s (by assumption) | refine Cl.n (by first | decide | omega) ?_)
          · rfl
          refine g_iload (pc := 15) C dX10_rows_15 rfl ?_
          refine g_iload (pc := 17) C dX10_rows_17 rfl ?_
          refine g_bipush (pc := 19) (v := nI 6) C dX10_rows_19 (by decide) ?_
          refine g_iload_n (pc := 21) C dX10_rows_21 rfl ?_
          refine g_imul (pc := 22) C dX10_rows_22 ?_
          refine g_iconst (pc := 23) (v := nI 5) C dX10_rows_23 (by decide) ?_
          refine g_iadd (pc := 24) C dX10_rows_24 ?_
          rw [pk_mul, nI_add]
          refine g_icmp_nE (pc := 25) C 32 dX10_rows_25 (by decide) (fun c25 => ?_) (fun c25 => ?_)
          · refine g_lconst (pc := 32) (v := 0) C dX10_rows_32 (by decide) ?_
            apply g_lastore (pc := 33) C dX10_rows_33
            · repeat (first | assumption | exact Cl.s (by assumption) | refine Cl.n (by first | decide | omega) ?_)
            · exact vp_in_nI (by omega) (by decide)
            intro hw33
            refine g_iinc (pc := 34) C dX10_rows_34 rfl (by decide) rfl ?_
            refine g_goto (pc := 37) C 3 dX10_rows_37 (by decide) ?_
            rw [nI_clamp (by omega), bx_uu σ 14]
            exact g_to (g κ C) ⟨rfl, rfl, rfl, rfl, lgi (nI_1 k), trivial⟩
          · exact absurd ((nI_eq (by omega) (by omega)).mp c25) hc
  obtain ⟨f', g⟩ := init 324 0 fw (by omega) (fun x hx => absurd hx (Nat.not_lt_zero x))
  rw [va_self h14.2] at g
  refine ⟨f', ?_⟩
  refine Mt.of (by decide +kernel) (Nat.le_of_ble_eq_true rfl) (fun κ C => ?_)
  refine g_iconst (pc := 0) (v := nI 0) C dX10_rows_0 (by decide) ?_
  refine g_istore (pc := 1) C dX10_rows_1 (by decide) rfl ?_
  exact g_to (g κ C) ⟨rfl, rfl, rfl, rfl, rfl, trivial⟩
def QW (G : GG) (σ : WW) : Prop := ∃ f, Cl G σ 14 (lA G 324 f)
theorem q_between {kept done : Int32} (h0 : Cl G σ 0 (cRef G len at_ kept done rm)) (hT : QT G σ T) (hw : QW G σ) (i j n : Int32) : ∃ σ', Mt G mX10_between [.ref (ga G 0), .int i, .int j, .int n] σ (some (.long (betweenF T i j n))) σ' ∧ QW G σ' ∧ Fr σ σ' [14] := by
  have hw' := hw
  obtain ⟨fw, h14⟩ := hw
  have hm := hT.w.1.2.2.2.2.1
  have kn := inB_c n (a := 0) (b := 12) (by decide) (by decide)
  have no : betweenF T i j n = -1 → (inR i (tm T) = false ∨ inR j (tm T) = false ∨ inR n 13 = false) → ∃ σ', Mt G mX10_between [.ref (ga G 0), .int i, .int j, .int n] σ (some (.long (betweenF T i j n))) σ' ∧ QW G σ' ∧ Fr σ σ' [14] := by
    intro e hno
    rw [e]
    refine ⟨σ, ?_, hw', fr0⟩
    have en : inR n 13 = false → inB n.toInt64 (nI 0).toInt64 (nI 12).toInt64 = false := by
      intro q
      rw [kn, decide_eq_false_iff_not, Classical.not_not]
      by_cases z : n < 0
      · exact Or.inl z
      · refine Or.inr ?_
        by_cases w : nI 13 ≤ n
        · exact Int32.lt_of_lt_of_le (by decide) w
        · rw [inR_t z w] at q; cases q
    refine Mt.of (by decide +kernel) (Nat.le_of_ble_eq_true rfl) (fun κ C => ?_)
    refine g_aload_n (pc := 0) C dX10_between_0 rfl ?_
    refine g_iload_n (pc := 1) C dX10_between_1 rfl ?_
    apply cl_X10_126 (pc := 2) C rfl (r_isMan h0 hT i) dX10_between_2
    · repeat (first | assumption | exact Cl.s (by assumption) | refine Cl.n (by first | decide | omega) ?_)
    · rfl
    · exact Nat.le_of_ble_eq_true rfl
    refine g_if_eq (pc := 5) C 38 dX10_between_5 (by decide) (fun c5 => ?_) (fun c5 => ?_)
    · refine g_ldc2 (pc := 38) C dX10_between_38 k_X10_168 ?_
      exact g_lreturn (pc := 41) C dX10_between_41 rfl (rfl) (rfl)
    · refine g_aload_n (pc := 8) C dX10_between_8 rfl ?_
      refine g_iload_n (pc := 9) C dX10_between_9 rfl ?_
      apply cl_X10_126 (pc := 10) C rfl (r_isMan h0 hT j) dX10_between_10
      · repeat (first | assumption | exact Cl.s (by assumption) | refine Cl.n (by first | decide | omega) ?_)
      · rfl
      · exact Nat.le_of_ble_eq_true rfl
      refine g_if_eq (pc := 13) C 38 dX10_between_13 (by decide) (fun c13 => ?_) (fun c13 => ?_)
      · refine g_ldc2 (pc := 38) C dX10_between_38 k_X10_168 ?_
        exact g_lreturn (pc := 41) C dX10_between_41 rfl (rfl) (rfl)
      · refine g_iload_n (pc := 16) C dX10_between_16 rfl ?_
        refine g_i2l (pc := 17) C dX10_between_17 ?_
        refine g_lconst (pc := 18) (v := 0) C dX10_between_18 (by decide) ?_
        refine g_ldc2 (pc := 19) C dX10_between_19 k_X10_162 ?_
        refine cl_X10_74 (pc := 22) C rfl (r_in _ _ _) dX10_between_22 rfl (Nat.le_of_ble_eq_true rfl) ?_
        refine g_if_eq (pc := 25) C 38 dX10_between_25 (by decide) (fun c25 => ?_) (fun c25 => ?_)
        · refine g_ldc2 (pc := 38) C dX10_between_38 k_X10_168 ?_
          exact g_lreturn (pc := 41) C dX10_between_41 rfl (rfl) (rfl)
        · exfalso
          have a1 := b2_n0.mp c5
          have a2 := b2_n0.mp c13
          have a3 := b2_n0.mp c25
          rcases hno with q | q | q
          · rw [q] at a1; cases a1
          · rw [q] at a2; cases a2
          · exact absurd a3 (by change ¬ inB n.toInt64 (nI 0).toInt64 (nI 12).toInt64 = true; rw [en q]; decide)
  rcases inR_c i (m := tm T) (by omega) with e | ⟨e, k, hk, rfl⟩
  · exact no (by simp [betweenF, e]) (Or.inl e)
  · rcases inR_c j (m := tm T) (by omega) with e2 | ⟨e2, q, hq, rfl⟩
    · exact no (by simp [betweenF, e2]) (Or.inr (Or.inl e2))
    · rcases inR_c n (m := 13) (by omega) with e3 | ⟨e3, s, hs, rfl⟩
      · exact no (by simp [betweenF, e3]) (Or.inr (Or.inr e3))
      · rw [show betweenF T (nI k) (nI q) (nI s) = lN (btw T k q s) by simp [betweenF, e, e2, e3, nI_clamp (show k < 2 ^ 31 by omega), nI_clamp (show q < 2 ^ 31 by omega), nI_clamp (show s < 2 ^ 31 by omega)]]
        obtain ⟨f', g⟩ := r_rows h0 hT hk hq (n := s) (by omega) h14
        refine ⟨_, ?_, ⟨f', Cl.s h14⟩, fr14⟩
        have en : inB (nI s).toInt64 (nI 0).toInt64 (nI 12).toInt64 = true := by rw [inB_n (by omega) (by decide) (by decide)]; exact decide_eq_true (by omega)
        refine Mt.of (by decide +kernel) (Nat.le_of_ble_eq_true rfl) (fun κ C => ?_)
        refine g_aload_n (pc := 0) C dX10_between_0 rfl ?_
        refine g_iload_n (pc := 1) C dX10_between_1 rfl ?_
        apply cl_X10_126 (pc := 2) C rfl (r_isMan h0 hT (nI k)) dX10_between_2
        · repeat (first | assumption | exact Cl.s (by assumption) | refine Cl.n (by first | decide | omega) ?_)
        · rfl
        · exact Nat.le_of_ble_eq_true rfl
        refine g_if_eq (pc := 5) C 38 dX10_between_5 (by decide) (fun c5 => ?_) (fun c5 => ?_)
        · exact absurd c5 (by rw [e]; decide)
        · refine g_aload_n (pc := 8) C dX10_between_8 rfl ?_
          refine g_iload_n (pc := 9) C dX10_between_9 rfl ?_
          apply cl_X10_126 (pc := 10) C rfl (r_isMan h0 hT (nI q)) dX10_between_10
          · repeat (first | assumption | exact Cl.s (by assumption) | refine Cl.n (by first | decide | omega) ?_)
          · rfl
          · exact Nat.le_of_ble_eq_true rfl
          refine g_if_eq (pc := 13) C 38 dX10_between_13 (by decide) (fun c13 => ?_) (fun c13 => ?_)
          · exact absurd c13 (by rw [e2]; decide)
          · refine g_iload_n (pc := 16) C dX10_between_16 rfl ?_
            refine g_i2l (pc := 17) C dX10_between_17 ?_
            refine g_lconst (pc := 18) (v := 0) C dX10_between_18 (by decide) ?_
            refine g_ldc2 (pc := 19) C dX10_between_19 k_X10_162 ?_
            refine cl_X10_74 (pc := 22) C rfl (r_in _ _ _) dX10_between_22 rfl (Nat.le_of_ble_eq_true rfl) ?_
            refine g_if_eq (pc := 25) C 38 dX10_between_25 (by decide) (fun c25 => ?_) (fun c25 => ?_)
            · exact absurd c25 (by change ¬ nI (b2 (inB (nI s).toInt64 (nI 0).toInt64 (nI 12).toInt64)) = 0; rw [en]; decide)
            · refine g_aload_n (pc := 28) C dX10_between_28 rfl ?_
              refine g_iload_n (pc := 29) C dX10_between_29 rfl ?_
              refine g_iload_n (pc := 30) C dX10_between_30 rfl ?_
              refine g_iload_n (pc := 31) C dX10_between_31 rfl ?_
              apply cl_X10_164 (pc := 32) C rfl g dX10_between_32
              · repeat (first | assumption | exact Cl.s (by assumption) | refine Cl.n (by first | decide | omega) ?_)
              · rfl
              · exact Nat.le_of_ble_eq_true rfl
              refine g_goto (pc := 35) C 41 dX10_between_35 (by decide) ?_
              exact g_lreturn (pc := 41) C dX10_between_41 rfl (rfl) (rfl)
theorem q_nearest {kept done : Int32} (h0 : Cl G σ 0 (cRef G len at_ kept done rm)) (hT : QT G σ T) (hw : QW G σ) (i j : Int32) : ∃ σ', Mt G mX10_nearest [.ref (ga G 0), .int i, .int j] σ (some (.int (nearestF T i j))) σ' ∧ QW G σ' ∧ Fr σ σ' [14] := by
  have hw' := hw
  obtain ⟨fw, h14⟩ := hw
  have hm := hT.w.1.2.2.2.2.1
  rcases inR_c i (m := tm T) (by omega) with e | ⟨e, k, hk, rfl⟩
  · rw [show nearestF T i j = -1 by simp [nearestF, e]]
    refine ⟨σ, ?_, hw', fr0⟩
    refine Mt.of (by decide +kernel) (Nat.le_of_ble_eq_true rfl) (fun κ C => ?_)
    refine g_aload_n (pc := 0) C dX10_nearest_0 rfl ?_
    refine g_iload_n (pc := 1) C dX10_nearest_1 rfl ?_
    apply cl_X10_126 (pc := 2) C rfl (r_isMan h0 hT i) dX10_nearest_2
    · repeat (first | assumption | exact Cl.s (by assumption) | refine Cl.n (by first | decide | omega) ?_)
    · rfl
    · exact Nat.le_of_ble_eq_true rfl
    refine g_if_eq (pc := 5) C 16 dX10_nearest_5 (by decide) (fun c5 => ?_) (fun c5 => ?_)
    · refine g_iconst (pc := 16) (v := -1) C dX10_nearest_16 (by decide) ?_
      exact g_ireturn (pc := 17) C dX10_nearest_17 rfl (rfl) (rfl)
    · exact absurd (by rw [e]; rfl) c5
  · rcases inR_c j (m := tm T) (by omega) with e2 | ⟨e2, q, hq, rfl⟩
    · rw [show nearestF T (nI k) j = -1 by simp [nearestF, e2]]
      refine ⟨σ, ?_, hw', fr0⟩
      refine Mt.of (by decide +kernel) (Nat.le_of_ble_eq_true rfl) (fun κ C => ?_)
      refine g_aload_n (pc := 0) C dX10_nearest_0 rfl ?_
      refine g_iload_n (pc := 1) C dX10_nearest_1 rfl ?_
      apply cl_X10_126 (pc := 2) C rfl (r_isMan h0 hT (nI k)) dX10_nearest_2
      · repeat (first | assumption | exact Cl.s (by assumption) | refine Cl.n (by first | decide | omega) ?_)
      · rfl
      · exact Nat.le_of_ble_eq_true rfl
      refine g_if_eq (pc := 5) C 16 dX10_nearest_5 (by decide) (fun c5 => ?_) (fun c5 => ?_)
      · exact absurd c5 (by rw [e]; decide)
      · refine g_aload_n (pc := 8) C dX10_nearest_8 rfl ?_
        refine g_iload_n (pc := 9) C dX10_nearest_9 rfl ?_
        apply cl_X10_126 (pc := 10) C rfl (r_isMan h0 hT j) dX10_nearest_10
        · repeat (first | assumption | exact Cl.s (by assumption) | refine Cl.n (by first | decide | omega) ?_)
        · rfl
        · exact Nat.le_of_ble_eq_true rfl
        refine g_if_nE (pc := 13) C 18 dX10_nearest_13 (by decide) (fun c13 => ?_) (fun c13 => ?_)
        · exact absurd (by rw [e2]; rfl) c13
        · refine g_iconst (pc := 16) (v := -1) C dX10_nearest_16 (by decide) ?_
          exact g_ireturn (pc := 17) C dX10_nearest_17 rfl (rfl) (rfl)
    · rw [show nearestF T (nI k) (nI q) = nrs T k q 13 0 by simp [nearestF, e, e2, nI_clamp (show k < 2 ^ 31 by omega), nI_clamp (show q < 2 ^ 31 by omega)]]
      have loop : ∀ (d n : Nat) (f : Nat → Int64), n + d = 13 → ∃ f', ∀ κ, Cx G mX10_nearest κ → Go G mX10_nearest κ (some (.int (nrs T k q d n))) (va_up σ 14 (lA G 324 f')) (va_up σ 14 (lA G 324 f)) 20 [(0, .ref (ga G 0)), (1, .int (nI k)), (2, .int (nI q)), (3, .int (nI n))] [] := by
        intro d
        induction d with
        | zero =>
          intro n f hn
          refine ⟨f, fun κ C => ?_⟩
          refine g_iload_n (pc := 20) C dX10_nearest_20 rfl ?_
          refine g_bipush (pc := 21) (v := nI 12) C dX10_nearest_21 (by decide) ?_
          refine g_icmp_gt (pc := 23) C 46 dX10_nearest_23 (by decide) (fun c23 => ?_) (fun c23 => ?_)
          · refine g_bipush (pc := 46) (v := -4) C dX10_nearest_46 (by decide) ?_
            exact g_ireturn (pc := 48) C dX10_nearest_48 rfl (rfl) (rfl)
          · exact absurd (nI_lt (by omega) (by omega)) c23
        | succ d ih =>
          intro n f hn
          have y0 : Cl G (va_up σ 14 (lA G 324 f)) 0 (cRef G len at_ kept done rm) := Cl.n (by decide) h0
          have y14 : Cl G (va_up σ 14 (lA G 324 f)) 14 (lA G 324 f) := Cl.s h14
          obtain ⟨f1, g1⟩ := r_rows y0 hT.f14 hk hq (n := n) (by omega) y14
          rw [bx_uu σ 14] at g1
          have hb : btw T k q n < 2 ^ 62 := wks_lt hT.w.1 (by omega)
          by_cases hz : btw T k q n = 0
          · obtain ⟨f2, g2⟩ := ih (n + 1) f1 (by omega)
            refine ⟨f2, fun κ C => ?_⟩
            rw [show nrs T k q (d + 1) n = nrs T k q d (n + 1) by simp [nrs, hz]]
            refine g_iload_n (pc := 20) C dX10_nearest_20 rfl ?_
            refine g_bipush (pc := 21) (v := nI 12) C dX10_nearest_21 (by decide) ?_
            refine g_icmp_gt (pc := 23) C 46 dX10_nearest_23 (by decide) (fun c23 => ?_) (fun c23 => ?_)
            · exact absurd c23 (nI_nlt (by omega) (by omega))
            · refine g_aload_n (pc := 26) C dX10_nearest_26 rfl ?_
              refine g_iload_n (pc := 27) C dX10_nearest_27 rfl ?_
              refine g_iload_n (pc := 28) C dX10_nearest_28 rfl ?_
              refine g_iload_n (pc := 29) C dX10_nearest_29 rfl ?_
              apply cl_X10_164 (pc := 30) C rfl g1 dX10_nearest_30
              · repeat (first | assumption | exact Cl.s (by assumption) | refine Cl.n (by first | decide | omega) ?_)
              · rfl
              · exact Nat.le_of_ble_eq_true rfl
              refine g_lconst (pc := 33) (v := 0) C dX10_nearest_33 (by decide) ?_
              refine g_lcmp (pc := 34) C dX10_nearest_34 ?_
              refine g_if_le (pc := 35) C 40 dX10_nearest_35 (by decide) (fun c35 => ?_) (fun c35 => ?_)
              · refine g_iinc (pc := 40) C dX10_nearest_40 rfl (by decide) rfl ?_
                refine g_goto (pc := 43) C 20 dX10_nearest_43 (by decide) ?_
                exact g_to (g2 κ C) ⟨rfl, rfl, rfl, lgi (nI_1 n), trivial⟩
              · exact absurd (lc_0 hz) c35
          · refine ⟨f1, fun κ C => ?_⟩
            rw [show nrs T k q (d + 1) n = nI n by simp [nrs, hz]]
            refine g_iload_n (pc := 20) C dX10_nearest_20 rfl ?_
            refine g_bipush (pc := 21) (v := nI 12) C dX10_nearest_21 (by decide) ?_
            refine g_icmp_gt (pc := 23) C 46 dX10_nearest_23 (by decide) (fun c23 => ?_) (fun c23 => ?_)
            · exact absurd c23 (nI_nlt (by omega) (by omega))
            · refine g_aload_n (pc := 26) C dX10_nearest_26 rfl ?_
              refine g_iload_n (pc := 27) C dX10_nearest_27 rfl ?_
              refine g_iload_n (pc := 28) C dX10_nearest_28 rfl ?_
              refine g_iload_n (pc := 29) C dX10_nearest_29 rfl ?_
              apply cl_X10_164 (pc := 30) C rfl g1 dX10_nearest_30
              · repeat (first | assumption | exact Cl.s (by assumption) | refine Cl.n (by first | decide | omega) ?_)
              · rfl
              · exact Nat.le_of_ble_eq_true rfl
              refine g_lconst (pc := 33) (v := 0) C dX10_nearest_33 (by decide) ?_
              refine g_lcmp (pc := 34) C dX10_nearest_34 ?_
              refine g_if_le (pc := 35) C 40 dX10_nearest_35 (by decide) (fun c35 => ?_) (fun c35 => ?_)
              · exact absurd c35 (lc_1 hz (by omega))
              · refine g_iload_n (pc := 38) C dX10_nearest_38 rfl ?_
                exact g_ireturn (pc := 39) C dX10_nearest_39 rfl (rfl) (rfl)
      obtain ⟨f', g⟩ := loop 13 0 fw (by omega)
      rw [va_self h14.2] at g
      refine ⟨_, ?_, ⟨f', Cl.s h14⟩, fr14⟩
      refine Mt.of (by decide +kernel) (Nat.le_of_ble_eq_true rfl) (fun κ C => ?_)
      refine g_aload_n (pc := 0) C dX10_nearest_0 rfl ?_
      refine g_iload_n (pc := 1) C dX10_nearest_1 rfl ?_
      apply cl_X10_126 (pc := 2) C rfl (r_isMan h0 hT (nI k)) dX10_nearest_2
      · repeat (first | assumption | exact Cl.s (by assumption) | refine Cl.n (by first | decide | omega) ?_)
      · rfl
      · exact Nat.le_of_ble_eq_true rfl
      refine g_if_eq (pc := 5) C 16 dX10_nearest_5 (by decide) (fun c5 => ?_) (fun c5 => ?_)
      · exact absurd c5 (by rw [e]; decide)
      · refine g_aload_n (pc := 8) C dX10_nearest_8 rfl ?_
        refine g_iload_n (pc := 9) C dX10_nearest_9 rfl ?_
        apply cl_X10_126 (pc := 10) C rfl (r_isMan h0 hT (nI q)) dX10_nearest_10
        · repeat (first | assumption | exact Cl.s (by assumption) | refine Cl.n (by first | decide | omega) ?_)
        · rfl
        · exact Nat.le_of_ble_eq_true rfl
        refine g_if_nE (pc := 13) C 18 dX10_nearest_13 (by decide) (fun c13 => ?_) (fun c13 => ?_)
        · refine g_iconst (pc := 18) (v := nI 0) C dX10_nearest_18 (by decide) ?_
          refine g_istore_n (pc := 19) C dX10_nearest_19 (by decide) rfl ?_
          exact g_to (g κ C) ⟨rfl, rfl, rfl, rfl, trivial⟩
        · exact absurd c13 (by rw [e2]; decide)
end REF10

