def dI (v : Nat) : Int32 := if v = 0 then -1 else nI v
theorem dI_0 : dI 0 = -1 := rfl
theorem dI_p {v : Nat} (h : 1 ≤ v) : dI v = nI v := if_neg (by omega)
def CiS (G : GG) (σ σ1 : WW) (fd fq : Nat → Int32) : Prop := Cl G σ1 15 (iA G 5120 fd) ∧ Cl G σ1 16 (iA G 5120 fq) ∧ Fr σ σ1 [15, 16]
def CiR (d qu : Nat → Nat) (m : Nat) (fd fq : Nat → Int32) : Prop := (∀ K, K < 5120 → fd K = dI (d K)) ∧ (∀ r, r < m → fq r = nI (qu r)) ∧ ∀ r, r < m → d (qu r) ≤ r + 1
def CiP (G : GG) (σ : WW) (T : TS) (E : Nat → Nat) (σ' : WW) : Prop := ∃ (fd fq : Nat → Int32) (d : Nat → Nat), CiS G σ σ' fd fq ∧ (∀ K, K < 5120 → fd K = dI (d K)) ∧ (∀ K, d K ≤ 5120) ∧ (∀ K, 1 ≤ d K → bL (bpT T E) (d K - 1) K) ∧ ∀ k K, bL (bpT T E) k K → 1 ≤ d K ∧ d K ≤ k + 1
def CiE (G : GG) (σ : WW) (T : TS) (E : Nat → Nat) (σ1 : WW) (pc : Nat) (lv : List (Nat × Value)) : Prop := ∃ σ', (∀ κ, Cx G mX10_circles κ → Go G mX10_circles κ none σ' σ1 pc lv []) ∧ CiP G σ T E σ'
abbrev lvC (G : GG) (T : TS) (e m q : Nat) : List (Nat × Value) := [(0, .ref (ga G 0)), (1, .int (nI e)), (2, .int (nI (NC T))), (3, .int (nI m)), (4, .int (nI (tl T))), (5, .int (nI q))]
theorem ah_lt {T : TS} {e : Nat} (he : e < 5) : ah T e < 32 := by
  unfold ah
  split
  · exact u_5 e he
  · decide
section RS7
variable {G : GG} {σ : WW} {T : TS} {len at_ kept done rm : Int32}
theorem ci_140 (h0 : Cl G σ 0 (cRef G len at_ kept done rm)) (hT : QT G σ T) {e : Nat} {E : Nat → Nat} : ∀ f y {q m : Nat} {d qu : Nat → Nat} {σ1 : WW} {fd fq : Nat → Int32}, y + f = NC T → CiS G σ σ1 fd fq → CiR d qu m fd fq → bI (bpT T E) q y d qu m → q < m → (∀ σ2 d2 qu2 m2 fd2 fq2, CiS G σ σ2 fd2 fq2 → CiR d2 qu2 m2 fd2 fq2 → bI (bpT T E) q (NC T) d2 qu2 m2 → q < m2 → CiE G σ T E σ2 261 (lvC G T e m2 q)) → CiE G σ T E σ1 140 [(0, .ref (ga G 0)), (1, .int (nI e)), (2, .int (nI (NC T))), (3, .int (nI m)), (4, .int (nI (tl T))), (5, .int (nI q)), (6, .int (nI (qu q / 5))), (7, .int (nI y))] := by
  intro f
  induction f with
  | zero =>
    intro y q m d qu σ1 fd fq hy hS hR hI hq K
    have hW := hT.w.1
    have hN : NC T ≤ 1024 := cds_1024 hW
    obtain ⟨σ', k1, k2⟩ := K σ1 d qu m fd fq hS hR (by rw [show NC T = y by omega]; exact hI) hq
    refine ⟨σ', fun κ C => ?_, k2⟩
    have k1 := k1 κ C
    refine g_iload (pc := 140) C dX10_circles_140 rfl ?_
    refine g_iload_n (pc := 142) C dX10_circles_142 rfl ?_
    refine g_icmp_ge (pc := 143) C 261 dX10_circles_143 (by decide) (fun c143 => ?_) (fun c143 => ?_)
    · exact g_to k1 ⟨rfl, rfl, rfl, rfl, rfl, rfl, trivial⟩
    · exact absurd (nI_le (by omega) (by omega)) c143
  | succ f ih =>
    intro y q m d qu σ1 fd fq hy hS hR hI hq K
    obtain ⟨y15, y16, yF⟩ := id hS
    have y0 := h0.fr yF (by decide)
    have hT1 := hT.fr yF (by decide) (by decide) (by decide) (by decide) (by decide) (by decide)
    have hW := hT.w.1
    have hlaw := hW.2.2.2.2.2.2.1
    have hN : NC T ≤ 1024 := cds_1024 hW
    have hm5 := bI_le hI
    have hqu := hI.2.1 q hq
    have hyN : y < NC T := by omega
    have hX : qu q / 5 < 1024 := by omega
    have hs32 := DD_lt hW.1 (gd T y) (gd T (qu q / 5))
    have hme := me_lt T (DD T (gd T y) (gd T (qu q / 5)))
    have hmk := mk5_lt T (DD T (gd T y) (gd T (qu q / 5)))
    have hpl : pl T y < NC T := pc_lt hW (gd_V hW y)
    have hah := ah_lt (T := T) (e := qu q % 5) (by omega)
    generalize hk : 5 * y + me T (DD T (gd T y) (gd T (qu q / 5))) = k
    have hk5 : k < 5120 := by omega
    have hbs : bs (bpT T E) (qu q) y = k := hk
    have hfk := hR.1 k hk5
    have hdk : d k ≤ 5120 := by
      rcases Nat.eq_zero_or_pos (d k) with z | z
      · omega
      · obtain ⟨r, r1, r2⟩ := hI.2.2.1 k z
        have := hR.2.2 r r1
        rw [r2] at this
        omega
    have hno : ¬ (bo (bpT T E) (qu q) y = true ∧ d (bs (bpT T E) (qu q) y) = 0) → CiE G σ T E σ1 255 [(0, .ref (ga G 0)), (1, .int (nI e)), (2, .int (nI (NC T))), (3, .int (nI m)), (4, .int (nI (tl T))), (5, .int (nI q)), (6, .int (nI (qu q / 5))), (7, .int (nI y))] := by
      intro hno
      obtain ⟨σ', k1, k2⟩ := ih (y + 1) (by omega) hS hR (bI_skip hI hno) hq K
      refine ⟨σ', fun κ C => ?_, k2⟩
      have k1 := k1 κ C
      refine g_iinc (pc := 255) C dX10_circles_255 rfl (by decide) rfl ?_
      refine g_goto (pc := 258) C 140 dX10_circles_258 (by decide) ?_
      exact g_to k1 ⟨rfl, rfl, rfl, rfl, rfl, rfl, rfl, lgi (nI_1 y), trivial⟩
    have ebo : bo (bpT T E) (qu q) y = (decide (pl T y = y) && ps (tl T) (DD T (gd T y) (gd T (qu q / 5))) (ah T (qu q % 5))) := rfl
    have k171 : CiE G σ T E σ1 171 [(0, .ref (ga G 0)), (1, .int (nI e)), (2, .int (nI (NC T))), (3, .int (nI m)), (4, .int (nI (tl T))), (5, .int (nI q)), (6, .int (nI (qu q / 5))), (7, .int (nI y)), (8, .int (nI (DD T (gd T y) (gd T (qu q / 5))))), (9, .int (nI k))] := by
      by_cases hp : pl T y = y
      · by_cases hd : d k = 0
        · rw [hd, dI_0] at hfk
          have k192 : CiE G σ T E σ1 192 [(0, .ref (ga G 0)), (1, .int (nI e)), (2, .int (nI (NC T))), (3, .int (nI m)), (4, .int (nI (tl T))), (5, .int (nI q)), (6, .int (nI (qu q / 5))), (7, .int (nI y)), (8, .int (nI (DD T (gd T y) (gd T (qu q / 5))))), (9, .int (nI k))] := by
            by_cases hps : ps (tl T) (DD T (gd T y) (gd T (qu q / 5))) (ah T (qu q % 5)) = true
            · obtain ⟨hm, hI2⟩ := bI_add (bpT_W hW) hI hq hyN (by rw [ebo, hps]; simp [hp]) (by rw [hbs]; exact hd)
              rw [hbs] at hI2
              have eqq : set1 qu m k q = qu q := if_neg (by omega)
              have hR2 : CiR (set1 d k (d (qu q) + 1)) (set1 qu m k) (m + 1) (upd fd k (nI (d (qu q) + 1))) (upd fq m (nI k)) := by
                refine ⟨fun J hJ => ?_, fun r hr => ?_, fun r hr => ?_⟩
                · by_cases z : J = k
                  · rw [z, pk_us, show set1 d k (d (qu q) + 1) k = d (qu q) + 1 from if_pos rfl, dI_p (by omega)]
                  · rw [pk_un z, show set1 d k (d (qu q) + 1) J = d J from if_neg z]
                    exact hR.1 J hJ
                · by_cases z : r = m
                  · rw [z, pk_us, show set1 qu m k m = k from if_pos rfl]
                  · rw [pk_un z, show set1 qu m k r = qu r from if_neg z]
                    exact hR.2.1 r (by omega)
                · by_cases z : r = m
                  · rw [z, show set1 qu m k m = k from if_pos rfl, show set1 d k (d (qu q) + 1) k = d (qu q) + 1 from if_pos rfl]
                    have := hR.2.2 q hq
                    omega
                  · rw [show set1 qu m k r = qu r from if_neg z, show set1 d k (d (qu q) + 1) (qu r) = d (qu r) from if_neg (fun w => by
                      have := hI.2.1 r (by omega)
                      rw [w, hd] at this
                      omega)]
                    exact hR.2.2 r (by omega)
              obtain ⟨σ', k1, k2⟩ := ih (y + 1) (σ1 := va_up (va_up σ1 15 (iA G 5120 (upd fd k (nI (d (qu q) + 1))))) 16 (iA G 5120 (upd fq m (nI k)))) (by omega) ⟨Cl.n (by decide) (Cl.s y15), Cl.s (Cl.n (by decide) y16), fr3 (fr3 yF (by decide)) (by decide)⟩ hR2 hI2 (by omega) K
              refine ⟨σ', fun κ C => ?_, k2⟩
              have k1 := k1 κ C
              rw [eqq] at k1
              have k223 : Go G mX10_circles κ none σ' σ1 223 [(0, .ref (ga G 0)), (1, .int (nI e)), (2, .int (nI (NC T))), (3, .int (nI m)), (4, .int (nI (tl T))), (5, .int (nI q)), (6, .int (nI (qu q / 5))), (7, .int (nI y)), (8, .int (nI (DD T (gd T y) (gd T (qu q / 5))))), (9, .int (nI k))] [] := by
                refine g_aload_n (pc := 223) C dX10_circles_223 rfl ?_
                apply gf_X10_54 (pc := 224) C rfl dX10_circles_224
                · repeat (first | assumption | exact Cl.s (by assumption) | refine Cl.n (by first | decide | omega) ?_)
                · rfl
                refine g_iload (pc := 227) C dX10_circles_227 rfl ?_
                refine g_aload_n (pc := 229) C dX10_circles_229 rfl ?_
                apply gf_X10_54 (pc := 230) C rfl dX10_circles_230
                · repeat (first | assumption | exact Cl.s (by assumption) | refine Cl.n (by first | decide | omega) ?_)
                · rfl
                refine g_aload_n (pc := 233) C dX10_circles_233 rfl ?_
                apply gf_X10_57 (pc := 234) C rfl dX10_circles_234
                · repeat (first | assumption | exact Cl.s (by assumption) | refine Cl.n (by first | decide | omega) ?_)
                · rfl
                refine g_iload (pc := 237) C dX10_circles_237 rfl ?_
                apply g_iaload (pc := 239) C dX10_circles_239
                · repeat (first | assumption | exact Cl.s (by assumption) | refine Cl.n (by first | decide | omega) ?_)
                · exact vp_in_nI (by omega) (by decide)
                rw [nI_clamp (by omega), hR.2.1 q hq]
                apply g_iaload (pc := 240) C dX10_circles_240
                · repeat (first | assumption | exact Cl.s (by assumption) | refine Cl.n (by first | decide | omega) ?_)
                · exact vp_in_nI (by omega) (by decide)
                rw [nI_clamp (by omega), hR.1 _ (by omega), dI_p hqu.2]
                refine g_iconst (pc := 241) (v := nI 1) C dX10_circles_241 (by decide) ?_
                refine g_iadd (pc := 242) C dX10_circles_242 ?_
                rw [nI_add]
                apply g_iastore (pc := 243) C dX10_circles_243
                · repeat (first | assumption | exact Cl.s (by assumption) | refine Cl.n (by first | decide | omega) ?_)
                · exact vp_in_nI (by omega) (by decide)
                intro hw243
                rw [nI_clamp (by omega)]
                refine g_aload_n (pc := 244) C dX10_circles_244 rfl ?_
                apply gf_X10_57 (pc := 245) C rfl dX10_circles_245
                · repeat (first | assumption | exact Cl.s (by assumption) | refine Cl.n (by first | decide | omega) ?_)
                · rfl
                refine g_iload_n (pc := 248) C dX10_circles_248 rfl ?_
                refine g_iload (pc := 249) C dX10_circles_249 rfl ?_
                apply g_iastore (pc := 251) C dX10_circles_251
                · repeat (first | assumption | exact Cl.s (by assumption) | refine Cl.n (by first | decide | omega) ?_)
                · exact vp_in_nI (by omega) (by decide)
                intro hw251
                rw [nI_clamp (by omega)]
                refine g_iinc (pc := 252) C dX10_circles_252 rfl (by decide) rfl ?_
                refine g_iinc (pc := 255) C dX10_circles_255 rfl (by decide) rfl ?_
                refine g_goto (pc := 258) C 140 dX10_circles_258 (by decide) ?_
                exact g_to k1 ⟨rfl, rfl, rfl, lgi (nI_1 m), rfl, rfl, rfl, lgi (nI_1 y), trivial⟩
              by_cases hl2 : tl T = 2
              · have ea : ah T (qu q % 5) = 1 <<< (qu q % 5) := if_pos hl2
                rw [ea] at hps hah
                refine g_iload (pc := 192) C dX10_circles_192 rfl ?_
                refine g_iload (pc := 194) C dX10_circles_194 rfl ?_
                refine g_iload (pc := 196) C dX10_circles_196 rfl ?_
                refine g_iconst (pc := 198) (v := nI 2) C dX10_circles_198 (by decide) ?_
                refine g_icmp_nE (pc := 199) C 216 dX10_circles_199 (by decide) (fun c199 => ?_) (fun c199 => ?_)
                · exact absurd (by rw [hl2]) c199
                · refine g_iconst (pc := 202) (v := nI 1) C dX10_circles_202 (by decide) ?_
                  refine g_aload_n (pc := 203) C dX10_circles_203 rfl ?_
                  apply gf_X10_57 (pc := 204) C rfl dX10_circles_204
                  · repeat (first | assumption | exact Cl.s (by assumption) | refine Cl.n (by first | decide | omega) ?_)
                  · rfl
                  refine g_iload (pc := 207) C dX10_circles_207 rfl ?_
                  apply g_iaload (pc := 209) C dX10_circles_209
                  · repeat (first | assumption | exact Cl.s (by assumption) | refine Cl.n (by first | decide | omega) ?_)
                  · exact vp_in_nI (by omega) (by decide)
                  rw [nI_clamp (by omega), hR.2.1 q hq]
                  refine g_iconst (pc := 210) (v := nI 5) C dX10_circles_210 (by decide) ?_
                  refine g_irem (pc := 211) C dX10_circles_211 (by decide) ?_
                  rw [pk_rem (by omega) (by decide) (by decide)]
                  refine g_ishl (pc := 212) C dX10_circles_212 ?_
                  rw [nx_shl _ (by omega)]
                  refine g_goto (pc := 213) C 217 dX10_circles_213 (by decide) ?_
                  refine cl_X10_146 (pc := 217) C rfl (r_passes hlaw (by omega) (by omega)) dX10_circles_217 rfl (Nat.le_of_ble_eq_true rfl) ?_
                  refine g_if_eq (pc := 220) C 255 dX10_circles_220 (by decide) (fun c220 => ?_) (fun c220 => ?_)
                  · exact absurd (b2_0.mp c220) (by rw [hps]; decide)
                  · exact g_to k223 ⟨rfl, rfl, rfl, rfl, rfl, rfl, rfl, rfl, rfl, rfl, trivial⟩
              · have ea : ah T (qu q % 5) = 0 := if_neg hl2
                rw [ea] at hps
                refine g_iload (pc := 192) C dX10_circles_192 rfl ?_
                refine g_iload (pc := 194) C dX10_circles_194 rfl ?_
                refine g_iload (pc := 196) C dX10_circles_196 rfl ?_
                refine g_iconst (pc := 198) (v := nI 2) C dX10_circles_198 (by decide) ?_
                refine g_icmp_nE (pc := 199) C 216 dX10_circles_199 (by decide) (fun c199 => ?_) (fun c199 => ?_)
                · refine g_iconst (pc := 216) (v := nI 0) C dX10_circles_216 (by decide) ?_
                  refine cl_X10_146 (pc := 217) C rfl (r_passes hlaw (by omega) (by decide)) dX10_circles_217 rfl (Nat.le_of_ble_eq_true rfl) ?_
                  refine g_if_eq (pc := 220) C 255 dX10_circles_220 (by decide) (fun c220 => ?_) (fun c220 => ?_)
                  · exact absurd (b2_0.mp c220) (by rw [hps]; decide)
                  · exact g_to k223 ⟨rfl, rfl, rfl, rfl, rfl, rfl, rfl, rfl, rfl, rfl, trivial⟩
                · exact absurd ((nI_eq (by omega) (by decide)).mp c199) hl2
            · obtain ⟨σ', k1, k2⟩ := hno (fun z => by rw [ebo] at z; simp [hps] at z)
              refine ⟨σ', fun κ C => ?_, k2⟩
              have k1 := k1 κ C
              by_cases hl2 : tl T = 2
              · have ea : ah T (qu q % 5) = 1 <<< (qu q % 5) := if_pos hl2
                rw [ea] at hps hah
                refine g_iload (pc := 192) C dX10_circles_192 rfl ?_
                refine g_iload (pc := 194) C dX10_circles_194 rfl ?_
                refine g_iload (pc := 196) C dX10_circles_196 rfl ?_
                refine g_iconst (pc := 198) (v := nI 2) C dX10_circles_198 (by decide) ?_
                refine g_icmp_nE (pc := 199) C 216 dX10_circles_199 (by decide) (fun c199 => ?_) (fun c199 => ?_)
                · exact absurd (by rw [hl2]) c199
                · refine g_iconst (pc := 202) (v := nI 1) C dX10_circles_202 (by decide) ?_
                  refine g_aload_n (pc := 203) C dX10_circles_203 rfl ?_
                  apply gf_X10_57 (pc := 204) C rfl dX10_circles_204
                  · repeat (first | assumption | exact Cl.s (by assumption) | refine Cl.n (by first | decide | omega) ?_)
                  · rfl
                  refine g_iload (pc := 207) C dX10_circles_207 rfl ?_
                  apply g_iaload (pc := 209) C dX10_circles_209
                  · repeat (first | assumption | exact Cl.s (by assumption) | refine Cl.n (by first | decide | omega) ?_)
                  · exact vp_in_nI (by omega) (by decide)
                  rw [nI_clamp (by omega), hR.2.1 q hq]
                  refine g_iconst (pc := 210) (v := nI 5) C dX10_circles_210 (by decide) ?_
                  refine g_irem (pc := 211) C dX10_circles_211 (by decide) ?_
                  rw [pk_rem (by omega) (by decide) (by decide)]
                  refine g_ishl (pc := 212) C dX10_circles_212 ?_
                  rw [nx_shl _ (by omega)]
                  refine g_goto (pc := 213) C 217 dX10_circles_213 (by decide) ?_
                  refine cl_X10_146 (pc := 217) C rfl (r_passes hlaw (by omega) (by omega)) dX10_circles_217 rfl (Nat.le_of_ble_eq_true rfl) ?_
                  refine g_if_eq (pc := 220) C 255 dX10_circles_220 (by decide) (fun c220 => ?_) (fun c220 => ?_)
                  · exact g_to k1 ⟨rfl, rfl, rfl, rfl, rfl, rfl, rfl, rfl, trivial⟩
                  · exact absurd (b2_0.mpr (by simpa using hps)) c220
              · have ea : ah T (qu q % 5) = 0 := if_neg hl2
                rw [ea] at hps
                refine g_iload (pc := 192) C dX10_circles_192 rfl ?_
                refine g_iload (pc := 194) C dX10_circles_194 rfl ?_
                refine g_iload (pc := 196) C dX10_circles_196 rfl ?_
                refine g_iconst (pc := 198) (v := nI 2) C dX10_circles_198 (by decide) ?_
                refine g_icmp_nE (pc := 199) C 216 dX10_circles_199 (by decide) (fun c199 => ?_) (fun c199 => ?_)
                · refine g_iconst (pc := 216) (v := nI 0) C dX10_circles_216 (by decide) ?_
                  refine cl_X10_146 (pc := 217) C rfl (r_passes hlaw (by omega) (by decide)) dX10_circles_217 rfl (Nat.le_of_ble_eq_true rfl) ?_
                  refine g_if_eq (pc := 220) C 255 dX10_circles_220 (by decide) (fun c220 => ?_) (fun c220 => ?_)
                  · exact g_to k1 ⟨rfl, rfl, rfl, rfl, rfl, rfl, rfl, rfl, trivial⟩
                  · exact absurd (b2_0.mpr (by simpa using hps)) c220
                · exact absurd ((nI_eq (by omega) (by decide)).mp c199) hl2
          obtain ⟨σ', k1, k2⟩ := k192
          refine ⟨σ', fun κ C => ?_, k2⟩
          have k1 := k1 κ C
          refine g_aload_n (pc := 171) C dX10_circles_171 rfl ?_
          refine g_iload (pc := 172) C dX10_circles_172 rfl ?_
          apply cl_X10_179 (pc := 174) C rfl (r_plain y0 hT1 (by omega)) dX10_circles_174
          · repeat (first | assumption | exact Cl.s (by assumption) | refine Cl.n (by first | decide | omega) ?_)
          · rfl
          · exact Nat.le_of_ble_eq_true rfl
          refine g_iload (pc := 177) C dX10_circles_177 rfl ?_
          refine g_icmp_nE (pc := 179) C 255 dX10_circles_179 (by decide) (fun c179 => ?_) (fun c179 => ?_)
          · exact absurd (by rw [hp]) c179
          · refine g_aload_n (pc := 182) C dX10_circles_182 rfl ?_
            apply gf_X10_54 (pc := 183) C rfl dX10_circles_183
            · repeat (first | assumption | exact Cl.s (by assumption) | refine Cl.n (by first | decide | omega) ?_)
            · rfl
            refine g_iload (pc := 186) C dX10_circles_186 rfl ?_
            apply g_iaload (pc := 188) C dX10_circles_188
            · repeat (first | assumption | exact Cl.s (by assumption) | refine Cl.n (by first | decide | omega) ?_)
            · exact vp_in_nI (by omega) (by decide)
            rw [nI_clamp (by omega), hfk]
            refine g_if_ge (pc := 189) C 255 dX10_circles_189 (by decide) (fun c189 => ?_) (fun c189 => ?_)
            · exact absurd c189 (by decide)
            · exact g_to k1 ⟨rfl, rfl, rfl, rfl, rfl, rfl, rfl, rfl, rfl, rfl, trivial⟩
        · obtain ⟨σ', k1, k2⟩ := hno (fun z => hd (by rw [← hbs]; exact z.2))
          refine ⟨σ', fun κ C => ?_, k2⟩
          have k1 := k1 κ C
          rw [dI_p (by omega)] at hfk
          refine g_aload_n (pc := 171) C dX10_circles_171 rfl ?_
          refine g_iload (pc := 172) C dX10_circles_172 rfl ?_
          apply cl_X10_179 (pc := 174) C rfl (r_plain y0 hT1 (by omega)) dX10_circles_174
          · repeat (first | assumption | exact Cl.s (by assumption) | refine Cl.n (by first | decide | omega) ?_)
          · rfl
          · exact Nat.le_of_ble_eq_true rfl
          refine g_iload (pc := 177) C dX10_circles_177 rfl ?_
          refine g_icmp_nE (pc := 179) C 255 dX10_circles_179 (by decide) (fun c179 => ?_) (fun c179 => ?_)
          · exact absurd (by rw [hp]) c179
          · refine g_aload_n (pc := 182) C dX10_circles_182 rfl ?_
            apply gf_X10_54 (pc := 183) C rfl dX10_circles_183
            · repeat (first | assumption | exact Cl.s (by assumption) | refine Cl.n (by first | decide | omega) ?_)
            · rfl
            refine g_iload (pc := 186) C dX10_circles_186 rfl ?_
            apply g_iaload (pc := 188) C dX10_circles_188
            · repeat (first | assumption | exact Cl.s (by assumption) | refine Cl.n (by first | decide | omega) ?_)
            · exact vp_in_nI (by omega) (by decide)
            rw [nI_clamp (by omega), hfk]
            refine g_if_ge (pc := 189) C 255 dX10_circles_189 (by decide) (fun c189 => ?_) (fun c189 => ?_)
            · exact g_to k1 ⟨rfl, rfl, rfl, rfl, rfl, rfl, rfl, rfl, trivial⟩
            · exact absurd (nI_pos' (by omega)) c189
      · obtain ⟨σ', k1, k2⟩ := hno (fun z => by rw [ebo] at z; simp [hp] at z)
        refine ⟨σ', fun κ C => ?_, k2⟩
        have k1 := k1 κ C
        refine g_aload_n (pc := 171) C dX10_circles_171 rfl ?_
        refine g_iload (pc := 172) C dX10_circles_172 rfl ?_
        apply cl_X10_179 (pc := 174) C rfl (r_plain y0 hT1 (by omega)) dX10_circles_174
        · repeat (first | assumption | exact Cl.s (by assumption) | refine Cl.n (by first | decide | omega) ?_)
        · rfl
        · exact Nat.le_of_ble_eq_true rfl
        refine g_iload (pc := 177) C dX10_circles_177 rfl ?_
        refine g_icmp_nE (pc := 179) C 255 dX10_circles_179 (by decide) (fun c179 => ?_) (fun c179 => ?_)
        · exact g_to k1 ⟨rfl, rfl, rfl, rfl, rfl, rfl, rfl, rfl, trivial⟩
        · exact absurd ((nI_eq (by omega) (by omega)).mp c179) hp
    obtain ⟨σ', k1, k2⟩ := k171
    refine ⟨σ', fun κ C => ?_, k2⟩
    have k1 := k1 κ C
    refine g_iload (pc := 140) C dX10_circles_140 rfl ?_
    refine g_iload_n (pc := 142) C dX10_circles_142 rfl ?_
    refine g_icmp_ge (pc := 143) C 261 dX10_circles_143 (by decide) (fun c143 => ?_) (fun c143 => ?_)
    · exact absurd c143 (nI_ge (by omega) (by omega))
    · refine g_aload_n (pc := 146) C dX10_circles_146 rfl ?_
      refine g_iload (pc := 147) C dX10_circles_147 rfl ?_
      refine g_iload (pc := 149) C dX10_circles_149 rfl ?_
      apply cl_X10_176 (pc := 151) C rfl (r_unlikeCodes y0 hT1 (by omega) hX) dX10_circles_151
      · repeat (first | assumption | exact Cl.s (by assumption) | refine Cl.n (by first | decide | omega) ?_)
      · rfl
      · exact Nat.le_of_ble_eq_true rfl
      refine g_istore (pc := 154) C dX10_circles_154 (by decide) rfl ?_
      refine g_iconst (pc := 156) (v := nI 5) C dX10_circles_156 (by decide) ?_
      refine g_iload (pc := 157) C dX10_circles_157 rfl ?_
      refine g_imul (pc := 159) C dX10_circles_159 ?_
      rw [pk_mul]
      refine g_aload_n (pc := 160) C dX10_circles_160 rfl ?_
      refine g_iload (pc := 161) C dX10_circles_161 rfl ?_
      apply cl_X10_159 (pc := 163) C rfl (r_mark y0 hT1 (by omega)) dX10_circles_163
      · repeat (first | assumption | exact Cl.s (by assumption) | refine Cl.n (by first | decide | omega) ?_)
      · rfl
      · exact Nat.le_of_ble_eq_true rfl
      refine g_iconst (pc := 166) (v := nI 5) C dX10_circles_166 (by decide) ?_
      refine g_irem (pc := 167) C dX10_circles_167 (by decide) ?_
      rw [pk_rem (by omega) (by decide) (by decide)]
      refine g_iadd (pc := 168) C dX10_circles_168 ?_
      rw [nI_add]
      refine g_istore (pc := 169) C dX10_circles_169 (by decide) rfl ?_
      exact g_to k1 ⟨rfl, rfl, rfl, rfl, rfl, rfl, rfl, rfl, rfl, lgi (by rw [← hk]; rfl), trivial⟩
theorem ci_120 (h0 : Cl G σ 0 (cRef G len at_ kept done rm)) (hT : QT G σ T) {e : Nat} {E : Nat → Nat} : ∀ f {q m : Nat} {d qu : Nat → Nat} {σ1 : WW} {fd fq : Nat → Int32}, q + f = 5120 → q ≤ m → CiS G σ σ1 fd fq → CiR d qu m fd fq → bI (bpT T E) q 0 d qu m → CiE G σ T E σ1 120 (lvC G T e m q) := by
  intro f
  induction f with
  | zero =>
    intro q m d qu σ1 fd fq hf hqm hS hR hI
    have hm5 := bI_le hI
    refine ⟨σ1, fun κ C => ?_, fd, fq, d, hS, hR.1, fun K => ?_, hI.2.2.2.2.2.1, bI_end hI (by omega)⟩
    · refine g_iload (pc := 120) C dX10_circles_120 rfl ?_
      refine g_iload_n (pc := 122) C dX10_circles_122 rfl ?_
      refine g_icmp_ge (pc := 123) C 267 dX10_circles_123 (by decide) (fun c123 => ?_) (fun c123 => ?_)
      · exact g_return (pc := 267) C dX10_circles_267 rfl rfl (rfl)
      · exact absurd (nI_le (by omega) (by omega)) c123
    · rcases Nat.eq_zero_or_pos (d K) with z | z
      · omega
      · obtain ⟨r, r1, r2⟩ := hI.2.2.1 K z
        have := hR.2.2 r r1
        rw [r2] at this
        omega
  | succ f ih =>
    intro q m d qu σ1 fd fq hf hqm hS hR hI
    obtain ⟨y15, y16, yF⟩ := id hS
    have y0 := h0.fr yF (by decide)
    have hm5 := bI_le hI
    by_cases hq : q < m
    · have hqu := hI.2.1 q hq
      obtain ⟨σ', k1, k2⟩ := ci_140 h0 hT (e := e) (NC T) 0 (by omega) hS hR hI hq (fun σ2 d2 qu2 m2 fd2 fq2 s1 s2 s3 s4 => by
        obtain ⟨σ', k1, k2⟩ := ih (q := q + 1) (by omega) (by omega) s1 s2 (bI_next s3 (Nat.le_refl _))
        refine ⟨σ', fun κ C => ?_, k2⟩
        have k1 := k1 κ C
        refine g_iinc (pc := 261) C dX10_circles_261 rfl (by decide) rfl ?_
        refine g_goto (pc := 264) C 120 dX10_circles_264 (by decide) ?_
        exact g_to k1 ⟨rfl, rfl, rfl, rfl, rfl, lgi (nI_1 q), trivial⟩
        )
      refine ⟨σ', fun κ C => ?_, k2⟩
      have k1 := k1 κ C
      refine g_iload (pc := 120) C dX10_circles_120 rfl ?_
      refine g_iload_n (pc := 122) C dX10_circles_122 rfl ?_
      refine g_icmp_ge (pc := 123) C 267 dX10_circles_123 (by decide) (fun c123 => ?_) (fun c123 => ?_)
      · exact absurd c123 (nI_ge (by omega) (by omega))
      · refine g_aload_n (pc := 126) C dX10_circles_126 rfl ?_
        apply gf_X10_57 (pc := 127) C rfl dX10_circles_127
        · repeat (first | assumption | exact Cl.s (by assumption) | refine Cl.n (by first | decide | omega) ?_)
        · rfl
        refine g_iload (pc := 130) C dX10_circles_130 rfl ?_
        apply g_iaload (pc := 132) C dX10_circles_132
        · repeat (first | assumption | exact Cl.s (by assumption) | refine Cl.n (by first | decide | omega) ?_)
        · exact vp_in_nI (by omega) (by decide)
        rw [nI_clamp (by omega), hR.2.1 q hq]
        refine g_iconst (pc := 133) (v := nI 5) C dX10_circles_133 (by decide) ?_
        refine g_idiv (pc := 134) C dX10_circles_134 (by decide) ?_
        rw [pk_div (by omega) (by decide) (by decide)]
        refine g_istore (pc := 135) C dX10_circles_135 (by decide) rfl ?_
        refine g_iconst (pc := 137) (v := nI 0) C dX10_circles_137 (by decide) ?_
        refine g_istore (pc := 138) C dX10_circles_138 (by decide) rfl ?_
        exact g_to k1 ⟨rfl, rfl, rfl, rfl, rfl, rfl, rfl, rfl, trivial⟩
    · refine ⟨σ1, fun κ C => ?_, fd, fq, d, hS, hR.1, fun K => ?_, hI.2.2.2.2.2.1, bI_end hI (by omega)⟩
      · refine g_iload (pc := 120) C dX10_circles_120 rfl ?_
        refine g_iload_n (pc := 122) C dX10_circles_122 rfl ?_
        refine g_icmp_ge (pc := 123) C 267 dX10_circles_123 (by decide) (fun c123 => ?_) (fun c123 => ?_)
        · exact g_return (pc := 267) C dX10_circles_267 rfl rfl (rfl)
        · exact absurd (nI_le (by omega) (by omega)) c123
      · rcases Nat.eq_zero_or_pos (d K) with z | z
        · omega
        · obtain ⟨r, r1, r2⟩ := hI.2.2.1 K z
          have := hR.2.2 r r1
          rw [r2] at this
          omega
theorem ci_40 (h0 : Cl G σ 0 (cRef G len at_ kept done rm)) (hT : QT G σ T) {e : Nat} (he : e < 1024) : ∀ f {y m : Nat} {d qu : Nat → Nat} {σ1 : WW} {fd fq : Nat → Int32}, y + f = NC T → CiS G σ σ1 fd fq → CiR d qu m fd fq → bJ (bpT T (gd T e)) y d qu m → CiE G σ T (gd T e) σ1 40 (lvC G T e m y) := by
  intro f
  induction f with
  | zero =>
    intro y m d qu σ1 fd fq hf hS hR hJ
    have hW := hT.w.1
    have hN : NC T ≤ 1024 := cds_1024 hW
    obtain ⟨σ', k1, k2⟩ := ci_120 h0 hT (e := e) 5120 (q := 0) (by omega) (Nat.zero_le _) hS hR (bJ_I hJ (show NC T ≤ y by omega))
    refine ⟨σ', fun κ C => ?_, k2⟩
    have k1 := k1 κ C
    refine g_iload (pc := 40) C dX10_circles_40 rfl ?_
    refine g_iload_n (pc := 42) C dX10_circles_42 rfl ?_
    refine g_icmp_ge (pc := 43) C 117 dX10_circles_43 (by decide) (fun c43 => ?_) (fun c43 => ?_)
    · refine g_iconst (pc := 117) (v := nI 0) C dX10_circles_117 (by decide) ?_
      refine g_istore (pc := 118) C dX10_circles_118 (by decide) rfl ?_
      exact g_to k1 ⟨rfl, rfl, rfl, rfl, rfl, rfl, trivial⟩
    · exact absurd (nI_le (by omega) (by omega)) c43
  | succ f ih =>
    intro y m d qu σ1 fd fq hf hS hR hJ
    obtain ⟨y15, y16, yF⟩ := id hS
    have y0 := h0.fr yF (by decide)
    have hT1 := hT.fr yF (by decide) (by decide) (by decide) (by decide) (by decide) (by decide)
    have hW := hT.w.1
    have hlaw := hW.2.2.2.2.2.2.1
    have hN : NC T ≤ 1024 := cds_1024 hW
    have hyN : y < NC T := by omega
    have hs32 := DD_lt hW.1 (gd T y) (gd T e)
    have hme := me_lt T (DD T (gd T y) (gd T e))
    have hmk := mk5_lt T (DD T (gd T y) (gd T e))
    have hpl : pl T y < NC T := pc_lt hW (gd_V hW y)
    have eb0 : b0 (bpT T (gd T e)) y = (decide (pl T y = y) && ps (tl T) (DD T (gd T y) (gd T e)) 0) := rfl
    have hno : ¬ b0 (bpT T (gd T e)) y = true → CiE G σ T (gd T e) σ1 111 (lvC G T e m y) := by
      intro hno
      obtain ⟨σ', k1, k2⟩ := ih (y := y + 1) (by omega) hS hR (bJ_skip hJ hno)
      refine ⟨σ', fun κ C => ?_, k2⟩
      have k1 := k1 κ C
      refine g_iinc (pc := 111) C dX10_circles_111 rfl (by decide) rfl ?_
      refine g_goto (pc := 114) C 40 dX10_circles_114 (by decide) ?_
      exact g_to k1 ⟨rfl, rfl, rfl, rfl, rfl, lgi (nI_1 y), trivial⟩
    by_cases hp : pl T y = y
    · by_cases hps : ps (tl T) (DD T (gd T y) (gd T e)) 0 = true
      · generalize hk : 5 * y + me T (DD T (gd T y) (gd T e)) = k
        have hk5 : k < 5120 := by omega
        have hbk : bk (bpT T (gd T e)) y = k := hk
        obtain ⟨hm, hJ2⟩ := bJ_add (bpT_W hW) hJ hyN (by rw [eb0, hps]; simp [hp])
        rw [hbk] at hJ2
        have hR2 : CiR (set1 d k 1) (set1 qu m k) (m + 1) (upd fd k (nI 1)) (upd fq m (nI k)) := by
          refine ⟨fun J hJ => ?_, fun r hr => ?_, fun r hr => ?_⟩
          · by_cases z : J = k
            · rw [z, pk_us, show set1 d k 1 k = 1 from if_pos rfl]; rfl
            · rw [pk_un z, show set1 d k 1 J = d J from if_neg z]
              exact hR.1 J hJ
          · by_cases z : r = m
            · rw [z, pk_us, show set1 qu m k m = k from if_pos rfl]
            · rw [pk_un z, show set1 qu m k r = qu r from if_neg z]
              exact hR.2.1 r (by omega)
          · have := (hJ2.2.1 r hr).2
            omega
        obtain ⟨σ', k1, k2⟩ := ih (y := y + 1) (σ1 := va_up (va_up σ1 15 (iA G 5120 (upd fd k (nI 1)))) 16 (iA G 5120 (upd fq m (nI k)))) (by omega) ⟨Cl.n (by decide) (Cl.s y15), Cl.s (Cl.n (by decide) y16), fr3 (fr3 yF (by decide)) (by decide)⟩ hR2 hJ2
        refine ⟨σ', fun κ C => ?_, k2⟩
        have k1 := k1 κ C
        refine g_iload (pc := 40) C dX10_circles_40 rfl ?_
        refine g_iload_n (pc := 42) C dX10_circles_42 rfl ?_
        refine g_icmp_ge (pc := 43) C 117 dX10_circles_43 (by decide) (fun c43 => ?_) (fun c43 => ?_)
        · exact absurd c43 (nI_ge (by omega) (by omega))
        · refine g_aload_n (pc := 46) C dX10_circles_46 rfl ?_
          refine g_iload (pc := 47) C dX10_circles_47 rfl ?_
          refine g_iload_n (pc := 49) C dX10_circles_49 rfl ?_
          apply cl_X10_176 (pc := 50) C rfl (r_unlikeCodes y0 hT1 (by omega) he) dX10_circles_50
          · repeat (first | assumption | exact Cl.s (by assumption) | refine Cl.n (by first | decide | omega) ?_)
          · rfl
          · exact Nat.le_of_ble_eq_true rfl
          refine g_istore (pc := 53) C dX10_circles_53 (by decide) rfl ?_
          refine g_aload_n (pc := 55) C dX10_circles_55 rfl ?_
          refine g_iload (pc := 56) C dX10_circles_56 rfl ?_
          apply cl_X10_179 (pc := 58) C rfl (r_plain y0 hT1 (by omega)) dX10_circles_58
          · repeat (first | assumption | exact Cl.s (by assumption) | refine Cl.n (by first | decide | omega) ?_)
          · rfl
          · exact Nat.le_of_ble_eq_true rfl
          refine g_iload (pc := 61) C dX10_circles_61 rfl ?_
          refine g_icmp_nE (pc := 63) C 111 dX10_circles_63 (by decide) (fun c63 => ?_) (fun c63 => ?_)
          · exact absurd (by rw [hp]) c63
          · refine g_iload (pc := 66) C dX10_circles_66 rfl ?_
            refine g_iload (pc := 68) C dX10_circles_68 rfl ?_
            refine g_iconst (pc := 70) (v := nI 0) C dX10_circles_70 (by decide) ?_
            refine cl_X10_146 (pc := 71) C rfl (r_passes hlaw (by omega) (by decide)) dX10_circles_71 rfl (Nat.le_of_ble_eq_true rfl) ?_
            refine g_if_eq (pc := 74) C 111 dX10_circles_74 (by decide) (fun c74 => ?_) (fun c74 => ?_)
            · exact absurd (b2_0.mp c74) (by rw [hps]; decide)
            · refine g_iconst (pc := 77) (v := nI 5) C dX10_circles_77 (by decide) ?_
              refine g_iload (pc := 78) C dX10_circles_78 rfl ?_
              refine g_imul (pc := 80) C dX10_circles_80 ?_
              rw [pk_mul]
              refine g_aload_n (pc := 81) C dX10_circles_81 rfl ?_
              refine g_iload (pc := 82) C dX10_circles_82 rfl ?_
              apply cl_X10_159 (pc := 84) C rfl (r_mark y0 hT1 (by omega)) dX10_circles_84
              · repeat (first | assumption | exact Cl.s (by assumption) | refine Cl.n (by first | decide | omega) ?_)
              · rfl
              · exact Nat.le_of_ble_eq_true rfl
              refine g_iconst (pc := 87) (v := nI 5) C dX10_circles_87 (by decide) ?_
              refine g_irem (pc := 88) C dX10_circles_88 (by decide) ?_
              rw [pk_rem (by omega) (by decide) (by decide)]
              refine g_iadd (pc := 89) C dX10_circles_89 ?_
              rw [nI_add]
              rw [show nI (5 * y + mk5 T (DD T (gd T y) (gd T e)) % 5) = nI k by rw [← hk]; rfl]
              refine g_istore (pc := 90) C dX10_circles_90 (by decide) rfl ?_
              refine g_aload_n (pc := 92) C dX10_circles_92 rfl ?_
              apply gf_X10_54 (pc := 93) C rfl dX10_circles_93
              · repeat (first | assumption | exact Cl.s (by assumption) | refine Cl.n (by first | decide | omega) ?_)
              · rfl
              refine g_iload (pc := 96) C dX10_circles_96 rfl ?_
              refine g_iconst (pc := 98) (v := nI 1) C dX10_circles_98 (by decide) ?_
              apply g_iastore (pc := 99) C dX10_circles_99
              · repeat (first | assumption | exact Cl.s (by assumption) | refine Cl.n (by first | decide | omega) ?_)
              · exact vp_in_nI (by omega) (by decide)
              intro hw99
              rw [nI_clamp (by omega)]
              refine g_aload_n (pc := 100) C dX10_circles_100 rfl ?_
              apply gf_X10_57 (pc := 101) C rfl dX10_circles_101
              · repeat (first | assumption | exact Cl.s (by assumption) | refine Cl.n (by first | decide | omega) ?_)
              · rfl
              refine g_iload_n (pc := 104) C dX10_circles_104 rfl ?_
              refine g_iload (pc := 105) C dX10_circles_105 rfl ?_
              apply g_iastore (pc := 107) C dX10_circles_107
              · repeat (first | assumption | exact Cl.s (by assumption) | refine Cl.n (by first | decide | omega) ?_)
              · exact vp_in_nI (by omega) (by decide)
              intro hw107
              rw [nI_clamp (by omega)]
              refine g_iinc (pc := 108) C dX10_circles_108 rfl (by decide) rfl ?_
              refine g_iinc (pc := 111) C dX10_circles_111 rfl (by decide) rfl ?_
              refine g_goto (pc := 114) C 40 dX10_circles_114 (by decide) ?_
              exact g_to k1 ⟨rfl, rfl, rfl, lgi (nI_1 m), rfl, lgi (nI_1 y), trivial⟩
      · obtain ⟨σ', k1, k2⟩ := hno (by rw [eb0]; simp [hps])
        refine ⟨σ', fun κ C => ?_, k2⟩
        have k1 := k1 κ C
        refine g_iload (pc := 40) C dX10_circles_40 rfl ?_
        refine g_iload_n (pc := 42) C dX10_circles_42 rfl ?_
        refine g_icmp_ge (pc := 43) C 117 dX10_circles_43 (by decide) (fun c43 => ?_) (fun c43 => ?_)
        · exact absurd c43 (nI_ge (by omega) (by omega))
        · refine g_aload_n (pc := 46) C dX10_circles_46 rfl ?_
          refine g_iload (pc := 47) C dX10_circles_47 rfl ?_
          refine g_iload_n (pc := 49) C dX10_circles_49 rfl ?_
          apply cl_X10_176 (pc := 50) C rfl (r_unlikeCodes y0 hT1 (by omega) he) dX10_circles_50
          · repeat (first | assumption | exact Cl.s (by assumption) | refine Cl.n (by first | decide | omega) ?_)
          · rfl
          · exact Nat.le_of_ble_eq_true rfl
          refine g_istore (pc := 53) C dX10_circles_53 (by decide) rfl ?_
          refine g_aload_n (pc := 55) C dX10_circles_55 rfl ?_
          refine g_iload (pc := 56) C dX10_circles_56 rfl ?_
          apply cl_X10_179 (pc := 58) C rfl (r_plain y0 hT1 (by omega)) dX10_circles_58
          · repeat (first | assumption | exact Cl.s (by assumption) | refine Cl.n (by first | decide | omega) ?_)
          · rfl
          · exact Nat.le_of_ble_eq_true rfl
          refine g_iload (pc := 61) C dX10_circles_61 rfl ?_
          refine g_icmp_nE (pc := 63) C 111 dX10_circles_63 (by decide) (fun c63 => ?_) (fun c63 => ?_)
          · exact absurd (by rw [hp]) c63
          · refine g_iload (pc := 66) C dX10_circles_66 rfl ?_
            refine g_iload (pc := 68) C dX10_circles_68 rfl ?_
            refine g_iconst (pc := 70) (v := nI 0) C dX10_circles_70 (by decide) ?_
            refine cl_X10_146 (pc := 71) C rfl (r_passes hlaw (by omega) (by decide)) dX10_circles_71 rfl (Nat.le_of_ble_eq_true rfl) ?_
            refine g_if_eq (pc := 74) C 111 dX10_circles_74 (by decide) (fun c74 => ?_) (fun c74 => ?_)
            · exact g_to k1 ⟨rfl, rfl, rfl, rfl, rfl, rfl, trivial⟩
            · exact absurd (b2_0.mpr (by simpa using hps)) c74
    · obtain ⟨σ', k1, k2⟩ := hno (by rw [eb0]; simp [hp])
      refine ⟨σ', fun κ C => ?_, k2⟩
      have k1 := k1 κ C
      refine g_iload (pc := 40) C dX10_circles_40 rfl ?_
      refine g_iload_n (pc := 42) C dX10_circles_42 rfl ?_
      refine g_icmp_ge (pc := 43) C 117 dX10_circles_43 (by decide) (fun c43 => ?_) (fun c43 => ?_)
      · exact absurd c43 (nI_ge (by omega) (by omega))
      · refine g_aload_n (pc := 46) C dX10_circles_46 rfl ?_
        refine g_iload (pc := 47) C dX10_circles_47 rfl ?_
        refine g_iload_n (pc := 49) C dX10_circles_49 rfl ?_
        apply cl_X10_176 (pc := 50) C rfl (r_unlikeCodes y0 hT1 (by omega) he) dX10_circles_50
        · repeat (first | assumption | exact Cl.s (by assumption) | refine Cl.n (by first | decide | omega) ?_)
        · rfl
        · exact Nat.le_of_ble_eq_true rfl
        refine g_istore (pc := 53) C dX10_circles_53 (by decide) rfl ?_
        refine g_aload_n (pc := 55) C dX10_circles_55 rfl ?_
        refine g_iload (pc := 56) C dX10_circles_56 rfl ?_
        apply cl_X10_179 (pc := 58) C rfl (r_plain y0 hT1 (by omega)) dX10_circles_58
        · repeat (first | assumption | exact Cl.s (by assumption) | refine Cl.n (by first | decide | omega) ?_)
        · rfl
        · exact Nat.le_of_ble_eq_true rfl
        refine g_iload (pc := 61) C dX10_circles_61 rfl ?_
        refine g_icmp_nE (pc := 63) C 111 dX10_circles_63 (by decide) (fun c63 => ?_) (fun c63 => ?_)
        · exact g_to k1 ⟨rfl, rfl, rfl, rfl, rfl, rfl, trivial⟩
        · exact absurd ((nI_eq (by omega) (by omega)).mp c63) hp
theorem ci_7 (h0 : Cl G σ 0 (cRef G len at_ kept done rm)) (hT : QT G σ T) {e : Nat} (he : e < 1024) : ∀ f {k : Nat} {σ1 : WW} {fd fq : Nat → Int32}, k + f = 5120 → CiS G σ σ1 fd fq → (∀ j, j < k → fd j = -1) → CiE G σ T (gd T e) σ1 7 [(0, .ref (ga G 0)), (1, .int (nI e)), (2, .int (nI (NC T))), (3, .int (nI k))] := by
  intro f
  induction f with
  | zero =>
    intro k σ1 fd fq hf hS hd
    obtain ⟨y15, y16, yF⟩ := id hS
    have y0 := h0.fr yF (by decide)
    have hT1 := hT.fr yF (by decide) (by decide) (by decide) (by decide) (by decide) (by decide)
    obtain ⟨ft, fn, fv, fl, fm, fp, h2, h3, h4, h5, h6, h7, hW, -, e0, e1, e2, e3, hv, hl, hp9⟩ := id hT1
    obtain ⟨σ', k1, k2⟩ := ci_40 h0 hT he (NC T) (y := 0) (m := 0) (d := fun _ => 0) (qu := fun _ => 0) (by omega) hS ⟨fun K hK => by rw [hd K (by omega)]; rfl, fun r hr => absurd hr (Nat.not_lt_zero _), fun r hr => absurd hr (Nat.not_lt_zero _)⟩ (bJ_0 _ _)
    refine ⟨σ', fun κ C => ?_, k2⟩
    have k1 := k1 κ C
    refine g_iload_n (pc := 7) C dX10_circles_7 rfl ?_
    refine g_sipush (pc := 8) (v := nI 5120) C dX10_circles_8 (by decide) ?_
    refine g_icmp_ge (pc := 11) C 27 dX10_circles_11 (by decide) (fun c11 => ?_) (fun c11 => ?_)
    · refine g_iconst (pc := 27) (v := nI 0) C dX10_circles_27 (by decide) ?_
      refine g_istore_n (pc := 28) C dX10_circles_28 (by decide) rfl ?_
      refine g_aload_n (pc := 29) C dX10_circles_29 rfl ?_
      apply gf_X10_13 (pc := 30) C rfl dX10_circles_30
      · repeat (first | assumption | exact Cl.s (by assumption) | refine Cl.n (by first | decide | omega) ?_)
      · rfl
      refine g_iconst (pc := 33) (v := nI 0) C dX10_circles_33 (by decide) ?_
      apply g_iaload (pc := 34) C dX10_circles_34
      · repeat (first | assumption | exact Cl.s (by assumption) | refine Cl.n (by first | decide | omega) ?_)
      · exact vp_in_nI (n := 0) (by decide) (by decide)
      rw [nI_clamp (by decide), e0]
      refine g_istore (pc := 35) C dX10_circles_35 (by decide) rfl ?_
      refine g_iconst (pc := 37) (v := nI 0) C dX10_circles_37 (by decide) ?_
      refine g_istore (pc := 38) C dX10_circles_38 (by decide) rfl ?_
      exact g_to k1 ⟨rfl, rfl, rfl, rfl, rfl, rfl, trivial⟩
    · exact absurd (nI_le (by omega) (by omega)) c11
  | succ f ih =>
    intro k σ1 fd fq hf hS hd
    obtain ⟨y15, y16, yF⟩ := id hS
    have y0 := h0.fr yF (by decide)
    obtain ⟨σ', k1, k2⟩ := ih (k := k + 1) (σ1 := va_up σ1 15 (iA G 5120 (upd fd k (-1)))) (by omega) ⟨Cl.s y15, Cl.n (by decide) y16, fr3 yF (by decide)⟩ (fun j hj => by
      by_cases z : j = k
      · rw [z, pk_us]
      · rw [pk_un z]; exact hd j (by omega))
    refine ⟨σ', fun κ C => ?_, k2⟩
    have k1 := k1 κ C
    refine g_iload_n (pc := 7) C dX10_circles_7 rfl ?_
    refine g_sipush (pc := 8) (v := nI 5120) C dX10_circles_8 (by decide) ?_
    refine g_icmp_ge (pc := 11) C 27 dX10_circles_11 (by decide) (fun c11 => ?_) (fun c11 => ?_)
    · exact absurd c11 (nI_ge (by omega) (by decide))
    · refine g_aload_n (pc := 14) C dX10_circles_14 rfl ?_
      apply gf_X10_54 (pc := 15) C rfl dX10_circles_15
      · repeat (first | assumption | exact Cl.s (by assumption) | refine Cl.n (by first | decide | omega) ?_)
      · rfl
      refine g_iload_n (pc := 18) C dX10_circles_18 rfl ?_
      refine g_iconst (pc := 19) (v := -1) C dX10_circles_19 (by decide) ?_
      apply g_iastore (pc := 20) C dX10_circles_20
      · repeat (first | assumption | exact Cl.s (by assumption) | refine Cl.n (by first | decide | omega) ?_)
      · exact vp_in_nI (by omega) (by decide)
      intro hw20
      rw [nI_clamp (by omega)]
      refine g_iinc (pc := 21) C dX10_circles_21 rfl (by decide) rfl ?_
      refine g_goto (pc := 24) C 7 dX10_circles_24 (by decide) ?_
      exact g_to k1 ⟨rfl, rfl, rfl, lgi (nI_1 k), trivial⟩
def QC (G : GG) (σ : WW) : Prop := ∃ fd fq, Cl G σ 15 (iA G 5120 fd) ∧ Cl G σ 16 (iA G 5120 fq)
theorem r_circles (h0 : Cl G σ 0 (cRef G len at_ kept done rm)) (hT : QT G σ T) (hC : QC G σ) {e : Nat} (he : e < 1024) : ∃ σ', Mt G mX10_circles [.ref (ga G 0), .int (nI e)] σ none σ' ∧ CiP G σ T (gd T e) σ' := by
  obtain ⟨fd, fq, y15, y16⟩ := hC
  obtain ⟨σ', k1, k2⟩ := ci_7 h0 hT he 5120 (k := 0) (by omega) ⟨y15, y16, fr0⟩ (fun j hj => absurd hj (Nat.not_lt_zero _))
  refine ⟨σ', ?_, k2⟩
  refine Mt.of (by decide +kernel) (Nat.le_of_ble_eq_true rfl) (fun κ C => ?_)
  have k1 := k1 κ C
  refine g_aload_n (pc := 0) C dX10_circles_0 rfl ?_
  apply cl_X10_173 (pc := 1) C rfl (r_all h0 hT) dX10_circles_1
  · repeat (first | assumption | exact Cl.s (by assumption) | refine Cl.n (by first | decide | omega) ?_)
  · rfl
  · exact Nat.le_of_ble_eq_true rfl
  refine g_istore_n (pc := 4) C dX10_circles_4 (by decide) rfl ?_
  refine g_iconst (pc := 5) (v := nI 0) C dX10_circles_5 (by decide) ?_
  refine g_istore_n (pc := 6) C dX10_circles_6 (by decide) rfl ?_
  exact g_to k1 ⟨rfl, rfl, rfl, rfl, trivial⟩
end RS7

