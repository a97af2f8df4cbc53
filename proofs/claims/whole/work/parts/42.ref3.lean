section REF3
variable {G : GG} {σ : WW} {T : TS} {h : HH} {len at_ rm : Int32}
def cp3 (f fs : Nat → Int32) (o k : Nat) : Nat → Int32 := fun q => if o ≤ q ∧ q < o + k then fs (q - o) else f q
theorem cp3_s (f fs : Nat → Int32) (o k : Nat) : upd (cp3 f fs o k) (o + k) (fs k) = cp3 f fs o (k + 1) := by
  funext q
  by_cases e : q = o + k
  · rw [e, pk_us]
    unfold cp3
    rw [if_pos (by omega), show o + k - o = k by omega]
  · rw [pk_un e]
    unfold cp3
    by_cases e2 : o ≤ q ∧ q < o + k
    · rw [if_pos e2, if_pos (by omega)]
    · rw [if_neg e2, if_neg (by omega)]
theorem cp3_0 (f fs : Nat → Int32) (o : Nat) : cp3 f fs o 0 = f := by
  funext q
  unfold cp3
  rw [if_neg (by omega)]
theorem r_goesNo (hT : QT G σ T) (hg : QG G σ len at_ rm h) (hw : HW (tm T) h) (i : Int32) (inn : Bool) (hno : inR i (tm T) = false ∨ (h.1.1.testBit i.toNatClampNeg == inn || !lLets T h.1.2.1 h.1.2.2 i.toNatClampNeg) = true) : Mt G mX10_goes [.ref (ga G 0), .int i, .int (nI (b2 inn))] σ (some (.int (goF T h i inn).1)) σ ∧ (goF T h i inn).2 = h := by
  have hm := hT.w.1.2.2.2.2.1
  have hg' := hg
  obtain ⟨h0, ⟨fs, h8, hs0, hs1⟩, fw, h9', hfw⟩ := hg
  rcases inR_c i (m := tm T) (by omega) with e | ⟨e, k, hk, rfl⟩
  · rw [show goF T h i inn = (-1, h) by simp [goF, e]]
    refine ⟨?_, rfl⟩
    refine Mt.of (by decide +kernel) (Nat.le_of_ble_eq_true rfl) (fun κ C => ?_)
    refine g_aload_n (pc := 0) C dX10_goes_0 rfl ?_
    refine g_iload_n (pc := 1) C dX10_goes_1 rfl ?_
    apply cl_X10_126 (pc := 2) C rfl (r_isMan h0 hT i) dX10_goes_2
    · repeat (first | assumption | exact Cl.s (by assumption) | refine Cl.n (by first | decide | omega) ?_)
    · rfl
    · exact Nat.le_of_ble_eq_true rfl
    refine g_if_nE (pc := 5) C 10 dX10_goes_5 (by decide) (fun c5 => ?_) (fun c5 => ?_)
    · exact absurd (by rw [e]; rfl) c5
    · refine g_iconst (pc := 8) (v := -1) C dX10_goes_8 (by decide) ?_
      exact g_ireturn (pc := 9) C dX10_goes_9 rfl (rfl) (rfl)
  · have ek := nI_clamp (n := k) (by omega)
    have hc : (h.1.1.testBit k == inn || !lLets T h.1.2.1 h.1.2.2 k) = true := by
      rcases hno with q | q
      · rw [e] at q; cases q
      · rw [ek] at q; exact q
    rw [show goF T h (nI k) inn = (-2, h) by unfold goF; rw [e, ek, if_pos rfl, if_pos hc]]
    refine ⟨?_, rfl⟩
    have eb : ∀ x, fs x = nI h.1.1 → fs x >>> (nI k &&& 31) &&& nI 1 = nI (b2 (h.1.1.testBit k)) := fun x q => by rw [q, nx_shr (by have := hw.1.1; omega) (by omega), nx_and, tb_b2]
    by_cases hb : h.1.1.testBit k = inn
    · refine Mt.of (by decide +kernel) (Nat.le_of_ble_eq_true rfl) (fun κ C => ?_)
      refine g_aload_n (pc := 0) C dX10_goes_0 rfl ?_
      refine g_iload_n (pc := 1) C dX10_goes_1 rfl ?_
      apply cl_X10_126 (pc := 2) C rfl (r_isMan h0 hT (nI k)) dX10_goes_2
      · repeat (first | assumption | exact Cl.s (by assumption) | refine Cl.n (by first | decide | omega) ?_)
      · rfl
      · exact Nat.le_of_ble_eq_true rfl
      refine g_if_nE (pc := 5) C 10 dX10_goes_5 (by decide) (fun c5 => ?_) (fun c5 => ?_)
      · refine g_aload_n (pc := 10) C dX10_goes_10 rfl ?_
        apply gf_X10_32 (pc := 11) C rfl dX10_goes_11
        · repeat (first | assumption | exact Cl.s (by assumption) | refine Cl.n (by first | decide | omega) ?_)
        · rfl
        refine g_iconst (pc := 14) (v := nI 0) C dX10_goes_14 (by decide) ?_
        apply g_iaload (pc := 15) C dX10_goes_15
        · repeat (first | assumption | exact Cl.s (by assumption) | refine Cl.n (by first | decide | omega) ?_)
        · exact vp_in_nI (n := 0) (by decide) (by decide)
        rw [nI_clamp (by decide)]
        refine g_iload_n (pc := 16) C dX10_goes_16 rfl ?_
        refine g_ishr (pc := 17) C dX10_goes_17 ?_
        refine g_iconst (pc := 18) (v := nI 1) C dX10_goes_18 (by decide) ?_
        refine g_iand (pc := 19) C dX10_goes_19 ?_
        refine g_iload_n (pc := 20) C dX10_goes_20 rfl ?_
        refine g_icmp_eq (pc := 21) C 32 dX10_goes_21 (by decide) (fun c21 => ?_) (fun c21 => ?_)
        · refine g_bipush (pc := 32) (v := -2) C dX10_goes_32 (by decide) ?_
          exact g_ireturn (pc := 34) C dX10_goes_34 rfl (rfl) (rfl)
        · exact absurd (by rw [eb 0 hs0.1, hb]) c21
      · exact absurd c5 (by rw [e]; decide)
    · have hl : lLets T h.1.2.1 h.1.2.2 k = false := by
        have : (h.1.1.testBit k == inn) = false := by simpa using hb
        rw [this] at hc
        simpa using hc
      refine Mt.of (by decide +kernel) (Nat.le_of_ble_eq_true rfl) (fun κ C => ?_)
      refine g_aload_n (pc := 0) C dX10_goes_0 rfl ?_
      refine g_iload_n (pc := 1) C dX10_goes_1 rfl ?_
      apply cl_X10_126 (pc := 2) C rfl (r_isMan h0 hT (nI k)) dX10_goes_2
      · repeat (first | assumption | exact Cl.s (by assumption) | refine Cl.n (by first | decide | omega) ?_)
      · rfl
      · exact Nat.le_of_ble_eq_true rfl
      refine g_if_nE (pc := 5) C 10 dX10_goes_5 (by decide) (fun c5 => ?_) (fun c5 => ?_)
      · refine g_aload_n (pc := 10) C dX10_goes_10 rfl ?_
        apply gf_X10_32 (pc := 11) C rfl dX10_goes_11
        · repeat (first | assumption | exact Cl.s (by assumption) | refine Cl.n (by first | decide | omega) ?_)
        · rfl
        refine g_iconst (pc := 14) (v := nI 0) C dX10_goes_14 (by decide) ?_
        apply g_iaload (pc := 15) C dX10_goes_15
        · repeat (first | assumption | exact Cl.s (by assumption) | refine Cl.n (by first | decide | omega) ?_)
        · exact vp_in_nI (n := 0) (by decide) (by decide)
        rw [nI_clamp (by decide)]
        refine g_iload_n (pc := 16) C dX10_goes_16 rfl ?_
        refine g_ishr (pc := 17) C dX10_goes_17 ?_
        refine g_iconst (pc := 18) (v := nI 1) C dX10_goes_18 (by decide) ?_
        refine g_iand (pc := 19) C dX10_goes_19 ?_
        refine g_iload_n (pc := 20) C dX10_goes_20 rfl ?_
        refine g_icmp_eq (pc := 21) C 32 dX10_goes_21 (by decide) (fun c21 => ?_) (fun c21 => ?_)
        · exact absurd (by rw [eb 0 hs0.1] at c21; revert hb c21; cases h.1.1.testBit k <;> cases inn <;> decide) id
        · refine g_aload_n (pc := 24) C dX10_goes_24 rfl ?_
          refine g_iload_n (pc := 25) C dX10_goes_25 rfl ?_
          apply cl_X10_150 (pc := 26) C rfl (r_mayNow hT hg' hw hk) dX10_goes_26
          · repeat (first | assumption | exact Cl.s (by assumption) | refine Cl.n (by first | decide | omega) ?_)
          · rfl
          · exact Nat.le_of_ble_eq_true rfl
          refine g_if_nE (pc := 29) C 35 dX10_goes_29 (by decide) (fun c29 => ?_) (fun c29 => ?_)
          · exact absurd (by rw [hl]; rfl) c29
          · refine g_bipush (pc := 32) (v := -2) C dX10_goes_32 (by decide) ?_
            exact g_ireturn (pc := 34) C dX10_goes_34 rfl (rfl) (rfl)
      · exact absurd c5 (by rw [e]; decide)
theorem r_goes {k : Nat} (hT : QT G σ T) (hg : QG G σ len at_ rm h) (hw : HW (tm T) h) (hk : k < tm T) (inn : Bool) (hb : h.1.1.testBit k ≠ inn) (hl : lLets T h.1.2.1 h.1.2.2 k = true) : ∃ σ', Mt G mX10_goes [.ref (ga G 0), .int (nI k), .int (nI (b2 inn))] σ (some (.int (nI (many (passH T h k).1.1)))) σ' ∧ QG G σ' len at_ rm (passH T h k) ∧ Fr σ σ' [0, 8, 9] := by
  have hW := hT.w.1
  have hm := hW.2.2.2.2.1
  have hg' := hg
  obtain ⟨h0, ⟨fs, h8, hs0, hs1⟩, fw, h9', hfw⟩ := hg
  obtain ⟨o1, o2, o3⟩ := hw.1
  obtain ⟨s0, s1, s2⟩ := id hs0
  rw [Nat.zero_add] at s1 s2
  have hx : h.1.1 ^^^ (1 <<< k) < 512 := Nat.xor_lt_two_pow (n := 9) o1 (one_shl_lt (by omega))
  have eb : fs 0 >>> (nI k &&& 31) &&& nI 1 = nI (b2 (h.1.1.testBit k)) := by rw [s0, nx_shr (by omega) (by omega), nx_and, tb_b2]
  -- the tail: from the copying of the slot on, with dn that can be undone
  have tail : ∀ {σ1 : WW} {f : Nat → Int32} (dn : Nat), dn ≤ 7 → Fr σ σ1 [0, 9] → Cl G σ1 0 (cRef G len at_ (nI h.2.2.2.1) (nI dn) rm) → Cl G σ1 9 (iA G 24 f) → ∀ κ, Cx G mX10_goes κ → Go G mX10_goes κ (some (.int (nI (many (h.1.1 ^^^ (1 <<< k)))))) (va_up (va_up (va_up (va_up (va_up σ1 9 (iA G 24 (cp3 f fs (3 * dn) 3))) 0 (cRef G len at_ (nI h.2.2.2.1) (nI (dn + 1)) rm)) 8 (iA G 9 (upd fs 0 (nI (h.1.1 ^^^ (1 <<< k)))))) 8 (iA G 9 (upd (upd fs 0 (nI (h.1.1 ^^^ (1 <<< k)))) 2 (nI (uL T h.1.2.1 k))))) 8 (iA G 9 (upd (upd (upd fs 0 (nI (h.1.1 ^^^ (1 <<< k)))) 2 (nI (uL T h.1.2.1 k))) 1 (nI k)))) σ1 82 [(0, .ref (ga G 0)), (1, .int (nI k))] [] := by
    intro σ1 f dn hdn hF z0 z9 κ C
    have hT1 := hT.fr hF (by decide) (by decide) (by decide) (by decide) (by decide) (by decide)
    have z8 := h8.fr hF (by decide)
    have loop : ∀ e q, q + e = 3 → Go G mX10_goes κ (some (.int (nI (many (h.1.1 ^^^ (1 <<< k)))))) (va_up (va_up (va_up (va_up (va_up σ1 9 (iA G 24 (cp3 f fs (3 * dn) 3))) 0 (cRef G len at_ (nI h.2.2.2.1) (nI (dn + 1)) rm)) 8 (iA G 9 (upd fs 0 (nI (h.1.1 ^^^ (1 <<< k)))))) 8 (iA G 9 (upd (upd fs 0 (nI (h.1.1 ^^^ (1 <<< k)))) 2 (nI (uL T h.1.2.1 k))))) 8 (iA G 9 (upd (upd (upd fs 0 (nI (h.1.1 ^^^ (1 <<< k)))) 2 (nI (uL T h.1.2.1 k))) 1 (nI k)))) (va_up σ1 9 (iA G 24 (cp3 f fs (3 * dn) q))) 84 [(0, .ref (ga G 0)), (1, .int (nI k)), (3, .int (nI q))] [] := by
      intro e
      induction e with
      | zero =>
        intro q hq
        have hq' : q = 3 := by omega
        subst hq'
        have y0 : Cl G (va_up σ1 9 (iA G 24 (cp3 f fs (3 * dn) 3))) 0 (cRef G len at_ (nI h.2.2.2.1) (nI dn) rm) := Cl.n (by decide) z0
        have y8 : Cl G (va_up σ1 9 (iA G 24 (cp3 f fs (3 * dn) 3))) 8 (iA G 9 fs) := Cl.n (by decide) z8
        have hT2 : QT G (va_up (va_up (va_up σ1 9 (iA G 24 (cp3 f fs (3 * dn) 3))) 0 (cRef G len at_ (nI h.2.2.2.1) (nI (dn + 1)) rm)) 8 (iA G 9 (upd fs 0 (nI (h.1.1 ^^^ (1 <<< k)))))) T := hT1.fr (ps := [0, 8, 9]) (fr3 (fr3 (fr3 fr0 (by decide)) (by decide)) (by decide)) (by decide) (by decide) (by decide) (by decide) (by decide) (by decide)
        have x0 : Cl G (va_up (va_up (va_up σ1 9 (iA G 24 (cp3 f fs (3 * dn) 3))) 0 (cRef G len at_ (nI h.2.2.2.1) (nI (dn + 1)) rm)) 8 (iA G 9 (upd fs 0 (nI (h.1.1 ^^^ (1 <<< k)))))) 0 (cRef G len at_ (nI h.2.2.2.1) (nI (dn + 1)) rm) := Cl.n (by decide) (Cl.s y0)
        rcases hL : h.1.2.1 with _ | p
        · rw [hL] at s1
          refine g_iload_n (pc := 84) C dX10_goes_84 rfl ?_
          refine g_iconst (pc := 85) (v := nI 3) C dX10_goes_85 (by decide) ?_
          refine g_icmp_ge (pc := 86) C 114 dX10_goes_86 (by decide) (fun c86 => ?_) (fun c86 => ?_)
          · refine g_aload_n (pc := 114) C dX10_goes_114 rfl ?_
            refine g_dup (pc := 115) C dX10_goes_115 rfl ?_
            apply gf_X10_114 (pc := 116) C rfl dX10_goes_116
            · repeat (first | assumption | exact Cl.s (by assumption) | refine Cl.n (by first | decide | omega) ?_)
            · rfl
            refine g_iconst (pc := 119) (v := nI 1) C dX10_goes_119 (by decide) ?_
            refine g_iadd (pc := 120) C dX10_goes_120 ?_
            rw [nI_add]
            apply pf_X10_114 (pc := 121) C rfl dX10_goes_121
            · repeat (first | assumption | exact Cl.s (by assumption) | refine Cl.n (by first | decide | omega) ?_)
            · rfl
            · rfl
            · exact Nat.le_of_ble_eq_true rfl
            intro hw121
            refine g_aload_n (pc := 124) C dX10_goes_124 rfl ?_
            apply gf_X10_32 (pc := 125) C rfl dX10_goes_125
            · repeat (first | assumption | exact Cl.s (by assumption) | refine Cl.n (by first | decide | omega) ?_)
            · rfl
            refine g_iconst (pc := 128) (v := nI 0) C dX10_goes_128 (by decide) ?_
            refine g_dup2 (pc := 129) C dX10_goes_129 rfl rfl ?_
            apply g_iaload (pc := 130) C dX10_goes_130
            · repeat (first | assumption | exact Cl.s (by assumption) | refine Cl.n (by first | decide | omega) ?_)
            · exact vp_in_nI (n := 0) (by decide) (by decide)
            refine g_iconst (pc := 131) (v := nI 1) C dX10_goes_131 (by decide) ?_
            refine g_iload_n (pc := 132) C dX10_goes_132 rfl ?_
            refine g_ishl (pc := 133) C dX10_goes_133 ?_
            refine g_ixor (pc := 134) C dX10_goes_134 ?_
            rw [nI_clamp (by decide), s0, nx_shl _ (by omega), nx_xor]
            apply g_iastore (pc := 135) C dX10_goes_135
            · repeat (first | assumption | exact Cl.s (by assumption) | refine Cl.n (by first | decide | omega) ?_)
            · exact vp_in_nI (n := 0) (by decide) (by decide)
            intro hw135
            refine g_aload_n (pc := 136) C dX10_goes_136 rfl ?_
            apply gf_X10_32 (pc := 137) C rfl dX10_goes_137
            · repeat (first | assumption | exact Cl.s (by assumption) | refine Cl.n (by first | decide | omega) ?_)
            · rfl
            refine g_iconst (pc := 140) (v := nI 2) C dX10_goes_140 (by decide) ?_
            refine g_aload_n (pc := 141) C dX10_goes_141 rfl ?_
            apply gf_X10_32 (pc := 142) C rfl dX10_goes_142
            · repeat (first | assumption | exact Cl.s (by assumption) | refine Cl.n (by first | decide | omega) ?_)
            · rfl
            refine g_iconst (pc := 145) (v := nI 1) C dX10_goes_145 (by decide) ?_
            apply g_iaload (pc := 146) C dX10_goes_146
            · repeat (first | assumption | exact Cl.s (by assumption) | refine Cl.n (by first | decide | omega) ?_)
            · exact vp_in_nI (n := 1) (by decide) (by decide)
            rw [nI_clamp (by decide), nI_clamp (by decide), pk_un (by decide), s1]
            refine g_if_ge (pc := 147) C 154 dX10_goes_147 (by decide) (fun c147 => ?_) (fun c147 => ?_)
            · exact absurd c147 (by decide)
            · refine g_iconst (pc := 150) (v := nI 0) C dX10_goes_150 (by decide) ?_
              refine g_goto (pc := 151) C 170 dX10_goes_151 (by decide) ?_
              apply g_iastore (pc := 170) C dX10_goes_170
              · repeat (first | assumption | exact Cl.s (by assumption) | refine Cl.n (by first | decide | omega) ?_)
              · exact vp_in_nI (n := 2) (by decide) (by decide)
              intro hw170
              refine g_aload_n (pc := 171) C dX10_goes_171 rfl ?_
              apply gf_X10_32 (pc := 172) C rfl dX10_goes_172
              · repeat (first | assumption | exact Cl.s (by assumption) | refine Cl.n (by first | decide | omega) ?_)
              · rfl
              refine g_iconst (pc := 175) (v := nI 1) C dX10_goes_175 (by decide) ?_
              refine g_iload_n (pc := 176) C dX10_goes_176 rfl ?_
              apply g_iastore (pc := 177) C dX10_goes_177
              · repeat (first | assumption | exact Cl.s (by assumption) | refine Cl.n (by first | decide | omega) ?_)
              · exact vp_in_nI (n := 1) (by decide) (by decide)
              intro hw177
              refine g_aload_n (pc := 178) C dX10_goes_178 rfl ?_
              apply gf_X10_32 (pc := 179) C rfl dX10_goes_179
              · repeat (first | assumption | exact Cl.s (by assumption) | refine Cl.n (by first | decide | omega) ?_)
              · rfl
              refine g_iconst (pc := 182) (v := nI 0) C dX10_goes_182 (by decide) ?_
              apply g_iaload (pc := 183) C dX10_goes_183
              · repeat (first | assumption | exact Cl.s (by assumption) | refine Cl.n (by first | decide | omega) ?_)
              · exact vp_in_nI (n := 0) (by decide) (by decide)
              rw [nI_clamp (by decide), nI_clamp (by decide), nI_clamp (by decide), pk_un (by decide), pk_un (by decide), pk_us]
              refine cl_X10_143 (pc := 184) C rfl (r_many (by omega)) dX10_goes_184 rfl (Nat.le_of_ble_eq_true rfl) ?_
              exact g_ireturn (pc := 187) C dX10_goes_187 rfl (rfl) (by simp [uL])
          · exact absurd (by decide) c86
        · rw [hL, latR_s] at s1
          have hu := and_lt32 (b := seen T) (UU_lt T k p hW.1)
          refine g_iload_n (pc := 84) C dX10_goes_84 rfl ?_
          refine g_iconst (pc := 85) (v := nI 3) C dX10_goes_85 (by decide) ?_
          refine g_icmp_ge (pc := 86) C 114 dX10_goes_86 (by decide) (fun c86 => ?_) (fun c86 => ?_)
          · refine g_aload_n (pc := 114) C dX10_goes_114 rfl ?_
            refine g_dup (pc := 115) C dX10_goes_115 rfl ?_
            apply gf_X10_114 (pc := 116) C rfl dX10_goes_116
            · repeat (first | assumption | exact Cl.s (by assumption) | refine Cl.n (by first | decide | omega) ?_)
            · rfl
            refine g_iconst (pc := 119) (v := nI 1) C dX10_goes_119 (by decide) ?_
            refine g_iadd (pc := 120) C dX10_goes_120 ?_
            rw [nI_add]
            apply pf_X10_114 (pc := 121) C rfl dX10_goes_121
            · repeat (first | assumption | exact Cl.s (by assumption) | refine Cl.n (by first | decide | omega) ?_)
            · rfl
            · rfl
            · exact Nat.le_of_ble_eq_true rfl
            intro hw121
            refine g_aload_n (pc := 124) C dX10_goes_124 rfl ?_
            apply gf_X10_32 (pc := 125) C rfl dX10_goes_125
            · repeat (first | assumption | exact Cl.s (by assumption) | refine Cl.n (by first | decide | omega) ?_)
            · rfl
            refine g_iconst (pc := 128) (v := nI 0) C dX10_goes_128 (by decide) ?_
            refine g_dup2 (pc := 129) C dX10_goes_129 rfl rfl ?_
            apply g_iaload (pc := 130) C dX10_goes_130
            · repeat (first | assumption | exact Cl.s (by assumption) | refine Cl.n (by first | decide | omega) ?_)
            · exact vp_in_nI (n := 0) (by decide) (by decide)
            refine g_iconst (pc := 131) (v := nI 1) C dX10_goes_131 (by decide) ?_
            refine g_iload_n (pc := 132) C dX10_goes_132 rfl ?_
            refine g_ishl (pc := 133) C dX10_goes_133 ?_
            refine g_ixor (pc := 134) C dX10_goes_134 ?_
            rw [nI_clamp (by decide), s0, nx_shl _ (by omega), nx_xor]
            apply g_iastore (pc := 135) C dX10_goes_135
            · repeat (first | assumption | exact Cl.s (by assumption) | refine Cl.n (by first | decide | omega) ?_)
            · exact vp_in_nI (n := 0) (by decide) (by decide)
            intro hw135
            refine g_aload_n (pc := 136) C dX10_goes_136 rfl ?_
            apply gf_X10_32 (pc := 137) C rfl dX10_goes_137
            · repeat (first | assumption | exact Cl.s (by assumption) | refine Cl.n (by first | decide | omega) ?_)
            · rfl
            refine g_iconst (pc := 140) (v := nI 2) C dX10_goes_140 (by decide) ?_
            refine g_aload_n (pc := 141) C dX10_goes_141 rfl ?_
            apply gf_X10_32 (pc := 142) C rfl dX10_goes_142
            · repeat (first | assumption | exact Cl.s (by assumption) | refine Cl.n (by first | decide | omega) ?_)
            · rfl
            refine g_iconst (pc := 145) (v := nI 1) C dX10_goes_145 (by decide) ?_
            apply g_iaload (pc := 146) C dX10_goes_146
            · repeat (first | assumption | exact Cl.s (by assumption) | refine Cl.n (by first | decide | omega) ?_)
            · exact vp_in_nI (n := 1) (by decide) (by decide)
            rw [nI_clamp (by decide), nI_clamp (by decide), pk_un (by decide), s1]
            refine g_if_ge (pc := 147) C 154 dX10_goes_147 (by decide) (fun c147 => ?_) (fun c147 => ?_)
            · refine g_aload_n (pc := 154) C dX10_goes_154 rfl ?_
              refine g_iload_n (pc := 155) C dX10_goes_155 rfl ?_
              refine g_aload_n (pc := 156) C dX10_goes_156 rfl ?_
              apply gf_X10_32 (pc := 157) C rfl dX10_goes_157
              · repeat (first | assumption | exact Cl.s (by assumption) | refine Cl.n (by first | decide | omega) ?_)
              · rfl
              refine g_iconst (pc := 160) (v := nI 1) C dX10_goes_160 (by decide) ?_
              apply g_iaload (pc := 161) C dX10_goes_161
              · repeat (first | assumption | exact Cl.s (by assumption) | refine Cl.n (by first | decide | omega) ?_)
              · exact vp_in_nI (n := 1) (by decide) (by decide)
              rw [show (nI 1).toNatClampNeg = 1 from nI_clamp (by decide), pk_un (by decide), s1]
              apply cl_X10_136 (pc := 162) C rfl (r_unlike x0 hT2 hk (by omega)) dX10_goes_162
              · repeat (first | assumption | exact Cl.s (by assumption) | refine Cl.n (by first | decide | omega) ?_)
              · rfl
              · exact Nat.le_of_ble_eq_true rfl
              refine g_aload_n (pc := 165) C dX10_goes_165 rfl ?_
              apply cl_X10_140 (pc := 166) C rfl (r_seen x0 hT2) dX10_goes_166
              · repeat (first | assumption | exact Cl.s (by assumption) | refine Cl.n (by first | decide | omega) ?_)
              · rfl
              · exact Nat.le_of_ble_eq_true rfl
              refine g_iand (pc := 169) C dX10_goes_169 ?_
              rw [nx_and]
              apply g_iastore (pc := 170) C dX10_goes_170
              · repeat (first | assumption | exact Cl.s (by assumption) | refine Cl.n (by first | decide | omega) ?_)
              · exact vp_in_nI (n := 2) (by decide) (by decide)
              intro hw170
              refine g_aload_n (pc := 171) C dX10_goes_171 rfl ?_
              apply gf_X10_32 (pc := 172) C rfl dX10_goes_172
              · repeat (first | assumption | exact Cl.s (by assumption) | refine Cl.n (by first | decide | omega) ?_)
              · rfl
              refine g_iconst (pc := 175) (v := nI 1) C dX10_goes_175 (by decide) ?_
              refine g_iload_n (pc := 176) C dX10_goes_176 rfl ?_
              apply g_iastore (pc := 177) C dX10_goes_177
              · repeat (first | assumption | exact Cl.s (by assumption) | refine Cl.n (by first | decide | omega) ?_)
              · exact vp_in_nI (n := 1) (by decide) (by decide)
              intro hw177
              refine g_aload_n (pc := 178) C dX10_goes_178 rfl ?_
              apply gf_X10_32 (pc := 179) C rfl dX10_goes_179
              · repeat (first | assumption | exact Cl.s (by assumption) | refine Cl.n (by first | decide | omega) ?_)
              · rfl
              refine g_iconst (pc := 182) (v := nI 0) C dX10_goes_182 (by decide) ?_
              apply g_iaload (pc := 183) C dX10_goes_183
              · repeat (first | assumption | exact Cl.s (by assumption) | refine Cl.n (by first | decide | omega) ?_)
              · exact vp_in_nI (n := 0) (by decide) (by decide)
              rw [nI_clamp (by decide), nI_clamp (by decide), nI_clamp (by decide), pk_un (by decide), pk_un (by decide), pk_us]
              refine cl_X10_143 (pc := 184) C rfl (r_many (by omega)) dX10_goes_184 rfl (Nat.le_of_ble_eq_true rfl) ?_
              exact g_ireturn (pc := 187) C dX10_goes_187 rfl (rfl) (by simp [uL, UU_comm T p k])
            · exact absurd (nI_pos' (by omega)) c147
          · exact absurd (by decide) c86
      | succ e ih =>
        intro q hq
        have y0 : Cl G (va_up σ1 9 (iA G 24 (cp3 f fs (3 * dn) q))) 0 (cRef G len at_ (nI h.2.2.2.1) (nI dn) rm) := Cl.n (by decide) z0
        have y8 : Cl G (va_up σ1 9 (iA G 24 (cp3 f fs (3 * dn) q))) 8 (iA G 9 fs) := Cl.n (by decide) z8
        have y9 : Cl G (va_up σ1 9 (iA G 24 (cp3 f fs (3 * dn) q))) 9 (iA G 24 (cp3 f fs (3 * dn) q)) := Cl.s z9
        refine g_iload_n (pc := 84) C dX10_goes_84 rfl ?_
        refine g_iconst (pc := 85) (v := nI 3) C dX10_goes_85 (by decide) ?_
        refine g_icmp_ge (pc := 86) C 114 dX10_goes_86 (by decide) (fun c86 => ?_) (fun c86 => ?_)
        · exact absurd c86 (nI_ge (by omega) (by decide))
        · refine g_aload_n (pc := 89) C dX10_goes_89 rfl ?_
          apply gf_X10_35 (pc := 90) C rfl dX10_goes_90
          · repeat (first | assumption | exact Cl.s (by assumption) | refine Cl.n (by first | decide | omega) ?_)
          · rfl
          refine g_iconst (pc := 93) (v := nI 3) C dX10_goes_93 (by decide) ?_
          refine g_aload_n (pc := 94) C dX10_goes_94 rfl ?_
          apply gf_X10_114 (pc := 95) C rfl dX10_goes_95
          · repeat (first | assumption | exact Cl.s (by assumption) | refine Cl.n (by first | decide | omega) ?_)
          · rfl
          refine g_imul (pc := 98) C dX10_goes_98 ?_
          refine g_iload_n (pc := 99) C dX10_goes_99 rfl ?_
          refine g_iadd (pc := 100) C dX10_goes_100 ?_
          rw [pk_mul, nI_add]
          refine g_aload_n (pc := 101) C dX10_goes_101 rfl ?_
          apply gf_X10_32 (pc := 102) C rfl dX10_goes_102
          · repeat (first | assumption | exact Cl.s (by assumption) | refine Cl.n (by first | decide | omega) ?_)
          · rfl
          refine g_iload_n (pc := 105) C dX10_goes_105 rfl ?_
          apply g_iaload (pc := 106) C dX10_goes_106
          · repeat (first | assumption | exact Cl.s (by assumption) | refine Cl.n (by first | decide | omega) ?_)
          · exact vp_in_nI (by omega) (by decide)
          rw [nI_clamp (by omega)]
          apply g_iastore (pc := 107) C dX10_goes_107
          · repeat (first | assumption | exact Cl.s (by assumption) | refine Cl.n (by first | decide | omega) ?_)
          · exact vp_in_nI (by omega) (by decide)
          intro hw107
          refine g_iinc (pc := 108) C dX10_goes_108 rfl (by decide) rfl ?_
          refine g_goto (pc := 111) C 84 dX10_goes_111 (by decide) ?_
          rw [nI_clamp (by omega), bx_uu σ1 9, cp3_s]
          exact g_to (ih (q + 1) (by omega)) ⟨rfl, rfl, lgi (nI_1 q), trivial⟩
    have := loop 3 0 (by omega)
    rw [cp3_0, va_self z9.2] at this
    refine g_iconst (pc := 82) (v := nI 0) C dX10_goes_82 (by decide) ?_
    refine g_istore_n (pc := 83) C dX10_goes_83 (by decide) rfl ?_
    exact g_to this ⟨rfl, rfl, rfl, trivial⟩
  -- what stands behind it
  have fin : ∀ {σ1 : WW} {f : Nat → Int32} (dn : Nat) (e' : Nat → GS), dn ≤ 7 → Fr σ σ1 [0, 9] → Cl G σ1 0 (cRef G len at_ (nI h.2.2.2.1) (nI dn) rm) → Cl G σ1 9 (iA G 24 f) → (∀ q, q < dn → s3 f (3 * q) (e' q)) → (passH T h k).2 = (dn + 1, (fun q => if q = dn then h.1 else e' q), h.2.2.2) → QG G (va_up (va_up (va_up (va_up (va_up σ1 9 (iA G 24 (cp3 f fs (3 * dn) 3))) 0 (cRef G len at_ (nI h.2.2.2.1) (nI (dn + 1)) rm)) 8 (iA G 9 (upd fs 0 (nI (h.1.1 ^^^ (1 <<< k)))))) 8 (iA G 9 (upd (upd fs 0 (nI (h.1.1 ^^^ (1 <<< k)))) 2 (nI (uL T h.1.2.1 k))))) 8 (iA G 9 (upd (upd (upd fs 0 (nI (h.1.1 ^^^ (1 <<< k)))) 2 (nI (uL T h.1.2.1 k))) 1 (nI k)))) len at_ rm (passH T h k) := by
    intro σ1 f dn e' hdn hF z0 z9 hf he
    have z8 := h8.fr hF (by decide)
    have e1 : (passH T h k).1 = (h.1.1 ^^^ (1 <<< k), k + 1, uL T h.1.2.1 k) := rfl
    unfold QG
    rw [e1, he]
    refine ⟨Cl.n (by decide) (Cl.n (by decide) (Cl.n (by decide) (Cl.s (Cl.n (by decide) z0)))), ⟨_, Cl.s (Cl.s (Cl.s (Cl.n (by decide) (Cl.n (by decide) z8)))), ⟨?_, ?_, ?_⟩, ?_⟩, _, Cl.n (by decide) (Cl.n (by decide) (Cl.n (by decide) (Cl.n (by decide) (Cl.s z9)))), ?_⟩
    · rw [pk_un (by decide), pk_un (by decide), pk_us]
    · show _ = latR (k + 1)
      rw [Nat.zero_add, pk_us, latR_s]
    · rw [Nat.zero_add, pk_un (by decide), pk_us]
    · intro q hq
      obtain ⟨a1, a2, a3⟩ := hs1 q hq
      exact ⟨by rw [pk_un (by omega), pk_un (by omega), pk_un (by omega)]; exact a1, by rw [pk_un (by omega), pk_un (by omega), pk_un (by omega)]; exact a2, by rw [pk_un (by omega), pk_un (by omega), pk_un (by omega)]; exact a3⟩
    · intro q hq
      have hq : q < dn + 1 := hq
      show s3 _ _ (if q = dn then h.1 else e' q)
      by_cases e : q = dn
      · rw [if_pos e, e]
        unfold s3 cp3
        rw [if_pos (by omega), if_pos (by omega), if_pos (by omega), show 3 * dn - 3 * dn = 0 by omega, show 3 * dn + 1 - 3 * dn = 1 by omega, show 3 * dn + 2 - 3 * dn = 2 by omega]
        exact ⟨s0, s1, s2⟩
      · rw [if_neg e]
        obtain ⟨a1, a2, a3⟩ := hf q (by omega)
        unfold s3 cp3
        rw [if_neg (by omega), if_neg (by omega), if_neg (by omega)]
        exact ⟨a1, a2, a3⟩
  by_cases h8' : h.2.1 = 8
  · rw [h8'] at h0 hfw
    have sh : ∀ e q f, q + e = 21 → (∀ x, x < q → f x = fw (x + 3)) → (∀ x, q ≤ x → f x = fw x) → ∃ f', (∀ κ, Cx G mX10_goes κ → Go G mX10_goes κ (some (.int (nI (many (h.1.1 ^^^ (1 <<< k)))))) (va_up (va_up (va_up (va_up (va_up (va_up (va_up σ 9 (iA G 24 f')) 0 (cRef G len at_ (nI h.2.2.2.1) (nI 7) rm)) 9 (iA G 24 (cp3 f' fs (3 * 7) 3))) 0 (cRef G len at_ (nI h.2.2.2.1) (nI (7 + 1)) rm)) 8 (iA G 9 (upd fs 0 (nI (h.1.1 ^^^ (1 <<< k)))))) 8 (iA G 9 (upd (upd fs 0 (nI (h.1.1 ^^^ (1 <<< k)))) 2 (nI (uL T h.1.2.1 k))))) 8 (iA G 9 (upd (upd (upd fs 0 (nI (h.1.1 ^^^ (1 <<< k)))) 2 (nI (uL T h.1.2.1 k))) 1 (nI k)))) (va_up σ 9 (iA G 24 f)) 46 [(0, .ref (ga G 0)), (1, .int (nI k)), (3, .int (nI q))] []) ∧ ∀ x, x < 21 → f' x = fw (x + 3) := by
      intro e
      induction e with
      | zero =>
        intro q f hq hf1 hf2
        refine ⟨f, fun κ C => ?_, fun x hx => hf1 x (by omega)⟩
        have y0 : Cl G (va_up σ 9 (iA G 24 f)) 0 (cRef G len at_ (nI h.2.2.2.1) (nI 8) rm) := Cl.n (by decide) h0
        have tl := tail (σ1 := va_up (va_up σ 9 (iA G 24 f)) 0 (cRef G len at_ (nI h.2.2.2.1) (nI 7) rm)) (f := f) 7 (by decide) (fr3 (fr3 fr0 (by decide)) (by decide)) (Cl.s y0) (Cl.n (by decide) (Cl.s h9')) κ C
        refine g_iload_n (pc := 46) C dX10_goes_46 rfl ?_
        refine g_bipush (pc := 47) (v := nI 21) C dX10_goes_47 (by decide) ?_
        refine g_icmp_ge (pc := 49) C 72 dX10_goes_49 (by decide) (fun c49 => ?_) (fun c49 => ?_)
        · refine g_aload_n (pc := 72) C dX10_goes_72 rfl ?_
          refine g_dup (pc := 73) C dX10_goes_73 rfl ?_
          apply gf_X10_114 (pc := 74) C rfl dX10_goes_74
          · repeat (first | assumption | exact Cl.s (by assumption) | refine Cl.n (by first | decide | omega) ?_)
          · rfl
          refine g_iconst (pc := 77) (v := nI 1) C dX10_goes_77 (by decide) ?_
          refine g_isub (pc := 78) C dX10_goes_78 ?_
          apply pf_X10_114 (pc := 79) C rfl dX10_goes_79
          · repeat (first | assumption | exact Cl.s (by assumption) | refine Cl.n (by first | decide | omega) ?_)
          · rfl
          · rfl
          · exact Nat.le_of_ble_eq_true rfl
          intro hw79
          exact g_to tl ⟨rfl, rfl, trivial⟩
        · exact absurd (nI_le (by omega) (by omega)) c49
      | succ e ih =>
        intro q f hq hf1 hf2
        obtain ⟨f', g1, g2⟩ := ih (q + 1) (upd f q (fw (q + 3))) (by omega) (fun x hx => by
          by_cases z : x = q
          · rw [z, pk_us]
          · rw [pk_un z]; exact hf1 x (by omega)) (fun x hx => by rw [pk_un (by omega)]; exact hf2 x (by omega))
        refine ⟨f', fun κ C => ?_, g2⟩
        have y0 : Cl G (va_up σ 9 (iA G 24 f)) 0 (cRef G len at_ (nI h.2.2.2.1) (nI 8) rm) := Cl.n (by decide) h0
        have y9 : Cl G (va_up σ 9 (iA G 24 f)) 9 (iA G 24 f) := Cl.s h9'
        refine g_iload_n (pc := 46) C dX10_goes_46 rfl ?_
        refine g_bipush (pc := 47) (v := nI 21) C dX10_goes_47 (by decide) ?_
        refine g_icmp_ge (pc := 49) C 72 dX10_goes_49 (by decide) (fun c49 => ?_) (fun c49 => ?_)
        · exact absurd c49 (nI_ge (by omega) (by decide))
        · refine g_aload_n (pc := 52) C dX10_goes_52 rfl ?_
          apply gf_X10_35 (pc := 53) C rfl dX10_goes_53
          · repeat (first | assumption | exact Cl.s (by assumption) | refine Cl.n (by first | decide | omega) ?_)
          · rfl
          refine g_iload_n (pc := 56) C dX10_goes_56 rfl ?_
          refine g_aload_n (pc := 57) C dX10_goes_57 rfl ?_
          apply gf_X10_35 (pc := 58) C rfl dX10_goes_58
          · repeat (first | assumption | exact Cl.s (by assumption) | refine Cl.n (by first | decide | omega) ?_)
          · rfl
          refine g_iload_n (pc := 61) C dX10_goes_61 rfl ?_
          refine g_iconst (pc := 62) (v := nI 3) C dX10_goes_62 (by decide) ?_
          refine g_iadd (pc := 63) C dX10_goes_63 ?_
          rw [nI_add]
          apply g_iaload (pc := 64) C dX10_goes_64
          · repeat (first | assumption | exact Cl.s (by assumption) | refine Cl.n (by first | decide | omega) ?_)
          · exact vp_in_nI (by omega) (by decide)
          rw [nI_clamp (by omega), hf2 (q + 3) (by omega)]
          apply g_iastore (pc := 65) C dX10_goes_65
          · repeat (first | assumption | exact Cl.s (by assumption) | refine Cl.n (by first | decide | omega) ?_)
          · exact vp_in_nI (by omega) (by decide)
          intro hw65
          refine g_iinc (pc := 66) C dX10_goes_66 rfl (by decide) rfl ?_
          refine g_goto (pc := 69) C 46 dX10_goes_69 (by decide) ?_
          rw [nI_clamp (by omega), bx_uu σ 9]
          exact g_to (g1 κ C) ⟨rfl, rfl, lgi (nI_1 q), trivial⟩
    obtain ⟨f', g1, g2⟩ := sh 21 0 fw (by omega) (fun x hx => absurd hx (Nat.not_lt_zero _)) (fun x _ => rfl)
    refine ⟨_, ?_, fin (σ1 := va_up (va_up σ 9 (iA G 24 f')) 0 (cRef G len at_ (nI h.2.2.2.1) (nI 7) rm)) (f := f') 7 (fun q => h.2.2.1 (q + 1)) (by decide) (fr3 (fr3 fr0 (by decide)) (by decide)) (Cl.s (Cl.n (by decide) h0)) (Cl.n (by decide) (Cl.s h9')) (fun q hq => by
      obtain ⟨a1, a2, a3⟩ := hfw (q + 1) (by omega)
      refine ⟨?_, ?_, ?_⟩
      · rw [g2 _ (by omega)]; exact a1
      · rw [g2 _ (by omega)]; exact a2
      · rw [g2 _ (by omega)]; exact a3) (by show (remH h).2 = _; unfold remH; rw [if_pos h8']), fr3 (fr3 (fr3 (fr3 (fr3 (fr3 (fr3 fr0 (by decide)) (by decide)) (by decide)) (by decide)) (by decide)) (by decide)) (by decide)⟩
    rw [va_self h9'.2] at g1
    refine Mt.of (by decide +kernel) (Nat.le_of_ble_eq_true rfl) (fun κ C => ?_)
    refine g_aload_n (pc := 0) C dX10_goes_0 rfl ?_
    refine g_iload_n (pc := 1) C dX10_goes_1 rfl ?_
    apply cl_X10_126 (pc := 2) C rfl (r_isMan h0 hT (nI k)) dX10_goes_2
    · repeat (first | assumption | exact Cl.s (by assumption) | refine Cl.n (by first | decide | omega) ?_)
    · rfl
    · exact Nat.le_of_ble_eq_true rfl
    refine g_if_nE (pc := 5) C 10 dX10_goes_5 (by decide) (fun c5 => ?_) (fun c5 => ?_)
    · refine g_aload_n (pc := 10) C dX10_goes_10 rfl ?_
      apply gf_X10_32 (pc := 11) C rfl dX10_goes_11
      · repeat (first | assumption | exact Cl.s (by assumption) | refine Cl.n (by first | decide | omega) ?_)
      · rfl
      refine g_iconst (pc := 14) (v := nI 0) C dX10_goes_14 (by decide) ?_
      apply g_iaload (pc := 15) C dX10_goes_15
      · repeat (first | assumption | exact Cl.s (by assumption) | refine Cl.n (by first | decide | omega) ?_)
      · exact vp_in_nI (n := 0) (by decide) (by decide)
      rw [nI_clamp (by decide)]
      refine g_iload_n (pc := 16) C dX10_goes_16 rfl ?_
      refine g_ishr (pc := 17) C dX10_goes_17 ?_
      refine g_iconst (pc := 18) (v := nI 1) C dX10_goes_18 (by decide) ?_
      refine g_iand (pc := 19) C dX10_goes_19 ?_
      refine g_iload_n (pc := 20) C dX10_goes_20 rfl ?_
      refine g_icmp_eq (pc := 21) C 32 dX10_goes_21 (by decide) (fun c21 => ?_) (fun c21 => ?_)
      · exact absurd (by rw [eb] at c21; revert hb c21; cases h.1.1.testBit k <;> cases inn <;> decide) id
      · refine g_aload_n (pc := 24) C dX10_goes_24 rfl ?_
        refine g_iload_n (pc := 25) C dX10_goes_25 rfl ?_
        apply cl_X10_150 (pc := 26) C rfl (r_mayNow hT hg' hw hk) dX10_goes_26
        · repeat (first | assumption | exact Cl.s (by assumption) | refine Cl.n (by first | decide | omega) ?_)
        · rfl
        · exact Nat.le_of_ble_eq_true rfl
        refine g_if_nE (pc := 29) C 35 dX10_goes_29 (by decide) (fun c29 => ?_) (fun c29 => ?_)
        · refine g_aload_n (pc := 35) C dX10_goes_35 rfl ?_
          apply gf_X10_114 (pc := 36) C rfl dX10_goes_36
          · repeat (first | assumption | exact Cl.s (by assumption) | refine Cl.n (by first | decide | omega) ?_)
          · rfl
          refine g_bipush (pc := 39) (v := nI 8) C dX10_goes_39 (by decide) ?_
          refine g_icmp_nE (pc := 41) C 82 dX10_goes_41 (by decide) (fun c41 => ?_) (fun c41 => ?_)
          · exact absurd rfl c41
          · refine g_iconst (pc := 44) (v := nI 0) C dX10_goes_44 (by decide) ?_
            refine g_istore_n (pc := 45) C dX10_goes_45 (by decide) rfl ?_
            exact g_to (g1 κ C) ⟨rfl, rfl, rfl, trivial⟩
        · exact absurd c29 (by rw [hl]; decide)
    · exact absurd c5 (by rw [inR_n hk (by omega)]; decide)
  · have hu8 := hw.2.1
    refine ⟨_, ?_, fin (σ1 := σ) (f := fw) h.2.1 h.2.2.1 (by omega) fr0 h0 h9' hfw (by show (remH h).2 = _; unfold remH; rw [if_neg h8']), fr3 (fr3 (fr3 (fr3 (fr3 fr0 (by decide)) (by decide)) (by decide)) (by decide)) (by decide)⟩
    refine Mt.of (by decide +kernel) (Nat.le_of_ble_eq_true rfl) (fun κ C => ?_)
    have tl := tail (σ1 := σ) (f := fw) h.2.1 (by omega) fr0 h0 h9' κ C
    refine g_aload_n (pc := 0) C dX10_goes_0 rfl ?_
    refine g_iload_n (pc := 1) C dX10_goes_1 rfl ?_
    apply cl_X10_126 (pc := 2) C rfl (r_isMan h0 hT (nI k)) dX10_goes_2
    · repeat (first | assumption | exact Cl.s (by assumption) | refine Cl.n (by first | decide | omega) ?_)
    · rfl
    · exact Nat.le_of_ble_eq_true rfl
    refine g_if_nE (pc := 5) C 10 dX10_goes_5 (by decide) (fun c5 => ?_) (fun c5 => ?_)
    · refine g_aload_n (pc := 10) C dX10_goes_10 rfl ?_
      apply gf_X10_32 (pc := 11) C rfl dX10_goes_11
      · repeat (first | assumption | exact Cl.s (by assumption) | refine Cl.n (by first | decide | omega) ?_)
      · rfl
      refine g_iconst (pc := 14) (v := nI 0) C dX10_goes_14 (by decide) ?_
      apply g_iaload (pc := 15) C dX10_goes_15
      · repeat (first | assumption | exact Cl.s (by assumption) | refine Cl.n (by first | decide | omega) ?_)
      · exact vp_in_nI (n := 0) (by decide) (by decide)
      rw [nI_clamp (by decide)]
      refine g_iload_n (pc := 16) C dX10_goes_16 rfl ?_
      refine g_ishr (pc := 17) C dX10_goes_17 ?_
      refine g_iconst (pc := 18) (v := nI 1) C dX10_goes_18 (by decide) ?_
      refine g_iand (pc := 19) C dX10_goes_19 ?_
      refine g_iload_n (pc := 20) C dX10_goes_20 rfl ?_
      refine g_icmp_eq (pc := 21) C 32 dX10_goes_21 (by decide) (fun c21 => ?_) (fun c21 => ?_)
      · exact absurd (by rw [eb] at c21; revert hb c21; cases h.1.1.testBit k <;> cases inn <;> decide) id
      · refine g_aload_n (pc := 24) C dX10_goes_24 rfl ?_
        refine g_iload_n (pc := 25) C dX10_goes_25 rfl ?_
        apply cl_X10_150 (pc := 26) C rfl (r_mayNow hT hg' hw hk) dX10_goes_26
        · repeat (first | assumption | exact Cl.s (by assumption) | refine Cl.n (by first | decide | omega) ?_)
        · rfl
        · exact Nat.le_of_ble_eq_true rfl
        refine g_if_nE (pc := 29) C 35 dX10_goes_29 (by decide) (fun c29 => ?_) (fun c29 => ?_)
        · refine g_aload_n (pc := 35) C dX10_goes_35 rfl ?_
          apply gf_X10_114 (pc := 36) C rfl dX10_goes_36
          · repeat (first | assumption | exact Cl.s (by assumption) | refine Cl.n (by first | decide | omega) ?_)
          · rfl
          refine g_bipush (pc := 39) (v := nI 8) C dX10_goes_39 (by decide) ?_
          refine g_icmp_nE (pc := 41) C 82 dX10_goes_41 (by decide) (fun c41 => ?_) (fun c41 => ?_)
          · exact g_to tl ⟨rfl, rfl, trivial⟩
          · exact absurd ((nI_eq (by omega) (by decide)).mp c41) h8'
        · exact absurd c29 (by rw [hl]; decide)
    · exact absurd c5 (by rw [inR_n hk (by omega)]; decide)
end REF3

