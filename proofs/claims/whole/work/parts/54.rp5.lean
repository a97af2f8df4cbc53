theorem opt_t {o : Option TS} (h : o.isSome = true) : ∃ P, o = some P := by
  rcases o with _ | P
  · cases h
  · exact ⟨P, rfl⟩
section RP5
variable {G : GG} {σ : WW} {T P : TS} {n : Nat} {x : Nat → Int32} {kept done rm : Int32}
theorem r_isItem {a : Nat} (ha : a < n) (hn : n ≤ 300) (h0 : Cl G σ 0 (cRef G (nI n) (nI a) kept done rm)) (hx : QX G σ n x) {ft fn fv fl fm fp : Nat → Int32} (hA : QA G σ ft fn fv fl fm fp) (hTT : tT T ft fn fv fl fm fp) (hP : tP P ft fn fv fl fm fp) : ∃ σ', Mt G mX10_isItem [.ref (ga G 0)] σ (some (.int (nI (b2 (itO x n a P).isSome)))) σ' ∧ prPost G σ σ' n T kept done rm (itO x n a P) (itE x n a + 1) [0, 2, 3, 4, 5, 6, 7] := by
  have hx' := hx
  obtain ⟨f, h1, hf⟩ := hx
  generalize hs1 : va_up σ 0 (cRef G (nI n) (nI (a + 1)) kept done rm) = σ1
  have F1 : Fr σ σ1 [0, 2, 3, 4, 5, 6, 7] := by rw [← hs1]; exact fr3 fr0 (by decide)
  have z0 : Cl G σ1 0 (cRef G (nI n) (nI (a + 1)) kept done rm) := by rw [← hs1]; exact Cl.s h0
  have A1 : QA G σ1 ft fn fv fl fm fp := by rw [← hs1]; exact hA.u0
  have x1 : QX G σ1 n x := by rw [← hs1]; exact hx'.u (by decide)
  -- the end of an item: behind what was read
  have fin : ∀ {σ2 : WW} {o : Option TS} {e : Nat} {at' : Int32}, e ≤ n → Cl G σ2 0 (cRef G (nI n) at' kept done rm) → (o.isSome = true → at' = nI e) → QS G σ2 T o → Fr σ σ2 [0, 2, 3, 4, 5, 6, 7] → (o = itR x n a P ∧ (o.isSome = true → e = itE x n a)) → ∃ σ', (∀ κ, Cx G mX10_isItem κ → Go G mX10_isItem κ (some (.int (nI (b2 (itO x n a P).isSome)))) σ' σ2 120 [(0, .ref (ga G 0)), (1, .int (x a)), (2, .int (nI (b2 o.isSome)))] []) ∧ prPost G σ σ' n T kept done rm (itO x n a P) (itE x n a + 1) [0, 2, 3, 4, 5, 6, 7] := by
    intro σ2 o e at' hen y0 hat hS hF ho
    obtain ⟨ho, hoe⟩ := ho
    obtain ⟨gt, gn, gv, gl', gm, gp, gA, gT, gP⟩ := hS
    obtain ⟨f2, y1, hf2⟩ := hx'.fr hF (by decide)
    have hpost : ∀ (at2 : Int32) (oo : Option TS), (∀ P2, oo = some P2 → o = some P2) → (oo.isSome = true → at2 = nI (itE x n a + 1)) → prPost G σ (va_up σ2 0 (cRef G (nI n) at2 kept done rm)) n T kept done rm oo (itE x n a + 1) [0, 2, 3, 4, 5, 6, 7] := by
      intro at2 oo k1 k2
      exact ⟨⟨at2, Cl.s y0, k2⟩, ⟨gt, gn, gv, gl', gm, gp, gA.u0, gT, fun P2 z => gP P2 (k1 P2 z)⟩, fr3 hF (by decide)⟩
    by_cases hs : o.isSome = true
    · obtain ⟨P2, hP2⟩ := opt_t hs
      have hat := hat hs
      have hoe := hoe hs
      subst hat
      by_cases hc : e < n ∧ x e = 59
      · have hO : itO x n a P = o := by unfold itO; rw [← hoe, if_pos hc, ho]
        rw [hO]
        refine ⟨va_up σ2 0 (cRef G (nI n) (nI (e + 1)) kept done rm), fun κ C => ?_, hpost _ o (fun _ z => z) (fun _ => by rw [hoe])⟩
        rw [hs]
        refine g_iload_n (pc := 120) C dX10_isItem_120 rfl ?_
        refine g_if_eq (pc := 121) C 153 dX10_isItem_121 (by decide) (fun c121 => ?_) (fun c121 => ?_)
        · exact absurd c121 (by decide)
        · refine g_aload_n (pc := 124) C dX10_isItem_124 rfl ?_
          apply gf_X10_82 (pc := 125) C rfl dX10_isItem_125
          · repeat (first | assumption | exact Cl.s (by assumption) | refine Cl.n (by first | decide | omega) ?_)
          · rfl
          refine g_aload_n (pc := 128) C dX10_isItem_128 rfl ?_
          apply gf_X10_78 (pc := 129) C rfl dX10_isItem_129
          · repeat (first | assumption | exact Cl.s (by assumption) | refine Cl.n (by first | decide | omega) ?_)
          · rfl
          refine g_icmp_ge (pc := 132) C 153 dX10_isItem_132 (by decide) (fun c132 => ?_) (fun c132 => ?_)
          · exact absurd c132 (nI_ge hc.1 (by omega))
          · refine g_aload_n (pc := 135) C dX10_isItem_135 rfl ?_
            apply gf_X10_7 (pc := 136) C rfl dX10_isItem_136
            · repeat (first | assumption | exact Cl.s (by assumption) | refine Cl.n (by first | decide | omega) ?_)
            · rfl
            refine g_aload_n (pc := 139) C dX10_isItem_139 rfl ?_
            apply gf_X10_82 (pc := 140) C rfl dX10_isItem_140
            · repeat (first | assumption | exact Cl.s (by assumption) | refine Cl.n (by first | decide | omega) ?_)
            · rfl
            apply g_baload (pc := 143) C dX10_isItem_143
            · repeat (first | assumption | exact Cl.s (by assumption) | refine Cl.n (by first | decide | omega) ?_)
            · exact vp_in_nI (by omega) (by decide)
            rw [nI_clamp (by omega), hf2 e hc.1, hc.2]
            refine g_bipush (pc := 144) (v := nI 59) C dX10_isItem_144 (by decide) ?_
            refine g_icmp_nE (pc := 146) C 153 dX10_isItem_146 (by decide) (fun c146 => ?_) (fun c146 => ?_)
            · exact absurd rfl c146
            · refine g_iconst (pc := 149) (v := nI 1) C dX10_isItem_149 (by decide) ?_
              refine g_goto (pc := 150) C 154 dX10_isItem_150 (by decide) ?_
              refine g_istore_n (pc := 154) C dX10_isItem_154 (by decide) rfl ?_
              refine g_aload_n (pc := 155) C dX10_isItem_155 rfl ?_
              refine g_dup (pc := 156) C dX10_isItem_156 rfl ?_
              apply gf_X10_82 (pc := 157) C rfl dX10_isItem_157
              · repeat (first | assumption | exact Cl.s (by assumption) | refine Cl.n (by first | decide | omega) ?_)
              · rfl
              refine g_iconst (pc := 160) (v := nI 1) C dX10_isItem_160 (by decide) ?_
              refine g_iadd (pc := 161) C dX10_isItem_161 ?_
              rw [nI_add]
              apply pf_X10_82 (pc := 162) C rfl dX10_isItem_162
              · repeat (first | assumption | exact Cl.s (by assumption) | refine Cl.n (by first | decide | omega) ?_)
              · rfl
              · rfl
              · exact Nat.le_of_ble_eq_true rfl
              intro hw162
              refine g_iload_n (pc := 165) C dX10_isItem_165 rfl ?_
              exact g_zreturn (pc := 166) C dX10_isItem_166 rfl (by first | exact Or.inl rfl | exact Or.inr rfl) (rfl) (rfl)
      · have hO : itO x n a P = none := by unfold itO; rw [← hoe, if_neg hc]
        rw [hO]
        refine ⟨va_up σ2 0 (cRef G (nI n) (nI (e + 1)) kept done rm), fun κ C => ?_, hpost _ none (fun _ z => by cases z) (fun z => by cases z)⟩
        rw [hs]
        by_cases h1 : e < n
        · refine g_iload_n (pc := 120) C dX10_isItem_120 rfl ?_
          refine g_if_eq (pc := 121) C 153 dX10_isItem_121 (by decide) (fun c121 => ?_) (fun c121 => ?_)
          · exact absurd c121 (by decide)
          · refine g_aload_n (pc := 124) C dX10_isItem_124 rfl ?_
            apply gf_X10_82 (pc := 125) C rfl dX10_isItem_125
            · repeat (first | assumption | exact Cl.s (by assumption) | refine Cl.n (by first | decide | omega) ?_)
            · rfl
            refine g_aload_n (pc := 128) C dX10_isItem_128 rfl ?_
            apply gf_X10_78 (pc := 129) C rfl dX10_isItem_129
            · repeat (first | assumption | exact Cl.s (by assumption) | refine Cl.n (by first | decide | omega) ?_)
            · rfl
            refine g_icmp_ge (pc := 132) C 153 dX10_isItem_132 (by decide) (fun c132 => ?_) (fun c132 => ?_)
            · exact absurd c132 (nI_ge h1 (by omega))
            · refine g_aload_n (pc := 135) C dX10_isItem_135 rfl ?_
              apply gf_X10_7 (pc := 136) C rfl dX10_isItem_136
              · repeat (first | assumption | exact Cl.s (by assumption) | refine Cl.n (by first | decide | omega) ?_)
              · rfl
              refine g_aload_n (pc := 139) C dX10_isItem_139 rfl ?_
              apply gf_X10_82 (pc := 140) C rfl dX10_isItem_140
              · repeat (first | assumption | exact Cl.s (by assumption) | refine Cl.n (by first | decide | omega) ?_)
              · rfl
              apply g_baload (pc := 143) C dX10_isItem_143
              · repeat (first | assumption | exact Cl.s (by assumption) | refine Cl.n (by first | decide | omega) ?_)
              · exact vp_in_nI (by omega) (by decide)
              rw [nI_clamp (by omega), hf2 e h1]
              refine g_bipush (pc := 144) (v := nI 59) C dX10_isItem_144 (by decide) ?_
              refine g_icmp_nE (pc := 146) C 153 dX10_isItem_146 (by decide) (fun c146 => ?_) (fun c146 => ?_)
              · refine g_iconst (pc := 153) (v := nI 0) C dX10_isItem_153 (by decide) ?_
                refine g_istore_n (pc := 154) C dX10_isItem_154 (by decide) rfl ?_
                refine g_aload_n (pc := 155) C dX10_isItem_155 rfl ?_
                refine g_dup (pc := 156) C dX10_isItem_156 rfl ?_
                apply gf_X10_82 (pc := 157) C rfl dX10_isItem_157
                · repeat (first | assumption | exact Cl.s (by assumption) | refine Cl.n (by first | decide | omega) ?_)
                · rfl
                refine g_iconst (pc := 160) (v := nI 1) C dX10_isItem_160 (by decide) ?_
                refine g_iadd (pc := 161) C dX10_isItem_161 ?_
                rw [nI_add]
                apply pf_X10_82 (pc := 162) C rfl dX10_isItem_162
                · repeat (first | assumption | exact Cl.s (by assumption) | refine Cl.n (by first | decide | omega) ?_)
                · rfl
                · rfl
                · exact Nat.le_of_ble_eq_true rfl
                intro hw162
                refine g_iload_n (pc := 165) C dX10_isItem_165 rfl ?_
                exact g_zreturn (pc := 166) C dX10_isItem_166 rfl (by first | exact Or.inl rfl | exact Or.inr rfl) (rfl) (rfl)
              · exact absurd c146 (fun q => hc ⟨h1, q⟩)
        · refine g_iload_n (pc := 120) C dX10_isItem_120 rfl ?_
          refine g_if_eq (pc := 121) C 153 dX10_isItem_121 (by decide) (fun c121 => ?_) (fun c121 => ?_)
          · exact absurd c121 (by decide)
          · refine g_aload_n (pc := 124) C dX10_isItem_124 rfl ?_
            apply gf_X10_82 (pc := 125) C rfl dX10_isItem_125
            · repeat (first | assumption | exact Cl.s (by assumption) | refine Cl.n (by first | decide | omega) ?_)
            · rfl
            refine g_aload_n (pc := 128) C dX10_isItem_128 rfl ?_
            apply gf_X10_78 (pc := 129) C rfl dX10_isItem_129
            · repeat (first | assumption | exact Cl.s (by assumption) | refine Cl.n (by first | decide | omega) ?_)
            · rfl
            refine g_icmp_ge (pc := 132) C 153 dX10_isItem_132 (by decide) (fun c132 => ?_) (fun c132 => ?_)
            · refine g_iconst (pc := 153) (v := nI 0) C dX10_isItem_153 (by decide) ?_
              refine g_istore_n (pc := 154) C dX10_isItem_154 (by decide) rfl ?_
              refine g_aload_n (pc := 155) C dX10_isItem_155 rfl ?_
              refine g_dup (pc := 156) C dX10_isItem_156 rfl ?_
              apply gf_X10_82 (pc := 157) C rfl dX10_isItem_157
              · repeat (first | assumption | exact Cl.s (by assumption) | refine Cl.n (by first | decide | omega) ?_)
              · rfl
              refine g_iconst (pc := 160) (v := nI 1) C dX10_isItem_160 (by decide) ?_
              refine g_iadd (pc := 161) C dX10_isItem_161 ?_
              rw [nI_add]
              apply pf_X10_82 (pc := 162) C rfl dX10_isItem_162
              · repeat (first | assumption | exact Cl.s (by assumption) | refine Cl.n (by first | decide | omega) ?_)
              · rfl
              · rfl
              · exact Nat.le_of_ble_eq_true rfl
              intro hw162
              refine g_iload_n (pc := 165) C dX10_isItem_165 rfl ?_
              exact g_zreturn (pc := 166) C dX10_isItem_166 rfl (by first | exact Or.inl rfl | exact Or.inr rfl) (rfl) (rfl)
            · exact absurd (nI_le (by omega) (by omega)) c132
    · have hs' : o = none := by
        rcases o with _ | P2
        · rfl
        · exact absurd rfl hs
      have hO : itO x n a P = none := by unfold itO; rw [← ho, hs']; split <;> rfl
      rw [hO, hs']
      refine ⟨va_up σ2 0 (cRef G (nI n) (at' + nI 1) kept done rm), fun κ C => ?_, hpost _ none (fun _ z => by cases z) (fun z => by cases z)⟩
      refine g_iload_n (pc := 120) C dX10_isItem_120 rfl ?_
      refine g_if_eq (pc := 121) C 153 dX10_isItem_121 (by decide) (fun c121 => ?_) (fun c121 => ?_)
      · refine g_iconst (pc := 153) (v := nI 0) C dX10_isItem_153 (by decide) ?_
        refine g_istore_n (pc := 154) C dX10_isItem_154 (by decide) rfl ?_
        refine g_aload_n (pc := 155) C dX10_isItem_155 rfl ?_
        refine g_dup (pc := 156) C dX10_isItem_156 rfl ?_
        apply gf_X10_82 (pc := 157) C rfl dX10_isItem_157
        · repeat (first | assumption | exact Cl.s (by assumption) | refine Cl.n (by first | decide | omega) ?_)
        · rfl
        refine g_iconst (pc := 160) (v := nI 1) C dX10_isItem_160 (by decide) ?_
        refine g_iadd (pc := 161) C dX10_isItem_161 ?_
        apply pf_X10_82 (pc := 162) C rfl dX10_isItem_162
        · repeat (first | assumption | exact Cl.s (by assumption) | refine Cl.n (by first | decide | omega) ?_)
        · rfl
        · rfl
        · exact Nat.le_of_ble_eq_true rfl
        intro hw162
        refine g_iload_n (pc := 165) C dX10_isItem_165 rfl ?_
        exact g_zreturn (pc := 166) C dX10_isItem_166 rfl (by first | exact Or.inl rfl | exact Or.inr rfl) (rfl) (rfl)
      · exact absurd rfl c121
  -- to place 22
  have go22 : ∀ {σ' : WW} {r : Option Value}, (∀ κ, Cx G mX10_isItem κ → Go G mX10_isItem κ r σ' σ1 22 [(0, .ref (ga G 0)), (1, .int (x a)), (2, .int (nI 0))] []) → Mt G mX10_isItem [.ref (ga G 0)] σ r σ' := by
    intro σ' r k
    refine Mt.of (by decide +kernel) (Nat.le_of_ble_eq_true rfl) (fun κ C => ?_)
    have k := k κ C
    rw [← hs1] at k
    refine g_aload_n (pc := 0) C dX10_isItem_0 rfl ?_
    apply gf_X10_7 (pc := 1) C rfl dX10_isItem_1
    · repeat (first | assumption | exact Cl.s (by assumption) | refine Cl.n (by first | decide | omega) ?_)
    · rfl
    refine g_aload_n (pc := 4) C dX10_isItem_4 rfl ?_
    apply gf_X10_82 (pc := 5) C rfl dX10_isItem_5
    · repeat (first | assumption | exact Cl.s (by assumption) | refine Cl.n (by first | decide | omega) ?_)
    · rfl
    apply g_baload (pc := 8) C dX10_isItem_8
    · repeat (first | assumption | exact Cl.s (by assumption) | refine Cl.n (by first | decide | omega) ?_)
    · exact vp_in_nI (by omega) (by decide)
    rw [nI_clamp (by omega), hf a ha]
    refine g_istore_n (pc := 9) C dX10_isItem_9 (by decide) rfl ?_
    refine g_aload_n (pc := 10) C dX10_isItem_10 rfl ?_
    refine g_dup (pc := 11) C dX10_isItem_11 rfl ?_
    apply gf_X10_82 (pc := 12) C rfl dX10_isItem_12
    · repeat (first | assumption | exact Cl.s (by assumption) | refine Cl.n (by first | decide | omega) ?_)
    · rfl
    refine g_iconst (pc := 15) (v := nI 1) C dX10_isItem_15 (by decide) ?_
    refine g_iadd (pc := 16) C dX10_isItem_16 ?_
    rw [nI_add]
    apply pf_X10_82 (pc := 17) C rfl dX10_isItem_17
    · repeat (first | assumption | exact Cl.s (by assumption) | refine Cl.n (by first | decide | omega) ?_)
    · rfl
    · rfl
    · exact Nat.le_of_ble_eq_true rfl
    intro hw17
    refine g_iconst (pc := 20) (v := nI 0) C dX10_isItem_20 (by decide) ?_
    refine g_istore_n (pc := 21) C dX10_isItem_21 (by decide) rfl ?_
    exact g_to k ⟨rfl, rfl, rfl, trivial⟩
  have rle : ∀ k, k ≤ n → ren x n k ≤ n := fun k hk => by
    have : ren x n k ≤ k + (n - k) := (rnd_le x (n - k) k).2
    omega
  by_cases e1 : x a = 116
  · obtain ⟨σ2, g1, ⟨at', y0, hat⟩, g2, g3⟩ := r_isThing (p := a + 1) (by omega) hn z0 x1 A1 hTT hP
    have eR : itR x n a P = thR x n (a + 1) P := by unfold itR; rw [if_pos e1]
    have eE : itE x n a = thE x n (a + 1) := by unfold itE; rw [if_pos e1]
    obtain ⟨σ3, k1, k2⟩ := fin (o := thR x n (a + 1) P) (e := min (thE x n (a + 1)) n) (Nat.min_le_right _ _) y0 (fun z => by
      rw [hat z]
      congr 1
      obtain ⟨P2, z⟩ := opt_t z
      unfold thR at z
      split at z
      · rename_i q
        have : thE x n (a + 1) ≤ n := rle _ (by omega)
        omega
      · cases z) g2 (fun j hj => (g3 j (fun z => hj (by revert z; simp; omega))).trans (F1 j hj)) ⟨eR.symm, fun z => by
      rw [eE]
      obtain ⟨P2, z⟩ := opt_t z
      unfold thR at z
      split at z
      · rename_i q
        have : thE x n (a + 1) ≤ n := rle _ (by omega)
        omega
      · cases z⟩
    refine ⟨σ3, go22 (fun κ C => ?_), k2⟩
    refine g_iload_n (pc := 22) C dX10_isItem_22 rfl ?_
    refine g_bipush (pc := 23) (v := nI 116) C dX10_isItem_23 (by decide) ?_
    refine g_icmp_nE (pc := 25) C 36 dX10_isItem_25 (by decide) (fun c25 => ?_) (fun c25 => ?_)
    · exact absurd e1 c25
    · refine g_aload_n (pc := 28) C dX10_isItem_28 rfl ?_
      apply cl_X10_100 (pc := 29) C rfl g1 dX10_isItem_29
      · repeat (first | assumption | exact Cl.s (by assumption) | refine Cl.n (by first | decide | omega) ?_)
      · rfl
      · exact Nat.le_of_ble_eq_true rfl
      refine g_istore_n (pc := 32) C dX10_isItem_32 (by decide) rfl ?_
      refine g_goto (pc := 33) C 120 dX10_isItem_33 (by decide) ?_
      exact g_to (k1 κ C) ⟨rfl, rfl, rfl, trivial⟩
  · by_cases e2 : x a = 112
    · obtain ⟨σ2, g1, ⟨at', y0, hat⟩, g2, g3⟩ := r_isPerson (p := a + 1) (by omega) hn z0 x1 A1 hTT hP
      have eR : itR x n a P = prR x n (a + 1) P := by unfold itR; rw [if_neg e1, if_pos e2]
      have eE : itE x n a = ren x n (a + 1) := by unfold itE; rw [if_neg e1]
      obtain ⟨σ3, k1, k2⟩ := fin (o := prR x n (a + 1) P) (rle _ (by omega)) y0 hat g2 (fun j hj => (g3 j (fun z => hj (by revert z; simp; omega))).trans (F1 j hj)) ⟨eR.symm, fun _ => eE.symm⟩
      refine ⟨σ3, go22 (fun κ C => ?_), k2⟩
      refine g_iload_n (pc := 22) C dX10_isItem_22 rfl ?_
      refine g_bipush (pc := 23) (v := nI 116) C dX10_isItem_23 (by decide) ?_
      refine g_icmp_nE (pc := 25) C 36 dX10_isItem_25 (by decide) (fun c25 => ?_) (fun c25 => ?_)
      · refine g_iload_n (pc := 36) C dX10_isItem_36 rfl ?_
        refine g_bipush (pc := 37) (v := nI 112) C dX10_isItem_37 (by decide) ?_
        refine g_icmp_nE (pc := 39) C 50 dX10_isItem_39 (by decide) (fun c39 => ?_) (fun c39 => ?_)
        · exact absurd e2 c39
        · refine g_aload_n (pc := 42) C dX10_isItem_42 rfl ?_
          apply cl_X10_104 (pc := 43) C rfl g1 dX10_isItem_43
          · repeat (first | assumption | exact Cl.s (by assumption) | refine Cl.n (by first | decide | omega) ?_)
          · rfl
          · exact Nat.le_of_ble_eq_true rfl
          refine g_istore_n (pc := 46) C dX10_isItem_46 (by decide) rfl ?_
          refine g_goto (pc := 47) C 120 dX10_isItem_47 (by decide) ?_
          exact g_to (k1 κ C) ⟨rfl, rfl, rfl, trivial⟩
      · exact absurd c25 e1
    · obtain ⟨hW, p0, p1, p2, p3, p4, p5, p6⟩ := id hP
      obtain ⟨h2, h3, h4, h5, h6, h7⟩ := id A1
      have N1 := r_number (p := a + 1) (by omega) hn z0 x1
      have eE : itE x n a = ren x n (a + 1) := by unfold itE; rw [if_neg e1]
      have hle := rle (a + 1) (by omega)
      have y0 : Cl G (va_up σ1 0 (cRef G (nI n) (nI (ren x n (a + 1))) kept done rm)) 0 (cRef G (nI n) (nI (ren x n (a + 1))) kept done rm) := Cl.s z0
      have y2 : Cl G (va_up σ1 0 (cRef G (nI n) (nI (ren x n (a + 1))) kept done rm)) 2 (iA G 4 ft) := Cl.n (by decide) h2
      by_cases e3 : x a = 108
      · have eR : itR x n a P = lawO P (numN x (a + 1) (ren x n (a + 1))) := by unfold itR; rw [if_neg e1, if_neg e2, if_pos e3]
        have I1 := inB_oN (o := numN x (a + 1) (ren x n (a + 1))) (fun v q => numN_lt q) (a := 0) (b := 3) (by decide) (by decide)
        have eb : inB (oN (numN x (a + 1) (ren x n (a + 1)))).toInt64 (nI 0).toInt64 (nI 3).toInt64 = (lawO P (numN x (a + 1) (ren x n (a + 1)))).isSome := by
          rw [Bool.eq_iff_iff, I1]
          rcases numN x (a + 1) (ren x n (a + 1)) with _ | v
          · exact ⟨fun ⟨_, q, _⟩ => (by cases q), fun q => (by cases q)⟩
          · show _ ↔ (if v ≤ 3 then some (lawS P v) else none : Option TS).isSome = true
            by_cases q : v ≤ 3
            · rw [if_pos q]; exact ⟨fun _ => rfl, fun _ => ⟨v, rfl, by omega, q⟩⟩
            · rw [if_neg q]; exact ⟨fun ⟨w, z, _, r⟩ => (by cases z; exact absurd r q), fun z => (by cases z)⟩
        obtain ⟨σ3, k1, k2⟩ := fin (σ2 := va_up (va_up σ1 0 (cRef G (nI n) (nI (ren x n (a + 1))) kept done rm)) 2 (iA G 4 (upd ft 2 (oN (numN x (a + 1) (ren x n (a + 1))))))) (o := lawO P (numN x (a + 1) (ren x n (a + 1)))) hle (Cl.n (by decide) y0) (fun _ => rfl) ⟨upd ft 2 (oN (numN x (a + 1) (ren x n (a + 1)))), fn, fv, fl, fm, fp, ⟨Cl.s y2, Cl.n (by decide) (Cl.n (by decide) h3), Cl.n (by decide) (Cl.n (by decide) h4), Cl.n (by decide) (Cl.n (by decide) h5), Cl.n (by decide) (Cl.n (by decide) h6), Cl.n (by decide) (Cl.n (by decide) h7)⟩, hTT.cg (pk_un (by decide)) (pk_un (by decide)) rfl rfl (fun _ _ => rfl) (fun _ _ => rfl) (fun _ _ => rfl), fun P2 z => by
          rcases hv : numN x (a + 1) (ren x n (a + 1)) with _ | v
          · rw [hv] at z; cases z
          · rw [hv] at z
            have z : (if v ≤ 3 then some (lawS P v) else none) = some P2 := z
            split at z
            · rename_i q
              cases z
              obtain ⟨w1, w2, w3, w4, w5, w6, w7, w8⟩ := hW
              exact ⟨⟨w1, w2, w3, w4, w5, w6, q, w8⟩, pk_us, (pk_un (by decide)).trans p1, p2, p3, p4, p5, p6⟩
            · cases z⟩ (fr3 (fr3 F1 (by decide)) (by decide)) ⟨eR.symm, fun _ => eE.symm⟩
        refine ⟨σ3, go22 (fun κ C => ?_), k2⟩
        have k1 := k1 κ C
        rw [← eb] at k1
        refine g_iload_n (pc := 22) C dX10_isItem_22 rfl ?_
        refine g_bipush (pc := 23) (v := nI 116) C dX10_isItem_23 (by decide) ?_
        refine g_icmp_nE (pc := 25) C 36 dX10_isItem_25 (by decide) (fun c25 => ?_) (fun c25 => ?_)
        · refine g_iload_n (pc := 36) C dX10_isItem_36 rfl ?_
          refine g_bipush (pc := 37) (v := nI 112) C dX10_isItem_37 (by decide) ?_
          refine g_icmp_nE (pc := 39) C 50 dX10_isItem_39 (by decide) (fun c39 => ?_) (fun c39 => ?_)
          · refine g_iload_n (pc := 50) C dX10_isItem_50 rfl ?_
            refine g_bipush (pc := 51) (v := nI 108) C dX10_isItem_51 (by decide) ?_
            refine g_icmp_eq (pc := 53) C 62 dX10_isItem_53 (by decide) (fun c53 => ?_) (fun c53 => ?_)
            · refine g_aload_n (pc := 62) C dX10_isItem_62 rfl ?_
              apply gf_X10_13 (pc := 63) C rfl dX10_isItem_63
              · repeat (first | assumption | exact Cl.s (by assumption) | refine Cl.n (by first | decide | omega) ?_)
              · rfl
              refine g_iload_n (pc := 66) C dX10_isItem_66 rfl ?_
              refine g_bipush (pc := 67) (v := nI 108) C dX10_isItem_67 (by decide) ?_
              refine g_icmp_nE (pc := 69) C 76 dX10_isItem_69 (by decide) (fun c69 => ?_) (fun c69 => ?_)
              · exact absurd e3 c69
              · refine g_iconst (pc := 72) (v := nI 2) C dX10_isItem_72 (by decide) ?_
                refine g_goto (pc := 73) C 77 dX10_isItem_73 (by decide) ?_
                refine g_aload_n (pc := 77) C dX10_isItem_77 rfl ?_
                apply cl_X10_91 (pc := 78) C rfl N1 dX10_isItem_78
                · repeat (first | assumption | exact Cl.s (by assumption) | refine Cl.n (by first | decide | omega) ?_)
                · rfl
                · exact Nat.le_of_ble_eq_true rfl
                apply g_iastore (pc := 81) C dX10_isItem_81
                · repeat (first | assumption | exact Cl.s (by assumption) | refine Cl.n (by first | decide | omega) ?_)
                · exact vp_in_nI (n := 2) (by decide) (by decide)
                intro hw81
                refine g_iload_n (pc := 82) C dX10_isItem_82 rfl ?_
                refine g_bipush (pc := 83) (v := nI 108) C dX10_isItem_83 (by decide) ?_
                refine g_icmp_nE (pc := 85) C 105 dX10_isItem_85 (by decide) (fun c85 => ?_) (fun c85 => ?_)
                · exact absurd e3 c85
                · rw [nI_clamp (by decide)]
                  refine g_aload_n (pc := 88) C dX10_isItem_88 rfl ?_
                  apply gf_X10_13 (pc := 89) C rfl dX10_isItem_89
                  · repeat (first | assumption | exact Cl.s (by assumption) | refine Cl.n (by first | decide | omega) ?_)
                  · rfl
                  refine g_iconst (pc := 92) (v := nI 2) C dX10_isItem_92 (by decide) ?_
                  apply g_iaload (pc := 93) C dX10_isItem_93
                  · repeat (first | assumption | exact Cl.s (by assumption) | refine Cl.n (by first | decide | omega) ?_)
                  · exact vp_in_nI (n := 2) (by decide) (by decide)
                  rw [nI_clamp (by decide), pk_us]
                  refine g_i2l (pc := 94) C dX10_isItem_94 ?_
                  refine g_lconst (pc := 95) (v := 0) C dX10_isItem_95 (by decide) ?_
                  refine g_ldc2 (pc := 96) C dX10_isItem_96 k_X10_107 ?_
                  refine cl_X10_74 (pc := 99) C rfl (r_in _ _ _) dX10_isItem_99 rfl (Nat.le_of_ble_eq_true rfl) ?_
                  refine g_goto (pc := 102) C 119 dX10_isItem_102 (by decide) ?_
                  refine g_istore_n (pc := 119) C dX10_isItem_119 (by decide) rfl ?_
                  exact g_to k1 ⟨rfl, rfl, rfl, trivial⟩
            · exact absurd e3 c53
          · exact absurd c39 e2
        · exact absurd c25 e1
      · by_cases e4 : x a = 103
        · have eR : itR x n a P = grdO P (numN x (a + 1) (ren x n (a + 1))) := by unfold itR; rw [if_neg e1, if_neg e2, if_neg e3, if_pos e4]
          have I1 := inB_oN (o := numN x (a + 1) (ren x n (a + 1))) (fun v q => numN_lt q) (a := 0) (b := 31) (by decide) (by decide)
          have eb : inB (oN (numN x (a + 1) (ren x n (a + 1)))).toInt64 (nI 0).toInt64 (nI 31).toInt64 = (grdO P (numN x (a + 1) (ren x n (a + 1)))).isSome := by
            rw [Bool.eq_iff_iff, I1]
            rcases numN x (a + 1) (ren x n (a + 1)) with _ | v
            · exact ⟨fun ⟨_, q, _⟩ => (by cases q), fun q => (by cases q)⟩
            · show _ ↔ (if v ≤ 31 then some (grdS P v) else none : Option TS).isSome = true
              by_cases q : v ≤ 31
              · rw [if_pos q]; exact ⟨fun _ => rfl, fun _ => ⟨v, rfl, by omega, q⟩⟩
              · rw [if_neg q]; exact ⟨fun ⟨w, z, _, r⟩ => (by cases z; exact absurd r q), fun z => (by cases z)⟩
          obtain ⟨σ3, k1, k2⟩ := fin (σ2 := va_up (va_up σ1 0 (cRef G (nI n) (nI (ren x n (a + 1))) kept done rm)) 2 (iA G 4 (upd ft 3 (oN (numN x (a + 1) (ren x n (a + 1))))))) (o := grdO P (numN x (a + 1) (ren x n (a + 1)))) hle (Cl.n (by decide) y0) (fun _ => rfl) ⟨upd ft 3 (oN (numN x (a + 1) (ren x n (a + 1)))), fn, fv, fl, fm, fp, ⟨Cl.s y2, Cl.n (by decide) (Cl.n (by decide) h3), Cl.n (by decide) (Cl.n (by decide) h4), Cl.n (by decide) (Cl.n (by decide) h5), Cl.n (by decide) (Cl.n (by decide) h6), Cl.n (by decide) (Cl.n (by decide) h7)⟩, hTT.cg (pk_un (by decide)) (pk_un (by decide)) rfl rfl (fun _ _ => rfl) (fun _ _ => rfl) (fun _ _ => rfl), fun P2 z => by
            rcases hv : numN x (a + 1) (ren x n (a + 1)) with _ | v
            · rw [hv] at z; cases z
            · rw [hv] at z
              have z : (if v ≤ 31 then some (grdS P v) else none) = some P2 := z
              split at z
              · rename_i q
                cases z
                obtain ⟨w1, w2, w3, w4, w5, w6, w7, w8⟩ := hW
                exact ⟨⟨w1, w2, w3, w4, w5, w6, w7, q⟩, (pk_un (by decide)).trans p0, pk_us, p2, p3, p4, p5, p6⟩
              · cases z⟩ (fr3 (fr3 F1 (by decide)) (by decide)) ⟨eR.symm, fun _ => eE.symm⟩
          refine ⟨σ3, go22 (fun κ C => ?_), k2⟩
          have k1 := k1 κ C
          rw [← eb] at k1
          refine g_iload_n (pc := 22) C dX10_isItem_22 rfl ?_
          refine g_bipush (pc := 23) (v := nI 116) C dX10_isItem_23 (by decide) ?_
          refine g_icmp_nE (pc := 25) C 36 dX10_isItem_25 (by decide) (fun c25 => ?_) (fun c25 => ?_)
          · refine g_iload_n (pc := 36) C dX10_isItem_36 rfl ?_
            refine g_bipush (pc := 37) (v := nI 112) C dX10_isItem_37 (by decide) ?_
            refine g_icmp_nE (pc := 39) C 50 dX10_isItem_39 (by decide) (fun c39 => ?_) (fun c39 => ?_)
            · refine g_iload_n (pc := 50) C dX10_isItem_50 rfl ?_
              refine g_bipush (pc := 51) (v := nI 108) C dX10_isItem_51 (by decide) ?_
              refine g_icmp_eq (pc := 53) C 62 dX10_isItem_53 (by decide) (fun c53 => ?_) (fun c53 => ?_)
              · exact absurd c53 e3
              · refine g_iload_n (pc := 56) C dX10_isItem_56 rfl ?_
                refine g_bipush (pc := 57) (v := nI 103) C dX10_isItem_57 (by decide) ?_
                refine g_icmp_nE (pc := 59) C 120 dX10_isItem_59 (by decide) (fun c59 => ?_) (fun c59 => ?_)
                · exact absurd e4 c59
                · refine g_aload_n (pc := 62) C dX10_isItem_62 rfl ?_
                  apply gf_X10_13 (pc := 63) C rfl dX10_isItem_63
                  · repeat (first | assumption | exact Cl.s (by assumption) | refine Cl.n (by first | decide | omega) ?_)
                  · rfl
                  refine g_iload_n (pc := 66) C dX10_isItem_66 rfl ?_
                  refine g_bipush (pc := 67) (v := nI 108) C dX10_isItem_67 (by decide) ?_
                  refine g_icmp_nE (pc := 69) C 76 dX10_isItem_69 (by decide) (fun c69 => ?_) (fun c69 => ?_)
                  · refine g_iconst (pc := 76) (v := nI 3) C dX10_isItem_76 (by decide) ?_
                    refine g_aload_n (pc := 77) C dX10_isItem_77 rfl ?_
                    apply cl_X10_91 (pc := 78) C rfl N1 dX10_isItem_78
                    · repeat (first | assumption | exact Cl.s (by assumption) | refine Cl.n (by first | decide | omega) ?_)
                    · rfl
                    · exact Nat.le_of_ble_eq_true rfl
                    apply g_iastore (pc := 81) C dX10_isItem_81
                    · repeat (first | assumption | exact Cl.s (by assumption) | refine Cl.n (by first | decide | omega) ?_)
                    · exact vp_in_nI (n := 3) (by decide) (by decide)
                    intro hw81
                    refine g_iload_n (pc := 82) C dX10_isItem_82 rfl ?_
                    refine g_bipush (pc := 83) (v := nI 108) C dX10_isItem_83 (by decide) ?_
                    refine g_icmp_nE (pc := 85) C 105 dX10_isItem_85 (by decide) (fun c85 => ?_) (fun c85 => ?_)
                    · rw [nI_clamp (by decide)]
                      refine g_aload_n (pc := 105) C dX10_isItem_105 rfl ?_
                      apply gf_X10_13 (pc := 106) C rfl dX10_isItem_106
                      · repeat (first | assumption | exact Cl.s (by assumption) | refine Cl.n (by first | decide | omega) ?_)
                      · rfl
                      refine g_iconst (pc := 109) (v := nI 3) C dX10_isItem_109 (by decide) ?_
                      apply g_iaload (pc := 110) C dX10_isItem_110
                      · repeat (first | assumption | exact Cl.s (by assumption) | refine Cl.n (by first | decide | omega) ?_)
                      · exact vp_in_nI (n := 3) (by decide) (by decide)
                      rw [nI_clamp (by decide), pk_us]
                      refine g_i2l (pc := 111) C dX10_isItem_111 ?_
                      refine g_lconst (pc := 112) (v := 0) C dX10_isItem_112 (by decide) ?_
                      refine g_ldc2 (pc := 113) C dX10_isItem_113 k_X10_109 ?_
                      refine cl_X10_74 (pc := 116) C rfl (r_in _ _ _) dX10_isItem_116 rfl (Nat.le_of_ble_eq_true rfl) ?_
                      refine g_istore_n (pc := 119) C dX10_isItem_119 (by decide) rfl ?_
                      exact g_to k1 ⟨rfl, rfl, rfl, trivial⟩
                    · exact absurd c85 e3
                  · exact absurd c69 e3
            · exact absurd c39 e2
          · exact absurd c25 e1
        · have eR : itR x n a P = none := by unfold itR; rw [if_neg e1, if_neg e2, if_neg e3, if_neg e4]
          obtain ⟨σ3, k1, k2⟩ := fin (σ2 := σ1) (o := none) (e := 0) (at' := nI (a + 1)) (Nat.zero_le _) z0 (fun z => by cases z) ⟨ft, fn, fv, fl, fm, fp, A1, hTT, fun _ z => by cases z⟩ F1 ⟨eR.symm, fun z => by cases z⟩
          refine ⟨σ3, go22 (fun κ C => ?_), k2⟩
          refine g_iload_n (pc := 22) C dX10_isItem_22 rfl ?_
          refine g_bipush (pc := 23) (v := nI 116) C dX10_isItem_23 (by decide) ?_
          refine g_icmp_nE (pc := 25) C 36 dX10_isItem_25 (by decide) (fun c25 => ?_) (fun c25 => ?_)
          · refine g_iload_n (pc := 36) C dX10_isItem_36 rfl ?_
            refine g_bipush (pc := 37) (v := nI 112) C dX10_isItem_37 (by decide) ?_
            refine g_icmp_nE (pc := 39) C 50 dX10_isItem_39 (by decide) (fun c39 => ?_) (fun c39 => ?_)
            · refine g_iload_n (pc := 50) C dX10_isItem_50 rfl ?_
              refine g_bipush (pc := 51) (v := nI 108) C dX10_isItem_51 (by decide) ?_
              refine g_icmp_eq (pc := 53) C 62 dX10_isItem_53 (by decide) (fun c53 => ?_) (fun c53 => ?_)
              · exact absurd c53 e3
              · refine g_iload_n (pc := 56) C dX10_isItem_56 rfl ?_
                refine g_bipush (pc := 57) (v := nI 103) C dX10_isItem_57 (by decide) ?_
                refine g_icmp_nE (pc := 59) C 120 dX10_isItem_59 (by decide) (fun c59 => ?_) (fun c59 => ?_)
                · exact g_to (k1 κ C) ⟨rfl, rfl, rfl, trivial⟩
                · exact absurd c59 e4
            · exact absurd c39 e2
          · exact absurd c25 e1
end RP5

