def prPost (G : GG) (σ σ' : WW) (n : Nat) (T : TS) (kept done rm : Int32) (o : Option TS) (e : Nat) (ps : List Nat) : Prop := (∃ at', Cl G σ' 0 (cRef G (nI n) at' kept done rm) ∧ (o.isSome = true → at' = nI e)) ∧ QS G σ' T o ∧ Fr σ σ' ps
section RP3
variable {G : GG} {σ : WW} {T P : TS} {n : Nat} {x : Nat → Int32} {kept done rm : Int32}
theorem r_isPerson {p : Nat} (hp : p ≤ n) (hn : n ≤ 300) (h0 : Cl G σ 0 (cRef G (nI n) (nI p) kept done rm)) (hx : QX G σ n x) {ft fn fv fl fm fp : Nat → Int32} (hA : QA G σ ft fn fv fl fm fp) (hTT : tT T ft fn fv fl fm fp) (hP : tP P ft fn fv fl fm fp) : ∃ σ', Mt G mX10_isPerson [.ref (ga G 0)] σ (some (.int (nI (b2 (prR x n p P).isSome)))) σ' ∧ prPost G σ σ' n T kept done rm (prR x n p P) (ren x n p) [0, 6, 7] := by
  have hP' := hP
  obtain ⟨hW, p0, p1, p2, p3, p4, p5, p6⟩ := hP
  have hn5 := hW.1
  have hm9 := hW.2.2.2.2.1
  have hTW := hTT.1
  -- leaving with 'no'
  have exF : ∀ {σ1 : WW} {fp1 : Nat → Int32} {at_ q : Int32}, Cl G σ1 0 (cRef G (nI n) at_ kept done rm) → QA G σ1 ft fn fv fl fm fp1 → (∀ k, k < 45 → fp1 k = fp k) → Fr σ σ1 [0, 6, 7] → prR x n p P = none → ∃ σ', (∀ κ, Cx G mX10_isPerson κ → Go G mX10_isPerson κ (some (.int (nI (b2 (prR x n p P).isSome)))) σ' σ1 154 [(0, .ref (ga G 0)), (1, .int (nI 0)), (2, .int q)] []) ∧ prPost G σ σ' n T kept done rm (prR x n p P) (ren x n p) [0, 6, 7] := by
    intro σ1 fp1 at_ q z0 zA hfp hF hno
    rw [hno]
    obtain ⟨h2, h3, h4, h5, h6, h7⟩ := zA
    refine ⟨va_up σ1 6 (iA G 2 (upd fm 1 (nI (tm P)))), fun κ C => ?_, ⟨⟨at_, Cl.n (by decide) z0, fun z => by cases z⟩, ⟨ft, fn, fv, fl, upd fm 1 (nI (tm P)), fp1, ⟨Cl.n (by decide) h2, Cl.n (by decide) h3, Cl.n (by decide) h4, Cl.n (by decide) h5, Cl.s h6, Cl.n (by decide) h7⟩, hTT.cg rfl rfl rfl (pk_un (by decide)) (fun _ _ => rfl) (fun _ _ => rfl) hfp, fun _ z => by cases z⟩, fr3 hF (by decide)⟩⟩
    have e6 : (0 : Int32) = nI 0 := rfl
    refine g_iload_n (pc := 154) C dX10_isPerson_154 rfl ?_
    refine g_if_eq (pc := 155) C 172 dX10_isPerson_155 (by decide) (fun c155 => ?_) (fun c155 => ?_)
    · refine g_iconst (pc := 172) (v := nI 0) C dX10_isPerson_172 (by decide) ?_
      refine g_istore_n (pc := 173) C dX10_isPerson_173 (by decide) rfl ?_
      refine g_aload_n (pc := 174) C dX10_isPerson_174 rfl ?_
      apply gf_X10_26 (pc := 175) C rfl dX10_isPerson_175
      · repeat (first | assumption | exact Cl.s (by assumption) | refine Cl.n (by first | decide | omega) ?_)
      · rfl
      refine g_iconst (pc := 178) (v := nI 1) C dX10_isPerson_178 (by decide) ?_
      refine g_dup2 (pc := 179) C dX10_isPerson_179 rfl rfl ?_
      apply g_iaload (pc := 180) C dX10_isPerson_180
      · repeat (first | assumption | exact Cl.s (by assumption) | refine Cl.n (by first | decide | omega) ?_)
      · exact vp_in_nI (n := 1) (by decide) (by decide)
      rw [nI_clamp (by decide), p3]
      refine g_iload_n (pc := 181) C dX10_isPerson_181 rfl ?_
      refine g_if_eq (pc := 182) C 189 dX10_isPerson_182 (by decide) (fun c182 => ?_) (fun c182 => ?_)
      · refine g_iconst (pc := 189) (v := nI 0) C dX10_isPerson_189 (by decide) ?_
        refine g_iadd (pc := 190) C dX10_isPerson_190 ?_
        rw [nI_add, Nat.add_zero]
        apply g_iastore (pc := 191) C dX10_isPerson_191
        · repeat (first | assumption | exact Cl.s (by assumption) | refine Cl.n (by first | decide | omega) ?_)
        · exact vp_in_nI (n := 1) (by decide) (by decide)
        intro hw191
        refine g_iload_n (pc := 192) C dX10_isPerson_192 rfl ?_
        exact g_zreturn (pc := 193) C dX10_isPerson_193 rfl (by first | exact Or.inl rfl | exact Or.inr rfl) (rfl) (by rw [nI_clamp (by decide)]; rfl)
      · exact absurd rfl c182
    · exact absurd rfl c155
  -- leaving behind m good figures
  have exT : ∀ {σ1 : WW} {fp1 : Nat → Int32} {m : Nat}, 1 ≤ tn P → tm P < 9 → m ≤ tn P → ren x n p = p + m → (∀ j, j < m → dgt (x (p + j)) ≠ none ∧ prv x p j < tv P j) → Cl G σ1 0 (cRef G (nI n) (nI (p + m)) kept done rm) → QA G σ1 ft fn fv fl fm fp1 → (∀ k, k < 45 + 5 * tm P → fp1 k = fp k) → (∀ j, j < m → fp1 (45 + 5 * tm P + j) = nI (prv x p j)) → Fr σ σ1 [0, 6, 7] → ∃ σ', (∀ κ, Cx G mX10_isPerson κ → Go G mX10_isPerson κ (some (.int (nI (b2 (prR x n p P).isSome)))) σ' σ1 154 [(0, .ref (ga G 0)), (1, .int (nI 1)), (2, .int (nI m))] []) ∧ prPost G σ σ' n T kept done rm (prR x n p P) (ren x n p) [0, 6, 7] := by
    intro σ1 fp1 m hn1 hm hmn hre hgood z0 zA hfp hrow hF
    obtain ⟨h2, h3, h4, h5, h6, h7⟩ := id zA
    by_cases e : m = tn P
    · have hok : prOk P x p (tn P) 0 = true := by
        have : ∀ d t, t + d = tn P → prOk P x p d t = true := by
          intro d
          induction d with
          | zero => intro t _; rfl
          | succ d ih =>
            intro t ht
            obtain ⟨a, b⟩ := hgood t (by omega)
            obtain ⟨_, _, c⟩ := dv_d a
            rw [prOk, ih (t + 1) (by omega), c]
            rw [Bool.and_true, decide_eq_true_iff]
            exact b
        exact this (tn P) 0 (by omega)
      have hpr : prR x n p P = some (prsS P (prv x p)) := by
        unfold prR prs
        rw [hre, if_pos ⟨hn1, by omega, hm, hok⟩]
      have hW2 := TW_prs hW (show prs P x p (ren x n p) = some (prsS P (prv x p)) from hpr)
      rw [hpr]
      refine ⟨va_up σ1 6 (iA G 2 (upd fm 1 (nI (tm P + 1)))), fun κ C => ?_, ⟨⟨nI (p + m), Cl.n (by decide) z0, fun _ => by rw [hre]⟩, ⟨ft, fn, fv, fl, upd fm 1 (nI (tm P + 1)), fp1, ⟨Cl.n (by decide) h2, Cl.n (by decide) h3, Cl.n (by decide) h4, Cl.n (by decide) h5, Cl.s h6, Cl.n (by decide) h7⟩, hTT.cg rfl rfl rfl (pk_un (by decide)) (fun _ _ => rfl) (fun _ _ => rfl) (fun k hk => hfp k (by omega)), fun P2 z => ?_⟩, fr3 hF (by decide)⟩⟩
      · refine g_iload_n (pc := 154) C dX10_isPerson_154 rfl ?_
        refine g_if_eq (pc := 155) C 172 dX10_isPerson_155 (by decide) (fun c155 => ?_) (fun c155 => ?_)
        · exact absurd c155 (by decide)
        · refine g_iload_n (pc := 158) C dX10_isPerson_158 rfl ?_
          refine g_aload_n (pc := 159) C dX10_isPerson_159 rfl ?_
          apply gf_X10_17 (pc := 160) C rfl dX10_isPerson_160
          · repeat (first | assumption | exact Cl.s (by assumption) | refine Cl.n (by first | decide | omega) ?_)
          · rfl
          refine g_iconst (pc := 163) (v := nI 1) C dX10_isPerson_163 (by decide) ?_
          apply g_iaload (pc := 164) C dX10_isPerson_164
          · repeat (first | assumption | exact Cl.s (by assumption) | refine Cl.n (by first | decide | omega) ?_)
          · exact vp_in_nI (n := 1) (by decide) (by decide)
          rw [nI_clamp (by decide), p2]
          refine g_icmp_nE (pc := 165) C 172 dX10_isPerson_165 (by decide) (fun c165 => ?_) (fun c165 => ?_)
          · exact absurd (by rw [e]) c165
          · refine g_iconst (pc := 168) (v := nI 1) C dX10_isPerson_168 (by decide) ?_
            refine g_goto (pc := 169) C 173 dX10_isPerson_169 (by decide) ?_
            refine g_istore_n (pc := 173) C dX10_isPerson_173 (by decide) rfl ?_
            refine g_aload_n (pc := 174) C dX10_isPerson_174 rfl ?_
            apply gf_X10_26 (pc := 175) C rfl dX10_isPerson_175
            · repeat (first | assumption | exact Cl.s (by assumption) | refine Cl.n (by first | decide | omega) ?_)
            · rfl
            refine g_iconst (pc := 178) (v := nI 1) C dX10_isPerson_178 (by decide) ?_
            refine g_dup2 (pc := 179) C dX10_isPerson_179 rfl rfl ?_
            apply g_iaload (pc := 180) C dX10_isPerson_180
            · repeat (first | assumption | exact Cl.s (by assumption) | refine Cl.n (by first | decide | omega) ?_)
            · exact vp_in_nI (n := 1) (by decide) (by decide)
            rw [nI_clamp (by decide), p3]
            refine g_iload_n (pc := 181) C dX10_isPerson_181 rfl ?_
            refine g_if_eq (pc := 182) C 189 dX10_isPerson_182 (by decide) (fun c182 => ?_) (fun c182 => ?_)
            · exact absurd c182 (by decide)
            · refine g_iconst (pc := 185) (v := nI 1) C dX10_isPerson_185 (by decide) ?_
              refine g_goto (pc := 186) C 190 dX10_isPerson_186 (by decide) ?_
              refine g_iadd (pc := 190) C dX10_isPerson_190 ?_
              rw [nI_add]
              apply g_iastore (pc := 191) C dX10_isPerson_191
              · repeat (first | assumption | exact Cl.s (by assumption) | refine Cl.n (by first | decide | omega) ?_)
              · exact vp_in_nI (n := 1) (by decide) (by decide)
              intro hw191
              refine g_iload_n (pc := 192) C dX10_isPerson_192 rfl ?_
              exact g_zreturn (pc := 193) C dX10_isPerson_193 rfl (by first | exact Or.inl rfl | exact Or.inr rfl) (rfl) (by rw [nI_clamp (by decide)])
      · cases z
        refine ⟨hW2, p0, p1, p2, pk_us, p4, p5, fun i hi t ht => ?_⟩
        have hi : i < tm P + 1 := hi
        have ht : t < tn P := ht
        show fp1 _ = nI ((if i = tm P then prv x p else tp P i) t)
        by_cases z : i = tm P
        · rw [if_pos z, z]
          exact hrow t (by omega)
        · rw [if_neg z, hfp _ (by omega)]
          exact p6 i (by omega) t ht
    · have hpr : prR x n p P = none := by
        unfold prR prs
        rw [hre, if_neg (fun z => e (by omega))]
      obtain ⟨σ', g1, g2⟩ := exF (q := nI m) z0 zA (fun k hk => hfp k (by omega)) hF hpr
      rw [hpr] at g1 g2 ⊢
      refine ⟨va_up σ1 6 (iA G 2 (upd fm 1 (nI (tm P)))), fun κ C => ?_, ⟨⟨nI (p + m), Cl.n (by decide) z0, fun z => by cases z⟩, ⟨ft, fn, fv, fl, upd fm 1 (nI (tm P)), fp1, ⟨Cl.n (by decide) h2, Cl.n (by decide) h3, Cl.n (by decide) h4, Cl.n (by decide) h5, Cl.s h6, Cl.n (by decide) h7⟩, hTT.cg rfl rfl rfl (pk_un (by decide)) (fun _ _ => rfl) (fun _ _ => rfl) (fun k hk => hfp k (by omega)), fun _ z => by cases z⟩, fr3 hF (by decide)⟩⟩
      refine g_iload_n (pc := 154) C dX10_isPerson_154 rfl ?_
      refine g_if_eq (pc := 155) C 172 dX10_isPerson_155 (by decide) (fun c155 => ?_) (fun c155 => ?_)
      · exact absurd c155 (by decide)
      · refine g_iload_n (pc := 158) C dX10_isPerson_158 rfl ?_
        refine g_aload_n (pc := 159) C dX10_isPerson_159 rfl ?_
        apply gf_X10_17 (pc := 160) C rfl dX10_isPerson_160
        · repeat (first | assumption | exact Cl.s (by assumption) | refine Cl.n (by first | decide | omega) ?_)
        · rfl
        refine g_iconst (pc := 163) (v := nI 1) C dX10_isPerson_163 (by decide) ?_
        apply g_iaload (pc := 164) C dX10_isPerson_164
        · repeat (first | assumption | exact Cl.s (by assumption) | refine Cl.n (by first | decide | omega) ?_)
        · exact vp_in_nI (n := 1) (by decide) (by decide)
        rw [nI_clamp (by decide), p2]
        refine g_icmp_nE (pc := 165) C 172 dX10_isPerson_165 (by decide) (fun c165 => ?_) (fun c165 => ?_)
        · refine g_iconst (pc := 172) (v := nI 0) C dX10_isPerson_172 (by decide) ?_
          refine g_istore_n (pc := 173) C dX10_isPerson_173 (by decide) rfl ?_
          refine g_aload_n (pc := 174) C dX10_isPerson_174 rfl ?_
          apply gf_X10_26 (pc := 175) C rfl dX10_isPerson_175
          · repeat (first | assumption | exact Cl.s (by assumption) | refine Cl.n (by first | decide | omega) ?_)
          · rfl
          refine g_iconst (pc := 178) (v := nI 1) C dX10_isPerson_178 (by decide) ?_
          refine g_dup2 (pc := 179) C dX10_isPerson_179 rfl rfl ?_
          apply g_iaload (pc := 180) C dX10_isPerson_180
          · repeat (first | assumption | exact Cl.s (by assumption) | refine Cl.n (by first | decide | omega) ?_)
          · exact vp_in_nI (n := 1) (by decide) (by decide)
          rw [nI_clamp (by decide), p3]
          refine g_iload_n (pc := 181) C dX10_isPerson_181 rfl ?_
          refine g_if_eq (pc := 182) C 189 dX10_isPerson_182 (by decide) (fun c182 => ?_) (fun c182 => ?_)
          · refine g_iconst (pc := 189) (v := nI 0) C dX10_isPerson_189 (by decide) ?_
            refine g_iadd (pc := 190) C dX10_isPerson_190 ?_
            rw [nI_add, Nat.add_zero]
            apply g_iastore (pc := 191) C dX10_isPerson_191
            · repeat (first | assumption | exact Cl.s (by assumption) | refine Cl.n (by first | decide | omega) ?_)
            · exact vp_in_nI (n := 1) (by decide) (by decide)
            intro hw191
            refine g_iload_n (pc := 192) C dX10_isPerson_192 rfl ?_
            exact g_zreturn (pc := 193) C dX10_isPerson_193 rfl (by first | exact Or.inl rfl | exact Or.inr rfl) (rfl) (by rw [nI_clamp (by decide)]; rfl)
          · exact absurd rfl c182
        · exact absurd ((nI_eq (by omega) (by omega)).mp c165) e
  have loop : ∀ (d m : Nat) {σ1 : WW} {fp1 : Nat → Int32}, 1 ≤ tn P → tm P < 9 → p + m + d = n → m ≤ tn P → (∀ j, j < m → dgt (x (p + j)) ≠ none ∧ prv x p j < tv P j) → Cl G σ1 0 (cRef G (nI n) (nI (p + m)) kept done rm) → QA G σ1 ft fn fv fl fm fp1 → (∀ k, k < 45 + 5 * tm P → fp1 k = fp k) → (∀ j, j < m → fp1 (45 + 5 * tm P + j) = nI (prv x p j)) → Fr σ σ1 [0, 6, 7] → ∃ σ', (∀ κ, Cx G mX10_isPerson κ → Go G mX10_isPerson κ (some (.int (nI (b2 (prR x n p P).isSome)))) σ' σ1 28 [(0, .ref (ga G 0)), (1, .int (nI 1)), (2, .int (nI m))] []) ∧ prPost G σ σ' n T kept done rm (prR x n p P) (ren x n p) [0, 6, 7] := by
    intro d
    induction d with
    | zero =>
      intro m σ1 fp1 hn1 hm hd hmn hgood z0 zA hfp hrow hF
      have hre : ren x n p = p + m := rnd_eq x _ p _ (by omega) (by omega) (fun j a b => by
        have := (hgood (j - p) (by omega)).1
        rw [show p + (j - p) = j by omega] at this
        exact this) (Or.inl (by omega))
      obtain ⟨σ', g1, g2⟩ := exT hn1 hm hmn hre hgood z0 zA hfp hrow hF
      refine ⟨σ', fun κ C => ?_, g2⟩
      refine g_iload_n (pc := 28) C dX10_isPerson_28 rfl ?_
      refine g_if_eq (pc := 29) C 154 dX10_isPerson_29 (by decide) (fun c29 => ?_) (fun c29 => ?_)
      · exact absurd c29 (by decide)
      · refine g_aload_n (pc := 32) C dX10_isPerson_32 rfl ?_
        apply gf_X10_82 (pc := 33) C rfl dX10_isPerson_33
        · repeat (first | assumption | exact Cl.s (by assumption) | refine Cl.n (by first | decide | omega) ?_)
        · rfl
        refine g_aload_n (pc := 36) C dX10_isPerson_36 rfl ?_
        apply gf_X10_78 (pc := 37) C rfl dX10_isPerson_37
        · repeat (first | assumption | exact Cl.s (by assumption) | refine Cl.n (by first | decide | omega) ?_)
        · rfl
        refine g_icmp_ge (pc := 40) C 154 dX10_isPerson_40 (by decide) (fun c40 => ?_) (fun c40 => ?_)
        · exact g_to (g1 κ C) ⟨rfl, rfl, rfl, trivial⟩
        · exact absurd (nI_le (by omega) (by omega)) c40
    | succ d ih =>
      intro m σ1 fp1 hn1 hm hd hmn hgood z0 zA hfp hrow hF
      obtain ⟨f, h1, hf⟩ := hx.fr hF (by decide)
      obtain ⟨h2, h3, h4, h5, h6, h7⟩ := id zA
      by_cases hc : dgt (x (p + m)) = none
      · have hre : ren x n p = p + m := rnd_eq x _ p _ (by omega) (by omega) (fun j a b => by
          have := (hgood (j - p) (by omega)).1
          rw [show p + (j - p) = j by omega] at this
          exact this) (Or.inr hc)
        have hb : inB (x (p + m)).toInt64 (nI 48).toInt64 (nI 57).toInt64 = false := by
          cases hq : inB (x (p + m)).toInt64 (nI 48).toInt64 (nI 57).toInt64
          · rfl
          · exact absurd hc ((dgt_in _).mp hq)
        obtain ⟨σ', g1, g2⟩ := exT hn1 hm hmn hre hgood z0 zA hfp hrow hF
        refine ⟨σ', fun κ C => ?_, g2⟩
        refine g_iload_n (pc := 28) C dX10_isPerson_28 rfl ?_
        refine g_if_eq (pc := 29) C 154 dX10_isPerson_29 (by decide) (fun c29 => ?_) (fun c29 => ?_)
        · exact absurd c29 (by decide)
        · refine g_aload_n (pc := 32) C dX10_isPerson_32 rfl ?_
          apply gf_X10_82 (pc := 33) C rfl dX10_isPerson_33
          · repeat (first | assumption | exact Cl.s (by assumption) | refine Cl.n (by first | decide | omega) ?_)
          · rfl
          refine g_aload_n (pc := 36) C dX10_isPerson_36 rfl ?_
          apply gf_X10_78 (pc := 37) C rfl dX10_isPerson_37
          · repeat (first | assumption | exact Cl.s (by assumption) | refine Cl.n (by first | decide | omega) ?_)
          · rfl
          refine g_icmp_ge (pc := 40) C 154 dX10_isPerson_40 (by decide) (fun c40 => ?_) (fun c40 => ?_)
          · exact absurd c40 (nI_ge (by omega) (by omega))
          · refine g_aload_n (pc := 43) C dX10_isPerson_43 rfl ?_
            apply gf_X10_7 (pc := 44) C rfl dX10_isPerson_44
            · repeat (first | assumption | exact Cl.s (by assumption) | refine Cl.n (by first | decide | omega) ?_)
            · rfl
            refine g_aload_n (pc := 47) C dX10_isPerson_47 rfl ?_
            apply gf_X10_82 (pc := 48) C rfl dX10_isPerson_48
            · repeat (first | assumption | exact Cl.s (by assumption) | refine Cl.n (by first | decide | omega) ?_)
            · rfl
            apply g_baload (pc := 51) C dX10_isPerson_51
            · repeat (first | assumption | exact Cl.s (by assumption) | refine Cl.n (by first | decide | omega) ?_)
            · exact vp_in_nI (by omega) (by decide)
            rw [nI_clamp (by omega), hf (p + m) (by omega)]
            refine g_i2l (pc := 52) C dX10_isPerson_52 ?_
            refine g_ldc2 (pc := 53) C dX10_isPerson_53 k_X10_85 ?_
            refine g_ldc2 (pc := 56) C dX10_isPerson_56 k_X10_87 ?_
            refine cl_X10_74 (pc := 59) C rfl (r_in _ _ _) dX10_isPerson_59 rfl (Nat.le_of_ble_eq_true rfl) ?_
            refine g_if_eq (pc := 62) C 154 dX10_isPerson_62 (by decide) (fun c62 => ?_) (fun c62 => ?_)
            · exact g_to (g1 κ C) ⟨rfl, rfl, rfl, trivial⟩
            · exact absurd (by change nI (b2 (inB (x (p + m)).toInt64 (nI 48).toInt64 (nI 57).toInt64)) = 0; rw [hb]; rfl) c62
      · have hb := (dgt_in (x (p + m))).mpr hc
        obtain ⟨g1, g2, g3⟩ := dv_d hc
        have epr : prv x p m = dv x (p + m) := rfl
        have hlong : p + m + 1 ≤ ren x n p := by
          by_cases z : p + m + 1 ≤ ren x n p
          · exact z
          · have hle := rnd_le x (n - p) p
            rcases rnd_out x (n - p) p with a | a
            · have : ren x n p = p + (n - p) := a
              omega
            · have h5 : ren x n p ≤ p + m := by omega
              have h6 : p ≤ ren x n p := hle.1
              have a : dgt (x (ren x n p)) = none := a
              by_cases e : ren x n p = p + m
              · rw [e] at a; exact absurd a hc
              · have := (hgood (ren x n p - p) (by omega)).1
                rw [show p + (ren x n p - p) = ren x n p by omega] at this
                exact absurd a this
        by_cases hcase : m < tn P ∧ prv x p m < tv P m
        · obtain ⟨c1, c2⟩ := hcase
          have hv4 := (hW.2.1 m c1).2
          obtain ⟨σ', k1, k2⟩ := ih (m + 1) (σ1 := va_up (va_up σ1 7 (iA G 90 (upd fp1 (45 + 5 * tm P + m) (nI (prv x p m))))) 0 (cRef G (nI n) (nI (p + m + 1)) kept done rm)) (fp1 := upd fp1 (45 + 5 * tm P + m) (nI (prv x p m))) hn1 hm (by omega) (by omega) (fun j hj => by
            by_cases e : j = m
            · rw [e]; exact ⟨hc, c2⟩
            · exact hgood j (by omega)) (Cl.s (Cl.n (by decide) z0)) ⟨Cl.n (by decide) (Cl.n (by decide) h2), Cl.n (by decide) (Cl.n (by decide) h3), Cl.n (by decide) (Cl.n (by decide) h4), Cl.n (by decide) (Cl.n (by decide) h5), Cl.n (by decide) (Cl.n (by decide) h6), Cl.n (by decide) (Cl.s h7)⟩ (fun k hk => by rw [pk_un (by omega)]; exact hfp k hk) (fun j hj => by
            by_cases e : j = m
            · rw [e, pk_us]
            · rw [pk_un (by omega)]; exact hrow j (by omega)) (fr3 (fr3 hF (by decide)) (by decide))
          refine ⟨σ', fun κ C => ?_, k2⟩
          refine g_iload_n (pc := 28) C dX10_isPerson_28 rfl ?_
          refine g_if_eq (pc := 29) C 154 dX10_isPerson_29 (by decide) (fun c29 => ?_) (fun c29 => ?_)
          · exact absurd c29 (by decide)
          · refine g_aload_n (pc := 32) C dX10_isPerson_32 rfl ?_
            apply gf_X10_82 (pc := 33) C rfl dX10_isPerson_33
            · repeat (first | assumption | exact Cl.s (by assumption) | refine Cl.n (by first | decide | omega) ?_)
            · rfl
            refine g_aload_n (pc := 36) C dX10_isPerson_36 rfl ?_
            apply gf_X10_78 (pc := 37) C rfl dX10_isPerson_37
            · repeat (first | assumption | exact Cl.s (by assumption) | refine Cl.n (by first | decide | omega) ?_)
            · rfl
            refine g_icmp_ge (pc := 40) C 154 dX10_isPerson_40 (by decide) (fun c40 => ?_) (fun c40 => ?_)
            · exact absurd c40 (nI_ge (by omega) (by omega))
            · refine g_aload_n (pc := 43) C dX10_isPerson_43 rfl ?_
              apply gf_X10_7 (pc := 44) C rfl dX10_isPerson_44
              · repeat (first | assumption | exact Cl.s (by assumption) | refine Cl.n (by first | decide | omega) ?_)
              · rfl
              refine g_aload_n (pc := 47) C dX10_isPerson_47 rfl ?_
              apply gf_X10_82 (pc := 48) C rfl dX10_isPerson_48
              · repeat (first | assumption | exact Cl.s (by assumption) | refine Cl.n (by first | decide | omega) ?_)
              · rfl
              apply g_baload (pc := 51) C dX10_isPerson_51
              · repeat (first | assumption | exact Cl.s (by assumption) | refine Cl.n (by first | decide | omega) ?_)
              · exact vp_in_nI (by omega) (by decide)
              rw [nI_clamp (by omega), hf (p + m) (by omega)]
              refine g_i2l (pc := 52) C dX10_isPerson_52 ?_
              refine g_ldc2 (pc := 53) C dX10_isPerson_53 k_X10_85 ?_
              refine g_ldc2 (pc := 56) C dX10_isPerson_56 k_X10_87 ?_
              refine cl_X10_74 (pc := 59) C rfl (r_in _ _ _) dX10_isPerson_59 rfl (Nat.le_of_ble_eq_true rfl) ?_
              refine g_if_eq (pc := 62) C 154 dX10_isPerson_62 (by decide) (fun c62 => ?_) (fun c62 => ?_)
              · exact absurd c62 (by change ¬ nI (b2 (inB (x (p + m)).toInt64 (nI 48).toInt64 (nI 57).toInt64)) = 0; rw [hb]; decide)
              · refine g_iload_n (pc := 65) C dX10_isPerson_65 rfl ?_
                refine g_aload_n (pc := 66) C dX10_isPerson_66 rfl ?_
                apply gf_X10_17 (pc := 67) C rfl dX10_isPerson_67
                · repeat (first | assumption | exact Cl.s (by assumption) | refine Cl.n (by first | decide | omega) ?_)
                · rfl
                refine g_iconst (pc := 70) (v := nI 1) C dX10_isPerson_70 (by decide) ?_
                apply g_iaload (pc := 71) C dX10_isPerson_71
                · repeat (first | assumption | exact Cl.s (by assumption) | refine Cl.n (by first | decide | omega) ?_)
                · exact vp_in_nI (n := 1) (by decide) (by decide)
                rw [nI_clamp (by decide), p2]
                refine g_icmp_ge (pc := 72) C 102 dX10_isPerson_72 (by decide) (fun c72 => ?_) (fun c72 => ?_)
                · exact absurd c72 (nI_ge c1 (by omega))
                · refine g_aload_n (pc := 75) C dX10_isPerson_75 rfl ?_
                  apply gf_X10_7 (pc := 76) C rfl dX10_isPerson_76
                  · repeat (first | assumption | exact Cl.s (by assumption) | refine Cl.n (by first | decide | omega) ?_)
                  · rfl
                  refine g_aload_n (pc := 79) C dX10_isPerson_79 rfl ?_
                  apply gf_X10_82 (pc := 80) C rfl dX10_isPerson_80
                  · repeat (first | assumption | exact Cl.s (by assumption) | refine Cl.n (by first | decide | omega) ?_)
                  · rfl
                  apply g_baload (pc := 83) C dX10_isPerson_83
                  · repeat (first | assumption | exact Cl.s (by assumption) | refine Cl.n (by first | decide | omega) ?_)
                  · exact vp_in_nI (by omega) (by decide)
                  rw [nI_clamp (by omega), hf (p + m) (by omega), g2]
                  refine g_bipush (pc := 84) (v := nI 48) C dX10_isPerson_84 (by decide) ?_
                  refine g_isub (pc := 86) C dX10_isPerson_86 ?_
                  rw [pk_sub (by omega), show 48 + dv x (p + m) - 48 = dv x (p + m) by omega]
                  refine g_aload_n (pc := 87) C dX10_isPerson_87 rfl ?_
                  apply gf_X10_20 (pc := 88) C rfl dX10_isPerson_88
                  · repeat (first | assumption | exact Cl.s (by assumption) | refine Cl.n (by first | decide | omega) ?_)
                  · rfl
                  refine g_iconst (pc := 91) (v := nI 5) C dX10_isPerson_91 (by decide) ?_
                  refine g_iload_n (pc := 92) C dX10_isPerson_92 rfl ?_
                  refine g_iadd (pc := 93) C dX10_isPerson_93 ?_
                  rw [nI_add]
                  apply g_iaload (pc := 94) C dX10_isPerson_94
                  · repeat (first | assumption | exact Cl.s (by assumption) | refine Cl.n (by first | decide | omega) ?_)
                  · exact vp_in_nI (by omega) (by decide)
                  rw [nI_clamp (by omega), p4 m c1]
                  refine g_icmp_ge (pc := 95) C 102 dX10_isPerson_95 (by decide) (fun c95 => ?_) (fun c95 => ?_)
                  · exact absurd c95 (nI_ge (by rw [← epr]; exact c2) (by omega))
                  · refine g_iconst (pc := 98) (v := nI 1) C dX10_isPerson_98 (by decide) ?_
                    refine g_goto (pc := 99) C 103 dX10_isPerson_99 (by decide) ?_
                    refine g_istore_n (pc := 103) C dX10_isPerson_103 (by decide) rfl ?_
                    refine g_iload_n (pc := 104) C dX10_isPerson_104 rfl ?_
                    refine g_if_eq (pc := 105) C 138 dX10_isPerson_105 (by decide) (fun c105 => ?_) (fun c105 => ?_)
                    · exact absurd c105 (by decide)
                    · refine g_aload_n (pc := 108) C dX10_isPerson_108 rfl ?_
                      apply gf_X10_29 (pc := 109) C rfl dX10_isPerson_109
                      · repeat (first | assumption | exact Cl.s (by assumption) | refine Cl.n (by first | decide | omega) ?_)
                      · rfl
                      refine g_bipush (pc := 112) (v := nI 45) C dX10_isPerson_112 (by decide) ?_
                      refine g_iconst (pc := 114) (v := nI 5) C dX10_isPerson_114 (by decide) ?_
                      refine g_aload_n (pc := 115) C dX10_isPerson_115 rfl ?_
                      apply gf_X10_26 (pc := 116) C rfl dX10_isPerson_116
                      · repeat (first | assumption | exact Cl.s (by assumption) | refine Cl.n (by first | decide | omega) ?_)
                      · rfl
                      refine g_iconst (pc := 119) (v := nI 1) C dX10_isPerson_119 (by decide) ?_
                      apply g_iaload (pc := 120) C dX10_isPerson_120
                      · repeat (first | assumption | exact Cl.s (by assumption) | refine Cl.n (by first | decide | omega) ?_)
                      · exact vp_in_nI (n := 1) (by decide) (by decide)
                      rw [nI_clamp (by decide), p3]
                      refine g_imul (pc := 121) C dX10_isPerson_121 ?_
                      refine g_iadd (pc := 122) C dX10_isPerson_122 ?_
                      refine g_iload_n (pc := 123) C dX10_isPerson_123 rfl ?_
                      refine g_iadd (pc := 124) C dX10_isPerson_124 ?_
                      rw [pk_mul, nI_add, nI_add]
                      refine g_aload_n (pc := 125) C dX10_isPerson_125 rfl ?_
                      apply gf_X10_7 (pc := 126) C rfl dX10_isPerson_126
                      · repeat (first | assumption | exact Cl.s (by assumption) | refine Cl.n (by first | decide | omega) ?_)
                      · rfl
                      refine g_aload_n (pc := 129) C dX10_isPerson_129 rfl ?_
                      apply gf_X10_82 (pc := 130) C rfl dX10_isPerson_130
                      · repeat (first | assumption | exact Cl.s (by assumption) | refine Cl.n (by first | decide | omega) ?_)
                      · rfl
                      apply g_baload (pc := 133) C dX10_isPerson_133
                      · repeat (first | assumption | exact Cl.s (by assumption) | refine Cl.n (by first | decide | omega) ?_)
                      · exact vp_in_nI (by omega) (by decide)
                      rw [nI_clamp (by omega), hf (p + m) (by omega), g2]
                      refine g_bipush (pc := 134) (v := nI 48) C dX10_isPerson_134 (by decide) ?_
                      refine g_isub (pc := 136) C dX10_isPerson_136 ?_
                      rw [pk_sub (by omega), show 48 + dv x (p + m) - 48 = dv x (p + m) by omega]
                      apply g_iastore (pc := 137) C dX10_isPerson_137
                      · repeat (first | assumption | exact Cl.s (by assumption) | refine Cl.n (by first | decide | omega) ?_)
                      · exact vp_in_nI (by omega) (by decide)
                      intro hw137
                      refine g_iinc (pc := 138) C dX10_isPerson_138 rfl (by decide) rfl ?_
                      refine g_aload_n (pc := 141) C dX10_isPerson_141 rfl ?_
                      refine g_dup (pc := 142) C dX10_isPerson_142 rfl ?_
                      apply gf_X10_82 (pc := 143) C rfl dX10_isPerson_143
                      · repeat (first | assumption | exact Cl.s (by assumption) | refine Cl.n (by first | decide | omega) ?_)
                      · rfl
                      refine g_iconst (pc := 146) (v := nI 1) C dX10_isPerson_146 (by decide) ?_
                      refine g_iadd (pc := 147) C dX10_isPerson_147 ?_
                      rw [nI_clamp (by omega), nI_add]
                      apply pf_X10_82 (pc := 148) C rfl dX10_isPerson_148
                      · repeat (first | assumption | exact Cl.s (by assumption) | refine Cl.n (by first | decide | omega) ?_)
                      · rfl
                      · rfl
                      · exact Nat.le_of_ble_eq_true rfl
                      intro hw148
                      refine g_goto (pc := 151) C 28 dX10_isPerson_151 (by decide) ?_
                      exact g_to (k1 κ C) ⟨rfl, rfl, lgi (nI_1 m), trivial⟩
        · have hno : prR x n p P = none := by
            unfold prR prs
            rw [if_neg]
            rintro ⟨q1, q2, q3, q4⟩
            have hmt : m < tn P := by omega
            exact hcase ⟨hmt, (prOk_spec _ _ q4 m (by omega) (by omega)).1⟩
          obtain ⟨σ', k1, k2⟩ := exF (σ1 := va_up σ1 0 (cRef G (nI n) (nI (p + m + 1)) kept done rm)) (q := nI m + 1) (Cl.s z0) zA.u0 (fun k hk => hfp k (by omega)) (fr3 hF (by decide)) hno
          refine ⟨σ', fun κ C => ?_, k2⟩
          by_cases hm2 : m < tn P
          · have hv4 := (hW.2.1 m hm2).2
            have hge : tv P m ≤ dv x (p + m) := by
              have : ¬ prv x p m < tv P m := fun q => hcase ⟨hm2, q⟩
              rw [epr] at this
              omega
            refine g_iload_n (pc := 28) C dX10_isPerson_28 rfl ?_
            refine g_if_eq (pc := 29) C 154 dX10_isPerson_29 (by decide) (fun c29 => ?_) (fun c29 => ?_)
            · exact absurd c29 (by decide)
            · refine g_aload_n (pc := 32) C dX10_isPerson_32 rfl ?_
              apply gf_X10_82 (pc := 33) C rfl dX10_isPerson_33
              · repeat (first | assumption | exact Cl.s (by assumption) | refine Cl.n (by first | decide | omega) ?_)
              · rfl
              refine g_aload_n (pc := 36) C dX10_isPerson_36 rfl ?_
              apply gf_X10_78 (pc := 37) C rfl dX10_isPerson_37
              · repeat (first | assumption | exact Cl.s (by assumption) | refine Cl.n (by first | decide | omega) ?_)
              · rfl
              refine g_icmp_ge (pc := 40) C 154 dX10_isPerson_40 (by decide) (fun c40 => ?_) (fun c40 => ?_)
              · exact absurd c40 (nI_ge (by omega) (by omega))
              · refine g_aload_n (pc := 43) C dX10_isPerson_43 rfl ?_
                apply gf_X10_7 (pc := 44) C rfl dX10_isPerson_44
                · repeat (first | assumption | exact Cl.s (by assumption) | refine Cl.n (by first | decide | omega) ?_)
                · rfl
                refine g_aload_n (pc := 47) C dX10_isPerson_47 rfl ?_
                apply gf_X10_82 (pc := 48) C rfl dX10_isPerson_48
                · repeat (first | assumption | exact Cl.s (by assumption) | refine Cl.n (by first | decide | omega) ?_)
                · rfl
                apply g_baload (pc := 51) C dX10_isPerson_51
                · repeat (first | assumption | exact Cl.s (by assumption) | refine Cl.n (by first | decide | omega) ?_)
                · exact vp_in_nI (by omega) (by decide)
                rw [nI_clamp (by omega), hf (p + m) (by omega)]
                refine g_i2l (pc := 52) C dX10_isPerson_52 ?_
                refine g_ldc2 (pc := 53) C dX10_isPerson_53 k_X10_85 ?_
                refine g_ldc2 (pc := 56) C dX10_isPerson_56 k_X10_87 ?_
                refine cl_X10_74 (pc := 59) C rfl (r_in _ _ _) dX10_isPerson_59 rfl (Nat.le_of_ble_eq_true rfl) ?_
                refine g_if_eq (pc := 62) C 154 dX10_isPerson_62 (by decide) (fun c62 => ?_) (fun c62 => ?_)
                · exact absurd c62 (by change ¬ nI (b2 (inB (x (p + m)).toInt64 (nI 48).toInt64 (nI 57).toInt64)) = 0; rw [hb]; decide)
                · refine g_iload_n (pc := 65) C dX10_isPerson_65 rfl ?_
                  refine g_aload_n (pc := 66) C dX10_isPerson_66 rfl ?_
                  apply gf_X10_17 (pc := 67) C rfl dX10_isPerson_67
                  · repeat (first | assumption | exact Cl.s (by assumption) | refine Cl.n (by first | decide | omega) ?_)
                  · rfl
                  refine g_iconst (pc := 70) (v := nI 1) C dX10_isPerson_70 (by decide) ?_
                  apply g_iaload (pc := 71) C dX10_isPerson_71
                  · repeat (first | assumption | exact Cl.s (by assumption) | refine Cl.n (by first | decide | omega) ?_)
                  · exact vp_in_nI (n := 1) (by decide) (by decide)
                  rw [nI_clamp (by decide), p2]
                  refine g_icmp_ge (pc := 72) C 102 dX10_isPerson_72 (by decide) (fun c72 => ?_) (fun c72 => ?_)
                  · exact absurd c72 (nI_ge hm2 (by omega))
                  · refine g_aload_n (pc := 75) C dX10_isPerson_75 rfl ?_
                    apply gf_X10_7 (pc := 76) C rfl dX10_isPerson_76
                    · repeat (first | assumption | exact Cl.s (by assumption) | refine Cl.n (by first | decide | omega) ?_)
                    · rfl
                    refine g_aload_n (pc := 79) C dX10_isPerson_79 rfl ?_
                    apply gf_X10_82 (pc := 80) C rfl dX10_isPerson_80
                    · repeat (first | assumption | exact Cl.s (by assumption) | refine Cl.n (by first | decide | omega) ?_)
                    · rfl
                    apply g_baload (pc := 83) C dX10_isPerson_83
                    · repeat (first | assumption | exact Cl.s (by assumption) | refine Cl.n (by first | decide | omega) ?_)
                    · exact vp_in_nI (by omega) (by decide)
                    rw [nI_clamp (by omega), hf (p + m) (by omega), g2]
                    refine g_bipush (pc := 84) (v := nI 48) C dX10_isPerson_84 (by decide) ?_
                    refine g_isub (pc := 86) C dX10_isPerson_86 ?_
                    rw [pk_sub (by omega), show 48 + dv x (p + m) - 48 = dv x (p + m) by omega]
                    refine g_aload_n (pc := 87) C dX10_isPerson_87 rfl ?_
                    apply gf_X10_20 (pc := 88) C rfl dX10_isPerson_88
                    · repeat (first | assumption | exact Cl.s (by assumption) | refine Cl.n (by first | decide | omega) ?_)
                    · rfl
                    refine g_iconst (pc := 91) (v := nI 5) C dX10_isPerson_91 (by decide) ?_
                    refine g_iload_n (pc := 92) C dX10_isPerson_92 rfl ?_
                    refine g_iadd (pc := 93) C dX10_isPerson_93 ?_
                    rw [nI_add]
                    apply g_iaload (pc := 94) C dX10_isPerson_94
                    · repeat (first | assumption | exact Cl.s (by assumption) | refine Cl.n (by first | decide | omega) ?_)
                    · exact vp_in_nI (by omega) (by decide)
                    rw [nI_clamp (by omega), p4 m hm2]
                    refine g_icmp_ge (pc := 95) C 102 dX10_isPerson_95 (by decide) (fun c95 => ?_) (fun c95 => ?_)
                    · refine g_iconst (pc := 102) (v := nI 0) C dX10_isPerson_102 (by decide) ?_
                      refine g_istore_n (pc := 103) C dX10_isPerson_103 (by decide) rfl ?_
                      refine g_iload_n (pc := 104) C dX10_isPerson_104 rfl ?_
                      refine g_if_eq (pc := 105) C 138 dX10_isPerson_105 (by decide) (fun c105 => ?_) (fun c105 => ?_)
                      · refine g_iinc (pc := 138) C dX10_isPerson_138 rfl (by decide) rfl ?_
                        refine g_aload_n (pc := 141) C dX10_isPerson_141 rfl ?_
                        refine g_dup (pc := 142) C dX10_isPerson_142 rfl ?_
                        apply gf_X10_82 (pc := 143) C rfl dX10_isPerson_143
                        · repeat (first | assumption | exact Cl.s (by assumption) | refine Cl.n (by first | decide | omega) ?_)
                        · rfl
                        refine g_iconst (pc := 146) (v := nI 1) C dX10_isPerson_146 (by decide) ?_
                        refine g_iadd (pc := 147) C dX10_isPerson_147 ?_
                        rw [nI_add]
                        apply pf_X10_82 (pc := 148) C rfl dX10_isPerson_148
                        · repeat (first | assumption | exact Cl.s (by assumption) | refine Cl.n (by first | decide | omega) ?_)
                        · rfl
                        · rfl
                        · exact Nat.le_of_ble_eq_true rfl
                        intro hw148
                        refine g_goto (pc := 151) C 28 dX10_isPerson_151 (by decide) ?_
                        refine g_iload_n (pc := 28) C dX10_isPerson_28 rfl ?_
                        refine g_if_eq (pc := 29) C 154 dX10_isPerson_29 (by decide) (fun c29 => ?_) (fun c29 => absurd rfl c29)
                        exact g_to (k1 κ C) ⟨rfl, rfl, rfl, trivial⟩
                      · exact absurd rfl c105
                    · exact absurd (nI_le hge (by omega)) c95
          · refine g_iload_n (pc := 28) C dX10_isPerson_28 rfl ?_
            refine g_if_eq (pc := 29) C 154 dX10_isPerson_29 (by decide) (fun c29 => ?_) (fun c29 => ?_)
            · exact absurd c29 (by decide)
            · refine g_aload_n (pc := 32) C dX10_isPerson_32 rfl ?_
              apply gf_X10_82 (pc := 33) C rfl dX10_isPerson_33
              · repeat (first | assumption | exact Cl.s (by assumption) | refine Cl.n (by first | decide | omega) ?_)
              · rfl
              refine g_aload_n (pc := 36) C dX10_isPerson_36 rfl ?_
              apply gf_X10_78 (pc := 37) C rfl dX10_isPerson_37
              · repeat (first | assumption | exact Cl.s (by assumption) | refine Cl.n (by first | decide | omega) ?_)
              · rfl
              refine g_icmp_ge (pc := 40) C 154 dX10_isPerson_40 (by decide) (fun c40 => ?_) (fun c40 => ?_)
              · exact absurd c40 (nI_ge (by omega) (by omega))
              · refine g_aload_n (pc := 43) C dX10_isPerson_43 rfl ?_
                apply gf_X10_7 (pc := 44) C rfl dX10_isPerson_44
                · repeat (first | assumption | exact Cl.s (by assumption) | refine Cl.n (by first | decide | omega) ?_)
                · rfl
                refine g_aload_n (pc := 47) C dX10_isPerson_47 rfl ?_
                apply gf_X10_82 (pc := 48) C rfl dX10_isPerson_48
                · repeat (first | assumption | exact Cl.s (by assumption) | refine Cl.n (by first | decide | omega) ?_)
                · rfl
                apply g_baload (pc := 51) C dX10_isPerson_51
                · repeat (first | assumption | exact Cl.s (by assumption) | refine Cl.n (by first | decide | omega) ?_)
                · exact vp_in_nI (by omega) (by decide)
                rw [nI_clamp (by omega), hf (p + m) (by omega)]
                refine g_i2l (pc := 52) C dX10_isPerson_52 ?_
                refine g_ldc2 (pc := 53) C dX10_isPerson_53 k_X10_85 ?_
                refine g_ldc2 (pc := 56) C dX10_isPerson_56 k_X10_87 ?_
                refine cl_X10_74 (pc := 59) C rfl (r_in _ _ _) dX10_isPerson_59 rfl (Nat.le_of_ble_eq_true rfl) ?_
                refine g_if_eq (pc := 62) C 154 dX10_isPerson_62 (by decide) (fun c62 => ?_) (fun c62 => ?_)
                · exact absurd c62 (by change ¬ nI (b2 (inB (x (p + m)).toInt64 (nI 48).toInt64 (nI 57).toInt64)) = 0; rw [hb]; decide)
                · refine g_iload_n (pc := 65) C dX10_isPerson_65 rfl ?_
                  refine g_aload_n (pc := 66) C dX10_isPerson_66 rfl ?_
                  apply gf_X10_17 (pc := 67) C rfl dX10_isPerson_67
                  · repeat (first | assumption | exact Cl.s (by assumption) | refine Cl.n (by first | decide | omega) ?_)
                  · rfl
                  refine g_iconst (pc := 70) (v := nI 1) C dX10_isPerson_70 (by decide) ?_
                  apply g_iaload (pc := 71) C dX10_isPerson_71
                  · repeat (first | assumption | exact Cl.s (by assumption) | refine Cl.n (by first | decide | omega) ?_)
                  · exact vp_in_nI (n := 1) (by decide) (by decide)
                  rw [nI_clamp (by decide), p2]
                  refine g_icmp_ge (pc := 72) C 102 dX10_isPerson_72 (by decide) (fun c72 => ?_) (fun c72 => ?_)
                  · refine g_iconst (pc := 102) (v := nI 0) C dX10_isPerson_102 (by decide) ?_
                    refine g_istore_n (pc := 103) C dX10_isPerson_103 (by decide) rfl ?_
                    refine g_iload_n (pc := 104) C dX10_isPerson_104 rfl ?_
                    refine g_if_eq (pc := 105) C 138 dX10_isPerson_105 (by decide) (fun c105 => ?_) (fun c105 => ?_)
                    · refine g_iinc (pc := 138) C dX10_isPerson_138 rfl (by decide) rfl ?_
                      refine g_aload_n (pc := 141) C dX10_isPerson_141 rfl ?_
                      refine g_dup (pc := 142) C dX10_isPerson_142 rfl ?_
                      apply gf_X10_82 (pc := 143) C rfl dX10_isPerson_143
                      · repeat (first | assumption | exact Cl.s (by assumption) | refine Cl.n (by first | decide | omega) ?_)
                      · rfl
                      refine g_iconst (pc := 146) (v := nI 1) C dX10_isPerson_146 (by decide) ?_
                      refine g_iadd (pc := 147) C dX10_isPerson_147 ?_
                      rw [nI_add]
                      apply pf_X10_82 (pc := 148) C rfl dX10_isPerson_148
                      · repeat (first | assumption | exact Cl.s (by assumption) | refine Cl.n (by first | decide | omega) ?_)
                      · rfl
                      · rfl
                      · exact Nat.le_of_ble_eq_true rfl
                      intro hw148
                      refine g_goto (pc := 151) C 28 dX10_isPerson_151 (by decide) ?_
                      refine g_iload_n (pc := 28) C dX10_isPerson_28 rfl ?_
                      refine g_if_eq (pc := 29) C 154 dX10_isPerson_29 (by decide) (fun c29 => ?_) (fun c29 => absurd rfl c29)
                      exact g_to (k1 κ C) ⟨rfl, rfl, rfl, trivial⟩
                    · exact absurd rfl c105
                  · exact absurd (nI_le (by omega) (by omega)) c72
  obtain ⟨h2, h3, h4, h5, h6, h7⟩ := id hA
  by_cases hst : 1 ≤ tn P ∧ tm P < 9
  · obtain ⟨σ', k1, k2⟩ := loop (n - p) 0 (σ1 := σ) (fp1 := fp) hst.1 hst.2 (by omega) (Nat.zero_le _) (fun j hj => absurd hj (Nat.not_lt_zero j)) h0 hA (fun k _ => rfl) (fun j hj => absurd hj (Nat.not_lt_zero j)) fr0
    refine ⟨σ', ?_, k2⟩
    refine Mt.of (by decide +kernel) (Nat.le_of_ble_eq_true rfl) (fun κ C => ?_)
    refine g_aload_n (pc := 0) C dX10_isPerson_0 rfl ?_
    apply gf_X10_17 (pc := 1) C rfl dX10_isPerson_1
    · repeat (first | assumption | exact Cl.s (by assumption) | refine Cl.n (by first | decide | omega) ?_)
    · rfl
    refine g_iconst (pc := 4) (v := nI 1) C dX10_isPerson_4 (by decide) ?_
    apply g_iaload (pc := 5) C dX10_isPerson_5
    · repeat (first | assumption | exact Cl.s (by assumption) | refine Cl.n (by first | decide | omega) ?_)
    · exact vp_in_nI (n := 1) (by decide) (by decide)
    rw [nI_clamp (by decide), p2]
    refine g_if_le (pc := 6) C 24 dX10_isPerson_6 (by decide) (fun c6 => ?_) (fun c6 => ?_)
    · exact absurd c6 (nI_ge (a := 0) (by omega) (by omega))
    · refine g_aload_n (pc := 9) C dX10_isPerson_9 rfl ?_
      apply gf_X10_26 (pc := 10) C rfl dX10_isPerson_10
      · repeat (first | assumption | exact Cl.s (by assumption) | refine Cl.n (by first | decide | omega) ?_)
      · rfl
      refine g_iconst (pc := 13) (v := nI 1) C dX10_isPerson_13 (by decide) ?_
      apply g_iaload (pc := 14) C dX10_isPerson_14
      · repeat (first | assumption | exact Cl.s (by assumption) | refine Cl.n (by first | decide | omega) ?_)
      · exact vp_in_nI (n := 1) (by decide) (by decide)
      rw [nI_clamp (by decide), p3]
      refine g_bipush (pc := 15) (v := nI 9) C dX10_isPerson_15 (by decide) ?_
      refine g_icmp_ge (pc := 17) C 24 dX10_isPerson_17 (by decide) (fun c17 => ?_) (fun c17 => ?_)
      · exact absurd c17 (nI_ge (by omega) (by omega))
      · refine g_iconst (pc := 20) (v := nI 1) C dX10_isPerson_20 (by decide) ?_
        refine g_goto (pc := 21) C 25 dX10_isPerson_21 (by decide) ?_
        refine g_istore_n (pc := 25) C dX10_isPerson_25 (by decide) rfl ?_
        refine g_iconst (pc := 26) (v := nI 0) C dX10_isPerson_26 (by decide) ?_
        refine g_istore_n (pc := 27) C dX10_isPerson_27 (by decide) rfl ?_
        exact g_to (k1 κ C) ⟨rfl, rfl, rfl, trivial⟩
  · have hno : prR x n p P = none := by
      unfold prR prs
      rw [if_neg]
      rintro ⟨q1, q2, q3, q4⟩
      exact hst ⟨q1, q3⟩
    obtain ⟨σ', k1, k2⟩ := exF (σ1 := σ) (q := nI 0) h0 hA (fun k hk => rfl) fr0 hno
    refine ⟨σ', ?_, k2⟩
    refine Mt.of (by decide +kernel) (Nat.le_of_ble_eq_true rfl) (fun κ C => ?_)
    by_cases hz : tn P = 0
    · refine g_aload_n (pc := 0) C dX10_isPerson_0 rfl ?_
      apply gf_X10_17 (pc := 1) C rfl dX10_isPerson_1
      · repeat (first | assumption | exact Cl.s (by assumption) | refine Cl.n (by first | decide | omega) ?_)
      · rfl
      refine g_iconst (pc := 4) (v := nI 1) C dX10_isPerson_4 (by decide) ?_
      apply g_iaload (pc := 5) C dX10_isPerson_5
      · repeat (first | assumption | exact Cl.s (by assumption) | refine Cl.n (by first | decide | omega) ?_)
      · exact vp_in_nI (n := 1) (by decide) (by decide)
      rw [nI_clamp (by decide), p2]
      refine g_if_le (pc := 6) C 24 dX10_isPerson_6 (by decide) (fun c6 => ?_) (fun c6 => ?_)
      · refine g_iconst (pc := 24) (v := nI 0) C dX10_isPerson_24 (by decide) ?_
        refine g_istore_n (pc := 25) C dX10_isPerson_25 (by decide) rfl ?_
        refine g_iconst (pc := 26) (v := nI 0) C dX10_isPerson_26 (by decide) ?_
        refine g_istore_n (pc := 27) C dX10_isPerson_27 (by decide) rfl ?_
        refine g_iload_n (pc := 28) C dX10_isPerson_28 rfl ?_
        refine g_if_eq (pc := 29) C 154 dX10_isPerson_29 (by decide) (fun c29 => ?_) (fun c29 => ?_)
        · exact g_to (k1 κ C) ⟨rfl, rfl, rfl, trivial⟩
        · exact absurd rfl c29
      · exact absurd (by rw [hz]; decide) c6
    · refine g_aload_n (pc := 0) C dX10_isPerson_0 rfl ?_
      apply gf_X10_17 (pc := 1) C rfl dX10_isPerson_1
      · repeat (first | assumption | exact Cl.s (by assumption) | refine Cl.n (by first | decide | omega) ?_)
      · rfl
      refine g_iconst (pc := 4) (v := nI 1) C dX10_isPerson_4 (by decide) ?_
      apply g_iaload (pc := 5) C dX10_isPerson_5
      · repeat (first | assumption | exact Cl.s (by assumption) | refine Cl.n (by first | decide | omega) ?_)
      · exact vp_in_nI (n := 1) (by decide) (by decide)
      rw [nI_clamp (by decide), p2]
      refine g_if_le (pc := 6) C 24 dX10_isPerson_6 (by decide) (fun c6 => ?_) (fun c6 => ?_)
      · exact absurd c6 (nI_ge (a := 0) (by omega) (by omega))
      · refine g_aload_n (pc := 9) C dX10_isPerson_9 rfl ?_
        apply gf_X10_26 (pc := 10) C rfl dX10_isPerson_10
        · repeat (first | assumption | exact Cl.s (by assumption) | refine Cl.n (by first | decide | omega) ?_)
        · rfl
        refine g_iconst (pc := 13) (v := nI 1) C dX10_isPerson_13 (by decide) ?_
        apply g_iaload (pc := 14) C dX10_isPerson_14
        · repeat (first | assumption | exact Cl.s (by assumption) | refine Cl.n (by first | decide | omega) ?_)
        · exact vp_in_nI (n := 1) (by decide) (by decide)
        rw [nI_clamp (by decide), p3]
        refine g_bipush (pc := 15) (v := nI 9) C dX10_isPerson_15 (by decide) ?_
        refine g_icmp_ge (pc := 17) C 24 dX10_isPerson_17 (by decide) (fun c17 => ?_) (fun c17 => ?_)
        · refine g_iconst (pc := 24) (v := nI 0) C dX10_isPerson_24 (by decide) ?_
          refine g_istore_n (pc := 25) C dX10_isPerson_25 (by decide) rfl ?_
          refine g_iconst (pc := 26) (v := nI 0) C dX10_isPerson_26 (by decide) ?_
          refine g_istore_n (pc := 27) C dX10_isPerson_27 (by decide) rfl ?_
          refine g_iload_n (pc := 28) C dX10_isPerson_28 rfl ?_
          refine g_if_eq (pc := 29) C 154 dX10_isPerson_29 (by decide) (fun c29 => ?_) (fun c29 => ?_)
          · exact g_to (k1 κ C) ⟨rfl, rfl, rfl, trivial⟩
          · exact absurd rfl c29
        · exact absurd (nI_le (by omega) (by omega)) c17
end RP3

