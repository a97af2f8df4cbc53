theorem lo_t1 : ∀ p, p < 9 → ∀ u, u < 512 → (nI u ^^^ (-1 : Int32)) &&& nI (1 <<< p) = if u.testBit p then nI 0 else nI (1 <<< p) := by decide +kernel
theorem lo_t2 : ∀ p, p < 9 → ∀ s, s < 512 → s &&& (1 <<< p) = if s.testBit p then 1 <<< p else 0 := by decide +kernel
theorem lo_t3 : ∀ p, p < 9 → nI (1 <<< p) ≠ 0 := by decide
theorem tb_clr : ∀ i, i < 9 → ∀ s, s < 512 → ∀ j, j < 9 → (clr s i).testBit j = (s.testBit j && decide (j ≠ i)) := by decide +kernel
theorem lo_tq {p set us : Nat} (hp : p < 9) (hs : set < 512) (hu : us < 512) : nI set &&& (nI us ^^^ (-1 : Int32)) &&& nI (1 <<< p) = 0 ↔ (set.testBit p && !us.testBit p) = false := by
  rw [Int32.and_assoc, lo_t1 p hp us hu]
  cases h1 : us.testBit p
  · simp only [Bool.false_eq_true, if_false]
    rw [nx_and, lo_t2 p hp set hs]
    cases h2 : set.testBit p
    · simp
      rfl
    · simp
      exact lo_t3 p hp
  · simp only [if_true]
    rw [nx_and]
    simp
    rfl
def lInv (set rest us : Nat) : Prop := us < 512 ∧ ∀ i, i < 9 → rest.testBit i = (set.testBit i && !us.testBit i)
theorem lInv_dn {set rest us p : Nat} (h : lInv set rest us) (hr : rest < 512) (hp : p < 9) (hb : rest.testBit p = true) : lInv set (clr rest p) (us ||| 1 <<< p) := by
  refine ⟨Nat.or_lt_two_pow (n := 9) h.1 (one_shl_lt hp), fun i hi => ?_⟩
  rw [tb_clr p hp rest hr i hi, Nat.testBit_or, tb_one, h.2 i hi]
  by_cases e : i = p
  · simp [e]
  · have e' : ¬ p = i := fun q => e q.symm
    simp [e, e']
theorem lInv_up {set rest us p : Nat} (h : lInv set (clr rest p) us) (hr : rest < 512) (hp : p < 9) (hb : rest.testBit p = true) (hsb : set.testBit p = true) : lInv set rest (clr us p) := by
  refine ⟨clr_512 h.1, fun i hi => ?_⟩
  have := h.2 i hi
  rw [tb_clr p hp rest hr i hi] at this
  rw [tb_clr p hp us h.1 i hi]
  by_cases e : i = p
  · subst e
    simp [hb, hsb]
  · simp [e] at this ⊢
    exact this
theorem dF_9 {T : TS} (hm : tm T ≤ 9) : ∀ c rest L d ws dep (B : BS), rest < 512 → dep + many rest ≤ 9 → B.1 ≤ 9 → (dF T c rest L d ws dep B).1 ≤ 9
  | 0, _, _, _, _, _, B, _, _, hB => hB
  | c + 1, rest, L, d, ws, dep, B, hr, hd, hB => by
    have : ∀ e p (B : BS), p + e = tm T → B.1 ≤ 9 → (dW T (dF T c) rest L d ws dep e p B).1 ≤ 9 := by
      intro e
      induction e with
      | zero => intro p B _ hB; exact hB
      | succ e ih =>
        intro p B hp hB
        unfold dW
        split
        · rename_i q
          refine ih (p + 1) _ (by omega) (dF_9 hm c _ _ _ _ _ _ (clr_512 hr) ?_ ?_)
          · have := clr_many p (by omega) rest hr q.1; omega
          · have := clr_many p (by omega) rest hr q.1
            split
            · show dep + 1 ≤ 9; omega
            · exact hB
        · exact ih (p + 1) B (by omega) hB
    exact this (tm T) 0 B (by omega) hB
def LoE (G : GG) (σ : WW) (Bf : BS) (σ1 : WW) (pc : Nat) (lv : List (Nat × Value)) : Prop := ∃ σ', (∀ κ, Cx G mX10_longestOf κ → Go G mX10_longestOf κ (some (.int (nI Bf.1))) σ' σ1 pc lv []) ∧ (∃ a b c, Cl G σ' 11 (iA G 10 a) ∧ Cl G σ' 12 (iA G 11 b) ∧ Cl G σ' 13 (iA G 9 c) ∧ ∀ k, k < Bf.1 → c k = Bf.2 k) ∧ Fr σ σ' [11, 12, 13]
def LoS (G : GG) (σ σ1 : WW) (fw fd fb : Nat → Int32) : Prop := Cl G σ1 11 (iA G 10 fw) ∧ Cl G σ1 12 (iA G 11 fd) ∧ Cl G σ1 13 (iA G 9 fb) ∧ Fr σ σ1 [11, 12, 13]
abbrev lvL (G : GG) (set : Nat) (most dep : Nat) (us : Nat) : List (Nat × Value) := [(0, .ref (ga G 0)), (1, .int (nI set)), (2, .int (nI most)), (3, .int (nI dep)), (4, .int (nI us))]
section RL2
variable {G : GG} {σ : WW} {T : TS} {h : HH} {len at_ kept done rm : Int32}
/-- from the head to the question -/
theorem lo_108 (h0 : Cl G σ 0 (cRef G len at_ kept done rm)) (hT : QT G σ T) {Bf : BS} {σ1 : WW} {fw fd fb : Nat → Int32} (hS : LoS G σ σ1 fw fd fb) {set most dep us p L : Nat} (hp : p < tm T) (hdep : dep ≤ 9) (hw : fw dep = nI p) (hL0 : dep = 0 → L = 0) (hL1 : 0 < dep → 1 ≤ L ∧ L ≤ tm T ∧ fw (dep - 1) = nI (L - 1)) (k : LoE G σ Bf σ1 108 [(0, .ref (ga G 0)), (1, .int (nI set)), (2, .int (nI most)), (3, .int (nI dep)), (4, .int (nI us)), (5, .int (nI p)), (6, .int (nI (uL T L p)))]) : LoE G σ Bf σ1 21 (lvL G set most dep us) := by
  obtain ⟨y11, y12, y13, yF⟩ := hS
  have y0 := h0.fr yF (by decide)
  have hT1 := hT.fr yF (by decide) (by decide) (by decide) (by decide) (by decide) (by decide)
  obtain ⟨ft, fn, fv, fl, fm, fp, h2, h3, h4, h5, h6, h7, hW, -, e0, e1, e2, e3, hv, hl, hp9⟩ := id hT1
  have hm := hW.2.2.2.2.1
  obtain ⟨σ', k1, k2⟩ := k
  refine ⟨σ', fun κ C => ?_, k2⟩
  have k1 := k1 κ C
  by_cases hd0 : dep = 0
  · subst hd0
    rw [show uL T L p = 0 by unfold uL; rw [if_pos (hL0 rfl)]] at k1
    refine g_iload_n (pc := 21) C dX10_longestOf_21 rfl ?_
    refine g_if_lt (pc := 22) C 241 dX10_longestOf_22 (by decide) (fun c22 => ?_) (fun c22 => ?_)
    · exact absurd c22 (by decide)
    · refine g_aload_n (pc := 25) C dX10_longestOf_25 rfl ?_
      apply gf_X10_41 (pc := 26) C rfl dX10_longestOf_26
      · repeat (first | assumption | exact Cl.s (by assumption) | refine Cl.n (by first | decide | omega) ?_)
      · rfl
      refine g_iload_n (pc := 29) C dX10_longestOf_29 rfl ?_
      apply g_iaload (pc := 30) C dX10_longestOf_30
      · repeat (first | assumption | exact Cl.s (by assumption) | refine Cl.n (by first | decide | omega) ?_)
      · exact vp_in_nI (n := 0) (by decide) (by decide)
      rw [nI_clamp (by decide), hw]
      refine g_istore (pc := 31) C dX10_longestOf_31 (by decide) rfl ?_
      refine g_iload (pc := 33) C dX10_longestOf_33 rfl ?_
      refine g_aload_n (pc := 35) C dX10_longestOf_35 rfl ?_
      apply gf_X10_26 (pc := 36) C rfl dX10_longestOf_36
      · repeat (first | assumption | exact Cl.s (by assumption) | refine Cl.n (by first | decide | omega) ?_)
      · rfl
      refine g_iconst (pc := 39) (v := nI 0) C dX10_longestOf_39 (by decide) ?_
      apply g_iaload (pc := 40) C dX10_longestOf_40
      · repeat (first | assumption | exact Cl.s (by assumption) | refine Cl.n (by first | decide | omega) ?_)
      · exact vp_in_nI (n := 0) (by decide) (by decide)
      rw [nI_clamp (by decide), e3]
      refine g_icmp_lt (pc := 41) C 79 dX10_longestOf_41 (by decide) (fun c41 => ?_) (fun c41 => ?_)
      · refine g_iload_n (pc := 79) C dX10_longestOf_79 rfl ?_
        refine g_if_nE (pc := 80) C 87 dX10_longestOf_80 (by decide) (fun c80 => ?_) (fun c80 => ?_)
        · exact absurd rfl c80
        · refine g_iconst (pc := 83) (v := nI 0) C dX10_longestOf_83 (by decide) ?_
          refine g_goto (pc := 84) C 106 dX10_longestOf_84 (by decide) ?_
          refine g_istore (pc := 106) C dX10_longestOf_106 (by decide) rfl ?_
          exact g_to k1 ⟨rfl, rfl, rfl, rfl, rfl, rfl, rfl, trivial⟩
      · exact absurd (nI_lt hp (by omega)) c41
  · obtain ⟨l1, l2, l3⟩ := hL1 (by omega)
    have eu : uL T L p = UU T p (L - 1) &&& seen T := by unfold uL; rw [if_neg (by omega), UU_comm]
    rw [eu] at k1
    refine g_iload_n (pc := 21) C dX10_longestOf_21 rfl ?_
    refine g_if_lt (pc := 22) C 241 dX10_longestOf_22 (by decide) (fun c22 => ?_) (fun c22 => ?_)
    · exact absurd c22 (nI_pos (by omega))
    · refine g_aload_n (pc := 25) C dX10_longestOf_25 rfl ?_
      apply gf_X10_41 (pc := 26) C rfl dX10_longestOf_26
      · repeat (first | assumption | exact Cl.s (by assumption) | refine Cl.n (by first | decide | omega) ?_)
      · rfl
      refine g_iload_n (pc := 29) C dX10_longestOf_29 rfl ?_
      apply g_iaload (pc := 30) C dX10_longestOf_30
      · repeat (first | assumption | exact Cl.s (by assumption) | refine Cl.n (by first | decide | omega) ?_)
      · exact vp_in_nI (by omega) (by decide)
      rw [nI_clamp (by omega), hw]
      refine g_istore (pc := 31) C dX10_longestOf_31 (by decide) rfl ?_
      refine g_iload (pc := 33) C dX10_longestOf_33 rfl ?_
      refine g_aload_n (pc := 35) C dX10_longestOf_35 rfl ?_
      apply gf_X10_26 (pc := 36) C rfl dX10_longestOf_36
      · repeat (first | assumption | exact Cl.s (by assumption) | refine Cl.n (by first | decide | omega) ?_)
      · rfl
      refine g_iconst (pc := 39) (v := nI 0) C dX10_longestOf_39 (by decide) ?_
      apply g_iaload (pc := 40) C dX10_longestOf_40
      · repeat (first | assumption | exact Cl.s (by assumption) | refine Cl.n (by first | decide | omega) ?_)
      · exact vp_in_nI (n := 0) (by decide) (by decide)
      rw [nI_clamp (by decide), e3]
      refine g_icmp_lt (pc := 41) C 79 dX10_longestOf_41 (by decide) (fun c41 => ?_) (fun c41 => ?_)
      · refine g_iload_n (pc := 79) C dX10_longestOf_79 rfl ?_
        refine g_if_nE (pc := 80) C 87 dX10_longestOf_80 (by decide) (fun c80 => ?_) (fun c80 => ?_)
        · refine g_aload_n (pc := 87) C dX10_longestOf_87 rfl ?_
          refine g_iload (pc := 88) C dX10_longestOf_88 rfl ?_
          refine g_aload_n (pc := 90) C dX10_longestOf_90 rfl ?_
          apply gf_X10_41 (pc := 91) C rfl dX10_longestOf_91
          · repeat (first | assumption | exact Cl.s (by assumption) | refine Cl.n (by first | decide | omega) ?_)
          · rfl
          refine g_iload_n (pc := 94) C dX10_longestOf_94 rfl ?_
          refine g_iconst (pc := 95) (v := nI 1) C dX10_longestOf_95 (by decide) ?_
          refine g_isub (pc := 96) C dX10_longestOf_96 ?_
          rw [pk_sub (by omega)]
          apply g_iaload (pc := 97) C dX10_longestOf_97
          · repeat (first | assumption | exact Cl.s (by assumption) | refine Cl.n (by first | decide | omega) ?_)
          · exact vp_in_nI (by omega) (by decide)
          rw [nI_clamp (by omega), l3]
          apply cl_X10_136 (pc := 98) C rfl (r_unlike y0 hT1 hp (by omega)) dX10_longestOf_98
          · repeat (first | assumption | exact Cl.s (by assumption) | refine Cl.n (by first | decide | omega) ?_)
          · rfl
          · exact Nat.le_of_ble_eq_true rfl
          refine g_aload_n (pc := 101) C dX10_longestOf_101 rfl ?_
          apply cl_X10_140 (pc := 102) C rfl (r_seen y0 hT1) dX10_longestOf_102
          · repeat (first | assumption | exact Cl.s (by assumption) | refine Cl.n (by first | decide | omega) ?_)
          · rfl
          · exact Nat.le_of_ble_eq_true rfl
          refine g_iand (pc := 105) C dX10_longestOf_105 ?_
          rw [nx_and]
          refine g_istore (pc := 106) C dX10_longestOf_106 (by decide) rfl ?_
          exact g_to k1 ⟨rfl, rfl, rfl, rfl, rfl, rfl, rfl, trivial⟩
        · exact absurd ((nI_eq (b := 0) (by omega) (by decide)).mp c80) hd0
      · exact absurd (nI_lt hp (by omega)) c41
/-- the question: no -/
theorem lo_158 (h0 : Cl G σ 0 (cRef G len at_ kept done rm)) (hT : QT G σ T) {Bf : BS} {σ1 : WW} {fw fd fb : Nat → Int32} (hS : LoS G σ σ1 fw fd fb) {set rest most dep us p L d : Nat} (hs : set < 512) (hI : lInv set rest us) (hp : p < tm T) (hdep : dep ≤ 9) (hw : fw dep = nI p) (hfd : fd dep = nI d) (hd32 : d < 32) (hL0 : dep = 0 ↔ L = 0) (hno : ¬ (rest.testBit p = true ∧ lLets T L d p = true)) (k : ∀ σ2 fw2, LoS G σ σ2 fw2 fd fb → (∀ k, k < dep → fw2 k = fw k) → fw2 dep = nI (p + 1) → LoE G σ Bf σ2 21 (lvL G set most dep us)) : LoE G σ Bf σ1 108 [(0, .ref (ga G 0)), (1, .int (nI set)), (2, .int (nI most)), (3, .int (nI dep)), (4, .int (nI us)), (5, .int (nI p)), (6, .int (nI (uL T L p)))] := by
  obtain ⟨y11, y12, y13, yF⟩ := id hS
  have y0 := h0.fr yF (by decide)
  have hT1 := hT.fr yF (by decide) (by decide) (by decide) (by decide) (by decide) (by decide)
  obtain ⟨ft, fn, fv, fl, fm, fp, h2, h3, h4, h5, h6, h7, hW, -, e0, e1, e2, e3, hv, hl, hp9⟩ := id hT1
  have hm := hW.2.2.2.2.1
  have hlaw := hW.2.2.2.2.2.2.1
  have hu := uL_lt T L p hW.1
  obtain ⟨σ', k1, k2⟩ := k (va_up σ1 11 (iA G 10 (upd fw dep (nI (p + 1))))) (upd fw dep (nI (p + 1))) ⟨Cl.s y11, Cl.n (by decide) y12, Cl.n (by decide) y13, fr3 yF (by decide)⟩ (fun k hk => pk_un (by omega)) pk_us
  refine ⟨σ', fun κ C => ?_, k2⟩
  have k1 := k1 κ C
  have tq := lo_tq (p := p) (by omega) hs hI.1
  rw [← hI.2 p (by omega)] at tq
  have k150 : Go G mX10_longestOf κ (some (.int (nI Bf.1))) σ' σ1 150 [(0, .ref (ga G 0)), (1, .int (nI set)), (2, .int (nI most)), (3, .int (nI dep)), (4, .int (nI us)), (5, .int (nI p)), (6, .int (nI (uL T L p)))] [] := by
    refine g_iconst (pc := 150) (v := nI 0) C dX10_longestOf_150 (by decide) ?_
    refine g_istore (pc := 151) C dX10_longestOf_151 (by decide) rfl ?_
    refine g_iload (pc := 153) C dX10_longestOf_153 rfl ?_
    refine g_if_nE (pc := 155) C 171 dX10_longestOf_155 (by decide) (fun c155 => ?_) (fun c155 => ?_)
    · exact absurd rfl c155
    · refine g_aload_n (pc := 158) C dX10_longestOf_158 rfl ?_
      apply gf_X10_41 (pc := 159) C rfl dX10_longestOf_159
      · repeat (first | assumption | exact Cl.s (by assumption) | refine Cl.n (by first | decide | omega) ?_)
      · rfl
      refine g_iload_n (pc := 162) C dX10_longestOf_162 rfl ?_
      refine g_dup2 (pc := 163) C dX10_longestOf_163 rfl rfl ?_
      apply g_iaload (pc := 164) C dX10_longestOf_164
      · repeat (first | assumption | exact Cl.s (by assumption) | refine Cl.n (by first | decide | omega) ?_)
      · exact vp_in_nI (by omega) (by decide)
      rw [nI_clamp (by omega), hw]
      refine g_iconst (pc := 165) (v := nI 1) C dX10_longestOf_165 (by decide) ?_
      refine g_iadd (pc := 166) C dX10_longestOf_166 ?_
      rw [nI_add]
      apply g_iastore (pc := 167) C dX10_longestOf_167
      · repeat (first | assumption | exact Cl.s (by assumption) | refine Cl.n (by first | decide | omega) ?_)
      · exact vp_in_nI (by omega) (by decide)
      intro hw167
      rw [nI_clamp (by omega)]
      refine g_goto (pc := 168) C 21 dX10_longestOf_168 (by decide) ?_
      exact g_to k1 ⟨rfl, rfl, rfl, rfl, rfl, trivial⟩
  by_cases hb : rest.testBit p = true
  · have hl' : lLets T L d p = false := by
      cases z : lLets T L d p
      · rfl
      · exact absurd ⟨hb, z⟩ hno
    have hL : L ≠ 0 := fun z => by rw [z] at hl'; simp [lLets] at hl'
    have hps : ps (tl T) (uL T L p) d = false := by simpa [lLets, hL] using hl'
    refine g_iload_n (pc := 108) C dX10_longestOf_108 rfl ?_
    refine g_iload (pc := 109) C dX10_longestOf_109 rfl ?_
    refine g_iconst (pc := 111) (v := -1) C dX10_longestOf_111 (by decide) ?_
    refine g_ixor (pc := 112) C dX10_longestOf_112 ?_
    refine g_iand (pc := 113) C dX10_longestOf_113 ?_
    refine g_iconst (pc := 114) (v := nI 1) C dX10_longestOf_114 (by decide) ?_
    refine g_iload (pc := 115) C dX10_longestOf_115 rfl ?_
    refine g_ishl (pc := 117) C dX10_longestOf_117 ?_
    rw [nx_shl _ (by omega)]
    refine g_iand (pc := 118) C dX10_longestOf_118 ?_
    refine g_if_eq (pc := 119) C 150 dX10_longestOf_119 (by decide) (fun c119 => ?_) (fun c119 => ?_)
    · exact absurd (tq.mp c119) (by rw [hb]; decide)
    · refine g_iload_n (pc := 122) C dX10_longestOf_122 rfl ?_
      refine g_if_eq (pc := 123) C 146 dX10_longestOf_123 (by decide) (fun c123 => ?_) (fun c123 => ?_)
      · exact absurd ((nI_eq (b := 0) (by omega) (by decide)).mp c123) (fun z => hL (hL0.mp z))
      · refine g_aload_n (pc := 126) C dX10_longestOf_126 rfl ?_
        apply gf_X10_13 (pc := 127) C rfl dX10_longestOf_127
        · repeat (first | assumption | exact Cl.s (by assumption) | refine Cl.n (by first | decide | omega) ?_)
        · rfl
        refine g_iconst (pc := 130) (v := nI 0) C dX10_longestOf_130 (by decide) ?_
        apply g_iaload (pc := 131) C dX10_longestOf_131
        · repeat (first | assumption | exact Cl.s (by assumption) | refine Cl.n (by first | decide | omega) ?_)
        · exact vp_in_nI (n := 0) (by decide) (by decide)
        rw [nI_clamp (by decide), e0]
        refine g_iload (pc := 132) C dX10_longestOf_132 rfl ?_
        refine g_aload_n (pc := 134) C dX10_longestOf_134 rfl ?_
        apply gf_X10_44 (pc := 135) C rfl dX10_longestOf_135
        · repeat (first | assumption | exact Cl.s (by assumption) | refine Cl.n (by first | decide | omega) ?_)
        · rfl
        refine g_iload_n (pc := 138) C dX10_longestOf_138 rfl ?_
        apply g_iaload (pc := 139) C dX10_longestOf_139
        · repeat (first | assumption | exact Cl.s (by assumption) | refine Cl.n (by first | decide | omega) ?_)
        · exact vp_in_nI (by omega) (by decide)
        rw [nI_clamp (by omega), hfd]
        refine cl_X10_146 (pc := 140) C rfl (r_passes hlaw (by omega) (by omega)) dX10_longestOf_140 rfl (Nat.le_of_ble_eq_true rfl) ?_
        refine g_if_eq (pc := 143) C 150 dX10_longestOf_143 (by decide) (fun c143 => ?_) (fun c143 => ?_)
        · exact g_to k150 ⟨rfl, rfl, rfl, rfl, rfl, rfl, rfl, trivial⟩
        · exact absurd (b2_0.mpr hps) c143
  · refine g_iload_n (pc := 108) C dX10_longestOf_108 rfl ?_
    refine g_iload (pc := 109) C dX10_longestOf_109 rfl ?_
    refine g_iconst (pc := 111) (v := -1) C dX10_longestOf_111 (by decide) ?_
    refine g_ixor (pc := 112) C dX10_longestOf_112 ?_
    refine g_iand (pc := 113) C dX10_longestOf_113 ?_
    refine g_iconst (pc := 114) (v := nI 1) C dX10_longestOf_114 (by decide) ?_
    refine g_iload (pc := 115) C dX10_longestOf_115 rfl ?_
    refine g_ishl (pc := 117) C dX10_longestOf_117 ?_
    rw [nx_shl _ (by omega)]
    refine g_iand (pc := 118) C dX10_longestOf_118 ?_
    refine g_if_eq (pc := 119) C 150 dX10_longestOf_119 (by decide) (fun c119 => ?_) (fun c119 => ?_)
    · exact g_to k150 ⟨rfl, rfl, rfl, rfl, rfl, rfl, rfl, trivial⟩
    · exact absurd (tq.mpr (by simpa using hb)) c119
end RL2

