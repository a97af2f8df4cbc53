/-! proof and mustSee of the reference -/
def al3 (T : TS) : Nat → Bool
  | 0 => true
  | t + 1 => al3 T t && decide (tv T t < 3)
def od (T : TS) : Nat → Nat := sumb (fun k => sumb (tp T k) (tn T) % 2)
def A0 (T : TS) : Bool := tl T == 0 && seen T == 1 <<< tn T - 1
theorem al3_t (T : TS) : ∀ n, al3 T n = true ↔ ∀ t, t < n → tv T t < 3
  | 0 => by simp [al3]
  | n + 1 => by
    unfold al3
    rw [Bool.and_eq_true, al3_t T n, decide_eq_true_iff]
    constructor
    · intro ⟨a, b⟩ t ht
      by_cases e : t = n
      · rw [e]; exact b
      · exact a t (by omega)
    · intro a
      exact ⟨fun t ht => a t (by omega), a n (by omega)⟩
theorem al3_more (T : TS) : al3 T (tn T) = (moreT T == 0) := by
  have key : al3 T (tn T) = true ↔ (moreT T == 0) = true := by
    rw [al3_t, beq_iff_eq]
    constructor
    · intro a
      refine Nat.eq_of_testBit_eq (fun j => ?_)
      rw [moreT, tb_bits, Nat.zero_testBit]
      by_cases e : j < tn T
      · have := a j e
        simp [Nat.not_lt.mpr (show tv T j ≤ 2 by omega)]
      · simp [e]
    · intro a t ht
      have h2 : (moreT T).testBit t = false := by rw [a, Nat.zero_testBit]
      rw [moreT, tb_bits] at h2
      simp [ht] at h2
      omega
  cases h1 : al3 T (tn T) <;> cases h2 : (moreT T == 0) <;> simp_all
theorem par_lkn {v : Nat → Nat} {n : Nat} (hn : n ≤ 5) : many (lkn v n &&& 31) % 2 = sumb v n % 2 := by
  have e : lkn v n &&& 31 = bits (fun t => (v t).testBit 0) n := by
    refine Nat.eq_of_testBit_eq (fun j => ?_)
    rw [Nat.testBit_and, tb_31, tb_lkn v n hn, tb_bits]
    by_cases h5 : j < 5
    · simp [h5, Nat.not_le.mpr h5]
    · have : ¬ j < n := by omega
      simp [h5, this]
  rw [e, many_bits _ (by omega)]
  clear e
  induction n with
  | zero => rfl
  | succ n ih =>
    have := ih (by omega)
    unfold sumb
    have hb : b2 ((v n).testBit 0) = v n % 2 := by
      rw [Nat.testBit_zero]
      rcases Nat.mod_two_eq_zero_or_one (v n) with q | q <;> simp [q, b2]
    simp only [hb]
    omega
theorem oe_od (T : TS) (hn : tn T ≤ 5) : ∀ i, oe T i = Int32.ofInt (2 * (od T i : Int) - (i : Int))
  | 0 => by rfl
  | i + 1 => by
    have ih := oe_od T hn i
    unfold oe
    rw [ih, par_lkn hn]
    have eo : od T (i + 1) = od T i + sumb (tp T i) (tn T) % 2 := rfl
    rw [eo]
    rcases Nat.mod_two_eq_zero_or_one (sumb (tp T i) (tn T)) with q | q
    · rw [q, if_neg (by decide), show (-1 : Int32) = Int32.ofInt (-1) from rfl, ← Int32.ofInt_add]
      congr 1
      simp only [Int.natCast_add]
      omega
    · rw [q, if_pos rfl, show nI 1 = Int32.ofInt 1 from rfl, ← Int32.ofInt_add]
      congr 1
      simp only [Int.natCast_add]
      omega
theorem od_le (T : TS) : ∀ i, od T i ≤ i
  | 0 => Nat.le_refl 0
  | i + 1 => by
    have := od_le T i
    have eo : od T (i + 1) = od T i + sumb (tp T i) (tn T) % 2 := rfl
    rw [eo]
    omega
theorem apart_d : ∀ m, m < 10 → ∀ o, o < 10 → nI 2 * nI o - nI m = Int32.ofInt (2 * (o : Int) - (m : Int)) := by decide +kernel
theorem apart_e : ∀ m, m < 10 → ∀ o, o < 10 → decide (absI (nI 2 * nI o - nI m) < 2) = !(decide (nI 1 < nI 2 * nI o - nI m) || decide (nI 2 * nI o - nI m < -1)) := by decide +kernel
theorem proof_eq {T : TS} (hW : TW T) : proofF T = nI (b2 ((A0 T && al3 T (tn T)) && (decide (nI 1 < nI 2 * nI (od T (tm T)) - nI (tm T)) || decide (nI 2 * nI (od T (tm T)) - nI (tm T) < -1)))) := by
  have hm := hW.2.2.2.2.1
  have ho := od_le T (tm T)
  unfold proofF
  rw [oe_od T hW.1, ← apart_d _ (by omega) _ (by omega), apart_e _ (by omega) _ (by omega), Bool.not_not, al3_more]
  congr 2
  unfold proofC A0
  cases tl T == 0 <;> cases seen T == 1 <<< tn T - 1 <;> rfl
theorem b2_0 {b : Bool} : nI (b2 b) = 0 ↔ b = false := by cases b <;> decide
theorem b2_n0 {b : Bool} : ¬ nI (b2 b) = 0 ↔ b = true := by cases b <;> decide
section REF6
variable {G : GG} {σ : WW} {T : TS} {h : HH} {len at_ rm : Int32}
theorem q_proof {kept done : Int32} (h0 : Cl G σ 0 (cRef G len at_ kept done rm)) (hT : QT G σ T) : Mt G mX10_proof [.ref (ga G 0)] σ (some (.int (proofF T))) σ := by
  rw [proof_eq hT.w.1]
  have hT' := hT
  obtain ⟨ft, fn, fv, fl, fm, fp, h2, h3, h4, h5, h6, h7, hW, h1, e0, e1, e2, e3, hv, hl, hp⟩ := hT
  have hlaw := hW.2.2.2.2.2.2.1
  have hm := hW.2.2.2.2.1
  have hn := hW.1
  have hse : seen T < 32 := Nat.lt_of_le_of_lt Nat.and_le_left (by have := hW.2.2.2.2.2.2.2; omega)
  have ha : 1 <<< tn T ≤ 32 ∧ 1 ≤ 1 <<< tn T := by
    rw [Nat.shiftLeft_eq, Nat.one_mul]
    exact ⟨Nat.pow_le_pow_right (n := 2) (by decide) hn, Nat.one_le_two_pow⟩
  refine Mt.of (by decide +kernel) (Nat.le_of_ble_eq_true rfl) (fun κ C => ?_)
  generalize hr : (some (Value.int (nI (b2 ((A0 T && al3 T (tn T)) && (decide (nI 1 < nI 2 * nI (od T (tm T)) - nI (tm T)) || decide (nI 2 * nI (od T (tm T)) - nI (tm T) < -1))))))) = r
  have fin : Go G mX10_proof κ r σ σ 136 [(0, .ref (ga G 0)), (1, .int (nI (b2 (A0 T && al3 T (tn T))))), (2, .int (nI (od T (tm T))))] [] := by
    refine g_iconst (pc := 136) (v := nI 2) C dX10_proof_136 (by decide) ?_
    refine g_iload_n (pc := 137) C dX10_proof_137 rfl ?_
    refine g_imul (pc := 138) C dX10_proof_138 ?_
    refine g_aload_n (pc := 139) C dX10_proof_139 rfl ?_
    apply gf_X10_26 (pc := 140) C rfl dX10_proof_140
    · repeat (first | assumption | exact Cl.s (by assumption) | refine Cl.n (by first | decide | omega) ?_)
    · rfl
    refine g_iconst (pc := 143) (v := nI 0) C dX10_proof_143 (by decide) ?_
    apply g_iaload (pc := 144) C dX10_proof_144
    · repeat (first | assumption | exact Cl.s (by assumption) | refine Cl.n (by first | decide | omega) ?_)
    · exact vp_in_nI (n := 0) (by decide) (by decide)
    rw [nI_clamp (by decide), e3]
    refine g_isub (pc := 145) C dX10_proof_145 ?_
    refine g_istore_n (pc := 146) C dX10_proof_146 (by decide) rfl ?_
    refine g_iload_n (pc := 147) C dX10_proof_147 rfl ?_
    refine g_if_eq (pc := 148) C 165 dX10_proof_148 (by decide) (fun c148 => ?_) (fun c148 => ?_)
    · refine g_iconst (pc := 165) (v := nI 0) C dX10_proof_165 (by decide) ?_
      exact g_ireturn (pc := 166) C dX10_proof_166 rfl (by first | (rw [← hr, b2_0.mp c148]; rfl) | (rw [← hr, b2_n0.mp c148, decide_eq_true (show nI 1 < nI 2 * nI (od T (tm T)) - nI (tm T) from c153)]; rfl) | (rw [← hr, b2_n0.mp c148, decide_eq_true (show nI 2 * nI (od T (tm T)) - nI (tm T) < -1 from Int32.not_le.mp c158)]; simp [b2]; done) | (rw [← hr, b2_n0.mp c148, decide_eq_false c153, decide_eq_false (show ¬ nI 2 * nI (od T (tm T)) - nI (tm T) < -1 from Int32.not_lt.mpr c158)]; rfl)) (rfl)
    · refine g_iload_n (pc := 151) C dX10_proof_151 rfl ?_
      refine g_iconst (pc := 152) (v := nI 1) C dX10_proof_152 (by decide) ?_
      refine g_icmp_gt (pc := 153) C 161 dX10_proof_153 (by decide) (fun c153 => ?_) (fun c153 => ?_)
      · refine g_iconst (pc := 161) (v := nI 1) C dX10_proof_161 (by decide) ?_
        refine g_goto (pc := 162) C 166 dX10_proof_162 (by decide) ?_
        exact g_ireturn (pc := 166) C dX10_proof_166 rfl (by first | (rw [← hr, b2_0.mp c148]; rfl) | (rw [← hr, b2_n0.mp c148, decide_eq_true (show nI 1 < nI 2 * nI (od T (tm T)) - nI (tm T) from c153)]; rfl) | (rw [← hr, b2_n0.mp c148, decide_eq_true (show nI 2 * nI (od T (tm T)) - nI (tm T) < -1 from Int32.not_le.mp c158)]; simp [b2]; done) | (rw [← hr, b2_n0.mp c148, decide_eq_false c153, decide_eq_false (show ¬ nI 2 * nI (od T (tm T)) - nI (tm T) < -1 from Int32.not_lt.mpr c158)]; rfl)) (rfl)
      · refine g_iload_n (pc := 156) C dX10_proof_156 rfl ?_
        refine g_iconst (pc := 157) (v := -1) C dX10_proof_157 (by decide) ?_
        refine g_icmp_ge (pc := 158) C 165 dX10_proof_158 (by decide) (fun c158 => ?_) (fun c158 => ?_)
        · refine g_iconst (pc := 165) (v := nI 0) C dX10_proof_165 (by decide) ?_
          exact g_ireturn (pc := 166) C dX10_proof_166 rfl (by first | (rw [← hr, b2_0.mp c148]; rfl) | (rw [← hr, b2_n0.mp c148, decide_eq_true (show nI 1 < nI 2 * nI (od T (tm T)) - nI (tm T) from c153)]; rfl) | (rw [← hr, b2_n0.mp c148, decide_eq_true (show nI 2 * nI (od T (tm T)) - nI (tm T) < -1 from Int32.not_le.mp c158)]; simp [b2]; done) | (rw [← hr, b2_n0.mp c148, decide_eq_false c153, decide_eq_false (show ¬ nI 2 * nI (od T (tm T)) - nI (tm T) < -1 from Int32.not_lt.mpr c158)]; rfl)) (rfl)
        · refine g_iconst (pc := 161) (v := nI 1) C dX10_proof_161 (by decide) ?_
          refine g_goto (pc := 162) C 166 dX10_proof_162 (by decide) ?_
          exact g_ireturn (pc := 166) C dX10_proof_166 rfl (by first | (rw [← hr, b2_0.mp c148]; rfl) | (rw [← hr, b2_n0.mp c148, decide_eq_true (show nI 1 < nI 2 * nI (od T (tm T)) - nI (tm T) from c153)]; rfl) | (rw [← hr, b2_n0.mp c148, decide_eq_true (show nI 2 * nI (od T (tm T)) - nI (tm T) < -1 from Int32.not_le.mp c158)]; simp [b2]; done) | (rw [← hr, b2_n0.mp c148, decide_eq_false c153, decide_eq_false (show ¬ nI 2 * nI (od T (tm T)) - nI (tm T) < -1 from Int32.not_lt.mpr c158)]; rfl)) (rfl)
  have inner : ∀ i o, i < tm T → ∀ d t, t + d = tn T → Go G mX10_proof κ r σ σ 123 [(0, .ref (ga G 0)), (1, .int (nI (b2 (A0 T && al3 T (tn T))))), (2, .int (nI o)), (3, .int (nI i)), (4, .int (nI (sumb (tp T i) (tn T))))] [] → Go G mX10_proof κ r σ σ 90 [(0, .ref (ga G 0)), (1, .int (nI (b2 (A0 T && al3 T (tn T))))), (2, .int (nI o)), (3, .int (nI i)), (4, .int (nI (sumb (tp T i) t))), (5, .int (nI t))] [] := by
    intro i o hi d
    induction d with
    | zero =>
      intro t ht k
      refine g_iload (pc := 90) C dX10_proof_90 rfl ?_
      refine g_aload_n (pc := 92) C dX10_proof_92 rfl ?_
      apply gf_X10_17 (pc := 93) C rfl dX10_proof_93
      · repeat (first | assumption | exact Cl.s (by assumption) | refine Cl.n (by first | decide | omega) ?_)
      · rfl
      refine g_iconst (pc := 96) (v := nI 0) C dX10_proof_96 (by decide) ?_
      apply g_iaload (pc := 97) C dX10_proof_97
      · repeat (first | assumption | exact Cl.s (by assumption) | refine Cl.n (by first | decide | omega) ?_)
      · exact vp_in_nI (n := 0) (by decide) (by decide)
      rw [nI_clamp (by decide), e2]
      refine g_icmp_ge (pc := 98) C 123 dX10_proof_98 (by decide) (fun c98 => ?_) (fun c98 => ?_)
      · rw [show t = tn T by omega]
        exact g_to k ⟨rfl, rfl, rfl, rfl, rfl, trivial⟩
      · exact absurd (nI_le (by omega) (by omega)) c98
    | succ d ih =>
      intro t ht k
      refine g_iload (pc := 90) C dX10_proof_90 rfl ?_
      refine g_aload_n (pc := 92) C dX10_proof_92 rfl ?_
      apply gf_X10_17 (pc := 93) C rfl dX10_proof_93
      · repeat (first | assumption | exact Cl.s (by assumption) | refine Cl.n (by first | decide | omega) ?_)
      · rfl
      refine g_iconst (pc := 96) (v := nI 0) C dX10_proof_96 (by decide) ?_
      apply g_iaload (pc := 97) C dX10_proof_97
      · repeat (first | assumption | exact Cl.s (by assumption) | refine Cl.n (by first | decide | omega) ?_)
      · exact vp_in_nI (n := 0) (by decide) (by decide)
      rw [nI_clamp (by decide), e2]
      refine g_icmp_ge (pc := 98) C 123 dX10_proof_98 (by decide) (fun c98 => ?_) (fun c98 => ?_)
      · exact absurd c98 (nI_ge (by omega) (by omega))
      · refine g_iload (pc := 101) C dX10_proof_101 rfl ?_
        refine g_aload_n (pc := 103) C dX10_proof_103 rfl ?_
        apply gf_X10_29 (pc := 104) C rfl dX10_proof_104
        · repeat (first | assumption | exact Cl.s (by assumption) | refine Cl.n (by first | decide | omega) ?_)
        · rfl
        refine g_iconst (pc := 107) (v := nI 5) C dX10_proof_107 (by decide) ?_
        refine g_iload_n (pc := 108) C dX10_proof_108 rfl ?_
        refine g_imul (pc := 109) C dX10_proof_109 ?_
        refine g_iload (pc := 110) C dX10_proof_110 rfl ?_
        refine g_iadd (pc := 112) C dX10_proof_112 ?_
        rw [pk_mul, nI_add]
        apply g_iaload (pc := 113) C dX10_proof_113
        · repeat (first | assumption | exact Cl.s (by assumption) | refine Cl.n (by first | decide | omega) ?_)
        · exact vp_in_nI (by omega) (by decide)
        rw [nI_clamp (by omega), hp i hi t (by omega)]
        refine g_iadd (pc := 114) C dX10_proof_114 ?_
        refine g_istore (pc := 115) C dX10_proof_115 (by decide) rfl ?_
        refine g_iinc (pc := 117) C dX10_proof_117 rfl (by decide) rfl ?_
        refine g_goto (pc := 120) C 90 dX10_proof_120 (by decide) ?_
        exact g_to (ih (t + 1) (by omega) k) ⟨rfl, rfl, rfl, rfl, lgi (by rw [nI_add]; rfl), lgi (nI_1 t), trivial⟩
  have outer : ∀ d i, i + d = tm T → Go G mX10_proof κ r σ σ 74 [(0, .ref (ga G 0)), (1, .int (nI (b2 (A0 T && al3 T (tn T))))), (2, .int (nI (od T i))), (3, .int (nI i))] [] := by
    intro d
    induction d with
    | zero =>
      intro i hi
      refine g_iload_n (pc := 74) C dX10_proof_74 rfl ?_
      refine g_aload_n (pc := 75) C dX10_proof_75 rfl ?_
      apply gf_X10_26 (pc := 76) C rfl dX10_proof_76
      · repeat (first | assumption | exact Cl.s (by assumption) | refine Cl.n (by first | decide | omega) ?_)
      · rfl
      refine g_iconst (pc := 79) (v := nI 0) C dX10_proof_79 (by decide) ?_
      apply g_iaload (pc := 80) C dX10_proof_80
      · repeat (first | assumption | exact Cl.s (by assumption) | refine Cl.n (by first | decide | omega) ?_)
      · exact vp_in_nI (n := 0) (by decide) (by decide)
      rw [nI_clamp (by decide), e3]
      refine g_icmp_ge (pc := 81) C 136 dX10_proof_81 (by decide) (fun c81 => ?_) (fun c81 => ?_)
      · rw [show i = tm T by omega]
        exact g_to fin ⟨rfl, rfl, rfl, trivial⟩
      · exact absurd (nI_le (by omega) (by omega)) c81
    | succ d ih =>
      intro i hi
      have hsb : sumb (tp T i) (tn T) < 2 ^ 31 := by
        have : ∀ n, n ≤ tn T → sumb (tp T i) n ≤ 4 * n := by
          intro n
          induction n with
          | zero => intro _; exact Nat.le_refl 0
          | succ n ih2 =>
            intro hn2
            have a := ih2 (by omega)
            have b := hT'.p4 (i := i) (by omega) n (by omega)
            unfold sumb
            omega
        have := this (tn T) (Nat.le_refl _)
        omega
      have k123 : Go G mX10_proof κ r σ σ 123 [(0, .ref (ga G 0)), (1, .int (nI (b2 (A0 T && al3 T (tn T))))), (2, .int (nI (od T i))), (3, .int (nI i)), (4, .int (nI (sumb (tp T i) (tn T))))] [] := by
        refine g_iload_n (pc := 123) C dX10_proof_123 rfl ?_
        refine g_iload (pc := 124) C dX10_proof_124 rfl ?_
        refine g_iconst (pc := 126) (v := nI 2) C dX10_proof_126 (by decide) ?_
        refine g_irem (pc := 127) C dX10_proof_127 (by decide) ?_
        refine g_iadd (pc := 128) C dX10_proof_128 ?_
        refine g_istore_n (pc := 129) C dX10_proof_129 (by decide) rfl ?_
        refine g_iinc (pc := 130) C dX10_proof_130 rfl (by decide) rfl ?_
        refine g_goto (pc := 133) C 74 dX10_proof_133 (by decide) ?_
        exact g_to (ih (i + 1) (by omega)) ⟨rfl, rfl, lgi (by rw [pk_rem hsb (by decide) (by decide), nI_add]; rfl), lgi (nI_1 i), trivial⟩
      refine g_iload_n (pc := 74) C dX10_proof_74 rfl ?_
      refine g_aload_n (pc := 75) C dX10_proof_75 rfl ?_
      apply gf_X10_26 (pc := 76) C rfl dX10_proof_76
      · repeat (first | assumption | exact Cl.s (by assumption) | refine Cl.n (by first | decide | omega) ?_)
      · rfl
      refine g_iconst (pc := 79) (v := nI 0) C dX10_proof_79 (by decide) ?_
      apply g_iaload (pc := 80) C dX10_proof_80
      · repeat (first | assumption | exact Cl.s (by assumption) | refine Cl.n (by first | decide | omega) ?_)
      · exact vp_in_nI (n := 0) (by decide) (by decide)
      rw [nI_clamp (by decide), e3]
      refine g_icmp_ge (pc := 81) C 136 dX10_proof_81 (by decide) (fun c81 => ?_) (fun c81 => ?_)
      · exact absurd c81 (nI_ge (by omega) (by omega))
      · refine g_iconst (pc := 84) (v := nI 0) C dX10_proof_84 (by decide) ?_
        refine g_istore (pc := 85) C dX10_proof_85 (by decide) rfl ?_
        refine g_iconst (pc := 87) (v := nI 0) C dX10_proof_87 (by decide) ?_
        refine g_istore (pc := 88) C dX10_proof_88 (by decide) rfl ?_
        exact g_to (inner i (od T i) (by omega) (tn T) 0 (by omega) k123) ⟨rfl, rfl, rfl, rfl, rfl, rfl, trivial⟩
  have k70 : Go G mX10_proof κ r σ σ 70 [(0, .ref (ga G 0)), (1, .int (nI (b2 (A0 T && al3 T (tn T)))))] [] := by
    refine g_iconst (pc := 70) (v := nI 0) C dX10_proof_70 (by decide) ?_
    refine g_istore_n (pc := 71) C dX10_proof_71 (by decide) rfl ?_
    refine g_iconst (pc := 72) (v := nI 0) C dX10_proof_72 (by decide) ?_
    refine g_istore_n (pc := 73) C dX10_proof_73 (by decide) rfl ?_
    exact g_to (outer (tm T) 0 (by omega)) ⟨rfl, rfl, rfl, rfl, trivial⟩
  have first : ∀ d t, t + d = tn T → Go G mX10_proof κ r σ σ 34 [(0, .ref (ga G 0)), (1, .int (nI (b2 (A0 T && al3 T t)))), (2, .int (nI t))] [] := by
    intro d
    induction d with
    | zero =>
      intro t ht
      refine g_iload_n (pc := 34) C dX10_proof_34 rfl ?_
      refine g_aload_n (pc := 35) C dX10_proof_35 rfl ?_
      apply gf_X10_17 (pc := 36) C rfl dX10_proof_36
      · repeat (first | assumption | exact Cl.s (by assumption) | refine Cl.n (by first | decide | omega) ?_)
      · rfl
      refine g_iconst (pc := 39) (v := nI 0) C dX10_proof_39 (by decide) ?_
      apply g_iaload (pc := 40) C dX10_proof_40
      · repeat (first | assumption | exact Cl.s (by assumption) | refine Cl.n (by first | decide | omega) ?_)
      · exact vp_in_nI (n := 0) (by decide) (by decide)
      rw [nI_clamp (by decide), e2]
      refine g_icmp_ge (pc := 41) C 70 dX10_proof_41 (by decide) (fun c41 => ?_) (fun c41 => ?_)
      · rw [show t = tn T by omega]
        exact g_to k70 ⟨rfl, rfl, trivial⟩
      · exact absurd (nI_le (by omega) (by omega)) c41
    | succ d ih =>
      intro t ht
      have ev := hv t (by omega)
      have hv4 := (hW.2.1 t (by omega)).2
      refine g_iload_n (pc := 34) C dX10_proof_34 rfl ?_
      refine g_aload_n (pc := 35) C dX10_proof_35 rfl ?_
      apply gf_X10_17 (pc := 36) C rfl dX10_proof_36
      · repeat (first | assumption | exact Cl.s (by assumption) | refine Cl.n (by first | decide | omega) ?_)
      · rfl
      refine g_iconst (pc := 39) (v := nI 0) C dX10_proof_39 (by decide) ?_
      apply g_iaload (pc := 40) C dX10_proof_40
      · repeat (first | assumption | exact Cl.s (by assumption) | refine Cl.n (by first | decide | omega) ?_)
      · exact vp_in_nI (n := 0) (by decide) (by decide)
      rw [nI_clamp (by decide), e2]
      refine g_icmp_ge (pc := 41) C 70 dX10_proof_41 (by decide) (fun c41 => ?_) (fun c41 => ?_)
      · exact absurd c41 (nI_ge (by omega) (by omega))
      · refine g_iload_n (pc := 44) C dX10_proof_44 rfl ?_
        refine g_if_eq (pc := 45) C 62 dX10_proof_45 (by decide) (fun c45 => ?_) (fun c45 => ?_)
        · refine g_iconst (pc := 62) (v := nI 0) C dX10_proof_62 (by decide) ?_
          refine g_istore_n (pc := 63) C dX10_proof_63 (by decide) rfl ?_
          refine g_iinc (pc := 64) C dX10_proof_64 rfl (by decide) rfl ?_
          refine g_goto (pc := 67) C 34 dX10_proof_67 (by decide) ?_
          exact g_to (ih (t + 1) (by omega)) ⟨rfl, lgi (by first | (unfold al3; rw [← Bool.and_assoc, b2_0.mp c45]; rfl) | (rw [nI_leI (by decide) (by omega)] at c55; unfold al3; rw [decide_eq_false (by omega), Bool.and_false, Bool.and_false]; rfl) | (rw [nI_leI (by decide) (by omega)] at c55; unfold al3; rw [← Bool.and_assoc, b2_n0.mp c45, decide_eq_true (by omega)]; rfl)), lgi (nI_1 t), trivial⟩
        · refine g_aload_n (pc := 48) C dX10_proof_48 rfl ?_
          apply gf_X10_20 (pc := 49) C rfl dX10_proof_49
          · repeat (first | assumption | exact Cl.s (by assumption) | refine Cl.n (by first | decide | omega) ?_)
          · rfl
          refine g_iload_n (pc := 52) C dX10_proof_52 rfl ?_
          apply g_iaload (pc := 53) C dX10_proof_53
          · repeat (first | assumption | exact Cl.s (by assumption) | refine Cl.n (by first | decide | omega) ?_)
          · exact vp_in_nI (by omega) (by decide)
          rw [nI_clamp (by omega), ev]
          refine g_iconst (pc := 54) (v := nI 3) C dX10_proof_54 (by decide) ?_
          refine g_icmp_ge (pc := 55) C 62 dX10_proof_55 (by decide) (fun c55 => ?_) (fun c55 => ?_)
          · refine g_iconst (pc := 62) (v := nI 0) C dX10_proof_62 (by decide) ?_
            refine g_istore_n (pc := 63) C dX10_proof_63 (by decide) rfl ?_
            refine g_iinc (pc := 64) C dX10_proof_64 rfl (by decide) rfl ?_
            refine g_goto (pc := 67) C 34 dX10_proof_67 (by decide) ?_
            exact g_to (ih (t + 1) (by omega)) ⟨rfl, lgi (by first | (unfold al3; rw [← Bool.and_assoc, b2_0.mp c45]; rfl) | (rw [nI_leI (by decide) (by omega)] at c55; unfold al3; rw [decide_eq_false (by omega), Bool.and_false, Bool.and_false]; rfl) | (rw [nI_leI (by decide) (by omega)] at c55; unfold al3; rw [← Bool.and_assoc, b2_n0.mp c45, decide_eq_true (by omega)]; rfl)), lgi (nI_1 t), trivial⟩
          · refine g_iconst (pc := 58) (v := nI 1) C dX10_proof_58 (by decide) ?_
            refine g_goto (pc := 59) C 63 dX10_proof_59 (by decide) ?_
            refine g_istore_n (pc := 63) C dX10_proof_63 (by decide) rfl ?_
            refine g_iinc (pc := 64) C dX10_proof_64 rfl (by decide) rfl ?_
            refine g_goto (pc := 67) C 34 dX10_proof_67 (by decide) ?_
            exact g_to (ih (t + 1) (by omega)) ⟨rfl, lgi (by first | (unfold al3; rw [← Bool.and_assoc, b2_0.mp c45]; rfl) | (rw [nI_leI (by decide) (by omega)] at c55; unfold al3; rw [decide_eq_false (by omega), Bool.and_false, Bool.and_false]; rfl) | (rw [nI_leI (by decide) (by omega)] at c55; unfold al3; rw [← Bool.and_assoc, b2_n0.mp c45, decide_eq_true (by omega)]; rfl)), lgi (nI_1 t), trivial⟩
  refine g_aload_n (pc := 0) C dX10_proof_0 rfl ?_
  apply gf_X10_13 (pc := 1) C rfl dX10_proof_1
  · repeat (first | assumption | exact Cl.s (by assumption) | refine Cl.n (by first | decide | omega) ?_)
  · rfl
  refine g_iconst (pc := 4) (v := nI 0) C dX10_proof_4 (by decide) ?_
  apply g_iaload (pc := 5) C dX10_proof_5
  · repeat (first | assumption | exact Cl.s (by assumption) | refine Cl.n (by first | decide | omega) ?_)
  · exact vp_in_nI (n := 0) (by decide) (by decide)
  rw [nI_clamp (by decide), e0]
  refine g_if_nE (pc := 6) C 30 dX10_proof_6 (by decide) (fun c6 => ?_) (fun c6 => ?_)
  · refine g_iconst (pc := 30) (v := nI 0) C dX10_proof_30 (by decide) ?_
    refine g_istore_n (pc := 31) C dX10_proof_31 (by decide) rfl ?_
    refine g_iconst (pc := 32) (v := nI 0) C dX10_proof_32 (by decide) ?_
    refine g_istore_n (pc := 33) C dX10_proof_33 (by decide) rfl ?_
    exact g_to (first (tn T) 0 (by omega)) ⟨rfl, lgi (by first | (rw [show (0 : Int32) = nI 0 from rfl, nI_eq (by omega) (by decide)] at c6; simp [A0, al3, c6, b2]; done) | (rw [nI_eq (by omega) (by omega)] at c23; simp [A0, al3, c23, b2]; done) | (rw [show (0 : Int32) = nI 0 from rfl, nI_eq (by omega) (by decide)] at c6; rw [nI_eq (by omega) (by omega)] at c23; simp [A0, al3, c6, c23, b2]; done)), rfl, trivial⟩
  · refine g_aload_n (pc := 9) C dX10_proof_9 rfl ?_
    apply cl_X10_140 (pc := 10) C rfl (r_seen h0 hT') dX10_proof_10
    · repeat (first | assumption | exact Cl.s (by assumption) | refine Cl.n (by first | decide | omega) ?_)
    · rfl
    · exact Nat.le_of_ble_eq_true rfl
    refine g_iconst (pc := 13) (v := nI 1) C dX10_proof_13 (by decide) ?_
    refine g_aload_n (pc := 14) C dX10_proof_14 rfl ?_
    apply gf_X10_17 (pc := 15) C rfl dX10_proof_15
    · repeat (first | assumption | exact Cl.s (by assumption) | refine Cl.n (by first | decide | omega) ?_)
    · rfl
    refine g_iconst (pc := 18) (v := nI 0) C dX10_proof_18 (by decide) ?_
    apply g_iaload (pc := 19) C dX10_proof_19
    · repeat (first | assumption | exact Cl.s (by assumption) | refine Cl.n (by first | decide | omega) ?_)
    · exact vp_in_nI (n := 0) (by decide) (by decide)
    rw [nI_clamp (by decide), e2]
    refine g_ishl (pc := 20) C dX10_proof_20 ?_
    rw [nx_shl _ (by omega)]
    refine g_iconst (pc := 21) (v := nI 1) C dX10_proof_21 (by decide) ?_
    refine g_isub (pc := 22) C dX10_proof_22 ?_
    rw [pk_sub ha.2]
    refine g_icmp_nE (pc := 23) C 30 dX10_proof_23 (by decide) (fun c23 => ?_) (fun c23 => ?_)
    · refine g_iconst (pc := 30) (v := nI 0) C dX10_proof_30 (by decide) ?_
      refine g_istore_n (pc := 31) C dX10_proof_31 (by decide) rfl ?_
      refine g_iconst (pc := 32) (v := nI 0) C dX10_proof_32 (by decide) ?_
      refine g_istore_n (pc := 33) C dX10_proof_33 (by decide) rfl ?_
      exact g_to (first (tn T) 0 (by omega)) ⟨rfl, lgi (by first | (rw [show (0 : Int32) = nI 0 from rfl, nI_eq (by omega) (by decide)] at c6; simp [A0, al3, c6, b2]; done) | (rw [nI_eq (by omega) (by omega)] at c23; simp [A0, al3, c23, b2]; done) | (rw [show (0 : Int32) = nI 0 from rfl, nI_eq (by omega) (by decide)] at c6; rw [nI_eq (by omega) (by omega)] at c23; simp [A0, al3, c6, c23, b2]; done)), rfl, trivial⟩
    · refine g_iconst (pc := 26) (v := nI 1) C dX10_proof_26 (by decide) ?_
      refine g_goto (pc := 27) C 31 dX10_proof_27 (by decide) ?_
      refine g_istore_n (pc := 31) C dX10_proof_31 (by decide) rfl ?_
      refine g_iconst (pc := 32) (v := nI 0) C dX10_proof_32 (by decide) ?_
      refine g_istore_n (pc := 33) C dX10_proof_33 (by decide) rfl ?_
      exact g_to (first (tn T) 0 (by omega)) ⟨rfl, lgi (by first | (rw [show (0 : Int32) = nI 0 from rfl, nI_eq (by omega) (by decide)] at c6; simp [A0, al3, c6, b2]; done) | (rw [nI_eq (by omega) (by omega)] at c23; simp [A0, al3, c23, b2]; done) | (rw [show (0 : Int32) = nI 0 from rfl, nI_eq (by omega) (by decide)] at c6; rw [nI_eq (by omega) (by omega)] at c23; simp [A0, al3, c6, c23, b2]; done)), rfl, trivial⟩
end REF6

