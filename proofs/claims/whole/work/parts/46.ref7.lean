/-! mustSee of the reference: upwards, strictly better -/
def msA (T : TS) : Nat → Nat → Nat → Nat
  | 0, _, f => f
  | d + 1, s, f => msA T d (s + 1) (if many s < many f ∧ sgI T s (tm T) 0 = true then s else f)
def lw1 (T : TS) : Nat := if tl T = 2 then 0 else tl T
theorem lw1_ps (T : TS) (u : Nat) : ps (lw1 T) u 0 = ps (tl T) u 0 := by
  unfold lw1
  by_cases e : tl T = 2
  · rw [if_pos e, e]
    unfold ps
    by_cases h : u = 0
    · subst h; decide
    · simp [h]
  · rw [if_neg e]
theorem sgJ_full (T : TS) (F i : Nat) (h : ∀ j, UU T i j &&& F = UU T i j) : ∀ d j, sgJ T F i d j = true
  | 0, _ => rfl
  | d + 1, j => by
    unfold sgJ
    rw [h j, sgJ_full T F i h d (j + 1)]
    simp
theorem sgI_full (T : TS) (F : Nat) (h : ∀ i j, UU T i j &&& F = UU T i j) : ∀ d i, sgI T F d i = true
  | 0, _ => rfl
  | d + 1, i => by
    unfold sgI
    rw [sgJ_full T F i (h i), sgI_full T F h d (i + 1)]
    rfl
theorem UU_full (T : TS) (i j : Nat) : UU T i j &&& (1 <<< tn T - 1) = UU T i j := by
  rw [Nat.shiftLeft_eq, Nat.one_mul, Nat.and_two_pow_sub_one_eq_mod]
  exact Nat.mod_eq_of_lt (bits_lt _ _)
theorem many_top : ∀ n, n < 6 → ∀ s, s < 32 → s ≤ 1 <<< n - 1 → many s = many (1 <<< n - 1) → s = 1 <<< n - 1 := by decide +kernel
def bst (T : TS) (F r : Nat) (p : Nat → Prop) : Prop := r ≤ F ∧ sgI T r (tm T) 0 = true ∧ ∀ s, s ≤ F → p s → sgI T s (tm T) 0 = true → many r < many s ∨ (many r = many s ∧ r ≤ s)
theorem msD_b (T : TS) (F : Nat) : ∀ d b, d ≤ F + 1 → bst T F b (fun s => d ≤ s) → bst T F (msD T d b) (fun _ => True)
  | 0, b, _, h => ⟨h.1, h.2.1, fun s a _ g => h.2.2 s a (Nat.zero_le _) g⟩
  | d + 1, b, hd, h => by
    unfold msD
    refine msD_b T F d _ (by omega) ?_
    by_cases c : many d ≤ many b ∧ sgI T d (tm T) 0 = true
    · rw [if_pos c]
      refine ⟨by omega, c.2, fun s a b2 g => ?_⟩
      have b2 : d ≤ s := b2
      by_cases e : s = d
      · rw [e]; exact Or.inr ⟨rfl, Nat.le_refl _⟩
      · have := h.2.2 s a (show d + 1 ≤ s by omega) g
        omega
    · rw [if_neg c]
      refine ⟨h.1, h.2.1, fun s a b2 g => ?_⟩
      have b2 : d ≤ s := b2
      by_cases e : s = d
      · rw [e] at g ⊢
        have : ¬ many d ≤ many b := fun q => c ⟨q, g⟩
        omega
      · exact h.2.2 s a (show d + 1 ≤ s by omega) g
theorem msA_b (T : TS) (F : Nat) (ht : ∀ s, s ≤ F → many s = many F → s = F) : ∀ d s f, s + d = F + 1 → (f < s ∨ f = F) → bst T F f (fun q => q < s) → bst T F (msA T d s f) (fun _ => True)
  | 0, s, f, hs, _, h => ⟨h.1, h.2.1, fun q a _ g => h.2.2 q a (show q < s by omega) g⟩
  | d + 1, s, f, hs, hf, h => by
    unfold msA
    by_cases c : many s < many f ∧ sgI T s (tm T) 0 = true
    · rw [if_pos c]
      refine msA_b T F ht d (s + 1) s (by omega) (Or.inl (by omega)) ⟨by omega, c.2, fun q a b2 g => ?_⟩
      have b2 : q < s + 1 := b2
      by_cases e : q = s
      · rw [e]; exact Or.inr ⟨rfl, Nat.le_refl _⟩
      · have := h.2.2 q a (show q < s by omega) g
        omega
    · rw [if_neg c]
      refine msA_b T F ht d (s + 1) f (by omega) (by omega) ⟨h.1, h.2.1, fun q a b2 g => ?_⟩
      have b2 : q < s + 1 := b2
      by_cases e : q = s
      · rw [e] at g ⊢
        have z : ¬ many s < many f := fun q => c ⟨q, g⟩
        rcases hf with k | k
        · omega
        · by_cases w : many s = many F
          · have := ht s (by omega) w
            omega
          · rw [k] at z ⊢; omega
      · exact h.2.2 q a (show q < s by omega) g
theorem bst_u (T : TS) {F r q : Nat} (h : bst T F r (fun _ => True)) (g : bst T F q (fun _ => True)) : r = q := by
  have a := h.2.2 q g.1 trivial g.2.1
  have b := g.2.2 r h.1 trivial h.2.1
  omega
theorem ms_eq {T : TS} (hn : tn T ≤ 5) : msA T (1 <<< tn T) 0 (1 <<< tn T - 1) = msF T := by
  have ha : 1 ≤ 1 <<< tn T ∧ 1 <<< tn T ≤ 32 := by
    rw [Nat.shiftLeft_eq, Nat.one_mul]
    exact ⟨Nat.one_le_two_pow, Nat.pow_le_pow_right (n := 2) (by decide) hn⟩
  have hF : sgI T (1 <<< tn T - 1) (tm T) 0 = true := sgI_full T _ (UU_full T) _ _
  unfold msF
  refine bst_u T (F := 1 <<< tn T - 1) ?_ ?_
  · exact msA_b T _ (fun s a b => many_top _ (by omega) s (by omega) a b) _ 0 _ (by omega) (Or.inr rfl) ⟨Nat.le_refl _, hF, fun s _ b => absurd b (Nat.not_lt_zero _)⟩
  · exact msD_b T _ _ _ (by omega) ⟨Nat.le_refl _, hF, fun s a b => absurd (show 1 <<< tn T ≤ s from b) (by omega)⟩
section REF7
variable {G : GG} {σ : WW} {T : TS} {h : HH} {len at_ rm : Int32}
theorem q_mustSee {kept done : Int32} (h0 : Cl G σ 0 (cRef G len at_ kept done rm)) (hT : QT G σ T) : Mt G mX10_mustSee [.ref (ga G 0)] σ (some (.int (nI (msF T)))) σ := by
  rw [← ms_eq hT.w.1.1]
  have hT' := hT
  obtain ⟨ft, fn, fv, fl, fm, fp, h2, h3, h4, h5, h6, h7, hW, h1, e0, e1, e2, e3, hv, hl, hp⟩ := hT
  have hlaw := hW.2.2.2.2.2.2.1
  have hm := hW.2.2.2.2.1
  have hn := hW.1
  have hl1 : lw1 T ≤ 3 := by unfold lw1; split <;> omega
  have ha : 1 <<< tn T ≤ 32 ∧ 1 ≤ 1 <<< tn T := by
    rw [Nat.shiftLeft_eq, Nat.one_mul]
    exact ⟨Nat.pow_le_pow_right (n := 2) (by decide) hn, Nat.one_le_two_pow⟩
  refine Mt.of (by decide +kernel) (Nat.le_of_ble_eq_true rfl) (fun κ C => ?_)
  have inner : ∀ {r : Option Value} {f s i : Nat}, s < 32 → i < tm T → ∀ d j q, j + d = i → Go G mX10_mustSee κ r σ σ 137 [(0, .ref (ga G 0)), (1, .int (nI (lw1 T))), (2, .int (nI f)), (3, .int (nI s)), (4, .int (nI (b2 (q && sgJ T s i d j)))), (5, .int (nI i))] [] → Go G mX10_mustSee κ r σ σ 81 [(0, .ref (ga G 0)), (1, .int (nI (lw1 T))), (2, .int (nI f)), (3, .int (nI s)), (4, .int (nI (b2 q))), (5, .int (nI i)), (6, .int (nI j))] [] := by
    intro r f s i hs hi d
    induction d with
    | zero =>
      intro j q hj k
      rw [show (q && sgJ T s i 0 j) = q by simp [sgJ]] at k
      refine g_iload (pc := 81) C dX10_mustSee_81 rfl ?_
      refine g_iload (pc := 83) C dX10_mustSee_83 rfl ?_
      refine g_icmp_ge (pc := 85) C 137 dX10_mustSee_85 (by decide) (fun c85 => ?_) (fun c85 => ?_)
      · exact g_to k ⟨rfl, rfl, rfl, rfl, rfl, rfl, trivial⟩
      · exact absurd (nI_le (by omega) (by omega)) c85
    | succ d ih =>
      intro j q hj k
      have hu := UU_lt T i j hn
      have hu2 := and_lt32 (b := s) hu
      cases q
      · rw [Bool.false_and] at k
        refine g_iload (pc := 81) C dX10_mustSee_81 rfl ?_
        refine g_iload (pc := 83) C dX10_mustSee_83 rfl ?_
        refine g_icmp_ge (pc := 85) C 137 dX10_mustSee_85 (by decide) (fun c85 => ?_) (fun c85 => ?_)
        · exact absurd c85 (nI_ge (by omega) (by omega))
        · refine g_iload (pc := 88) C dX10_mustSee_88 rfl ?_
          refine g_if_eq (pc := 90) C 137 dX10_mustSee_90 (by decide) (fun c90 => ?_) (fun c90 => ?_)
          · exact g_to k ⟨rfl, rfl, rfl, rfl, rfl, rfl, trivial⟩
          · exact absurd rfl c90
      · have e1 := lw1_ps T (UU T i j &&& s)
        have e2 := lw1_ps T (UU T i j)
        by_cases hc : ps (tl T) (UU T i j) 0 = ps (tl T) (UU T i j &&& s) 0
        · rw [show (true && sgJ T s i (d + 1) j) = (true && sgJ T s i d (j + 1)) by simp [sgJ, hc]] at k
          refine g_iload (pc := 81) C dX10_mustSee_81 rfl ?_
          refine g_iload (pc := 83) C dX10_mustSee_83 rfl ?_
          refine g_icmp_ge (pc := 85) C 137 dX10_mustSee_85 (by decide) (fun c85 => ?_) (fun c85 => ?_)
          · exact absurd c85 (nI_ge (by omega) (by omega))
          · refine g_iload (pc := 88) C dX10_mustSee_88 rfl ?_
            refine g_if_eq (pc := 90) C 137 dX10_mustSee_90 (by decide) (fun c90 => ?_) (fun c90 => ?_)
            · exact absurd c90 (by decide)
            · refine g_iload_n (pc := 93) C dX10_mustSee_93 rfl ?_
              refine g_aload_n (pc := 94) C dX10_mustSee_94 rfl ?_
              refine g_iload (pc := 95) C dX10_mustSee_95 rfl ?_
              refine g_iload (pc := 97) C dX10_mustSee_97 rfl ?_
              apply cl_X10_136 (pc := 99) C rfl (r_unlike h0 hT' hi (by omega)) dX10_mustSee_99
              · repeat (first | assumption | exact Cl.s (by assumption) | refine Cl.n (by first | decide | omega) ?_)
              · rfl
              · exact Nat.le_of_ble_eq_true rfl
              refine g_iload_n (pc := 102) C dX10_mustSee_102 rfl ?_
              refine g_iand (pc := 103) C dX10_mustSee_103 ?_
              rw [nx_and]
              refine g_iconst (pc := 104) (v := nI 0) C dX10_mustSee_104 (by decide) ?_
              refine cl_X10_146 (pc := 105) C rfl (r_passes hl1 (by omega) (by decide)) dX10_mustSee_105 rfl (Nat.le_of_ble_eq_true rfl) ?_
              refine g_iload_n (pc := 108) C dX10_mustSee_108 rfl ?_
              refine g_aload_n (pc := 109) C dX10_mustSee_109 rfl ?_
              refine g_iload (pc := 110) C dX10_mustSee_110 rfl ?_
              refine g_iload (pc := 112) C dX10_mustSee_112 rfl ?_
              apply cl_X10_136 (pc := 114) C rfl (r_unlike h0 hT' hi (by omega)) dX10_mustSee_114
              · repeat (first | assumption | exact Cl.s (by assumption) | refine Cl.n (by first | decide | omega) ?_)
              · rfl
              · exact Nat.le_of_ble_eq_true rfl
              refine g_iconst (pc := 117) (v := nI 0) C dX10_mustSee_117 (by decide) ?_
              refine cl_X10_146 (pc := 118) C rfl (r_passes hl1 (by omega) (by decide)) dX10_mustSee_118 rfl (Nat.le_of_ble_eq_true rfl) ?_
              refine g_icmp_nE (pc := 121) C 128 dX10_mustSee_121 (by decide) (fun c121 => ?_) (fun c121 => ?_)
              · exact absurd (by rw [e1, e2, hc]) c121
              · refine g_iconst (pc := 124) (v := nI 1) C dX10_mustSee_124 (by decide) ?_
                refine g_goto (pc := 125) C 129 dX10_mustSee_125 (by decide) ?_
                refine g_istore (pc := 129) C dX10_mustSee_129 (by decide) rfl ?_
                refine g_iinc (pc := 131) C dX10_mustSee_131 rfl (by decide) rfl ?_
                refine g_goto (pc := 134) C 81 dX10_mustSee_134 (by decide) ?_
                exact g_to (ih (j + 1) true (by omega) k) ⟨rfl, rfl, rfl, rfl, rfl, rfl, lgi (nI_1 j), trivial⟩
        · rw [show (true && sgJ T s i (d + 1) j) = (false && sgJ T s i d (j + 1)) by simp [sgJ, hc]] at k
          refine g_iload (pc := 81) C dX10_mustSee_81 rfl ?_
          refine g_iload (pc := 83) C dX10_mustSee_83 rfl ?_
          refine g_icmp_ge (pc := 85) C 137 dX10_mustSee_85 (by decide) (fun c85 => ?_) (fun c85 => ?_)
          · exact absurd c85 (nI_ge (by omega) (by omega))
          · refine g_iload (pc := 88) C dX10_mustSee_88 rfl ?_
            refine g_if_eq (pc := 90) C 137 dX10_mustSee_90 (by decide) (fun c90 => ?_) (fun c90 => ?_)
            · exact absurd c90 (by decide)
            · refine g_iload_n (pc := 93) C dX10_mustSee_93 rfl ?_
              refine g_aload_n (pc := 94) C dX10_mustSee_94 rfl ?_
              refine g_iload (pc := 95) C dX10_mustSee_95 rfl ?_
              refine g_iload (pc := 97) C dX10_mustSee_97 rfl ?_
              apply cl_X10_136 (pc := 99) C rfl (r_unlike h0 hT' hi (by omega)) dX10_mustSee_99
              · repeat (first | assumption | exact Cl.s (by assumption) | refine Cl.n (by first | decide | omega) ?_)
              · rfl
              · exact Nat.le_of_ble_eq_true rfl
              refine g_iload_n (pc := 102) C dX10_mustSee_102 rfl ?_
              refine g_iand (pc := 103) C dX10_mustSee_103 ?_
              rw [nx_and]
              refine g_iconst (pc := 104) (v := nI 0) C dX10_mustSee_104 (by decide) ?_
              refine cl_X10_146 (pc := 105) C rfl (r_passes hl1 (by omega) (by decide)) dX10_mustSee_105 rfl (Nat.le_of_ble_eq_true rfl) ?_
              refine g_iload_n (pc := 108) C dX10_mustSee_108 rfl ?_
              refine g_aload_n (pc := 109) C dX10_mustSee_109 rfl ?_
              refine g_iload (pc := 110) C dX10_mustSee_110 rfl ?_
              refine g_iload (pc := 112) C dX10_mustSee_112 rfl ?_
              apply cl_X10_136 (pc := 114) C rfl (r_unlike h0 hT' hi (by omega)) dX10_mustSee_114
              · repeat (first | assumption | exact Cl.s (by assumption) | refine Cl.n (by first | decide | omega) ?_)
              · rfl
              · exact Nat.le_of_ble_eq_true rfl
              refine g_iconst (pc := 117) (v := nI 0) C dX10_mustSee_117 (by decide) ?_
              refine cl_X10_146 (pc := 118) C rfl (r_passes hl1 (by omega) (by decide)) dX10_mustSee_118 rfl (Nat.le_of_ble_eq_true rfl) ?_
              refine g_icmp_nE (pc := 121) C 128 dX10_mustSee_121 (by decide) (fun c121 => ?_) (fun c121 => ?_)
              · refine g_iconst (pc := 128) (v := nI 0) C dX10_mustSee_128 (by decide) ?_
                refine g_istore (pc := 129) C dX10_mustSee_129 (by decide) rfl ?_
                refine g_iinc (pc := 131) C dX10_mustSee_131 rfl (by decide) rfl ?_
                refine g_goto (pc := 134) C 81 dX10_mustSee_134 (by decide) ?_
                exact g_to (ih (j + 1) false (by omega) k) ⟨rfl, rfl, rfl, rfl, rfl, rfl, lgi (nI_1 j), trivial⟩
              · exact absurd (by rw [e1, e2] at c121; revert c121 hc; cases ps (tl T) (UU T i j) 0 <;> cases ps (tl T) (UU T i j &&& s) 0 <;> decide) id
  have mid : ∀ {r : Option Value} {f s : Nat}, s < 32 → ∀ d i q, i + d = tm T → Go G mX10_mustSee κ r σ σ 143 [(0, .ref (ga G 0)), (1, .int (nI (lw1 T))), (2, .int (nI f)), (3, .int (nI s)), (4, .int (nI (b2 (q && sgI T s d i))))] [] → Go G mX10_mustSee κ r σ σ 67 [(0, .ref (ga G 0)), (1, .int (nI (lw1 T))), (2, .int (nI f)), (3, .int (nI s)), (4, .int (nI (b2 q))), (5, .int (nI i))] [] := by
    intro r f s hs d
    induction d with
    | zero =>
      intro i q hi k
      rw [show (q && sgI T s 0 i) = q by simp [sgI]] at k
      refine g_iload (pc := 67) C dX10_mustSee_67 rfl ?_
      refine g_aload_n (pc := 69) C dX10_mustSee_69 rfl ?_
      apply gf_X10_26 (pc := 70) C rfl dX10_mustSee_70
      · repeat (first | assumption | exact Cl.s (by assumption) | refine Cl.n (by first | decide | omega) ?_)
      · rfl
      refine g_iconst (pc := 73) (v := nI 0) C dX10_mustSee_73 (by decide) ?_
      apply g_iaload (pc := 74) C dX10_mustSee_74
      · repeat (first | assumption | exact Cl.s (by assumption) | refine Cl.n (by first | decide | omega) ?_)
      · exact vp_in_nI (n := 0) (by decide) (by decide)
      rw [nI_clamp (by decide), e3]
      refine g_icmp_ge (pc := 75) C 143 dX10_mustSee_75 (by decide) (fun c75 => ?_) (fun c75 => ?_)
      · exact g_to k ⟨rfl, rfl, rfl, rfl, rfl, trivial⟩
      · exact absurd (nI_le (by omega) (by omega)) c75
    | succ d ih =>
      intro i q hi k
      rw [show (q && sgI T s (d + 1) i) = ((q && sgJ T s i i 0) && sgI T s d (i + 1)) by simp [sgI, Bool.and_assoc]] at k
      have k2 := ih (i + 1) (q && sgJ T s i i 0) (by omega) k
      have k137 : Go G mX10_mustSee κ r σ σ 137 [(0, .ref (ga G 0)), (1, .int (nI (lw1 T))), (2, .int (nI f)), (3, .int (nI s)), (4, .int (nI (b2 (q && sgJ T s i i 0)))), (5, .int (nI i))] [] := by
        refine g_iinc (pc := 137) C dX10_mustSee_137 rfl (by decide) rfl ?_
        refine g_goto (pc := 140) C 67 dX10_mustSee_140 (by decide) ?_
        exact g_to k2 ⟨rfl, rfl, rfl, rfl, rfl, lgi (nI_1 i), trivial⟩
      refine g_iload (pc := 67) C dX10_mustSee_67 rfl ?_
      refine g_aload_n (pc := 69) C dX10_mustSee_69 rfl ?_
      apply gf_X10_26 (pc := 70) C rfl dX10_mustSee_70
      · repeat (first | assumption | exact Cl.s (by assumption) | refine Cl.n (by first | decide | omega) ?_)
      · rfl
      refine g_iconst (pc := 73) (v := nI 0) C dX10_mustSee_73 (by decide) ?_
      apply g_iaload (pc := 74) C dX10_mustSee_74
      · repeat (first | assumption | exact Cl.s (by assumption) | refine Cl.n (by first | decide | omega) ?_)
      · exact vp_in_nI (n := 0) (by decide) (by decide)
      rw [nI_clamp (by decide), e3]
      refine g_icmp_ge (pc := 75) C 143 dX10_mustSee_75 (by decide) (fun c75 => ?_) (fun c75 => ?_)
      · exact absurd c75 (nI_ge (by omega) (by omega))
      · refine g_iconst (pc := 78) (v := nI 0) C dX10_mustSee_78 (by decide) ?_
        refine g_istore (pc := 79) C dX10_mustSee_79 (by decide) rfl ?_
        exact g_to (inner hs (by omega) i 0 q (by omega) k137) ⟨rfl, rfl, rfl, rfl, rfl, rfl, rfl, trivial⟩
  have outer : ∀ d s f, s + d = 1 <<< tn T → f < 32 → Go G mX10_mustSee κ (some (.int (nI (msA T d s f)))) σ σ 34 [(0, .ref (ga G 0)), (1, .int (nI (lw1 T))), (2, .int (nI f)), (3, .int (nI s))] [] := by
    intro d
    induction d with
    | zero =>
      intro s f hs hf
      refine g_iload_n (pc := 34) C dX10_mustSee_34 rfl ?_
      refine g_iconst (pc := 35) (v := nI 1) C dX10_mustSee_35 (by decide) ?_
      refine g_aload_n (pc := 36) C dX10_mustSee_36 rfl ?_
      apply gf_X10_17 (pc := 37) C rfl dX10_mustSee_37
      · repeat (first | assumption | exact Cl.s (by assumption) | refine Cl.n (by first | decide | omega) ?_)
      · rfl
      refine g_iconst (pc := 40) (v := nI 0) C dX10_mustSee_40 (by decide) ?_
      apply g_iaload (pc := 41) C dX10_mustSee_41
      · repeat (first | assumption | exact Cl.s (by assumption) | refine Cl.n (by first | decide | omega) ?_)
      · exact vp_in_nI (n := 0) (by decide) (by decide)
      rw [nI_clamp (by decide), e2]
      refine g_ishl (pc := 42) C dX10_mustSee_42 ?_
      rw [nx_shl _ (by omega)]
      refine g_icmp_ge (pc := 43) C 160 dX10_mustSee_43 (by decide) (fun c43 => ?_) (fun c43 => ?_)
      · refine g_iload_n (pc := 160) C dX10_mustSee_160 rfl ?_
        exact g_ireturn (pc := 161) C dX10_mustSee_161 rfl (rfl) (rfl)
      · exact absurd (nI_le (by omega) (by omega)) c43
    | succ d ih =>
      intro s f hs hf
      have k143 : ∀ q : Bool, q = decide (many s < many f) → Go G mX10_mustSee κ (some (.int (nI (msA T (d + 1) s f)))) σ σ 143 [(0, .ref (ga G 0)), (1, .int (nI (lw1 T))), (2, .int (nI f)), (3, .int (nI s)), (4, .int (nI (b2 (q && sgI T s (tm T) 0))))] [] := by
        intro q hq
        cases hc : (q && sgI T s (tm T) 0)
        · rw [show msA T (d + 1) s f = msA T d (s + 1) f by
            show msA T d (s + 1) (if many s < many f ∧ sgI T s (tm T) 0 = true then s else f) = _
            rw [if_neg (fun z => by rw [hq, decide_eq_true z.1, z.2] at hc; cases hc)]]
          refine g_iload (pc := 143) C dX10_mustSee_143 rfl ?_
          refine g_if_eq (pc := 145) C 152 dX10_mustSee_145 (by decide) (fun c145 => ?_) (fun c145 => ?_)
          · refine g_iload_n (pc := 152) C dX10_mustSee_152 rfl ?_
            refine g_istore_n (pc := 153) C dX10_mustSee_153 (by decide) rfl ?_
            refine g_iinc (pc := 154) C dX10_mustSee_154 rfl (by decide) rfl ?_
            refine g_goto (pc := 157) C 34 dX10_mustSee_157 (by decide) ?_
            exact g_to (ih (s + 1) f (by omega) hf) ⟨rfl, rfl, rfl, lgi (nI_1 s), trivial⟩
          · exact absurd rfl c145
        · rw [show msA T (d + 1) s f = msA T d (s + 1) s by
            show msA T d (s + 1) (if many s < many f ∧ sgI T s (tm T) 0 = true then s else f) = _
            rw [Bool.and_eq_true] at hc
            rw [if_pos ⟨of_decide_eq_true (hq ▸ hc.1), hc.2⟩]]
          refine g_iload (pc := 143) C dX10_mustSee_143 rfl ?_
          refine g_if_eq (pc := 145) C 152 dX10_mustSee_145 (by decide) (fun c145 => ?_) (fun c145 => ?_)
          · exact absurd c145 (by decide)
          · refine g_iload_n (pc := 148) C dX10_mustSee_148 rfl ?_
            refine g_goto (pc := 149) C 153 dX10_mustSee_149 (by decide) ?_
            refine g_istore_n (pc := 153) C dX10_mustSee_153 (by decide) rfl ?_
            refine g_iinc (pc := 154) C dX10_mustSee_154 rfl (by decide) rfl ?_
            refine g_goto (pc := 157) C 34 dX10_mustSee_157 (by decide) ?_
            exact g_to (ih (s + 1) s (by omega) (by omega)) ⟨rfl, rfl, rfl, lgi (nI_1 s), trivial⟩
      refine g_iload_n (pc := 34) C dX10_mustSee_34 rfl ?_
      refine g_iconst (pc := 35) (v := nI 1) C dX10_mustSee_35 (by decide) ?_
      refine g_aload_n (pc := 36) C dX10_mustSee_36 rfl ?_
      apply gf_X10_17 (pc := 37) C rfl dX10_mustSee_37
      · repeat (first | assumption | exact Cl.s (by assumption) | refine Cl.n (by first | decide | omega) ?_)
      · rfl
      refine g_iconst (pc := 40) (v := nI 0) C dX10_mustSee_40 (by decide) ?_
      apply g_iaload (pc := 41) C dX10_mustSee_41
      · repeat (first | assumption | exact Cl.s (by assumption) | refine Cl.n (by first | decide | omega) ?_)
      · exact vp_in_nI (n := 0) (by decide) (by decide)
      rw [nI_clamp (by decide), e2]
      refine g_ishl (pc := 42) C dX10_mustSee_42 ?_
      rw [nx_shl _ (by omega)]
      refine g_icmp_ge (pc := 43) C 160 dX10_mustSee_43 (by decide) (fun c43 => ?_) (fun c43 => ?_)
      · exact absurd c43 (nI_ge (by omega) (by omega))
      · refine g_iload_n (pc := 46) C dX10_mustSee_46 rfl ?_
        refine cl_X10_143 (pc := 47) C rfl (r_many (by omega)) dX10_mustSee_47 rfl (Nat.le_of_ble_eq_true rfl) ?_
        refine g_iload_n (pc := 50) C dX10_mustSee_50 rfl ?_
        refine cl_X10_143 (pc := 51) C rfl (r_many (by omega)) dX10_mustSee_51 rfl (Nat.le_of_ble_eq_true rfl) ?_
        refine g_icmp_ge (pc := 54) C 61 dX10_mustSee_54 (by decide) (fun c54 => ?_) (fun c54 => ?_)
        · refine g_iconst (pc := 61) (v := nI 0) C dX10_mustSee_61 (by decide) ?_
          refine g_istore (pc := 62) C dX10_mustSee_62 (by decide) rfl ?_
          refine g_iconst (pc := 64) (v := nI 0) C dX10_mustSee_64 (by decide) ?_
          refine g_istore (pc := 65) C dX10_mustSee_65 (by decide) rfl ?_
          first | (rw [nI_leI (many_lt _) (many_lt _)] at c54; exact g_to (mid (by omega) (tm T) 0 false (by omega) (k143 false (decide_eq_false (by omega)).symm)) ⟨rfl, rfl, rfl, rfl, rfl, rfl, trivial⟩) | (rw [nI_leI (many_lt _) (many_lt _)] at c54; exact g_to (mid (by omega) (tm T) 0 true (by omega) (k143 true (decide_eq_true (by omega)).symm)) ⟨rfl, rfl, rfl, rfl, rfl, rfl, trivial⟩)
        · refine g_iconst (pc := 57) (v := nI 1) C dX10_mustSee_57 (by decide) ?_
          refine g_goto (pc := 58) C 62 dX10_mustSee_58 (by decide) ?_
          refine g_istore (pc := 62) C dX10_mustSee_62 (by decide) rfl ?_
          refine g_iconst (pc := 64) (v := nI 0) C dX10_mustSee_64 (by decide) ?_
          refine g_istore (pc := 65) C dX10_mustSee_65 (by decide) rfl ?_
          first | (rw [nI_leI (many_lt _) (many_lt _)] at c54; exact g_to (mid (by omega) (tm T) 0 false (by omega) (k143 false (decide_eq_false (by omega)).symm)) ⟨rfl, rfl, rfl, rfl, rfl, rfl, trivial⟩) | (rw [nI_leI (many_lt _) (many_lt _)] at c54; exact g_to (mid (by omega) (tm T) 0 true (by omega) (k143 true (decide_eq_true (by omega)).symm)) ⟨rfl, rfl, rfl, rfl, rfl, rfl, trivial⟩)
  refine g_aload_n (pc := 0) C dX10_mustSee_0 rfl ?_
  apply gf_X10_13 (pc := 1) C rfl dX10_mustSee_1
  · repeat (first | assumption | exact Cl.s (by assumption) | refine Cl.n (by first | decide | omega) ?_)
  · rfl
  refine g_iconst (pc := 4) (v := nI 0) C dX10_mustSee_4 (by decide) ?_
  apply g_iaload (pc := 5) C dX10_mustSee_5
  · repeat (first | assumption | exact Cl.s (by assumption) | refine Cl.n (by first | decide | omega) ?_)
  · exact vp_in_nI (n := 0) (by decide) (by decide)
  rw [nI_clamp (by decide), e0]
  refine g_iconst (pc := 6) (v := nI 2) C dX10_mustSee_6 (by decide) ?_
  refine g_icmp_nE (pc := 7) C 14 dX10_mustSee_7 (by decide) (fun c7 => ?_) (fun c7 => ?_)
  · refine g_aload_n (pc := 14) C dX10_mustSee_14 rfl ?_
    apply gf_X10_13 (pc := 15) C rfl dX10_mustSee_15
    · repeat (first | assumption | exact Cl.s (by assumption) | refine Cl.n (by first | decide | omega) ?_)
    · rfl
    refine g_iconst (pc := 18) (v := nI 0) C dX10_mustSee_18 (by decide) ?_
    apply g_iaload (pc := 19) C dX10_mustSee_19
    · repeat (first | assumption | exact Cl.s (by assumption) | refine Cl.n (by first | decide | omega) ?_)
    · exact vp_in_nI (n := 0) (by decide) (by decide)
    refine g_istore_n (pc := 20) C dX10_mustSee_20 (by decide) rfl ?_
    refine g_iconst (pc := 21) (v := nI 1) C dX10_mustSee_21 (by decide) ?_
    refine g_aload_n (pc := 22) C dX10_mustSee_22 rfl ?_
    apply gf_X10_17 (pc := 23) C rfl dX10_mustSee_23
    · repeat (first | assumption | exact Cl.s (by assumption) | refine Cl.n (by first | decide | omega) ?_)
    · rfl
    refine g_iconst (pc := 26) (v := nI 0) C dX10_mustSee_26 (by decide) ?_
    apply g_iaload (pc := 27) C dX10_mustSee_27
    · repeat (first | assumption | exact Cl.s (by assumption) | refine Cl.n (by first | decide | omega) ?_)
    · exact vp_in_nI (n := 0) (by decide) (by decide)
    rw [nI_clamp (by decide), e2]
    refine g_ishl (pc := 28) C dX10_mustSee_28 ?_
    rw [nx_shl _ (by omega)]
    refine g_iconst (pc := 29) (v := nI 1) C dX10_mustSee_29 (by decide) ?_
    refine g_isub (pc := 30) C dX10_mustSee_30 ?_
    rw [pk_sub ha.2]
    refine g_istore_n (pc := 31) C dX10_mustSee_31 (by decide) rfl ?_
    refine g_iconst (pc := 32) (v := nI 0) C dX10_mustSee_32 (by decide) ?_
    refine g_istore_n (pc := 33) C dX10_mustSee_33 (by decide) rfl ?_
    first | (rw [nI_clamp (by decide), e0]; exact g_to (outer (1 <<< tn T) 0 (1 <<< tn T - 1) (by omega) (by omega)) ⟨rfl, lgi (by rw [nI_eq (by omega) (by decide)] at c7; simp [lw1, c7]; done), rfl, rfl, trivial⟩) | (exact g_to (outer (1 <<< tn T) 0 (1 <<< tn T - 1) (by omega) (by omega)) ⟨rfl, lgi (by rw [nI_eq (by omega) (by decide)] at c7; simp [lw1, c7, e0]), rfl, rfl, trivial⟩)
  · refine g_iconst (pc := 10) (v := nI 0) C dX10_mustSee_10 (by decide) ?_
    refine g_goto (pc := 11) C 20 dX10_mustSee_11 (by decide) ?_
    refine g_istore_n (pc := 20) C dX10_mustSee_20 (by decide) rfl ?_
    refine g_iconst (pc := 21) (v := nI 1) C dX10_mustSee_21 (by decide) ?_
    refine g_aload_n (pc := 22) C dX10_mustSee_22 rfl ?_
    apply gf_X10_17 (pc := 23) C rfl dX10_mustSee_23
    · repeat (first | assumption | exact Cl.s (by assumption) | refine Cl.n (by first | decide | omega) ?_)
    · rfl
    refine g_iconst (pc := 26) (v := nI 0) C dX10_mustSee_26 (by decide) ?_
    apply g_iaload (pc := 27) C dX10_mustSee_27
    · repeat (first | assumption | exact Cl.s (by assumption) | refine Cl.n (by first | decide | omega) ?_)
    · exact vp_in_nI (n := 0) (by decide) (by decide)
    rw [nI_clamp (by decide), e2]
    refine g_ishl (pc := 28) C dX10_mustSee_28 ?_
    rw [nx_shl _ (by omega)]
    refine g_iconst (pc := 29) (v := nI 1) C dX10_mustSee_29 (by decide) ?_
    refine g_isub (pc := 30) C dX10_mustSee_30 ?_
    rw [pk_sub ha.2]
    refine g_istore_n (pc := 31) C dX10_mustSee_31 (by decide) rfl ?_
    refine g_iconst (pc := 32) (v := nI 0) C dX10_mustSee_32 (by decide) ?_
    refine g_istore_n (pc := 33) C dX10_mustSee_33 (by decide) rfl ?_
    first | (rw [nI_clamp (by decide), e0]; exact g_to (outer (1 <<< tn T) 0 (1 <<< tn T - 1) (by omega) (by omega)) ⟨rfl, lgi (by rw [nI_eq (by omega) (by decide)] at c7; simp [lw1, c7]; done), rfl, rfl, trivial⟩) | (exact g_to (outer (1 <<< tn T) 0 (1 <<< tn T - 1) (by omega) (by omega)) ⟨rfl, lgi (by rw [nI_eq (by omega) (by decide)] at c7; simp [lw1, c7, e0]), rfl, rfl, trivial⟩)
end REF7

