/-! the reference reads: number, borrowed, isPerson -/
def QA (G : GG) (σ : WW) (ft fn fv fl fm fp : Nat → Int32) : Prop := Cl G σ 2 (iA G 4 ft) ∧ Cl G σ 3 (iA G 2 fn) ∧ Cl G σ 4 (iA G 10 fv) ∧ Cl G σ 5 (iA G 10 fl) ∧ Cl G σ 6 (iA G 2 fm) ∧ Cl G σ 7 (iA G 90 fp)
def tT (T : TS) (ft fn fv fl fm fp : Nat → Int32) : Prop := TW T ∧ 1 ≤ tm T ∧ ft 0 = nI (tl T) ∧ ft 1 = nI (tg T) ∧ fn 0 = nI (tn T) ∧ fm 0 = nI (tm T) ∧ (∀ t, t < tn T → fv t = nI (tv T t)) ∧ (∀ t, t < tn T → fl t = nI (tb T t)) ∧ ∀ i, i < tm T → ∀ t, t < tn T → fp (5 * i + t) = nI (tp T i t)
def tP (P : TS) (ft fn fv fl fm fp : Nat → Int32) : Prop := TW P ∧ ft 2 = nI (tl P) ∧ ft 3 = nI (tg P) ∧ fn 1 = nI (tn P) ∧ fm 1 = nI (tm P) ∧ (∀ t, t < tn P → fv (5 + t) = nI (tv P t)) ∧ (∀ t, t < tn P → fl (5 + t) = nI (tb P t)) ∧ ∀ i, i < tm P → ∀ t, t < tn P → fp (45 + 5 * i + t) = nI (tp P i t)
theorem QT.a {G : GG} {σ : WW} {T : TS} (h : QT G σ T) : ∃ ft fn fv fl fm fp, QA G σ ft fn fv fl fm fp ∧ tT T ft fn fv fl fm fp := by
  obtain ⟨ft, fn, fv, fl, fm, fp, h2, h3, h4, h5, h6, h7, r⟩ := h
  exact ⟨ft, fn, fv, fl, fm, fp, ⟨h2, h3, h4, h5, h6, h7⟩, r⟩
theorem QT.of {G : GG} {σ : WW} {T : TS} {ft fn fv fl fm fp : Nat → Int32} (a : QA G σ ft fn fv fl fm fp) (b : tT T ft fn fv fl fm fp) : QT G σ T := ⟨ft, fn, fv, fl, fm, fp, a.1, a.2.1, a.2.2.1, a.2.2.2.1, a.2.2.2.2.1, a.2.2.2.2.2, b⟩
def QS (G : GG) (σ : WW) (T : TS) (o : Option TS) : Prop := ∃ ft fn fv fl fm fp, QA G σ ft fn fv fl fm fp ∧ tT T ft fn fv fl fm fp ∧ ∀ P, o = some P → tP P ft fn fv fl fm fp
theorem tT.cg {T : TS} {ft fn fv fl fm fp ft' fn' fv' fl' fm' fp' : Nat → Int32} (h : tT T ft fn fv fl fm fp) (a : ft' 0 = ft 0) (b : ft' 1 = ft 1) (c : fn' 0 = fn 0) (d : fm' 0 = fm 0) (e : ∀ t, t < 5 → fv' t = fv t) (f : ∀ t, t < 5 → fl' t = fl t) (g : ∀ k, k < 45 → fp' k = fp k) : tT T ft' fn' fv' fl' fm' fp' := by
  obtain ⟨w, m1, q0, q1, q2, q3, q4, q5, q6⟩ := h
  have hn := w.1
  have hm := w.2.2.2.2.1
  exact ⟨w, m1, a.trans q0, b.trans q1, c.trans q2, d.trans q3, fun t ht => (e t (by omega)).trans (q4 t ht), fun t ht => (f t (by omega)).trans (q5 t ht), fun i hi t ht => (g _ (by omega)).trans (q6 i hi t ht)⟩
theorem QA.fr {G : GG} {σ σ' : WW} {ft fn fv fl fm fp : Nat → Int32} {ps : List Nat} (h : QA G σ ft fn fv fl fm fp) (f : Fr σ σ' ps) (h2 : 2 ∉ ps) (h3 : 3 ∉ ps) (h4 : 4 ∉ ps) (h5 : 5 ∉ ps) (h6 : 6 ∉ ps) (h7 : 7 ∉ ps) : QA G σ' ft fn fv fl fm fp := ⟨h.1.fr f h2, h.2.1.fr f h3, h.2.2.1.fr f h4, h.2.2.2.1.fr f h5, h.2.2.2.2.1.fr f h6, h.2.2.2.2.2.fr f h7⟩
theorem QA.u0 {G : GG} {σ : WW} {ft fn fv fl fm fp : Nat → Int32} {e : va_E} (h : QA G σ ft fn fv fl fm fp) : QA G (va_up σ 0 e) ft fn fv fl fm fp := h.fr (ps := [0]) (fr3 fr0 (by decide)) (by decide) (by decide) (by decide) (by decide) (by decide) (by decide)
theorem QX.u {G : GG} {σ : WW} {n : Nat} {x : Nat → Int32} {e : va_E} {q : Nat} (h : QX G σ n x) (hq : q ≠ 1) : QX G (va_up σ q e) n x := h.fr (ps := [q]) (fr3 fr0 (List.mem_singleton.mpr rfl)) (fun z => hq (List.mem_singleton.mp z).symm)
def dv (x : Nat → Int32) (k : Nat) : Nat := (x k).toNatClampNeg - 48
def nv (x : Nat → Int32) (p : Nat) : Nat → Nat
  | 0 => 0
  | 1 => dv x p
  | _ => 10 * dv x p + dv x (p + 1)
theorem dv_d {x : Nat → Int32} {k : Nat} (h : dgt (x k) ≠ none) : dv x k < 10 ∧ x k = nI (48 + dv x k) ∧ dgt (x k) = some (dv x k) := by
  rcases hd : dgt (x k) with _ | g
  · exact absurd hd h
  · obtain ⟨a, b⟩ := dgt_some hd
    have : dv x k = g := by
      unfold dv
      rw [b, nI_clamp (by omega)]
      omega
    rw [this]
    exact ⟨a, b, rfl⟩
theorem dgt_in (c : Int32) : inB c.toInt64 (nI 48).toInt64 (nI 57).toInt64 = true ↔ dgt c ≠ none := by
  rw [inB_c c (by decide) (by decide), decide_eq_true_iff]
  unfold dgt
  show ¬ (c < 48 ∨ 57 < c) ↔ _
  by_cases h : c < 48 ∨ 57 < c
  · rw [if_pos h]; simp [h]
  · rw [if_neg h]; simp [h]
theorem numS_s {x : Nat → Int32} {d k s g : Nat} (h : dgt (x k) = some g) : numS x (d + 1) k s = numS x d (k + 1) (10 * s + g) := by
  rw [numS, h]
theorem numN_nv {x : Nat → Int32} {p k : Nat} (h : ∀ j, p ≤ j → j < k → dgt (x j) ≠ none) : numN x p k = if 1 ≤ k - p ∧ k - p ≤ 2 then some (nv x p (k - p)) else none := by
  unfold numN
  by_cases q : 1 ≤ k - p ∧ k - p ≤ 2
  · rw [if_pos q, if_pos (by omega)]
    have h0 := (dv_d (h p (by omega) (by omega))).2.2
    have : k - p = 1 ∨ k - p = 2 := by omega
    rcases this with e | e
    · rw [e]
      have s1 : numS x 1 p 0 = numS x 0 (p + 1) (10 * 0 + dv x p) := numS_s h0
      rw [s1]
      show some (10 * 0 + dv x p) = some (dv x p)
      rw [Nat.mul_zero, Nat.zero_add]
    · have h1 := (dv_d (h (p + 1) (by omega) (by omega))).2.2
      rw [e]
      have s1 : numS x 2 p 0 = numS x 1 (p + 1) (10 * 0 + dv x p) := numS_s h0
      have s2 : numS x 1 (p + 1) (10 * 0 + dv x p) = numS x 0 (p + 1 + 1) (10 * (10 * 0 + dv x p) + dv x (p + 1)) := numS_s h1
      rw [s1, s2]
      show some (10 * (10 * 0 + dv x p) + dv x (p + 1)) = some (10 * dv x p + dv x (p + 1))
      rw [Nat.mul_zero, Nat.zero_add]
  · rw [if_neg q, if_neg (by omega)]
theorem nv_lt {x : Nat → Int32} {p k : Nat} (h : ∀ j, p ≤ j → j < k → dgt (x j) ≠ none) : nv x p (k - p) < 100 := by
  rcases e : k - p with _ | _ | j
  · show 0 < 100
    decide
  · have := (dv_d (h p (by omega) (by omega))).1
    show dv x p < 100
    omega
  · have := (dv_d (h p (by omega) (by omega))).1
    have := (dv_d (h (p + 1) (by omega) (by omega))).1
    show 10 * dv x p + dv x (p + 1) < 100
    omega
section RP2
variable {G : GG} {σ : WW} {T P : TS} {n : Nat} {x : Nat → Int32} {kept done rm : Int32}
theorem r_number {p : Nat} (hp : p ≤ n) (hn : n ≤ 300) (h0 : Cl G σ 0 (cRef G (nI n) (nI p) kept done rm)) (hx : QX G σ n x) : Mt G mX10_number [.ref (ga G 0)] σ (some (.int (oN (numN x p (ren x n p))))) (va_up σ 0 (cRef G (nI n) (nI (ren x n p)) kept done rm)) := by
  obtain ⟨f, h1, hf⟩ := hx
  refine Mt.of (by decide +kernel) (Nat.le_of_ble_eq_true rfl) (fun κ C => ?_)
  have fin : ∀ k, p ≤ k → k ≤ n → (∀ j, p ≤ j → j < k → dgt (x j) ≠ none) → Go G mX10_number κ (some (.int (oN (numN x p k)))) (va_up σ 0 (cRef G (nI n) (nI k) kept done rm)) (va_up σ 0 (cRef G (nI n) (nI k) kept done rm)) 80 [(0, .ref (ga G 0)), (1, .int (nI (nv x p (k - p)))), (2, .int (nI (k - p)))] [] := by
    intro k h1 h2 h3
    rw [numN_nv h3]
    have eb := inB_n (z := k - p) (a := 1) (b := 2) (by omega) (by decide) (by decide)
    refine g_iload_n (pc := 80) C dX10_number_80 rfl ?_
    refine g_i2l (pc := 81) C dX10_number_81 ?_
    refine g_lconst (pc := 82) (v := 1) C dX10_number_82 (by decide) ?_
    refine g_ldc2 (pc := 83) C dX10_number_83 k_X10_89 ?_
    refine cl_X10_74 (pc := 86) C rfl (r_in _ _ _) dX10_number_86 rfl (Nat.le_of_ble_eq_true rfl) ?_
    refine g_if_eq (pc := 89) C 96 dX10_number_89 (by decide) (fun c89 => ?_) (fun c89 => ?_)
    · refine g_iconst (pc := 96) (v := -1) C dX10_number_96 (by decide) ?_
      exact g_ireturn (pc := 97) C dX10_number_97 rfl (by first | (have c := b2_0.mp c89; change inB (nI (k - p)).toInt64 (nI 1).toInt64 (nI 2).toInt64 = false at c; rw [eb, decide_eq_false_iff_not] at c; rw [if_neg c]; rfl) | (have c := b2_n0.mp c89; change inB (nI (k - p)).toInt64 (nI 1).toInt64 (nI 2).toInt64 = true at c; rw [eb, decide_eq_true_iff] at c; rw [if_pos c]; rfl)) (rfl)
    · refine g_iload_n (pc := 92) C dX10_number_92 rfl ?_
      refine g_goto (pc := 93) C 97 dX10_number_93 (by decide) ?_
      exact g_ireturn (pc := 97) C dX10_number_97 rfl (by first | (have c := b2_0.mp c89; change inB (nI (k - p)).toInt64 (nI 1).toInt64 (nI 2).toInt64 = false at c; rw [eb, decide_eq_false_iff_not] at c; rw [if_neg c]; rfl) | (have c := b2_n0.mp c89; change inB (nI (k - p)).toInt64 (nI 1).toInt64 (nI 2).toInt64 = true at c; rw [eb, decide_eq_true_iff] at c; rw [if_pos c]; rfl)) (rfl)
  have loop : ∀ d k, k + d = n → p ≤ k → (∀ j, p ≤ j → j < k → dgt (x j) ≠ none) → Go G mX10_number κ (some (.int (oN (numN x p (rnd x d k))))) (va_up σ 0 (cRef G (nI n) (nI (rnd x d k)) kept done rm)) (va_up σ 0 (cRef G (nI n) (nI k) kept done rm)) 4 [(0, .ref (ga G 0)), (1, .int (nI (nv x p (k - p)))), (2, .int (nI (k - p)))] [] := by
    intro d
    induction d with
    | zero =>
      intro k hk hpk hd
      have y0 : Cl G (va_up σ 0 (cRef G (nI n) (nI k) kept done rm)) 0 (cRef G (nI n) (nI k) kept done rm) := Cl.s h0
      have := fin k hpk (by omega) hd
      refine g_aload_n (pc := 4) C dX10_number_4 rfl ?_
      apply gf_X10_82 (pc := 5) C rfl dX10_number_5
      · repeat (first | assumption | exact Cl.s (by assumption) | refine Cl.n (by first | decide | omega) ?_)
      · rfl
      refine g_aload_n (pc := 8) C dX10_number_8 rfl ?_
      apply gf_X10_78 (pc := 9) C rfl dX10_number_9
      · repeat (first | assumption | exact Cl.s (by assumption) | refine Cl.n (by first | decide | omega) ?_)
      · rfl
      refine g_icmp_ge (pc := 12) C 80 dX10_number_12 (by decide) (fun c12 => ?_) (fun c12 => ?_)
      · exact g_to this ⟨rfl, rfl, rfl, trivial⟩
      · exact absurd (nI_le (by omega) (by omega)) c12
    | succ d ih =>
      intro k hk hpk hd
      have y0 : Cl G (va_up σ 0 (cRef G (nI n) (nI k) kept done rm)) 0 (cRef G (nI n) (nI k) kept done rm) := Cl.s h0
      have y1 : Cl G (va_up σ 0 (cRef G (nI n) (nI k) kept done rm)) 1 (bA G 300 f) := Cl.n (by decide) h1
      have hv := nv_lt hd
      by_cases hc : dgt (x k) = none
      · rw [show rnd x (d + 1) k = k by unfold rnd; rw [if_pos hc]]
        have := fin k hpk (by omega) hd
        have hb : inB (x k).toInt64 (nI 48).toInt64 (nI 57).toInt64 = false := by
          cases hq : inB (x k).toInt64 (nI 48).toInt64 (nI 57).toInt64
          · rfl
          · exact absurd hc ((dgt_in _).mp hq)
        refine g_aload_n (pc := 4) C dX10_number_4 rfl ?_
        apply gf_X10_82 (pc := 5) C rfl dX10_number_5
        · repeat (first | assumption | exact Cl.s (by assumption) | refine Cl.n (by first | decide | omega) ?_)
        · rfl
        refine g_aload_n (pc := 8) C dX10_number_8 rfl ?_
        apply gf_X10_78 (pc := 9) C rfl dX10_number_9
        · repeat (first | assumption | exact Cl.s (by assumption) | refine Cl.n (by first | decide | omega) ?_)
        · rfl
        refine g_icmp_ge (pc := 12) C 80 dX10_number_12 (by decide) (fun c12 => ?_) (fun c12 => ?_)
        · exact absurd c12 (nI_ge (by omega) (by omega))
        · refine g_aload_n (pc := 15) C dX10_number_15 rfl ?_
          apply gf_X10_7 (pc := 16) C rfl dX10_number_16
          · repeat (first | assumption | exact Cl.s (by assumption) | refine Cl.n (by first | decide | omega) ?_)
          · rfl
          refine g_aload_n (pc := 19) C dX10_number_19 rfl ?_
          apply gf_X10_82 (pc := 20) C rfl dX10_number_20
          · repeat (first | assumption | exact Cl.s (by assumption) | refine Cl.n (by first | decide | omega) ?_)
          · rfl
          apply g_baload (pc := 23) C dX10_number_23
          · repeat (first | assumption | exact Cl.s (by assumption) | refine Cl.n (by first | decide | omega) ?_)
          · exact vp_in_nI (by omega) (by decide)
          rw [nI_clamp (by omega), hf k (by omega)]
          refine g_i2l (pc := 24) C dX10_number_24 ?_
          refine g_ldc2 (pc := 25) C dX10_number_25 k_X10_85 ?_
          refine g_ldc2 (pc := 28) C dX10_number_28 k_X10_87 ?_
          refine cl_X10_74 (pc := 31) C rfl (r_in _ _ _) dX10_number_31 rfl (Nat.le_of_ble_eq_true rfl) ?_
          refine g_if_eq (pc := 34) C 80 dX10_number_34 (by decide) (fun c34 => ?_) (fun c34 => ?_)
          · exact g_to this ⟨rfl, rfl, rfl, trivial⟩
          · exact absurd (by change nI (b2 (inB (x k).toInt64 (nI 48).toInt64 (nI 57).toInt64)) = 0; rw [hb]; rfl) c34
      · rw [show rnd x (d + 1) k = rnd x d (k + 1) by show (if dgt (x k) = none then k else rnd x d (k + 1)) = _; rw [if_neg hc]]
        have hb := (dgt_in (x k)).mpr hc
        obtain ⟨g1, g2, g3⟩ := dv_d hc
        have hd' : ∀ j, p ≤ j → j < k + 1 → dgt (x j) ≠ none := fun j a b => by
          by_cases e : j = k
          · rw [e]; exact hc
          · exact hd j a (by omega)
        have i2 := ih (k + 1) (by omega) (by omega) hd'
        by_cases h2 : k - p < 2
        · have ev : 10 * nv x p (k - p) + (48 + dv x k) - 48 = nv x p (k + 1 - p) := by
            have : k - p = 0 ∨ k - p = 1 := by omega
            rcases this with e | e
            · rw [e, show k + 1 - p = 1 by omega, show k = p by omega]
              show 10 * 0 + (48 + dv x p) - 48 = dv x p
              omega
            · rw [e, show k + 1 - p = 2 by omega, show k = p + 1 by omega]
              show 10 * dv x p + (48 + dv x (p + 1)) - 48 = 10 * dv x p + dv x (p + 1)
              omega
          refine g_aload_n (pc := 4) C dX10_number_4 rfl ?_
          apply gf_X10_82 (pc := 5) C rfl dX10_number_5
          · repeat (first | assumption | exact Cl.s (by assumption) | refine Cl.n (by first | decide | omega) ?_)
          · rfl
          refine g_aload_n (pc := 8) C dX10_number_8 rfl ?_
          apply gf_X10_78 (pc := 9) C rfl dX10_number_9
          · repeat (first | assumption | exact Cl.s (by assumption) | refine Cl.n (by first | decide | omega) ?_)
          · rfl
          refine g_icmp_ge (pc := 12) C 80 dX10_number_12 (by decide) (fun c12 => ?_) (fun c12 => ?_)
          · exact absurd c12 (nI_ge (by omega) (by omega))
          · refine g_aload_n (pc := 15) C dX10_number_15 rfl ?_
            apply gf_X10_7 (pc := 16) C rfl dX10_number_16
            · repeat (first | assumption | exact Cl.s (by assumption) | refine Cl.n (by first | decide | omega) ?_)
            · rfl
            refine g_aload_n (pc := 19) C dX10_number_19 rfl ?_
            apply gf_X10_82 (pc := 20) C rfl dX10_number_20
            · repeat (first | assumption | exact Cl.s (by assumption) | refine Cl.n (by first | decide | omega) ?_)
            · rfl
            apply g_baload (pc := 23) C dX10_number_23
            · repeat (first | assumption | exact Cl.s (by assumption) | refine Cl.n (by first | decide | omega) ?_)
            · exact vp_in_nI (by omega) (by decide)
            rw [nI_clamp (by omega), hf k (by omega)]
            refine g_i2l (pc := 24) C dX10_number_24 ?_
            refine g_ldc2 (pc := 25) C dX10_number_25 k_X10_85 ?_
            refine g_ldc2 (pc := 28) C dX10_number_28 k_X10_87 ?_
            refine cl_X10_74 (pc := 31) C rfl (r_in _ _ _) dX10_number_31 rfl (Nat.le_of_ble_eq_true rfl) ?_
            refine g_if_eq (pc := 34) C 80 dX10_number_34 (by decide) (fun c34 => ?_) (fun c34 => ?_)
            · exact absurd c34 (by change ¬ nI (b2 (inB (x k).toInt64 (nI 48).toInt64 (nI 57).toInt64)) = 0; rw [hb]; decide)
            · refine g_iload_n (pc := 37) C dX10_number_37 rfl ?_
              refine g_iconst (pc := 38) (v := nI 2) C dX10_number_38 (by decide) ?_
              refine g_icmp_ge (pc := 39) C 62 dX10_number_39 (by decide) (fun c39 => ?_) (fun c39 => ?_)
              · exact absurd c39 (nI_ge h2 (by decide))
              · refine g_bipush (pc := 42) (v := nI 10) C dX10_number_42 (by decide) ?_
                refine g_iload_n (pc := 44) C dX10_number_44 rfl ?_
                refine g_imul (pc := 45) C dX10_number_45 ?_
                refine g_aload_n (pc := 46) C dX10_number_46 rfl ?_
                apply gf_X10_7 (pc := 47) C rfl dX10_number_47
                · repeat (first | assumption | exact Cl.s (by assumption) | refine Cl.n (by first | decide | omega) ?_)
                · rfl
                refine g_aload_n (pc := 50) C dX10_number_50 rfl ?_
                apply gf_X10_82 (pc := 51) C rfl dX10_number_51
                · repeat (first | assumption | exact Cl.s (by assumption) | refine Cl.n (by first | decide | omega) ?_)
                · rfl
                apply g_baload (pc := 54) C dX10_number_54
                · repeat (first | assumption | exact Cl.s (by assumption) | refine Cl.n (by first | decide | omega) ?_)
                · exact vp_in_nI (by omega) (by decide)
                rw [nI_clamp (by omega), hf k (by omega), g2, pk_mul]
                refine g_iadd (pc := 55) C dX10_number_55 ?_
                refine g_bipush (pc := 56) (v := nI 48) C dX10_number_56 (by decide) ?_
                rw [nI_add]
                refine g_isub (pc := 58) C dX10_number_58 ?_
                refine g_goto (pc := 59) C 63 dX10_number_59 (by decide) ?_
                rw [pk_sub (by omega), ev]
                refine g_istore_n (pc := 63) C dX10_number_63 (by decide) rfl ?_
                refine g_iinc (pc := 64) C dX10_number_64 rfl (by decide) rfl ?_
                refine g_aload_n (pc := 67) C dX10_number_67 rfl ?_
                refine g_dup (pc := 68) C dX10_number_68 rfl ?_
                apply gf_X10_82 (pc := 69) C rfl dX10_number_69
                · repeat (first | assumption | exact Cl.s (by assumption) | refine Cl.n (by first | decide | omega) ?_)
                · rfl
                refine g_iconst (pc := 72) (v := nI 1) C dX10_number_72 (by decide) ?_
                refine g_iadd (pc := 73) C dX10_number_73 ?_
                rw [nI_add]
                apply pf_X10_82 (pc := 74) C rfl dX10_number_74
                · repeat (first | assumption | exact Cl.s (by assumption) | refine Cl.n (by first | decide | omega) ?_)
                · rfl
                · rfl
                · exact Nat.le_of_ble_eq_true rfl
                intro hw74
                refine g_goto (pc := 77) C 4 dX10_number_77 (by decide) ?_
                rw [bx_uu σ 0]
                exact g_to i2 ⟨rfl, rfl, lgi (by rw [show k + 1 - p = k - p + 1 by omega]; exact nI_1 (k - p)), trivial⟩
        · have ev : nv x p (k - p) = nv x p (k + 1 - p) := by
            obtain ⟨j, hj⟩ : ∃ j, k - p = j + 2 := ⟨k - p - 2, by omega⟩
            rw [show k + 1 - p = j + 1 + 2 by omega, hj]
            rfl
          refine g_aload_n (pc := 4) C dX10_number_4 rfl ?_
          apply gf_X10_82 (pc := 5) C rfl dX10_number_5
          · repeat (first | assumption | exact Cl.s (by assumption) | refine Cl.n (by first | decide | omega) ?_)
          · rfl
          refine g_aload_n (pc := 8) C dX10_number_8 rfl ?_
          apply gf_X10_78 (pc := 9) C rfl dX10_number_9
          · repeat (first | assumption | exact Cl.s (by assumption) | refine Cl.n (by first | decide | omega) ?_)
          · rfl
          refine g_icmp_ge (pc := 12) C 80 dX10_number_12 (by decide) (fun c12 => ?_) (fun c12 => ?_)
          · exact absurd c12 (nI_ge (by omega) (by omega))
          · refine g_aload_n (pc := 15) C dX10_number_15 rfl ?_
            apply gf_X10_7 (pc := 16) C rfl dX10_number_16
            · repeat (first | assumption | exact Cl.s (by assumption) | refine Cl.n (by first | decide | omega) ?_)
            · rfl
            refine g_aload_n (pc := 19) C dX10_number_19 rfl ?_
            apply gf_X10_82 (pc := 20) C rfl dX10_number_20
            · repeat (first | assumption | exact Cl.s (by assumption) | refine Cl.n (by first | decide | omega) ?_)
            · rfl
            apply g_baload (pc := 23) C dX10_number_23
            · repeat (first | assumption | exact Cl.s (by assumption) | refine Cl.n (by first | decide | omega) ?_)
            · exact vp_in_nI (by omega) (by decide)
            rw [nI_clamp (by omega), hf k (by omega)]
            refine g_i2l (pc := 24) C dX10_number_24 ?_
            refine g_ldc2 (pc := 25) C dX10_number_25 k_X10_85 ?_
            refine g_ldc2 (pc := 28) C dX10_number_28 k_X10_87 ?_
            refine cl_X10_74 (pc := 31) C rfl (r_in _ _ _) dX10_number_31 rfl (Nat.le_of_ble_eq_true rfl) ?_
            refine g_if_eq (pc := 34) C 80 dX10_number_34 (by decide) (fun c34 => ?_) (fun c34 => ?_)
            · exact absurd c34 (by change ¬ nI (b2 (inB (x k).toInt64 (nI 48).toInt64 (nI 57).toInt64)) = 0; rw [hb]; decide)
            · refine g_iload_n (pc := 37) C dX10_number_37 rfl ?_
              refine g_iconst (pc := 38) (v := nI 2) C dX10_number_38 (by decide) ?_
              refine g_icmp_ge (pc := 39) C 62 dX10_number_39 (by decide) (fun c39 => ?_) (fun c39 => ?_)
              · refine g_iload_n (pc := 62) C dX10_number_62 rfl ?_
                refine g_istore_n (pc := 63) C dX10_number_63 (by decide) rfl ?_
                refine g_iinc (pc := 64) C dX10_number_64 rfl (by decide) rfl ?_
                refine g_aload_n (pc := 67) C dX10_number_67 rfl ?_
                refine g_dup (pc := 68) C dX10_number_68 rfl ?_
                apply gf_X10_82 (pc := 69) C rfl dX10_number_69
                · repeat (first | assumption | exact Cl.s (by assumption) | refine Cl.n (by first | decide | omega) ?_)
                · rfl
                refine g_iconst (pc := 72) (v := nI 1) C dX10_number_72 (by decide) ?_
                refine g_iadd (pc := 73) C dX10_number_73 ?_
                rw [nI_add]
                apply pf_X10_82 (pc := 74) C rfl dX10_number_74
                · repeat (first | assumption | exact Cl.s (by assumption) | refine Cl.n (by first | decide | omega) ?_)
                · rfl
                · rfl
                · exact Nat.le_of_ble_eq_true rfl
                intro hw74
                refine g_goto (pc := 77) C 4 dX10_number_77 (by decide) ?_
                rw [bx_uu σ 0]
                exact g_to i2 ⟨rfl, lgi (by rw [ev]), lgi (by rw [show k + 1 - p = k - p + 1 by omega]; exact nI_1 (k - p)), trivial⟩
              · exact absurd (nI_le (by omega) (by omega)) c39
  have l0 := loop (n - p) p (by omega) (Nat.le_refl _) (fun j a b => by omega)
  rw [va_self h0.2, Nat.sub_self] at l0
  refine g_iconst (pc := 0) (v := nI 0) C dX10_number_0 (by decide) ?_
  refine g_istore_n (pc := 1) C dX10_number_1 (by decide) rfl ?_
  refine g_iconst (pc := 2) (v := nI 0) C dX10_number_2 (by decide) ?_
  refine g_istore_n (pc := 3) C dX10_number_3 (by decide) rfl ?_
  exact g_to l0 ⟨rfl, rfl, rfl, trivial⟩
theorem r_borrowed {ft fn fv fl fm fp : Nat → Int32} {at_ : Int32} (h0 : Cl G σ 0 (cRef G (nI n) at_ kept done rm)) (hA : QA G σ ft fn fv fl fm fp) (hP : tP P ft fn fv fl fm fp) : Mt G mX10_borrowed [.ref (ga G 0)] σ (some (.int (nI (sumb (tb P) (tn P))))) σ := by
  obtain ⟨h2, h3, h4, h5, h6, h7⟩ := hA
  obtain ⟨hW, p0, p1, p2, p3, p4, p5, p6⟩ := hP
  have hn := hW.1
  refine Mt.of (by decide +kernel) (Nat.le_of_ble_eq_true rfl) (fun κ C => ?_)
  have loop : ∀ d t, t + d = tn P → Go G mX10_borrowed κ (some (.int (nI (sumb (tb P) (tn P))))) σ σ 4 [(0, .ref (ga G 0)), (1, .int (nI (sumb (tb P) t))), (2, .int (nI t))] [] := by
    intro d
    induction d with
    | zero =>
      intro t ht
      refine g_iload_n (pc := 4) C dX10_borrowed_4 rfl ?_
      refine g_aload_n (pc := 5) C dX10_borrowed_5 rfl ?_
      apply gf_X10_17 (pc := 6) C rfl dX10_borrowed_6
      · repeat (first | assumption | exact Cl.s (by assumption) | refine Cl.n (by first | decide | omega) ?_)
      · rfl
      refine g_iconst (pc := 9) (v := nI 1) C dX10_borrowed_9 (by decide) ?_
      apply g_iaload (pc := 10) C dX10_borrowed_10
      · repeat (first | assumption | exact Cl.s (by assumption) | refine Cl.n (by first | decide | omega) ?_)
      · exact vp_in_nI (n := 1) (by decide) (by decide)
      rw [nI_clamp (by decide), p2]
      refine g_icmp_ge (pc := 11) C 31 dX10_borrowed_11 (by decide) (fun c11 => ?_) (fun c11 => ?_)
      · refine g_iload_n (pc := 31) C dX10_borrowed_31 rfl ?_
        exact g_ireturn (pc := 32) C dX10_borrowed_32 rfl (by rw [show t = tn P by omega]) (rfl)
      · exact absurd (nI_le (by omega) (by omega)) c11
    | succ d ih =>
      intro t ht
      refine g_iload_n (pc := 4) C dX10_borrowed_4 rfl ?_
      refine g_aload_n (pc := 5) C dX10_borrowed_5 rfl ?_
      apply gf_X10_17 (pc := 6) C rfl dX10_borrowed_6
      · repeat (first | assumption | exact Cl.s (by assumption) | refine Cl.n (by first | decide | omega) ?_)
      · rfl
      refine g_iconst (pc := 9) (v := nI 1) C dX10_borrowed_9 (by decide) ?_
      apply g_iaload (pc := 10) C dX10_borrowed_10
      · repeat (first | assumption | exact Cl.s (by assumption) | refine Cl.n (by first | decide | omega) ?_)
      · exact vp_in_nI (n := 1) (by decide) (by decide)
      rw [nI_clamp (by decide), p2]
      refine g_icmp_ge (pc := 11) C 31 dX10_borrowed_11 (by decide) (fun c11 => ?_) (fun c11 => ?_)
      · exact absurd c11 (nI_ge (by omega) (by omega))
      · refine g_iload_n (pc := 14) C dX10_borrowed_14 rfl ?_
        refine g_aload_n (pc := 15) C dX10_borrowed_15 rfl ?_
        apply gf_X10_23 (pc := 16) C rfl dX10_borrowed_16
        · repeat (first | assumption | exact Cl.s (by assumption) | refine Cl.n (by first | decide | omega) ?_)
        · rfl
        refine g_iconst (pc := 19) (v := nI 5) C dX10_borrowed_19 (by decide) ?_
        refine g_iload_n (pc := 20) C dX10_borrowed_20 rfl ?_
        refine g_iadd (pc := 21) C dX10_borrowed_21 ?_
        rw [nI_add]
        apply g_iaload (pc := 22) C dX10_borrowed_22
        · repeat (first | assumption | exact Cl.s (by assumption) | refine Cl.n (by first | decide | omega) ?_)
        · exact vp_in_nI (by omega) (by decide)
        rw [nI_clamp (by omega), p5 t (by omega)]
        refine g_iadd (pc := 23) C dX10_borrowed_23 ?_
        refine g_istore_n (pc := 24) C dX10_borrowed_24 (by decide) rfl ?_
        refine g_iinc (pc := 25) C dX10_borrowed_25 rfl (by decide) rfl ?_
        refine g_goto (pc := 28) C 4 dX10_borrowed_28 (by decide) ?_
        exact g_to (ih (t + 1) (by omega)) ⟨rfl, lgi (by rw [nI_add]; rfl), lgi (nI_1 t), trivial⟩
  refine g_iconst (pc := 0) (v := nI 0) C dX10_borrowed_0 (by decide) ?_
  refine g_istore_n (pc := 1) C dX10_borrowed_1 (by decide) rfl ?_
  refine g_iconst (pc := 2) (v := nI 0) C dX10_borrowed_2 (by decide) ?_
  refine g_istore_n (pc := 3) C dX10_borrowed_3 (by decide) rfl ?_
  exact g_to (loop (tn P) 0 (by omega)) ⟨rfl, rfl, rfl, trivial⟩
end RP2

