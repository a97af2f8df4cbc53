/-! the class reads a text into the spare cells at 10, 24, 25, 26 -/
def RP (G : GG) (σ : WW) (T : TS) : Prop := ∃ (fv fl fh : Nat → Int32), Cl G σ 10 (cTold G 24 25 26 (nI (tn T)) (nI (tm T)) (nI (bset T)) (nI (hcn T (tn T))) (nI (tl T)) (nI (tg T))) ∧ Cl G σ 24 (iA G 5 fv) ∧ Cl G σ 25 (iA G 9 fl) ∧ Cl G σ 26 (iA G 16 fh) ∧ TW T ∧ (∀ t, t < tn T → fv t = nI (tv T t)) ∧ (∀ i, i < tm T → fl i = nI (lkn (tp T i) (tn T))) ∧ (∀ j, j < hcn T (tn T) → fh j = nI (hatn T (tn T) j))
def RPa (G : GG) (σ : WW) : Prop := ∃ (fv fl fh : Nat → Int32) (a b c d e f : Int32), Cl G σ 10 (cTold G 24 25 26 a b c d e f) ∧ Cl G σ 24 (iA G 5 fv) ∧ Cl G σ 25 (iA G 9 fl) ∧ Cl G σ 26 (iA G 16 fh)
theorem RP.a {G : GG} {σ : WW} {T : TS} (h : RP G σ T) : RPa G σ := by
  obtain ⟨fv, fl, fh, a, b, c, d, -⟩ := h
  exact ⟨fv, fl, fh, _, _, _, _, _, _, a, b, c, d⟩
theorem RPa.fr {G : GG} {σ σ' : WW} {ps : List Nat} (h : RPa G σ) (f : Fr σ σ' ps) (h9 : 10 ∉ ps) (h21 : 24 ∉ ps) (h22 : 25 ∉ ps) (h23 : 26 ∉ ps) : RPa G σ' := by
  obtain ⟨fv, fl, fh, a, b, c, d, e, g, p, q, r, s⟩ := h
  exact ⟨fv, fl, fh, a, b, c, d, e, g, p.fr f h9, q.fr f h21, r.fr f h22, s.fr f h23⟩
abbrev sp4 : List Nat := [10, 24, 25, 26]
section TOLD3
variable {G : GG} {σ : WW} {P : TS}
theorem t_told_clear (h : RPa G σ) : ∃ σ', Mt G mX7_clear [.ref (ga G 10)] σ none σ' ∧ RP G σ' P0 ∧ Fr σ σ' sp4 := by
  obtain ⟨fv, fl, fh, a, b, c, d, e, f, h10, h24, h25, h26⟩ := h
  refine ⟨va_up (va_up σ 26 (iA G 16 (upd fh 0 (nI 0)))) 10 (cTold G 24 25 26 (nI 0) (nI 0) (nI 0) (nI 1) (nI 0) (nI 31)), ?_, ?_, fr3 (fr3 fr0 (by decide)) (by decide)⟩
  · refine Mt.of (by decide +kernel) (Nat.le_of_ble_eq_true rfl) (fun κ C => ?_)
    refine g_aload_n (pc := 0) C dX7_clear_0 rfl ?_
    refine g_iconst (pc := 1) (v := nI 0) C dX7_clear_1 (by decide) ?_
    apply pf_X7_21 (pc := 2) C rfl dX7_clear_2
    · repeat (first | assumption | exact Cl.s (by assumption) | refine Cl.n (by first | decide | omega) ?_)
    · rfl
    · rfl
    · exact Nat.le_of_ble_eq_true rfl
    intro hw2
    refine g_aload_n (pc := 5) C dX7_clear_5 rfl ?_
    refine g_iconst (pc := 6) (v := nI 0) C dX7_clear_6 (by decide) ?_
    apply pf_X7_25 (pc := 7) C rfl dX7_clear_7
    · repeat (first | assumption | exact Cl.s (by assumption) | refine Cl.n (by first | decide | omega) ?_)
    · rfl
    · rfl
    · exact Nat.le_of_ble_eq_true rfl
    intro hw7
    refine g_aload_n (pc := 10) C dX7_clear_10 rfl ?_
    refine g_iconst (pc := 11) (v := nI 0) C dX7_clear_11 (by decide) ?_
    apply pf_X7_28 (pc := 12) C rfl dX7_clear_12
    · repeat (first | assumption | exact Cl.s (by assumption) | refine Cl.n (by first | decide | omega) ?_)
    · rfl
    · rfl
    · exact Nat.le_of_ble_eq_true rfl
    intro hw12
    refine g_aload_n (pc := 15) C dX7_clear_15 rfl ?_
    apply gf_X7_18 (pc := 16) C rfl dX7_clear_16
    · repeat (first | assumption | exact Cl.s (by assumption) | refine Cl.n (by first | decide | omega) ?_)
    · rfl
    refine g_iconst (pc := 19) (v := nI 0) C dX7_clear_19 (by decide) ?_
    refine g_iconst (pc := 20) (v := nI 0) C dX7_clear_20 (by decide) ?_
    apply g_iastore (pc := 21) C dX7_clear_21
    · repeat (first | assumption | exact Cl.s (by assumption) | refine Cl.n (by first | decide | omega) ?_)
    · exact vp_in_nI (n := 0) (by decide) (by decide)
    intro hw21
    refine g_aload_n (pc := 22) C dX7_clear_22 rfl ?_
    refine g_iconst (pc := 23) (v := nI 1) C dX7_clear_23 (by decide) ?_
    apply pf_X7_31 (pc := 24) C rfl dX7_clear_24
    · repeat (first | assumption | exact Cl.s (by assumption) | refine Cl.n (by first | decide | omega) ?_)
    · rfl
    · rfl
    · exact Nat.le_of_ble_eq_true rfl
    intro hw24
    refine g_aload_n (pc := 27) C dX7_clear_27 rfl ?_
    refine g_iconst (pc := 28) (v := nI 0) C dX7_clear_28 (by decide) ?_
    apply pf_X7_34 (pc := 29) C rfl dX7_clear_29
    · repeat (first | assumption | exact Cl.s (by assumption) | refine Cl.n (by first | decide | omega) ?_)
    · rfl
    · rfl
    · exact Nat.le_of_ble_eq_true rfl
    intro hw29
    refine g_aload_n (pc := 32) C dX7_clear_32 rfl ?_
    refine g_bipush (pc := 33) (v := nI 31) C dX7_clear_33 (by decide) ?_
    apply pf_X7_37 (pc := 35) C rfl dX7_clear_35
    · repeat (first | assumption | exact Cl.s (by assumption) | refine Cl.n (by first | decide | omega) ?_)
    · rfl
    · rfl
    · exact Nat.le_of_ble_eq_true rfl
    intro hw35
    exact g_return (pc := 38) C dX7_clear_38 rfl rfl (by funext j; simp only [va_up]; by_cases e1 : j = 10 <;> by_cases e2 : j = 26 <;> simp [e1, e2] <;> rfl)
  · refine ⟨fv, fl, upd fh 0 (nI 0), Cl.s (Cl.n (by decide) h10), Cl.n (by decide) (Cl.n (by decide) h24), Cl.n (by decide) (Cl.n (by decide) h25), Cl.n (by decide) (Cl.s h26), TW_P0, fun t h => absurd h (Nat.not_lt_zero t), fun t h => absurd h (Nat.not_lt_zero t), fun j hj => ?_⟩
    have hj : j < 1 := hj
    rw [show j = 0 by omega, pk_us]
    rfl
theorem t_takeLaw {o : Option Nat} (h : RP G σ P) (ho : ∀ v, o = some v → v < 100) : ∃ σ', Mt G mX7_takeLaw [.ref (ga G 10), .int (oN o)] σ (some (.int (nI (b2 (lawO P o).isSome)))) σ' ∧ (match lawO P o with | some P' => RP G σ' P' | none => RP G σ' P) ∧ Fr σ σ' sp4 := by
  have h' := h
  obtain ⟨fv, fl, fh, h10, h24, h25, h26, hW, hv, hl, hh⟩ := h
  rcases o with _ | k
  · refine ⟨σ, ?_, h', fr0⟩
    refine Mt.of (by decide +kernel) (Nat.le_of_ble_eq_true rfl) (fun κ C => ?_)
    refine g_iload_n (pc := 0) C dX7_takeLaw_0 rfl ?_
    refine g_if_lt (pc := 1) C 9 dX7_takeLaw_1 (by decide) (fun c1 => ?_) (fun c1 => ?_)
    · refine g_iconst (pc := 9) (v := nI 0) C dX7_takeLaw_9 (by decide) ?_
      exact g_zreturn (pc := 10) C dX7_takeLaw_10 rfl (by first | exact Or.inl rfl | exact Or.inr rfl) (rfl) (rfl)
    · exact absurd (by decide) c1
  · have hk := ho k rfl
    by_cases hc : k ≤ 3
    · rw [show lawO P (some k) = some (lawS P k) by simp [lawO, hc]]
      refine ⟨va_up σ 10 (cTold G 24 25 26 (nI (tn P)) (nI (tm P)) (nI (bset P)) (nI (hcn P (tn P))) (nI k) (nI (tg P))), ?_, ?_, fr3 fr0 (by decide)⟩
      · refine Mt.of (by decide +kernel) (Nat.le_of_ble_eq_true rfl) (fun κ C => ?_)
        refine g_iload_n (pc := 0) C dX7_takeLaw_0 rfl ?_
        refine g_if_lt (pc := 1) C 9 dX7_takeLaw_1 (by decide) (fun c1 => ?_) (fun c1 => ?_)
        · exact absurd c1 (nI_pos (by omega))
        · refine g_iload_n (pc := 4) C dX7_takeLaw_4 rfl ?_
          refine g_iconst (pc := 5) (v := nI 3) C dX7_takeLaw_5 (by decide) ?_
          refine g_icmp_le (pc := 6) C 11 dX7_takeLaw_6 (by decide) (fun c6 => ?_) (fun c6 => ?_)
          · refine g_aload_n (pc := 11) C dX7_takeLaw_11 rfl ?_
            refine g_iload_n (pc := 12) C dX7_takeLaw_12 rfl ?_
            apply pf_X7_34 (pc := 13) C rfl dX7_takeLaw_13
            · repeat (first | assumption | exact Cl.s (by assumption) | refine Cl.n (by first | decide | omega) ?_)
            · rfl
            · rfl
            · exact Nat.le_of_ble_eq_true rfl
            intro hw13
            refine g_iconst (pc := 16) (v := nI 1) C dX7_takeLaw_16 (by decide) ?_
            exact g_zreturn (pc := 17) C dX7_takeLaw_17 rfl (by first | exact Or.inl rfl | exact Or.inr rfl) (rfl) (rfl)
          · exact absurd (nI_le hc (by decide)) c6
      · obtain ⟨w1, w2, w3, w4, w5, w6, w7, w8⟩ := hW
        have ec : hcn (lawS P k) (tn P) = hcn P (tn P) := hcn_congr _ (fun t _ => ⟨rfl, rfl⟩)
        refine ⟨fv, fl, fh, ?_, Cl.n (by decide) h24, Cl.n (by decide) h25, Cl.n (by decide) h26, ⟨w1, w2, w3, w4, w5, w6, hc, w8⟩, hv, hl, fun j hj => ?_⟩
        · have := Cl.s (e := cTold G 24 25 26 (nI (tn P)) (nI (tm P)) (nI (bset P)) (nI (hcn P (tn P))) (nI k) (nI (tg P))) h10
          rw [← ec] at this
          rw [← ec]
          exact this
        · have hj : j < hcn (lawS P k) (tn P) := hj
          rw [ec] at hj
          rw [hh j hj]
          exact congrArg nI (hatn_congr (P := P) (Q := lawS P k) _ (fun t _ => ⟨rfl, rfl⟩) j)
    · rw [show lawO P (some k) = none by simp [lawO, hc]]
      refine ⟨σ, ?_, h', fr0⟩
      refine Mt.of (by decide +kernel) (Nat.le_of_ble_eq_true rfl) (fun κ C => ?_)
      refine g_iload_n (pc := 0) C dX7_takeLaw_0 rfl ?_
      refine g_if_lt (pc := 1) C 9 dX7_takeLaw_1 (by decide) (fun c1 => ?_) (fun c1 => ?_)
      · exact absurd c1 (nI_pos (by omega))
      · refine g_iload_n (pc := 4) C dX7_takeLaw_4 rfl ?_
        refine g_iconst (pc := 5) (v := nI 3) C dX7_takeLaw_5 (by decide) ?_
        refine g_icmp_le (pc := 6) C 11 dX7_takeLaw_6 (by decide) (fun c6 => ?_) (fun c6 => ?_)
        · exact absurd c6 (nI_ge (by omega) (by omega))
        · refine g_iconst (pc := 9) (v := nI 0) C dX7_takeLaw_9 (by decide) ?_
          exact g_zreturn (pc := 10) C dX7_takeLaw_10 rfl (by first | exact Or.inl rfl | exact Or.inr rfl) (rfl) (rfl)
theorem t_takeGuard {o : Option Nat} (h : RP G σ P) (ho : ∀ v, o = some v → v < 100) : ∃ σ', Mt G mX7_takeGuard [.ref (ga G 10), .int (oN o)] σ (some (.int (nI (b2 (grdO P o).isSome)))) σ' ∧ (match grdO P o with | some P' => RP G σ' P' | none => RP G σ' P) ∧ Fr σ σ' sp4 := by
  have h' := h
  obtain ⟨fv, fl, fh, h10, h24, h25, h26, hW, hv, hl, hh⟩ := h
  rcases o with _ | k
  · refine ⟨σ, ?_, h', fr0⟩
    refine Mt.of (by decide +kernel) (Nat.le_of_ble_eq_true rfl) (fun κ C => ?_)
    refine g_iload_n (pc := 0) C dX7_takeGuard_0 rfl ?_
    refine g_if_lt (pc := 1) C 10 dX7_takeGuard_1 (by decide) (fun c1 => ?_) (fun c1 => ?_)
    · refine g_iconst (pc := 10) (v := nI 0) C dX7_takeGuard_10 (by decide) ?_
      exact g_zreturn (pc := 11) C dX7_takeGuard_11 rfl (by first | exact Or.inl rfl | exact Or.inr rfl) (rfl) (rfl)
    · exact absurd (by decide) c1
  · have hk := ho k rfl
    by_cases hc : k ≤ 31
    · rw [show grdO P (some k) = some (grdS P k) by simp [grdO, hc]]
      refine ⟨va_up σ 10 (cTold G 24 25 26 (nI (tn P)) (nI (tm P)) (nI (bset P)) (nI (hcn P (tn P))) (nI (tl P)) (nI k)), ?_, ?_, fr3 fr0 (by decide)⟩
      · refine Mt.of (by decide +kernel) (Nat.le_of_ble_eq_true rfl) (fun κ C => ?_)
        refine g_iload_n (pc := 0) C dX7_takeGuard_0 rfl ?_
        refine g_if_lt (pc := 1) C 10 dX7_takeGuard_1 (by decide) (fun c1 => ?_) (fun c1 => ?_)
        · exact absurd c1 (nI_pos (by omega))
        · refine g_iload_n (pc := 4) C dX7_takeGuard_4 rfl ?_
          refine g_bipush (pc := 5) (v := nI 31) C dX7_takeGuard_5 (by decide) ?_
          refine g_icmp_le (pc := 7) C 12 dX7_takeGuard_7 (by decide) (fun c7 => ?_) (fun c7 => ?_)
          · refine g_aload_n (pc := 12) C dX7_takeGuard_12 rfl ?_
            refine g_iload_n (pc := 13) C dX7_takeGuard_13 rfl ?_
            apply pf_X7_37 (pc := 14) C rfl dX7_takeGuard_14
            · repeat (first | assumption | exact Cl.s (by assumption) | refine Cl.n (by first | decide | omega) ?_)
            · rfl
            · rfl
            · exact Nat.le_of_ble_eq_true rfl
            intro hw14
            refine g_iconst (pc := 17) (v := nI 1) C dX7_takeGuard_17 (by decide) ?_
            exact g_zreturn (pc := 18) C dX7_takeGuard_18 rfl (by first | exact Or.inl rfl | exact Or.inr rfl) (rfl) (rfl)
          · exact absurd (nI_le hc (by decide)) c7
      · obtain ⟨w1, w2, w3, w4, w5, w6, w7, w8⟩ := hW
        have ec : hcn (grdS P k) (tn P) = hcn P (tn P) := hcn_congr _ (fun t _ => ⟨rfl, rfl⟩)
        refine ⟨fv, fl, fh, ?_, Cl.n (by decide) h24, Cl.n (by decide) h25, Cl.n (by decide) h26, ⟨w1, w2, w3, w4, w5, w6, w7, hc⟩, hv, hl, fun j hj => ?_⟩
        · have := Cl.s (e := cTold G 24 25 26 (nI (tn P)) (nI (tm P)) (nI (bset P)) (nI (hcn P (tn P))) (nI (tl P)) (nI k)) h10
          rw [← ec] at this
          rw [← ec]
          exact this
        · have hj : j < hcn (grdS P k) (tn P) := hj
          rw [ec] at hj
          rw [hh j hj]
          exact congrArg nI (hatn_congr (P := P) (Q := grdS P k) _ (fun t _ => ⟨rfl, rfl⟩) j)
    · rw [show grdO P (some k) = none by simp [grdO, hc]]
      refine ⟨σ, ?_, h', fr0⟩
      refine Mt.of (by decide +kernel) (Nat.le_of_ble_eq_true rfl) (fun κ C => ?_)
      refine g_iload_n (pc := 0) C dX7_takeGuard_0 rfl ?_
      refine g_if_lt (pc := 1) C 10 dX7_takeGuard_1 (by decide) (fun c1 => ?_) (fun c1 => ?_)
      · exact absurd c1 (nI_pos (by omega))
      · refine g_iload_n (pc := 4) C dX7_takeGuard_4 rfl ?_
        refine g_bipush (pc := 5) (v := nI 31) C dX7_takeGuard_5 (by decide) ?_
        refine g_icmp_le (pc := 7) C 12 dX7_takeGuard_7 (by decide) (fun c7 => ?_) (fun c7 => ?_)
        · exact absurd c7 (nI_ge (by omega) (by omega))
        · refine g_iconst (pc := 10) (v := nI 0) C dX7_takeGuard_10 (by decide) ?_
          exact g_zreturn (pc := 11) C dX7_takeGuard_11 rfl (by first | exact Or.inl rfl | exact Or.inr rfl) (rfl) (rfl)
theorem t_find {n : Nat} {x f : Nat → Int32} (h1 : Cl G σ 1 (cText G n)) (h11 : Cl G σ 11 (bA G 300 f)) (s : Int32) {a e : Nat} (hae : a ≤ e) (he : e ≤ 300) (hf : ∀ k, k < e → f k = x k) : Mt G mX6_find [.ref (ga G 1), .int s, .int (nI a), .int (nI e)] σ (some (.int (nI (fnd x s (e - a) a)))) σ := by
  refine Mt.of (by decide +kernel) (Nat.le_of_ble_eq_true rfl) (fun κ C => ?_)
  have loop : ∀ d k, k + d = e → Go G mX6_find κ (some (.int (nI (fnd x s d k)))) σ σ 3 [(0, .ref (ga G 1)), (1, .int s), (3, .int (nI e)), (4, .int (nI k))] [] := by
    intro d
    induction d with
    | zero =>
      intro k hk
      refine g_iload (pc := 3) C dX6_find_3 rfl ?_
      refine g_iload_n (pc := 5) C dX6_find_5 rfl ?_
      refine g_icmp_ge (pc := 6) C 29 dX6_find_6 (by decide) (fun c6 => ?_) (fun c6 => ?_)
      · refine g_iload_n (pc := 29) C dX6_find_29 rfl ?_
        exact g_ireturn (pc := 30) C dX6_find_30 rfl (by rw [show e = k by omega]; rfl) (rfl)
      · exact absurd (nI_le (by omega) (by omega)) c6
    | succ d ih =>
      intro k hk
      by_cases hc : x k = s
      · refine g_iload (pc := 3) C dX6_find_3 rfl ?_
        refine g_iload_n (pc := 5) C dX6_find_5 rfl ?_
        refine g_icmp_ge (pc := 6) C 29 dX6_find_6 (by decide) (fun c6 => ?_) (fun c6 => ?_)
        · exact absurd c6 (nI_ge (by omega) (by omega))
        · refine g_aload_n (pc := 9) C dX6_find_9 rfl ?_
          apply gf_X6_9 (pc := 10) C rfl dX6_find_10
          · repeat (first | assumption | exact Cl.s (by assumption) | refine Cl.n (by first | decide | omega) ?_)
          · rfl
          refine g_iload (pc := 13) C dX6_find_13 rfl ?_
          apply g_baload (pc := 15) C dX6_find_15
          · repeat (first | assumption | exact Cl.s (by assumption) | refine Cl.n (by first | decide | omega) ?_)
          · exact vp_in_nI (by omega) (by decide)
          refine g_iload_n (pc := 16) C dX6_find_16 rfl ?_
          refine g_icmp_nE (pc := 17) C 23 dX6_find_17 (by decide) (fun c17 => ?_) (fun c17 => ?_)
          · exact absurd (by rw [nI_clamp (by omega), hf k (by omega), hc]) c17
          · refine g_iload (pc := 20) C dX6_find_20 rfl ?_
            exact g_ireturn (pc := 22) C dX6_find_22 rfl (by simp [fnd, hc]) (rfl)
      · rw [show fnd x s (d + 1) k = fnd x s d (k + 1) by simp [fnd, hc]]
        refine g_iload (pc := 3) C dX6_find_3 rfl ?_
        refine g_iload_n (pc := 5) C dX6_find_5 rfl ?_
        refine g_icmp_ge (pc := 6) C 29 dX6_find_6 (by decide) (fun c6 => ?_) (fun c6 => ?_)
        · exact absurd c6 (nI_ge (by omega) (by omega))
        · refine g_aload_n (pc := 9) C dX6_find_9 rfl ?_
          apply gf_X6_9 (pc := 10) C rfl dX6_find_10
          · repeat (first | assumption | exact Cl.s (by assumption) | refine Cl.n (by first | decide | omega) ?_)
          · rfl
          refine g_iload (pc := 13) C dX6_find_13 rfl ?_
          apply g_baload (pc := 15) C dX6_find_15
          · repeat (first | assumption | exact Cl.s (by assumption) | refine Cl.n (by first | decide | omega) ?_)
          · exact vp_in_nI (by omega) (by decide)
          refine g_iload_n (pc := 16) C dX6_find_16 rfl ?_
          refine g_icmp_nE (pc := 17) C 23 dX6_find_17 (by decide) (fun c17 => ?_) (fun c17 => ?_)
          · refine g_iinc (pc := 23) C dX6_find_23 rfl (by decide) rfl ?_
            refine g_goto (pc := 26) C 3 dX6_find_26 (by decide) ?_
            exact g_to (ih (k + 1) (by omega)) ⟨rfl, rfl, rfl, lgi (nI_1 k), trivial⟩
          · exact absurd (by rw [nI_clamp (by omega), hf k (by omega)] at c17; exact c17) hc
  refine g_iload_n (pc := 0) C dX6_find_0 rfl ?_
  refine g_istore (pc := 1) C dX6_find_1 (by decide) rfl ?_
  exact g_to (loop (e - a) a (by omega)) ⟨rfl, rfl, rfl, rfl, trivial⟩
theorem t_number {n : Nat} {x f : Nat → Int32} (h1 : Cl G σ 1 (cText G n)) (h11 : Cl G σ 11 (bA G 300 f)) {a e : Nat} (ha : a ≤ 301) (he : e ≤ 300) (hf : ∀ k, k < e → f k = x k) : Mt G mX6_number [.ref (ga G 1), .int (nI a), .int (nI e)] σ (some (.int (oN (numN x a e)))) σ := by
  refine Mt.of (by decide +kernel) (Nat.le_of_ble_eq_true rfl) (fun κ C => ?_)
  by_cases h0 : e ≤ a
  · have e1 : numN x a e = none := by unfold numN; rw [if_neg (by omega)]
    have e2 : nI e - nI a < nI 1 := by
      rw [Int32.lt_iff_toInt_lt, pk_sub_toInt (by omega) (by omega), nI_toInt (by decide)]
      omega
    rw [e1]
    refine g_iload_n (pc := 0) C dX6_number_0 rfl ?_
    refine g_iload_n (pc := 1) C dX6_number_1 rfl ?_
    refine g_isub (pc := 2) C dX6_number_2 ?_
    refine g_iconst (pc := 3) (v := nI 1) C dX6_number_3 (by decide) ?_
    refine g_icmp_lt (pc := 4) C 14 dX6_number_4 (by decide) (fun c4 => ?_) (fun c4 => ?_)
    · refine g_iconst (pc := 14) (v := -1) C dX6_number_14 (by decide) ?_
      exact g_ireturn (pc := 15) C dX6_number_15 rfl (rfl) (rfl)
    · exact absurd e2 c4
  · have e3 : nI e - nI a = nI (e - a) := pk_sub (by omega)
    by_cases h2 : e ≤ a + 2
    · have e1 : numN x a e = numS x (e - a) a 0 := by unfold numN; rw [if_pos ⟨by omega, h2⟩]
      rw [e1]
      have loop : ∀ d k s, k + d = e → Go G mX6_number κ (some (.int (oN (numS x d k s)))) σ σ 21 [(0, .ref (ga G 1)), (2, .int (nI e)), (3, .int (nI s)), (4, .int (nI k))] [] := by
        intro d
        induction d with
        | zero =>
          intro k s hk
          refine g_iload (pc := 21) C dX6_number_21 rfl ?_
          refine g_iload_n (pc := 23) C dX6_number_23 rfl ?_
          refine g_icmp_ge (pc := 24) C 75 dX6_number_24 (by decide) (fun c24 => ?_) (fun c24 => ?_)
          · refine g_iload_n (pc := 75) C dX6_number_75 rfl ?_
            exact g_ireturn (pc := 76) C dX6_number_76 rfl (rfl) (rfl)
          · exact absurd (nI_le (by omega) (by omega)) c24
        | succ d ih =>
          intro k s hk
          cases hg : dgt (x k) with
          | none =>
            rw [show numS x (d + 1) k s = none by simp [numS, hg]]
            have hg2 : x k < 48 ∨ 57 < x k := by
              unfold dgt at hg
              split at hg
              · assumption
              · cases hg
            refine g_iload (pc := 21) C dX6_number_21 rfl ?_
            refine g_iload_n (pc := 23) C dX6_number_23 rfl ?_
            refine g_icmp_ge (pc := 24) C 75 dX6_number_24 (by decide) (fun c24 => ?_) (fun c24 => ?_)
            · exact absurd c24 (nI_ge (by omega) (by omega))
            · refine g_aload_n (pc := 27) C dX6_number_27 rfl ?_
              apply gf_X6_9 (pc := 28) C rfl dX6_number_28
              · repeat (first | assumption | exact Cl.s (by assumption) | refine Cl.n (by first | decide | omega) ?_)
              · rfl
              refine g_iload (pc := 31) C dX6_number_31 rfl ?_
              apply g_baload (pc := 33) C dX6_number_33
              · repeat (first | assumption | exact Cl.s (by assumption) | refine Cl.n (by first | decide | omega) ?_)
              · exact vp_in_nI (by omega) (by decide)
              rw [nI_clamp (by omega), hf k (by omega)]
              refine g_bipush (pc := 34) (v := nI 48) C dX6_number_34 (by decide) ?_
              refine g_icmp_lt (pc := 36) C 51 dX6_number_36 (by decide) (fun c36 => ?_) (fun c36 => ?_)
              · refine g_iconst (pc := 51) (v := -1) C dX6_number_51 (by decide) ?_
                exact g_ireturn (pc := 52) C dX6_number_52 rfl (rfl) (rfl)
              · refine g_aload_n (pc := 39) C dX6_number_39 rfl ?_
                apply gf_X6_9 (pc := 40) C rfl dX6_number_40
                · repeat (first | assumption | exact Cl.s (by assumption) | refine Cl.n (by first | decide | omega) ?_)
                · rfl
                refine g_iload (pc := 43) C dX6_number_43 rfl ?_
                apply g_baload (pc := 45) C dX6_number_45
                · repeat (first | assumption | exact Cl.s (by assumption) | refine Cl.n (by first | decide | omega) ?_)
                · exact vp_in_nI (by omega) (by decide)
                rw [nI_clamp (by omega), hf k (by omega)]
                refine g_bipush (pc := 46) (v := nI 57) C dX6_number_46 (by decide) ?_
                refine g_icmp_le (pc := 48) C 53 dX6_number_48 (by decide) (fun c48 => ?_) (fun c48 => ?_)
                · exact absurd hg2 (by rw [not_or]; exact ⟨c36, Int32.not_lt.mpr c48⟩)
                · refine g_iconst (pc := 51) (v := -1) C dX6_number_51 (by decide) ?_
                  exact g_ireturn (pc := 52) C dX6_number_52 rfl (rfl) (rfl)
          | some g =>
            obtain ⟨g1, g2⟩ := dgt_some hg
            rw [show numS x (d + 1) k s = numS x d (k + 1) (10 * s + g) by simp [numS, hg]]
            refine g_iload (pc := 21) C dX6_number_21 rfl ?_
            refine g_iload_n (pc := 23) C dX6_number_23 rfl ?_
            refine g_icmp_ge (pc := 24) C 75 dX6_number_24 (by decide) (fun c24 => ?_) (fun c24 => ?_)
            · exact absurd c24 (nI_ge (by omega) (by omega))
            · refine g_aload_n (pc := 27) C dX6_number_27 rfl ?_
              apply gf_X6_9 (pc := 28) C rfl dX6_number_28
              · repeat (first | assumption | exact Cl.s (by assumption) | refine Cl.n (by first | decide | omega) ?_)
              · rfl
              refine g_iload (pc := 31) C dX6_number_31 rfl ?_
              apply g_baload (pc := 33) C dX6_number_33
              · repeat (first | assumption | exact Cl.s (by assumption) | refine Cl.n (by first | decide | omega) ?_)
              · exact vp_in_nI (by omega) (by decide)
              rw [nI_clamp (by omega), hf k (by omega), g2]
              refine g_bipush (pc := 34) (v := nI 48) C dX6_number_34 (by decide) ?_
              refine g_icmp_lt (pc := 36) C 51 dX6_number_36 (by decide) (fun c36 => ?_) (fun c36 => ?_)
              · exact absurd c36 (nI_nlt (by omega) (by omega))
              · refine g_aload_n (pc := 39) C dX6_number_39 rfl ?_
                apply gf_X6_9 (pc := 40) C rfl dX6_number_40
                · repeat (first | assumption | exact Cl.s (by assumption) | refine Cl.n (by first | decide | omega) ?_)
                · rfl
                refine g_iload (pc := 43) C dX6_number_43 rfl ?_
                apply g_baload (pc := 45) C dX6_number_45
                · repeat (first | assumption | exact Cl.s (by assumption) | refine Cl.n (by first | decide | omega) ?_)
                · exact vp_in_nI (by omega) (by decide)
                rw [nI_clamp (by omega), hf k (by omega), g2]
                refine g_bipush (pc := 46) (v := nI 57) C dX6_number_46 (by decide) ?_
                refine g_icmp_le (pc := 48) C 53 dX6_number_48 (by decide) (fun c48 => ?_) (fun c48 => ?_)
                · refine g_bipush (pc := 53) (v := nI 10) C dX6_number_53 (by decide) ?_
                  refine g_iload_n (pc := 55) C dX6_number_55 rfl ?_
                  refine g_imul (pc := 56) C dX6_number_56 ?_
                  refine g_aload_n (pc := 57) C dX6_number_57 rfl ?_
                  apply gf_X6_9 (pc := 58) C rfl dX6_number_58
                  · repeat (first | assumption | exact Cl.s (by assumption) | refine Cl.n (by first | decide | omega) ?_)
                  · rfl
                  refine g_iload (pc := 61) C dX6_number_61 rfl ?_
                  apply g_baload (pc := 63) C dX6_number_63
                  · repeat (first | assumption | exact Cl.s (by assumption) | refine Cl.n (by first | decide | omega) ?_)
                  · exact vp_in_nI (by omega) (by decide)
                  rw [nI_clamp (by omega), hf k (by omega), g2]
                  refine g_iadd (pc := 64) C dX6_number_64 ?_
                  refine g_bipush (pc := 65) (v := nI 48) C dX6_number_65 (by decide) ?_
                  refine g_isub (pc := 67) C dX6_number_67 ?_
                  refine g_istore_n (pc := 68) C dX6_number_68 (by decide) rfl ?_
                  refine g_iinc (pc := 69) C dX6_number_69 rfl (by decide) rfl ?_
                  refine g_goto (pc := 72) C 21 dX6_number_72 (by decide) ?_
                  exact g_to (ih (k + 1) (10 * s + g) (by omega)) ⟨rfl, rfl, lgi (by rw [pk_mul, nI_add, pk_sub (by omega)]; congr 1; omega), lgi (nI_1 k), trivial⟩
                · exact absurd (nI_le (by omega) (by decide)) c48
      refine g_iload_n (pc := 0) C dX6_number_0 rfl ?_
      refine g_iload_n (pc := 1) C dX6_number_1 rfl ?_
      refine g_isub (pc := 2) C dX6_number_2 ?_
      refine g_iconst (pc := 3) (v := nI 1) C dX6_number_3 (by decide) ?_
      refine g_icmp_lt (pc := 4) C 14 dX6_number_4 (by decide) (fun c4 => ?_) (fun c4 => ?_)
      · exact absurd c4 (by rw [e3]; exact nI_nlt (by omega) (by omega))
      · refine g_iload_n (pc := 7) C dX6_number_7 rfl ?_
        refine g_iload_n (pc := 8) C dX6_number_8 rfl ?_
        refine g_isub (pc := 9) C dX6_number_9 ?_
        refine g_iconst (pc := 10) (v := nI 2) C dX6_number_10 (by decide) ?_
        refine g_icmp_le (pc := 11) C 16 dX6_number_11 (by decide) (fun c11 => ?_) (fun c11 => ?_)
        · refine g_iconst (pc := 16) (v := nI 0) C dX6_number_16 (by decide) ?_
          refine g_istore_n (pc := 17) C dX6_number_17 (by decide) rfl ?_
          refine g_iload_n (pc := 18) C dX6_number_18 rfl ?_
          refine g_istore (pc := 19) C dX6_number_19 (by decide) rfl ?_
          exact g_to (loop (e - a) a 0 (by omega)) ⟨rfl, rfl, rfl, rfl, trivial⟩
        · exact absurd (by rw [e3]; exact nI_le (by omega) (by decide)) c11
    · have e1 : numN x a e = none := by unfold numN; rw [if_neg (by omega)]
      rw [e1]
      refine g_iload_n (pc := 0) C dX6_number_0 rfl ?_
      refine g_iload_n (pc := 1) C dX6_number_1 rfl ?_
      refine g_isub (pc := 2) C dX6_number_2 ?_
      refine g_iconst (pc := 3) (v := nI 1) C dX6_number_3 (by decide) ?_
      refine g_icmp_lt (pc := 4) C 14 dX6_number_4 (by decide) (fun c4 => ?_) (fun c4 => ?_)
      · exact absurd c4 (by rw [e3]; exact nI_nlt (by omega) (by omega))
      · refine g_iload_n (pc := 7) C dX6_number_7 rfl ?_
        refine g_iload_n (pc := 8) C dX6_number_8 rfl ?_
        refine g_isub (pc := 9) C dX6_number_9 ?_
        refine g_iconst (pc := 10) (v := nI 2) C dX6_number_10 (by decide) ?_
        refine g_icmp_le (pc := 11) C 16 dX6_number_11 (by decide) (fun c11 => ?_) (fun c11 => ?_)
        · exact absurd c11 (by rw [e3]; exact nI_ge (by omega) (by omega))
        · refine g_iconst (pc := 14) (v := -1) C dX6_number_14 (by decide) ?_
          exact g_ireturn (pc := 15) C dX6_number_15 rfl (rfl) (rfl)
end TOLD3

