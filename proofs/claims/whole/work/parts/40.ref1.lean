/-! THE REFERENCE: its places: 0 itself, 1 text, 2 told, 3 things, 4 values, 5 lends, 6 people, 7 person, 8 slot, 9 was, 10 row, 11 way, 12 differed, 13 best, 14 ways, 15 dist, 16 queue, 17 costs, 18 codes -/
abbrev cRef (G : GG) (len at_ kept done rm : Int32) : va_E := .inr (10, [.int len, .ref (ga G 1), .int at_, .ref (ga G 2), .ref (ga G 3), .ref (ga G 4), .ref (ga G 5), .ref (ga G 6), .ref (ga G 7), .ref (ga G 8), .int kept, .int done, .ref (ga G 9), .int rm, .ref (ga G 10), .ref (ga G 11), .ref (ga G 12), .ref (ga G 13), .ref (ga G 14), .ref (ga G 15), .ref (ga G 16), .ref (ga G 17), .ref (ga G 18)])
/-- what is told, as the reference holds it -/
def QT (G : GG) (σ : WW) (T : TS) : Prop := ∃ (ft fn fv fl fm fp : Nat → Int32), Cl G σ 2 (iA G 4 ft) ∧ Cl G σ 3 (iA G 2 fn) ∧ Cl G σ 4 (iA G 10 fv) ∧ Cl G σ 5 (iA G 10 fl) ∧ Cl G σ 6 (iA G 2 fm) ∧ Cl G σ 7 (iA G 90 fp) ∧ TW T ∧ 1 ≤ tm T ∧ ft 0 = nI (tl T) ∧ ft 1 = nI (tg T) ∧ fn 0 = nI (tn T) ∧ fm 0 = nI (tm T) ∧ (∀ t, t < tn T → fv t = nI (tv T t)) ∧ (∀ t, t < tn T → fl t = nI (tb T t)) ∧ ∀ i, i < tm T → ∀ t, t < tn T → fp (5 * i + t) = nI (tp T i t)
theorem QT.fr {G : GG} {σ σ' : WW} {T : TS} {ps : List Nat} (h : QT G σ T) (f : Fr σ σ' ps) (h2 : 2 ∉ ps) (h3 : 3 ∉ ps) (h4 : 4 ∉ ps) (h5 : 5 ∉ ps) (h6 : 6 ∉ ps) (h7 : 7 ∉ ps) : QT G σ' T := by
  obtain ⟨ft, fn, fv, fl, fm, fp, a, b, c, d, e, g, r⟩ := h
  exact ⟨ft, fn, fv, fl, fm, fp, a.fr f h2, b.fr f h3, c.fr f h4, d.fr f h5, e.fr f h6, g.fr f h7, r⟩
theorem QT.w {G : GG} {σ : WW} {T : TS} (h : QT G σ T) : TW T ∧ 1 ≤ tm T := by
  obtain ⟨ft, fn, fv, fl, fm, fp, _, _, _, _, _, _, hW, h1, _⟩ := h
  exact ⟨hW, h1⟩
theorem QT.p4 {G : GG} {σ : WW} {T : TS} (h : QT G σ T) {i : Nat} (hi : i < tm T) : ∀ t, t < tn T → tp T i t < 4 := fun t ht => Nat.lt_of_lt_of_le (h.w.1.2.2.2.2.2.1 i hi t ht) (h.w.1.2.1 t ht).2
def inB (v lo hi : Int64) : Bool := decide (lo ≤ v ∧ v ≤ hi)
theorem lc_lt (x y : Int64) : lg_cmp x y < 0 ↔ x < y := by
  unfold lg_cmp
  by_cases h1 : x > y
  · rw [if_pos h1]
    exact ⟨fun q => absurd q (by decide), fun q => absurd h1 (Int64.not_lt.mpr (Int64.le_of_lt q))⟩
  · rw [if_neg h1]
    by_cases h2 : x = y
    · rw [if_pos h2]
      exact ⟨fun q => absurd q (by decide), fun q => absurd q (Int64.not_lt.mpr (by rw [h2]; exact Int64.le_refl _))⟩
    · rw [if_neg h2]
      refine ⟨fun _ => ?_, fun _ => by decide⟩
      have := Int64.not_lt.mp h1
      rcases Int64.lt_or_eq_of_le this with q | q
      · exact q
      · exact absurd q h2
theorem lc_gt (x y : Int64) : 0 < lg_cmp x y ↔ y < x := by
  unfold lg_cmp
  by_cases h1 : x > y
  · rw [if_pos h1]
    exact ⟨fun _ => h1, fun _ => by decide⟩
  · rw [if_neg h1]
    by_cases h2 : x = y
    · rw [if_pos h2]
      exact ⟨fun q => absurd q (by decide), fun q => absurd q h1⟩
    · rw [if_neg h2]
      exact ⟨fun q => absurd q (by decide), fun q => absurd q h1⟩
theorem inB_I (v : Int32) (lo hi : Int64) : inB v.toInt64 lo hi = decide (lo.toInt ≤ v.toInt ∧ v.toInt ≤ hi.toInt) := by
  unfold inB
  simp only [Int64.le_iff_toInt_le, Int32.toInt_toInt64]
theorem inB_R {v : Int32} {m : Nat} (h1 : 1 ≤ m) (hm : m < 2 ^ 31) : inB v.toInt64 0 (nI m - nI 1).toInt64 = inR v m := by
  rw [inB_I, pk_sub h1, Int32.toInt_toInt64, nI_toInt (by omega)]
  unfold inR
  simp only [Int32.le_iff_toInt_le, Int32.lt_iff_toInt_lt, nI_toInt hm]
  have e0 : (0 : Int64).toInt = 0 := rfl
  have e1 : (0 : Int32).toInt = 0 := rfl
  simp only [e0, e1]
  by_cases q : 0 ≤ v.toInt ∧ v.toInt ≤ ((m - 1 : Nat) : Int)
  · have q2 : 0 ≤ v.toInt ∧ v.toInt < (m : Int) := by omega
    rw [decide_eq_true q, decide_eq_true q2]
  · have q2 : ¬ (0 ≤ v.toInt ∧ v.toInt < (m : Int)) := by omega
    rw [decide_eq_false q, decide_eq_false q2]
section REF1
variable {G : GG} {σ : WW} {T : TS} {len at_ kept done rm : Int32}
theorem r_in (v lo hi : Int64) : Mt G mX10_in [.long v, .long lo, .long hi] σ (some (.int (nI (b2 (inB v lo hi))))) σ := by
  refine Mt.of (by decide +kernel) (Nat.le_of_ble_eq_true rfl) (fun κ C => ?_)
  by_cases h1 : v < lo
  · rw [show inB v lo hi = false by unfold inB; rw [decide_eq_false_iff_not]; exact fun q => absurd h1 (Int64.not_lt.mpr q.1)]
    refine g_lload_n (pc := 0) C dX10_in_0 rfl ?_
    refine g_lload_n (pc := 1) C dX10_in_1 rfl ?_
    refine g_lcmp (pc := 2) C dX10_in_2 ?_
    refine g_if_lt (pc := 3) C 17 dX10_in_3 (by decide) (fun c3 => ?_) (fun c3 => ?_)
    · refine g_iconst (pc := 17) (v := nI 0) C dX10_in_17 (by decide) ?_
      exact g_zreturn (pc := 18) C dX10_in_18 rfl (by first | exact Or.inl rfl | exact Or.inr rfl) (rfl) (rfl)
    · exact absurd ((lc_lt _ _).mpr h1) c3
  · by_cases h2 : hi < v
    · rw [show inB v lo hi = false by unfold inB; rw [decide_eq_false_iff_not]; exact fun q => absurd h2 (Int64.not_lt.mpr q.2)]
      refine g_lload_n (pc := 0) C dX10_in_0 rfl ?_
      refine g_lload_n (pc := 1) C dX10_in_1 rfl ?_
      refine g_lcmp (pc := 2) C dX10_in_2 ?_
      refine g_if_lt (pc := 3) C 17 dX10_in_3 (by decide) (fun c3 => ?_) (fun c3 => ?_)
      · exact absurd ((lc_lt _ _).mp c3) h1
      · refine g_lload_n (pc := 6) C dX10_in_6 rfl ?_
        refine g_lload (pc := 7) C dX10_in_7 rfl ?_
        refine g_lcmp (pc := 9) C dX10_in_9 ?_
        refine g_if_gt (pc := 10) C 17 dX10_in_10 (by decide) (fun c10 => ?_) (fun c10 => ?_)
        · refine g_iconst (pc := 17) (v := nI 0) C dX10_in_17 (by decide) ?_
          exact g_zreturn (pc := 18) C dX10_in_18 rfl (by first | exact Or.inl rfl | exact Or.inr rfl) (rfl) (rfl)
        · exact absurd ((lc_gt _ _).mpr h2) c10
    · rw [show inB v lo hi = true by unfold inB; rw [decide_eq_true_iff]; exact ⟨Int64.not_lt.mp h1, Int64.not_lt.mp h2⟩]
      refine g_lload_n (pc := 0) C dX10_in_0 rfl ?_
      refine g_lload_n (pc := 1) C dX10_in_1 rfl ?_
      refine g_lcmp (pc := 2) C dX10_in_2 ?_
      refine g_if_lt (pc := 3) C 17 dX10_in_3 (by decide) (fun c3 => ?_) (fun c3 => ?_)
      · exact absurd ((lc_lt _ _).mp c3) h1
      · refine g_lload_n (pc := 6) C dX10_in_6 rfl ?_
        refine g_lload (pc := 7) C dX10_in_7 rfl ?_
        refine g_lcmp (pc := 9) C dX10_in_9 ?_
        refine g_if_gt (pc := 10) C 17 dX10_in_10 (by decide) (fun c10 => ?_) (fun c10 => ?_)
        · exact absurd ((lc_gt _ _).mp c10) h2
        · refine g_iconst (pc := 13) (v := nI 1) C dX10_in_13 (by decide) ?_
          refine g_goto (pc := 14) C 18 dX10_in_14 (by decide) ?_
          exact g_zreturn (pc := 18) C dX10_in_18 rfl (by first | exact Or.inl rfl | exact Or.inr rfl) (rfl) (rfl)
theorem r_many {x : Nat} (hx : x < 2 ^ 31) : Mt G mX10_many [.int (nI x)] σ (some (.int (nI (many x)))) σ := by
  refine Mt.of (by decide +kernel) (Nat.le_of_ble_eq_true rfl) (fun κ C => ?_)
  have loop : ∀ d k, k + d = 10 → Go G mX10_many κ (some (.int (nI (many x)))) σ σ 4 [(0, .int (nI x)), (1, .int (nI (cnt x k))), (2, .int (nI k))] [] := by
    intro d
    induction d with
    | zero =>
      intro k hk
      refine g_iload_n (pc := 4) C dX10_many_4 rfl ?_
      refine g_bipush (pc := 5) (v := nI 10) C dX10_many_5 (by decide) ?_
      refine g_icmp_ge (pc := 7) C 24 dX10_many_7 (by decide) (fun c7 => ?_) (fun c7 => ?_)
      · refine g_iload_n (pc := 24) C dX10_many_24 rfl ?_
        exact g_ireturn (pc := 25) C dX10_many_25 rfl (by rw [show k = 10 by omega]; rfl) (rfl)
      · exact absurd (nI_le (by omega) (by omega)) c7
    | succ d ih =>
      intro k hk
      refine g_iload_n (pc := 4) C dX10_many_4 rfl ?_
      refine g_bipush (pc := 5) (v := nI 10) C dX10_many_5 (by decide) ?_
      refine g_icmp_ge (pc := 7) C 24 dX10_many_7 (by decide) (fun c7 => ?_) (fun c7 => ?_)
      · exact absurd c7 (nI_ge (by omega) (by decide))
      · refine g_iload_n (pc := 10) C dX10_many_10 rfl ?_
        refine g_iload_n (pc := 11) C dX10_many_11 rfl ?_
        refine g_iload_n (pc := 12) C dX10_many_12 rfl ?_
        refine g_ishr (pc := 13) C dX10_many_13 ?_
        refine g_iconst (pc := 14) (v := nI 1) C dX10_many_14 (by decide) ?_
        refine g_iand (pc := 15) C dX10_many_15 ?_
        refine g_iadd (pc := 16) C dX10_many_16 ?_
        refine g_istore_n (pc := 17) C dX10_many_17 (by decide) rfl ?_
        refine g_iinc (pc := 18) C dX10_many_18 rfl (by decide) rfl ?_
        refine g_goto (pc := 21) C 4 dX10_many_21 (by decide) ?_
        exact g_to (ih (k + 1) (by omega)) ⟨rfl, lgi (by rw [nx_shr hx (by omega), nx_and, nI_add]; rfl), lgi (nI_1 k), trivial⟩
  refine g_iconst (pc := 0) (v := nI 0) C dX10_many_0 (by decide) ?_
  refine g_istore_n (pc := 1) C dX10_many_1 (by decide) rfl ?_
  refine g_iconst (pc := 2) (v := nI 0) C dX10_many_2 (by decide) ?_
  refine g_istore_n (pc := 3) C dX10_many_3 (by decide) rfl ?_
  exact g_to (loop 10 0 (by omega)) ⟨rfl, rfl, rfl, trivial⟩
theorem r_passes {l u b : Nat} (hl : l ≤ 3) (hu : u < 2 ^ 31) (hb : b < 2 ^ 31) : Mt G mX10_passes [.int (nI l), .int (nI u), .int (nI b)] σ (some (.int (nI (b2 (ps l u b))))) σ := by
  have hmu := many_lt u
  refine Mt.of (by decide +kernel) (Nat.le_of_ble_eq_true rfl) (fun κ C => ?_)
  have hlaw : l = 0 ∨ l = 1 ∨ l = 2 ∨ l = 3 := by omega
  rcases hlaw with rfl | rfl | rfl | rfl
  · refine g_iload_n (pc := 0) C dX10_passes_0 rfl ?_
    refine cl_X10_143 (pc := 1) C rfl (r_many hu) dX10_passes_1 rfl (Nat.le_of_ble_eq_true rfl) ?_
    refine g_istore_n (pc := 4) C dX10_passes_4 (by decide) rfl ?_
    refine g_iload_n (pc := 5) C dX10_passes_5 rfl ?_
    refine g_if_nE (pc := 6) C 22 dX10_passes_6 (by decide) (fun c6 => ?_) (fun c6 => ?_)
    · exact absurd rfl c6
    · refine g_iload_n (pc := 9) C dX10_passes_9 rfl ?_
      refine g_iconst (pc := 10) (v := nI 1) C dX10_passes_10 (by decide) ?_
      refine g_icmp_nE (pc := 11) C 18 dX10_passes_11 (by decide) (fun c11 => ?_) (fun c11 => ?_)
      · refine g_iconst (pc := 18) (v := nI 0) C dX10_passes_18 (by decide) ?_
        refine g_goto (pc := 19) C 73 dX10_passes_19 (by decide) ?_
        exact g_zreturn (pc := 73) C dX10_passes_73 rfl (by first | exact Or.inl rfl | exact Or.inr rfl) (by rw [nI_eq hmu (by decide)] at c11; simp [ps, c11, b2]) (rfl)
      · refine g_iconst (pc := 14) (v := nI 1) C dX10_passes_14 (by decide) ?_
        refine g_goto (pc := 15) C 73 dX10_passes_15 (by decide) ?_
        exact g_zreturn (pc := 73) C dX10_passes_73 rfl (by first | exact Or.inl rfl | exact Or.inr rfl) (by rw [nI_eq hmu (by decide)] at c11; simp [ps, c11, b2]) (rfl)
  · refine g_iload_n (pc := 0) C dX10_passes_0 rfl ?_
    refine cl_X10_143 (pc := 1) C rfl (r_many hu) dX10_passes_1 rfl (Nat.le_of_ble_eq_true rfl) ?_
    refine g_istore_n (pc := 4) C dX10_passes_4 (by decide) rfl ?_
    refine g_iload_n (pc := 5) C dX10_passes_5 rfl ?_
    refine g_if_nE (pc := 6) C 22 dX10_passes_6 (by decide) (fun c6 => ?_) (fun c6 => ?_)
    · refine g_iload_n (pc := 22) C dX10_passes_22 rfl ?_
      refine g_iconst (pc := 23) (v := nI 1) C dX10_passes_23 (by decide) ?_
      refine g_icmp_nE (pc := 24) C 40 dX10_passes_24 (by decide) (fun c24 => ?_) (fun c24 => ?_)
      · exact absurd rfl c24
      · refine g_iload_n (pc := 27) C dX10_passes_27 rfl ?_
        refine g_iconst (pc := 28) (v := nI 2) C dX10_passes_28 (by decide) ?_
        refine g_icmp_nE (pc := 29) C 36 dX10_passes_29 (by decide) (fun c29 => ?_) (fun c29 => ?_)
        · refine g_iconst (pc := 36) (v := nI 0) C dX10_passes_36 (by decide) ?_
          refine g_goto (pc := 37) C 73 dX10_passes_37 (by decide) ?_
          exact g_zreturn (pc := 73) C dX10_passes_73 rfl (by first | exact Or.inl rfl | exact Or.inr rfl) (by rw [nI_eq hmu (by decide)] at c29; simp [ps, c29, b2]) (rfl)
        · refine g_iconst (pc := 32) (v := nI 1) C dX10_passes_32 (by decide) ?_
          refine g_goto (pc := 33) C 73 dX10_passes_33 (by decide) ?_
          exact g_zreturn (pc := 73) C dX10_passes_73 rfl (by first | exact Or.inl rfl | exact Or.inr rfl) (by rw [nI_eq hmu (by decide)] at c29; simp [ps, c29, b2]) (rfl)
    · exact absurd c6 (by decide)
  · refine g_iload_n (pc := 0) C dX10_passes_0 rfl ?_
    refine cl_X10_143 (pc := 1) C rfl (r_many hu) dX10_passes_1 rfl (Nat.le_of_ble_eq_true rfl) ?_
    refine g_istore_n (pc := 4) C dX10_passes_4 (by decide) rfl ?_
    refine g_iload_n (pc := 5) C dX10_passes_5 rfl ?_
    refine g_if_nE (pc := 6) C 22 dX10_passes_6 (by decide) (fun c6 => ?_) (fun c6 => ?_)
    · refine g_iload_n (pc := 22) C dX10_passes_22 rfl ?_
      refine g_iconst (pc := 23) (v := nI 1) C dX10_passes_23 (by decide) ?_
      refine g_icmp_nE (pc := 24) C 40 dX10_passes_24 (by decide) (fun c24 => ?_) (fun c24 => ?_)
      · refine g_iload_n (pc := 40) C dX10_passes_40 rfl ?_
        refine g_iconst (pc := 41) (v := nI 2) C dX10_passes_41 (by decide) ?_
        refine g_icmp_nE (pc := 42) C 63 dX10_passes_42 (by decide) (fun c42 => ?_) (fun c42 => ?_)
        · exact absurd rfl c42
        · refine g_iload_n (pc := 45) C dX10_passes_45 rfl ?_
          refine g_iconst (pc := 46) (v := nI 1) C dX10_passes_46 (by decide) ?_
          refine g_icmp_nE (pc := 47) C 59 dX10_passes_47 (by decide) (fun c47 => ?_) (fun c47 => ?_)
          · refine g_iconst (pc := 59) (v := nI 0) C dX10_passes_59 (by decide) ?_
            refine g_goto (pc := 60) C 73 dX10_passes_60 (by decide) ?_
            exact g_zreturn (pc := 73) C dX10_passes_73 rfl (by first | exact Or.inl rfl | exact Or.inr rfl) (by first | (rw [nI_eq hmu (by decide)] at c47; rw [nI_eq (by omega) hb] at c52; simp_all [ps, b2]; done) | (rw [nI_eq hmu (by decide)] at c47; simp_all [ps, b2]; done)) (rfl)
          · refine g_iload_n (pc := 50) C dX10_passes_50 rfl ?_
            refine g_iload_n (pc := 51) C dX10_passes_51 rfl ?_
            refine g_icmp_eq (pc := 52) C 59 dX10_passes_52 (by decide) (fun c52 => ?_) (fun c52 => ?_)
            · refine g_iconst (pc := 59) (v := nI 0) C dX10_passes_59 (by decide) ?_
              refine g_goto (pc := 60) C 73 dX10_passes_60 (by decide) ?_
              exact g_zreturn (pc := 73) C dX10_passes_73 rfl (by first | exact Or.inl rfl | exact Or.inr rfl) (by first | (rw [nI_eq hmu (by decide)] at c47; rw [nI_eq (by omega) hb] at c52; simp_all [ps, b2]; done) | (rw [nI_eq hmu (by decide)] at c47; simp_all [ps, b2]; done)) (rfl)
            · refine g_iconst (pc := 55) (v := nI 1) C dX10_passes_55 (by decide) ?_
              refine g_goto (pc := 56) C 73 dX10_passes_56 (by decide) ?_
              exact g_zreturn (pc := 73) C dX10_passes_73 rfl (by first | exact Or.inl rfl | exact Or.inr rfl) (by first | (rw [nI_eq hmu (by decide)] at c47; rw [nI_eq (by omega) hb] at c52; simp_all [ps, b2]; done) | (rw [nI_eq hmu (by decide)] at c47; simp_all [ps, b2]; done)) (rfl)
      · exact absurd c24 (by decide)
    · exact absurd c6 (by decide)
  · refine g_iload_n (pc := 0) C dX10_passes_0 rfl ?_
    refine cl_X10_143 (pc := 1) C rfl (r_many hu) dX10_passes_1 rfl (Nat.le_of_ble_eq_true rfl) ?_
    refine g_istore_n (pc := 4) C dX10_passes_4 (by decide) rfl ?_
    refine g_iload_n (pc := 5) C dX10_passes_5 rfl ?_
    refine g_if_nE (pc := 6) C 22 dX10_passes_6 (by decide) (fun c6 => ?_) (fun c6 => ?_)
    · refine g_iload_n (pc := 22) C dX10_passes_22 rfl ?_
      refine g_iconst (pc := 23) (v := nI 1) C dX10_passes_23 (by decide) ?_
      refine g_icmp_nE (pc := 24) C 40 dX10_passes_24 (by decide) (fun c24 => ?_) (fun c24 => ?_)
      · refine g_iload_n (pc := 40) C dX10_passes_40 rfl ?_
        refine g_iconst (pc := 41) (v := nI 2) C dX10_passes_41 (by decide) ?_
        refine g_icmp_nE (pc := 42) C 63 dX10_passes_42 (by decide) (fun c42 => ?_) (fun c42 => ?_)
        · refine g_iload_n (pc := 63) C dX10_passes_63 rfl ?_
          refine g_iconst (pc := 64) (v := nI 2) C dX10_passes_64 (by decide) ?_
          refine g_icmp_ge (pc := 65) C 72 dX10_passes_65 (by decide) (fun c65 => ?_) (fun c65 => ?_)
          · refine g_iconst (pc := 72) (v := nI 0) C dX10_passes_72 (by decide) ?_
            exact g_zreturn (pc := 73) C dX10_passes_73 rfl (by first | exact Or.inl rfl | exact Or.inr rfl) (by rw [nI_leI (by decide) hmu] at c65; first | (have c : ¬ many u < 2 := (by omega); simp [ps, b2, c]; done) | (have c : many u < 2 := (by omega); simp [ps, b2, c]; done)) (rfl)
          · refine g_iconst (pc := 68) (v := nI 1) C dX10_passes_68 (by decide) ?_
            refine g_goto (pc := 69) C 73 dX10_passes_69 (by decide) ?_
            exact g_zreturn (pc := 73) C dX10_passes_73 rfl (by first | exact Or.inl rfl | exact Or.inr rfl) (by rw [nI_leI (by decide) hmu] at c65; first | (have c : ¬ many u < 2 := (by omega); simp [ps, b2, c]; done) | (have c : many u < 2 := (by omega); simp [ps, b2, c]; done)) (rfl)
        · exact absurd c42 (by decide)
      · exact absurd c24 (by decide)
    · exact absurd c6 (by decide)
theorem r_isMan (h0 : Cl G σ 0 (cRef G len at_ kept done rm)) (hT : QT G σ T) (i : Int32) : Mt G mX10_isMan [.ref (ga G 0), .int i] σ (some (.int (nI (b2 (inR i (tm T)))))) σ := by
  obtain ⟨ft, fn, fv, fl, fm, fp, h2, h3, h4, h5, h6, h7, hW, h1, e0, e1, e2, e3, hv, hl, hp⟩ := hT
  have hm := hW.2.2.2.2.1
  refine Mt.of (by decide +kernel) (Nat.le_of_ble_eq_true rfl) (fun κ C => ?_)
  refine g_iload_n (pc := 0) C dX10_isMan_0 rfl ?_
  refine g_i2l (pc := 1) C dX10_isMan_1 ?_
  refine g_lconst (pc := 2) (v := 0) C dX10_isMan_2 (by decide) ?_
  refine g_aload_n (pc := 3) C dX10_isMan_3 rfl ?_
  apply gf_X10_26 (pc := 4) C rfl dX10_isMan_4
  · repeat (first | assumption | exact Cl.s (by assumption) | refine Cl.n (by first | decide | omega) ?_)
  · rfl
  refine g_iconst (pc := 7) (v := nI 0) C dX10_isMan_7 (by decide) ?_
  apply g_iaload (pc := 8) C dX10_isMan_8
  · repeat (first | assumption | exact Cl.s (by assumption) | refine Cl.n (by first | decide | omega) ?_)
  · exact vp_in_nI (n := 0) (by decide) (by decide)
  rw [nI_clamp (by decide), e3]
  refine g_iconst (pc := 9) (v := nI 1) C dX10_isMan_9 (by decide) ?_
  refine g_isub (pc := 10) C dX10_isMan_10 ?_
  refine g_i2l (pc := 11) C dX10_isMan_11 ?_
  refine cl_X10_74 (pc := 12) C rfl (r_in _ _ _) dX10_isMan_12 rfl (Nat.le_of_ble_eq_true rfl) ?_
  exact g_zreturn (pc := 15) C dX10_isMan_15 rfl (b2_01 _) (by rw [inB_R h1 (by omega)]) (rfl)
theorem r_seen (h0 : Cl G σ 0 (cRef G len at_ kept done rm)) (hT : QT G σ T) : Mt G mX10_seen [.ref (ga G 0)] σ (some (.int (nI (seen T)))) σ := by
  obtain ⟨ft, fn, fv, fl, fm, fp, h2, h3, h4, h5, h6, h7, hW, h1, e0, e1, e2, e3, hv, hl, hp⟩ := hT
  have hn := hW.1
  refine Mt.of (by decide +kernel) (Nat.le_of_ble_eq_true rfl) (fun κ C => ?_)
  refine g_aload_n (pc := 0) C dX10_seen_0 rfl ?_
  apply gf_X10_13 (pc := 1) C rfl dX10_seen_1
  · repeat (first | assumption | exact Cl.s (by assumption) | refine Cl.n (by first | decide | omega) ?_)
  · rfl
  refine g_iconst (pc := 4) (v := nI 1) C dX10_seen_4 (by decide) ?_
  apply g_iaload (pc := 5) C dX10_seen_5
  · repeat (first | assumption | exact Cl.s (by assumption) | refine Cl.n (by first | decide | omega) ?_)
  · exact vp_in_nI (n := 1) (by decide) (by decide)
  refine g_iconst (pc := 6) (v := nI 1) C dX10_seen_6 (by decide) ?_
  refine g_aload_n (pc := 7) C dX10_seen_7 rfl ?_
  apply gf_X10_17 (pc := 8) C rfl dX10_seen_8
  · repeat (first | assumption | exact Cl.s (by assumption) | refine Cl.n (by first | decide | omega) ?_)
  · rfl
  refine g_iconst (pc := 11) (v := nI 0) C dX10_seen_11 (by decide) ?_
  apply g_iaload (pc := 12) C dX10_seen_12
  · repeat (first | assumption | exact Cl.s (by assumption) | refine Cl.n (by first | decide | omega) ?_)
  · exact vp_in_nI (n := 0) (by decide) (by decide)
  refine g_ishl (pc := 13) C dX10_seen_13 ?_
  refine g_iconst (pc := 14) (v := nI 1) C dX10_seen_14 (by decide) ?_
  refine g_isub (pc := 15) C dX10_seen_15 ?_
  refine g_iand (pc := 16) C dX10_seen_16 ?_
  exact g_ireturn (pc := 17) C dX10_seen_17 rfl (by rw [nI_clamp (by decide), nI_clamp (by decide), e1, e2, nx_shl _ (by omega), pk_sub (by rw [Nat.shiftLeft_eq, Nat.one_mul]; exact Nat.one_le_two_pow), nx_and]; rfl) (rfl)
theorem r_codeOf (h0 : Cl G σ 0 (cRef G len at_ kept done rm)) (hT : QT G σ T) {i : Nat} (hi : i < tm T) : Mt G mX10_codeOf [.ref (ga G 0), .int (nI i)] σ (some (.int (nI (cdn (tv T) (tp T i) (tn T))))) σ := by
  obtain ⟨ft, fn, fv, fl, fm, fp, h2, h3, h4, h5, h6, h7, hW, h1, e0, e1, e2, e3, hv, hl, hp⟩ := hT
  have hn := hW.1
  have hm := hW.2.2.2.2.1
  refine Mt.of (by decide +kernel) (Nat.le_of_ble_eq_true rfl) (fun κ C => ?_)
  have loop : ∀ d t, t + d = tn T → Go G mX10_codeOf κ (some (.int (nI (cdn (tv T) (tp T i) (tn T))))) σ σ 4 [(0, .ref (ga G 0)), (1, .int (nI i)), (2, .int (nI (cdn (tv T) (tp T i) t))), (3, .int (nI t))] [] := by
    intro d
    induction d with
    | zero =>
      intro t ht
      refine g_iload_n (pc := 4) C dX10_codeOf_4 rfl ?_
      refine g_aload_n (pc := 5) C dX10_codeOf_5 rfl ?_
      apply gf_X10_17 (pc := 6) C rfl dX10_codeOf_6
      · repeat (first | assumption | exact Cl.s (by assumption) | refine Cl.n (by first | decide | omega) ?_)
      · rfl
      refine g_iconst (pc := 9) (v := nI 0) C dX10_codeOf_9 (by decide) ?_
      apply g_iaload (pc := 10) C dX10_codeOf_10
      · repeat (first | assumption | exact Cl.s (by assumption) | refine Cl.n (by first | decide | omega) ?_)
      · exact vp_in_nI (n := 0) (by decide) (by decide)
      rw [nI_clamp (by decide), e2]
      refine g_icmp_ge (pc := 11) C 40 dX10_codeOf_11 (by decide) (fun c11 => ?_) (fun c11 => ?_)
      · refine g_iload_n (pc := 40) C dX10_codeOf_40 rfl ?_
        exact g_ireturn (pc := 41) C dX10_codeOf_41 rfl (by rw [show t = tn T by omega]) (rfl)
      · exact absurd (nI_le (by omega) (by omega)) c11
    | succ d ih =>
      intro t ht
      refine g_iload_n (pc := 4) C dX10_codeOf_4 rfl ?_
      refine g_aload_n (pc := 5) C dX10_codeOf_5 rfl ?_
      apply gf_X10_17 (pc := 6) C rfl dX10_codeOf_6
      · repeat (first | assumption | exact Cl.s (by assumption) | refine Cl.n (by first | decide | omega) ?_)
      · rfl
      refine g_iconst (pc := 9) (v := nI 0) C dX10_codeOf_9 (by decide) ?_
      apply g_iaload (pc := 10) C dX10_codeOf_10
      · repeat (first | assumption | exact Cl.s (by assumption) | refine Cl.n (by first | decide | omega) ?_)
      · exact vp_in_nI (n := 0) (by decide) (by decide)
      rw [nI_clamp (by decide), e2]
      refine g_icmp_ge (pc := 11) C 40 dX10_codeOf_11 (by decide) (fun c11 => ?_) (fun c11 => ?_)
      · exact absurd c11 (nI_ge (by omega) (by omega))
      · refine g_iload_n (pc := 14) C dX10_codeOf_14 rfl ?_
        refine g_aload_n (pc := 15) C dX10_codeOf_15 rfl ?_
        apply gf_X10_20 (pc := 16) C rfl dX10_codeOf_16
        · repeat (first | assumption | exact Cl.s (by assumption) | refine Cl.n (by first | decide | omega) ?_)
        · rfl
        refine g_iload_n (pc := 19) C dX10_codeOf_19 rfl ?_
        apply g_iaload (pc := 20) C dX10_codeOf_20
        · repeat (first | assumption | exact Cl.s (by assumption) | refine Cl.n (by first | decide | omega) ?_)
        · exact vp_in_nI (by omega) (by decide)
        refine g_imul (pc := 21) C dX10_codeOf_21 ?_
        refine g_aload_n (pc := 22) C dX10_codeOf_22 rfl ?_
        apply gf_X10_29 (pc := 23) C rfl dX10_codeOf_23
        · repeat (first | assumption | exact Cl.s (by assumption) | refine Cl.n (by first | decide | omega) ?_)
        · rfl
        refine g_iconst (pc := 26) (v := nI 5) C dX10_codeOf_26 (by decide) ?_
        refine g_iload_n (pc := 27) C dX10_codeOf_27 rfl ?_
        refine g_imul (pc := 28) C dX10_codeOf_28 ?_
        refine g_iload_n (pc := 29) C dX10_codeOf_29 rfl ?_
        refine g_iadd (pc := 30) C dX10_codeOf_30 ?_
        rw [pk_mul, nI_add]
        apply g_iaload (pc := 31) C dX10_codeOf_31
        · repeat (first | assumption | exact Cl.s (by assumption) | refine Cl.n (by first | decide | omega) ?_)
        · exact vp_in_nI (by omega) (by decide)
        refine g_iadd (pc := 32) C dX10_codeOf_32 ?_
        refine g_istore_n (pc := 33) C dX10_codeOf_33 (by decide) rfl ?_
        refine g_iinc (pc := 34) C dX10_codeOf_34 rfl (by decide) rfl ?_
        refine g_goto (pc := 37) C 4 dX10_codeOf_37 (by decide) ?_
        exact g_to (ih (t + 1) (by omega)) ⟨rfl, rfl, lgi (by rw [nI_clamp (by omega), nI_clamp (by omega), hv t (by omega), hp i hi t (by omega), pk_mul, nI_add]; rfl), lgi (nI_1 t), trivial⟩
  refine g_iconst (pc := 0) (v := nI 0) C dX10_codeOf_0 (by decide) ?_
  refine g_istore_n (pc := 1) C dX10_codeOf_1 (by decide) rfl ?_
  refine g_iconst (pc := 2) (v := nI 0) C dX10_codeOf_2 (by decide) ?_
  refine g_istore_n (pc := 3) C dX10_codeOf_3 (by decide) rfl ?_
  exact g_to (loop (tn T) 0 (by omega)) ⟨rfl, rfl, rfl, rfl, trivial⟩
theorem r_unlike (h0 : Cl G σ 0 (cRef G len at_ kept done rm)) (hT : QT G σ T) {i j : Nat} (hi : i < tm T) (hj : j < tm T) : Mt G mX10_unlike [.ref (ga G 0), .int (nI i), .int (nI j)] σ (some (.int (nI (UU T i j)))) σ := by
  have p4i := hT.p4 hi
  have p4j := hT.p4 hj
  obtain ⟨ft, fn, fv, fl, fm, fp, h2, h3, h4, h5, h6, h7, hW, h1, e0, e1, e2, e3, hv, hl, hp⟩ := hT
  have hn := hW.1
  have hm := hW.2.2.2.2.1
  refine Mt.of (by decide +kernel) (Nat.le_of_ble_eq_true rfl) (fun κ C => ?_)
  have loop : ∀ d t, t + d = tn T → Go G mX10_unlike κ (some (.int (nI (UU T i j)))) σ σ 5 [(0, .ref (ga G 0)), (1, .int (nI i)), (2, .int (nI j)), (3, .int (nI (bits (fun t => tp T i t != tp T j t) t))), (4, .int (nI t))] [] := by
    intro d
    induction d with
    | zero =>
      intro t ht
      refine g_iload (pc := 5) C dX10_unlike_5 rfl ?_
      refine g_aload_n (pc := 7) C dX10_unlike_7 rfl ?_
      apply gf_X10_17 (pc := 8) C rfl dX10_unlike_8
      · repeat (first | assumption | exact Cl.s (by assumption) | refine Cl.n (by first | decide | omega) ?_)
      · rfl
      refine g_iconst (pc := 11) (v := nI 0) C dX10_unlike_11 (by decide) ?_
      apply g_iaload (pc := 12) C dX10_unlike_12
      · repeat (first | assumption | exact Cl.s (by assumption) | refine Cl.n (by first | decide | omega) ?_)
      · exact vp_in_nI (n := 0) (by decide) (by decide)
      rw [nI_clamp (by decide), e2]
      refine g_icmp_ge (pc := 13) C 58 dX10_unlike_13 (by decide) (fun c13 => ?_) (fun c13 => ?_)
      · refine g_iload_n (pc := 58) C dX10_unlike_58 rfl ?_
        exact g_ireturn (pc := 59) C dX10_unlike_59 rfl (by rw [show t = tn T by omega]; rfl) (rfl)
      · exact absurd (nI_le (by omega) (by omega)) c13
    | succ d ih =>
      intro t ht
      have q1 := p4i t (by omega)
      have q2 := p4j t (by omega)
      refine g_iload (pc := 5) C dX10_unlike_5 rfl ?_
      refine g_aload_n (pc := 7) C dX10_unlike_7 rfl ?_
      apply gf_X10_17 (pc := 8) C rfl dX10_unlike_8
      · repeat (first | assumption | exact Cl.s (by assumption) | refine Cl.n (by first | decide | omega) ?_)
      · rfl
      refine g_iconst (pc := 11) (v := nI 0) C dX10_unlike_11 (by decide) ?_
      apply g_iaload (pc := 12) C dX10_unlike_12
      · repeat (first | assumption | exact Cl.s (by assumption) | refine Cl.n (by first | decide | omega) ?_)
      · exact vp_in_nI (n := 0) (by decide) (by decide)
      rw [nI_clamp (by decide), e2]
      refine g_icmp_ge (pc := 13) C 58 dX10_unlike_13 (by decide) (fun c13 => ?_) (fun c13 => ?_)
      · exact absurd c13 (nI_ge (by omega) (by omega))
      · refine g_iload_n (pc := 16) C dX10_unlike_16 rfl ?_
        refine g_aload_n (pc := 17) C dX10_unlike_17 rfl ?_
        apply gf_X10_29 (pc := 18) C rfl dX10_unlike_18
        · repeat (first | assumption | exact Cl.s (by assumption) | refine Cl.n (by first | decide | omega) ?_)
        · rfl
        refine g_iconst (pc := 21) (v := nI 5) C dX10_unlike_21 (by decide) ?_
        refine g_iload_n (pc := 22) C dX10_unlike_22 rfl ?_
        refine g_imul (pc := 23) C dX10_unlike_23 ?_
        refine g_iload (pc := 24) C dX10_unlike_24 rfl ?_
        refine g_iadd (pc := 26) C dX10_unlike_26 ?_
        rw [pk_mul, nI_add]
        apply g_iaload (pc := 27) C dX10_unlike_27
        · repeat (first | assumption | exact Cl.s (by assumption) | refine Cl.n (by first | decide | omega) ?_)
        · exact vp_in_nI (by omega) (by decide)
        rw [nI_clamp (by omega), hp i hi t (by omega)]
        refine g_aload_n (pc := 28) C dX10_unlike_28 rfl ?_
        apply gf_X10_29 (pc := 29) C rfl dX10_unlike_29
        · repeat (first | assumption | exact Cl.s (by assumption) | refine Cl.n (by first | decide | omega) ?_)
        · rfl
        refine g_iconst (pc := 32) (v := nI 5) C dX10_unlike_32 (by decide) ?_
        refine g_iload_n (pc := 33) C dX10_unlike_33 rfl ?_
        refine g_imul (pc := 34) C dX10_unlike_34 ?_
        refine g_iload (pc := 35) C dX10_unlike_35 rfl ?_
        refine g_iadd (pc := 37) C dX10_unlike_37 ?_
        rw [pk_mul, nI_add]
        apply g_iaload (pc := 38) C dX10_unlike_38
        · repeat (first | assumption | exact Cl.s (by assumption) | refine Cl.n (by first | decide | omega) ?_)
        · exact vp_in_nI (by omega) (by decide)
        rw [nI_clamp (by omega), hp j hj t (by omega)]
        refine g_icmp_eq (pc := 39) C 49 dX10_unlike_39 (by decide) (fun c39 => ?_) (fun c39 => ?_)
        · refine g_iconst (pc := 49) (v := nI 0) C dX10_unlike_49 (by decide) ?_
          refine g_ior (pc := 50) C dX10_unlike_50 ?_
          refine g_istore_n (pc := 51) C dX10_unlike_51 (by decide) rfl ?_
          refine g_iinc (pc := 52) C dX10_unlike_52 rfl (by decide) rfl ?_
          refine g_goto (pc := 55) C 5 dX10_unlike_55 (by decide) ?_
          exact g_to (ih (t + 1) (by omega)) ⟨rfl, rfl, rfl, lgi (by first | (rw [nI_eq (by omega) (by omega)] at c39; rw [nx_or]; simp [bits, c39]; done) | (rw [nI_eq (by omega) (by omega)] at c39; rw [nx_shl _ (by omega), nx_or]; simp [bits, c39]; done)), lgi (nI_1 t), trivial⟩
        · refine g_iconst (pc := 42) (v := nI 1) C dX10_unlike_42 (by decide) ?_
          refine g_iload (pc := 43) C dX10_unlike_43 rfl ?_
          refine g_ishl (pc := 45) C dX10_unlike_45 ?_
          refine g_goto (pc := 46) C 50 dX10_unlike_46 (by decide) ?_
          refine g_ior (pc := 50) C dX10_unlike_50 ?_
          refine g_istore_n (pc := 51) C dX10_unlike_51 (by decide) rfl ?_
          refine g_iinc (pc := 52) C dX10_unlike_52 rfl (by decide) rfl ?_
          refine g_goto (pc := 55) C 5 dX10_unlike_55 (by decide) ?_
          exact g_to (ih (t + 1) (by omega)) ⟨rfl, rfl, rfl, lgi (by first | (rw [nI_eq (by omega) (by omega)] at c39; rw [nx_or]; simp [bits, c39]; done) | (rw [nI_eq (by omega) (by omega)] at c39; rw [nx_shl _ (by omega), nx_or]; simp [bits, c39]; done)), lgi (nI_1 t), trivial⟩
  refine g_iconst (pc := 0) (v := nI 0) C dX10_unlike_0 (by decide) ?_
  refine g_istore_n (pc := 1) C dX10_unlike_1 (by decide) rfl ?_
  refine g_iconst (pc := 2) (v := nI 0) C dX10_unlike_2 (by decide) ?_
  refine g_istore (pc := 3) C dX10_unlike_3 (by decide) rfl ?_
  exact g_to (loop (tn T) 0 (by omega)) ⟨rfl, rfl, rfl, rfl, rfl, trivial⟩
end REF1

