theorem v_21 : (Cond.instantiable "UnlikeGate" (10)) ∈ GW := gw_tbl (List.mem_of_getElem? (i := 21) (by decide +kernel)) (by decide +kernel)
theorem v_726 : (Cond.instantiable "UnlikeGateModel" (23)) ∈ GW := gw_tbl (List.mem_of_getElem? (i := 726) (by decide +kernel)) (by decide +kernel)
theorem neg4 : ∀ L, L < 4 → nI L - nI 4 < nI 0 := by decide
theorem law_loop {l : Launch} {D : va_G} {t : ClassId × ClassId × ClassId} {κ : KK} {sz : Nat} {Q : State → Prop} {b L : Nat} {xs : Nat → Int32} (C : Cn (xL l D t sz) κ) (hsz : (ks κ).heap.size = sz) (hH : HoldX (zA sz) (ks κ)) (hL : L ≤ 2048) (hX : va_X b L xs (ks κ) (ks κ).heap) (hbl : b < sz) (K : Gn (xL l D t sz) κ Q (fun _ => True) 46 17118 786 [] []) : ∀ e i q1 q2, i ≤ L → L + 1 ≤ i + e → Gn (xL l D t sz) κ Q (LW (xL l D t sz) q1 q2) 46 17118 18 [(0, .ref b), (1, .ref q1), (2, .ref q2), (3, .int (nI i))] [] := by
  intro e
  induction e with
  | zero => intro i q1 q2 h1 h2; omega
  | succ e ih =>
    intro i q1 q2 hi he
    refine n_iload_n (pc := 18) C dL_law_18 rfl ?_
    refine n_aload_n (pc := 19) C dL_law_19 rfl ?_
    refine n_slen (pc := 20) C hX (by omega) (Nat.not_le.mpr hbl) dL_law_20 ?_
    refine n_iconst (pc := 21) (v := nI 4) C dL_law_21 (by decide) ?_
    refine n_isub (pc := 22) C dL_law_22 ?_
    by_cases h4 : i + 4 ≤ L
    · rw [pk_sub (show 4 ≤ L by omega)]
      refine n_icmp_gt (pc := 23) C 786 dL_law_23 rfl (fun z => absurd z (nI_nlt (by omega) (by omega))) (fun _ => ?_)
      refine n_exL (fun G1 σ1 G2 σ2 hB hP => ?_)
      obtain rfl := hB.2.2.2.2.1
      obtain rfl := hB.2.2.2.2.2.1
      have k780 : Gn (xL l D t sz) κ Q (LW (xL l D t sz) (ga G1 0) (ga G2 0)) 46 17118 780 (lvW b G1 G2 i) [] := by
        refine n_iinc (pc := 780) C dL_law_780 rfl (Nat.le_of_ble_eq_true rfl) rfl ?_
        refine n_goto (pc := 783) C 18 dL_law_783 rfl ?_
        exact n_to (ih (i + 4) (ga G1 0) (ga G2 0) h4 (by omega)) ⟨rfl, rfl, rfl, lgi (nI_add i 4), trivial⟩
      refine n_aload_n (pc := 26) C dL_law_26 rfl ?_
      refine n_iload_n (pc := 27) C dL_law_27 rfl ?_
      refine n_sld (pc := 28) C hX (by omega) (Nat.not_le.mpr hbl) (vp_in_nI (by omega) (by omega)) dL_law_28 ?_
      refine n_bipush (pc := 29) (v := nI 31) C dL_law_29 (by decide) ?_
      refine n_iand (pc := 31) C dL_law_31 ?_
      obtain ⟨c, hc, ec⟩ := pk_andE (xs (nI i).toNatClampNeg) (m := nI 31) 5 (by decide)
      rw [ec]
      by_cases hc25 : c < 25
      · have h25 : c = 0 ∨ c = 1 ∨ c = 2 ∨ c = 3 ∨ c = 4 ∨ c = 5 ∨ c = 6 ∨ c = 7 ∨ c = 8 ∨ c = 9 ∨ c = 10 ∨ c = 11 ∨ c = 12 ∨ c = 13 ∨ c = 14 ∨ c = 15 ∨ c = 16 ∨ c = 17 ∨ c = 18 ∨ c = 19 ∨ c = 20 ∨ c = 21 ∨ c = 22 ∨ c = 23 ∨ c = 24 := by omega
        rcases h25 with rfl | rfl | rfl | rfl | rfl | rfl | rfl | rfl | rfl | rfl | rfl | rfl | rfl | rfl | rfl | rfl | rfl | rfl | rfl | rfl | rfl | rfl | rfl | rfl | rfl
        · exact n_tableIn (pc := 32) C 148 dL_law_32 (by decide) (by decide) rfl (by decide) (law_write C hsz hH hL hX hbl hB hP h4 k780)
        · exact n_tableIn (pc := 32) C 211 dL_law_32 (by decide) (by decide) rfl (by decide) (law_wipe C hsz hH hL hX hbl hB hP h4 k780)
        · exact n_tableIn (pc := 32) C 224 dL_law_32 (by decide) (by decide) rfl (by decide) (law_fault C hsz hH hL hX hbl hB hP h4 k780)
        · exact n_tableIn (pc := 32) C 237 dL_law_32 (by decide) (by decide) rfl (by decide) (law_lay C hsz hH hL hX hbl hB hP h4 k780)
        · exact n_tableIn (pc := 32) C 250 dL_law_32 (by decide) (by decide) rfl (by decide) (law_person C hsz hH hL hX hbl hB hP h4 k780)
        · exact n_tableIn (pc := 32) C 283 dL_law_32 (by decide) (by decide) rfl (by decide) (law_differ C hsz hH hL hX hbl hB hP h4 k780)
        · exact n_tableIn (pc := 32) C 342 dL_law_32 (by decide) (by decide) rfl (by decide) (law_may C hsz hH hL hX hbl hB hP h4 k780)
        · exact n_tableIn (pc := 32) C 365 dL_law_32 (by decide) (by decide) rfl (by decide) (law_goIn C hsz hH hL hX hbl hB hP h4 k780)
        · exact n_tableIn (pc := 32) C 388 dL_law_32 (by decide) (by decide) rfl (by decide) (law_goOut C hsz hH hL hX hbl hB hP h4 k780)
        · exact n_tableIn (pc := 32) C 411 dL_law_32 (by decide) (by decide) rfl (by decide) (law_undo C hsz hH hL hX hbl hB hP h4 k780)
        · exact n_tableIn (pc := 32) C 424 dL_law_32 (by decide) (by decide) rfl (by decide) (law_last C hsz hH hL hX hbl hB hP h4 k780)
        · exact n_tableIn (pc := 32) C 437 dL_law_32 (by decide) (by decide) rfl (by decide) (law_add C hsz hH hL hX hbl hB hP h4 k780)
        · exact n_tableIn (pc := 32) C 460 dL_law_32 (by decide) (by decide) rfl (by decide) (law_noRow C hsz hH hL hX hbl hB hP h4 k780)
        · exact n_tableIn (pc := 32) C 473 dL_law_32 (by decide) (by decide) rfl (by decide) (law_judge C hsz hH hL hX hbl hB hP h4 k780)
        · exact n_tableIn (pc := 32) C 486 dL_law_32 (by decide) (by decide) rfl (by decide) (law_longest C hsz hH hL hX hbl hB hP h4 k780)
        · exact n_tableIn (pc := 32) C 519 dL_law_32 (by decide) (by decide) rfl (by decide) (law_proof C hsz hH hL hX hbl hB hP h4 k780)
        · exact n_tableIn (pc := 32) C 532 dL_law_32 (by decide) (by decide) rfl (by decide) (law_between C hsz hH hL hX hbl hB hP h4 k780)
        · exact n_tableIn (pc := 32) C 576 dL_law_32 (by decide) (by decide) rfl (by decide) (law_nearest C hsz hH hL hX hbl hB hP h4 k780)
        · exact n_tableIn (pc := 32) C 609 dL_law_32 (by decide) (by decide) rfl (by decide) (law_steps C hsz hH hL hX hbl hB hP h4 k780)
        · exact n_tableIn (pc := 32) C 652 dL_law_32 (by decide) (by decide) rfl (by decide) (law_lent C hsz hH hL hX hbl hB hP h4 k780)
        · exact n_tableIn (pc := 32) C 675 dL_law_32 (by decide) (by decide) rfl (by decide) (law_mustSee C hsz hH hL hX hbl hB hP h4 k780)
        · exact n_tableIn (pc := 32) C 688 dL_law_32 (by decide) (by decide) rfl (by decide) (law_crowd C hsz hH hL hX hbl hB hP h4 k780)
        · exact n_tableIn (pc := 32) C 731 dL_law_32 (by decide) (by decide) rfl (by decide) (law_keep C hsz hH hL hX hbl hB hP h4 k780)
        · exact n_tableIn (pc := 32) C 744 dL_law_32 (by decide) (by decide) rfl (by decide) (law_back C hsz hH hL hX hbl hB hP h4 k780)
        · exact n_tableIn (pc := 32) C 757 dL_law_32 (by decide) (by decide) rfl (by decide) (law_count C hsz hH hL hX hbl hB hP h4 k780)
      · refine n_tableOut (pc := 32) C 780 dL_law_32 (Or.inr (by rw [nI_toInt (by omega)]; omega)) (by decide) ?_
        exact n_phi (fun H h => ⟨G1, σ1, G2, σ2, hB, hP, h⟩) k780
    · refine n_icmp_gt (pc := 23) C 786 dL_law_23 rfl (fun _ => ?_) (fun z => absurd ?_ z)
      · exact n_phi (fun _ _ => trivial) (n_to K trivial)
      · by_cases hL4 : L < 4
        · refine Int32.lt_of_lt_of_le (neg4 L hL4) ?_
          exact nI_le (Nat.zero_le i) (by omega)
        · rw [pk_sub (by omega)]
          exact nI_lt (by omega) (by omega)
theorem HoldX.warm {A B : Nat → Prop} {s U : State} {H : Heap} {locs : List Loc} (h : HoldX A s) (hU : U.heap = H) (hS : va_S A s.heap H locs) (hB : ∀ q, B q → A q) (hvm : s.vm.Alike U.vm) : HoldX B U := by
  obtain ⟨t, hZ, hT⟩ := h
  refine ⟨t, ?_, ?_⟩ <;> rw [hU]
  · exact ((hZ.kept (H1 := H) (fun a h1 h2 => hS.2.1 a h1 h2)).narrow hB).moved hvm
  · exact ((hT.kept (H1 := H) (fun a h1 h2 => hS.2.1 a h1 h2)).narrow hB).moved hvm
theorem arrK {args : Array Value} {s : State} {ty : FieldType} (h : (Cond.arrayClass ty).before args s = true) : ∃ cA, ArrOfT s cA ty ∧ s.vm.findClass ("[" ++ ty.toString) = some cA := by
  obtain ⟨cA, kA, comp, h1, h2, h3⟩ := Cond.arrayClass_spec h
  exact ⟨cA, fun n z => ⟨fun k h => (by cases h), kA, h2, comp, h3⟩, h1⟩
/-- the classes and arrays as the tables have them -/
theorem K_of {args : Array Value} {s : State} (hts : ∀ w ∈ GW, w.before args s = true) : ∃ (D : va_G) (t : ClassId × ClassId × ClassId), va_K D vwCl (tyX t) s := by
  obtain ⟨cX0, iX0, kX0⟩ := u_known (C := RX0) (T := TX0) (N := 6) (n := 6) hts inGX0 (hts _ v_44)
  obtain ⟨cX1, iX1, kX1⟩ := u_known (C := RX1) (T := TX1) (N := 1) (n := 1) hts inGX1 (hts _ v_144)
  obtain ⟨cX2, iX2, kX2⟩ := u_known (C := RX2) (T := TX2) (N := 2) (n := 2) hts inGX2 (hts _ v_50)
  obtain ⟨cX3, iX3, kX3⟩ := u_known (C := RX3) (T := TX3) (N := 2) (n := 2) hts inGX3 (hts _ v_121)
  obtain ⟨cX4, iX4, kX4⟩ := u_known (C := RX4) (T := TX4) (N := 2) (n := 2) hts inGX4 (hts _ v_90)
  obtain ⟨cX5, iX5, kX5⟩ := u_known (C := RX5) (T := TX5) (N := 1) (n := 1) hts inGX5 (hts _ v_134)
  obtain ⟨cX6, iX6, kX6⟩ := u_known (C := RX6) (T := TX6) (N := 2) (n := 2) hts inGX6 (hts _ v_29)
  obtain ⟨cX7, iX7, kX7⟩ := u_known (C := RX7) (T := TX7) (N := 9) (n := 9) hts inGX7 (hts _ v_154)
  obtain ⟨cX8, iX8, kX8⟩ := u_known (C := RX8) (T := TX8) (N := 2) (n := 2) hts inGX8 (hts _ v_107)
  obtain ⟨cX9, iX9, kX9⟩ := u_known (C := RX9) (T := TX9) (N := 10) (n := 10) hts inGX9 (hts _ v_21)
  obtain ⟨cX10, iX10, kX10⟩ := u_known (C := RX10) (T := TX10) (N := 23) (n := 23) hts inGX10 (hts _ v_726)
  obtain ⟨cB, aB, fB⟩ := arrK (hts _ v_42)
  obtain ⟨cI, aI, fI⟩ := arrK (hts _ v_88)
  obtain ⟨cJ, aJ, fJ⟩ := arrK (hts _ v_119)
  have h0 : ∀ c : Nat, ∃ p : ClassId × (Nat → Nat), ∀ q : vw_C, vwCl[c]? = some q → u_Kn s q.1 q.2.1 q.2.2 p.1 p.2 := by
    intro c
    match c with
    | 0 => exact ⟨(cX0, iX0), fun q hq => by cases hq; exact kX0⟩
    | 1 => exact ⟨(cX1, iX1), fun q hq => by cases hq; exact kX1⟩
    | 2 => exact ⟨(cX2, iX2), fun q hq => by cases hq; exact kX2⟩
    | 3 => exact ⟨(cX3, iX3), fun q hq => by cases hq; exact kX3⟩
    | 4 => exact ⟨(cX4, iX4), fun q hq => by cases hq; exact kX4⟩
    | 5 => exact ⟨(cX5, iX5), fun q hq => by cases hq; exact kX5⟩
    | 6 => exact ⟨(cX6, iX6), fun q hq => by cases hq; exact kX6⟩
    | 7 => exact ⟨(cX7, iX7), fun q hq => by cases hq; exact kX7⟩
    | 8 => exact ⟨(cX8, iX8), fun q hq => by cases hq; exact kX8⟩
    | 9 => exact ⟨(cX9, iX9), fun q hq => by cases hq; exact kX9⟩
    | 10 => exact ⟨(cX10, iX10), fun q hq => by cases hq; exact kX10⟩
    | c + 11 => exact ⟨(cX0, iX0), fun q hq => by simp at hq⟩
  obtain ⟨f, hf⟩ := Classical.axiomOfChoice h0
  refine ⟨(fun c => (f c).1, fun c => (f c).2), (cB, cI, cJ), fun c q hq => hf c q hq, fun k q hk => ?_⟩
  match k, hk with
  | 0, hk => cases hk; exact ⟨aB, fB⟩
  | 1, hk => cases hk; exact ⟨aI, fI⟩
  | 2, hk => cases hk; exact ⟨aJ, fJ⟩
  | k + 3, hk => simp [tyX] at hk
