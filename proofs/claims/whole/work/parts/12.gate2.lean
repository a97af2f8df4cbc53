def passH (T : TS) (h : HH) (i : Nat) : HH := ((h.1.1 ^^^ (1 <<< i), i + 1, uL T h.1.2.1 i), (remH h).2)
def undoH (h : HH) : HH := (h.2.2.1 (h.2.1 - 1), h.2.1 - 1, h.2.2.1, h.2.2.2)
def keepH (h : HH) : HH := (h.1, h.2.1, h.2.2.1, h.2.2.2.1 + 1, fun k => if k = h.2.2.2.1 then h.1 else h.2.2.2.2 k)
def backH (h : HH) : HH := (h.2.2.2.2 (h.2.2.2.1 - 1), 0, h.2.2.1, h.2.2.2.1 - 1, h.2.2.2.2)
theorem remH_1 (h : HH) : (remH h).1 = h.1 := by unfold remH; split <;> rfl
theorem one_shl_lt {i : Nat} (h : i < 9) : 1 <<< i < 512 := by
  rw [Nat.shiftLeft_eq, Nat.one_mul]
  exact Nat.pow_lt_pow_right (a := 2) (by decide) (m := i) (n := 9) h
section GATE2
variable {G : GG} {σ : WW} {T : TS} {h : HH}
abbrev cMain (G : GG) : va_E := .inr (9, [.ref (ga G 1), .ref (ga G 2), .ref (ga G 3), .ref (ga G 4), .ref (ga G 5), .ref (ga G 6), .ref (ga G 7), .ref (ga G 8), .ref (ga G 9), .ref (ga G 10)])
theorem t_pass (hT : RT G σ T) (hg : RG G σ h) (hw : HW (tm T) h) {i : Nat} (hi : i < tm T) : ∃ σ', Mt G mX0_pass [.ref (ga G 2), .ref (ga G 9), .int (nI i)] σ none σ' ∧ RG G σ' (passH T h i) ∧ Fr σ σ' [2, 12, 13] := by
  obtain ⟨σ1, hm, hg1, hf⟩ := t_remember hg hw
  have hT1 : RT G σ1 T := hT.fr hf (by decide) (by decide) (by decide) (by decide)
  have hm9 : tm T ≤ 9 := by obtain ⟨_, _, _, _, _, _, _, hW, _⟩ := hT; exact hW.2.2.2.2.1
  have h2' := hg.1
  obtain ⟨h2, h12, ⟨f, h13, hf13⟩, f2, h14, hf14⟩ := hg1
  rw [remH_1] at h2 h12
  refine ⟨va_up (va_up σ1 12 (cLine (i + 1) (uL T h.1.2.1 i))) 2 (cGate G (h.1.1 ^^^ (1 <<< i)) (remH h).2.1 (remH h).2.2.2.1), ?_, ⟨?_, ?_, ⟨f, ?_, hf13⟩, f2, ?_, hf14⟩, ?_⟩
  · refine Mt.of (by decide +kernel) (Nat.le_of_ble_eq_true rfl) (fun κ C => ?_)
    refine g_aload_n (pc := 0) C dX0_pass_0 rfl ?_
    apply cl_X0_44 (pc := 1) C rfl hm dX0_pass_1
    · repeat (first | assumption | exact Cl.s (by assumption) | refine Cl.n (by first | decide | omega) ?_)
    · rfl
    · exact Nat.le_of_ble_eq_true rfl
    refine g_aload_n (pc := 4) C dX0_pass_4 rfl ?_
    apply gf_X0_12 (pc := 5) C rfl dX0_pass_5
    · repeat (first | assumption | exact Cl.s (by assumption) | refine Cl.n (by first | decide | omega) ?_)
    · rfl
    refine g_aload_n (pc := 8) C dX0_pass_8 rfl ?_
    refine g_iload_n (pc := 9) C dX0_pass_9 rfl ?_
    apply cl_X0_47 (pc := 10) C rfl (t_take hT1 h12 hw.1.2.1 hi) dX0_pass_10
    · repeat (first | assumption | exact Cl.s (by assumption) | refine Cl.n (by first | decide | omega) ?_)
    · rfl
    · exact Nat.le_of_ble_eq_true rfl
    refine g_aload_n (pc := 13) C dX0_pass_13 rfl ?_
    refine g_dup (pc := 14) C dX0_pass_14 rfl ?_
    apply gf_X0_28 (pc := 15) C rfl dX0_pass_15
    · repeat (first | assumption | exact Cl.s (by assumption) | refine Cl.n (by first | decide | omega) ?_)
    · rfl
    refine g_iconst (pc := 18) (v := nI 1) C dX0_pass_18 (by decide) ?_
    refine g_iload_n (pc := 19) C dX0_pass_19 rfl ?_
    refine g_ishl (pc := 20) C dX0_pass_20 ?_
    refine g_ixor (pc := 21) C dX0_pass_21 ?_
    apply pf_X0_28 (pc := 22) C rfl dX0_pass_22
    · repeat (first | assumption | exact Cl.s (by assumption) | refine Cl.n (by first | decide | omega) ?_)
    · rfl
    · rfl
    · exact Nat.le_of_ble_eq_true rfl
    intro hw22
    exact g_return (pc := 25) C dX0_pass_25 rfl rfl (by rw [nx_shl _ (by omega), nx_xor]; rfl)
  · exact Cl.s (Cl.n (by decide) h2)
  · exact Cl.n (by decide) (Cl.s h12)
  · exact Cl.n (by decide) (Cl.n (by decide) h13)
  · exact Cl.n (by decide) (Cl.n (by decide) h14)
  · exact fr3 (fr3 (fun j hj => hf j (fun h => hj (by simp at h ⊢; omega))) (by decide)) (by decide)
theorem t_takeBack0 (hg : RG G σ h) (hu : h.2.1 = 0) : Mt G mX0_takeBack [.ref (ga G 2)] σ (some (.int (nI 0))) σ := by
  obtain ⟨h2, h12, ⟨f, h13, hf13⟩, f2, h14, hf14⟩ := hg
  rw [hu] at h2
  refine Mt.of (by decide +kernel) (Nat.le_of_ble_eq_true rfl) (fun κ C => ?_)
  refine g_aload_n (pc := 0) C dX0_takeBack_0 rfl ?_
  apply gf_X0_32 (pc := 1) C rfl dX0_takeBack_1
  · repeat (first | assumption | exact Cl.s (by assumption) | refine Cl.n (by first | decide | omega) ?_)
  · rfl
  refine g_iconst (pc := 4) (v := nI 1) C dX0_takeBack_4 (by decide) ?_
  refine g_icmp_ge (pc := 5) C 10 dX0_takeBack_5 (by decide) (fun c5 => ?_) (fun c5 => ?_)
  · exact absurd c5 (by decide)
  · refine g_iconst (pc := 8) (v := nI 0) C dX0_takeBack_8 (by decide) ?_
    exact g_zreturn (pc := 9) C dX0_takeBack_9 rfl (by first | exact Or.inl rfl | exact Or.inr rfl) (rfl) (rfl)
theorem t_takeBack {m : Nat} (hm : m ≤ 9) (hg : RG G σ h) (hw : HW m h) (hu : 0 < h.2.1) : ∃ σ', Mt G mX0_takeBack [.ref (ga G 2)] σ (some (.int (nI 1))) σ' ∧ RG G σ' (undoH h) ∧ Fr σ σ' [2, 12] := by
  obtain ⟨h2, h12, ⟨f, h13, hf13⟩, f2, h14, hf14⟩ := hg
  have hu8 := hw.2.1
  have o := hw.2.2.1 (h.2.1 - 1) (by omega)
  refine ⟨va_up (va_up (va_up σ 2 (cGate G h.1.1 (h.2.1 - 1) h.2.2.2.1)) 2 (cGate G (h.2.2.1 (h.2.1 - 1)).1 (h.2.1 - 1) h.2.2.2.1)) 12 (cLine (h.2.2.1 (h.2.1 - 1)).2.1 (h.2.2.1 (h.2.1 - 1)).2.2), ?_, ⟨?_, ?_, ⟨f, ?_, ?_⟩, f2, ?_, hf14⟩, ?_⟩
  · refine Mt.of (by decide +kernel) (Nat.le_of_ble_eq_true rfl) (fun κ C => ?_)
    have e : nI h.2.1 - nI 1 = nI (h.2.1 - 1) := pk_sub (by omega)
    refine g_aload_n (pc := 0) C dX0_takeBack_0 rfl ?_
    apply gf_X0_32 (pc := 1) C rfl dX0_takeBack_1
    · repeat (first | assumption | exact Cl.s (by assumption) | refine Cl.n (by first | decide | omega) ?_)
    · rfl
    refine g_iconst (pc := 4) (v := nI 1) C dX0_takeBack_4 (by decide) ?_
    refine g_icmp_ge (pc := 5) C 10 dX0_takeBack_5 (by decide) (fun c5 => ?_) (fun c5 => ?_)
    · refine g_aload_n (pc := 10) C dX0_takeBack_10 rfl ?_
      refine g_dup (pc := 11) C dX0_takeBack_11 rfl ?_
      apply gf_X0_32 (pc := 12) C rfl dX0_takeBack_12
      · repeat (first | assumption | exact Cl.s (by assumption) | refine Cl.n (by first | decide | omega) ?_)
      · rfl
      refine g_iconst (pc := 15) (v := nI 1) C dX0_takeBack_15 (by decide) ?_
      refine g_isub (pc := 16) C dX0_takeBack_16 ?_
      rw [e]
      apply pf_X0_32 (pc := 17) C rfl dX0_takeBack_17
      · repeat (first | assumption | exact Cl.s (by assumption) | refine Cl.n (by first | decide | omega) ?_)
      · rfl
      · rfl
      · exact Nat.le_of_ble_eq_true rfl
      intro hw17
      refine g_aload_n (pc := 20) C dX0_takeBack_20 rfl ?_
      refine g_aload_n (pc := 21) C dX0_takeBack_21 rfl ?_
      apply gf_X0_18 (pc := 22) C rfl dX0_takeBack_22
      · repeat (first | assumption | exact Cl.s (by assumption) | refine Cl.n (by first | decide | omega) ?_)
      · rfl
      refine g_aload_n (pc := 25) C dX0_takeBack_25 rfl ?_
      apply gf_X0_32 (pc := 26) C rfl dX0_takeBack_26
      · repeat (first | assumption | exact Cl.s (by assumption) | refine Cl.n (by first | decide | omega) ?_)
      · rfl
      apply g_iaload (pc := 29) C dX0_takeBack_29
      · repeat (first | assumption | exact Cl.s (by assumption) | refine Cl.n (by first | decide | omega) ?_)
      · exact vp_in_nI (by omega) (by decide)
      rw [nI_clamp (by omega), hf13 _ (by omega)]
      apply cl_X0_61 (pc := 30) C rfl (t_unpack (ins := h.1.1) (und := h.2.1 - 1) (kept := h.2.2.2.1) hw17 (by repeat (first | assumption | exact Cl.s (by assumption) | refine Cl.n (by first | decide | omega) ?_)) ⟨o.1, Nat.le_trans o.2.1 hm, o.2.2⟩) dX0_takeBack_30
      · repeat (first | assumption | exact Cl.s (by assumption) | refine Cl.n (by first | decide | omega) ?_)
      · rfl
      · exact Nat.le_of_ble_eq_true rfl
      refine g_iconst (pc := 33) (v := nI 1) C dX0_takeBack_33 (by decide) ?_
      exact g_zreturn (pc := 34) C dX0_takeBack_34 rfl (by first | exact Or.inl rfl | exact Or.inr rfl) (rfl) (rfl)
    · exact absurd (nI_le (by omega) (by omega)) c5
  · exact Cl.n (by decide) (Cl.s (Cl.s h2))
  · exact Cl.s (Cl.n (by decide) (Cl.n (by decide) h12))
  · exact Cl.n (by decide) (Cl.n (by decide) (Cl.n (by decide) h13))
  · intro k hk
    have hk : k < h.2.1 - 1 := hk
    exact hf13 k (by omega)
  · exact Cl.n (by decide) (Cl.n (by decide) (Cl.n (by decide) h14))
  · exact fr3 (fr3 (fr3 fr0 (by decide)) (by decide)) (by decide)
theorem t_store2 (hg : RG G σ h) (hu : h.2.2.2.1 = 2) : Mt G mX0_store [.ref (ga G 2)] σ (some (.int (nI 0))) σ := by
  obtain ⟨h2, h12, ⟨f, h13, hf13⟩, f2, h14, hf14⟩ := hg
  rw [hu] at h2
  refine Mt.of (by decide +kernel) (Nat.le_of_ble_eq_true rfl) (fun κ C => ?_)
  refine g_aload_n (pc := 0) C dX0_store_0 rfl ?_
  apply gf_X0_35 (pc := 1) C rfl dX0_store_1
  · repeat (first | assumption | exact Cl.s (by assumption) | refine Cl.n (by first | decide | omega) ?_)
  · rfl
  refine g_iconst (pc := 4) (v := nI 2) C dX0_store_4 (by decide) ?_
  refine g_icmp_lt (pc := 5) C 10 dX0_store_5 (by decide) (fun c5 => ?_) (fun c5 => ?_)
  · exact absurd c5 (by decide)
  · refine g_iconst (pc := 8) (v := nI 0) C dX0_store_8 (by decide) ?_
    exact g_zreturn (pc := 9) C dX0_store_9 rfl (by first | exact Or.inl rfl | exact Or.inr rfl) (rfl) (rfl)
theorem t_store {m : Nat} (hg : RG G σ h) (hw : HW m h) (hu : h.2.2.2.1 < 2) : ∃ σ', Mt G mX0_store [.ref (ga G 2)] σ (some (.int (nI 1))) σ' ∧ RG G σ' (keepH h) ∧ Fr σ σ' [2, 14] := by
  obtain ⟨h2, h12, ⟨f, h13, hf13⟩, f2, h14, hf14⟩ := hg
  refine ⟨va_up (va_up σ 14 (iA G 2 (upd f2 h.2.2.2.1 (nI (pk3 h.1))))) 2 (cGate G h.1.1 h.2.1 (h.2.2.2.1 + 1)), ?_, ⟨?_, ?_, ⟨f, ?_, hf13⟩, upd f2 h.2.2.2.1 (nI (pk3 h.1)), ?_, ?_⟩, ?_⟩
  · refine Mt.of (by decide +kernel) (Nat.le_of_ble_eq_true rfl) (fun κ C => ?_)
    refine g_aload_n (pc := 0) C dX0_store_0 rfl ?_
    apply gf_X0_35 (pc := 1) C rfl dX0_store_1
    · repeat (first | assumption | exact Cl.s (by assumption) | refine Cl.n (by first | decide | omega) ?_)
    · rfl
    refine g_iconst (pc := 4) (v := nI 2) C dX0_store_4 (by decide) ?_
    refine g_icmp_lt (pc := 5) C 10 dX0_store_5 (by decide) (fun c5 => ?_) (fun c5 => ?_)
    · refine g_aload_n (pc := 10) C dX0_store_10 rfl ?_
      apply gf_X0_22 (pc := 11) C rfl dX0_store_11
      · repeat (first | assumption | exact Cl.s (by assumption) | refine Cl.n (by first | decide | omega) ?_)
      · rfl
      refine g_aload_n (pc := 14) C dX0_store_14 rfl ?_
      apply gf_X0_35 (pc := 15) C rfl dX0_store_15
      · repeat (first | assumption | exact Cl.s (by assumption) | refine Cl.n (by first | decide | omega) ?_)
      · rfl
      refine g_aload_n (pc := 18) C dX0_store_18 rfl ?_
      apply cl_X0_57 (pc := 19) C rfl (t_packed h2 h12) dX0_store_19
      · repeat (first | assumption | exact Cl.s (by assumption) | refine Cl.n (by first | decide | omega) ?_)
      · rfl
      · exact Nat.le_of_ble_eq_true rfl
      apply g_iastore (pc := 22) C dX0_store_22
      · repeat (first | assumption | exact Cl.s (by assumption) | refine Cl.n (by first | decide | omega) ?_)
      · exact vp_in_nI (by omega) (by decide)
      intro hw22
      refine g_aload_n (pc := 23) C dX0_store_23 rfl ?_
      refine g_dup (pc := 24) C dX0_store_24 rfl ?_
      apply gf_X0_35 (pc := 25) C rfl dX0_store_25
      · repeat (first | assumption | exact Cl.s (by assumption) | refine Cl.n (by first | decide | omega) ?_)
      · rfl
      refine g_iconst (pc := 28) (v := nI 1) C dX0_store_28 (by decide) ?_
      refine g_iadd (pc := 29) C dX0_store_29 ?_
      apply pf_X0_35 (pc := 30) C rfl dX0_store_30
      · repeat (first | assumption | exact Cl.s (by assumption) | refine Cl.n (by first | decide | omega) ?_)
      · rfl
      · rfl
      · exact Nat.le_of_ble_eq_true rfl
      intro hw30
      refine g_iconst (pc := 33) (v := nI 1) C dX0_store_33 (by decide) ?_
      exact g_zreturn (pc := 34) C dX0_store_34 rfl (by first | exact Or.inl rfl | exact Or.inr rfl) (rfl) (by rw [nI_clamp (by omega), nI_add]; rfl)
    · exact absurd (nI_lt (by omega) (by decide)) c5
  · exact Cl.s (Cl.n (by decide) h2)
  · exact Cl.n (by decide) (Cl.n (by decide) h12)
  · exact Cl.n (by decide) (Cl.n (by decide) h13)
  · exact Cl.n (by decide) (Cl.s h14)
  · intro k hk
    have hk : k < h.2.2.2.1 + 1 := hk
    by_cases h7 : k = h.2.2.2.1
    · rw [h7, pk_us]
      simp [keepH]
    · rw [pk_un h7, hf14 k (by omega)]
      simp [keepH, h7]
  · exact fr3 (fr3 fr0 (by decide)) (by decide)
theorem t_fetch0 (hg : RG G σ h) (hu : h.2.2.2.1 = 0) : Mt G mX0_fetch [.ref (ga G 2)] σ (some (.int (nI 0))) σ := by
  obtain ⟨h2, h12, ⟨f, h13, hf13⟩, f2, h14, hf14⟩ := hg
  rw [hu] at h2
  refine Mt.of (by decide +kernel) (Nat.le_of_ble_eq_true rfl) (fun κ C => ?_)
  refine g_aload_n (pc := 0) C dX0_fetch_0 rfl ?_
  apply gf_X0_35 (pc := 1) C rfl dX0_fetch_1
  · repeat (first | assumption | exact Cl.s (by assumption) | refine Cl.n (by first | decide | omega) ?_)
  · rfl
  refine g_iconst (pc := 4) (v := nI 1) C dX0_fetch_4 (by decide) ?_
  refine g_icmp_ge (pc := 5) C 10 dX0_fetch_5 (by decide) (fun c5 => ?_) (fun c5 => ?_)
  · exact absurd c5 (by decide)
  · refine g_iconst (pc := 8) (v := nI 0) C dX0_fetch_8 (by decide) ?_
    exact g_zreturn (pc := 9) C dX0_fetch_9 rfl (by first | exact Or.inl rfl | exact Or.inr rfl) (rfl) (rfl)
theorem t_fetch {m : Nat} (hm : m ≤ 9) (hg : RG G σ h) (hw : HW m h) (hu : 0 < h.2.2.2.1) : ∃ σ', Mt G mX0_fetch [.ref (ga G 2)] σ (some (.int (nI 1))) σ' ∧ RG G σ' (backH h) ∧ Fr σ σ' [2, 12] := by
  obtain ⟨h2, h12, ⟨f, h13, hf13⟩, f2, h14, hf14⟩ := hg
  have hu2 := hw.2.2.2.1
  have o := hw.2.2.2.2 (h.2.2.2.1 - 1) (by omega)
  refine ⟨va_up (va_up (va_up (va_up σ 2 (cGate G h.1.1 h.2.1 (h.2.2.2.1 - 1))) 2 (cGate G (h.2.2.2.2 (h.2.2.2.1 - 1)).1 h.2.1 (h.2.2.2.1 - 1))) 12 (cLine (h.2.2.2.2 (h.2.2.2.1 - 1)).2.1 (h.2.2.2.2 (h.2.2.2.1 - 1)).2.2)) 2 (cGate G (h.2.2.2.2 (h.2.2.2.1 - 1)).1 0 (h.2.2.2.1 - 1)), ?_, ⟨?_, ?_, ⟨f, ?_, ?_⟩, f2, ?_, ?_⟩, ?_⟩
  · refine Mt.of (by decide +kernel) (Nat.le_of_ble_eq_true rfl) (fun κ C => ?_)
    have e : nI h.2.2.2.1 - nI 1 = nI (h.2.2.2.1 - 1) := pk_sub (by omega)
    refine g_aload_n (pc := 0) C dX0_fetch_0 rfl ?_
    apply gf_X0_35 (pc := 1) C rfl dX0_fetch_1
    · repeat (first | assumption | exact Cl.s (by assumption) | refine Cl.n (by first | decide | omega) ?_)
    · rfl
    refine g_iconst (pc := 4) (v := nI 1) C dX0_fetch_4 (by decide) ?_
    refine g_icmp_ge (pc := 5) C 10 dX0_fetch_5 (by decide) (fun c5 => ?_) (fun c5 => ?_)
    · refine g_aload_n (pc := 10) C dX0_fetch_10 rfl ?_
      refine g_dup (pc := 11) C dX0_fetch_11 rfl ?_
      apply gf_X0_35 (pc := 12) C rfl dX0_fetch_12
      · repeat (first | assumption | exact Cl.s (by assumption) | refine Cl.n (by first | decide | omega) ?_)
      · rfl
      refine g_iconst (pc := 15) (v := nI 1) C dX0_fetch_15 (by decide) ?_
      refine g_isub (pc := 16) C dX0_fetch_16 ?_
      rw [e]
      apply pf_X0_35 (pc := 17) C rfl dX0_fetch_17
      · repeat (first | assumption | exact Cl.s (by assumption) | refine Cl.n (by first | decide | omega) ?_)
      · rfl
      · rfl
      · exact Nat.le_of_ble_eq_true rfl
      intro hw17
      refine g_aload_n (pc := 20) C dX0_fetch_20 rfl ?_
      refine g_aload_n (pc := 21) C dX0_fetch_21 rfl ?_
      apply gf_X0_22 (pc := 22) C rfl dX0_fetch_22
      · repeat (first | assumption | exact Cl.s (by assumption) | refine Cl.n (by first | decide | omega) ?_)
      · rfl
      refine g_aload_n (pc := 25) C dX0_fetch_25 rfl ?_
      apply gf_X0_35 (pc := 26) C rfl dX0_fetch_26
      · repeat (first | assumption | exact Cl.s (by assumption) | refine Cl.n (by first | decide | omega) ?_)
      · rfl
      apply g_iaload (pc := 29) C dX0_fetch_29
      · repeat (first | assumption | exact Cl.s (by assumption) | refine Cl.n (by first | decide | omega) ?_)
      · exact vp_in_nI (by omega) (by decide)
      rw [nI_clamp (by omega), hf14 _ (by omega)]
      apply cl_X0_61 (pc := 30) C rfl (t_unpack (ins := h.1.1) (und := h.2.1) (kept := h.2.2.2.1 - 1) hw17 (by repeat (first | assumption | exact Cl.s (by assumption) | refine Cl.n (by first | decide | omega) ?_)) ⟨o.1, Nat.le_trans o.2.1 hm, o.2.2⟩) dX0_fetch_30
      · repeat (first | assumption | exact Cl.s (by assumption) | refine Cl.n (by first | decide | omega) ?_)
      · rfl
      · exact Nat.le_of_ble_eq_true rfl
      refine g_aload_n (pc := 33) C dX0_fetch_33 rfl ?_
      refine g_iconst (pc := 34) (v := nI 0) C dX0_fetch_34 (by decide) ?_
      apply pf_X0_32 (pc := 35) C rfl dX0_fetch_35
      · repeat (first | assumption | exact Cl.s (by assumption) | refine Cl.n (by first | decide | omega) ?_)
      · rfl
      · rfl
      · exact Nat.le_of_ble_eq_true rfl
      intro hw35
      refine g_iconst (pc := 38) (v := nI 1) C dX0_fetch_38 (by decide) ?_
      exact g_zreturn (pc := 39) C dX0_fetch_39 rfl (by first | exact Or.inl rfl | exact Or.inr rfl) (rfl) (rfl)
    · exact absurd (nI_le (by omega) (by omega)) c5
  · exact Cl.s (Cl.n (by decide) (Cl.s (Cl.s h2)))
  · exact Cl.n (by decide) (Cl.s (Cl.n (by decide) (Cl.n (by decide) h12)))
  · exact Cl.n (by decide) (Cl.n (by decide) (Cl.n (by decide) (Cl.n (by decide) h13)))
  · intro k hk
    exact absurd hk (Nat.not_lt_zero k)
  · exact Cl.n (by decide) (Cl.n (by decide) (Cl.n (by decide) (Cl.n (by decide) h14)))
  · intro k hk
    have hk : k < h.2.2.2.1 - 1 := hk
    exact hf14 k (by omega)
  · exact fr3 (fr3 (fr3 (fr3 fr0 (by decide)) (by decide)) (by decide)) (by decide)
end GATE2

