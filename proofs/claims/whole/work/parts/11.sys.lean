/-! the state of the whole: the text, what is told, the gate, the row -/
abbrev SS : Type := (Nat × (Nat → Int32)) × TS × (GS × Nat × (Nat → GS) × Nat × (Nat → GS)) × Nat × (Nat → Nat)
abbrev sN (S : SS) : Nat := S.1.1
abbrev sX (S : SS) : Nat → Int32 := S.1.2
abbrev sT (S : SS) : TS := S.2.1
abbrev sg (S : SS) : GS := S.2.2.1.1
abbrev su (S : SS) : Nat := S.2.2.1.2.1
abbrev se (S : SS) : Nat → GS := S.2.2.1.2.2.1
abbrev sk (S : SS) : Nat := S.2.2.1.2.2.2.1
abbrev sq (S : SS) : Nat → GS := S.2.2.1.2.2.2.2
abbrev sr (S : SS) : Nat := S.2.2.2.1
abbrev sw (S : SS) : Nat → Nat := S.2.2.2.2
/-- the gate's part -/
abbrev HH : Type := GS × Nat × (Nat → GS) × Nat × (Nat → GS)
def HW (m : Nat) (h : HH) : Prop := ok3 m h.1 ∧ h.2.1 ≤ 8 ∧ (∀ k, k < h.2.1 → ok3 m (h.2.2.1 k)) ∧ h.2.2.2.1 ≤ 2 ∧ ∀ k, k < h.2.2.2.1 → ok3 m (h.2.2.2.2 k)
def RG (G : GG) (σ : WW) (h : HH) : Prop := Cl G σ 2 (cGate G h.1.1 h.2.1 h.2.2.2.1) ∧ Cl G σ 12 (cLine h.1.2.1 h.1.2.2) ∧ (∃ f, Cl G σ 13 (iA G 8 f) ∧ ∀ k, k < h.2.1 → f k = nI (pk3 (h.2.2.1 k))) ∧ ∃ f, Cl G σ 14 (iA G 2 f) ∧ ∀ k, k < h.2.2.2.1 → f k = nI (pk3 (h.2.2.2.2 k))
def Fr (σ σ' : WW) (ps : List Nat) : Prop := ∀ j, j ∉ ps → σ' j = σ j
theorem Cl.fr {G : GG} {σ σ' : WW} {i : Nat} {e : va_E} {ps : List Nat} (h : Cl G σ i e) (f : Fr σ σ' ps) (hi : i ∉ ps) : Cl G σ' i e := ⟨h.1, (f i hi).trans h.2⟩
theorem RT.fr {G : GG} {σ σ' : WW} {T : TS} {ps : List Nat} (h : RT G σ T) (f : Fr σ σ' ps) (h9 : 9 ∉ ps) (h21 : 21 ∉ ps) (h22 : 22 ∉ ps) (h23 : 23 ∉ ps) : RT G σ' T := by
  obtain ⟨fv, fl, fh, a, b, c, d, e⟩ := h
  exact ⟨fv, fl, fh, a.fr f h9, b.fr f h21, c.fr f h22, d.fr f h23, e⟩
theorem RG.fr {G : GG} {σ σ' : WW} {h : HH} {ps : List Nat} (hg : RG G σ h) (f : Fr σ σ' ps) (h2 : 2 ∉ ps) (h12 : 12 ∉ ps) (h13 : 13 ∉ ps) (h14 : 14 ∉ ps) : RG G σ' h := by
  obtain ⟨a, b, ⟨f1, c, d⟩, f2, e, g⟩ := hg
  exact ⟨a.fr f h2, b.fr f h12, ⟨f1, c.fr f h13, d⟩, f2, e.fr f h14, g⟩
theorem g_copyi {G : GG} {M : MM} {κ : KK} {r : Option Value} {σ σ' : WW} {pc : Nat} {lv : List (Nat × Value)} {st : List Value} (C : Cx G M κ) {ix i n : Nat} {f : Nat → Int32} {sp dp ln : Nat} (hd : decode (Mc M) pc = .ok (.invokestatic ix, 3)) (hw : Cond.methodLink (My M).cls ix arraycopyName ∈ GW) (hw2 : Cond.native arraycopyName ∈ GW) (hw3 : Cond.static arraycopyName ∈ GW) (hw4 : Cond.initialized "java/lang/System" ∈ GW) (hσ : Cl G σ i (iA G n f)) (h4 : sp + ln ≤ n) (h5 : dp + ln ≤ n) (hn : n < 2 ^ 31) (hf : 1 ≤ (Mr M).frames) (hlo : (st.map fun v => v.category).sum + 18 ≤ (Mr M).locals)
    (kk : Cl G (va_up σ i (iA G n (va_cpy f f sp dp ln))) i (iA G n (va_cpy f f sp dp ln)) → Go G M κ r σ' (va_up σ i (iA G n (va_cpy f f sp dp ln))) (pc + 3) lv st) : Go G M κ r σ' σ pc lv (.int (nI ln) :: .int (nI dp) :: .ref (ga G i) :: .int (nI sp) :: .ref (ga G i) :: st) := fun H locs ls hP hS hl => by
  have e1 := nI_clamp (n := sp) (by omega)
  have e2 := nI_clamp (n := dp) (by omega)
  have e3 := nI_clamp (n := ln) (by omega)
  refine va_copyi (f := f) (g := f) C.1 C.2.1 (C.ml.trans hl.1.symm) C.own (C.ts _ hw) (C.ts _ hw2) (C.ts _ hw3) (C.ts _ hw4) C.okk.1 hP (wd_D C.okk.2.2.1) hS i i 1 1 (wd_is hσ) (wd_is hσ) rfl rfl rfl (nI_pos (by omega)) (nI_pos (by omega)) (nI_pos (by omega)) (by rw [e1, e3]; exact h4) (by rw [e2, e3]; exact h5) (fun _ _ => rfl) hf hlo hd (fun H1 locs1 h1 _ h3 => ?_)
  rw [e1, e2, e3, wd_set _ hσ.1] at h1
  exact kk hσ.s H1 locs1 ls h1 h3 hl
theorem w_ac1 : Cond.methodLink RX0 51 arraycopyName ∈ GW := gw_tbl (List.mem_of_getElem? (i := 442) (by decide +kernel)) (by decide +kernel)
theorem w_ac2 : Cond.native arraycopyName ∈ GW := gw_tbl (List.mem_of_getElem? (i := 444) (by decide +kernel)) (by decide +kernel)
theorem w_ac3 : Cond.static arraycopyName ∈ GW := gw_tbl (List.mem_of_getElem? (i := 443) (by decide +kernel)) (by decide +kernel)
theorem w_ac4 : Cond.initialized "java/lang/System" ∈ GW := gw_tbl (List.mem_of_getElem? (i := 17) (by decide +kernel)) (by decide +kernel)
/-- one more that can be undone: the last eight -/
def remH (h : HH) : HH := if h.2.1 = 8 then (h.1, 8, fun k => if k = 7 then h.1 else h.2.2.1 (k + 1), h.2.2.2) else (h.1, h.2.1 + 1, fun k => if k = h.2.1 then h.1 else h.2.2.1 k, h.2.2.2)
section SYS
variable {G : GG} {σ : WW} {T : TS} {h : HH}
theorem fr3 {σ : WW} {a : va_E} {i : Nat} {ps : List Nat} {σ0 : WW} (hf : Fr σ0 σ ps) (hi : i ∈ ps) : Fr σ0 (va_up σ i a) ps := by
  intro j hj
  have : j ≠ i := fun e => hj (e ▸ hi)
  simp only [va_up, if_neg this]
  exact hf j hj
theorem fr0 {σ : WW} {ps : List Nat} : Fr σ σ ps := fun _ _ => rfl
theorem t_remember {m : Nat} (hg : RG G σ h) (hw : HW m h) : ∃ σ', Mt G mX0_remember [.ref (ga G 2)] σ none σ' ∧ RG G σ' (remH h) ∧ Fr σ σ' [2, 13] := by
  obtain ⟨h2, h12, ⟨f, h13, hf⟩, f2, h14, hf2⟩ := hg
  obtain ⟨o1, o2, o3, o4, o5⟩ := hw
  by_cases hc : h.2.1 = 8
  · rw [hc] at h2 hf
    refine ⟨va_up (va_up (va_up (va_up σ 13 (iA G 8 (va_cpy f f 1 0 7))) 2 (cGate G h.1.1 7 h.2.2.2.1)) 13 (iA G 8 (upd (va_cpy f f 1 0 7) 7 (nI (pk3 h.1))))) 2 (cGate G h.1.1 8 h.2.2.2.1), ?_, ?_⟩
    · refine Mt.of (by decide +kernel) (Nat.le_of_ble_eq_true rfl) (fun κ C => ?_)
      refine g_aload_n (pc := 0) C dX0_remember_0 rfl ?_
      apply gf_X0_32 (pc := 1) C rfl dX0_remember_1
      · repeat (first | assumption | exact Cl.s (by assumption) | refine Cl.n (by first | decide | omega) ?_)
      · rfl
      refine g_bipush (pc := 4) (v := nI 8) C dX0_remember_4 (by decide) ?_
      refine g_icmp_nE (pc := 6) C 34 dX0_remember_6 (by decide) (fun c6 => ?_) (fun c6 => ?_)
      · exact absurd rfl c6
      · refine g_aload_n (pc := 9) C dX0_remember_9 rfl ?_
        apply gf_X0_18 (pc := 10) C rfl dX0_remember_10
        · repeat (first | assumption | exact Cl.s (by assumption) | refine Cl.n (by first | decide | omega) ?_)
        · rfl
        refine g_iconst (pc := 13) (v := nI 1) C dX0_remember_13 (by decide) ?_
        refine g_aload_n (pc := 14) C dX0_remember_14 rfl ?_
        apply gf_X0_18 (pc := 15) C rfl dX0_remember_15
        · repeat (first | assumption | exact Cl.s (by assumption) | refine Cl.n (by first | decide | omega) ?_)
        · rfl
        refine g_iconst (pc := 18) (v := nI 0) C dX0_remember_18 (by decide) ?_
        refine g_bipush (pc := 19) (v := nI 7) C dX0_remember_19 (by decide) ?_
        apply g_copyi (pc := 21) (n := 8) C dX0_remember_21 w_ac1 w_ac2 w_ac3 w_ac4
        · repeat (first | assumption | exact Cl.s (by assumption) | refine Cl.n (by first | decide | omega) ?_)
        · decide
        · decide
        · decide
        · decide
        · exact Nat.le_of_ble_eq_true rfl
        intro hw21
        refine g_aload_n (pc := 24) C dX0_remember_24 rfl ?_
        refine g_dup (pc := 25) C dX0_remember_25 rfl ?_
        apply gf_X0_32 (pc := 26) C rfl dX0_remember_26
        · repeat (first | assumption | exact Cl.s (by assumption) | refine Cl.n (by first | decide | omega) ?_)
        · rfl
        refine g_iconst (pc := 29) (v := nI 1) C dX0_remember_29 (by decide) ?_
        refine g_isub (pc := 30) C dX0_remember_30 ?_
        apply pf_X0_32 (pc := 31) C rfl dX0_remember_31
        · repeat (first | assumption | exact Cl.s (by assumption) | refine Cl.n (by first | decide | omega) ?_)
        · rfl
        · rfl
        · exact Nat.le_of_ble_eq_true rfl
        intro hw31
        refine g_aload_n (pc := 34) C dX0_remember_34 rfl ?_
        apply gf_X0_18 (pc := 35) C rfl dX0_remember_35
        · repeat (first | assumption | exact Cl.s (by assumption) | refine Cl.n (by first | decide | omega) ?_)
        · rfl
        refine g_aload_n (pc := 38) C dX0_remember_38 rfl ?_
        apply gf_X0_32 (pc := 39) C rfl dX0_remember_39
        · repeat (first | assumption | exact Cl.s (by assumption) | refine Cl.n (by first | decide | omega) ?_)
        · rfl
        refine g_aload_n (pc := 42) C dX0_remember_42 rfl ?_
        apply cl_X0_57 (pc := 43) C rfl (t_packed (ins := h.1.1) (und := 7) (kept := h.2.2.2.1) hw31 (by repeat (first | assumption | exact Cl.s (by assumption) | refine Cl.n (by first | decide | omega) ?_))) dX0_remember_43
        · repeat (first | assumption | exact Cl.s (by assumption) | refine Cl.n (by first | decide | omega) ?_)
        · rfl
        · exact Nat.le_of_ble_eq_true rfl
        apply g_iastore (pc := 46) C dX0_remember_46
        · repeat (first | assumption | exact Cl.s (by assumption) | refine Cl.n (by first | decide | omega) ?_)
        · exact vp_in_nI (n := 7) (by decide) (by decide)
        intro hw46
        refine g_aload_n (pc := 47) C dX0_remember_47 rfl ?_
        refine g_dup (pc := 48) C dX0_remember_48 rfl ?_
        apply gf_X0_32 (pc := 49) C rfl dX0_remember_49
        · repeat (first | assumption | exact Cl.s (by assumption) | refine Cl.n (by first | decide | omega) ?_)
        · rfl
        refine g_iconst (pc := 52) (v := nI 1) C dX0_remember_52 (by decide) ?_
        refine g_iadd (pc := 53) C dX0_remember_53 ?_
        apply pf_X0_32 (pc := 54) C rfl dX0_remember_54
        · repeat (first | assumption | exact Cl.s (by assumption) | refine Cl.n (by first | decide | omega) ?_)
        · rfl
        · rfl
        · exact Nat.le_of_ble_eq_true rfl
        intro hw54
        exact g_return (pc := 57) C dX0_remember_57 rfl rfl (rfl)
    · refine ⟨?_, fr3 (fr3 (fr3 (fr3 fr0 (by decide)) (by decide)) (by decide)) (by decide)⟩
      have e : remH h = (h.1, 8, fun k => if k = 7 then h.1 else h.2.2.1 (k + 1), h.2.2.2) := by simp [remH, hc]
      rw [e]
      refine ⟨?_, ?_, ⟨upd (va_cpy f f 1 0 7) 7 (nI (pk3 h.1)), ?_, ?_⟩, f2, ?_, hf2⟩
      · exact Cl.s (Cl.n (by decide) (Cl.s (Cl.n (by decide) h2)))
      · exact Cl.n (by decide) (Cl.n (by decide) (Cl.n (by decide) (Cl.n (by decide) h12)))
      · exact Cl.n (by decide) (Cl.s (Cl.n (by decide) (Cl.s h13)))
      · intro k hk
        have hk : k < 8 := hk
        by_cases h7 : k = 7
        · subst h7
          simp [pk_us]
        · rw [pk_un h7, pk_cpy_in (by omega) (by omega)]
          simp only [h7, if_false, Nat.sub_zero]
          rw [hf (1 + k) (by omega), Nat.add_comm]
      · exact Cl.n (by decide) (Cl.n (by decide) (Cl.n (by decide) (Cl.n (by decide) h14)))
  · refine ⟨va_up (va_up σ 13 (iA G 8 (upd f h.2.1 (nI (pk3 h.1))))) 2 (cGate G h.1.1 (h.2.1 + 1) h.2.2.2.1), ?_, ?_⟩
    · refine Mt.of (by decide +kernel) (Nat.le_of_ble_eq_true rfl) (fun κ C => ?_)
      refine g_aload_n (pc := 0) C dX0_remember_0 rfl ?_
      apply gf_X0_32 (pc := 1) C rfl dX0_remember_1
      · repeat (first | assumption | exact Cl.s (by assumption) | refine Cl.n (by first | decide | omega) ?_)
      · rfl
      refine g_bipush (pc := 4) (v := nI 8) C dX0_remember_4 (by decide) ?_
      refine g_icmp_nE (pc := 6) C 34 dX0_remember_6 (by decide) (fun c6 => ?_) (fun c6 => ?_)
      · refine g_aload_n (pc := 34) C dX0_remember_34 rfl ?_
        apply gf_X0_18 (pc := 35) C rfl dX0_remember_35
        · repeat (first | assumption | exact Cl.s (by assumption) | refine Cl.n (by first | decide | omega) ?_)
        · rfl
        refine g_aload_n (pc := 38) C dX0_remember_38 rfl ?_
        apply gf_X0_32 (pc := 39) C rfl dX0_remember_39
        · repeat (first | assumption | exact Cl.s (by assumption) | refine Cl.n (by first | decide | omega) ?_)
        · rfl
        refine g_aload_n (pc := 42) C dX0_remember_42 rfl ?_
        apply cl_X0_57 (pc := 43) C rfl (t_packed h2 h12) dX0_remember_43
        · repeat (first | assumption | exact Cl.s (by assumption) | refine Cl.n (by first | decide | omega) ?_)
        · rfl
        · exact Nat.le_of_ble_eq_true rfl
        apply g_iastore (pc := 46) C dX0_remember_46
        · repeat (first | assumption | exact Cl.s (by assumption) | refine Cl.n (by first | decide | omega) ?_)
        · exact vp_in_nI (by omega) (by decide)
        intro hw46
        refine g_aload_n (pc := 47) C dX0_remember_47 rfl ?_
        refine g_dup (pc := 48) C dX0_remember_48 rfl ?_
        apply gf_X0_32 (pc := 49) C rfl dX0_remember_49
        · repeat (first | assumption | exact Cl.s (by assumption) | refine Cl.n (by first | decide | omega) ?_)
        · rfl
        refine g_iconst (pc := 52) (v := nI 1) C dX0_remember_52 (by decide) ?_
        refine g_iadd (pc := 53) C dX0_remember_53 ?_
        apply pf_X0_32 (pc := 54) C rfl dX0_remember_54
        · repeat (first | assumption | exact Cl.s (by assumption) | refine Cl.n (by first | decide | omega) ?_)
        · rfl
        · rfl
        · exact Nat.le_of_ble_eq_true rfl
        intro hw54
        exact g_return (pc := 57) C dX0_remember_57 rfl rfl (by rw [nI_clamp (by omega), nI_add]; rfl)
      · exact absurd (by rw [nI_eq (by omega) (by decide)] at c6; exact c6) hc
    · refine ⟨?_, fr3 (fr3 fr0 (by decide)) (by decide)⟩
      have e : remH h = (h.1, h.2.1 + 1, fun k => if k = h.2.1 then h.1 else h.2.2.1 k, h.2.2.2) := by simp [remH, hc]
      rw [e]
      refine ⟨?_, ?_, ⟨upd f h.2.1 (nI (pk3 h.1)), ?_, ?_⟩, f2, ?_, hf2⟩
      · exact Cl.s (Cl.n (by decide) h2)
      · exact Cl.n (by decide) (Cl.n (by decide) h12)
      · exact Cl.n (by decide) (Cl.s h13)
      · intro k hk
        have hk : k < h.2.1 + 1 := hk
        by_cases h7 : k = h.2.1
        · rw [h7, pk_us]
          simp
        · rw [pk_un h7, hf k (by omega)]
          simp [h7]
      · exact Cl.n (by decide) (Cl.n (by decide) h14)
end SYS

