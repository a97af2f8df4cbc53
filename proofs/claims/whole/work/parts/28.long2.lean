def RLo (G : GG) (σ : WW) (T : TS) : Prop := ∃ (f : Nat → Int32) (k : Bool), Cl G σ 6 (cLong G (nI (b2 k))) ∧ Cl G σ 18 (iA G 4608 f) ∧ (k = true → LA T f (1 <<< tm T))
def mostL (T : TS) (set : Nat) : Nat := mxJ (fun i => Ls T set i 0) (tm T)
theorem shl_512 {m : Nat} (h : m ≤ 9) : 1 <<< m ≤ 512 ∧ 1 ≤ 1 <<< m := by
  rw [Nat.shiftLeft_eq, Nat.one_mul]
  exact ⟨Nat.pow_le_pow_right (n := 2) (by decide) h, Nat.one_le_two_pow⟩
section LONG2
variable {G : GG} {σ : WW} {T : TS}
theorem RT.up (hT : RT G σ T) {i : Nat} {e : va_E} (h9 : i ≠ 9) (h21 : i ≠ 21) (h22 : i ≠ 22) (h23 : i ≠ 23) : RT G (va_up σ i e) T := by
  refine hT.fr (ps := [i]) (fr3 fr0 (List.mem_singleton.mpr rfl)) ?_ ?_ ?_ ?_ <;> (intro q; have := List.mem_singleton.mp q; omega)
theorem t_fillL {k : Int32} {f : Nat → Int32} (hT : RT G σ T) (h6 : Cl G σ 6 (cLong G k)) (h18 : Cl G σ 18 (iA G 4608 f)) : ∃ f', Mt G mX3_fill [.ref (ga G 6), .ref (ga G 9)] σ none (va_up (va_up σ 18 (iA G 4608 f')) 6 (cLong G (nI 1))) ∧ LA T f' (1 <<< tm T) := by
  have hW := hT.w
  have hm := hW.2.2.2.2.1
  have hbs := brs_le hW
  obtain ⟨hN, hN1⟩ := shl_512 hm
  have mid : ∀ set, 1 ≤ set → set < 1 <<< tm T → (∀ f, LA T f (set + 1) → ∃ f', (∀ κ, Cx G mX3_fill κ → Go G mX3_fill κ none (va_up (va_up σ 18 (iA G 4608 f')) 6 (cLong G (nI 1))) (va_up σ 18 (iA G 4608 f)) 2 [(0, .ref (ga G 6)), (1, .ref (ga G 9)), (2, .int (nI (set + 1)))] []) ∧ LA T f' (1 <<< tm T)) → ∀ e i f, i + e = tm T → LA T f set → (∀ i', i' < i → set.testBit i' = true → f (set * 9 + i') = nI (pk6 (Ls T set i') (brs T))) → ∃ f', (∀ κ, Cx G mX3_fill κ → Go G mX3_fill κ none (va_up (va_up σ 18 (iA G 4608 f')) 6 (cLong G (nI 1))) (va_up σ 18 (iA G 4608 f)) 14 [(0, .ref (ga G 6)), (1, .ref (ga G 9)), (2, .int (nI set)), (3, .int (nI i))] []) ∧ LA T f' (1 <<< tm T) := by
    intro set hs1 hsN K e
    induction e with
    | zero =>
      intro i f hi hf hf2
      obtain ⟨f', g1, g2⟩ := K f (fun s hs i' hi' hb => by
        by_cases q : s = set
        · subst q; exact hf2 i' (by omega) hb
        · exact hf s (by omega) i' hi' hb)
      have hT1 := hT.up (i := 18) (e := iA G 4608 f) (by decide) (by decide) (by decide) (by decide)
      obtain ⟨bo, hc0, h9⟩ := hT1.c
      refine ⟨f', fun κ C => ?_, g2⟩
      refine g_iload_n (pc := 14) C dX3_fill_14 rfl ?_
      refine g_aload_n (pc := 15) C dX3_fill_15 rfl ?_
      apply gf_X3_23 (pc := 16) C rfl dX3_fill_16
      · repeat (first | assumption | exact Cl.s (by assumption) | refine Cl.n (by first | decide | omega) ?_)
      · rfl
      refine g_icmp_ge (pc := 19) C 81 dX3_fill_19 (by decide) (fun c19 => ?_) (fun c19 => ?_)
      · refine g_iinc (pc := 81) C dX3_fill_81 rfl (by decide) rfl ?_
        refine g_goto (pc := 84) C 2 dX3_fill_84 (by decide) ?_
        exact g_to (g1 κ C) ⟨rfl, rfl, lgi (nI_1 set), trivial⟩
      · exact absurd (nI_le (by omega) (by omega)) c19
    | succ e ih =>
      intro i f hi hf hf2
      have h16 : ∀ b, b < brs T → Ls T set i b < 16 := fun b _ => Nat.lt_of_le_of_lt (Ls_9 hm (by omega) (by omega)) (by decide)
      obtain ⟨f', g1, g2⟩ := ih (i + 1) (upd f (set * 9 + i) (nI (pk6 (Ls T set i) (brs T)))) (by omega) (fun s hs i' hi' hb => by
        rw [pk_un (by omega)]; exact hf s hs i' hi' hb) (fun i' hi' hb => by
        by_cases q : i' = i
        · rw [q, pk_us]
        · rw [pk_un (by omega)]; exact hf2 i' (by omega) hb)
      refine ⟨f', fun κ C => ?_, g2⟩
      have hT1 := hT.up (i := 18) (e := iA G 4608 f) (by decide) (by decide) (by decide) (by decide)
      obtain ⟨bo, hc0, h9⟩ := hT1.c
      have z6 : Cl G (va_up σ 18 (iA G 4608 f)) 6 (cLong G k) := Cl.n (by decide) h6
      have z18 : Cl G (va_up σ 18 (iA G 4608 f)) 18 (iA G 4608 f) := Cl.s h18
      have bars : ∀ d b, b + d = brs T → Go G mX3_fill κ none (va_up (va_up σ 18 (iA G 4608 f')) 6 (cLong G (nI 1))) (va_up σ 18 (iA G 4608 f)) 28 [(0, .ref (ga G 6)), (1, .ref (ga G 9)), (2, .int (nI set)), (3, .int (nI i)), (4, .int (nI (pk6 (Ls T set i) b))), (5, .int (nI b))] [] := by
        intro d
        induction d with
        | zero =>
          intro b hb
          have hb' : b = brs T := by omega
          subst hb'
          refine g_iload (pc := 28) C dX3_fill_28 rfl ?_
          refine g_aload_n (pc := 30) C dX3_fill_30 rfl ?_
          apply cl_X3_39 (pc := 31) C rfl (t_bars hT1) dX3_fill_31
          · repeat (first | assumption | exact Cl.s (by assumption) | refine Cl.n (by first | decide | omega) ?_)
          · rfl
          · exact Nat.le_of_ble_eq_true rfl
          refine g_icmp_ge (pc := 34) C 62 dX3_fill_34 (by decide) (fun c34 => ?_) (fun c34 => ?_)
          · refine g_aload_n (pc := 62) C dX3_fill_62 rfl ?_
            apply gf_X3_9 (pc := 63) C rfl dX3_fill_63
            · repeat (first | assumption | exact Cl.s (by assumption) | refine Cl.n (by first | decide | omega) ?_)
            · rfl
            refine g_iload_n (pc := 66) C dX3_fill_66 rfl ?_
            refine g_bipush (pc := 67) (v := nI 9) C dX3_fill_67 (by decide) ?_
            refine g_imul (pc := 69) C dX3_fill_69 ?_
            refine g_iload_n (pc := 70) C dX3_fill_70 rfl ?_
            refine g_iadd (pc := 71) C dX3_fill_71 ?_
            rw [pk_mul, nI_add]
            refine g_iload (pc := 72) C dX3_fill_72 rfl ?_
            apply g_iastore (pc := 74) C dX3_fill_74
            · repeat (first | assumption | exact Cl.s (by assumption) | refine Cl.n (by first | decide | omega) ?_)
            · exact vp_in_nI (by omega) (by decide)
            intro hw74
            refine g_iinc (pc := 75) C dX3_fill_75 rfl (by decide) rfl ?_
            refine g_goto (pc := 78) C 14 dX3_fill_78 (by decide) ?_
            rw [nI_clamp (by omega), bx_uu]
            exact g_to (g1 κ C) ⟨rfl, rfl, rfl, lgi (nI_1 i), trivial⟩
          · exact absurd (nI_le (by omega) (by omega)) c34
        | succ d ih2 =>
          intro b hb
          refine g_iload (pc := 28) C dX3_fill_28 rfl ?_
          refine g_aload_n (pc := 30) C dX3_fill_30 rfl ?_
          apply cl_X3_39 (pc := 31) C rfl (t_bars hT1) dX3_fill_31
          · repeat (first | assumption | exact Cl.s (by assumption) | refine Cl.n (by first | decide | omega) ?_)
          · rfl
          · exact Nat.le_of_ble_eq_true rfl
          refine g_icmp_ge (pc := 34) C 62 dX3_fill_34 (by decide) (fun c34 => ?_) (fun c34 => ?_)
          · exact absurd c34 (nI_ge (by omega) (by omega))
          · refine g_iload (pc := 37) C dX3_fill_37 rfl ?_
            refine g_aload_n (pc := 39) C dX3_fill_39 rfl ?_
            refine g_aload_n (pc := 40) C dX3_fill_40 rfl ?_
            refine g_iload_n (pc := 41) C dX3_fill_41 rfl ?_
            refine g_iload_n (pc := 42) C dX3_fill_42 rfl ?_
            refine g_iload (pc := 43) C dX3_fill_43 rfl ?_
            apply cl_X3_43 (pc := 45) C rfl (t_lengthFrom hT1 z6 z18 (by omega) (by omega) (by omega) hf) dX3_fill_45
            · repeat (first | assumption | exact Cl.s (by assumption) | refine Cl.n (by first | decide | omega) ?_)
            · rfl
            · exact Nat.le_of_ble_eq_true rfl
            refine g_iconst (pc := 48) (v := nI 4) C dX3_fill_48 (by decide) ?_
            refine g_iload (pc := 49) C dX3_fill_49 rfl ?_
            refine g_imul (pc := 51) C dX3_fill_51 ?_
            refine g_ishl (pc := 52) C dX3_fill_52 ?_
            refine g_ior (pc := 53) C dX3_fill_53 ?_
            refine g_istore (pc := 54) C dX3_fill_54 (by decide) rfl ?_
            refine g_iinc (pc := 56) C dX3_fill_56 rfl (by decide) rfl ?_
            refine g_goto (pc := 59) C 28 dX3_fill_59 (by decide) ?_
            exact g_to (ih2 (b + 1) (by omega)) ⟨rfl, rfl, rfl, rfl, lgi (by rw [pk_mul, nx_shl _ (by omega), nx_or]; rfl), lgi (nI_1 b), trivial⟩
      refine g_iload_n (pc := 14) C dX3_fill_14 rfl ?_
      refine g_aload_n (pc := 15) C dX3_fill_15 rfl ?_
      apply gf_X3_23 (pc := 16) C rfl dX3_fill_16
      · repeat (first | assumption | exact Cl.s (by assumption) | refine Cl.n (by first | decide | omega) ?_)
      · rfl
      refine g_icmp_ge (pc := 19) C 81 dX3_fill_19 (by decide) (fun c19 => ?_) (fun c19 => ?_)
      · exact absurd c19 (nI_ge (by omega) (by omega))
      · refine g_iconst (pc := 22) (v := nI 0) C dX3_fill_22 (by decide) ?_
        refine g_istore (pc := 23) C dX3_fill_23 (by decide) rfl ?_
        refine g_iconst (pc := 25) (v := nI 0) C dX3_fill_25 (by decide) ?_
        refine g_istore (pc := 26) C dX3_fill_26 (by decide) rfl ?_
        exact g_to (bars (brs T) 0 (by omega)) ⟨rfl, rfl, rfl, rfl, rfl, rfl, trivial⟩
  have outer : ∀ e set f, set + e = 1 <<< tm T → 1 ≤ set → LA T f set → ∃ f', (∀ κ, Cx G mX3_fill κ → Go G mX3_fill κ none (va_up (va_up σ 18 (iA G 4608 f')) 6 (cLong G (nI 1))) (va_up σ 18 (iA G 4608 f)) 2 [(0, .ref (ga G 6)), (1, .ref (ga G 9)), (2, .int (nI set))] []) ∧ LA T f' (1 <<< tm T) := by
    intro e
    induction e with
    | zero =>
      intro set f hs h1 hf
      have hT1 := hT.up (i := 18) (e := iA G 4608 f) (by decide) (by decide) (by decide) (by decide)
      obtain ⟨bo, hc0, h9⟩ := hT1.c
      have z6 : Cl G (va_up σ 18 (iA G 4608 f)) 6 (cLong G k) := Cl.n (by decide) h6
      refine ⟨f, fun κ C => ?_, by rw [show 1 <<< tm T = set by omega]; exact hf⟩
      refine g_iload_n (pc := 2) C dX3_fill_2 rfl ?_
      refine g_iconst (pc := 3) (v := nI 1) C dX3_fill_3 (by decide) ?_
      refine g_aload_n (pc := 4) C dX3_fill_4 rfl ?_
      apply gf_X3_23 (pc := 5) C rfl dX3_fill_5
      · repeat (first | assumption | exact Cl.s (by assumption) | refine Cl.n (by first | decide | omega) ?_)
      · rfl
      refine g_ishl (pc := 8) C dX3_fill_8 ?_
      rw [nx_shl _ (by omega)]
      refine g_icmp_ge (pc := 9) C 87 dX3_fill_9 (by decide) (fun c9 => ?_) (fun c9 => ?_)
      · refine g_aload_n (pc := 87) C dX3_fill_87 rfl ?_
        refine g_iconst (pc := 88) (v := nI 1) C dX3_fill_88 (by decide) ?_
        apply pf_X3_15 (pc := 89) C rfl dX3_fill_89
        · repeat (first | assumption | exact Cl.s (by assumption) | refine Cl.n (by first | decide | omega) ?_)
        · rfl
        · rfl
        · exact Nat.le_of_ble_eq_true rfl
        intro hw89
        exact g_return (pc := 92) C dX3_fill_92 rfl rfl (rfl)
      · exact absurd (nI_le (by omega) (by omega)) c9
    | succ e ih =>
      intro set f hs h1 hf
      obtain ⟨f', g1, g2⟩ := mid set h1 (by omega) (fun f hf => ih (set + 1) f (by omega) (by omega) hf) (tm T) 0 f (by omega) hf (fun i' hi' => absurd hi' (Nat.not_lt_zero _))
      have hT1 := hT.up (i := 18) (e := iA G 4608 f) (by decide) (by decide) (by decide) (by decide)
      obtain ⟨bo, hc0, h9⟩ := hT1.c
      refine ⟨f', fun κ C => ?_, g2⟩
      refine g_iload_n (pc := 2) C dX3_fill_2 rfl ?_
      refine g_iconst (pc := 3) (v := nI 1) C dX3_fill_3 (by decide) ?_
      refine g_aload_n (pc := 4) C dX3_fill_4 rfl ?_
      apply gf_X3_23 (pc := 5) C rfl dX3_fill_5
      · repeat (first | assumption | exact Cl.s (by assumption) | refine Cl.n (by first | decide | omega) ?_)
      · rfl
      refine g_ishl (pc := 8) C dX3_fill_8 ?_
      rw [nx_shl _ (by omega)]
      refine g_icmp_ge (pc := 9) C 87 dX3_fill_9 (by decide) (fun c9 => ?_) (fun c9 => ?_)
      · exact absurd c9 (nI_ge (by omega) (by omega))
      · refine g_iconst (pc := 12) (v := nI 0) C dX3_fill_12 (by decide) ?_
        refine g_istore_n (pc := 13) C dX3_fill_13 (by decide) rfl ?_
        exact g_to (g1 κ C) ⟨rfl, rfl, rfl, rfl, trivial⟩
  obtain ⟨f', g1, g2⟩ := outer (1 <<< tm T - 1) 1 f (by omega) (by omega) (fun s hs i _ hb => by
    rw [show s = 0 by omega] at hb
    simp at hb)
  refine ⟨f', ?_, g2⟩
  rw [va_self h18.2] at g1
  refine Mt.of (by decide +kernel) (Nat.le_of_ble_eq_true rfl) (fun κ C => ?_)
  refine g_iconst (pc := 0) (v := nI 1) C dX3_fill_0 (by decide) ?_
  refine g_istore_n (pc := 1) C dX3_fill_1 (by decide) rfl ?_
  exact g_to (g1 κ C) ⟨rfl, rfl, rfl, trivial⟩
theorem t_most (hT : RT G σ T) (hl : RLo G σ T) {set : Nat} (hs : set < 1 <<< tm T) : ∃ σ' f, Mt G mX3_most [.ref (ga G 6), .ref (ga G 9), .int (nI set)] σ (some (.int (nI (mostL T set)))) σ' ∧ Cl G σ' 6 (cLong G (nI 1)) ∧ Cl G σ' 18 (iA G 4608 f) ∧ LA T f (1 <<< tm T) ∧ Fr σ σ' [6, 18] := by
  have hW := hT.w
  have hm := hW.2.2.2.2.1
  obtain ⟨hN, hN1⟩ := shl_512 hm
  have h1b : 0 < brs T := by unfold brs; split <;> omega
  have tail : ∀ {σ1 : WW} {f : Nat → Int32}, RT G σ1 T → Cl G σ1 6 (cLong G (nI 1)) → Cl G σ1 18 (iA G 4608 f) → LA T f (1 <<< tm T) → ∀ κ, Cx G mX3_most κ → Go G mX3_most κ (some (.int (nI (mostL T set)))) σ1 σ1 12 [(0, .ref (ga G 6)), (1, .ref (ga G 9)), (2, .int (nI set))] [] := by
    intro σ1 f hT1 h6 h18 hf κ C
    obtain ⟨bo, hc0, h9⟩ := hT1.c
    have hM9 : ∀ n, n ≤ tm T → mxJ (fun i => Ls T set i 0) n ≤ 9 := fun n hn => mxJ_le n (fun j hj => Ls_9 hm (by omega) (by omega))
    have loop : ∀ d i, i + d = tm T → Go G mX3_most κ (some (.int (nI (mostL T set)))) σ1 σ1 17 [(0, .ref (ga G 6)), (1, .ref (ga G 9)), (2, .int (nI set)), (3, .int (nI (mxJ (fun i => Ls T set i 0) i))), (4, .int (nI i))] [] := by
      intro d
      induction d with
      | zero =>
        intro i hi
        refine g_iload (pc := 17) C dX3_most_17 rfl ?_
        refine g_aload_n (pc := 19) C dX3_most_19 rfl ?_
        apply gf_X3_23 (pc := 20) C rfl dX3_most_20
        · repeat (first | assumption | exact Cl.s (by assumption) | refine Cl.n (by first | decide | omega) ?_)
        · rfl
        refine g_icmp_ge (pc := 23) C 45 dX3_most_23 (by decide) (fun c23 => ?_) (fun c23 => ?_)
        · refine g_iload_n (pc := 45) C dX3_most_45 rfl ?_
          exact g_ireturn (pc := 46) C dX3_most_46 rfl (by rw [show i = tm T by omega]; rfl) (rfl)
        · exact absurd (nI_le (by omega) (by omega)) c23
      | succ d ih =>
        intro i hi
        have hMj := hM9 i (by omega)
        have hLi : Ls T set i 0 ≤ 9 := Ls_9 hm (by omega) (by omega)
        refine g_iload (pc := 17) C dX3_most_17 rfl ?_
        refine g_aload_n (pc := 19) C dX3_most_19 rfl ?_
        apply gf_X3_23 (pc := 20) C rfl dX3_most_20
        · repeat (first | assumption | exact Cl.s (by assumption) | refine Cl.n (by first | decide | omega) ?_)
        · rfl
        refine g_icmp_ge (pc := 23) C 45 dX3_most_23 (by decide) (fun c23 => ?_) (fun c23 => ?_)
        · exact absurd c23 (nI_ge (by omega) (by omega))
        · refine g_iload_n (pc := 26) C dX3_most_26 rfl ?_
          refine g_aload_n (pc := 27) C dX3_most_27 rfl ?_
          refine g_iload_n (pc := 28) C dX3_most_28 rfl ?_
          refine g_iload (pc := 29) C dX3_most_29 rfl ?_
          refine g_iconst (pc := 31) (v := nI 0) C dX3_most_31 (by decide) ?_
          apply cl_X3_29 (pc := 32) C rfl (t_length h6 h18 hW (by omega) (by omega) h1b (hf set hs i (by omega))) dX3_most_32
          · repeat (first | assumption | exact Cl.s (by assumption) | refine Cl.n (by first | decide | omega) ?_)
          · rfl
          · exact Nat.le_of_ble_eq_true rfl
          refine g_mmax (pc := 35) C dX3_most_35 w_mmax (by decide) (Nat.le_of_ble_eq_true rfl) ?_
          refine g_istore_n (pc := 38) C dX3_most_38 (by decide) rfl ?_
          refine g_iinc (pc := 39) C dX3_most_39 rfl (by decide) rfl ?_
          refine g_goto (pc := 42) C 17 dX3_most_42 (by decide) ?_
          exact g_to (ih (i + 1) (by omega)) ⟨rfl, rfl, rfl, lgi (by
            rw [mxJ_s]
            by_cases q : mxJ (fun i => Ls T set i 0) i < Ls T set i 0
            · rw [if_pos q, if_pos ((nI_ltI (by omega) (by omega)).mpr q)]
            · rw [if_neg q, if_neg (fun z => q ((nI_ltI (by omega) (by omega)).mp z))]), lgi (nI_1 i), trivial⟩
    refine g_iconst (pc := 12) (v := nI 0) C dX3_most_12 (by decide) ?_
    refine g_istore_n (pc := 13) C dX3_most_13 (by decide) rfl ?_
    refine g_iconst (pc := 14) (v := nI 0) C dX3_most_14 (by decide) ?_
    refine g_istore (pc := 15) C dX3_most_15 (by decide) rfl ?_
    exact g_to (loop (tm T) 0 (by omega)) ⟨rfl, rfl, rfl, rfl, rfl, trivial⟩
  obtain ⟨f, k, h6, h18, hk⟩ := hl
  cases k
  · obtain ⟨f', g1, g2⟩ := t_fillL hT h6 h18
    have z6 : Cl G (va_up (va_up σ 18 (iA G 4608 f')) 6 (cLong G (nI 1))) 6 (cLong G (nI 1)) := Cl.s (Cl.n (by decide) h6)
    have z18 : Cl G (va_up (va_up σ 18 (iA G 4608 f')) 6 (cLong G (nI 1))) 18 (iA G 4608 f') := Cl.n (by decide) (Cl.s h18)
    have hT1 := (hT.up (i := 18) (e := iA G 4608 f') (by decide) (by decide) (by decide) (by decide)).up (i := 6) (e := cLong G (nI 1)) (by decide) (by decide) (by decide) (by decide)
    refine ⟨_, f', ?_, z6, z18, g2, fr3 (fr3 fr0 (by decide)) (by decide)⟩
    refine Mt.of (by decide +kernel) (Nat.le_of_ble_eq_true rfl) (fun κ C => ?_)
    refine g_aload_n (pc := 0) C dX3_most_0 rfl ?_
    apply gf_X3_15 (pc := 1) C rfl dX3_most_1
    · repeat (first | assumption | exact Cl.s (by assumption) | refine Cl.n (by first | decide | omega) ?_)
    · rfl
    refine g_if_nE (pc := 4) C 12 dX3_most_4 (by decide) (fun c4 => ?_) (fun c4 => ?_)
    · exact absurd rfl c4
    · refine g_aload_n (pc := 7) C dX3_most_7 rfl ?_
      refine g_aload_n (pc := 8) C dX3_most_8 rfl ?_
      apply cl_X3_19 (pc := 9) C rfl g1 dX3_most_9
      · repeat (first | assumption | exact Cl.s (by assumption) | refine Cl.n (by first | decide | omega) ?_)
      · rfl
      · exact Nat.le_of_ble_eq_true rfl
      exact g_to (tail hT1 z6 z18 g2 κ C) ⟨rfl, rfl, rfl, trivial⟩
  · refine ⟨σ, f, ?_, h6, h18, hk rfl, fr0⟩
    refine Mt.of (by decide +kernel) (Nat.le_of_ble_eq_true rfl) (fun κ C => ?_)
    refine g_aload_n (pc := 0) C dX3_most_0 rfl ?_
    apply gf_X3_15 (pc := 1) C rfl dX3_most_1
    · repeat (first | assumption | exact Cl.s (by assumption) | refine Cl.n (by first | decide | omega) ?_)
    · rfl
    refine g_if_nE (pc := 4) C 12 dX3_most_4 (by decide) (fun c4 => ?_) (fun c4 => ?_)
    · exact g_to (tail hT h6 h18 (hk rfl) κ C) ⟨rfl, rfl, rfl, trivial⟩
    · exact absurd c4 (by decide)
/-- the first who may come and leaves so many -/
def fw (T : TS) (rest L d need : Nat) : Nat → Nat → Option Nat
  | 0, _ => none
  | e + 1, p => if lLets T L d p = true ∧ Ls T rest p (bb T (uL T L p)) = need then some p else fw T rest L d need e (p + 1)
def pA (T : TS) : Nat → Nat → Nat → Nat → Nat → Int32
  | 0, _, L, _, _ => lat L
  | c + 1, rest, L, d, need => match fw T rest L d need (tm T) 0 with
    | none => -4
    | some p => pA T c (clr rest p) (p + 1) (uL T L p) (need - 1)
theorem fw_lt {T : TS} {rest L d need : Nat} : ∀ e p q, fw T rest L d need e p = some q → q < p + e
  | 0, p, q, h => by cases h
  | e + 1, p, q, h => by
    unfold fw at h
    split at h
    · cases h; omega
    · have := fw_lt e (p + 1) q h; omega
theorem t_firstWith {f : Nat → Int32} {k : Int32} (hT : RT G σ T) (h6 : Cl G σ 6 (cLong G k)) (h18 : Cl G σ 18 (iA G 4608 f)) (hf : LA T f (1 <<< tm T)) {L d rest need : Nat} (h4 : Cl G σ 4 (cLine L d)) (hL : L ≤ tm T) (hd : d < 32) (hr : rest < 1 <<< tm T) (hn : need ≤ 9) : Mt G mX3_firstWith [.ref (ga G 6), .ref (ga G 9), .ref (ga G 4), .int (nI rest), .int (nI need)] σ (some (.int (match fw T rest L d need (tm T) 0 with | none => -1 | some p => nI p))) σ := by
  have hW := hT.w
  have hm := hW.2.2.2.2.1
  obtain ⟨hN, hN1⟩ := shl_512 hm
  obtain ⟨bo, hc0, h9⟩ := hT.c
  refine Mt.of (by decide +kernel) (Nat.le_of_ble_eq_true rfl) (fun κ C => ?_)
  have loop : ∀ e p, p + e = tm T → Go G mX3_firstWith κ (some (.int (match fw T rest L d need e p with | none => -1 | some p => nI p))) σ σ 3 [(0, .ref (ga G 6)), (1, .ref (ga G 9)), (2, .ref (ga G 4)), (3, .int (nI rest)), (4, .int (nI need)), (5, .int (nI p))] [] := by
    intro e
    induction e with
    | zero =>
      intro p hp
      refine g_iload (pc := 3) C dX3_firstWith_3 rfl ?_
      refine g_aload_n (pc := 5) C dX3_firstWith_5 rfl ?_
      apply gf_X3_23 (pc := 6) C rfl dX3_firstWith_6
      · repeat (first | assumption | exact Cl.s (by assumption) | refine Cl.n (by first | decide | omega) ?_)
      · rfl
      refine g_icmp_ge (pc := 9) C 58 dX3_firstWith_9 (by decide) (fun c9 => ?_) (fun c9 => ?_)
      · refine g_iconst (pc := 58) (v := -1) C dX3_firstWith_58 (by decide) ?_
        exact g_ireturn (pc := 59) C dX3_firstWith_59 rfl (rfl) (rfl)
      · exact absurd (nI_le (by omega) (by omega)) c9
    | succ e ih =>
      intro p hp
      have hu := uL_lt T L p hW.1
      have hbl : bb T (uL T L p) < brs T := by
        unfold bb brs
        split
        · have := bbs_le (uL T L p) (tn T) 0; omega
        · decide
      have hLs : Ls T rest p (bb T (uL T L p)) ≤ 9 := Ls_9 hm (by omega) (by omega)
      by_cases hc : lLets T L d p = true ∧ Ls T rest p (bb T (uL T L p)) = need
      · rw [show fw T rest L d need (e + 1) p = some p by unfold fw; rw [if_pos hc]]
        refine g_iload (pc := 3) C dX3_firstWith_3 rfl ?_
        refine g_aload_n (pc := 5) C dX3_firstWith_5 rfl ?_
        apply gf_X3_23 (pc := 6) C rfl dX3_firstWith_6
        · repeat (first | assumption | exact Cl.s (by assumption) | refine Cl.n (by first | decide | omega) ?_)
        · rfl
        refine g_icmp_ge (pc := 9) C 58 dX3_firstWith_9 (by decide) (fun c9 => ?_) (fun c9 => ?_)
        · exact absurd c9 (nI_ge (by omega) (by omega))
        · refine g_aload_n (pc := 12) C dX3_firstWith_12 rfl ?_
          refine g_aload_n (pc := 13) C dX3_firstWith_13 rfl ?_
          refine g_aload_n (pc := 14) C dX3_firstWith_14 rfl ?_
          refine g_iload (pc := 15) C dX3_firstWith_15 rfl ?_
          apply cl_X3_77 (pc := 17) C rfl (t_unlikeLatest hT h4 hL (by omega)) dX3_firstWith_17
          · repeat (first | assumption | exact Cl.s (by assumption) | refine Cl.n (by first | decide | omega) ?_)
          · rfl
          · exact Nat.le_of_ble_eq_true rfl
          apply cl_X3_58 (pc := 20) C rfl (t_barBehind hT (by omega)) dX3_firstWith_20
          · repeat (first | assumption | exact Cl.s (by assumption) | refine Cl.n (by first | decide | omega) ?_)
          · rfl
          · exact Nat.le_of_ble_eq_true rfl
          refine g_istore (pc := 23) C dX3_firstWith_23 (by decide) rfl ?_
          refine g_aload_n (pc := 25) C dX3_firstWith_25 rfl ?_
          refine g_aload_n (pc := 26) C dX3_firstWith_26 rfl ?_
          refine g_iload (pc := 27) C dX3_firstWith_27 rfl ?_
          apply cl_X3_81 (pc := 29) C rfl (t_llets hT h4 hL hd (by omega)) dX3_firstWith_29
          · repeat (first | assumption | exact Cl.s (by assumption) | refine Cl.n (by first | decide | omega) ?_)
          · rfl
          · exact Nat.le_of_ble_eq_true rfl
          refine g_if_eq (pc := 32) C 52 dX3_firstWith_32 (by decide) (fun c32 => ?_) (fun c32 => ?_)
          · exact absurd c32 (by rw [hc.1]; decide)
          · refine g_aload_n (pc := 35) C dX3_firstWith_35 rfl ?_
            refine g_iload_n (pc := 36) C dX3_firstWith_36 rfl ?_
            refine g_iload (pc := 37) C dX3_firstWith_37 rfl ?_
            refine g_iload (pc := 39) C dX3_firstWith_39 rfl ?_
            apply cl_X3_29 (pc := 41) C rfl (t_length h6 h18 hW (by omega) (by omega) hbl (hf rest hr p (by omega))) dX3_firstWith_41
            · repeat (first | assumption | exact Cl.s (by assumption) | refine Cl.n (by first | decide | omega) ?_)
            · rfl
            · exact Nat.le_of_ble_eq_true rfl
            refine g_iload (pc := 44) C dX3_firstWith_44 rfl ?_
            refine g_icmp_nE (pc := 46) C 52 dX3_firstWith_46 (by decide) (fun c46 => ?_) (fun c46 => ?_)
            · exact absurd (by rw [hc.2]) c46
            · refine g_iload (pc := 49) C dX3_firstWith_49 rfl ?_
              exact g_ireturn (pc := 51) C dX3_firstWith_51 rfl (rfl) (rfl)
      · rw [show fw T rest L d need (e + 1) p = fw T rest L d need e (p + 1) by conv => lhs; unfold fw
                                                                                rw [if_neg hc]]
        refine g_iload (pc := 3) C dX3_firstWith_3 rfl ?_
        refine g_aload_n (pc := 5) C dX3_firstWith_5 rfl ?_
        apply gf_X3_23 (pc := 6) C rfl dX3_firstWith_6
        · repeat (first | assumption | exact Cl.s (by assumption) | refine Cl.n (by first | decide | omega) ?_)
        · rfl
        refine g_icmp_ge (pc := 9) C 58 dX3_firstWith_9 (by decide) (fun c9 => ?_) (fun c9 => ?_)
        · exact absurd c9 (nI_ge (by omega) (by omega))
        · refine g_aload_n (pc := 12) C dX3_firstWith_12 rfl ?_
          refine g_aload_n (pc := 13) C dX3_firstWith_13 rfl ?_
          refine g_aload_n (pc := 14) C dX3_firstWith_14 rfl ?_
          refine g_iload (pc := 15) C dX3_firstWith_15 rfl ?_
          apply cl_X3_77 (pc := 17) C rfl (t_unlikeLatest hT h4 hL (by omega)) dX3_firstWith_17
          · repeat (first | assumption | exact Cl.s (by assumption) | refine Cl.n (by first | decide | omega) ?_)
          · rfl
          · exact Nat.le_of_ble_eq_true rfl
          apply cl_X3_58 (pc := 20) C rfl (t_barBehind hT (by omega)) dX3_firstWith_20
          · repeat (first | assumption | exact Cl.s (by assumption) | refine Cl.n (by first | decide | omega) ?_)
          · rfl
          · exact Nat.le_of_ble_eq_true rfl
          refine g_istore (pc := 23) C dX3_firstWith_23 (by decide) rfl ?_
          refine g_aload_n (pc := 25) C dX3_firstWith_25 rfl ?_
          refine g_aload_n (pc := 26) C dX3_firstWith_26 rfl ?_
          refine g_iload (pc := 27) C dX3_firstWith_27 rfl ?_
          apply cl_X3_81 (pc := 29) C rfl (t_llets hT h4 hL hd (by omega)) dX3_firstWith_29
          · repeat (first | assumption | exact Cl.s (by assumption) | refine Cl.n (by first | decide | omega) ?_)
          · rfl
          · exact Nat.le_of_ble_eq_true rfl
          refine g_if_eq (pc := 32) C 52 dX3_firstWith_32 (by decide) (fun c32 => ?_) (fun c32 => ?_)
          · refine g_iinc (pc := 52) C dX3_firstWith_52 rfl (by decide) rfl ?_
            refine g_goto (pc := 55) C 3 dX3_firstWith_55 (by decide) ?_
            exact g_to (ih (p + 1) (by omega)) ⟨rfl, rfl, rfl, rfl, rfl, lgi (nI_1 p), trivial⟩
          · refine g_aload_n (pc := 35) C dX3_firstWith_35 rfl ?_
            refine g_iload_n (pc := 36) C dX3_firstWith_36 rfl ?_
            refine g_iload (pc := 37) C dX3_firstWith_37 rfl ?_
            refine g_iload (pc := 39) C dX3_firstWith_39 rfl ?_
            apply cl_X3_29 (pc := 41) C rfl (t_length h6 h18 hW (by omega) (by omega) hbl (hf rest hr p (by omega))) dX3_firstWith_41
            · repeat (first | assumption | exact Cl.s (by assumption) | refine Cl.n (by first | decide | omega) ?_)
            · rfl
            · exact Nat.le_of_ble_eq_true rfl
            refine g_iload (pc := 44) C dX3_firstWith_44 rfl ?_
            refine g_icmp_nE (pc := 46) C 52 dX3_firstWith_46 (by decide) (fun c46 => ?_) (fun c46 => ?_)
            · refine g_iinc (pc := 52) C dX3_firstWith_52 rfl (by decide) rfl ?_
              refine g_goto (pc := 55) C 3 dX3_firstWith_55 (by decide) ?_
              exact g_to (ih (p + 1) (by omega)) ⟨rfl, rfl, rfl, rfl, rfl, lgi (nI_1 p), trivial⟩
            · exact absurd ⟨by cases q : lLets T L d p; (rw [q] at c32; exact absurd rfl c32); rfl, (nI_eq (by omega) (by omega)).mp c46⟩ hc
  refine g_iconst (pc := 0) (v := nI 0) C dX3_firstWith_0 (by decide) ?_
  refine g_istore (pc := 1) C dX3_firstWith_1 (by decide) rfl ?_
  exact g_to (loop (tm T) 0 (by omega)) ⟨rfl, rfl, rfl, rfl, rfl, rfl, trivial⟩
end LONG2

