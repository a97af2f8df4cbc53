abbrev cMainS (G : GG) : va_E := .inr (9, [.ref (ga G 1), .ref (ga G 2), .ref (ga G 3), .ref (ga G 4), .ref (ga G 5), .ref (ga G 6), .ref (ga G 7), .ref (ga G 8), .ref (ga G 10), .ref (ga G 9)])
abbrev cLong (G : GG) (k : Int32) : va_E := .inr (3, [.ref (ga G 18), .int k])
section LAY
variable {G : GG} {σ : WW} {T : TS} {h : HH}
theorem t_forget {k : Int32} (h6 : Cl G σ 6 (cLong G k)) : Mt G mX3_forget [.ref (ga G 6)] σ none (va_up σ 6 (cLong G (nI 0))) := by
  refine Mt.of (by decide +kernel) (Nat.le_of_ble_eq_true rfl) (fun κ C => ?_)
  refine g_aload_n (pc := 0) C dX3_forget_0 rfl ?_
  refine g_iconst (pc := 1) (v := nI 0) C dX3_forget_1 (by decide) ?_
  apply pf_X3_15 (pc := 2) C rfl dX3_forget_2
  · repeat (first | assumption | exact Cl.s (by assumption) | refine Cl.n (by first | decide | omega) ?_)
  · rfl
  · rfl
  · exact Nat.le_of_ble_eq_true rfl
  intro hw2
  exact g_return (pc := 5) C dX3_forget_5 rfl rfl (rfl)
theorem c_layNo {n : Nat} {x : Nat → Int32} (h0 : Cl G σ 0 (cMain G)) (hp : RPa G σ) (hX : RX G σ n x) (hn : n ≤ 300) (hx : ∀ k, k < n → BB (x k)) (hno : (∃ a, (rd x n 300 0 P0).1 = some a) ∨ ((rd x n 300 0 P0).1 = none ∧ tm (rd x n 300 0 P0).2 = 0)) : ∃ σ', Mt G mX9_lay [.ref (ga G 0)] σ (some (.int (-2))) σ' ∧ RPa G σ' ∧ Fr σ σ' sp4 := by
  obtain ⟨σ1, g1, g2, g3⟩ := t_readInto hp hX hn hx
  have h1 := hX.1
  have h01 := h0.fr g3 (by decide)
  rcases hr : rd x n 300 0 P0 with ⟨_ | a, P⟩
  · rw [hr] at g1 g2 hno
    have hm : tm P = 0 := by
      rcases hno with ⟨a, q⟩ | ⟨-, q⟩
      · cases q
      · exact q
    refine ⟨σ1, ?_, RP.a g2, g3⟩
    obtain ⟨fv, fl, fh, h10, -⟩ := g2
    rw [hm] at h10
    refine Mt.of (by decide +kernel) (Nat.le_of_ble_eq_true rfl) (fun κ C => ?_)
    refine g_aload_n (pc := 0) C dX9_lay_0 rfl ?_
    apply gf_X9_12 (pc := 1) C rfl dX9_lay_1
    · repeat (first | assumption | exact Cl.s (by assumption) | refine Cl.n (by first | decide | omega) ?_)
    · rfl
    refine g_aload_n (pc := 4) C dX9_lay_4 rfl ?_
    apply gf_X9_72 (pc := 5) C rfl dX9_lay_5
    · repeat (first | assumption | exact Cl.s (by assumption) | refine Cl.n (by first | decide | omega) ?_)
    · rfl
    apply cl_X9_91 (pc := 8) C rfl g1 dX9_lay_8
    · repeat (first | assumption | exact Cl.s (by assumption) | refine Cl.n (by first | decide | omega) ?_)
    · rfl
    · exact Nat.le_of_ble_eq_true rfl
    refine g_bipush (pc := 11) (v := -4) C dX9_lay_11 (by decide) ?_
    refine g_icmp_nE (pc := 13) C 27 dX9_lay_13 (by decide) (fun c13 => ?_) (fun c13 => ?_)
    · exact absurd rfl c13
    · refine g_aload_n (pc := 16) C dX9_lay_16 rfl ?_
      apply gf_X9_72 (pc := 17) C rfl dX9_lay_17
      · repeat (first | assumption | exact Cl.s (by assumption) | refine Cl.n (by first | decide | omega) ?_)
      · rfl
      apply gf_X9_105 (pc := 20) C rfl dX9_lay_20
      · repeat (first | assumption | exact Cl.s (by assumption) | refine Cl.n (by first | decide | omega) ?_)
      · rfl
      refine g_iconst (pc := 23) (v := nI 1) C dX9_lay_23 (by decide) ?_
      refine g_icmp_ge (pc := 24) C 30 dX9_lay_24 (by decide) (fun c24 => ?_) (fun c24 => ?_)
      · exact absurd c24 (by decide)
      · refine g_bipush (pc := 27) (v := -2) C dX9_lay_27 (by decide) ?_
        exact g_ireturn (pc := 29) C dX9_lay_29 rfl (rfl) (rfl)
  · rw [hr] at g1 g2
    refine ⟨σ1, ?_, g2, g3⟩
    refine Mt.of (by decide +kernel) (Nat.le_of_ble_eq_true rfl) (fun κ C => ?_)
    have ha : a < 2 ^ 31 := by
      have : ∀ d i P b, (rd x n d i P).1 = some b → b < n := by
        intro d
        induction d with
        | zero => intro i P b q; cases q
        | succ d ih =>
          intro i P b q
          unfold rd at q
          split at q
          · cases q
          · split at q
            · cases q; omega
            · split at q
              · cases q; omega
              · exact ih _ _ _ q
      have := this 300 0 P0 a (by rw [hr])
      omega
    refine g_aload_n (pc := 0) C dX9_lay_0 rfl ?_
    apply gf_X9_12 (pc := 1) C rfl dX9_lay_1
    · repeat (first | assumption | exact Cl.s (by assumption) | refine Cl.n (by first | decide | omega) ?_)
    · rfl
    refine g_aload_n (pc := 4) C dX9_lay_4 rfl ?_
    apply gf_X9_72 (pc := 5) C rfl dX9_lay_5
    · repeat (first | assumption | exact Cl.s (by assumption) | refine Cl.n (by first | decide | omega) ?_)
    · rfl
    apply cl_X9_91 (pc := 8) C rfl g1 dX9_lay_8
    · repeat (first | assumption | exact Cl.s (by assumption) | refine Cl.n (by first | decide | omega) ?_)
    · rfl
    · exact Nat.le_of_ble_eq_true rfl
    refine g_bipush (pc := 11) (v := -4) C dX9_lay_11 (by decide) ?_
    refine g_icmp_nE (pc := 13) C 27 dX9_lay_13 (by decide) (fun c13 => ?_) (fun c13 => ?_)
    · refine g_bipush (pc := 27) (v := -2) C dX9_lay_27 (by decide) ?_
      exact g_ireturn (pc := 29) C dX9_lay_29 rfl (rfl) (rfl)
    · exact absurd c13 (fun q => by have q2 := congrArg Int32.toInt (show nI a = -4 from q); rw [nI_toInt ha, show (-4 : Int32).toInt = -4 by decide] at q2; omega)
theorem c_lay {n r : Nat} {x : Nat → Int32} {w : Nat → Nat} {k : Int32} {P : TS} (h0 : Cl G σ 0 (cMain G)) (hp : RPa G σ) (hX : RX G σ n x) (hg : RG G σ h) (hr : RR G σ r w) (h6 : Cl G σ 6 (cLong G k)) (h9 : ∃ e, Cl G σ 9 e) (hn : n ≤ 300) (hx : ∀ k, k < n → BB (x k)) (hrd : rd x n 300 0 P0 = (none, P)) (hm1 : 1 ≤ tm P) (hm9 : tm P ≤ 9) : ∃ σ', Mt G mX9_lay [.ref (ga G 0)] σ (some (.int (nI (tm P)))) σ' ∧ Cl G σ' 0 (cMainS G) ∧ RP G σ' P ∧ RX G σ' n x ∧ RG G σ' ((0, 0, 0), 0, h.2.2.1, 0, h.2.2.2.2) ∧ RR G σ' 0 w ∧ Cl G σ' 6 (cLong G (nI 0)) ∧ Fr σ σ' [0, 2, 3, 6, 12, 10, 24, 25, 26] := by
  obtain ⟨σ1, g1, g2, g3⟩ := t_readInto hp hX hn hx
  rw [hrd] at g1 g2
  have h1 := hX.1
  have h01 := h0.fr g3 (by decide)
  have hg1 := hg.fr g3 (by decide) (by decide) (by decide) (by decide)
  have hr1 := hr.fr g3 (by decide) (by decide)
  have h61 := h6.fr g3 (by decide)
  have hP := g2
  obtain ⟨fv, fl, fh, h10, h24, h25, h26, hW⟩ := g2
  obtain ⟨h2, h12, ⟨f, h13, hf13⟩, f2, h14, hf14⟩ := hg1
  obtain ⟨h3, f3, h15, hf15⟩ := hr1
  obtain ⟨x1, fx, x11, hfx⟩ := hX.fr g3 (by decide) (by decide)
  refine ⟨va_up (va_up (va_up (va_up (va_up (va_up σ1 0 (.inr (9, [.ref (ga G 1), .ref (ga G 2), .ref (ga G 3), .ref (ga G 4), .ref (ga G 5), .ref (ga G 6), .ref (ga G 7), .ref (ga G 8), .ref (ga G 10), .ref (ga G 10)]))) 0 (cMainS G)) 12 (cLine 0 0)) 2 (cGate G 0 0 0)) 3 (cRow G 0)) 6 (cLong G (nI 0)), ?_, ?_, ?_, ?_, ?_, ?_, ?_, ?_⟩
  · refine Mt.of (by decide +kernel) (Nat.le_of_ble_eq_true rfl) (fun κ C => ?_)
    refine g_aload_n (pc := 0) C dX9_lay_0 rfl ?_
    apply gf_X9_12 (pc := 1) C rfl dX9_lay_1
    · repeat (first | assumption | exact Cl.s (by assumption) | refine Cl.n (by first | decide | omega) ?_)
    · rfl
    refine g_aload_n (pc := 4) C dX9_lay_4 rfl ?_
    apply gf_X9_72 (pc := 5) C rfl dX9_lay_5
    · repeat (first | assumption | exact Cl.s (by assumption) | refine Cl.n (by first | decide | omega) ?_)
    · rfl
    apply cl_X9_91 (pc := 8) C rfl g1 dX9_lay_8
    · repeat (first | assumption | exact Cl.s (by assumption) | refine Cl.n (by first | decide | omega) ?_)
    · rfl
    · exact Nat.le_of_ble_eq_true rfl
    refine g_bipush (pc := 11) (v := -4) C dX9_lay_11 (by decide) ?_
    refine g_icmp_nE (pc := 13) C 27 dX9_lay_13 (by decide) (fun c13 => ?_) (fun c13 => ?_)
    · exact absurd rfl c13
    · refine g_aload_n (pc := 16) C dX9_lay_16 rfl ?_
      apply gf_X9_72 (pc := 17) C rfl dX9_lay_17
      · repeat (first | assumption | exact Cl.s (by assumption) | refine Cl.n (by first | decide | omega) ?_)
      · rfl
      apply gf_X9_105 (pc := 20) C rfl dX9_lay_20
      · repeat (first | assumption | exact Cl.s (by assumption) | refine Cl.n (by first | decide | omega) ?_)
      · rfl
      refine g_iconst (pc := 23) (v := nI 1) C dX9_lay_23 (by decide) ?_
      refine g_icmp_ge (pc := 24) C 30 dX9_lay_24 (by decide) (fun c24 => ?_) (fun c24 => ?_)
      · refine g_aload_n (pc := 30) C dX9_lay_30 rfl ?_
        apply gf_X9_68 (pc := 31) C rfl dX9_lay_31
        · repeat (first | assumption | exact Cl.s (by assumption) | refine Cl.n (by first | decide | omega) ?_)
        · rfl
        refine g_astore_n (pc := 34) C dX9_lay_34 (by decide) rfl ?_
        refine g_aload_n (pc := 35) C dX9_lay_35 rfl ?_
        refine g_aload_n (pc := 36) C dX9_lay_36 rfl ?_
        apply gf_X9_72 (pc := 37) C rfl dX9_lay_37
        · repeat (first | assumption | exact Cl.s (by assumption) | refine Cl.n (by first | decide | omega) ?_)
        · rfl
        apply pf_X9_68 (pc := 40) C rfl dX9_lay_40
        · repeat (first | assumption | exact Cl.s (by assumption) | refine Cl.n (by first | decide | omega) ?_)
        · exact Nat.le_of_ble_eq_true rfl
        intro hw40
        refine g_aload_n (pc := 43) C dX9_lay_43 rfl ?_
        refine g_aload_n (pc := 44) C dX9_lay_44 rfl ?_
        apply pf_X9_72 (pc := 45) C rfl dX9_lay_45
        · repeat (first | assumption | exact Cl.s (by assumption) | refine Cl.n (by first | decide | omega) ?_)
        · exact Nat.le_of_ble_eq_true rfl
        intro hw45
        refine g_aload_n (pc := 48) C dX9_lay_48 rfl ?_
        apply gf_X9_19 (pc := 49) C rfl dX9_lay_49
        · repeat (first | assumption | exact Cl.s (by assumption) | refine Cl.n (by first | decide | omega) ?_)
        · rfl
        apply cl_X9_108 (pc := 52) C rfl (t_gclear (a := nI h.1.1) (b := nI h.2.1) (c := nI h.2.2.2.1) (x := lat h.1.2.1) (y := nI h.1.2.2) (by repeat (first | assumption | exact Cl.s (by assumption) | refine Cl.n (by first | decide | omega) ?_)) (by repeat (first | assumption | exact Cl.s (by assumption) | refine Cl.n (by first | decide | omega) ?_))) dX9_lay_52
        · repeat (first | assumption | exact Cl.s (by assumption) | refine Cl.n (by first | decide | omega) ?_)
        · rfl
        · exact Nat.le_of_ble_eq_true rfl
        refine g_aload_n (pc := 55) C dX9_lay_55 rfl ?_
        apply gf_X9_26 (pc := 56) C rfl dX9_lay_56
        · repeat (first | assumption | exact Cl.s (by assumption) | refine Cl.n (by first | decide | omega) ?_)
        · rfl
        refine g_iconst (pc := 59) (v := nI 0) C dX9_lay_59 (by decide) ?_
        apply pf_X9_109 (pc := 60) C rfl dX9_lay_60
        · repeat (first | assumption | exact Cl.s (by assumption) | refine Cl.n (by first | decide | omega) ?_)
        · rfl
        · rfl
        · exact Nat.le_of_ble_eq_true rfl
        intro hw60
        refine g_aload_n (pc := 63) C dX9_lay_63 rfl ?_
        apply gf_X9_47 (pc := 64) C rfl dX9_lay_64
        · repeat (first | assumption | exact Cl.s (by assumption) | refine Cl.n (by first | decide | omega) ?_)
        · rfl
        apply cl_X9_112 (pc := 67) C rfl (t_forget (k := k) (by repeat (first | assumption | exact Cl.s (by assumption) | refine Cl.n (by first | decide | omega) ?_))) dX9_lay_67
        · repeat (first | assumption | exact Cl.s (by assumption) | refine Cl.n (by first | decide | omega) ?_)
        · rfl
        · exact Nat.le_of_ble_eq_true rfl
        refine g_aload_n (pc := 70) C dX9_lay_70 rfl ?_
        apply gf_X9_68 (pc := 71) C rfl dX9_lay_71
        · repeat (first | assumption | exact Cl.s (by assumption) | refine Cl.n (by first | decide | omega) ?_)
        · rfl
        apply gf_X9_105 (pc := 74) C rfl dX9_lay_74
        · repeat (first | assumption | exact Cl.s (by assumption) | refine Cl.n (by first | decide | omega) ?_)
        · rfl
        exact g_ireturn (pc := 77) C dX9_lay_77 rfl (rfl) (rfl)
      · exact absurd (nI_le hm1 (by omega)) c24
  · exact Cl.n (by decide) (Cl.n (by decide) (Cl.n (by decide) (Cl.n (by decide) (Cl.s (Cl.s h01)))))
  · exact ⟨fv, fl, fh, Cl.n (by decide) (Cl.n (by decide) (Cl.n (by decide) (Cl.n (by decide) (Cl.n (by decide) (Cl.n (by decide) h10))))), Cl.n (by decide) (Cl.n (by decide) (Cl.n (by decide) (Cl.n (by decide) (Cl.n (by decide) (Cl.n (by decide) h24))))), Cl.n (by decide) (Cl.n (by decide) (Cl.n (by decide) (Cl.n (by decide) (Cl.n (by decide) (Cl.n (by decide) h25))))), Cl.n (by decide) (Cl.n (by decide) (Cl.n (by decide) (Cl.n (by decide) (Cl.n (by decide) (Cl.n (by decide) h26))))), hW⟩
  · exact ⟨Cl.n (by decide) (Cl.n (by decide) (Cl.n (by decide) (Cl.n (by decide) (Cl.n (by decide) (Cl.n (by decide) x1))))), fx, Cl.n (by decide) (Cl.n (by decide) (Cl.n (by decide) (Cl.n (by decide) (Cl.n (by decide) (Cl.n (by decide) x11))))), hfx⟩
  · exact ⟨Cl.n (by decide) (Cl.n (by decide) (Cl.s (Cl.n (by decide) (Cl.n (by decide) (Cl.n (by decide) h2))))), Cl.n (by decide) (Cl.n (by decide) (Cl.n (by decide) (Cl.s (Cl.n (by decide) (Cl.n (by decide) h12))))), ⟨f, Cl.n (by decide) (Cl.n (by decide) (Cl.n (by decide) (Cl.n (by decide) (Cl.n (by decide) (Cl.n (by decide) h13))))), fun k hk => absurd hk (Nat.not_lt_zero k)⟩, f2, Cl.n (by decide) (Cl.n (by decide) (Cl.n (by decide) (Cl.n (by decide) (Cl.n (by decide) (Cl.n (by decide) h14))))), fun k hk => absurd hk (Nat.not_lt_zero k)⟩
  · exact ⟨Cl.n (by decide) (Cl.s (Cl.n (by decide) (Cl.n (by decide) (Cl.n (by decide) (Cl.n (by decide) h3))))), f3, Cl.n (by decide) (Cl.n (by decide) (Cl.n (by decide) (Cl.n (by decide) (Cl.n (by decide) (Cl.n (by decide) h15))))), fun k hk => absurd hk (Nat.not_lt_zero k)⟩
  · exact Cl.s (Cl.n (by decide) (Cl.n (by decide) (Cl.n (by decide) (Cl.n (by decide) (Cl.n (by decide) h61)))))
  · exact fr3 (fr3 (fr3 (fr3 (fr3 (fr3 (fun j hj => g3 j (fun q => hj (by simp at q ⊢; omega))) (by decide)) (by decide)) (by decide)) (by decide)) (by decide)) (by decide)
end LAY

