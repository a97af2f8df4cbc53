theorem lc_0 {v : Nat} (h : v = 0) : lg_cmp (lN v) 0 ≤ 0 := by subst h; decide
theorem lc_1 {v : Nat} (h : v ≠ 0) (hv : v < 2 ^ 63) : ¬ lg_cmp (lN v) 0 ≤ 0 := by
  have h1 : (0 : Int64) < lN v := by
    show lN 0 < lN v
    rw [pk_lLT (by decide) hv]
    omega
  have h2 : ¬ lN v < 0 := fun q => by
    have := (pk_lLT (a := v) (b := 0) hv (by decide)).mp q
    omega
  have h3 : ¬ lN v = 0 := fun q => by
    have := (pk_lEQ (a := v) (b := 0) hv (by decide)).mp q
    omega
  unfold lg_cmp
  simp [h1, h2, h3]
def acc (T : TS) (c : Nat → Nat → Nat) (i k p q : Nat) : Nat := sumb (fun i' => sumb (fun b => ct T c i' b p q) (brs T)) i + sumb (fun b => ct T c i b p q) k
theorem A2.congr {m : Nat} {f : Nat → Int64} {c d : Nat → Nat → Nat} (h : A2 m f c) (e : ∀ p, p < m → ∀ b, b < 6 → c p b = d p b) : A2 m f d := fun p hp b hb => by rw [h p hp b hb, e p hp b hb]
section WALKS2
variable {G : GG} {σ : WW} {T : TS}
theorem t_spread {a b i bar : Nat} {f g : Nat → Int64} {c d : Nat → Nat → Nat} (hT : RT G σ T) (hab : AB a b) (h5 : Cl G σ 5 (cWalk G a b)) (ha : Cl G σ a (lA G 54 f)) (hb : Cl G σ b (lA G 54 g)) (hc : A2 (tm T) f c) (hd : A2 (tm T) g d) (hi : i < tm T) (hbar : bar < 6) : ∃ g', Mt G mX8_spread [.ref (ga G 5), .ref (ga G 9), .int (nI i), .int (nI bar)] σ none (va_up σ b (lA G 54 g')) ∧ A2 (tm T) g' (spD T c i bar (tm T) 0 d) := by
  have hW := hT.w
  have hm := hW.2.2.2.2.1
  have hF : ∀ g1, Fr σ (va_up σ b (lA G 54 g1)) [b] := fun g1 => fr3 fr0 (List.mem_singleton.mpr rfl)
  have nb : ∀ k, k ≠ b → k ∉ [b] := fun k hk q => hk (List.mem_singleton.mp q)
  have loop : ∀ e j g d, j + e = tm T → A2 (tm T) g d → ∃ g', (∀ κ, Cx G mX8_spread κ → Go G mX8_spread κ none (va_up σ b (lA G 54 g')) (va_up σ b (lA G 54 g)) 3 [(0, .ref (ga G 5)), (1, .ref (ga G 9)), (2, .int (nI i)), (3, .int (nI bar)), (4, .int (nI j))] []) ∧ A2 (tm T) g' (spD T c i bar e j d) := by
    intro e
    induction e with
    | zero =>
      intro j g d hj hd
      have hT1 := hT.fr (hF g) (nb 9 (by unfold AB at hab; omega)) (nb 21 (by unfold AB at hab; omega)) (nb 22 (by unfold AB at hab; omega)) (nb 23 (by unfold AB at hab; omega))
      obtain ⟨bo, hc0, h9⟩ := hT1.c
      refine ⟨g, fun κ C => ?_, hd⟩
      refine g_iload (pc := 3) C dX8_spread_3 rfl ?_
      refine g_aload_n (pc := 5) C dX8_spread_5 rfl ?_
      apply gf_X8_24 (pc := 6) C rfl dX8_spread_6
      · repeat (first | assumption | exact Cl.s (by assumption) | refine Cl.n (by first | decide | omega) ?_)
      · rfl
      refine g_icmp_ge (pc := 9) C 71 dX8_spread_9 (by decide) (fun c9 => ?_) (fun c9 => ?_)
      · exact g_return (pc := 71) C dX8_spread_71 rfl rfl (rfl)
      · exact absurd (nI_le (by omega) (by omega)) c9
    | succ e ih =>
      intro j g d hj hd
      have hT1 := hT.fr (hF g) (nb 9 (by unfold AB at hab; omega)) (nb 21 (by unfold AB at hab; omega)) (nb 22 (by unfold AB at hab; omega)) (nb 23 (by unfold AB at hab; omega))
      obtain ⟨bo, hc0, h9⟩ := hT1.c
      have h51 : Cl G (va_up σ b (lA G 54 g)) 5 (cWalk G a b) := Cl.n (by unfold AB at hab; omega) h5
      have ha1 : Cl G (va_up σ b (lA G 54 g)) a (lA G 54 f) := Cl.n (by unfold AB at hab; omega) ha
      have hb1 : Cl G (va_up σ b (lA G 54 g)) b (lA G 54 g) := Cl.s hb
      have hu := and_lt32 (b := seen T) (UU_lt T i j hW.1)
      have hbr := brd_lt (b := bar) (by omega)
      by_cases hp : ps (tl T) (UU T i j &&& seen T) (brd bar) = true
      · have hbb := bb_lt hW (UU T i j &&& seen T)
        obtain ⟨g', g1, g2⟩ := ih (j + 1) (vp_updL g (j * 6 + bb T (UU T i j &&& seen T)) (lN (d j (bb T (UU T i j &&& seen T)) + c i bar))) (up2 d j (bb T (UU T i j &&& seen T)) (c i bar)) (by omega) (fun p hp2 q hq => by
          unfold up2
          by_cases e1 : p * 6 + q = j * 6 + bb T (UU T i j &&& seen T)
          · have e2 : p = j := by omega
            have e3 : q = bb T (UU T i j &&& seen T) := by omega
            rw [e1, pk_uLs, if_pos ⟨e2, e3⟩, e2, e3]
          · rw [pk_uLn e1, if_neg (by rintro ⟨rfl, rfl⟩; exact e1 rfl)]
            exact hd p hp2 q hq)
        refine ⟨g', fun κ C => ?_, by unfold spD; rw [if_pos hp]; exact g2⟩
        refine g_iload (pc := 3) C dX8_spread_3 rfl ?_
        refine g_aload_n (pc := 5) C dX8_spread_5 rfl ?_
        apply gf_X8_24 (pc := 6) C rfl dX8_spread_6
        · repeat (first | assumption | exact Cl.s (by assumption) | refine Cl.n (by first | decide | omega) ?_)
        · rfl
        refine g_icmp_ge (pc := 9) C 71 dX8_spread_9 (by decide) (fun c9 => ?_) (fun c9 => ?_)
        · exact absurd c9 (nI_ge (by omega) (by omega))
        · refine g_aload_n (pc := 12) C dX8_spread_12 rfl ?_
          refine g_iload_n (pc := 13) C dX8_spread_13 rfl ?_
          refine g_iload (pc := 14) C dX8_spread_14 rfl ?_
          apply cl_X8_38 (pc := 16) C rfl (t_seenUnlike hT1 hi (by omega)) dX8_spread_16
          · repeat (first | assumption | exact Cl.s (by assumption) | refine Cl.n (by first | decide | omega) ?_)
          · rfl
          · exact Nat.le_of_ble_eq_true rfl
          refine g_istore (pc := 19) C dX8_spread_19 (by decide) rfl ?_
          refine g_aload_n (pc := 21) C dX8_spread_21 rfl ?_
          refine g_iload (pc := 22) C dX8_spread_22 rfl ?_
          refine g_iload_n (pc := 24) C dX8_spread_24 rfl ?_
          refine cl_X8_42 (pc := 25) C rfl (t_barredBy (by omega)) dX8_spread_25 rfl (Nat.le_of_ble_eq_true rfl) ?_
          apply cl_X8_46 (pc := 28) C rfl (t_lets hT1 (by omega) (by omega)) dX8_spread_28
          · repeat (first | assumption | exact Cl.s (by assumption) | refine Cl.n (by first | decide | omega) ?_)
          · rfl
          · exact Nat.le_of_ble_eq_true rfl
          refine g_if_eq (pc := 31) C 65 dX8_spread_31 (by decide) (fun c31 => ?_) (fun c31 => ?_)
          · exact absurd c31 (by rw [hp]; decide)
          · refine g_aload_n (pc := 34) C dX8_spread_34 rfl ?_
            apply gf_X8_15 (pc := 35) C rfl dX8_spread_35
            · repeat (first | assumption | exact Cl.s (by assumption) | refine Cl.n (by first | decide | omega) ?_)
            · rfl
            refine g_iload (pc := 38) C dX8_spread_38 rfl ?_
            refine g_bipush (pc := 40) (v := nI 6) C dX8_spread_40 (by decide) ?_
            refine g_imul (pc := 42) C dX8_spread_42 ?_
            refine g_aload_n (pc := 43) C dX8_spread_43 rfl ?_
            refine g_iload (pc := 44) C dX8_spread_44 rfl ?_
            apply cl_X8_50 (pc := 46) C rfl (t_barBehind hT1 (by omega)) dX8_spread_46
            · repeat (first | assumption | exact Cl.s (by assumption) | refine Cl.n (by first | decide | omega) ?_)
            · rfl
            · exact Nat.le_of_ble_eq_true rfl
            refine g_iadd (pc := 49) C dX8_spread_49 ?_
            rw [pk_mul, nI_add]
            refine g_dup2 (pc := 50) C dX8_spread_50 rfl rfl ?_
            apply g_laload (pc := 51) C dX8_spread_51
            · repeat (first | assumption | exact Cl.s (by assumption) | refine Cl.n (by first | decide | omega) ?_)
            · exact vp_in_nI (by omega) (by decide)
            rw [nI_clamp (by omega), hd j (by omega) _ hbb]
            refine g_aload_n (pc := 52) C dX8_spread_52 rfl ?_
            apply gf_X8_9 (pc := 53) C rfl dX8_spread_53
            · repeat (first | assumption | exact Cl.s (by assumption) | refine Cl.n (by first | decide | omega) ?_)
            · rfl
            refine g_iload_n (pc := 56) C dX8_spread_56 rfl ?_
            refine g_bipush (pc := 57) (v := nI 6) C dX8_spread_57 (by decide) ?_
            refine g_imul (pc := 59) C dX8_spread_59 ?_
            refine g_iload_n (pc := 60) C dX8_spread_60 rfl ?_
            refine g_iadd (pc := 61) C dX8_spread_61 ?_
            rw [pk_mul, nI_add]
            apply g_laload (pc := 62) C dX8_spread_62
            · repeat (first | assumption | exact Cl.s (by assumption) | refine Cl.n (by first | decide | omega) ?_)
            · exact vp_in_nI (by omega) (by decide)
            rw [nI_clamp (by omega), hc i hi bar hbar]
            refine g_ladd (pc := 63) C dX8_spread_63 ?_
            rw [lN_add]
            apply g_lastore (pc := 64) C dX8_spread_64
            · repeat (first | assumption | exact Cl.s (by assumption) | refine Cl.n (by first | decide | omega) ?_)
            · exact vp_in_nI (by omega) (by decide)
            intro hw64
            refine g_iinc (pc := 65) C dX8_spread_65 rfl (by decide) rfl ?_
            refine g_goto (pc := 68) C 3 dX8_spread_68 (by decide) ?_
            rw [nI_clamp (by omega), bx_uu]
            exact g_to (g1 κ C) ⟨rfl, rfl, rfl, rfl, lgi (nI_1 j), trivial⟩
      · obtain ⟨g', g1, g2⟩ := ih (j + 1) g d (by omega) hd
        refine ⟨g', fun κ C => ?_, by unfold spD; rw [if_neg hp]; exact g2⟩
        have hp' : ps (tl T) (UU T i j &&& seen T) (brd bar) = false := by simpa using hp
        refine g_iload (pc := 3) C dX8_spread_3 rfl ?_
        refine g_aload_n (pc := 5) C dX8_spread_5 rfl ?_
        apply gf_X8_24 (pc := 6) C rfl dX8_spread_6
        · repeat (first | assumption | exact Cl.s (by assumption) | refine Cl.n (by first | decide | omega) ?_)
        · rfl
        refine g_icmp_ge (pc := 9) C 71 dX8_spread_9 (by decide) (fun c9 => ?_) (fun c9 => ?_)
        · exact absurd c9 (nI_ge (by omega) (by omega))
        · refine g_aload_n (pc := 12) C dX8_spread_12 rfl ?_
          refine g_iload_n (pc := 13) C dX8_spread_13 rfl ?_
          refine g_iload (pc := 14) C dX8_spread_14 rfl ?_
          apply cl_X8_38 (pc := 16) C rfl (t_seenUnlike hT1 hi (by omega)) dX8_spread_16
          · repeat (first | assumption | exact Cl.s (by assumption) | refine Cl.n (by first | decide | omega) ?_)
          · rfl
          · exact Nat.le_of_ble_eq_true rfl
          refine g_istore (pc := 19) C dX8_spread_19 (by decide) rfl ?_
          refine g_aload_n (pc := 21) C dX8_spread_21 rfl ?_
          refine g_iload (pc := 22) C dX8_spread_22 rfl ?_
          refine g_iload_n (pc := 24) C dX8_spread_24 rfl ?_
          refine cl_X8_42 (pc := 25) C rfl (t_barredBy (by omega)) dX8_spread_25 rfl (Nat.le_of_ble_eq_true rfl) ?_
          apply cl_X8_46 (pc := 28) C rfl (t_lets hT1 (by omega) (by omega)) dX8_spread_28
          · repeat (first | assumption | exact Cl.s (by assumption) | refine Cl.n (by first | decide | omega) ?_)
          · rfl
          · exact Nat.le_of_ble_eq_true rfl
          refine g_if_eq (pc := 31) C 65 dX8_spread_31 (by decide) (fun c31 => ?_) (fun c31 => ?_)
          · refine g_iinc (pc := 65) C dX8_spread_65 rfl (by decide) rfl ?_
            refine g_goto (pc := 68) C 3 dX8_spread_68 (by decide) ?_
            exact g_to (g1 κ C) ⟨rfl, rfl, rfl, rfl, lgi (nI_1 j), trivial⟩
          · exact absurd (by rw [hp']; rfl) c31
  obtain ⟨g', g1, g2⟩ := loop (tm T) 0 g d (by omega) hd
  refine ⟨g', ?_, g2⟩
  rw [va_self hb.2] at g1
  refine Mt.of (by decide +kernel) (Nat.le_of_ble_eq_true rfl) (fun κ C => ?_)
  refine g_iconst (pc := 0) (v := nI 0) C dX8_spread_0 (by decide) ?_
  refine g_istore (pc := 1) C dX8_spread_1 (by decide) rfl ?_
  exact g_to (g1 κ C) ⟨rfl, rfl, rfl, rfl, rfl, trivial⟩
theorem t_goOn {a b : Nat} {f g : Nat → Int64} {c : Nat → Nat → Nat} (hT : RT G σ T) (hab : AB a b) (h5 : Cl G σ 5 (cWalk G a b)) (ha : Cl G σ a (lA G 54 f)) (hb : Cl G σ b (lA G 54 g)) (hc : A2 (tm T) f c) (hcl : ∀ p q, q < 6 → c p q < 2 ^ 63) : ∃ g', Mt G mX8_goOn [.ref (ga G 5), .ref (ga G 9)] σ none (va_up (va_up (va_up σ b (lA G 54 g')) 5 (cWalk G b b)) 5 (cWalk G b a)) ∧ A2 (tm T) g' (nx T c) := by
  have hW := hT.w
  have hm := hW.2.2.2.2.1
  have hbs := brs_le hW
  have hF : ∀ g1, Fr σ (va_up σ b (lA G 54 g1)) [b] := fun g1 => fr3 fr0 (List.mem_singleton.mpr rfl)
  have nb : ∀ k, k ≠ b → k ∉ [b] := fun k hk q => hk (List.mem_singleton.mp q)
  have inner : ∀ i, i < tm T → (∀ g, A2 (tm T) g (acc T c i (brs T)) → ∃ g', (∀ κ, Cx G mX8_goOn κ → Go G mX8_goOn κ none (va_up (va_up (va_up σ b (lA G 54 g')) 5 (cWalk G b b)) 5 (cWalk G b a)) (va_up σ b (lA G 54 g)) 57 [(0, .ref (ga G 5)), (1, .ref (ga G 9)), (2, .int (nI i))] []) ∧ A2 (tm T) g' (nx T c)) → ∀ e k g, k + e = brs T → A2 (tm T) g (acc T c i k) → ∃ g', (∀ κ, Cx G mX8_goOn κ → Go G mX8_goOn κ none (va_up (va_up (va_up σ b (lA G 54 g')) 5 (cWalk G b b)) 5 (cWalk G b a)) (va_up σ b (lA G 54 g)) 20 [(0, .ref (ga G 5)), (1, .ref (ga G 9)), (2, .int (nI i)), (3, .int (nI k))] []) ∧ A2 (tm T) g' (nx T c) := by
    intro i hi K e
    induction e with
    | zero =>
      intro k g hk hg
      have hT1 := hT.fr (hF g) (nb 9 (by unfold AB at hab; omega)) (nb 21 (by unfold AB at hab; omega)) (nb 22 (by unfold AB at hab; omega)) (nb 23 (by unfold AB at hab; omega))
      obtain ⟨bo, hc0, h9⟩ := hT1.c
      have hk' : k = brs T := by omega
      subst hk'
      obtain ⟨g', g1, g2⟩ := K g hg
      refine ⟨g', fun κ C => ?_, g2⟩
      refine g_iload_n (pc := 20) C dX8_goOn_20 rfl ?_
      refine g_aload_n (pc := 21) C dX8_goOn_21 rfl ?_
      apply cl_X8_30 (pc := 22) C rfl (t_bars hT1) dX8_goOn_22
      · repeat (first | assumption | exact Cl.s (by assumption) | refine Cl.n (by first | decide | omega) ?_)
      · rfl
      · exact Nat.le_of_ble_eq_true rfl
      refine g_icmp_ge (pc := 25) C 57 dX8_goOn_25 (by decide) (fun c25 => ?_) (fun c25 => ?_)
      · exact g_to (g1 κ C) ⟨rfl, rfl, rfl, trivial⟩
      · exact absurd (nI_le (by omega) (by omega)) c25
    | succ e ih =>
      intro k g hk hg
      have hT1 := hT.fr (hF g) (nb 9 (by unfold AB at hab; omega)) (nb 21 (by unfold AB at hab; omega)) (nb 22 (by unfold AB at hab; omega)) (nb 23 (by unfold AB at hab; omega))
      obtain ⟨bo, hc0, h9⟩ := hT1.c
      have h51 : Cl G (va_up σ b (lA G 54 g)) 5 (cWalk G a b) := Cl.n (by unfold AB at hab; omega) h5
      have ha1 : Cl G (va_up σ b (lA G 54 g)) a (lA G 54 f) := Cl.n (by unfold AB at hab; omega) ha
      have hb1 : Cl G (va_up σ b (lA G 54 g)) b (lA G 54 g) := Cl.s hb
      by_cases hz : c i k = 0
      · obtain ⟨g', g1, g2⟩ := ih (k + 1) g (by omega) (hg.congr (fun p _ q _ => by
          show _ = sumb _ i + (sumb _ k + ct T c i k p q)
          have : ct T c i k p q = 0 := by unfold ct; rw [hz]; simp
          rw [this]; rfl))
        refine ⟨g', fun κ C => ?_, g2⟩
        refine g_iload_n (pc := 20) C dX8_goOn_20 rfl ?_
        refine g_aload_n (pc := 21) C dX8_goOn_21 rfl ?_
        apply cl_X8_30 (pc := 22) C rfl (t_bars hT1) dX8_goOn_22
        · repeat (first | assumption | exact Cl.s (by assumption) | refine Cl.n (by first | decide | omega) ?_)
        · rfl
        · exact Nat.le_of_ble_eq_true rfl
        refine g_icmp_ge (pc := 25) C 57 dX8_goOn_25 (by decide) (fun c25 => ?_) (fun c25 => ?_)
        · exact absurd c25 (nI_ge (by omega) (by omega))
        · refine g_aload_n (pc := 28) C dX8_goOn_28 rfl ?_
          apply gf_X8_9 (pc := 29) C rfl dX8_goOn_29
          · repeat (first | assumption | exact Cl.s (by assumption) | refine Cl.n (by first | decide | omega) ?_)
          · rfl
          refine g_iload_n (pc := 32) C dX8_goOn_32 rfl ?_
          refine g_bipush (pc := 33) (v := nI 6) C dX8_goOn_33 (by decide) ?_
          refine g_imul (pc := 35) C dX8_goOn_35 ?_
          refine g_iload_n (pc := 36) C dX8_goOn_36 rfl ?_
          refine g_iadd (pc := 37) C dX8_goOn_37 ?_
          rw [pk_mul, nI_add]
          apply g_laload (pc := 38) C dX8_goOn_38
          · repeat (first | assumption | exact Cl.s (by assumption) | refine Cl.n (by first | decide | omega) ?_)
          · exact vp_in_nI (by omega) (by decide)
          rw [nI_clamp (by omega), hc i hi k (by omega)]
          refine g_lconst (pc := 39) (v := 0) C dX8_goOn_39 (by decide) ?_
          refine g_lcmp (pc := 40) C dX8_goOn_40 ?_
          refine g_if_le (pc := 41) C 51 dX8_goOn_41 (by decide) (fun c41 => ?_) (fun c41 => ?_)
          · refine g_iinc (pc := 51) C dX8_goOn_51 rfl (by decide) rfl ?_
            refine g_goto (pc := 54) C 20 dX8_goOn_54 (by decide) ?_
            exact g_to (g1 κ C) ⟨rfl, rfl, rfl, lgi (nI_1 k), trivial⟩
          · exact absurd (lc_0 hz) c41
      · obtain ⟨gs, s1, s2⟩ := t_spread hT1 hab h51 ha1 hb1 hc hg hi (bar := k) (by omega)
        rw [bx_uu] at s1
        obtain ⟨g', g1, g2⟩ := ih (k + 1) gs (by omega) (s2.congr (fun p hp q _ => by
          rw [spD_at, if_pos ⟨Nat.zero_le _, by omega⟩]
          show _ = sumb _ i + (sumb _ k + ct T c i k p q)
          unfold acc; omega))
        refine ⟨g', fun κ C => ?_, g2⟩
        refine g_iload_n (pc := 20) C dX8_goOn_20 rfl ?_
        refine g_aload_n (pc := 21) C dX8_goOn_21 rfl ?_
        apply cl_X8_30 (pc := 22) C rfl (t_bars hT1) dX8_goOn_22
        · repeat (first | assumption | exact Cl.s (by assumption) | refine Cl.n (by first | decide | omega) ?_)
        · rfl
        · exact Nat.le_of_ble_eq_true rfl
        refine g_icmp_ge (pc := 25) C 57 dX8_goOn_25 (by decide) (fun c25 => ?_) (fun c25 => ?_)
        · exact absurd c25 (nI_ge (by omega) (by omega))
        · refine g_aload_n (pc := 28) C dX8_goOn_28 rfl ?_
          apply gf_X8_9 (pc := 29) C rfl dX8_goOn_29
          · repeat (first | assumption | exact Cl.s (by assumption) | refine Cl.n (by first | decide | omega) ?_)
          · rfl
          refine g_iload_n (pc := 32) C dX8_goOn_32 rfl ?_
          refine g_bipush (pc := 33) (v := nI 6) C dX8_goOn_33 (by decide) ?_
          refine g_imul (pc := 35) C dX8_goOn_35 ?_
          refine g_iload_n (pc := 36) C dX8_goOn_36 rfl ?_
          refine g_iadd (pc := 37) C dX8_goOn_37 ?_
          rw [pk_mul, nI_add]
          apply g_laload (pc := 38) C dX8_goOn_38
          · repeat (first | assumption | exact Cl.s (by assumption) | refine Cl.n (by first | decide | omega) ?_)
          · exact vp_in_nI (by omega) (by decide)
          rw [nI_clamp (by omega), hc i hi k (by omega)]
          refine g_lconst (pc := 39) (v := 0) C dX8_goOn_39 (by decide) ?_
          refine g_lcmp (pc := 40) C dX8_goOn_40 ?_
          refine g_if_le (pc := 41) C 51 dX8_goOn_41 (by decide) (fun c41 => ?_) (fun c41 => ?_)
          · exact absurd c41 (lc_1 hz (hcl i k (by omega)))
          · refine g_aload_n (pc := 44) C dX8_goOn_44 rfl ?_
            refine g_aload_n (pc := 45) C dX8_goOn_45 rfl ?_
            refine g_iload_n (pc := 46) C dX8_goOn_46 rfl ?_
            refine g_iload_n (pc := 47) C dX8_goOn_47 rfl ?_
            apply cl_X8_34 (pc := 48) C rfl s1 dX8_goOn_48
            · repeat (first | assumption | exact Cl.s (by assumption) | refine Cl.n (by first | decide | omega) ?_)
            · rfl
            · exact Nat.le_of_ble_eq_true rfl
            refine g_iinc (pc := 51) C dX8_goOn_51 rfl (by decide) rfl ?_
            refine g_goto (pc := 54) C 20 dX8_goOn_54 (by decide) ?_
            exact g_to (g1 κ C) ⟨rfl, rfl, rfl, lgi (nI_1 k), trivial⟩
  have outer : ∀ e i g, i + e = tm T → A2 (tm T) g (acc T c i 0) → ∃ g', (∀ κ, Cx G mX8_goOn κ → Go G mX8_goOn κ none (va_up (va_up (va_up σ b (lA G 54 g')) 5 (cWalk G b b)) 5 (cWalk G b a)) (va_up σ b (lA G 54 g)) 10 [(0, .ref (ga G 5)), (1, .ref (ga G 9)), (2, .int (nI i))] []) ∧ A2 (tm T) g' (nx T c) := by
    intro e
    induction e with
    | zero =>
      intro i g hi hg
      have hT1 := hT.fr (hF g) (nb 9 (by unfold AB at hab; omega)) (nb 21 (by unfold AB at hab; omega)) (nb 22 (by unfold AB at hab; omega)) (nb 23 (by unfold AB at hab; omega))
      obtain ⟨bo, hc0, h9⟩ := hT1.c
      have h51 : Cl G (va_up σ b (lA G 54 g)) 5 (cWalk G a b) := Cl.n (by unfold AB at hab; omega) h5
      refine ⟨g, fun κ C => ?_, hg.congr (fun p _ q _ => by show acc T c i 0 p q = _; unfold acc nx; rw [show i = tm T by omega]; rfl)⟩
      refine g_iload_n (pc := 10) C dX8_goOn_10 rfl ?_
      refine g_aload_n (pc := 11) C dX8_goOn_11 rfl ?_
      apply gf_X8_24 (pc := 12) C rfl dX8_goOn_12
      · repeat (first | assumption | exact Cl.s (by assumption) | refine Cl.n (by first | decide | omega) ?_)
      · rfl
      refine g_icmp_ge (pc := 15) C 63 dX8_goOn_15 (by decide) (fun c15 => ?_) (fun c15 => ?_)
      · refine g_aload_n (pc := 63) C dX8_goOn_63 rfl ?_
        apply gf_X8_9 (pc := 64) C rfl dX8_goOn_64
        · repeat (first | assumption | exact Cl.s (by assumption) | refine Cl.n (by first | decide | omega) ?_)
        · rfl
        refine g_astore_n (pc := 67) C dX8_goOn_67 (by decide) rfl ?_
        refine g_aload_n (pc := 68) C dX8_goOn_68 rfl ?_
        refine g_aload_n (pc := 69) C dX8_goOn_69 rfl ?_
        apply gf_X8_15 (pc := 70) C rfl dX8_goOn_70
        · repeat (first | assumption | exact Cl.s (by assumption) | refine Cl.n (by first | decide | omega) ?_)
        · rfl
        apply pf_X8_9 (pc := 73) C rfl dX8_goOn_73
        · repeat (first | assumption | exact Cl.s (by assumption) | refine Cl.n (by first | decide | omega) ?_)
        · exact Nat.le_of_ble_eq_true rfl
        intro hw73
        refine g_aload_n (pc := 76) C dX8_goOn_76 rfl ?_
        refine g_aload_n (pc := 77) C dX8_goOn_77 rfl ?_
        apply pf_X8_15 (pc := 78) C rfl dX8_goOn_78
        · repeat (first | assumption | exact Cl.s (by assumption) | refine Cl.n (by first | decide | omega) ?_)
        · exact Nat.le_of_ble_eq_true rfl
        intro hw78
        exact g_return (pc := 81) C dX8_goOn_81 rfl rfl (rfl)
      · exact absurd (nI_le (by omega) (by omega)) c15
    | succ e ih =>
      intro i g hi hg
      have hT1 := hT.fr (hF g) (nb 9 (by unfold AB at hab; omega)) (nb 21 (by unfold AB at hab; omega)) (nb 22 (by unfold AB at hab; omega)) (nb 23 (by unfold AB at hab; omega))
      obtain ⟨bo, hc0, h9⟩ := hT1.c
      obtain ⟨g', g1, g2⟩ := inner i (by omega) (fun g2 hg2 => by
        obtain ⟨g', j1, j2⟩ := ih (i + 1) g2 (by omega) (hg2.congr (fun p _ q _ => by show acc T c i (brs T) p q = acc T c (i + 1) 0 p q; unfold acc; rfl))
        refine ⟨g', fun κ C => ?_, j2⟩
        refine g_iinc (pc := 57) C dX8_goOn_57 rfl (by decide) rfl ?_
        refine g_goto (pc := 60) C 10 dX8_goOn_60 (by decide) ?_
        exact g_to (j1 κ C) ⟨rfl, rfl, lgi (nI_1 i), trivial⟩
        ) (brs T) 0 g (by omega) hg
      refine ⟨g', fun κ C => ?_, g2⟩
      refine g_iload_n (pc := 10) C dX8_goOn_10 rfl ?_
      refine g_aload_n (pc := 11) C dX8_goOn_11 rfl ?_
      apply gf_X8_24 (pc := 12) C rfl dX8_goOn_12
      · repeat (first | assumption | exact Cl.s (by assumption) | refine Cl.n (by first | decide | omega) ?_)
      · rfl
      refine g_icmp_ge (pc := 15) C 63 dX8_goOn_15 (by decide) (fun c15 => ?_) (fun c15 => ?_)
      · exact absurd c15 (nI_ge (by omega) (by omega))
      · refine g_iconst (pc := 18) (v := nI 0) C dX8_goOn_18 (by decide) ?_
        refine g_istore_n (pc := 19) C dX8_goOn_19 (by decide) rfl ?_
        exact g_to (g1 κ C) ⟨rfl, rfl, rfl, rfl, trivial⟩
  obtain ⟨g0, f1, f2⟩ := t_fill (v := 0) hb
  obtain ⟨g', g1, g2⟩ := outer (tm T) 0 g0 (by omega) (fun p hp q hq => by rw [f2 _ (by omega)]; rfl)
  refine ⟨g', ?_, g2⟩
  refine Mt.of (by decide +kernel) (Nat.le_of_ble_eq_true rfl) (fun κ C => ?_)
  refine g_aload_n (pc := 0) C dX8_goOn_0 rfl ?_
  apply gf_X8_15 (pc := 1) C rfl dX8_goOn_1
  · repeat (first | assumption | exact Cl.s (by assumption) | refine Cl.n (by first | decide | omega) ?_)
  · rfl
  refine g_lconst (pc := 4) (v := 0) C dX8_goOn_4 (by decide) ?_
  refine cl_X8_18 (pc := 5) C rfl f1 dX8_goOn_5 rfl (Nat.le_of_ble_eq_true rfl) ?_
  refine g_iconst (pc := 8) (v := nI 0) C dX8_goOn_8 (by decide) ?_
  refine g_istore_n (pc := 9) C dX8_goOn_9 (by decide) rfl ?_
  exact g_to (g1 κ C) ⟨rfl, rfl, rfl, trivial⟩
end WALKS2

