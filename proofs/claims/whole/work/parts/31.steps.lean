theorem sub_I : ∀ w, w < 32 → ∀ s, s < 32 → (nI w &&& (nI s ^^^ (-1 : Int32)) = 0 ↔ w &&& s = w) := by decide +kernel
def RAr (T : TS) (f : Nat → Int32) (k : Nat) : Prop := ∀ k', k' ≤ k → ∀ bar, bar < brs T → RB (f (k' * 6 + bar)) (rc T k' bar)
theorem bb_brs (T : TS) (u : Nat) : bb T u < brs T := by
  unfold bb brs
  split
  · have := bbs_le u (tn T) 0; omega
  · decide
/-- how many strangers -/
def fwS (T : TS) (u : Nat) : Nat → Nat → Int32
  | 0, _ => -4
  | d + 1, n => if rc T (n + 1) 0 u = true then nI n else fwS T u d (n + 1)
/-- a code's values -/
def rsk (v : Nat → Nat) (n code : Nat) : Nat → Nat
  | 0 => code
  | k + 1 => rsk v n code k / v (n - 1 - k)
def dgv (v : Nat → Nat) (n code t : Nat) : Nat := rsk v n code (n - 1 - t) % v t
def lkU (v : Nat → Nat) : Nat → Nat → Nat
  | 0, _ => 0
  | k + 1, d => lw d (v d) ||| lkU v k (d + 1)
theorem lkU_lkn (v : Nat → Nat) : ∀ k d, lkn v d ||| lkU v k d = lkn v (d + k)
  | 0, d => by simp [lkU]
  | k + 1, d => by
    unfold lkU
    rw [← Nat.or_assoc]
    have := lkU_lkn v k (d + 1)
    rw [show d + (k + 1) = d + 1 + k by omega, ← this]
    rfl
/-- the least code of a first stranger -/
def lfS (T : TS) (x y : Nat → Nat) (n : Nat) : Nat → Nat → Int32
  | 0, _ => -4
  | d + 1, c => if ps (tl T) (bits (fun t => x t != dgv (tv T) (tn T) c t) (tn T) &&& seen T) 0 = true ∧ rc T n (bb T (bits (fun t => x t != dgv (tv T) (tn T) c t) (tn T) &&& seen T)) (bits (fun t => dgv (tv T) (tn T) c t != y t) (tn T) &&& seen T) = true then nI c else lfS T x y n d (c + 1)
def stepsF (T : TS) (i j what : Int32) : Int32 := if inR i (tm T) && (inR j (tm T) && inR what 2) then (if what = 0 ∨ fwS T (UU T i.toNatClampNeg j.toNatClampNeg &&& seen T) 13 0 = -4 then fwS T (UU T i.toNatClampNeg j.toNatClampNeg &&& seen T) 13 0 else if fwS T (UU T i.toNatClampNeg j.toNatClampNeg &&& seen T) 13 0 = 0 then -4 else lfS T (tp T i.toNatClampNeg) (tp T j.toNatClampNeg) (fwS T (UU T i.toNatClampNeg j.toNatClampNeg &&& seen T) 13 0).toNatClampNeg (cds (tv T) (tn T)) 0) else -1
theorem fwS_n {T : TS} {u : Nat} : ∀ d n, n + d = 13 → fwS T u d n = -4 ∨ ∃ k, k ≤ 12 ∧ n ≤ k ∧ fwS T u d n = nI k
  | 0, n, _ => Or.inl rfl
  | d + 1, n, h => by
    unfold fwS
    split
    · exact Or.inr ⟨n, by omega, by omega, rfl⟩
    · rcases fwS_n (T := T) (u := u) d (n + 1) (by omega) with q | ⟨k, q1, q2, q3⟩
      · exact Or.inl q
      · exact Or.inr ⟨k, q1, by omega, q3⟩
theorem seen_lt {T : TS} (hW : TW T) : seen T < 32 := Nat.lt_of_le_of_lt (Nat.le_trans Nat.and_le_left hW.2.2.2.2.2.2.2) (by decide)
section STEPS
variable {G : GG} {σ : WW} {T : TS}
theorem t_reachedBy {f : Nat → Int32} (hT : RT G σ T) (h7 : Cl G σ 7 (cStr G)) (h19 : Cl G σ 19 (iA G 84 f)) {k bar : Nat} (hk : k < 13) (hb : bar < brs T) (hf : ∀ b, b < brs T → RB (f (k * 6 + b)) (rc T k b)) : ∃ Y, Mt G mX5_reachedBy [.ref (ga G 7), .ref (ga G 9), .int (nI k), .int (nI bar)] σ (some (.int Y)) σ ∧ RB Y (rc T (k + 1) bar) := by
  have hW := hT.w
  have hbs := brs_le hW
  have hs := seen_lt hW
  obtain ⟨bo, hc0, h9⟩ := hT.c
  have loop : ∀ d w X, w + d = seen T + 1 → RB X (rBy T (rc T k) bar w) → ∃ Y, (∀ κ, Cx G mX5_reachedBy κ → Go G mX5_reachedBy κ (some (.int Y)) σ σ 6 [(0, .ref (ga G 7)), (1, .ref (ga G 9)), (2, .int (nI k)), (3, .int (nI bar)), (4, .int X), (5, .int (nI w))] []) ∧ RB Y (rc T (k + 1) bar) := by
    intro d
    induction d with
    | zero =>
      intro w X hw hX
      refine ⟨X, fun κ C => ?_, by show RB X (rBy T (rc T k) bar (seen T + 1)); rw [show seen T + 1 = w by omega]; exact hX⟩
      refine g_iload (pc := 6) C dX5_reachedBy_6 rfl ?_
      refine g_aload_n (pc := 8) C dX5_reachedBy_8 rfl ?_
      apply cl_X5_29 (pc := 9) C rfl (t_sees hT) dX5_reachedBy_9
      · repeat (first | assumption | exact Cl.s (by assumption) | refine Cl.n (by first | decide | omega) ?_)
      · rfl
      · exact Nat.le_of_ble_eq_true rfl
      refine g_icmp_gt (pc := 12) C 74 dX5_reachedBy_12 (by decide) (fun c12 => ?_) (fun c12 => ?_)
      · refine g_iload (pc := 74) C dX5_reachedBy_74 rfl ?_
        exact g_ireturn (pc := 76) C dX5_reachedBy_76 rfl (rfl) (rfl)
      · exact absurd (nI_lt (by omega) (by omega)) c12
    | succ d ih =>
      intro w X hw hX
      have hbr := brd_lt (b := bar) (by omega)
      by_cases h1 : w &&& seen T = w
      · cases h2 : ps (tl T) w (brd bar)
        · obtain ⟨Y, g1, g2⟩ := ih (w + 1) X (by omega) (fun u hu => by rw [hX u hu]; show _ = (_ || _); simp [h2])
          refine ⟨Y, fun κ C => ?_, g2⟩
          refine g_iload (pc := 6) C dX5_reachedBy_6 rfl ?_
          refine g_aload_n (pc := 8) C dX5_reachedBy_8 rfl ?_
          apply cl_X5_29 (pc := 9) C rfl (t_sees hT) dX5_reachedBy_9
          · repeat (first | assumption | exact Cl.s (by assumption) | refine Cl.n (by first | decide | omega) ?_)
          · rfl
          · exact Nat.le_of_ble_eq_true rfl
          refine g_icmp_gt (pc := 12) C 74 dX5_reachedBy_12 (by decide) (fun c12 => ?_) (fun c12 => ?_)
          · exact absurd c12 (nI_nlt (by omega) (by omega))
          · refine g_iload (pc := 15) C dX5_reachedBy_15 rfl ?_
            refine g_aload_n (pc := 17) C dX5_reachedBy_17 rfl ?_
            apply cl_X5_29 (pc := 18) C rfl (t_sees hT) dX5_reachedBy_18
            · repeat (first | assumption | exact Cl.s (by assumption) | refine Cl.n (by first | decide | omega) ?_)
            · rfl
            · exact Nat.le_of_ble_eq_true rfl
            refine g_iconst (pc := 21) (v := -1) C dX5_reachedBy_21 (by decide) ?_
            refine g_ixor (pc := 22) C dX5_reachedBy_22 ?_
            refine g_iand (pc := 23) C dX5_reachedBy_23 ?_
            refine g_if_nE (pc := 24) C 68 dX5_reachedBy_24 (by decide) (fun c24 => ?_) (fun c24 => ?_)
            · exact absurd ((sub_I w (by omega) _ hs).mpr h1) c24
            · refine g_aload_n (pc := 27) C dX5_reachedBy_27 rfl ?_
              refine g_iload (pc := 28) C dX5_reachedBy_28 rfl ?_
              refine g_iload_n (pc := 30) C dX5_reachedBy_30 rfl ?_
              refine cl_X5_32 (pc := 31) C rfl (t_barredBy (by omega)) dX5_reachedBy_31 rfl (Nat.le_of_ble_eq_true rfl) ?_
              apply cl_X5_36 (pc := 34) C rfl (t_lets hT (by omega) (by omega)) dX5_reachedBy_34
              · repeat (first | assumption | exact Cl.s (by assumption) | refine Cl.n (by first | decide | omega) ?_)
              · rfl
              · exact Nat.le_of_ble_eq_true rfl
              refine g_if_eq (pc := 37) C 68 dX5_reachedBy_37 (by decide) (fun c37 => ?_) (fun c37 => ?_)
              · refine g_iinc (pc := 68) C dX5_reachedBy_68 rfl (by decide) rfl ?_
                refine g_goto (pc := 71) C 6 dX5_reachedBy_71 (by decide) ?_
                exact g_to (g1 κ C) ⟨rfl, rfl, rfl, rfl, rfl, lgi (nI_1 w), trivial⟩
              · exact absurd (by rw [h2]; rfl) c37
        · obtain ⟨Z, z1, z2⟩ := t_turnedInto (turned := w) hT h7 (by omega) (hf (bb T w) (bb_brs T w))
          obtain ⟨Y, g1, g2⟩ := ih (w + 1) (X ||| Z) (by omega) (fun u hu => by rw [b_or, hX u hu, z2 u hu]; show _ = (_ || _); simp [h2, h1])
          refine ⟨Y, fun κ C => ?_, g2⟩
          have hbb := bb_brs T w
          refine g_iload (pc := 6) C dX5_reachedBy_6 rfl ?_
          refine g_aload_n (pc := 8) C dX5_reachedBy_8 rfl ?_
          apply cl_X5_29 (pc := 9) C rfl (t_sees hT) dX5_reachedBy_9
          · repeat (first | assumption | exact Cl.s (by assumption) | refine Cl.n (by first | decide | omega) ?_)
          · rfl
          · exact Nat.le_of_ble_eq_true rfl
          refine g_icmp_gt (pc := 12) C 74 dX5_reachedBy_12 (by decide) (fun c12 => ?_) (fun c12 => ?_)
          · exact absurd c12 (nI_nlt (by omega) (by omega))
          · refine g_iload (pc := 15) C dX5_reachedBy_15 rfl ?_
            refine g_aload_n (pc := 17) C dX5_reachedBy_17 rfl ?_
            apply cl_X5_29 (pc := 18) C rfl (t_sees hT) dX5_reachedBy_18
            · repeat (first | assumption | exact Cl.s (by assumption) | refine Cl.n (by first | decide | omega) ?_)
            · rfl
            · exact Nat.le_of_ble_eq_true rfl
            refine g_iconst (pc := 21) (v := -1) C dX5_reachedBy_21 (by decide) ?_
            refine g_ixor (pc := 22) C dX5_reachedBy_22 ?_
            refine g_iand (pc := 23) C dX5_reachedBy_23 ?_
            refine g_if_nE (pc := 24) C 68 dX5_reachedBy_24 (by decide) (fun c24 => ?_) (fun c24 => ?_)
            · exact absurd ((sub_I w (by omega) _ hs).mpr h1) c24
            · refine g_aload_n (pc := 27) C dX5_reachedBy_27 rfl ?_
              refine g_iload (pc := 28) C dX5_reachedBy_28 rfl ?_
              refine g_iload_n (pc := 30) C dX5_reachedBy_30 rfl ?_
              refine cl_X5_32 (pc := 31) C rfl (t_barredBy (by omega)) dX5_reachedBy_31 rfl (Nat.le_of_ble_eq_true rfl) ?_
              apply cl_X5_36 (pc := 34) C rfl (t_lets hT (by omega) (by omega)) dX5_reachedBy_34
              · repeat (first | assumption | exact Cl.s (by assumption) | refine Cl.n (by first | decide | omega) ?_)
              · rfl
              · exact Nat.le_of_ble_eq_true rfl
              refine g_if_eq (pc := 37) C 68 dX5_reachedBy_37 (by decide) (fun c37 => ?_) (fun c37 => ?_)
              · exact absurd c37 (by rw [h2]; decide)
              · refine g_iload (pc := 40) C dX5_reachedBy_40 rfl ?_
                refine g_aload_n (pc := 42) C dX5_reachedBy_42 rfl ?_
                refine g_aload_n (pc := 43) C dX5_reachedBy_43 rfl ?_
                refine g_iload (pc := 44) C dX5_reachedBy_44 rfl ?_
                refine g_aload_n (pc := 46) C dX5_reachedBy_46 rfl ?_
                apply gf_X5_9 (pc := 47) C rfl dX5_reachedBy_47
                · repeat (first | assumption | exact Cl.s (by assumption) | refine Cl.n (by first | decide | omega) ?_)
                · rfl
                refine g_iload_n (pc := 50) C dX5_reachedBy_50 rfl ?_
                refine g_bipush (pc := 51) (v := nI 6) C dX5_reachedBy_51 (by decide) ?_
                refine g_imul (pc := 53) C dX5_reachedBy_53 ?_
                refine g_aload_n (pc := 54) C dX5_reachedBy_54 rfl ?_
                refine g_iload (pc := 55) C dX5_reachedBy_55 rfl ?_
                apply cl_X5_40 (pc := 57) C rfl (t_barBehind hT (by omega)) dX5_reachedBy_57
                · repeat (first | assumption | exact Cl.s (by assumption) | refine Cl.n (by first | decide | omega) ?_)
                · rfl
                · exact Nat.le_of_ble_eq_true rfl
                refine g_iadd (pc := 60) C dX5_reachedBy_60 ?_
                rw [pk_mul, nI_add]
                apply g_iaload (pc := 61) C dX5_reachedBy_61
                · repeat (first | assumption | exact Cl.s (by assumption) | refine Cl.n (by first | decide | omega) ?_)
                · exact vp_in_nI (by omega) (by decide)
                rw [nI_clamp (by omega)]
                apply cl_X5_43 (pc := 62) C rfl z1 dX5_reachedBy_62
                · repeat (first | assumption | exact Cl.s (by assumption) | refine Cl.n (by first | decide | omega) ?_)
                · rfl
                · exact Nat.le_of_ble_eq_true rfl
                refine g_ior (pc := 65) C dX5_reachedBy_65 ?_
                refine g_istore (pc := 66) C dX5_reachedBy_66 (by decide) rfl ?_
                refine g_iinc (pc := 68) C dX5_reachedBy_68 rfl (by decide) rfl ?_
                refine g_goto (pc := 71) C 6 dX5_reachedBy_71 (by decide) ?_
                exact g_to (g1 κ C) ⟨rfl, rfl, rfl, rfl, rfl, lgi (nI_1 w), trivial⟩
      · obtain ⟨Y, g1, g2⟩ := ih (w + 1) X (by omega) (fun u hu => by rw [hX u hu]; show _ = (_ || _); simp [h1])
        refine ⟨Y, fun κ C => ?_, g2⟩
        refine g_iload (pc := 6) C dX5_reachedBy_6 rfl ?_
        refine g_aload_n (pc := 8) C dX5_reachedBy_8 rfl ?_
        apply cl_X5_29 (pc := 9) C rfl (t_sees hT) dX5_reachedBy_9
        · repeat (first | assumption | exact Cl.s (by assumption) | refine Cl.n (by first | decide | omega) ?_)
        · rfl
        · exact Nat.le_of_ble_eq_true rfl
        refine g_icmp_gt (pc := 12) C 74 dX5_reachedBy_12 (by decide) (fun c12 => ?_) (fun c12 => ?_)
        · exact absurd c12 (nI_nlt (by omega) (by omega))
        · refine g_iload (pc := 15) C dX5_reachedBy_15 rfl ?_
          refine g_aload_n (pc := 17) C dX5_reachedBy_17 rfl ?_
          apply cl_X5_29 (pc := 18) C rfl (t_sees hT) dX5_reachedBy_18
          · repeat (first | assumption | exact Cl.s (by assumption) | refine Cl.n (by first | decide | omega) ?_)
          · rfl
          · exact Nat.le_of_ble_eq_true rfl
          refine g_iconst (pc := 21) (v := -1) C dX5_reachedBy_21 (by decide) ?_
          refine g_ixor (pc := 22) C dX5_reachedBy_22 ?_
          refine g_iand (pc := 23) C dX5_reachedBy_23 ?_
          refine g_if_nE (pc := 24) C 68 dX5_reachedBy_24 (by decide) (fun c24 => ?_) (fun c24 => ?_)
          · refine g_iinc (pc := 68) C dX5_reachedBy_68 rfl (by decide) rfl ?_
            refine g_goto (pc := 71) C 6 dX5_reachedBy_71 (by decide) ?_
            exact g_to (g1 κ C) ⟨rfl, rfl, rfl, rfl, rfl, lgi (nI_1 w), trivial⟩
          · exact absurd ((sub_I w (by omega) _ hs).mp c24) h1
  obtain ⟨Y, g1, g2⟩ := loop (seen T + 1) 0 (nI 0) (by omega) RB_0
  refine ⟨Y, ?_, g2⟩
  refine Mt.of (by decide +kernel) (Nat.le_of_ble_eq_true rfl) (fun κ C => ?_)
  refine g_iconst (pc := 0) (v := nI 0) C dX5_reachedBy_0 (by decide) ?_
  refine g_istore (pc := 1) C dX5_reachedBy_1 (by decide) rfl ?_
  refine g_iconst (pc := 3) (v := nI 0) C dX5_reachedBy_3 (by decide) ?_
  refine g_istore (pc := 4) C dX5_reachedBy_4 (by decide) rfl ?_
  exact g_to (g1 κ C) ⟨rfl, rfl, rfl, rfl, rfl, rfl, trivial⟩
theorem t_fewestS {f : Nat → Int32} (hT : RT G σ T) (h7 : Cl G σ 7 (cStr G)) (h19 : Cl G σ 19 (iA G 84 f)) {u : Nat} (hu : u < 32) : ∃ f', Mt G mX5_fewest [.ref (ga G 7), .ref (ga G 9), .int (nI u)] σ (some (.int (fwS T u 13 0))) (va_up σ 19 (iA G 84 f')) ∧ ∀ n, fwS T u 13 0 = nI n → n ≤ 12 → RAr T f' (n + 1) := by
  have hW := hT.w
  have hbs := brs_le hW
  have h1b : 0 < brs T := by unfold brs; split <;> omega
  have bars : ∀ n, n ≤ 12 → ∀ (P : (Nat → Int32) → Prop), (∀ f, RAr T f (n + 1) → ∃ f', (∀ κ, Cx G mX5_fewest κ → Go G mX5_fewest κ (some (.int (fwS T u (13 - n) n))) (va_up σ 19 (iA G 84 f')) (va_up σ 19 (iA G 84 f)) 69 [(0, .ref (ga G 7)), (1, .ref (ga G 9)), (2, .int (nI u)), (3, .int (nI n))] []) ∧ P f') → ∀ e b f, b + e = brs T → RAr T f n → (∀ b', b' < b → RB (f ((n + 1) * 6 + b')) (rc T (n + 1) b')) → ∃ f', (∀ κ, Cx G mX5_fewest κ → Go G mX5_fewest κ (some (.int (fwS T u (13 - n) n))) (va_up σ 19 (iA G 84 f')) (va_up σ 19 (iA G 84 f)) 32 [(0, .ref (ga G 7)), (1, .ref (ga G 9)), (2, .int (nI u)), (3, .int (nI n)), (4, .int (nI b))] []) ∧ P f' := by
    intro n hn P K e
    induction e with
    | zero =>
      intro b f hb hf hf2
      have hT1 := hT.up (i := 19) (e := iA G 84 f) (by decide) (by decide) (by decide) (by decide)
      obtain ⟨bo, hc0, h9⟩ := hT1.c
      obtain ⟨f', g1, g2⟩ := K f (fun k' hk' bar hbar => by
        by_cases q : k' = n + 1
        · subst q; exact hf2 bar (by omega)
        · exact hf k' (by omega) bar hbar)
      refine ⟨f', fun κ C => ?_, g2⟩
      refine g_iload (pc := 32) C dX5_fewest_32 rfl ?_
      refine g_aload_n (pc := 34) C dX5_fewest_34 rfl ?_
      apply cl_X5_15 (pc := 35) C rfl (t_bars hT1) dX5_fewest_35
      · repeat (first | assumption | exact Cl.s (by assumption) | refine Cl.n (by first | decide | omega) ?_)
      · rfl
      · exact Nat.le_of_ble_eq_true rfl
      refine g_icmp_ge (pc := 38) C 69 dX5_fewest_38 (by decide) (fun c38 => ?_) (fun c38 => ?_)
      · exact g_to (g1 κ C) ⟨rfl, rfl, rfl, rfl, trivial⟩
      · exact absurd (nI_le (by omega) (by omega)) c38
    | succ e ih =>
      intro b f hb hf hf2
      have hT1 := hT.up (i := 19) (e := iA G 84 f) (by decide) (by decide) (by decide) (by decide)
      obtain ⟨bo, hc0, h9⟩ := hT1.c
      have z7 : Cl G (va_up σ 19 (iA G 84 f)) 7 (cStr G) := Cl.n (by decide) h7
      have z19 : Cl G (va_up σ 19 (iA G 84 f)) 19 (iA G 84 f) := Cl.s h19
      obtain ⟨Y, y1, y2⟩ := t_reachedBy hT1 z7 z19 (k := n) (bar := b) (by omega) (by omega) (fun b' hb' => hf n (Nat.le_refl _) b' hb')
      obtain ⟨f', g1, g2⟩ := ih (b + 1) (upd f ((n + 1) * 6 + b) Y) (by omega) (fun k' hk' bar hbar => by
        rw [pk_un (by omega)]; exact hf k' hk' bar hbar) (fun b' hb' => by
        by_cases q : b' = b
        · rw [q, pk_us]; exact y2
        · rw [pk_un (by omega)]; exact hf2 b' (by omega))
      refine ⟨f', fun κ C => ?_, g2⟩
      refine g_iload (pc := 32) C dX5_fewest_32 rfl ?_
      refine g_aload_n (pc := 34) C dX5_fewest_34 rfl ?_
      apply cl_X5_15 (pc := 35) C rfl (t_bars hT1) dX5_fewest_35
      · repeat (first | assumption | exact Cl.s (by assumption) | refine Cl.n (by first | decide | omega) ?_)
      · rfl
      · exact Nat.le_of_ble_eq_true rfl
      refine g_icmp_ge (pc := 38) C 69 dX5_fewest_38 (by decide) (fun c38 => ?_) (fun c38 => ?_)
      · exact absurd c38 (nI_ge (by omega) (by omega))
      · refine g_aload_n (pc := 41) C dX5_fewest_41 rfl ?_
        apply gf_X5_9 (pc := 42) C rfl dX5_fewest_42
        · repeat (first | assumption | exact Cl.s (by assumption) | refine Cl.n (by first | decide | omega) ?_)
        · rfl
        refine g_iload_n (pc := 45) C dX5_fewest_45 rfl ?_
        refine g_iconst (pc := 46) (v := nI 1) C dX5_fewest_46 (by decide) ?_
        refine g_iadd (pc := 47) C dX5_fewest_47 ?_
        refine g_bipush (pc := 48) (v := nI 6) C dX5_fewest_48 (by decide) ?_
        refine g_imul (pc := 50) C dX5_fewest_50 ?_
        refine g_iload (pc := 51) C dX5_fewest_51 rfl ?_
        refine g_iadd (pc := 53) C dX5_fewest_53 ?_
        rw [nI_add, pk_mul, nI_add]
        refine g_aload_n (pc := 54) C dX5_fewest_54 rfl ?_
        refine g_aload_n (pc := 55) C dX5_fewest_55 rfl ?_
        refine g_iload_n (pc := 56) C dX5_fewest_56 rfl ?_
        refine g_iload (pc := 57) C dX5_fewest_57 rfl ?_
        apply cl_X5_21 (pc := 59) C rfl y1 dX5_fewest_59
        · repeat (first | assumption | exact Cl.s (by assumption) | refine Cl.n (by first | decide | omega) ?_)
        · rfl
        · exact Nat.le_of_ble_eq_true rfl
        apply g_iastore (pc := 62) C dX5_fewest_62
        · repeat (first | assumption | exact Cl.s (by assumption) | refine Cl.n (by first | decide | omega) ?_)
        · exact vp_in_nI (by omega) (by decide)
        intro hw62
        refine g_iinc (pc := 63) C dX5_fewest_63 rfl (by decide) rfl ?_
        refine g_goto (pc := 66) C 32 dX5_fewest_66 (by decide) ?_
        rw [nI_clamp (by omega), bx_uu]
        exact g_to (g1 κ C) ⟨rfl, rfl, rfl, rfl, lgi (nI_1 b), trivial⟩
  have outer : ∀ e n f, n + e = 13 → RAr T f n → ∃ f', (∀ κ, Cx G mX5_fewest κ → Go G mX5_fewest κ (some (.int (fwS T u e n))) (va_up σ 19 (iA G 84 f')) (va_up σ 19 (iA G 84 f)) 23 [(0, .ref (ga G 7)), (1, .ref (ga G 9)), (2, .int (nI u)), (3, .int (nI n))] []) ∧ (∀ k, fwS T u e n = nI k → k ≤ 12 → RAr T f' (k + 1)) := by
    intro e
    induction e with
    | zero =>
      intro n f hn hf
      refine ⟨f, fun κ C => ?_, fun k hk hk12 => ?_⟩
      · refine g_iload_n (pc := 23) C dX5_fewest_23 rfl ?_
        refine g_bipush (pc := 24) (v := nI 12) C dX5_fewest_24 (by decide) ?_
        refine g_icmp_gt (pc := 26) C 89 dX5_fewest_26 (by decide) (fun c26 => ?_) (fun c26 => ?_)
        · refine g_bipush (pc := 89) (v := -4) C dX5_fewest_89 (by decide) ?_
          exact g_ireturn (pc := 91) C dX5_fewest_91 rfl (rfl) (rfl)
        · exact absurd (nI_lt (by omega) (by omega)) c26
      · have hk : (-4 : Int32) = nI k := hk
        have := congrArg Int32.toInt hk
        rw [nI_toInt (by omega), show (-4 : Int32).toInt = -4 by decide] at this
        omega
    | succ e ih =>
      intro n f hn hf
      have e13 : 13 - n = e + 1 := by omega
      obtain ⟨f', g1, g2⟩ := bars n (by omega) (fun f' => ∀ k, fwS T u (e + 1) n = nI k → k ≤ 12 → RAr T f' (k + 1)) (fun f hf => by
        rw [e13]
        have hT1 := hT.up (i := 19) (e := iA G 84 f) (by decide) (by decide) (by decide) (by decide)
        have z7 : Cl G (va_up σ 19 (iA G 84 f)) 7 (cStr G) := Cl.n (by decide) h7
        have z19 : Cl G (va_up σ 19 (iA G 84 f)) 19 (iA G 84 f) := Cl.s h19
        cases hr : rc T (n + 1) 0 u
        · have e1 : fwS T u (e + 1) n = fwS T u e (n + 1) := by
            conv => lhs; unfold fwS
            rw [hr]; simp
          rw [e1]
          obtain ⟨f', g1, g2⟩ := ih (n + 1) f (by omega) hf
          refine ⟨f', fun κ C => ?_, g2⟩
          refine g_aload_n (pc := 69) C dX5_fewest_69 rfl ?_
          refine g_iload_n (pc := 70) C dX5_fewest_70 rfl ?_
          refine g_iconst (pc := 71) (v := nI 1) C dX5_fewest_71 (by decide) ?_
          refine g_iadd (pc := 72) C dX5_fewest_72 ?_
          rw [nI_add]
          refine g_iconst (pc := 73) (v := nI 0) C dX5_fewest_73 (by decide) ?_
          refine g_iload_n (pc := 74) C dX5_fewest_74 rfl ?_
          apply cl_X5_25 (pc := 75) C rfl (t_reaches z7 z19 (k := n + 1) (bar := 0) (by omega) (by decide) hu (hf (n + 1) (Nat.le_refl _) 0 h1b)) dX5_fewest_75
          · repeat (first | assumption | exact Cl.s (by assumption) | refine Cl.n (by first | decide | omega) ?_)
          · rfl
          · exact Nat.le_of_ble_eq_true rfl
          refine g_if_eq (pc := 78) C 83 dX5_fewest_78 (by decide) (fun c78 => ?_) (fun c78 => ?_)
          · refine g_iinc (pc := 83) C dX5_fewest_83 rfl (by decide) rfl ?_
            refine g_goto (pc := 86) C 23 dX5_fewest_86 (by decide) ?_
            exact g_to (g1 κ C) ⟨rfl, rfl, rfl, lgi (nI_1 n), trivial⟩
          · exact absurd (by rw [hr]; rfl) c78
        · have e1 : fwS T u (e + 1) n = nI n := by
            unfold fwS
            rw [if_pos hr]
          rw [e1]
          refine ⟨f, fun κ C => ?_, fun k hk hk12 => ?_⟩
          · refine g_aload_n (pc := 69) C dX5_fewest_69 rfl ?_
            refine g_iload_n (pc := 70) C dX5_fewest_70 rfl ?_
            refine g_iconst (pc := 71) (v := nI 1) C dX5_fewest_71 (by decide) ?_
            refine g_iadd (pc := 72) C dX5_fewest_72 ?_
            rw [nI_add]
            refine g_iconst (pc := 73) (v := nI 0) C dX5_fewest_73 (by decide) ?_
            refine g_iload_n (pc := 74) C dX5_fewest_74 rfl ?_
            apply cl_X5_25 (pc := 75) C rfl (t_reaches z7 z19 (k := n + 1) (bar := 0) (by omega) (by decide) hu (hf (n + 1) (Nat.le_refl _) 0 h1b)) dX5_fewest_75
            · repeat (first | assumption | exact Cl.s (by assumption) | refine Cl.n (by first | decide | omega) ?_)
            · rfl
            · exact Nat.le_of_ble_eq_true rfl
            refine g_if_eq (pc := 78) C 83 dX5_fewest_78 (by decide) (fun c78 => ?_) (fun c78 => ?_)
            · exact absurd c78 (by rw [hr]; decide)
            · refine g_iload_n (pc := 81) C dX5_fewest_81 rfl ?_
              exact g_ireturn (pc := 82) C dX5_fewest_82 rfl (rfl) (rfl)
          · rw [nI_eq (by omega) (by omega)] at hk
            rw [← hk]
            exact hf) (brs T) 0 f (by omega) hf (fun b' hb' => absurd hb' (Nat.not_lt_zero _))
      rw [e13] at g1
      refine ⟨f', fun κ C => ?_, g2⟩
      refine g_iload_n (pc := 23) C dX5_fewest_23 rfl ?_
      refine g_bipush (pc := 24) (v := nI 12) C dX5_fewest_24 (by decide) ?_
      refine g_icmp_gt (pc := 26) C 89 dX5_fewest_26 (by decide) (fun c26 => ?_) (fun c26 => ?_)
      · exact absurd c26 (nI_nlt (by omega) (by omega))
      · refine g_iconst (pc := 29) (v := nI 0) C dX5_fewest_29 (by decide) ?_
        refine g_istore (pc := 30) C dX5_fewest_30 (by decide) rfl ?_
        exact g_to (g1 κ C) ⟨rfl, rfl, rfl, rfl, rfl, trivial⟩
  have start : ∀ e b f, b + e = 6 → (∀ b', b' < b → f b' = nI 1) → ∃ f', (∀ κ, Cx G mX5_fewest κ → Go G mX5_fewest κ (some (.int (fwS T u 13 0))) (va_up σ 19 (iA G 84 f')) (va_up σ 19 (iA G 84 f)) 2 [(0, .ref (ga G 7)), (1, .ref (ga G 9)), (2, .int (nI u)), (3, .int (nI b))] []) ∧ (∀ k, fwS T u 13 0 = nI k → k ≤ 12 → RAr T f' (k + 1)) := by
    intro e
    induction e with
    | zero =>
      intro b f hb hf
      obtain ⟨f', g1, g2⟩ := outer 13 0 f (by omega) (fun k' hk' bar hbar => by
        rw [show k' = 0 by omega, Nat.zero_mul, Nat.zero_add, hf bar (by omega)]
        exact fun v hv => b_1 v hv)
      refine ⟨f', fun κ C => ?_, g2⟩
      refine g_iload_n (pc := 2) C dX5_fewest_2 rfl ?_
      refine g_bipush (pc := 3) (v := nI 6) C dX5_fewest_3 (by decide) ?_
      refine g_icmp_ge (pc := 5) C 21 dX5_fewest_5 (by decide) (fun c5 => ?_) (fun c5 => ?_)
      · refine g_iconst (pc := 21) (v := nI 0) C dX5_fewest_21 (by decide) ?_
        refine g_istore_n (pc := 22) C dX5_fewest_22 (by decide) rfl ?_
        exact g_to (g1 κ C) ⟨rfl, rfl, rfl, rfl, trivial⟩
      · exact absurd (nI_le (by omega) (by omega)) c5
    | succ e ih =>
      intro b f hb hf
      obtain ⟨f', g1, g2⟩ := ih (b + 1) (upd f b (nI 1)) (by omega) (fun b' hb' => by
        by_cases q : b' = b
        · rw [q, pk_us]
        · rw [pk_un q]; exact hf b' (by omega))
      have z7 : Cl G (va_up σ 19 (iA G 84 f)) 7 (cStr G) := Cl.n (by decide) h7
      have z19 : Cl G (va_up σ 19 (iA G 84 f)) 19 (iA G 84 f) := Cl.s h19
      refine ⟨f', fun κ C => ?_, g2⟩
      refine g_iload_n (pc := 2) C dX5_fewest_2 rfl ?_
      refine g_bipush (pc := 3) (v := nI 6) C dX5_fewest_3 (by decide) ?_
      refine g_icmp_ge (pc := 5) C 21 dX5_fewest_5 (by decide) (fun c5 => ?_) (fun c5 => ?_)
      · exact absurd c5 (nI_ge (by omega) (by decide))
      · refine g_aload_n (pc := 8) C dX5_fewest_8 rfl ?_
        apply gf_X5_9 (pc := 9) C rfl dX5_fewest_9
        · repeat (first | assumption | exact Cl.s (by assumption) | refine Cl.n (by first | decide | omega) ?_)
        · rfl
        refine g_iload_n (pc := 12) C dX5_fewest_12 rfl ?_
        refine g_iconst (pc := 13) (v := nI 1) C dX5_fewest_13 (by decide) ?_
        apply g_iastore (pc := 14) C dX5_fewest_14
        · repeat (first | assumption | exact Cl.s (by assumption) | refine Cl.n (by first | decide | omega) ?_)
        · exact vp_in_nI (by omega) (by decide)
        intro hw14
        refine g_iinc (pc := 15) C dX5_fewest_15 rfl (by decide) rfl ?_
        refine g_goto (pc := 18) C 2 dX5_fewest_18 (by decide) ?_
        rw [nI_clamp (by omega), bx_uu]
        exact g_to (g1 κ C) ⟨rfl, rfl, rfl, lgi (nI_1 b), trivial⟩
  obtain ⟨f', g1, g2⟩ := start 6 0 f (by omega) (fun b' hb' => absurd hb' (Nat.not_lt_zero _))
  refine ⟨f', ?_, g2⟩
  rw [va_self h19.2] at g1
  refine Mt.of (by decide +kernel) (Nat.le_of_ble_eq_true rfl) (fun κ C => ?_)
  refine g_iconst (pc := 0) (v := nI 0) C dX5_fewest_0 (by decide) ?_
  refine g_istore_n (pc := 1) C dX5_fewest_1 (by decide) rfl ?_
  exact g_to (g1 κ C) ⟨rfl, rfl, rfl, rfl, trivial⟩
end STEPS

