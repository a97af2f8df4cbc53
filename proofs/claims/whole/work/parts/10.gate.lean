/-! lines, the gate, the row -/
theorem UU_comm (T : TS) (i j : Nat) : UU T i j = UU T j i := bits_congr (fun t _ => by rw [bne_comm])
theorem UU_lt (T : TS) (i j : Nat) (h : tn T ≤ 5) : UU T i j < 32 := Nat.lt_of_lt_of_le (bits_lt _ _) (by exact Nat.pow_le_pow_right (n := 2) (by decide) h)
theorem and_lt32 {a b : Nat} (h : a < 32) : a &&& b < 32 := Nat.lt_of_le_of_lt Nat.and_le_left h
def lat (L : Nat) : Int32 := nI L - 1
theorem lat_0 : lat 0 = -1 := by decide
theorem lat_s (k : Nat) : lat (k + 1) = nI k := nI_pred k
theorem lat_ne {k : Nat} (h : k < 2 ^ 31) : ¬ lat (k + 1) = -1 := by
  rw [lat_s]
  intro e
  have := congrArg Int32.toInt e
  rw [nI_toInt h] at this
  have e2 : (-1 : Int32).toInt = -1 := by decide
  rw [e2] at this
  omega
abbrev cLine (L d : Nat) : va_E := .inr (2, [.int (lat L), .int (nI d)])
/-- in what one differs from the one who passed last, of what the guard sees -/
def uL (T : TS) (L i : Nat) : Nat := if L = 0 then 0 else UU T (L - 1) i &&& seen T
theorem uL_lt (T : TS) (L i : Nat) (h : tn T ≤ 5) : uL T L i < 32 := by
  unfold uL
  split
  · decide
  · exact and_lt32 (UU_lt T _ _ h)
def lLets (T : TS) (L d i : Nat) : Bool := L == 0 || ps (tl T) (uL T L i) d
section GATE
variable {G : GG} {σ : WW} {T : TS}
theorem t_lclear {q : Nat} {a b : Int32} (h : Cl G σ q (.inr (2, [.int a, .int b]))) : Mt G mX2_clear [.ref (ga G q)] σ none (va_up σ q (cLine 0 0)) := by
  refine Mt.of (by decide +kernel) (Nat.le_of_ble_eq_true rfl) (fun κ C => ?_)
  refine g_aload_n (pc := 0) C dX2_clear_0 rfl ?_
  refine g_iconst (pc := 1) (v := -1) C dX2_clear_1 (by decide) ?_
  apply pf_X2_9 (pc := 2) C rfl dX2_clear_2
  · repeat (first | assumption | exact Cl.s (by assumption) | refine Cl.n (by first | decide | omega) ?_)
  · rfl
  · rfl
  · exact Nat.le_of_ble_eq_true rfl
  intro hw2
  refine g_aload_n (pc := 5) C dX2_clear_5 rfl ?_
  refine g_iconst (pc := 6) (v := nI 0) C dX2_clear_6 (by decide) ?_
  apply pf_X2_15 (pc := 7) C rfl dX2_clear_7
  · repeat (first | assumption | exact Cl.s (by assumption) | refine Cl.n (by first | decide | omega) ?_)
  · rfl
  · rfl
  · exact Nat.le_of_ble_eq_true rfl
  intro hw7
  exact g_return (pc := 10) C dX2_clear_10 rfl rfl (by rw [bx_uu]; rfl)
theorem t_unlikeLatest (hT : RT G σ T) {q L d i : Nat} (h : Cl G σ q (cLine L d)) (hL : L ≤ tm T) (hi : i < tm T) : Mt G mX2_unlikeLatest [.ref (ga G q), .ref (ga G 9), .int (nI i)] σ (some (.int (nI (uL T L i)))) σ := by
  have hT' := hT
  obtain ⟨fv, fl, fh, h9, h21, h22, h23, hW, hv, hl, hh⟩ := hT
  have hm := hW.2.2.2.2.1
  refine Mt.of (by decide +kernel) (Nat.le_of_ble_eq_true rfl) (fun κ C => ?_)
  rcases L with _ | k
  · refine g_aload_n (pc := 0) C dX2_unlikeLatest_0 rfl ?_
    apply gf_X2_9 (pc := 1) C rfl dX2_unlikeLatest_1
    · repeat (first | assumption | exact Cl.s (by assumption) | refine Cl.n (by first | decide | omega) ?_)
    · rfl
    refine g_iconst (pc := 4) (v := -1) C dX2_unlikeLatest_4 (by decide) ?_
    refine g_icmp_nE (pc := 5) C 12 dX2_unlikeLatest_5 (by decide) (fun c5 => ?_) (fun c5 => ?_)
    · exact absurd lat_0 c5
    · refine g_iconst (pc := 8) (v := nI 0) C dX2_unlikeLatest_8 (by decide) ?_
      refine g_goto (pc := 9) C 21 dX2_unlikeLatest_9 (by decide) ?_
      exact g_ireturn (pc := 21) C dX2_unlikeLatest_21 rfl (rfl) (rfl)
  · rw [show cLine (k + 1) d = .inr (2, [.int (nI k), .int (nI d)]) by rw [cLine, lat_s]] at h
    refine g_aload_n (pc := 0) C dX2_unlikeLatest_0 rfl ?_
    apply gf_X2_9 (pc := 1) C rfl dX2_unlikeLatest_1
    · repeat (first | assumption | exact Cl.s (by assumption) | refine Cl.n (by first | decide | omega) ?_)
    · rfl
    refine g_iconst (pc := 4) (v := -1) C dX2_unlikeLatest_4 (by decide) ?_
    refine g_icmp_nE (pc := 5) C 12 dX2_unlikeLatest_5 (by decide) (fun c5 => ?_) (fun c5 => ?_)
    · refine g_aload_n (pc := 12) C dX2_unlikeLatest_12 rfl ?_
      refine g_aload_n (pc := 13) C dX2_unlikeLatest_13 rfl ?_
      apply gf_X2_9 (pc := 14) C rfl dX2_unlikeLatest_14
      · repeat (first | assumption | exact Cl.s (by assumption) | refine Cl.n (by first | decide | omega) ?_)
      · rfl
      refine g_iload_n (pc := 17) C dX2_unlikeLatest_17 rfl ?_
      apply cl_X2_18 (pc := 18) C rfl (t_seenUnlike hT' (i := k) (by omega) hi) dX2_unlikeLatest_18
      · repeat (first | assumption | exact Cl.s (by assumption) | refine Cl.n (by first | decide | omega) ?_)
      · rfl
      · exact Nat.le_of_ble_eq_true rfl
      exact g_ireturn (pc := 21) C dX2_unlikeLatest_21 rfl (by simp [uL]) (rfl)
    · exact absurd (by rw [lat_s]; exact c5) (lat_ne (k := k) (by omega))
theorem t_llets (hT : RT G σ T) {q L d i : Nat} (h : Cl G σ q (cLine L d)) (hL : L ≤ tm T) (hd : d < 32) (hi : i < tm T) : Mt G mX2_lets [.ref (ga G q), .ref (ga G 9), .int (nI i)] σ (some (.int (nI (b2 (lLets T L d i))))) σ := by
  have hT' := hT
  obtain ⟨fv, fl, fh, h9, h21, h22, h23, hW, hv, hl, hh⟩ := hT
  have hm := hW.2.2.2.2.1
  have hu := uL_lt T L i hW.1
  refine Mt.of (by decide +kernel) (Nat.le_of_ble_eq_true rfl) (fun κ C => ?_)
  rcases L with _ | k
  · refine g_aload_n (pc := 0) C dX2_lets_0 rfl ?_
    apply gf_X2_9 (pc := 1) C rfl dX2_lets_1
    · repeat (first | assumption | exact Cl.s (by assumption) | refine Cl.n (by first | decide | omega) ?_)
    · rfl
    refine g_iconst (pc := 4) (v := -1) C dX2_lets_4 (by decide) ?_
    refine g_icmp_eq (pc := 5) C 25 dX2_lets_5 (by decide) (fun c5 => ?_) (fun c5 => ?_)
    · refine g_iconst (pc := 25) (v := nI 1) C dX2_lets_25 (by decide) ?_
      refine g_goto (pc := 26) C 30 dX2_lets_26 (by decide) ?_
      exact g_zreturn (pc := 30) C dX2_lets_30 rfl (by first | exact Or.inl rfl | exact Or.inr rfl) (by simp [lLets, b2]) (rfl)
    · exact absurd lat_0 c5
  · cases hc : ps (tl T) (uL T (k + 1) i) d
    · refine g_aload_n (pc := 0) C dX2_lets_0 rfl ?_
      apply gf_X2_9 (pc := 1) C rfl dX2_lets_1
      · repeat (first | assumption | exact Cl.s (by assumption) | refine Cl.n (by first | decide | omega) ?_)
      · rfl
      refine g_iconst (pc := 4) (v := -1) C dX2_lets_4 (by decide) ?_
      refine g_icmp_eq (pc := 5) C 25 dX2_lets_5 (by decide) (fun c5 => ?_) (fun c5 => ?_)
      · exact absurd c5 (lat_ne (by omega))
      · refine g_aload_n (pc := 8) C dX2_lets_8 rfl ?_
        refine g_aload_n (pc := 9) C dX2_lets_9 rfl ?_
        refine g_aload_n (pc := 10) C dX2_lets_10 rfl ?_
        refine g_iload_n (pc := 11) C dX2_lets_11 rfl ?_
        apply cl_X2_24 (pc := 12) C rfl (t_unlikeLatest hT' h hL hi) dX2_lets_12
        · repeat (first | assumption | exact Cl.s (by assumption) | refine Cl.n (by first | decide | omega) ?_)
        · rfl
        · exact Nat.le_of_ble_eq_true rfl
        refine g_aload_n (pc := 15) C dX2_lets_15 rfl ?_
        apply gf_X2_15 (pc := 16) C rfl dX2_lets_16
        · repeat (first | assumption | exact Cl.s (by assumption) | refine Cl.n (by first | decide | omega) ?_)
        · rfl
        apply cl_X2_28 (pc := 19) C rfl (t_lets hT' (by omega) (by omega)) dX2_lets_19
        · repeat (first | assumption | exact Cl.s (by assumption) | refine Cl.n (by first | decide | omega) ?_)
        · rfl
        · exact Nat.le_of_ble_eq_true rfl
        refine g_if_eq (pc := 22) C 29 dX2_lets_22 (by decide) (fun c22 => ?_) (fun c22 => ?_)
        · refine g_iconst (pc := 29) (v := nI 0) C dX2_lets_29 (by decide) ?_
          exact g_zreturn (pc := 30) C dX2_lets_30 rfl (by first | exact Or.inl rfl | exact Or.inr rfl) (by simp [lLets, hc, b2]) (rfl)
        · exact absurd (by rw [hc]; rfl) c22
    · refine g_aload_n (pc := 0) C dX2_lets_0 rfl ?_
      apply gf_X2_9 (pc := 1) C rfl dX2_lets_1
      · repeat (first | assumption | exact Cl.s (by assumption) | refine Cl.n (by first | decide | omega) ?_)
      · rfl
      refine g_iconst (pc := 4) (v := -1) C dX2_lets_4 (by decide) ?_
      refine g_icmp_eq (pc := 5) C 25 dX2_lets_5 (by decide) (fun c5 => ?_) (fun c5 => ?_)
      · exact absurd c5 (lat_ne (by omega))
      · refine g_aload_n (pc := 8) C dX2_lets_8 rfl ?_
        refine g_aload_n (pc := 9) C dX2_lets_9 rfl ?_
        refine g_aload_n (pc := 10) C dX2_lets_10 rfl ?_
        refine g_iload_n (pc := 11) C dX2_lets_11 rfl ?_
        apply cl_X2_24 (pc := 12) C rfl (t_unlikeLatest hT' h hL hi) dX2_lets_12
        · repeat (first | assumption | exact Cl.s (by assumption) | refine Cl.n (by first | decide | omega) ?_)
        · rfl
        · exact Nat.le_of_ble_eq_true rfl
        refine g_aload_n (pc := 15) C dX2_lets_15 rfl ?_
        apply gf_X2_15 (pc := 16) C rfl dX2_lets_16
        · repeat (first | assumption | exact Cl.s (by assumption) | refine Cl.n (by first | decide | omega) ?_)
        · rfl
        apply cl_X2_28 (pc := 19) C rfl (t_lets hT' (by omega) (by omega)) dX2_lets_19
        · repeat (first | assumption | exact Cl.s (by assumption) | refine Cl.n (by first | decide | omega) ?_)
        · rfl
        · exact Nat.le_of_ble_eq_true rfl
        refine g_if_eq (pc := 22) C 29 dX2_lets_22 (by decide) (fun c22 => ?_) (fun c22 => ?_)
        · exact absurd (by rw [hc] at c22; exact c22) (by decide)
        · refine g_iconst (pc := 25) (v := nI 1) C dX2_lets_25 (by decide) ?_
          refine g_goto (pc := 26) C 30 dX2_lets_26 (by decide) ?_
          exact g_zreturn (pc := 30) C dX2_lets_30 rfl (by first | exact Or.inl rfl | exact Or.inr rfl) (by simp [lLets, hc, b2]) (rfl)
theorem t_take (hT : RT G σ T) {q L d i : Nat} (h : Cl G σ q (cLine L d)) (hL : L ≤ tm T) (hi : i < tm T) : Mt G mX2_take [.ref (ga G q), .ref (ga G 9), .int (nI i)] σ none (va_up σ q (cLine (i + 1) (uL T L i))) := by
  have hT' := hT
  obtain ⟨fv, fl, fh, h9, h21, h22, h23, hW, hv, hl, hh⟩ := hT
  refine Mt.of (by decide +kernel) (Nat.le_of_ble_eq_true rfl) (fun κ C => ?_)
  refine g_aload_n (pc := 0) C dX2_take_0 rfl ?_
  refine g_aload_n (pc := 1) C dX2_take_1 rfl ?_
  refine g_aload_n (pc := 2) C dX2_take_2 rfl ?_
  refine g_iload_n (pc := 3) C dX2_take_3 rfl ?_
  apply cl_X2_24 (pc := 4) C rfl (t_unlikeLatest hT' h hL hi) dX2_take_4
  · repeat (first | assumption | exact Cl.s (by assumption) | refine Cl.n (by first | decide | omega) ?_)
  · rfl
  · exact Nat.le_of_ble_eq_true rfl
  apply pf_X2_15 (pc := 7) C rfl dX2_take_7
  · repeat (first | assumption | exact Cl.s (by assumption) | refine Cl.n (by first | decide | omega) ?_)
  · rfl
  · rfl
  · exact Nat.le_of_ble_eq_true rfl
  intro hw7
  refine g_aload_n (pc := 10) C dX2_take_10 rfl ?_
  refine g_iload_n (pc := 11) C dX2_take_11 rfl ?_
  apply pf_X2_9 (pc := 12) C rfl dX2_take_12
  · repeat (first | assumption | exact Cl.s (by assumption) | refine Cl.n (by first | decide | omega) ?_)
  · rfl
  · rfl
  · exact Nat.le_of_ble_eq_true rfl
  intro hw12
  exact g_return (pc := 15) C dX2_take_15 rfl rfl (by rw [bx_uu]; simp only [cLine, lat_s]; rfl)
/-! the gate: who is in, who passed last (and 1; 0 nobody), in what he differed -/
abbrev GS : Type := Nat × Nat × Nat
def ok3 (m : Nat) (g : GS) : Prop := g.1 < 512 ∧ g.2.1 ≤ m ∧ g.2.2 < 32
def pk3 (g : GS) : Nat := ((g.1 <<< 10) ||| (g.2.1 <<< 5)) ||| g.2.2
abbrev cGate (G : GG) (ins und kept : Nat) : va_E := .inr (0, [.ref (ga G 12), .ref (ga G 13), .ref (ga G 14), .int (nI ins), .int (nI und), .int (nI kept)])
theorem t_gclear {a b c x y : Int32} (h2 : Cl G σ 2 (.inr (0, [.ref (ga G 12), .ref (ga G 13), .ref (ga G 14), .int a, .int b, .int c]))) (h12 : Cl G σ 12 (.inr (2, [.int x, .int y]))) : Mt G mX0_clear [.ref (ga G 2)] σ none (va_up (va_up σ 12 (cLine 0 0)) 2 (cGate G 0 0 0)) := by
  refine Mt.of (by decide +kernel) (Nat.le_of_ble_eq_true rfl) (fun κ C => ?_)
  refine g_aload_n (pc := 0) C dX0_clear_0 rfl ?_
  apply gf_X0_12 (pc := 1) C rfl dX0_clear_1
  · repeat (first | assumption | exact Cl.s (by assumption) | refine Cl.n (by first | decide | omega) ?_)
  · rfl
  apply cl_X0_25 (pc := 4) C rfl (t_lclear h12) dX0_clear_4
  · repeat (first | assumption | exact Cl.s (by assumption) | refine Cl.n (by first | decide | omega) ?_)
  · rfl
  · exact Nat.le_of_ble_eq_true rfl
  refine g_aload_n (pc := 7) C dX0_clear_7 rfl ?_
  refine g_iconst (pc := 8) (v := nI 0) C dX0_clear_8 (by decide) ?_
  apply pf_X0_28 (pc := 9) C rfl dX0_clear_9
  · repeat (first | assumption | exact Cl.s (by assumption) | refine Cl.n (by first | decide | omega) ?_)
  · rfl
  · rfl
  · exact Nat.le_of_ble_eq_true rfl
  intro hw9
  refine g_aload_n (pc := 12) C dX0_clear_12 rfl ?_
  refine g_iconst (pc := 13) (v := nI 0) C dX0_clear_13 (by decide) ?_
  apply pf_X0_32 (pc := 14) C rfl dX0_clear_14
  · repeat (first | assumption | exact Cl.s (by assumption) | refine Cl.n (by first | decide | omega) ?_)
  · rfl
  · rfl
  · exact Nat.le_of_ble_eq_true rfl
  intro hw14
  refine g_aload_n (pc := 17) C dX0_clear_17 rfl ?_
  refine g_iconst (pc := 18) (v := nI 0) C dX0_clear_18 (by decide) ?_
  apply pf_X0_35 (pc := 19) C rfl dX0_clear_19
  · repeat (first | assumption | exact Cl.s (by assumption) | refine Cl.n (by first | decide | omega) ?_)
  · rfl
  · rfl
  · exact Nat.le_of_ble_eq_true rfl
  intro hw19
  exact g_return (pc := 22) C dX0_clear_22 rfl rfl (by rw [bx_uu, bx_uu]; rfl)
theorem t_holds {ins und kept k : Nat} (h2 : Cl G σ 2 (cGate G ins und kept)) (hi : ins < 512) (hk : k < 9) : Mt G mX0_holds [.ref (ga G 2), .int (nI k)] σ (some (.int (nI (b2 (ins.testBit k))))) σ := by
  have e : (ins >>> k) &&& 1 = b2 (ins.testBit k) := by
    unfold Nat.testBit b2
    rw [Nat.and_comm 1, Nat.and_one_is_mod]
    rcases Nat.mod_two_eq_zero_or_one (ins >>> k) with h | h <;> simp [h]
  refine Mt.of (by decide +kernel) (Nat.le_of_ble_eq_true rfl) (fun κ C => ?_)
  cases hc : ins.testBit k
  · refine g_aload_n (pc := 0) C dX0_holds_0 rfl ?_
    apply gf_X0_28 (pc := 1) C rfl dX0_holds_1
    · repeat (first | assumption | exact Cl.s (by assumption) | refine Cl.n (by first | decide | omega) ?_)
    · rfl
    refine g_iload_n (pc := 4) C dX0_holds_4 rfl ?_
    refine g_iushr (pc := 5) C dX0_holds_5 ?_
    refine g_iconst (pc := 6) (v := nI 1) C dX0_holds_6 (by decide) ?_
    refine g_iand (pc := 7) C dX0_holds_7 ?_
    refine g_iconst (pc := 8) (v := nI 1) C dX0_holds_8 (by decide) ?_
    refine g_icmp_nE (pc := 9) C 16 dX0_holds_9 (by decide) (fun c9 => ?_) (fun c9 => ?_)
    · refine g_iconst (pc := 16) (v := nI 0) C dX0_holds_16 (by decide) ?_
      exact g_zreturn (pc := 17) C dX0_holds_17 rfl (by first | exact Or.inl rfl | exact Or.inr rfl) (rfl) (rfl)
    · exact absurd (by rw [nx_ush (by omega) (by omega), nx_and, e, hc] at c9; exact c9) (by decide)
  · refine g_aload_n (pc := 0) C dX0_holds_0 rfl ?_
    apply gf_X0_28 (pc := 1) C rfl dX0_holds_1
    · repeat (first | assumption | exact Cl.s (by assumption) | refine Cl.n (by first | decide | omega) ?_)
    · rfl
    refine g_iload_n (pc := 4) C dX0_holds_4 rfl ?_
    refine g_iushr (pc := 5) C dX0_holds_5 ?_
    refine g_iconst (pc := 6) (v := nI 1) C dX0_holds_6 (by decide) ?_
    refine g_iand (pc := 7) C dX0_holds_7 ?_
    refine g_iconst (pc := 8) (v := nI 1) C dX0_holds_8 (by decide) ?_
    refine g_icmp_nE (pc := 9) C 16 dX0_holds_9 (by decide) (fun c9 => ?_) (fun c9 => ?_)
    · exact absurd (by rw [nx_ush (by omega) (by omega), nx_and, e, hc]; rfl) c9
    · refine g_iconst (pc := 12) (v := nI 1) C dX0_holds_12 (by decide) ?_
      refine g_goto (pc := 13) C 17 dX0_holds_13 (by decide) ?_
      exact g_zreturn (pc := 17) C dX0_holds_17 rfl (by first | exact Or.inl rfl | exact Or.inr rfl) (rfl) (rfl)
theorem t_howManyIn {ins und kept : Nat} (h2 : Cl G σ 2 (cGate G ins und kept)) (hi : ins < 512) : Mt G mX0_howManyIn [.ref (ga G 2)] σ (some (.int (nI (many ins)))) σ := by
  refine Mt.of (by decide +kernel) (Nat.le_of_ble_eq_true rfl) (fun κ C => ?_)
  refine g_aload_n (pc := 0) C dX0_howManyIn_0 rfl ?_
  apply gf_X0_28 (pc := 1) C rfl dX0_howManyIn_1
  · repeat (first | assumption | exact Cl.s (by assumption) | refine Cl.n (by first | decide | omega) ?_)
  · rfl
  refine cl_X0_38 (pc := 4) C rfl (t_bitCount (by omega)) dX0_howManyIn_4 rfl (Nat.le_of_ble_eq_true rfl) ?_
  exact g_ireturn (pc := 7) C dX0_howManyIn_7 rfl (rfl) (rfl)
theorem pk3_1 : ∀ b, b < 32 → ∀ c, c < 32 → ((b <<< 5) ||| c) = b * 32 + c := by decide +kernel
theorem pk3_eq {g : GS} (hL : g.2.1 < 32) (hd : g.2.2 < 32) : pk3 g = g.1 * 1024 + g.2.1 * 32 + g.2.2 := by
  unfold pk3
  rw [Nat.or_assoc, pk3_1 _ hL _ hd, ← Nat.shiftLeft_add_eq_or_of_lt (i := 10) (by omega), Nat.shiftLeft_eq]
  omega
theorem t_packed {ins und kept L d : Nat} (h2 : Cl G σ 2 (cGate G ins und kept)) (h12 : Cl G σ 12 (cLine L d)) : Mt G mX0_packed [.ref (ga G 2)] σ (some (.int (nI (pk3 (ins, L, d))))) σ := by
  refine Mt.of (by decide +kernel) (Nat.le_of_ble_eq_true rfl) (fun κ C => ?_)
  refine g_aload_n (pc := 0) C dX0_packed_0 rfl ?_
  apply gf_X0_28 (pc := 1) C rfl dX0_packed_1
  · repeat (first | assumption | exact Cl.s (by assumption) | refine Cl.n (by first | decide | omega) ?_)
  · rfl
  refine g_bipush (pc := 4) (v := nI 10) C dX0_packed_4 (by decide) ?_
  refine g_ishl (pc := 6) C dX0_packed_6 ?_
  refine g_aload_n (pc := 7) C dX0_packed_7 rfl ?_
  apply gf_X0_12 (pc := 8) C rfl dX0_packed_8
  · repeat (first | assumption | exact Cl.s (by assumption) | refine Cl.n (by first | decide | omega) ?_)
  · rfl
  apply gf_X0_65 (pc := 11) C rfl dX0_packed_11
  · repeat (first | assumption | exact Cl.s (by assumption) | refine Cl.n (by first | decide | omega) ?_)
  · rfl
  refine g_iconst (pc := 14) (v := nI 1) C dX0_packed_14 (by decide) ?_
  refine g_iadd (pc := 15) C dX0_packed_15 ?_
  refine g_iconst (pc := 16) (v := nI 5) C dX0_packed_16 (by decide) ?_
  refine g_ishl (pc := 17) C dX0_packed_17 ?_
  refine g_ior (pc := 18) C dX0_packed_18 ?_
  refine g_aload_n (pc := 19) C dX0_packed_19 rfl ?_
  apply gf_X0_12 (pc := 20) C rfl dX0_packed_20
  · repeat (first | assumption | exact Cl.s (by assumption) | refine Cl.n (by first | decide | omega) ?_)
  · rfl
  apply gf_X0_68 (pc := 23) C rfl dX0_packed_23
  · repeat (first | assumption | exact Cl.s (by assumption) | refine Cl.n (by first | decide | omega) ?_)
  · rfl
  refine g_ior (pc := 26) C dX0_packed_26 ?_
  exact g_ireturn (pc := 27) C dX0_packed_27 rfl (by rw [show lat L + nI 1 = nI L by rw [lat, nx_1]; simp, nx_shl _ (by decide), nx_shl _ (by decide), nx_or, nx_or]; rfl) (rfl)
theorem t_unpack {ins und kept : Nat} {a b : Int32} {g : GS} (h2 : Cl G σ 2 (cGate G ins und kept)) (h12 : Cl G σ 12 (.inr (2, [.int a, .int b]))) (hg : ok3 9 g) : Mt G mX0_unpack [.ref (ga G 2), .int (nI (pk3 g))] σ none (va_up (va_up σ 2 (cGate G g.1 und kept)) 12 (cLine g.2.1 g.2.2)) := by
  obtain ⟨g1, g2, g3⟩ := hg
  have e := pk3_eq (g := g) (by omega) g3
  have e1 : pk3 g >>> 10 = g.1 := by rw [e, Nat.shiftRight_eq_div_pow]; omega
  have e2 : pk3 g >>> 5 &&& 31 = g.2.1 := by
    rw [e, Nat.shiftRight_eq_div_pow, show (31 : Nat) = 2 ^ 5 - 1 from rfl, Nat.and_two_pow_sub_one_eq_mod]
    omega
  have e3 : pk3 g &&& 31 = g.2.2 := by
    rw [e, show (31 : Nat) = 2 ^ 5 - 1 from rfl, Nat.and_two_pow_sub_one_eq_mod]
    omega
  have hp : pk3 g < 2 ^ 31 := by omega
  refine Mt.of (by decide +kernel) (Nat.le_of_ble_eq_true rfl) (fun κ C => ?_)
  refine g_aload_n (pc := 0) C dX0_unpack_0 rfl ?_
  refine g_iload_n (pc := 1) C dX0_unpack_1 rfl ?_
  refine g_bipush (pc := 2) (v := nI 10) C dX0_unpack_2 (by decide) ?_
  refine g_iushr (pc := 4) C dX0_unpack_4 ?_
  apply pf_X0_28 (pc := 5) C rfl dX0_unpack_5
  · repeat (first | assumption | exact Cl.s (by assumption) | refine Cl.n (by first | decide | omega) ?_)
  · rfl
  · rfl
  · exact Nat.le_of_ble_eq_true rfl
  intro hw5
  refine g_aload_n (pc := 8) C dX0_unpack_8 rfl ?_
  apply gf_X0_12 (pc := 9) C rfl dX0_unpack_9
  · repeat (first | assumption | exact Cl.s (by assumption) | refine Cl.n (by first | decide | omega) ?_)
  · rfl
  refine g_iload_n (pc := 12) C dX0_unpack_12 rfl ?_
  refine g_iconst (pc := 13) (v := nI 5) C dX0_unpack_13 (by decide) ?_
  refine g_iushr (pc := 14) C dX0_unpack_14 ?_
  refine g_bipush (pc := 15) (v := nI 31) C dX0_unpack_15 (by decide) ?_
  refine g_iand (pc := 17) C dX0_unpack_17 ?_
  refine g_iconst (pc := 18) (v := nI 1) C dX0_unpack_18 (by decide) ?_
  refine g_isub (pc := 19) C dX0_unpack_19 ?_
  apply pf_X0_65 (pc := 20) C rfl dX0_unpack_20
  · repeat (first | assumption | exact Cl.s (by assumption) | refine Cl.n (by first | decide | omega) ?_)
  · rfl
  · rfl
  · exact Nat.le_of_ble_eq_true rfl
  intro hw20
  refine g_aload_n (pc := 23) C dX0_unpack_23 rfl ?_
  apply gf_X0_12 (pc := 24) C rfl dX0_unpack_24
  · repeat (first | assumption | exact Cl.s (by assumption) | refine Cl.n (by first | decide | omega) ?_)
  · rfl
  refine g_iload_n (pc := 27) C dX0_unpack_27 rfl ?_
  refine g_bipush (pc := 28) (v := nI 31) C dX0_unpack_28 (by decide) ?_
  refine g_iand (pc := 30) C dX0_unpack_30 ?_
  apply pf_X0_68 (pc := 31) C rfl dX0_unpack_31
  · repeat (first | assumption | exact Cl.s (by assumption) | refine Cl.n (by first | decide | omega) ?_)
  · rfl
  · rfl
  · exact Nat.le_of_ble_eq_true rfl
  intro hw31
  exact g_return (pc := 34) C dX0_unpack_34 rfl rfl (by rw [bx_uu, nx_ush (by omega) (by decide), nx_ush (by omega) (by decide), nx_and, nx_and, e1, e2, e3]; rfl)
end GATE

