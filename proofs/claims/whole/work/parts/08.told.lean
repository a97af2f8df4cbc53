/-! what is told: things, their values, which can be borrowed, persons, their values, the law, the guard -/
abbrev TS : Type := Nat × (Nat → Nat) × (Nat → Nat) × Nat × (Nat → Nat → Nat) × Nat × Nat
abbrev tn (T : TS) : Nat := T.1
abbrev tv (T : TS) : Nat → Nat := T.2.1
abbrev tb (T : TS) : Nat → Nat := T.2.2.1
abbrev tm (T : TS) : Nat := T.2.2.2.1
abbrev tp (T : TS) : Nat → Nat → Nat := T.2.2.2.2.1
abbrev tl (T : TS) : Nat := T.2.2.2.2.2.1
abbrev tg (T : TS) : Nat := T.2.2.2.2.2.2
def sumb (f : Nat → Nat) : Nat → Nat
  | 0 => 0
  | n + 1 => sumb f n + f n
/-- what is told is as it must be -/
def TW (T : TS) : Prop := tn T ≤ 5 ∧ (∀ t, t < tn T → 1 ≤ tv T t ∧ tv T t ≤ 4) ∧ (∀ t, t < tn T → tb T t ≤ 1) ∧ sumb (tb T) (tn T) ≤ 2 ∧ tm T ≤ 9 ∧ (∀ i, i < tm T → ∀ t, t < tn T → tp T i t < tv T t) ∧ tl T ≤ 3 ∧ tg T ≤ 31
/-- in which things two differ -/
def UU (T : TS) (i j : Nat) : Nat := bits (fun t => tp T i t != tp T j t) (tn T)
def seen (T : TS) : Nat := tg T &&& (1 <<< tn T - 1)
def bset (T : TS) : Nat := bits (fun t => tb T t == 1) (tn T)
def hcn (T : TS) : Nat → Nat
  | 0 => 1
  | t + 1 => if tb T t = 1 then hcn T t * tv T t else hcn T t
def hatn (T : TS) : Nat → Nat → Nat
  | 0, _ => 0
  | t + 1, j => if tb T t = 1 then hatn T t (j / tv T t) ||| lw t (j % tv T t) else hatn T t j
abbrev cTold (G : GG) (v l h : Nat) (n m bo hc law g : Int32) : va_E := .inr (7, [.ref (ga G v), .ref (ga G l), .ref (ga G h), .int n, .int m, .int bo, .int hc, .int law, .int g])
abbrev iA (G : GG) (n : Nat) (f : Nat → Int32) : va_E := .inl (gI G, n, .inl f)
abbrev bA (G : GG) (n : Nat) (f : Nat → Int32) : va_E := .inl (gB G, n, .inl f)
abbrev lA (G : GG) (n : Nat) (f : Nat → Int64) : va_E := .inl (gJ G, n, .inr (.inl f))
/-- the cells of what is told, at 9, 21, 22, 23 -/
def RT (G : GG) (σ : WW) (T : TS) : Prop := ∃ (fv fl fh : Nat → Int32), Cl G σ 9 (cTold G 21 22 23 (nI (tn T)) (nI (tm T)) (nI (bset T)) (nI (hcn T (tn T))) (nI (tl T)) (nI (tg T))) ∧ Cl G σ 21 (iA G 5 fv) ∧ Cl G σ 22 (iA G 9 fl) ∧ Cl G σ 23 (iA G 16 fh) ∧ TW T ∧ (∀ t, t < tn T → fv t = nI (tv T t)) ∧ (∀ i, i < tm T → fl i = nI (lkn (tp T i) (tn T))) ∧ (∀ j, j < hcn T (tn T) → fh j = nI (hatn T (tn T) j))
section TOLD
variable {G : GG} {σ : WW} {T : TS}
def inR (i : Int32) (m : Nat) : Bool := decide (0 ≤ i ∧ i < nI m)
theorem inR_a {i : Int32} {m : Nat} (h : i < 0) : inR i m = false := by
  unfold inR
  rw [decide_eq_false_iff_not]
  exact fun h2 => absurd h (Int32.not_lt.mpr h2.1)
theorem inR_b {i : Int32} {m : Nat} (h : nI m ≤ i) : inR i m = false := by
  unfold inR
  rw [decide_eq_false_iff_not]
  exact fun h2 => absurd h2.2 (Int32.not_lt.mpr h)
theorem inR_t {i : Int32} {m : Nat} (h : ¬ i < 0) (h2 : ¬ nI m ≤ i) : inR i m = true := by
  unfold inR
  rw [decide_eq_true_iff]
  exact ⟨Int32.not_lt.mp h, Int32.not_le.mp h2⟩
/-- a number is none that is told, or the k-th -/
theorem inR_c (i : Int32) {m : Nat} (hm : m < 2 ^ 31) : inR i m = false ∨ (inR i m = true ∧ ∃ k, k < m ∧ i = nI k) := by
  by_cases h : i < 0
  · exact Or.inl (inR_a h)
  · by_cases h2 : nI m ≤ i
    · exact Or.inl (inR_b h2)
    · refine Or.inr ⟨inR_t h h2, ?_⟩
      rcases pk_ix i hm with q | q | q
      · exact absurd q h
      · exact absurd q h2
      · exact q
theorem inR_n {k m : Nat} (h : k < m) (hm : m < 2 ^ 31) : inR (nI k) m = true := inR_t (nI_pos (by omega)) (nI_ge h hm)
theorem t_unlike {a b : Nat} (ha : a < 1024) (hb : b < 1024) : Mt G mX9_unlike [.int (nI a), .int (nI b)] σ (some (.int (nI (ulk a b)))) σ := by
  have hx : a ^^^ b < 2 ^ 10 := Nat.xor_lt_two_pow ha hb
  refine Mt.of (by decide +kernel) (Nat.le_of_ble_eq_true rfl) (fun κ C => ?_)
  refine g_iload_n (pc := 0) C dX9_unlike_0 rfl ?_
  refine g_iload_n (pc := 1) C dX9_unlike_1 rfl ?_
  refine g_ixor (pc := 2) C dX9_unlike_2 ?_
  refine g_istore_n (pc := 3) C dX9_unlike_3 (by decide) rfl ?_
  refine g_iload_n (pc := 4) C dX9_unlike_4 rfl ?_
  refine g_iload_n (pc := 5) C dX9_unlike_5 rfl ?_
  refine g_iconst (pc := 6) (v := nI 5) C dX9_unlike_6 (by decide) ?_
  refine g_iushr (pc := 7) C dX9_unlike_7 ?_
  refine g_ior (pc := 8) C dX9_unlike_8 ?_
  refine g_bipush (pc := 9) (v := nI 31) C dX9_unlike_9 (by decide) ?_
  refine g_iand (pc := 11) C dX9_unlike_11 ?_
  exact g_ireturn (pc := 12) C dX9_unlike_12 rfl (by rw [nx_xor, nx_ush (by omega) (by decide), nx_or, nx_and]; rfl) (rfl)
theorem t_hasPerson (hT : RT G σ T) (i : Int32) : Mt G mX7_hasPerson [.ref (ga G 9), .int i] σ (some (.int (nI (b2 (inR i (tm T)))))) σ := by
  obtain ⟨fv, fl, fh, h9, h21, h22, h23, hW, hv, hl, hh⟩ := hT
  refine Mt.of (by decide +kernel) (Nat.le_of_ble_eq_true rfl) (fun κ C => ?_)
  refine g_iload_n (pc := 0) C dX7_hasPerson_0 rfl ?_
  refine g_if_lt (pc := 1) C 16 dX7_hasPerson_1 (by decide) (fun c1 => ?_) (fun c1 => ?_)
  · refine g_iconst (pc := 16) (v := nI 0) C dX7_hasPerson_16 (by decide) ?_
    exact g_zreturn (pc := 17) C dX7_hasPerson_17 rfl (by first | exact Or.inl rfl | exact Or.inr rfl) (by first | rw [inR_a c1]; rfl | rw [inR_b c9]; rfl | rw [inR_t c1 c9]; rfl) (rfl)
  · refine g_iload_n (pc := 4) C dX7_hasPerson_4 rfl ?_
    refine g_aload_n (pc := 5) C dX7_hasPerson_5 rfl ?_
    apply gf_X7_25 (pc := 6) C rfl dX7_hasPerson_6
    · repeat (first | assumption | exact Cl.s (by assumption) | refine Cl.n (by first | decide | omega) ?_)
    · rfl
    refine g_icmp_ge (pc := 9) C 16 dX7_hasPerson_9 (by decide) (fun c9 => ?_) (fun c9 => ?_)
    · refine g_iconst (pc := 16) (v := nI 0) C dX7_hasPerson_16 (by decide) ?_
      exact g_zreturn (pc := 17) C dX7_hasPerson_17 rfl (by first | exact Or.inl rfl | exact Or.inr rfl) (by first | rw [inR_a c1]; rfl | rw [inR_b c9]; rfl | rw [inR_t c1 c9]; rfl) (rfl)
    · refine g_iconst (pc := 12) (v := nI 1) C dX7_hasPerson_12 (by decide) ?_
      refine g_goto (pc := 13) C 17 dX7_hasPerson_13 (by decide) ?_
      exact g_zreturn (pc := 17) C dX7_hasPerson_17 rfl (by first | exact Or.inl rfl | exact Or.inr rfl) (by first | rw [inR_a c1]; rfl | rw [inR_b c9]; rfl | rw [inR_t c1 c9]; rfl) (rfl)
theorem t_hasThing (hT : RT G σ T) (i : Int32) : Mt G mX7_hasThing [.ref (ga G 9), .int i] σ (some (.int (nI (b2 (inR i (tn T)))))) σ := by
  obtain ⟨fv, fl, fh, h9, h21, h22, h23, hW, hv, hl, hh⟩ := hT
  refine Mt.of (by decide +kernel) (Nat.le_of_ble_eq_true rfl) (fun κ C => ?_)
  refine g_iload_n (pc := 0) C dX7_hasThing_0 rfl ?_
  refine g_if_lt (pc := 1) C 16 dX7_hasThing_1 (by decide) (fun c1 => ?_) (fun c1 => ?_)
  · refine g_iconst (pc := 16) (v := nI 0) C dX7_hasThing_16 (by decide) ?_
    exact g_zreturn (pc := 17) C dX7_hasThing_17 rfl (by first | exact Or.inl rfl | exact Or.inr rfl) (by first | rw [inR_a c1]; rfl | rw [inR_b c9]; rfl | rw [inR_t c1 c9]; rfl) (rfl)
  · refine g_iload_n (pc := 4) C dX7_hasThing_4 rfl ?_
    refine g_aload_n (pc := 5) C dX7_hasThing_5 rfl ?_
    apply gf_X7_21 (pc := 6) C rfl dX7_hasThing_6
    · repeat (first | assumption | exact Cl.s (by assumption) | refine Cl.n (by first | decide | omega) ?_)
    · rfl
    refine g_icmp_ge (pc := 9) C 16 dX7_hasThing_9 (by decide) (fun c9 => ?_) (fun c9 => ?_)
    · refine g_iconst (pc := 16) (v := nI 0) C dX7_hasThing_16 (by decide) ?_
      exact g_zreturn (pc := 17) C dX7_hasThing_17 rfl (by first | exact Or.inl rfl | exact Or.inr rfl) (by first | rw [inR_a c1]; rfl | rw [inR_b c9]; rfl | rw [inR_t c1 c9]; rfl) (rfl)
    · refine g_iconst (pc := 12) (v := nI 1) C dX7_hasThing_12 (by decide) ?_
      refine g_goto (pc := 13) C 17 dX7_hasThing_13 (by decide) ?_
      exact g_zreturn (pc := 17) C dX7_hasThing_17 rfl (by first | exact Or.inl rfl | exact Or.inr rfl) (by first | rw [inR_a c1]; rfl | rw [inR_b c9]; rfl | rw [inR_t c1 c9]; rfl) (rfl)
theorem t_look (hT : RT G σ T) {k : Nat} (hk : k < tm T) : Mt G mX7_look [.ref (ga G 9), .int (nI k)] σ (some (.int (nI (lkn (tp T k) (tn T))))) σ := by
  obtain ⟨fv, fl, fh, h9, h21, h22, h23, hW, hv, hl, hh⟩ := hT
  have hm := hW.2.2.2.2.1
  refine Mt.of (by decide +kernel) (Nat.le_of_ble_eq_true rfl) (fun κ C => ?_)
  refine g_iload_n (pc := 0) C dX7_look_0 rfl ?_
  refine g_if_lt (pc := 1) C 21 dX7_look_1 (by decide) (fun c1 => ?_) (fun c1 => ?_)
  · exact absurd c1 (nI_pos (by omega))
  · refine g_iload_n (pc := 4) C dX7_look_4 rfl ?_
    refine g_aload_n (pc := 5) C dX7_look_5 rfl ?_
    apply gf_X7_25 (pc := 6) C rfl dX7_look_6
    · repeat (first | assumption | exact Cl.s (by assumption) | refine Cl.n (by first | decide | omega) ?_)
    · rfl
    refine g_icmp_ge (pc := 9) C 21 dX7_look_9 (by decide) (fun c9 => ?_) (fun c9 => ?_)
    · exact absurd c9 (nI_ge hk (by omega))
    · refine g_aload_n (pc := 12) C dX7_look_12 rfl ?_
      apply gf_X7_15 (pc := 13) C rfl dX7_look_13
      · repeat (first | assumption | exact Cl.s (by assumption) | refine Cl.n (by first | decide | omega) ?_)
      · rfl
      refine g_iload_n (pc := 16) C dX7_look_16 rfl ?_
      apply g_iaload (pc := 17) C dX7_look_17
      · repeat (first | assumption | exact Cl.s (by assumption) | refine Cl.n (by first | decide | omega) ?_)
      · exact vp_in_nI (by omega) (by omega)
      refine g_goto (pc := 18) C 22 dX7_look_18 (by decide) ?_
      exact g_ireturn (pc := 22) C dX7_look_22 rfl (by rw [nI_clamp (by omega), hl k hk]) (rfl)
theorem t_sees (hT : RT G σ T) : Mt G mX7_sees [.ref (ga G 9)] σ (some (.int (nI (seen T)))) σ := by
  obtain ⟨fv, fl, fh, h9, h21, h22, h23, hW, hv, hl, hh⟩ := hT
  have hn := hW.1
  refine Mt.of (by decide +kernel) (Nat.le_of_ble_eq_true rfl) (fun κ C => ?_)
  refine g_aload_n (pc := 0) C dX7_sees_0 rfl ?_
  apply gf_X7_37 (pc := 1) C rfl dX7_sees_1
  · repeat (first | assumption | exact Cl.s (by assumption) | refine Cl.n (by first | decide | omega) ?_)
  · rfl
  refine g_iconst (pc := 4) (v := nI 1) C dX7_sees_4 (by decide) ?_
  refine g_aload_n (pc := 5) C dX7_sees_5 rfl ?_
  apply gf_X7_21 (pc := 6) C rfl dX7_sees_6
  · repeat (first | assumption | exact Cl.s (by assumption) | refine Cl.n (by first | decide | omega) ?_)
  · rfl
  refine g_ishl (pc := 9) C dX7_sees_9 ?_
  refine g_iconst (pc := 10) (v := nI 1) C dX7_sees_10 (by decide) ?_
  refine g_isub (pc := 11) C dX7_sees_11 ?_
  refine g_iand (pc := 12) C dX7_sees_12 ?_
  exact g_ireturn (pc := 13) C dX7_sees_13 rfl (by rw [nx_shl _ (by omega), pk_sub (by rw [Nat.shiftLeft_eq, Nat.one_mul]; exact Nat.one_le_two_pow), nx_and]; rfl) (rfl)
theorem t_seenUnlike (hT : RT G σ T) {i j : Nat} (hi : i < tm T) (hj : j < tm T) : Mt G mX7_seenUnlike [.ref (ga G 9), .int (nI i), .int (nI j)] σ (some (.int (nI (UU T i j &&& seen T)))) σ := by
  have hT' := hT
  obtain ⟨fv, fl, fh, h9, h21, h22, h23, hW, hv, hl, hh⟩ := hT
  refine Mt.of (by decide +kernel) (Nat.le_of_ble_eq_true rfl) (fun κ C => ?_)
  refine g_aload_n (pc := 0) C dX7_seenUnlike_0 rfl ?_
  refine g_iload_n (pc := 1) C dX7_seenUnlike_1 rfl ?_
  apply cl_X7_54 (pc := 2) C rfl (t_look hT' hi) dX7_seenUnlike_2
  · repeat (first | assumption | exact Cl.s (by assumption) | refine Cl.n (by first | decide | omega) ?_)
  · rfl
  · exact Nat.le_of_ble_eq_true rfl
  refine g_aload_n (pc := 5) C dX7_seenUnlike_5 rfl ?_
  refine g_iload_n (pc := 6) C dX7_seenUnlike_6 rfl ?_
  apply cl_X7_54 (pc := 7) C rfl (t_look hT' hj) dX7_seenUnlike_7
  · repeat (first | assumption | exact Cl.s (by assumption) | refine Cl.n (by first | decide | omega) ?_)
  · rfl
  · exact Nat.le_of_ble_eq_true rfl
  refine cl_X7_57 (pc := 10) C rfl (t_unlike (lkn_lt _ _ hW.1) (lkn_lt _ _ hW.1)) dX7_seenUnlike_10 rfl (Nat.le_of_ble_eq_true rfl) ?_
  refine g_aload_n (pc := 13) C dX7_seenUnlike_13 rfl ?_
  apply cl_X7_60 (pc := 14) C rfl (t_sees hT') dX7_seenUnlike_14
  · repeat (first | assumption | exact Cl.s (by assumption) | refine Cl.n (by first | decide | omega) ?_)
  · rfl
  · exact Nat.le_of_ble_eq_true rfl
  refine g_iand (pc := 17) C dX7_seenUnlike_17 ?_
  exact g_ireturn (pc := 18) C dX7_seenUnlike_18 rfl (by rw [nx_and, ulk_lkn hW.1 (fun t ht => Nat.lt_of_lt_of_le (hW.2.2.2.2.2.1 i hi t ht) (hW.2.1 t ht).2) (fun t ht => Nat.lt_of_lt_of_le (hW.2.2.2.2.2.1 j hj t ht) (hW.2.1 t ht).2)]; rfl) (rfl)
end TOLD

