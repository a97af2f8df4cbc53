/-! rows between two: how many, by whom they end and what is barred behind him -/
def ct (T : TS) (c : Nat → Nat → Nat) (i b j b' : Nat) : Nat := if ps (tl T) (UU T i j &&& seen T) (brd b) = true ∧ bb T (UU T i j &&& seen T) = b' then c i b else 0
def nx (T : TS) (c : Nat → Nat → Nat) (j b' : Nat) : Nat := sumb (fun i => sumb (fun b => ct T c i b j b') (brs T)) (tm T)
def wk (T : TS) (i : Nat) : Nat → Nat → Nat → Nat
  | 0 => fun p b => if p = i ∧ b = 0 then 1 else 0
  | k + 1 => nx T (wk T i k)
def btw (T : TS) (i j n : Nat) : Nat := sumb (wk T i (n + 1) j) 6
theorem sumb_le {f g : Nat → Nat} : ∀ n, (∀ t, t < n → f t ≤ g t) → sumb f n ≤ sumb g n
  | 0, _ => Nat.le_refl 0
  | n + 1, h => Nat.add_le_add (sumb_le n (fun t ht => h t (by omega))) (h n (by omega))
theorem sumb_const (k : Nat) : ∀ n, sumb (fun _ => k) n = n * k
  | 0 => by simp [sumb]
  | n + 1 => by unfold sumb; rw [sumb_const k n, Nat.succ_mul]
theorem sumb_add (f g : Nat → Nat) : ∀ n, sumb (fun t => f t + g t) n = sumb f n + sumb g n
  | 0 => rfl
  | n + 1 => by unfold sumb; rw [sumb_add f g n]; omega
theorem sumb_zero : ∀ n, sumb (fun _ => 0) n = 0
  | 0 => rfl
  | n + 1 => by unfold sumb; rw [sumb_zero n]
theorem sumb_swap (F : Nat → Nat → Nat) (k : Nat) : ∀ n, sumb (fun b => sumb (fun i => F b i) n) k = sumb (fun i => sumb (fun b => F b i) k) n
  | 0 => sumb_zero k
  | n + 1 => by
    show sumb (fun b => sumb (fun i => F b i) n + F b n) k = sumb (fun i => sumb (fun b => F b i) k) n + sumb (fun b => F b n) k
    rw [sumb_add, sumb_swap F k n]
theorem sumb_one {f : Nat → Nat} {v : Nat} (x : Nat) (hf : ∀ b, f b = if x = b then v else 0) : ∀ n, sumb f n ≤ v
  | 0 => Nat.zero_le v
  | n + 1 => by
    unfold sumb
    by_cases h : x = n
    · have e : sumb f n = 0 := by
        rw [sumb_congr (g := fun _ => 0) (fun t ht => by rw [hf t, if_neg (by omega)]), sumb_zero]
      rw [e, hf n, if_pos h]; omega
    · rw [hf n, if_neg h]
      exact sumb_one x hf n
theorem sumb_mono {f : Nat → Nat} {m n : Nat} (h : m ≤ n) : sumb f m ≤ sumb f n := by
  obtain ⟨d, rfl⟩ : ∃ d, n = m + d := ⟨n - m, by omega⟩
  induction d with
  | zero => exact Nat.le_refl _
  | succ d ih => exact Nat.le_trans (ih (by omega)) (Nat.le_add_right _ _)
theorem brs_le {T : TS} (hW : TW T) : brs T ≤ 6 := by unfold brs; have := hW.1; split <;> omega
theorem nx_sum {T : TS} (hW : TW T) {c : Nat → Nat → Nat} {B : Nat} (hc : ∀ i, sumb (c i) 6 ≤ B) (j : Nat) : sumb (nx T c j) 6 ≤ 9 * B := by
  unfold nx
  rw [sumb_swap (fun b' i => sumb (fun b => ct T c i b j b') (brs T))]
  have h1 : ∀ i, sumb (fun b' => sumb (fun b => ct T c i b j b') (brs T)) 6 ≤ B := by
    intro i
    rw [sumb_swap (fun b' b => ct T c i b j b')]
    refine Nat.le_trans ?_ (Nat.le_trans (sumb_mono (f := c i) (brs_le hW)) (hc i))
    refine sumb_le _ (fun b hb => ?_)
    by_cases hp : ps (tl T) (UU T i j &&& seen T) (brd b) = true
    · exact sumb_one (bb T (UU T i j &&& seen T)) (fun b' => by unfold ct; simp [hp]) 6
    · rw [sumb_congr (g := fun _ => 0) (fun t _ => by unfold ct; simp [hp]), sumb_zero]
      exact Nat.zero_le _
  refine Nat.le_trans (sumb_le _ (fun i _ => h1 i)) ?_
  rw [sumb_const]
  exact Nat.mul_le_mul_right B hW.2.2.2.2.1
theorem wk_sum {T : TS} (hW : TW T) (i : Nat) : ∀ k p, sumb (wk T i k p) 6 ≤ 9 ^ k
  | 0, p => by
    refine Nat.le_trans (sumb_le 6 (g := fun b => if 0 = b then 1 else 0) (fun b _ => ?_)) (sumb_one (v := 1) 0 (fun b => rfl) 6)
    show (if p = i ∧ b = 0 then 1 else 0) ≤ (if 0 = b then 1 else 0)
    by_cases h : b = 0
    · subst h
      by_cases q : p = i <;> simp [q]
    · rw [if_neg (fun z => h z.2)]
      exact Nat.zero_le _
  | k + 1, p => by
    rw [Nat.pow_succ, Nat.mul_comm]
    exact nx_sum hW (wk_sum hW i k) p
theorem wk_lt {T : TS} (hW : TW T) {i k p b : Nat} (hk : k ≤ 13) (hb : b < 6) : wk T i k p b < 2 ^ 62 := by
  have h1 := wk_sum hW i k p
  have h2 : wk T i k p b ≤ sumb (wk T i k p) 6 := by
    have : wk T i k p b ≤ sumb (wk T i k p) (b + 1) := Nat.le_add_left _ _
    exact Nat.le_trans this (sumb_mono (by omega))
  have h3 : 9 ^ k ≤ 9 ^ 13 := Nat.pow_le_pow_right (by decide) hk
  have h4 : (9 : Nat) ^ 13 < 2 ^ 62 := by decide
  omega
theorem wks_lt {T : TS} (hW : TW T) {i k p : Nat} (hk : k ≤ 13) : sumb (wk T i k p) 6 < 2 ^ 62 := by
  have h1 := wk_sum hW i k p
  have h3 : 9 ^ k ≤ 9 ^ 13 := Nat.pow_le_pow_right (by decide) hk
  have h4 : (9 : Nat) ^ 13 < 2 ^ 62 := by decide
  omega
/-- what an array of 54 longs holds -/
def A2 (m : Nat) (f : Nat → Int64) (c : Nat → Nat → Nat) : Prop := ∀ p, p < m → ∀ b, b < 6 → f (p * 6 + b) = lN (c p b)
def up2 (d : Nat → Nat → Nat) (j b v : Nat) : Nat → Nat → Nat := fun p q => if p = j ∧ q = b then d p q + v else d p q
def spD (T : TS) (c : Nat → Nat → Nat) (i b : Nat) : Nat → Nat → (Nat → Nat → Nat) → (Nat → Nat → Nat)
  | 0, _, d => d
  | e + 1, j, d => spD T c i b e (j + 1) (if ps (tl T) (UU T i j &&& seen T) (brd b) = true then up2 d j (bb T (UU T i j &&& seen T)) (c i b) else d)
theorem spD_at (T : TS) (c : Nat → Nat → Nat) (i b : Nat) : ∀ e j d p q, spD T c i b e j d p q = d p q + (if j ≤ p ∧ p < j + e then ct T c i b p q else 0)
  | 0, j, d, p, q => by
    rw [if_neg (by omega)]
    rfl
  | e + 1, j, d, p, q => by
    unfold spD
    rw [spD_at T c i b e (j + 1)]
    by_cases hp : p = j
    · subst hp
      have e2 : (if p + 1 ≤ p ∧ p < p + 1 + e then ct T c i b p q else 0) = 0 := if_neg (by omega)
      have e3 : (if p ≤ p ∧ p < p + (e + 1) then ct T c i b p q else 0) = ct T c i b p q := if_pos (by omega)
      rw [e2, e3, Nat.add_zero]
      unfold ct
      by_cases h1 : ps (tl T) (UU T i p &&& seen T) (brd b) = true
      · rw [if_pos h1]
        unfold up2
        by_cases h2 : bb T (UU T i p &&& seen T) = q
        · rw [if_pos ⟨rfl, h2.symm⟩, if_pos ⟨h1, h2⟩]
        · rw [if_neg (fun z => h2 z.2.symm), if_neg (fun z => h2 z.2)]; omega
      · rw [if_neg h1, if_neg (fun z => h1 z.1)]; omega
    · have e1 : (if ps (tl T) (UU T i j &&& seen T) (brd b) = true then up2 d j (bb T (UU T i j &&& seen T)) (c i b) else d) p q = d p q := by
        split
        · unfold up2; rw [if_neg (fun z => hp z.1)]
        · rfl
      rw [e1]
      by_cases h3 : j ≤ p ∧ p < j + (e + 1)
      · rw [if_pos h3, if_pos (by omega)]
      · rw [if_neg h3, if_neg (by omega)]
theorem bbs_le (u : Nat) : ∀ d t, bbs u d t ≤ t + d
  | 0, t => Nat.zero_le _
  | d + 1, t => by
    unfold bbs
    split
    · omega
    · have := bbs_le u d (t + 1); omega
theorem bb_lt {T : TS} (hW : TW T) (u : Nat) : bb T u < 6 := by
  unfold bb
  split
  · have := bbs_le u (tn T) 0
    have := hW.1
    omega
  · decide
theorem brd_lt {b : Nat} (h : b ≤ 5) : brd b < 32 := by
  unfold brd
  split
  · decide
  · rw [Nat.shiftLeft_eq, Nat.one_mul]
    exact Nat.pow_lt_pow_right (a := 2) (by decide) (m := b - 1) (n := 5) (by omega)
abbrev cWalk (G : GG) (a b : Nat) : va_E := .inr (8, [.ref (ga G a), .ref (ga G b)])
def AB (a b : Nat) : Prop := (a = 16 ∧ b = 17) ∨ (a = 17 ∧ b = 16)
section WALKS
variable {G : GG} {σ : WW} {T : TS}
theorem t_fill {q : Nat} {f : Nat → Int64} {v : Int64} (hq : Cl G σ q (lA G 54 f)) : ∃ f', Mt G mJ7_fill_d0a16 [.ref (ga G q), .long v] σ none (va_up σ q (lA G 54 f')) ∧ ∀ k, k < 54 → f' k = v := by
  have loop : ∀ d i f, i + d = 54 → (∀ k, k < i → f k = v) → ∃ f', (∀ κ, Cx G mJ7_fill_d0a16 κ → Go G mJ7_fill_d0a16 κ none (va_up σ q (lA G 54 f')) (va_up σ q (lA G 54 f)) 6 [(0, .ref (ga G q)), (1, .long v), (3, .int (nI i)), (4, .int (nI 54))] []) ∧ ∀ k, k < 54 → f' k = v := by
    intro d
    induction d with
    | zero =>
      intro i f hi hf
      refine ⟨f, fun κ C => ?_, fun k hk => hf k (by omega)⟩
      refine g_iload_n (pc := 6) C dJ7_fill_d0a16_6 rfl ?_
      refine g_iload (pc := 7) C dJ7_fill_d0a16_7 rfl ?_
      refine g_icmp_ge (pc := 9) C 22 dJ7_fill_d0a16_9 (by decide) (fun c9 => ?_) (fun c9 => ?_)
      · exact g_return (pc := 22) C dJ7_fill_d0a16_22 rfl rfl (rfl)
      · exact absurd (nI_le (by omega) (by omega)) c9
    | succ d ih =>
      intro i f hi hf
      obtain ⟨f', g1, g2⟩ := ih (i + 1) (vp_updL f i v) (by omega) (fun k hk => by
        by_cases e : k = i
        · rw [e, pk_uLs]
        · rw [pk_uLn e]; exact hf k (by omega))
      refine ⟨f', fun κ C => ?_, g2⟩
      have q1 : Cl G (va_up σ q (lA G 54 f)) q (lA G 54 f) := Cl.s hq
      refine g_iload_n (pc := 6) C dJ7_fill_d0a16_6 rfl ?_
      refine g_iload (pc := 7) C dJ7_fill_d0a16_7 rfl ?_
      refine g_icmp_ge (pc := 9) C 22 dJ7_fill_d0a16_9 (by decide) (fun c9 => ?_) (fun c9 => ?_)
      · exact absurd c9 (nI_ge (by omega) (by decide))
      · refine g_aload_n (pc := 12) C dJ7_fill_d0a16_12 rfl ?_
        refine g_iload_n (pc := 13) C dJ7_fill_d0a16_13 rfl ?_
        refine g_lload_n (pc := 14) C dJ7_fill_d0a16_14 rfl ?_
        apply g_lastore (pc := 15) C dJ7_fill_d0a16_15
        · repeat (first | assumption | exact Cl.s (by assumption) | refine Cl.n (by first | decide | omega) ?_)
        · exact vp_in_nI (by omega) (by decide)
        intro hw15
        refine g_iinc (pc := 16) C dJ7_fill_d0a16_16 rfl (by decide) rfl ?_
        refine g_goto (pc := 19) C 6 dJ7_fill_d0a16_19 (by decide) ?_
        rw [nI_clamp (by omega), bx_uu]
        exact g_to (g1 κ C) ⟨rfl, rfl, lgi (nI_1 i), rfl, trivial⟩
  obtain ⟨f', g1, g2⟩ := loop 54 0 f (by omega) (fun k hk => absurd hk (Nat.not_lt_zero k))
  refine ⟨f', ?_, g2⟩
  rw [va_self hq.2] at g1
  refine Mt.of (by decide +kernel) (Nat.le_of_ble_eq_true rfl) (fun κ C => ?_)
  refine g_iconst (pc := 0) (v := nI 0) C dJ7_fill_d0a16_0 (by decide) ?_
  refine g_istore_n (pc := 1) C dJ7_fill_d0a16_1 (by decide) rfl ?_
  refine g_aload_n (pc := 2) C dJ7_fill_d0a16_2 rfl ?_
  apply g_alenJ (pc := 3) C dJ7_fill_d0a16_3
  · repeat (first | assumption | exact Cl.s (by assumption) | refine Cl.n (by first | decide | omega) ?_)
  refine g_istore (pc := 4) C dJ7_fill_d0a16_4 (by decide) rfl ?_
  exact g_to (g1 κ C) ⟨rfl, rfl, rfl, rfl, trivial⟩
theorem t_startAt {a b i : Nat} {f g : Nat → Int64} (hab : AB a b) (h5 : Cl G σ 5 (cWalk G a b)) (ha : Cl G σ a (lA G 54 f)) (hi : i < 9) : ∃ f', Mt G mX8_startAt [.ref (ga G 5), .int (nI i)] σ none (va_up σ a (lA G 54 f')) ∧ A2 9 f' (wk T i 0) := by
  obtain ⟨f1, g1, g2⟩ := t_fill (v := 0) ha
  have h5' : Cl G (va_up σ a (lA G 54 f1)) 5 (cWalk G a b) := Cl.n (by unfold AB at hab; omega) h5
  have ha' : Cl G (va_up σ a (lA G 54 f1)) a (lA G 54 f1) := Cl.s ha
  refine ⟨vp_updL f1 (i * 6) 1, ?_, ?_⟩
  · refine Mt.of (by decide +kernel) (Nat.le_of_ble_eq_true rfl) (fun κ C => ?_)
    refine g_aload_n (pc := 0) C dX8_startAt_0 rfl ?_
    apply gf_X8_9 (pc := 1) C rfl dX8_startAt_1
    · repeat (first | assumption | exact Cl.s (by assumption) | refine Cl.n (by first | decide | omega) ?_)
    · rfl
    refine g_lconst (pc := 4) (v := 0) C dX8_startAt_4 (by decide) ?_
    refine cl_X8_18 (pc := 5) C rfl g1 dX8_startAt_5 rfl (Nat.le_of_ble_eq_true rfl) ?_
    refine g_aload_n (pc := 8) C dX8_startAt_8 rfl ?_
    apply gf_X8_9 (pc := 9) C rfl dX8_startAt_9
    · repeat (first | assumption | exact Cl.s (by assumption) | refine Cl.n (by first | decide | omega) ?_)
    · rfl
    refine g_iload_n (pc := 12) C dX8_startAt_12 rfl ?_
    refine g_bipush (pc := 13) (v := nI 6) C dX8_startAt_13 (by decide) ?_
    refine g_imul (pc := 15) C dX8_startAt_15 ?_
    rw [pk_mul]
    refine g_lconst (pc := 16) (v := 1) C dX8_startAt_16 (by decide) ?_
    apply g_lastore (pc := 17) C dX8_startAt_17
    · repeat (first | assumption | exact Cl.s (by assumption) | refine Cl.n (by first | decide | omega) ?_)
    · exact vp_in_nI (by omega) (by decide)
    intro hw17
    exact g_return (pc := 18) C dX8_startAt_18 rfl rfl (by rw [nI_clamp (by omega), bx_uu])
  · intro p hp b hb
    show _ = lN (if p = i ∧ b = 0 then 1 else 0)
    by_cases e : p * 6 + b = i * 6
    · rw [e, pk_uLs, if_pos (by omega)]; rfl
    · rw [pk_uLn e, g2 _ (by omega), if_neg (by omega)]; rfl
theorem t_waysTo {a b j : Nat} {f : Nat → Int64} {c : Nat → Nat → Nat} (h5 : Cl G σ 5 (cWalk G a b)) (ha : Cl G σ a (lA G 54 f)) {m : Nat} (hc : A2 m f c) (hj : j < m) (hm : m ≤ 9) : Mt G mX8_waysTo [.ref (ga G 5), .int (nI j)] σ (some (.long (lN (sumb (c j) 6)))) σ := by
  refine Mt.of (by decide +kernel) (Nat.le_of_ble_eq_true rfl) (fun κ C => ?_)
  have loop : ∀ d k, k + d = 6 → Go G mX8_waysTo κ (some (.long (lN (sumb (c j) 6)))) σ σ 5 [(0, .ref (ga G 5)), (1, .int (nI j)), (2, .long (lN (sumb (c j) k))), (4, .int (nI k))] [] := by
    intro d
    induction d with
    | zero =>
      intro k hk
      refine g_iload (pc := 5) C dX8_waysTo_5 rfl ?_
      refine g_bipush (pc := 7) (v := nI 6) C dX8_waysTo_7 (by decide) ?_
      refine g_icmp_ge (pc := 9) C 33 dX8_waysTo_9 (by decide) (fun c9 => ?_) (fun c9 => ?_)
      · refine g_lload_n (pc := 33) C dX8_waysTo_33 rfl ?_
        exact g_lreturn (pc := 34) C dX8_waysTo_34 rfl (by rw [show k = 6 by omega]) (rfl)
      · exact absurd (nI_le (by omega) (by omega)) c9
    | succ d ih =>
      intro k hk
      refine g_iload (pc := 5) C dX8_waysTo_5 rfl ?_
      refine g_bipush (pc := 7) (v := nI 6) C dX8_waysTo_7 (by decide) ?_
      refine g_icmp_ge (pc := 9) C 33 dX8_waysTo_9 (by decide) (fun c9 => ?_) (fun c9 => ?_)
      · exact absurd c9 (nI_ge (by omega) (by decide))
      · refine g_lload_n (pc := 12) C dX8_waysTo_12 rfl ?_
        refine g_aload_n (pc := 13) C dX8_waysTo_13 rfl ?_
        apply gf_X8_9 (pc := 14) C rfl dX8_waysTo_14
        · repeat (first | assumption | exact Cl.s (by assumption) | refine Cl.n (by first | decide | omega) ?_)
        · rfl
        refine g_iload_n (pc := 17) C dX8_waysTo_17 rfl ?_
        refine g_bipush (pc := 18) (v := nI 6) C dX8_waysTo_18 (by decide) ?_
        refine g_imul (pc := 20) C dX8_waysTo_20 ?_
        refine g_iload (pc := 21) C dX8_waysTo_21 rfl ?_
        refine g_iadd (pc := 23) C dX8_waysTo_23 ?_
        rw [pk_mul, nI_add]
        apply g_laload (pc := 24) C dX8_waysTo_24
        · repeat (first | assumption | exact Cl.s (by assumption) | refine Cl.n (by first | decide | omega) ?_)
        · exact vp_in_nI (by omega) (by decide)
        rw [nI_clamp (by omega), hc j hj k (by omega)]
        refine g_ladd (pc := 25) C dX8_waysTo_25 ?_
        refine g_lstore_n (pc := 26) C [(0, .ref (ga G 5)), (1, .int (nI j)), (4, .int (nI k))] dX8_waysTo_26 (by decide) ⟨rfl, rfl, rfl, trivial⟩ rfl rfl ?_
        refine g_iinc (pc := 27) C dX8_waysTo_27 rfl (by decide) rfl ?_
        refine g_goto (pc := 30) C 5 dX8_waysTo_30 (by decide) ?_
        exact g_to (ih (k + 1) (by omega)) ⟨rfl, rfl, lgl (lN_add _ _), lgi (nI_1 k), trivial⟩
  refine g_lconst (pc := 0) (v := 0) C dX8_waysTo_0 (by decide) ?_
  refine g_lstore_n (pc := 1) C [(0, .ref (ga G 5)), (1, .int (nI j))] dX8_waysTo_1 (by decide) ⟨rfl, rfl, trivial⟩ rfl rfl ?_
  refine g_iconst (pc := 2) (v := nI 0) C dX8_waysTo_2 (by decide) ?_
  refine g_istore (pc := 3) C dX8_waysTo_3 (by decide) rfl ?_
  exact g_to (loop 6 0 (by omega)) ⟨rfl, rfl, rfl, rfl, trivial⟩
end WALKS

