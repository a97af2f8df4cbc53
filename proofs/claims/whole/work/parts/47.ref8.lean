/-! between and nearest of the reference: pure -/
def mks (u : Nat) : Nat → Nat → Nat
  | 0, t => t
  | d + 1, t => if (u >>> t) &&& 1 = 0 then mks u d (t + 1) else t
def mk5 (T : TS) (u : Nat) : Nat := if tl T = 2 then mks u 5 0 else 5
def ph (m : Nat) : Nat := if m = 5 then 0 else m + 1
def rct (T : TS) (c : Nat → Nat) (k p m' : Nat) : Nat := if ps (tl T) (UU T p (k / 6) &&& seen T) (brd (ph (k % 6))) = true ∧ mk5 T (UU T p (k / 6) &&& seen T) = m' then c k else 0
def gq (T : TS) (c : Nat → Nat) (k q : Nat) : Nat := if q / 6 < tm T then rct T c k (q / 6) (q % 6) else 0
def rwk (T : TS) (i : Nat) : Nat → Nat → Nat
  | 0 => fun k => if k = 6 * i + 5 then 1 else 0
  | n + 1 => fun q => sumb (fun k => gq T (rwk T i n) k q) 54
def rsF (T : TS) (i j n : Nat) : Nat → Nat := fun k => if ps (tl T) (UU T j (k / 6 % tm T) &&& seen T) (brd (ph (k % 6))) = true then rwk T i n k else 0
def rsum (T : TS) (i j n : Nat) : Nat := sumb (rsF T i j n) 54
theorem sumb6 (F : Nat → Nat) : ∀ n, sumb F (6 * n) = sumb (fun p => sumb (fun m => F (6 * p + m)) 6) n
  | 0 => rfl
  | n + 1 => by
    show sumb F (6 * n + 6) = sumb (fun p => sumb (fun m => F (6 * p + m)) 6) n + sumb (fun m => F (6 * n + m)) 6
    rw [← sumb6 F n]
    simp only [sumb, Nat.add_zero]
    omega
theorem sumph (H : Nat → Nat) : sumb (fun m => H (ph m)) 6 = sumb H 6 := by
  simp [sumb, ph]
  omega
theorem mk_d : ∀ n, n < 6 → ∀ u, u < 32 → u < 2 ^ n → many u = 1 → mks u 5 0 < 5 ∧ bbs u n 0 = mks u 5 0 + 1 := by decide +kernel
theorem mks_le (u : Nat) : ∀ d t, mks u d t ≤ t + d
  | 0, t => Nat.le_refl _
  | d + 1, t => by
    unfold mks
    split
    · have := mks_le u d (t + 1); omega
    · omega
theorem mk5_lt (T : TS) (u : Nat) : mk5 T u < 6 := by
  unfold mk5
  split
  · have := mks_le u 5 0; omega
  · decide
theorem mk_bb {T : TS} (hW : TW T) {i j b : Nat} (h : ps (tl T) (UU T i j &&& seen T) b = true) : ph (mk5 T (UU T i j &&& seen T)) = bb T (UU T i j &&& seen T) := by
  have hn := hW.1
  unfold mk5 bb
  by_cases e : tl T = 2
  · rw [if_pos e, if_pos e]
    rw [e] at h
    have h1 : many (UU T i j &&& seen T) = 1 := by
      unfold ps at h
      simp at h
      exact h.1
    have := mk_d (tn T) (by omega) (UU T i j &&& seen T) (and_lt32 (UU_lt T i j hn)) (Nat.lt_of_le_of_lt Nat.and_le_left (bits_lt _ _)) h1
    rw [this.2]
    unfold ph
    rw [if_neg (by omega)]
  · rw [if_neg e, if_neg e]
    rfl
theorem ph_inj {a b : Nat} (ha : a < 6) (hb : b < 6) (h : ph a = ph b) : a = b := by
  unfold ph at h
  split at h <;> split at h <;> omega
theorem wk_out (T : TS) (i : Nat) : ∀ n p b, brs T ≤ b → wk T i n p b = 0
  | 0, p, b, h => by
    have : 1 ≤ brs T := by unfold brs; split <;> omega
    show (if p = i ∧ b = 0 then 1 else 0) = 0
    rw [if_neg (by omega)]
  | n + 1, p, b, h => by
    show sumb (fun i' => sumb (fun b' => ct T (wk T i n) i' b' p b) (brs T)) (tm T) = 0
    rw [sumb_congr (g := fun _ => 0) (fun t _ => ?_), sumb_zero]
    rw [sumb_congr (g := fun _ => 0) (fun s _ => ?_), sumb_zero]
    unfold ct
    rw [if_neg]
    rintro ⟨_, q⟩
    have := bb_brs T (UU T t p &&& seen T)
    omega
theorem sumb_to {f : Nat → Nat} {a b : Nat} (h : a ≤ b) (hf : ∀ j, a ≤ j → f j = 0) : sumb f b = sumb f a := by
  obtain ⟨d, rfl⟩ : ∃ d, b = a + d := ⟨b - a, by omega⟩
  exact sumb_cut hf d
theorem sum_cut9 {F K : Nat → Nat} {m n : Nat} (hm : m ≤ n) (h : ∀ p, p < n → F p = if p < m then K p else 0) : sumb F n = sumb K m := by
  rw [sumb_congr h, sumb_to hm (fun j hj => if_neg (by omega))]
  exact sumb_congr (fun t ht => if_pos ht)
theorem rwk_eq {T : TS} (hW : TW T) {i : Nat} (hi : i < tm T) : ∀ n p m, p < 9 → m < 6 → rwk T i n (6 * p + m) = if p < tm T then wk T i n p (ph m) else 0
  | 0, p, m, hp, hm => by
    show (if 6 * p + m = 6 * i + 5 then 1 else 0) = if p < tm T then (if p = i ∧ ph m = 0 then 1 else 0) else 0
    unfold ph
    by_cases e : 6 * p + m = 6 * i + 5
    · rw [if_pos e, if_pos (by omega), if_pos (by rw [if_pos (by omega)]; omega)]
    · rw [if_neg e]
      split
      · rw [if_neg]
        rintro ⟨a, b⟩
        split at b <;> omega
      · rfl
  | n + 1, p, m, hp, hm => by
    show sumb (fun k => gq T (rwk T i n) k (6 * p + m)) 54 = _
    have hm9 := hW.2.2.2.2.1
    rw [show (54 : Nat) = 6 * 9 from rfl, sumb6]
    have e1 : (6 * p + m) / 6 = p := by omega
    have e2 : (6 * p + m) % 6 = m := by omega
    unfold gq
    rw [e1, e2]
    by_cases hpt : p < tm T
    · simp only [if_pos hpt]
      show _ = sumb (fun i' => sumb (fun b => ct T (wk T i n) i' b p (ph m)) (brs T)) (tm T)
      rw [sum_cut9 (K := fun i' => sumb (fun b => ct T (wk T i n) i' b p (ph m)) (brs T)) hm9 (fun p0 hp0 => ?_)]
      have ih := fun m0 h => rwk_eq hW hi n p0 m0 hp0 h
      by_cases hq : p0 < tm T
      · rw [if_pos hq, ← sumb_to (brs_le hW) (fun b hb => by unfold ct; rw [wk_out T i n p0 b hb]; split <;> rfl), ← sumph (fun b => ct T (wk T i n) p0 b p (ph m))]
        refine sumb_congr (fun m0 hm0 => ?_)
        have ih := ih m0 hm0
        rw [if_pos hq] at ih
        unfold rct ct
        rw [show (6 * p0 + m0) / 6 = p0 by omega, show (6 * p0 + m0) % 6 = m0 by omega, ih, UU_comm T p p0]
        by_cases c : ps (tl T) (UU T p0 p &&& seen T) (brd (ph m0)) = true
        · rw [← mk_bb hW c]
          by_cases e : mk5 T (UU T p0 p &&& seen T) = m
          · rw [if_pos ⟨c, e⟩, if_pos ⟨c, by rw [e]⟩]
          · rw [if_neg (fun z => e z.2), if_neg (fun z => e (ph_inj (mk5_lt _ _) hm z.2))]
        · rw [if_neg (fun z => c z.1), if_neg (fun z => c z.1)]
      · rw [if_neg hq, sumb_congr (g := fun _ => 0) (fun m0 hm0 => ?_), sumb_zero]
        have ih := ih m0 hm0
        rw [if_neg hq] at ih
        unfold rct
        rw [ih]
        split <;> rfl
    · simp only [if_neg hpt]
      rw [sumb_congr (g := fun _ => 0) (fun t _ => sumb_zero 6), sumb_zero]
theorem sumb_pt {x v : Nat} : ∀ n, x < n → sumb (fun b => if x = b then v else 0) n = v
  | 0, h => absurd h (Nat.not_lt_zero _)
  | n + 1, h => by
    show sumb (fun b => if x = b then v else 0) n + (if x = n then v else 0) = v
    by_cases e : x = n
    · rw [if_pos e, sumb_congr (g := fun _ => 0) (fun t ht => if_neg (by omega)), sumb_zero, Nat.zero_add]
    · rw [if_neg e, sumb_pt n (by omega), Nat.add_zero]
theorem rsum_eq {T : TS} (hW : TW T) {i j : Nat} (hi : i < tm T) (n : Nat) : rsum T i j n = btw T i j n := by
  have hm9 := hW.2.2.2.2.1
  have e1 : btw T i j n = sumb (fun i' => sumb (fun b => if ps (tl T) (UU T i' j &&& seen T) (brd b) = true then wk T i n i' b else 0) (brs T)) (tm T) := by
    unfold btw
    show sumb (nx T (wk T i n) j) 6 = _
    unfold nx
    rw [sumb_swap (fun b' i' => sumb (fun b => ct T (wk T i n) i' b j b') (brs T))]
    refine sumb_congr (fun i' _ => ?_)
    rw [sumb_swap (fun b' b => ct T (wk T i n) i' b j b')]
    refine sumb_congr (fun b _ => ?_)
    by_cases hp : ps (tl T) (UU T i' j &&& seen T) (brd b) = true
    · rw [if_pos hp, sumb_congr (g := fun b' => if bb T (UU T i' j &&& seen T) = b' then wk T i n i' b else 0) (fun b' _ => by unfold ct; simp [hp])]
      exact sumb_pt 6 (bb_lt hW _)
    · rw [if_neg hp, sumb_congr (g := fun _ => 0) (fun b' _ => by unfold ct; simp [hp]), sumb_zero]
  rw [e1]
  unfold rsum
  rw [show (54 : Nat) = 6 * 9 from rfl, sumb6]
  refine sum_cut9 hm9 (fun p0 hp0 => ?_)
  have ih := fun m0 h => rwk_eq hW hi n p0 m0 hp0 h
  by_cases hq : p0 < tm T
  · rw [if_pos hq, ← sumb_to (brs_le hW) (fun b hb => by rw [wk_out T i n p0 b hb]; split <;> rfl), ← sumph (fun b => if ps (tl T) (UU T p0 j &&& seen T) (brd b) = true then wk T i n p0 b else 0)]
    refine sumb_congr (fun m0 hm0 => ?_)
    have ih := ih m0 hm0
    rw [if_pos hq] at ih
    unfold rsF
    rw [show (6 * p0 + m0) / 6 = p0 by omega, show (6 * p0 + m0) % 6 = m0 by omega, ih, Nat.mod_eq_of_lt hq, UU_comm T j p0]
  · rw [if_neg hq, sumb_congr (g := fun _ => 0) (fun m0 hm0 => ?_), sumb_zero]
    have ih := ih m0 hm0
    rw [if_neg hq] at ih
    unfold rsF
    rw [ih]
    split <;> rfl
theorem rwk_z {T : TS} (hW : TW T) {i : Nat} (hi : i < tm T) (n : Nat) {k : Nat} (hk : k < 54) (h : rwk T i n k ≠ 0) : k / 6 < tm T := by
  have e := rwk_eq hW hi n (k / 6) (k % 6) (by omega) (by omega)
  rw [show 6 * (k / 6) + k % 6 = k by omega] at e
  by_cases q : k / 6 < tm T
  · exact q
  · rw [if_neg q] at e
    exact absurd e h
theorem rwk_lt {T : TS} (hW : TW T) {i : Nat} (hi : i < tm T) {n : Nat} (hn : n ≤ 13) {k : Nat} (hk : k < 54) : rwk T i n k < 2 ^ 62 := by
  have e := rwk_eq hW hi n (k / 6) (k % 6) (by omega) (by omega)
  rw [show 6 * (k / 6) + k % 6 = k by omega] at e
  rw [e]
  split
  · refine wk_lt hW hn ?_
    unfold ph
    split <;> omega
  · decide

