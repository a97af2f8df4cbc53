/-! reading a text: what it says -/
def dgt (c : Int32) : Option Nat := if c < 48 ∨ 57 < c then none else some (c.toNatClampNeg - 48)
def numS (x : Nat → Int32) : Nat → Nat → Nat → Option Nat
  | 0, _, s => some s
  | d + 1, k, s => match dgt (x k) with
    | none => none
    | some g => numS x d (k + 1) (10 * s + g)
def numN (x : Nat → Int32) (a e : Nat) : Option Nat := if a < e ∧ e ≤ a + 2 then numS x (e - a) a 0 else none
def oN (o : Option Nat) : Int32 := match o with
  | none => -1
  | some v => nI v
def fnd (x : Nat → Int32) (s : Int32) : Nat → Nat → Nat
  | 0, k => k
  | d + 1, k => if x k = s then k else fnd x s d (k + 1)
theorem fnd_le (x : Nat → Int32) (s : Int32) : ∀ d k, k ≤ fnd x s d k ∧ fnd x s d k ≤ k + d
  | 0, k => ⟨Nat.le_refl _, Nat.le_refl _⟩
  | d + 1, k => by
    unfold fnd
    split
    · omega
    · have := fnd_le x s d (k + 1)
      omega
theorem dgt_some {c : Int32} {g : Nat} (h : dgt c = some g) : g < 10 ∧ c = nI (48 + g) := by
  unfold dgt at h
  split at h
  · cases h
  · rename_i q
    simp only [not_or] at q
    obtain ⟨q1, q2⟩ := q
    obtain ⟨j, hj, rfl⟩ : ∃ j : Nat, j ≤ 57 ∧ c = nI j := nI_of2 (M := 57) (n := 57) (by decide) (fun z => q1 (Int32.lt_of_lt_of_le z (by decide))) (Int32.not_lt.mp q2)
    have q3 : ¬ j < 48 := fun z => q1 (nI_lt z (by decide))
    rw [nI_clamp (by omega)] at h
    cases h
    exact ⟨by omega, by rw [show 48 + (j - 48) = j by omega]⟩
theorem numS_lt (x : Nat → Int32) : ∀ d k s v, numS x d k s = some v → d ≤ 2 → s < 10 ^ (2 - d) → v < 100
  | 0, k, s, v, h, _, hs => by
    unfold numS at h
    cases h
    simpa using hs
  | d + 1, k, s, v, h, hd, hs => by
    unfold numS at h
    split at h
    · cases h
    · rename_i g hg
      refine numS_lt x d (k + 1) _ v h (by omega) ?_
      have h1 := (dgt_some hg).1
      have h2 : d = 0 ∨ d = 1 := by omega
      rcases h2 with rfl | rfl
      · simp at hs ⊢; omega
      · simp at hs ⊢; omega
theorem numN_lt {x : Nat → Int32} {a e v : Nat} (h : numN x a e = some v) : v < 100 := by
  unfold numN at h
  split at h
  · exact numS_lt x _ _ _ v h (by omega) (Nat.pow_pos (by decide))
  · cases h
/-- one more thing, person, the law, the guard -/
def thgS (P : TS) (n b : Nat) : TS := (tn P + 1, fun t => if t = tn P then n else tv P t, fun t => if t = tn P then b else tb P t, tm P, tp P, tl P, tg P)
def prsS (P : TS) (v : Nat → Nat) : TS := (tn P, tv P, tb P, tm P + 1, fun i => if i = tm P then v else tp P i, tl P, tg P)
def lawS (P : TS) (k : Nat) : TS := (tn P, tv P, tb P, tm P, tp P, k, tg P)
def grdS (P : TS) (g : Nat) : TS := (tn P, tv P, tb P, tm P, tp P, tl P, g)
def P0 : TS := (0, fun _ => 0, fun _ => 0, 0, fun _ _ => 0, 0, 31)
def thg (P : TS) : Option Nat → Option Nat → Option TS
  | some n, some b => if 1 ≤ n ∧ n ≤ 4 ∧ b ≤ 1 ∧ tn P < 5 ∧ tm P = 0 ∧ sumb (tb P) (tn P) + b ≤ 2 then some (thgS P n b) else none
  | _, _ => none
/-- the values of a person's figures -/
def prv (x : Nat → Int32) (a t : Nat) : Nat := (x (a + t)).toNatClampNeg - 48
def prOk (P : TS) (x : Nat → Int32) (a : Nat) : Nat → Nat → Bool
  | 0, _ => true
  | d + 1, t => (match dgt (x (a + t)) with
    | none => false
    | some g => decide (g < tv P t)) && prOk P x a d (t + 1)
def prs (P : TS) (x : Nat → Int32) (a e : Nat) : Option TS := if 1 ≤ tn P ∧ e = a + tn P ∧ tm P < 9 ∧ prOk P x a (tn P) 0 = true then some (prsS P (prv x a)) else none
def lawO (P : TS) : Option Nat → Option TS
  | some k => if k ≤ 3 then some (lawS P k) else none
  | none => none
def grdO (P : TS) : Option Nat → Option TS
  | some k => if k ≤ 31 then some (grdS P k) else none
  | none => none
def itm (x : Nat → Int32) (a e : Nat) (P : TS) : Option TS :=
  if x a = 116 then thg P (numN x (a + 1) (fnd x 44 (e - (a + 1)) (a + 1))) (numN x (fnd x 44 (e - (a + 1)) (a + 1) + 1) e)
  else if x a = 112 then prs P x (a + 1) e
  else if x a = 108 then lawO P (numN x (a + 1) e)
  else if x a = 103 then grdO P (numN x (a + 1) e)
  else none
/-- the place of the fault, if there is one; what is told else -/
def rd (x : Nat → Int32) (n : Nat) : Nat → Nat → TS → Option Nat × TS
  | 0, _, P => (none, P)
  | d + 1, a, P => if n ≤ a then (none, P) else if fnd x 59 (n - a) a = n then (some a, P) else match itm x a (fnd x 59 (n - a) a) P with
    | none => (some a, P)
    | some P2 => rd x n d (fnd x 59 (n - a) a + 1) P2
def fltI (o : Option Nat) : Int32 := match o with
  | none => -4
  | some a => nI a
theorem TW_P0 : TW P0 := ⟨by decide, fun t h => absurd h (Nat.not_lt_zero t), fun t h => absurd h (Nat.not_lt_zero t), by decide, by decide, fun i h => absurd h (Nat.not_lt_zero i), by decide, by decide⟩
theorem sumb_congr {f g : Nat → Nat} {n : Nat} (h : ∀ t, t < n → f t = g t) : sumb f n = sumb g n := by
  induction n with
  | zero => rfl
  | succ n ih =>
    unfold sumb
    rw [ih (fun t ht => h t (by omega)), h n (by omega)]
theorem TW_thg {P P' : TS} {o1 o2 : Option Nat} (hW : TW P) (h : thg P o1 o2 = some P') : TW P' := by
  unfold thg at h
  split at h
  · rename_i n b
    split at h
    · rename_i q
      cases h
      obtain ⟨q1, q2, q3, q4, q5, q6⟩ := q
      obtain ⟨w1, w2, w3, w4, w5, w6, w7, w8⟩ := hW
      refine ⟨by show tn P + 1 ≤ 5; omega, fun t ht => ?_, fun t ht => ?_, ?_, w5, fun i hi => ?_, w7, w8⟩
      · show 1 ≤ (if t = tn P then n else tv P t) ∧ (if t = tn P then n else tv P t) ≤ 4
        have ht : t < tn P + 1 := ht
        by_cases e : t = tn P
        · rw [if_pos e]; omega
        · rw [if_neg e]; exact w2 t (by omega)
      · show (if t = tn P then b else tb P t) ≤ 1
        have ht : t < tn P + 1 := ht
        by_cases e : t = tn P
        · rw [if_pos e]; omega
        · rw [if_neg e]; exact w3 t (by omega)
      · show sumb (fun t => if t = tn P then b else tb P t) (tn P + 1) ≤ 2
        unfold sumb
        rw [sumb_congr (g := tb P) (fun t ht => by rw [if_neg (by omega)])]
        simp only [if_pos]
        exact q6
      · have hi : i < tm P := hi
        omega
    · cases h
  · cases h
theorem prOk_spec {P : TS} {x : Nat → Int32} {a : Nat} : ∀ d t, prOk P x a d t = true → ∀ j, t ≤ j → j < t + d → prv x a j < tv P j ∧ dgt (x (a + j)) = some (prv x a j)
  | 0, t, _, j, h1, h2 => by omega
  | d + 1, t, h, j, h1, h2 => by
    unfold prOk at h
    rw [Bool.and_eq_true] at h
    by_cases e : j = t
    · subst e
      have h3 := h.1
      split at h3
      · cases h3
      · rename_i g hg
        obtain ⟨g1, g2⟩ := dgt_some hg
        have e2 : prv x a j = g := by
          unfold prv
          rw [g2, nI_clamp (by omega)]
          omega
        rw [e2]
        exact ⟨by simpa using h3, hg⟩
    · exact prOk_spec d (t + 1) h.2 j (by omega) (by omega)
theorem TW_prs {P P' : TS} {x : Nat → Int32} {a e : Nat} (hW : TW P) (h : prs P x a e = some P') : TW P' := by
  unfold prs at h
  split at h
  · rename_i q
    cases h
    obtain ⟨q1, q2, q3, q4⟩ := q
    obtain ⟨w1, w2, w3, w4, w5, w6, w7, w8⟩ := hW
    refine ⟨w1, w2, w3, w4, by show tm P + 1 ≤ 9; omega, fun i hi t ht => ?_, w7, w8⟩
    show (if i = tm P then prv x a else tp P i) t < tv P t
    have hi : i < tm P + 1 := hi
    have ht : t < tn P := ht
    by_cases e : i = tm P
    · rw [if_pos e]
      exact (prOk_spec _ _ q4 t (by omega) (by omega)).1
    · rw [if_neg e]
      exact w6 i (by omega) t ht
  · cases h
theorem TW_itm {P P' : TS} {x : Nat → Int32} {a e : Nat} (hW : TW P) (h : itm x a e P = some P') : TW P' := by
  unfold itm at h
  split at h
  · exact TW_thg hW h
  · split at h
    · exact TW_prs hW h
    · split at h
      · unfold lawO at h
        split at h
        · split at h
          · cases h
            obtain ⟨w1, w2, w3, w4, w5, w6, w7, w8⟩ := hW
            rename_i q
            exact ⟨w1, w2, w3, w4, w5, w6, q, w8⟩
          · cases h
        · cases h
      · split at h
        · unfold grdO at h
          split at h
          · split at h
            · cases h
              obtain ⟨w1, w2, w3, w4, w5, w6, w7, w8⟩ := hW
              rename_i q
              exact ⟨w1, w2, w3, w4, w5, w6, w7, q⟩
            · cases h
          · cases h
        · cases h
/-! how many -/
theorem tb_b2 (x k : Nat) : (x >>> k) &&& 1 = b2 (x.testBit k) := by
  unfold Nat.testBit b2
  rw [Nat.and_comm 1, Nat.and_one_is_mod]
  rcases Nat.mod_two_eq_zero_or_one (x >>> k) with h | h <;> simp [h]
theorem cnt_sum (x k : Nat) : cnt x k = sumb (fun j => b2 (x.testBit j)) k := by
  induction k with
  | zero => rfl
  | succ k ih =>
    unfold cnt sumb
    rw [ih, tb_b2]
theorem sumb_cut {f : Nat → Nat} {n : Nat} (h : ∀ j, n ≤ j → f j = 0) : ∀ d, sumb f (n + d) = sumb f n
  | 0 => rfl
  | d + 1 => by
    show sumb f (n + d) + f (n + d) = _
    rw [sumb_cut h d, h (n + d) (by omega), Nat.add_zero]
theorem many_bits (p : Nat → Bool) {n : Nat} (hn : n ≤ 10) : many (bits p n) = sumb (fun t => b2 (p t)) n := by
  unfold many
  rw [cnt_sum]
  have e : (fun j => b2 ((bits p n).testBit j)) = fun j => b2 (decide (j < n) && p j) := by funext j; rw [tb_bits]
  rw [e]
  have h10 : 10 = n + (10 - n) := by omega
  rw [h10, sumb_cut (fun j hj => by simp [Nat.not_lt.mpr hj, b2])]
  exact sumb_congr (fun t ht => by simp [ht])
theorem many_bset {P : TS} (hW : TW P) : many (bset P) = sumb (tb P) (tn P) := by
  unfold bset
  rw [many_bits _ (by have := hW.1; omega)]
  refine sumb_congr (fun t ht => ?_)
  have := hW.2.2.1 t ht
  have h2 : tb P t = 0 ∨ tb P t = 1 := by omega
  rcases h2 with e | e <;> rw [e] <;> rfl
theorem hcn_le {P : TS} (hv : ∀ t, t < tn P → 1 ≤ tv P t ∧ tv P t ≤ 4) (hb : ∀ t, t < tn P → tb P t ≤ 1) : ∀ k, k ≤ tn P → 1 ≤ hcn P k ∧ hcn P k ≤ 4 ^ sumb (tb P) k
  | 0, _ => ⟨Nat.le_refl 1, Nat.le_refl 1⟩
  | k + 1, h => by
    obtain ⟨i1, i2⟩ := hcn_le hv hb k (by omega)
    obtain ⟨v1, v2⟩ := hv k (by omega)
    have b1 := hb k (by omega)
    unfold hcn sumb
    by_cases e : tb P k = 1
    · rw [if_pos e, e, Nat.pow_succ]
      exact ⟨Nat.mul_pos i1 v1, Nat.mul_le_mul i2 v2⟩
    · rw [if_neg e, show tb P k = 0 by omega, Nat.add_zero]
      exact ⟨i1, i2⟩
theorem hcn_congr {P Q : TS} : ∀ k, (∀ t, t < k → tb P t = tb Q t ∧ tv P t = tv Q t) → hcn P k = hcn Q k
  | 0, _ => rfl
  | k + 1, h => by
    unfold hcn
    rw [hcn_congr k (fun t ht => h t (by omega)), (h k (by omega)).1, (h k (by omega)).2]
theorem hatn_congr {P Q : TS} : ∀ k, (∀ t, t < k → tb P t = tb Q t ∧ tv P t = tv Q t) → ∀ j, hatn P k j = hatn Q k j
  | 0, _, _ => rfl
  | k + 1, h, j => by
    unfold hatn
    rw [(h k (by omega)).1, (h k (by omega)).2, hatn_congr k (fun t ht => h t (by omega)), hatn_congr k (fun t ht => h t (by omega))]

