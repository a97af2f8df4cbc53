/-! the search in circles, pure: d: how far (0: not found), qu: the queue, m: how many are in it -/
def cnD (d : Nat → Nat) : Nat → Nat
  | 0 => 0
  | n + 1 => cnD d n + (if d n = 0 then 0 else 1)
theorem cnD_le (d : Nat → Nat) : ∀ n, cnD d n ≤ n
  | 0 => Nat.le_refl _
  | n + 1 => by
    have := cnD_le d n
    unfold cnD
    split <;> omega
theorem cnD_lt {d : Nat → Nat} {K : Nat} (h : d K = 0) : ∀ n, K < n → cnD d n < n
  | 0, q => absurd q (Nat.not_lt_zero _)
  | n + 1, q => by
    have := cnD_le d n
    unfold cnD
    by_cases e : K = n
    · rw [← e, if_pos h]; rw [← e] at this; omega
    · have := cnD_lt h n (by omega)
      split <;> omega
theorem cnD_up {d : Nat → Nat} {K v : Nat} (h : d K = 0) (hv : v ≠ 0) : ∀ n, cnD (set1 d K v) n = cnD d n + (if K < n then 1 else 0)
  | 0 => by simp [cnD]
  | n + 1 => by
    show cnD (set1 d K v) n + (if set1 d K v n = 0 then 0 else 1) = cnD d n + (if d n = 0 then 0 else 1) + _
    rw [cnD_up h hv n]
    by_cases e : n = K
    · subst e
      simp [set1, hv, h]
    · simp only [set1, if_neg e]
      by_cases q : K < n
      · rw [if_pos q, if_pos (show K < n + 1 by omega)]; omega
      · rw [if_neg q, if_neg (show ¬ K < n + 1 by omega)]; omega
theorem cnD_0 : ∀ n, cnD (fun _ => 0) n = 0
  | 0 => rfl
  | n + 1 => by
    show cnD _ n + 0 = 0
    rw [cnD_0 n]
/-- who begins: i0 y with state k0 y; who goes on from state K: ok K y with state ks K y -/
abbrev BP : Type := Nat × (Nat → Bool) × (Nat → Nat) × (Nat → Nat → Bool) × (Nat → Nat → Nat)
abbrev bN (P : BP) : Nat := P.1
abbrev b0 (P : BP) : Nat → Bool := P.2.1
abbrev bk (P : BP) : Nat → Nat := P.2.2.1
abbrev bo (P : BP) : Nat → Nat → Bool := P.2.2.2.1
abbrev bs (P : BP) : Nat → Nat → Nat := P.2.2.2.2
def bL (P : BP) : Nat → Nat → Prop
  | 0, K => ∃ y, y < bN P ∧ b0 P y = true ∧ bk P y = K
  | k + 1, K => ∃ K' y, bL P k K' ∧ y < bN P ∧ bo P K' y = true ∧ bs P K' y = K
/-- states lie within the array -/
abbrev bW (P : BP) : Prop := (∀ y, y < bN P → b0 P y = true → bk P y < 5120) ∧ (∀ K y, K < 5120 → y < bN P → bo P K y = true → bs P K y < 5120) ∧ ∀ y y', y < bN P → y' < bN P → b0 P y = true → b0 P y' = true → bk P y = bk P y' → y = y'
/-- what holds while the q-th is looked at and y is next -/
abbrev bI (P : BP) (q y : Nat) (d qu : Nat → Nat) (m : Nat) : Prop :=
  (cnD d 5120 = m) ∧ (∀ r, r < m → qu r < 5120 ∧ 1 ≤ d (qu r)) ∧ (∀ K, 1 ≤ d K → ∃ r, r < m ∧ qu r = K) ∧
  (∀ r r', r ≤ r' → r' < m → d (qu r) ≤ d (qu r')) ∧ (q < m → ∀ r, r < m → d (qu r) ≤ d (qu q) + 1) ∧
  (∀ K, 1 ≤ d K → bL P (d K - 1) K) ∧ (∀ y', y' < bN P → b0 P y' = true → d (bk P y') = 1) ∧
  (∀ r, r < q → r < m → ∀ y', y' < bN P → bo P (qu r) y' = true → 1 ≤ d (bs P (qu r) y') ∧ d (bs P (qu r) y') ≤ d (qu r) + 1) ∧
  (q < m → ∀ y', y' < y → y' < bN P → bo P (qu q) y' = true → 1 ≤ d (bs P (qu q) y') ∧ d (bs P (qu q) y') ≤ d (qu q) + 1)
section BI
variable {P : BP} {q y m : Nat} {d qu : Nat → Nat}
theorem bI_le (h : bI P q y d qu m) : m ≤ 5120 := by rw [← h.1]; exact cnD_le _ _
theorem bI_skip (h : bI P q y d qu m) (hno : ¬ (bo P (qu q) y = true ∧ d (bs P (qu q) y) = 0)) : bI P q (y + 1) d qu m := by
  obtain ⟨h1, h2, h3, h4, h5, h6, h7, h8, h9⟩ := h
  refine ⟨h1, h2, h3, h4, h5, h6, h7, h8, fun hq y' hy hyN ho => ?_⟩
  by_cases e : y' = y
  · subst e
    have hd : d (bs P (qu q) y') ≠ 0 := fun z => hno ⟨ho, z⟩
    refine ⟨by omega, ?_⟩
    obtain ⟨r, r1, r2⟩ := h3 _ (by omega : 1 ≤ d (bs P (qu q) y'))
    rw [← r2]
    exact h5 hq r r1
  · exact h9 hq y' (by omega) hyN ho
theorem bI_add (hW : bW P) (h : bI P q y d qu m) (hq : q < m) (hy : y < bN P) (ho : bo P (qu q) y = true) (hd : d (bs P (qu q) y) = 0) : m < 5120 ∧ bI P q (y + 1) (set1 d (bs P (qu q) y) (d (qu q) + 1)) (set1 qu m (bs P (qu q) y)) (m + 1) := by
  obtain ⟨h1, h2, h3, h4, h5, h6, h7, h8, h9⟩ := h
  have hK := hW.2.1 (qu q) y (h2 q hq).1 hy ho
  have hm : m < 5120 := by rw [← h1]; exact cnD_lt hd _ hK
  generalize hKe : bs P (qu q) y = K at hd hK ⊢
  have eq1 : ∀ r, r < m → set1 qu m K r = qu r := fun r hr => if_neg (by omega)
  have eqm : set1 qu m K m = K := if_pos rfl
  have ed : ∀ J, 1 ≤ d J → set1 d K (d (qu q) + 1) J = d J := fun J hJ => if_neg (fun z => by rw [z, hd] at hJ; omega)
  have edK : set1 d K (d (qu q) + 1) K = d (qu q) + 1 := if_pos rfl
  have edq : ∀ r, r < m → set1 d K (d (qu q) + 1) (qu r) = d (qu r) := fun r hr => ed _ (h2 r hr).2
  refine ⟨hm, by rw [cnD_up hd (by omega), if_pos hK, h1], fun r hr => ?_, fun J hJ => ?_, fun r r' hr hr' => ?_, fun hq' r hr => ?_, fun J hJ => ?_, fun y' hy' ho' => ?_, fun r hr hrm y' hy' ho' => ?_, fun hq' y' hy1 hy' ho' => ?_⟩
  · by_cases e : r = m
    · rw [e, eqm, edK]; exact ⟨hK, by omega⟩
    · rw [eq1 r (by omega), edq r (by omega)]; exact h2 r (by omega)
  · by_cases e : J = K
    · exact ⟨m, by omega, by rw [eqm, e]⟩
    · rw [show set1 d K (d (qu q) + 1) J = d J from if_neg e] at hJ
      obtain ⟨r, r1, r2⟩ := h3 J hJ
      exact ⟨r, by omega, by rw [eq1 r r1, r2]⟩
  · by_cases e : r' = m
    · rw [e, eqm, edK]
      by_cases e2 : r = m
      · rw [e2, eqm, edK]; exact Nat.le_refl _
      · rw [eq1 r (by omega), edq r (by omega)]
        exact h5 hq r (by omega)
    · rw [eq1 r (by omega), edq r (by omega), eq1 r' (by omega), edq r' (by omega)]
      exact h4 r r' hr (by omega)
  · rw [eq1 q hq, edq q hq]
    by_cases e : r = m
    · rw [e, eqm, edK]; exact Nat.le_refl _
    · rw [eq1 r (by omega), edq r (by omega)]
      exact h5 hq r (by omega)
  · by_cases e : J = K
    · rw [e, edK, Nat.add_sub_cancel]
      have h0 := (h2 q hq).2
      rw [show d (qu q) = (d (qu q) - 1) + 1 by omega]
      exact ⟨qu q, y, h6 _ h0, hy, ho, hKe⟩
    · rw [show set1 d K (d (qu q) + 1) J = d J from if_neg e] at hJ ⊢
      exact h6 J hJ
  · have := h7 y' hy' ho'
    rw [ed _ (by omega)]
    exact this
  · rw [eq1 r (by omega)] at ho' ⊢
    have := h8 r hr (by omega) y' hy' ho'
    rw [ed _ this.1, edq r (by omega)]
    exact this
  · rw [eq1 q hq] at ho' ⊢
    rw [edq q hq]
    by_cases e : y' = y
    · rw [e, hKe, edK]; omega
    · have := h9 hq y' (by omega) hy' ho'
      rw [ed _ this.1]
      exact this
theorem bI_next (h : bI P q y d qu m) (hy : bN P ≤ y) : bI P (q + 1) 0 d qu m := by
  obtain ⟨h1, h2, h3, h4, h5, h6, h7, h8, h9⟩ := h
  refine ⟨h1, h2, h3, h4, fun hq r hr => ?_, h6, h7, fun r hr hrm y' hy' ho' => ?_, fun _ y' hy' => absurd hy' (Nat.not_lt_zero _)⟩
  · have a := h5 (by omega) r hr
    have b := h4 q (q + 1) (by omega) hq
    omega
  · by_cases e : r = q
    · rw [e] at ho' ⊢
      exact h9 (by omega) y' (by omega) hy' ho'
    · exact h8 r (by omega) hrm y' hy' ho'
theorem bI_end (h : bI P q y d qu m) (hq : m ≤ q) : ∀ k K, bL P k K → 1 ≤ d K ∧ d K ≤ k + 1
  | 0, K, ⟨y', h1, h2, h3⟩ => by
    obtain ⟨_, _, _, _, _, _, h7, _⟩ := h
    have := h7 y' h1 h2
    rw [h3] at this
    omega
  | k + 1, K, ⟨K', y', h1, h2, h3, h4⟩ => by
    have ih := bI_end h hq k K' h1
    obtain ⟨_, _, p3, _, _, _, _, p8, _⟩ := h
    obtain ⟨r, r1, r2⟩ := p3 K' ih.1
    have := p8 r (by omega) r1 y' h2 (by rw [r2]; exact h3)
    rw [r2, h4] at this
    omega
abbrev bJ (P : BP) (y : Nat) (d qu : Nat → Nat) (m : Nat) : Prop := (cnD d 5120 = m) ∧ (∀ r, r < m → qu r < 5120 ∧ d (qu r) = 1) ∧ (∀ K, 1 ≤ d K → d K = 1 ∧ (∃ r, r < m ∧ qu r = K) ∧ ∃ y', y' < y ∧ y' < bN P ∧ b0 P y' = true ∧ bk P y' = K) ∧ ∀ y', y' < y → y' < bN P → b0 P y' = true → d (bk P y') = 1
theorem bJ_0 (P : BP) (qu : Nat → Nat) : bJ P 0 (fun _ => 0) qu 0 := ⟨cnD_0 _, fun r hr => absurd hr (Nat.not_lt_zero _), fun K hK => absurd hK (Nat.not_succ_le_zero 0), fun y' hy => absurd hy (Nat.not_lt_zero _)⟩
theorem bJ_skip (h : bJ P y d qu m) (hno : ¬ b0 P y = true) : bJ P (y + 1) d qu m := by
  obtain ⟨h1, h2, h3, h4⟩ := h
  refine ⟨h1, h2, fun K hK => ?_, fun y' hy hyN h0 => ?_⟩
  · obtain ⟨a, b, y', c1, c2⟩ := h3 K hK
    exact ⟨a, b, y', by omega, c2⟩
  · exact h4 y' (by
      by_cases e : y' = y
      · rw [e] at h0; exact absurd h0 hno
      · omega) hyN h0
theorem bJ_add (hW : bW P) (h : bJ P y d qu m) (hy : y < bN P) (ho : b0 P y = true) : m < 5120 ∧ bJ P (y + 1) (set1 d (bk P y) 1) (set1 qu m (bk P y)) (m + 1) := by
  obtain ⟨h1, h2, h3, h4⟩ := h
  have hK := hW.1 y hy ho
  have hd : d (bk P y) = 0 := by
    rcases Nat.eq_zero_or_pos (d (bk P y)) with z | z
    · exact z
    · obtain ⟨_, _, y', c1, c2, c3, c4⟩ := h3 _ z
      have := hW.2.2 y' y c2 hy c3 ho c4
      omega
  have hm : m < 5120 := by rw [← h1]; exact cnD_lt hd _ hK
  generalize hKe : bk P y = K at hd hK ⊢
  have ed : ∀ J, 1 ≤ d J → set1 d K 1 J = d J := fun J hJ => if_neg (fun z => by rw [z, hd] at hJ; omega)
  have edK : set1 d K 1 K = 1 := if_pos rfl
  have eq1 : ∀ r, r < m → set1 qu m K r = qu r := fun r hr => if_neg (by omega)
  have eqm : set1 qu m K m = K := if_pos rfl
  refine ⟨hm, by rw [cnD_up hd (by decide), if_pos hK, h1], fun r hr => ?_, fun J hJ => ?_, fun y' hy1 hy' ho' => ?_⟩
  · by_cases e : r = m
    · rw [e, eqm, edK]; exact ⟨hK, rfl⟩
    · have := h2 r (by omega)
      rw [eq1 r (by omega), ed _ (by omega)]
      exact this
  · by_cases e : J = K
    · rw [e, edK]
      exact ⟨rfl, ⟨m, by omega, eqm⟩, y, by omega, hy, ho, hKe⟩
    · rw [show set1 d K 1 J = d J from if_neg e] at hJ ⊢
      obtain ⟨a, ⟨r, r1, r2⟩, y', c1, c2⟩ := h3 J hJ
      exact ⟨a, ⟨r, by omega, by rw [eq1 r r1, r2]⟩, y', by omega, c2⟩
  · by_cases e : y' = y
    · rw [e, hKe, edK]
    · have := h4 y' (by omega) hy' ho'
      rw [ed _ (by omega)]
      exact this
theorem bJ_I (h : bJ P y d qu m) (hy : bN P ≤ y) : bI P 0 0 d qu m := by
  obtain ⟨h1, h2, h3, h4⟩ := h
  refine ⟨h1, fun r hr => ⟨(h2 r hr).1, by rw [(h2 r hr).2]; decide⟩, fun K hK => (h3 K hK).2.1, fun r r' _ hr' => ?_, fun hq r hr => ?_, fun K hK => ?_, fun y' hy' ho => h4 y' (by omega) hy' ho, fun r hr => absurd hr (Nat.not_lt_zero _), fun _ y' hy' => absurd hy' (Nat.not_lt_zero _)⟩
  · rw [(h2 r (by omega)).2, (h2 r' hr').2]; exact Nat.le_refl _
  · rw [(h2 r hr).2, (h2 0 hq).2]; decide
  · obtain ⟨a, _, y', c1, c2, c3, c4⟩ := h3 K hK
    rw [a]
    exact ⟨y', c2, c3, c4⟩
end BI

