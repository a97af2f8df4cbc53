/-! the reference reads: pure -/
/-- where the figures from k on end -/
def rnd (x : Nat → Int32) : Nat → Nat → Nat
  | 0, k => k
  | d + 1, k => if dgt (x k) = none then k else rnd x d (k + 1)
def ren (x : Nat → Int32) (n k : Nat) : Nat := rnd x (n - k) k
theorem rnd_le (x : Nat → Int32) : ∀ d k, k ≤ rnd x d k ∧ rnd x d k ≤ k + d
  | 0, k => ⟨Nat.le_refl _, Nat.le_refl _⟩
  | d + 1, k => by
    unfold rnd
    split
    · omega
    · have := rnd_le x d (k + 1); omega
theorem rnd_in (x : Nat → Int32) : ∀ d k j, k ≤ j → j < rnd x d k → dgt (x j) ≠ none
  | 0, k, j, h1, h2 => by unfold rnd at h2; omega
  | d + 1, k, j, h1, h2 => by
    unfold rnd at h2
    split at h2
    · omega
    · rename_i q
      by_cases e : j = k
      · rw [e]; exact q
      · exact rnd_in x d (k + 1) j (by omega) h2
theorem rnd_out (x : Nat → Int32) : ∀ d k, rnd x d k = k + d ∨ dgt (x (rnd x d k)) = none
  | 0, k => Or.inl rfl
  | d + 1, k => by
    by_cases q : dgt (x k) = none
    · right; unfold rnd; rw [if_pos q]; exact q
    · unfold rnd; rw [if_neg q]
      rcases rnd_out x d (k + 1) with a | a
      · left; omega
      · right; exact a
theorem rnd_eq (x : Nat → Int32) : ∀ d k c, k ≤ c → c ≤ k + d → (∀ j, k ≤ j → j < c → dgt (x j) ≠ none) → (c = k + d ∨ dgt (x c) = none) → rnd x d k = c
  | 0, k, c, h1, h2, _, _ => by unfold rnd; omega
  | d + 1, k, c, h1, h2, h3, h4 => by
    by_cases e : k = c
    · subst e
      unfold rnd
      rcases h4 with a | a
      · omega
      · rw [if_pos a]
    · unfold rnd
      rw [if_neg (h3 k (Nat.le_refl _) (by omega))]
      exact rnd_eq x d (k + 1) c (by omega) (by omega) (fun j a b => h3 j (by omega) b) (by rcases h4 with a | a; left; omega; right; exact a)
theorem fnd_in (x : Nat → Int32) (s : Int32) : ∀ d k j, k ≤ j → j < fnd x s d k → x j ≠ s
  | 0, k, j, h1, h2 => by unfold fnd at h2; omega
  | d + 1, k, j, h1, h2 => by
    unfold fnd at h2
    split at h2
    · omega
    · rename_i q
      by_cases e : j = k
      · rw [e]; exact q
      · exact fnd_in x s d (k + 1) j (by omega) h2
theorem fnd_out (x : Nat → Int32) (s : Int32) : ∀ d k, fnd x s d k = k + d ∨ x (fnd x s d k) = s
  | 0, k => Or.inl rfl
  | d + 1, k => by
    by_cases q : x k = s
    · right; unfold fnd; rw [if_pos q]; exact q
    · unfold fnd; rw [if_neg q]
      rcases fnd_out x s d (k + 1) with a | a
      · left; omega
      · right; exact a
theorem fnd_eq (x : Nat → Int32) (s : Int32) : ∀ d k c, k ≤ c → c < k + d → (∀ j, k ≤ j → j < c → x j ≠ s) → x c = s → fnd x s d k = c
  | 0, k, c, h1, h2, _, _ => by omega
  | d + 1, k, c, h1, h2, h3, h4 => by
    by_cases e : k = c
    · subst e
      unfold fnd
      rw [if_pos h4]
    · unfold fnd
      rw [if_neg (h3 k (Nat.le_refl _) (by omega))]
      exact fnd_eq x s d (k + 1) c (by omega) (by omega) (fun j a b => h3 j (by omega) b) h4
theorem dgt_ne {c : Int32} (h : dgt c ≠ none) {m : Nat} (hm : m < 48 ∨ 57 < m) (hs : m < 2 ^ 31) : c ≠ nI m := by
  rcases hd : dgt c with _ | g
  · exact absurd hd h
  · obtain ⟨a, b⟩ := dgt_some hd
    rw [b]
    intro q
    have := (nI_eq (by omega) hs).mp q
    omega
theorem dgt_59 : dgt 59 = none := by decide
theorem dgt_44 : dgt 44 = none := by decide
theorem numS_in (x : Nat → Int32) : ∀ d k s v, numS x d k s = some v → ∀ j, k ≤ j → j < k + d → dgt (x j) ≠ none
  | 0, k, s, v, _, j, h1, h2 => by omega
  | d + 1, k, s, v, h, j, h1, h2 => by
    unfold numS at h
    split at h
    · cases h
    · rename_i g hg
      by_cases e : j = k
      · rw [e, hg]; exact fun q => by cases q
      · exact numS_in x d (k + 1) _ v h j (by omega) (by omega)
theorem numN_in {x : Nat → Int32} {a e v : Nat} (h : numN x a e = some v) : a < e ∧ e ≤ a + 2 ∧ ∀ j, a ≤ j → j < e → dgt (x j) ≠ none := by
  unfold numN at h
  split at h
  · rename_i q
    exact ⟨q.1, q.2, fun j h1 h2 => numS_in x _ _ _ _ h j h1 (by omega)⟩
  · cases h
theorem ren_num {x : Nat → Int32} {n a e v : Nat} (h : numN x a e = some v) (he : e ≤ n) (ho : e = n ∨ dgt (x e) = none) : ren x n a = e := by
  obtain ⟨h1, h2, h3⟩ := numN_in h
  exact rnd_eq x _ a e (by omega) (by omega) h3 (by rcases ho with q | q; left; omega; right; exact q)
/-- an item as the reference reads it: the place of its end, what is told then -/
def thR (x : Nat → Int32) (n a : Nat) (P : TS) : Option TS :=
  if ren x n a < n ∧ x (ren x n a) = 44 then thg P (numN x a (ren x n a)) (numN x (ren x n a + 1) (ren x n (ren x n a + 1))) else none
def thE (x : Nat → Int32) (n a : Nat) : Nat := ren x n (ren x n a + 1)
def prR (x : Nat → Int32) (n a : Nat) (P : TS) : Option TS := prs P x a (ren x n a)
def itR (x : Nat → Int32) (n a : Nat) (P : TS) : Option TS :=
  if x a = 116 then thR x n (a + 1) P
  else if x a = 112 then prR x n (a + 1) P
  else if x a = 108 then lawO P (numN x (a + 1) (ren x n (a + 1)))
  else if x a = 103 then grdO P (numN x (a + 1) (ren x n (a + 1)))
  else none
def itE (x : Nat → Int32) (n a : Nat) : Nat := if x a = 116 then thE x n (a + 1) else ren x n (a + 1)
def itO (x : Nat → Int32) (n a : Nat) (P : TS) : Option TS := if itE x n a < n ∧ x (itE x n a) = 59 then itR x n a P else none
theorem thg_some {P P2 : TS} {o1 o2 : Option Nat} (h : thg P o1 o2 = some P2) : ∃ v w, o1 = some v ∧ o2 = some w := by
  unfold thg at h
  split at h
  · rename_i v w
    exact ⟨v, w, rfl, rfl⟩
  · cases h
theorem prs_some {P P2 : TS} {x : Nat → Int32} {a e : Nat} (h : prs P x a e = some P2) : a < e ∧ e = a + tn P ∧ ∀ j, a ≤ j → j < e → dgt (x j) ≠ none := by
  unfold prs at h
  split at h
  · rename_i q
    obtain ⟨q1, q2, q3, q4⟩ := q
    refine ⟨by omega, q2, fun j h1 h2 => ?_⟩
    have := (prOk_spec _ _ q4 (j - a) (by omega) (by omega)).2
    rw [show a + (j - a) = j by omega] at this
    rw [this]
    exact fun z => by cases z
  · cases h
theorem law_some {P P2 : TS} {o : Option Nat} (h : lawO P o = some P2) : ∃ v, o = some v := by
  unfold lawO at h
  split at h
  · exact ⟨_, rfl⟩
  · cases h
theorem grd_some {P P2 : TS} {o : Option Nat} (h : grdO P o = some P2) : ∃ v, o = some v := by
  unfold grdO at h
  split at h
  · exact ⟨_, rfl⟩
  · cases h
/-- both readings agree on an item -/
theorem it_fwd {x : Nat → Int32} {n a : Nat} {P P2 : TS} (ha : a < n) (h : itO x n a P = some P2) : fnd x 59 (n - a) a = itE x n a ∧ itE x n a < n ∧ itm x a (itE x n a) P = some P2 := by
  unfold itO at h
  split at h
  case isFalse => cases h
  rename_i q
  obtain ⟨qn, q59⟩ := q
  unfold itR at h
  by_cases e1 : x a = 116
  · rw [if_pos e1] at h
    unfold thR at h
    split at h
    case isFalse => cases h
    rename_i qc
    obtain ⟨qc1, qc2⟩ := qc
    have eE : itE x n a = ren x n (ren x n (a + 1) + 1) := by unfold itE thE; rw [if_pos e1]
    rw [eE] at qn q59 ⊢
    obtain ⟨v, w, hv, hw⟩ := thg_some h
    obtain ⟨i1, i2, i3⟩ := numN_in hv
    obtain ⟨j1, j2, j3⟩ := numN_in hw
    have hf : fnd x 59 (n - a) a = ren x n (ren x n (a + 1) + 1) := by
      refine fnd_eq x 59 _ a _ (by omega) (by omega) (fun j h1 h2 => ?_) q59
      by_cases z : j = a
      · rw [z, e1]; decide
      · by_cases z2 : j < ren x n (a + 1)
        · exact dgt_ne (i3 j (by omega) z2) (m := 59) (by omega) (by decide)
        · by_cases z3 : j = ren x n (a + 1)
          · rw [z3, qc2]; decide
          · exact dgt_ne (j3 j (by omega) h2) (m := 59) (by omega) (by decide)
    refine ⟨hf, qn, ?_⟩
    unfold itm
    rw [if_pos e1]
    have hf2 : fnd x 44 (ren x n (ren x n (a + 1) + 1) - (a + 1)) (a + 1) = ren x n (a + 1) := by
      refine fnd_eq x 44 _ (a + 1) _ (by omega) (by omega) (fun j h1 h2 => ?_) qc2
      exact dgt_ne (i3 j (by omega) h2) (m := 44) (by omega) (by decide)
    rw [hf2]
    exact h
  · have eE : itE x n a = ren x n (a + 1) := by unfold itE; rw [if_neg e1]
    rw [eE] at qn q59 ⊢
    rw [if_neg e1] at h
    have key : ∀ {e}, e = ren x n (a + 1) → (∀ j, a + 1 ≤ j → j < e → dgt (x j) ≠ none) → x a ≠ 59 → a + 1 ≤ e → fnd x 59 (n - a) a = ren x n (a + 1) := by
      intro e he hj ha59 hle
      refine fnd_eq x 59 _ a _ (by omega) (by omega) (fun j h1 h2 => ?_) q59
      by_cases z : j = a
      · rw [z]; exact ha59
      · exact dgt_ne (hj j (by omega) (by omega)) (m := 59) (by omega) (by decide)
    by_cases e2 : x a = 112
    · rw [if_pos e2] at h
      unfold prR at h
      obtain ⟨i1, i2, i3⟩ := prs_some h
      refine ⟨key rfl i3 (by rw [e2]; decide) (by omega), qn, ?_⟩
      unfold itm
      rw [if_neg e1, if_pos e2]
      exact h
    · rw [if_neg e2] at h
      by_cases e3 : x a = 108
      · rw [if_pos e3] at h
        obtain ⟨v, hv⟩ := law_some h
        obtain ⟨i1, i2, i3⟩ := numN_in hv
        refine ⟨key rfl i3 (by rw [e3]; decide) (by omega), qn, ?_⟩
        unfold itm
        rw [if_neg e1, if_neg e2, if_pos e3]
        exact h
      · rw [if_neg e3] at h
        by_cases e4 : x a = 103
        · rw [if_pos e4] at h
          obtain ⟨v, hv⟩ := grd_some h
          obtain ⟨i1, i2, i3⟩ := numN_in hv
          refine ⟨key rfl i3 (by rw [e4]; decide) (by omega), qn, ?_⟩
          unfold itm
          rw [if_neg e1, if_neg e2, if_neg e3, if_pos e4]
          exact h
        · rw [if_neg e4] at h
          cases h
theorem it_bwd {x : Nat → Int32} {n a : Nat} {P P2 : TS} (ha : a < n) (hn : fnd x 59 (n - a) a ≠ n) (h : itm x a (fnd x 59 (n - a) a) P = some P2) : itO x n a P = some P2 := by
  have hb := fnd_le x 59 (n - a) a
  have h59 : x (fnd x 59 (n - a) a) = 59 := by
    rcases fnd_out x 59 (n - a) a with q | q
    · omega
    · exact q
  have hlt : fnd x 59 (n - a) a < n := by omega
  revert h h59 hlt
  generalize fnd x 59 (n - a) a = e
  intro h h59 hlt
  unfold itm at h
  unfold itO itE itR
  by_cases e1 : x a = 116
  · rw [if_pos e1] at h
    simp only [if_pos e1]
    obtain ⟨v, w, hv, hw⟩ := thg_some h
    obtain ⟨i1, i2, i3⟩ := numN_in hv
    obtain ⟨j1, j2, j3⟩ := numN_in hw
    have fb := fnd_le x 44 (e - (a + 1)) (a + 1)
    have f44 : x (fnd x 44 (e - (a + 1)) (a + 1)) = 44 := by
      rcases fnd_out x 44 (e - (a + 1)) (a + 1) with q | q
      · omega
      · exact q
    have r1 : ren x n (a + 1) = fnd x 44 (e - (a + 1)) (a + 1) := ren_num hv (by omega) (Or.inr (by rw [f44]; exact dgt_44))
    have r2 : ren x n (fnd x 44 (e - (a + 1)) (a + 1) + 1) = e := ren_num hw (by omega) (Or.inr (by rw [h59]; exact dgt_59))
    unfold thE thR
    rw [r1, r2, if_pos ⟨hlt, h59⟩, if_pos ⟨by omega, f44⟩]
    exact h
  · rw [if_neg e1] at h
    simp only [if_neg e1]
    by_cases e2 : x a = 112
    · rw [if_pos e2] at h
      simp only [if_pos e2]
      obtain ⟨i1, i2, i3⟩ := prs_some h
      have r1 : ren x n (a + 1) = e := rnd_eq x _ (a + 1) e (by omega) (by omega) i3 (Or.inr (by rw [h59]; exact dgt_59))
      unfold prR
      rw [r1, if_pos ⟨hlt, h59⟩]
      exact h
    · rw [if_neg e2] at h
      simp only [if_neg e2]
      by_cases e3 : x a = 108
      · rw [if_pos e3] at h
        simp only [if_pos e3]
        obtain ⟨v, hv⟩ := law_some h
        have r1 : ren x n (a + 1) = e := ren_num hv (by omega) (Or.inr (by rw [h59]; exact dgt_59))
        rw [r1, if_pos ⟨hlt, h59⟩]
        exact h
      · rw [if_neg e3] at h
        simp only [if_neg e3]
        by_cases e4 : x a = 103
        · rw [if_pos e4] at h
          simp only [if_pos e4]
          obtain ⟨v, hv⟩ := grd_some h
          have r1 : ren x n (a + 1) = e := ren_num hv (by omega) (Or.inr (by rw [h59]; exact dgt_59))
          rw [r1, if_pos ⟨hlt, h59⟩]
          exact h
        · rw [if_neg e4] at h
          cases h
/-- the reading of all items, as the reference does it -/
def rdR (x : Nat → Int32) (n : Nat) : Nat → Nat → TS → Option Nat × Option TS
  | 0, _, P => (none, some P)
  | d + 1, a, P => if n ≤ a then (none, some P) else match itO x n a P with
    | none => (some a, none)
    | some P2 => rdR x n d (itE x n a + 1) P2
theorem rdR_rd (x : Nat → Int32) (n : Nat) : ∀ d a P, (rdR x n d a P).1 = (rd x n d a P).1 ∧ ((rd x n d a P).1 = none → (rdR x n d a P).2 = some (rd x n d a P).2)
  | 0, a, P => ⟨rfl, fun _ => rfl⟩
  | d + 1, a, P => by
    unfold rdR rd
    by_cases h1 : n ≤ a
    · rw [if_pos h1, if_pos h1]
      exact ⟨rfl, fun _ => rfl⟩
    · rw [if_neg h1, if_neg h1]
      rcases ho : itO x n a P with _ | P2
      · have hk : ∀ (hn : fnd x 59 (n - a) a ≠ n), itm x a (fnd x 59 (n - a) a) P = none := by
          intro hn
          rcases hi : itm x a (fnd x 59 (n - a) a) P with _ | P3
          · rfl
          · rw [it_bwd (by omega) hn hi] at ho
            cases ho
        by_cases h2 : fnd x 59 (n - a) a = n
        · rw [if_pos h2]
          exact ⟨rfl, fun q => by cases q⟩
        · rw [if_neg h2, hk h2]
          exact ⟨rfl, fun q => by cases q⟩
      · obtain ⟨f1, f2, f3⟩ := it_fwd (by omega) ho
        rw [f1, if_neg (by omega), f3]
        exact rdR_rd x n d (itE x n a + 1) P2

