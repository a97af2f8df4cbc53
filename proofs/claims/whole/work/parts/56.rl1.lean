/-! the longest rows as the reference seeks them: pure -/
abbrev BS : Type := Nat × (Nat → Int32)
def dW (T : TS) (ch : Nat → Nat → Nat → (Nat → Int32) → Nat → BS → BS) (rest L d : Nat) (ws : Nat → Int32) (dep : Nat) : Nat → Nat → BS → BS
  | 0, _, B => B
  | e + 1, p, B => if rest.testBit p = true ∧ lLets T L d p = true then dW T ch rest L d ws dep e (p + 1) (ch (clr rest p) (p + 1) (uL T L p) (upd ws dep (nI p)) (dep + 1) (if B.1 < dep + 1 then (dep + 1, upd ws dep (nI p)) else B)) else dW T ch rest L d ws dep e (p + 1) B
def dF (T : TS) : Nat → Nat → Nat → Nat → (Nat → Int32) → Nat → BS → BS
  | 0 => fun _ _ _ _ _ B => B
  | c + 1 => fun rest L d ws dep B => dW T (dF T c) rest L d ws dep (tm T) 0 B
def vE (T : TS) (rest L d p : Nat) : Nat := if lLets T L d p = true then Ls T rest p (bb T (uL T L p)) else 0
def mxP (f : Nat → Nat) : Nat → Nat → Nat
  | 0, _ => 0
  | e + 1, p => max (f p) (mxP f e (p + 1))
theorem mxP_b (f : Nat → Nat) : ∀ e p B, (∀ q, p ≤ q → q < p + e → f q ≤ B) → mxP f e p ≤ B
  | 0, p, B, h => Nat.zero_le _
  | e + 1, p, B, h => by
    unfold mxP
    exact Nat.max_le.mpr ⟨h p (by omega) (by omega), mxP_b f e (p + 1) B (fun q a b => h q (by omega) (by omega))⟩
theorem mxP_g (f : Nat → Nat) : ∀ e p q, p ≤ q → q < p + e → f q ≤ mxP f e p
  | 0, p, q, h1, h2 => by omega
  | e + 1, p, q, h1, h2 => by
    unfold mxP
    by_cases z : q = p
    · rw [z]; exact Nat.le_max_left _ _
    · exact Nat.le_trans (mxP_g f e (p + 1) q (by omega) (by omega)) (Nat.le_max_right _ _)
theorem mxJ_g {f : Nat → Nat} : ∀ n q, q < n → f q ≤ mxJ f n
  | 0, q, h => by omega
  | n + 1, q, h => by
    rw [mxJ_s]
    by_cases z : q = n
    · rw [z]; split <;> omega
    · have := mxJ_g (f := f) n q (by omega)
      split <;> omega
theorem mxP_J (f : Nat → Nat) (n : Nat) : mxP f n 0 = mxJ f n := by
  refine Nat.le_antisymm (mxP_b f n 0 _ (fun q _ h => mxJ_g n q (by omega))) (mxJ_le n (fun j hj => mxP_g f n 0 j (by omega) (by omega)))
theorem mxP_congr {f g : Nat → Nat} : ∀ e p, (∀ q, p ≤ q → q < p + e → f q = g q) → mxP f e p = mxP g e p
  | 0, _, _ => rfl
  | e + 1, p, h => by
    unfold mxP
    rw [h p (by omega) (by omega), mxP_congr e (p + 1) (fun q a b => h q (by omega) (by omega))]
theorem bb_tab : ∀ n, n < 6 → ∀ u, u < 32 → u < 2 ^ n → many u = 1 → brd (bbs u n 0) = u := by decide +kernel
theorem bbs_0 : ∀ d t, bbs 0 d t = 0
  | 0, _ => rfl
  | d + 1, t => by
    unfold bbs
    rw [if_neg, bbs_0 d (t + 1)]
    rw [Nat.shiftLeft_eq, Nat.one_mul]
    exact (Nat.ne_of_gt (Nat.two_pow_pos t)).symm
/-- what bars is what the last differed in -/
theorem bar_ps {T : TS} (hn : tn T ≤ 5) {u w : Nat} (hu : u < 2 ^ tn T) (h : u = 0 ∨ ∃ a, ps (tl T) u a = true) : ps (tl T) w (brd (bb T u)) = ps (tl T) w u := by
  by_cases e : tl T = 2
  · rcases h with h | ⟨a, h⟩
    · subst h
      unfold bb
      rw [bbs_0]
      split <;> rfl
    · have h1 : many u = 1 := by
        rw [e] at h
        unfold ps at h
        simp at h
        exact h.1
      have hu32 : u < 32 := Nat.lt_of_lt_of_le hu (Nat.pow_le_pow_right (n := 2) (by decide) hn)
      have := bb_tab (tn T) (by omega) u hu32 hu h1
      unfold bb
      rw [if_pos e, this]
  · unfold ps
    simp [e]
theorem uL_2n (T : TS) (L p : Nat) : uL T L p < 2 ^ tn T := by
  unfold uL
  split
  · exact Nat.two_pow_pos _
  · exact Nat.lt_of_le_of_lt Nat.and_le_left (bits_lt _ _)
theorem vE_q {T : TS} (hn : tn T ≤ 5) {rest L d p : Nat} (h1 : rest.testBit p = true) (h2 : lLets T L d p = true) : vE T rest L d p = mxP (vE T (clr rest p) (p + 1) (uL T L p)) (tm T) 0 + 1 := by
  unfold vE
  rw [if_pos h2, Ls_eq, if_pos h1, mxP_J]
  congr 1
  refine mxJ_congr _ (fun j hj => ?_)
  have hb : uL T L p = 0 ∨ ∃ a, ps (tl T) (uL T L p) a = true := by
    unfold lLets at h2
    rw [Bool.or_eq_true] at h2
    rcases h2 with q | q
    · left
      have : L = 0 := by simpa using q
      unfold uL
      rw [if_pos this]
    · right; exact ⟨d, q⟩
  rw [bar_ps hn (uL_2n T L p) hb]
  unfold lLets
  have e2 : uL T (p + 1) j = UU T p j &&& seen T := by simp [uL]
  rw [e2]
  simp
theorem vE_n {T : TS} {rest L d p : Nat} (h : ¬ (rest.testBit p = true ∧ lLets T L d p = true)) : vE T rest L d p = 0 := by
  unfold vE
  by_cases h2 : lLets T L d p = true
  · rw [if_pos h2, Ls_eq, if_neg (fun q => h ⟨q, h2⟩)]
  · rw [if_neg h2]
/-- the k-th of the row that goes on from place p -/
def pAp (T : TS) (k e p rest L d need : Nat) : Int32 := match fw T rest L d need e p with
  | none => -4
  | some q => pA T k (clr rest q) (q + 1) (uL T L q) (need - 1)
theorem pA_p (T : TS) (k rest L d need : Nat) : pA T (k + 1) rest L d need = pAp T k (tm T) 0 rest L d need := by
  rw [pA, pAp]
  rcases fw T rest L d need (tm T) 0 with _ | q <;> rfl
theorem pAp_y {T : TS} {k e p rest L d need : Nat} (h : lLets T L d p = true ∧ Ls T rest p (bb T (uL T L p)) = need) : pAp T k (e + 1) p rest L d need = pA T k (clr rest p) (p + 1) (uL T L p) (need - 1) := by
  unfold pAp
  rw [fw, if_pos h]
theorem pAp_n {T : TS} {k e p rest L d need : Nat} (h : ¬ (lLets T L d p = true ∧ Ls T rest p (bb T (uL T L p)) = need)) : pAp T k (e + 1) p rest L d need = pAp T k e (p + 1) rest L d need := by
  unfold pAp
  rw [fw, if_neg h]
def Rs (T : TS) (R B : BS) (ws : Nat → Int32) (dep e p rest L d M : Nat) : Prop := R.1 = (if dep + M ≤ B.1 then B.1 else dep + M) ∧ ∀ k, k < R.1 → R.2 k = if dep + M ≤ B.1 then B.2 k else if k < dep then ws k else pAp T (k - dep) e p rest L d M
theorem dW_spec {T : TS} (hn : tn T ≤ 5) (hm : tm T ≤ 9) {c : Nat} (ih : ∀ rest L d ws dep B, rest < 512 → many rest < c → dep ≤ B.1 → Rs T (dF T c rest L d ws dep B) B ws dep (tm T) 0 rest L d (mxP (vE T rest L d) (tm T) 0)) {rest L d dep : Nat} {ws : Nat → Int32} (hr : rest < 512) (hc : many rest < c + 1) : ∀ e p B, p + e = tm T → dep ≤ B.1 → Rs T (dW T (dF T c) rest L d ws dep e p B) B ws dep e p rest L d (mxP (vE T rest L d) e p)
  | 0, p, B, hp, hB => by
    unfold dW mxP
    refine ⟨by rw [if_pos (by omega)], fun k hk => by rw [if_pos (by omega)]⟩
  | e + 1, p, B, hp, hB => by
    unfold dW
    by_cases hq : rest.testBit p = true ∧ lLets T L d p = true
    · rw [if_pos hq]
      have hv := vE_q hn hq.1 hq.2
      have hcm := clr_many p (by omega) rest hr hq.1
      have hLs : vE T rest L d p = Ls T rest p (bb T (uL T L p)) := by unfold vE; rw [if_pos hq.2]
      generalize hB1 : (if B.1 < dep + 1 then ((dep + 1, upd ws dep (nI p)) : BS) else B) = B1
      have hB1g : dep + 1 ≤ B1.1 := by
        rw [← hB1]
        by_cases w : B.1 < dep + 1
        · rw [if_pos w]; exact Nat.le_refl _
        · rw [if_neg w]; omega
      have h2 := ih (clr rest p) (p + 1) (uL T L p) (upd ws dep (nI p)) (dep + 1) B1 (clr_512 hr) (by omega) hB1g
      generalize dF T c (clr rest p) (p + 1) (uL T L p) (upd ws dep (nI p)) (dep + 1) B1 = B2 at h2 ⊢
      generalize hm' : mxP (vE T (clr rest p) (p + 1) (uL T L p)) (tm T) 0 = m' at h2 hv
      -- what B2 is
      have hB2 : Rs T B2 B ws dep (e + 1) p rest L d (m' + 1) := by
        obtain ⟨q1, q2⟩ := h2
        by_cases k1 : dep + (m' + 1) ≤ B.1
        · have eB : B1 = B := by rw [← hB1, if_neg (by omega)]
          rw [eB] at q1 q2
          rw [if_pos (by omega)] at q1
          refine ⟨by rw [if_pos k1]; exact q1, fun k hk => ?_⟩
          rw [if_pos k1, q2 k hk, if_pos (by omega)]
        · have e1 : B2.1 = dep + (m' + 1) := by
            rw [q1]
            rw [← hB1]
            by_cases z : B.1 < dep + 1
            · rw [if_pos z]
              show (if dep + 1 + m' ≤ dep + 1 then dep + 1 else dep + 1 + m') = _
              split <;> omega
            · rw [if_neg z, if_neg (by omega)]
              omega
          refine ⟨by rw [if_neg k1]; exact e1, fun k hk => ?_⟩
          rw [if_neg k1, q2 k hk, pAp_y ⟨hq.2, by rw [← hLs, hv]⟩]
          rw [show m' + 1 - 1 = m' by omega]
          by_cases z : dep + 1 + m' ≤ B1.1
          · rw [if_pos z]
            have m0 : m' = 0 ∧ B.1 < dep + 1 := by
              rw [← hB1] at z
              by_cases w : B.1 < dep + 1
              · rw [if_pos w] at z
                have z : dep + 1 + m' ≤ dep + 1 := z
                omega
              · rw [if_neg w] at z; omega
            have eB : B1 = (dep + 1, upd ws dep (nI p)) := by rw [← hB1, if_pos m0.2]
            rw [eB]
            show upd ws dep (nI p) k = _
            by_cases w : k < dep
            · rw [if_pos w, pk_un (by omega)]
            · rw [if_neg w, show k = dep by omega, pk_us, Nat.sub_self]
              show _ = lat (p + 1)
              rw [lat_s]
          · rw [if_neg z]
            by_cases w : k < dep
            · rw [if_pos (by omega), if_pos w, pk_un (by omega)]
            · rw [if_neg w]
              by_cases w2 : k = dep
              · rw [if_pos (by omega), w2, pk_us, Nat.sub_self]
                show _ = lat (p + 1)
                rw [lat_s]
              · rw [if_neg (by omega), show k - dep = (k - (dep + 1)) + 1 by omega, pA_p]
      have hB2g : dep ≤ B2.1 := by rw [hB2.1]; split <;> omega
      have h3 := dW_spec hn hm ih hr hc (L := L) (d := d) (ws := ws) (dep := dep) e (p + 1) B2 (by omega) hB2g
      generalize dW T (dF T c) rest L d ws dep e (p + 1) B2 = R at h3 ⊢
      have eM : mxP (vE T rest L d) (e + 1) p = max (m' + 1) (mxP (vE T rest L d) e (p + 1)) := by
        show max (vE T rest L d p) _ = _
        rw [hv]
      rw [eM]
      generalize mxP (vE T rest L d) e (p + 1) = M2 at h3 ⊢
      obtain ⟨r1, r2⟩ := h3
      obtain ⟨s1, s2⟩ := hB2
      by_cases z : M2 ≤ m' + 1
      · rw [Nat.max_eq_left z]
        have z2 : dep + M2 ≤ B2.1 := by rw [s1]; split <;> omega
        rw [if_pos z2] at r1
        refine ⟨by rw [r1, s1], fun k hk => ?_⟩
        rw [r2 k hk, if_pos z2]
        exact s2 k (by omega)
      · rw [Nat.max_eq_right (by omega)]
        by_cases w : dep + M2 ≤ B.1
        · have e2 : B2.1 = B.1 := by rw [s1, if_pos (by omega)]
          rw [if_pos (by omega)] at r1
          refine ⟨by rw [if_pos w]; omega, fun k hk => ?_⟩
          rw [if_pos w, r2 k hk, if_pos (by omega), s2 k (by omega), if_pos (by omega)]
        · have e2 : ¬ dep + M2 ≤ B2.1 := by rw [s1]; split <;> omega
          rw [if_neg e2] at r1
          refine ⟨by rw [if_neg w]; exact r1, fun k hk => ?_⟩
          rw [if_neg w, r2 k hk, if_neg e2, pAp_n (fun q => by rw [← hLs, hv] at q; omega)]
    · rw [if_neg hq]
      have hv := vE_n hq
      have h3 := dW_spec hn hm ih hr hc (L := L) (d := d) (ws := ws) (dep := dep) e (p + 1) B (by omega) hB
      have eM : mxP (vE T rest L d) (e + 1) p = mxP (vE T rest L d) e (p + 1) := by
        show max (vE T rest L d p) _ = _
        rw [hv, Nat.zero_max]
      rw [eM]
      generalize mxP (vE T rest L d) e (p + 1) = M2 at h3 ⊢
      obtain ⟨r1, r2⟩ := h3
      refine ⟨r1, fun k hk => ?_⟩
      rw [r2 k hk]
      by_cases w : dep + M2 ≤ B.1
      · rw [if_pos w, if_pos w]
      · rw [if_neg w, if_neg w, pAp_n (fun q => by
          have : vE T rest L d p = M2 := by unfold vE; rw [if_pos q.1]; exact q.2
          omega)]
theorem dF_spec {T : TS} (hn : tn T ≤ 5) (hm : tm T ≤ 9) : ∀ c rest L d ws dep B, rest < 512 → many rest < c → dep ≤ B.1 → Rs T (dF T c rest L d ws dep B) B ws dep (tm T) 0 rest L d (mxP (vE T rest L d) (tm T) 0)
  | 0, rest, L, d, ws, dep, B, hr, hc, hB => by omega
  | c + 1, rest, L, d, ws, dep, B, hr, hc, hB => dW_spec hn hm (dF_spec hn hm c) hr hc (tm T) 0 B (by omega) hB
theorem dF_top {T : TS} (hn : tn T ≤ 5) (hm : tm T ≤ 9) {set : Nat} (hs : set < 512) (ws : Nat → Int32) {B : BS} (hB : B.1 = 0) : (dF T 10 set 0 0 ws 0 B).1 = mostL T set ∧ ∀ k, k < mostL T set → (dF T 10 set 0 0 ws 0 B).2 k = pA T (k + 1) set 0 0 (mostL T set) := by
  have h9 := many9 set hs
  obtain ⟨r1, r2⟩ := dF_spec hn hm 10 set 0 0 ws 0 B hs (by omega) (by omega)
  have eM : mxP (vE T set 0 0) (tm T) 0 = mostL T set := by
    rw [mxP_J]
    unfold mostL
    refine mxJ_congr _ (fun j _ => ?_)
    unfold vE lLets uL
    simp [bb, bbs_0]
  rw [eM] at r1 r2
  have e1 : (dF T 10 set 0 0 ws 0 B).1 = mostL T set := by
    rw [r1]
    split <;> omega
  refine ⟨e1, fun k hk => ?_⟩
  rw [r2 k (by omega), if_neg (by omega), if_neg (by omega), pA_p, Nat.sub_zero]

