/-! hats and loans, pure -/
def lfd (T : TS) (loan : Nat) : Nat → Nat
  | 0 => loan
  | t + 1 => if tb T t = 1 then lfd T loan t / 4 else lfd T loan t
def lnv (T : TS) (x : Nat → Nat) (loan t : Nat) : Nat := if tb T t = 1 then lfd T loan t % 4 else x t
def lok (T : TS) (loan : Nat) : Bool := decide (∀ t, t < tn T → (tb T t = 1 → lfd T loan t % 4 < tv T t)) && lfd T loan (tn T) == 0
abbrev LOk (T : TS) (loan : Nat) : Prop := lok T loan = true
theorem LOk_i {T : TS} {l : Nat} : LOk T l ↔ (∀ t, t < tn T → (tb T t = 1 → lfd T l t % 4 < tv T t)) ∧ lfd T l (tn T) = 0 := by
  show (decide (∀ t, t < tn T → (tb T t = 1 → lfd T l t % 4 < tv T t)) && lfd T l (tn T) == 0) = true ↔ _
  rw [Bool.and_eq_true, decide_eq_true_eq, beq_iff_eq]
def lix (T : TS) (y : Nat → Nat) : Nat → Nat → Nat
  | 0, _ => 0
  | d + 1, t => if tb T t = 1 then y t + 4 * lix T y d (t + 1) else lix T y d (t + 1)
def hix (T : TS) (y : Nat → Nat) : Nat → Nat
  | 0 => 0
  | t + 1 => if tb T t = 1 then hix T y t * tv T t + y t else hix T y t
def nbT (T : TS) : Nat → Nat → Nat
  | 0, _ => 0
  | d + 1, t => tb T t + nbT T d (t + 1)
theorem nbT_s (T : TS) : ∀ d t, nbT T d t + sumb (tb T) t = sumb (tb T) (t + d)
  | 0, t => by simp [nbT]
  | d + 1, t => by
    have := nbT_s T d (t + 1)
    show tb T t + nbT T d (t + 1) + _ = _
    rw [show t + (d + 1) = t + 1 + d by omega, ← this]
    show _ = nbT T d (t + 1) + (sumb (tb T) t + tb T t)
    omega
section LN
variable {T : TS}
theorem lix_lt {y : Nat → Nat} (hy : ∀ t, t < tn T → tb T t = 1 → y t < 4) (hb : ∀ t, t < tn T → tb T t ≤ 1) : ∀ d t, t + d = tn T → lix T y d t < 4 ^ nbT T d t
  | 0, t, _ => by simp [lix, nbT]
  | d + 1, t, h => by
    have ih := lix_lt hy hb d (t + 1) (by omega)
    unfold lix nbT
    by_cases e : tb T t = 1
    · have := hy t (by omega) e
      rw [if_pos e, e, Nat.pow_add]
      show _ < 4 * _
      omega
    · have := hb t (by omega)
      rw [if_neg e, show tb T t = 0 by omega, Nat.zero_add]
      exact ih
theorem lfd_lix {y : Nat → Nat} (hy : ∀ t, t < tn T → tb T t = 1 → y t < 4) : ∀ t, t ≤ tn T → lfd T (lix T y (tn T) 0) t = lix T y (tn T - t) t
  | 0, _ => rfl
  | t + 1, h => by
    have ih := lfd_lix hy t (by omega)
    have hs : ∀ d, lix T y (d + 1) t = if tb T t = 1 then y t + 4 * lix T y d (t + 1) else lix T y d (t + 1) := fun _ => rfl
    show (if tb T t = 1 then lfd T (lix T y (tn T) 0) t / 4 else lfd T (lix T y (tn T) 0) t) = _
    rw [ih, show tn T - t = (tn T - (t + 1)) + 1 by omega, hs]
    by_cases e : tb T t = 1
    · have := hy t (by omega) e
      rw [if_pos e, if_pos e]
      omega
    · rw [if_neg e, if_neg e]
theorem lix_ok (hW : TW T) {y : Nat → Nat} (hy : ∀ t, t < tn T → tb T t = 1 → y t < tv T t) : lix T y (tn T) 0 < 16 ∧ LOk T (lix T y (tn T) 0) ∧ ∀ x t, t < tn T → lnv T x (lix T y (tn T) 0) t = if tb T t = 1 then y t else x t := by
  have hy4 : ∀ t, t < tn T → tb T t = 1 → y t < 4 := fun t ht hb => Nat.lt_of_lt_of_le (hy t ht hb) (hW.2.1 t ht).2
  have hl := lix_lt hy4 hW.2.2.1 (tn T) 0 (by omega)
  have hs := nbT_s T (tn T) 0
  have h2 := hW.2.2.2.1
  have e0 : sumb (tb T) 0 = 0 := rfl
  rw [Nat.zero_add, e0, Nat.add_zero] at hs
  rw [hs] at hl
  have hd : ∀ t, t < tn T → tb T t = 1 → lfd T (lix T y (tn T) 0) t % 4 = y t := by
    intro t ht e
    rw [lfd_lix hy4 t (by omega), show tn T - t = (tn T - (t + 1)) + 1 by omega]
    unfold lix
    rw [if_pos e]
    have := hy4 t ht e
    omega
  refine ⟨Nat.lt_of_lt_of_le hl (Nat.pow_le_pow_right (n := 4) (j := 2) (by decide) h2), LOk_i.mpr ⟨fun t ht e => by rw [hd t ht e]; exact hy t ht e, ?_⟩, fun x t ht => ?_⟩
  · rw [lfd_lix hy4 (tn T) (Nat.le_refl _), Nat.sub_self]
    rfl
  · unfold lnv
    by_cases e : tb T t = 1
    · rw [if_pos e, if_pos e, hd t ht e]
    · rw [if_neg e, if_neg e]
theorem hix_ok {y : Nat → Nat} (hy : ∀ t, t < tn T → tb T t = 1 → y t < tv T t) : ∀ n, n ≤ tn T → hix T y n < hcn T n ∧ ∀ t, t < n → tb T t = 1 → hdg T n (hix T y n) t = y t
  | 0, _ => ⟨Nat.zero_lt_one, fun t ht => absurd ht (Nat.not_lt_zero _)⟩
  | n + 1, hn => by
    obtain ⟨h1, h2⟩ := hix_ok hy n (by omega)
    by_cases e : tb T n = 1
    · have hyn := hy n (by omega) e
      have e1 : hix T y (n + 1) = hix T y n * tv T n + y n := by show (if tb T n = 1 then _ else _) = _; rw [if_pos e]
      have e2 : hcn T (n + 1) = hcn T n * tv T n := by show (if tb T n = 1 then _ else _) = _; rw [if_pos e]
      have e3 : ∀ j t, hdg T (n + 1) j t = if t = n then j % tv T n else hdg T n (j / tv T n) t := fun j t => by show (if tb T n = 1 then _ else _) = _; rw [if_pos e]
      have d1 : (hix T y n * tv T n + y n) / tv T n = hix T y n := by rw [Nat.mul_comm, Nat.mul_add_div (by omega), Nat.div_eq_of_lt hyn, Nat.add_zero]
      have d2 : (hix T y n * tv T n + y n) % tv T n = y n := by rw [Nat.mul_comm, Nat.mul_add_mod, Nat.mod_eq_of_lt hyn]
      rw [e1, e2]
      refine ⟨?_, fun t ht hb => ?_⟩
      · have : (hix T y n + 1) * tv T n ≤ hcn T n * tv T n := Nat.mul_le_mul_right _ h1
        rw [Nat.add_mul, Nat.one_mul] at this
        omega
      · rw [e3, d1, d2]
        by_cases z : t = n
        · rw [if_pos z, z]
        · rw [if_neg z]; exact h2 t (by omega) hb
    · have e1 : hix T y (n + 1) = hix T y n := by show (if tb T n = 1 then _ else _) = _; rw [if_neg e]
      have e2 : hcn T (n + 1) = hcn T n := by show (if tb T n = 1 then _ else _) = _; rw [if_neg e]
      have e3 : ∀ j t, hdg T (n + 1) j t = hdg T n j t := fun j t => by show (if tb T n = 1 then _ else _) = _; rw [if_neg e]
      rw [e1, e2]
      refine ⟨h1, fun t ht hb => ?_⟩
      rw [e3]
      by_cases z : t = n
      · rw [z] at hb; exact absurd hb e
      · exact h2 t (by omega) hb
/-- this loan is this hat -/
abbrev Rl (T : TS) (l j : Nat) : Prop := LOk T l ∧ l < 16 ∧ j < hcn T (tn T) ∧ ∀ x t, t < tn T → lnv T x l t = wv T x j t
theorem Rl_h (hW : TW T) {j : Nat} (hj : j < hcn T (tn T)) : ∃ l, Rl T l j := by
  obtain ⟨a, b, c⟩ := lix_ok hW (y := hdg T (tn T) j) (fun t ht hb => hdg_4 hW.2.1 (tn T) (Nat.le_refl _) j t ht hb)
  exact ⟨_, b, a, hj, fun x t ht => c x t ht⟩
theorem Rl_l {l : Nat} (hl : l < 16) (h : LOk T l) : ∃ j, Rl T l j := by
  obtain ⟨a, b⟩ := hix_ok (y := fun t => lfd T l t % 4) (LOk_i.mp h).1 (tn T) (Nat.le_refl _)
  refine ⟨_, h, hl, a, fun x t ht => ?_⟩
  unfold lnv wv
  by_cases e : tb T t = 1
  · rw [if_pos e, if_pos e, b t ht e]
  · rw [if_neg e, if_neg e]
theorem wv_V (hW : TW T) {x : Nat → Nat} (hx : Vd T x) (j : Nat) : Vd T (wv T x j) := fun t ht => by
  unfold wv
  split
  · rename_i hb
    exact hdg_4 hW.2.1 _ (Nat.le_refl _) j t ht hb
  · exact hx t ht
theorem lnv_V {x : Nat → Nat} (hx : Vd T x) {l : Nat} (h : LOk T l) : Vd T (lnv T x l) := fun t ht => by
  unfold lnv
  split
  · rename_i hb
    exact (LOk_i.mp h).1 t ht hb
  · exact hx t ht
theorem dfn_cg {x y y' : Nat → Nat} (h : ∀ t, t < tn T → y t = y' t) : dfn T x y = dfn T x y' := by
  unfold dfn
  rw [bits_congr (fun t ht => by rw [h t ht])]
theorem mfl_cg {x x' y y' : Nat → Nat} (hx : ∀ t, t < tn T → x t = x' t) (h : ∀ t, t < tn T → y t = y' t) : mfl T x y = mfl T x' y' := by
  unfold mfl
  rw [bits_congr (fun t ht => by rw [h t ht, hx t ht])]
theorem mnH_ub (f : Nat → Nat) : ∀ n i, i < n → mnH f n ≤ f i
  | 0, i, h => absurd h (Nat.not_lt_zero _)
  | n + 1, i, h => by
    rw [mnH_s]
    by_cases e : i = n
    · rw [e]; split <;> omega
    · have := mnH_ub f n i (by omega)
      split <;> omega
theorem mnH_lb (f : Nat → Nat) {X : Nat} (hX : X ≤ 1000) : ∀ n, (∀ i, i < n → X ≤ f i) → X ≤ mnH f n
  | 0, _ => hX
  | n + 1, h => by
    rw [mnH_s]
    have := mnH_lb f hX n (fun i hi => h i (by omega))
    have := h n (by omega)
    split <;> omega
theorem mnH_at (f : Nat → Nat) : ∀ n, mnH f n < 1000 → ∃ i, i < n ∧ f i = mnH f n
  | 0, h => absurd h (by show ¬ 1000 < 1000; omega)
  | n + 1, h => by
    rw [mnH_s] at h ⊢
    by_cases e : f n < mnH f n
    · rw [if_pos e]; exact ⟨n, by omega, rfl⟩
    · rw [if_neg e] at h ⊢
      obtain ⟨i, a, b⟩ := mnH_at f n h
      exact ⟨i, by omega, b⟩
/-- as the reference counts -/
def cRn (T : TS) (w : Nat → Nat) : Nat → Nat → Nat → Nat
  | 0, k, l => if LOk T l then 0 + dfn T (tp T (w k)) (lnv T (tp T (w k)) l) else 1000
  | d + 1, k, l => if LOk T l then mnH (fun l' => if LOk T l' ∧ mfl T (lnv T (tp T (w k)) l) (lnv T (tp T (w (k + 1))) l') = true then cRn T w d (k + 1) l' else 1000) 16 + dfn T (tp T (w k)) (lnv T (tp T (w k)) l) else 1000
theorem m1000_m (x : Nat) : m1000 x = if x < 1000 then x else 1000 := rfl
/-- two least ones over loans and over hats -/
theorem mn_eq (hW : TW T) {fR fC : Nat → Nat} (h1 : ∀ l j, Rl T l j → m1000 (fR l) = fC j) (h2 : ∀ l, ¬ LOk T l → 1000 ≤ fR l) : mnH fR 16 = mnH fC (hcn T (tn T)) := by
  apply Nat.le_antisymm
  · refine mnH_lb _ (mnH_le _ _) _ (fun j hj => ?_)
    obtain ⟨l, hl⟩ := Rl_h hW hj
    rw [← h1 l j hl]
    have a := mnH_ub fR 16 l hl.2.1
    have b := mnH_le fR 16
    rw [m1000_m]
    split <;> omega
  · refine mnH_lb _ (mnH_le _ _) _ (fun l hl => ?_)
    by_cases e : LOk T l
    · obtain ⟨j, hj⟩ := Rl_l hl e
      have a := mnH_ub fC (hcn T (tn T)) j hj.2.2.1
      rw [← h1 l j hj, m1000_m] at a
      split at a <;> omega
    · have a := mnH_le fC (hcn T (tn T))
      have := h2 l e
      omega
theorem cR_cst (hW : TW T) (w : Nat → Nat) : ∀ d k l j, Rl T l j → m1000 (cRn T w d k l) = cst T w d k j
  | 0, k, l, j, h => by
    unfold cRn cst
    rw [if_pos h.1, Nat.zero_add, dfn_cg (h.2.2.2 _)]
  | d + 1, k, l, j, h => by
    unfold cRn cst
    rw [if_pos h.1, dfn_cg (h.2.2.2 (tp T (w k))), Nat.add_comm]
    refine congrArg (fun z => m1000 (dfn T (tp T (w k)) (wv T (tp T (w k)) j) + z)) (mn_eq hW (fun l' j' h' => ?_) (fun l' hl => ?_))
    · have e := mfl_cg (h.2.2.2 (tp T (w k))) (h'.2.2.2 (tp T (w (k + 1))))
      show m1000 (if LOk T l' ∧ mfl T (lnv T (tp T (w k)) l) (lnv T (tp T (w (k + 1))) l') = true then cRn T w d (k + 1) l' else 1000) = _
      rw [e]
      by_cases z : mfl T (wv T (tp T (w k)) j) (wv T (tp T (w (k + 1))) j') = true
      · rw [if_pos ⟨h'.1, z⟩, if_pos z]
        exact cR_cst hW w d (k + 1) l' j' h'
      · rw [if_neg (fun q => z q.2), if_neg z]
        rfl
    · show 1000 ≤ (if LOk T l' ∧ _ then _ else 1000)
      rw [if_neg (fun q => hl q.1)]
      exact Nat.le_refl _
theorem cR_no {w : Nat → Nat} {d k l : Nat} (h : ¬ LOk T l) : cRn T w d k l = 1000 := by
  cases d <;> (unfold cRn; rw [if_neg h])
/-- hats in order have codes in order -/
theorem hat_lt (hv : ∀ t, t < tn T → 1 ≤ tv T t) (x : Nat → Nat) : ∀ n, n ≤ tn T → ∀ h j, h < j → j < hcn T n → cdn (tv T) (fun t => if tb T t = 1 then hdg T n h t else x t) n < cdn (tv T) (fun t => if tb T t = 1 then hdg T n j t else x t) n
  | 0, _, h, j, a, b => by
    have b : j < 1 := b
    omega
  | n + 1, hn, h, j, a, b => by
    have hvn := hv n (by omega)
    have ih := hat_lt hv x n (by omega)
    show cdn (tv T) (fun t => if tb T t = 1 then hdg T (n + 1) h t else x t) n * tv T n + (if tb T n = 1 then hdg T (n + 1) h n else x n) < cdn (tv T) (fun t => if tb T t = 1 then hdg T (n + 1) j t else x t) n * tv T n + (if tb T n = 1 then hdg T (n + 1) j n else x n)
    by_cases e : tb T n = 1
    · have e2 : hcn T (n + 1) = hcn T n * tv T n := by show (if tb T n = 1 then _ else _) = _; rw [if_pos e]
      have e3 : ∀ j t, hdg T (n + 1) j t = if t = n then j % tv T n else hdg T n (j / tv T n) t := fun j t => by show (if tb T n = 1 then _ else _) = _; rw [if_pos e]
      have cg : ∀ j, cdn (tv T) (fun t => if tb T t = 1 then hdg T (n + 1) j t else x t) n = cdn (tv T) (fun t => if tb T t = 1 then hdg T n (j / tv T n) t else x t) n := fun j => cdn_cg n (fun t ht => by
        show (if tb T t = 1 then hdg T (n + 1) j t else x t) = _
        rw [e3, if_neg (show ¬ t = n by omega)])
      rw [if_pos e, if_pos e, cg, cg, e3, e3, if_pos rfl, if_pos rfl]
      rw [e2] at b
      have hjn : j / tv T n < hcn T n := Nat.div_lt_of_lt_mul (by rw [Nat.mul_comm]; exact b)
      have q1 := Nat.div_add_mod h (tv T n)
      have q2 := Nat.div_add_mod j (tv T n)
      have q3 := Nat.mod_lt h (show 0 < tv T n by omega)
      by_cases z : h / tv T n < j / tv T n
      · have := ih _ _ z hjn
        have := Nat.mul_le_mul_right (tv T n) this
        rw [Nat.succ_eq_add_one, Nat.add_mul, Nat.one_mul] at this
        omega
      · have z2 : h / tv T n ≤ j / tv T n := Nat.div_le_div_right (Nat.le_of_lt a)
        have z3 : h / tv T n = j / tv T n := by omega
        rw [z3] at q1 ⊢
        omega
    · have e2 : hcn T (n + 1) = hcn T n := by show (if tb T n = 1 then _ else _) = _; rw [if_neg e]
      have e3 : ∀ j t, hdg T (n + 1) j t = hdg T n j t := fun j t => by show (if tb T n = 1 then _ else _) = _; rw [if_neg e]
      have cg : ∀ j, cdn (tv T) (fun t => if tb T t = 1 then hdg T (n + 1) j t else x t) n = cdn (tv T) (fun t => if tb T t = 1 then hdg T n j t else x t) n := fun j => cdn_cg n (fun t ht => by
        show (if tb T t = 1 then hdg T (n + 1) j t else x t) = _
        rw [e3])
      rw [if_neg e, if_neg e, cg, cg]
      rw [e2] at b
      have := Nat.mul_le_mul_right (tv T n) (ih h j a b)
      rw [Nat.succ_eq_add_one, Nat.add_mul, Nat.one_mul] at this
      omega
end LN

