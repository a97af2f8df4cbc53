theorem fhS_sp {T : TS} {w : Nat → Nat} {r k : Nat} {pv : Nat → Nat} {left : Int32} : ∀ e h, match fhS T w r k pv left e h with
    | none => ∀ m, h ≤ m → m < h + e → ¬ ((k = 0 ∨ mfl T pv (wv T (tp T (w k)) m) = true) ∧ nI (cst T w (r - 1 - k) k m) = left)
    | some q => (h ≤ q ∧ q < h + e) ∧ ((k = 0 ∨ mfl T pv (wv T (tp T (w k)) q) = true) ∧ nI (cst T w (r - 1 - k) k q) = left) ∧ ∀ m, h ≤ m → m < q → ¬ ((k = 0 ∨ mfl T pv (wv T (tp T (w k)) m) = true) ∧ nI (cst T w (r - 1 - k) k m) = left)
  | 0, h => fun m h1 h2 => absurd h2 (by omega)
  | e + 1, h => by
    have ih := fhS_sp (T := T) (w := w) (r := r) (k := k) (pv := pv) (left := left) e (h + 1)
    have es : fhS T w r k pv left (e + 1) h = if (k = 0 ∨ mfl T pv (wv T (tp T (w k)) h) = true) ∧ nI (cst T w (r - 1 - k) k h) = left then some h else fhS T w r k pv left e (h + 1) := rfl
    rw [es]
    by_cases c : (k = 0 ∨ mfl T pv (wv T (tp T (w k)) h) = true) ∧ nI (cst T w (r - 1 - k) k h) = left
    · rw [if_pos c]
      exact ⟨⟨Nat.le_refl _, by omega⟩, c, fun m h1 h2 => absurd h2 (by omega)⟩
    · rw [if_neg c]
      generalize fhS T w r k pv left e (h + 1) = o at ih ⊢
      cases o with
      | none =>
        intro m h1 h2
        by_cases z : m = h
        · rw [z]; exact c
        · exact ih m (by omega) (by omega)
      | some q =>
        obtain ⟨a, b, d⟩ := ih
        refine ⟨⟨by omega, by omega⟩, b, fun m h1 h2 => ?_⟩
        by_cases z : m = h
        · rw [z]; exact c
        · exact d m (by omega) h2
def Pk (T : TS) (w : Nat → Nat) (r k : Nat) (pv : Nat → Nat) (due l : Nat) : Prop := LOk T l ∧ cRn T w (r - 1 - k) k l = due ∧ (k = 0 ∨ mfl T pv (lnv T (tp T (w k)) l) = true)
abbrev cdL (T : TS) (w : Nat → Nat) (k l : Nat) : Nat := cdn (tv T) (lnv T (tp T (w k)) l) (tn T)
def fo (o : Option Nat) : Int32 := match o with
  | none => -1
  | some c => nI c
def FI (T : TS) (w : Nat → Nat) (r k : Nat) (pv : Nat → Nat) (due n : Nat) (o : Option Nat) : Prop := match o with
  | none => ∀ l, l < n → ¬ Pk T w r k pv due l
  | some c => (∃ l, l < n ∧ Pk T w r k pv due l ∧ cdL T w k l = c) ∧ ∀ l, l < n → Pk T w r k pv due l → c ≤ cdL T w k l
section LP
variable {T : TS} {w : Nat → Nat} {r k due : Nat} {pv : Nat → Nat}
theorem FI_n {n : Nat} {o : Option Nat} (h : FI T w r k pv due n o) (hno : ¬ Pk T w r k pv due n) : FI T w r k pv due (n + 1) o := by
  cases o with
  | none =>
    intro l hl
    by_cases z : l = n
    · rw [z]; exact hno
    · exact h l (by omega)
  | some c =>
    obtain ⟨⟨l, a, b⟩, d⟩ := h
    refine ⟨⟨l, by omega, b⟩, fun l hl hp => ?_⟩
    by_cases z : l = n
    · rw [z] at hp; exact absurd hp hno
    · exact d l (by omega) hp
theorem FI_k {n c : Nat} (h : FI T w r k pv due n (some c)) (hc : c ≤ cdL T w k n) : FI T w r k pv due (n + 1) (some c) := by
  obtain ⟨⟨l, a, b⟩, d⟩ := h
  refine ⟨⟨l, by omega, b⟩, fun l hl hp => ?_⟩
  by_cases z : l = n
  · rw [z]; exact hc
  · exact d l (by omega) hp
theorem FI_y {n : Nat} {o : Option Nat} (h : FI T w r k pv due n o) (hp : Pk T w r k pv due n) (ho : ∀ c, o = some c → cdL T w k n < c) : FI T w r k pv due (n + 1) (some (cdL T w k n)) := by
  refine ⟨⟨n, by omega, hp, rfl⟩, fun l hl hpl => ?_⟩
  by_cases z : l = n
  · rw [z]; exact Nat.le_refl _
  · cases o with
    | none => exact absurd hpl (h l (by omega))
    | some c =>
      have := h.2 l (by omega) hpl
      have := ho c rfl
      omega
theorem pick (hW : TW T) (hd : due < 1000) {o : Option Nat} (h : FI T w r k pv due 16 o) {q : Nat} (hq : fhS T w r k pv (nI due) (hcn T (tn T)) 0 = some q) : o = some (cdn (tv T) (wv T (tp T (w k)) q) (tn T)) ∧ q < hcn T (tn T) ∧ cst T w (r - 1 - k) k q = due := by
  have hsp := fhS_sp (T := T) (w := w) (r := r) (k := k) (pv := pv) (left := nI due) (hcn T (tn T)) 0
  rw [hq] at hsp
  obtain ⟨⟨_, a2⟩, ⟨b1, b2⟩, d⟩ := hsp
  have ec : ∀ j, nI (cst T w (r - 1 - k) k j) = nI due ↔ cst T w (r - 1 - k) k j = due := fun j => by
    have := cst_le T w (r - 1 - k) k j
    exact nI_eq (by omega) (by omega)
  have hqc : q < hcn T (tn T) := by omega
  have iff : ∀ l j, Rl T l j → (Pk T w r k pv due l ↔ (k = 0 ∨ mfl T pv (wv T (tp T (w k)) j) = true) ∧ nI (cst T w (r - 1 - k) k j) = nI due) := by
    intro l j hR
    have e1 := cR_cst hW w (r - 1 - k) k l j hR
    have e2 : mfl T pv (lnv T (tp T (w k)) l) = mfl T pv (wv T (tp T (w k)) j) := mfl_cg (fun _ _ => rfl) (hR.2.2.2 _)
    unfold Pk
    rw [ec, e2, ← e1, m1000_m]
    constructor
    · rintro ⟨_, h1, h2⟩
      exact ⟨h2, by rw [h1, if_pos hd]⟩
    · rintro ⟨h1, h2⟩
      refine ⟨hR.1, ?_, h1⟩
      split at h2
      · exact h2
      · omega
  have ecd : ∀ l j, Rl T l j → cdL T w k l = cdn (tv T) (wv T (tp T (w k)) j) (tn T) := fun l j hR => cdn_cg _ (hR.2.2.2 _)
  obtain ⟨l0, hl0⟩ := Rl_h hW hqc
  have hP0 := (iff l0 q hl0).mpr ⟨b1, b2⟩
  refine ⟨?_, hqc, (ec q).mp b2⟩
  cases o with
  | none => exact absurd hP0 (h l0 hl0.2.1)
  | some c =>
    obtain ⟨⟨l, x1, x2, x3⟩, x4⟩ := h
    have y1 := x4 l0 hl0.2.1 hP0
    rw [ecd l0 q hl0] at y1
    obtain ⟨j, hj⟩ := Rl_l x1 x2.1
    have hcj := (iff l j hj).mp x2
    rw [ecd l j hj] at x3
    have hle : ¬ j < q := fun z => d j (Nat.zero_le _) z hcj
    congr 1
    by_cases z : q = j
    · rw [z, x3]
    · have := hat_lt (fun t ht => (hW.2.1 t ht).1) (tp T (w k)) (tn T) (Nat.le_refl _) q j (by omega) hj.2.2.1
      have this : cdn (tv T) (wv T (tp T (w k)) q) (tn T) < cdn (tv T) (wv T (tp T (w k)) j) (tn T) := this
      omega
/-- what is left is what the best of the next costs -/
def LI (T : TS) (w : Nat → Nat) (r k : Nat) (pv : Nat → Nat) (due : Nat) : Prop := due < 1000 ∧ due = mnH (fun h' => if k = 0 ∨ mfl T pv (wv T (tp T (w k)) h') = true then cst T w (r - 1 - k) k h' else 1000) (hcn T (tn T))
theorem LI_f (h : LI T w r k pv due) : ∃ q, fhS T w r k pv (nI due) (hcn T (tn T)) 0 = some q := by
  obtain ⟨h1, h2⟩ := h
  have hsp := fhS_sp (T := T) (w := w) (r := r) (k := k) (pv := pv) (left := nI due) (hcn T (tn T)) 0
  generalize fhS T w r k pv (nI due) (hcn T (tn T)) 0 = o at hsp ⊢
  cases o with
  | some q => exact ⟨q, rfl⟩
  | none =>
    exfalso
    obtain ⟨i, i1, i2⟩ := mnH_at _ _ (by rw [← h2]; exact h1)
    rw [← h2] at i2
    have i2 : (if k = 0 ∨ mfl T pv (wv T (tp T (w k)) i) = true then cst T w (r - 1 - k) k i else 1000) = due := i2
    by_cases z : k = 0 ∨ mfl T pv (wv T (tp T (w k)) i) = true
    · rw [if_pos z] at i2
      exact hsp i (Nat.zero_le _) (by omega) ⟨z, by rw [i2]⟩
    · rw [if_neg z] at i2
      omega
theorem cst_s (T : TS) (w : Nat → Nat) (d k h : Nat) : cst T w (d + 1) k h = m1000 (dfn T (tp T (w k)) (wv T (tp T (w k)) h) + mnH (fun h' => if mfl T (wv T (tp T (w k)) h) (wv T (tp T (w (k + 1))) h') = true then cst T w d (k + 1) h' else 1000) (hcn T (tn T))) := rfl
theorem LI_s {q : Nat} (hd : due < 1000) (hq : cst T w (r - 1 - k) k q = due) : dfn T (tp T (w k)) (wv T (tp T (w k)) q) ≤ due ∧ (k + 1 < r → LI T w r (k + 1) (wv T (tp T (w k)) q) (due - dfn T (tp T (w k)) (wv T (tp T (w k)) q))) := by
  have hdf := dfn_le T (tp T (w k)) (wv T (tp T (w k)) q)
  by_cases hk : k + 1 < r
  · rw [show r - 1 - k = (r - 1 - (k + 1)) + 1 by omega, cst_s] at hq
    have e : (fun h' => if k + 1 = 0 ∨ mfl T (wv T (tp T (w k)) q) (wv T (tp T (w (k + 1))) h') = true then cst T w (r - 1 - (k + 1)) (k + 1) h' else 1000) = fun h' => if mfl T (wv T (tp T (w k)) q) (wv T (tp T (w (k + 1))) h') = true then cst T w (r - 1 - (k + 1)) (k + 1) h' else 1000 := by
      funext h'
      simp
    unfold LI
    rw [e]
    generalize mnH (fun h' => if mfl T (wv T (tp T (w k)) q) (wv T (tp T (w (k + 1))) h') = true then cst T w (r - 1 - (k + 1)) (k + 1) h' else 1000) (hcn T (tn T)) = M at hq ⊢
    rw [m1000_m] at hq
    split at hq
    · exact ⟨by omega, fun _ => ⟨by omega, by omega⟩⟩
    · omega
  · rw [show r - 1 - k = 0 by omega] at hq
    have hq : m1000 (dfn T (tp T (w k)) (wv T (tp T (w k)) q)) = due := hq
    rw [m1000_m, if_pos (by omega)] at hq
    exact ⟨by omega, fun z => absurd z hk⟩
theorem gA_no {c : Nat} : gA T w r (c + 1) 0 pv (-4) = -4 := by
  have hsp := fhS_sp (T := T) (w := w) (r := r) (k := 0) (pv := pv) (left := -4) (hcn T (tn T)) 0
  have es : gA T w r (c + 1) 0 pv (-4) = match fhS T w r 0 pv (-4) (hcn T (tn T)) 0 with
    | none => -4
    | some h => gA T w r c (0 + 1) (wv T (tp T (w 0)) h) (-4 - nI (dfn T (tp T (w 0)) (wv T (tp T (w 0)) h))) := rfl
  rw [es]
  generalize fhS T w r 0 pv (-4) (hcn T (tn T)) 0 = o at hsp ⊢
  cases o with
  | none => rfl
  | some q =>
    have := cst_le T w (r - 1 - 0) 0 q
    exact absurd hsp.2.1.2 (m4_n (by omega))
theorem few_R (hW : TW T) (hr : r ≠ 0) : mnH (cRn T w (r - 1) 0) 16 = few T w r := by
  unfold few
  rw [if_neg hr]
  exact mn_eq hW (fun l j h => cR_cst hW w (r - 1) 0 l j h) (fun l hl => by rw [cR_no hl]; exact Nat.le_refl _)
theorem few_LI (hr : r ≠ 0) (h : few T w r < 1000) : LI T w r 0 pv (few T w r) := by
  refine ⟨h, ?_⟩
  unfold few
  rw [if_neg hr]
  have e : (fun h' => if 0 = 0 ∨ mfl T pv (wv T (tp T (w 0)) h') = true then cst T w (r - 1 - 0) 0 h' else 1000) = cst T w (r - 1) 0 := by
    funext h'
    simp
  rw [e]
end LP
theorem inB_l (i : Int32) {r : Nat} (hr : r ≤ 16) : inB i.toInt64 (-1) (nI r - nI 1).toInt64 = decide (-1 ≤ i ∧ i < nI r) := by
  rw [inB_I, Int32.toInt_toInt64]
  have e : (nI r - nI 1).toInt = (r : Int) - 1 := by
    rcases Nat.eq_zero_or_pos r with z | z
    · rw [z]; decide
    · rw [pk_sub z, nI_toInt (by omega)]; omega
  rw [e, decide_eq_decide, Int32.le_iff_toInt_le, Int32.lt_iff_toInt_lt, nI_toInt (by omega)]
  have e1 : (-1 : Int64).toInt = -1 := by decide
  have e2 : (-1 : Int32).toInt = -1 := by decide
  rw [e1, e2]
  constructor <;> (intro z; omega)

