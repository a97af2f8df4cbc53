theorem RLi.fr {G : GG} {σ σ' : WW} {ps : List Nat} (h : RLi G σ) (f : Fr σ σ' ps) (h4 : 4 ∉ ps) : RLi G σ' := by
  obtain ⟨a, b, h⟩ := h
  exact ⟨a, b, h.fr f h4⟩
theorem RWk.fr {G : GG} {σ σ' : WW} {ps : List Nat} (h : RWk G σ) (f : Fr σ σ' ps) (h5 : 5 ∉ ps) (h16 : 16 ∉ ps) (h17 : 17 ∉ ps) : RWk G σ' := by
  obtain ⟨a, b, g1, g2, hab, h1, h2, h3⟩ := h
  refine ⟨a, b, g1, g2, hab, h1.fr f h5, h2.fr f ?_, h3.fr f ?_⟩
  · rcases hab with ⟨e, _⟩ | ⟨e, _⟩ <;> rw [e] <;> assumption
  · rcases hab with ⟨_, e⟩ | ⟨_, e⟩ <;> rw [e] <;> assumption
theorem RLo.fr {G : GG} {σ σ' : WW} {T : TS} {ps : List Nat} (h : RLo G σ T) (f : Fr σ σ' ps) (h6 : 6 ∉ ps) (h18 : 18 ∉ ps) : RLo G σ' T := by
  obtain ⟨g, k, h1, h2, h3⟩ := h
  exact ⟨g, k, h1.fr f h6, h2.fr f h18, h3⟩
theorem RSt.fr {G : GG} {σ σ' : WW} {ps : List Nat} (h : RSt G σ) (f : Fr σ σ' ps) (h7 : 7 ∉ ps) (h19 : 19 ∉ ps) : RSt G σ' := by
  obtain ⟨h1, g, h2⟩ := h
  exact ⟨h1.fr f h7, g, h2.fr f h19⟩
theorem RLe.fr {G : GG} {σ σ' : WW} {ps : List Nat} (h : RLe G σ) (f : Fr σ σ' ps) (h8 : 8 ∉ ps) (h20 : 20 ∉ ps) : RLe G σ' := by
  obtain ⟨h1, g, h2⟩ := h
  exact ⟨h1.fr f h8, g, h2.fr f h20⟩
theorem QG.re {G : GG} {σ σ' : WW} {len at_ rm len' at' rm' : Int32} {h : HH} {ps : List Nat} (hg : QG G σ len at_ rm h) (f : Fr σ σ' ps) (h8 : 8 ∉ ps) (h9 : 9 ∉ ps) (h0 : Cl G σ' 0 (cRef G len' at' (nI h.2.2.2.1) (nI h.2.1) rm')) : QG G σ' len' at' rm' h := by
  obtain ⟨_, ⟨fs, a1, a2, a3⟩, fw, b1, b2⟩ := hg
  exact ⟨h0, ⟨fs, a1.fr f h8, a2, a3⟩, fw, b1.fr f h9, b2⟩
theorem QG.fr {G : GG} {σ σ' : WW} {len at_ rm : Int32} {h : HH} {ps : List Nat} (hg : QG G σ len at_ rm h) (f : Fr σ σ' ps) (h0 : 0 ∉ ps) (h8 : 8 ∉ ps) (h9 : 9 ∉ ps) : QG G σ' len at_ rm h := hg.re f h8 h9 (hg.1.fr f h0)
theorem QL.fr {G : GG} {σ σ' : WW} {ps : List Nat} (h : QL G σ) (f : Fr σ σ' ps) (h1 : 11 ∉ ps) (h2 : 12 ∉ ps) (h3 : 13 ∉ ps) : QL G σ' := by
  obtain ⟨a, b, c, g1, g2, g3⟩ := h
  exact ⟨a, b, c, g1.fr f h1, g2.fr f h2, g3.fr f h3⟩
theorem QW.fr {G : GG} {σ σ' : WW} {ps : List Nat} (h : QW G σ) (f : Fr σ σ' ps) (h1 : 14 ∉ ps) : QW G σ' := by
  obtain ⟨a, g1⟩ := h
  exact ⟨a, g1.fr f h1⟩
theorem QC.fr {G : GG} {σ σ' : WW} {ps : List Nat} (h : QC G σ) (f : Fr σ σ' ps) (h1 : 15 ∉ ps) (h2 : 16 ∉ ps) : QC G σ' := by
  obtain ⟨a, b, g1, g2⟩ := h
  exact ⟨a, b, g1.fr f h1, g2.fr f h2⟩
theorem QN.fr {G : GG} {σ σ' : WW} {ps : List Nat} (h : QN G σ) (f : Fr σ σ' ps) (h1 : 17 ∉ ps) (h2 : 18 ∉ ps) : QN G σ' := by
  obtain ⟨a, b, g1, g2⟩ := h
  exact ⟨a, b, g1.fr f h1, g2.fr f h2⟩
/-! what is kept -/
theorem HW_rem {m : Nat} {h : HH} (hw : HW m h) : (remH h).2.1 ≤ 8 ∧ (∀ k, k < (remH h).2.1 → ok3 m ((remH h).2.2.1 k)) ∧ (remH h).2.2.2 = h.2.2.2 := by
  obtain ⟨a1, a2, a3, a4, a5⟩ := hw
  unfold remH
  by_cases e : h.2.1 = 8
  · rw [if_pos e]
    refine ⟨Nat.le_refl _, fun k hk => ?_, rfl⟩
    show ok3 m (if k = 7 then h.1 else h.2.2.1 (k + 1))
    have hk : k < 8 := hk
    by_cases z : k = 7
    · rw [if_pos z]; exact a1
    · rw [if_neg z]; exact a3 _ (by omega)
  · rw [if_neg e]
    refine ⟨by show h.2.1 + 1 ≤ 8; omega, fun k hk => ?_, rfl⟩
    show ok3 m (if k = h.2.1 then h.1 else h.2.2.1 k)
    have hk : k < h.2.1 + 1 := hk
    by_cases z : k = h.2.1
    · rw [if_pos z]; exact a1
    · rw [if_neg z]; exact a3 _ (by omega)
theorem HW_pass {T : TS} {h : HH} (hW : TW T) (hw : HW (tm T) h) {i : Nat} (hi : i < tm T) : HW (tm T) (passH T h i) := by
  obtain ⟨r1, r2, r3⟩ := HW_rem hw
  have hm := hW.2.2.2.2.1
  refine ⟨⟨Nat.xor_lt_two_pow (n := 9) hw.1.1 (one_shl_lt (by omega)), by show i + 1 ≤ _; omega, uL_lt T _ _ hW.1⟩, r1, r2, ?_, ?_⟩
  · show (remH h).2.2.2.1 ≤ 2
    rw [r3]; exact hw.2.2.2.1
  · show ∀ k, k < (remH h).2.2.2.1 → ok3 _ ((remH h).2.2.2.2 k)
    rw [r3]; exact hw.2.2.2.2
theorem HW_go {T : TS} {h : HH} (hW : TW T) (hw : HW (tm T) h) (i : Int32) (z : Bool) : HW (tm T) (goF T h i z).2 := by
  unfold goF
  rcases inR_c i (m := tm T) (by have := hW.2.2.2.2.1; omega) with e | ⟨e, k, hk, rfl⟩
  · rw [if_neg (by rw [e]; decide)]; exact hw
  · rw [if_pos e]
    split
    · exact hw
    · rw [nI_clamp (by have := hW.2.2.2.2.1; omega)]
      exact HW_pass hW hw hk
theorem HW_undo {m : Nat} {h : HH} (hw : HW m h) : HW m (undoF h).2 := by
  unfold undoF
  by_cases e : h.2.1 = 0
  · rw [if_pos e]; exact hw
  · rw [if_neg e]
    obtain ⟨a1, a2, a3, a4, a5⟩ := hw
    exact ⟨a3 _ (by omega), by show h.2.1 - 1 ≤ 8; omega, fun k hk => a3 k (by have hk : k < h.2.1 - 1 := hk; omega), a4, a5⟩
theorem HW_keep {m : Nat} {h : HH} (hw : HW m h) : HW m (keepF h).2 := by
  unfold keepF
  by_cases e : h.2.2.2.1 = 2
  · rw [if_pos e]; exact hw
  · rw [if_neg e]
    obtain ⟨a1, a2, a3, a4, a5⟩ := hw
    refine ⟨a1, a2, a3, by show h.2.2.2.1 + 1 ≤ 2; omega, fun k hk => ?_⟩
    show ok3 m (if k = h.2.2.2.1 then h.1 else h.2.2.2.2 k)
    have hk : k < h.2.2.2.1 + 1 := hk
    by_cases z : k = h.2.2.2.1
    · rw [if_pos z]; exact a1
    · rw [if_neg z]; exact a5 _ (by omega)
theorem HW_back {m : Nat} {h : HH} (hw : HW m h) : HW m (backF h).2 := by
  unfold backF
  by_cases e : h.2.2.2.1 = 0
  · rw [if_pos e]; exact hw
  · rw [if_neg e]
    obtain ⟨a1, a2, a3, a4, a5⟩ := hw
    exact ⟨a5 _ (by omega), Nat.zero_le _, fun k hk => absurd hk (Nat.not_lt_zero _), by show h.2.2.2.1 - 1 ≤ 2; omega, fun k hk => a5 k (by have hk : k < h.2.2.2.1 - 1 := hk; omega)⟩
theorem BB_byt (v : Int64) (k : Nat) : BB (byt v k) := by
  unfold byt BB
  rw [Int8.toInt_toInt32]
  have e : Int8.maxValue.toInt = 127 := by decide
  have := Int8.le_toInt (((v.toUInt64 >>> ((nI (8 * k)).toInt64.toUInt64 &&& Int64.toUInt64 63)).toInt64).toInt32.toInt8)
  have := Int8.toInt_le (((v.toUInt64 >>> ((nI (8 * k)).toInt64.toUInt64 &&& Int64.toUInt64 63)).toInt64).toInt32.toInt8)
  omega
def Inv (n : Nat) (x : Nat → Int32) (T : TS) (h : HH) (r : Nat) (w : Nat → Nat) : Prop := n ≤ 300 ∧ (∀ k, k < n → BB (x k)) ∧ 1 ≤ tm T ∧ HW (tm T) h ∧ r ≤ 16 ∧ ∀ k, k < r → w k < tm T
def AllC (G : GG) (σ : WW) (n : Nat) (x : Nat → Int32) (T : TS) (h : HH) (r : Nat) (w : Nat → Nat) : Prop := Cl G σ 0 (cMain G) ∧ RT G σ T ∧ RPa G σ ∧ RX G σ n x ∧ RG G σ h ∧ RR G σ r w ∧ RLi G σ ∧ RWk G σ ∧ RLo G σ T ∧ RSt G σ ∧ RLe G σ
def AllQ (G : GG) (σ : WW) (n : Nat) (x : Nat → Int32) (T : TS) (h : HH) (r : Nat) (w : Nat → Nat) : Prop := (∃ at_, QG G σ (nI n) at_ (nI r) h) ∧ QT G σ T ∧ QX G σ n x ∧ QR G σ r w ∧ QL G σ ∧ QW G σ ∧ QC G σ ∧ QN G σ
def PQ (G1 : GG) (σ1 : WW) (G2 : GG) (σ2 : WW) : Prop := ∃ n x T h r w, AllC G1 σ1 n x T h r w ∧ AllQ G2 σ2 n x T h r w ∧ Inv n x T h r w
theorem Inv_write {n : Nat} {x : Nat → Int32} {T : TS} {h : HH} {r : Nat} {w : Nat → Nat} (hI : Inv n x T h r w) (k : Int32) (v : Int64) : Inv (writeF n x k v).2.1 (writeF n x k v).2.2 T h r w := by
  obtain ⟨i1, i2, i3⟩ := hI
  unfold writeF
  split
  · exact ⟨i1, i2, i3⟩
  · split
    · rename_i q
      refine ⟨q, ?_, i3⟩
      have : ∀ d n (x : Nat → Int32), (∀ k, k < n → BB (x k)) → ∀ k, k < n + d → BB (putB v n x d k) := by
        intro d
        induction d with
        | zero => intro n x hx k hk; exact hx k hk
        | succ d ih =>
          intro n x hx k hk
          show BB (putB v (n + 1) (upd x n (byt v d)) d k)
          refine ih (n + 1) _ (fun j hj => ?_) k (by omega)
          by_cases e : j = n
          · rw [e, pk_us]; exact BB_byt _ _
          · rw [pk_un e]; exact hx j (by omega)
      exact this _ n x i2
    · exact ⟨i1, i2, i3⟩
theorem Inv_add {n : Nat} {x : Nat → Int32} {T : TS} {h : HH} {r : Nat} {w : Nat → Nat} (hm : tm T ≤ 9) (hI : Inv n x T h r w) (i : Int32) : Inv n x T h (addF T r w i).2.1 (addF T r w i).2.2 := by
  obtain ⟨i1, i2, i3, i4, i5, i6⟩ := hI
  unfold addF
  rcases inR_c i (m := tm T) (by omega) with e | ⟨e, k, hk, rfl⟩
  · rw [if_neg (by rw [e]; decide)]; exact ⟨i1, i2, i3, i4, i5, i6⟩
  · rw [if_pos e]
    split
    · exact ⟨i1, i2, i3, i4, i5, i6⟩
    · rename_i q
      refine ⟨i1, i2, i3, i4, by show r + 1 ≤ 16; omega, fun j hj => ?_⟩
      show (if j = r then (nI k).toNatClampNeg else w j) < tm T
      have hj : j < r + 1 := hj
      by_cases z : j = r
      · rw [if_pos z, nI_clamp (by omega)]; exact hk
      · rw [if_neg z]; exact i6 j (by omega)
theorem QS.t {G : GG} {σ : WW} {T : TS} {p : Option TS} (h : QS G σ T p) : QT G σ T := by
  obtain ⟨ft, fn, fv, fl, fm, fp, ⟨a1, a2, a3, a4, a5, a6⟩, hT, _⟩ := h
  exact ⟨ft, fn, fv, fl, fm, fp, a1, a2, a3, a4, a5, a6, hT⟩
theorem s_write {G1 G2 : GG} {σ1 σ2 : WW} (hP : PQ G1 σ1 G2 σ2) (k : Int32) (v : Int64) : ∃ u σ1' σ2', Mt G1 mX9_write [.ref (ga G1 0), .int k, .long v] σ1 (some (.int u)) σ1' ∧ Mt G2 mX10_write [.ref (ga G2 0), .int k, .long v] σ2 (some (.int u)) σ2' ∧ PQ G1 σ1' G2 σ2' := by
  obtain ⟨n, x, T, h, r, w, ⟨c0, cT, cP, cX, cG, cR, cL, cW, cO, cS, cE⟩, ⟨⟨at0, qG⟩, qT, qX, qR, qL, qW, qC, qN⟩, hI⟩ := hP
  obtain ⟨i1, i2, i3, i4, i5, i6⟩ := id hI
  have hW := cT.w
  have hm := hW.2.2.2.2.1
  obtain ⟨τ1, k1, a1, f1⟩ := c_write c0 cX i1 k v
  obtain ⟨τ2, k2, b0, b1, f2⟩ := q_write qG.1 qX i1 k v
  exact ⟨_, τ1, τ2, k1, k2, _, _, T, h, r, w, ⟨c0.fr f1 (by decide), cT.fr f1 (by decide) (by decide) (by decide) (by decide), cP.fr f1 (by decide) (by decide) (by decide) (by decide), a1, cG.fr f1 (by decide) (by decide) (by decide) (by decide), cR.fr f1 (by decide) (by decide), cL.fr f1 (by decide), cW.fr f1 (by decide) (by decide) (by decide), cO.fr f1 (by decide) (by decide), cS.fr f1 (by decide) (by decide), cE.fr f1 (by decide) (by decide)⟩, ⟨⟨at0, qG.re f2 (by decide) (by decide) b0⟩, qT.fr f2 (by decide) (by decide) (by decide) (by decide) (by decide) (by decide), b1, qR.fr f2 (by decide), qL.fr f2 (by decide) (by decide) (by decide), qW.fr f2 (by decide), qC.fr f2 (by decide) (by decide), qN.fr f2 (by decide) (by decide)⟩, Inv_write hI k v⟩
theorem s_wipe {G1 G2 : GG} {σ1 σ2 : WW} (hP : PQ G1 σ1 G2 σ2) : ∃ u σ1' σ2', Mt G1 mX9_wipe [.ref (ga G1 0)] σ1 (some (.int u)) σ1' ∧ Mt G2 mX10_wipe [.ref (ga G2 0)] σ2 (some (.int u)) σ2' ∧ PQ G1 σ1' G2 σ2' := by
  obtain ⟨n, x, T, h, r, w, ⟨c0, cT, cP, cX, cG, cR, cL, cW, cO, cS, cE⟩, ⟨⟨at0, qG⟩, qT, qX, qR, qL, qW, qC, qN⟩, hI⟩ := hP
  obtain ⟨i1, i2, i3, i4, i5, i6⟩ := id hI
  have hW := cT.w
  have hm := hW.2.2.2.2.1
  obtain ⟨τ1, k1, a1, f1⟩ := c_wipe c0 cX
  obtain ⟨τ2, k2, b0, f2⟩ := q_wipe qG.1
  exact ⟨_, τ1, τ2, k1, k2, 0, x, T, h, r, w, ⟨c0.fr f1 (by decide), cT.fr f1 (by decide) (by decide) (by decide) (by decide), cP.fr f1 (by decide) (by decide) (by decide) (by decide), a1, cG.fr f1 (by decide) (by decide) (by decide) (by decide), cR.fr f1 (by decide) (by decide), cL.fr f1 (by decide), cW.fr f1 (by decide) (by decide) (by decide), cO.fr f1 (by decide) (by decide), cS.fr f1 (by decide) (by decide), cE.fr f1 (by decide) (by decide)⟩, ⟨⟨at0, qG.re f2 (by decide) (by decide) b0⟩, qT.fr f2 (by decide) (by decide) (by decide) (by decide) (by decide) (by decide), (by obtain ⟨g, g1, _⟩ := qX; exact ⟨g, g1.fr f2 (by decide), fun k hk => absurd hk (Nat.not_lt_zero _)⟩), qR.fr f2 (by decide), qL.fr f2 (by decide) (by decide) (by decide), qW.fr f2 (by decide), qC.fr f2 (by decide) (by decide), qN.fr f2 (by decide) (by decide)⟩, ⟨Nat.zero_le _, fun k hk => absurd hk (Nat.not_lt_zero _), i3, i4, i5, i6⟩⟩
theorem s_fault {G1 G2 : GG} {σ1 σ2 : WW} (hP : PQ G1 σ1 G2 σ2) : ∃ u σ1' σ2', Mt G1 mX9_fault [.ref (ga G1 0)] σ1 (some (.int u)) σ1' ∧ Mt G2 mX10_fault [.ref (ga G2 0)] σ2 (some (.int u)) σ2' ∧ PQ G1 σ1' G2 σ2' := by
  obtain ⟨n, x, T, h, r, w, ⟨c0, cT, cP, cX, cG, cR, cL, cW, cO, cS, cE⟩, ⟨⟨at0, qG⟩, qT, qX, qR, qL, qW, qC, qN⟩, hI⟩ := hP
  obtain ⟨i1, i2, i3, i4, i5, i6⟩ := id hI
  have hW := cT.w
  have hm := hW.2.2.2.2.1
  obtain ⟨τ1, k1, a1, f1⟩ := c_fault c0 cP cX i1 i2
  obtain ⟨τ2, k2, ⟨at1, b0⟩, b1, f2⟩ := q_fault i1 qG.1 qX qT
  exact ⟨_, τ1, τ2, k1, k2, n, x, T, h, r, w, ⟨c0.fr f1 (by decide), cT.fr f1 (by decide) (by decide) (by decide) (by decide), a1, cX.fr f1 (by decide) (by decide), cG.fr f1 (by decide) (by decide) (by decide) (by decide), cR.fr f1 (by decide) (by decide), cL.fr f1 (by decide), cW.fr f1 (by decide) (by decide) (by decide), cO.fr f1 (by decide) (by decide), cS.fr f1 (by decide) (by decide), cE.fr f1 (by decide) (by decide)⟩, ⟨⟨at1, qG.re f2 (by decide) (by decide) b0⟩, QS.t b1, qX.fr f2 (by decide), qR.fr f2 (by decide), qL.fr f2 (by decide) (by decide) (by decide), qW.fr f2 (by decide), qC.fr f2 (by decide) (by decide), qN.fr f2 (by decide) (by decide)⟩, hI⟩
theorem s_person {G1 G2 : GG} {σ1 σ2 : WW} (hP : PQ G1 σ1 G2 σ2) (i t : Int32) : ∃ u σ1' σ2', Mt G1 mX9_person [.ref (ga G1 0), .int i, .int t] σ1 (some (.int u)) σ1' ∧ Mt G2 mX10_person [.ref (ga G2 0), .int i, .int t] σ2 (some (.int u)) σ2' ∧ PQ G1 σ1' G2 σ2' := by
  obtain ⟨n, x, T, h, r, w, ⟨c0, cT, cP, cX, cG, cR, cL, cW, cO, cS, cE⟩, ⟨⟨at0, qG⟩, qT, qX, qR, qL, qW, qC, qN⟩, hI⟩ := hP
  obtain ⟨i1, i2, i3, i4, i5, i6⟩ := id hI
  have hW := cT.w
  have hm := hW.2.2.2.2.1
  have k1 := c_person c0 cT cG i4 i t
  have k2 := q_person qT qG i4 i t
  exact ⟨_, σ1, σ2, k1, k2, n, x, T, h, r, w, ⟨c0, cT, cP, cX, cG, cR, cL, cW, cO, cS, cE⟩, ⟨⟨at0, qG⟩, qT, qX, qR, qL, qW, qC, qN⟩, hI⟩
theorem s_differ {G1 G2 : GG} {σ1 σ2 : WW} (hP : PQ G1 σ1 G2 σ2) (i j : Int32) (z : Bool) : ∃ u σ1' σ2', Mt G1 mX9_differ [.ref (ga G1 0), .int i, .int j, .int (nI (b2 z))] σ1 (some (.int u)) σ1' ∧ Mt G2 mX10_differ [.ref (ga G2 0), .int i, .int j, .int (nI (b2 z))] σ2 (some (.int u)) σ2' ∧ PQ G1 σ1' G2 σ2' := by
  obtain ⟨n, x, T, h, r, w, ⟨c0, cT, cP, cX, cG, cR, cL, cW, cO, cS, cE⟩, ⟨⟨at0, qG⟩, qT, qX, qR, qL, qW, qC, qN⟩, hI⟩ := hP
  obtain ⟨i1, i2, i3, i4, i5, i6⟩ := id hI
  have hW := cT.w
  have hm := hW.2.2.2.2.1
  have k1 := c_differ c0 cT i j z
  have k2 := q_differ qT qG.1 i j z
  exact ⟨_, σ1, σ2, k1, k2, n, x, T, h, r, w, ⟨c0, cT, cP, cX, cG, cR, cL, cW, cO, cS, cE⟩, ⟨⟨at0, qG⟩, qT, qX, qR, qL, qW, qC, qN⟩, hI⟩
theorem s_may {G1 G2 : GG} {σ1 σ2 : WW} (hP : PQ G1 σ1 G2 σ2) (i : Int32) : ∃ u σ1' σ2', Mt G1 mX9_may [.ref (ga G1 0), .int i] σ1 (some (.int u)) σ1' ∧ Mt G2 mX10_may [.ref (ga G2 0), .int i] σ2 (some (.int u)) σ2' ∧ PQ G1 σ1' G2 σ2' := by
  obtain ⟨n, x, T, h, r, w, ⟨c0, cT, cP, cX, cG, cR, cL, cW, cO, cS, cE⟩, ⟨⟨at0, qG⟩, qT, qX, qR, qL, qW, qC, qN⟩, hI⟩ := hP
  obtain ⟨i1, i2, i3, i4, i5, i6⟩ := id hI
  have hW := cT.w
  have hm := hW.2.2.2.2.1
  have k1 := c_may c0 cT cG i4 i
  have k2 := q_may qT qG i4 i
  exact ⟨_, σ1, σ2, k1, k2, n, x, T, h, r, w, ⟨c0, cT, cP, cX, cG, cR, cL, cW, cO, cS, cE⟩, ⟨⟨at0, qG⟩, qT, qX, qR, qL, qW, qC, qN⟩, hI⟩
theorem s_goIn {G1 G2 : GG} {σ1 σ2 : WW} (hP : PQ G1 σ1 G2 σ2) (i : Int32) : ∃ u σ1' σ2', Mt G1 mX9_goIn [.ref (ga G1 0), .int i] σ1 (some (.int u)) σ1' ∧ Mt G2 mX10_goIn [.ref (ga G2 0), .int i] σ2 (some (.int u)) σ2' ∧ PQ G1 σ1' G2 σ2' := by
  obtain ⟨n, x, T, h, r, w, ⟨c0, cT, cP, cX, cG, cR, cL, cW, cO, cS, cE⟩, ⟨⟨at0, qG⟩, qT, qX, qR, qL, qW, qC, qN⟩, hI⟩ := hP
  obtain ⟨i1, i2, i3, i4, i5, i6⟩ := id hI
  have hW := cT.w
  have hm := hW.2.2.2.2.1
  obtain ⟨τ1, k1, a1, f1⟩ := c_goIn c0 cT cG i4 i
  obtain ⟨τ2, k2, b1, f2⟩ := q_goIn qT qG i4 i
  exact ⟨_, τ1, τ2, k1, k2, n, x, T, _, r, w, ⟨c0.fr f1 (by decide), cT.fr f1 (by decide) (by decide) (by decide) (by decide), cP.fr f1 (by decide) (by decide) (by decide) (by decide), cX.fr f1 (by decide) (by decide), a1, cR.fr f1 (by decide) (by decide), cL.fr f1 (by decide), cW.fr f1 (by decide) (by decide) (by decide), cO.fr f1 (by decide) (by decide), cS.fr f1 (by decide) (by decide), cE.fr f1 (by decide) (by decide)⟩, ⟨⟨at0, b1⟩, qT.fr f2 (by decide) (by decide) (by decide) (by decide) (by decide) (by decide), qX.fr f2 (by decide), qR.fr f2 (by decide), qL.fr f2 (by decide) (by decide) (by decide), qW.fr f2 (by decide), qC.fr f2 (by decide) (by decide), qN.fr f2 (by decide) (by decide)⟩, ⟨i1, i2, i3, HW_go hW i4 i true, i5, i6⟩⟩
theorem s_goOut {G1 G2 : GG} {σ1 σ2 : WW} (hP : PQ G1 σ1 G2 σ2) (i : Int32) : ∃ u σ1' σ2', Mt G1 mX9_goOut [.ref (ga G1 0), .int i] σ1 (some (.int u)) σ1' ∧ Mt G2 mX10_goOut [.ref (ga G2 0), .int i] σ2 (some (.int u)) σ2' ∧ PQ G1 σ1' G2 σ2' := by
  obtain ⟨n, x, T, h, r, w, ⟨c0, cT, cP, cX, cG, cR, cL, cW, cO, cS, cE⟩, ⟨⟨at0, qG⟩, qT, qX, qR, qL, qW, qC, qN⟩, hI⟩ := hP
  obtain ⟨i1, i2, i3, i4, i5, i6⟩ := id hI
  have hW := cT.w
  have hm := hW.2.2.2.2.1
  obtain ⟨τ1, k1, a1, f1⟩ := c_goOut c0 cT cG i4 i
  obtain ⟨τ2, k2, b1, f2⟩ := q_goOut qT qG i4 i
  exact ⟨_, τ1, τ2, k1, k2, n, x, T, _, r, w, ⟨c0.fr f1 (by decide), cT.fr f1 (by decide) (by decide) (by decide) (by decide), cP.fr f1 (by decide) (by decide) (by decide) (by decide), cX.fr f1 (by decide) (by decide), a1, cR.fr f1 (by decide) (by decide), cL.fr f1 (by decide), cW.fr f1 (by decide) (by decide) (by decide), cO.fr f1 (by decide) (by decide), cS.fr f1 (by decide) (by decide), cE.fr f1 (by decide) (by decide)⟩, ⟨⟨at0, b1⟩, qT.fr f2 (by decide) (by decide) (by decide) (by decide) (by decide) (by decide), qX.fr f2 (by decide), qR.fr f2 (by decide), qL.fr f2 (by decide) (by decide) (by decide), qW.fr f2 (by decide), qC.fr f2 (by decide) (by decide), qN.fr f2 (by decide) (by decide)⟩, ⟨i1, i2, i3, HW_go hW i4 i false, i5, i6⟩⟩
theorem s_undo {G1 G2 : GG} {σ1 σ2 : WW} (hP : PQ G1 σ1 G2 σ2) : ∃ u σ1' σ2', Mt G1 mX9_undo [.ref (ga G1 0)] σ1 (some (.int u)) σ1' ∧ Mt G2 mX10_undo [.ref (ga G2 0)] σ2 (some (.int u)) σ2' ∧ PQ G1 σ1' G2 σ2' := by
  obtain ⟨n, x, T, h, r, w, ⟨c0, cT, cP, cX, cG, cR, cL, cW, cO, cS, cE⟩, ⟨⟨at0, qG⟩, qT, qX, qR, qL, qW, qC, qN⟩, hI⟩ := hP
  obtain ⟨i1, i2, i3, i4, i5, i6⟩ := id hI
  have hW := cT.w
  have hm := hW.2.2.2.2.1
  obtain ⟨τ1, k1, a1, f1⟩ := c_undo hm c0 cG i4
  obtain ⟨τ2, k2, b1, f2⟩ := q_undo qG i4
  exact ⟨_, τ1, τ2, k1, k2, n, x, T, _, r, w, ⟨c0.fr f1 (by decide), cT.fr f1 (by decide) (by decide) (by decide) (by decide), cP.fr f1 (by decide) (by decide) (by decide) (by decide), cX.fr f1 (by decide) (by decide), a1, cR.fr f1 (by decide) (by decide), cL.fr f1 (by decide), cW.fr f1 (by decide) (by decide) (by decide), cO.fr f1 (by decide) (by decide), cS.fr f1 (by decide) (by decide), cE.fr f1 (by decide) (by decide)⟩, ⟨⟨at0, b1⟩, qT.fr f2 (by decide) (by decide) (by decide) (by decide) (by decide) (by decide), qX.fr f2 (by decide), qR.fr f2 (by decide), qL.fr f2 (by decide) (by decide) (by decide), qW.fr f2 (by decide), qC.fr f2 (by decide) (by decide), qN.fr f2 (by decide) (by decide)⟩, ⟨i1, i2, i3, HW_undo i4, i5, i6⟩⟩
theorem s_keep {G1 G2 : GG} {σ1 σ2 : WW} (hP : PQ G1 σ1 G2 σ2) : ∃ u σ1' σ2', Mt G1 mX9_keep [.ref (ga G1 0)] σ1 (some (.int u)) σ1' ∧ Mt G2 mX10_keep [.ref (ga G2 0)] σ2 (some (.int u)) σ2' ∧ PQ G1 σ1' G2 σ2' := by
  obtain ⟨n, x, T, h, r, w, ⟨c0, cT, cP, cX, cG, cR, cL, cW, cO, cS, cE⟩, ⟨⟨at0, qG⟩, qT, qX, qR, qL, qW, qC, qN⟩, hI⟩ := hP
  obtain ⟨i1, i2, i3, i4, i5, i6⟩ := id hI
  have hW := cT.w
  have hm := hW.2.2.2.2.1
  obtain ⟨τ1, k1, a1, f1⟩ := c_keep c0 cG i4
  obtain ⟨τ2, k2, b1, f2⟩ := q_keep qG i4
  exact ⟨_, τ1, τ2, k1, k2, n, x, T, _, r, w, ⟨c0.fr f1 (by decide), cT.fr f1 (by decide) (by decide) (by decide) (by decide), cP.fr f1 (by decide) (by decide) (by decide) (by decide), cX.fr f1 (by decide) (by decide), a1, cR.fr f1 (by decide) (by decide), cL.fr f1 (by decide), cW.fr f1 (by decide) (by decide) (by decide), cO.fr f1 (by decide) (by decide), cS.fr f1 (by decide) (by decide), cE.fr f1 (by decide) (by decide)⟩, ⟨⟨at0, b1⟩, qT.fr f2 (by decide) (by decide) (by decide) (by decide) (by decide) (by decide), qX.fr f2 (by decide), qR.fr f2 (by decide), qL.fr f2 (by decide) (by decide) (by decide), qW.fr f2 (by decide), qC.fr f2 (by decide) (by decide), qN.fr f2 (by decide) (by decide)⟩, ⟨i1, i2, i3, HW_keep i4, i5, i6⟩⟩
theorem s_back {G1 G2 : GG} {σ1 σ2 : WW} (hP : PQ G1 σ1 G2 σ2) : ∃ u σ1' σ2', Mt G1 mX9_back [.ref (ga G1 0)] σ1 (some (.int u)) σ1' ∧ Mt G2 mX10_back [.ref (ga G2 0)] σ2 (some (.int u)) σ2' ∧ PQ G1 σ1' G2 σ2' := by
  obtain ⟨n, x, T, h, r, w, ⟨c0, cT, cP, cX, cG, cR, cL, cW, cO, cS, cE⟩, ⟨⟨at0, qG⟩, qT, qX, qR, qL, qW, qC, qN⟩, hI⟩ := hP
  obtain ⟨i1, i2, i3, i4, i5, i6⟩ := id hI
  have hW := cT.w
  have hm := hW.2.2.2.2.1
  obtain ⟨τ1, k1, a1, f1⟩ := c_back hm c0 cG i4
  obtain ⟨τ2, k2, b1, f2⟩ := q_back qG i4
  exact ⟨_, τ1, τ2, k1, k2, n, x, T, _, r, w, ⟨c0.fr f1 (by decide), cT.fr f1 (by decide) (by decide) (by decide) (by decide), cP.fr f1 (by decide) (by decide) (by decide) (by decide), cX.fr f1 (by decide) (by decide), a1, cR.fr f1 (by decide) (by decide), cL.fr f1 (by decide), cW.fr f1 (by decide) (by decide) (by decide), cO.fr f1 (by decide) (by decide), cS.fr f1 (by decide) (by decide), cE.fr f1 (by decide) (by decide)⟩, ⟨⟨at0, b1⟩, qT.fr f2 (by decide) (by decide) (by decide) (by decide) (by decide) (by decide), qX.fr f2 (by decide), qR.fr f2 (by decide), qL.fr f2 (by decide) (by decide) (by decide), qW.fr f2 (by decide), qC.fr f2 (by decide) (by decide), qN.fr f2 (by decide) (by decide)⟩, ⟨i1, i2, i3, HW_back i4, i5, i6⟩⟩
theorem s_last {G1 G2 : GG} {σ1 σ2 : WW} (hP : PQ G1 σ1 G2 σ2) : ∃ u σ1' σ2', Mt G1 mX9_last [.ref (ga G1 0)] σ1 (some (.int u)) σ1' ∧ Mt G2 mX10_last [.ref (ga G2 0)] σ2 (some (.int u)) σ2' ∧ PQ G1 σ1' G2 σ2' := by
  obtain ⟨n, x, T, h, r, w, ⟨c0, cT, cP, cX, cG, cR, cL, cW, cO, cS, cE⟩, ⟨⟨at0, qG⟩, qT, qX, qR, qL, qW, qC, qN⟩, hI⟩ := hP
  obtain ⟨i1, i2, i3, i4, i5, i6⟩ := id hI
  have hW := cT.w
  have hm := hW.2.2.2.2.1
  have k1 := c_last hm c0 cG i4
  have k2 := q_last qG
  exact ⟨_, σ1, σ2, k1, k2, n, x, T, h, r, w, ⟨c0, cT, cP, cX, cG, cR, cL, cW, cO, cS, cE⟩, ⟨⟨at0, qG⟩, qT, qX, qR, qL, qW, qC, qN⟩, hI⟩
theorem s_add {G1 G2 : GG} {σ1 σ2 : WW} (hP : PQ G1 σ1 G2 σ2) (i : Int32) : ∃ u σ1' σ2', Mt G1 mX9_add [.ref (ga G1 0), .int i] σ1 (some (.int u)) σ1' ∧ Mt G2 mX10_add [.ref (ga G2 0), .int i] σ2 (some (.int u)) σ2' ∧ PQ G1 σ1' G2 σ2' := by
  obtain ⟨n, x, T, h, r, w, ⟨c0, cT, cP, cX, cG, cR, cL, cW, cO, cS, cE⟩, ⟨⟨at0, qG⟩, qT, qX, qR, qL, qW, qC, qN⟩, hI⟩ := hP
  obtain ⟨i1, i2, i3, i4, i5, i6⟩ := id hI
  have hW := cT.w
  have hm := hW.2.2.2.2.1
  obtain ⟨τ1, k1, a1, f1⟩ := c_add c0 cT cR i5 i
  obtain ⟨τ2, k2, b0, b1, f2⟩ := q_add qG.1 qT qR i5 i
  exact ⟨_, τ1, τ2, k1, k2, n, x, T, h, _, _, ⟨c0.fr f1 (by decide), cT.fr f1 (by decide) (by decide) (by decide) (by decide), cP.fr f1 (by decide) (by decide) (by decide) (by decide), cX.fr f1 (by decide) (by decide), cG.fr f1 (by decide) (by decide) (by decide) (by decide), a1, cL.fr f1 (by decide), cW.fr f1 (by decide) (by decide) (by decide), cO.fr f1 (by decide) (by decide), cS.fr f1 (by decide) (by decide), cE.fr f1 (by decide) (by decide)⟩, ⟨⟨at0, qG.re f2 (by decide) (by decide) b0⟩, qT.fr f2 (by decide) (by decide) (by decide) (by decide) (by decide) (by decide), qX.fr f2 (by decide), b1, qL.fr f2 (by decide) (by decide) (by decide), qW.fr f2 (by decide), qC.fr f2 (by decide) (by decide), qN.fr f2 (by decide) (by decide)⟩, Inv_add hm hI i⟩
theorem s_noRow {G1 G2 : GG} {σ1 σ2 : WW} (hP : PQ G1 σ1 G2 σ2) : ∃ u σ1' σ2', Mt G1 mX9_noRow [.ref (ga G1 0)] σ1 (some (.int u)) σ1' ∧ Mt G2 mX10_noRow [.ref (ga G2 0)] σ2 (some (.int u)) σ2' ∧ PQ G1 σ1' G2 σ2' := by
  obtain ⟨n, x, T, h, r, w, ⟨c0, cT, cP, cX, cG, cR, cL, cW, cO, cS, cE⟩, ⟨⟨at0, qG⟩, qT, qX, qR, qL, qW, qC, qN⟩, hI⟩ := hP
  obtain ⟨i1, i2, i3, i4, i5, i6⟩ := id hI
  have hW := cT.w
  have hm := hW.2.2.2.2.1
  obtain ⟨τ1, k1, a1, f1⟩ := c_noRow c0 cR
  obtain ⟨τ2, k2, b0, f2⟩ := q_noRow qG.1
  exact ⟨_, τ1, τ2, k1, k2, n, x, T, h, 0, w, ⟨c0.fr f1 (by decide), cT.fr f1 (by decide) (by decide) (by decide) (by decide), cP.fr f1 (by decide) (by decide) (by decide) (by decide), cX.fr f1 (by decide) (by decide), cG.fr f1 (by decide) (by decide) (by decide) (by decide), a1, cL.fr f1 (by decide), cW.fr f1 (by decide) (by decide) (by decide), cO.fr f1 (by decide) (by decide), cS.fr f1 (by decide) (by decide), cE.fr f1 (by decide) (by decide)⟩, ⟨⟨at0, qG.re f2 (by decide) (by decide) b0⟩, qT.fr f2 (by decide) (by decide) (by decide) (by decide) (by decide) (by decide), qX.fr f2 (by decide), (by obtain ⟨g, g1, _⟩ := qR; exact ⟨g, g1.fr f2 (by decide), fun k hk => absurd hk (Nat.not_lt_zero _)⟩), qL.fr f2 (by decide) (by decide) (by decide), qW.fr f2 (by decide), qC.fr f2 (by decide) (by decide), qN.fr f2 (by decide) (by decide)⟩, ⟨i1, i2, i3, i4, Nat.zero_le _, fun k hk => absurd hk (Nat.not_lt_zero _)⟩⟩
theorem s_judge {G1 G2 : GG} {σ1 σ2 : WW} (hP : PQ G1 σ1 G2 σ2) : ∃ u σ1' σ2', Mt G1 mX9_judge [.ref (ga G1 0)] σ1 (some (.int u)) σ1' ∧ Mt G2 mX10_judge [.ref (ga G2 0)] σ2 (some (.int u)) σ2' ∧ PQ G1 σ1' G2 σ2' := by
  obtain ⟨n, x, T, h, r, w, ⟨c0, cT, cP, cX, cG, cR, cL, cW, cO, cS, cE⟩, ⟨⟨at0, qG⟩, qT, qX, qR, qL, qW, qC, qN⟩, hI⟩ := hP
  obtain ⟨i1, i2, i3, i4, i5, i6⟩ := id hI
  have hW := cT.w
  have hm := hW.2.2.2.2.1
  obtain ⟨τ1, k1, a1, f1⟩ := c_judge c0 cT cR i5 i6 cL
  have k2 := q_judge qG.1 qT qR i5 i6
  exact ⟨_, τ1, σ2, k1, k2, n, x, T, h, r, w, ⟨c0.fr f1 (by decide), cT.fr f1 (by decide) (by decide) (by decide) (by decide), cP.fr f1 (by decide) (by decide) (by decide) (by decide), cX.fr f1 (by decide) (by decide), cG.fr f1 (by decide) (by decide) (by decide) (by decide), cR.fr f1 (by decide) (by decide), a1, cW.fr f1 (by decide) (by decide) (by decide), cO.fr f1 (by decide) (by decide), cS.fr f1 (by decide) (by decide), cE.fr f1 (by decide) (by decide)⟩, ⟨⟨at0, qG⟩, qT, qX, qR, qL, qW, qC, qN⟩, hI⟩
theorem s_longest {G1 G2 : GG} {σ1 σ2 : WW} (hP : PQ G1 σ1 G2 σ2) (s i : Int32) : ∃ u σ1' σ2', Mt G1 mX9_longest [.ref (ga G1 0), .int s, .int i] σ1 (some (.int u)) σ1' ∧ Mt G2 mX10_longest [.ref (ga G2 0), .int s, .int i] σ2 (some (.int u)) σ2' ∧ PQ G1 σ1' G2 σ2' := by
  obtain ⟨n, x, T, h, r, w, ⟨c0, cT, cP, cX, cG, cR, cL, cW, cO, cS, cE⟩, ⟨⟨at0, qG⟩, qT, qX, qR, qL, qW, qC, qN⟩, hI⟩ := hP
  obtain ⟨i1, i2, i3, i4, i5, i6⟩ := id hI
  have hW := cT.w
  have hm := hW.2.2.2.2.1
  obtain ⟨τ1, k1, a1, a2, f1⟩ := c_longest c0 cT cO cL s i
  obtain ⟨τ2, k2, b1, f2⟩ := q_longest qG.1 qT qL s i
  exact ⟨_, τ1, τ2, k1, k2, n, x, T, h, r, w, ⟨c0.fr f1 (by decide), cT.fr f1 (by decide) (by decide) (by decide) (by decide), cP.fr f1 (by decide) (by decide) (by decide) (by decide), cX.fr f1 (by decide) (by decide), cG.fr f1 (by decide) (by decide) (by decide) (by decide), cR.fr f1 (by decide) (by decide), a2, cW.fr f1 (by decide) (by decide) (by decide), a1, cS.fr f1 (by decide) (by decide), cE.fr f1 (by decide) (by decide)⟩, ⟨⟨at0, qG.fr f2 (by decide) (by decide) (by decide)⟩, qT.fr f2 (by decide) (by decide) (by decide) (by decide) (by decide) (by decide), qX.fr f2 (by decide), qR.fr f2 (by decide), b1, qW.fr f2 (by decide), qC.fr f2 (by decide) (by decide), qN.fr f2 (by decide) (by decide)⟩, hI⟩
theorem s_proof {G1 G2 : GG} {σ1 σ2 : WW} (hP : PQ G1 σ1 G2 σ2) : ∃ u σ1' σ2', Mt G1 mX9_proof [.ref (ga G1 0)] σ1 (some (.int u)) σ1' ∧ Mt G2 mX10_proof [.ref (ga G2 0)] σ2 (some (.int u)) σ2' ∧ PQ G1 σ1' G2 σ2' := by
  obtain ⟨n, x, T, h, r, w, ⟨c0, cT, cP, cX, cG, cR, cL, cW, cO, cS, cE⟩, ⟨⟨at0, qG⟩, qT, qX, qR, qL, qW, qC, qN⟩, hI⟩ := hP
  obtain ⟨i1, i2, i3, i4, i5, i6⟩ := id hI
  have hW := cT.w
  have hm := hW.2.2.2.2.1
  have k1 := c_proof c0 cT
  have k2 := q_proof qG.1 qT
  exact ⟨_, σ1, σ2, k1, k2, n, x, T, h, r, w, ⟨c0, cT, cP, cX, cG, cR, cL, cW, cO, cS, cE⟩, ⟨⟨at0, qG⟩, qT, qX, qR, qL, qW, qC, qN⟩, hI⟩
theorem s_between {G1 G2 : GG} {σ1 σ2 : WW} (hP : PQ G1 σ1 G2 σ2) (i j k : Int32) : ∃ u σ1' σ2', Mt G1 mX9_between [.ref (ga G1 0), .int i, .int j, .int k] σ1 (some (.long u)) σ1' ∧ Mt G2 mX10_between [.ref (ga G2 0), .int i, .int j, .int k] σ2 (some (.long u)) σ2' ∧ PQ G1 σ1' G2 σ2' := by
  obtain ⟨n, x, T, h, r, w, ⟨c0, cT, cP, cX, cG, cR, cL, cW, cO, cS, cE⟩, ⟨⟨at0, qG⟩, qT, qX, qR, qL, qW, qC, qN⟩, hI⟩ := hP
  obtain ⟨i1, i2, i3, i4, i5, i6⟩ := id hI
  have hW := cT.w
  have hm := hW.2.2.2.2.1
  obtain ⟨τ1, k1, a1, f1⟩ := c_between c0 cT cW i j k
  obtain ⟨τ2, k2, b1, f2⟩ := q_between qG.1 qT qW i j k
  exact ⟨_, τ1, τ2, k1, k2, n, x, T, h, r, w, ⟨c0.fr f1 (by decide), cT.fr f1 (by decide) (by decide) (by decide) (by decide), cP.fr f1 (by decide) (by decide) (by decide) (by decide), cX.fr f1 (by decide) (by decide), cG.fr f1 (by decide) (by decide) (by decide) (by decide), cR.fr f1 (by decide) (by decide), cL.fr f1 (by decide), a1, cO.fr f1 (by decide) (by decide), cS.fr f1 (by decide) (by decide), cE.fr f1 (by decide) (by decide)⟩, ⟨⟨at0, qG.fr f2 (by decide) (by decide) (by decide)⟩, qT.fr f2 (by decide) (by decide) (by decide) (by decide) (by decide) (by decide), qX.fr f2 (by decide), qR.fr f2 (by decide), qL.fr f2 (by decide) (by decide) (by decide), b1, qC.fr f2 (by decide) (by decide), qN.fr f2 (by decide) (by decide)⟩, hI⟩
theorem s_nearest {G1 G2 : GG} {σ1 σ2 : WW} (hP : PQ G1 σ1 G2 σ2) (i j : Int32) : ∃ u σ1' σ2', Mt G1 mX9_nearest [.ref (ga G1 0), .int i, .int j] σ1 (some (.int u)) σ1' ∧ Mt G2 mX10_nearest [.ref (ga G2 0), .int i, .int j] σ2 (some (.int u)) σ2' ∧ PQ G1 σ1' G2 σ2' := by
  obtain ⟨n, x, T, h, r, w, ⟨c0, cT, cP, cX, cG, cR, cL, cW, cO, cS, cE⟩, ⟨⟨at0, qG⟩, qT, qX, qR, qL, qW, qC, qN⟩, hI⟩ := hP
  obtain ⟨i1, i2, i3, i4, i5, i6⟩ := id hI
  have hW := cT.w
  have hm := hW.2.2.2.2.1
  obtain ⟨τ1, k1, a1, f1⟩ := c_nearest c0 cT cW i j
  obtain ⟨τ2, k2, b1, f2⟩ := q_nearest qG.1 qT qW i j
  exact ⟨_, τ1, τ2, k1, k2, n, x, T, h, r, w, ⟨c0.fr f1 (by decide), cT.fr f1 (by decide) (by decide) (by decide) (by decide), cP.fr f1 (by decide) (by decide) (by decide) (by decide), cX.fr f1 (by decide) (by decide), cG.fr f1 (by decide) (by decide) (by decide) (by decide), cR.fr f1 (by decide) (by decide), cL.fr f1 (by decide), a1, cO.fr f1 (by decide) (by decide), cS.fr f1 (by decide) (by decide), cE.fr f1 (by decide) (by decide)⟩, ⟨⟨at0, qG.fr f2 (by decide) (by decide) (by decide)⟩, qT.fr f2 (by decide) (by decide) (by decide) (by decide) (by decide) (by decide), qX.fr f2 (by decide), qR.fr f2 (by decide), qL.fr f2 (by decide) (by decide) (by decide), b1, qC.fr f2 (by decide) (by decide), qN.fr f2 (by decide) (by decide)⟩, hI⟩
theorem s_steps {G1 G2 : GG} {σ1 σ2 : WW} (hP : PQ G1 σ1 G2 σ2) (i j k : Int32) : ∃ u σ1' σ2', Mt G1 mX9_steps [.ref (ga G1 0), .int i, .int j, .int k] σ1 (some (.int u)) σ1' ∧ Mt G2 mX10_steps [.ref (ga G2 0), .int i, .int j, .int k] σ2 (some (.int u)) σ2' ∧ PQ G1 σ1' G2 σ2' := by
  obtain ⟨n, x, T, h, r, w, ⟨c0, cT, cP, cX, cG, cR, cL, cW, cO, cS, cE⟩, ⟨⟨at0, qG⟩, qT, qX, qR, qL, qW, qC, qN⟩, hI⟩ := hP
  obtain ⟨i1, i2, i3, i4, i5, i6⟩ := id hI
  have hW := cT.w
  have hm := hW.2.2.2.2.1
  obtain ⟨τ1, k1, a1, f1⟩ := c_steps c0 cT cS i j k
  obtain ⟨τ2, k2, b1, f2⟩ := q_steps qG.1 qT qC i j k
  exact ⟨_, τ1, τ2, k1, k2, n, x, T, h, r, w, ⟨c0.fr f1 (by decide), cT.fr f1 (by decide) (by decide) (by decide) (by decide), cP.fr f1 (by decide) (by decide) (by decide) (by decide), cX.fr f1 (by decide) (by decide), cG.fr f1 (by decide) (by decide) (by decide) (by decide), cR.fr f1 (by decide) (by decide), cL.fr f1 (by decide), cW.fr f1 (by decide) (by decide) (by decide), cO.fr f1 (by decide) (by decide), a1, cE.fr f1 (by decide) (by decide)⟩, ⟨⟨at0, qG.fr f2 (by decide) (by decide) (by decide)⟩, qT.fr f2 (by decide) (by decide) (by decide) (by decide) (by decide) (by decide), qX.fr f2 (by decide), qR.fr f2 (by decide), qL.fr f2 (by decide) (by decide) (by decide), qW.fr f2 (by decide), b1, qN.fr f2 (by decide) (by decide)⟩, hI⟩
theorem s_lent {G1 G2 : GG} {σ1 σ2 : WW} (hP : PQ G1 σ1 G2 σ2) (i : Int32) : ∃ u σ1' σ2', Mt G1 mX9_lent [.ref (ga G1 0), .int i] σ1 (some (.int u)) σ1' ∧ Mt G2 mX10_lent [.ref (ga G2 0), .int i] σ2 (some (.int u)) σ2' ∧ PQ G1 σ1' G2 σ2' := by
  obtain ⟨n, x, T, h, r, w, ⟨c0, cT, cP, cX, cG, cR, cL, cW, cO, cS, cE⟩, ⟨⟨at0, qG⟩, qT, qX, qR, qL, qW, qC, qN⟩, hI⟩ := hP
  obtain ⟨i1, i2, i3, i4, i5, i6⟩ := id hI
  have hW := cT.w
  have hm := hW.2.2.2.2.1
  obtain ⟨τ1, k1, a1, f1⟩ := c_lent c0 cT cE cR i5 i6 i
  obtain ⟨τ2, k2, b1, f2⟩ := q_lent qG.1 qT qR qN i5 i6 i
  exact ⟨_, τ1, τ2, k1, k2, n, x, T, h, r, w, ⟨c0.fr f1 (by decide), cT.fr f1 (by decide) (by decide) (by decide) (by decide), cP.fr f1 (by decide) (by decide) (by decide) (by decide), cX.fr f1 (by decide) (by decide), cG.fr f1 (by decide) (by decide) (by decide) (by decide), cR.fr f1 (by decide) (by decide), cL.fr f1 (by decide), cW.fr f1 (by decide) (by decide) (by decide), cO.fr f1 (by decide) (by decide), cS.fr f1 (by decide) (by decide), a1⟩, ⟨⟨at0, qG.fr f2 (by decide) (by decide) (by decide)⟩, qT.fr f2 (by decide) (by decide) (by decide) (by decide) (by decide) (by decide), qX.fr f2 (by decide), qR.fr f2 (by decide), qL.fr f2 (by decide) (by decide) (by decide), qW.fr f2 (by decide), qC.fr f2 (by decide) (by decide), b1⟩, hI⟩
theorem s_mustSee {G1 G2 : GG} {σ1 σ2 : WW} (hP : PQ G1 σ1 G2 σ2) : ∃ u σ1' σ2', Mt G1 mX9_mustSee [.ref (ga G1 0)] σ1 (some (.int u)) σ1' ∧ Mt G2 mX10_mustSee [.ref (ga G2 0)] σ2 (some (.int u)) σ2' ∧ PQ G1 σ1' G2 σ2' := by
  obtain ⟨n, x, T, h, r, w, ⟨c0, cT, cP, cX, cG, cR, cL, cW, cO, cS, cE⟩, ⟨⟨at0, qG⟩, qT, qX, qR, qL, qW, qC, qN⟩, hI⟩ := hP
  obtain ⟨i1, i2, i3, i4, i5, i6⟩ := id hI
  have hW := cT.w
  have hm := hW.2.2.2.2.1
  have k1 := c_mustSee c0 cT
  have k2 := q_mustSee qG.1 qT
  exact ⟨_, σ1, σ2, k1, k2, n, x, T, h, r, w, ⟨c0, cT, cP, cX, cG, cR, cL, cW, cO, cS, cE⟩, ⟨⟨at0, qG⟩, qT, qX, qR, qL, qW, qC, qN⟩, hI⟩
theorem s_crowd {G1 G2 : GG} {σ1 σ2 : WW} (hP : PQ G1 σ1 G2 σ2) (z k y : Int32) : ∃ u σ1' σ2', Mt G1 mX9_crowd [.ref (ga G1 0), .int z, .int k, .int y] σ1 (some (.int u)) σ1' ∧ Mt G2 mX10_crowd [.ref (ga G2 0), .int z, .int k, .int y] σ2 (some (.int u)) σ2' ∧ PQ G1 σ1' G2 σ2' := by
  obtain ⟨n, x, T, h, r, w, ⟨c0, cT, cP, cX, cG, cR, cL, cW, cO, cS, cE⟩, ⟨⟨at0, qG⟩, qT, qX, qR, qL, qW, qC, qN⟩, hI⟩ := hP
  obtain ⟨i1, i2, i3, i4, i5, i6⟩ := id hI
  have hW := cT.w
  have hm := hW.2.2.2.2.1
  obtain ⟨τ1, k1, a1, f1⟩ := c_crowd c0 cT i3 cL z k y
  have k2 := q_crowd qG.1 qT z k y
  exact ⟨_, τ1, σ2, k1, k2, n, x, T, h, r, w, ⟨c0.fr f1 (by decide), cT.fr f1 (by decide) (by decide) (by decide) (by decide), cP.fr f1 (by decide) (by decide) (by decide) (by decide), cX.fr f1 (by decide) (by decide), cG.fr f1 (by decide) (by decide) (by decide) (by decide), cR.fr f1 (by decide) (by decide), a1, cW.fr f1 (by decide) (by decide) (by decide), cO.fr f1 (by decide) (by decide), cS.fr f1 (by decide) (by decide), cE.fr f1 (by decide) (by decide)⟩, ⟨⟨at0, qG⟩, qT, qX, qR, qL, qW, qC, qN⟩, hI⟩
theorem s_count {G1 G2 : GG} {σ1 σ2 : WW} (hP : PQ G1 σ1 G2 σ2) (i : Int32) : ∃ u σ1' σ2', Mt G1 mX9_count [.ref (ga G1 0), .int i] σ1 (some (.int u)) σ1' ∧ Mt G2 mX10_count [.ref (ga G2 0), .int i] σ2 (some (.int u)) σ2' ∧ PQ G1 σ1' G2 σ2' := by
  obtain ⟨n, x, T, h, r, w, ⟨c0, cT, cP, cX, cG, cR, cL, cW, cO, cS, cE⟩, ⟨⟨at0, qG⟩, qT, qX, qR, qL, qW, qC, qN⟩, hI⟩ := hP
  obtain ⟨i1, i2, i3, i4, i5, i6⟩ := id hI
  have hW := cT.w
  have hm := hW.2.2.2.2.1
  have k1 := c_count c0 cT cG i4 cX cR i
  have k2 := q_count qT qG i4 i
  exact ⟨_, σ1, σ2, k1, k2, n, x, T, h, r, w, ⟨c0, cT, cP, cX, cG, cR, cL, cW, cO, cS, cE⟩, ⟨⟨at0, qG⟩, qT, qX, qR, qL, qW, qC, qN⟩, hI⟩
