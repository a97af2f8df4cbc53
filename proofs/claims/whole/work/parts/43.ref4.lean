theorem byt_sh (v : Int64) : ∀ j, j < 8 → (v >>> ((nI (8 * j)).toInt64 &&& 63)).toInt32.toInt8.toInt32 = byt v j := by
  intro j hj
  show _ = ((v.toUInt64 >>> ((nI (8 * j)).toInt64.toUInt64 &&& Int64.toUInt64 63)).toInt64).toInt32.toInt8.toInt32
  congr 1
  apply Int8.toBitVec_inj.mp
  have e1 : (((nI (8 * j)).toInt64 &&& 63).toBitVec.smod 64).toNat = 8 * j := by
    have : ∀ j, j < 8 → (((nI (8 * j)).toInt64 &&& 63).toBitVec.smod 64).toNat = 8 * j := by decide +kernel
    exact this j hj
  have e2 : (((nI (8 * j)).toInt64.toUInt64 &&& Int64.toUInt64 63).mod 64).toBitVec.toNat = 8 * j := by
    have : ∀ j, j < 8 → (((nI (8 * j)).toInt64.toUInt64 &&& Int64.toUInt64 63).mod 64).toBitVec.toNat = 8 * j := by decide +kernel
    exact this j hj
  apply BitVec.eq_of_getLsbD_eq
  intro k hk
  have a1 : (v >>> ((nI (8 * j)).toInt64 &&& 63)).toBitVec = v.toBitVec.sshiftRight (8 * j) := by
    show v.toBitVec.sshiftRight' _ = _
    unfold BitVec.sshiftRight'
    rw [e1]
  have a2 : ((v.toUInt64 >>> ((nI (8 * j)).toInt64.toUInt64 &&& Int64.toUInt64 63)).toInt64).toBitVec = v.toBitVec >>> (8 * j) := by
    show v.toBitVec >>> _ = _
    rw [BitVec.ushiftRight_eq']
    rw [e2]
  simp only [Int32.toBitVec_toInt8, Int64.toBitVec_toInt32, a1, a2, BitVec.getLsbD_signExtend, BitVec.getLsbD_sshiftRight, BitVec.getLsbD_ushiftRight]
  have : k < 32 := by omega
  have h3 : ¬ 64 ≤ k := by omega
  have h4 : 8 * j + k < 64 := by omega
  have h5 : k < 64 := by omega
  simp [this, h3, h4, h5]
/-- the reference's text and row -/
def QX (G : GG) (σ : WW) (n : Nat) (x : Nat → Int32) : Prop := ∃ f, Cl G σ 1 (bA G 300 f) ∧ ∀ k, k < n → f k = x k
def QR (G : GG) (σ : WW) (n : Nat) (w : Nat → Nat) : Prop := ∃ f, Cl G σ 10 (iA G 16 f) ∧ ∀ k, k < n → f k = nI (w k)
theorem QX.fr {G : GG} {σ σ' : WW} {n : Nat} {x : Nat → Int32} {ps : List Nat} (h : QX G σ n x) (f : Fr σ σ' ps) (h1 : 1 ∉ ps) : QX G σ' n x := by
  obtain ⟨f1, b, c⟩ := h
  exact ⟨f1, b.fr f h1, c⟩
theorem QR.fr {G : GG} {σ σ' : WW} {n : Nat} {w : Nat → Nat} {ps : List Nat} (h : QR G σ n w) (f : Fr σ σ' ps) (h1 : 10 ∉ ps) : QR G σ' n w := by
  obtain ⟨f1, b, c⟩ := h
  exact ⟨f1, b.fr f h1, c⟩
theorem cp3_z (f fs : Nat → Int32) (k : Nat) : upd (cp3 f fs 0 k) k (fs k) = cp3 f fs 0 (k + 1) := by
  have := cp3_s f fs 0 k
  rw [Nat.zero_add] at this
  exact this
section REF4
variable {G : GG} {σ : WW} {T : TS} {h : HH} {len at_ rm : Int32}
theorem r_go (hT : QT G σ T) (hg : QG G σ len at_ rm h) (hw : HW (tm T) h) (i : Int32) (inn : Bool) : ∃ σ', Mt G mX10_goes [.ref (ga G 0), .int i, .int (nI (b2 inn))] σ (some (.int (goF T h i inn).1)) σ' ∧ QG G σ' len at_ rm (goF T h i inn).2 ∧ Fr σ σ' [0, 8, 9] := by
  have hm := hT.w.1.2.2.2.2.1
  by_cases hno : inR i (tm T) = false ∨ (h.1.1.testBit i.toNatClampNeg == inn || !lLets T h.1.2.1 h.1.2.2 i.toNatClampNeg) = true
  · obtain ⟨a, b⟩ := r_goesNo hT hg hw i inn hno
    refine ⟨σ, a, ?_, fr0⟩
    rw [b]
    exact hg
  · rcases inR_c i (m := tm T) (by omega) with e | ⟨e, k, hk, rfl⟩
    · exact absurd (Or.inl e) hno
    · have ek := nI_clamp (n := k) (by omega)
      rw [ek] at hno
      have hc : ¬ (h.1.1.testBit k == inn || !lLets T h.1.2.1 h.1.2.2 k) = true := fun q => hno (Or.inr q)
      have hb : h.1.1.testBit k ≠ inn := fun q => hc (by simp [q])
      have hl : lLets T h.1.2.1 h.1.2.2 k = true := by
        cases z : lLets T h.1.2.1 h.1.2.2 k
        · exact absurd (by simp [z]) hc
        · rfl
      rw [show goF T h (nI k) inn = (nI (many (passH T h k).1.1), passH T h k) by unfold goF; rw [e, ek, if_pos rfl, if_neg hc]]
      exact r_goes hT hg hw hk inn hb hl
theorem q_goIn (hT : QT G σ T) (hg : QG G σ len at_ rm h) (hw : HW (tm T) h) (i : Int32) : ∃ σ', Mt G mX10_goIn [.ref (ga G 0), .int i] σ (some (.int (goF T h i true).1)) σ' ∧ QG G σ' len at_ rm (goF T h i true).2 ∧ Fr σ σ' [0, 8, 9] := by
  obtain ⟨σ', a, b, c⟩ := r_go hT hg hw i true
  refine ⟨σ', ?_, b, c⟩
  have h0 := hg.1
  refine Mt.of (by decide +kernel) (Nat.le_of_ble_eq_true rfl) (fun κ C => ?_)
  refine g_aload_n (pc := 0) C dX10_goIn_0 rfl ?_
  refine g_iload_n (pc := 1) C dX10_goIn_1 rfl ?_
  refine g_iconst (pc := 2) (v := nI 1) C dX10_goIn_2 (by decide) ?_
  apply cl_X10_153 (pc := 3) C rfl a dX10_goIn_3
  · repeat (first | assumption | exact Cl.s (by assumption) | refine Cl.n (by first | decide | omega) ?_)
  · rfl
  · exact Nat.le_of_ble_eq_true rfl
  exact g_ireturn (pc := 6) C dX10_goIn_6 rfl (rfl) (rfl)
theorem q_goOut (hT : QT G σ T) (hg : QG G σ len at_ rm h) (hw : HW (tm T) h) (i : Int32) : ∃ σ', Mt G mX10_goOut [.ref (ga G 0), .int i] σ (some (.int (goF T h i false).1)) σ' ∧ QG G σ' len at_ rm (goF T h i false).2 ∧ Fr σ σ' [0, 8, 9] := by
  obtain ⟨σ', a, b, c⟩ := r_go hT hg hw i false
  refine ⟨σ', ?_, b, c⟩
  have h0 := hg.1
  refine Mt.of (by decide +kernel) (Nat.le_of_ble_eq_true rfl) (fun κ C => ?_)
  refine g_aload_n (pc := 0) C dX10_goOut_0 rfl ?_
  refine g_iload_n (pc := 1) C dX10_goOut_1 rfl ?_
  refine g_iconst (pc := 2) (v := nI 0) C dX10_goOut_2 (by decide) ?_
  apply cl_X10_153 (pc := 3) C rfl a dX10_goOut_3
  · repeat (first | assumption | exact Cl.s (by assumption) | refine Cl.n (by first | decide | omega) ?_)
  · rfl
  · exact Nat.le_of_ble_eq_true rfl
  exact g_ireturn (pc := 6) C dX10_goOut_6 rfl (rfl) (rfl)
theorem q_undo (hg : QG G σ len at_ rm h) (hw : HW (tm T) h) : ∃ σ', Mt G mX10_undo [.ref (ga G 0)] σ (some (.int (undoF h).1)) σ' ∧ QG G σ' len at_ rm (undoF h).2 ∧ Fr σ σ' [0, 8, 9] := by
  have hg' := hg
  obtain ⟨h0, ⟨fs, h8, hs0, hs1⟩, fw, h9', hfw⟩ := hg
  have hd8 := hw.2.1
  by_cases hd : h.2.1 = 0
  · rw [show undoF h = (-2, h) by simp [undoF, hd]]
    refine ⟨σ, ?_, hg', fr0⟩
    refine Mt.of (by decide +kernel) (Nat.le_of_ble_eq_true rfl) (fun κ C => ?_)
    refine g_aload_n (pc := 0) C dX10_undo_0 rfl ?_
    apply gf_X10_114 (pc := 1) C rfl dX10_undo_1
    · repeat (first | assumption | exact Cl.s (by assumption) | refine Cl.n (by first | decide | omega) ?_)
    · rfl
    refine g_if_nE (pc := 4) C 10 dX10_undo_4 (by decide) (fun c4 => ?_) (fun c4 => ?_)
    · exact absurd (by rw [hd]; rfl) c4
    · refine g_bipush (pc := 7) (v := -2) C dX10_undo_7 (by decide) ?_
      exact g_ireturn (pc := 9) C dX10_undo_9 rfl (rfl) (rfl)
  · rw [show undoF h = (nI (h.2.1 - 1), undoH h) by simp [undoF, hd]]
    obtain ⟨dn, hdn⟩ : ∃ dn, h.2.1 = dn + 1 := ⟨h.2.1 - 1, by omega⟩
    rw [show h.2.1 - 1 = dn by omega]
    obtain ⟨a1, a2, a3⟩ := hfw dn (by omega)
    refine ⟨va_up (va_up σ 0 (cRef G len at_ (nI h.2.2.2.1) (nI dn) rm)) 8 (iA G 9 (cp3 fs (fun q => fw (3 * dn + q)) 0 3)), ?_, ?_, fr3 (fr3 fr0 (by decide)) (by decide)⟩
    · refine Mt.of (by decide +kernel) (Nat.le_of_ble_eq_true rfl) (fun κ C => ?_)
      have loop : ∀ e q, q + e = 3 → Go G mX10_undo κ (some (.int (nI dn))) (va_up (va_up σ 0 (cRef G len at_ (nI h.2.2.2.1) (nI dn) rm)) 8 (iA G 9 (cp3 fs (fun q => fw (3 * dn + q)) 0 3))) (va_up (va_up σ 0 (cRef G len at_ (nI h.2.2.2.1) (nI dn) rm)) 8 (iA G 9 (cp3 fs (fun q => fw (3 * dn + q)) 0 q))) 22 [(0, .ref (ga G 0)), (1, .int (nI q))] [] := by
        intro e
        induction e with
        | zero =>
          intro q hq
          have y0 : Cl G (va_up (va_up σ 0 (cRef G len at_ (nI h.2.2.2.1) (nI dn) rm)) 8 (iA G 9 (cp3 fs (fun q => fw (3 * dn + q)) 0 q))) 0 (cRef G len at_ (nI h.2.2.2.1) (nI dn) rm) := Cl.n (by decide) (Cl.s h0)
          refine g_iload_n (pc := 22) C dX10_undo_22 rfl ?_
          refine g_iconst (pc := 23) (v := nI 3) C dX10_undo_23 (by decide) ?_
          refine g_icmp_ge (pc := 24) C 52 dX10_undo_24 (by decide) (fun c24 => ?_) (fun c24 => ?_)
          · refine g_aload_n (pc := 52) C dX10_undo_52 rfl ?_
            apply gf_X10_114 (pc := 53) C rfl dX10_undo_53
            · repeat (first | assumption | exact Cl.s (by assumption) | refine Cl.n (by first | decide | omega) ?_)
            · rfl
            exact g_ireturn (pc := 56) C dX10_undo_56 rfl (rfl) (by rw [show q = 3 by omega])
          · exact absurd (nI_le (by omega) (by omega)) c24
        | succ e ih =>
          intro q hq
          have y0 : Cl G (va_up (va_up σ 0 (cRef G len at_ (nI h.2.2.2.1) (nI dn) rm)) 8 (iA G 9 (cp3 fs (fun q => fw (3 * dn + q)) 0 q))) 0 (cRef G len at_ (nI h.2.2.2.1) (nI dn) rm) := Cl.n (by decide) (Cl.s h0)
          have y8 : Cl G (va_up (va_up σ 0 (cRef G len at_ (nI h.2.2.2.1) (nI dn) rm)) 8 (iA G 9 (cp3 fs (fun q => fw (3 * dn + q)) 0 q))) 8 (iA G 9 (cp3 fs (fun q => fw (3 * dn + q)) 0 q)) := Cl.s (Cl.n (by decide) h8)
          have y9 : Cl G (va_up (va_up σ 0 (cRef G len at_ (nI h.2.2.2.1) (nI dn) rm)) 8 (iA G 9 (cp3 fs (fun q => fw (3 * dn + q)) 0 q))) 9 (iA G 24 fw) := Cl.n (by decide) (Cl.n (by decide) h9')
          have ec := cp3_z fs (fun q => fw (3 * dn + q)) q
          refine g_iload_n (pc := 22) C dX10_undo_22 rfl ?_
          refine g_iconst (pc := 23) (v := nI 3) C dX10_undo_23 (by decide) ?_
          refine g_icmp_ge (pc := 24) C 52 dX10_undo_24 (by decide) (fun c24 => ?_) (fun c24 => ?_)
          · exact absurd c24 (nI_ge (by omega) (by decide))
          · refine g_aload_n (pc := 27) C dX10_undo_27 rfl ?_
            apply gf_X10_32 (pc := 28) C rfl dX10_undo_28
            · repeat (first | assumption | exact Cl.s (by assumption) | refine Cl.n (by first | decide | omega) ?_)
            · rfl
            refine g_iload_n (pc := 31) C dX10_undo_31 rfl ?_
            refine g_aload_n (pc := 32) C dX10_undo_32 rfl ?_
            apply gf_X10_35 (pc := 33) C rfl dX10_undo_33
            · repeat (first | assumption | exact Cl.s (by assumption) | refine Cl.n (by first | decide | omega) ?_)
            · rfl
            refine g_iconst (pc := 36) (v := nI 3) C dX10_undo_36 (by decide) ?_
            refine g_aload_n (pc := 37) C dX10_undo_37 rfl ?_
            apply gf_X10_114 (pc := 38) C rfl dX10_undo_38
            · repeat (first | assumption | exact Cl.s (by assumption) | refine Cl.n (by first | decide | omega) ?_)
            · rfl
            refine g_imul (pc := 41) C dX10_undo_41 ?_
            refine g_iload_n (pc := 42) C dX10_undo_42 rfl ?_
            refine g_iadd (pc := 43) C dX10_undo_43 ?_
            rw [pk_mul, nI_add]
            apply g_iaload (pc := 44) C dX10_undo_44
            · repeat (first | assumption | exact Cl.s (by assumption) | refine Cl.n (by first | decide | omega) ?_)
            · exact vp_in_nI (by omega) (by decide)
            rw [nI_clamp (by omega)]
            apply g_iastore (pc := 45) C dX10_undo_45
            · repeat (first | assumption | exact Cl.s (by assumption) | refine Cl.n (by first | decide | omega) ?_)
            · exact vp_in_nI (by omega) (by decide)
            intro hw45
            refine g_iinc (pc := 46) C dX10_undo_46 rfl (by decide) rfl ?_
            refine g_goto (pc := 49) C 22 dX10_undo_49 (by decide) ?_
            rw [nI_clamp (by omega), bx_uu _ 8, ec]
            exact g_to (ih (q + 1) (by omega)) ⟨rfl, lgi (nI_1 q), trivial⟩
      have l0 := loop 3 0 (by omega)
      rw [cp3_0, va_self (i := 8) (Cl.n (by decide) h8 : Cl G (va_up σ 0 (cRef G len at_ (nI h.2.2.2.1) (nI dn) rm)) 8 (iA G 9 fs)).2] at l0
      refine g_aload_n (pc := 0) C dX10_undo_0 rfl ?_
      apply gf_X10_114 (pc := 1) C rfl dX10_undo_1
      · repeat (first | assumption | exact Cl.s (by assumption) | refine Cl.n (by first | decide | omega) ?_)
      · rfl
      refine g_if_nE (pc := 4) C 10 dX10_undo_4 (by decide) (fun c4 => ?_) (fun c4 => ?_)
      · refine g_aload_n (pc := 10) C dX10_undo_10 rfl ?_
        refine g_dup (pc := 11) C dX10_undo_11 rfl ?_
        apply gf_X10_114 (pc := 12) C rfl dX10_undo_12
        · repeat (first | assumption | exact Cl.s (by assumption) | refine Cl.n (by first | decide | omega) ?_)
        · rfl
        refine g_iconst (pc := 15) (v := nI 1) C dX10_undo_15 (by decide) ?_
        refine g_isub (pc := 16) C dX10_undo_16 ?_
        rw [hdn, pk_sub (by omega), show dn + 1 - 1 = dn by omega]
        apply pf_X10_114 (pc := 17) C rfl dX10_undo_17
        · repeat (first | assumption | exact Cl.s (by assumption) | refine Cl.n (by first | decide | omega) ?_)
        · rfl
        · rfl
        · exact Nat.le_of_ble_eq_true rfl
        intro hw17
        refine g_iconst (pc := 20) (v := nI 0) C dX10_undo_20 (by decide) ?_
        refine g_istore_n (pc := 21) C dX10_undo_21 (by decide) rfl ?_
        exact g_to l0 ⟨rfl, rfl, trivial⟩
      · exact absurd ((nI_eq (b := 0) (by omega) (by decide)).mp c4) hd
    · unfold QG undoH
      rw [show h.2.1 - 1 = dn by omega]
      refine ⟨Cl.n (by decide) (Cl.s h0), ⟨_, Cl.s (Cl.n (by decide) h8), ⟨?_, ?_, ?_⟩, ?_⟩, fw, Cl.n (by decide) (Cl.n (by decide) h9'), ?_⟩
      · unfold cp3; rw [if_pos (by omega)]; exact a1
      · unfold cp3; rw [if_pos (by omega)]; exact a2
      · unfold cp3; rw [if_pos (by omega)]; exact a3
      · intro k hk
        obtain ⟨b1, b2, b3⟩ := hs1 k hk
        refine ⟨?_, ?_, ?_⟩
        · unfold cp3; rw [if_neg (by omega)]; exact b1
        · unfold cp3; rw [if_neg (by omega)]; exact b2
        · unfold cp3; rw [if_neg (by omega)]; exact b3
      · intro k hk
        have hk : k < dn := hk
        exact hfw k (by omega)
theorem r_copies {kept done : Int32} (h0 : Cl G σ 0 (cRef G len at_ kept done rm)) {fs : Nat → Int32} (h8 : Cl G σ 8 (iA G 9 fs)) {x y : Nat} (hx : x ≤ 2) (hy : y ≤ 2) (hn : x ≠ y) : Mt G mX10_copies [.ref (ga G 0), .int (nI x), .int (nI y)] σ none (va_up σ 8 (iA G 9 (cp3 fs (fun q => fs (3 * x + q)) (3 * y) 3))) := by
  refine Mt.of (by decide +kernel) (Nat.le_of_ble_eq_true rfl) (fun κ C => ?_)
  have loop : ∀ e q, q + e = 3 → Go G mX10_copies κ none (va_up σ 8 (iA G 9 (cp3 fs (fun q => fs (3 * x + q)) (3 * y) 3))) (va_up σ 8 (iA G 9 (cp3 fs (fun q => fs (3 * x + q)) (3 * y) q))) 2 [(0, .ref (ga G 0)), (1, .int (nI x)), (2, .int (nI y)), (3, .int (nI q))] [] := by
    intro e
    induction e with
    | zero =>
      intro q hq
      refine g_iload_n (pc := 2) C dX10_copies_2 rfl ?_
      refine g_iconst (pc := 3) (v := nI 3) C dX10_copies_3 (by decide) ?_
      refine g_icmp_ge (pc := 4) C 33 dX10_copies_4 (by decide) (fun c4 => ?_) (fun c4 => ?_)
      · exact g_return (pc := 33) C dX10_copies_33 rfl rfl (by rw [show q = 3 by omega])
      · exact absurd (nI_le (by omega) (by omega)) c4
    | succ e ih =>
      intro q hq
      have y0 : Cl G (va_up σ 8 (iA G 9 (cp3 fs (fun q => fs (3 * x + q)) (3 * y) q))) 0 (cRef G len at_ kept done rm) := Cl.n (by decide) h0
      have y8 : Cl G (va_up σ 8 (iA G 9 (cp3 fs (fun q => fs (3 * x + q)) (3 * y) q))) 8 (iA G 9 (cp3 fs (fun q => fs (3 * x + q)) (3 * y) q)) := Cl.s h8
      have ec := cp3_s fs (fun q => fs (3 * x + q)) (3 * y) q
      have er : cp3 fs (fun q => fs (3 * x + q)) (3 * y) q (3 * x + q) = fs (3 * x + q) := by
        unfold cp3
        rw [if_neg (by omega)]
      refine g_iload_n (pc := 2) C dX10_copies_2 rfl ?_
      refine g_iconst (pc := 3) (v := nI 3) C dX10_copies_3 (by decide) ?_
      refine g_icmp_ge (pc := 4) C 33 dX10_copies_4 (by decide) (fun c4 => ?_) (fun c4 => ?_)
      · exact absurd c4 (nI_ge (by omega) (by decide))
      · refine g_aload_n (pc := 7) C dX10_copies_7 rfl ?_
        apply gf_X10_32 (pc := 8) C rfl dX10_copies_8
        · repeat (first | assumption | exact Cl.s (by assumption) | refine Cl.n (by first | decide | omega) ?_)
        · rfl
        refine g_iconst (pc := 11) (v := nI 3) C dX10_copies_11 (by decide) ?_
        refine g_iload_n (pc := 12) C dX10_copies_12 rfl ?_
        refine g_imul (pc := 13) C dX10_copies_13 ?_
        refine g_iload_n (pc := 14) C dX10_copies_14 rfl ?_
        refine g_iadd (pc := 15) C dX10_copies_15 ?_
        refine g_aload_n (pc := 16) C dX10_copies_16 rfl ?_
        apply gf_X10_32 (pc := 17) C rfl dX10_copies_17
        · repeat (first | assumption | exact Cl.s (by assumption) | refine Cl.n (by first | decide | omega) ?_)
        · rfl
        refine g_iconst (pc := 20) (v := nI 3) C dX10_copies_20 (by decide) ?_
        refine g_iload_n (pc := 21) C dX10_copies_21 rfl ?_
        refine g_imul (pc := 22) C dX10_copies_22 ?_
        refine g_iload_n (pc := 23) C dX10_copies_23 rfl ?_
        refine g_iadd (pc := 24) C dX10_copies_24 ?_
        rw [pk_mul, pk_mul, nI_add, nI_add]
        apply g_iaload (pc := 25) C dX10_copies_25
        · repeat (first | assumption | exact Cl.s (by assumption) | refine Cl.n (by first | decide | omega) ?_)
        · exact vp_in_nI (by omega) (by decide)
        rw [nI_clamp (by omega), er]
        apply g_iastore (pc := 26) C dX10_copies_26
        · repeat (first | assumption | exact Cl.s (by assumption) | refine Cl.n (by first | decide | omega) ?_)
        · exact vp_in_nI (by omega) (by decide)
        intro hw26
        refine g_iinc (pc := 27) C dX10_copies_27 rfl (by decide) rfl ?_
        refine g_goto (pc := 30) C 2 dX10_copies_30 (by decide) ?_
        rw [nI_clamp (by omega), bx_uu _ 8, ec]
        exact g_to (ih (q + 1) (by omega)) ⟨rfl, rfl, rfl, lgi (nI_1 q), trivial⟩
  have l0 := loop 3 0 (by omega)
  rw [cp3_0, va_self h8.2] at l0
  refine g_iconst (pc := 0) (v := nI 0) C dX10_copies_0 (by decide) ?_
  refine g_istore_n (pc := 1) C dX10_copies_1 (by decide) rfl ?_
  exact g_to l0 ⟨rfl, rfl, rfl, rfl, trivial⟩
theorem q_keep (hg : QG G σ len at_ rm h) (hw : HW (tm T) h) : ∃ σ', Mt G mX10_keep [.ref (ga G 0)] σ (some (.int (keepF h).1)) σ' ∧ QG G σ' len at_ rm (keepF h).2 ∧ Fr σ σ' [0, 8, 9] := by
  have hg' := hg
  obtain ⟨h0, ⟨fs, h8, hs0, hs1⟩, fw, h9', hfw⟩ := hg
  have hk2 := hw.2.2.2.1
  by_cases hd : h.2.2.2.1 = 2
  · rw [show keepF h = (-3, h) by simp [keepF, hd]]
    refine ⟨σ, ?_, hg', fr0⟩
    refine Mt.of (by decide +kernel) (Nat.le_of_ble_eq_true rfl) (fun κ C => ?_)
    refine g_aload_n (pc := 0) C dX10_keep_0 rfl ?_
    apply gf_X10_117 (pc := 1) C rfl dX10_keep_1
    · repeat (first | assumption | exact Cl.s (by assumption) | refine Cl.n (by first | decide | omega) ?_)
    · rfl
    refine g_iconst (pc := 4) (v := nI 2) C dX10_keep_4 (by decide) ?_
    refine g_icmp_nE (pc := 5) C 11 dX10_keep_5 (by decide) (fun c5 => ?_) (fun c5 => ?_)
    · exact absurd (by rw [hd]) c5
    · refine g_bipush (pc := 8) (v := -3) C dX10_keep_8 (by decide) ?_
      exact g_ireturn (pc := 10) C dX10_keep_10 rfl (rfl) (rfl)
  · rw [show keepF h = (nI (h.2.2.2.1 + 1), keepH h) by simp [keepF, hd]]
    have y0 : Cl G (va_up σ 0 (cRef G len at_ (nI (h.2.2.2.1 + 1)) (nI h.2.1) rm)) 0 (cRef G len at_ (nI (h.2.2.2.1 + 1)) (nI h.2.1) rm) := Cl.s h0
    have y8 : Cl G (va_up σ 0 (cRef G len at_ (nI (h.2.2.2.1 + 1)) (nI h.2.1) rm)) 8 (iA G 9 fs) := Cl.n (by decide) h8
    refine ⟨va_up (va_up σ 0 (cRef G len at_ (nI (h.2.2.2.1 + 1)) (nI h.2.1) rm)) 8 (iA G 9 (cp3 fs (fun q => fs (3 * 0 + q)) (3 * (h.2.2.2.1 + 1)) 3)), ?_, ?_, fr3 (fr3 fr0 (by decide)) (by decide)⟩
    · refine Mt.of (by decide +kernel) (Nat.le_of_ble_eq_true rfl) (fun κ C => ?_)
      refine g_aload_n (pc := 0) C dX10_keep_0 rfl ?_
      apply gf_X10_117 (pc := 1) C rfl dX10_keep_1
      · repeat (first | assumption | exact Cl.s (by assumption) | refine Cl.n (by first | decide | omega) ?_)
      · rfl
      refine g_iconst (pc := 4) (v := nI 2) C dX10_keep_4 (by decide) ?_
      refine g_icmp_nE (pc := 5) C 11 dX10_keep_5 (by decide) (fun c5 => ?_) (fun c5 => ?_)
      · refine g_aload_n (pc := 11) C dX10_keep_11 rfl ?_
        refine g_dup (pc := 12) C dX10_keep_12 rfl ?_
        apply gf_X10_117 (pc := 13) C rfl dX10_keep_13
        · repeat (first | assumption | exact Cl.s (by assumption) | refine Cl.n (by first | decide | omega) ?_)
        · rfl
        refine g_iconst (pc := 16) (v := nI 1) C dX10_keep_16 (by decide) ?_
        refine g_iadd (pc := 17) C dX10_keep_17 ?_
        rw [nI_add]
        apply pf_X10_117 (pc := 18) C rfl dX10_keep_18
        · repeat (first | assumption | exact Cl.s (by assumption) | refine Cl.n (by first | decide | omega) ?_)
        · rfl
        · rfl
        · exact Nat.le_of_ble_eq_true rfl
        intro hw18
        refine g_aload_n (pc := 21) C dX10_keep_21 rfl ?_
        refine g_iconst (pc := 22) (v := nI 0) C dX10_keep_22 (by decide) ?_
        refine g_aload_n (pc := 23) C dX10_keep_23 rfl ?_
        apply gf_X10_117 (pc := 24) C rfl dX10_keep_24
        · repeat (first | assumption | exact Cl.s (by assumption) | refine Cl.n (by first | decide | omega) ?_)
        · rfl
        apply cl_X10_209 (pc := 27) C rfl (r_copies y0 y8 (x := 0) (y := h.2.2.2.1 + 1) (by omega) (by omega) (by omega)) dX10_keep_27
        · repeat (first | assumption | exact Cl.s (by assumption) | refine Cl.n (by first | decide | omega) ?_)
        · rfl
        · exact Nat.le_of_ble_eq_true rfl
        refine g_aload_n (pc := 30) C dX10_keep_30 rfl ?_
        apply gf_X10_117 (pc := 31) C rfl dX10_keep_31
        · repeat (first | assumption | exact Cl.s (by assumption) | refine Cl.n (by first | decide | omega) ?_)
        · rfl
        exact g_ireturn (pc := 34) C dX10_keep_34 rfl (rfl) (rfl)
      · exact absurd ((nI_eq (by omega) (by decide)).mp c5) hd
    · unfold QG keepH
      refine ⟨Cl.n (by decide) (Cl.s h0), ⟨_, Cl.s (Cl.n (by decide) h8), ⟨?_, ?_, ?_⟩, ?_⟩, fw, Cl.n (by decide) (Cl.n (by decide) h9'), hfw⟩
      · unfold cp3; rw [if_neg (by omega)]; exact hs0.1
      · unfold cp3; rw [if_neg (by omega)]; exact hs0.2.1
      · unfold cp3; rw [if_neg (by omega)]; exact hs0.2.2
      · intro k hk
        have hk : k < h.2.2.2.1 + 1 := hk
        show s3 _ _ (if k = h.2.2.2.1 then h.1 else h.2.2.2.2 k)
        by_cases e : k = h.2.2.2.1
        · rw [if_pos e, e]
          unfold s3 cp3
          rw [if_pos (by omega), if_pos (by omega), if_pos (by omega)]
          rw [show 3 * (h.2.2.2.1 + 1) - 3 * (h.2.2.2.1 + 1) = 0 by omega, show 3 * (h.2.2.2.1 + 1) + 1 - 3 * (h.2.2.2.1 + 1) = 1 by omega, show 3 * (h.2.2.2.1 + 1) + 2 - 3 * (h.2.2.2.1 + 1) = 2 by omega]
          exact hs0
        · rw [if_neg e]
          have := hs1 k (by omega)
          unfold s3 cp3
          rw [if_neg (by omega), if_neg (by omega), if_neg (by omega)]
          exact this
theorem q_back (hg : QG G σ len at_ rm h) (hw : HW (tm T) h) : ∃ σ', Mt G mX10_back [.ref (ga G 0)] σ (some (.int (backF h).1)) σ' ∧ QG G σ' len at_ rm (backF h).2 ∧ Fr σ σ' [0, 8, 9] := by
  have hg' := hg
  obtain ⟨h0, ⟨fs, h8, hs0, hs1⟩, fw, h9', hfw⟩ := hg
  have hk2 := hw.2.2.2.1
  by_cases hd : h.2.2.2.1 = 0
  · rw [show backF h = (-2, h) by simp [backF, hd]]
    refine ⟨σ, ?_, hg', fr0⟩
    refine Mt.of (by decide +kernel) (Nat.le_of_ble_eq_true rfl) (fun κ C => ?_)
    refine g_aload_n (pc := 0) C dX10_back_0 rfl ?_
    apply gf_X10_117 (pc := 1) C rfl dX10_back_1
    · repeat (first | assumption | exact Cl.s (by assumption) | refine Cl.n (by first | decide | omega) ?_)
    · rfl
    refine g_if_nE (pc := 4) C 10 dX10_back_4 (by decide) (fun c4 => ?_) (fun c4 => ?_)
    · exact absurd (by rw [hd]; rfl) c4
    · refine g_bipush (pc := 7) (v := -2) C dX10_back_7 (by decide) ?_
      exact g_ireturn (pc := 9) C dX10_back_9 rfl (rfl) (rfl)
  · rw [show backF h = (nI (h.2.2.2.1 - 1), backH h) by simp [backF, hd]]
    have y0 : Cl G (va_up σ 8 (iA G 9 (cp3 fs (fun q => fs (3 * h.2.2.2.1 + q)) (3 * 0) 3))) 0 (cRef G len at_ (nI h.2.2.2.1) (nI h.2.1) rm) := Cl.n (by decide) h0
    refine ⟨va_up (va_up (va_up σ 8 (iA G 9 (cp3 fs (fun q => fs (3 * h.2.2.2.1 + q)) (3 * 0) 3))) 0 (cRef G len at_ (nI (h.2.2.2.1 - 1)) (nI h.2.1) rm)) 0 (cRef G len at_ (nI (h.2.2.2.1 - 1)) (nI 0) rm), ?_, ?_, fr3 (fr3 (fr3 fr0 (by decide)) (by decide)) (by decide)⟩
    · refine Mt.of (by decide +kernel) (Nat.le_of_ble_eq_true rfl) (fun κ C => ?_)
      refine g_aload_n (pc := 0) C dX10_back_0 rfl ?_
      apply gf_X10_117 (pc := 1) C rfl dX10_back_1
      · repeat (first | assumption | exact Cl.s (by assumption) | refine Cl.n (by first | decide | omega) ?_)
      · rfl
      refine g_if_nE (pc := 4) C 10 dX10_back_4 (by decide) (fun c4 => ?_) (fun c4 => ?_)
      · refine g_aload_n (pc := 10) C dX10_back_10 rfl ?_
        refine g_aload_n (pc := 11) C dX10_back_11 rfl ?_
        apply gf_X10_117 (pc := 12) C rfl dX10_back_12
        · repeat (first | assumption | exact Cl.s (by assumption) | refine Cl.n (by first | decide | omega) ?_)
        · rfl
        refine g_iconst (pc := 15) (v := nI 0) C dX10_back_15 (by decide) ?_
        apply cl_X10_209 (pc := 16) C rfl (r_copies h0 h8 (x := h.2.2.2.1) (y := 0) (by omega) (by omega) (by omega)) dX10_back_16
        · repeat (first | assumption | exact Cl.s (by assumption) | refine Cl.n (by first | decide | omega) ?_)
        · rfl
        · exact Nat.le_of_ble_eq_true rfl
        refine g_aload_n (pc := 19) C dX10_back_19 rfl ?_
        refine g_dup (pc := 20) C dX10_back_20 rfl ?_
        apply gf_X10_117 (pc := 21) C rfl dX10_back_21
        · repeat (first | assumption | exact Cl.s (by assumption) | refine Cl.n (by first | decide | omega) ?_)
        · rfl
        refine g_iconst (pc := 24) (v := nI 1) C dX10_back_24 (by decide) ?_
        refine g_isub (pc := 25) C dX10_back_25 ?_
        rw [pk_sub (by omega)]
        apply pf_X10_117 (pc := 26) C rfl dX10_back_26
        · repeat (first | assumption | exact Cl.s (by assumption) | refine Cl.n (by first | decide | omega) ?_)
        · rfl
        · rfl
        · exact Nat.le_of_ble_eq_true rfl
        intro hw26
        refine g_aload_n (pc := 29) C dX10_back_29 rfl ?_
        refine g_iconst (pc := 30) (v := nI 0) C dX10_back_30 (by decide) ?_
        apply pf_X10_114 (pc := 31) C rfl dX10_back_31
        · repeat (first | assumption | exact Cl.s (by assumption) | refine Cl.n (by first | decide | omega) ?_)
        · rfl
        · rfl
        · exact Nat.le_of_ble_eq_true rfl
        intro hw31
        refine g_aload_n (pc := 34) C dX10_back_34 rfl ?_
        apply gf_X10_117 (pc := 35) C rfl dX10_back_35
        · repeat (first | assumption | exact Cl.s (by assumption) | refine Cl.n (by first | decide | omega) ?_)
        · rfl
        exact g_ireturn (pc := 38) C dX10_back_38 rfl (rfl) (rfl)
      · exact absurd ((nI_eq (b := 0) (by omega) (by decide)).mp c4) hd
    · unfold QG backH
      refine ⟨Cl.s (Cl.s y0), ⟨_, Cl.n (by decide) (Cl.n (by decide) (Cl.s h8)), ⟨?_, ?_, ?_⟩, ?_⟩, fw, Cl.n (by decide) (Cl.n (by decide) (Cl.n (by decide) h9')), fun k hk => absurd hk (Nat.not_lt_zero k)⟩
      · unfold cp3; rw [if_pos (by omega)]
        have := (hs1 (h.2.2.2.1 - 1) (by omega)).1
        rw [show 3 * (h.2.2.2.1 - 1 + 1) = 3 * h.2.2.2.1 by omega] at this
        exact this
      · unfold cp3; rw [if_pos (by omega)]
        have := (hs1 (h.2.2.2.1 - 1) (by omega)).2.1
        rw [show 3 * (h.2.2.2.1 - 1 + 1) = 3 * h.2.2.2.1 by omega] at this
        exact this
      · unfold cp3; rw [if_pos (by omega)]
        have := (hs1 (h.2.2.2.1 - 1) (by omega)).2.2
        rw [show 3 * (h.2.2.2.1 - 1 + 1) = 3 * h.2.2.2.1 by omega] at this
        exact this
      · intro k hk
        have hk : k < h.2.2.2.1 - 1 := hk
        have := hs1 k (by omega)
        unfold s3 cp3
        rw [if_neg (by omega), if_neg (by omega), if_neg (by omega)]
        exact this
theorem q_add {n : Nat} {w : Nat → Nat} {kept done : Int32} (h0 : Cl G σ 0 (cRef G len at_ kept done (nI n))) (hT : QT G σ T) (hr : QR G σ n w) (hn : n ≤ 16) (i : Int32) : ∃ σ', Mt G mX10_add [.ref (ga G 0), .int i] σ (some (.int (addF T n w i).1)) σ' ∧ Cl G σ' 0 (cRef G len at_ kept done (nI (addF T n w i).2.1)) ∧ QR G σ' (addF T n w i).2.1 (addF T n w i).2.2 ∧ Fr σ σ' [0, 10] := by
  have hm := hT.w.1.2.2.2.2.1
  have hr' := hr
  obtain ⟨f, h10, hf⟩ := hr
  rcases inR_c i (m := tm T) (by omega) with e | ⟨e, k, hk, rfl⟩
  · rw [show addF T n w i = (-1, n, w) by simp [addF, e]]
    refine ⟨σ, ?_, h0, hr', fr0⟩
    refine Mt.of (by decide +kernel) (Nat.le_of_ble_eq_true rfl) (fun κ C => ?_)
    refine g_aload_n (pc := 0) C dX10_add_0 rfl ?_
    refine g_iload_n (pc := 1) C dX10_add_1 rfl ?_
    apply cl_X10_126 (pc := 2) C rfl (r_isMan h0 hT i) dX10_add_2
    · repeat (first | assumption | exact Cl.s (by assumption) | refine Cl.n (by first | decide | omega) ?_)
    · rfl
    · exact Nat.le_of_ble_eq_true rfl
    refine g_if_nE (pc := 5) C 10 dX10_add_5 (by decide) (fun c5 => ?_) (fun c5 => ?_)
    · exact absurd (by rw [e]; rfl) c5
    · refine g_iconst (pc := 8) (v := -1) C dX10_add_8 (by decide) ?_
      exact g_ireturn (pc := 9) C dX10_add_9 rfl (rfl) (rfl)
  · have ek := nI_clamp (n := k) (by omega)
    by_cases h16 : n = 16
    · rw [show addF T n w (nI k) = (-3, n, w) by simp [addF, e, h16]]
      refine ⟨σ, ?_, h0, hr', fr0⟩
      refine Mt.of (by decide +kernel) (Nat.le_of_ble_eq_true rfl) (fun κ C => ?_)
      refine g_aload_n (pc := 0) C dX10_add_0 rfl ?_
      refine g_iload_n (pc := 1) C dX10_add_1 rfl ?_
      apply cl_X10_126 (pc := 2) C rfl (r_isMan h0 hT (nI k)) dX10_add_2
      · repeat (first | assumption | exact Cl.s (by assumption) | refine Cl.n (by first | decide | omega) ?_)
      · rfl
      · exact Nat.le_of_ble_eq_true rfl
      refine g_if_nE (pc := 5) C 10 dX10_add_5 (by decide) (fun c5 => ?_) (fun c5 => ?_)
      · refine g_aload_n (pc := 10) C dX10_add_10 rfl ?_
        apply gf_X10_111 (pc := 11) C rfl dX10_add_11
        · repeat (first | assumption | exact Cl.s (by assumption) | refine Cl.n (by first | decide | omega) ?_)
        · rfl
        refine g_bipush (pc := 14) (v := nI 16) C dX10_add_14 (by decide) ?_
        refine g_icmp_nE (pc := 16) C 22 dX10_add_16 (by decide) (fun c16 => ?_) (fun c16 => ?_)
        · exact absurd (by rw [h16]) c16
        · refine g_bipush (pc := 19) (v := -3) C dX10_add_19 (by decide) ?_
          exact g_ireturn (pc := 21) C dX10_add_21 rfl (rfl) (rfl)
      · exact absurd c5 (by rw [e]; decide)
    · rw [show addF T n w (nI k) = (nI (n + 1), n + 1, fun q => if q = n then k else w q) by simp [addF, e, h16, ek]]
      refine ⟨va_up (va_up σ 10 (iA G 16 (upd f n (nI k)))) 0 (cRef G len at_ kept done (nI (n + 1))), ?_, Cl.s (Cl.n (by decide) h0), ⟨_, Cl.n (by decide) (Cl.s h10), fun q hq => ?_⟩, fr3 (fr3 fr0 (by decide)) (by decide)⟩
      · refine Mt.of (by decide +kernel) (Nat.le_of_ble_eq_true rfl) (fun κ C => ?_)
        refine g_aload_n (pc := 0) C dX10_add_0 rfl ?_
        refine g_iload_n (pc := 1) C dX10_add_1 rfl ?_
        apply cl_X10_126 (pc := 2) C rfl (r_isMan h0 hT (nI k)) dX10_add_2
        · repeat (first | assumption | exact Cl.s (by assumption) | refine Cl.n (by first | decide | omega) ?_)
        · rfl
        · exact Nat.le_of_ble_eq_true rfl
        refine g_if_nE (pc := 5) C 10 dX10_add_5 (by decide) (fun c5 => ?_) (fun c5 => ?_)
        · refine g_aload_n (pc := 10) C dX10_add_10 rfl ?_
          apply gf_X10_111 (pc := 11) C rfl dX10_add_11
          · repeat (first | assumption | exact Cl.s (by assumption) | refine Cl.n (by first | decide | omega) ?_)
          · rfl
          refine g_bipush (pc := 14) (v := nI 16) C dX10_add_14 (by decide) ?_
          refine g_icmp_nE (pc := 16) C 22 dX10_add_16 (by decide) (fun c16 => ?_) (fun c16 => ?_)
          · refine g_aload_n (pc := 22) C dX10_add_22 rfl ?_
            apply gf_X10_38 (pc := 23) C rfl dX10_add_23
            · repeat (first | assumption | exact Cl.s (by assumption) | refine Cl.n (by first | decide | omega) ?_)
            · rfl
            refine g_aload_n (pc := 26) C dX10_add_26 rfl ?_
            apply gf_X10_111 (pc := 27) C rfl dX10_add_27
            · repeat (first | assumption | exact Cl.s (by assumption) | refine Cl.n (by first | decide | omega) ?_)
            · rfl
            refine g_iload_n (pc := 30) C dX10_add_30 rfl ?_
            apply g_iastore (pc := 31) C dX10_add_31
            · repeat (first | assumption | exact Cl.s (by assumption) | refine Cl.n (by first | decide | omega) ?_)
            · exact vp_in_nI (by omega) (by decide)
            intro hw31
            refine g_aload_n (pc := 32) C dX10_add_32 rfl ?_
            refine g_dup (pc := 33) C dX10_add_33 rfl ?_
            apply gf_X10_111 (pc := 34) C rfl dX10_add_34
            · repeat (first | assumption | exact Cl.s (by assumption) | refine Cl.n (by first | decide | omega) ?_)
            · rfl
            refine g_iconst (pc := 37) (v := nI 1) C dX10_add_37 (by decide) ?_
            refine g_iadd (pc := 38) C dX10_add_38 ?_
            rw [nI_add, nI_clamp (by omega)]
            apply pf_X10_111 (pc := 39) C rfl dX10_add_39
            · repeat (first | assumption | exact Cl.s (by assumption) | refine Cl.n (by first | decide | omega) ?_)
            · rfl
            · rfl
            · exact Nat.le_of_ble_eq_true rfl
            intro hw39
            refine g_aload_n (pc := 42) C dX10_add_42 rfl ?_
            apply gf_X10_111 (pc := 43) C rfl dX10_add_43
            · repeat (first | assumption | exact Cl.s (by assumption) | refine Cl.n (by first | decide | omega) ?_)
            · rfl
            exact g_ireturn (pc := 46) C dX10_add_46 rfl (rfl) (rfl)
          · exact absurd ((nI_eq (by omega) (by decide)).mp c16) h16
        · exact absurd c5 (by rw [e]; decide)
      · have hq : q < n + 1 := hq
        show _ = nI (if q = n then k else w q)
        by_cases z : q = n
        · rw [z, pk_us, if_pos rfl]
        · rw [pk_un z, if_neg z]
          exact hf q (by omega)
theorem q_noRow {n : Nat} {kept done : Int32} (h0 : Cl G σ 0 (cRef G len at_ kept done (nI n))) : ∃ σ', Mt G mX10_noRow [.ref (ga G 0)] σ (some (.int (nI n))) σ' ∧ Cl G σ' 0 (cRef G len at_ kept done (nI 0)) ∧ Fr σ σ' [0] := by
  refine ⟨va_up σ 0 (cRef G len at_ kept done (nI 0)), ?_, Cl.s h0, fr3 fr0 (by decide)⟩
  refine Mt.of (by decide +kernel) (Nat.le_of_ble_eq_true rfl) (fun κ C => ?_)
  refine g_aload_n (pc := 0) C dX10_noRow_0 rfl ?_
  apply gf_X10_111 (pc := 1) C rfl dX10_noRow_1
  · repeat (first | assumption | exact Cl.s (by assumption) | refine Cl.n (by first | decide | omega) ?_)
  · rfl
  refine g_istore_n (pc := 4) C dX10_noRow_4 (by decide) rfl ?_
  refine g_aload_n (pc := 5) C dX10_noRow_5 rfl ?_
  refine g_iconst (pc := 6) (v := nI 0) C dX10_noRow_6 (by decide) ?_
  apply pf_X10_111 (pc := 7) C rfl dX10_noRow_7
  · repeat (first | assumption | exact Cl.s (by assumption) | refine Cl.n (by first | decide | omega) ?_)
  · rfl
  · rfl
  · exact Nat.le_of_ble_eq_true rfl
  intro hw7
  refine g_iload_n (pc := 10) C dX10_noRow_10 rfl ?_
  exact g_ireturn (pc := 11) C dX10_noRow_11 rfl (rfl) (rfl)
theorem q_wipe {n : Nat} {kept done : Int32} (h0 : Cl G σ 0 (cRef G (nI n) at_ kept done rm)) : ∃ σ', Mt G mX10_wipe [.ref (ga G 0)] σ (some (.int (nI n))) σ' ∧ Cl G σ' 0 (cRef G (nI 0) at_ kept done rm) ∧ Fr σ σ' [0] := by
  refine ⟨va_up σ 0 (cRef G (nI 0) at_ kept done rm), ?_, Cl.s h0, fr3 fr0 (by decide)⟩
  refine Mt.of (by decide +kernel) (Nat.le_of_ble_eq_true rfl) (fun κ C => ?_)
  refine g_aload_n (pc := 0) C dX10_wipe_0 rfl ?_
  apply gf_X10_78 (pc := 1) C rfl dX10_wipe_1
  · repeat (first | assumption | exact Cl.s (by assumption) | refine Cl.n (by first | decide | omega) ?_)
  · rfl
  refine g_istore_n (pc := 4) C dX10_wipe_4 (by decide) rfl ?_
  refine g_aload_n (pc := 5) C dX10_wipe_5 rfl ?_
  refine g_iconst (pc := 6) (v := nI 0) C dX10_wipe_6 (by decide) ?_
  apply pf_X10_78 (pc := 7) C rfl dX10_wipe_7
  · repeat (first | assumption | exact Cl.s (by assumption) | refine Cl.n (by first | decide | omega) ?_)
  · rfl
  · rfl
  · exact Nat.le_of_ble_eq_true rfl
  intro hw7
  refine g_iload_n (pc := 10) C dX10_wipe_10 rfl ?_
  exact g_ireturn (pc := 11) C dX10_wipe_11 rfl (rfl) (rfl)
end REF4

