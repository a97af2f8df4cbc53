section GO2
variable {G : GG} {M : MM} {κ : KK} {r : Option Value} {σ σ' : WW} {pc : Nat} {lv : List (Nat × Value)} {st : List Value}
theorem g_istore_n (C : Cx G M κ) {i : Fin 4} {x : Int32} (hd : decode (Mc M) pc = .ok (.istore_n i, 1)) (hn : (i : Nat) < Mn M) (hs : st1 lv (i : Nat) = true) (k : Go G M κ r σ' σ (pc + 1) (((i : Nat), .int x) :: lv) st) : Go G M κ r σ' σ pc lv (.int x :: st) := by
  intro H locs ls hP hS hl
  obtain ⟨ls', e', h'⟩ := hl.store1 (v := .int x) hn rfl hs
  intro T hT X
  obtain ⟨t, a, b⟩ := k H locs ls' hP hS h' T hT X
  refine ⟨t, ?_, b⟩
  have hexec := C.1
  have hb := C.2.1
  jvm_step X.here [X.here.top, ↓top_set X.here.top, hexec, hb, hd, e']
  exact a
theorem g_istore (C : Cx G M κ) {i : Nat} {x : Int32} (hd : decode (Mc M) pc = .ok (.istore i, 2)) (hn : i < Mn M) (hs : st1 lv i = true) (k : Go G M κ r σ' σ (pc + 2) ((i, .int x) :: lv) st) : Go G M κ r σ' σ pc lv (.int x :: st) := by
  intro H locs ls hP hS hl
  obtain ⟨ls', e', h'⟩ := hl.store1 (v := .int x) hn rfl hs
  intro T hT X
  obtain ⟨t, a, b⟩ := k H locs ls' hP hS h' T hT X
  refine ⟨t, ?_, b⟩
  have hexec := C.1
  have hb := C.2.1
  jvm_step X.here [X.here.top, ↓top_set X.here.top, hexec, hb, hd, e']
  exact a
theorem g_astore_n (C : Cx G M κ) {i : Fin 4} {x : Nat} (hd : decode (Mc M) pc = .ok (.astore_n i, 1)) (hn : (i : Nat) < Mn M) (hs : st1 lv (i : Nat) = true) (k : Go G M κ r σ' σ (pc + 1) (((i : Nat), .ref x) :: lv) st) : Go G M κ r σ' σ pc lv (.ref x :: st) := by
  intro H locs ls hP hS hl
  obtain ⟨ls', e', h'⟩ := hl.store1 (v := .ref x) hn rfl hs
  intro T hT X
  obtain ⟨t, a, b⟩ := k H locs ls' hP hS h' T hT X
  refine ⟨t, ?_, b⟩
  have hexec := C.1
  have hb := C.2.1
  jvm_step X.here [X.here.top, ↓top_set X.here.top, hexec, hb, hd, e', Value.isRef]
  exact a
theorem g_astore (C : Cx G M κ) {i : Nat} {x : Nat} (hd : decode (Mc M) pc = .ok (.astore i, 2)) (hn : i < Mn M) (hs : st1 lv i = true) (k : Go G M κ r σ' σ (pc + 2) ((i, .ref x) :: lv) st) : Go G M κ r σ' σ pc lv (.ref x :: st) := by
  intro H locs ls hP hS hl
  obtain ⟨ls', e', h'⟩ := hl.store1 (v := .ref x) hn rfl hs
  intro T hT X
  obtain ⟨t, a, b⟩ := k H locs ls' hP hS h' T hT X
  refine ⟨t, ?_, b⟩
  have hexec := C.1
  have hb := C.2.1
  jvm_step X.here [X.here.top, ↓top_set X.here.top, hexec, hb, hd, e', Value.isRef]
  exact a
theorem g_iinc (C : Cx G M κ) {i : Nat} {n : Int} {x : Int32} (hd : decode (Mc M) pc = .ok (.iinc i n, 3)) (hx : lg lv i = some (.int x)) (hn : i < Mn M) (hs : st1 lv i = true) (k : Go G M κ r σ' σ (pc + 3) ((i, .int (x + Int32.ofInt n)) :: lv) st) : Go G M κ r σ' σ pc lv st := by
  intro H locs ls hP hS hl
  obtain ⟨ls', e', h'⟩ := hl.store1 (v := .int (x + Int32.ofInt n)) hn rfl hs
  have hg := hl.2.2 _ _ hx
  intro T hT X
  obtain ⟨t, a, b⟩ := k H locs ls' hP hS h' T hT X
  refine ⟨t, ?_, b⟩
  have hexec := C.1
  have hb := C.2.1
  jvm_step X.here [X.here.top, ↓top_set X.here.top, hexec, hb, hd, hg, e']
  exact a
/-- a long is stored: the rows lv' go on beside it -/
theorem Has.store2 {ls : Array Slot} {n : Nat} {l2 : List (Nat × Value)} {k : Nat} {x : Int64} (h : Has ls n l2) (hk : k + 1 < n) (h1 : lg l2 (k + 1) = none) (hs : st1 l2 k = true) : ∃ ls', storeLocals ls k (.long x) = some ls' ∧ Has ls' n ((k, .long x) :: l2) := by
  obtain ⟨ls0, h0, q1, q2, q3⟩ := lv_store2 (l := []) (v := .long x) ⟨h.1, h.2.1, fun q hq => by cases hq⟩ hk rfl
  refine ⟨ls0, h0, q1, q2, fun j w hj => ?_⟩
  unfold lg at hj
  by_cases e : k = j
  · rw [if_pos e] at hj
    cases hj
    subst e
    exact q3 (k, .long x) List.mem_cons_self
  · rw [if_neg e] at hj
    obtain ⟨ls1, h1', p1, p2, p3⟩ := lv_store2 (v := .long x) (h.v1 hj) hk rfl
    rw [h0] at h1'
    cases h1'
    refine p3 (j, w) (List.mem_cons.mpr (Or.inr (List.mem_filter.mpr ⟨List.mem_singleton.mpr rfl, ?_⟩)))
    have a1 : (j == k) = false := by simpa using Ne.symm e
    have a0 : (j == k + 1) = false := by
      have : j ≠ k + 1 := fun q => by rw [q, h1] at hj; cases hj
      simpa using this
    have a2 : (j + 1 == k && w.category == 2) = false := by
      by_cases e : j + 1 = k
      · subst e
        unfold st1 at hs
        simp only [hj] at hs
        have : w.category ≠ 2 := by simpa using hs
        simp [this]
      · simp [e]
    simp [a0, a1, a2]
theorem g_lstore_n (C : Cx G M κ) {i : Fin 4} {x : Int64} (lv' : List (Nat × Value)) (hd : decode (Mc M) pc = .ok (.lstore_n i, 1)) (hn : (i : Nat) + 1 < Mn M) (hv : lvs lv lv') (h1 : lg lv' ((i : Nat) + 1) = none) (hs : st1 lv' (i : Nat) = true) (k : Go G M κ r σ' σ (pc + 1) (((i : Nat), .long x) :: lv') st) : Go G M κ r σ' σ pc lv (.long x :: st) := by
  intro H locs ls hP hS hl
  obtain ⟨ls', e', h'⟩ := Has.store2 (x := x) (l2 := lv') ⟨hl.1, hl.2.1, fun a v ha => hl.2.2 a v (lvs_spec hv a v ha)⟩ hn h1 hs
  intro T hT X
  obtain ⟨t, a, b⟩ := k H locs ls' hP hS h' T hT X
  refine ⟨t, ?_, b⟩
  have hexec := C.1
  have hb := C.2.1
  jvm_step X.here [X.here.top, ↓top_set X.here.top, hexec, hb, hd, e']
  exact a
theorem g_lstore (C : Cx G M κ) {i : Nat} {x : Int64} (lv' : List (Nat × Value)) (hd : decode (Mc M) pc = .ok (.lstore i, 2)) (hn : i + 1 < Mn M) (hv : lvs lv lv') (h1 : lg lv' (i + 1) = none) (hs : st1 lv' i = true) (k : Go G M κ r σ' σ (pc + 2) ((i, .long x) :: lv') st) : Go G M κ r σ' σ pc lv (.long x :: st) := by
  intro H locs ls hP hS hl
  obtain ⟨ls', e', h'⟩ := Has.store2 (x := x) (l2 := lv') ⟨hl.1, hl.2.1, fun a v ha => hl.2.2 a v (lvs_spec hv a v ha)⟩ hn h1 hs
  intro T hT X
  obtain ⟨t, a, b⟩ := k H locs ls' hP hS h' T hT X
  refine ⟨t, ?_, b⟩
  have hexec := C.1
  have hb := C.2.1
  jvm_step X.here [X.here.top, ↓top_set X.here.top, hexec, hb, hd, e']
  exact a

theorem Cx.okk (C : Cx G M κ) : Ok G (ks κ) := C.2.2.2.2.2.2.2
theorem Cx.ts (C : Cx G M κ) : ∀ w ∈ GW, w.before (ka κ) (ks κ) = true := C.2.2.2.2.2.1
theorem Cx.own (C : Cx G M κ) : (ks κ).vm.findClass (My M).cls = some (km κ).cls := C.2.2.2.2.1
theorem Cx.ml (C : Cx G M κ) : (kc κ).maxLocals = Mn M := C.2.2.2.1
theorem Cx.nest (C : Cx G M κ) {w : Cond} (h : w ∈ nestW) (ht : w.onTables = true) : w.before (ka κ) (ks κ) = true := va_Nw.use ht (C.okk.2.1 w h)
def Cl (G : GG) (σ : WW) (i : Nat) (e : va_E) : Prop := i < gN G ∧ σ i = e
theorem Cl.s {i : Nat} {e e' : va_E} (h : Cl G σ i e') : Cl G (va_up σ i e) i e := ⟨h.1, by simp [va_up]⟩
theorem Cl.n {i j : Nat} {e e' : va_E} (hij : j ≠ i) (h : Cl G σ j e') : Cl G (va_up σ i e) j e' := ⟨h.1, by simp only [va_up, if_neg hij]; exact h.2⟩
theorem wd_is {i : Nat} {e : va_E} (h : Cl G σ i e) : (wd G σ)[i]? = some (ga G i, e) := by rw [wd_at h.1, h.2]
/-- fields -/
theorem g_getf (C : Cx G M κ) {ix ci k n i : Nat} {Cn : String} {T : u_T} {fs : List Value} {v : Value} (hd : decode (Mc M) pc = .ok (.getfield ix, 3)) (hc : vwCl[ci]? = some (Cn, T, n)) (hin : ∀ w ∈ u_ws Cn T n, w ∈ GW) (hk : k < n) (hw : Cond.fieldLink (My M).cls ix (T k).1 (T k).2.1 (T k).2.2.1 ∈ GW) (hσ : Cl G σ i (.inr (ci, fs))) (hv : fs[k]? = some v) (kk : Go G M κ r σ' σ (pc + 3) lv (v :: st)) : Go G M κ r σ' σ pc lv (.ref (ga G i) :: st) := fun H locs ls hP hS hl =>
  va_get (D := gD G) (ci := ci) (v := v) (C := Cn) (T := T) (N := n) C.1 C.2.1 C.ts hin C.own C.okk.1 hP i (wd_is hσ) hc k hk (C.ts _ hw) (fun _ h => h) hv hd (kk H locs ls hP hS hl)
theorem g_getn (C : Cx G M κ) {ix ci k n i : Nat} {Cn host : String} {T : u_T} {fs : List Value} {v : Value} (hd : decode (Mc M) pc = .ok (.getfield ix, 3)) (hc : vwCl[ci]? = some (Cn, T, n)) (hin : ∀ w ∈ u_ws Cn T n, w ∈ GW) (hk : k < n) (hw : Cond.fieldLinkNest (My M).cls ix (T k).1 (T k).2.1 (T k).2.2.1 host ∈ nestW) (hσ : Cl G σ i (.inr (ci, fs))) (hv : fs[k]? = some v) (kk : Go G M κ r σ' σ (pc + 3) lv (v :: st)) : Go G M κ r σ' σ pc lv (.ref (ga G i) :: st) := fun H locs ls hP hS hl =>
  va_getN (D := gD G) (ci := ci) (v := v) (C := Cn) (T := T) (N := n) C.1 C.2.1 C.ts hin C.own C.okk.1 hP i (wd_is hσ) hc k hk (C.nest hw rfl) (fun _ h => h) hv hd (kk H locs ls hP hS hl)
theorem g_putf (C : Cx G M κ) {ix ci k n i : Nat} {Cn : String} {T : u_T} {ty0 : Nat → FieldType} {ty : FieldType} {fs : List Value} {v : Value} (hd : decode (Mc M) pc = .ok (.putfield ix, 3)) (hc : vwCl[ci]? = some (Cn, T, n)) (hin : ∀ w ∈ u_ws Cn T n, w ∈ GW) (hty : ∀ k, k < n → parseFieldDescriptor (T k).2.2.1 = some (ty0 k)) (hnm : ∀ a, a < n → ∀ b, b < n → a ≠ b → (T a).2.1 ≠ (T b).2.1) (hk : k < n) (hw : Cond.fieldLink (My M).cls ix (T k).1 (T k).2.1 (T k).2.2.1 ∈ GW) (hfin : (T k).2.2.2 = false) (hpd : parseFieldDescriptor (T k).2.2.1 = some ty) (hσ : Cl G σ i (.inr (ci, fs))) (hn : narrow ty v = v) (hfit : fits ty v = true) (hl : k < fs.length) (kk : Cl G (va_up σ i (.inr (ci, fs.set k v))) i (.inr (ci, fs.set k v)) → Go G M κ r σ' (va_up σ i (.inr (ci, fs.set k v))) (pc + 3) lv st) : Go G M κ r σ' σ pc lv (v :: .ref (ga G i) :: st) := fun H locs ls hP hS hl2 =>
  va_put (D := gD G) (ci := ci) (v := v) (C := Cn) (T := T) (N := n) C.1 C.2.1 C.ts hin ty0 hty hnm C.own C.okk.1 hP (wd_D C.okk.2.2.1) hS i (wd_is hσ) hc k hk (C.ts _ hw) (fun _ h => h) hfin hpd hn hfit hl hd (fun H1 locs1 h1 _ h3 => kk hσ.s H1 locs1 ls (by rw [← wd_set _ hσ.1]; exact h1) h3 hl2)
theorem g_putn (C : Cx G M κ) {ix ci k n i : Nat} {Cn host : String} {T : u_T} {ty0 : Nat → FieldType} {ty : FieldType} {fs : List Value} {v : Value} (hd : decode (Mc M) pc = .ok (.putfield ix, 3)) (hc : vwCl[ci]? = some (Cn, T, n)) (hin : ∀ w ∈ u_ws Cn T n, w ∈ GW) (hty : ∀ k, k < n → parseFieldDescriptor (T k).2.2.1 = some (ty0 k)) (hnm : ∀ a, a < n → ∀ b, b < n → a ≠ b → (T a).2.1 ≠ (T b).2.1) (hk : k < n) (hw : Cond.fieldLinkNest (My M).cls ix (T k).1 (T k).2.1 (T k).2.2.1 host ∈ nestW) (hfin : (T k).2.2.2 = false) (hpd : parseFieldDescriptor (T k).2.2.1 = some ty) (hσ : Cl G σ i (.inr (ci, fs))) (hn : narrow ty v = v) (hfit : fits ty v = true) (hl : k < fs.length) (kk : Cl G (va_up σ i (.inr (ci, fs.set k v))) i (.inr (ci, fs.set k v)) → Go G M κ r σ' (va_up σ i (.inr (ci, fs.set k v))) (pc + 3) lv st) : Go G M κ r σ' σ pc lv (v :: .ref (ga G i) :: st) := fun H locs ls hP hS hl2 =>
  va_putN (D := gD G) (ci := ci) (v := v) (C := Cn) (T := T) (N := n) C.1 C.2.1 C.ts hin ty0 hty hnm C.own C.okk.1 hP (wd_D C.okk.2.2.1) hS i (wd_is hσ) hc k hk (C.nest hw rfl) (fun _ h => h) hfin hpd hn hfit hl hd (fun H1 locs1 h1 _ h3 => kk hσ.s H1 locs1 ls (by rw [← wd_set _ hσ.1]; exact h1) h3 hl2)
/-- arrays -/
theorem g_iaload (C : Cx G M κ) {i n : Nat} {f : Nat → Int32} {j : Int32} (hd : decode (Mc M) pc = .ok (.iaload, 1)) (hσ : Cl G σ i (.inl (gI G, n, .inl f))) (hj : vp_in j n) (kk : Go G M κ r σ' σ (pc + 1) lv (.int (f j.toNatClampNeg) :: st)) : Go G M κ r σ' σ pc lv (.int j :: .ref (ga G i) :: st) := fun H locs ls hP hS hl =>
  va_iald C.1 C.2.1 C.okk.1 hP i 1 (wd_is hσ) rfl hj hd (kk H locs ls hP hS hl)
theorem g_baload (C : Cx G M κ) {i n : Nat} {f : Nat → Int32} {j : Int32} (hd : decode (Mc M) pc = .ok (.baload, 1)) (hσ : Cl G σ i (.inl (gB G, n, .inl f))) (hj : vp_in j n) (kk : Go G M κ r σ' σ (pc + 1) lv (.int (f j.toNatClampNeg) :: st)) : Go G M κ r σ' σ pc lv (.int j :: .ref (ga G i) :: st) := fun H locs ls hP hS hl =>
  va_bald C.1 C.2.1 C.okk.1 hP i 0 (wd_is hσ) rfl hj hd (kk H locs ls hP hS hl)
theorem g_laload (C : Cx G M κ) {i n : Nat} {f : Nat → Int64} {j : Int32} (hd : decode (Mc M) pc = .ok (.laload, 1)) (hσ : Cl G σ i (.inl (gJ G, n, .inr (.inl f)))) (hj : vp_in j n) (kk : Go G M κ r σ' σ (pc + 1) lv (.long (f j.toNatClampNeg) :: st)) : Go G M κ r σ' σ pc lv (.int j :: .ref (ga G i) :: st) := fun H locs ls hP hS hl =>
  va_lald C.1 C.2.1 C.okk.1 hP i 2 (wd_is hσ) rfl hj hd (kk H locs ls hP hS hl)
theorem g_iastore (C : Cx G M κ) {i n : Nat} {f : Nat → Int32} {j x : Int32} (hd : decode (Mc M) pc = .ok (.iastore, 1)) (hσ : Cl G σ i (.inl (gI G, n, .inl f))) (hj : vp_in j n) (kk : Cl G (va_up σ i (.inl (gI G, n, .inl (upd f j.toNatClampNeg x)))) i (.inl (gI G, n, .inl (upd f j.toNatClampNeg x))) → Go G M κ r σ' (va_up σ i (.inl (gI G, n, .inl (upd f j.toNatClampNeg x)))) (pc + 1) lv st) : Go G M κ r σ' σ pc lv (.int x :: .int j :: .ref (ga G i) :: st) := fun H locs ls hP hS hl =>
  va_iast C.1 C.2.1 C.okk.1 hP (wd_D C.okk.2.2.1) hS i 1 (wd_is hσ) rfl hj hd (fun H1 locs1 h1 _ h3 => kk hσ.s H1 locs1 ls (by rw [← wd_set _ hσ.1]; exact h1) h3 hl)
theorem g_bastore (C : Cx G M κ) {i n : Nat} {f : Nat → Int32} {j x : Int32} (hd : decode (Mc M) pc = .ok (.bastore, 1)) (hσ : Cl G σ i (.inl (gB G, n, .inl f))) (hj : vp_in j n) (kk : Cl G (va_up σ i (.inl (gB G, n, .inl (upd f j.toNatClampNeg (vp_nar .byte x))))) i (.inl (gB G, n, .inl (upd f j.toNatClampNeg (vp_nar .byte x)))) → Go G M κ r σ' (va_up σ i (.inl (gB G, n, .inl (upd f j.toNatClampNeg (vp_nar .byte x))))) (pc + 1) lv st) : Go G M κ r σ' σ pc lv (.int x :: .int j :: .ref (ga G i) :: st) := fun H locs ls hP hS hl =>
  va_bast C.1 C.2.1 C.okk.1 hP (wd_D C.okk.2.2.1) hS i 0 (wd_is hσ) rfl hj hd (fun H1 locs1 h1 _ h3 => kk hσ.s H1 locs1 ls (by rw [← wd_set _ hσ.1]; exact h1) h3 hl)
theorem g_lastore (C : Cx G M κ) {i n : Nat} {f : Nat → Int64} {j : Int32} {x : Int64} (hd : decode (Mc M) pc = .ok (.lastore, 1)) (hσ : Cl G σ i (.inl (gJ G, n, .inr (.inl f)))) (hj : vp_in j n) (kk : Cl G (va_up σ i (.inl (gJ G, n, .inr (.inl (vp_updL f j.toNatClampNeg x))))) i (.inl (gJ G, n, .inr (.inl (vp_updL f j.toNatClampNeg x)))) → Go G M κ r σ' (va_up σ i (.inl (gJ G, n, .inr (.inl (vp_updL f j.toNatClampNeg x))))) (pc + 1) lv st) : Go G M κ r σ' σ pc lv (.long x :: .int j :: .ref (ga G i) :: st) := fun H locs ls hP hS hl =>
  va_last C.1 C.2.1 C.okk.1 hP (wd_D C.okk.2.2.1) hS i 2 (wd_is hσ) rfl hj hd (fun H1 locs1 h1 _ h3 => kk hσ.s H1 locs1 ls (by rw [← wd_set _ hσ.1]; exact h1) h3 hl)
theorem g_alenJ (C : Cx G M κ) {i n : Nat} {f : Nat → Int64} (hd : decode (Mc M) pc = .ok (.arraylength, 1)) (hσ : Cl G σ i (.inl (gJ G, n, .inr (.inl f)))) (kk : Go G M κ r σ' σ (pc + 1) lv (.int (Int32.ofNat n) :: st)) : Go G M κ r σ' σ pc lv (.ref (ga G i) :: st) := fun H locs ls hP hS hl =>
  va_alen C.1 C.2.1 C.okk.1 hP i 2 (wd_is hσ) (ty := .long) rfl rfl hd (kk H locs ls hP hS hl)
/-- the static array HOLDING -/
theorem g_hold (C : Cx G M κ) {ix : Nat} (hd : decode (Mc M) pc = .ok (.getstatic ix, 3)) (hw : Cond.fieldLink (My M).cls ix "UnlikeGate$Strangers" "HOLDING" "[I" ∈ GW) (kk : ∀ t : Nat, (∀ {pc2 : Nat} {st2 : List Value} {lv2 : List (Nat × Value)} {σ2 : WW} {j : Int32} {v : Value}, decode (Mc M) pc2 = .ok (.iaload, 1) → vp_in j 5 → holdV j.toNatClampNeg = v → Go G M κ r σ' σ2 (pc2 + 1) lv2 (v :: st2) → Go G M κ r σ' σ2 pc2 lv2 (.int j :: .ref t :: st2)) → Go G M κ r σ' σ (pc + 3) lv (.ref t :: st)) : Go G M κ r σ' σ pc lv st := fun H locs ls hP hS hl => by
  obtain ⟨t, hZ, hT⟩ := C.okk.2.2.2
  refine va_gets C.1 C.2.1 hZ hS C.own (C.ts _ hw) (fun _ h => h) hd (kk t ?_ H locs ls hP hS hl)
  intro pc2 st2 lv2 σ2 j v h1 h2 h3 h4 H locs ls hP hS hl
  exact va_ti C.1 C.2.1 hT hS h2 h3 h1 (h4 H locs ls hP hS hl)
/-- calls -/
theorem gw_good {ws : List Cond} (h : ∀ w ∈ ws, w ∈ GW) : GoodIn GW ws := fun w hw => ⟨h w hw, good_of_word (List.mem_filter.mp (h w hw)).2⟩
theorem nestW_warm {s U : State} (hW : s.WarmedH U.vm) {w : Cond} (hw : w ∈ nestW) (h : va_Nw w s) : va_Nw w U := by
  have h2 := (List.mem_filter.mp hw).2
  cases w <;> first | (simp [isNest] at h2; done) | exact va_Nw.warmF hW h | exact va_Nw.warmM hW h
theorem nestW_same {s U : State} (hv : s.vm = U.vm) {w : Cond} (hw : w ∈ nestW) (h : va_Nw w s) : va_Nw w U := by
  have h2 := (List.mem_filter.mp hw).2
  cases w <;> first | (simp [isNest] at h2; done) | exact va_Nw.same rfl hv h
theorem Ok.warm {s U : State} {H : Heap} {locs : List Loc} (h : Ok G s) (hU : U.heap = H) (hS : va_S (AA G s.heap.size) s.heap H locs) (hW : s.WarmedH U.vm) : Ok G U := by
  obtain ⟨hK, hN, hI, t, hZ, hT⟩ := h
  refine ⟨va_K.moved hW.alike hK, fun w hw => nestW_warm hW hw (hN w hw), hI, t, ?_, ?_⟩
  · rw [hU]
    exact ((hZ.kept (H1 := H) (fun a h1 h2 => hS.2.1 a h1 h2)).narrow (AA_mono hS.1)).moved hW.alike
  · rw [hU]
    exact ((hT.kept (H1 := H) (fun a h1 h2 => hS.2.1 a h1 h2)).narrow (AA_mono hS.1)).moved hW.alike
theorem Pr.blind {as : List Value} {sz : Nat} : FrameBlind (Pr G as σ sz) := by
  intro a U g mk h
  obtain ⟨h0, h1, h2, hK, hN, hI, t, hZ, hT⟩ := h
  exact ⟨h0, h1, h2, va_K.moved (u := U) (U := U.calling g mk a) (Vm.Alike.refl U.vm) hK, fun w hw => nestW_same (s := U) (U := U.calling g mk a) rfl hw (hN w hw), hI, t, va_Z.moved (u := U) (U := U.calling g mk a) (Vm.Alike.refl U.vm) hZ, va_T.moved (u := U) (U := U.calling g mk a) (Vm.Alike.refl U.vm) hT⟩
/-- behind a call -/
theorem g_behind {N : MM} {as rest : List Value} {r1 : Option Value} {σ1 : WW} {a : Array Value} {st0 : List Value} (hrun : ∀ (H : Heap) (locs : List Loc) (ls : Array Slot), va_P (gD G) vwCl (wd G σ) H → va_S (AA G (ks κ).heap.size) (ks κ).heap H locs → Has ls (Mn M) lv → va_Run (kp κ) (gl G) (ke κ) (Mr M) (ks κ) (km κ) (ka κ) (kb κ) (kh κ) (kc κ) H locs 0 0 0 0 (F0 (km κ) pc ls st0) rest (Qr G r1 σ1 H.size a) (AA G H.size)) (kk : Go G M κ r σ' σ1 (pc + 3) lv (r1.toList ++ rest)) : Go G M κ r σ' σ pc lv st0 := by
  intro H locs ls hP hS hl T hT X
  obtain ⟨v, st₀, t, T', L, h0, X', hL, e1, e2, ⟨⟨hv, hP1⟩, hz, hk⟩, st⟩ := hrun H locs ls hP hS hl T hT X
  cases hv
  rw [h0] at hz hk
  have hS' : va_S (AA G (ks κ).heap.size) (ks κ).heap T'.heap (locs ++ L) := ⟨Nat.le_trans hS.1 (by rw [e1]; exact hz), fun q h1 h2 => by
      rw [e1, hk q (Nat.lt_of_lt_of_le h1 hS.1) (fun z => h2 (AA_mono hS.1 q z))]
      exact hS.2.1 q h1 h2, fun q hq => by
      rcases List.mem_append.mp hq with h | h
      · exact hS.2.2 q h
      · exact AA_mono hS.1 _ (hL q h)⟩
  obtain ⟨t2, a1, b1⟩ := kk T'.heap (locs ++ L) ls (by rw [e1]; exact hP1) hS' hl T' rfl X'
  exact ⟨t2, st t2 a1, b1⟩
def roomB (M N : MM) : Bool := Nat.ble (M.2.2.2.2.1 * 0 + N.2.2.2.2.1 + 1) M.2.2.2.2.1 && Nat.ble (8 + (Mn N + 11) + N.2.2.2.2.2) M.2.2.2.2.2
theorem roomB_ok {M N : MM} (h : roomB M N = true) : (Mr N).frames + 1 ≤ (Mr M).frames ∧ 8 + (Mn N + 11) + (Mr N).locals ≤ (Mr M).locals := by
  unfold roomB at h
  have h2 := (Bool.and_eq_true _ _).mp h
  have a := Nat.le_of_ble_eq_true h2.1
  have b := Nat.le_of_ble_eq_true h2.2
  exact ⟨by simpa using a, by simpa using b⟩
def descOk (N : MM) (n : Nat) : Prop := (My N).cls ≠ "java/lang/invoke/MethodHandle" ∧ (My N).cls ≠ "java/lang/invoke/VarHandle" ∧ (parseMethodDescriptor (My N).desc).map (fun d => d.parameters.length) = some n
theorem wy_good {N : MM} (h : Cond.code (My N) (Mc N) (Mn N) (Mt0 N) ∈ GW) : GoodIn GW (wy N) := gw_good (List.forall_mem_cons.mpr ⟨h, fun _ h => h⟩)
theorem g_callV (C : Cx G M κ) {N : MM} {ix i ci : Nat} {T : u_T} {n : Nat} {fs As rest : List Value} {r1 : Option Value} {σ1 : WW} (hM : Mt G N (.ref (ga G i) :: As) σ r1 σ1) (hd : decode (Mc M) pc = .ok (.invokevirtual ix, 3))
    (hc : vwCl[ci]? = some ((My N).cls, T, n)) (hcode : Cond.code (My N) (Mc N) (Mn N) (Mt0 N) ∈ GW) (hw : ∀ w ∈ ([.methodLink (My M).cls ix (My N), .instanceMethod (My N), .selects (My N).cls (My N) (My N), .initialized (My N).cls] : List Cond), w ∈ GW) (hds : descOk N As.length) (hσ : Cl G σ i (.inr (ci, fs))) (hR : roomB M N = true) (hst : (rest.map fun v => v.category).sum ≤ 8)
    (kk : Go G M κ r σ' σ1 (pc + 3) lv (r1.toList ++ rest)) : Go G M κ r σ' σ pc lv (As.reverse ++ .ref (ga G i) :: rest) := by
  refine g_behind (N := N) (as := .ref (ga G i) :: As) (a := (Value.ref (ga G i) :: As).toArray) (fun H locs ls hP hS hl => ?_) kk
  exact va_runV (C := (My N).cls) (As := As) (rest := rest) ⟨C.1, C.2.1, C.ml, C.own, C.ts⟩ (hM H.size) (cwV As.length C.ts (gw_good (by unfold wsV; exact fun w h => (List.mem_append.mp h).elim (hw w) (fun h => (wy_good hcode w h).1))) rfl rfl rfl ⟨rfl, hds⟩ (roomB_ok hR)) ⟨Pr.blind, va_recv C.okk.1 hP hc (wd_is hσ), fun U hU hW => ⟨rfl, by rw [hU], by rw [hU]; exact hP, C.okk.warm hU hS hW⟩⟩ rfl rfl hl.1 rfl (lv_room hst) hd ⟨Nat.zero_le _, Nat.zero_le _⟩
theorem g_callS (C : Cx G M κ) {N : MM} {ix : Nat} {As rest : List Value} {r1 : Option Value} {σ1 : WW} (hM : Mt G N As σ r1 σ1) (hd : decode (Mc M) pc = .ok (.invokestatic ix, 3))
    (hcode : Cond.code (My N) (Mc N) (Mn N) (Mt0 N) ∈ GW) (hw : ∀ w ∈ ([.methodLink (My M).cls ix (My N), .static (My N), .initialized (My N).cls] : List Cond), w ∈ GW) (hds : descOk N As.length) (hR : roomB M N = true) (hst : (rest.map fun v => v.category).sum ≤ 8)
    (kk : Go G M κ r σ' σ1 (pc + 3) lv (r1.toList ++ rest)) : Go G M κ r σ' σ pc lv (As.reverse ++ rest) := by
  refine g_behind (N := N) (as := As) (a := As.toArray) (fun H locs ls hP hS hl => ?_) kk
  have h1 := C.ts _ (hw _ (List.mem_cons_self))
  have h2 := C.ts _ (hw _ (List.mem_cons_of_mem _ List.mem_cons_self))
  have h3 := C.ts _ (hw _ (List.mem_cons_of_mem _ (List.mem_cons_of_mem _ List.mem_cons_self)))
  exact va_runS (As := As) (rest := rest) ⟨C.1, C.2.1, C.ml, C.own, C.ts⟩ (hM H.size) ⟨callB_of As.length C.ts (wy_good hcode) rfl rfl rfl h3 h1 hds (roomB_ok hR), h2⟩ ⟨Pr.blind, fun U hU hW => ⟨rfl, by rw [hU], by rw [hU]; exact hP, C.okk.warm hU hS hW⟩⟩ rfl rfl hl.1 rfl (lv_room hst) hd ⟨Nat.zero_le _, Nat.zero_le _⟩
theorem g_callSN (C : Cx G M κ) {N : MM} {ix : Nat} {host : String} {As rest : List Value} {r1 : Option Value} {σ1 : WW} (hM : Mt G N As σ r1 σ1) (hd : decode (Mc M) pc = .ok (.invokestatic ix, 3))
    (hcode : Cond.code (My N) (Mc N) (Mn N) (Mt0 N) ∈ GW) (hn : Cond.methodLinkNest (My M).cls ix (My N) host ∈ nestW) (hw : ∀ w ∈ ([.static (My N), .initialized (My N).cls] : List Cond), w ∈ GW) (hds : descOk N As.length) (hR : roomB M N = true) (hst : (rest.map fun v => v.category).sum ≤ 8)
    (kk : Go G M κ r σ' σ1 (pc + 3) lv (r1.toList ++ rest)) : Go G M κ r σ' σ pc lv (As.reverse ++ rest) := by
  refine g_behind (N := N) (as := As) (a := As.toArray) (fun H locs ls hP hS hl => ?_) kk
  have h2 := C.ts _ (hw _ (List.mem_cons_self))
  have h3 := C.ts _ (hw _ (List.mem_cons_of_mem _ List.mem_cons_self))
  exact va_runSN (As := As) (rest := rest) ⟨C.1, C.2.1, C.ml, C.own, C.ts⟩ (hM H.size) ⟨va_cnB As.length C.ts (wy_good hcode) rfl rfl rfl (C.okk.2.1 _ hn) h3 hds (roomB_ok hR), h2, trivial⟩ ⟨Pr.blind, fun U hU hW => ⟨rfl, by rw [hU], by rw [hU]; exact hP, C.okk.warm hU hS hW⟩⟩ rfl rfl hl.1 rfl (lv_room hst) hd ⟨Nat.zero_le _, Nat.zero_le _⟩
/-- switches -/
theorem g_tableIn (C : Cx G M κ) {dflt lo hi : Int} {offs : Array Int} {len : Nat} {x : Int32} {off : Int} (tgt : Nat) (hd : decode (Mc M) pc = .ok (.tableswitch dflt lo hi offs, len)) (h1 : ¬ x.toInt < lo) (h2 : ¬ hi < x.toInt) (ho : offs[(x.toInt - lo).toNat]? = some off) (ht : (pc : Int) + off = (tgt : Int)) (k : Go G M κ r σ' σ tgt lv st) : Go G M κ r σ' σ pc lv (.int x :: st) := fun H locs ls hP hS hl => lv_tableIn C.1 C.2.1 hd h1 h2 ho ht (k H locs ls hP hS hl)
theorem g_tableOut (C : Cx G M κ) {dflt lo hi : Int} {offs : Array Int} {len : Nat} {x : Int32} (tgt : Nat) (hd : decode (Mc M) pc = .ok (.tableswitch dflt lo hi offs, len)) (h : x.toInt < lo ∨ hi < x.toInt) (ht : (pc : Int) + dflt = (tgt : Int)) (k : Go G M κ r σ' σ tgt lv st) : Go G M κ r σ' σ pc lv (.int x :: st) := fun H locs ls hP hS hl => lv_tableOut C.1 C.2.1 hd h ht (k H locs ls hP hS hl)
theorem g_lookup (C : Cx G M κ) {dflt : Int} {ps : Array (Int × Int)} {len : Nat} {x : Int32} {off : Int} (tgt : Nat) (hd : decode (Mc M) pc = .ok (.lookupswitch dflt ps, len)) (hp : (ps.toList.zip (ps.toList.drop 1)).all (fun (a, next) => a.1 < next.1) = true) (ho : Op.lookupswitch.offset ps.toList dflt x.toInt = off) (ht : (pc : Int) + off = (tgt : Int)) (k : Go G M κ r σ' σ tgt lv st) : Go G M κ r σ' σ pc lv (.int x :: st) := fun H locs ls hP hS hl => lv_lookup C.1 C.2.1 hd hp ho ht (k H locs ls hP hS hl)
end GO2

