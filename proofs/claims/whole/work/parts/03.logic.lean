
/-! the tables' words that every contract may use; the nest words, which ride beside -/
def GW : List Cond := lw_tbl.filter goodWord
theorem gw_mem {w : Cond} (h : w ∈ lw_tbl) (hg : goodWord w = true) : w ∈ GW := List.mem_filter.mpr ⟨h, hg⟩
theorem gw_tbl {w : Cond} (h : w ∈ tables_1) (hg : goodWord w = true) : w ∈ GW := gw_mem (List.mem_append_right _ h) hg
def isNest : Cond → Bool
  | .fieldLinkNest _ _ _ _ _ _ => true
  | .methodLinkNest _ _ _ _ => true
  | _ => false
def nestW : List Cond := tables_1.filter isNest
theorem nw_mem {w : Cond} (h : w ∈ tables_1) (hg : isNest w = true) : w ∈ nestW := List.mem_filter.mpr ⟨h, hg⟩
abbrev GG : Type := Launch × (Nat → ClassId) × (Nat → Nat → Nat) × (ClassId × ClassId × ClassId) × (Nat → Nat) × Nat
abbrev gl (G : GG) : Launch := G.1
abbrev gD (G : GG) : va_G := (G.2.1, G.2.2.1)
abbrev gB (G : GG) : ClassId := G.2.2.2.1.1
abbrev gI (G : GG) : ClassId := G.2.2.2.1.2.1
abbrev gJ (G : GG) : ClassId := G.2.2.2.1.2.2
abbrev ga (G : GG) : Nat → Nat := G.2.2.2.2.1
abbrev gN (G : GG) : Nat := G.2.2.2.2.2
abbrev WW : Type := Nat → va_E
def wd (G : GG) (σ : WW) : va_W := (List.range (gN G)).map fun i => (ga G i, σ i)
theorem wd_at {G : GG} {σ : WW} {i : Nat} (h : i < gN G) : (wd G σ)[i]? = some (ga G i, σ i) := by
  simp [wd, List.getElem?_map, List.getElem?_range h]
theorem wd_lt {G : GG} {σ : WW} {i : Nat} {q : Nat × va_E} (h : (wd G σ)[i]? = some q) : i < gN G ∧ q = (ga G i, σ i) := by
  have hl : i < (wd G σ).length := (List.getElem?_eq_some_iff.mp h).1
  have hi : i < gN G := by simpa [wd] using hl
  rw [wd_at hi] at h
  exact ⟨hi, (Option.some.inj h).symm⟩
theorem wd_set {G : GG} {σ : WW} {i : Nat} (e : va_E) (h : i < gN G) : (wd G σ).set i (ga G i, e) = wd G (va_up σ i e) := by
  refine List.ext_getElem? fun j => ?_
  by_cases hj : j < gN G
  · rw [wd_at hj, List.getElem?_set]
    by_cases hij : i = j
    · subst hij
      simp [va_up, wd, h]
    · rw [if_neg hij, wd_at hj]
      simp [va_up, Ne.symm hij]
  · have e1 : (wd G (va_up σ i e))[j]? = none := by
      refine List.getElem?_eq_none ?_
      simp [wd]; omega
    rw [e1]
    refine List.getElem?_eq_none ?_
    simp [wd]; omega
def tys3 (G : GG) : List (ClassId × FieldType) := [(gB G, .byte), (gI G, .int), (gJ G, .long)]
def AA (G : GG) (sz : Nat) : Nat → Prop := fun q => (∃ i, i < gN G ∧ q = ga G i) ∨ sz ≤ q
theorem AA_mono {G : GG} {a b : Nat} (h : a ≤ b) : ∀ q, AA G b q → AA G a q := fun _ hq => hq.elim Or.inl (fun h1 => Or.inr (Nat.le_trans h h1))
def holdV : Nat → Value := fun j => .int (if j = 0 then (-1431655766) else if j = 1 then (-858993460) else if j = 2 then (-252645136) else if j = 3 then (-16711936) else (-65536))
def Hold (G : GG) (U : State) : Prop := ∃ t : Nat, va_Z "UnlikeGate$Strangers" "HOLDING" "[I" (.ref t) (AA G U.heap.size) U U.heap ∧ va_T .int t 5 holdV (AA G U.heap.size) U U.heap
def Inj (G : GG) : Prop := ∀ i j, i < gN G → j < gN G → ga G i = ga G j → i = j
def Ok (G : GG) (U : State) : Prop := va_K (gD G) vwCl (tys3 G) U ∧ (∀ w ∈ nestW, va_Nw w U) ∧ Inj G ∧ Hold G U
theorem wd_D {G : GG} {σ : WW} {sz : Nat} (h : Inj G) : va_D (AA G sz) (wd G σ) := by
  refine ⟨fun i j p q hp hq hpq => ?_, fun k q hk => ?_⟩
  · obtain ⟨h1, rfl⟩ := wd_lt hp
    obtain ⟨h2, rfl⟩ := wd_lt hq
    exact h i j h1 h2 hpq
  · obtain ⟨h1, rfl⟩ := wd_lt hk
    exact Or.inl ⟨k, h1, rfl⟩
/-- a method: its name, code, locals, answer's type, frames and locals' words that it takes -/
abbrev MM : Type := MethodName × ByteArray × Nat × Option FieldType × Nat × Nat
abbrev My (M : MM) : MethodName := M.1
abbrev Mc (M : MM) : ByteArray := M.2.1
abbrev Mn (M : MM) : Nat := M.2.2.1
abbrev Mt0 (M : MM) : Option FieldType := M.2.2.2.1
abbrev Mr (M : MM) : Room := { frames := M.2.2.2.2.1, cells := 0, slots := 0, locals := M.2.2.2.2.2 }
def wy (M : MM) : List Cond := .code (My M) (Mc M) (Mn M) (Mt0 M) :: GW
def Qr (G : GG) (r : Option Value) (σ' : WW) (sz : Nat) : Array Value → State → Outcome → State → Prop := fun _ st oc t => (oc = .returned r ∧ va_P (gD G) vwCl (wd G σ') t.heap) ∧ va_F (AA G sz) st t
def Pr (G : GG) (as : List Value) (σ : WW) (sz : Nat) : Array Value → State → Prop := va_Pc as (fun U => U.heap.size = sz ∧ va_P (gD G) vwCl (wd G σ) U.heap ∧ Ok G U)
/-- the method M, called with these values over the world σ, answers r and leaves σ' -/
def Mt (G : GG) (M : MM) (as : List Value) (σ : WW) (r : Option Value) (σ' : WW) : Prop := ∀ sz : Nat, Met (gl G) (My M) (wy M) (Mr M) (Pr G as σ sz) (Qr G r σ' sz) 0 0 (AA G sz)
abbrev KK : Type := Program × Env × State × MethodId × Array Value × List Frame × Method × Code
abbrev kp (κ : KK) : Program := κ.1
abbrev ke (κ : KK) : Env := κ.2.1
abbrev ks (κ : KK) : State := κ.2.2.1
abbrev km (κ : KK) : MethodId := κ.2.2.2.1
abbrev ka (κ : KK) : Array Value := κ.2.2.2.2.1
abbrev kb (κ : KK) : List Frame := κ.2.2.2.2.2.1
abbrev kh (κ : KK) : Method := κ.2.2.2.2.2.2.1
abbrev kc (κ : KK) : Code := κ.2.2.2.2.2.2.2
def lg : List (Nat × Value) → Nat → Option Value
  | [], _ => none
  | q :: t, k => if q.1 = k then some q.2 else lg t k
/-- what the locals hold, the first row of a place counting -/
def Has (ls : Array Slot) (n : Nat) (lv : List (Nat × Value)) : Prop := ls.size = n ∧ lv_wf ls ∧ ∀ k v, lg lv k = some v → ls[k]? = some (.val v)
/-- what stands through a method's body -/
def Cx (G : GG) (M : MM) (κ : KK) : Prop := (kp κ).tables.exec = Jvm.exec ∧ (kc κ).code = Mc M ∧ (kh κ).sig.returnType = Mt0 M ∧ (kc κ).maxLocals = Mn M ∧ (ks κ).vm.findClass (My M).cls = some (km κ).cls ∧ (∀ w ∈ GW, w.before (ka κ) (ks κ) = true) ∧ (kh κ).locks = false ∧ Ok G (ks κ)
/-- the machine at pc of M with these locals and this stack over the world σ will answer r and leave σ' -/
def Go (G : GG) (M : MM) (κ : KK) (r : Option Value) (σ' σ : WW) (pc : Nat) (lv : List (Nat × Value)) (st : List Value) : Prop :=
  ∀ (H : Heap) (locs : List Loc) (ls : Array Slot), va_P (gD G) vwCl (wd G σ) H → va_S (AA G (ks κ).heap.size) (ks κ).heap H locs → Has ls (Mn M) lv →
    W (kp κ) (gl G) (ke κ) (Mr M) (ks κ) (km κ) (ka κ) (kb κ) (kh κ) (kc κ) H locs 0 0 (MQ (kb κ) (Qr G r σ' (ks κ).heap.size) (ka κ) (ks κ) 0 0 (AA G (ks κ).heap.size)) (F0 (km κ) pc ls st)
theorem lg_mem : ∀ {lv : List (Nat × Value)} {k : Nat} {v : Value}, lg lv k = some v → (k, v) ∈ lv
  | q :: t, k, v, h => by
    unfold lg at h
    by_cases hq : q.1 = k
    · rw [if_pos hq] at h
      cases h
      exact List.mem_cons.mpr (Or.inl (by rw [← hq]))
    · rw [if_neg hq] at h
      exact List.mem_cons.mpr (Or.inr (lg_mem h))
theorem Has.ofv {ls : Array Slot} {n : Nat} {lv : List (Nat × Value)} (h : lv_has ls n lv) : Has ls n lv := ⟨h.1, h.2.1, fun k v hk => h.2.2 (k, v) (lg_mem hk)⟩
theorem Has.v1 {ls : Array Slot} {n : Nat} {lv : List (Nat × Value)} (h : Has ls n lv) {k : Nat} {v : Value} (hk : lg lv k = some v) : lv_has ls n [(k, v)] := ⟨h.1, h.2.1, fun q hq => by
  rw [List.mem_singleton.mp hq]
  exact h.2.2 k v hk⟩
/-- values of one word may be stored anywhere but behind a long that is still listed -/
def st1 (lv : List (Nat × Value)) (k : Nat) : Bool := match k with
  | 0 => true
  | j + 1 => match lg lv j with
    | some v => v.category != 2
    | none => true
theorem Has.store1 {ls : Array Slot} {n : Nat} {lv : List (Nat × Value)} {k : Nat} {v : Value} (h : Has ls n lv) (hk : k < n) (hc : v.category = 1) (hs : st1 lv k = true) : ∃ ls', storeLocals ls k v = some ls' ∧ Has ls' n ((k, v) :: lv) := by
  obtain ⟨ls0, h0, -⟩ := lv_store1 (l := []) (v := v) ⟨h.1, h.2.1, fun q hq => by cases hq⟩ hk hc
  refine ⟨ls0, h0, ?_⟩
  have key : ∀ j w, lg lv j = some w → j ≠ k → ls0[j]? = some (.val w) := by
    intro j w hj hne
    obtain ⟨ls1, h1, q1, q2, q3⟩ := lv_store1 (v := v) (h.v1 hj) hk hc
    rw [h0] at h1
    cases h1
    refine q3 (j, w) (List.mem_cons.mpr (Or.inr (List.mem_filter.mpr ⟨List.mem_singleton.mpr rfl, ?_⟩)))
    have a1 : (j == k) = false := by simpa using hne
    have a2 : (j + 1 == k && w.category == 2) = false := by
      by_cases e : j + 1 = k
      · subst e
        unfold st1 at hs
        simp only [hj] at hs
        have : w.category ≠ 2 := by simpa using hs
        simp [this]
      · simp [e]
    simp [a1, a2]
  obtain ⟨ls1, h1, q1, q2, q3⟩ := lv_store1 (l := []) (v := v) ⟨h.1, h.2.1, fun q hq => by cases hq⟩ hk hc
  rw [h0] at h1
  cases h1
  refine ⟨q1, q2, fun j w hj => ?_⟩
  unfold lg at hj
  by_cases e : k = j
  · rw [if_pos e] at hj
    cases hj
    subst e
    exact q3 (k, v) List.mem_cons_self
  · rw [if_neg e] at hj
    exact key j w hj (Ne.symm e)
def lvs (lv : List (Nat × Value)) : List (Nat × Value) → Prop
  | [] => True
  | q :: t => lg lv q.1 = some q.2 ∧ lvs lv t
theorem lvs_spec {lv : List (Nat × Value)} : ∀ {l2 : List (Nat × Value)}, lvs lv l2 → ∀ k v, lg l2 k = some v → lg lv k = some v
  | q :: t, h, k, v, hk => by
    unfold lg at hk
    by_cases e : q.1 = k
    · rw [if_pos e] at hk
      cases hk
      rw [← e]
      exact h.1
    · rw [if_neg e] at hk
      exact lvs_spec h.2 k v hk
section GO
variable {G : GG} {M : MM} {κ : KK} {r : Option Value} {σ σ' : WW} {pc : Nat} {lv : List (Nat × Value)} {st : List Value}
/-- fewer listed locals, in any order -/
theorem g_lv (lv' : List (Nat × Value)) (h : lvs lv lv') (k : Go G M κ r σ' σ pc lv' st) : Go G M κ r σ' σ pc lv st := fun H locs ls hP hS hl => k H locs ls hP hS ⟨hl.1, hl.2.1, fun a v ha => hl.2.2 a v (lvs_spec h a v ha)⟩
theorem Mt.of {as : List Value} (hp : plainName (My M).cls = true) (hn : (lg_sl as).length ≤ Mn M) (body : ∀ κ : KK, Cx G M κ → Go G M κ r σ' σ 0 (lv_args 0 as) []) : Mt G M as σ r σ' := by
  intro sz
  refine Met.ofW (cc := Mc M) (maxL := Mn M) (ret := Mt0 M) hp rfl ?_
  intro p e s m args below meth c s₁ B hml hv
  obtain ⟨rfl, rfl, hP, hok⟩ := hv
  have hts := atoms_spec (ws := wy M) B.pre
  have hl := lv_entry as (n := Mn M) hn
  rw [lg_entry_eq]
  exact body (p, e, s, m, as.toArray, below, meth, c) ⟨B.exec, B.bytes, B.returns, hml, findClass_of_methodNamed B.named, fun w hw => hts w (List.mem_cons_of_mem _ hw), B.notSynchronized, hok⟩ s.heap [] _ hP va_S.rf (Has.ofv hl)
theorem Qr.iret {v : Value} {t : State} {H : Heap} {locs : List Loc} (h1 : r = some v) (h2 : σ' = σ) (hP : va_P (gD G) vwCl (wd G σ) H) (hS : va_S (AA G (ks κ).heap.size) (ks κ).heap H locs) (ht : t.heap = H) : Qr G r σ' (ks κ).heap.size (ka κ) (ks κ) (.returned (some v)) t := ⟨⟨by rw [h1], by rw [ht, h2]; exact hP⟩, hS.F ht⟩
theorem g_ireturn (C : Cx G M κ) {v : Int32} (hd : decode (Mc M) pc = .ok (.ireturn, 1)) (hr : Mt0 M = some .int) (h1 : r = some (.int v)) (h2 : σ' = σ) : Go G M κ r σ' σ pc lv [.int v] := fun H locs ls hP hS hl =>
  W.iret C.1 C.2.1 (C.2.2.1.trans hr) (fun t ht _ => Qr.iret h1 h2 hP hS ht) hS.2.2 hd C.2.2.2.2.2.2.1
theorem g_zreturn (C : Cx G M κ) {v : Int32} (hd : decode (Mc M) pc = .ok (.ireturn, 1)) (hr : Mt0 M = some .boolean) (h0 : v = 0 ∨ v = 1) (h1 : r = some (.int v)) (h2 : σ' = σ) : Go G M κ r σ' σ pc lv [.int v] := fun H locs ls hP hS hl =>
  W.zret C.1 C.2.1 (C.2.2.1.trans hr) (by rcases h0 with rfl | rfl <;> rfl) (fun t ht _ => Qr.iret h1 h2 hP hS ht) hS.2.2 hd C.2.2.2.2.2.2.1
theorem g_lreturn (C : Cx G M κ) {v : Int64} (hd : decode (Mc M) pc = .ok (.lreturn, 1)) (hr : Mt0 M = some .long) (h1 : r = some (.long v)) (h2 : σ' = σ) : Go G M κ r σ' σ pc lv [.long v] := fun H locs ls hP hS hl =>
  W.lret C.1 C.2.1 (C.2.2.1.trans hr) (fun t ht _ => Qr.iret h1 h2 hP hS ht) hS.2.2 hd C.2.2.2.2.2.2.1
theorem g_return (C : Cx G M κ) (hd : decode (Mc M) pc = .ok (.return_, 1)) (hr : Mt0 M = none) (h1 : r = none) (h2 : σ' = σ) : Go G M κ r σ' σ pc lv [] := fun H locs ls hP hS hl =>
  W.vret C.1 C.2.1 (C.2.2.1.trans hr) (fun t ht _ => ⟨⟨by rw [h1], by rw [ht, h2]; exact hP⟩, hS.F ht⟩) hS.2.2 hd C.2.2.2.2.2.2.1

theorem g_iconst (C : Cx G M κ) {n : Int} {v : Int32} (hd : decode (Mc M) pc = .ok (.iconst n, 1)) (hv : Int32.ofInt n = v) (k : Go G M κ r σ' σ (pc + 1) lv (.int v :: st)) : Go G M κ r σ' σ pc lv (st) := fun H locs ls hP hS hl => lv_iconst C.1 C.2.1 hd hv (k H locs ls hP hS hl)
theorem g_bipush (C : Cx G M κ) {n : Int} {v : Int32} (hd : decode (Mc M) pc = .ok (.bipush n, 2)) (hv : (Int8.ofInt n).toInt32 = v) (k : Go G M κ r σ' σ (pc + 2) lv (.int v :: st)) : Go G M κ r σ' σ pc lv (st) := fun H locs ls hP hS hl => lv_bipush C.1 C.2.1 hd hv (k H locs ls hP hS hl)
theorem g_sipush (C : Cx G M κ) {n : Int} {v : Int32} (hd : decode (Mc M) pc = .ok (.sipush n, 3)) (hv : (Int16.ofInt n).toInt32 = v) (k : Go G M κ r σ' σ (pc + 3) lv (.int v :: st)) : Go G M κ r σ' σ pc lv (st) := fun H locs ls hP hS hl => lv_sipush C.1 C.2.1 hd hv (k H locs ls hP hS hl)
theorem g_lconst (C : Cx G M κ) {n : Fin 2} {v : Int64} (hd : decode (Mc M) pc = .ok (.lconst n, 1)) (hv : Int64.ofNat (n : Nat) = v) (k : Go G M κ r σ' σ (pc + 1) lv (.long v :: st)) : Go G M κ r σ' σ pc lv (st) := fun H locs ls hP hS hl => lv_lconst C.1 C.2.1 hd hv (k H locs ls hP hS hl)
theorem g_iload_n (C : Cx G M κ) {i : Fin 4} {x : Int32} (hd : decode (Mc M) pc = .ok (.iload_n i, 1)) (hx : lg lv (i : Nat) = some (.int x)) (k : Go G M κ r σ' σ (pc + 1) lv (.int x :: st)) : Go G M κ r σ' σ pc lv (st) := fun H locs ls hP hS hl => lv_iload_n C.1 C.2.1 hd rfl (hl.2.2 _ _ hx) (k H locs ls hP hS hl)
theorem g_iload (C : Cx G M κ) {i : Nat} {x : Int32} (hd : decode (Mc M) pc = .ok (.iload i, 2)) (hx : lg lv i = some (.int x)) (k : Go G M κ r σ' σ (pc + 2) lv (.int x :: st)) : Go G M κ r σ' σ pc lv (st) := fun H locs ls hP hS hl => lv_iload C.1 C.2.1 hd (hl.2.2 _ _ hx) (k H locs ls hP hS hl)
theorem g_lload_n (C : Cx G M κ) {i : Fin 4} {x : Int64} (hd : decode (Mc M) pc = .ok (.lload_n i, 1)) (hx : lg lv (i : Nat) = some (.long x)) (k : Go G M κ r σ' σ (pc + 1) lv (.long x :: st)) : Go G M κ r σ' σ pc lv (st) := fun H locs ls hP hS hl => lv_lload_n C.1 C.2.1 hd rfl (hl.2.2 _ _ hx) (k H locs ls hP hS hl)
theorem g_lload (C : Cx G M κ) {i : Nat} {x : Int64} (hd : decode (Mc M) pc = .ok (.lload i, 2)) (hx : lg lv i = some (.long x)) (k : Go G M κ r σ' σ (pc + 2) lv (.long x :: st)) : Go G M κ r σ' σ pc lv (st) := fun H locs ls hP hS hl => lv_lload C.1 C.2.1 hd (hl.2.2 _ _ hx) (k H locs ls hP hS hl)
theorem g_aload_n (C : Cx G M κ) {i : Fin 4} {x : Nat} (hd : decode (Mc M) pc = .ok (.aload_n i, 1)) (hx : lg lv (i : Nat) = some (.ref x)) (k : Go G M κ r σ' σ (pc + 1) lv (.ref x :: st)) : Go G M κ r σ' σ pc lv (st) := fun H locs ls hP hS hl => lv_aload_n C.1 C.2.1 hd rfl (hl.2.2 _ _ hx) (k H locs ls hP hS hl)
theorem g_aload (C : Cx G M κ) {i : Nat} {x : Nat} (hd : decode (Mc M) pc = .ok (.aload i, 2)) (hx : lg lv i = some (.ref x)) (k : Go G M κ r σ' σ (pc + 2) lv (.ref x :: st)) : Go G M κ r σ' σ pc lv (st) := fun H locs ls hP hS hl => lv_aload C.1 C.2.1 hd (hl.2.2 _ _ hx) (k H locs ls hP hS hl)
theorem g_iadd (C : Cx G M κ) {x y : Int32} (hd : decode (Mc M) pc = .ok (.iadd, 1)) (k : Go G M κ r σ' σ (pc + 1) lv (.int (x + y) :: st)) : Go G M κ r σ' σ pc lv (.int y :: .int x :: st) := fun H locs ls hP hS hl => lv_iadd C.1 C.2.1 hd (k H locs ls hP hS hl)
theorem g_isub (C : Cx G M κ) {x y : Int32} (hd : decode (Mc M) pc = .ok (.isub, 1)) (k : Go G M κ r σ' σ (pc + 1) lv (.int (x - y) :: st)) : Go G M κ r σ' σ pc lv (.int y :: .int x :: st) := fun H locs ls hP hS hl => lv_isub C.1 C.2.1 hd (k H locs ls hP hS hl)
theorem g_imul (C : Cx G M κ) {x y : Int32} (hd : decode (Mc M) pc = .ok (.imul, 1)) (k : Go G M κ r σ' σ (pc + 1) lv (.int (x * y) :: st)) : Go G M κ r σ' σ pc lv (.int y :: .int x :: st) := fun H locs ls hP hS hl => lv_imul C.1 C.2.1 hd (k H locs ls hP hS hl)
theorem g_iand (C : Cx G M κ) {x y : Int32} (hd : decode (Mc M) pc = .ok (.iand, 1)) (k : Go G M κ r σ' σ (pc + 1) lv (.int (x &&& y) :: st)) : Go G M κ r σ' σ pc lv (.int y :: .int x :: st) := fun H locs ls hP hS hl => lv_iand C.1 C.2.1 hd (k H locs ls hP hS hl)
theorem g_ior (C : Cx G M κ) {x y : Int32} (hd : decode (Mc M) pc = .ok (.ior, 1)) (k : Go G M κ r σ' σ (pc + 1) lv (.int (x ||| y) :: st)) : Go G M κ r σ' σ pc lv (.int y :: .int x :: st) := fun H locs ls hP hS hl => lv_ior C.1 C.2.1 hd (k H locs ls hP hS hl)
theorem g_ixor (C : Cx G M κ) {x y : Int32} (hd : decode (Mc M) pc = .ok (.ixor, 1)) (k : Go G M κ r σ' σ (pc + 1) lv (.int (x ^^^ y) :: st)) : Go G M κ r σ' σ pc lv (.int y :: .int x :: st) := fun H locs ls hP hS hl => lv_ixor C.1 C.2.1 hd (k H locs ls hP hS hl)
theorem g_ishl (C : Cx G M κ) {x y : Int32} (hd : decode (Mc M) pc = .ok (.ishl, 1)) (k : Go G M κ r σ' σ (pc + 1) lv (.int (x <<< (y &&& 31)) :: st)) : Go G M κ r σ' σ pc lv (.int y :: .int x :: st) := fun H locs ls hP hS hl => lv_ishl C.1 C.2.1 hd (k H locs ls hP hS hl)
theorem g_ishr (C : Cx G M κ) {x y : Int32} (hd : decode (Mc M) pc = .ok (.ishr, 1)) (k : Go G M κ r σ' σ (pc + 1) lv (.int (x >>> (y &&& 31)) :: st)) : Go G M κ r σ' σ pc lv (.int y :: .int x :: st) := fun H locs ls hP hS hl => lv_ishr C.1 C.2.1 hd (k H locs ls hP hS hl)
theorem g_iushr (C : Cx G M κ) {x y : Int32} (hd : decode (Mc M) pc = .ok (.iushr, 1)) (k : Go G M κ r σ' σ (pc + 1) lv (.int ((x.toUInt32 >>> (y.toUInt32 &&& Int32.toUInt32 31)).toInt32) :: st)) : Go G M κ r σ' σ pc lv (.int y :: .int x :: st) := fun H locs ls hP hS hl => lv_iushr C.1 C.2.1 hd rfl (k H locs ls hP hS hl)
theorem g_idiv (C : Cx G M κ) {x y : Int32} (hd : decode (Mc M) pc = .ok (.idiv, 1)) (hne : ¬ y = 0) (k : Go G M κ r σ' σ (pc + 1) lv (.int (x / y) :: st)) : Go G M κ r σ' σ pc lv (.int y :: .int x :: st) := fun H locs ls hP hS hl => lv_idiv C.1 C.2.1 hd hne (k H locs ls hP hS hl)
theorem g_irem (C : Cx G M κ) {x y : Int32} (hd : decode (Mc M) pc = .ok (.irem, 1)) (hne : ¬ y = 0) (k : Go G M κ r σ' σ (pc + 1) lv (.int (x - x / y * y) :: st)) : Go G M κ r σ' σ pc lv (.int y :: .int x :: st) := fun H locs ls hP hS hl => lv_irem C.1 C.2.1 hd hne (k H locs ls hP hS hl)
theorem g_ladd (C : Cx G M κ) {x y : Int64} (hd : decode (Mc M) pc = .ok (.ladd, 1)) (k : Go G M κ r σ' σ (pc + 1) lv (.long (x + y) :: st)) : Go G M κ r σ' σ pc lv (.long y :: .long x :: st) := fun H locs ls hP hS hl => lv_ladd C.1 C.2.1 hd (k H locs ls hP hS hl)
theorem g_lsub (C : Cx G M κ) {x y : Int64} (hd : decode (Mc M) pc = .ok (.lsub, 1)) (k : Go G M κ r σ' σ (pc + 1) lv (.long (x - y) :: st)) : Go G M κ r σ' σ pc lv (.long y :: .long x :: st) := fun H locs ls hP hS hl => lv_lsub C.1 C.2.1 hd (k H locs ls hP hS hl)
theorem g_lmul (C : Cx G M κ) {x y : Int64} (hd : decode (Mc M) pc = .ok (.lmul, 1)) (k : Go G M κ r σ' σ (pc + 1) lv (.long (x * y) :: st)) : Go G M κ r σ' σ pc lv (.long y :: .long x :: st) := fun H locs ls hP hS hl => lv_lmul C.1 C.2.1 hd (k H locs ls hP hS hl)
theorem g_land (C : Cx G M κ) {x y : Int64} (hd : decode (Mc M) pc = .ok (.land, 1)) (k : Go G M κ r σ' σ (pc + 1) lv (.long (x &&& y) :: st)) : Go G M κ r σ' σ pc lv (.long y :: .long x :: st) := fun H locs ls hP hS hl => lv_land C.1 C.2.1 hd (k H locs ls hP hS hl)
theorem g_lor (C : Cx G M κ) {x y : Int64} (hd : decode (Mc M) pc = .ok (.lor, 1)) (k : Go G M κ r σ' σ (pc + 1) lv (.long (x ||| y) :: st)) : Go G M κ r σ' σ pc lv (.long y :: .long x :: st) := fun H locs ls hP hS hl => lv_lor C.1 C.2.1 hd (k H locs ls hP hS hl)
theorem g_lrem (C : Cx G M κ) {x y : Int64} (hd : decode (Mc M) pc = .ok (.lrem, 1)) (hne : ¬ y = 0) (k : Go G M κ r σ' σ (pc + 1) lv (.long (x - x / y * y) :: st)) : Go G M κ r σ' σ pc lv (.long y :: .long x :: st) := fun H locs ls hP hS hl => lv_lrem C.1 C.2.1 hd hne (k H locs ls hP hS hl)
theorem g_lcmp (C : Cx G M κ) {x y : Int64} (hd : decode (Mc M) pc = .ok (.lcmp, 1)) (k : Go G M κ r σ' σ (pc + 1) lv (.int (lg_cmp x y) :: st)) : Go G M κ r σ' σ pc lv (.long y :: .long x :: st) := fun H locs ls hP hS hl => W.lcmp C.1 C.2.1 hd (k H locs ls hP hS hl)
theorem g_lshl (C : Cx G M κ) {x : Int64} {y : Int32} (hd : decode (Mc M) pc = .ok (.lshl, 1)) (k : Go G M κ r σ' σ (pc + 1) lv (.long (x <<< (y.toInt64 &&& 63)) :: st)) : Go G M κ r σ' σ pc lv (.int y :: .long x :: st) := fun H locs ls hP hS hl => lv_lshl C.1 C.2.1 hd rfl (k H locs ls hP hS hl)
theorem g_lshr (C : Cx G M κ) {x : Int64} {y : Int32} (hd : decode (Mc M) pc = .ok (.lshr, 1)) (k : Go G M κ r σ' σ (pc + 1) lv (.long (x >>> (y.toInt64 &&& 63)) :: st)) : Go G M κ r σ' σ pc lv (.int y :: .long x :: st) := fun H locs ls hP hS hl => lv_lshr C.1 C.2.1 hd rfl (k H locs ls hP hS hl)
theorem g_lushr (C : Cx G M κ) {x : Int64} {y : Int32} (hd : decode (Mc M) pc = .ok (.lushr, 1)) (k : Go G M κ r σ' σ (pc + 1) lv (.long ((x.toUInt64 >>> (y.toInt64.toUInt64 &&& Int64.toUInt64 63)).toInt64) :: st)) : Go G M κ r σ' σ pc lv (.int y :: .long x :: st) := fun H locs ls hP hS hl => lv_lushr C.1 C.2.1 hd rfl (k H locs ls hP hS hl)
theorem g_i2l (C : Cx G M κ) {x : Int32} (hd : decode (Mc M) pc = .ok (.i2l, 1)) (k : Go G M κ r σ' σ (pc + 1) lv (.long x.toInt64 :: st)) : Go G M κ r σ' σ pc lv (.int x :: st) := fun H locs ls hP hS hl => lv_i2l C.1 C.2.1 hd rfl (k H locs ls hP hS hl)
theorem g_l2i (C : Cx G M κ) {x : Int64} (hd : decode (Mc M) pc = .ok (.l2i, 1)) (k : Go G M κ r σ' σ (pc + 1) lv (.int x.toInt32 :: st)) : Go G M κ r σ' σ pc lv (.long x :: st) := fun H locs ls hP hS hl => lv_l2i C.1 C.2.1 hd rfl (k H locs ls hP hS hl)
theorem g_i2b (C : Cx G M κ) {x : Int32} (hd : decode (Mc M) pc = .ok (.i2b, 1)) (k : Go G M κ r σ' σ (pc + 1) lv (.int x.toInt8.toInt32 :: st)) : Go G M κ r σ' σ pc lv (.int x :: st) := fun H locs ls hP hS hl => lv_i2b C.1 C.2.1 hd rfl (k H locs ls hP hS hl)
theorem g_dup (C : Cx G M κ) {va : Value} (hd : decode (Mc M) pc = .ok (.dup, 1)) (hc : va.category = 1) (k : Go G M κ r σ' σ (pc + 1) lv (va :: va :: st)) : Go G M κ r σ' σ pc lv (va :: st) := fun H locs ls hP hS hl => lv_dup C.1 C.2.1 hd hc (k H locs ls hP hS hl)
theorem g_pop (C : Cx G M κ) {va : Value} (hd : decode (Mc M) pc = .ok (.pop, 1)) (hc : va.category = 1) (k : Go G M κ r σ' σ (pc + 1) lv (st)) : Go G M κ r σ' σ pc lv (va :: st) := fun H locs ls hP hS hl => lv_pop C.1 C.2.1 hd hc (k H locs ls hP hS hl)
theorem g_dup2 (C : Cx G M κ) {va vb : Value} (hd : decode (Mc M) pc = .ok (.dup2, 1)) (hc : va.category = 1) (hc2 : vb.category = 1) (k : Go G M κ r σ' σ (pc + 1) lv (va :: vb :: va :: vb :: st)) : Go G M κ r σ' σ pc lv (va :: vb :: st) := fun H locs ls hP hS hl => lv_dup2_11 C.1 C.2.1 hd hc hc2 (k H locs ls hP hS hl)
theorem g_ldc (C : Cx G M κ) {ix : Nat} {v : Int32} (hd : decode (Mc M) pc = .ok (.ldc ix, 2)) (hw : Cond.constant (My M).cls ix v ∈ GW) (k : Go G M κ r σ' σ (pc + 2) lv (.int v :: st)) : Go G M κ r σ' σ pc lv (st) := fun H locs ls hP hS hl => lv_ldc C.1 C.2.1 C.2.2.2.2.1 (C.2.2.2.2.2.1 _ hw) hd (k H locs ls hP hS hl)
theorem g_ldc2 (C : Cx G M κ) {ix : Nat} {v : Int64} (hd : decode (Mc M) pc = .ok (.ldc2_w ix, 3)) (hw : Cond.constantLong (My M).cls ix v ∈ GW) (k : Go G M κ r σ' σ (pc + 3) lv (.long v :: st)) : Go G M κ r σ' σ pc lv (st) := fun H locs ls hP hS hl => lv_ldc2 C.1 C.2.1 C.2.2.2.2.1 (C.2.2.2.2.2.1 _ hw) hd (k H locs ls hP hS hl)
theorem g_if_eq (C : Cx G M κ) {x : Int32} {off : Int} (tgt : Nat) (hd : decode (Mc M) pc = .ok (.ifCond .eq off, 3)) (ht : (pc : Int) + off = (tgt : Int)) (kt : x = 0 → Go G M κ r σ' σ tgt lv st) (kf : ¬ (x = 0) → Go G M κ r σ' σ (pc + 3) lv st) : Go G M κ r σ' σ pc lv (.int x :: st) := fun H locs ls hP hS hl => lv_if_eq C.1 C.2.1 hd ht (fun h => kt (by simpa using h) H locs ls hP hS hl) (fun h => kf (by simpa using h) H locs ls hP hS hl)
theorem g_icmp_eq (C : Cx G M κ) {x y : Int32} {off : Int} (tgt : Nat) (hd : decode (Mc M) pc = .ok (.if_icmp .eq off, 3)) (ht : (pc : Int) + off = (tgt : Int)) (kt : x = y → Go G M κ r σ' σ tgt lv st) (kf : ¬ (x = y) → Go G M κ r σ' σ (pc + 3) lv st) : Go G M κ r σ' σ pc lv (.int y :: .int x :: st) := fun H locs ls hP hS hl => lv_icmp_eq C.1 C.2.1 hd ht (fun h => kt (by simpa using h) H locs ls hP hS hl) (fun h => kf (by simpa using h) H locs ls hP hS hl)
theorem g_if_ne (C : Cx G M κ) {x : Int32} {off : Int} (tgt : Nat) (hd : decode (Mc M) pc = .ok (.ifCond .ne off, 3)) (ht : (pc : Int) + off = (tgt : Int)) (kt : ¬ x = 0 → Go G M κ r σ' σ tgt lv st) (kf : ¬ (¬ x = 0) → Go G M κ r σ' σ (pc + 3) lv st) : Go G M κ r σ' σ pc lv (.int x :: st) := fun H locs ls hP hS hl => lv_if_ne C.1 C.2.1 hd ht (fun h => kt (by simpa using h) H locs ls hP hS hl) (fun h => kf (by simpa using h) H locs ls hP hS hl)
theorem g_icmp_ne (C : Cx G M κ) {x y : Int32} {off : Int} (tgt : Nat) (hd : decode (Mc M) pc = .ok (.if_icmp .ne off, 3)) (ht : (pc : Int) + off = (tgt : Int)) (kt : ¬ x = y → Go G M κ r σ' σ tgt lv st) (kf : ¬ (¬ x = y) → Go G M κ r σ' σ (pc + 3) lv st) : Go G M κ r σ' σ pc lv (.int y :: .int x :: st) := fun H locs ls hP hS hl => lv_icmp_ne C.1 C.2.1 hd ht (fun h => kt (by simpa using h) H locs ls hP hS hl) (fun h => kf (by simpa using h) H locs ls hP hS hl)
theorem g_if_lt (C : Cx G M κ) {x : Int32} {off : Int} (tgt : Nat) (hd : decode (Mc M) pc = .ok (.ifCond .lt off, 3)) (ht : (pc : Int) + off = (tgt : Int)) (kt : x < 0 → Go G M κ r σ' σ tgt lv st) (kf : ¬ (x < 0) → Go G M κ r σ' σ (pc + 3) lv st) : Go G M κ r σ' σ pc lv (.int x :: st) := fun H locs ls hP hS hl => lv_if_lt C.1 C.2.1 hd ht (fun h => kt (by simpa using h) H locs ls hP hS hl) (fun h => kf (by simpa using h) H locs ls hP hS hl)
theorem g_icmp_lt (C : Cx G M κ) {x y : Int32} {off : Int} (tgt : Nat) (hd : decode (Mc M) pc = .ok (.if_icmp .lt off, 3)) (ht : (pc : Int) + off = (tgt : Int)) (kt : x < y → Go G M κ r σ' σ tgt lv st) (kf : ¬ (x < y) → Go G M κ r σ' σ (pc + 3) lv st) : Go G M κ r σ' σ pc lv (.int y :: .int x :: st) := fun H locs ls hP hS hl => lv_icmp_lt C.1 C.2.1 hd ht (fun h => kt (by simpa using h) H locs ls hP hS hl) (fun h => kf (by simpa using h) H locs ls hP hS hl)
theorem g_if_ge (C : Cx G M κ) {x : Int32} {off : Int} (tgt : Nat) (hd : decode (Mc M) pc = .ok (.ifCond .ge off, 3)) (ht : (pc : Int) + off = (tgt : Int)) (kt : 0 ≤ x → Go G M κ r σ' σ tgt lv st) (kf : ¬ (0 ≤ x) → Go G M κ r σ' σ (pc + 3) lv st) : Go G M κ r σ' σ pc lv (.int x :: st) := fun H locs ls hP hS hl => lv_if_ge C.1 C.2.1 hd ht (fun h => kt (by simpa using h) H locs ls hP hS hl) (fun h => kf (by simpa using h) H locs ls hP hS hl)
theorem g_icmp_ge (C : Cx G M κ) {x y : Int32} {off : Int} (tgt : Nat) (hd : decode (Mc M) pc = .ok (.if_icmp .ge off, 3)) (ht : (pc : Int) + off = (tgt : Int)) (kt : y ≤ x → Go G M κ r σ' σ tgt lv st) (kf : ¬ (y ≤ x) → Go G M κ r σ' σ (pc + 3) lv st) : Go G M κ r σ' σ pc lv (.int y :: .int x :: st) := fun H locs ls hP hS hl => lv_icmp_ge C.1 C.2.1 hd ht (fun h => kt (by simpa using h) H locs ls hP hS hl) (fun h => kf (by simpa using h) H locs ls hP hS hl)
theorem g_if_gt (C : Cx G M κ) {x : Int32} {off : Int} (tgt : Nat) (hd : decode (Mc M) pc = .ok (.ifCond .gt off, 3)) (ht : (pc : Int) + off = (tgt : Int)) (kt : 0 < x → Go G M κ r σ' σ tgt lv st) (kf : ¬ (0 < x) → Go G M κ r σ' σ (pc + 3) lv st) : Go G M κ r σ' σ pc lv (.int x :: st) := fun H locs ls hP hS hl => lv_if_gt C.1 C.2.1 hd ht (fun h => kt (by simpa using h) H locs ls hP hS hl) (fun h => kf (by simpa using h) H locs ls hP hS hl)
theorem g_icmp_gt (C : Cx G M κ) {x y : Int32} {off : Int} (tgt : Nat) (hd : decode (Mc M) pc = .ok (.if_icmp .gt off, 3)) (ht : (pc : Int) + off = (tgt : Int)) (kt : y < x → Go G M κ r σ' σ tgt lv st) (kf : ¬ (y < x) → Go G M κ r σ' σ (pc + 3) lv st) : Go G M κ r σ' σ pc lv (.int y :: .int x :: st) := fun H locs ls hP hS hl => lv_icmp_gt C.1 C.2.1 hd ht (fun h => kt (by simpa using h) H locs ls hP hS hl) (fun h => kf (by simpa using h) H locs ls hP hS hl)
theorem g_if_le (C : Cx G M κ) {x : Int32} {off : Int} (tgt : Nat) (hd : decode (Mc M) pc = .ok (.ifCond .le off, 3)) (ht : (pc : Int) + off = (tgt : Int)) (kt : x ≤ 0 → Go G M κ r σ' σ tgt lv st) (kf : ¬ (x ≤ 0) → Go G M κ r σ' σ (pc + 3) lv st) : Go G M κ r σ' σ pc lv (.int x :: st) := fun H locs ls hP hS hl => lv_if_le C.1 C.2.1 hd ht (fun h => kt (by simpa using h) H locs ls hP hS hl) (fun h => kf (by simpa using h) H locs ls hP hS hl)
theorem g_icmp_le (C : Cx G M κ) {x y : Int32} {off : Int} (tgt : Nat) (hd : decode (Mc M) pc = .ok (.if_icmp .le off, 3)) (ht : (pc : Int) + off = (tgt : Int)) (kt : x ≤ y → Go G M κ r σ' σ tgt lv st) (kf : ¬ (x ≤ y) → Go G M κ r σ' σ (pc + 3) lv st) : Go G M κ r σ' σ pc lv (.int y :: .int x :: st) := fun H locs ls hP hS hl => lv_icmp_le C.1 C.2.1 hd ht (fun h => kt (by simpa using h) H locs ls hP hS hl) (fun h => kf (by simpa using h) H locs ls hP hS hl)
theorem g_goto (C : Cx G M κ) {off : Int} (tgt : Nat) (hd : decode (Mc M) pc = .ok (.goto off, 3)) (ht : (pc : Int) + off = (tgt : Int)) (k : Go G M κ r σ' σ tgt lv st) : Go G M κ r σ' σ pc lv st := fun H locs ls hP hS hl => lv_goto C.1 C.2.1 hd ht (k H locs ls hP hS hl)
end GO
