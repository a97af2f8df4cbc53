/-! the text that a new gate reads: String's own methods over it -/
def bytS : List Int32 := [116, 50, 44, 48, 59, 116, 50, 44, 49, 59, 112, 48, 48, 59, 112, 48, 49, 59, 112, 49, 49, 59]
def StrO (A : Nat → Prop) (a v : Nat) (f : Option Nat) (U : State) : Prop := va_O "java/lang/String" a A U U.heap ∧ va_OF "java/lang/String" "coder" "B" (.int 0) a A U U.heap ∧ va_OF "java/lang/String" "value" "[B" (.ref v) a A U U.heap ∧ va_T .byte v 22 (fun j => .int (bytS.getD j 0)) A U U.heap ∧ va_Z "java/lang/String" "COMPACT_STRINGS" "Z" (.int 1) A U U.heap ∧ va_Z "jdk/internal/util/Preconditions" "SIOOBE_FORMATTER" "Ljava/util/function/BiFunction;" (va_rf f) A U U.heap
theorem StrO.warm {A B : Nat → Prop} {a v : Nat} {f : Option Nat} {s U : State} {H : Heap} {locs : List Loc} (h : StrO A a v f s) (hU : U.heap = H) (hS : va_S A s.heap H locs) (hB : ∀ q, B q → A q) (hvm : s.vm.Alike U.vm) : StrO B a v f U := by
  obtain ⟨h1, h2, h3, h4, h5, h6⟩ := h
  have hk : ∀ a : Nat, a < s.heap.size → ¬ A a → H[a]? = s.heap[a]? := fun a g1 g2 => hS.2.1 a g1 g2
  refine ⟨?_, ?_, ?_, ?_, ?_, ?_⟩ <;> rw [hU]
  · exact ((h1.kept hk).narrow hB).moved hvm
  · exact ((h2.kept hk).narrow hB).moved hvm
  · exact ((h3.kept hk).narrow hB).moved hvm
  · exact ((h4.kept hk).narrow hB).moved hvm
  · exact ((h5.kept hk).narrow hB).moved hvm
  · exact ((h6.kept hk).narrow hB).moved hvm
abbrev zA (sz : Nat) : Nat → Prop := fun q => sz ≤ q
def PcS (D : va_G) (t : ClassId × ClassId × ClassId) (as : List Value) (sz a v : Nat) (f : Option Nat) : Array Value → State → Prop := va_Pc as (fun U => U.heap.size = sz ∧ va_K D vwCl (tyX t) U ∧ (∀ w ∈ nestW, va_Nw w U) ∧ StrO (zA sz) a v f U)
def QcS (r : Option Value) (sz : Nat) : Array Value → State → Outcome → State → Prop := fun _ st oc t => oc = .returned r ∧ va_F (zA sz) st t
def MtS (l : Launch) (D : va_G) (t : ClassId × ClassId × ClassId) (a v : Nat) (f : Option Nat) (N : MM) (as : List Value) (r : Option Value) : Prop := ∀ sz : Nat, Met l (My N) (wy N) (Mr N) (PcS D t as sz a v f) (QcS r sz) 0 0 (zA sz)
abbrev xS (M : MM) (l : Launch) (D : va_G) (t : ClassId × ClassId × ClassId) (sz : Nat) : XX := ((Mc M, Mn M, (My M).cls), l, Mr M, D, t, zA sz)
abbrev QsS (M : MM) (κ : KK) (r : Option Value) (sz : Nat) : State → Prop := MQ (kb κ) (QcS r sz) (ka κ) (ks κ) 0 0 (zA sz)
theorem MtS.of {l : Launch} {D : va_G} {t : ClassId × ClassId × ClassId} {a v : Nat} {f : Option Nat} {N : MM} {as : List Value} {r : Option Value} (hp : plainName (My N).cls = true) (hn : (lg_sl as).length ≤ Mn N) (body : ∀ (sz : Nat) (κ : KK), Cn (xS N l D t sz) κ → (kh κ).sig.returnType = Mt0 N → StrO (zA sz) a v f (ks κ) → Gn (xS N l D t sz) κ (QsS N κ r sz) (fun _ => True) 0 0 0 (lv_args 0 as) []) : MtS l D t a v f N as r := by
  intro sz
  refine Met.ofW (cc := Mc N) (maxL := Mn N) (ret := Mt0 N) hp rfl ?_
  intro p e s m args below meth c s₁ Bd hml hv
  obtain ⟨rfl, hsz, hK, hN, hE⟩ := hv
  have hts := atoms_spec (ws := wy N) Bd.pre
  have hl := lv_entry as (n := Mn N) hn
  rw [lg_entry_eq]
  exact body sz (p, e, s, m, as.toArray, below, meth, c) ⟨Bd.exec, Bd.bytes, hml, findClass_of_methodNamed Bd.named, fun w hw => hts w (List.mem_cons_of_mem _ hw), fun q hq => by rw [← hsz]; exact hq, hK, hN, Bd.notSynchronized⟩ Bd.returns hE s.heap [] _ trivial va_S.rf (Has.ofv hl)
section STRN
variable {X : XX} {κ : KK} {Q : State → Prop} {Φ : Heap → Prop} {cs sl : Nat} {pc : Nat} {lv : List (Nat × Value)} {st : List Value} {a v : Nat} {f : Option Nat}
theorem n_i2c (C : Cn X κ) {x : Int32} (hd : decode (xc X) pc = .ok (.i2c, 1)) (k : Gn X κ Q Φ cs sl (pc + 1) lv (.int (x.toUInt32 % 65536).toInt32 :: st)) : Gn X κ Q Φ cs sl pc lv (.int x :: st) := fun H locs ls hP hS hl => lv_i2c C.1 C.2.1 hd rfl (k H locs ls hP hS hl)
theorem n_sret {r : Option Value} {sz : Nat} {ty : FieldType} {z : Int32} (C : Cn X κ) (hr : (kh κ).sig.returnType = some ty) (hn : narrow ty (.int z) = .int z) (h1 : r = some (.int z)) (hA : xA X = zA sz) (hd : decode (xc X) pc = .ok (.ireturn, 1)) : Gn X κ (MQ (kb κ) (QcS r sz) (ka κ) (ks κ) cs sl (zA sz)) Φ cs sl pc lv [.int z] := fun H locs ls hP hS hl =>
  W.zret C.1 C.2.1 hr hn (fun t ht _ => ⟨by rw [h1], by rw [hA] at hS; exact hS.F ht⟩) (by rw [hA] at hS; exact hS.2.2) hd C.2.2.2.2.2.2.2.2
theorem n_sretv {sz : Nat} (C : Cn X κ) (hr : (kh κ).sig.returnType = none) (hA : xA X = zA sz) (hd : decode (xc X) pc = .ok (.return_, 1)) : Gn X κ (MQ (kb κ) (QcS none sz) (ka κ) (ks κ) cs sl (zA sz)) Φ cs sl pc lv [] := fun H locs ls hP hS hl =>
  W.vret C.1 C.2.1 hr (fun t ht _ => ⟨rfl, by rw [hA] at hS; exact hS.F ht⟩) (by rw [hA] at hS; exact hS.2.2) hd C.2.2.2.2.2.2.2.2
theorem n_stat (C : Cn X κ) {Cm n d : String} {ix : Nat} {z : Value} (hZ : va_Z Cm n d z (xA X) (ks κ) (ks κ).heap) (hd : decode (xc X) pc = .ok (.getstatic ix, 3)) (hw : Cond.fieldLink (xo X) ix Cm n d ∈ GW) (k : Gn X κ Q Φ cs sl (pc + 3) lv (z :: st)) : Gn X κ Q Φ cs sl pc lv st := fun H locs ls hP hS hl =>
  va_gets C.1 C.2.1 hZ hS C.own (C.ts _ hw) (fun _ h => h) hd (k H locs ls hP hS hl)
theorem n_fld (C : Cn X κ) {o n d : String} {ix : Nat} {z : Value} (hE : va_OF o n d z a (xA X) (ks κ) (ks κ).heap) (hd : decode (xc X) pc = .ok (.getfield ix, 3)) (hw : Cond.fieldLink (xo X) ix o n d ∈ GW) (k : Gn X κ Q Φ cs sl (pc + 3) lv (z :: st)) : Gn X κ Q Φ cs sl pc lv (.ref a :: st) := fun H locs ls hP hS hl =>
  vk_getf C.1 C.2.1 hE hS C.own (C.ts _ hw) (fun _ h => h) hd (k H locs ls hP hS hl)
theorem n_tlen (C : Cn X κ) {ty : FieldType} {n : Nat} {g : Nat → Value} (hT : va_T ty v n g (xA X) (ks κ) (ks κ).heap) (hd : decode (xc X) pc = .ok (.arraylength, 1)) (k : Gn X κ Q Φ cs sl (pc + 1) lv (.int (nI n) :: st)) : Gn X κ Q Φ cs sl pc lv (.ref v :: st) := fun H locs ls hP hS hl =>
  va_tlen C.1 C.2.1 hT hS rfl hd (k H locs ls hP hS hl)
theorem n_tb (C : Cn X κ) {n : Nat} {g : Nat → Value} {i : Int32} {z : Value} (hT : va_T .byte v n g (xA X) (ks κ) (ks κ).heap) (hin : vp_in i n) (hz : g i.toNatClampNeg = z) (hd : decode (xc X) pc = .ok (.baload, 1)) (k : Gn X κ Q Φ cs sl (pc + 1) lv (z :: st)) : Gn X κ Q Φ cs sl pc lv (.int i :: .ref v :: st) := fun H locs ls hP hS hl =>
  va_tb C.1 C.2.1 hT hS hin hz hd (k H locs ls hP hS hl)
/-- behind a call that changes nothing -/
theorem n_behindS {rest st0 : List Value} {r1 : Option Value} {ar : Array Value} (C : Cn X κ) (hrun : ∀ (H : Heap) (locs : List Loc) (ls : Array Slot), Φ H → va_S (xA X) (ks κ).heap H locs → Has ls (xn X) lv → va_Run (kp κ) (xl X) (ke κ) (xR X) (ks κ) (km κ) (ka κ) (kb κ) (kh κ) (kc κ) H locs cs sl 0 0 (F0 (km κ) pc ls st0) rest (QcS r1 H.size ar) (zA H.size)) (hΦ : ∀ H H1 : Heap, Φ H → H.size ≤ H1.size → (∀ q : Nat, q < H.size → H1[q]? = H[q]?) → Φ H1) (kk : Gn X κ Q Φ cs sl (pc + 3) lv (r1.toList ++ rest)) : Gn X κ Q Φ cs sl pc lv st0 := by
  intro H locs ls hP hS hl T hT XX'
  have hfr : ∀ q, zA H.size q → xA X q := fun q h => C.up q (Nat.le_trans hS.1 h)
  obtain ⟨w, st₀, t, T', L, g0, X', hL, e1, e2, ⟨hv, hz, hk⟩, stp⟩ := hrun H locs ls hP hS hl T hT XX'
  cases hv
  rw [g0] at hz hk
  have hk' : ∀ q : Nat, q < H.size → T'.heap[q]? = H[q]? := fun q h1 => by rw [e1]; exact hk q h1 (Nat.not_le.mpr h1)
  have hS' : va_S (xA X) (ks κ).heap T'.heap (locs ++ L) := ⟨Nat.le_trans hS.1 (by rw [e1]; exact hz), fun q h1 h2 => by
      rw [hk' q (Nat.lt_of_lt_of_le h1 hS.1)]
      exact hS.2.1 q h1 h2, fun q hq => by
      rcases List.mem_append.mp hq with h | h
      · exact hS.2.2 q h
      · exact hfr _ (hL q h)⟩
  obtain ⟨t2, a1, b1⟩ := kk T'.heap (locs ++ L) ls (hΦ H T'.heap hP (by rw [e1]; exact hz) hk') hS' hl T' rfl X'
  exact ⟨t2, stp t2 a1, b1⟩
theorem PcS.blind {D : va_G} {t : ClassId × ClassId × ClassId} {as : List Value} {sz : Nat} : FrameBlind (PcS D t as sz a v f) := by
  intro ar U g mk h
  obtain ⟨q0, q1, hK, hN, h5⟩ := h
  refine ⟨q0, q1, va_K.moved (u := U) (U := U.calling g mk ar) (Vm.Alike.refl U.vm) hK, fun w hw => nestW_same (s := U) (U := U.calling g mk ar) rfl hw (hN w hw), ?_⟩
  exact h5.warm (U := U.calling g mk ar) (H := U.heap) (locs := []) rfl va_S.rf (fun _ h => h) (Vm.Alike.refl U.vm)
theorem n_callVS (C : Cn X κ) {N : MM} {ix : Nat} {As rest : List Value} {r1 : Option Value} (hs : StrO (xA X) a v f (ks κ)) (hM : MtS (xl X) (xD X) (xT X) a v f N (.ref a :: As) r1) (hc : (My N).cls = "java/lang/String") (hd : decode (xc X) pc = .ok (.invokevirtual ix, 3)) (hcode : Cond.code (My N) (Mc N) (Mn N) (Mt0 N) ∈ GW) (hw : ∀ w ∈ ([.methodLink (xo X) ix (My N), .instanceMethod (My N), .selects (My N).cls (My N) (My N), .initialized (My N).cls] : List Cond), w ∈ GW) (hds : descOk N As.length) (hR : roomX (xR X) N) (hst : (rest.map fun v => v.category).sum ≤ 8) (hf : cs ≤ (xR X).cells ∧ sl ≤ (xR X).slots) (hΦ : ∀ H H1 : Heap, Φ H → H.size ≤ H1.size → (∀ q : Nat, q < H.size → H1[q]? = H[q]?) → Φ H1) (kk : Gn X κ Q Φ cs sl (pc + 3) lv (r1.toList ++ rest)) : Gn X κ Q Φ cs sl pc lv (As.reverse ++ .ref a :: rest) := by
  refine n_behindS (ar := (Value.ref a :: As).toArray) C (fun H locs ls hP hS hl => ?_) hΦ kk
  obtain ⟨cell, h1, h2, h3, -⟩ := hs.1.kept (H1 := H) (fun a g1 g2 => hS.2.1 a g1 g2)
  exact va_runV (C := (My N).cls) (As := As) (rest := rest) ⟨C.1, C.2.1, C.ml, C.own, C.ts⟩ (hM H.size) (cwV As.length C.ts (gw_good (by unfold wsV; exact fun w h => (List.mem_append.mp h).elim (hw w) (fun h => (wy_good hcode w h).1))) rfl rfl rfl ⟨rfl, hds⟩ hR) ⟨PcS.blind, ⟨cell, h1, h2, by rw [hc]; exact h3⟩, fun U hU hW => ⟨rfl, by rw [hU], va_K.moved hW.alike C.k, fun w hw => nestW_warm hW hw (C.nw w hw), hs.warm hU hS (fun q h => C.up q (Nat.le_trans hS.1 h)) hW.alike⟩⟩ rfl rfl hl.1 rfl (lv_room hst) hd ⟨hf.1, hf.2⟩
theorem n_callSS (C : Cn X κ) {N : MM} {ix : Nat} {As rest : List Value} {r1 : Option Value} (hs : StrO (xA X) a v f (ks κ)) (hM : MtS (xl X) (xD X) (xT X) a v f N As r1) (hd : decode (xc X) pc = .ok (.invokestatic ix, 3)) (hcode : Cond.code (My N) (Mc N) (Mn N) (Mt0 N) ∈ GW) (hw : ∀ w ∈ ([.methodLink (xo X) ix (My N), .static (My N), .initialized (My N).cls] : List Cond), w ∈ GW) (hds : descOk N As.length) (hR : roomX (xR X) N) (hst : (rest.map fun v => v.category).sum ≤ 8) (hf : cs ≤ (xR X).cells ∧ sl ≤ (xR X).slots) (hΦ : ∀ H H1 : Heap, Φ H → H.size ≤ H1.size → (∀ q : Nat, q < H.size → H1[q]? = H[q]?) → Φ H1) (kk : Gn X κ Q Φ cs sl (pc + 3) lv (r1.toList ++ rest)) : Gn X κ Q Φ cs sl pc lv (As.reverse ++ rest) := by
  refine n_behindS (ar := As.toArray) C (fun H locs ls hP hS hl => ?_) hΦ kk
  have h1 := C.ts _ (hw _ (List.mem_cons_self))
  have h2 := C.ts _ (hw _ (List.mem_cons_of_mem _ List.mem_cons_self))
  have h3 := C.ts _ (hw _ (List.mem_cons_of_mem _ (List.mem_cons_of_mem _ List.mem_cons_self)))
  exact va_runS (As := As) (rest := rest) ⟨C.1, C.2.1, C.ml, C.own, C.ts⟩ (hM H.size) ⟨callB_of As.length C.ts (wy_good hcode) rfl rfl rfl h3 h1 hds hR, h2⟩ ⟨PcS.blind, fun U hU hW => ⟨rfl, by rw [hU], va_K.moved hW.alike C.k, fun w hw => nestW_warm hW hw (C.nw w hw), hs.warm hU hS (fun q h => C.up q (Nat.le_trans hS.1 h)) hW.alike⟩⟩ rfl rfl hl.1 rfl (lv_room hst) hd ⟨hf.1, hf.2⟩
end STRN
