/-! cells made; constructors and calls in such frames -/
def PW (X : XX) (ws : va_W) (H : Heap) : Prop := va_P (xD X) vwCl ws H ∧ va_D (xA X) ws
def HoldX (A : Nat → Prop) (U : State) : Prop := ∃ t : Nat, va_Z "UnlikeGate$Strangers" "HOLDING" "[I" (.ref t) A U U.heap ∧ va_T .int t 5 holdV A U U.heap
section GN4
variable {X : XX} {κ : KK} {Q : State → Prop} {Φ : Heap → Prop} {cs sl : Nat} {pc : Nat} {lv : List (Nat × Value)} {st : List Value} {ws : va_W}
theorem n_new (C : Cn X κ) {ix ci n : Nat} {Cm : String} {T : u_T} {ty : Nat → FieldType} {fs : List Value} (hd : decode (xc X) pc = .ok (.new ix, 3)) (hc : vwCl[ci]? = some (Cm, T, n)) (hin : ∀ w ∈ u_ws Cm T n, w ∈ GW) (hty : ∀ k, k < n → parseFieldDescriptor (T k).2.2.1 = some (ty k)) (hcl : Cond.classLink (xo X) ix Cm ∈ GW) (hinst : Cond.instantiable Cm n ∈ GW) (hini : Cond.initialized Cm ∈ GW) (hfs : ∀ j, j < n → defaultValue (ty j) = vp_V fs j) (h1 : cs + 1 ≤ (xR X).cells) (h2 : sl + n ≤ (xR X).slots) (kk : ∀ q, Gn X κ Q (PW X (ws ++ [(q, .inr (ci, fs))])) (cs + 1) (sl + n) (pc + 3) lv (.ref q :: st)) : Gn X κ Q (PW X ws) cs sl pc lv st := fun H locs ls hP hS hl =>
  va_new C.1 C.2.1 C.ts hin ty hty C.own (C.ts _ hcl) (C.ts _ hinst) (C.ts _ hini) C.k hP.1 hP.2 hS C.up hc hfs h1 h2 hd (fun q H1 g1 g2 g3 => kk q H1 locs ls ⟨g1, g2⟩ g3 hl)
theorem n_newI (C : Cn X κ) {n : Nat} (hd : decode (xc X) pc = .ok (.newarray .int, 2)) (hn : n < 2 ^ 20) (h1 : cs + 1 ≤ (xR X).cells) (h2 : sl + n ≤ (xR X).slots) (hw : Cond.arrayClass .int ∈ GW) (kk : ∀ q, Gn X κ Q (PW X (ws ++ [(q, .inl ((xT X).2.1, n, .inl fun _ => 0))])) (cs + 1) (sl + n) (pc + 2) lv (.ref q :: st)) : Gn X κ Q (PW X ws) cs sl pc lv (.int (nI n) :: st) := fun H locs ls hP hS hl =>
  va_newa (a0 := (n, .inl fun _ => 0)) C.1 C.2.1 (atype := .int) (C.ts _ hw) rfl C.k hP.1 hP.2 hS C.up (fun _ => rfl) (nI_pos (by omega)) (nI_clamp (by omega)) (by show n * 4 ≤ _; omega) h1 h2 hd (fun q cA H1 g0 g1 g2 g3 => by
    have e : cA = (xT X).2.1 := by
      have a := (g0.2 3 (cA, .int) rfl).2
      have b := (g0.2 1 ((xT X).2.1, .int) rfl).2
      exact Option.some.inj (a.symm.trans b)
    subst e
    exact kk q H1 locs ls ⟨g1, g2⟩ g3 hl)
theorem n_newB (C : Cn X κ) {n : Nat} (hd : decode (xc X) pc = .ok (.newarray .byte, 2)) (hn : n < 2 ^ 20) (h1 : cs + 1 ≤ (xR X).cells) (h2 : sl + n ≤ (xR X).slots) (hw : Cond.arrayClass .byte ∈ GW) (kk : ∀ q, Gn X κ Q (PW X (ws ++ [(q, .inl ((xT X).1, n, .inl fun _ => 0))])) (cs + 1) (sl + n) (pc + 2) lv (.ref q :: st)) : Gn X κ Q (PW X ws) cs sl pc lv (.int (nI n) :: st) := fun H locs ls hP hS hl =>
  va_newa (a0 := (n, .inl fun _ => 0)) C.1 C.2.1 (atype := .byte) (C.ts _ hw) rfl C.k hP.1 hP.2 hS C.up (fun _ => rfl) (nI_pos (by omega)) (nI_clamp (by omega)) (by show n * 1 ≤ _; omega) h1 h2 hd (fun q cA H1 g0 g1 g2 g3 => by
    have e : cA = (xT X).1 := by
      have a := (g0.2 3 (cA, .byte) rfl).2
      have b := (g0.2 0 ((xT X).1, .byte) rfl).2
      exact Option.some.inj (a.symm.trans b)
    subst e
    exact kk q H1 locs ls ⟨g1, g2⟩ g3 hl)
theorem n_newJ (C : Cn X κ) {n : Nat} (hd : decode (xc X) pc = .ok (.newarray .long, 2)) (hn : n < 2 ^ 20) (h1 : cs + 1 ≤ (xR X).cells) (h2 : sl + n ≤ (xR X).slots) (hw : Cond.arrayClass .long ∈ GW) (kk : ∀ q, Gn X κ Q (PW X (ws ++ [(q, .inl ((xT X).2.2, n, .inr (.inl fun _ => 0)))])) (cs + 1) (sl + n) (pc + 2) lv (.ref q :: st)) : Gn X κ Q (PW X ws) cs sl pc lv (.int (nI n) :: st) := fun H locs ls hP hS hl =>
  va_newa (a0 := (n, .inr (.inl fun _ => 0))) C.1 C.2.1 (atype := .long) (C.ts _ hw) rfl C.k hP.1 hP.2 hS C.up (fun _ => rfl) (nI_pos (by omega)) (nI_clamp (by omega)) (by show n * 8 ≤ _; omega) h1 h2 hd (fun q cA H1 g0 g1 g2 g3 => by
    have e : cA = (xT X).2.2 := by
      have a := (g0.2 3 (cA, .long) rfl).2
      have b := (g0.2 2 ((xT X).2.2, .long) rfl).2
      exact Option.some.inj (a.symm.trans b)
    subst e
    exact kk q H1 locs ls ⟨g1, g2⟩ g3 hl)
theorem n_getf (C : Cn X κ) {ix ci k n i a : Nat} {Cm : String} {T : u_T} {fs : List Value} {v : Value} (hP0 : ∀ H, Φ H → va_P (xD X) vwCl ws H) (hd : decode (xc X) pc = .ok (.getfield ix, 3)) (hc : vwCl[ci]? = some (Cm, T, n)) (hin : ∀ w ∈ u_ws Cm T n, w ∈ GW) (hk : k < n) (hw : Cond.fieldLink (xo X) ix (T k).1 (T k).2.1 (T k).2.2.1 ∈ GW) (hσ : ws[i]? = some (a, .inr (ci, fs))) (hv : fs[k]? = some v) (kk : Gn X κ Q Φ cs sl (pc + 3) lv (v :: st)) : Gn X κ Q Φ cs sl pc lv (.ref a :: st) := fun H locs ls hP hS hl =>
  va_get (D := xD X) (ci := ci) (v := v) (C := Cm) (T := T) (N := n) C.1 C.2.1 C.ts hin C.own C.k (hP0 H hP) i hσ hc k hk (C.ts _ hw) (fun _ h => h) hv hd (kk H locs ls hP hS hl)
theorem n_putF (C : Cn X κ) {ix ci k n i a : Nat} {Cm : String} {T : u_T} {ty0 : Nat → FieldType} {ty : FieldType} {fs : List Value} {v : Value} (hd : decode (xc X) pc = .ok (.putfield ix, 3)) (hc : vwCl[ci]? = some (Cm, T, n)) (hin : ∀ w ∈ u_ws Cm T n, w ∈ GW) (hty : ∀ k, k < n → parseFieldDescriptor (T k).2.2.1 = some (ty0 k)) (hnm : ∀ a, a < n → ∀ b, b < n → a ≠ b → (T a).2.1 ≠ (T b).2.1) (hk : k < n) (hw : Cond.fieldLink (xo X) ix (T k).1 (T k).2.1 (T k).2.2.1 ∈ GW) (hfin : (T k).2.2.2 = true) (hin2 : (kh κ).name = "<init>") (hdecl : (T k).1 = xo X) (hpd : parseFieldDescriptor (T k).2.2.1 = some ty) (hσ : ws[i]? = some (a, .inr (ci, fs))) (hn : narrow ty v = v) (hfit : fits ty v = true) (hl0 : k < fs.length) (kk : Gn X κ Q (PW X (ws.set i (a, .inr (ci, fs.set k v)))) cs sl (pc + 3) lv st) : Gn X κ Q (PW X ws) cs sl pc lv (v :: .ref a :: st) := fun H locs ls hP hS hl =>
  va_putF (D := xD X) (ci := ci) (v := v) (C := Cm) (T := T) (N := n) C.1 C.2.1 C.ts hin ty0 hty hnm C.own C.k hP.1 hP.2 hS i hσ hc k hk (C.ts _ hw) (fun _ h => h) hfin hin2 hdecl hpd hn hfit hl0 hd (fun H1 locs1 h1 h2 h3 => kk H1 locs1 ls ⟨h1, h2⟩ h3 hl)
theorem n_put (C : Cn X κ) {ix ci k n i a : Nat} {Cm : String} {T : u_T} {ty0 : Nat → FieldType} {ty : FieldType} {fs : List Value} {v : Value} (hd : decode (xc X) pc = .ok (.putfield ix, 3)) (hc : vwCl[ci]? = some (Cm, T, n)) (hin : ∀ w ∈ u_ws Cm T n, w ∈ GW) (hty : ∀ k, k < n → parseFieldDescriptor (T k).2.2.1 = some (ty0 k)) (hnm : ∀ a, a < n → ∀ b, b < n → a ≠ b → (T a).2.1 ≠ (T b).2.1) (hk : k < n) (hw : Cond.fieldLink (xo X) ix (T k).1 (T k).2.1 (T k).2.2.1 ∈ GW) (hfin : (T k).2.2.2 = false) (hpd : parseFieldDescriptor (T k).2.2.1 = some ty) (hσ : ws[i]? = some (a, .inr (ci, fs))) (hn : narrow ty v = v) (hfit : fits ty v = true) (hl0 : k < fs.length) (kk : Gn X κ Q (PW X (ws.set i (a, .inr (ci, fs.set k v)))) cs sl (pc + 3) lv st) : Gn X κ Q (PW X ws) cs sl pc lv (v :: .ref a :: st) := fun H locs ls hP hS hl =>
  va_put (D := xD X) (ci := ci) (v := v) (C := Cm) (T := T) (N := n) C.1 C.2.1 C.ts hin ty0 hty hnm C.own C.k hP.1 hP.2 hS i hσ hc k hk (C.ts _ hw) (fun _ h => h) hfin hpd hn hfit hl0 hd (fun H1 locs1 h1 h2 h3 => kk H1 locs1 ls ⟨h1, h2⟩ h3 hl)
theorem n_iast (C : Cn X κ) {i n a : Nat} {f : Nat → Int32} {j x : Int32} (hd : decode (xc X) pc = .ok (.iastore, 1)) (hσ : ws[i]? = some (a, .inl ((xT X).2.1, n, .inl f))) (hj : vp_in j n) (kk : Gn X κ Q (PW X (ws.set i (a, .inl ((xT X).2.1, n, .inl (upd f j.toNatClampNeg x))))) cs sl (pc + 1) lv st) : Gn X κ Q (PW X ws) cs sl pc lv (.int x :: .int j :: .ref a :: st) := fun H locs ls hP hS hl =>
  va_iast C.1 C.2.1 C.k hP.1 hP.2 hS i 1 hσ rfl hj hd (fun H1 locs1 h1 h2 h3 => kk H1 locs1 ls ⟨h1, h2⟩ h3 hl)
theorem n_obj (C : Cn X κ) {ix a : Nat} (hd : decode (xc X) pc = .ok (.invokespecial ix, 3)) (hw : Cond.methodLink (xo X) ix Lib.objectInit ∈ GW) (hi : Cond.instanceMethod Lib.objectInit ∈ GW) (hc : Cond.code Lib.objectInit ⟨#[0xb1]⟩ 1 none ∈ GW) (hf : 1 ≤ (xR X).frames) (hlo : (st.map fun v => v.category).sum + 12 ≤ (xR X).locals) (kk : Gn X κ Q Φ cs sl (pc + 3) lv st) : Gn X κ Q Φ cs sl pc lv (.ref a :: st) := fun H locs ls hP hS hl =>
  W.objInit C.1 C.2.1 C.own (C.ts _ hw) (C.ts _ hi) (C.ts _ hc) rfl (by rw [C.ml]; exact hl.1) rfl hd hf (by show 2 * 0 + _ + 12 ≤ _; omega) (W.eq (g2 := F0 (km κ) (pc + 3) ls st) rfl (kk H locs ls hP hS hl))
end GN4
/-- what a constructor needs and leaves -/
def PcN (D : va_G) (t : ClassId × ClassId × ClassId) (h0 : Nat) (e0 : va_E) (sz : Nat) (E : State → Prop) : Array Value → State → Prop := va_Pc [.ref h0] (fun U => U.heap.size = sz ∧ va_P D vwCl [(h0, e0)] U.heap ∧ va_K D vwCl (tyX t) U ∧ (∀ w ∈ nestW, va_Nw w U) ∧ E U)
def QcN (B : Heap → Prop) (A : Nat → Prop) : Array Value → State → Outcome → State → Prop := fun _ st oc t => (oc = .returned none ∧ B t.heap) ∧ va_F A st t
abbrev rmC (M : MM) (mc ms : Nat) : Room := { frames := M.2.2.2.2.1, cells := mc, slots := ms, locals := M.2.2.2.2.2 }
def MI (l : Launch) (D : va_G) (t : ClassId × ClassId × ClassId) (M : MM) (e0 : va_E) (B : Nat → Nat → Heap → Prop) (mc ms : Nat) (E : Nat → Nat → State → Prop) : Prop := ∀ h0 sz : Nat, Met l (My M) (wy M) (rmC M mc ms) (PcN D t h0 e0 sz (E h0 sz)) (QcN (B h0 sz) (va_A [(h0, e0)] sz)) mc ms (va_A [(h0, e0)] sz)
abbrev xM (M : MM) (l : Launch) (D : va_G) (t : ClassId × ClassId × ClassId) (A : Nat → Prop) (mc ms : Nat) : XX := ((Mc M, Mn M, (My M).cls), l, rmC M mc ms, D, t, A)
theorem MI.of {l : Launch} {D : va_G} {t : ClassId × ClassId × ClassId} {M : MM} {e0 : va_E} {B : Nat → Nat → Heap → Prop} {mc ms : Nat} {E : Nat → Nat → State → Prop} (hp : plainName (My M).cls = true) (hi : (My M).name = "<init>") (h0n : Mt0 M = none) (hn : 1 ≤ Mn M) (body : ∀ (h0 sz : Nat) (κ : KK), Cn (xM M l D t (va_A [(h0, e0)] sz) mc ms) κ → (kh κ).name = "<init>" → (kh κ).sig.returnType = none → (ks κ).heap.size = sz → E h0 sz (ks κ) → Gn (xM M l D t (va_A [(h0, e0)] sz) mc ms) κ (MQ (kb κ) (QcN (B h0 sz) (va_A [(h0, e0)] sz)) (ka κ) (ks κ) mc ms (va_A [(h0, e0)] sz)) (PW (xM M l D t (va_A [(h0, e0)] sz) mc ms) [(h0, e0)]) 0 0 0 [(0, .ref h0)] []) : MI l D t M e0 B mc ms E := by
  intro h0 sz
  refine Met.ofW (cc := Mc M) (maxL := Mn M) (ret := Mt0 M) hp rfl ?_
  intro p e s m args below meth c s₁ Bd hml hv
  obtain ⟨rfl, hsz, hP, hK, hN, hE⟩ := hv
  have hts := atoms_spec (ws := wy M) Bd.pre
  have hl := lv_entry ([.ref h0]) (n := Mn M) hn
  have hin : meth.name = "<init>" := (name_of_methodNamed Bd.named Bd.method).1.trans hi
  rw [lg_entry_eq]
  refine body h0 sz (p, e, s, m, ([.ref h0] : List Value).toArray, below, meth, c) ⟨Bd.exec, Bd.bytes, hml, findClass_of_methodNamed Bd.named, fun w hw => hts w (List.mem_cons_of_mem _ hw), fun q hq => Or.inr (by rw [← hsz]; exact hq), hK, hN, Bd.notSynchronized⟩ hin (Bd.returns.trans h0n) hsz hE s.heap [] _ ⟨hP, ?_⟩ va_S.rf (Has.ofv hl)
  refine ⟨fun i j p q h1 h2 _ => ?_, fun k q hk => va_A.in hk⟩
  have a : i < 1 := (List.getElem?_eq_some_iff.mp h1).1
  have b : j < 1 := (List.getElem?_eq_some_iff.mp h2).1
  omega
section GN5
variable {X : XX} {κ : KK} {Q : State → Prop} {Φ Φ1 : Heap → Prop} {cs sl : Nat} {pc : Nat} {lv : List (Nat × Value)} {st : List Value} {ws : va_W}
theorem n_vret {B : Heap → Prop} (C : Cn X κ) (hr : (kh κ).sig.returnType = none) (hB : ∀ H, Φ H → B H) (hd : decode (xc X) pc = .ok (.return_, 1)) : Gn X κ (MQ (kb κ) (QcN B (xA X)) (ka κ) (ks κ) cs sl (xA X)) Φ cs sl pc lv [] := fun H locs ls hP hS hl =>
  W.vret C.1 C.2.1 hr (fun t ht _ => ⟨⟨rfl, by rw [ht]; exact hB H hP⟩, hS.F ht⟩) hS.2.2 hd C.2.2.2.2.2.2.2.2
theorem join1 {A0 : Nat → Prop} {D : va_G} {ws w1 : va_W} {q0 : Nat × va_E} {H H1 : Heap} (hP : va_P D vwCl (ws ++ [q0]) H) (hD : va_D A0 (ws ++ [q0])) (hk : ∀ q : Nat, q < H.size → ¬ va_A [q0] H.size q → H1[q]? = H[q]?) (hup : ∀ q, H.size ≤ q → A0 q) (hP1 : va_P D vwCl w1 H1) (hD1 : va_D (va_A [q0] H.size) w1) : va_P D vwCl (ws ++ w1) H1 ∧ va_D A0 (ws ++ w1) := by
  have hw : ∀ (k : Nat) (q : Nat × va_E), ws[k]? = some q → (ws ++ [q0])[k]? = some q := fun k q hq => by
    rw [List.getElem?_append_left (List.getElem?_eq_some_iff.mp hq).1]; exact hq
  have hlast : (ws ++ [q0])[ws.length]? = some q0 := by simp
  have apart : ∀ (k : Nat) (q : Nat × va_E), ws[k]? = some q → q.1 < H.size ∧ ¬ va_A [q0] H.size q.1 := by
    intro k q hq
    have hlt := (hP k q (hw k q hq)).lt
    refine ⟨hlt, fun h => ?_⟩
    rcases h with ⟨k2, e, h⟩ | h
    · have hk2 : k2 < 1 := (List.getElem?_eq_some_iff.mp h).1
      rw [show k2 = 0 by omega] at h
      have h : q0 = (q.1, e) := Option.some.inj h
      have := hD.1 k ws.length q q0 (hw k q hq) hlast (by rw [h])
      have := (List.getElem?_eq_some_iff.mp hq).1
      omega
    · omega
  refine ⟨va_P.app (fun k q hq => ?_) hP1, va_D.app ⟨fun i j p q h1 h2 h3 => hD.1 i j p q (hw i p h1) (hw j q h2) h3, fun k q hq => hD.2 k q (hw k q hq)⟩ (hD1.weaken (fun k q _ h => ?_)) (fun i j x y hx hy hxy => ?_)⟩
  · obtain ⟨g1, g2⟩ := apart k q hq
    exact (hP k q (hw k q hq)).kept (hk q.1 g1 g2)
  · rcases h with ⟨k2, e, h⟩ | h
    · have hk2 : k2 < 1 := (List.getElem?_eq_some_iff.mp h).1
      rw [show k2 = 0 by omega] at h
      have h : q0 = (q.1, e) := Option.some.inj h
      have := hD.2 ws.length q0 hlast
      rw [h] at this
      exact this
    · exact hup _ h
  · exact (apart i x hx).2 (by rw [hxy]; exact hD1.2 j y hy)
/-- behind a constructor's call -/
theorem n_behindI {h0 : Nat} {e0 : va_E} {rest : List Value} {B : Nat → Heap → Prop} {mc ms : Nat} {a : Array Value} (C : Cn X κ) (hrun : ∀ (H : Heap) (locs : List Loc) (ls : Array Slot), PW X (ws ++ [(h0, e0)]) H → va_S (xA X) (ks κ).heap H locs → Has ls (xn X) lv → va_Run (kp κ) (xl X) (ke κ) (xR X) (ks κ) (km κ) (ka κ) (kb κ) (kh κ) (kc κ) H locs cs sl mc ms (F0 (km κ) pc ls (.ref h0 :: rest)) rest (QcN (B H.size) (va_A [(h0, e0)] H.size) a) (va_A [(h0, e0)] H.size)) (hB : ∀ H H1, PW X (ws ++ [(h0, e0)]) H → (∀ q, H.size ≤ q → xA X q) → (∀ q : Nat, q < H.size → ¬ va_A [(h0, e0)] H.size q → H1[q]? = H[q]?) → B H.size H1 → Φ1 H1) (kk : Gn X κ Q Φ1 (cs + mc) (sl + ms) (pc + 3) lv rest) : Gn X κ Q (PW X (ws ++ [(h0, e0)])) cs sl pc lv (.ref h0 :: rest) := by
  intro H locs ls hP hS hl T hT XX'
  have hup : ∀ q, H.size ≤ q → xA X q := fun q hq => C.up q (Nat.le_trans hS.1 hq)
  have hfr : ∀ q, va_A [(h0, e0)] H.size q → xA X q := by
    intro q h
    rcases h with ⟨k2, e, h⟩ | h
    · have hk2 : k2 < 1 := (List.getElem?_eq_some_iff.mp h).1
      rw [show k2 = 0 by omega] at h
      have h : (h0, e0) = (q, e) := Option.some.inj h
      have := hP.2.2 ws.length (h0, e0) (by simp)
      rw [h] at this
      exact this
    · exact hup q h
  obtain ⟨v, st₀, t, T', L, g0, X', hL, e1, e2, ⟨⟨hv, hB1⟩, hz, hk⟩, stp⟩ := hrun H locs ls hP hS hl T hT XX'
  cases hv
  rw [g0] at hz hk
  have hS' : va_S (xA X) (ks κ).heap T'.heap (locs ++ L) := ⟨Nat.le_trans hS.1 (by rw [e1]; exact hz), fun q h1 h2 => by
      rw [e1, hk q (Nat.lt_of_lt_of_le h1 hS.1) (fun z => h2 (hfr q z))]
      exact hS.2.1 q h1 h2, fun q hq => by
      rcases List.mem_append.mp hq with h | h
      · exact hS.2.2 q h
      · exact hfr _ (hL q h)⟩
  obtain ⟨t2, a1, b1⟩ := kk T'.heap (locs ++ L) ls (hB H T'.heap hP hup (fun q h1 h2 => by rw [e1]; exact hk q h1 h2) (by rw [e1]; exact hB1)) hS' hl T' rfl X'
  exact ⟨t2, stp t2 a1, b1⟩
def roomX (R : Room) (N : MM) : Prop := N.2.2.2.2.1 + 1 ≤ R.frames ∧ 8 + (Mn N + 11) + N.2.2.2.2.2 ≤ R.locals
theorem PcN.blind {D : va_G} {t : ClassId × ClassId × ClassId} {h0 sz : Nat} {e0 : va_E} {E : State → Prop} (hE : ∀ U g mk a, E U → E (U.calling g mk a)) : FrameBlind (PcN D t h0 e0 sz E) := by
  intro a U g mk h
  obtain ⟨q0, q1, q2, hK, hN, h5⟩ := h
  exact ⟨q0, q1, q2, va_K.moved (u := U) (U := U.calling g mk a) (Vm.Alike.refl U.vm) hK, fun w hw => nestW_same (s := U) (U := U.calling g mk a) rfl hw (hN w hw), hE U g mk a h5⟩
theorem n_callIN (C : Cn X κ) {N : MM} {ix h0 : Nat} {host : String} {e0 : va_E} {rest : List Value} {B : Nat → Nat → Heap → Prop} {mc ms : Nat} {E : Nat → Nat → State → Prop} (hM : MI (xl X) (xD X) (xT X) N e0 B mc ms E) (hEb : ∀ h0 sz U g mk a, E h0 sz U → E h0 sz (U.calling g mk a)) (hE : ∀ H locs U, PW X (ws ++ [(h0, e0)]) H → va_S (xA X) (ks κ).heap H locs → U.heap = H → (ks κ).WarmedH U.vm → E h0 H.size U) (hd : decode (xc X) pc = .ok (.invokespecial ix, 3)) (hcode : Cond.code (My N) (Mc N) (Mn N) none ∈ GW) (h0n : Mt0 N = none) (hn : Cond.methodLinkNest (xo X) ix (My N) host ∈ nestW) (hini : Cond.initialized (My N).cls ∈ GW) (hinst : Cond.instanceMethod (My N) ∈ GW) (hnm : (My N).name = "<init>") (hds : descOk N 0) (hR : roomX (xR X) N) (hst : (rest.map fun v => v.category).sum ≤ 8) (h1 : cs + mc ≤ (xR X).cells) (h2 : sl + ms ≤ (xR X).slots) (hB : ∀ H H1, PW X (ws ++ [(h0, e0)]) H → (∀ q, H.size ≤ q → xA X q) → (∀ q : Nat, q < H.size → ¬ va_A [(h0, e0)] H.size q → H1[q]? = H[q]?) → B h0 H.size H1 → Φ1 H1) (kk : Gn X κ Q Φ1 (cs + mc) (sl + ms) (pc + 3) lv rest) : Gn X κ Q (PW X (ws ++ [(h0, e0)])) cs sl pc lv (.ref h0 :: rest) := by
  refine n_behindI (Φ1 := Φ1) (B := B h0) (mc := mc) (ms := ms) (a := ([.ref h0] : List Value).toArray) C (ws := ws) (fun H locs ls hP hS hl => ?_) hB kk
  have hwy : wy N = Cond.code (My N) (Mc N) (Mn N) none :: GW := by unfold wy; rw [h0n]
  exact va_runIN (As := []) (rest := rest) ⟨C.1, C.2.1, C.ml, C.own, C.ts⟩ (hM h0 H.size) ⟨va_cnB 0 C.ts (wy_good (by rw [h0n]; exact hcode)) hwy rfl rfl (C.nw _ hn) (C.ts _ hini) hds hR, hnm, C.ts _ hinst⟩ ⟨PcN.blind (hEb h0 H.size), fun U hU hW => ⟨rfl, by rw [hU], by rw [hU]; exact fun k q hk => hP.1 (ws.length + k) q (by rw [List.getElem?_append_right (by omega), Nat.add_sub_cancel_left]; exact hk), va_K.moved hW.alike C.k, fun w hw => nestW_warm hW hw (C.nw w hw), hE H locs U hP hS hU hW⟩⟩ rfl rfl hl.1 rfl (lv_room hst) hd ⟨h1, h2⟩
theorem n_callI (C : Cn X κ) {N : MM} {ix h0 : Nat} {e0 : va_E} {rest : List Value} {B : Nat → Nat → Heap → Prop} {mc ms : Nat} {E : Nat → Nat → State → Prop} (hM : MI (xl X) (xD X) (xT X) N e0 B mc ms E) (hEb : ∀ h0 sz U g mk a, E h0 sz U → E h0 sz (U.calling g mk a)) (hE : ∀ H locs U, PW X (ws ++ [(h0, e0)]) H → va_S (xA X) (ks κ).heap H locs → U.heap = H → (ks κ).WarmedH U.vm → E h0 H.size U) (hd : decode (xc X) pc = .ok (.invokespecial ix, 3)) (hcode : Cond.code (My N) (Mc N) (Mn N) none ∈ GW) (h0n : Mt0 N = none) (hn : Cond.methodLink (xo X) ix (My N) ∈ GW) (hini : Cond.initialized (My N).cls ∈ GW) (hinst : Cond.instanceMethod (My N) ∈ GW) (hnm : (My N).name = "<init>") (hds : descOk N 0) (hR : roomX (xR X) N) (hst : (rest.map fun v => v.category).sum ≤ 8) (h1 : cs + mc ≤ (xR X).cells) (h2 : sl + ms ≤ (xR X).slots) (hB : ∀ H H1, PW X (ws ++ [(h0, e0)]) H → (∀ q, H.size ≤ q → xA X q) → (∀ q : Nat, q < H.size → ¬ va_A [(h0, e0)] H.size q → H1[q]? = H[q]?) → B h0 H.size H1 → Φ1 H1) (kk : Gn X κ Q Φ1 (cs + mc) (sl + ms) (pc + 3) lv rest) : Gn X κ Q (PW X (ws ++ [(h0, e0)])) cs sl pc lv (.ref h0 :: rest) := by
  refine n_behindI (Φ1 := Φ1) (B := B h0) (mc := mc) (ms := ms) (a := ([.ref h0] : List Value).toArray) C (ws := ws) (fun H locs ls hP hS hl => ?_) hB kk
  have hwy : wy N = Cond.code (My N) (Mc N) (Mn N) none :: GW := by unfold wy; rw [h0n]
  exact va_runI (As := []) (rest := rest) ⟨C.1, C.2.1, C.ml, C.own, C.ts⟩ (hM h0 H.size) ⟨callB_of 0 C.ts (wy_good (by rw [h0n]; exact hcode)) hwy rfl rfl (C.ts _ hini) (C.ts _ hn) hds hR, hnm, C.ts _ hinst⟩ ⟨PcN.blind (hEb h0 H.size), fun U hU hW => ⟨rfl, by rw [hU], by rw [hU]; exact fun k q hk => hP.1 (ws.length + k) q (by rw [List.getElem?_append_right (by omega), Nat.add_sub_cancel_left]; exact hk), va_K.moved hW.alike C.k, fun w hw => nestW_warm hW hw (C.nw w hw), hE H locs U hP hS hU hW⟩⟩ rfl rfl hl.1 rfl (lv_room hst) hd ⟨h1, h2⟩
/-- the frame rule for a method over the world of G -/
def GX (X : XX) (G : GG) : Prop := gl G = xl X ∧ gD G = xD X ∧ tys3 G = tyX (xT X) ∧ Inj G ∧ ∀ i, i < gN G → xA X (ga G i)
theorem okX {G : GG} {H : Heap} {locs : List Loc} {U : State} (C : Cn X κ) (hG : GX X G) (hh : HoldX (xA X) (ks κ)) (hS : va_S (xA X) (ks κ).heap H locs) (hU : U.heap = H) (hW : (ks κ).WarmedH U.vm) : Ok G U := by
  obtain ⟨g1, g2, g3, g4, g5⟩ := hG
  obtain ⟨t, hZ, hT⟩ := hh
  have hA : ∀ q, AA G H.size q → xA X q := fun q h => by
    rcases h with ⟨i, h1, h2⟩ | h
    · rw [h2]; exact g5 i h1
    · exact C.up q (Nat.le_trans hS.1 h)
  refine ⟨by rw [g2, g3]; exact va_K.moved hW.alike C.k, fun w hw => nestW_warm hW hw (C.nw w hw), g4, t, ?_, ?_⟩
  · rw [hU]
    exact ((hZ.kept (H1 := H) (fun a h1 h2 => hS.2.1 a h1 h2)).narrow hA).moved hW.alike
  · rw [hU]
    exact ((hT.kept (H1 := H) (fun a h1 h2 => hS.2.1 a h1 h2)).narrow hA).moved hW.alike
theorem n_behind {G : GG} {σ1 : WW} {rest st0 : List Value} {r1 : Option Value} {a : Array Value} (C : Cn X κ) (hG : GX X G) (hrun : ∀ (H : Heap) (locs : List Loc) (ls : Array Slot), Φ H → va_S (xA X) (ks κ).heap H locs → Has ls (xn X) lv → va_Run (kp κ) (xl X) (ke κ) (xR X) (ks κ) (km κ) (ka κ) (kb κ) (kh κ) (kc κ) H locs cs sl 0 0 (F0 (km κ) pc ls st0) rest (Qr G r1 σ1 H.size a) (AA G H.size)) (h2 : ∀ H H1, Φ H → H.size ≤ H1.size → va_P (gD G) vwCl (wd G σ1) H1 → (∀ q : Nat, q < H.size → ¬ AA G H.size q → H1[q]? = H[q]?) → Φ1 H1) (kk : Gn X κ Q Φ1 cs sl (pc + 3) lv (r1.toList ++ rest)) : Gn X κ Q Φ cs sl pc lv st0 := by
  intro H locs ls hP hS hl T hT XX'
  have hfr : ∀ q, AA G H.size q → xA X q := fun q h => by
    rcases h with ⟨i, h1, h2⟩ | h
    · rw [h2]; exact hG.2.2.2.2 i h1
    · exact C.up q (Nat.le_trans hS.1 h)
  obtain ⟨v, st₀, t, T', L, g0, X', hL, e1, e2, ⟨⟨hv, hP1⟩, hz, hk⟩, stp⟩ := hrun H locs ls hP hS hl T hT XX'
  cases hv
  rw [g0] at hz hk
  have hS' : va_S (xA X) (ks κ).heap T'.heap (locs ++ L) := ⟨Nat.le_trans hS.1 (by rw [e1]; exact hz), fun q h1 h2 => by
      rw [e1, hk q (Nat.lt_of_lt_of_le h1 hS.1) (fun z => h2 (hfr q z))]
      exact hS.2.1 q h1 h2, fun q hq => by
      rcases List.mem_append.mp hq with h | h
      · exact hS.2.2 q h
      · exact hfr _ (hL q h)⟩
  obtain ⟨t2, a1, b1⟩ := kk T'.heap (locs ++ L) ls (h2 H T'.heap hP (by rw [e1]; exact hz) (by rw [e1]; exact hP1) (fun q h1 h2 => by rw [e1]; exact hk q h1 h2)) hS' hl T' rfl X'
  exact ⟨t2, stp t2 a1, b1⟩
theorem n_callV (C : Cn X κ) {G : GG} {N : MM} {ix i ci n : Nat} {T : u_T} {fs As rest : List Value} {r1 : Option Value} {σ σ1 : WW} (hG : GX X G) (hh : HoldX (xA X) (ks κ)) (hM : Mt G N (.ref (ga G i) :: As) σ r1 σ1) (hd : decode (xc X) pc = .ok (.invokevirtual ix, 3)) (hc : vwCl[ci]? = some ((My N).cls, T, n)) (hcode : Cond.code (My N) (Mc N) (Mn N) (Mt0 N) ∈ GW) (hw : ∀ w ∈ ([.methodLink (xo X) ix (My N), .instanceMethod (My N), .selects (My N).cls (My N) (My N), .initialized (My N).cls] : List Cond), w ∈ GW) (hds : descOk N As.length) (hσ : Cl G σ i (.inr (ci, fs))) (hR : roomX (xR X) N) (hst : (rest.map fun v => v.category).sum ≤ 8) (hf : cs ≤ (xR X).cells ∧ sl ≤ (xR X).slots) (h1 : ∀ H, Φ H → va_P (gD G) vwCl (wd G σ) H) (h2 : ∀ H H1, Φ H → H.size ≤ H1.size → va_P (gD G) vwCl (wd G σ1) H1 → (∀ q : Nat, q < H.size → ¬ AA G H.size q → H1[q]? = H[q]?) → Φ1 H1) (kk : Gn X κ Q Φ1 cs sl (pc + 3) lv (r1.toList ++ rest)) : Gn X κ Q Φ cs sl pc lv (As.reverse ++ .ref (ga G i) :: rest) := by
  refine n_behind (a := (Value.ref (ga G i) :: As).toArray) C hG (fun H locs ls hP hS hl => ?_) h2 kk
  have hP1 := h1 H hP
  have eK : va_K (gD G) vwCl (tyX (xT X)) (ks κ) := by rw [hG.2.1]; exact C.k
  rw [← hG.1]
  exact va_runV (C := (My N).cls) (As := As) (rest := rest) ⟨C.1, C.2.1, C.ml, C.own, C.ts⟩ (hM H.size) (cwV As.length C.ts (gw_good (by unfold wsV; exact fun w h => (List.mem_append.mp h).elim (hw w) (fun h => (wy_good hcode w h).1))) rfl rfl rfl ⟨rfl, hds⟩ hR) ⟨Pr.blind, va_recv eK hP1 hc (wd_is hσ), fun U hU hW => ⟨rfl, by rw [hU], by rw [hU]; exact hP1, okX C hG hh hS hU hW⟩⟩ rfl rfl hl.1 rfl (lv_room hst) hd ⟨hf.1, hf.2⟩
end GN5
