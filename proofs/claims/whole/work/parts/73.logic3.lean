/-! frames that make cells, and the law's own: the world is a predicate of the heap -/
abbrev XX : Type := (ByteArray × Nat × String) × Launch × Room × va_G × (ClassId × ClassId × ClassId) × (Nat → Prop)
abbrev xc (X : XX) : ByteArray := X.1.1
abbrev xn (X : XX) : Nat := X.1.2.1
abbrev xo (X : XX) : String := X.1.2.2
abbrev xl (X : XX) : Launch := X.2.1
abbrev xR (X : XX) : Room := X.2.2.1
abbrev xD (X : XX) : va_G := X.2.2.2.1
abbrev xT (X : XX) : ClassId × ClassId × ClassId := X.2.2.2.2.1
abbrev xA (X : XX) : Nat → Prop := X.2.2.2.2.2
def tyX (t : ClassId × ClassId × ClassId) : List (ClassId × FieldType) := [(t.1, .byte), (t.2.1, .int), (t.2.2, .long)]
def Cn (X : XX) (κ : KK) : Prop := (kp κ).tables.exec = Jvm.exec ∧ (kc κ).code = xc X ∧ (kc κ).maxLocals = xn X ∧ (ks κ).vm.findClass (xo X) = some (km κ).cls ∧ (∀ w ∈ GW, w.before (ka κ) (ks κ) = true) ∧ (∀ q, (ks κ).heap.size ≤ q → xA X q) ∧ va_K (xD X) vwCl (tyX (xT X)) (ks κ) ∧ (∀ w ∈ nestW, va_Nw w (ks κ)) ∧ (kh κ).locks = false
def Gn (X : XX) (κ : KK) (Q : State → Prop) (Φ : Heap → Prop) (cs sl pc : Nat) (lv : List (Nat × Value)) (st : List Value) : Prop :=
  ∀ (H : Heap) (locs : List Loc) (ls : Array Slot), Φ H → va_S (xA X) (ks κ).heap H locs → Has ls (xn X) lv →
    W (kp κ) (xl X) (ke κ) (xR X) (ks κ) (km κ) (ka κ) (kb κ) (kh κ) (kc κ) H locs cs sl Q (F0 (km κ) pc ls st)
section GN
variable {X : XX} {κ : KK} {Q : State → Prop} {Φ : Heap → Prop} {cs sl : Nat} {pc : Nat} {lv : List (Nat × Value)} {st : List Value}
theorem Cn.own (C : Cn X κ) : (ks κ).vm.findClass (xo X) = some (km κ).cls := C.2.2.2.1
theorem Cn.ml (C : Cn X κ) : (kc κ).maxLocals = xn X := C.2.2.1
theorem Cn.ts (C : Cn X κ) : ∀ w ∈ GW, w.before (ka κ) (ks κ) = true := C.2.2.2.2.1
theorem Cn.up (C : Cn X κ) : ∀ q, (ks κ).heap.size ≤ q → xA X q := C.2.2.2.2.2.1
theorem Cn.k (C : Cn X κ) : va_K (xD X) vwCl (tyX (xT X)) (ks κ) := C.2.2.2.2.2.2.1
theorem Cn.nw (C : Cn X κ) : ∀ w ∈ nestW, va_Nw w (ks κ) := C.2.2.2.2.2.2.2.1
theorem Cn.nest (C : Cn X κ) {w : Cond} (h : w ∈ nestW) (ht : w.onTables = true) : w.before (ka κ) (ks κ) = true := va_Nw.use ht (C.nw w h)
theorem n_lv (lv' : List (Nat × Value)) (h : lvs lv lv') (k : Gn X κ Q Φ cs sl pc lv' st) : Gn X κ Q Φ cs sl pc lv st := fun H locs ls hP hS hl => k H locs ls hP hS ⟨hl.1, hl.2.1, fun a v ha => hl.2.2 a v (lvs_spec h a v ha)⟩
theorem n_to {lv' : List (Nat × Value)} (k : Gn X κ Q Φ cs sl pc lv' st) (h : lvs lv lv') : Gn X κ Q Φ cs sl pc lv st := n_lv lv' h k
theorem n_widen {cs' sl' : Nat} (h1 : cs ≤ cs') (h2 : sl ≤ sl') (k : Gn X κ Q Φ cs' sl' pc lv st) : Gn X κ Q Φ cs sl pc lv st := fun H locs ls hP hS hl => W.widen h1 h2 (k H locs ls hP hS hl)
theorem n_phi {Φ' : Heap → Prop} (h : ∀ H, Φ H → Φ' H) (k : Gn X κ Q Φ' cs sl pc lv st) : Gn X κ Q Φ cs sl pc lv st := fun H locs ls hP hS hl => k H locs ls (h H hP) hS hl
theorem n_iconst (C : Cn X κ) {n : Int} {v : Int32} (hd : decode (xc X) pc = .ok (.iconst n, 1)) (hv : Int32.ofInt n = v) (k : Gn X κ Q Φ cs sl (pc + 1) lv (.int v :: st)) : Gn X κ Q Φ cs sl pc lv (st) := fun H locs ls hP hS hl => lv_iconst C.1 C.2.1 hd hv (k H locs ls hP hS hl)
theorem n_bipush (C : Cn X κ) {n : Int} {v : Int32} (hd : decode (xc X) pc = .ok (.bipush n, 2)) (hv : (Int8.ofInt n).toInt32 = v) (k : Gn X κ Q Φ cs sl (pc + 2) lv (.int v :: st)) : Gn X κ Q Φ cs sl pc lv (st) := fun H locs ls hP hS hl => lv_bipush C.1 C.2.1 hd hv (k H locs ls hP hS hl)
theorem n_sipush (C : Cn X κ) {n : Int} {v : Int32} (hd : decode (xc X) pc = .ok (.sipush n, 3)) (hv : (Int16.ofInt n).toInt32 = v) (k : Gn X κ Q Φ cs sl (pc + 3) lv (.int v :: st)) : Gn X κ Q Φ cs sl pc lv (st) := fun H locs ls hP hS hl => lv_sipush C.1 C.2.1 hd hv (k H locs ls hP hS hl)
theorem n_lconst (C : Cn X κ) {n : Fin 2} {v : Int64} (hd : decode (xc X) pc = .ok (.lconst n, 1)) (hv : Int64.ofNat (n : Nat) = v) (k : Gn X κ Q Φ cs sl (pc + 1) lv (.long v :: st)) : Gn X κ Q Φ cs sl pc lv (st) := fun H locs ls hP hS hl => lv_lconst C.1 C.2.1 hd hv (k H locs ls hP hS hl)
theorem n_iload_n (C : Cn X κ) {i : Fin 4} {x : Int32} (hd : decode (xc X) pc = .ok (.iload_n i, 1)) (hx : lg lv (i : Nat) = some (.int x)) (k : Gn X κ Q Φ cs sl (pc + 1) lv (.int x :: st)) : Gn X κ Q Φ cs sl pc lv (st) := fun H locs ls hP hS hl => lv_iload_n C.1 C.2.1 hd rfl (hl.2.2 _ _ hx) (k H locs ls hP hS hl)
theorem n_iload (C : Cn X κ) {i : Nat} {x : Int32} (hd : decode (xc X) pc = .ok (.iload i, 2)) (hx : lg lv i = some (.int x)) (k : Gn X κ Q Φ cs sl (pc + 2) lv (.int x :: st)) : Gn X κ Q Φ cs sl pc lv (st) := fun H locs ls hP hS hl => lv_iload C.1 C.2.1 hd (hl.2.2 _ _ hx) (k H locs ls hP hS hl)
theorem n_lload_n (C : Cn X κ) {i : Fin 4} {x : Int64} (hd : decode (xc X) pc = .ok (.lload_n i, 1)) (hx : lg lv (i : Nat) = some (.long x)) (k : Gn X κ Q Φ cs sl (pc + 1) lv (.long x :: st)) : Gn X κ Q Φ cs sl pc lv (st) := fun H locs ls hP hS hl => lv_lload_n C.1 C.2.1 hd rfl (hl.2.2 _ _ hx) (k H locs ls hP hS hl)
theorem n_lload (C : Cn X κ) {i : Nat} {x : Int64} (hd : decode (xc X) pc = .ok (.lload i, 2)) (hx : lg lv i = some (.long x)) (k : Gn X κ Q Φ cs sl (pc + 2) lv (.long x :: st)) : Gn X κ Q Φ cs sl pc lv (st) := fun H locs ls hP hS hl => lv_lload C.1 C.2.1 hd (hl.2.2 _ _ hx) (k H locs ls hP hS hl)
theorem n_aload_n (C : Cn X κ) {i : Fin 4} {x : Nat} (hd : decode (xc X) pc = .ok (.aload_n i, 1)) (hx : lg lv (i : Nat) = some (.ref x)) (k : Gn X κ Q Φ cs sl (pc + 1) lv (.ref x :: st)) : Gn X κ Q Φ cs sl pc lv (st) := fun H locs ls hP hS hl => lv_aload_n C.1 C.2.1 hd rfl (hl.2.2 _ _ hx) (k H locs ls hP hS hl)
theorem n_aload (C : Cn X κ) {i : Nat} {x : Nat} (hd : decode (xc X) pc = .ok (.aload i, 2)) (hx : lg lv i = some (.ref x)) (k : Gn X κ Q Φ cs sl (pc + 2) lv (.ref x :: st)) : Gn X κ Q Φ cs sl pc lv (st) := fun H locs ls hP hS hl => lv_aload C.1 C.2.1 hd (hl.2.2 _ _ hx) (k H locs ls hP hS hl)
theorem n_iadd (C : Cn X κ) {x y : Int32} (hd : decode (xc X) pc = .ok (.iadd, 1)) (k : Gn X κ Q Φ cs sl (pc + 1) lv (.int (x + y) :: st)) : Gn X κ Q Φ cs sl pc lv (.int y :: .int x :: st) := fun H locs ls hP hS hl => lv_iadd C.1 C.2.1 hd (k H locs ls hP hS hl)
theorem n_isub (C : Cn X κ) {x y : Int32} (hd : decode (xc X) pc = .ok (.isub, 1)) (k : Gn X κ Q Φ cs sl (pc + 1) lv (.int (x - y) :: st)) : Gn X κ Q Φ cs sl pc lv (.int y :: .int x :: st) := fun H locs ls hP hS hl => lv_isub C.1 C.2.1 hd (k H locs ls hP hS hl)
theorem n_imul (C : Cn X κ) {x y : Int32} (hd : decode (xc X) pc = .ok (.imul, 1)) (k : Gn X κ Q Φ cs sl (pc + 1) lv (.int (x * y) :: st)) : Gn X κ Q Φ cs sl pc lv (.int y :: .int x :: st) := fun H locs ls hP hS hl => lv_imul C.1 C.2.1 hd (k H locs ls hP hS hl)
theorem n_iand (C : Cn X κ) {x y : Int32} (hd : decode (xc X) pc = .ok (.iand, 1)) (k : Gn X κ Q Φ cs sl (pc + 1) lv (.int (x &&& y) :: st)) : Gn X κ Q Φ cs sl pc lv (.int y :: .int x :: st) := fun H locs ls hP hS hl => lv_iand C.1 C.2.1 hd (k H locs ls hP hS hl)
theorem n_ior (C : Cn X κ) {x y : Int32} (hd : decode (xc X) pc = .ok (.ior, 1)) (k : Gn X κ Q Φ cs sl (pc + 1) lv (.int (x ||| y) :: st)) : Gn X κ Q Φ cs sl pc lv (.int y :: .int x :: st) := fun H locs ls hP hS hl => lv_ior C.1 C.2.1 hd (k H locs ls hP hS hl)
theorem n_ixor (C : Cn X κ) {x y : Int32} (hd : decode (xc X) pc = .ok (.ixor, 1)) (k : Gn X κ Q Φ cs sl (pc + 1) lv (.int (x ^^^ y) :: st)) : Gn X κ Q Φ cs sl pc lv (.int y :: .int x :: st) := fun H locs ls hP hS hl => lv_ixor C.1 C.2.1 hd (k H locs ls hP hS hl)
theorem n_ishl (C : Cn X κ) {x y : Int32} (hd : decode (xc X) pc = .ok (.ishl, 1)) (k : Gn X κ Q Φ cs sl (pc + 1) lv (.int (x <<< (y &&& 31)) :: st)) : Gn X κ Q Φ cs sl pc lv (.int y :: .int x :: st) := fun H locs ls hP hS hl => lv_ishl C.1 C.2.1 hd (k H locs ls hP hS hl)
theorem n_ishr (C : Cn X κ) {x y : Int32} (hd : decode (xc X) pc = .ok (.ishr, 1)) (k : Gn X κ Q Φ cs sl (pc + 1) lv (.int (x >>> (y &&& 31)) :: st)) : Gn X κ Q Φ cs sl pc lv (.int y :: .int x :: st) := fun H locs ls hP hS hl => lv_ishr C.1 C.2.1 hd (k H locs ls hP hS hl)
theorem n_ladd (C : Cn X κ) {x y : Int64} (hd : decode (xc X) pc = .ok (.ladd, 1)) (k : Gn X κ Q Φ cs sl (pc + 1) lv (.long (x + y) :: st)) : Gn X κ Q Φ cs sl pc lv (.long y :: .long x :: st) := fun H locs ls hP hS hl => lv_ladd C.1 C.2.1 hd (k H locs ls hP hS hl)
theorem n_lsub (C : Cn X κ) {x y : Int64} (hd : decode (xc X) pc = .ok (.lsub, 1)) (k : Gn X κ Q Φ cs sl (pc + 1) lv (.long (x - y) :: st)) : Gn X κ Q Φ cs sl pc lv (.long y :: .long x :: st) := fun H locs ls hP hS hl => lv_lsub C.1 C.2.1 hd (k H locs ls hP hS hl)
theorem n_land (C : Cn X κ) {x y : Int64} (hd : decode (xc X) pc = .ok (.land, 1)) (k : Gn X κ Q Φ cs sl (pc + 1) lv (.long (x &&& y) :: st)) : Gn X κ Q Φ cs sl pc lv (.long y :: .long x :: st) := fun H locs ls hP hS hl => lv_land C.1 C.2.1 hd (k H locs ls hP hS hl)
theorem n_lor (C : Cn X κ) {x y : Int64} (hd : decode (xc X) pc = .ok (.lor, 1)) (k : Gn X κ Q Φ cs sl (pc + 1) lv (.long (x ||| y) :: st)) : Gn X κ Q Φ cs sl pc lv (.long y :: .long x :: st) := fun H locs ls hP hS hl => lv_lor C.1 C.2.1 hd (k H locs ls hP hS hl)
theorem n_lcmp (C : Cn X κ) {x y : Int64} (hd : decode (xc X) pc = .ok (.lcmp, 1)) (k : Gn X κ Q Φ cs sl (pc + 1) lv (.int (lg_cmp x y) :: st)) : Gn X κ Q Φ cs sl pc lv (.long y :: .long x :: st) := fun H locs ls hP hS hl => W.lcmp C.1 C.2.1 hd (k H locs ls hP hS hl)
theorem n_lshl (C : Cn X κ) {x : Int64} {y : Int32} (hd : decode (xc X) pc = .ok (.lshl, 1)) (k : Gn X κ Q Φ cs sl (pc + 1) lv (.long (x <<< (y.toInt64 &&& 63)) :: st)) : Gn X κ Q Φ cs sl pc lv (.int y :: .long x :: st) := fun H locs ls hP hS hl => lv_lshl C.1 C.2.1 hd rfl (k H locs ls hP hS hl)
theorem n_i2l (C : Cn X κ) {x : Int32} (hd : decode (xc X) pc = .ok (.i2l, 1)) (k : Gn X κ Q Φ cs sl (pc + 1) lv (.long x.toInt64 :: st)) : Gn X κ Q Φ cs sl pc lv (.int x :: st) := fun H locs ls hP hS hl => lv_i2l C.1 C.2.1 hd rfl (k H locs ls hP hS hl)
theorem n_l2i (C : Cn X κ) {x : Int64} (hd : decode (xc X) pc = .ok (.l2i, 1)) (k : Gn X κ Q Φ cs sl (pc + 1) lv (.int x.toInt32 :: st)) : Gn X κ Q Φ cs sl pc lv (.long x :: st) := fun H locs ls hP hS hl => lv_l2i C.1 C.2.1 hd rfl (k H locs ls hP hS hl)
theorem n_dup (C : Cn X κ) {va : Value} (hd : decode (xc X) pc = .ok (.dup, 1)) (hc : va.category = 1) (k : Gn X κ Q Φ cs sl (pc + 1) lv (va :: va :: st)) : Gn X κ Q Φ cs sl pc lv (va :: st) := fun H locs ls hP hS hl => lv_dup C.1 C.2.1 hd hc (k H locs ls hP hS hl)
theorem n_pop (C : Cn X κ) {va : Value} (hd : decode (xc X) pc = .ok (.pop, 1)) (hc : va.category = 1) (k : Gn X κ Q Φ cs sl (pc + 1) lv (st)) : Gn X κ Q Φ cs sl pc lv (va :: st) := fun H locs ls hP hS hl => lv_pop C.1 C.2.1 hd hc (k H locs ls hP hS hl)
theorem n_dup2 (C : Cn X κ) {va vb : Value} (hd : decode (xc X) pc = .ok (.dup2, 1)) (hc : va.category = 1) (hc2 : vb.category = 1) (k : Gn X κ Q Φ cs sl (pc + 1) lv (va :: vb :: va :: vb :: st)) : Gn X κ Q Φ cs sl pc lv (va :: vb :: st) := fun H locs ls hP hS hl => lv_dup2_11 C.1 C.2.1 hd hc hc2 (k H locs ls hP hS hl)
theorem n_ldc (C : Cn X κ) {ix : Nat} {v : Int32} (hd : decode (xc X) pc = .ok (.ldc ix, 2)) (hw : Cond.constant (xo X) ix v ∈ GW) (k : Gn X κ Q Φ cs sl (pc + 2) lv (.int v :: st)) : Gn X κ Q Φ cs sl pc lv (st) := fun H locs ls hP hS hl => lv_ldc C.1 C.2.1 C.own (C.ts _ hw) hd (k H locs ls hP hS hl)
theorem n_ldc2 (C : Cn X κ) {ix : Nat} {v : Int64} (hd : decode (xc X) pc = .ok (.ldc2_w ix, 3)) (hw : Cond.constantLong (xo X) ix v ∈ GW) (k : Gn X κ Q Φ cs sl (pc + 3) lv (.long v :: st)) : Gn X κ Q Φ cs sl pc lv (st) := fun H locs ls hP hS hl => lv_ldc2 C.1 C.2.1 C.own (C.ts _ hw) hd (k H locs ls hP hS hl)
theorem n_if_eq (C : Cn X κ) {x : Int32} {off : Int} (tgt : Nat) (hd : decode (xc X) pc = .ok (.ifCond .eq off, 3)) (ht : (pc : Int) + off = (tgt : Int)) (kt : x = 0 → Gn X κ Q Φ cs sl tgt lv st) (kf : ¬ (x = 0) → Gn X κ Q Φ cs sl (pc + 3) lv st) : Gn X κ Q Φ cs sl pc lv (.int x :: st) := fun H locs ls hP hS hl => lv_if_eq C.1 C.2.1 hd ht (fun h => kt (by simpa using h) H locs ls hP hS hl) (fun h => kf (by simpa using h) H locs ls hP hS hl)
theorem n_icmp_eq (C : Cn X κ) {x y : Int32} {off : Int} (tgt : Nat) (hd : decode (xc X) pc = .ok (.if_icmp .eq off, 3)) (ht : (pc : Int) + off = (tgt : Int)) (kt : x = y → Gn X κ Q Φ cs sl tgt lv st) (kf : ¬ (x = y) → Gn X κ Q Φ cs sl (pc + 3) lv st) : Gn X κ Q Φ cs sl pc lv (.int y :: .int x :: st) := fun H locs ls hP hS hl => lv_icmp_eq C.1 C.2.1 hd ht (fun h => kt (by simpa using h) H locs ls hP hS hl) (fun h => kf (by simpa using h) H locs ls hP hS hl)
theorem n_if_ne (C : Cn X κ) {x : Int32} {off : Int} (tgt : Nat) (hd : decode (xc X) pc = .ok (.ifCond .ne off, 3)) (ht : (pc : Int) + off = (tgt : Int)) (kt : ¬ x = 0 → Gn X κ Q Φ cs sl tgt lv st) (kf : ¬ (¬ x = 0) → Gn X κ Q Φ cs sl (pc + 3) lv st) : Gn X κ Q Φ cs sl pc lv (.int x :: st) := fun H locs ls hP hS hl => lv_if_ne C.1 C.2.1 hd ht (fun h => kt (by simpa using h) H locs ls hP hS hl) (fun h => kf (by simpa using h) H locs ls hP hS hl)
theorem n_icmp_ne (C : Cn X κ) {x y : Int32} {off : Int} (tgt : Nat) (hd : decode (xc X) pc = .ok (.if_icmp .ne off, 3)) (ht : (pc : Int) + off = (tgt : Int)) (kt : ¬ x = y → Gn X κ Q Φ cs sl tgt lv st) (kf : ¬ (¬ x = y) → Gn X κ Q Φ cs sl (pc + 3) lv st) : Gn X κ Q Φ cs sl pc lv (.int y :: .int x :: st) := fun H locs ls hP hS hl => lv_icmp_ne C.1 C.2.1 hd ht (fun h => kt (by simpa using h) H locs ls hP hS hl) (fun h => kf (by simpa using h) H locs ls hP hS hl)
theorem n_if_lt (C : Cn X κ) {x : Int32} {off : Int} (tgt : Nat) (hd : decode (xc X) pc = .ok (.ifCond .lt off, 3)) (ht : (pc : Int) + off = (tgt : Int)) (kt : x < 0 → Gn X κ Q Φ cs sl tgt lv st) (kf : ¬ (x < 0) → Gn X κ Q Φ cs sl (pc + 3) lv st) : Gn X κ Q Φ cs sl pc lv (.int x :: st) := fun H locs ls hP hS hl => lv_if_lt C.1 C.2.1 hd ht (fun h => kt (by simpa using h) H locs ls hP hS hl) (fun h => kf (by simpa using h) H locs ls hP hS hl)
theorem n_icmp_lt (C : Cn X κ) {x y : Int32} {off : Int} (tgt : Nat) (hd : decode (xc X) pc = .ok (.if_icmp .lt off, 3)) (ht : (pc : Int) + off = (tgt : Int)) (kt : x < y → Gn X κ Q Φ cs sl tgt lv st) (kf : ¬ (x < y) → Gn X κ Q Φ cs sl (pc + 3) lv st) : Gn X κ Q Φ cs sl pc lv (.int y :: .int x :: st) := fun H locs ls hP hS hl => lv_icmp_lt C.1 C.2.1 hd ht (fun h => kt (by simpa using h) H locs ls hP hS hl) (fun h => kf (by simpa using h) H locs ls hP hS hl)
theorem n_if_ge (C : Cn X κ) {x : Int32} {off : Int} (tgt : Nat) (hd : decode (xc X) pc = .ok (.ifCond .ge off, 3)) (ht : (pc : Int) + off = (tgt : Int)) (kt : 0 ≤ x → Gn X κ Q Φ cs sl tgt lv st) (kf : ¬ (0 ≤ x) → Gn X κ Q Φ cs sl (pc + 3) lv st) : Gn X κ Q Φ cs sl pc lv (.int x :: st) := fun H locs ls hP hS hl => lv_if_ge C.1 C.2.1 hd ht (fun h => kt (by simpa using h) H locs ls hP hS hl) (fun h => kf (by simpa using h) H locs ls hP hS hl)
theorem n_icmp_ge (C : Cn X κ) {x y : Int32} {off : Int} (tgt : Nat) (hd : decode (xc X) pc = .ok (.if_icmp .ge off, 3)) (ht : (pc : Int) + off = (tgt : Int)) (kt : y ≤ x → Gn X κ Q Φ cs sl tgt lv st) (kf : ¬ (y ≤ x) → Gn X κ Q Φ cs sl (pc + 3) lv st) : Gn X κ Q Φ cs sl pc lv (.int y :: .int x :: st) := fun H locs ls hP hS hl => lv_icmp_ge C.1 C.2.1 hd ht (fun h => kt (by simpa using h) H locs ls hP hS hl) (fun h => kf (by simpa using h) H locs ls hP hS hl)
theorem n_if_gt (C : Cn X κ) {x : Int32} {off : Int} (tgt : Nat) (hd : decode (xc X) pc = .ok (.ifCond .gt off, 3)) (ht : (pc : Int) + off = (tgt : Int)) (kt : 0 < x → Gn X κ Q Φ cs sl tgt lv st) (kf : ¬ (0 < x) → Gn X κ Q Φ cs sl (pc + 3) lv st) : Gn X κ Q Φ cs sl pc lv (.int x :: st) := fun H locs ls hP hS hl => lv_if_gt C.1 C.2.1 hd ht (fun h => kt (by simpa using h) H locs ls hP hS hl) (fun h => kf (by simpa using h) H locs ls hP hS hl)
theorem n_icmp_gt (C : Cn X κ) {x y : Int32} {off : Int} (tgt : Nat) (hd : decode (xc X) pc = .ok (.if_icmp .gt off, 3)) (ht : (pc : Int) + off = (tgt : Int)) (kt : y < x → Gn X κ Q Φ cs sl tgt lv st) (kf : ¬ (y < x) → Gn X κ Q Φ cs sl (pc + 3) lv st) : Gn X κ Q Φ cs sl pc lv (.int y :: .int x :: st) := fun H locs ls hP hS hl => lv_icmp_gt C.1 C.2.1 hd ht (fun h => kt (by simpa using h) H locs ls hP hS hl) (fun h => kf (by simpa using h) H locs ls hP hS hl)
theorem n_if_le (C : Cn X κ) {x : Int32} {off : Int} (tgt : Nat) (hd : decode (xc X) pc = .ok (.ifCond .le off, 3)) (ht : (pc : Int) + off = (tgt : Int)) (kt : x ≤ 0 → Gn X κ Q Φ cs sl tgt lv st) (kf : ¬ (x ≤ 0) → Gn X κ Q Φ cs sl (pc + 3) lv st) : Gn X κ Q Φ cs sl pc lv (.int x :: st) := fun H locs ls hP hS hl => lv_if_le C.1 C.2.1 hd ht (fun h => kt (by simpa using h) H locs ls hP hS hl) (fun h => kf (by simpa using h) H locs ls hP hS hl)
theorem n_icmp_le (C : Cn X κ) {x y : Int32} {off : Int} (tgt : Nat) (hd : decode (xc X) pc = .ok (.if_icmp .le off, 3)) (ht : (pc : Int) + off = (tgt : Int)) (kt : x ≤ y → Gn X κ Q Φ cs sl tgt lv st) (kf : ¬ (x ≤ y) → Gn X κ Q Φ cs sl (pc + 3) lv st) : Gn X κ Q Φ cs sl pc lv (.int y :: .int x :: st) := fun H locs ls hP hS hl => lv_icmp_le C.1 C.2.1 hd ht (fun h => kt (by simpa using h) H locs ls hP hS hl) (fun h => kf (by simpa using h) H locs ls hP hS hl)
theorem n_goto (C : Cn X κ) {off : Int} (tgt : Nat) (hd : decode (xc X) pc = .ok (.goto off, 3)) (ht : (pc : Int) + off = (tgt : Int)) (k : Gn X κ Q Φ cs sl tgt lv st) : Gn X κ Q Φ cs sl pc lv st := fun H locs ls hP hS hl => lv_goto C.1 C.2.1 hd ht (k H locs ls hP hS hl)
theorem n_istore_n (C : Cn X κ) {i : Fin 4} {x : Int32} (hd : decode (xc X) pc = .ok (.istore_n i, 1)) (hn : (i : Nat) < xn X) (hs : st1 lv (i : Nat) = true) (k : Gn X κ Q Φ cs sl (pc + 1) (((i : Nat), .int x) :: lv) st) : Gn X κ Q Φ cs sl pc lv (.int x :: st) := by
  intro H locs ls hP hS hl
  obtain ⟨ls', e', h'⟩ := hl.store1 (v := .int x) hn rfl hs
  intro T hT X
  obtain ⟨t, a, b⟩ := k H locs ls' hP hS h' T hT X
  refine ⟨t, ?_, b⟩
  have hexec := C.1
  have hb := C.2.1
  jvm_step X.here [X.here.top, ↓top_set X.here.top, hexec, hb, hd, e']
  exact a
theorem n_istore (C : Cn X κ) {i : Nat} {x : Int32} (hd : decode (xc X) pc = .ok (.istore i, 2)) (hn : i < xn X) (hs : st1 lv i = true) (k : Gn X κ Q Φ cs sl (pc + 2) ((i, .int x) :: lv) st) : Gn X κ Q Φ cs sl pc lv (.int x :: st) := by
  intro H locs ls hP hS hl
  obtain ⟨ls', e', h'⟩ := hl.store1 (v := .int x) hn rfl hs
  intro T hT X
  obtain ⟨t, a, b⟩ := k H locs ls' hP hS h' T hT X
  refine ⟨t, ?_, b⟩
  have hexec := C.1
  have hb := C.2.1
  jvm_step X.here [X.here.top, ↓top_set X.here.top, hexec, hb, hd, e']
  exact a
theorem n_astore_n (C : Cn X κ) {i : Fin 4} {x : Nat} (hd : decode (xc X) pc = .ok (.astore_n i, 1)) (hn : (i : Nat) < xn X) (hs : st1 lv (i : Nat) = true) (k : Gn X κ Q Φ cs sl (pc + 1) (((i : Nat), .ref x) :: lv) st) : Gn X κ Q Φ cs sl pc lv (.ref x :: st) := by
  intro H locs ls hP hS hl
  obtain ⟨ls', e', h'⟩ := hl.store1 (v := .ref x) hn rfl hs
  intro T hT X
  obtain ⟨t, a, b⟩ := k H locs ls' hP hS h' T hT X
  refine ⟨t, ?_, b⟩
  have hexec := C.1
  have hb := C.2.1
  jvm_step X.here [X.here.top, ↓top_set X.here.top, hexec, hb, hd, e', Value.isRef]
  exact a
theorem n_astore (C : Cn X κ) {i : Nat} {x : Nat} (hd : decode (xc X) pc = .ok (.astore i, 2)) (hn : i < xn X) (hs : st1 lv i = true) (k : Gn X κ Q Φ cs sl (pc + 2) ((i, .ref x) :: lv) st) : Gn X κ Q Φ cs sl pc lv (.ref x :: st) := by
  intro H locs ls hP hS hl
  obtain ⟨ls', e', h'⟩ := hl.store1 (v := .ref x) hn rfl hs
  intro T hT X
  obtain ⟨t, a, b⟩ := k H locs ls' hP hS h' T hT X
  refine ⟨t, ?_, b⟩
  have hexec := C.1
  have hb := C.2.1
  jvm_step X.here [X.here.top, ↓top_set X.here.top, hexec, hb, hd, e', Value.isRef]
  exact a
theorem n_iinc (C : Cn X κ) {i : Nat} {n : Int} {x : Int32} (hd : decode (xc X) pc = .ok (.iinc i n, 3)) (hx : lg lv i = some (.int x)) (hn : i < xn X) (hs : st1 lv i = true) (k : Gn X κ Q Φ cs sl (pc + 3) ((i, .int (x + Int32.ofInt n)) :: lv) st) : Gn X κ Q Φ cs sl pc lv st := by
  intro H locs ls hP hS hl
  obtain ⟨ls', e', h'⟩ := hl.store1 (v := .int (x + Int32.ofInt n)) hn rfl hs
  have hg := hl.2.2 _ _ hx
  intro T hT X
  obtain ⟨t, a, b⟩ := k H locs ls' hP hS h' T hT X
  refine ⟨t, ?_, b⟩
  have hexec := C.1
  have hb := C.2.1
  jvm_step X.here [X.here.top, ↓top_set X.here.top, hexec, hb, hd, hg, e']
  exact a
theorem n_tableIn (C : Cn X κ) {dflt lo hi : Int} {offs : Array Int} {len : Nat} {x : Int32} {off : Int} (tgt : Nat) (hd : decode (xc X) pc = .ok (.tableswitch dflt lo hi offs, len)) (h1 : ¬ x.toInt < lo) (h2 : ¬ hi < x.toInt) (ho : offs[(x.toInt - lo).toNat]? = some off) (ht : (pc : Int) + off = (tgt : Int)) (k : Gn X κ Q Φ cs sl tgt lv st) : Gn X κ Q Φ cs sl pc lv (.int x :: st) := fun H locs ls hP hS hl => lv_tableIn C.1 C.2.1 hd h1 h2 ho ht (k H locs ls hP hS hl)
theorem n_tableOut (C : Cn X κ) {dflt lo hi : Int} {offs : Array Int} {len : Nat} {x : Int32} (tgt : Nat) (hd : decode (xc X) pc = .ok (.tableswitch dflt lo hi offs, len)) (h : x.toInt < lo ∨ hi < x.toInt) (ht : (pc : Int) + dflt = (tgt : Int)) (k : Gn X κ Q Φ cs sl tgt lv st) : Gn X κ Q Φ cs sl pc lv (.int x :: st) := fun H locs ls hP hS hl => lv_tableOut C.1 C.2.1 hd h ht (k H locs ls hP hS hl)
end GN
