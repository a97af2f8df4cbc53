/-! the small constructors -/
theorem n_ex {X : XX} {κ : KK} {Q : State → Prop} {cs sl pc : Nat} {lv : List (Nat × Value)} {st : List Value} {n : Nat} {Ψ : List Nat → Heap → Prop} (k : ∀ as : List Nat, as.length = n → Gn X κ Q (Ψ as) cs sl pc lv st) : Gn X κ Q (fun H => ∃ as : List Nat, as.length = n ∧ Ψ as H) cs sl pc lv st := fun H locs ls hP hS hl => by
  obtain ⟨as, h1, h2⟩ := hP
  exact k as h1 H locs ls h2 hS hl
theorem len1 {l : List Nat} (h : l.length = 1) : ∃ a, l = [a] := List.length_eq_one_iff.mp h
theorem len2 {l : List Nat} (h : l.length = 2) : ∃ a b, l = [a, b] := by
  match l, h with
  | [a, b], _ => exact ⟨a, b, rfl⟩
theorem len3 {l : List Nat} (h : l.length = 3) : ∃ a b c, l = [a, b, c] := by
  match l, h with
  | [a, b, c], _ => exact ⟨a, b, c, rfl⟩
theorem v_26 : (Cond.instanceMethod Lib.objectInit) ∈ GW := gw_tbl (List.mem_of_getElem? (i := 26) (by decide +kernel)) (by decide +kernel)
theorem v_27 : Cond.code Lib.objectInit ⟨#[0xb1]⟩ 1 none ∈ GW := gw_tbl (List.mem_of_getElem? (i := 27) (by decide +kernel)) (by decide +kernel)
theorem v_33 : (Cond.methodLink "UnlikeGate$Text" (3) Lib.objectInit) ∈ GW := gw_tbl (List.mem_of_getElem? (i := 33) (by decide +kernel)) (by decide +kernel)
theorem v_42 : (Cond.arrayClass FieldType.byte) ∈ GW := gw_tbl (List.mem_of_getElem? (i := 42) (by decide +kernel)) (by decide +kernel)
theorem v_48 : (Cond.methodLink "UnlikeGate$Gate" (3) Lib.objectInit) ∈ GW := gw_tbl (List.mem_of_getElem? (i := 48) (by decide +kernel)) (by decide +kernel)
theorem v_49 : (Cond.classLink "UnlikeGate$Gate" (9) "UnlikeGate$Line") ∈ GW := gw_tbl (List.mem_of_getElem? (i := 49) (by decide +kernel)) (by decide +kernel)
theorem v_50 : (Cond.instantiable "UnlikeGate$Line" (2)) ∈ GW := gw_tbl (List.mem_of_getElem? (i := 50) (by decide +kernel)) (by decide +kernel)
theorem v_51 : (Cond.methodLinkNest "UnlikeGate$Gate" (11) yX2_init "UnlikeGate") ∈ nestW := nw_mem (List.mem_of_getElem? (i := 51) (by decide +kernel)) rfl
theorem v_52 : (Cond.instanceMethod yX2_init) ∈ GW := gw_tbl (List.mem_of_getElem? (i := 52) (by decide +kernel)) (by decide +kernel)
theorem v_53 : Cond.code yX2_init cX2_init 1 none ∈ GW := gw_tbl (List.mem_of_getElem? (i := 53) (by decide +kernel)) (by decide +kernel)
theorem v_54 : (Cond.methodLink "UnlikeGate$Line" (3) Lib.objectInit) ∈ GW := gw_tbl (List.mem_of_getElem? (i := 54) (by decide +kernel)) (by decide +kernel)
theorem v_88 : (Cond.arrayClass FieldType.int) ∈ GW := gw_tbl (List.mem_of_getElem? (i := 88) (by decide +kernel)) (by decide +kernel)
theorem v_94 : (Cond.methodLink "UnlikeGate$Row" (3) Lib.objectInit) ∈ GW := gw_tbl (List.mem_of_getElem? (i := 94) (by decide +kernel)) (by decide +kernel)
theorem v_111 : (Cond.methodLink "UnlikeGate$Walks" (3) Lib.objectInit) ∈ GW := gw_tbl (List.mem_of_getElem? (i := 111) (by decide +kernel)) (by decide +kernel)
theorem v_119 : (Cond.arrayClass FieldType.long) ∈ GW := gw_tbl (List.mem_of_getElem? (i := 119) (by decide +kernel)) (by decide +kernel)
theorem v_125 : (Cond.methodLink "UnlikeGate$LongestRows" (3) Lib.objectInit) ∈ GW := gw_tbl (List.mem_of_getElem? (i := 125) (by decide +kernel)) (by decide +kernel)
theorem v_138 : (Cond.methodLink "UnlikeGate$Strangers" (3) Lib.objectInit) ∈ GW := gw_tbl (List.mem_of_getElem? (i := 138) (by decide +kernel)) (by decide +kernel)
theorem v_148 : (Cond.methodLink "UnlikeGate$Lending" (3) Lib.objectInit) ∈ GW := gw_tbl (List.mem_of_getElem? (i := 148) (by decide +kernel)) (by decide +kernel)
theorem v_158 : (Cond.methodLink "UnlikeGate$Told" (3) Lib.objectInit) ∈ GW := gw_tbl (List.mem_of_getElem? (i := 158) (by decide +kernel)) (by decide +kernel)
def w1X6 (t : ClassId × ClassId × ClassId) (h : Nat) : List Nat → va_W
  | [q1] => [(h, .inr (6, [.ref q1, .int 0])), (q1, .inl (t.1, 300, .inl fun _ => 0))]
  | _ => []
theorem ds_X6i : descOk mX6_init 0 := by refine ⟨?_, ?_, ?_⟩ <;> decide +kernel
theorem i_X6 (l : Launch) (D : va_G) (t : ClassId × ClassId × ClassId) : MI l D t mX6_init (.inr (6, [.null, .int 0])) (fun h0 sz H => ∃ as : List Nat, as.length = 1 ∧ va_P D vwCl (w1X6 t h0 as) H ∧ va_D (va_A [(h0, .inr (6, [.null, .int 0]))] sz) (w1X6 t h0 as)) 1 300 (fun _ _ _ => True) := by
  refine MI.of (by decide +kernel) rfl rfl (by decide) (fun h0 sz κ C hI hr hsz _ => ?_)
  refine n_aload_n (pc := 0) C dX6_init_0 rfl ?_
  refine n_obj (pc := 1) C dX6_init_1 v_33 v_26 v_27 (Nat.le_of_ble_eq_true rfl) (Nat.le_of_ble_eq_true rfl) ?_
  refine n_aload_n (pc := 4) C dX6_init_4 rfl ?_
  refine n_sipush (pc := 5) (v := nI 300) C dX6_init_5 (by decide) ?_
  refine n_newB (pc := 8) (n := 300) C dX6_init_8 (by decide) (Nat.le_of_ble_eq_true rfl) (Nat.le_of_ble_eq_true rfl) v_42 (fun q1 => ?_)
  refine n_phi (Φ' := PW _ [(h0, .inr (6, [.null, .int 0])), (q1, .inl (t.1, 300, .inl fun _ => 0))]) (fun _ h => h) ?_
  refine n_putF (pc := 10) (ci := 6) (k := 0) (i := 0) (ty := tyX6 0) C dX6_init_10 rfl inGX6 tyX6_ok nmX6 (by decide) w_34 rfl hI rfl (by decide +kernel) rfl rfl rfl (Nat.le_of_ble_eq_true rfl) ?_
  refine n_phi (Φ' := PW _ [(h0, .inr (6, [.ref q1, .int 0])), (q1, .inl (t.1, 300, .inl fun _ => 0))]) (fun _ h => h) ?_
  exact n_vret (pc := 13) C hr (fun H h => ⟨[q1], rfl, h⟩) dX6_init_13
def w1X2 (t : ClassId × ClassId × ClassId) (h : Nat) : List Nat → va_W
  | _ => [(h, .inr (2, [.int (-1), .int 0]))]
theorem ds_X2i : descOk mX2_init 0 := by refine ⟨?_, ?_, ?_⟩ <;> decide +kernel
theorem i_X2 (l : Launch) (D : va_G) (t : ClassId × ClassId × ClassId) : MI l D t mX2_init (.inr (2, [.int 0, .int 0])) (fun h0 sz H => ∃ as : List Nat, as.length = 0 ∧ va_P D vwCl (w1X2 t h0 as) H ∧ va_D (va_A [(h0, .inr (2, [.int 0, .int 0]))] sz) (w1X2 t h0 as)) 0 0 (fun _ _ _ => True) := by
  refine MI.of (by decide +kernel) rfl rfl (by decide) (fun h0 sz κ C hI hr hsz _ => ?_)
  refine n_aload_n (pc := 0) C dX2_init_0 rfl ?_
  refine n_obj (pc := 1) C dX2_init_1 v_54 v_26 v_27 (Nat.le_of_ble_eq_true rfl) (Nat.le_of_ble_eq_true rfl) ?_
  refine n_aload_n (pc := 4) C dX2_init_4 rfl ?_
  refine n_iconst (pc := 5) (v := -1) C dX2_init_5 (by decide) ?_
  refine n_put (pc := 6) (ci := 2) (k := 0) (i := 0) (ty := tyX2 0) C dX2_init_6 rfl inGX2 tyX2_ok nmX2 (by decide) w_55 rfl (by decide +kernel) rfl rfl rfl (Nat.le_of_ble_eq_true rfl) ?_
  refine n_phi (Φ' := PW _ [(h0, .inr (2, [.int (-1), .int 0]))]) (fun _ h => h) ?_
  exact n_vret (pc := 9) C hr (fun H h => ⟨[], rfl, h⟩) dX2_init_9
def w1X4 (t : ClassId × ClassId × ClassId) (h : Nat) : List Nat → va_W
  | [q1] => [(h, .inr (4, [.ref q1, .int 0])), (q1, .inl (t.2.1, 16, .inl fun _ => 0))]
  | _ => []
theorem ds_X4i : descOk mX4_init 0 := by refine ⟨?_, ?_, ?_⟩ <;> decide +kernel
theorem i_X4 (l : Launch) (D : va_G) (t : ClassId × ClassId × ClassId) : MI l D t mX4_init (.inr (4, [.null, .int 0])) (fun h0 sz H => ∃ as : List Nat, as.length = 1 ∧ va_P D vwCl (w1X4 t h0 as) H ∧ va_D (va_A [(h0, .inr (4, [.null, .int 0]))] sz) (w1X4 t h0 as)) 1 16 (fun _ _ _ => True) := by
  refine MI.of (by decide +kernel) rfl rfl (by decide) (fun h0 sz κ C hI hr hsz _ => ?_)
  refine n_aload_n (pc := 0) C dX4_init_0 rfl ?_
  refine n_obj (pc := 1) C dX4_init_1 v_94 v_26 v_27 (Nat.le_of_ble_eq_true rfl) (Nat.le_of_ble_eq_true rfl) ?_
  refine n_aload_n (pc := 4) C dX4_init_4 rfl ?_
  refine n_bipush (pc := 5) (v := nI 16) C dX4_init_5 (by decide) ?_
  refine n_newI (pc := 7) (n := 16) C dX4_init_7 (by decide) (Nat.le_of_ble_eq_true rfl) (Nat.le_of_ble_eq_true rfl) v_88 (fun q1 => ?_)
  refine n_phi (Φ' := PW _ [(h0, .inr (4, [.null, .int 0])), (q1, .inl (t.2.1, 16, .inl fun _ => 0))]) (fun _ h => h) ?_
  refine n_putF (pc := 9) (ci := 4) (k := 0) (i := 0) (ty := tyX4 0) C dX4_init_9 rfl inGX4 tyX4_ok nmX4 (by decide) w_95 rfl hI rfl (by decide +kernel) rfl rfl rfl (Nat.le_of_ble_eq_true rfl) ?_
  refine n_phi (Φ' := PW _ [(h0, .inr (4, [.ref q1, .int 0])), (q1, .inl (t.2.1, 16, .inl fun _ => 0))]) (fun _ h => h) ?_
  exact n_vret (pc := 12) C hr (fun H h => ⟨[q1], rfl, h⟩) dX4_init_12
def w1X8 (t : ClassId × ClassId × ClassId) (h : Nat) : List Nat → va_W
  | [q1, q2] => [(h, .inr (8, [.ref q1, .ref q2])), (q1, .inl (t.2.2, 54, .inr (.inl fun _ => 0))), (q2, .inl (t.2.2, 54, .inr (.inl fun _ => 0)))]
  | _ => []
theorem ds_X8i : descOk mX8_init 0 := by refine ⟨?_, ?_, ?_⟩ <;> decide +kernel
theorem i_X8 (l : Launch) (D : va_G) (t : ClassId × ClassId × ClassId) : MI l D t mX8_init (.inr (8, [.null, .null])) (fun h0 sz H => ∃ as : List Nat, as.length = 2 ∧ va_P D vwCl (w1X8 t h0 as) H ∧ va_D (va_A [(h0, .inr (8, [.null, .null]))] sz) (w1X8 t h0 as)) 2 108 (fun _ _ _ => True) := by
  refine MI.of (by decide +kernel) rfl rfl (by decide) (fun h0 sz κ C hI hr hsz _ => ?_)
  refine n_aload_n (pc := 0) C dX8_init_0 rfl ?_
  refine n_obj (pc := 1) C dX8_init_1 v_111 v_26 v_27 (Nat.le_of_ble_eq_true rfl) (Nat.le_of_ble_eq_true rfl) ?_
  refine n_aload_n (pc := 4) C dX8_init_4 rfl ?_
  refine n_bipush (pc := 5) (v := nI 54) C dX8_init_5 (by decide) ?_
  refine n_newJ (pc := 7) (n := 54) C dX8_init_7 (by decide) (Nat.le_of_ble_eq_true rfl) (Nat.le_of_ble_eq_true rfl) v_119 (fun q1 => ?_)
  refine n_phi (Φ' := PW _ [(h0, .inr (8, [.null, .null])), (q1, .inl (t.2.2, 54, .inr (.inl fun _ => 0)))]) (fun _ h => h) ?_
  refine n_put (pc := 9) (ci := 8) (k := 0) (i := 0) (ty := tyX8 0) C dX8_init_9 rfl inGX8 tyX8_ok nmX8 (by decide) w_112 rfl (by decide +kernel) rfl rfl rfl (Nat.le_of_ble_eq_true rfl) ?_
  refine n_phi (Φ' := PW _ [(h0, .inr (8, [.ref q1, .null])), (q1, .inl (t.2.2, 54, .inr (.inl fun _ => 0)))]) (fun _ h => h) ?_
  refine n_aload_n (pc := 12) C dX8_init_12 rfl ?_
  refine n_bipush (pc := 13) (v := nI 54) C dX8_init_13 (by decide) ?_
  refine n_newJ (pc := 15) (n := 54) C dX8_init_15 (by decide) (Nat.le_of_ble_eq_true rfl) (Nat.le_of_ble_eq_true rfl) v_119 (fun q2 => ?_)
  refine n_phi (Φ' := PW _ [(h0, .inr (8, [.ref q1, .null])), (q1, .inl (t.2.2, 54, .inr (.inl fun _ => 0))), (q2, .inl (t.2.2, 54, .inr (.inl fun _ => 0)))]) (fun _ h => h) ?_
  refine n_put (pc := 17) (ci := 8) (k := 1) (i := 0) (ty := tyX8 1) C dX8_init_17 rfl inGX8 tyX8_ok nmX8 (by decide) w_113 rfl (by decide +kernel) rfl rfl rfl (Nat.le_of_ble_eq_true rfl) ?_
  refine n_phi (Φ' := PW _ [(h0, .inr (8, [.ref q1, .ref q2])), (q1, .inl (t.2.2, 54, .inr (.inl fun _ => 0))), (q2, .inl (t.2.2, 54, .inr (.inl fun _ => 0)))]) (fun _ h => h) ?_
  exact n_vret (pc := 20) C hr (fun H h => ⟨[q1, q2], rfl, h⟩) dX8_init_20
def w1X3 (t : ClassId × ClassId × ClassId) (h : Nat) : List Nat → va_W
  | [q1] => [(h, .inr (3, [.ref q1, .int 0])), (q1, .inl (t.2.1, 4608, .inl fun _ => 0))]
  | _ => []
theorem ds_X3i : descOk mX3_init 0 := by refine ⟨?_, ?_, ?_⟩ <;> decide +kernel
theorem i_X3 (l : Launch) (D : va_G) (t : ClassId × ClassId × ClassId) : MI l D t mX3_init (.inr (3, [.null, .int 0])) (fun h0 sz H => ∃ as : List Nat, as.length = 1 ∧ va_P D vwCl (w1X3 t h0 as) H ∧ va_D (va_A [(h0, .inr (3, [.null, .int 0]))] sz) (w1X3 t h0 as)) 1 4608 (fun _ _ _ => True) := by
  refine MI.of (by decide +kernel) rfl rfl (by decide) (fun h0 sz κ C hI hr hsz _ => ?_)
  refine n_aload_n (pc := 0) C dX3_init_0 rfl ?_
  refine n_obj (pc := 1) C dX3_init_1 v_125 v_26 v_27 (Nat.le_of_ble_eq_true rfl) (Nat.le_of_ble_eq_true rfl) ?_
  refine n_aload_n (pc := 4) C dX3_init_4 rfl ?_
  refine n_sipush (pc := 5) (v := nI 4608) C dX3_init_5 (by decide) ?_
  refine n_newI (pc := 8) (n := 4608) C dX3_init_8 (by decide) (Nat.le_of_ble_eq_true rfl) (Nat.le_of_ble_eq_true rfl) v_88 (fun q1 => ?_)
  refine n_phi (Φ' := PW _ [(h0, .inr (3, [.null, .int 0])), (q1, .inl (t.2.1, 4608, .inl fun _ => 0))]) (fun _ h => h) ?_
  refine n_putF (pc := 10) (ci := 3) (k := 0) (i := 0) (ty := tyX3 0) C dX3_init_10 rfl inGX3 tyX3_ok nmX3 (by decide) w_126 rfl hI rfl (by decide +kernel) rfl rfl rfl (Nat.le_of_ble_eq_true rfl) ?_
  refine n_phi (Φ' := PW _ [(h0, .inr (3, [.ref q1, .int 0])), (q1, .inl (t.2.1, 4608, .inl fun _ => 0))]) (fun _ h => h) ?_
  exact n_vret (pc := 13) C hr (fun H h => ⟨[q1], rfl, h⟩) dX3_init_13
def w1X5 (t : ClassId × ClassId × ClassId) (h : Nat) : List Nat → va_W
  | [q1] => [(h, .inr (5, [.ref q1])), (q1, .inl (t.2.1, 84, .inl fun _ => 0))]
  | _ => []
theorem ds_X5i : descOk mX5_init 0 := by refine ⟨?_, ?_, ?_⟩ <;> decide +kernel
theorem i_X5 (l : Launch) (D : va_G) (t : ClassId × ClassId × ClassId) : MI l D t mX5_init (.inr (5, [.null])) (fun h0 sz H => ∃ as : List Nat, as.length = 1 ∧ va_P D vwCl (w1X5 t h0 as) H ∧ va_D (va_A [(h0, .inr (5, [.null]))] sz) (w1X5 t h0 as)) 1 84 (fun _ _ _ => True) := by
  refine MI.of (by decide +kernel) rfl rfl (by decide) (fun h0 sz κ C hI hr hsz _ => ?_)
  refine n_aload_n (pc := 0) C dX5_init_0 rfl ?_
  refine n_obj (pc := 1) C dX5_init_1 v_138 v_26 v_27 (Nat.le_of_ble_eq_true rfl) (Nat.le_of_ble_eq_true rfl) ?_
  refine n_aload_n (pc := 4) C dX5_init_4 rfl ?_
  refine n_bipush (pc := 5) (v := nI 84) C dX5_init_5 (by decide) ?_
  refine n_newI (pc := 7) (n := 84) C dX5_init_7 (by decide) (Nat.le_of_ble_eq_true rfl) (Nat.le_of_ble_eq_true rfl) v_88 (fun q1 => ?_)
  refine n_phi (Φ' := PW _ [(h0, .inr (5, [.null])), (q1, .inl (t.2.1, 84, .inl fun _ => 0))]) (fun _ h => h) ?_
  refine n_putF (pc := 9) (ci := 5) (k := 0) (i := 0) (ty := tyX5 0) C dX5_init_9 rfl inGX5 tyX5_ok nmX5 (by decide) w_139 rfl hI rfl (by decide +kernel) rfl rfl rfl (Nat.le_of_ble_eq_true rfl) ?_
  refine n_phi (Φ' := PW _ [(h0, .inr (5, [.ref q1])), (q1, .inl (t.2.1, 84, .inl fun _ => 0))]) (fun _ h => h) ?_
  exact n_vret (pc := 12) C hr (fun H h => ⟨[q1], rfl, h⟩) dX5_init_12
def w1X1 (t : ClassId × ClassId × ClassId) (h : Nat) : List Nat → va_W
  | [q1] => [(h, .inr (1, [.ref q1])), (q1, .inl (t.2.1, 256, .inl fun _ => 0))]
  | _ => []
theorem ds_X1i : descOk mX1_init 0 := by refine ⟨?_, ?_, ?_⟩ <;> decide +kernel
theorem i_X1 (l : Launch) (D : va_G) (t : ClassId × ClassId × ClassId) : MI l D t mX1_init (.inr (1, [.null])) (fun h0 sz H => ∃ as : List Nat, as.length = 1 ∧ va_P D vwCl (w1X1 t h0 as) H ∧ va_D (va_A [(h0, .inr (1, [.null]))] sz) (w1X1 t h0 as)) 1 256 (fun _ _ _ => True) := by
  refine MI.of (by decide +kernel) rfl rfl (by decide) (fun h0 sz κ C hI hr hsz _ => ?_)
  refine n_aload_n (pc := 0) C dX1_init_0 rfl ?_
  refine n_obj (pc := 1) C dX1_init_1 v_148 v_26 v_27 (Nat.le_of_ble_eq_true rfl) (Nat.le_of_ble_eq_true rfl) ?_
  refine n_aload_n (pc := 4) C dX1_init_4 rfl ?_
  refine n_sipush (pc := 5) (v := nI 256) C dX1_init_5 (by decide) ?_
  refine n_newI (pc := 8) (n := 256) C dX1_init_8 (by decide) (Nat.le_of_ble_eq_true rfl) (Nat.le_of_ble_eq_true rfl) v_88 (fun q1 => ?_)
  refine n_phi (Φ' := PW _ [(h0, .inr (1, [.null])), (q1, .inl (t.2.1, 256, .inl fun _ => 0))]) (fun _ h => h) ?_
  refine n_putF (pc := 10) (ci := 1) (k := 0) (i := 0) (ty := tyX1 0) C dX1_init_10 rfl inGX1 tyX1_ok nmX1 (by decide) w_149 rfl hI rfl (by decide +kernel) rfl rfl rfl (Nat.le_of_ble_eq_true rfl) ?_
  refine n_phi (Φ' := PW _ [(h0, .inr (1, [.ref q1])), (q1, .inl (t.2.1, 256, .inl fun _ => 0))]) (fun _ h => h) ?_
  exact n_vret (pc := 13) C hr (fun H h => ⟨[q1], rfl, h⟩) dX1_init_13
def w1X7 (t : ClassId × ClassId × ClassId) (h : Nat) : List Nat → va_W
  | [q1, q2, q3] => [(h, .inr (7, [.ref q1, .ref q2, .ref q3, .int 0, .int 0, .int 0, .int 0, .int 0, .int 0])), (q1, .inl (t.2.1, 5, .inl fun _ => 0)), (q2, .inl (t.2.1, 9, .inl fun _ => 0)), (q3, .inl (t.2.1, 16, .inl fun _ => 0))]
  | _ => []
theorem ds_X7i : descOk mX7_init 0 := by refine ⟨?_, ?_, ?_⟩ <;> decide +kernel
theorem i_X7 (l : Launch) (D : va_G) (t : ClassId × ClassId × ClassId) : MI l D t mX7_init (.inr (7, [.null, .null, .null, .int 0, .int 0, .int 0, .int 0, .int 0, .int 0])) (fun h0 sz H => ∃ as : List Nat, as.length = 3 ∧ va_P D vwCl (w1X7 t h0 as) H ∧ va_D (va_A [(h0, .inr (7, [.null, .null, .null, .int 0, .int 0, .int 0, .int 0, .int 0, .int 0]))] sz) (w1X7 t h0 as)) 3 30 (fun _ _ _ => True) := by
  refine MI.of (by decide +kernel) rfl rfl (by decide) (fun h0 sz κ C hI hr hsz _ => ?_)
  refine n_aload_n (pc := 0) C dX7_init_0 rfl ?_
  refine n_obj (pc := 1) C dX7_init_1 v_158 v_26 v_27 (Nat.le_of_ble_eq_true rfl) (Nat.le_of_ble_eq_true rfl) ?_
  refine n_aload_n (pc := 4) C dX7_init_4 rfl ?_
  refine n_iconst (pc := 5) (v := nI 5) C dX7_init_5 (by decide) ?_
  refine n_newI (pc := 6) (n := 5) C dX7_init_6 (by decide) (Nat.le_of_ble_eq_true rfl) (Nat.le_of_ble_eq_true rfl) v_88 (fun q1 => ?_)
  refine n_phi (Φ' := PW _ [(h0, .inr (7, [.null, .null, .null, .int 0, .int 0, .int 0, .int 0, .int 0, .int 0])), (q1, .inl (t.2.1, 5, .inl fun _ => 0))]) (fun _ h => h) ?_
  refine n_putF (pc := 8) (ci := 7) (k := 0) (i := 0) (ty := tyX7 0) C dX7_init_8 rfl inGX7 tyX7_ok nmX7 (by decide) w_159 rfl hI rfl (by decide +kernel) rfl rfl rfl (Nat.le_of_ble_eq_true rfl) ?_
  refine n_phi (Φ' := PW _ [(h0, .inr (7, [.ref q1, .null, .null, .int 0, .int 0, .int 0, .int 0, .int 0, .int 0])), (q1, .inl (t.2.1, 5, .inl fun _ => 0))]) (fun _ h => h) ?_
  refine n_aload_n (pc := 11) C dX7_init_11 rfl ?_
  refine n_bipush (pc := 12) (v := nI 9) C dX7_init_12 (by decide) ?_
  refine n_newI (pc := 14) (n := 9) C dX7_init_14 (by decide) (Nat.le_of_ble_eq_true rfl) (Nat.le_of_ble_eq_true rfl) v_88 (fun q2 => ?_)
  refine n_phi (Φ' := PW _ [(h0, .inr (7, [.ref q1, .null, .null, .int 0, .int 0, .int 0, .int 0, .int 0, .int 0])), (q1, .inl (t.2.1, 5, .inl fun _ => 0)), (q2, .inl (t.2.1, 9, .inl fun _ => 0))]) (fun _ h => h) ?_
  refine n_putF (pc := 16) (ci := 7) (k := 1) (i := 0) (ty := tyX7 1) C dX7_init_16 rfl inGX7 tyX7_ok nmX7 (by decide) w_161 rfl hI rfl (by decide +kernel) rfl rfl rfl (Nat.le_of_ble_eq_true rfl) ?_
  refine n_phi (Φ' := PW _ [(h0, .inr (7, [.ref q1, .ref q2, .null, .int 0, .int 0, .int 0, .int 0, .int 0, .int 0])), (q1, .inl (t.2.1, 5, .inl fun _ => 0)), (q2, .inl (t.2.1, 9, .inl fun _ => 0))]) (fun _ h => h) ?_
  refine n_aload_n (pc := 19) C dX7_init_19 rfl ?_
  refine n_bipush (pc := 20) (v := nI 16) C dX7_init_20 (by decide) ?_
  refine n_newI (pc := 22) (n := 16) C dX7_init_22 (by decide) (Nat.le_of_ble_eq_true rfl) (Nat.le_of_ble_eq_true rfl) v_88 (fun q3 => ?_)
  refine n_phi (Φ' := PW _ [(h0, .inr (7, [.ref q1, .ref q2, .null, .int 0, .int 0, .int 0, .int 0, .int 0, .int 0])), (q1, .inl (t.2.1, 5, .inl fun _ => 0)), (q2, .inl (t.2.1, 9, .inl fun _ => 0)), (q3, .inl (t.2.1, 16, .inl fun _ => 0))]) (fun _ h => h) ?_
  refine n_putF (pc := 24) (ci := 7) (k := 2) (i := 0) (ty := tyX7 2) C dX7_init_24 rfl inGX7 tyX7_ok nmX7 (by decide) w_162 rfl hI rfl (by decide +kernel) rfl rfl rfl (Nat.le_of_ble_eq_true rfl) ?_
  refine n_phi (Φ' := PW _ [(h0, .inr (7, [.ref q1, .ref q2, .ref q3, .int 0, .int 0, .int 0, .int 0, .int 0, .int 0])), (q1, .inl (t.2.1, 5, .inl fun _ => 0)), (q2, .inl (t.2.1, 9, .inl fun _ => 0)), (q3, .inl (t.2.1, 16, .inl fun _ => 0))]) (fun _ h => h) ?_
  exact n_vret (pc := 27) C hr (fun H h => ⟨[q1, q2, q3], rfl, h⟩) dX7_init_27
def w1X0 (t : ClassId × ClassId × ClassId) (h : Nat) : List Nat → va_W
  | [q1, q2, q3] => [(h, .inr (0, [.ref q1, .ref q2, .ref q3, .int 0, .int 0, .int 0])), (q1, .inr (2, [.int (-1), .int 0])), (q2, .inl (t.2.1, 8, .inl fun _ => 0)), (q3, .inl (t.2.1, 2, .inl fun _ => 0))]
  | _ => []
theorem ds_X0i : descOk mX0_init 0 := by refine ⟨?_, ?_, ?_⟩ <;> decide +kernel
theorem i_X0 (l : Launch) (D : va_G) (t : ClassId × ClassId × ClassId) : MI l D t mX0_init (.inr (0, [.null, .null, .null, .int 0, .int 0, .int 0])) (fun h0 sz H => ∃ as : List Nat, as.length = 3 ∧ va_P D vwCl (w1X0 t h0 as) H ∧ va_D (va_A [(h0, .inr (0, [.null, .null, .null, .int 0, .int 0, .int 0]))] sz) (w1X0 t h0 as)) 3 12 (fun _ _ _ => True) := by
  refine MI.of (by decide +kernel) rfl rfl (by decide) (fun h0 sz κ C hI hr hsz _ => ?_)
  refine n_aload_n (pc := 0) C dX0_init_0 rfl ?_
  refine n_obj (pc := 1) C dX0_init_1 v_48 v_26 v_27 (Nat.le_of_ble_eq_true rfl) (Nat.le_of_ble_eq_true rfl) ?_
  refine n_aload_n (pc := 4) C dX0_init_4 rfl ?_
  refine n_new (pc := 5) (fs := [.int 0, .int 0]) (ci := 2) C dX0_init_5 rfl inGX2 tyX2_ok v_49 v_50 w_4 (by decide) (Nat.le_of_ble_eq_true rfl) (Nat.le_of_ble_eq_true rfl) (fun q1 => ?_)
  refine n_phi (Φ' := PW _ [(h0, .inr (0, [.null, .null, .null, .int 0, .int 0, .int 0])), (q1, .inr (2, [.int 0, .int 0]))]) (fun _ h => h) ?_
  refine n_dup (pc := 8) C dX0_init_8 rfl ?_
  refine n_callIN (pc := 9) (ws := [(h0, .inr (0, [.null, .null, .null, .int 0, .int 0, .int 0]))]) (Φ1 := fun H => ∃ as : List Nat, as.length = 0 ∧ PW _ ([(h0, .inr (0, [.null, .null, .null, .int 0, .int 0, .int 0]))] ++ w1X2 t q1 as) H) C (i_X2 _ _ _) (fun _ _ _ _ _ _ h => h) (fun _ _ _ _ _ _ _ => trivial) dX0_init_9 v_53 rfl v_51 w_4 v_52 rfl ds_X2i (Nat.le_of_ble_eq_true rfl |> fun h => ⟨h, Nat.le_of_ble_eq_true rfl⟩) (Nat.le_of_ble_eq_true rfl) (Nat.le_of_ble_eq_true rfl) (Nat.le_of_ble_eq_true rfl) (fun H H1 hP hup hk hB => by obtain ⟨as, hl, b1, b2⟩ := hB; exact ⟨as, hl, join1 hP.1 hP.2 hk hup b1 b2⟩) ?_
  refine n_ex (fun as hl => ?_)
  obtain rfl := List.length_eq_zero_iff.mp hl
  refine n_phi (Φ' := PW _ [(h0, .inr (0, [.null, .null, .null, .int 0, .int 0, .int 0])), (q1, .inr (2, [.int (-1), .int 0]))]) (fun _ h => h) ?_
  refine n_putF (pc := 12) (ci := 0) (k := 0) (i := 0) (ty := tyX0 0) C dX0_init_12 rfl inGX0 tyX0_ok nmX0 (by decide) w_66 rfl hI rfl (by decide +kernel) rfl rfl rfl (Nat.le_of_ble_eq_true rfl) ?_
  refine n_phi (Φ' := PW _ [(h0, .inr (0, [.ref q1, .null, .null, .int 0, .int 0, .int 0])), (q1, .inr (2, [.int (-1), .int 0]))]) (fun _ h => h) ?_
  refine n_aload_n (pc := 15) C dX0_init_15 rfl ?_
  refine n_bipush (pc := 16) (v := nI 8) C dX0_init_16 (by decide) ?_
  refine n_newI (pc := 18) (n := 8) C dX0_init_18 (by decide) (Nat.le_of_ble_eq_true rfl) (Nat.le_of_ble_eq_true rfl) v_88 (fun q2 => ?_)
  refine n_phi (Φ' := PW _ [(h0, .inr (0, [.ref q1, .null, .null, .int 0, .int 0, .int 0])), (q1, .inr (2, [.int (-1), .int 0])), (q2, .inl (t.2.1, 8, .inl fun _ => 0))]) (fun _ h => h) ?_
  refine n_putF (pc := 20) (ci := 0) (k := 1) (i := 0) (ty := tyX0 1) C dX0_init_20 rfl inGX0 tyX0_ok nmX0 (by decide) w_68 rfl hI rfl (by decide +kernel) rfl rfl rfl (Nat.le_of_ble_eq_true rfl) ?_
  refine n_phi (Φ' := PW _ [(h0, .inr (0, [.ref q1, .ref q2, .null, .int 0, .int 0, .int 0])), (q1, .inr (2, [.int (-1), .int 0])), (q2, .inl (t.2.1, 8, .inl fun _ => 0))]) (fun _ h => h) ?_
  refine n_aload_n (pc := 23) C dX0_init_23 rfl ?_
  refine n_iconst (pc := 24) (v := nI 2) C dX0_init_24 (by decide) ?_
  refine n_newI (pc := 25) (n := 2) C dX0_init_25 (by decide) (Nat.le_of_ble_eq_true rfl) (Nat.le_of_ble_eq_true rfl) v_88 (fun q3 => ?_)
  refine n_phi (Φ' := PW _ [(h0, .inr (0, [.ref q1, .ref q2, .null, .int 0, .int 0, .int 0])), (q1, .inr (2, [.int (-1), .int 0])), (q2, .inl (t.2.1, 8, .inl fun _ => 0)), (q3, .inl (t.2.1, 2, .inl fun _ => 0))]) (fun _ h => h) ?_
  refine n_putF (pc := 27) (ci := 0) (k := 2) (i := 0) (ty := tyX0 2) C dX0_init_27 rfl inGX0 tyX0_ok nmX0 (by decide) w_69 rfl hI rfl (by decide +kernel) rfl rfl rfl (Nat.le_of_ble_eq_true rfl) ?_
  refine n_phi (Φ' := PW _ [(h0, .inr (0, [.ref q1, .ref q2, .ref q3, .int 0, .int 0, .int 0])), (q1, .inr (2, [.int (-1), .int 0])), (q2, .inl (t.2.1, 8, .inl fun _ => 0)), (q3, .inl (t.2.1, 2, .inl fun _ => 0))]) (fun _ h => h) ?_
  exact n_vret (pc := 30) C hr (fun H h => ⟨[q1, q2, q3], rfl, h⟩) dX0_init_30
