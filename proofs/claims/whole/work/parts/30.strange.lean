/-! strangers: sets in which one is unlike the second one, as bits of an int -/
def bt (x : Int32) (i : Nat) : Bool := x.toBitVec.getLsbD i
theorem b_or (x y : Int32) (i : Nat) : bt (x ||| y) i = (bt x i || bt y i) := by unfold bt; rw [Int32.toBitVec_or, BitVec.getLsbD_or]
theorem b_and (x y : Int32) (i : Nat) : bt (x &&& y) i = (bt x i && bt y i) := by unfold bt; rw [Int32.toBitVec_and, BitVec.getLsbD_and]
theorem b_xor (x y : Int32) (i : Nat) : bt (x ^^^ y) i = (bt x i ^^ bt y i) := by unfold bt; rw [Int32.toBitVec_xor, BitVec.getLsbD_xor]
theorem b_big {x : Int32} {i : Nat} (h : 32 ≤ i) : bt x i = false := BitVec.getLsbD_of_ge _ _ h
theorem b_m1 : ∀ i, i < 32 → bt (-1) i = true := by decide +kernel
theorem b_0 : ∀ i, i < 32 → bt (nI 0) i = false := by decide +kernel
theorem b_1 : ∀ i, i < 32 → bt (nI 1) i = (i == 0) := by decide +kernel
theorem b_shl (n : Nat) (hn : n < 32) (x : Int32) {i : Nat} (hi : i < 32) : bt (x <<< (nI n &&& 31)) i = (decide (n ≤ i) && bt x (i - n)) := by
  unfold bt
  rw [Int32.toBitVec_shiftLeft]
  show (x.toBitVec <<< ((nI n &&& 31).toBitVec.smod 32).toNat).getLsbD i = _
  rw [nx_cl n hn, BitVec.getLsbD_shiftLeft]
  rcases Nat.lt_or_ge i n with h | h
  · simp [h, Nat.not_le.mpr h]
  · simp [hi, h, Nat.not_lt.mpr h]
theorem b_ushr (n : Nat) (hn : n < 32) (x : Int32) (i : Nat) : bt ((x.toUInt32 >>> ((nI n).toUInt32 &&& Int32.toUInt32 31)).toInt32) i = bt x (n + i) := by
  show (x.toUInt32 >>> ((nI n).toUInt32 &&& Int32.toUInt32 31)).toBitVec.getLsbD i = x.toUInt32.toBitVec.getLsbD (n + i)
  rw [UInt32.toBitVec_shiftRight]
  show (x.toUInt32.toBitVec >>> (((nI n).toUInt32 &&& Int32.toUInt32 31).toBitVec % 32).toNat).getLsbD i = _
  rw [nx_cu n hn, BitVec.getLsbD_ushiftRight]
/-- an int holds this set of sets -/
def RB (X : Int32) (S : Nat → Bool) : Prop := ∀ u, u < 32 → bt X u = S u
theorem bit_RB {X : Int32} {S : Nat → Bool} (h : RB X S) {u : Nat} (hu : u < 32) : (X.toUInt32 >>> ((nI u).toUInt32 &&& Int32.toUInt32 31)).toInt32 &&& nI 1 = nI (b2 (S u)) := by
  have e : ∀ b : Bool, ∀ i, i < 32 → bt (nI (b2 b)) i = (b && (i == 0)) := by decide +kernel
  apply Int32.toBitVec_inj.mp
  apply BitVec.eq_of_getLsbD_eq
  intro i hi
  show bt _ i = bt _ i
  rw [b_and, b_ushr u hu, b_1 i hi, e (S u) i hi]
  by_cases q : i = 0
  · subst q
    rw [Nat.add_zero, h u hu]
  · have : (i == 0) = false := by simpa using q
    rw [this, Bool.and_false, Bool.and_false]
def hI (t : Nat) : Int32 := if t = 0 then (-1431655766) else if t = 1 then (-858993460) else if t = 2 then (-252645136) else if t = 3 then (-16711936) else (-65536)
theorem hI_bt : ∀ t, t < 5 → ∀ u, u < 32 → bt (hI t) u = u.testBit t := by decide +kernel
theorem u_flip : ∀ t, t < 5 → ∀ u, u < 32 → u ^^^ (1 <<< t) = if u.testBit t then u - 1 <<< t else u + 1 <<< t := by decide +kernel
theorem u_up : ∀ t, t < 5 → ∀ u, u < 32 → u.testBit t = false → 1 <<< t + u < 32 ∧ (1 <<< t + u).testBit t = true := by decide +kernel
theorem u_up2 : ∀ t, t < 5 → ∀ u, u < 32 → u.testBit t = true → 1 <<< t + u < 32 → (1 <<< t + u).testBit t = false := by decide +kernel
theorem u_dn : ∀ t, t < 5 → ∀ u, u < 32 → u.testBit t = true → 1 <<< t ≤ u ∧ (u - 1 <<< t).testBit t = false := by decide +kernel
theorem u_dn2 : ∀ t, t < 5 → ∀ u, u < 32 → u.testBit t = false → 1 <<< t ≤ u → (u - 1 <<< t).testBit t = true := by decide +kernel
theorem u_5 : ∀ t, t < 5 → 1 <<< t < 32 := by decide
/-- from which one gets there by another value of this thing -/
def t1 (n t : Nat) (S : Nat → Bool) (u : Nat) : Bool := decide (2 ≤ n) && (S (u ^^^ (1 <<< t)) || (decide (2 < n) && (u.testBit t && S u)))
theorem RB_t1 {X : Int32} {S : Nat → Bool} (h : RB X S) {n t : Nat} (ht : t < 5) (hn : 2 ≤ n) : RB (if 2 < n then (((X &&& hI t).toUInt32 >>> ((nI (1 <<< t)).toUInt32 &&& Int32.toUInt32 31)).toInt32 ||| (X &&& (hI t ^^^ -1)) <<< (nI (1 <<< t) &&& 31)) ||| (X &&& hI t) else (((X &&& hI t).toUInt32 >>> ((nI (1 <<< t)).toUInt32 &&& Int32.toUInt32 31)).toInt32 ||| (X &&& (hI t ^^^ -1)) <<< (nI (1 <<< t) &&& 31))) (t1 n t S) := by
  intro u hu
  have h5 := u_5 t ht
  have hsub : u - 1 <<< t < 32 := Nat.lt_of_le_of_lt (Nat.sub_le _ _) hu
  have eA : bt ((((X &&& hI t).toUInt32 >>> ((nI (1 <<< t)).toUInt32 &&& Int32.toUInt32 31)).toInt32 ||| (X &&& (hI t ^^^ -1)) <<< (nI (1 <<< t) &&& 31))) u = S (u ^^^ (1 <<< t)) := by
    rw [b_or, b_ushr _ h5, b_shl _ h5 _ hu, b_and, b_and, b_xor, u_flip t ht u hu]
    cases hb : u.testBit t
    · obtain ⟨q1, q2⟩ := u_up t ht u hu hb
      rw [hI_bt t ht _ q1, q2, h _ q1, Bool.and_true]
      by_cases q3 : 1 <<< t ≤ u
      · rw [hI_bt t ht _ hsub, u_dn2 t ht u hu hb q3, b_m1 _ hsub]
        simp [Nat.add_comm]
      · simp [q3, Nat.add_comm]
    · obtain ⟨q1, q2⟩ := u_dn t ht u hu hb
      rw [hI_bt t ht (u - 1 <<< t) hsub, q2, b_m1 _ hsub, h (u - 1 <<< t) hsub]
      by_cases q3 : 1 <<< t + u < 32
      · rw [hI_bt t ht _ q3, u_up2 t ht u hu hb q3]
        simp [q1]
      · rw [b_big (x := hI t) (by omega)]
        simp [q1]
  have e2 : decide (2 ≤ n) = true := by simpa using hn
  unfold t1
  rw [e2, Bool.true_and]
  by_cases hc : 2 < n
  · rw [if_pos hc, b_or, eA, b_and, hI_bt t ht u hu, h u hu]
    simp [hc, Bool.and_comm]
  · rw [if_neg hc, eA]
    simp [hc]
theorem RB_0 : RB (nI 0) (fun _ => false) := fun u hu => b_0 u hu
def tI (T : TS) (turned : Nat) (S : Nat → Bool) : Nat → (Nat → Bool)
  | 0 => S
  | t + 1 => if turned.testBit t = true then t1 (tv T t) t (tI T turned S t) else tI T turned S t
def rBy (T : TS) (R : Nat → Nat → Bool) (bar : Nat) : Nat → (Nat → Bool)
  | 0 => fun _ => false
  | w + 1 => fun u => rBy T R bar w u || (decide (w &&& seen T = w) && (ps (tl T) w (brd bar) && tI T w (R (bb T w)) (tn T) u))
/-- from which sets the second one is reached by just so many passes -/
def rc (T : TS) : Nat → Nat → Nat → Bool
  | 0, _ => fun u => u == 0
  | k + 1, bar => rBy T (rc T k) bar (seen T + 1)
theorem w_hold : Cond.fieldLink RX5 57 "UnlikeGate$Strangers" "HOLDING" "[I" ∈ GW := gw_tbl (List.mem_of_getElem? (i := 626) (by decide +kernel)) (by decide +kernel)
section STR
variable {G : GG} {σ : WW} {T : TS}
abbrev cStr (G : GG) : va_E := .inr (5, [.ref (ga G 19)])
theorem t_turnedOne {n t : Nat} {X : Int32} {S : Nat → Bool} (h7 : Cl G σ 7 (cStr G)) (hn : n ≤ 4) (ht : t < 5) (hX : RB X S) : ∃ Y, Mt G mX5_turnedOne [.ref (ga G 7), .int (nI n), .int (nI t), .int X] σ (some (.int Y)) σ ∧ RB Y (t1 n t S) := by
  have eh : holdV (nI t).toNatClampNeg = .int (hI t) := by rw [nI_clamp (by omega)]; rfl
  by_cases h2 : 2 ≤ n
  · refine ⟨_, ?_, RB_t1 hX ht h2⟩
    refine Mt.of (by decide +kernel) (Nat.le_of_ble_eq_true rfl) (fun κ C => ?_)
    refine g_iload_n (pc := 0) C dX5_turnedOne_0 rfl ?_
    refine g_iconst (pc := 1) (v := nI 2) C dX5_turnedOne_1 (by decide) ?_
    refine g_icmp_ge (pc := 2) C 7 dX5_turnedOne_2 (by decide) (fun c2 => ?_) (fun c2 => ?_)
    · refine g_iload_n (pc := 7) C dX5_turnedOne_7 rfl ?_
      refine g_hold (pc := 8) C dX5_turnedOne_8 w_hold (fun th hh => ?_)
      refine g_iload_n (pc := 11) C dX5_turnedOne_11 rfl ?_
      refine hh dX5_turnedOne_12 (vp_in_nI ht (by decide)) eh ?_
      refine g_iand (pc := 13) C dX5_turnedOne_13 ?_
      refine g_istore (pc := 14) C dX5_turnedOne_14 (by decide) rfl ?_
      refine g_iload_n (pc := 16) C dX5_turnedOne_16 rfl ?_
      refine g_hold (pc := 17) C dX5_turnedOne_17 w_hold (fun th hh => ?_)
      refine g_iload_n (pc := 20) C dX5_turnedOne_20 rfl ?_
      refine hh dX5_turnedOne_21 (vp_in_nI ht (by decide)) eh ?_
      refine g_iconst (pc := 22) (v := -1) C dX5_turnedOne_22 (by decide) ?_
      refine g_ixor (pc := 23) C dX5_turnedOne_23 ?_
      refine g_iand (pc := 24) C dX5_turnedOne_24 ?_
      refine g_istore (pc := 25) C dX5_turnedOne_25 (by decide) rfl ?_
      refine g_iload (pc := 27) C dX5_turnedOne_27 rfl ?_
      refine g_iconst (pc := 29) (v := nI 1) C dX5_turnedOne_29 (by decide) ?_
      refine g_iload_n (pc := 30) C dX5_turnedOne_30 rfl ?_
      refine g_ishl (pc := 31) C dX5_turnedOne_31 ?_
      refine g_iushr (pc := 32) C dX5_turnedOne_32 ?_
      refine g_iload (pc := 33) C dX5_turnedOne_33 rfl ?_
      refine g_iconst (pc := 35) (v := nI 1) C dX5_turnedOne_35 (by decide) ?_
      refine g_iload_n (pc := 36) C dX5_turnedOne_36 rfl ?_
      refine g_ishl (pc := 37) C dX5_turnedOne_37 ?_
      refine g_ishl (pc := 38) C dX5_turnedOne_38 ?_
      refine g_ior (pc := 39) C dX5_turnedOne_39 ?_
      refine g_istore (pc := 40) C dX5_turnedOne_40 (by decide) rfl ?_
      refine g_iload_n (pc := 42) C dX5_turnedOne_42 rfl ?_
      refine g_iconst (pc := 43) (v := nI 2) C dX5_turnedOne_43 (by decide) ?_
      refine g_icmp_le (pc := 44) C 55 dX5_turnedOne_44 (by decide) (fun c44 => ?_) (fun c44 => ?_)
      · refine g_iload (pc := 55) C dX5_turnedOne_55 rfl ?_
        exact g_ireturn (pc := 57) C dX5_turnedOne_57 rfl (by first | (rw [nI_leI (by omega) (by decide)] at c44; have c : ¬ 2 < n := (by omega); rw [if_neg c, nx_shl _ (by omega)]; done) | (rw [nI_leI (by omega) (by decide)] at c44; have c : 2 < n := (by omega); rw [if_pos c, nx_shl _ (by omega)]; done)) (rfl)
      · refine g_iload (pc := 47) C dX5_turnedOne_47 rfl ?_
        refine g_iload (pc := 49) C dX5_turnedOne_49 rfl ?_
        refine g_ior (pc := 51) C dX5_turnedOne_51 ?_
        refine g_goto (pc := 52) C 57 dX5_turnedOne_52 (by decide) ?_
        exact g_ireturn (pc := 57) C dX5_turnedOne_57 rfl (by first | (rw [nI_leI (by omega) (by decide)] at c44; have c : ¬ 2 < n := (by omega); rw [if_neg c, nx_shl _ (by omega)]; done) | (rw [nI_leI (by omega) (by decide)] at c44; have c : 2 < n := (by omega); rw [if_pos c, nx_shl _ (by omega)]; done)) (rfl)
    · exact absurd (nI_le h2 (by omega)) c2
  · refine ⟨nI 0, ?_, fun u hu => by rw [b_0 u hu]; simp [t1, h2]⟩
    refine Mt.of (by decide +kernel) (Nat.le_of_ble_eq_true rfl) (fun κ C => ?_)
    refine g_iload_n (pc := 0) C dX5_turnedOne_0 rfl ?_
    refine g_iconst (pc := 1) (v := nI 2) C dX5_turnedOne_1 (by decide) ?_
    refine g_icmp_ge (pc := 2) C 7 dX5_turnedOne_2 (by decide) (fun c2 => ?_) (fun c2 => ?_)
    · exact absurd c2 (nI_ge (by omega) (by decide))
    · refine g_iconst (pc := 5) (v := nI 0) C dX5_turnedOne_5 (by decide) ?_
      exact g_ireturn (pc := 6) C dX5_turnedOne_6 rfl (rfl) (rfl)
theorem t_turnedInto {turned : Nat} {X : Int32} {S : Nat → Bool} (hT : RT G σ T) (h7 : Cl G σ 7 (cStr G)) (hw : turned < 32) (hX : RB X S) : ∃ Y, Mt G mX5_turnedInto [.ref (ga G 7), .ref (ga G 9), .int (nI turned), .int X] σ (some (.int Y)) σ ∧ RB Y (tI T turned S (tn T)) := by
  obtain ⟨fv, fl, fh, h9, h21, h22, h23, hW, hv, hl, hh⟩ := hT
  have hn5 := hW.1
  have loop : ∀ d t X, t + d = tn T → RB X (tI T turned S t) → ∃ Y, (∀ κ, Cx G mX5_turnedInto κ → Go G mX5_turnedInto κ (some (.int Y)) σ σ 6 [(0, .ref (ga G 7)), (1, .ref (ga G 9)), (2, .int (nI turned)), (4, .int X), (5, .int (nI t))] []) ∧ RB Y (tI T turned S (tn T)) := by
    intro d
    induction d with
    | zero =>
      intro t X ht hX
      refine ⟨X, fun κ C => ?_, by rw [show tn T = t by omega]; exact hX⟩
      refine g_iload (pc := 6) C dX5_turnedInto_6 rfl ?_
      refine g_aload_n (pc := 8) C dX5_turnedInto_8 rfl ?_
      apply gf_X5_46 (pc := 9) C rfl dX5_turnedInto_9
      · repeat (first | assumption | exact Cl.s (by assumption) | refine Cl.n (by first | decide | omega) ?_)
      · rfl
      refine g_icmp_ge (pc := 12) C 48 dX5_turnedInto_12 (by decide) (fun c12 => ?_) (fun c12 => ?_)
      · refine g_iload (pc := 48) C dX5_turnedInto_48 rfl ?_
        exact g_ireturn (pc := 50) C dX5_turnedInto_50 rfl (rfl) (rfl)
      · exact absurd (nI_le (by omega) (by omega)) c12
    | succ d ih =>
      intro t X ht hX
      have ev := hv t (by omega)
      have hv4 := hW.2.1 t (by omega)
      have eb : ((nI turned).toUInt32 >>> ((nI t).toUInt32 &&& Int32.toUInt32 31)).toInt32 &&& nI 1 = nI (b2 (turned.testBit t)) := by rw [nx_ush (by omega) (by omega), nx_and, tb_b2]
      cases hb : turned.testBit t
      · obtain ⟨Y, g1, g2⟩ := ih (t + 1) X (by omega) (by unfold tI; rw [hb]; exact hX)
        refine ⟨Y, fun κ C => ?_, g2⟩
        refine g_iload (pc := 6) C dX5_turnedInto_6 rfl ?_
        refine g_aload_n (pc := 8) C dX5_turnedInto_8 rfl ?_
        apply gf_X5_46 (pc := 9) C rfl dX5_turnedInto_9
        · repeat (first | assumption | exact Cl.s (by assumption) | refine Cl.n (by first | decide | omega) ?_)
        · rfl
        refine g_icmp_ge (pc := 12) C 48 dX5_turnedInto_12 (by decide) (fun c12 => ?_) (fun c12 => ?_)
        · exact absurd c12 (nI_ge (by omega) (by omega))
        · refine g_iload_n (pc := 15) C dX5_turnedInto_15 rfl ?_
          refine g_iload (pc := 16) C dX5_turnedInto_16 rfl ?_
          refine g_iushr (pc := 18) C dX5_turnedInto_18 ?_
          refine g_iconst (pc := 19) (v := nI 1) C dX5_turnedInto_19 (by decide) ?_
          refine g_iand (pc := 20) C dX5_turnedInto_20 ?_
          refine g_iconst (pc := 21) (v := nI 1) C dX5_turnedInto_21 (by decide) ?_
          refine g_icmp_nE (pc := 22) C 42 dX5_turnedInto_22 (by decide) (fun c22 => ?_) (fun c22 => ?_)
          · refine g_iinc (pc := 42) C dX5_turnedInto_42 rfl (by decide) rfl ?_
            refine g_goto (pc := 45) C 6 dX5_turnedInto_45 (by decide) ?_
            exact g_to (g1 κ C) ⟨rfl, rfl, rfl, rfl, lgi (nI_1 t), trivial⟩
          · exact absurd (by rw [eb, hb] at c22; exact c22) (by decide)
      · obtain ⟨Z, z1, z2⟩ := t_turnedOne (t := t) h7 hv4.2 (by omega) hX
        obtain ⟨Y, g1, g2⟩ := ih (t + 1) Z (by omega) (by unfold tI; rw [if_pos hb]; exact z2)
        refine ⟨Y, fun κ C => ?_, g2⟩
        refine g_iload (pc := 6) C dX5_turnedInto_6 rfl ?_
        refine g_aload_n (pc := 8) C dX5_turnedInto_8 rfl ?_
        apply gf_X5_46 (pc := 9) C rfl dX5_turnedInto_9
        · repeat (first | assumption | exact Cl.s (by assumption) | refine Cl.n (by first | decide | omega) ?_)
        · rfl
        refine g_icmp_ge (pc := 12) C 48 dX5_turnedInto_12 (by decide) (fun c12 => ?_) (fun c12 => ?_)
        · exact absurd c12 (nI_ge (by omega) (by omega))
        · refine g_iload_n (pc := 15) C dX5_turnedInto_15 rfl ?_
          refine g_iload (pc := 16) C dX5_turnedInto_16 rfl ?_
          refine g_iushr (pc := 18) C dX5_turnedInto_18 ?_
          refine g_iconst (pc := 19) (v := nI 1) C dX5_turnedInto_19 (by decide) ?_
          refine g_iand (pc := 20) C dX5_turnedInto_20 ?_
          refine g_iconst (pc := 21) (v := nI 1) C dX5_turnedInto_21 (by decide) ?_
          refine g_icmp_nE (pc := 22) C 42 dX5_turnedInto_22 (by decide) (fun c22 => ?_) (fun c22 => ?_)
          · exact absurd (by rw [eb, hb]; rfl) c22
          · refine g_aload_n (pc := 25) C dX5_turnedInto_25 rfl ?_
            refine g_aload_n (pc := 26) C dX5_turnedInto_26 rfl ?_
            apply gf_X5_50 (pc := 27) C rfl dX5_turnedInto_27
            · repeat (first | assumption | exact Cl.s (by assumption) | refine Cl.n (by first | decide | omega) ?_)
            · rfl
            refine g_iload (pc := 30) C dX5_turnedInto_30 rfl ?_
            apply g_iaload (pc := 32) C dX5_turnedInto_32
            · repeat (first | assumption | exact Cl.s (by assumption) | refine Cl.n (by first | decide | omega) ?_)
            · exact vp_in_nI (by omega) (by decide)
            rw [nI_clamp (by omega), ev]
            refine g_iload (pc := 33) C dX5_turnedInto_33 rfl ?_
            refine g_iload (pc := 35) C dX5_turnedInto_35 rfl ?_
            apply cl_X5_53 (pc := 37) C rfl z1 dX5_turnedInto_37
            · repeat (first | assumption | exact Cl.s (by assumption) | refine Cl.n (by first | decide | omega) ?_)
            · rfl
            · exact Nat.le_of_ble_eq_true rfl
            refine g_istore (pc := 40) C dX5_turnedInto_40 (by decide) rfl ?_
            refine g_iinc (pc := 42) C dX5_turnedInto_42 rfl (by decide) rfl ?_
            refine g_goto (pc := 45) C 6 dX5_turnedInto_45 (by decide) ?_
            exact g_to (g1 κ C) ⟨rfl, rfl, rfl, rfl, lgi (nI_1 t), trivial⟩
  obtain ⟨Y, g1, g2⟩ := loop (tn T) 0 X (by omega) hX
  refine ⟨Y, ?_, g2⟩
  refine Mt.of (by decide +kernel) (Nat.le_of_ble_eq_true rfl) (fun κ C => ?_)
  refine g_iload_n (pc := 0) C dX5_turnedInto_0 rfl ?_
  refine g_istore (pc := 1) C dX5_turnedInto_1 (by decide) rfl ?_
  refine g_iconst (pc := 3) (v := nI 0) C dX5_turnedInto_3 (by decide) ?_
  refine g_istore (pc := 4) C dX5_turnedInto_4 (by decide) rfl ?_
  exact g_to (g1 κ C) ⟨rfl, rfl, rfl, rfl, rfl, trivial⟩
theorem t_reaches {f : Nat → Int32} {S : Nat → Bool} (h7 : Cl G σ 7 (cStr G)) (h19 : Cl G σ 19 (iA G 84 f)) {k bar u : Nat} (hk : k < 14) (hb : bar < 6) (hu : u < 32) (hf : RB (f (k * 6 + bar)) S) : Mt G mX5_reaches [.ref (ga G 7), .int (nI k), .int (nI bar), .int (nI u)] σ (some (.int (nI (b2 (S u))))) σ := by
  refine Mt.of (by decide +kernel) (Nat.le_of_ble_eq_true rfl) (fun κ C => ?_)
  cases hs : S u
  · refine g_aload_n (pc := 0) C dX5_reaches_0 rfl ?_
    apply gf_X5_9 (pc := 1) C rfl dX5_reaches_1
    · repeat (first | assumption | exact Cl.s (by assumption) | refine Cl.n (by first | decide | omega) ?_)
    · rfl
    refine g_iload_n (pc := 4) C dX5_reaches_4 rfl ?_
    refine g_bipush (pc := 5) (v := nI 6) C dX5_reaches_5 (by decide) ?_
    refine g_imul (pc := 7) C dX5_reaches_7 ?_
    refine g_iload_n (pc := 8) C dX5_reaches_8 rfl ?_
    refine g_iadd (pc := 9) C dX5_reaches_9 ?_
    rw [pk_mul, nI_add]
    apply g_iaload (pc := 10) C dX5_reaches_10
    · repeat (first | assumption | exact Cl.s (by assumption) | refine Cl.n (by first | decide | omega) ?_)
    · exact vp_in_nI (by omega) (by decide)
    rw [nI_clamp (by omega)]
    refine g_iload_n (pc := 11) C dX5_reaches_11 rfl ?_
    refine g_iushr (pc := 12) C dX5_reaches_12 ?_
    refine g_iconst (pc := 13) (v := nI 1) C dX5_reaches_13 (by decide) ?_
    refine g_iand (pc := 14) C dX5_reaches_14 ?_
    refine g_iconst (pc := 15) (v := nI 1) C dX5_reaches_15 (by decide) ?_
    refine g_icmp_nE (pc := 16) C 23 dX5_reaches_16 (by decide) (fun c16 => ?_) (fun c16 => ?_)
    · refine g_iconst (pc := 23) (v := nI 0) C dX5_reaches_23 (by decide) ?_
      exact g_zreturn (pc := 24) C dX5_reaches_24 rfl (by first | exact Or.inl rfl | exact Or.inr rfl) (rfl) (rfl)
    · exact absurd (by rw [bit_RB hf hu, hs] at c16; exact c16) (by decide)
  · refine g_aload_n (pc := 0) C dX5_reaches_0 rfl ?_
    apply gf_X5_9 (pc := 1) C rfl dX5_reaches_1
    · repeat (first | assumption | exact Cl.s (by assumption) | refine Cl.n (by first | decide | omega) ?_)
    · rfl
    refine g_iload_n (pc := 4) C dX5_reaches_4 rfl ?_
    refine g_bipush (pc := 5) (v := nI 6) C dX5_reaches_5 (by decide) ?_
    refine g_imul (pc := 7) C dX5_reaches_7 ?_
    refine g_iload_n (pc := 8) C dX5_reaches_8 rfl ?_
    refine g_iadd (pc := 9) C dX5_reaches_9 ?_
    rw [pk_mul, nI_add]
    apply g_iaload (pc := 10) C dX5_reaches_10
    · repeat (first | assumption | exact Cl.s (by assumption) | refine Cl.n (by first | decide | omega) ?_)
    · exact vp_in_nI (by omega) (by decide)
    rw [nI_clamp (by omega)]
    refine g_iload_n (pc := 11) C dX5_reaches_11 rfl ?_
    refine g_iushr (pc := 12) C dX5_reaches_12 ?_
    refine g_iconst (pc := 13) (v := nI 1) C dX5_reaches_13 (by decide) ?_
    refine g_iand (pc := 14) C dX5_reaches_14 ?_
    refine g_iconst (pc := 15) (v := nI 1) C dX5_reaches_15 (by decide) ?_
    refine g_icmp_nE (pc := 16) C 23 dX5_reaches_16 (by decide) (fun c16 => ?_) (fun c16 => ?_)
    · exact absurd (by rw [bit_RB hf hu, hs]; rfl) c16
    · refine g_iconst (pc := 19) (v := nI 1) C dX5_reaches_19 (by decide) ?_
      refine g_goto (pc := 20) C 24 dX5_reaches_20 (by decide) ?_
      exact g_zreturn (pc := 24) C dX5_reaches_24 rfl (by first | exact Or.inl rfl | exact Or.inr rfl) (rfl) (rfl)
end STR

