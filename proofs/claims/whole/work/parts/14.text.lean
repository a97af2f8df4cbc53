/-! the text and the row -/
abbrev cText (G : GG) (n : Nat) : va_E := .inr (6, [.ref (ga G 11), .int (nI n)])
abbrev cRow (G : GG) (n : Nat) : va_E := .inr (4, [.ref (ga G 15), .int (nI n)])
def RX (G : GG) (σ : WW) (n : Nat) (x : Nat → Int32) : Prop := Cl G σ 1 (cText G n) ∧ ∃ f, Cl G σ 11 (bA G 300 f) ∧ ∀ k, k < n → f k = x k
def RR (G : GG) (σ : WW) (n : Nat) (w : Nat → Nat) : Prop := Cl G σ 3 (cRow G n) ∧ ∃ f, Cl G σ 15 (iA G 16 f) ∧ ∀ k, k < n → f k = nI (w k)
theorem RX.fr {G : GG} {σ σ' : WW} {n : Nat} {x : Nat → Int32} {ps : List Nat} (h : RX G σ n x) (f : Fr σ σ' ps) (h1 : 1 ∉ ps) (h11 : 11 ∉ ps) : RX G σ' n x := by
  obtain ⟨a, f1, b, c⟩ := h
  exact ⟨a.fr f h1, f1, b.fr f h11, c⟩
theorem RR.fr {G : GG} {σ σ' : WW} {n : Nat} {w : Nat → Nat} {ps : List Nat} (h : RR G σ n w) (f : Fr σ σ' ps) (h1 : 3 ∉ ps) (h11 : 15 ∉ ps) : RR G σ' n w := by
  obtain ⟨a, f1, b, c⟩ := h
  exact ⟨a.fr f h1, f1, b.fr f h11, c⟩
/-- the k-th byte of v from below, as the machine keeps it -/
def byt (v : Int64) (k : Nat) : Int32 := ((v.toUInt64 >>> ((nI (8 * k)).toInt64.toUInt64 &&& Int64.toUInt64 63)).toInt64).toInt32.toInt8.toInt32
/-- d bytes of v, the highest first, behind a text of n -/
def putB (v : Int64) (n : Nat) (x : Nat → Int32) : Nat → Nat → Int32
  | 0 => x
  | d + 1 => putB v (n + 1) (upd x n (byt v d)) d
section TEXT
variable {G : GG} {σ : WW} {T : TS}
theorem t_tclear {n : Nat} {x : Nat → Int32} (hx : RX G σ n x) : ∃ σ', Mt G mX6_clear [.ref (ga G 1)] σ none σ' ∧ RX G σ' 0 x ∧ Fr σ σ' [1] := by
  obtain ⟨h1, f, h11, hf⟩ := hx
  refine ⟨va_up σ 1 (cText G 0), ?_, ⟨Cl.s h1, f, Cl.n (by decide) h11, fun k hk => absurd hk (Nat.not_lt_zero k)⟩, fr3 fr0 (by decide)⟩
  refine Mt.of (by decide +kernel) (Nat.le_of_ble_eq_true rfl) (fun κ C => ?_)
  refine g_aload_n (pc := 0) C dX6_clear_0 rfl ?_
  refine g_iconst (pc := 1) (v := nI 0) C dX6_clear_1 (by decide) ?_
  apply pf_X6_15 (pc := 2) C rfl dX6_clear_2
  · repeat (first | assumption | exact Cl.s (by assumption) | refine Cl.n (by first | decide | omega) ?_)
  · rfl
  · rfl
  · exact Nat.le_of_ble_eq_true rfl
  intro hw2
  exact g_return (pc := 5) C dX6_clear_5 rfl rfl (rfl)
theorem t_hasRoomFor {n k : Nat} {x : Nat → Int32} (hx : RX G σ n x) (hn : n ≤ 300) (hk : k ≤ 8) : Mt G mX6_hasRoomFor [.ref (ga G 1), .int (nI k)] σ (some (.int (nI (b2 (decide (n + k ≤ 300)))))) σ := by
  obtain ⟨h1, f, h11, hf⟩ := hx
  refine Mt.of (by decide +kernel) (Nat.le_of_ble_eq_true rfl) (fun κ C => ?_)
  have e : nI 300 - nI n = nI (300 - n) := pk_sub hn
  refine g_iload_n (pc := 0) C dX6_hasRoomFor_0 rfl ?_
  refine g_sipush (pc := 1) (v := nI 300) C dX6_hasRoomFor_1 (by decide) ?_
  refine g_aload_n (pc := 4) C dX6_hasRoomFor_4 rfl ?_
  apply gf_X6_15 (pc := 5) C rfl dX6_hasRoomFor_5
  · repeat (first | assumption | exact Cl.s (by assumption) | refine Cl.n (by first | decide | omega) ?_)
  · rfl
  refine g_isub (pc := 8) C dX6_hasRoomFor_8 ?_
  refine g_icmp_gt (pc := 9) C 16 dX6_hasRoomFor_9 (by decide) (fun c9 => ?_) (fun c9 => ?_)
  · refine g_iconst (pc := 16) (v := nI 0) C dX6_hasRoomFor_16 (by decide) ?_
    exact g_zreturn (pc := 17) C dX6_hasRoomFor_17 rfl (by first | exact Or.inl rfl | exact Or.inr rfl) (by first | (rw [e, nI_ltI (by omega) (by omega)] at c9; have c : ¬ n + k ≤ 300 := (by omega); simp [b2, c]; done) | (rw [e, nI_ltI (by omega) (by omega)] at c9; have c : n + k ≤ 300 := (by omega); simp [b2, c]; done)) (rfl)
  · refine g_iconst (pc := 12) (v := nI 1) C dX6_hasRoomFor_12 (by decide) ?_
    refine g_goto (pc := 13) C 17 dX6_hasRoomFor_13 (by decide) ?_
    exact g_zreturn (pc := 17) C dX6_hasRoomFor_17 rfl (by first | exact Or.inl rfl | exact Or.inr rfl) (by first | (rw [e, nI_ltI (by omega) (by omega)] at c9; have c : ¬ n + k ≤ 300 := (by omega); simp [b2, c]; done) | (rw [e, nI_ltI (by omega) (by omega)] at c9; have c : n + k ≤ 300 := (by omega); simp [b2, c]; done)) (rfl)
theorem t_append {v : Int64} {d : Nat} : ∀ {σ : WW} {n : Nat} {x : Nat → Int32}, RX G σ n x → n + d ≤ 300 → d ≤ 8 → ∃ σ', Mt G mX6_append [.ref (ga G 1), .int (nI d), .long v] σ (some (.int (nI (n + d)))) σ' ∧ RX G σ' (n + d) (putB v n x d) ∧ Fr σ σ' [1, 11] := by
  intro σ n x hx hn hd
  have loop : ∀ d2 {σ : WW} {n : Nat} {x : Nat → Int32}, RX G σ n x → n + d2 ≤ 300 → d2 ≤ 8 → ∃ σ', (∀ κ, Cx G mX6_append κ → Go G mX6_append κ (some (.int (nI (n + d2)))) σ' σ 5 [(0, .ref (ga G 1)), (2, .long v), (4, .int (lat d2))] []) ∧ RX G σ' (n + d2) (putB v n x d2) ∧ Fr σ σ' [1, 11] := by
    intro d2
    induction d2 with
    | zero =>
      intro σ n x hx hn hd
      have hx' := hx
      obtain ⟨h1, f, h11, hf⟩ := hx
      refine ⟨σ, fun κ C => ?_, hx', fr0⟩
      refine g_iload (pc := 5) C dX6_append_5 rfl ?_
      refine g_if_lt (pc := 7) C 54 dX6_append_7 (by decide) (fun c7 => ?_) (fun c7 => ?_)
      · refine g_aload_n (pc := 54) C dX6_append_54 rfl ?_
        apply gf_X6_15 (pc := 55) C rfl dX6_append_55
        · repeat (first | assumption | exact Cl.s (by assumption) | refine Cl.n (by first | decide | omega) ?_)
        · rfl
        exact g_ireturn (pc := 58) C dX6_append_58 rfl (rfl) (rfl)
      · exact absurd (by rw [lat_0]; decide) c7
    | succ d2 ih =>
      intro σ n x hx hn hd
      obtain ⟨h1, f, h11, hf⟩ := hx
      have hx2 : RX G (va_up (va_up σ 11 (bA G 300 (upd f n (byt v d2)))) 1 (cText G (n + 1))) (n + 1) (upd x n (byt v d2)) := by
        refine ⟨Cl.s (Cl.n (by decide) h1), upd f n (byt v d2), Cl.n (by decide) (Cl.s h11), fun k hk => ?_⟩
        by_cases e : k = n
        · rw [e, pk_us, pk_us]
        · rw [pk_un e, pk_un e]
          exact hf k (by omega)
      obtain ⟨σ1, g1, g2, g3⟩ := ih hx2 (by omega) (by omega)
      refine ⟨σ1, fun κ C => ?_, ?_, fun j hj => (g3 j hj).trans (fr3 (fr3 fr0 (by decide)) (by decide) j hj)⟩
      · have g1 := g1 κ C
        rw [show n + 1 + d2 = n + (d2 + 1) by omega] at g1
        have e8 : vp_nar .byte (byt v d2) = byt v d2 := pk_vb _
        refine g_iload (pc := 5) C dX6_append_5 rfl ?_
        refine g_if_lt (pc := 7) C 54 dX6_append_7 (by decide) (fun c7 => ?_) (fun c7 => ?_)
        · exact absurd c7 (by rw [lat_s]; exact nI_pos (by omega))
        · refine g_aload_n (pc := 10) C dX6_append_10 rfl ?_
          apply gf_X6_15 (pc := 11) C rfl dX6_append_11
          · repeat (first | assumption | exact Cl.s (by assumption) | refine Cl.n (by first | decide | omega) ?_)
          · rfl
          refine g_sipush (pc := 14) (v := nI 300) C dX6_append_14 (by decide) ?_
          refine g_icmp_ge (pc := 17) C 54 dX6_append_17 (by decide) (fun c17 => ?_) (fun c17 => ?_)
          · exact absurd c17 (nI_ge (by omega) (by omega))
          · refine g_aload_n (pc := 20) C dX6_append_20 rfl ?_
            apply gf_X6_9 (pc := 21) C rfl dX6_append_21
            · repeat (first | assumption | exact Cl.s (by assumption) | refine Cl.n (by first | decide | omega) ?_)
            · rfl
            refine g_aload_n (pc := 24) C dX6_append_24 rfl ?_
            apply gf_X6_15 (pc := 25) C rfl dX6_append_25
            · repeat (first | assumption | exact Cl.s (by assumption) | refine Cl.n (by first | decide | omega) ?_)
            · rfl
            refine g_lload_n (pc := 28) C dX6_append_28 rfl ?_
            refine g_bipush (pc := 29) (v := nI 8) C dX6_append_29 (by decide) ?_
            refine g_iload (pc := 31) C dX6_append_31 rfl ?_
            refine g_imul (pc := 33) C dX6_append_33 ?_
            refine g_lushr (pc := 34) C dX6_append_34 ?_
            refine g_l2i (pc := 35) C dX6_append_35 ?_
            refine g_i2b (pc := 36) C dX6_append_36 ?_
            rw [lat_s, pk_mul]
            apply g_bastore (pc := 37) C dX6_append_37
            · repeat (first | assumption | exact Cl.s (by assumption) | refine Cl.n (by first | decide | omega) ?_)
            · exact vp_in_nI (by omega) (by decide)
            intro hw37
            refine g_aload_n (pc := 38) C dX6_append_38 rfl ?_
            refine g_dup (pc := 39) C dX6_append_39 rfl ?_
            apply gf_X6_15 (pc := 40) C rfl dX6_append_40
            · repeat (first | assumption | exact Cl.s (by assumption) | refine Cl.n (by first | decide | omega) ?_)
            · rfl
            refine g_iconst (pc := 43) (v := nI 1) C dX6_append_43 (by decide) ?_
            refine g_iadd (pc := 44) C dX6_append_44 ?_
            apply pf_X6_15 (pc := 45) C rfl dX6_append_45
            · repeat (first | assumption | exact Cl.s (by assumption) | refine Cl.n (by first | decide | omega) ?_)
            · rfl
            · rfl
            · exact Nat.le_of_ble_eq_true rfl
            intro hw45
            refine g_iinc (pc := 48) C dX6_append_48 rfl (by decide) rfl ?_
            refine g_goto (pc := 51) C 5 dX6_append_51 (by decide) ?_
            rw [nI_clamp (by omega), nI_add]
            change vp_nar FieldType.byte _ = _ at e8
            refine g_to (lv' := [(0, .ref (ga G 1)), (2, .long v), (4, .int (lat d2))]) ?_ ⟨rfl, rfl, lgi (by rw [lat, Int32.sub_eq_add_neg]; rfl), trivial⟩
            have e9 : ∀ z, z = byt v d2 → Go G mX6_append κ (some (.int (nI (n + (d2 + 1))))) σ1 (va_up (va_up σ 11 (bA G 300 (upd f n (vp_nar .byte z)))) 1 (cText G (n + 1))) 5 [(0, .ref (ga G 1)), (2, .long v), (4, .int (lat d2))] [] := fun z hz => by rw [hz, e8]; exact g1
            exact e9 _ rfl
      · rw [show n + (d2 + 1) = n + 1 + d2 by omega]
        exact g2
  obtain ⟨σ1, g1, g2, g3⟩ := loop d hx hn hd
  refine ⟨σ1, ?_, g2, g3⟩
  refine Mt.of (by decide +kernel) (Nat.le_of_ble_eq_true rfl) (fun κ C => ?_)
  refine g_iload_n (pc := 0) C dX6_append_0 rfl ?_
  refine g_iconst (pc := 1) (v := nI 1) C dX6_append_1 (by decide) ?_
  refine g_isub (pc := 2) C dX6_append_2 ?_
  refine g_istore (pc := 3) C dX6_append_3 (by decide) rfl ?_
  exact g_to (g1 κ C) ⟨rfl, rfl, lgi (by rw [lat]; rfl), trivial⟩
def writeF (n : Nat) (x : Nat → Int32) (k : Int32) (v : Int64) : Int32 × Nat × (Nat → Int32) := if k < 1 ∨ 8 < k then (-1, n, x) else if n + k.toNatClampNeg ≤ 300 then (nI (n + k.toNatClampNeg), n + k.toNatClampNeg, putB v n x k.toNatClampNeg) else (-3, n, x)
theorem c_write {n : Nat} {x : Nat → Int32} (h0 : Cl G σ 0 (cMain G)) (hx : RX G σ n x) (hn : n ≤ 300) (k : Int32) (v : Int64) : ∃ σ', Mt G mX9_write [.ref (ga G 0), .int k, .long v] σ (some (.int (writeF n x k v).1)) σ' ∧ RX G σ' (writeF n x k v).2.1 (writeF n x k v).2.2 ∧ Fr σ σ' [1, 11] := by
  have h1 := hx.1
  by_cases hk1 : k < 1
  · rw [show writeF n x k v = (-1, n, x) by simp [writeF, hk1]]
    refine ⟨σ, ?_, hx, fr0⟩
    refine Mt.of (by decide +kernel) (Nat.le_of_ble_eq_true rfl) (fun κ C => ?_)
    refine g_iload_n (pc := 0) C dX9_write_0 rfl ?_
    refine g_iconst (pc := 1) (v := nI 1) C dX9_write_1 (by decide) ?_
    refine g_icmp_lt (pc := 2) C 11 dX9_write_2 (by decide) (fun c2 => ?_) (fun c2 => ?_)
    · refine g_iconst (pc := 11) (v := -1) C dX9_write_11 (by decide) ?_
      exact g_ireturn (pc := 12) C dX9_write_12 rfl (rfl) (rfl)
    · exact absurd hk1 c2
  · by_cases hk8 : 8 < k
    · rw [show writeF n x k v = (-1, n, x) by simp [writeF, hk8]]
      refine ⟨σ, ?_, hx, fr0⟩
      refine Mt.of (by decide +kernel) (Nat.le_of_ble_eq_true rfl) (fun κ C => ?_)
      refine g_iload_n (pc := 0) C dX9_write_0 rfl ?_
      refine g_iconst (pc := 1) (v := nI 1) C dX9_write_1 (by decide) ?_
      refine g_icmp_lt (pc := 2) C 11 dX9_write_2 (by decide) (fun c2 => ?_) (fun c2 => ?_)
      · exact absurd c2 hk1
      · refine g_iload_n (pc := 5) C dX9_write_5 rfl ?_
        refine g_bipush (pc := 6) (v := nI 8) C dX9_write_6 (by decide) ?_
        refine g_icmp_le (pc := 8) C 13 dX9_write_8 (by decide) (fun c8 => ?_) (fun c8 => ?_)
        · exact absurd hk8 (Int32.not_lt.mpr c8)
        · refine g_iconst (pc := 11) (v := -1) C dX9_write_11 (by decide) ?_
          exact g_ireturn (pc := 12) C dX9_write_12 rfl (rfl) (rfl)
    · obtain ⟨j, hj, rfl⟩ : ∃ j : Nat, j ≤ 8 ∧ k = nI j := nI_of2 (M := 8) (n := 8) (by decide) (fun q => hk1 (Int32.lt_of_lt_of_le q (by decide))) (Int32.not_lt.mp hk8)
      have ej := nI_clamp (n := j) (by omega)
      by_cases hr : n + j ≤ 300
      · rw [show writeF n x (nI j) v = (nI (n + j), n + j, putB v n x j) by simp [writeF, hk1, hk8, ej, hr]]
        obtain ⟨σ1, g1, g2, g3⟩ := t_append (v := v) (d := j) hx hr hj
        refine ⟨σ1, ?_, g2, g3⟩
        refine Mt.of (by decide +kernel) (Nat.le_of_ble_eq_true rfl) (fun κ C => ?_)
        refine g_iload_n (pc := 0) C dX9_write_0 rfl ?_
        refine g_iconst (pc := 1) (v := nI 1) C dX9_write_1 (by decide) ?_
        refine g_icmp_lt (pc := 2) C 11 dX9_write_2 (by decide) (fun c2 => ?_) (fun c2 => ?_)
        · exact absurd c2 hk1
        · refine g_iload_n (pc := 5) C dX9_write_5 rfl ?_
          refine g_bipush (pc := 6) (v := nI 8) C dX9_write_6 (by decide) ?_
          refine g_icmp_le (pc := 8) C 13 dX9_write_8 (by decide) (fun c8 => ?_) (fun c8 => ?_)
          · refine g_aload_n (pc := 13) C dX9_write_13 rfl ?_
            apply gf_X9_12 (pc := 14) C rfl dX9_write_14
            · repeat (first | assumption | exact Cl.s (by assumption) | refine Cl.n (by first | decide | omega) ?_)
            · rfl
            refine g_iload_n (pc := 17) C dX9_write_17 rfl ?_
            apply cl_X9_98 (pc := 18) C rfl (t_hasRoomFor hx hn hj) dX9_write_18
            · repeat (first | assumption | exact Cl.s (by assumption) | refine Cl.n (by first | decide | omega) ?_)
            · rfl
            · exact Nat.le_of_ble_eq_true rfl
            refine g_if_eq (pc := 21) C 36 dX9_write_21 (by decide) (fun c21 => ?_) (fun c21 => ?_)
            · exact absurd c21 (by simp [hr, b2]; decide)
            · refine g_aload_n (pc := 24) C dX9_write_24 rfl ?_
              apply gf_X9_12 (pc := 25) C rfl dX9_write_25
              · repeat (first | assumption | exact Cl.s (by assumption) | refine Cl.n (by first | decide | omega) ?_)
              · rfl
              refine g_iload_n (pc := 28) C dX9_write_28 rfl ?_
              refine g_lload_n (pc := 29) C dX9_write_29 rfl ?_
              apply cl_X9_87 (pc := 30) C rfl g1 dX9_write_30
              · repeat (first | assumption | exact Cl.s (by assumption) | refine Cl.n (by first | decide | omega) ?_)
              · rfl
              · exact Nat.le_of_ble_eq_true rfl
              refine g_goto (pc := 33) C 38 dX9_write_33 (by decide) ?_
              exact g_ireturn (pc := 38) C dX9_write_38 rfl (rfl) (rfl)
          · exact absurd (Int32.not_lt.mp hk8) c8
      · rw [show writeF n x (nI j) v = (-3, n, x) by simp [writeF, hk1, hk8, ej, hr]]
        refine ⟨σ, ?_, hx, fr0⟩
        refine Mt.of (by decide +kernel) (Nat.le_of_ble_eq_true rfl) (fun κ C => ?_)
        refine g_iload_n (pc := 0) C dX9_write_0 rfl ?_
        refine g_iconst (pc := 1) (v := nI 1) C dX9_write_1 (by decide) ?_
        refine g_icmp_lt (pc := 2) C 11 dX9_write_2 (by decide) (fun c2 => ?_) (fun c2 => ?_)
        · exact absurd c2 hk1
        · refine g_iload_n (pc := 5) C dX9_write_5 rfl ?_
          refine g_bipush (pc := 6) (v := nI 8) C dX9_write_6 (by decide) ?_
          refine g_icmp_le (pc := 8) C 13 dX9_write_8 (by decide) (fun c8 => ?_) (fun c8 => ?_)
          · refine g_aload_n (pc := 13) C dX9_write_13 rfl ?_
            apply gf_X9_12 (pc := 14) C rfl dX9_write_14
            · repeat (first | assumption | exact Cl.s (by assumption) | refine Cl.n (by first | decide | omega) ?_)
            · rfl
            refine g_iload_n (pc := 17) C dX9_write_17 rfl ?_
            apply cl_X9_98 (pc := 18) C rfl (t_hasRoomFor hx hn hj) dX9_write_18
            · repeat (first | assumption | exact Cl.s (by assumption) | refine Cl.n (by first | decide | omega) ?_)
            · rfl
            · exact Nat.le_of_ble_eq_true rfl
            refine g_if_eq (pc := 21) C 36 dX9_write_21 (by decide) (fun c21 => ?_) (fun c21 => ?_)
            · refine g_bipush (pc := 36) (v := -3) C dX9_write_36 (by decide) ?_
              exact g_ireturn (pc := 38) C dX9_write_38 rfl (rfl) (rfl)
            · exact absurd (by simp [hr, b2]; rfl) c21
          · exact absurd (Int32.not_lt.mp hk8) c8
theorem c_wipe {n : Nat} {x : Nat → Int32} (h0 : Cl G σ 0 (cMain G)) (hx : RX G σ n x) : ∃ σ', Mt G mX9_wipe [.ref (ga G 0)] σ (some (.int (nI n))) σ' ∧ RX G σ' 0 x ∧ Fr σ σ' [1] := by
  have h1 := hx.1
  obtain ⟨σ1, g1, g2, g3⟩ := t_tclear hx
  refine ⟨σ1, ?_, g2, g3⟩
  refine Mt.of (by decide +kernel) (Nat.le_of_ble_eq_true rfl) (fun κ C => ?_)
  refine g_aload_n (pc := 0) C dX9_wipe_0 rfl ?_
  apply gf_X9_12 (pc := 1) C rfl dX9_wipe_1
  · repeat (first | assumption | exact Cl.s (by assumption) | refine Cl.n (by first | decide | omega) ?_)
  · rfl
  apply gf_X9_102 (pc := 4) C rfl dX9_wipe_4
  · repeat (first | assumption | exact Cl.s (by assumption) | refine Cl.n (by first | decide | omega) ?_)
  · rfl
  refine g_istore_n (pc := 7) C dX9_wipe_7 (by decide) rfl ?_
  refine g_aload_n (pc := 8) C dX9_wipe_8 rfl ?_
  apply gf_X9_12 (pc := 9) C rfl dX9_wipe_9
  · repeat (first | assumption | exact Cl.s (by assumption) | refine Cl.n (by first | decide | omega) ?_)
  · rfl
  apply cl_X9_95 (pc := 12) C rfl g1 dX9_wipe_12
  · repeat (first | assumption | exact Cl.s (by assumption) | refine Cl.n (by first | decide | omega) ?_)
  · rfl
  · exact Nat.le_of_ble_eq_true rfl
  refine g_iload_n (pc := 15) C dX9_wipe_15 rfl ?_
  exact g_ireturn (pc := 16) C dX9_wipe_16 rfl (rfl) (rfl)
theorem t_at {n k : Nat} {w : Nat → Nat} (hr : RR G σ n w) (hk : k < n) (hn : n ≤ 16) : Mt G mX4_at [.ref (ga G 3), .int (nI k)] σ (some (.int (nI (w k)))) σ := by
  obtain ⟨h3, f, h15, hf⟩ := hr
  refine Mt.of (by decide +kernel) (Nat.le_of_ble_eq_true rfl) (fun κ C => ?_)
  refine g_iload_n (pc := 0) C dX4_at_0 rfl ?_
  refine g_if_lt (pc := 1) C 21 dX4_at_1 (by decide) (fun c1 => ?_) (fun c1 => ?_)
  · exact absurd c1 (nI_pos (by omega))
  · refine g_iload_n (pc := 4) C dX4_at_4 rfl ?_
    refine g_aload_n (pc := 5) C dX4_at_5 rfl ?_
    apply gf_X4_15 (pc := 6) C rfl dX4_at_6
    · repeat (first | assumption | exact Cl.s (by assumption) | refine Cl.n (by first | decide | omega) ?_)
    · rfl
    refine g_icmp_ge (pc := 9) C 21 dX4_at_9 (by decide) (fun c9 => ?_) (fun c9 => ?_)
    · exact absurd c9 (nI_ge hk (by omega))
    · refine g_aload_n (pc := 12) C dX4_at_12 rfl ?_
      apply gf_X4_9 (pc := 13) C rfl dX4_at_13
      · repeat (first | assumption | exact Cl.s (by assumption) | refine Cl.n (by first | decide | omega) ?_)
      · rfl
      refine g_iload_n (pc := 16) C dX4_at_16 rfl ?_
      apply g_iaload (pc := 17) C dX4_at_17
      · repeat (first | assumption | exact Cl.s (by assumption) | refine Cl.n (by first | decide | omega) ?_)
      · exact vp_in_nI (by omega) (by omega)
      refine g_goto (pc := 18) C 22 dX4_at_18 (by decide) ?_
      exact g_ireturn (pc := 22) C dX4_at_22 rfl (by rw [nI_clamp (by omega), hf k hk]) (rfl)
def addF (T : TS) (n : Nat) (w : Nat → Nat) (i : Int32) : Int32 × Nat × (Nat → Nat) := if inR i (tm T) then (if n = 16 then (-3, n, w) else (nI (n + 1), n + 1, fun k => if k = n then i.toNatClampNeg else w k)) else (-1, n, w)
theorem c_add {n : Nat} {w : Nat → Nat} (h0 : Cl G σ 0 (cMain G)) (hT : RT G σ T) (hr : RR G σ n w) (hn : n ≤ 16) (i : Int32) : ∃ σ', Mt G mX9_add [.ref (ga G 0), .int i] σ (some (.int (addF T n w i).1)) σ' ∧ RR G σ' (addF T n w i).2.1 (addF T n w i).2.2 ∧ Fr σ σ' [3, 15] := by
  have hm := hT.w.2.2.2.2.1
  obtain ⟨bo, hc, h9⟩ := hT.c
  have hr' := hr
  obtain ⟨h3, f, h15, hf⟩ := hr
  rcases inR_c i (m := tm T) (by omega) with e | ⟨e, k, hk, rfl⟩
  · rw [show addF T n w i = (-1, n, w) by simp [addF, e]]
    refine ⟨σ, ?_, hr', fr0⟩
    refine Mt.of (by decide +kernel) (Nat.le_of_ble_eq_true rfl) (fun κ C => ?_)
    refine g_aload_n (pc := 0) C dX9_add_0 rfl ?_
    apply gf_X9_68 (pc := 1) C rfl dX9_add_1
    · repeat (first | assumption | exact Cl.s (by assumption) | refine Cl.n (by first | decide | omega) ?_)
    · rfl
    refine g_iload_n (pc := 4) C dX9_add_4 rfl ?_
    apply cl_X9_115 (pc := 5) C rfl (t_hasPerson hT i) dX9_add_5
    · repeat (first | assumption | exact Cl.s (by assumption) | refine Cl.n (by first | decide | omega) ?_)
    · rfl
    · exact Nat.le_of_ble_eq_true rfl
    refine g_if_nE (pc := 8) C 13 dX9_add_8 (by decide) (fun c8 => ?_) (fun c8 => ?_)
    · exact absurd (by rw [e]; rfl) c8
    · refine g_iconst (pc := 11) (v := -1) C dX9_add_11 (by decide) ?_
      exact g_ireturn (pc := 12) C dX9_add_12 rfl (rfl) (rfl)
  · by_cases hc16 : n = 16
    · subst hc16
      rw [show addF T 16 w (nI k) = (-3, 16, w) by simp [addF, e]]
      refine ⟨σ, ?_, hr', fr0⟩
      have ha : Mt G mX4_append [.ref (ga G 3), .int (nI k)] σ (some (.int (nI 0))) σ := by
        refine Mt.of (by decide +kernel) (Nat.le_of_ble_eq_true rfl) (fun κ C => ?_)
        refine g_aload_n (pc := 0) C dX4_append_0 rfl ?_
        apply gf_X4_15 (pc := 1) C rfl dX4_append_1
        · repeat (first | assumption | exact Cl.s (by assumption) | refine Cl.n (by first | decide | omega) ?_)
        · rfl
        refine g_bipush (pc := 4) (v := nI 16) C dX4_append_4 (by decide) ?_
        refine g_icmp_lt (pc := 6) C 11 dX4_append_6 (by decide) (fun c6 => ?_) (fun c6 => ?_)
        · exact absurd c6 (by decide)
        · refine g_iconst (pc := 9) (v := nI 0) C dX4_append_9 (by decide) ?_
          exact g_zreturn (pc := 10) C dX4_append_10 rfl (by first | exact Or.inl rfl | exact Or.inr rfl) (rfl) (rfl)
      refine Mt.of (by decide +kernel) (Nat.le_of_ble_eq_true rfl) (fun κ C => ?_)
      refine g_aload_n (pc := 0) C dX9_add_0 rfl ?_
      apply gf_X9_68 (pc := 1) C rfl dX9_add_1
      · repeat (first | assumption | exact Cl.s (by assumption) | refine Cl.n (by first | decide | omega) ?_)
      · rfl
      refine g_iload_n (pc := 4) C dX9_add_4 rfl ?_
      apply cl_X9_115 (pc := 5) C rfl (t_hasPerson hT (nI k)) dX9_add_5
      · repeat (first | assumption | exact Cl.s (by assumption) | refine Cl.n (by first | decide | omega) ?_)
      · rfl
      · exact Nat.le_of_ble_eq_true rfl
      refine g_if_nE (pc := 8) C 13 dX9_add_8 (by decide) (fun c8 => ?_) (fun c8 => ?_)
      · refine g_aload_n (pc := 13) C dX9_add_13 rfl ?_
        apply gf_X9_26 (pc := 14) C rfl dX9_add_14
        · repeat (first | assumption | exact Cl.s (by assumption) | refine Cl.n (by first | decide | omega) ?_)
        · rfl
        refine g_iload_n (pc := 17) C dX9_add_17 rfl ?_
        apply cl_X9_166 (pc := 18) C rfl ha dX9_add_18
        · repeat (first | assumption | exact Cl.s (by assumption) | refine Cl.n (by first | decide | omega) ?_)
        · rfl
        · exact Nat.le_of_ble_eq_true rfl
        refine g_if_eq (pc := 21) C 34 dX9_add_21 (by decide) (fun c21 => ?_) (fun c21 => ?_)
        · refine g_bipush (pc := 34) (v := -3) C dX9_add_34 (by decide) ?_
          exact g_ireturn (pc := 36) C dX9_add_36 rfl (rfl) (rfl)
        · exact absurd rfl c21
      · exact absurd c8 (by rw [e]; decide)
    · rw [show addF T n w (nI k) = (nI (n + 1), n + 1, fun j => if j = n then k else w j) by simp [addF, e, hc16, nI_clamp (show k < 2 ^ 31 by omega)]]
      have ha : Mt G mX4_append [.ref (ga G 3), .int (nI k)] σ (some (.int (nI 1))) (va_up (va_up σ 15 (iA G 16 (upd f n (nI k)))) 3 (cRow G (n + 1))) := by
        refine Mt.of (by decide +kernel) (Nat.le_of_ble_eq_true rfl) (fun κ C => ?_)
        refine g_aload_n (pc := 0) C dX4_append_0 rfl ?_
        apply gf_X4_15 (pc := 1) C rfl dX4_append_1
        · repeat (first | assumption | exact Cl.s (by assumption) | refine Cl.n (by first | decide | omega) ?_)
        · rfl
        refine g_bipush (pc := 4) (v := nI 16) C dX4_append_4 (by decide) ?_
        refine g_icmp_lt (pc := 6) C 11 dX4_append_6 (by decide) (fun c6 => ?_) (fun c6 => ?_)
        · refine g_aload_n (pc := 11) C dX4_append_11 rfl ?_
          apply gf_X4_9 (pc := 12) C rfl dX4_append_12
          · repeat (first | assumption | exact Cl.s (by assumption) | refine Cl.n (by first | decide | omega) ?_)
          · rfl
          refine g_aload_n (pc := 15) C dX4_append_15 rfl ?_
          apply gf_X4_15 (pc := 16) C rfl dX4_append_16
          · repeat (first | assumption | exact Cl.s (by assumption) | refine Cl.n (by first | decide | omega) ?_)
          · rfl
          refine g_iload_n (pc := 19) C dX4_append_19 rfl ?_
          apply g_iastore (pc := 20) C dX4_append_20
          · repeat (first | assumption | exact Cl.s (by assumption) | refine Cl.n (by first | decide | omega) ?_)
          · exact vp_in_nI (by omega) (by decide)
          intro hw20
          refine g_aload_n (pc := 21) C dX4_append_21 rfl ?_
          refine g_dup (pc := 22) C dX4_append_22 rfl ?_
          apply gf_X4_15 (pc := 23) C rfl dX4_append_23
          · repeat (first | assumption | exact Cl.s (by assumption) | refine Cl.n (by first | decide | omega) ?_)
          · rfl
          refine g_iconst (pc := 26) (v := nI 1) C dX4_append_26 (by decide) ?_
          refine g_iadd (pc := 27) C dX4_append_27 ?_
          apply pf_X4_15 (pc := 28) C rfl dX4_append_28
          · repeat (first | assumption | exact Cl.s (by assumption) | refine Cl.n (by first | decide | omega) ?_)
          · rfl
          · rfl
          · exact Nat.le_of_ble_eq_true rfl
          intro hw28
          refine g_iconst (pc := 31) (v := nI 1) C dX4_append_31 (by decide) ?_
          exact g_zreturn (pc := 32) C dX4_append_32 rfl (by first | exact Or.inl rfl | exact Or.inr rfl) (rfl) (by rw [nI_clamp (by omega), nI_add]; rfl)
        · exact absurd (nI_lt (by omega) (by decide)) c6
      have h3' : Cl G (va_up (va_up σ 15 (iA G 16 (upd f n (nI k)))) 3 (cRow G (n + 1))) 3 (cRow G (n + 1)) := Cl.s (Cl.n (by decide) h3)
      refine ⟨_, ?_, ⟨h3', upd f n (nI k), Cl.n (by decide) (Cl.s h15), ?_⟩, fr3 (fr3 fr0 (by decide)) (by decide)⟩
      · refine Mt.of (by decide +kernel) (Nat.le_of_ble_eq_true rfl) (fun κ C => ?_)
        refine g_aload_n (pc := 0) C dX9_add_0 rfl ?_
        apply gf_X9_68 (pc := 1) C rfl dX9_add_1
        · repeat (first | assumption | exact Cl.s (by assumption) | refine Cl.n (by first | decide | omega) ?_)
        · rfl
        refine g_iload_n (pc := 4) C dX9_add_4 rfl ?_
        apply cl_X9_115 (pc := 5) C rfl (t_hasPerson hT (nI k)) dX9_add_5
        · repeat (first | assumption | exact Cl.s (by assumption) | refine Cl.n (by first | decide | omega) ?_)
        · rfl
        · exact Nat.le_of_ble_eq_true rfl
        refine g_if_nE (pc := 8) C 13 dX9_add_8 (by decide) (fun c8 => ?_) (fun c8 => ?_)
        · refine g_aload_n (pc := 13) C dX9_add_13 rfl ?_
          apply gf_X9_26 (pc := 14) C rfl dX9_add_14
          · repeat (first | assumption | exact Cl.s (by assumption) | refine Cl.n (by first | decide | omega) ?_)
          · rfl
          refine g_iload_n (pc := 17) C dX9_add_17 rfl ?_
          apply cl_X9_166 (pc := 18) C rfl ha dX9_add_18
          · repeat (first | assumption | exact Cl.s (by assumption) | refine Cl.n (by first | decide | omega) ?_)
          · rfl
          · exact Nat.le_of_ble_eq_true rfl
          refine g_if_eq (pc := 21) C 34 dX9_add_21 (by decide) (fun c21 => ?_) (fun c21 => ?_)
          · exact absurd c21 (by decide)
          · refine g_aload_n (pc := 24) C dX9_add_24 rfl ?_
            apply gf_X9_26 (pc := 25) C rfl dX9_add_25
            · repeat (first | assumption | exact Cl.s (by assumption) | refine Cl.n (by first | decide | omega) ?_)
            · rfl
            apply gf_X9_109 (pc := 28) C rfl dX9_add_28
            · repeat (first | assumption | exact Cl.s (by assumption) | refine Cl.n (by first | decide | omega) ?_)
            · rfl
            refine g_goto (pc := 31) C 36 dX9_add_31 (by decide) ?_
            exact g_ireturn (pc := 36) C dX9_add_36 rfl (rfl) (rfl)
        · exact absurd c8 (by rw [e]; decide)
      · intro j hj
        by_cases e : j = n
        · rw [e, pk_us]
          simp
        · rw [pk_un e, hf j (by have hj : j < n + 1 := hj; omega)]
          simp [e]
theorem c_noRow {n : Nat} {w : Nat → Nat} (h0 : Cl G σ 0 (cMain G)) (hr : RR G σ n w) : ∃ σ', Mt G mX9_noRow [.ref (ga G 0)] σ (some (.int (nI n))) σ' ∧ RR G σ' 0 w ∧ Fr σ σ' [3] := by
  obtain ⟨h3, f, h15, hf⟩ := hr
  refine ⟨va_up σ 3 (cRow G 0), ?_, ⟨Cl.s h3, f, Cl.n (by decide) h15, fun k hk => absurd hk (Nat.not_lt_zero k)⟩, fr3 fr0 (by decide)⟩
  refine Mt.of (by decide +kernel) (Nat.le_of_ble_eq_true rfl) (fun κ C => ?_)
  refine g_aload_n (pc := 0) C dX9_noRow_0 rfl ?_
  apply gf_X9_26 (pc := 1) C rfl dX9_noRow_1
  · repeat (first | assumption | exact Cl.s (by assumption) | refine Cl.n (by first | decide | omega) ?_)
  · rfl
  apply gf_X9_109 (pc := 4) C rfl dX9_noRow_4
  · repeat (first | assumption | exact Cl.s (by assumption) | refine Cl.n (by first | decide | omega) ?_)
  · rfl
  refine g_istore_n (pc := 7) C dX9_noRow_7 (by decide) rfl ?_
  refine g_aload_n (pc := 8) C dX9_noRow_8 rfl ?_
  apply gf_X9_26 (pc := 9) C rfl dX9_noRow_9
  · repeat (first | assumption | exact Cl.s (by assumption) | refine Cl.n (by first | decide | omega) ?_)
  · rfl
  refine g_iconst (pc := 12) (v := nI 0) C dX9_noRow_12 (by decide) ?_
  apply pf_X9_109 (pc := 13) C rfl dX9_noRow_13
  · repeat (first | assumption | exact Cl.s (by assumption) | refine Cl.n (by first | decide | omega) ?_)
  · rfl
  · rfl
  · exact Nat.le_of_ble_eq_true rfl
  intro hw13
  refine g_iload_n (pc := 16) C dX9_noRow_16 rfl ?_
  exact g_ireturn (pc := 17) C dX9_noRow_17 rfl (rfl) (rfl)
end TEXT

