/-! the reference's constructor -/
theorem T0_W : TW T0 := by unfold TW; decide +kernel
theorem T0_v : tl T0 = 0 ∧ tg T0 = 31 ∧ tn T0 = 2 ∧ tm T0 = 3 ∧ tv T0 0 = 2 ∧ tv T0 1 = 2 ∧ tb T0 0 = 0 ∧ tb T0 1 = 1 := by decide +kernel
theorem T0_p : tp T0 0 0 = 0 ∧ tp T0 0 1 = 0 ∧ tp T0 1 0 = 0 ∧ tp T0 1 1 = 1 ∧ tp T0 2 0 = 1 ∧ tp T0 2 1 = 1 := by decide +kernel
theorem T0_q {f : Nat → Int32} (h : f 45 = nI 0 ∧ f 46 = nI 0 ∧ f 50 = nI 0 ∧ f 51 = nI 1 ∧ f 55 = nI 1 ∧ f 56 = nI 1) : ∀ i, i < tm T0 → ∀ t, t < tn T0 → f (45 + 5 * i + t) = nI (tp T0 i t) := by
  obtain ⟨-, -, hn, hm, -⟩ := T0_v
  obtain ⟨p0, p1, p2, p3, p4, p5⟩ := T0_p
  obtain ⟨h0, h1, h2, h3, h4, h5⟩ := h
  intro i hi t ht
  rw [hm] at hi
  rw [hn] at ht
  have e1 : i = 0 ∨ i = 1 ∨ i = 2 := by omega
  have e2 : t = 0 ∨ t = 1 := by omega
  rcases e1 with rfl | rfl | rfl <;> rcases e2 with rfl | rfl
  · rw [p0]; exact h0
  · rw [p1]; exact h1
  · rw [p2]; exact h2
  · rw [p3]; exact h3
  · rw [p4]; exact h4
  · rw [p5]; exact h5
theorem n_iastW {X : XX} {κ : KK} {Q : State → Prop} {cs sl pc : Nat} {lv : List (Nat × Value)} {st : List Value} {G : GG} {σ : WW} (C : Cn X κ) (hX : GX X G) {i n : Nat} {f : Nat → Int32} {j x : Int32} (hd : decode (xc X) pc = .ok (.iastore, 1)) (hσ : Cl G σ i (iA G n f)) (hj : vp_in j n) (kk : Gn X κ Q (WP G (va_up σ i (iA G n (upd f j.toNatClampNeg x)))) cs sl (pc + 1) lv st) : Gn X κ Q (WP G σ) cs sl pc lv (.int x :: .int j :: .ref (ga G i) :: st) := fun H locs ls hP hS hl => by
  have hK : va_K (gD G) vwCl (tys3 G) (ks κ) := by rw [hX.2.1, hX.2.2.1]; exact C.k
  have hD : va_D (xA X) (wd G σ) := by
    obtain ⟨a, -⟩ := wd_D (G := G) (σ := σ) (sz := 0) hX.2.2.2.1
    refine ⟨a, fun k q hk => ?_⟩
    obtain ⟨h1, rfl⟩ := wd_lt hk
    exact hX.2.2.2.2 k h1
  exact va_iast C.1 C.2.1 hK hP hD hS i 1 (wd_is hσ) rfl hj hd (fun H1 locs1 h1 _ h3 => kk H1 locs1 ls (by rw [wd_set _ hσ.1] at h1; exact h1) h3 hl)
theorem v_730 : (Cond.methodLink "UnlikeGateModel" (1) Lib.objectInit) ∈ GW := gw_tbl (List.mem_of_getElem? (i := 730) (by decide +kernel)) (by decide +kernel)
theorem i_X10 (l : Launch) (D : va_G) (t : ClassId × ClassId × ClassId) : MI l D t mX10_init (.inr (10, [.int 0, .null, .int 0, .null, .null, .null, .null, .null, .null, .null, .int 0, .int 0, .null, .int 0, .null, .null, .null, .null, .null, .null, .null, .null, .null])) (fun h0 sz H => ∃ G σ, BaseG l D t 19 h0 (va_A [(h0, .inr (10, [.int 0, .null, .int 0, .null, .null, .null, .null, .null, .null, .null, .int 0, .int 0, .null, .int 0, .null, .null, .null, .null, .null, .null, .null, .null, .null]))] sz) G ∧ WP G σ H ∧ AllQ G σ 0 xS0 T0 hh0 0 (fun _ => 0)) 18 11605 (fun h0 sz U => HoldX (va_A [(h0, .inr (10, [.int 0, .null, .int 0, .null, .null, .null, .null, .null, .null, .null, .int 0, .int 0, .null, .int 0, .null, .null, .null, .null, .null, .null, .null, .null, .null]))] sz) U) := by
  refine MI.of (by decide +kernel) rfl rfl (by decide) (fun h0 sz κ C hI hr hsz hH => ?_)
  refine n_aload_n (pc := 0) C dX10_init_0 rfl ?_
  refine n_obj (pc := 1) C dX10_init_1 v_730 v_26 v_27 (Nat.le_of_ble_eq_true rfl) (Nat.le_of_ble_eq_true rfl) ?_
  refine n_aload_n (pc := 4) C dX10_init_4 rfl ?_
  refine n_sipush (pc := 5) (v := nI 300) C dX10_init_5 (by decide) ?_
  refine n_newB (pc := 8) (n := 300) C dX10_init_8 (by decide) (Nat.le_of_ble_eq_true rfl) (Nat.le_of_ble_eq_true rfl) v_42 (fun q1 => ?_)
  refine n_phi (Φ' := PW _ [(h0, .inr (10, [.int 0, .null, .int 0, .null, .null, .null, .null, .null, .null, .null, .int 0, .int 0, .null, .int 0, .null, .null, .null, .null, .null, .null, .null, .null, .null])), (q1, .inl (t.1, 300, .inl fun _ => 0))]) (fun _ h => h) ?_
  refine n_putF (pc := 10) (ci := 10) (k := 1) (i := 0) (ty := tyX10 1) C dX10_init_10 rfl inGX10 tyX10_ok nmX10 (by decide) w_740 rfl hI rfl (by decide +kernel) rfl rfl rfl (Nat.le_of_ble_eq_true rfl) ?_
  refine n_phi (Φ' := PW _ [(h0, .inr (10, [.int 0, .ref q1, .int 0, .null, .null, .null, .null, .null, .null, .null, .int 0, .int 0, .null, .int 0, .null, .null, .null, .null, .null, .null, .null, .null, .null])), (q1, .inl (t.1, 300, .inl fun _ => 0))]) (fun _ h => h) ?_
  refine n_aload_n (pc := 13) C dX10_init_13 rfl ?_
  refine n_iconst (pc := 14) (v := nI 4) C dX10_init_14 (by decide) ?_
  refine n_newI (pc := 15) (n := 4) C dX10_init_15 (by decide) (Nat.le_of_ble_eq_true rfl) (Nat.le_of_ble_eq_true rfl) v_88 (fun q2 => ?_)
  refine n_phi (Φ' := PW _ [(h0, .inr (10, [.int 0, .ref q1, .int 0, .null, .null, .null, .null, .null, .null, .null, .int 0, .int 0, .null, .int 0, .null, .null, .null, .null, .null, .null, .null, .null, .null])), (q1, .inl (t.1, 300, .inl fun _ => 0)), (q2, .inl (t.2.1, 4, .inl fun _ => 0))]) (fun _ h => h) ?_
  refine n_putF (pc := 17) (ci := 10) (k := 3) (i := 0) (ty := tyX10 3) C dX10_init_17 rfl inGX10 tyX10_ok nmX10 (by decide) w_742 rfl hI rfl (by decide +kernel) rfl rfl rfl (Nat.le_of_ble_eq_true rfl) ?_
  refine n_phi (Φ' := PW _ [(h0, .inr (10, [.int 0, .ref q1, .int 0, .ref q2, .null, .null, .null, .null, .null, .null, .int 0, .int 0, .null, .int 0, .null, .null, .null, .null, .null, .null, .null, .null, .null])), (q1, .inl (t.1, 300, .inl fun _ => 0)), (q2, .inl (t.2.1, 4, .inl fun _ => 0))]) (fun _ h => h) ?_
  refine n_aload_n (pc := 20) C dX10_init_20 rfl ?_
  refine n_iconst (pc := 21) (v := nI 2) C dX10_init_21 (by decide) ?_
  refine n_newI (pc := 22) (n := 2) C dX10_init_22 (by decide) (Nat.le_of_ble_eq_true rfl) (Nat.le_of_ble_eq_true rfl) v_88 (fun q3 => ?_)
  refine n_phi (Φ' := PW _ [(h0, .inr (10, [.int 0, .ref q1, .int 0, .ref q2, .null, .null, .null, .null, .null, .null, .int 0, .int 0, .null, .int 0, .null, .null, .null, .null, .null, .null, .null, .null, .null])), (q1, .inl (t.1, 300, .inl fun _ => 0)), (q2, .inl (t.2.1, 4, .inl fun _ => 0)), (q3, .inl (t.2.1, 2, .inl fun _ => 0))]) (fun _ h => h) ?_
  refine n_putF (pc := 24) (ci := 10) (k := 4) (i := 0) (ty := tyX10 4) C dX10_init_24 rfl inGX10 tyX10_ok nmX10 (by decide) w_743 rfl hI rfl (by decide +kernel) rfl rfl rfl (Nat.le_of_ble_eq_true rfl) ?_
  refine n_phi (Φ' := PW _ [(h0, .inr (10, [.int 0, .ref q1, .int 0, .ref q2, .ref q3, .null, .null, .null, .null, .null, .int 0, .int 0, .null, .int 0, .null, .null, .null, .null, .null, .null, .null, .null, .null])), (q1, .inl (t.1, 300, .inl fun _ => 0)), (q2, .inl (t.2.1, 4, .inl fun _ => 0)), (q3, .inl (t.2.1, 2, .inl fun _ => 0))]) (fun _ h => h) ?_
  refine n_aload_n (pc := 27) C dX10_init_27 rfl ?_
  refine n_bipush (pc := 28) (v := nI 10) C dX10_init_28 (by decide) ?_
  refine n_newI (pc := 30) (n := 10) C dX10_init_30 (by decide) (Nat.le_of_ble_eq_true rfl) (Nat.le_of_ble_eq_true rfl) v_88 (fun q4 => ?_)
  refine n_phi (Φ' := PW _ [(h0, .inr (10, [.int 0, .ref q1, .int 0, .ref q2, .ref q3, .null, .null, .null, .null, .null, .int 0, .int 0, .null, .int 0, .null, .null, .null, .null, .null, .null, .null, .null, .null])), (q1, .inl (t.1, 300, .inl fun _ => 0)), (q2, .inl (t.2.1, 4, .inl fun _ => 0)), (q3, .inl (t.2.1, 2, .inl fun _ => 0)), (q4, .inl (t.2.1, 10, .inl fun _ => 0))]) (fun _ h => h) ?_
  refine n_putF (pc := 32) (ci := 10) (k := 5) (i := 0) (ty := tyX10 5) C dX10_init_32 rfl inGX10 tyX10_ok nmX10 (by decide) w_744 rfl hI rfl (by decide +kernel) rfl rfl rfl (Nat.le_of_ble_eq_true rfl) ?_
  refine n_phi (Φ' := PW _ [(h0, .inr (10, [.int 0, .ref q1, .int 0, .ref q2, .ref q3, .ref q4, .null, .null, .null, .null, .int 0, .int 0, .null, .int 0, .null, .null, .null, .null, .null, .null, .null, .null, .null])), (q1, .inl (t.1, 300, .inl fun _ => 0)), (q2, .inl (t.2.1, 4, .inl fun _ => 0)), (q3, .inl (t.2.1, 2, .inl fun _ => 0)), (q4, .inl (t.2.1, 10, .inl fun _ => 0))]) (fun _ h => h) ?_
  refine n_aload_n (pc := 35) C dX10_init_35 rfl ?_
  refine n_bipush (pc := 36) (v := nI 10) C dX10_init_36 (by decide) ?_
  refine n_newI (pc := 38) (n := 10) C dX10_init_38 (by decide) (Nat.le_of_ble_eq_true rfl) (Nat.le_of_ble_eq_true rfl) v_88 (fun q5 => ?_)
  refine n_phi (Φ' := PW _ [(h0, .inr (10, [.int 0, .ref q1, .int 0, .ref q2, .ref q3, .ref q4, .null, .null, .null, .null, .int 0, .int 0, .null, .int 0, .null, .null, .null, .null, .null, .null, .null, .null, .null])), (q1, .inl (t.1, 300, .inl fun _ => 0)), (q2, .inl (t.2.1, 4, .inl fun _ => 0)), (q3, .inl (t.2.1, 2, .inl fun _ => 0)), (q4, .inl (t.2.1, 10, .inl fun _ => 0)), (q5, .inl (t.2.1, 10, .inl fun _ => 0))]) (fun _ h => h) ?_
  refine n_putF (pc := 40) (ci := 10) (k := 6) (i := 0) (ty := tyX10 6) C dX10_init_40 rfl inGX10 tyX10_ok nmX10 (by decide) w_745 rfl hI rfl (by decide +kernel) rfl rfl rfl (Nat.le_of_ble_eq_true rfl) ?_
  refine n_phi (Φ' := PW _ [(h0, .inr (10, [.int 0, .ref q1, .int 0, .ref q2, .ref q3, .ref q4, .ref q5, .null, .null, .null, .int 0, .int 0, .null, .int 0, .null, .null, .null, .null, .null, .null, .null, .null, .null])), (q1, .inl (t.1, 300, .inl fun _ => 0)), (q2, .inl (t.2.1, 4, .inl fun _ => 0)), (q3, .inl (t.2.1, 2, .inl fun _ => 0)), (q4, .inl (t.2.1, 10, .inl fun _ => 0)), (q5, .inl (t.2.1, 10, .inl fun _ => 0))]) (fun _ h => h) ?_
  refine n_aload_n (pc := 43) C dX10_init_43 rfl ?_
  refine n_iconst (pc := 44) (v := nI 2) C dX10_init_44 (by decide) ?_
  refine n_newI (pc := 45) (n := 2) C dX10_init_45 (by decide) (Nat.le_of_ble_eq_true rfl) (Nat.le_of_ble_eq_true rfl) v_88 (fun q6 => ?_)
  refine n_phi (Φ' := PW _ [(h0, .inr (10, [.int 0, .ref q1, .int 0, .ref q2, .ref q3, .ref q4, .ref q5, .null, .null, .null, .int 0, .int 0, .null, .int 0, .null, .null, .null, .null, .null, .null, .null, .null, .null])), (q1, .inl (t.1, 300, .inl fun _ => 0)), (q2, .inl (t.2.1, 4, .inl fun _ => 0)), (q3, .inl (t.2.1, 2, .inl fun _ => 0)), (q4, .inl (t.2.1, 10, .inl fun _ => 0)), (q5, .inl (t.2.1, 10, .inl fun _ => 0)), (q6, .inl (t.2.1, 2, .inl fun _ => 0))]) (fun _ h => h) ?_
  refine n_putF (pc := 47) (ci := 10) (k := 7) (i := 0) (ty := tyX10 7) C dX10_init_47 rfl inGX10 tyX10_ok nmX10 (by decide) w_746 rfl hI rfl (by decide +kernel) rfl rfl rfl (Nat.le_of_ble_eq_true rfl) ?_
  refine n_phi (Φ' := PW _ [(h0, .inr (10, [.int 0, .ref q1, .int 0, .ref q2, .ref q3, .ref q4, .ref q5, .ref q6, .null, .null, .int 0, .int 0, .null, .int 0, .null, .null, .null, .null, .null, .null, .null, .null, .null])), (q1, .inl (t.1, 300, .inl fun _ => 0)), (q2, .inl (t.2.1, 4, .inl fun _ => 0)), (q3, .inl (t.2.1, 2, .inl fun _ => 0)), (q4, .inl (t.2.1, 10, .inl fun _ => 0)), (q5, .inl (t.2.1, 10, .inl fun _ => 0)), (q6, .inl (t.2.1, 2, .inl fun _ => 0))]) (fun _ h => h) ?_
  refine n_aload_n (pc := 50) C dX10_init_50 rfl ?_
  refine n_bipush (pc := 51) (v := nI 90) C dX10_init_51 (by decide) ?_
  refine n_newI (pc := 53) (n := 90) C dX10_init_53 (by decide) (Nat.le_of_ble_eq_true rfl) (Nat.le_of_ble_eq_true rfl) v_88 (fun q7 => ?_)
  refine n_phi (Φ' := PW _ [(h0, .inr (10, [.int 0, .ref q1, .int 0, .ref q2, .ref q3, .ref q4, .ref q5, .ref q6, .null, .null, .int 0, .int 0, .null, .int 0, .null, .null, .null, .null, .null, .null, .null, .null, .null])), (q1, .inl (t.1, 300, .inl fun _ => 0)), (q2, .inl (t.2.1, 4, .inl fun _ => 0)), (q3, .inl (t.2.1, 2, .inl fun _ => 0)), (q4, .inl (t.2.1, 10, .inl fun _ => 0)), (q5, .inl (t.2.1, 10, .inl fun _ => 0)), (q6, .inl (t.2.1, 2, .inl fun _ => 0)), (q7, .inl (t.2.1, 90, .inl fun _ => 0))]) (fun _ h => h) ?_
  refine n_putF (pc := 55) (ci := 10) (k := 8) (i := 0) (ty := tyX10 8) C dX10_init_55 rfl inGX10 tyX10_ok nmX10 (by decide) w_747 rfl hI rfl (by decide +kernel) rfl rfl rfl (Nat.le_of_ble_eq_true rfl) ?_
  refine n_phi (Φ' := PW _ [(h0, .inr (10, [.int 0, .ref q1, .int 0, .ref q2, .ref q3, .ref q4, .ref q5, .ref q6, .ref q7, .null, .int 0, .int 0, .null, .int 0, .null, .null, .null, .null, .null, .null, .null, .null, .null])), (q1, .inl (t.1, 300, .inl fun _ => 0)), (q2, .inl (t.2.1, 4, .inl fun _ => 0)), (q3, .inl (t.2.1, 2, .inl fun _ => 0)), (q4, .inl (t.2.1, 10, .inl fun _ => 0)), (q5, .inl (t.2.1, 10, .inl fun _ => 0)), (q6, .inl (t.2.1, 2, .inl fun _ => 0)), (q7, .inl (t.2.1, 90, .inl fun _ => 0))]) (fun _ h => h) ?_
  refine n_aload_n (pc := 58) C dX10_init_58 rfl ?_
  refine n_bipush (pc := 59) (v := nI 9) C dX10_init_59 (by decide) ?_
  refine n_newI (pc := 61) (n := 9) C dX10_init_61 (by decide) (Nat.le_of_ble_eq_true rfl) (Nat.le_of_ble_eq_true rfl) v_88 (fun q8 => ?_)
  refine n_phi (Φ' := PW _ [(h0, .inr (10, [.int 0, .ref q1, .int 0, .ref q2, .ref q3, .ref q4, .ref q5, .ref q6, .ref q7, .null, .int 0, .int 0, .null, .int 0, .null, .null, .null, .null, .null, .null, .null, .null, .null])), (q1, .inl (t.1, 300, .inl fun _ => 0)), (q2, .inl (t.2.1, 4, .inl fun _ => 0)), (q3, .inl (t.2.1, 2, .inl fun _ => 0)), (q4, .inl (t.2.1, 10, .inl fun _ => 0)), (q5, .inl (t.2.1, 10, .inl fun _ => 0)), (q6, .inl (t.2.1, 2, .inl fun _ => 0)), (q7, .inl (t.2.1, 90, .inl fun _ => 0)), (q8, .inl (t.2.1, 9, .inl fun _ => 0))]) (fun _ h => h) ?_
  refine n_putF (pc := 63) (ci := 10) (k := 9) (i := 0) (ty := tyX10 9) C dX10_init_63 rfl inGX10 tyX10_ok nmX10 (by decide) w_748 rfl hI rfl (by decide +kernel) rfl rfl rfl (Nat.le_of_ble_eq_true rfl) ?_
  refine n_phi (Φ' := PW _ [(h0, .inr (10, [.int 0, .ref q1, .int 0, .ref q2, .ref q3, .ref q4, .ref q5, .ref q6, .ref q7, .ref q8, .int 0, .int 0, .null, .int 0, .null, .null, .null, .null, .null, .null, .null, .null, .null])), (q1, .inl (t.1, 300, .inl fun _ => 0)), (q2, .inl (t.2.1, 4, .inl fun _ => 0)), (q3, .inl (t.2.1, 2, .inl fun _ => 0)), (q4, .inl (t.2.1, 10, .inl fun _ => 0)), (q5, .inl (t.2.1, 10, .inl fun _ => 0)), (q6, .inl (t.2.1, 2, .inl fun _ => 0)), (q7, .inl (t.2.1, 90, .inl fun _ => 0)), (q8, .inl (t.2.1, 9, .inl fun _ => 0))]) (fun _ h => h) ?_
  refine n_aload_n (pc := 66) C dX10_init_66 rfl ?_
  refine n_bipush (pc := 67) (v := nI 24) C dX10_init_67 (by decide) ?_
  refine n_newI (pc := 69) (n := 24) C dX10_init_69 (by decide) (Nat.le_of_ble_eq_true rfl) (Nat.le_of_ble_eq_true rfl) v_88 (fun q9 => ?_)
  refine n_phi (Φ' := PW _ [(h0, .inr (10, [.int 0, .ref q1, .int 0, .ref q2, .ref q3, .ref q4, .ref q5, .ref q6, .ref q7, .ref q8, .int 0, .int 0, .null, .int 0, .null, .null, .null, .null, .null, .null, .null, .null, .null])), (q1, .inl (t.1, 300, .inl fun _ => 0)), (q2, .inl (t.2.1, 4, .inl fun _ => 0)), (q3, .inl (t.2.1, 2, .inl fun _ => 0)), (q4, .inl (t.2.1, 10, .inl fun _ => 0)), (q5, .inl (t.2.1, 10, .inl fun _ => 0)), (q6, .inl (t.2.1, 2, .inl fun _ => 0)), (q7, .inl (t.2.1, 90, .inl fun _ => 0)), (q8, .inl (t.2.1, 9, .inl fun _ => 0)), (q9, .inl (t.2.1, 24, .inl fun _ => 0))]) (fun _ h => h) ?_
  refine n_putF (pc := 71) (ci := 10) (k := 12) (i := 0) (ty := tyX10 12) C dX10_init_71 rfl inGX10 tyX10_ok nmX10 (by decide) w_751 rfl hI rfl (by decide +kernel) rfl rfl rfl (Nat.le_of_ble_eq_true rfl) ?_
  refine n_phi (Φ' := PW _ [(h0, .inr (10, [.int 0, .ref q1, .int 0, .ref q2, .ref q3, .ref q4, .ref q5, .ref q6, .ref q7, .ref q8, .int 0, .int 0, .ref q9, .int 0, .null, .null, .null, .null, .null, .null, .null, .null, .null])), (q1, .inl (t.1, 300, .inl fun _ => 0)), (q2, .inl (t.2.1, 4, .inl fun _ => 0)), (q3, .inl (t.2.1, 2, .inl fun _ => 0)), (q4, .inl (t.2.1, 10, .inl fun _ => 0)), (q5, .inl (t.2.1, 10, .inl fun _ => 0)), (q6, .inl (t.2.1, 2, .inl fun _ => 0)), (q7, .inl (t.2.1, 90, .inl fun _ => 0)), (q8, .inl (t.2.1, 9, .inl fun _ => 0)), (q9, .inl (t.2.1, 24, .inl fun _ => 0))]) (fun _ h => h) ?_
  refine n_aload_n (pc := 74) C dX10_init_74 rfl ?_
  refine n_bipush (pc := 75) (v := nI 16) C dX10_init_75 (by decide) ?_
  refine n_newI (pc := 77) (n := 16) C dX10_init_77 (by decide) (Nat.le_of_ble_eq_true rfl) (Nat.le_of_ble_eq_true rfl) v_88 (fun q10 => ?_)
  refine n_phi (Φ' := PW _ [(h0, .inr (10, [.int 0, .ref q1, .int 0, .ref q2, .ref q3, .ref q4, .ref q5, .ref q6, .ref q7, .ref q8, .int 0, .int 0, .ref q9, .int 0, .null, .null, .null, .null, .null, .null, .null, .null, .null])), (q1, .inl (t.1, 300, .inl fun _ => 0)), (q2, .inl (t.2.1, 4, .inl fun _ => 0)), (q3, .inl (t.2.1, 2, .inl fun _ => 0)), (q4, .inl (t.2.1, 10, .inl fun _ => 0)), (q5, .inl (t.2.1, 10, .inl fun _ => 0)), (q6, .inl (t.2.1, 2, .inl fun _ => 0)), (q7, .inl (t.2.1, 90, .inl fun _ => 0)), (q8, .inl (t.2.1, 9, .inl fun _ => 0)), (q9, .inl (t.2.1, 24, .inl fun _ => 0)), (q10, .inl (t.2.1, 16, .inl fun _ => 0))]) (fun _ h => h) ?_
  refine n_putF (pc := 79) (ci := 10) (k := 14) (i := 0) (ty := tyX10 14) C dX10_init_79 rfl inGX10 tyX10_ok nmX10 (by decide) w_753 rfl hI rfl (by decide +kernel) rfl rfl rfl (Nat.le_of_ble_eq_true rfl) ?_
  refine n_phi (Φ' := PW _ [(h0, .inr (10, [.int 0, .ref q1, .int 0, .ref q2, .ref q3, .ref q4, .ref q5, .ref q6, .ref q7, .ref q8, .int 0, .int 0, .ref q9, .int 0, .ref q10, .null, .null, .null, .null, .null, .null, .null, .null])), (q1, .inl (t.1, 300, .inl fun _ => 0)), (q2, .inl (t.2.1, 4, .inl fun _ => 0)), (q3, .inl (t.2.1, 2, .inl fun _ => 0)), (q4, .inl (t.2.1, 10, .inl fun _ => 0)), (q5, .inl (t.2.1, 10, .inl fun _ => 0)), (q6, .inl (t.2.1, 2, .inl fun _ => 0)), (q7, .inl (t.2.1, 90, .inl fun _ => 0)), (q8, .inl (t.2.1, 9, .inl fun _ => 0)), (q9, .inl (t.2.1, 24, .inl fun _ => 0)), (q10, .inl (t.2.1, 16, .inl fun _ => 0))]) (fun _ h => h) ?_
  refine n_aload_n (pc := 82) C dX10_init_82 rfl ?_
  refine n_bipush (pc := 83) (v := nI 10) C dX10_init_83 (by decide) ?_
  refine n_newI (pc := 85) (n := 10) C dX10_init_85 (by decide) (Nat.le_of_ble_eq_true rfl) (Nat.le_of_ble_eq_true rfl) v_88 (fun q11 => ?_)
  refine n_phi (Φ' := PW _ [(h0, .inr (10, [.int 0, .ref q1, .int 0, .ref q2, .ref q3, .ref q4, .ref q5, .ref q6, .ref q7, .ref q8, .int 0, .int 0, .ref q9, .int 0, .ref q10, .null, .null, .null, .null, .null, .null, .null, .null])), (q1, .inl (t.1, 300, .inl fun _ => 0)), (q2, .inl (t.2.1, 4, .inl fun _ => 0)), (q3, .inl (t.2.1, 2, .inl fun _ => 0)), (q4, .inl (t.2.1, 10, .inl fun _ => 0)), (q5, .inl (t.2.1, 10, .inl fun _ => 0)), (q6, .inl (t.2.1, 2, .inl fun _ => 0)), (q7, .inl (t.2.1, 90, .inl fun _ => 0)), (q8, .inl (t.2.1, 9, .inl fun _ => 0)), (q9, .inl (t.2.1, 24, .inl fun _ => 0)), (q10, .inl (t.2.1, 16, .inl fun _ => 0)), (q11, .inl (t.2.1, 10, .inl fun _ => 0))]) (fun _ h => h) ?_
  refine n_putF (pc := 87) (ci := 10) (k := 15) (i := 0) (ty := tyX10 15) C dX10_init_87 rfl inGX10 tyX10_ok nmX10 (by decide) w_754 rfl hI rfl (by decide +kernel) rfl rfl rfl (Nat.le_of_ble_eq_true rfl) ?_
  refine n_phi (Φ' := PW _ [(h0, .inr (10, [.int 0, .ref q1, .int 0, .ref q2, .ref q3, .ref q4, .ref q5, .ref q6, .ref q7, .ref q8, .int 0, .int 0, .ref q9, .int 0, .ref q10, .ref q11, .null, .null, .null, .null, .null, .null, .null])), (q1, .inl (t.1, 300, .inl fun _ => 0)), (q2, .inl (t.2.1, 4, .inl fun _ => 0)), (q3, .inl (t.2.1, 2, .inl fun _ => 0)), (q4, .inl (t.2.1, 10, .inl fun _ => 0)), (q5, .inl (t.2.1, 10, .inl fun _ => 0)), (q6, .inl (t.2.1, 2, .inl fun _ => 0)), (q7, .inl (t.2.1, 90, .inl fun _ => 0)), (q8, .inl (t.2.1, 9, .inl fun _ => 0)), (q9, .inl (t.2.1, 24, .inl fun _ => 0)), (q10, .inl (t.2.1, 16, .inl fun _ => 0)), (q11, .inl (t.2.1, 10, .inl fun _ => 0))]) (fun _ h => h) ?_
  refine n_aload_n (pc := 90) C dX10_init_90 rfl ?_
  refine n_bipush (pc := 91) (v := nI 11) C dX10_init_91 (by decide) ?_
  refine n_newI (pc := 93) (n := 11) C dX10_init_93 (by decide) (Nat.le_of_ble_eq_true rfl) (Nat.le_of_ble_eq_true rfl) v_88 (fun q12 => ?_)
  refine n_phi (Φ' := PW _ [(h0, .inr (10, [.int 0, .ref q1, .int 0, .ref q2, .ref q3, .ref q4, .ref q5, .ref q6, .ref q7, .ref q8, .int 0, .int 0, .ref q9, .int 0, .ref q10, .ref q11, .null, .null, .null, .null, .null, .null, .null])), (q1, .inl (t.1, 300, .inl fun _ => 0)), (q2, .inl (t.2.1, 4, .inl fun _ => 0)), (q3, .inl (t.2.1, 2, .inl fun _ => 0)), (q4, .inl (t.2.1, 10, .inl fun _ => 0)), (q5, .inl (t.2.1, 10, .inl fun _ => 0)), (q6, .inl (t.2.1, 2, .inl fun _ => 0)), (q7, .inl (t.2.1, 90, .inl fun _ => 0)), (q8, .inl (t.2.1, 9, .inl fun _ => 0)), (q9, .inl (t.2.1, 24, .inl fun _ => 0)), (q10, .inl (t.2.1, 16, .inl fun _ => 0)), (q11, .inl (t.2.1, 10, .inl fun _ => 0)), (q12, .inl (t.2.1, 11, .inl fun _ => 0))]) (fun _ h => h) ?_
  refine n_putF (pc := 95) (ci := 10) (k := 16) (i := 0) (ty := tyX10 16) C dX10_init_95 rfl inGX10 tyX10_ok nmX10 (by decide) w_755 rfl hI rfl (by decide +kernel) rfl rfl rfl (Nat.le_of_ble_eq_true rfl) ?_
  refine n_phi (Φ' := PW _ [(h0, .inr (10, [.int 0, .ref q1, .int 0, .ref q2, .ref q3, .ref q4, .ref q5, .ref q6, .ref q7, .ref q8, .int 0, .int 0, .ref q9, .int 0, .ref q10, .ref q11, .ref q12, .null, .null, .null, .null, .null, .null])), (q1, .inl (t.1, 300, .inl fun _ => 0)), (q2, .inl (t.2.1, 4, .inl fun _ => 0)), (q3, .inl (t.2.1, 2, .inl fun _ => 0)), (q4, .inl (t.2.1, 10, .inl fun _ => 0)), (q5, .inl (t.2.1, 10, .inl fun _ => 0)), (q6, .inl (t.2.1, 2, .inl fun _ => 0)), (q7, .inl (t.2.1, 90, .inl fun _ => 0)), (q8, .inl (t.2.1, 9, .inl fun _ => 0)), (q9, .inl (t.2.1, 24, .inl fun _ => 0)), (q10, .inl (t.2.1, 16, .inl fun _ => 0)), (q11, .inl (t.2.1, 10, .inl fun _ => 0)), (q12, .inl (t.2.1, 11, .inl fun _ => 0))]) (fun _ h => h) ?_
  refine n_aload_n (pc := 98) C dX10_init_98 rfl ?_
  refine n_bipush (pc := 99) (v := nI 9) C dX10_init_99 (by decide) ?_
  refine n_newI (pc := 101) (n := 9) C dX10_init_101 (by decide) (Nat.le_of_ble_eq_true rfl) (Nat.le_of_ble_eq_true rfl) v_88 (fun q13 => ?_)
  refine n_phi (Φ' := PW _ [(h0, .inr (10, [.int 0, .ref q1, .int 0, .ref q2, .ref q3, .ref q4, .ref q5, .ref q6, .ref q7, .ref q8, .int 0, .int 0, .ref q9, .int 0, .ref q10, .ref q11, .ref q12, .null, .null, .null, .null, .null, .null])), (q1, .inl (t.1, 300, .inl fun _ => 0)), (q2, .inl (t.2.1, 4, .inl fun _ => 0)), (q3, .inl (t.2.1, 2, .inl fun _ => 0)), (q4, .inl (t.2.1, 10, .inl fun _ => 0)), (q5, .inl (t.2.1, 10, .inl fun _ => 0)), (q6, .inl (t.2.1, 2, .inl fun _ => 0)), (q7, .inl (t.2.1, 90, .inl fun _ => 0)), (q8, .inl (t.2.1, 9, .inl fun _ => 0)), (q9, .inl (t.2.1, 24, .inl fun _ => 0)), (q10, .inl (t.2.1, 16, .inl fun _ => 0)), (q11, .inl (t.2.1, 10, .inl fun _ => 0)), (q12, .inl (t.2.1, 11, .inl fun _ => 0)), (q13, .inl (t.2.1, 9, .inl fun _ => 0))]) (fun _ h => h) ?_
  refine n_putF (pc := 103) (ci := 10) (k := 17) (i := 0) (ty := tyX10 17) C dX10_init_103 rfl inGX10 tyX10_ok nmX10 (by decide) w_756 rfl hI rfl (by decide +kernel) rfl rfl rfl (Nat.le_of_ble_eq_true rfl) ?_
  refine n_phi (Φ' := PW _ [(h0, .inr (10, [.int 0, .ref q1, .int 0, .ref q2, .ref q3, .ref q4, .ref q5, .ref q6, .ref q7, .ref q8, .int 0, .int 0, .ref q9, .int 0, .ref q10, .ref q11, .ref q12, .ref q13, .null, .null, .null, .null, .null])), (q1, .inl (t.1, 300, .inl fun _ => 0)), (q2, .inl (t.2.1, 4, .inl fun _ => 0)), (q3, .inl (t.2.1, 2, .inl fun _ => 0)), (q4, .inl (t.2.1, 10, .inl fun _ => 0)), (q5, .inl (t.2.1, 10, .inl fun _ => 0)), (q6, .inl (t.2.1, 2, .inl fun _ => 0)), (q7, .inl (t.2.1, 90, .inl fun _ => 0)), (q8, .inl (t.2.1, 9, .inl fun _ => 0)), (q9, .inl (t.2.1, 24, .inl fun _ => 0)), (q10, .inl (t.2.1, 16, .inl fun _ => 0)), (q11, .inl (t.2.1, 10, .inl fun _ => 0)), (q12, .inl (t.2.1, 11, .inl fun _ => 0)), (q13, .inl (t.2.1, 9, .inl fun _ => 0))]) (fun _ h => h) ?_
  refine n_aload_n (pc := 106) C dX10_init_106 rfl ?_
  refine n_sipush (pc := 107) (v := nI 324) C dX10_init_107 (by decide) ?_
  refine n_newJ (pc := 110) (n := 324) C dX10_init_110 (by decide) (Nat.le_of_ble_eq_true rfl) (Nat.le_of_ble_eq_true rfl) v_119 (fun q14 => ?_)
  refine n_phi (Φ' := PW _ [(h0, .inr (10, [.int 0, .ref q1, .int 0, .ref q2, .ref q3, .ref q4, .ref q5, .ref q6, .ref q7, .ref q8, .int 0, .int 0, .ref q9, .int 0, .ref q10, .ref q11, .ref q12, .ref q13, .null, .null, .null, .null, .null])), (q1, .inl (t.1, 300, .inl fun _ => 0)), (q2, .inl (t.2.1, 4, .inl fun _ => 0)), (q3, .inl (t.2.1, 2, .inl fun _ => 0)), (q4, .inl (t.2.1, 10, .inl fun _ => 0)), (q5, .inl (t.2.1, 10, .inl fun _ => 0)), (q6, .inl (t.2.1, 2, .inl fun _ => 0)), (q7, .inl (t.2.1, 90, .inl fun _ => 0)), (q8, .inl (t.2.1, 9, .inl fun _ => 0)), (q9, .inl (t.2.1, 24, .inl fun _ => 0)), (q10, .inl (t.2.1, 16, .inl fun _ => 0)), (q11, .inl (t.2.1, 10, .inl fun _ => 0)), (q12, .inl (t.2.1, 11, .inl fun _ => 0)), (q13, .inl (t.2.1, 9, .inl fun _ => 0)), (q14, .inl (t.2.2, 324, .inr (.inl fun _ => 0)))]) (fun _ h => h) ?_
  refine n_putF (pc := 112) (ci := 10) (k := 18) (i := 0) (ty := tyX10 18) C dX10_init_112 rfl inGX10 tyX10_ok nmX10 (by decide) w_757 rfl hI rfl (by decide +kernel) rfl rfl rfl (Nat.le_of_ble_eq_true rfl) ?_
  refine n_phi (Φ' := PW _ [(h0, .inr (10, [.int 0, .ref q1, .int 0, .ref q2, .ref q3, .ref q4, .ref q5, .ref q6, .ref q7, .ref q8, .int 0, .int 0, .ref q9, .int 0, .ref q10, .ref q11, .ref q12, .ref q13, .ref q14, .null, .null, .null, .null])), (q1, .inl (t.1, 300, .inl fun _ => 0)), (q2, .inl (t.2.1, 4, .inl fun _ => 0)), (q3, .inl (t.2.1, 2, .inl fun _ => 0)), (q4, .inl (t.2.1, 10, .inl fun _ => 0)), (q5, .inl (t.2.1, 10, .inl fun _ => 0)), (q6, .inl (t.2.1, 2, .inl fun _ => 0)), (q7, .inl (t.2.1, 90, .inl fun _ => 0)), (q8, .inl (t.2.1, 9, .inl fun _ => 0)), (q9, .inl (t.2.1, 24, .inl fun _ => 0)), (q10, .inl (t.2.1, 16, .inl fun _ => 0)), (q11, .inl (t.2.1, 10, .inl fun _ => 0)), (q12, .inl (t.2.1, 11, .inl fun _ => 0)), (q13, .inl (t.2.1, 9, .inl fun _ => 0)), (q14, .inl (t.2.2, 324, .inr (.inl fun _ => 0)))]) (fun _ h => h) ?_
  refine n_aload_n (pc := 115) C dX10_init_115 rfl ?_
  refine n_sipush (pc := 116) (v := nI 5120) C dX10_init_116 (by decide) ?_
  refine n_newI (pc := 119) (n := 5120) C dX10_init_119 (by decide) (Nat.le_of_ble_eq_true rfl) (Nat.le_of_ble_eq_true rfl) v_88 (fun q15 => ?_)
  refine n_phi (Φ' := PW _ [(h0, .inr (10, [.int 0, .ref q1, .int 0, .ref q2, .ref q3, .ref q4, .ref q5, .ref q6, .ref q7, .ref q8, .int 0, .int 0, .ref q9, .int 0, .ref q10, .ref q11, .ref q12, .ref q13, .ref q14, .null, .null, .null, .null])), (q1, .inl (t.1, 300, .inl fun _ => 0)), (q2, .inl (t.2.1, 4, .inl fun _ => 0)), (q3, .inl (t.2.1, 2, .inl fun _ => 0)), (q4, .inl (t.2.1, 10, .inl fun _ => 0)), (q5, .inl (t.2.1, 10, .inl fun _ => 0)), (q6, .inl (t.2.1, 2, .inl fun _ => 0)), (q7, .inl (t.2.1, 90, .inl fun _ => 0)), (q8, .inl (t.2.1, 9, .inl fun _ => 0)), (q9, .inl (t.2.1, 24, .inl fun _ => 0)), (q10, .inl (t.2.1, 16, .inl fun _ => 0)), (q11, .inl (t.2.1, 10, .inl fun _ => 0)), (q12, .inl (t.2.1, 11, .inl fun _ => 0)), (q13, .inl (t.2.1, 9, .inl fun _ => 0)), (q14, .inl (t.2.2, 324, .inr (.inl fun _ => 0))), (q15, .inl (t.2.1, 5120, .inl fun _ => 0))]) (fun _ h => h) ?_
  refine n_putF (pc := 121) (ci := 10) (k := 19) (i := 0) (ty := tyX10 19) C dX10_init_121 rfl inGX10 tyX10_ok nmX10 (by decide) w_758 rfl hI rfl (by decide +kernel) rfl rfl rfl (Nat.le_of_ble_eq_true rfl) ?_
  refine n_phi (Φ' := PW _ [(h0, .inr (10, [.int 0, .ref q1, .int 0, .ref q2, .ref q3, .ref q4, .ref q5, .ref q6, .ref q7, .ref q8, .int 0, .int 0, .ref q9, .int 0, .ref q10, .ref q11, .ref q12, .ref q13, .ref q14, .ref q15, .null, .null, .null])), (q1, .inl (t.1, 300, .inl fun _ => 0)), (q2, .inl (t.2.1, 4, .inl fun _ => 0)), (q3, .inl (t.2.1, 2, .inl fun _ => 0)), (q4, .inl (t.2.1, 10, .inl fun _ => 0)), (q5, .inl (t.2.1, 10, .inl fun _ => 0)), (q6, .inl (t.2.1, 2, .inl fun _ => 0)), (q7, .inl (t.2.1, 90, .inl fun _ => 0)), (q8, .inl (t.2.1, 9, .inl fun _ => 0)), (q9, .inl (t.2.1, 24, .inl fun _ => 0)), (q10, .inl (t.2.1, 16, .inl fun _ => 0)), (q11, .inl (t.2.1, 10, .inl fun _ => 0)), (q12, .inl (t.2.1, 11, .inl fun _ => 0)), (q13, .inl (t.2.1, 9, .inl fun _ => 0)), (q14, .inl (t.2.2, 324, .inr (.inl fun _ => 0))), (q15, .inl (t.2.1, 5120, .inl fun _ => 0))]) (fun _ h => h) ?_
  refine n_aload_n (pc := 124) C dX10_init_124 rfl ?_
  refine n_sipush (pc := 125) (v := nI 5120) C dX10_init_125 (by decide) ?_
  refine n_newI (pc := 128) (n := 5120) C dX10_init_128 (by decide) (Nat.le_of_ble_eq_true rfl) (Nat.le_of_ble_eq_true rfl) v_88 (fun q16 => ?_)
  refine n_phi (Φ' := PW _ [(h0, .inr (10, [.int 0, .ref q1, .int 0, .ref q2, .ref q3, .ref q4, .ref q5, .ref q6, .ref q7, .ref q8, .int 0, .int 0, .ref q9, .int 0, .ref q10, .ref q11, .ref q12, .ref q13, .ref q14, .ref q15, .null, .null, .null])), (q1, .inl (t.1, 300, .inl fun _ => 0)), (q2, .inl (t.2.1, 4, .inl fun _ => 0)), (q3, .inl (t.2.1, 2, .inl fun _ => 0)), (q4, .inl (t.2.1, 10, .inl fun _ => 0)), (q5, .inl (t.2.1, 10, .inl fun _ => 0)), (q6, .inl (t.2.1, 2, .inl fun _ => 0)), (q7, .inl (t.2.1, 90, .inl fun _ => 0)), (q8, .inl (t.2.1, 9, .inl fun _ => 0)), (q9, .inl (t.2.1, 24, .inl fun _ => 0)), (q10, .inl (t.2.1, 16, .inl fun _ => 0)), (q11, .inl (t.2.1, 10, .inl fun _ => 0)), (q12, .inl (t.2.1, 11, .inl fun _ => 0)), (q13, .inl (t.2.1, 9, .inl fun _ => 0)), (q14, .inl (t.2.2, 324, .inr (.inl fun _ => 0))), (q15, .inl (t.2.1, 5120, .inl fun _ => 0)), (q16, .inl (t.2.1, 5120, .inl fun _ => 0))]) (fun _ h => h) ?_
  refine n_putF (pc := 130) (ci := 10) (k := 20) (i := 0) (ty := tyX10 20) C dX10_init_130 rfl inGX10 tyX10_ok nmX10 (by decide) w_759 rfl hI rfl (by decide +kernel) rfl rfl rfl (Nat.le_of_ble_eq_true rfl) ?_
  refine n_phi (Φ' := PW _ [(h0, .inr (10, [.int 0, .ref q1, .int 0, .ref q2, .ref q3, .ref q4, .ref q5, .ref q6, .ref q7, .ref q8, .int 0, .int 0, .ref q9, .int 0, .ref q10, .ref q11, .ref q12, .ref q13, .ref q14, .ref q15, .ref q16, .null, .null])), (q1, .inl (t.1, 300, .inl fun _ => 0)), (q2, .inl (t.2.1, 4, .inl fun _ => 0)), (q3, .inl (t.2.1, 2, .inl fun _ => 0)), (q4, .inl (t.2.1, 10, .inl fun _ => 0)), (q5, .inl (t.2.1, 10, .inl fun _ => 0)), (q6, .inl (t.2.1, 2, .inl fun _ => 0)), (q7, .inl (t.2.1, 90, .inl fun _ => 0)), (q8, .inl (t.2.1, 9, .inl fun _ => 0)), (q9, .inl (t.2.1, 24, .inl fun _ => 0)), (q10, .inl (t.2.1, 16, .inl fun _ => 0)), (q11, .inl (t.2.1, 10, .inl fun _ => 0)), (q12, .inl (t.2.1, 11, .inl fun _ => 0)), (q13, .inl (t.2.1, 9, .inl fun _ => 0)), (q14, .inl (t.2.2, 324, .inr (.inl fun _ => 0))), (q15, .inl (t.2.1, 5120, .inl fun _ => 0)), (q16, .inl (t.2.1, 5120, .inl fun _ => 0))]) (fun _ h => h) ?_
  refine n_aload_n (pc := 133) C dX10_init_133 rfl ?_
  refine n_sipush (pc := 134) (v := nI 272) C dX10_init_134 (by decide) ?_
  refine n_newI (pc := 137) (n := 272) C dX10_init_137 (by decide) (Nat.le_of_ble_eq_true rfl) (Nat.le_of_ble_eq_true rfl) v_88 (fun q17 => ?_)
  refine n_phi (Φ' := PW _ [(h0, .inr (10, [.int 0, .ref q1, .int 0, .ref q2, .ref q3, .ref q4, .ref q5, .ref q6, .ref q7, .ref q8, .int 0, .int 0, .ref q9, .int 0, .ref q10, .ref q11, .ref q12, .ref q13, .ref q14, .ref q15, .ref q16, .null, .null])), (q1, .inl (t.1, 300, .inl fun _ => 0)), (q2, .inl (t.2.1, 4, .inl fun _ => 0)), (q3, .inl (t.2.1, 2, .inl fun _ => 0)), (q4, .inl (t.2.1, 10, .inl fun _ => 0)), (q5, .inl (t.2.1, 10, .inl fun _ => 0)), (q6, .inl (t.2.1, 2, .inl fun _ => 0)), (q7, .inl (t.2.1, 90, .inl fun _ => 0)), (q8, .inl (t.2.1, 9, .inl fun _ => 0)), (q9, .inl (t.2.1, 24, .inl fun _ => 0)), (q10, .inl (t.2.1, 16, .inl fun _ => 0)), (q11, .inl (t.2.1, 10, .inl fun _ => 0)), (q12, .inl (t.2.1, 11, .inl fun _ => 0)), (q13, .inl (t.2.1, 9, .inl fun _ => 0)), (q14, .inl (t.2.2, 324, .inr (.inl fun _ => 0))), (q15, .inl (t.2.1, 5120, .inl fun _ => 0)), (q16, .inl (t.2.1, 5120, .inl fun _ => 0)), (q17, .inl (t.2.1, 272, .inl fun _ => 0))]) (fun _ h => h) ?_
  refine n_putF (pc := 139) (ci := 10) (k := 21) (i := 0) (ty := tyX10 21) C dX10_init_139 rfl inGX10 tyX10_ok nmX10 (by decide) w_760 rfl hI rfl (by decide +kernel) rfl rfl rfl (Nat.le_of_ble_eq_true rfl) ?_
  refine n_phi (Φ' := PW _ [(h0, .inr (10, [.int 0, .ref q1, .int 0, .ref q2, .ref q3, .ref q4, .ref q5, .ref q6, .ref q7, .ref q8, .int 0, .int 0, .ref q9, .int 0, .ref q10, .ref q11, .ref q12, .ref q13, .ref q14, .ref q15, .ref q16, .ref q17, .null])), (q1, .inl (t.1, 300, .inl fun _ => 0)), (q2, .inl (t.2.1, 4, .inl fun _ => 0)), (q3, .inl (t.2.1, 2, .inl fun _ => 0)), (q4, .inl (t.2.1, 10, .inl fun _ => 0)), (q5, .inl (t.2.1, 10, .inl fun _ => 0)), (q6, .inl (t.2.1, 2, .inl fun _ => 0)), (q7, .inl (t.2.1, 90, .inl fun _ => 0)), (q8, .inl (t.2.1, 9, .inl fun _ => 0)), (q9, .inl (t.2.1, 24, .inl fun _ => 0)), (q10, .inl (t.2.1, 16, .inl fun _ => 0)), (q11, .inl (t.2.1, 10, .inl fun _ => 0)), (q12, .inl (t.2.1, 11, .inl fun _ => 0)), (q13, .inl (t.2.1, 9, .inl fun _ => 0)), (q14, .inl (t.2.2, 324, .inr (.inl fun _ => 0))), (q15, .inl (t.2.1, 5120, .inl fun _ => 0)), (q16, .inl (t.2.1, 5120, .inl fun _ => 0)), (q17, .inl (t.2.1, 272, .inl fun _ => 0))]) (fun _ h => h) ?_
  refine n_aload_n (pc := 142) C dX10_init_142 rfl ?_
  refine n_sipush (pc := 143) (v := nI 272) C dX10_init_143 (by decide) ?_
  refine n_newI (pc := 146) (n := 272) C dX10_init_146 (by decide) (Nat.le_of_ble_eq_true rfl) (Nat.le_of_ble_eq_true rfl) v_88 (fun q18 => ?_)
  refine n_phi (Φ' := PW _ [(h0, .inr (10, [.int 0, .ref q1, .int 0, .ref q2, .ref q3, .ref q4, .ref q5, .ref q6, .ref q7, .ref q8, .int 0, .int 0, .ref q9, .int 0, .ref q10, .ref q11, .ref q12, .ref q13, .ref q14, .ref q15, .ref q16, .ref q17, .null])), (q1, .inl (t.1, 300, .inl fun _ => 0)), (q2, .inl (t.2.1, 4, .inl fun _ => 0)), (q3, .inl (t.2.1, 2, .inl fun _ => 0)), (q4, .inl (t.2.1, 10, .inl fun _ => 0)), (q5, .inl (t.2.1, 10, .inl fun _ => 0)), (q6, .inl (t.2.1, 2, .inl fun _ => 0)), (q7, .inl (t.2.1, 90, .inl fun _ => 0)), (q8, .inl (t.2.1, 9, .inl fun _ => 0)), (q9, .inl (t.2.1, 24, .inl fun _ => 0)), (q10, .inl (t.2.1, 16, .inl fun _ => 0)), (q11, .inl (t.2.1, 10, .inl fun _ => 0)), (q12, .inl (t.2.1, 11, .inl fun _ => 0)), (q13, .inl (t.2.1, 9, .inl fun _ => 0)), (q14, .inl (t.2.2, 324, .inr (.inl fun _ => 0))), (q15, .inl (t.2.1, 5120, .inl fun _ => 0)), (q16, .inl (t.2.1, 5120, .inl fun _ => 0)), (q17, .inl (t.2.1, 272, .inl fun _ => 0)), (q18, .inl (t.2.1, 272, .inl fun _ => 0))]) (fun _ h => h) ?_
  refine n_putF (pc := 148) (ci := 10) (k := 22) (i := 0) (ty := tyX10 22) C dX10_init_148 rfl inGX10 tyX10_ok nmX10 (by decide) w_761 rfl hI rfl (by decide +kernel) rfl rfl rfl (Nat.le_of_ble_eq_true rfl) ?_
  refine n_phi (Φ' := PW _ [(h0, .inr (10, [.int 0, .ref q1, .int 0, .ref q2, .ref q3, .ref q4, .ref q5, .ref q6, .ref q7, .ref q8, .int 0, .int 0, .ref q9, .int 0, .ref q10, .ref q11, .ref q12, .ref q13, .ref q14, .ref q15, .ref q16, .ref q17, .ref q18])), (q1, .inl (t.1, 300, .inl fun _ => 0)), (q2, .inl (t.2.1, 4, .inl fun _ => 0)), (q3, .inl (t.2.1, 2, .inl fun _ => 0)), (q4, .inl (t.2.1, 10, .inl fun _ => 0)), (q5, .inl (t.2.1, 10, .inl fun _ => 0)), (q6, .inl (t.2.1, 2, .inl fun _ => 0)), (q7, .inl (t.2.1, 90, .inl fun _ => 0)), (q8, .inl (t.2.1, 9, .inl fun _ => 0)), (q9, .inl (t.2.1, 24, .inl fun _ => 0)), (q10, .inl (t.2.1, 16, .inl fun _ => 0)), (q11, .inl (t.2.1, 10, .inl fun _ => 0)), (q12, .inl (t.2.1, 11, .inl fun _ => 0)), (q13, .inl (t.2.1, 9, .inl fun _ => 0)), (q14, .inl (t.2.2, 324, .inr (.inl fun _ => 0))), (q15, .inl (t.2.1, 5120, .inl fun _ => 0)), (q16, .inl (t.2.1, 5120, .inl fun _ => 0)), (q17, .inl (t.2.1, 272, .inl fun _ => 0)), (q18, .inl (t.2.1, 272, .inl fun _ => 0))]) (fun _ h => h) ?_
  obtain ⟨G, hGd⟩ : ∃ G, G = gOf l D t [(h0, .inr (10, [.int 0, .ref q1, .int 0, .ref q2, .ref q3, .ref q4, .ref q5, .ref q6, .ref q7, .ref q8, .int 0, .int 0, .ref q9, .int 0, .ref q10, .ref q11, .ref q12, .ref q13, .ref q14, .ref q15, .ref q16, .ref q17, .ref q18])), (q1, .inl (t.1, 300, .inl fun _ => 0)), (q2, .inl (t.2.1, 4, .inl fun _ => 0)), (q3, .inl (t.2.1, 2, .inl fun _ => 0)), (q4, .inl (t.2.1, 10, .inl fun _ => 0)), (q5, .inl (t.2.1, 10, .inl fun _ => 0)), (q6, .inl (t.2.1, 2, .inl fun _ => 0)), (q7, .inl (t.2.1, 90, .inl fun _ => 0)), (q8, .inl (t.2.1, 9, .inl fun _ => 0)), (q9, .inl (t.2.1, 24, .inl fun _ => 0)), (q10, .inl (t.2.1, 16, .inl fun _ => 0)), (q11, .inl (t.2.1, 10, .inl fun _ => 0)), (q12, .inl (t.2.1, 11, .inl fun _ => 0)), (q13, .inl (t.2.1, 9, .inl fun _ => 0)), (q14, .inl (t.2.2, 324, .inr (.inl fun _ => 0))), (q15, .inl (t.2.1, 5120, .inl fun _ => 0)), (q16, .inl (t.2.1, 5120, .inl fun _ => 0)), (q17, .inl (t.2.1, 272, .inl fun _ => 0)), (q18, .inl (t.2.1, 272, .inl fun _ => 0))] (List.range 19) := ⟨_, rfl⟩
  have hp : ∀ i, i < (List.range 19).length → (List.range 19).getD i 0 < ([(h0, .inr (10, [.int 0, .ref q1, .int 0, .ref q2, .ref q3, .ref q4, .ref q5, .ref q6, .ref q7, .ref q8, .int 0, .int 0, .ref q9, .int 0, .ref q10, .ref q11, .ref q12, .ref q13, .ref q14, .ref q15, .ref q16, .ref q17, .ref q18])), (q1, .inl (t.1, 300, .inl fun _ => 0)), (q2, .inl (t.2.1, 4, .inl fun _ => 0)), (q3, .inl (t.2.1, 2, .inl fun _ => 0)), (q4, .inl (t.2.1, 10, .inl fun _ => 0)), (q5, .inl (t.2.1, 10, .inl fun _ => 0)), (q6, .inl (t.2.1, 2, .inl fun _ => 0)), (q7, .inl (t.2.1, 90, .inl fun _ => 0)), (q8, .inl (t.2.1, 9, .inl fun _ => 0)), (q9, .inl (t.2.1, 24, .inl fun _ => 0)), (q10, .inl (t.2.1, 16, .inl fun _ => 0)), (q11, .inl (t.2.1, 10, .inl fun _ => 0)), (q12, .inl (t.2.1, 11, .inl fun _ => 0)), (q13, .inl (t.2.1, 9, .inl fun _ => 0)), (q14, .inl (t.2.2, 324, .inr (.inl fun _ => 0))), (q15, .inl (t.2.1, 5120, .inl fun _ => 0)), (q16, .inl (t.2.1, 5120, .inl fun _ => 0)), (q17, .inl (t.2.1, 272, .inl fun _ => 0)), (q18, .inl (t.2.1, 272, .inl fun _ => 0))] : va_W).length := by show ∀ i, i < (List.range 19).length → (List.range 19).getD i 0 < 19; decide
  have hinj : ∀ i, i < (List.range 19).length → ∀ j, j < (List.range 19).length → (List.range 19).getD i 0 = (List.range 19).getD j 0 → i = j := by decide
  refine n_dD (fun hD => ?_)
  obtain ⟨gI1, gA1⟩ := gOf_I (l := l) (D := D) (t := t) hp hinj hD
  obtain ⟨σ0, hσd⟩ : ∃ σ0, σ0 = wOf [(h0, .inr (10, [.int 0, .ref q1, .int 0, .ref q2, .ref q3, .ref q4, .ref q5, .ref q6, .ref q7, .ref q8, .int 0, .int 0, .ref q9, .int 0, .ref q10, .ref q11, .ref q12, .ref q13, .ref q14, .ref q15, .ref q16, .ref q17, .ref q18])), (q1, .inl (t.1, 300, .inl fun _ => 0)), (q2, .inl (t.2.1, 4, .inl fun _ => 0)), (q3, .inl (t.2.1, 2, .inl fun _ => 0)), (q4, .inl (t.2.1, 10, .inl fun _ => 0)), (q5, .inl (t.2.1, 10, .inl fun _ => 0)), (q6, .inl (t.2.1, 2, .inl fun _ => 0)), (q7, .inl (t.2.1, 90, .inl fun _ => 0)), (q8, .inl (t.2.1, 9, .inl fun _ => 0)), (q9, .inl (t.2.1, 24, .inl fun _ => 0)), (q10, .inl (t.2.1, 16, .inl fun _ => 0)), (q11, .inl (t.2.1, 10, .inl fun _ => 0)), (q12, .inl (t.2.1, 11, .inl fun _ => 0)), (q13, .inl (t.2.1, 9, .inl fun _ => 0)), (q14, .inl (t.2.2, 324, .inr (.inl fun _ => 0))), (q15, .inl (t.2.1, 5120, .inl fun _ => 0)), (q16, .inl (t.2.1, 5120, .inl fun _ => 0)), (q17, .inl (t.2.1, 272, .inl fun _ => 0)), (q18, .inl (t.2.1, 272, .inl fun _ => 0))] (List.range 19) := ⟨_, rfl⟩
  have hX : GX (xM mX10_init l D t (va_A [(h0, .inr (10, [.int 0, .null, .int 0, .null, .null, .null, .null, .null, .null, .null, .int 0, .int 0, .null, .int 0, .null, .null, .null, .null, .null, .null, .null, .null, .null]))] sz) 18 11605) G := by
    rw [hGd]; exact ⟨rfl, rfl, rfl, gI1, gA1⟩
  refine n_phi (Φ' := WP G σ0) (fun H h => by rw [hGd, hσd]; exact gOf_P hp h.1) ?_
  have hN : gN G = 19 := by rw [hGd]; rfl
  have z0 : Cl G σ0 0 (cRef G (nI 0) 0 (nI 0) (nI 0) (nI 0)) := by rw [hGd, hσd]; exact ⟨Nat.le_of_ble_eq_true rfl, rfl⟩
  have zA : QA G σ0 (fun _ => 0) (fun _ => 0) (fun _ => 0) (fun _ => 0) (fun _ => 0) (fun _ => 0) := by rw [hGd, hσd]; exact ⟨⟨Nat.le_of_ble_eq_true rfl, rfl⟩, ⟨Nat.le_of_ble_eq_true rfl, rfl⟩, ⟨Nat.le_of_ble_eq_true rfl, rfl⟩, ⟨Nat.le_of_ble_eq_true rfl, rfl⟩, ⟨Nat.le_of_ble_eq_true rfl, rfl⟩, ⟨Nat.le_of_ble_eq_true rfl, rfl⟩⟩
  have zX : Cl G σ0 1 (bA G 300 (fun _ => 0)) := by rw [hGd, hσd]; exact ⟨Nat.le_of_ble_eq_true rfl, rfl⟩
  have z8 : Cl G σ0 8 (iA G 9 (fun _ => 0)) := by rw [hGd, hσd]; exact ⟨Nat.le_of_ble_eq_true rfl, rfl⟩
  have z9 : Cl G σ0 9 (iA G 24 (fun _ => 0)) := by rw [hGd, hσd]; exact ⟨Nat.le_of_ble_eq_true rfl, rfl⟩
  have zR : Cl G σ0 10 (iA G 16 (fun _ => 0)) := by rw [hGd, hσd]; exact ⟨Nat.le_of_ble_eq_true rfl, rfl⟩
  have zL : QL G σ0 := by rw [hGd, hσd]; exact ⟨_, _, _, ⟨Nat.le_of_ble_eq_true rfl, rfl⟩, ⟨Nat.le_of_ble_eq_true rfl, rfl⟩, ⟨Nat.le_of_ble_eq_true rfl, rfl⟩⟩
  have zW : QW G σ0 := by rw [hGd, hσd]; exact ⟨_, ⟨Nat.le_of_ble_eq_true rfl, rfl⟩⟩
  have zC : QC G σ0 := by rw [hGd, hσd]; exact ⟨_, _, ⟨Nat.le_of_ble_eq_true rfl, rfl⟩, ⟨Nat.le_of_ble_eq_true rfl, rfl⟩⟩
  have zN : QN G σ0 := by rw [hGd, hσd]; exact ⟨_, _, ⟨Nat.le_of_ble_eq_true rfl, rfl⟩, ⟨Nat.le_of_ble_eq_true rfl, rfl⟩⟩
  have hga : ga G 0 = h0 := by rw [hGd]; rfl
  have hgA : ∀ i, i < 19 → va_A [(h0, .inr (10, [.int 0, .null, .int 0, .null, .null, .null, .null, .null, .null, .null, .int 0, .int 0, .null, .int 0, .null, .null, .null, .null, .null, .null, .null, .null, .null]))] sz (ga G i) := by rw [hGd]; exact gA1
  have hGl : gl G = l := hX.1
  have hGD : gD G = D := hX.2.1
  have hGT : tys3 G = tyX t := hX.2.2.1
  have hGI : Inj G := hX.2.2.2.1
  clear hGd hσd gI1 gA1 hD hp hinj
  have hwp : ∀ τ H, WP G τ H → va_P D vwCl (wd G τ) H := fun τ H h => by rw [← hGD]; exact h
  refine n_lv [(0, .ref (ga G 0))] ⟨by rw [hga]; rfl, trivial⟩ ?_
  obtain ⟨σ1, b1, ⟨bA2, bA3, bA4, bA5, bA6, bA7⟩, bF⟩ := r_begins z0 zA
  have y0 := z0.fr bF (by decide)
  refine n_aload_n (pc := 151) C dX10_init_151 rfl ?_
  refine n_callV (pc := 152) (i := 0) (ci := 10) (As := []) (rest := []) (Φ1 := WP G σ1) C hX hH b1 dX10_init_152 rfl w_734 (List.forall_mem_cons.mpr ⟨w_731, List.forall_mem_cons.mpr ⟨w_733, List.forall_mem_cons.mpr ⟨wp_20, List.forall_mem_cons.mpr ⟨w_16, fun _ h => absurd h List.not_mem_nil⟩⟩⟩⟩) ds_X10_begins z0 ⟨Nat.le_of_ble_eq_true rfl, Nat.le_of_ble_eq_true rfl⟩ (by decide) ⟨Nat.le_of_ble_eq_true rfl, Nat.le_of_ble_eq_true rfl⟩ (fun _ h => h) (fun H H1 _ _ h3 _ => h3) ?_
  refine n_aload_n (pc := 155) C dX10_init_155 rfl ?_
  refine n_getf (pc := 156) (ws := wd G σ1) (ci := 10) (k := 4) (i := 0) C (fun H h => hwp _ H h) dX10_init_156 rfl inGX10 (by decide) w_743 (wd_is y0) rfl ?_
  refine n_iconst (pc := 159) (v := nI 1) C dX10_init_159 (by decide) ?_
  refine n_iconst (pc := 160) (v := nI 2) C dX10_init_160 (by decide) ?_
  refine n_iastW (pc := 161) C hX dX10_init_161 bA3 (vp_in_nI (by decide) (by decide)) ?_
  rw [show (nI 1).toNatClampNeg = 1 from nI_clamp (by decide)]
  generalize e1 : va_up σ1 3 (iA G 2 (upd (upd (fun _ => 0) 1 (nI 0)) 1 (nI 2))) = τ1
  have s1_2 : Cl G τ1 2 (iA G 4 (upd (upd (fun _ => 0) 2 (nI 0)) 3 (nI 31))) := by rw [← e1]; exact Cl.n (by decide) bA2
  have s1_3 : Cl G τ1 3 (iA G 2 (upd (upd (fun _ => 0) 1 (nI 0)) 1 (nI 2))) := by rw [← e1]; exact Cl.s bA3
  have s1_4 : Cl G τ1 4 (iA G 10 (fun _ => 0)) := by rw [← e1]; exact Cl.n (by decide) bA4
  have s1_5 : Cl G τ1 5 (iA G 10 (fun _ => 0)) := by rw [← e1]; exact Cl.n (by decide) bA5
  have s1_6 : Cl G τ1 6 (iA G 2 (upd (fun _ => 0) 1 (nI 0))) := by rw [← e1]; exact Cl.n (by decide) bA6
  have s1_7 : Cl G τ1 7 (iA G 90 (fun _ => 0)) := by rw [← e1]; exact Cl.n (by decide) bA7
  have y0 : Cl G τ1 0 (cRef G (nI 0) 0 (nI 0) (nI 0) (nI 0)) := by rw [← e1]; exact Cl.n (by decide) y0
  have ff1 : Fr σ0 τ1 [2, 3, 4, 5, 6, 7] := by rw [← e1]; exact fr3 (fun j hj => bF j (fun q => hj (by simp at q ⊢; omega))) (by decide)
  clear e1
  refine n_aload_n (pc := 162) C dX10_init_162 rfl ?_
  refine n_getf (pc := 163) (ws := wd G τ1) (ci := 10) (k := 5) (i := 0) C (fun H h => hwp _ H h) dX10_init_163 rfl inGX10 (by decide) w_744 (wd_is y0) rfl ?_
  refine n_iconst (pc := 166) (v := nI 5) C dX10_init_166 (by decide) ?_
  refine n_iconst (pc := 167) (v := nI 2) C dX10_init_167 (by decide) ?_
  refine n_iastW (pc := 168) C hX dX10_init_168 s1_4 (vp_in_nI (by decide) (by decide)) ?_
  rw [show (nI 5).toNatClampNeg = 5 from nI_clamp (by decide)]
  generalize e2 : va_up τ1 4 (iA G 10 (upd (fun _ => 0) 5 (nI 2))) = τ2
  have s2_2 : Cl G τ2 2 (iA G 4 (upd (upd (fun _ => 0) 2 (nI 0)) 3 (nI 31))) := by rw [← e2]; exact Cl.n (by decide) s1_2
  have s2_3 : Cl G τ2 3 (iA G 2 (upd (upd (fun _ => 0) 1 (nI 0)) 1 (nI 2))) := by rw [← e2]; exact Cl.n (by decide) s1_3
  have s2_4 : Cl G τ2 4 (iA G 10 (upd (fun _ => 0) 5 (nI 2))) := by rw [← e2]; exact Cl.s s1_4
  have s2_5 : Cl G τ2 5 (iA G 10 (fun _ => 0)) := by rw [← e2]; exact Cl.n (by decide) s1_5
  have s2_6 : Cl G τ2 6 (iA G 2 (upd (fun _ => 0) 1 (nI 0))) := by rw [← e2]; exact Cl.n (by decide) s1_6
  have s2_7 : Cl G τ2 7 (iA G 90 (fun _ => 0)) := by rw [← e2]; exact Cl.n (by decide) s1_7
  have y0 : Cl G τ2 0 (cRef G (nI 0) 0 (nI 0) (nI 0) (nI 0)) := by rw [← e2]; exact Cl.n (by decide) y0
  have ff2 : Fr σ0 τ2 [2, 3, 4, 5, 6, 7] := by rw [← e2]; exact fr3 ff1 (by decide)
  clear e2
  refine n_aload_n (pc := 169) C dX10_init_169 rfl ?_
  refine n_getf (pc := 170) (ws := wd G τ2) (ci := 10) (k := 5) (i := 0) C (fun H h => hwp _ H h) dX10_init_170 rfl inGX10 (by decide) w_744 (wd_is y0) rfl ?_
  refine n_bipush (pc := 173) (v := nI 6) C dX10_init_173 (by decide) ?_
  refine n_iconst (pc := 175) (v := nI 2) C dX10_init_175 (by decide) ?_
  refine n_iastW (pc := 176) C hX dX10_init_176 s2_4 (vp_in_nI (by decide) (by decide)) ?_
  rw [show (nI 6).toNatClampNeg = 6 from nI_clamp (by decide)]
  generalize e3 : va_up τ2 4 (iA G 10 (upd (upd (fun _ => 0) 5 (nI 2)) 6 (nI 2))) = τ3
  have s3_2 : Cl G τ3 2 (iA G 4 (upd (upd (fun _ => 0) 2 (nI 0)) 3 (nI 31))) := by rw [← e3]; exact Cl.n (by decide) s2_2
  have s3_3 : Cl G τ3 3 (iA G 2 (upd (upd (fun _ => 0) 1 (nI 0)) 1 (nI 2))) := by rw [← e3]; exact Cl.n (by decide) s2_3
  have s3_4 : Cl G τ3 4 (iA G 10 (upd (upd (fun _ => 0) 5 (nI 2)) 6 (nI 2))) := by rw [← e3]; exact Cl.s s2_4
  have s3_5 : Cl G τ3 5 (iA G 10 (fun _ => 0)) := by rw [← e3]; exact Cl.n (by decide) s2_5
  have s3_6 : Cl G τ3 6 (iA G 2 (upd (fun _ => 0) 1 (nI 0))) := by rw [← e3]; exact Cl.n (by decide) s2_6
  have s3_7 : Cl G τ3 7 (iA G 90 (fun _ => 0)) := by rw [← e3]; exact Cl.n (by decide) s2_7
  have y0 : Cl G τ3 0 (cRef G (nI 0) 0 (nI 0) (nI 0) (nI 0)) := by rw [← e3]; exact Cl.n (by decide) y0
  have ff3 : Fr σ0 τ3 [2, 3, 4, 5, 6, 7] := by rw [← e3]; exact fr3 ff2 (by decide)
  clear e3
  refine n_aload_n (pc := 177) C dX10_init_177 rfl ?_
  refine n_getf (pc := 178) (ws := wd G τ3) (ci := 10) (k := 6) (i := 0) C (fun H h => hwp _ H h) dX10_init_178 rfl inGX10 (by decide) w_745 (wd_is y0) rfl ?_
  refine n_iconst (pc := 181) (v := nI 5) C dX10_init_181 (by decide) ?_
  refine n_iconst (pc := 182) (v := nI 0) C dX10_init_182 (by decide) ?_
  refine n_iastW (pc := 183) C hX dX10_init_183 s3_5 (vp_in_nI (by decide) (by decide)) ?_
  rw [show (nI 5).toNatClampNeg = 5 from nI_clamp (by decide)]
  generalize e4 : va_up τ3 5 (iA G 10 (upd (fun _ => 0) 5 (nI 0))) = τ4
  have s4_2 : Cl G τ4 2 (iA G 4 (upd (upd (fun _ => 0) 2 (nI 0)) 3 (nI 31))) := by rw [← e4]; exact Cl.n (by decide) s3_2
  have s4_3 : Cl G τ4 3 (iA G 2 (upd (upd (fun _ => 0) 1 (nI 0)) 1 (nI 2))) := by rw [← e4]; exact Cl.n (by decide) s3_3
  have s4_4 : Cl G τ4 4 (iA G 10 (upd (upd (fun _ => 0) 5 (nI 2)) 6 (nI 2))) := by rw [← e4]; exact Cl.n (by decide) s3_4
  have s4_5 : Cl G τ4 5 (iA G 10 (upd (fun _ => 0) 5 (nI 0))) := by rw [← e4]; exact Cl.s s3_5
  have s4_6 : Cl G τ4 6 (iA G 2 (upd (fun _ => 0) 1 (nI 0))) := by rw [← e4]; exact Cl.n (by decide) s3_6
  have s4_7 : Cl G τ4 7 (iA G 90 (fun _ => 0)) := by rw [← e4]; exact Cl.n (by decide) s3_7
  have y0 : Cl G τ4 0 (cRef G (nI 0) 0 (nI 0) (nI 0) (nI 0)) := by rw [← e4]; exact Cl.n (by decide) y0
  have ff4 : Fr σ0 τ4 [2, 3, 4, 5, 6, 7] := by rw [← e4]; exact fr3 ff3 (by decide)
  clear e4
  refine n_aload_n (pc := 184) C dX10_init_184 rfl ?_
  refine n_getf (pc := 185) (ws := wd G τ4) (ci := 10) (k := 6) (i := 0) C (fun H h => hwp _ H h) dX10_init_185 rfl inGX10 (by decide) w_745 (wd_is y0) rfl ?_
  refine n_bipush (pc := 188) (v := nI 6) C dX10_init_188 (by decide) ?_
  refine n_iconst (pc := 190) (v := nI 1) C dX10_init_190 (by decide) ?_
  refine n_iastW (pc := 191) C hX dX10_init_191 s4_5 (vp_in_nI (by decide) (by decide)) ?_
  rw [show (nI 6).toNatClampNeg = 6 from nI_clamp (by decide)]
  generalize e5 : va_up τ4 5 (iA G 10 (upd (upd (fun _ => 0) 5 (nI 0)) 6 (nI 1))) = τ5
  have s5_2 : Cl G τ5 2 (iA G 4 (upd (upd (fun _ => 0) 2 (nI 0)) 3 (nI 31))) := by rw [← e5]; exact Cl.n (by decide) s4_2
  have s5_3 : Cl G τ5 3 (iA G 2 (upd (upd (fun _ => 0) 1 (nI 0)) 1 (nI 2))) := by rw [← e5]; exact Cl.n (by decide) s4_3
  have s5_4 : Cl G τ5 4 (iA G 10 (upd (upd (fun _ => 0) 5 (nI 2)) 6 (nI 2))) := by rw [← e5]; exact Cl.n (by decide) s4_4
  have s5_5 : Cl G τ5 5 (iA G 10 (upd (upd (fun _ => 0) 5 (nI 0)) 6 (nI 1))) := by rw [← e5]; exact Cl.s s4_5
  have s5_6 : Cl G τ5 6 (iA G 2 (upd (fun _ => 0) 1 (nI 0))) := by rw [← e5]; exact Cl.n (by decide) s4_6
  have s5_7 : Cl G τ5 7 (iA G 90 (fun _ => 0)) := by rw [← e5]; exact Cl.n (by decide) s4_7
  have y0 : Cl G τ5 0 (cRef G (nI 0) 0 (nI 0) (nI 0) (nI 0)) := by rw [← e5]; exact Cl.n (by decide) y0
  have ff5 : Fr σ0 τ5 [2, 3, 4, 5, 6, 7] := by rw [← e5]; exact fr3 ff4 (by decide)
  clear e5
  refine n_aload_n (pc := 192) C dX10_init_192 rfl ?_
  refine n_getf (pc := 193) (ws := wd G τ5) (ci := 10) (k := 7) (i := 0) C (fun H h => hwp _ H h) dX10_init_193 rfl inGX10 (by decide) w_746 (wd_is y0) rfl ?_
  refine n_iconst (pc := 196) (v := nI 1) C dX10_init_196 (by decide) ?_
  refine n_iconst (pc := 197) (v := nI 3) C dX10_init_197 (by decide) ?_
  refine n_iastW (pc := 198) C hX dX10_init_198 s5_6 (vp_in_nI (by decide) (by decide)) ?_
  rw [show (nI 1).toNatClampNeg = 1 from nI_clamp (by decide)]
  generalize e6 : va_up τ5 6 (iA G 2 (upd (upd (fun _ => 0) 1 (nI 0)) 1 (nI 3))) = τ6
  have s6_2 : Cl G τ6 2 (iA G 4 (upd (upd (fun _ => 0) 2 (nI 0)) 3 (nI 31))) := by rw [← e6]; exact Cl.n (by decide) s5_2
  have s6_3 : Cl G τ6 3 (iA G 2 (upd (upd (fun _ => 0) 1 (nI 0)) 1 (nI 2))) := by rw [← e6]; exact Cl.n (by decide) s5_3
  have s6_4 : Cl G τ6 4 (iA G 10 (upd (upd (fun _ => 0) 5 (nI 2)) 6 (nI 2))) := by rw [← e6]; exact Cl.n (by decide) s5_4
  have s6_5 : Cl G τ6 5 (iA G 10 (upd (upd (fun _ => 0) 5 (nI 0)) 6 (nI 1))) := by rw [← e6]; exact Cl.n (by decide) s5_5
  have s6_6 : Cl G τ6 6 (iA G 2 (upd (upd (fun _ => 0) 1 (nI 0)) 1 (nI 3))) := by rw [← e6]; exact Cl.s s5_6
  have s6_7 : Cl G τ6 7 (iA G 90 (fun _ => 0)) := by rw [← e6]; exact Cl.n (by decide) s5_7
  have y0 : Cl G τ6 0 (cRef G (nI 0) 0 (nI 0) (nI 0) (nI 0)) := by rw [← e6]; exact Cl.n (by decide) y0
  have ff6 : Fr σ0 τ6 [2, 3, 4, 5, 6, 7] := by rw [← e6]; exact fr3 ff5 (by decide)
  clear e6
  refine n_aload_n (pc := 199) C dX10_init_199 rfl ?_
  refine n_getf (pc := 200) (ws := wd G τ6) (ci := 10) (k := 8) (i := 0) C (fun H h => hwp _ H h) dX10_init_200 rfl inGX10 (by decide) w_747 (wd_is y0) rfl ?_
  refine n_bipush (pc := 203) (v := nI 51) C dX10_init_203 (by decide) ?_
  refine n_iconst (pc := 205) (v := nI 1) C dX10_init_205 (by decide) ?_
  refine n_iastW (pc := 206) C hX dX10_init_206 s6_7 (vp_in_nI (by decide) (by decide)) ?_
  rw [show (nI 51).toNatClampNeg = 51 from nI_clamp (by decide)]
  generalize e7 : va_up τ6 7 (iA G 90 (upd (fun _ => 0) 51 (nI 1))) = τ7
  have s7_2 : Cl G τ7 2 (iA G 4 (upd (upd (fun _ => 0) 2 (nI 0)) 3 (nI 31))) := by rw [← e7]; exact Cl.n (by decide) s6_2
  have s7_3 : Cl G τ7 3 (iA G 2 (upd (upd (fun _ => 0) 1 (nI 0)) 1 (nI 2))) := by rw [← e7]; exact Cl.n (by decide) s6_3
  have s7_4 : Cl G τ7 4 (iA G 10 (upd (upd (fun _ => 0) 5 (nI 2)) 6 (nI 2))) := by rw [← e7]; exact Cl.n (by decide) s6_4
  have s7_5 : Cl G τ7 5 (iA G 10 (upd (upd (fun _ => 0) 5 (nI 0)) 6 (nI 1))) := by rw [← e7]; exact Cl.n (by decide) s6_5
  have s7_6 : Cl G τ7 6 (iA G 2 (upd (upd (fun _ => 0) 1 (nI 0)) 1 (nI 3))) := by rw [← e7]; exact Cl.n (by decide) s6_6
  have s7_7 : Cl G τ7 7 (iA G 90 (upd (fun _ => 0) 51 (nI 1))) := by rw [← e7]; exact Cl.s s6_7
  have y0 : Cl G τ7 0 (cRef G (nI 0) 0 (nI 0) (nI 0) (nI 0)) := by rw [← e7]; exact Cl.n (by decide) y0
  have ff7 : Fr σ0 τ7 [2, 3, 4, 5, 6, 7] := by rw [← e7]; exact fr3 ff6 (by decide)
  clear e7
  refine n_aload_n (pc := 207) C dX10_init_207 rfl ?_
  refine n_getf (pc := 208) (ws := wd G τ7) (ci := 10) (k := 8) (i := 0) C (fun H h => hwp _ H h) dX10_init_208 rfl inGX10 (by decide) w_747 (wd_is y0) rfl ?_
  refine n_bipush (pc := 211) (v := nI 55) C dX10_init_211 (by decide) ?_
  refine n_iconst (pc := 213) (v := nI 1) C dX10_init_213 (by decide) ?_
  refine n_iastW (pc := 214) C hX dX10_init_214 s7_7 (vp_in_nI (by decide) (by decide)) ?_
  rw [show (nI 55).toNatClampNeg = 55 from nI_clamp (by decide)]
  generalize e8 : va_up τ7 7 (iA G 90 (upd (upd (fun _ => 0) 51 (nI 1)) 55 (nI 1))) = τ8
  have s8_2 : Cl G τ8 2 (iA G 4 (upd (upd (fun _ => 0) 2 (nI 0)) 3 (nI 31))) := by rw [← e8]; exact Cl.n (by decide) s7_2
  have s8_3 : Cl G τ8 3 (iA G 2 (upd (upd (fun _ => 0) 1 (nI 0)) 1 (nI 2))) := by rw [← e8]; exact Cl.n (by decide) s7_3
  have s8_4 : Cl G τ8 4 (iA G 10 (upd (upd (fun _ => 0) 5 (nI 2)) 6 (nI 2))) := by rw [← e8]; exact Cl.n (by decide) s7_4
  have s8_5 : Cl G τ8 5 (iA G 10 (upd (upd (fun _ => 0) 5 (nI 0)) 6 (nI 1))) := by rw [← e8]; exact Cl.n (by decide) s7_5
  have s8_6 : Cl G τ8 6 (iA G 2 (upd (upd (fun _ => 0) 1 (nI 0)) 1 (nI 3))) := by rw [← e8]; exact Cl.n (by decide) s7_6
  have s8_7 : Cl G τ8 7 (iA G 90 (upd (upd (fun _ => 0) 51 (nI 1)) 55 (nI 1))) := by rw [← e8]; exact Cl.s s7_7
  have y0 : Cl G τ8 0 (cRef G (nI 0) 0 (nI 0) (nI 0) (nI 0)) := by rw [← e8]; exact Cl.n (by decide) y0
  have ff8 : Fr σ0 τ8 [2, 3, 4, 5, 6, 7] := by rw [← e8]; exact fr3 ff7 (by decide)
  clear e8
  refine n_aload_n (pc := 215) C dX10_init_215 rfl ?_
  refine n_getf (pc := 216) (ws := wd G τ8) (ci := 10) (k := 8) (i := 0) C (fun H h => hwp _ H h) dX10_init_216 rfl inGX10 (by decide) w_747 (wd_is y0) rfl ?_
  refine n_bipush (pc := 219) (v := nI 56) C dX10_init_219 (by decide) ?_
  refine n_iconst (pc := 221) (v := nI 1) C dX10_init_221 (by decide) ?_
  refine n_iastW (pc := 222) C hX dX10_init_222 s8_7 (vp_in_nI (by decide) (by decide)) ?_
  rw [show (nI 56).toNatClampNeg = 56 from nI_clamp (by decide)]
  generalize e9 : va_up τ8 7 (iA G 90 (upd (upd (upd (fun _ => 0) 51 (nI 1)) 55 (nI 1)) 56 (nI 1))) = τ9
  have s9_2 : Cl G τ9 2 (iA G 4 (upd (upd (fun _ => 0) 2 (nI 0)) 3 (nI 31))) := by rw [← e9]; exact Cl.n (by decide) s8_2
  have s9_3 : Cl G τ9 3 (iA G 2 (upd (upd (fun _ => 0) 1 (nI 0)) 1 (nI 2))) := by rw [← e9]; exact Cl.n (by decide) s8_3
  have s9_4 : Cl G τ9 4 (iA G 10 (upd (upd (fun _ => 0) 5 (nI 2)) 6 (nI 2))) := by rw [← e9]; exact Cl.n (by decide) s8_4
  have s9_5 : Cl G τ9 5 (iA G 10 (upd (upd (fun _ => 0) 5 (nI 0)) 6 (nI 1))) := by rw [← e9]; exact Cl.n (by decide) s8_5
  have s9_6 : Cl G τ9 6 (iA G 2 (upd (upd (fun _ => 0) 1 (nI 0)) 1 (nI 3))) := by rw [← e9]; exact Cl.n (by decide) s8_6
  have s9_7 : Cl G τ9 7 (iA G 90 (upd (upd (upd (fun _ => 0) 51 (nI 1)) 55 (nI 1)) 56 (nI 1))) := by rw [← e9]; exact Cl.s s8_7
  have y0 : Cl G τ9 0 (cRef G (nI 0) 0 (nI 0) (nI 0) (nI 0)) := by rw [← e9]; exact Cl.n (by decide) y0
  have ff9 : Fr σ0 τ9 [2, 3, 4, 5, 6, 7] := by rw [← e9]; exact fr3 ff8 (by decide)
  clear e9
  have hv := T0_v
  have hTW := T0_W
  obtain ⟨σ2, t1, t2, t3, ⟨fs', t4, t5⟩, t6⟩ := r_takes y0 ⟨s9_2, s9_3, s9_4, s9_5, s9_6, s9_7⟩ (P := T0) (by
    refine ⟨hTW, by rw [hv.1]; rfl, by rw [hv.2.1]; rfl, by rw [hv.2.2.1]; rfl, by rw [hv.2.2.2.1]; rfl, ?_, ?_, T0_q ⟨rfl, rfl, rfl, rfl, rfl, rfl⟩⟩
    · intro q hq
      rw [hv.2.2.1] at hq
      have e2 : q = 0 ∨ q = 1 := by omega
      rcases e2 with rfl | rfl
      · rw [hv.2.2.2.2.1]; rfl
      · rw [hv.2.2.2.2.2.1]; rfl
    · intro q hq
      rw [hv.2.2.1] at hq
      have e2 : q = 0 ∨ q = 1 := by omega
      rcases e2 with rfl | rfl
      · rw [hv.2.2.2.2.2.2.1]; rfl
      · rw [hv.2.2.2.2.2.2.2]; rfl) T0_m (z8.fr ff9 (by decide))
  refine n_aload_n (pc := 223) C dX10_init_223 rfl ?_
  refine n_callV (pc := 224) (i := 0) (ci := 10) (As := []) (rest := []) (Φ1 := WP G σ2) C hX hH t1 dX10_init_224 rfl w_738 (List.forall_mem_cons.mpr ⟨w_735, List.forall_mem_cons.mpr ⟨w_737, List.forall_mem_cons.mpr ⟨wp_21, List.forall_mem_cons.mpr ⟨w_16, fun _ h => absurd h List.not_mem_nil⟩⟩⟩⟩) ds_X10_takes y0 ⟨Nat.le_of_ble_eq_true rfl, Nat.le_of_ble_eq_true rfl⟩ (by decide) ⟨Nat.le_of_ble_eq_true rfl, Nat.le_of_ble_eq_true rfl⟩ (fun _ h => h) (fun H H1 _ _ h3 _ => h3) ?_
  have hf : Fr σ0 σ2 [0, 2, 3, 4, 5, 6, 7, 8] := fun j hj => (t6 j hj).trans (ff9 j (fun q => hj (by simp at q ⊢; omega)))
  refine n_vret (pc := 227) C hr (fun H h => ⟨G, σ2, ⟨hGl, hGD, hGT, hN, hga, hGI, hgA⟩, h, ⟨_, t2, ⟨fs', t4, t5, fun k hk => absurd hk (Nat.not_lt_zero _)⟩, _, z9.fr hf (by decide), fun k hk => absurd hk (Nat.not_lt_zero _)⟩, t3, ⟨_, zX.fr hf (by decide), fun k hk => absurd hk (Nat.not_lt_zero _)⟩, ⟨_, zR.fr hf (by decide), fun k hk => absurd hk (Nat.not_lt_zero _)⟩, zL.fr hf (by decide) (by decide) (by decide), zW.fr hf (by decide), zC.fr hf (by decide) (by decide), zN.fr hf (by decide) (by decide)⟩) dX10_init_227
