/-! count, crowd, proof, mustSee -/
def cntV (T : TS) (h : HH) (n r : Nat) : Nat → Int32
  | 0 => nI (tm T)
  | 1 => nI (tn T)
  | 2 => nI (many h.1.1)
  | 3 => nI r
  | 4 => nI h.2.1
  | 5 => nI h.2.2.2.1
  | 6 => nI n
  | 7 => nI (tl T)
  | 8 => nI (seen T)
  | _ => -1
def countF (T : TS) (h : HH) (n r : Nat) (x : Int32) : Int32 := if inR x 9 then cntV T h n r x.toNatClampNeg else -1
def drw (z k m : Nat) : Nat := (7919 * z + 6151 * k + 1) * (7919 * z + 6151 * k + 1) % 65521 % m
/-- a crowd: how many passed, who passed last and in what he differed -/
def crw (T : TS) (z : Nat) : Nat → Nat → Nat → Nat → Nat → Nat × Nat
  | 0, _, L, _, s => (s, L)
  | d2 + 1, k, L, d, s => if lLets T L d (drw z k (tm T)) then crw T z d2 (k + 1) (drw z k (tm T) + 1) (uL T L (drw z k (tm T))) (s + 1) else crw T z d2 (k + 1) L d s
section MORE
variable {G : GG} {σ : WW} {T : TS} {h : HH}
theorem c_count {n r : Nat} {x : Nat → Int32} {w : Nat → Nat} (h0 : Cl G σ 0 (cMain G)) (hT : RT G σ T) (hg : RG G σ h) (hw : HW (tm T) h) (hx : RX G σ n x) (hr : RR G σ r w) (y : Int32) : Mt G mX9_count [.ref (ga G 0), .int y] σ (some (.int (countF T h n r y))) σ := by
  obtain ⟨bo, hc, h9⟩ := hT.c
  have h2 := hg.1
  have h1 := hx.1
  have h3 := hr.1
  refine Mt.of (by decide +kernel) (Nat.le_of_ble_eq_true rfl) (fun κ C => ?_)
  rcases pk_ix y (n := 9) (by decide) with q | q | ⟨j, hj, rfl⟩
  · rw [show countF T h n r y = -1 by simp [countF, inR_a q]]
    refine g_iload_n (pc := 0) C dX9_count_0 rfl ?_
    refine g_tableOut (pc := 1) C 124 dX9_count_1 (Or.inl (by simpa using Int32.lt_iff_toInt_lt.mp q)) (by decide) ?_
    refine g_iconst (pc := 124) (v := -1) C dX9_count_124 (by decide) ?_
    exact g_ireturn (pc := 125) C dX9_count_125 rfl (rfl) (rfl)
  · rw [show countF T h n r y = -1 by simp [countF, inR_b q]]
    refine g_iload_n (pc := 0) C dX9_count_0 rfl ?_
    refine g_tableOut (pc := 1) C 124 dX9_count_1 (Or.inr (by have := Int32.le_iff_toInt_le.mp q; rw [nI_toInt (by decide)] at this; omega)) (by decide) ?_
    refine g_iconst (pc := 124) (v := -1) C dX9_count_124 (by decide) ?_
    exact g_ireturn (pc := 125) C dX9_count_125 rfl (rfl) (rfl)
  · rw [show countF T h n r (nI j) = cntV T h n r j by simp [countF, inR_n hj, nI_clamp (show j < 2 ^ 31 by omega)]]
    have hj' : j = 0 ∨ j = 1 ∨ j = 2 ∨ j = 3 ∨ j = 4 ∨ j = 5 ∨ j = 6 ∨ j = 7 ∨ j = 8 := by omega
    refine g_iload_n (pc := 0) C dX9_count_0 rfl ?_
    rcases hj' with rfl | rfl | rfl | rfl | rfl | rfl | rfl | rfl | rfl
    · refine g_tableIn (pc := 1) C 52 dX9_count_1 (by decide) (by decide) rfl (by decide) ?_
      refine g_aload_n (pc := 52) C dX9_count_52 rfl ?_
      apply gf_X9_68 (pc := 53) C rfl dX9_count_53
      · repeat (first | assumption | exact Cl.s (by assumption) | refine Cl.n (by first | decide | omega) ?_)
      · rfl
      apply gf_X9_105 (pc := 56) C rfl dX9_count_56
      · repeat (first | assumption | exact Cl.s (by assumption) | refine Cl.n (by first | decide | omega) ?_)
      · rfl
      exact g_ireturn (pc := 59) C dX9_count_59 rfl (rfl) (rfl)
    · refine g_tableIn (pc := 1) C 60 dX9_count_1 (by decide) (by decide) rfl (by decide) ?_
      refine g_aload_n (pc := 60) C dX9_count_60 rfl ?_
      apply gf_X9_68 (pc := 61) C rfl dX9_count_61
      · repeat (first | assumption | exact Cl.s (by assumption) | refine Cl.n (by first | decide | omega) ?_)
      · rfl
      apply gf_X9_251 (pc := 64) C rfl dX9_count_64
      · repeat (first | assumption | exact Cl.s (by assumption) | refine Cl.n (by first | decide | omega) ?_)
      · rfl
      exact g_ireturn (pc := 67) C dX9_count_67 rfl (rfl) (rfl)
    · refine g_tableIn (pc := 1) C 68 dX9_count_1 (by decide) (by decide) rfl (by decide) ?_
      refine g_aload_n (pc := 68) C dX9_count_68 rfl ?_
      apply gf_X9_19 (pc := 69) C rfl dX9_count_69
      · repeat (first | assumption | exact Cl.s (by assumption) | refine Cl.n (by first | decide | omega) ?_)
      · rfl
      apply cl_X9_153 (pc := 72) C rfl (t_howManyIn h2 hw.1.1) dX9_count_72
      · repeat (first | assumption | exact Cl.s (by assumption) | refine Cl.n (by first | decide | omega) ?_)
      · rfl
      · exact Nat.le_of_ble_eq_true rfl
      exact g_ireturn (pc := 75) C dX9_count_75 rfl (rfl) (rfl)
    · refine g_tableIn (pc := 1) C 76 dX9_count_1 (by decide) (by decide) rfl (by decide) ?_
      refine g_aload_n (pc := 76) C dX9_count_76 rfl ?_
      apply gf_X9_26 (pc := 77) C rfl dX9_count_77
      · repeat (first | assumption | exact Cl.s (by assumption) | refine Cl.n (by first | decide | omega) ?_)
      · rfl
      apply gf_X9_109 (pc := 80) C rfl dX9_count_80
      · repeat (first | assumption | exact Cl.s (by assumption) | refine Cl.n (by first | decide | omega) ?_)
      · rfl
      exact g_ireturn (pc := 83) C dX9_count_83 rfl (rfl) (rfl)
    · refine g_tableIn (pc := 1) C 84 dX9_count_1 (by decide) (by decide) rfl (by decide) ?_
      refine g_aload_n (pc := 84) C dX9_count_84 rfl ?_
      apply gf_X9_19 (pc := 85) C rfl dX9_count_85
      · repeat (first | assumption | exact Cl.s (by assumption) | refine Cl.n (by first | decide | omega) ?_)
      · rfl
      apply gf_X9_160 (pc := 88) C rfl dX9_count_88
      · repeat (first | assumption | exact Cl.s (by assumption) | refine Cl.n (by first | decide | omega) ?_)
      · rfl
      exact g_ireturn (pc := 91) C dX9_count_91 rfl (rfl) (rfl)
    · refine g_tableIn (pc := 1) C 92 dX9_count_1 (by decide) (by decide) rfl (by decide) ?_
      refine g_aload_n (pc := 92) C dX9_count_92 rfl ?_
      apply gf_X9_19 (pc := 93) C rfl dX9_count_93
      · repeat (first | assumption | exact Cl.s (by assumption) | refine Cl.n (by first | decide | omega) ?_)
      · rfl
      apply gf_X9_245 (pc := 96) C rfl dX9_count_96
      · repeat (first | assumption | exact Cl.s (by assumption) | refine Cl.n (by first | decide | omega) ?_)
      · rfl
      exact g_ireturn (pc := 99) C dX9_count_99 rfl (rfl) (rfl)
    · refine g_tableIn (pc := 1) C 100 dX9_count_1 (by decide) (by decide) rfl (by decide) ?_
      refine g_aload_n (pc := 100) C dX9_count_100 rfl ?_
      apply gf_X9_12 (pc := 101) C rfl dX9_count_101
      · repeat (first | assumption | exact Cl.s (by assumption) | refine Cl.n (by first | decide | omega) ?_)
      · rfl
      apply gf_X9_102 (pc := 104) C rfl dX9_count_104
      · repeat (first | assumption | exact Cl.s (by assumption) | refine Cl.n (by first | decide | omega) ?_)
      · rfl
      exact g_ireturn (pc := 107) C dX9_count_107 rfl (rfl) (rfl)
    · refine g_tableIn (pc := 1) C 108 dX9_count_1 (by decide) (by decide) rfl (by decide) ?_
      refine g_aload_n (pc := 108) C dX9_count_108 rfl ?_
      apply gf_X9_68 (pc := 109) C rfl dX9_count_109
      · repeat (first | assumption | exact Cl.s (by assumption) | refine Cl.n (by first | decide | omega) ?_)
      · rfl
      apply gf_X9_183 (pc := 112) C rfl dX9_count_112
      · repeat (first | assumption | exact Cl.s (by assumption) | refine Cl.n (by first | decide | omega) ?_)
      · rfl
      exact g_ireturn (pc := 115) C dX9_count_115 rfl (rfl) (rfl)
    · refine g_tableIn (pc := 1) C 116 dX9_count_1 (by decide) (by decide) rfl (by decide) ?_
      refine g_aload_n (pc := 116) C dX9_count_116 rfl ?_
      apply gf_X9_68 (pc := 117) C rfl dX9_count_117
      · repeat (first | assumption | exact Cl.s (by assumption) | refine Cl.n (by first | decide | omega) ?_)
      · rfl
      apply cl_X9_186 (pc := 120) C rfl (t_sees hT) dX9_count_120
      · repeat (first | assumption | exact Cl.s (by assumption) | refine Cl.n (by first | decide | omega) ?_)
      · rfl
      · exact Nat.le_of_ble_eq_true rfl
      exact g_ireturn (pc := 123) C dX9_count_123 rfl (rfl) (rfl)
theorem drx {z k : Nat} (hz : z ≤ 9999) (hk : k < 60) : (7919 : Int64) * (nI z).toInt64 + 6151 * (nI k).toInt64 + 1 = lN (7919 * z + 6151 * k + 1) := by
  rw [nI_l (by omega), nI_l (by omega)]
  show lN 7919 * lN z + lN 6151 * lN k + lN 1 = _
  rw [lN_mul, lN_mul, lN_add, lN_add]
theorem drl {X m : Nat} (hX : X < 100000000) (h1 : 1 ≤ m) (hm : m ≤ 9) : ((lN X * lN X - lN X * lN X / 65521 * 65521) - (lN X * lN X - lN X * lN X / 65521 * 65521) / lN m * lN m).toInt32 = nI (X * X % 65521 % m) := by
  have hx : X * X < 10000000000000000 := by
    have := Nat.mul_lt_mul'' hX hX
    omega
  rw [lN_mul]
  have e := pk_lRem (a := X * X) (b := 65521) (by omega) (by decide) (by decide)
  change lN (X * X) - lN (X * X) / 65521 * 65521 = _ at e
  rw [e, pk_lRem (by omega) (by omega) (by omega), lN_i]
theorem t_drawn (hT : RT G σ T) (h1 : 1 ≤ tm T) {z k : Nat} (hz : z ≤ 9999) (hk : k < 60) : Mt G mX7_drawn [.ref (ga G 9), .int (nI z), .int (nI k)] σ (some (.int (nI (drw z k (tm T))))) σ := by
  obtain ⟨bo, hc, h9⟩ := hT.c
  have hm := hT.w.2.2.2.2.1
  refine Mt.of (by decide +kernel) (Nat.le_of_ble_eq_true rfl) (fun κ C => ?_)
  refine g_ldc2 (pc := 0) C dX7_drawn_0 k_X7_71 ?_
  refine g_iload_n (pc := 3) C dX7_drawn_3 rfl ?_
  refine g_i2l (pc := 4) C dX7_drawn_4 ?_
  refine g_lmul (pc := 5) C dX7_drawn_5 ?_
  refine g_ldc2 (pc := 6) C dX7_drawn_6 k_X7_73 ?_
  refine g_iload_n (pc := 9) C dX7_drawn_9 rfl ?_
  refine g_i2l (pc := 10) C dX7_drawn_10 ?_
  refine g_lmul (pc := 11) C dX7_drawn_11 ?_
  refine g_ladd (pc := 12) C dX7_drawn_12 ?_
  refine g_lconst (pc := 13) (v := 1) C dX7_drawn_13 (by decide) ?_
  refine g_ladd (pc := 14) C dX7_drawn_14 ?_
  rw [drx hz hk]
  refine g_lstore_n (pc := 15) C [(0, .ref (ga G 9)), (1, .int (nI z)), (2, .int (nI k))] dX7_drawn_15 (by decide) ⟨rfl, rfl, rfl, trivial⟩ rfl rfl ?_
  refine g_aload_n (pc := 16) C dX7_drawn_16 rfl ?_
  apply gf_X7_25 (pc := 17) C rfl dX7_drawn_17
  · repeat (first | assumption | exact Cl.s (by assumption) | refine Cl.n (by first | decide | omega) ?_)
  · rfl
  refine g_iconst (pc := 20) (v := nI 1) C dX7_drawn_20 (by decide) ?_
  refine g_icmp_ge (pc := 21) C 28 dX7_drawn_21 (by decide) (fun c21 => ?_) (fun c21 => ?_)
  · refine g_lload_n (pc := 28) C dX7_drawn_28 rfl ?_
    refine g_lload_n (pc := 29) C dX7_drawn_29 rfl ?_
    refine g_lmul (pc := 30) C dX7_drawn_30 ?_
    refine g_ldc2 (pc := 31) C dX7_drawn_31 k_X7_75 ?_
    refine g_lrem (pc := 34) C dX7_drawn_34 (by decide) ?_
    refine g_aload_n (pc := 35) C dX7_drawn_35 rfl ?_
    apply gf_X7_25 (pc := 36) C rfl dX7_drawn_36
    · repeat (first | assumption | exact Cl.s (by assumption) | refine Cl.n (by first | decide | omega) ?_)
    · rfl
    refine g_i2l (pc := 39) C dX7_drawn_39 ?_
    rw [nI_l (by omega)]
    refine g_lrem (pc := 40) C dX7_drawn_40 (fun q => by rw [show (0 : Int64) = lN 0 from rfl, lN_eq (by omega) (by decide)] at q; omega) ?_
    refine g_l2i (pc := 41) C dX7_drawn_41 ?_
    exact g_ireturn (pc := 42) C dX7_drawn_42 rfl (by rw [drl (by omega) h1 hm]; rfl) (rfl)
  · exact absurd (nI_le h1 (by omega)) c21
theorem drw_lt {z k m : Nat} (h : 1 ≤ m) : drw z k m < m := Nat.mod_lt _ h
def crowdF (T : TS) (z n what : Int32) : Int32 := if z < 0 ∨ 9999 < z ∨ n < 1 ∨ 60 < n ∨ what < 0 ∨ 1 < what then -1 else if what = 0 then nI (crw T z.toNatClampNeg n.toNatClampNeg 0 0 0 0).1 else lat (crw T z.toNatClampNeg n.toNatClampNeg 0 0 0 0).2
theorem t_crowd (h0 : Cl G σ 0 (cMain G)) (hT : RT G σ T) (h1 : 1 ≤ tm T) (hl : RLi G σ) {z n : Nat} (hz : z ≤ 9999) (hn1 : 1 ≤ n) (hn : n ≤ 60) {b : Bool} : ∃ σ', Mt G mX9_crowd [.ref (ga G 0), .int (nI z), .int (nI n), .int (nI (b2 b))] σ (some (.int (if b then lat (crw T z n 0 0 0 0).2 else nI (crw T z n 0 0 0 0).1))) σ' ∧ RLi G σ' ∧ Fr σ σ' [4] := by
  obtain ⟨x, y, h4⟩ := hl
  have hm := hT.w.2.2.2.2.1
  have loop : ∀ d2 k L d s {σ1 : WW}, k + d2 = n → L ≤ tm T → d < 32 → Fr σ σ1 [4] → Cl G σ1 4 (cLine L d) → ∃ σ', (∀ κ, Cx G mX9_crowd κ → Go G mX9_crowd κ (some (.int (if b then lat (crw T z d2 k L d s).2 else nI (crw T z d2 k L d s).1))) σ' σ1 46 [(0, .ref (ga G 0)), (1, .int (nI z)), (2, .int (nI n)), (3, .int (nI (b2 b))), (4, .int (nI s)), (5, .int (nI k))] []) ∧ RLi G σ' ∧ Fr σ σ' [4] := by
    intro d2
    induction d2 with
    | zero =>
      intro k L d s σ1 hk hL hd hf h41
      have h01 := h0.fr hf (by decide)
      refine ⟨σ1, fun κ C => ?_, ⟨_, _, h41⟩, hf⟩
      cases b
      · refine g_iload (pc := 46) C dX9_crowd_46 rfl ?_
        refine g_iload_n (pc := 48) C dX9_crowd_48 rfl ?_
        refine g_icmp_ge (pc := 49) C 102 dX9_crowd_49 (by decide) (fun c49 => ?_) (fun c49 => ?_)
        · refine g_iload_n (pc := 102) C dX9_crowd_102 rfl ?_
          refine g_if_nE (pc := 103) C 111 dX9_crowd_103 (by decide) (fun c103 => ?_) (fun c103 => ?_)
          · exact absurd rfl c103
          · refine g_iload (pc := 106) C dX9_crowd_106 rfl ?_
            refine g_goto (pc := 108) C 118 dX9_crowd_108 (by decide) ?_
            exact g_ireturn (pc := 118) C dX9_crowd_118 rfl (rfl) (rfl)
        · exact absurd (nI_le (by omega) (by omega)) c49
      · refine g_iload (pc := 46) C dX9_crowd_46 rfl ?_
        refine g_iload_n (pc := 48) C dX9_crowd_48 rfl ?_
        refine g_icmp_ge (pc := 49) C 102 dX9_crowd_49 (by decide) (fun c49 => ?_) (fun c49 => ?_)
        · refine g_iload_n (pc := 102) C dX9_crowd_102 rfl ?_
          refine g_if_nE (pc := 103) C 111 dX9_crowd_103 (by decide) (fun c103 => ?_) (fun c103 => ?_)
          · refine g_aload_n (pc := 111) C dX9_crowd_111 rfl ?_
            apply gf_X9_33 (pc := 112) C rfl dX9_crowd_112
            · repeat (first | assumption | exact Cl.s (by assumption) | refine Cl.n (by first | decide | omega) ?_)
            · rfl
            apply gf_X9_163 (pc := 115) C rfl dX9_crowd_115
            · repeat (first | assumption | exact Cl.s (by assumption) | refine Cl.n (by first | decide | omega) ?_)
            · rfl
            exact g_ireturn (pc := 118) C dX9_crowd_118 rfl (rfl) (rfl)
          · exact absurd c103 (by decide)
        · exact absurd (nI_le (by omega) (by omega)) c49
    | succ d2 ih =>
      intro k L d s σ1 hk hL hd hf h41
      have h01 := h0.fr hf (by decide)
      have hT1 := hT.fr hf (by decide) (by decide) (by decide) (by decide)
      obtain ⟨bo, hc, h9⟩ := hT1.c
      have hp := drw_lt (z := z) (k := k) h1
      cases hl : lLets T L d (drw z k (tm T))
      · obtain ⟨σ2, g1, g2, g3⟩ := ih (k + 1) L d s (by omega) hL hd hf h41
        refine ⟨σ2, fun κ C => ?_, g2, g3⟩
        rw [show crw T z (d2 + 1) k L d s = crw T z d2 (k + 1) L d s by simp [crw, hl]]
        refine g_iload (pc := 46) C dX9_crowd_46 rfl ?_
        refine g_iload_n (pc := 48) C dX9_crowd_48 rfl ?_
        refine g_icmp_ge (pc := 49) C 102 dX9_crowd_49 (by decide) (fun c49 => ?_) (fun c49 => ?_)
        · exact absurd c49 (nI_ge (by omega) (by omega))
        · refine g_aload_n (pc := 52) C dX9_crowd_52 rfl ?_
          apply gf_X9_68 (pc := 53) C rfl dX9_crowd_53
          · repeat (first | assumption | exact Cl.s (by assumption) | refine Cl.n (by first | decide | omega) ?_)
          · rfl
          refine g_iload_n (pc := 56) C dX9_crowd_56 rfl ?_
          refine g_iload (pc := 57) C dX9_crowd_57 rfl ?_
          apply cl_X9_239 (pc := 59) C rfl (t_drawn hT1 h1 hz (by omega)) dX9_crowd_59
          · repeat (first | assumption | exact Cl.s (by assumption) | refine Cl.n (by first | decide | omega) ?_)
          · rfl
          · exact Nat.le_of_ble_eq_true rfl
          refine g_istore (pc := 62) C dX9_crowd_62 (by decide) rfl ?_
          refine g_aload_n (pc := 64) C dX9_crowd_64 rfl ?_
          apply gf_X9_33 (pc := 65) C rfl dX9_crowd_65
          · repeat (first | assumption | exact Cl.s (by assumption) | refine Cl.n (by first | decide | omega) ?_)
          · rfl
          refine g_aload_n (pc := 68) C dX9_crowd_68 rfl ?_
          apply gf_X9_68 (pc := 69) C rfl dX9_crowd_69
          · repeat (first | assumption | exact Cl.s (by assumption) | refine Cl.n (by first | decide | omega) ?_)
          · rfl
          refine g_iload (pc := 72) C dX9_crowd_72 rfl ?_
          apply cl_X9_142 (pc := 74) C rfl (t_llets hT1 h41 hL hd hp) dX9_crowd_74
          · repeat (first | assumption | exact Cl.s (by assumption) | refine Cl.n (by first | decide | omega) ?_)
          · rfl
          · exact Nat.le_of_ble_eq_true rfl
          refine g_if_eq (pc := 77) C 96 dX9_crowd_77 (by decide) (fun c77 => ?_) (fun c77 => ?_)
          · refine g_iinc (pc := 96) C dX9_crowd_96 rfl (by decide) rfl ?_
            refine g_goto (pc := 99) C 46 dX9_crowd_99 (by decide) ?_
            exact g_to (g1 κ C) ⟨rfl, rfl, rfl, rfl, rfl, lgi (nI_1 k), trivial⟩
          · exact absurd (by rw [hl]; rfl) c77
      · obtain ⟨σ2, g1, g2, g3⟩ := ih (k + 1) (drw z k (tm T) + 1) (uL T L (drw z k (tm T))) (s + 1) (σ1 := va_up σ1 4 (cLine (drw z k (tm T) + 1) (uL T L (drw z k (tm T))))) (by omega) (by omega) (uL_lt T _ _ hT.w.1) (fr3 hf (by decide)) (Cl.s h41)
        refine ⟨σ2, fun κ C => ?_, g2, g3⟩
        rw [show crw T z (d2 + 1) k L d s = crw T z d2 (k + 1) (drw z k (tm T) + 1) (uL T L (drw z k (tm T))) (s + 1) by simp [crw, hl]]
        refine g_iload (pc := 46) C dX9_crowd_46 rfl ?_
        refine g_iload_n (pc := 48) C dX9_crowd_48 rfl ?_
        refine g_icmp_ge (pc := 49) C 102 dX9_crowd_49 (by decide) (fun c49 => ?_) (fun c49 => ?_)
        · exact absurd c49 (nI_ge (by omega) (by omega))
        · refine g_aload_n (pc := 52) C dX9_crowd_52 rfl ?_
          apply gf_X9_68 (pc := 53) C rfl dX9_crowd_53
          · repeat (first | assumption | exact Cl.s (by assumption) | refine Cl.n (by first | decide | omega) ?_)
          · rfl
          refine g_iload_n (pc := 56) C dX9_crowd_56 rfl ?_
          refine g_iload (pc := 57) C dX9_crowd_57 rfl ?_
          apply cl_X9_239 (pc := 59) C rfl (t_drawn hT1 h1 hz (by omega)) dX9_crowd_59
          · repeat (first | assumption | exact Cl.s (by assumption) | refine Cl.n (by first | decide | omega) ?_)
          · rfl
          · exact Nat.le_of_ble_eq_true rfl
          refine g_istore (pc := 62) C dX9_crowd_62 (by decide) rfl ?_
          refine g_aload_n (pc := 64) C dX9_crowd_64 rfl ?_
          apply gf_X9_33 (pc := 65) C rfl dX9_crowd_65
          · repeat (first | assumption | exact Cl.s (by assumption) | refine Cl.n (by first | decide | omega) ?_)
          · rfl
          refine g_aload_n (pc := 68) C dX9_crowd_68 rfl ?_
          apply gf_X9_68 (pc := 69) C rfl dX9_crowd_69
          · repeat (first | assumption | exact Cl.s (by assumption) | refine Cl.n (by first | decide | omega) ?_)
          · rfl
          refine g_iload (pc := 72) C dX9_crowd_72 rfl ?_
          apply cl_X9_142 (pc := 74) C rfl (t_llets hT1 h41 hL hd hp) dX9_crowd_74
          · repeat (first | assumption | exact Cl.s (by assumption) | refine Cl.n (by first | decide | omega) ?_)
          · rfl
          · exact Nat.le_of_ble_eq_true rfl
          refine g_if_eq (pc := 77) C 96 dX9_crowd_77 (by decide) (fun c77 => ?_) (fun c77 => ?_)
          · exact absurd c77 (by rw [hl]; decide)
          · refine g_aload_n (pc := 80) C dX9_crowd_80 rfl ?_
            apply gf_X9_33 (pc := 81) C rfl dX9_crowd_81
            · repeat (first | assumption | exact Cl.s (by assumption) | refine Cl.n (by first | decide | omega) ?_)
            · rfl
            refine g_aload_n (pc := 84) C dX9_crowd_84 rfl ?_
            apply gf_X9_68 (pc := 85) C rfl dX9_crowd_85
            · repeat (first | assumption | exact Cl.s (by assumption) | refine Cl.n (by first | decide | omega) ?_)
            · rfl
            refine g_iload (pc := 88) C dX9_crowd_88 rfl ?_
            apply cl_X9_172 (pc := 90) C rfl (t_take hT1 h41 hL hp) dX9_crowd_90
            · repeat (first | assumption | exact Cl.s (by assumption) | refine Cl.n (by first | decide | omega) ?_)
            · rfl
            · exact Nat.le_of_ble_eq_true rfl
            refine g_iinc (pc := 93) C dX9_crowd_93 rfl (by decide) rfl ?_
            refine g_iinc (pc := 96) C dX9_crowd_96 rfl (by decide) rfl ?_
            refine g_goto (pc := 99) C 46 dX9_crowd_99 (by decide) ?_
            exact g_to (g1 κ C) ⟨rfl, rfl, rfl, rfl, lgi (nI_1 s), lgi (nI_1 k), trivial⟩
  obtain ⟨σ2, g1, g2, g3⟩ := loop n 0 0 0 0 (σ1 := va_up σ 4 (cLine 0 0)) (by omega) (by omega) (by omega) (fr3 fr0 (by decide)) (Cl.s h4)
  refine ⟨σ2, ?_, g2, g3⟩
  refine Mt.of (by decide +kernel) (Nat.le_of_ble_eq_true rfl) (fun κ C => ?_)
  refine g_iload_n (pc := 0) C dX9_crowd_0 rfl ?_
  refine g_if_lt (pc := 1) C 31 dX9_crowd_1 (by decide) (fun c1 => ?_) (fun c1 => ?_)
  · exact absurd c1 (nI_pos (by omega))
  · refine g_iload_n (pc := 4) C dX9_crowd_4 rfl ?_
    refine g_sipush (pc := 5) (v := nI 9999) C dX9_crowd_5 (by decide) ?_
    refine g_icmp_gt (pc := 8) C 31 dX9_crowd_8 (by decide) (fun c8 => ?_) (fun c8 => ?_)
    · exact absurd c8 (nI_nlt (by omega) (by omega))
    · refine g_iload_n (pc := 11) C dX9_crowd_11 rfl ?_
      refine g_iconst (pc := 12) (v := nI 1) C dX9_crowd_12 (by decide) ?_
      refine g_icmp_lt (pc := 13) C 31 dX9_crowd_13 (by decide) (fun c13 => ?_) (fun c13 => ?_)
      · exact absurd c13 (nI_nlt (by omega) (by omega))
      · refine g_iload_n (pc := 16) C dX9_crowd_16 rfl ?_
        refine g_bipush (pc := 17) (v := nI 60) C dX9_crowd_17 (by decide) ?_
        refine g_icmp_gt (pc := 19) C 31 dX9_crowd_19 (by decide) (fun c19 => ?_) (fun c19 => ?_)
        · exact absurd c19 (nI_nlt (by omega) (by omega))
        · refine g_iload_n (pc := 22) C dX9_crowd_22 rfl ?_
          refine g_if_lt (pc := 23) C 31 dX9_crowd_23 (by decide) (fun c23 => ?_) (fun c23 => ?_)
          · exact absurd c23 (nI_pos (by have := b2_lt b; omega))
          · refine g_iload_n (pc := 26) C dX9_crowd_26 rfl ?_
            refine g_iconst (pc := 27) (v := nI 1) C dX9_crowd_27 (by decide) ?_
            refine g_icmp_le (pc := 28) C 33 dX9_crowd_28 (by decide) (fun c28 => ?_) (fun c28 => ?_)
            · refine g_aload_n (pc := 33) C dX9_crowd_33 rfl ?_
              apply gf_X9_33 (pc := 34) C rfl dX9_crowd_34
              · repeat (first | assumption | exact Cl.s (by assumption) | refine Cl.n (by first | decide | omega) ?_)
              · rfl
              apply cl_X9_168 (pc := 37) C rfl (t_lclear h4) dX9_crowd_37
              · repeat (first | assumption | exact Cl.s (by assumption) | refine Cl.n (by first | decide | omega) ?_)
              · rfl
              · exact Nat.le_of_ble_eq_true rfl
              refine g_iconst (pc := 40) (v := nI 0) C dX9_crowd_40 (by decide) ?_
              refine g_istore (pc := 41) C dX9_crowd_41 (by decide) rfl ?_
              refine g_iconst (pc := 43) (v := nI 0) C dX9_crowd_43 (by decide) ?_
              refine g_istore (pc := 44) C dX9_crowd_44 (by decide) rfl ?_
              exact g_to (g1 κ C) ⟨rfl, rfl, rfl, rfl, rfl, rfl, trivial⟩
            · exact absurd (nI_le (by have := b2_lt b; omega) (by decide)) c28
theorem c_crowd (h0 : Cl G σ 0 (cMain G)) (hT : RT G σ T) (h1 : 1 ≤ tm T) (hl : RLi G σ) (z n what : Int32) : ∃ σ', Mt G mX9_crowd [.ref (ga G 0), .int z, .int n, .int what] σ (some (.int (crowdF T z n what))) σ' ∧ RLi G σ' ∧ Fr σ σ' [4] := by
  by_cases hb : z < 0 ∨ 9999 < z ∨ n < 1 ∨ 60 < n ∨ what < 0 ∨ 1 < what
  · rw [show crowdF T z n what = -1 by simp only [crowdF, if_pos hb]]
    refine ⟨σ, ?_, hl, fr0⟩
    refine Mt.of (by decide +kernel) (Nat.le_of_ble_eq_true rfl) (fun κ C => ?_)
    refine g_iload_n (pc := 0) C dX9_crowd_0 rfl ?_
    refine g_if_lt (pc := 1) C 31 dX9_crowd_1 (by decide) (fun c1 => ?_) (fun c1 => ?_)
    · refine g_iconst (pc := 31) (v := -1) C dX9_crowd_31 (by decide) ?_
      exact g_ireturn (pc := 32) C dX9_crowd_32 rfl (rfl) (rfl)
    · refine g_iload_n (pc := 4) C dX9_crowd_4 rfl ?_
      refine g_sipush (pc := 5) (v := nI 9999) C dX9_crowd_5 (by decide) ?_
      refine g_icmp_gt (pc := 8) C 31 dX9_crowd_8 (by decide) (fun c8 => ?_) (fun c8 => ?_)
      · refine g_iconst (pc := 31) (v := -1) C dX9_crowd_31 (by decide) ?_
        exact g_ireturn (pc := 32) C dX9_crowd_32 rfl (rfl) (rfl)
      · refine g_iload_n (pc := 11) C dX9_crowd_11 rfl ?_
        refine g_iconst (pc := 12) (v := nI 1) C dX9_crowd_12 (by decide) ?_
        refine g_icmp_lt (pc := 13) C 31 dX9_crowd_13 (by decide) (fun c13 => ?_) (fun c13 => ?_)
        · refine g_iconst (pc := 31) (v := -1) C dX9_crowd_31 (by decide) ?_
          exact g_ireturn (pc := 32) C dX9_crowd_32 rfl (rfl) (rfl)
        · refine g_iload_n (pc := 16) C dX9_crowd_16 rfl ?_
          refine g_bipush (pc := 17) (v := nI 60) C dX9_crowd_17 (by decide) ?_
          refine g_icmp_gt (pc := 19) C 31 dX9_crowd_19 (by decide) (fun c19 => ?_) (fun c19 => ?_)
          · refine g_iconst (pc := 31) (v := -1) C dX9_crowd_31 (by decide) ?_
            exact g_ireturn (pc := 32) C dX9_crowd_32 rfl (rfl) (rfl)
          · refine g_iload_n (pc := 22) C dX9_crowd_22 rfl ?_
            refine g_if_lt (pc := 23) C 31 dX9_crowd_23 (by decide) (fun c23 => ?_) (fun c23 => ?_)
            · refine g_iconst (pc := 31) (v := -1) C dX9_crowd_31 (by decide) ?_
              exact g_ireturn (pc := 32) C dX9_crowd_32 rfl (rfl) (rfl)
            · refine g_iload_n (pc := 26) C dX9_crowd_26 rfl ?_
              refine g_iconst (pc := 27) (v := nI 1) C dX9_crowd_27 (by decide) ?_
              refine g_icmp_le (pc := 28) C 33 dX9_crowd_28 (by decide) (fun c28 => ?_) (fun c28 => ?_)
              · exact absurd hb (by have c28 := Int32.not_lt.mpr c28; simp only [not_or]; exact ⟨c1, c8, c13, c19, c23, c28⟩)
              · refine g_iconst (pc := 31) (v := -1) C dX9_crowd_31 (by decide) ?_
                exact g_ireturn (pc := 32) C dX9_crowd_32 rfl (rfl) (rfl)
  · have hb' := hb
    simp only [not_or] at hb
    obtain ⟨b1, b2', b3, b4, b5, b6⟩ := hb
    obtain ⟨z, hz, rfl⟩ : ∃ j : Nat, j ≤ 9999 ∧ z = nI j := nI_of2 (M := 9999) (n := 9999) (by decide) b1 (Int32.not_lt.mp b2')
    obtain ⟨n, hn, rfl⟩ : ∃ j : Nat, j ≤ 60 ∧ n = nI j := nI_of2 (M := 60) (n := 60) (by decide) (fun q => b3 (Int32.lt_of_lt_of_le q (by decide))) (Int32.not_lt.mp b4)
    obtain ⟨w, hw, rfl⟩ : ∃ j : Nat, j ≤ 1 ∧ what = nI j := nI_of2 (M := 1) (n := 1) (by decide) b5 (Int32.not_lt.mp b6)
    have hn1 : 1 ≤ n := by
      rcases n with _ | n
      · exact absurd (by decide) b3
      · omega
    have ez := nI_clamp (n := z) (by omega)
    have en := nI_clamp (n := n) (by omega)
    have hw' : w = 0 ∨ w = 1 := by omega
    rcases hw' with rfl | rfl
    · rw [show crowdF T (nI z) (nI n) (nI 0) = nI (crw T z n 0 0 0 0).1 by simp only [crowdF, if_neg hb', ez, en]; rfl]
      exact t_crowd (b := false) h0 hT h1 hl hz hn1 hn
    · rw [show crowdF T (nI z) (nI n) (nI 1) = lat (crw T z n 0 0 0 0).2 by simp only [crowdF, if_neg hb', ez, en]; rfl]
      exact t_crowd (b := true) h0 hT h1 hl hz hn1 hn
end MORE

