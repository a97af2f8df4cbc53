theorem m1000_le (x : Nat) : m1000 x ≤ 1000 := by unfold m1000; split <;> omega
theorem cst_le (T : TS) (w : Nat → Nat) (d k h : Nat) : cst T w d k h ≤ 1000 := by cases d <;> exact m1000_le _
theorem mnH_le (f : Nat → Nat) : ∀ n, mnH f n ≤ 1000
  | 0 => Nat.le_refl _
  | n + 1 => by
    have := mnH_le f n
    unfold mnH
    split <;> omega
theorem mnH_s (f : Nat → Nat) (n : Nat) : mnH f (n + 1) = if f n < mnH f n then f n else mnH f n := rfl
theorem dfn_le (T : TS) (x y : Nat → Nat) : dfn T x y ≤ 10 := cnt_le _ 10
theorem minI {a b : Nat} (ha : a < 2 ^ 31) (hb : b < 2 ^ 31) : (if nI b < nI a then nI b else nI a) = nI (if b < a then b else a) := by
  by_cases h : b < a
  · rw [if_pos h, if_pos ((nI_ltI hb ha).mpr h)]
  · rw [if_neg h, if_neg (fun z => h ((nI_ltI hb ha).mp z))]
abbrev cLend (G : GG) : va_E := .inr (1, [.ref (ga G 20)])
def OA (T : TS) (w : Nat → Nat) (r : Nat) (f : Nat → Int32) (k : Nat) : Prop := ∀ k', k ≤ k' → k' < r → ∀ h, h < hcn T (tn T) → f (k' * 16 + h) = nI (cst T w (r - 1 - k') k' h)
/-- the fewest of all -/
def few (T : TS) (w : Nat → Nat) (r : Nat) : Nat := if r = 0 then 0 else mnH (cst T w (r - 1) 0) (hcn T (tn T))
def fewF (T : TS) (w : Nat → Nat) (r : Nat) : Int32 := if few T w r < 1000 then nI (few T w r) else -4
/-- the first hat that leaves so many -/
def fhS (T : TS) (w : Nat → Nat) (r k : Nat) (pv : Nat → Nat) (left : Int32) : Nat → Nat → Option Nat
  | 0, _ => none
  | e + 1, h => if (k = 0 ∨ mfl T pv (wv T (tp T (w k)) h) = true) ∧ nI (cst T w (r - 1 - k) k h) = left then some h else fhS T w r k pv left e (h + 1)
def gA (T : TS) (w : Nat → Nat) (r : Nat) : Nat → Nat → (Nat → Nat) → Int32 → Int32
  | 0, _, pv, _ => nI (cdn (tv T) pv (tn T))
  | c + 1, k, pv, left => match fhS T w r k pv left (hcn T (tn T)) 0 with
    | none => -4
    | some h => gA T w r c (k + 1) (wv T (tp T (w k)) h) (left - nI (dfn T (tp T (w k)) (wv T (tp T (w k)) h)))
def lentF (T : TS) (w : Nat → Nat) (r : Nat) (i : Int32) : Int32 := if -1 ≤ i ∧ i < nI r then (if i = -1 then fewF T w r else gA T w r (i.toNatClampNeg + 1) 0 (fun _ => 0) (fewF T w r)) else -1
theorem fhS_lt {T : TS} {w : Nat → Nat} {r k : Nat} {pv : Nat → Nat} {left : Int32} : ∀ e h q, fhS T w r k pv left e h = some q → q < h + e
  | 0, h, q, z => by cases z
  | e + 1, h, q, z => by
    unfold fhS at z
    split at z
    · cases z; omega
    · have := fhS_lt e (h + 1) q z; omega
section LEND2
variable {G : GG} {σ : WW} {T : TS} {r : Nat} {w : Nat → Nat}
theorem RT.c2 (hT : RT G σ T) : ∃ bo, Cl G σ 9 (cTold G 21 22 23 (nI (tn T)) (nI (tm T)) bo (nI (hcn T (tn T))) (nI (tl T)) (nI (tg T))) := by obtain ⟨_, _, _, h9, _⟩ := hT; exact ⟨_, h9⟩
theorem t_othersFrom {f : Nat → Int32} (hT : RT G σ T) (h8 : Cl G σ 8 (cLend G)) (h20 : Cl G σ 20 (iA G 256 f)) (hr : RR G σ r w) (hr16 : r ≤ 16) (hw : ∀ k, k < r → w k < tm T) {k h : Nat} (hk : k < r) (hh : h < hcn T (tn T)) (hf : OA T w r f (k + 1)) : Mt G mX1_othersFrom [.ref (ga G 8), .ref (ga G 9), .ref (ga G 3), .int (nI k), .int (nI h)] σ (some (.int (nI (cst T w (r - 1 - k) k h)))) σ := by
  have hW := hT.w
  have hn := hW.1
  have h3 := hr.1
  have hc := hc_le hW
  obtain ⟨bo, h9⟩ := hT.c2
  have hxk := tp4 hT (hw k hk)
  have hb1024 : bits (fun t => tp T (w k) t != wv T (tp T (w k)) h t) (tn T) < 1024 := Nat.lt_of_lt_of_le (bits_lt _ _) (Nat.pow_le_pow_right (n := 2) (j := 10) (by decide) (by omega))
  have hd10 := dfn_le T (tp T (w k)) (wv T (tp T (w k)) h)
  refine Mt.of (by decide +kernel) (Nat.le_of_ble_eq_true rfl) (fun κ C => ?_)
  have fin : ∀ R, R ≤ 1000 → m1000 (dfn T (tp T (w k)) (wv T (tp T (w k)) h) + R) = cst T w (r - 1 - k) k h → Go G mX1_othersFrom κ (some (.int (nI (cst T w (r - 1 - k) k h)))) σ σ 105 [(5, .int (nI (lkn (tp T (w k)) (tn T)))), (6, .int (nI (lkn (wv T (tp T (w k)) h) (tn T)))), (7, .int (nI R))] [] := by
    intro R hR he
    refine g_sipush (pc := 105) (v := nI 1000) C dX1_othersFrom_105 (by decide) ?_
    refine g_iload (pc := 108) C dX1_othersFrom_108 rfl ?_
    refine g_iload (pc := 110) C dX1_othersFrom_110 rfl ?_
    refine cl_X1_50 (pc := 112) C rfl (t_unlike (lkn_lt _ _ hn) (lkn_lt _ _ hn)) dX1_othersFrom_112 rfl (Nat.le_of_ble_eq_true rfl) ?_
    rw [ulk_lkn hn hxk (wv_4 hW hxk h)]
    refine cl_X1_53 (pc := 115) C rfl (t_bitCount hb1024) dX1_othersFrom_115 rfl (Nat.le_of_ble_eq_true rfl) ?_
    refine g_iload (pc := 118) C dX1_othersFrom_118 rfl ?_
    refine g_iadd (pc := 120) C dX1_othersFrom_120 ?_
    rw [nI_add]
    refine g_mmin (pc := 121) C dX1_othersFrom_121 w_mmin (by decide) (Nat.le_of_ble_eq_true rfl) ?_
    exact g_ireturn (pc := 124) C dX1_othersFrom_124 rfl (by
  rw [minI (by decide) (by have : many (bits (fun t => tp T (w k) t != wv T (tp T (w k)) h t) (tn T)) ≤ 10 := hd10; omega), ← he]
  rfl) (rfl)
  by_cases hl : k + 1 = r
  · have e0 : r - 1 - k = 0 := by omega
    have ef : m1000 (dfn T (tp T (w k)) (wv T (tp T (w k)) h) + 0) = cst T w (r - 1 - k) k h := by rw [e0]; rfl
    refine g_aload_n (pc := 0) C dX1_othersFrom_0 rfl ?_
    refine g_aload_n (pc := 1) C dX1_othersFrom_1 rfl ?_
    refine g_iload_n (pc := 2) C dX1_othersFrom_2 rfl ?_
    apply cl_X1_36 (pc := 3) C rfl (t_at hr hk hr16) dX1_othersFrom_3
    · repeat (first | assumption | exact Cl.s (by assumption) | refine Cl.n (by first | decide | omega) ?_)
    · rfl
    · exact Nat.le_of_ble_eq_true rfl
    apply cl_X1_40 (pc := 6) C rfl (t_look hT (hw k hk)) dX1_othersFrom_6
    · repeat (first | assumption | exact Cl.s (by assumption) | refine Cl.n (by first | decide | omega) ?_)
    · rfl
    · exact Nat.le_of_ble_eq_true rfl
    refine g_istore (pc := 9) C dX1_othersFrom_9 (by decide) rfl ?_
    refine g_aload_n (pc := 11) C dX1_othersFrom_11 rfl ?_
    refine g_iload (pc := 12) C dX1_othersFrom_12 rfl ?_
    refine g_iload (pc := 14) C dX1_othersFrom_14 rfl ?_
    apply cl_X1_43 (pc := 16) C rfl (t_lookWithHat hT hh) dX1_othersFrom_16
    · repeat (first | assumption | exact Cl.s (by assumption) | refine Cl.n (by first | decide | omega) ?_)
    · rfl
    · exact Nat.le_of_ble_eq_true rfl
    refine g_istore (pc := 19) C dX1_othersFrom_19 (by decide) rfl ?_
    refine g_iload_n (pc := 21) C dX1_othersFrom_21 rfl ?_
    refine g_iconst (pc := 22) (v := nI 1) C dX1_othersFrom_22 (by decide) ?_
    refine g_iadd (pc := 23) C dX1_othersFrom_23 ?_
    rw [nI_add]
    refine g_aload_n (pc := 24) C dX1_othersFrom_24 rfl ?_
    apply gf_X1_15 (pc := 25) C rfl dX1_othersFrom_25
    · repeat (first | assumption | exact Cl.s (by assumption) | refine Cl.n (by first | decide | omega) ?_)
    · rfl
    refine g_icmp_ge (pc := 28) C 37 dX1_othersFrom_28 (by decide) (fun c28 => ?_) (fun c28 => ?_)
    · refine g_iconst (pc := 37) (v := nI 0) C dX1_othersFrom_37 (by decide) ?_
      refine g_istore (pc := 38) C dX1_othersFrom_38 (by decide) rfl ?_
      refine g_iconst (pc := 40) (v := nI 0) C dX1_othersFrom_40 (by decide) ?_
      refine g_istore (pc := 41) C dX1_othersFrom_41 (by decide) rfl ?_
      refine g_iload (pc := 43) C dX1_othersFrom_43 rfl ?_
      refine g_aload_n (pc := 45) C dX1_othersFrom_45 rfl ?_
      apply gf_X1_21 (pc := 46) C rfl dX1_othersFrom_46
      · repeat (first | assumption | exact Cl.s (by assumption) | refine Cl.n (by first | decide | omega) ?_)
      · rfl
      refine g_icmp_ge (pc := 49) C 105 dX1_othersFrom_49 (by decide) (fun c49 => ?_) (fun c49 => ?_)
      · exact g_to (fin 0 (by decide) ef) ⟨rfl, rfl, rfl, trivial⟩
      · refine g_iload_n (pc := 52) C dX1_othersFrom_52 rfl ?_
        refine g_iconst (pc := 53) (v := nI 1) C dX1_othersFrom_53 (by decide) ?_
        refine g_iadd (pc := 54) C dX1_othersFrom_54 ?_
        rw [nI_add]
        refine g_aload_n (pc := 55) C dX1_othersFrom_55 rfl ?_
        apply gf_X1_15 (pc := 56) C rfl dX1_othersFrom_56
        · repeat (first | assumption | exact Cl.s (by assumption) | refine Cl.n (by first | decide | omega) ?_)
        · rfl
        refine g_icmp_ge (pc := 59) C 105 dX1_othersFrom_59 (by decide) (fun c59 => ?_) (fun c59 => ?_)
        · exact g_to (fin 0 (by decide) ef) ⟨rfl, rfl, rfl, trivial⟩
        · exact absurd (nI_le (by omega) (by omega)) c59
    · exact absurd (nI_le (by omega) (by omega)) c28
  · obtain ⟨d, hd⟩ : ∃ d, r - 1 - k = d + 1 := ⟨r - 1 - k - 1, by omega⟩
    generalize hM : (fun h' => if mfl T (wv T (tp T (w k)) h) (wv T (tp T (w (k + 1))) h') = true then cst T w d (k + 1) h' else 1000) = M
    have ef : m1000 (dfn T (tp T (w k)) (wv T (tp T (w k)) h) + mnH M (hcn T (tn T))) = cst T w (r - 1 - k) k h := by rw [hd, ← hM]; rfl
    have loop : ∀ e j, j + e = hcn T (tn T) → Go G mX1_othersFrom κ (some (.int (nI (cst T w (r - 1 - k) k h)))) σ σ 43 [(0, .ref (ga G 8)), (1, .ref (ga G 9)), (2, .ref (ga G 3)), (3, .int (nI k)), (5, .int (nI (lkn (tp T (w k)) (tn T)))), (6, .int (nI (lkn (wv T (tp T (w k)) h) (tn T)))), (7, .int (nI (mnH M j))), (8, .int (nI j))] [] := by
      intro e
      induction e with
      | zero =>
        intro j hj
        have hj' : j = hcn T (tn T) := by omega
        subst hj'
        refine g_iload (pc := 43) C dX1_othersFrom_43 rfl ?_
        refine g_aload_n (pc := 45) C dX1_othersFrom_45 rfl ?_
        apply gf_X1_21 (pc := 46) C rfl dX1_othersFrom_46
        · repeat (first | assumption | exact Cl.s (by assumption) | refine Cl.n (by first | decide | omega) ?_)
        · rfl
        refine g_icmp_ge (pc := 49) C 105 dX1_othersFrom_49 (by decide) (fun c49 => ?_) (fun c49 => ?_)
        · exact g_to (fin _ (mnH_le M _) ef) ⟨rfl, rfl, rfl, trivial⟩
        · exact absurd (nI_le (by omega) (by omega)) c49
      | succ e ih =>
        intro j hj
        have hMl := mnH_le M j
        have mfm := t_mayFollow hT ⟨_, h8⟩ hr hr16 hw (x := wv T (tp T (w k)) h) (wv_4 hW hxk h) (k := k + 1) (h := j) (by omega) (by omega)
        cases hp : mfl T (wv T (tp T (w k)) h) (wv T (tp T (w (k + 1))) j)
        · have e1 : M j = 1000 := by rw [← hM]; simp [hp]
          refine g_iload (pc := 43) C dX1_othersFrom_43 rfl ?_
          refine g_aload_n (pc := 45) C dX1_othersFrom_45 rfl ?_
          apply gf_X1_21 (pc := 46) C rfl dX1_othersFrom_46
          · repeat (first | assumption | exact Cl.s (by assumption) | refine Cl.n (by first | decide | omega) ?_)
          · rfl
          refine g_icmp_ge (pc := 49) C 105 dX1_othersFrom_49 (by decide) (fun c49 => ?_) (fun c49 => ?_)
          · exact absurd c49 (nI_ge (by omega) (by omega))
          · refine g_iload_n (pc := 52) C dX1_othersFrom_52 rfl ?_
            refine g_iconst (pc := 53) (v := nI 1) C dX1_othersFrom_53 (by decide) ?_
            refine g_iadd (pc := 54) C dX1_othersFrom_54 ?_
            rw [nI_add]
            refine g_aload_n (pc := 55) C dX1_othersFrom_55 rfl ?_
            apply gf_X1_15 (pc := 56) C rfl dX1_othersFrom_56
            · repeat (first | assumption | exact Cl.s (by assumption) | refine Cl.n (by first | decide | omega) ?_)
            · rfl
            refine g_icmp_ge (pc := 59) C 105 dX1_othersFrom_59 (by decide) (fun c59 => ?_) (fun c59 => ?_)
            · exact absurd c59 (nI_ge (by omega) (by omega))
            · refine g_aload_n (pc := 62) C dX1_othersFrom_62 rfl ?_
              refine g_aload_n (pc := 63) C dX1_othersFrom_63 rfl ?_
              refine g_aload_n (pc := 64) C dX1_othersFrom_64 rfl ?_
              refine g_iload (pc := 65) C dX1_othersFrom_65 rfl ?_
              refine g_iload_n (pc := 67) C dX1_othersFrom_67 rfl ?_
              refine g_iconst (pc := 68) (v := nI 1) C dX1_othersFrom_68 (by decide) ?_
              refine g_iadd (pc := 69) C dX1_othersFrom_69 ?_
              rw [nI_add]
              refine g_iload (pc := 70) C dX1_othersFrom_70 rfl ?_
              apply cl_X1_46 (pc := 72) C rfl mfm dX1_othersFrom_72
              · repeat (first | assumption | exact Cl.s (by assumption) | refine Cl.n (by first | decide | omega) ?_)
              · rfl
              · exact Nat.le_of_ble_eq_true rfl
              refine g_if_eq (pc := 75) C 99 dX1_othersFrom_75 (by decide) (fun c75 => ?_) (fun c75 => ?_)
              · refine g_iinc (pc := 99) C dX1_othersFrom_99 rfl (by decide) rfl ?_
                refine g_goto (pc := 102) C 43 dX1_othersFrom_102 (by decide) ?_
                exact g_to (ih (j + 1) (by omega)) ⟨rfl, rfl, rfl, rfl, rfl, rfl, lgi (by rw [mnH_s, e1, if_neg (by omega)]), lgi (nI_1 j), trivial⟩
              · exact absurd (by rw [hp]; rfl) c75
        · have e1 : M j = cst T w d (k + 1) j := by rw [← hM]; simp [hp]
          have e2 : r - 1 - (k + 1) = d := by omega
          have hcl := cst_le T w d (k + 1) j
          refine g_iload (pc := 43) C dX1_othersFrom_43 rfl ?_
          refine g_aload_n (pc := 45) C dX1_othersFrom_45 rfl ?_
          apply gf_X1_21 (pc := 46) C rfl dX1_othersFrom_46
          · repeat (first | assumption | exact Cl.s (by assumption) | refine Cl.n (by first | decide | omega) ?_)
          · rfl
          refine g_icmp_ge (pc := 49) C 105 dX1_othersFrom_49 (by decide) (fun c49 => ?_) (fun c49 => ?_)
          · exact absurd c49 (nI_ge (by omega) (by omega))
          · refine g_iload_n (pc := 52) C dX1_othersFrom_52 rfl ?_
            refine g_iconst (pc := 53) (v := nI 1) C dX1_othersFrom_53 (by decide) ?_
            refine g_iadd (pc := 54) C dX1_othersFrom_54 ?_
            rw [nI_add]
            refine g_aload_n (pc := 55) C dX1_othersFrom_55 rfl ?_
            apply gf_X1_15 (pc := 56) C rfl dX1_othersFrom_56
            · repeat (first | assumption | exact Cl.s (by assumption) | refine Cl.n (by first | decide | omega) ?_)
            · rfl
            refine g_icmp_ge (pc := 59) C 105 dX1_othersFrom_59 (by decide) (fun c59 => ?_) (fun c59 => ?_)
            · exact absurd c59 (nI_ge (by omega) (by omega))
            · refine g_aload_n (pc := 62) C dX1_othersFrom_62 rfl ?_
              refine g_aload_n (pc := 63) C dX1_othersFrom_63 rfl ?_
              refine g_aload_n (pc := 64) C dX1_othersFrom_64 rfl ?_
              refine g_iload (pc := 65) C dX1_othersFrom_65 rfl ?_
              refine g_iload_n (pc := 67) C dX1_othersFrom_67 rfl ?_
              refine g_iconst (pc := 68) (v := nI 1) C dX1_othersFrom_68 (by decide) ?_
              refine g_iadd (pc := 69) C dX1_othersFrom_69 ?_
              rw [nI_add]
              refine g_iload (pc := 70) C dX1_othersFrom_70 rfl ?_
              apply cl_X1_46 (pc := 72) C rfl mfm dX1_othersFrom_72
              · repeat (first | assumption | exact Cl.s (by assumption) | refine Cl.n (by first | decide | omega) ?_)
              · rfl
              · exact Nat.le_of_ble_eq_true rfl
              refine g_if_eq (pc := 75) C 99 dX1_othersFrom_75 (by decide) (fun c75 => ?_) (fun c75 => ?_)
              · exact absurd c75 (by rw [hp]; decide)
              · refine g_iload (pc := 78) C dX1_othersFrom_78 rfl ?_
                refine g_aload_n (pc := 80) C dX1_othersFrom_80 rfl ?_
                apply gf_X1_9 (pc := 81) C rfl dX1_othersFrom_81
                · repeat (first | assumption | exact Cl.s (by assumption) | refine Cl.n (by first | decide | omega) ?_)
                · rfl
                refine g_iload_n (pc := 84) C dX1_othersFrom_84 rfl ?_
                refine g_iconst (pc := 85) (v := nI 1) C dX1_othersFrom_85 (by decide) ?_
                refine g_iadd (pc := 86) C dX1_othersFrom_86 ?_
                refine g_bipush (pc := 87) (v := nI 16) C dX1_othersFrom_87 (by decide) ?_
                refine g_imul (pc := 89) C dX1_othersFrom_89 ?_
                refine g_iload (pc := 90) C dX1_othersFrom_90 rfl ?_
                refine g_iadd (pc := 92) C dX1_othersFrom_92 ?_
                rw [nI_add, pk_mul, nI_add]
                apply g_iaload (pc := 93) C dX1_othersFrom_93
                · repeat (first | assumption | exact Cl.s (by assumption) | refine Cl.n (by first | decide | omega) ?_)
                · exact vp_in_nI (by omega) (by decide)
                rw [nI_clamp (by omega), hf (k + 1) (Nat.le_refl _) (by omega) j (by omega), e2]
                refine g_mmin (pc := 94) C dX1_othersFrom_94 w_mmin (by decide) (Nat.le_of_ble_eq_true rfl) ?_
                refine g_istore (pc := 97) C dX1_othersFrom_97 (by decide) rfl ?_
                refine g_iinc (pc := 99) C dX1_othersFrom_99 rfl (by decide) rfl ?_
                refine g_goto (pc := 102) C 43 dX1_othersFrom_102 (by decide) ?_
                exact g_to (ih (j + 1) (by omega)) ⟨rfl, rfl, rfl, rfl, rfl, rfl, lgi (by rw [minI (by omega) (by omega), mnH_s, e1]), lgi (nI_1 j), trivial⟩
    refine g_aload_n (pc := 0) C dX1_othersFrom_0 rfl ?_
    refine g_aload_n (pc := 1) C dX1_othersFrom_1 rfl ?_
    refine g_iload_n (pc := 2) C dX1_othersFrom_2 rfl ?_
    apply cl_X1_36 (pc := 3) C rfl (t_at hr hk hr16) dX1_othersFrom_3
    · repeat (first | assumption | exact Cl.s (by assumption) | refine Cl.n (by first | decide | omega) ?_)
    · rfl
    · exact Nat.le_of_ble_eq_true rfl
    apply cl_X1_40 (pc := 6) C rfl (t_look hT (hw k hk)) dX1_othersFrom_6
    · repeat (first | assumption | exact Cl.s (by assumption) | refine Cl.n (by first | decide | omega) ?_)
    · rfl
    · exact Nat.le_of_ble_eq_true rfl
    refine g_istore (pc := 9) C dX1_othersFrom_9 (by decide) rfl ?_
    refine g_aload_n (pc := 11) C dX1_othersFrom_11 rfl ?_
    refine g_iload (pc := 12) C dX1_othersFrom_12 rfl ?_
    refine g_iload (pc := 14) C dX1_othersFrom_14 rfl ?_
    apply cl_X1_43 (pc := 16) C rfl (t_lookWithHat hT hh) dX1_othersFrom_16
    · repeat (first | assumption | exact Cl.s (by assumption) | refine Cl.n (by first | decide | omega) ?_)
    · rfl
    · exact Nat.le_of_ble_eq_true rfl
    refine g_istore (pc := 19) C dX1_othersFrom_19 (by decide) rfl ?_
    refine g_iload_n (pc := 21) C dX1_othersFrom_21 rfl ?_
    refine g_iconst (pc := 22) (v := nI 1) C dX1_othersFrom_22 (by decide) ?_
    refine g_iadd (pc := 23) C dX1_othersFrom_23 ?_
    rw [nI_add]
    refine g_aload_n (pc := 24) C dX1_othersFrom_24 rfl ?_
    apply gf_X1_15 (pc := 25) C rfl dX1_othersFrom_25
    · repeat (first | assumption | exact Cl.s (by assumption) | refine Cl.n (by first | decide | omega) ?_)
    · rfl
    refine g_icmp_ge (pc := 28) C 37 dX1_othersFrom_28 (by decide) (fun c28 => ?_) (fun c28 => ?_)
    · exact absurd c28 (nI_ge (by omega) (by omega))
    · refine g_sipush (pc := 31) (v := nI 1000) C dX1_othersFrom_31 (by decide) ?_
      refine g_goto (pc := 34) C 38 dX1_othersFrom_34 (by decide) ?_
      refine g_istore (pc := 38) C dX1_othersFrom_38 (by decide) rfl ?_
      refine g_iconst (pc := 40) (v := nI 0) C dX1_othersFrom_40 (by decide) ?_
      refine g_istore (pc := 41) C dX1_othersFrom_41 (by decide) rfl ?_
      exact g_to (loop (hcn T (tn T)) 0 (by omega)) ⟨rfl, rfl, rfl, rfl, rfl, rfl, rfl, rfl, trivial⟩
theorem t_fewestL {f : Nat → Int32} (hT : RT G σ T) (h8 : Cl G σ 8 (cLend G)) (h20 : Cl G σ 20 (iA G 256 f)) (hr : RR G σ r w) (hr16 : r ≤ 16) (hw : ∀ k, k < r → w k < tm T) : ∃ f', Mt G mX1_fewest [.ref (ga G 8), .ref (ga G 9), .ref (ga G 3)] σ (some (.int (fewF T w r))) (va_up σ 20 (iA G 256 f')) ∧ OA T w r f' 0 := by
  have hW := hT.w
  have hc := hc_le hW
  have hRR : ∀ f1, RR G (va_up σ 20 (iA G 256 f1)) r w := fun f1 => hr.fr (ps := [20]) (fr3 fr0 (by decide)) (by decide) (by decide)
  have hcs : ∀ d h, cst T w d 0 h ≤ 1000 := fun d h => cst_le T w d 0 h
  have tail : ∀ f1, OA T w r f1 0 → ∀ κ, Cx G mX1_fewest κ → Go G mX1_fewest κ (some (.int (fewF T w r))) (va_up σ 20 (iA G 256 f1)) (va_up σ 20 (iA G 256 f1)) 56 [(0, .ref (ga G 8)), (1, .ref (ga G 9)), (2, .ref (ga G 3))] [] := by
    intro f1 hf1 κ C
    have hT1 := hT.up (i := 20) (e := iA G 256 f1) (by decide) (by decide) (by decide) (by decide)
    obtain ⟨bo, h9⟩ := hT1.c2
    have z3 := (hRR f1).1
    have z8 : Cl G (va_up σ 20 (iA G 256 f1)) 8 (cLend G) := Cl.n (by decide) h8
    have z20 : Cl G (va_up σ 20 (iA G 256 f1)) 20 (iA G 256 f1) := Cl.s h20
    by_cases h0 : r = 0
    · subst h0
      refine g_aload_n (pc := 56) C dX1_fewest_56 rfl ?_
      apply gf_X1_15 (pc := 57) C rfl dX1_fewest_57
      · repeat (first | assumption | exact Cl.s (by assumption) | refine Cl.n (by first | decide | omega) ?_)
      · rfl
      refine g_if_nE (pc := 60) C 67 dX1_fewest_60 (by decide) (fun c60 => ?_) (fun c60 => ?_)
      · exact absurd rfl c60
      · refine g_iconst (pc := 63) (v := nI 0) C dX1_fewest_63 (by decide) ?_
        refine g_goto (pc := 64) C 70 dX1_fewest_64 (by decide) ?_
        refine g_istore_n (pc := 70) C dX1_fewest_70 (by decide) rfl ?_
        refine g_iconst (pc := 71) (v := nI 0) C dX1_fewest_71 (by decide) ?_
        refine g_istore (pc := 72) C dX1_fewest_72 (by decide) rfl ?_
        refine g_iload (pc := 74) C dX1_fewest_74 rfl ?_
        refine g_aload_n (pc := 76) C dX1_fewest_76 rfl ?_
        apply gf_X1_21 (pc := 77) C rfl dX1_fewest_77
        · repeat (first | assumption | exact Cl.s (by assumption) | refine Cl.n (by first | decide | omega) ?_)
        · rfl
        refine g_icmp_ge (pc := 80) C 108 dX1_fewest_80 (by decide) (fun c80 => ?_) (fun c80 => ?_)
        · refine g_iload_n (pc := 108) C dX1_fewest_108 rfl ?_
          refine g_sipush (pc := 109) (v := nI 1000) C dX1_fewest_109 (by decide) ?_
          refine g_icmp_ge (pc := 112) C 119 dX1_fewest_112 (by decide) (fun c112 => ?_) (fun c112 => ?_)
          · exact absurd c112 (by decide)
          · first | exact (by rw [show fewF T w 0 = nI 0 by simp [fewF, few]]; exact g_to (lv' := [(3, .int (nI 0))]) (by
              refine g_iload_n (pc := 115) C dX1_fewest_115 rfl ?_
              refine g_goto (pc := 116) C 121 dX1_fewest_116 (by decide) ?_
              exact g_ireturn (pc := 121) C dX1_fewest_121 rfl rfl rfl) ⟨rfl, trivial⟩) | exact absurd c112 (by decide)
        · refine g_aload_n (pc := 83) C dX1_fewest_83 rfl ?_
          apply gf_X1_15 (pc := 84) C rfl dX1_fewest_84
          · repeat (first | assumption | exact Cl.s (by assumption) | refine Cl.n (by first | decide | omega) ?_)
          · rfl
          refine g_if_le (pc := 87) C 108 dX1_fewest_87 (by decide) (fun c87 => ?_) (fun c87 => ?_)
          · refine g_iload_n (pc := 108) C dX1_fewest_108 rfl ?_
            refine g_sipush (pc := 109) (v := nI 1000) C dX1_fewest_109 (by decide) ?_
            refine g_icmp_ge (pc := 112) C 119 dX1_fewest_112 (by decide) (fun c112 => ?_) (fun c112 => ?_)
            · exact absurd c112 (by decide)
            · first | exact (by rw [show fewF T w 0 = nI 0 by simp [fewF, few]]; exact g_to (lv' := [(3, .int (nI 0))]) (by
                refine g_iload_n (pc := 115) C dX1_fewest_115 rfl ?_
                refine g_goto (pc := 116) C 121 dX1_fewest_116 (by decide) ?_
                exact g_ireturn (pc := 121) C dX1_fewest_121 rfl rfl rfl) ⟨rfl, trivial⟩) | exact absurd c112 (by decide)
          · exact absurd (by decide) c87
    · have e1 : few T w r = mnH (cst T w (r - 1) 0) (hcn T (tn T)) := by unfold few; rw [if_neg h0]
      have loop : ∀ e j, j + e = hcn T (tn T) → Go G mX1_fewest κ (some (.int (fewF T w r))) (va_up σ 20 (iA G 256 f1)) (va_up σ 20 (iA G 256 f1)) 74 [(0, .ref (ga G 8)), (1, .ref (ga G 9)), (2, .ref (ga G 3)), (3, .int (nI (mnH (cst T w (r - 1) 0) j))), (4, .int (nI j))] [] := by
        intro e
        induction e with
        | zero =>
          intro j hj
          have hj' : j = hcn T (tn T) := by omega
          subst hj'
          have hml := mnH_le (cst T w (r - 1) 0) (hcn T (tn T))
          refine g_iload (pc := 74) C dX1_fewest_74 rfl ?_
          refine g_aload_n (pc := 76) C dX1_fewest_76 rfl ?_
          apply gf_X1_21 (pc := 77) C rfl dX1_fewest_77
          · repeat (first | assumption | exact Cl.s (by assumption) | refine Cl.n (by first | decide | omega) ?_)
          · rfl
          refine g_icmp_ge (pc := 80) C 108 dX1_fewest_80 (by decide) (fun c80 => ?_) (fun c80 => ?_)
          · refine g_iload_n (pc := 108) C dX1_fewest_108 rfl ?_
            refine g_sipush (pc := 109) (v := nI 1000) C dX1_fewest_109 (by decide) ?_
            refine g_icmp_ge (pc := 112) C 119 dX1_fewest_112 (by decide) (fun c112 => ?_) (fun c112 => ?_)
            · refine g_bipush (pc := 119) (v := -4) C dX1_fewest_119 (by decide) ?_
              exact g_ireturn (pc := 121) C dX1_fewest_121 rfl (by
  first | (rw [nI_leI (by decide) (by omega)] at c112; unfold fewF; rw [e1, if_neg (by omega)]; done) | (rw [nI_leI (by decide) (by omega)] at c112; unfold fewF; rw [e1, if_pos (by omega)]; done)) (rfl)
            · refine g_iload_n (pc := 115) C dX1_fewest_115 rfl ?_
              refine g_goto (pc := 116) C 121 dX1_fewest_116 (by decide) ?_
              exact g_ireturn (pc := 121) C dX1_fewest_121 rfl (by
  first | (rw [nI_leI (by decide) (by omega)] at c112; unfold fewF; rw [e1, if_neg (by omega)]; done) | (rw [nI_leI (by decide) (by omega)] at c112; unfold fewF; rw [e1, if_pos (by omega)]; done)) (rfl)
          · exact absurd (nI_le (by omega) (by omega)) c80
        | succ e ih =>
          intro j hj
          have hml := mnH_le (cst T w (r - 1) 0) j
          have hcj := hcs (r - 1) j
          have eo := hf1 0 (Nat.le_refl _) (by omega) j (by omega)
          rw [Nat.zero_mul, Nat.zero_add, Nat.sub_zero] at eo
          refine g_iload (pc := 74) C dX1_fewest_74 rfl ?_
          refine g_aload_n (pc := 76) C dX1_fewest_76 rfl ?_
          apply gf_X1_21 (pc := 77) C rfl dX1_fewest_77
          · repeat (first | assumption | exact Cl.s (by assumption) | refine Cl.n (by first | decide | omega) ?_)
          · rfl
          refine g_icmp_ge (pc := 80) C 108 dX1_fewest_80 (by decide) (fun c80 => ?_) (fun c80 => ?_)
          · exact absurd c80 (nI_ge (by omega) (by omega))
          · refine g_aload_n (pc := 83) C dX1_fewest_83 rfl ?_
            apply gf_X1_15 (pc := 84) C rfl dX1_fewest_84
            · repeat (first | assumption | exact Cl.s (by assumption) | refine Cl.n (by first | decide | omega) ?_)
            · rfl
            refine g_if_le (pc := 87) C 108 dX1_fewest_87 (by decide) (fun c87 => ?_) (fun c87 => ?_)
            · exact absurd c87 (by rw [nx_0]; exact nI_ge (by omega) (by omega))
            · refine g_iload_n (pc := 90) C dX1_fewest_90 rfl ?_
              refine g_aload_n (pc := 91) C dX1_fewest_91 rfl ?_
              apply gf_X1_9 (pc := 92) C rfl dX1_fewest_92
              · repeat (first | assumption | exact Cl.s (by assumption) | refine Cl.n (by first | decide | omega) ?_)
              · rfl
              refine g_iload (pc := 95) C dX1_fewest_95 rfl ?_
              apply g_iaload (pc := 97) C dX1_fewest_97
              · repeat (first | assumption | exact Cl.s (by assumption) | refine Cl.n (by first | decide | omega) ?_)
              · exact vp_in_nI (by omega) (by decide)
              rw [nI_clamp (by omega), eo]
              refine g_mmin (pc := 98) C dX1_fewest_98 w_mmin (by decide) (Nat.le_of_ble_eq_true rfl) ?_
              refine g_istore_n (pc := 101) C dX1_fewest_101 (by decide) rfl ?_
              refine g_iinc (pc := 102) C dX1_fewest_102 rfl (by decide) rfl ?_
              refine g_goto (pc := 105) C 74 dX1_fewest_105 (by decide) ?_
              exact g_to (ih (j + 1) (by omega)) ⟨rfl, rfl, rfl, lgi (by rw [minI (by omega) (by omega), mnH_s]), lgi (nI_1 j), trivial⟩
      refine g_aload_n (pc := 56) C dX1_fewest_56 rfl ?_
      apply gf_X1_15 (pc := 57) C rfl dX1_fewest_57
      · repeat (first | assumption | exact Cl.s (by assumption) | refine Cl.n (by first | decide | omega) ?_)
      · rfl
      refine g_if_nE (pc := 60) C 67 dX1_fewest_60 (by decide) (fun c60 => ?_) (fun c60 => ?_)
      · refine g_sipush (pc := 67) (v := nI 1000) C dX1_fewest_67 (by decide) ?_
        refine g_istore_n (pc := 70) C dX1_fewest_70 (by decide) rfl ?_
        refine g_iconst (pc := 71) (v := nI 0) C dX1_fewest_71 (by decide) ?_
        refine g_istore (pc := 72) C dX1_fewest_72 (by decide) rfl ?_
        exact g_to (loop (hcn T (tn T)) 0 (by omega)) ⟨rfl, rfl, rfl, rfl, rfl, trivial⟩
      · exact absurd c60 (by rw [nx_0, nI_eq (by omega) (by decide)]; exact h0)
  have hats : ∀ k, k < r → (∀ f1, OA T w r f1 k → ∃ f', (∀ κ, Cx G mX1_fewest κ → Go G mX1_fewest κ (some (.int (fewF T w r))) (va_up σ 20 (iA G 256 f')) (va_up σ 20 (iA G 256 f1)) 50 [(0, .ref (ga G 8)), (1, .ref (ga G 9)), (2, .ref (ga G 3)), (3, .int (nI k))] []) ∧ OA T w r f' 0) → ∀ e j f1, j + e = hcn T (tn T) → OA T w r f1 (k + 1) → (∀ j', j' < j → f1 (k * 16 + j') = nI (cst T w (r - 1 - k) k j')) → ∃ f', (∀ κ, Cx G mX1_fewest κ → Go G mX1_fewest κ (some (.int (fewF T w r))) (va_up σ 20 (iA G 256 f')) (va_up σ 20 (iA G 256 f1)) 14 [(0, .ref (ga G 8)), (1, .ref (ga G 9)), (2, .ref (ga G 3)), (3, .int (nI k)), (4, .int (nI j))] []) ∧ OA T w r f' 0 := by
    intro k hk K e
    induction e with
    | zero =>
      intro j f1 hj hf1 hf2
      have hT1 := hT.up (i := 20) (e := iA G 256 f1) (by decide) (by decide) (by decide) (by decide)
      obtain ⟨bo, h9⟩ := hT1.c2
      obtain ⟨f', g1, g2⟩ := K f1 (fun k' hk' hkr h hh => by
        by_cases q : k' = k
        · subst q; exact hf2 h (by omega)
        · exact hf1 k' (by omega) hkr h hh)
      refine ⟨f', fun κ C => ?_, g2⟩
      refine g_iload (pc := 14) C dX1_fewest_14 rfl ?_
      refine g_aload_n (pc := 16) C dX1_fewest_16 rfl ?_
      apply gf_X1_21 (pc := 17) C rfl dX1_fewest_17
      · repeat (first | assumption | exact Cl.s (by assumption) | refine Cl.n (by first | decide | omega) ?_)
      · rfl
      refine g_icmp_ge (pc := 20) C 50 dX1_fewest_20 (by decide) (fun c20 => ?_) (fun c20 => ?_)
      · exact g_to (g1 κ C) ⟨rfl, rfl, rfl, rfl, trivial⟩
      · exact absurd (nI_le (by omega) (by omega)) c20
    | succ e ih =>
      intro j f1 hj hf1 hf2
      have hT1 := hT.up (i := 20) (e := iA G 256 f1) (by decide) (by decide) (by decide) (by decide)
      obtain ⟨bo, h9⟩ := hT1.c2
      have z8 : Cl G (va_up σ 20 (iA G 256 f1)) 8 (cLend G) := Cl.n (by decide) h8
      have z20 : Cl G (va_up σ 20 (iA G 256 f1)) 20 (iA G 256 f1) := Cl.s h20
      have of := t_othersFrom hT1 z8 z20 (hRR f1) hr16 hw (k := k) (h := j) hk (by omega) hf1
      obtain ⟨f', g1, g2⟩ := ih (j + 1) (upd f1 (k * 16 + j) (nI (cst T w (r - 1 - k) k j))) (by omega) (fun k' hk' hkr h hh => by
        rw [pk_un (by omega)]; exact hf1 k' hk' hkr h hh) (fun j' hj' => by
        by_cases q : j' = j
        · rw [q, pk_us]
        · rw [pk_un (by omega)]; exact hf2 j' (by omega))
      refine ⟨f', fun κ C => ?_, g2⟩
      refine g_iload (pc := 14) C dX1_fewest_14 rfl ?_
      refine g_aload_n (pc := 16) C dX1_fewest_16 rfl ?_
      apply gf_X1_21 (pc := 17) C rfl dX1_fewest_17
      · repeat (first | assumption | exact Cl.s (by assumption) | refine Cl.n (by first | decide | omega) ?_)
      · rfl
      refine g_icmp_ge (pc := 20) C 50 dX1_fewest_20 (by decide) (fun c20 => ?_) (fun c20 => ?_)
      · exact absurd c20 (nI_ge (by omega) (by omega))
      · refine g_aload_n (pc := 23) C dX1_fewest_23 rfl ?_
        apply gf_X1_9 (pc := 24) C rfl dX1_fewest_24
        · repeat (first | assumption | exact Cl.s (by assumption) | refine Cl.n (by first | decide | omega) ?_)
        · rfl
        refine g_iload_n (pc := 27) C dX1_fewest_27 rfl ?_
        refine g_bipush (pc := 28) (v := nI 16) C dX1_fewest_28 (by decide) ?_
        refine g_imul (pc := 30) C dX1_fewest_30 ?_
        refine g_iload (pc := 31) C dX1_fewest_31 rfl ?_
        refine g_iadd (pc := 33) C dX1_fewest_33 ?_
        rw [pk_mul, nI_add]
        refine g_aload_n (pc := 34) C dX1_fewest_34 rfl ?_
        refine g_aload_n (pc := 35) C dX1_fewest_35 rfl ?_
        refine g_aload_n (pc := 36) C dX1_fewest_36 rfl ?_
        refine g_iload_n (pc := 37) C dX1_fewest_37 rfl ?_
        refine g_iload (pc := 38) C dX1_fewest_38 rfl ?_
        apply cl_X1_26 (pc := 40) C rfl of dX1_fewest_40
        · repeat (first | assumption | exact Cl.s (by assumption) | refine Cl.n (by first | decide | omega) ?_)
        · rfl
        · exact Nat.le_of_ble_eq_true rfl
        apply g_iastore (pc := 43) C dX1_fewest_43
        · repeat (first | assumption | exact Cl.s (by assumption) | refine Cl.n (by first | decide | omega) ?_)
        · exact vp_in_nI (by omega) (by decide)
        intro hw43
        refine g_iinc (pc := 44) C dX1_fewest_44 rfl (by decide) rfl ?_
        refine g_goto (pc := 47) C 14 dX1_fewest_47 (by decide) ?_
        rw [nI_clamp (by omega), bx_uu]
        exact g_to (g1 κ C) ⟨rfl, rfl, rfl, rfl, lgi (nI_1 j), trivial⟩
  have outer : ∀ k f1, k ≤ r → OA T w r f1 k → ∃ f', (∀ κ, Cx G mX1_fewest κ → Go G mX1_fewest κ (some (.int (fewF T w r))) (va_up σ 20 (iA G 256 f')) (va_up σ 20 (iA G 256 f1)) 7 [(0, .ref (ga G 8)), (1, .ref (ga G 9)), (2, .ref (ga G 3)), (3, .int (lat k))] []) ∧ OA T w r f' 0 := by
    intro k
    induction k with
    | zero =>
      intro f1 hk hf1
      refine ⟨f1, fun κ C => ?_, hf1⟩
      refine g_iload_n (pc := 7) C dX1_fewest_7 rfl ?_
      refine g_if_lt (pc := 8) C 56 dX1_fewest_8 (by decide) (fun c8 => ?_) (fun c8 => ?_)
      · exact g_to (tail f1 hf1 κ C) ⟨rfl, rfl, rfl, trivial⟩
      · exact absurd (by rw [lat_0]; decide) c8
    | succ k ih =>
      intro f1 hk hf1
      have el : nI k + Int32.ofInt (-1) = lat k := by rw [lat, Int32.sub_eq_add_neg]; rfl
      obtain ⟨f', g1, g2⟩ := hats k (by omega) (fun f2 hf2 => by
        obtain ⟨f', j1, j2⟩ := ih f2 (by omega) hf2
        refine ⟨f', fun κ C => ?_, j2⟩
        refine g_iinc (pc := 50) C dX1_fewest_50 rfl (by decide) rfl ?_
        refine g_goto (pc := 53) C 7 dX1_fewest_53 (by decide) ?_
        exact g_to (j1 κ C) ⟨rfl, rfl, rfl, lgi el, trivial⟩
        ) (hcn T (tn T)) 0 f1 (by omega) hf1 (fun j' hj' => absurd hj' (Nat.not_lt_zero _))
      refine ⟨f', fun κ C => ?_, g2⟩
      rw [lat_s]
      refine g_iload_n (pc := 7) C dX1_fewest_7 rfl ?_
      refine g_if_lt (pc := 8) C 56 dX1_fewest_8 (by decide) (fun c8 => ?_) (fun c8 => ?_)
      · exact absurd c8 (nI_pos (by omega))
      · refine g_iconst (pc := 11) (v := nI 0) C dX1_fewest_11 (by decide) ?_
        refine g_istore (pc := 12) C dX1_fewest_12 (by decide) rfl ?_
        exact g_to (g1 κ C) ⟨rfl, rfl, rfl, rfl, rfl, trivial⟩
  obtain ⟨f', g1, g2⟩ := outer r f (Nat.le_refl _) (fun k' hk' hkr => absurd hkr (by omega))
  refine ⟨f', ?_, g2⟩
  rw [va_self h20.2] at g1
  have h3 := hr.1
  refine Mt.of (by decide +kernel) (Nat.le_of_ble_eq_true rfl) (fun κ C => ?_)
  refine g_aload_n (pc := 0) C dX1_fewest_0 rfl ?_
  apply gf_X1_15 (pc := 1) C rfl dX1_fewest_1
  · repeat (first | assumption | exact Cl.s (by assumption) | refine Cl.n (by first | decide | omega) ?_)
  · rfl
  refine g_iconst (pc := 4) (v := nI 1) C dX1_fewest_4 (by decide) ?_
  refine g_isub (pc := 5) C dX1_fewest_5 ?_
  refine g_istore_n (pc := 6) C dX1_fewest_6 (by decide) rfl ?_
  exact g_to (g1 κ C) ⟨rfl, rfl, rfl, lgi (by rw [lat]; rfl), trivial⟩
end LEND2

