/-! the class takes a thing, a person, an item; it reads a text -/
def wrH (t hat k n : Nat) : Nat → Nat → (Nat → Int32) → (Nat → Int32)
  | 0, _, f => f
  | d + 1, v, f => wrH t hat k n d (v + 1) (upd f (k * n + v) (nI (hat ||| lw t v)))
def wrO (t n : Nat) (ho : Nat → Nat) : Nat → (Nat → Int32) → (Nat → Int32)
  | 0, f => f
  | d + 1, f => wrO t n ho d (wrH t (ho d) d n n 0 f)
theorem wrH_at (t hat k n : Nat) : ∀ d v f j, wrH t hat k n d v f j = if k * n + v ≤ j ∧ j < k * n + v + d then nI (hat ||| lw t (j - k * n)) else f j
  | 0, v, f, j => by
    rw [if_neg (by omega)]
    rfl
  | d + 1, v, f, j => by
    unfold wrH
    rw [wrH_at t hat k n d (v + 1)]
    by_cases h1 : j = k * n + v
    · rw [if_neg (by omega), if_pos (by omega), h1, pk_us, show k * n + v - k * n = v by omega]
    · by_cases h2 : k * n + v ≤ j ∧ j < k * n + v + (d + 1)
      · rw [if_pos h2, if_pos (by omega)]
      · rw [if_neg h2, if_neg (by omega), pk_un h1]
theorem wrO_at (t n : Nat) (ho : Nat → Nat) (hn : 1 ≤ n) : ∀ d f j, wrO t n ho d f j = if j < d * n then nI (ho (j / n) ||| lw t (j % n)) else f j
  | 0, f, j => by
    rw [if_neg (by omega)]
    rfl
  | d + 1, f, j => by
    unfold wrO
    rw [wrO_at t n ho hn d, wrH_at]
    have e : (d + 1) * n = d * n + n := Nat.succ_mul d n
    by_cases h1 : j < d * n
    · rw [if_pos h1, if_pos (by omega)]
    · rw [if_neg h1]
      by_cases h2 : j < (d + 1) * n
      · rw [if_pos (by omega), if_pos h2]
        have e1 : j / n = d := Nat.div_eq_of_lt_le (by omega) (by omega)
        have e2 : j % n = j - d * n := by
          have := Nat.div_add_mod j n
          rw [e1, Nat.mul_comm] at this
          omega
        rw [e1, e2]
      · rw [if_neg (by omega), if_neg h2]
theorem va_self {σ : WW} {i : Nat} {e : va_E} (h : σ i = e) : va_up σ i e = σ := by
  funext j
  by_cases hj : j = i
  · rw [hj]; simp [va_up, h]
  · simp [va_up, hj]
theorem bset_thg (P : TS) (n : Nat) : bset (thgS P n 1) = bset P ||| 1 <<< tn P := by
  show bits (fun t => (if t = tn P then 1 else tb P t) == 1) (tn P + 1) = _
  unfold bits
  rw [bits_congr (q := fun t => tb P t == 1) (fun t ht => by rw [if_neg (by omega)])]
  simp [bset]
theorem bset_thg0 (P : TS) (n : Nat) : bset (thgS P n 0) = bset P := by
  show bits (fun t => (if t = tn P then 0 else tb P t) == 1) (tn P + 1) = _
  unfold bits
  rw [bits_congr (q := fun t => tb P t == 1) (fun t ht => by rw [if_neg (by omega)])]
  simp [bset]
theorem thg_congr (P : TS) (n b : Nat) : ∀ t, t < tn P → tb (thgS P n b) t = tb P t ∧ tv (thgS P n b) t = tv P t := fun t ht => ⟨if_neg (by omega), if_neg (by omega)⟩
theorem hcn_thg (P : TS) (n b : Nat) : hcn (thgS P n b) (tn P + 1) = if b = 1 then hcn P (tn P) * n else hcn P (tn P) := by
  have e1 : tb (thgS P n b) (tn P) = b := if_pos rfl
  have e2 : tv (thgS P n b) (tn P) = n := if_pos rfl
  show (if tb (thgS P n b) (tn P) = 1 then hcn (thgS P n b) (tn P) * tv (thgS P n b) (tn P) else hcn (thgS P n b) (tn P)) = _
  rw [e1, e2, hcn_congr (tn P) (thg_congr P n b)]
theorem hatn_thg (P : TS) (n b j : Nat) : hatn (thgS P n b) (tn P + 1) j = if b = 1 then hatn P (tn P) (j / n) ||| lw (tn P) (j % n) else hatn P (tn P) j := by
  have e1 : tb (thgS P n b) (tn P) = b := if_pos rfl
  have e2 : tv (thgS P n b) (tn P) = n := if_pos rfl
  show (if tb (thgS P n b) (tn P) = 1 then hatn (thgS P n b) (tn P) (j / tv (thgS P n b) (tn P)) ||| lw (tn P) (j % tv (thgS P n b) (tn P)) else hatn (thgS P n b) (tn P) j) = _
  rw [e1, e2, hatn_congr (tn P) (thg_congr P n b), hatn_congr (tn P) (thg_congr P n b)]
section TOLD4
variable {G : GG} {σ : WW} {P : TS}
theorem bset_lt (hW : TW P) : bset P < 32 := Nat.lt_of_lt_of_le (bits_lt _ _) (Nat.pow_le_pow_right (n := 2) (by decide) hW.1)
theorem t_takeBorrowed0 {n : Nat} (h : RP G σ P) (hs : 2 ≤ sumb (tb P) (tn P)) : Mt G mX7_takeBorrowed [.ref (ga G 10), .int (nI n)] σ (some (.int (nI 0))) σ := by
  obtain ⟨fv, fl, fh, h10, h24, h25, h26, hW, hv, hl, hh⟩ := h
  have hb := bset_lt hW
  refine Mt.of (by decide +kernel) (Nat.le_of_ble_eq_true rfl) (fun κ C => ?_)
  refine g_aload_n (pc := 0) C dX7_takeBorrowed_0 rfl ?_
  apply gf_X7_28 (pc := 1) C rfl dX7_takeBorrowed_1
  · repeat (first | assumption | exact Cl.s (by assumption) | refine Cl.n (by first | decide | omega) ?_)
  · rfl
  refine cl_X7_44 (pc := 4) C rfl (t_bitCount (by omega)) dX7_takeBorrowed_4 rfl (Nat.le_of_ble_eq_true rfl) ?_
  refine g_iconst (pc := 7) (v := nI 2) C dX7_takeBorrowed_7 (by decide) ?_
  refine g_icmp_ge (pc := 8) C 22 dX7_takeBorrowed_8 (by decide) (fun c8 => ?_) (fun c8 => ?_)
  · refine g_iconst (pc := 22) (v := nI 0) C dX7_takeBorrowed_22 (by decide) ?_
    exact g_zreturn (pc := 23) C dX7_takeBorrowed_23 rfl (by first | exact Or.inl rfl | exact Or.inr rfl) (rfl) (rfl)
  · exact absurd (nI_le (by rw [many_bset hW]; exact hs) (many_lt _)) c8
theorem t_takeBorrowed {n : Nat} {fv fl fh : Nat → Int32} (h10 : Cl G σ 10 (cTold G 24 25 26 (nI (tn P)) (nI (tm P)) (nI (bset P)) (nI (hcn P (tn P))) (nI (tl P)) (nI (tg P)))) (h26 : Cl G σ 26 (iA G 16 fh)) (hW : TW P) (hh : ∀ j, j < hcn P (tn P) → fh j = nI (hatn P (tn P) j)) (hn1 : 1 ≤ n) (hn4 : n ≤ 4) (ht : tn P < 5) (hs : sumb (tb P) (tn P) < 2) :
    Mt G mX7_takeBorrowed [.ref (ga G 10), .int (nI n)] σ (some (.int (nI 1))) (va_up (va_up (va_up σ 10 (cTold G 24 25 26 (nI (tn P)) (nI (tm P)) (nI (bset P ||| 1 <<< tn P)) (nI (hcn P (tn P))) (nI (tl P)) (nI (tg P)))) 26 (iA G 16 (wrO (tn P) n (hatn P (tn P)) (hcn P (tn P)) fh))) 10 (cTold G 24 25 26 (nI (tn P)) (nI (tm P)) (nI (bset P ||| 1 <<< tn P)) (nI (hcn P (tn P) * n)) (nI (tl P)) (nI (tg P)))) := by
  have hb := bset_lt hW
  obtain ⟨c1', c2'⟩ := hcn_le hW.2.1 hW.2.2.1 (tn P) (Nat.le_refl _)
  have hc4 : hcn P (tn P) ≤ 4 := Nat.le_trans c2' (Nat.pow_le_pow_right (n := 4) (by decide) (by omega : sumb (tb P) (tn P) ≤ 1))
  have hc16 : hcn P (tn P) * n ≤ 16 := Nat.mul_le_mul hc4 hn4
  refine Mt.of (by decide +kernel) (Nat.le_of_ble_eq_true rfl) (fun κ C => ?_)
  generalize hσ0 : va_up σ 10 (cTold G 24 25 26 (nI (tn P)) (nI (tm P)) (nI (bset P ||| 1 <<< tn P)) (nI (hcn P (tn P))) (nI (tl P)) (nI (tg P))) = σ0
  have h10' : Cl G σ0 10 (cTold G 24 25 26 (nI (tn P)) (nI (tm P)) (nI (bset P ||| 1 <<< tn P)) (nI (hcn P (tn P))) (nI (tl P)) (nI (tg P))) := by rw [← hσ0]; exact Cl.s h10
  have h26' : Cl G σ0 26 (iA G 16 fh) := by rw [← hσ0]; exact Cl.n (by decide) h26
  have inner : ∀ d v f k hat r σ', k < hcn P (tn P) → v + d = n → Go G mX7_takeBorrowed κ r σ' (va_up σ0 26 (iA G 16 (wrH (tn P) hat k n d v f))) 94 [(0, .ref (ga G 10)), (1, .int (nI n)), (2, .int (nI k))] [] → Go G mX7_takeBorrowed κ r σ' (va_up σ0 26 (iA G 16 f)) 60 [(0, .ref (ga G 10)), (1, .int (nI n)), (2, .int (nI k)), (3, .int (nI hat)), (4, .int (nI v))] [] := by
    intro d
    induction d with
    | zero =>
      intro v f k hat r σ' hk hv kk
      have q10 : Cl G (va_up σ0 26 (iA G 16 f)) 10 (cTold G 24 25 26 (nI (tn P)) (nI (tm P)) (nI (bset P ||| 1 <<< tn P)) (nI (hcn P (tn P))) (nI (tl P)) (nI (tg P))) := Cl.n (by decide) h10'
      refine g_iload (pc := 60) C dX7_takeBorrowed_60 rfl ?_
      refine g_iload_n (pc := 62) C dX7_takeBorrowed_62 rfl ?_
      refine g_icmp_ge (pc := 63) C 94 dX7_takeBorrowed_63 (by decide) (fun c63 => ?_) (fun c63 => ?_)
      · exact g_to kk ⟨rfl, rfl, rfl, trivial⟩
      · exact absurd (nI_le (by omega) (by omega)) c63
    | succ d ih =>
      intro v f k hat r σ' hk hv kk
      have q10 : Cl G (va_up σ0 26 (iA G 16 f)) 10 (cTold G 24 25 26 (nI (tn P)) (nI (tm P)) (nI (bset P ||| 1 <<< tn P)) (nI (hcn P (tn P))) (nI (tl P)) (nI (tg P))) := Cl.n (by decide) h10'
      have q26 : Cl G (va_up σ0 26 (iA G 16 f)) 26 (iA G 16 f) := Cl.s h26'
      have hkn : k * n + v < hcn P (tn P) * n := by
        have : (k + 1) * n ≤ hcn P (tn P) * n := Nat.mul_le_mul_right n hk
        rw [Nat.succ_mul] at this
        omega
      refine g_iload (pc := 60) C dX7_takeBorrowed_60 rfl ?_
      refine g_iload_n (pc := 62) C dX7_takeBorrowed_62 rfl ?_
      refine g_icmp_ge (pc := 63) C 94 dX7_takeBorrowed_63 (by decide) (fun c63 => ?_) (fun c63 => ?_)
      · exact absurd c63 (nI_ge (by omega) (by omega))
      · refine g_aload_n (pc := 66) C dX7_takeBorrowed_66 rfl ?_
        apply gf_X7_18 (pc := 67) C rfl dX7_takeBorrowed_67
        · repeat (first | assumption | exact Cl.s (by assumption) | refine Cl.n (by first | decide | omega) ?_)
        · rfl
        refine g_iload_n (pc := 70) C dX7_takeBorrowed_70 rfl ?_
        refine g_iload_n (pc := 71) C dX7_takeBorrowed_71 rfl ?_
        refine g_imul (pc := 72) C dX7_takeBorrowed_72 ?_
        refine g_iload (pc := 73) C dX7_takeBorrowed_73 rfl ?_
        refine g_iadd (pc := 75) C dX7_takeBorrowed_75 ?_
        refine g_iload_n (pc := 76) C dX7_takeBorrowed_76 rfl ?_
        refine g_aload_n (pc := 77) C dX7_takeBorrowed_77 rfl ?_
        apply gf_X7_21 (pc := 78) C rfl dX7_takeBorrowed_78
        · repeat (first | assumption | exact Cl.s (by assumption) | refine Cl.n (by first | decide | omega) ?_)
        · rfl
        refine g_iload (pc := 81) C dX7_takeBorrowed_81 rfl ?_
        refine cl_X7_50 (pc := 83) C rfl (t_lookWith ht (by omega)) dX7_takeBorrowed_83 rfl (Nat.le_of_ble_eq_true rfl) ?_
        refine g_ior (pc := 86) C dX7_takeBorrowed_86 ?_
        rw [pk_mul, nI_add, nx_or]
        apply g_iastore (pc := 87) C dX7_takeBorrowed_87
        · repeat (first | assumption | exact Cl.s (by assumption) | refine Cl.n (by first | decide | omega) ?_)
        · exact vp_in_nI (by omega) (by decide)
        intro hw87
        refine g_iinc (pc := 88) C dX7_takeBorrowed_88 rfl (by decide) rfl ?_
        refine g_goto (pc := 91) C 60 dX7_takeBorrowed_91 (by decide) ?_
        rw [nI_clamp (by omega), bx_uu]
        exact g_to (ih (v + 1) _ k hat r σ' hk (by omega) kk) ⟨rfl, rfl, rfl, rfl, lgi (nI_1 v), trivial⟩
  have outer : ∀ d f, d ≤ hcn P (tn P) → (∀ j, j < d → f j = nI (hatn P (tn P) j)) → Go G mX7_takeBorrowed κ (some (.int (nI 1))) (va_up (va_up σ0 26 (iA G 16 (wrO (tn P) n (hatn P (tn P)) d f))) 10 (cTold G 24 25 26 (nI (tn P)) (nI (tm P)) (nI (bset P ||| 1 <<< tn P)) (nI (hcn P (tn P) * n)) (nI (tl P)) (nI (tg P)))) (va_up σ0 26 (iA G 16 f)) 46 [(0, .ref (ga G 10)), (1, .int (nI n)), (2, .int (lat d))] [] := by
    intro d
    induction d with
    | zero =>
      intro f hd hf
      have q10 : Cl G (va_up σ0 26 (iA G 16 f)) 10 (cTold G 24 25 26 (nI (tn P)) (nI (tm P)) (nI (bset P ||| 1 <<< tn P)) (nI (hcn P (tn P))) (nI (tl P)) (nI (tg P))) := Cl.n (by decide) h10'
      refine g_iload_n (pc := 46) C dX7_takeBorrowed_46 rfl ?_
      refine g_if_lt (pc := 47) C 100 dX7_takeBorrowed_47 (by decide) (fun c47 => ?_) (fun c47 => ?_)
      · refine g_aload_n (pc := 100) C dX7_takeBorrowed_100 rfl ?_
        refine g_dup (pc := 101) C dX7_takeBorrowed_101 rfl ?_
        apply gf_X7_31 (pc := 102) C rfl dX7_takeBorrowed_102
        · repeat (first | assumption | exact Cl.s (by assumption) | refine Cl.n (by first | decide | omega) ?_)
        · rfl
        refine g_iload_n (pc := 105) C dX7_takeBorrowed_105 rfl ?_
        refine g_imul (pc := 106) C dX7_takeBorrowed_106 ?_
        apply pf_X7_31 (pc := 107) C rfl dX7_takeBorrowed_107
        · repeat (first | assumption | exact Cl.s (by assumption) | refine Cl.n (by first | decide | omega) ?_)
        · rfl
        · rfl
        · exact Nat.le_of_ble_eq_true rfl
        intro hw107
        refine g_iconst (pc := 110) (v := nI 1) C dX7_takeBorrowed_110 (by decide) ?_
        exact g_zreturn (pc := 111) C dX7_takeBorrowed_111 rfl (by first | exact Or.inl rfl | exact Or.inr rfl) (rfl) (by rw [pk_mul]; rfl)
      · exact absurd (by rw [lat_0]; decide) c47
    | succ d ih =>
      intro f hd hf
      have q10 : Cl G (va_up σ0 26 (iA G 16 f)) 10 (cTold G 24 25 26 (nI (tn P)) (nI (tm P)) (nI (bset P ||| 1 <<< tn P)) (nI (hcn P (tn P))) (nI (tl P)) (nI (tg P))) := Cl.n (by decide) h10'
      have q26 : Cl G (va_up σ0 26 (iA G 16 f)) 26 (iA G 16 f) := Cl.s h26'
      have el : nI d + Int32.ofInt (-1) = lat d := by rw [lat, Int32.sub_eq_add_neg]; rfl
      have hdn : d ≤ d * n := Nat.le_mul_of_pos_right d hn1
      have k94 : Go G mX7_takeBorrowed κ (some (.int (nI 1))) (va_up (va_up σ0 26 (iA G 16 (wrO (tn P) n (hatn P (tn P)) (d + 1) f))) 10 (cTold G 24 25 26 (nI (tn P)) (nI (tm P)) (nI (bset P ||| 1 <<< tn P)) (nI (hcn P (tn P) * n)) (nI (tl P)) (nI (tg P)))) (va_up σ0 26 (iA G 16 (wrH (tn P) (hatn P (tn P) d) d n n 0 f))) 94 [(0, .ref (ga G 10)), (1, .int (nI n)), (2, .int (nI d))] [] := by
        have := ih (wrH (tn P) (hatn P (tn P) d) d n n 0 f) (by omega) (fun j hj => by rw [wrH_at, if_neg (by omega)]; exact hf j (by omega))
        refine g_iinc (pc := 94) C dX7_takeBorrowed_94 rfl (by decide) rfl ?_
        refine g_goto (pc := 97) C 46 dX7_takeBorrowed_97 (by decide) ?_
        exact g_to this ⟨rfl, rfl, lgi el, trivial⟩
      rw [lat_s]
      refine g_iload_n (pc := 46) C dX7_takeBorrowed_46 rfl ?_
      refine g_if_lt (pc := 47) C 100 dX7_takeBorrowed_47 (by decide) (fun c47 => ?_) (fun c47 => ?_)
      · exact absurd c47 (nI_pos (by omega))
      · refine g_aload_n (pc := 50) C dX7_takeBorrowed_50 rfl ?_
        apply gf_X7_18 (pc := 51) C rfl dX7_takeBorrowed_51
        · repeat (first | assumption | exact Cl.s (by assumption) | refine Cl.n (by first | decide | omega) ?_)
        · rfl
        refine g_iload_n (pc := 54) C dX7_takeBorrowed_54 rfl ?_
        apply g_iaload (pc := 55) C dX7_takeBorrowed_55
        · repeat (first | assumption | exact Cl.s (by assumption) | refine Cl.n (by first | decide | omega) ?_)
        · exact vp_in_nI (by omega) (by decide)
        rw [nI_clamp (by omega), hf d (by omega)]
        refine g_istore_n (pc := 56) C dX7_takeBorrowed_56 (by decide) rfl ?_
        refine g_iconst (pc := 57) (v := nI 0) C dX7_takeBorrowed_57 (by decide) ?_
        refine g_istore (pc := 58) C dX7_takeBorrowed_58 (by decide) rfl ?_
        exact g_to (inner n 0 f d _ _ _ (by omega) (by omega) k94) ⟨rfl, rfl, rfl, rfl, rfl, trivial⟩
  refine g_aload_n (pc := 0) C dX7_takeBorrowed_0 rfl ?_
  apply gf_X7_28 (pc := 1) C rfl dX7_takeBorrowed_1
  · repeat (first | assumption | exact Cl.s (by assumption) | refine Cl.n (by first | decide | omega) ?_)
  · rfl
  refine cl_X7_44 (pc := 4) C rfl (t_bitCount (by omega)) dX7_takeBorrowed_4 rfl (Nat.le_of_ble_eq_true rfl) ?_
  refine g_iconst (pc := 7) (v := nI 2) C dX7_takeBorrowed_7 (by decide) ?_
  refine g_icmp_ge (pc := 8) C 22 dX7_takeBorrowed_8 (by decide) (fun c8 => ?_) (fun c8 => ?_)
  · exact absurd c8 (nI_ge (by rw [many_bset hW]; exact hs) (by decide))
  · refine g_aload_n (pc := 11) C dX7_takeBorrowed_11 rfl ?_
    apply gf_X7_31 (pc := 12) C rfl dX7_takeBorrowed_12
    · repeat (first | assumption | exact Cl.s (by assumption) | refine Cl.n (by first | decide | omega) ?_)
    · rfl
    refine g_iload_n (pc := 15) C dX7_takeBorrowed_15 rfl ?_
    refine g_imul (pc := 16) C dX7_takeBorrowed_16 ?_
    refine g_bipush (pc := 17) (v := nI 16) C dX7_takeBorrowed_17 (by decide) ?_
    refine g_icmp_le (pc := 19) C 24 dX7_takeBorrowed_19 (by decide) (fun c19 => ?_) (fun c19 => ?_)
    · refine g_aload_n (pc := 24) C dX7_takeBorrowed_24 rfl ?_
      refine g_dup (pc := 25) C dX7_takeBorrowed_25 rfl ?_
      apply gf_X7_28 (pc := 26) C rfl dX7_takeBorrowed_26
      · repeat (first | assumption | exact Cl.s (by assumption) | refine Cl.n (by first | decide | omega) ?_)
      · rfl
      refine g_iconst (pc := 29) (v := nI 1) C dX7_takeBorrowed_29 (by decide) ?_
      refine g_aload_n (pc := 30) C dX7_takeBorrowed_30 rfl ?_
      apply gf_X7_21 (pc := 31) C rfl dX7_takeBorrowed_31
      · repeat (first | assumption | exact Cl.s (by assumption) | refine Cl.n (by first | decide | omega) ?_)
      · rfl
      refine g_ishl (pc := 34) C dX7_takeBorrowed_34 ?_
      refine g_ior (pc := 35) C dX7_takeBorrowed_35 ?_
      rw [nx_shl _ (by omega), nx_or]
      apply pf_X7_28 (pc := 36) C rfl dX7_takeBorrowed_36
      · repeat (first | assumption | exact Cl.s (by assumption) | refine Cl.n (by first | decide | omega) ?_)
      · rfl
      · rfl
      · exact Nat.le_of_ble_eq_true rfl
      intro hw36
      have hq : va_up σ 10 (Sum.inr (7, [Value.ref (ga G 24), Value.ref (ga G 25), Value.ref (ga G 26), Value.int (nI (tn P)), Value.int (nI (tm P)), Value.int (nI (bset P)), Value.int (nI (hcn P (tn P))), Value.int (nI (tl P)), Value.int (nI (tg P))].set 5 (Value.int (nI (bset P ||| 1 <<< tn P))))) = σ0 := hσ0
      rw [hq]
      refine g_aload_n (pc := 39) C dX7_takeBorrowed_39 rfl ?_
      apply gf_X7_31 (pc := 40) C rfl dX7_takeBorrowed_40
      · repeat (first | assumption | exact Cl.s (by assumption) | refine Cl.n (by first | decide | omega) ?_)
      · rfl
      refine g_iconst (pc := 43) (v := nI 1) C dX7_takeBorrowed_43 (by decide) ?_
      refine g_isub (pc := 44) C dX7_takeBorrowed_44 ?_
      refine g_istore_n (pc := 45) C dX7_takeBorrowed_45 (by decide) rfl ?_
      have := outer (hcn P (tn P)) fh (Nat.le_refl _) hh
      rw [va_self h26'.2] at this
      exact g_to this ⟨rfl, rfl, lgi (by rw [lat]; rfl), trivial⟩
    · exact absurd (by rw [pk_mul]; exact nI_le hc16 (by decide)) c19
end TOLD4

