theorem brph5 : brd (ph 5) = 0 := rfl
theorem brph {m : Nat} (h : m ≠ 5) : brd (ph m) = 1 <<< m := by
  unfold ph brd
  rw [if_neg h, if_neg (by omega)]
  rfl
theorem brph_lt {m : Nat} (h : m < 6) : brd (ph m) < 32 := brd_lt (by unfold ph; split <;> omega)
section REF9
variable {G : GG} {σ : WW} {T : TS} {h : HH} {len at_ rm : Int32}
theorem r_mark {kept done : Int32} (h0 : Cl G σ 0 (cRef G len at_ kept done rm)) (hT : QT G σ T) {u : Nat} (hu : u < 2 ^ 31) : Mt G mX10_mark [.ref (ga G 0), .int (nI u)] σ (some (.int (nI (mk5 T u)))) σ := by
  obtain ⟨ft, fn, fv, fl, fm, fp, h2, h3, h4, h5, h6, h7, hW, h1, e0, e1, e2, e3, hv, hl, hp⟩ := hT
  have hlaw := hW.2.2.2.2.2.2.1
  refine Mt.of (by decide +kernel) (Nat.le_of_ble_eq_true rfl) (fun κ C => ?_)
  by_cases e : tl T = 2
  · rw [show mk5 T u = mks u 5 0 by simp [mk5, e]]
    rw [e] at e0
    have loop : ∀ d t, t + d = 5 → Go G mX10_mark κ (some (.int (nI (mks u d t)))) σ σ 2 [(0, .ref (ga G 0)), (1, .int (nI u)), (2, .int (nI t))] [] := by
      intro d
      induction d with
      | zero =>
        intro t ht
        refine g_aload_n (pc := 2) C dX10_mark_2 rfl ?_
        apply gf_X10_13 (pc := 3) C rfl dX10_mark_3
        · repeat (first | assumption | exact Cl.s (by assumption) | refine Cl.n (by first | decide | omega) ?_)
        · rfl
        refine g_iconst (pc := 6) (v := nI 0) C dX10_mark_6 (by decide) ?_
        apply g_iaload (pc := 7) C dX10_mark_7
        · repeat (first | assumption | exact Cl.s (by assumption) | refine Cl.n (by first | decide | omega) ?_)
        · exact vp_in_nI (n := 0) (by decide) (by decide)
        rw [nI_clamp (by decide), e0]
        refine g_iconst (pc := 8) (v := nI 2) C dX10_mark_8 (by decide) ?_
        refine g_icmp_nE (pc := 9) C 31 dX10_mark_9 (by decide) (fun c9 => ?_) (fun c9 => ?_)
        · exact absurd rfl c9
        · refine g_iload_n (pc := 12) C dX10_mark_12 rfl ?_
          refine g_iconst (pc := 13) (v := nI 5) C dX10_mark_13 (by decide) ?_
          refine g_icmp_ge (pc := 14) C 31 dX10_mark_14 (by decide) (fun c14 => ?_) (fun c14 => ?_)
          · refine g_aload_n (pc := 31) C dX10_mark_31 rfl ?_
            apply gf_X10_13 (pc := 32) C rfl dX10_mark_32
            · repeat (first | assumption | exact Cl.s (by assumption) | refine Cl.n (by first | decide | omega) ?_)
            · rfl
            refine g_iconst (pc := 35) (v := nI 0) C dX10_mark_35 (by decide) ?_
            apply g_iaload (pc := 36) C dX10_mark_36
            · repeat (first | assumption | exact Cl.s (by assumption) | refine Cl.n (by first | decide | omega) ?_)
            · exact vp_in_nI (n := 0) (by decide) (by decide)
            rw [nI_clamp (by decide), e0]
            refine g_iconst (pc := 37) (v := nI 2) C dX10_mark_37 (by decide) ?_
            refine g_icmp_nE (pc := 38) C 45 dX10_mark_38 (by decide) (fun c38 => ?_) (fun c38 => ?_)
            · exact absurd rfl c38
            · refine g_iload_n (pc := 41) C dX10_mark_41 rfl ?_
              refine g_goto (pc := 42) C 46 dX10_mark_42 (by decide) ?_
              exact g_ireturn (pc := 46) C dX10_mark_46 rfl (rfl) (rfl)
          · exact absurd (nI_le (by omega) (by omega)) c14
      | succ d ih =>
        intro t ht
        have eb : u >>> t &&& 1 < 2 := by rw [Nat.and_one_is_mod]; omega
        by_cases hc : (u >>> t) &&& 1 = 0
        · rw [show mks u (d + 1) t = mks u d (t + 1) by simp [mks, hc]]
          refine g_aload_n (pc := 2) C dX10_mark_2 rfl ?_
          apply gf_X10_13 (pc := 3) C rfl dX10_mark_3
          · repeat (first | assumption | exact Cl.s (by assumption) | refine Cl.n (by first | decide | omega) ?_)
          · rfl
          refine g_iconst (pc := 6) (v := nI 0) C dX10_mark_6 (by decide) ?_
          apply g_iaload (pc := 7) C dX10_mark_7
          · repeat (first | assumption | exact Cl.s (by assumption) | refine Cl.n (by first | decide | omega) ?_)
          · exact vp_in_nI (n := 0) (by decide) (by decide)
          rw [nI_clamp (by decide), e0]
          refine g_iconst (pc := 8) (v := nI 2) C dX10_mark_8 (by decide) ?_
          refine g_icmp_nE (pc := 9) C 31 dX10_mark_9 (by decide) (fun c9 => ?_) (fun c9 => ?_)
          · exact absurd rfl c9
          · refine g_iload_n (pc := 12) C dX10_mark_12 rfl ?_
            refine g_iconst (pc := 13) (v := nI 5) C dX10_mark_13 (by decide) ?_
            refine g_icmp_ge (pc := 14) C 31 dX10_mark_14 (by decide) (fun c14 => ?_) (fun c14 => ?_)
            · exact absurd c14 (nI_ge (by omega) (by decide))
            · refine g_iload_n (pc := 17) C dX10_mark_17 rfl ?_
              refine g_iload_n (pc := 18) C dX10_mark_18 rfl ?_
              refine g_ishr (pc := 19) C dX10_mark_19 ?_
              rw [nx_shr hu (by omega)]
              refine g_iconst (pc := 20) (v := nI 1) C dX10_mark_20 (by decide) ?_
              refine g_iand (pc := 21) C dX10_mark_21 ?_
              rw [nx_and, hc]
              refine g_if_nE (pc := 22) C 31 dX10_mark_22 (by decide) (fun c22 => ?_) (fun c22 => ?_)
              · exact absurd rfl c22
              · refine g_iinc (pc := 25) C dX10_mark_25 rfl (by decide) rfl ?_
                refine g_goto (pc := 28) C 2 dX10_mark_28 (by decide) ?_
                exact g_to (ih (t + 1) (by omega)) ⟨rfl, rfl, lgi (nI_1 t), trivial⟩
        · rw [show mks u (d + 1) t = t by unfold mks; rw [if_neg hc]]
          refine g_aload_n (pc := 2) C dX10_mark_2 rfl ?_
          apply gf_X10_13 (pc := 3) C rfl dX10_mark_3
          · repeat (first | assumption | exact Cl.s (by assumption) | refine Cl.n (by first | decide | omega) ?_)
          · rfl
          refine g_iconst (pc := 6) (v := nI 0) C dX10_mark_6 (by decide) ?_
          apply g_iaload (pc := 7) C dX10_mark_7
          · repeat (first | assumption | exact Cl.s (by assumption) | refine Cl.n (by first | decide | omega) ?_)
          · exact vp_in_nI (n := 0) (by decide) (by decide)
          rw [nI_clamp (by decide), e0]
          refine g_iconst (pc := 8) (v := nI 2) C dX10_mark_8 (by decide) ?_
          refine g_icmp_nE (pc := 9) C 31 dX10_mark_9 (by decide) (fun c9 => ?_) (fun c9 => ?_)
          · exact absurd rfl c9
          · refine g_iload_n (pc := 12) C dX10_mark_12 rfl ?_
            refine g_iconst (pc := 13) (v := nI 5) C dX10_mark_13 (by decide) ?_
            refine g_icmp_ge (pc := 14) C 31 dX10_mark_14 (by decide) (fun c14 => ?_) (fun c14 => ?_)
            · exact absurd c14 (nI_ge (by omega) (by decide))
            · refine g_iload_n (pc := 17) C dX10_mark_17 rfl ?_
              refine g_iload_n (pc := 18) C dX10_mark_18 rfl ?_
              refine g_ishr (pc := 19) C dX10_mark_19 ?_
              rw [nx_shr hu (by omega)]
              refine g_iconst (pc := 20) (v := nI 1) C dX10_mark_20 (by decide) ?_
              refine g_iand (pc := 21) C dX10_mark_21 ?_
              rw [nx_and]
              refine g_if_nE (pc := 22) C 31 dX10_mark_22 (by decide) (fun c22 => ?_) (fun c22 => ?_)
              · refine g_aload_n (pc := 31) C dX10_mark_31 rfl ?_
                apply gf_X10_13 (pc := 32) C rfl dX10_mark_32
                · repeat (first | assumption | exact Cl.s (by assumption) | refine Cl.n (by first | decide | omega) ?_)
                · rfl
                refine g_iconst (pc := 35) (v := nI 0) C dX10_mark_35 (by decide) ?_
                apply g_iaload (pc := 36) C dX10_mark_36
                · repeat (first | assumption | exact Cl.s (by assumption) | refine Cl.n (by first | decide | omega) ?_)
                · exact vp_in_nI (n := 0) (by decide) (by decide)
                rw [nI_clamp (by decide), e0]
                refine g_iconst (pc := 37) (v := nI 2) C dX10_mark_37 (by decide) ?_
                refine g_icmp_nE (pc := 38) C 45 dX10_mark_38 (by decide) (fun c38 => ?_) (fun c38 => ?_)
                · exact absurd rfl c38
                · refine g_iload_n (pc := 41) C dX10_mark_41 rfl ?_
                  refine g_goto (pc := 42) C 46 dX10_mark_42 (by decide) ?_
                  exact g_ireturn (pc := 46) C dX10_mark_46 rfl (rfl) (rfl)
              · exact absurd ((nI_eq (b := 0) (by omega) (by decide)).mp c22) hc
    refine g_iconst (pc := 0) (v := nI 0) C dX10_mark_0 (by decide) ?_
    refine g_istore_n (pc := 1) C dX10_mark_1 (by decide) rfl ?_
    exact g_to (loop 5 0 (by decide)) ⟨rfl, rfl, rfl, trivial⟩
  · rw [show mk5 T u = 5 by simp [mk5, e]]
    have n2 : ¬ nI (tl T) = nI 2 := fun q => e ((nI_eq (by omega) (by decide)).mp q)
    refine g_iconst (pc := 0) (v := nI 0) C dX10_mark_0 (by decide) ?_
    refine g_istore_n (pc := 1) C dX10_mark_1 (by decide) rfl ?_
    refine g_aload_n (pc := 2) C dX10_mark_2 rfl ?_
    apply gf_X10_13 (pc := 3) C rfl dX10_mark_3
    · repeat (first | assumption | exact Cl.s (by assumption) | refine Cl.n (by first | decide | omega) ?_)
    · rfl
    refine g_iconst (pc := 6) (v := nI 0) C dX10_mark_6 (by decide) ?_
    apply g_iaload (pc := 7) C dX10_mark_7
    · repeat (first | assumption | exact Cl.s (by assumption) | refine Cl.n (by first | decide | omega) ?_)
    · exact vp_in_nI (n := 0) (by decide) (by decide)
    rw [nI_clamp (by decide), e0]
    refine g_iconst (pc := 8) (v := nI 2) C dX10_mark_8 (by decide) ?_
    refine g_icmp_nE (pc := 9) C 31 dX10_mark_9 (by decide) (fun c9 => ?_) (fun c9 => ?_)
    · refine g_aload_n (pc := 31) C dX10_mark_31 rfl ?_
      apply gf_X10_13 (pc := 32) C rfl dX10_mark_32
      · repeat (first | assumption | exact Cl.s (by assumption) | refine Cl.n (by first | decide | omega) ?_)
      · rfl
      refine g_iconst (pc := 35) (v := nI 0) C dX10_mark_35 (by decide) ?_
      apply g_iaload (pc := 36) C dX10_mark_36
      · repeat (first | assumption | exact Cl.s (by assumption) | refine Cl.n (by first | decide | omega) ?_)
      · exact vp_in_nI (n := 0) (by decide) (by decide)
      rw [nI_clamp (by decide), e0]
      refine g_iconst (pc := 37) (v := nI 2) C dX10_mark_37 (by decide) ?_
      refine g_icmp_nE (pc := 38) C 45 dX10_mark_38 (by decide) (fun c38 => ?_) (fun c38 => ?_)
      · refine g_iconst (pc := 45) (v := nI 5) C dX10_mark_45 (by decide) ?_
        exact g_ireturn (pc := 46) C dX10_mark_46 rfl (rfl) (rfl)
      · exact absurd c38 n2
    · exact absurd c9 n2
def RwE (G : GG) (σ : WW) (r : Option Value) (f : Nat → Int64) (pc : Nat) (lv : List (Nat × Value)) : Prop := ∃ f', ∀ κ, Cx G mX10_rows κ → Go G mX10_rows κ r (va_up σ 14 (lA G 324 f')) (va_up σ 14 (lA G 324 f)) pc lv []
theorem fr14 {f : Nat → Int64} : Fr σ (va_up σ 14 (lA G 324 f)) [14] := fr3 fr0 (by decide)
theorem QT.f14 (hT : QT G σ T) {f : Nat → Int64} : QT G (va_up σ 14 (lA G 324 f)) T := hT.fr fr14 (by decide) (by decide) (by decide) (by decide) (by decide) (by decide)
theorem r_rowsP {kept done : Int32} (h0 : Cl G σ 0 (cRef G len at_ kept done rm)) (hT : QT G σ T) {i j n : Nat} {fw : Nat → Int64} (h14 : Cl G σ 14 (lA G 324 fw)) (r : Option Value) {c : Nat → Nat} {k q : Nat} (hk : k < 54) (hc : c k ≠ 0 → k / 6 < tm T) (hcl : c k < 2 ^ 62) {f : Nat → Int64} {d : Nat → Nat} (f1 : ∀ x, x < 54 → f x = lN (c x)) (f2 : ∀ x, x < 54 → f (54 + x) = lN (d x)) (K : ∀ f', (∀ x, x < 54 → f' x = lN (c x)) → (∀ x, x < 54 → f' (54 + x) = lN (d x + gq T c k x)) → RwE G σ r f' 200 [(0, .ref (ga G 0)), (1, .int (nI i)), (2, .int (nI j)), (3, .int (nI n)), (4, .int (nI q)), (5, .int (nI k))]) : RwE G σ r f 89 [(0, .ref (ga G 0)), (1, .int (nI i)), (2, .int (nI j)), (3, .int (nI n)), (4, .int (nI q)), (5, .int (nI k)), (6, .int (nI 0))] := by
  have hW := hT.w.1
  have hm := hW.2.2.2.2.1
  have hlaw := hW.2.2.2.2.2.2.1
  have hm1 := hT.w.2
  by_cases hz : c k = 0
  · obtain ⟨f', g⟩ := K f f1 (fun x hx => by
      rw [f2 x hx]
      unfold gq rct
      simp [hz])
    refine ⟨f', fun κ C => ?_⟩
    have y0 : Cl G (va_up σ 14 (lA G 324 f)) 0 (cRef G len at_ kept done rm) := Cl.n (by decide) h0
    have y14 : Cl G (va_up σ 14 (lA G 324 f)) 14 (lA G 324 f) := Cl.s h14
    obtain ⟨ft, fn, fv, fl, fm, fp, h2, h3, h4, h5, h6, h7, -, -, e0, e1, e2, e3, hv, hl, hp⟩ := hT.f14 (f := f)
    refine g_iload (pc := 89) C dX10_rows_89 rfl ?_
    refine g_aload_n (pc := 91) C dX10_rows_91 rfl ?_
    apply gf_X10_26 (pc := 92) C rfl dX10_rows_92
    · repeat (first | assumption | exact Cl.s (by assumption) | refine Cl.n (by first | decide | omega) ?_)
    · rfl
    refine g_iconst (pc := 95) (v := nI 0) C dX10_rows_95 (by decide) ?_
    apply g_iaload (pc := 96) C dX10_rows_96
    · repeat (first | assumption | exact Cl.s (by assumption) | refine Cl.n (by first | decide | omega) ?_)
    · exact vp_in_nI (n := 0) (by decide) (by decide)
    rw [nI_clamp (by decide), e3]
    refine g_icmp_ge (pc := 97) C 200 dX10_rows_97 (by decide) (fun c97 => ?_) (fun c97 => ?_)
    · exact absurd c97 (nI_ge (by omega) (by omega))
    · refine g_aload_n (pc := 100) C dX10_rows_100 rfl ?_
      apply gf_X10_50 (pc := 101) C rfl dX10_rows_101
      · repeat (first | assumption | exact Cl.s (by assumption) | refine Cl.n (by first | decide | omega) ?_)
      · rfl
      refine g_iload (pc := 104) C dX10_rows_104 rfl ?_
      apply g_laload (pc := 106) C dX10_rows_106
      · repeat (first | assumption | exact Cl.s (by assumption) | refine Cl.n (by first | decide | omega) ?_)
      · exact vp_in_nI (by omega) (by decide)
      rw [nI_clamp (by omega), f1 k hk]
      refine g_lconst (pc := 107) (v := 0) C dX10_rows_107 (by decide) ?_
      refine g_lcmp (pc := 108) C dX10_rows_108 ?_
      refine g_if_le (pc := 109) C 200 dX10_rows_109 (by decide) (fun c109 => ?_) (fun c109 => ?_)
      · exact g_to (g κ C) ⟨rfl, rfl, rfl, rfl, rfl, rfl, trivial⟩
      · exact absurd (lc_0 hz) c109
  · have hk6 := hc hz
    have loop : ∀ (e p : Nat) (f : Nat → Int64) (d : Nat → Nat), p + e = tm T → (∀ x, x < 54 → f x = lN (c x)) → (∀ x, x < 54 → f (54 + x) = lN (d x)) → (∀ f', (∀ x, x < 54 → f' x = lN (c x)) → (∀ x, x < 54 → f' (54 + x) = lN (d x + if p ≤ x / 6 then gq T c k x else 0)) → RwE G σ r f' 200 [(0, .ref (ga G 0)), (1, .int (nI i)), (2, .int (nI j)), (3, .int (nI n)), (4, .int (nI q)), (5, .int (nI k))]) → RwE G σ r f 89 [(0, .ref (ga G 0)), (1, .int (nI i)), (2, .int (nI j)), (3, .int (nI n)), (4, .int (nI q)), (5, .int (nI k)), (6, .int (nI p))] := by
      intro e
      induction e with
      | zero =>
        intro p f d hp f1 f2 K
        obtain ⟨f', g⟩ := K f f1 (fun x hx => by
          rw [f2 x hx]
          by_cases z : p ≤ x / 6
          · rw [if_pos z]; unfold gq; rw [if_neg (by omega), Nat.add_zero]
          · rw [if_neg z, Nat.add_zero])
        refine ⟨f', fun κ C => ?_⟩
        have y0 : Cl G (va_up σ 14 (lA G 324 f)) 0 (cRef G len at_ kept done rm) := Cl.n (by decide) h0
        obtain ⟨ft, fn, fv, fl, fm, fp, h2, h3, h4, h5, h6, h7, -, -, e0, e1, e2, e3, hv, hl, hp⟩ := hT.f14 (f := f)
        refine g_iload (pc := 89) C dX10_rows_89 rfl ?_
        refine g_aload_n (pc := 91) C dX10_rows_91 rfl ?_
        apply gf_X10_26 (pc := 92) C rfl dX10_rows_92
        · repeat (first | assumption | exact Cl.s (by assumption) | refine Cl.n (by first | decide | omega) ?_)
        · rfl
        refine g_iconst (pc := 95) (v := nI 0) C dX10_rows_95 (by decide) ?_
        apply g_iaload (pc := 96) C dX10_rows_96
        · repeat (first | assumption | exact Cl.s (by assumption) | refine Cl.n (by first | decide | omega) ?_)
        · exact vp_in_nI (n := 0) (by decide) (by decide)
        rw [nI_clamp (by decide), e3]
        refine g_icmp_ge (pc := 97) C 200 dX10_rows_97 (by decide) (fun c97 => ?_) (fun c97 => ?_)
        · exact g_to (g κ C) ⟨rfl, rfl, rfl, rfl, rfl, rfl, trivial⟩
        · exact absurd (nI_le (by omega) (by omega)) c97
      | succ e ih =>
        intro p f d hp f1 f2 K
        have y0 : Cl G (va_up σ 14 (lA G 324 f)) 0 (cRef G len at_ kept done rm) := Cl.n (by decide) h0
        have y14 : Cl G (va_up σ 14 (lA G 324 f)) 14 (lA G 324 f) := Cl.s h14
        have hT1 := hT.f14 (f := f)
        obtain ⟨ft, fn, fv, fl, fm, fp, h2, h3, h4, h5, h6, h7, -, -, e0, e1, e2, e3, hv, hl, hp9⟩ := hT.f14 (f := f)
        have hu := and_lt32 (b := seen T) (UU_lt T p (k / 6) hW.1)
        have hb6 := brph_lt (m := k % 6) (by omega)
        have hmk := mk5_lt T (UU T p (k / 6) &&& seen T)
        by_cases hps : ps (tl T) (UU T p (k / 6) &&& seen T) (brd (ph (k % 6))) = true
        · have g0 := ih (p + 1) (vp_updL f (54 + 6 * p + mk5 T (UU T p (k / 6) &&& seen T)) (lN (d (6 * p + mk5 T (UU T p (k / 6) &&& seen T)) + c k))) (fun x => d x + if x = 6 * p + mk5 T (UU T p (k / 6) &&& seen T) then c k else 0) (by omega) (fun x hx => by rw [pk_uLn (by omega)]; exact f1 x hx) (fun x hx => by
            by_cases z : x = 6 * p + mk5 T (UU T p (k / 6) &&& seen T)
            · rw [if_pos z, z, show 54 + (6 * p + mk5 T (UU T p (k / 6) &&& seen T)) = 54 + 6 * p + mk5 T (UU T p (k / 6) &&& seen T) by omega, pk_uLs]
            · rw [if_neg z, pk_uLn (by omega), Nat.add_zero]
              exact f2 x hx) (fun f' a1 a2 => K f' a1 (fun x hx => by
              rw [a2 x hx]
              congr 1
              show d x + _ + _ = d x + _
              rw [Nat.add_assoc]
              congr 1
              by_cases z : x / 6 = p
              · rw [if_neg (show ¬ p + 1 ≤ x / 6 by omega), if_pos (show p ≤ x / 6 by omega), Nat.add_zero]
                unfold gq
                rw [z, if_pos (show p < tm T by omega)]
                unfold rct
                by_cases w : mk5 T (UU T p (k / 6) &&& seen T) = x % 6
                · have w1 : x = 6 * p + mk5 T (UU T p (k / 6) &&& seen T) := by omega
                  rw [if_pos w1, if_pos ⟨hps, w⟩]
                · have w1 : ¬ x = 6 * p + mk5 T (UU T p (k / 6) &&& seen T) := by omega
                  rw [if_neg w1, if_neg (fun q => w q.2)]
              · rw [if_neg (by omega), Nat.zero_add]
                by_cases w : p ≤ x / 6
                · rw [if_pos w, if_pos (by omega)]
                · rw [if_neg w, if_neg (by omega)]))
          obtain ⟨f', g⟩ := g0
          refine ⟨f', fun κ C => ?_⟩
          refine g_iload (pc := 89) C dX10_rows_89 rfl ?_
          refine g_aload_n (pc := 91) C dX10_rows_91 rfl ?_
          apply gf_X10_26 (pc := 92) C rfl dX10_rows_92
          · repeat (first | assumption | exact Cl.s (by assumption) | refine Cl.n (by first | decide | omega) ?_)
          · rfl
          refine g_iconst (pc := 95) (v := nI 0) C dX10_rows_95 (by decide) ?_
          apply g_iaload (pc := 96) C dX10_rows_96
          · repeat (first | assumption | exact Cl.s (by assumption) | refine Cl.n (by first | decide | omega) ?_)
          · exact vp_in_nI (n := 0) (by decide) (by decide)
          rw [nI_clamp (by decide), e3]
          refine g_icmp_ge (pc := 97) C 200 dX10_rows_97 (by decide) (fun c97 => ?_) (fun c97 => ?_)
          · exact absurd c97 (nI_ge (by omega) (by omega))
          · refine g_aload_n (pc := 100) C dX10_rows_100 rfl ?_
            apply gf_X10_50 (pc := 101) C rfl dX10_rows_101
            · repeat (first | assumption | exact Cl.s (by assumption) | refine Cl.n (by first | decide | omega) ?_)
            · rfl
            refine g_iload (pc := 104) C dX10_rows_104 rfl ?_
            apply g_laload (pc := 106) C dX10_rows_106
            · repeat (first | assumption | exact Cl.s (by assumption) | refine Cl.n (by first | decide | omega) ?_)
            · exact vp_in_nI (by omega) (by decide)
            rw [nI_clamp (by omega), f1 k hk]
            refine g_lconst (pc := 107) (v := 0) C dX10_rows_107 (by decide) ?_
            refine g_lcmp (pc := 108) C dX10_rows_108 ?_
            refine g_if_le (pc := 109) C 200 dX10_rows_109 (by decide) (fun c109 => ?_) (fun c109 => ?_)
            · exact absurd c109 (lc_1 hz (by omega))
            · refine g_aload_n (pc := 112) C dX10_rows_112 rfl ?_
              refine g_iload (pc := 113) C dX10_rows_113 rfl ?_
              refine g_iload (pc := 115) C dX10_rows_115 rfl ?_
              refine g_bipush (pc := 117) (v := nI 6) C dX10_rows_117 (by decide) ?_
              refine g_idiv (pc := 119) C dX10_rows_119 (by decide) ?_
              rw [pk_div (by omega) (by decide) (by decide)]
              apply cl_X10_136 (pc := 120) C rfl (r_unlike y0 hT1 (by omega) hk6) dX10_rows_120
              · repeat (first | assumption | exact Cl.s (by assumption) | refine Cl.n (by first | decide | omega) ?_)
              · rfl
              · exact Nat.le_of_ble_eq_true rfl
              refine g_aload_n (pc := 123) C dX10_rows_123 rfl ?_
              apply cl_X10_140 (pc := 124) C rfl (r_seen y0 hT1) dX10_rows_124
              · repeat (first | assumption | exact Cl.s (by assumption) | refine Cl.n (by first | decide | omega) ?_)
              · rfl
              · exact Nat.le_of_ble_eq_true rfl
              refine g_iand (pc := 127) C dX10_rows_127 ?_
              rw [nx_and]
              refine g_istore (pc := 128) C dX10_rows_128 (by decide) rfl ?_
              refine g_aload_n (pc := 130) C dX10_rows_130 rfl ?_
              apply gf_X10_13 (pc := 131) C rfl dX10_rows_131
              · repeat (first | assumption | exact Cl.s (by assumption) | refine Cl.n (by first | decide | omega) ?_)
              · rfl
              refine g_iconst (pc := 134) (v := nI 0) C dX10_rows_134 (by decide) ?_
              apply g_iaload (pc := 135) C dX10_rows_135
              · repeat (first | assumption | exact Cl.s (by assumption) | refine Cl.n (by first | decide | omega) ?_)
              · exact vp_in_nI (n := 0) (by decide) (by decide)
              rw [nI_clamp (by decide), e0]
              refine g_iload (pc := 136) C dX10_rows_136 rfl ?_
              refine g_iload (pc := 138) C dX10_rows_138 rfl ?_
              refine g_bipush (pc := 140) (v := nI 6) C dX10_rows_140 (by decide) ?_
              refine g_irem (pc := 142) C dX10_rows_142 (by decide) ?_
              rw [pk_rem (by omega) (by decide) (by decide)]
              refine g_iconst (pc := 143) (v := nI 5) C dX10_rows_143 (by decide) ?_
              refine g_icmp_nE (pc := 144) C 151 dX10_rows_144 (by decide) (fun c144 => ?_) (fun c144 => ?_)
              · refine g_iconst (pc := 151) (v := nI 1) C dX10_rows_151 (by decide) ?_
                refine g_iload (pc := 152) C dX10_rows_152 rfl ?_
                refine g_bipush (pc := 154) (v := nI 6) C dX10_rows_154 (by decide) ?_
                refine g_irem (pc := 156) C dX10_rows_156 (by decide) ?_
                rw [pk_rem (by omega) (by decide) (by decide)]
                refine g_ishl (pc := 157) C dX10_rows_157 ?_
                first | (have c144' := (nI_eq (by omega) (by decide)).mp c144; rw [show nI 0 = nI (brd (ph (k % 6))) by rw [c144', brph5]]) | (have c144' : ¬ k % 6 = 5 := fun q => c144 (by rw [q]); rw [nx_shl _ (by omega), ← brph c144'])
                refine cl_X10_146 (pc := 158) C rfl (r_passes hlaw (by omega) (by omega)) dX10_rows_158 rfl (Nat.le_of_ble_eq_true rfl) ?_
                refine g_if_eq (pc := 161) C 194 dX10_rows_161 (by decide) (fun c161 => ?_) (fun c161 => ?_)
                · exact absurd c161 (by rw [hps]; decide)
                · refine g_aload_n (pc := 164) C dX10_rows_164 rfl ?_
                  apply gf_X10_50 (pc := 165) C rfl dX10_rows_165
                  · repeat (first | assumption | exact Cl.s (by assumption) | refine Cl.n (by first | decide | omega) ?_)
                  · rfl
                  refine g_bipush (pc := 168) (v := nI 54) C dX10_rows_168 (by decide) ?_
                  refine g_bipush (pc := 170) (v := nI 6) C dX10_rows_170 (by decide) ?_
                  refine g_iload (pc := 172) C dX10_rows_172 rfl ?_
                  refine g_imul (pc := 174) C dX10_rows_174 ?_
                  refine g_iadd (pc := 175) C dX10_rows_175 ?_
                  refine g_aload_n (pc := 176) C dX10_rows_176 rfl ?_
                  refine g_iload (pc := 177) C dX10_rows_177 rfl ?_
                  apply cl_X10_159 (pc := 179) C rfl (r_mark y0 hT1 (by omega)) dX10_rows_179
                  · repeat (first | assumption | exact Cl.s (by assumption) | refine Cl.n (by first | decide | omega) ?_)
                  · rfl
                  · exact Nat.le_of_ble_eq_true rfl
                  refine g_iadd (pc := 182) C dX10_rows_182 ?_
                  rw [pk_mul, nI_add, nI_add]
                  refine g_dup2 (pc := 183) C dX10_rows_183 rfl rfl ?_
                  apply g_laload (pc := 184) C dX10_rows_184
                  · repeat (first | assumption | exact Cl.s (by assumption) | refine Cl.n (by first | decide | omega) ?_)
                  · exact vp_in_nI (by omega) (by decide)
                  rw [nI_clamp (by omega), show 54 + 6 * p + mk5 T (UU T p (k / 6) &&& seen T) = 54 + (6 * p + mk5 T (UU T p (k / 6) &&& seen T)) by omega, f2 _ (by omega)]
                  refine g_aload_n (pc := 185) C dX10_rows_185 rfl ?_
                  apply gf_X10_50 (pc := 186) C rfl dX10_rows_186
                  · repeat (first | assumption | exact Cl.s (by assumption) | refine Cl.n (by first | decide | omega) ?_)
                  · rfl
                  refine g_iload (pc := 189) C dX10_rows_189 rfl ?_
                  apply g_laload (pc := 191) C dX10_rows_191
                  · repeat (first | assumption | exact Cl.s (by assumption) | refine Cl.n (by first | decide | omega) ?_)
                  · exact vp_in_nI (by omega) (by decide)
                  rw [nI_clamp (by omega), f1 k hk]
                  refine g_ladd (pc := 192) C dX10_rows_192 ?_
                  rw [lN_add]
                  apply g_lastore (pc := 193) C dX10_rows_193
                  · repeat (first | assumption | exact Cl.s (by assumption) | refine Cl.n (by first | decide | omega) ?_)
                  · exact vp_in_nI (by omega) (by decide)
                  intro hw193
                  refine g_iinc (pc := 194) C dX10_rows_194 rfl (by decide) rfl ?_
                  refine g_goto (pc := 197) C 89 dX10_rows_197 (by decide) ?_
                  rw [nI_clamp (by omega), show 54 + (6 * p + mk5 T (UU T p (k / 6) &&& seen T)) = 54 + 6 * p + mk5 T (UU T p (k / 6) &&& seen T) by omega, bx_uu σ 14]
                  exact g_to (g κ C) ⟨rfl, rfl, rfl, rfl, rfl, rfl, lgi (nI_1 p), trivial⟩
              · refine g_iconst (pc := 147) (v := nI 0) C dX10_rows_147 (by decide) ?_
                refine g_goto (pc := 148) C 158 dX10_rows_148 (by decide) ?_
                first | (have c144' := (nI_eq (by omega) (by decide)).mp c144; rw [show nI 0 = nI (brd (ph (k % 6))) by rw [c144', brph5]]) | (have c144' : ¬ k % 6 = 5 := fun q => c144 (by rw [q]); rw [nx_shl _ (by omega), ← brph c144'])
                refine cl_X10_146 (pc := 158) C rfl (r_passes hlaw (by omega) (by omega)) dX10_rows_158 rfl (Nat.le_of_ble_eq_true rfl) ?_
                refine g_if_eq (pc := 161) C 194 dX10_rows_161 (by decide) (fun c161 => ?_) (fun c161 => ?_)
                · exact absurd c161 (by rw [hps]; decide)
                · refine g_aload_n (pc := 164) C dX10_rows_164 rfl ?_
                  apply gf_X10_50 (pc := 165) C rfl dX10_rows_165
                  · repeat (first | assumption | exact Cl.s (by assumption) | refine Cl.n (by first | decide | omega) ?_)
                  · rfl
                  refine g_bipush (pc := 168) (v := nI 54) C dX10_rows_168 (by decide) ?_
                  refine g_bipush (pc := 170) (v := nI 6) C dX10_rows_170 (by decide) ?_
                  refine g_iload (pc := 172) C dX10_rows_172 rfl ?_
                  refine g_imul (pc := 174) C dX10_rows_174 ?_
                  refine g_iadd (pc := 175) C dX10_rows_175 ?_
                  refine g_aload_n (pc := 176) C dX10_rows_176 rfl ?_
                  refine g_iload (pc := 177) C dX10_rows_177 rfl ?_
                  apply cl_X10_159 (pc := 179) C rfl (r_mark y0 hT1 (by omega)) dX10_rows_179
                  · repeat (first | assumption | exact Cl.s (by assumption) | refine Cl.n (by first | decide | omega) ?_)
                  · rfl
                  · exact Nat.le_of_ble_eq_true rfl
                  refine g_iadd (pc := 182) C dX10_rows_182 ?_
                  rw [pk_mul, nI_add, nI_add]
                  refine g_dup2 (pc := 183) C dX10_rows_183 rfl rfl ?_
                  apply g_laload (pc := 184) C dX10_rows_184
                  · repeat (first | assumption | exact Cl.s (by assumption) | refine Cl.n (by first | decide | omega) ?_)
                  · exact vp_in_nI (by omega) (by decide)
                  rw [nI_clamp (by omega), show 54 + 6 * p + mk5 T (UU T p (k / 6) &&& seen T) = 54 + (6 * p + mk5 T (UU T p (k / 6) &&& seen T)) by omega, f2 _ (by omega)]
                  refine g_aload_n (pc := 185) C dX10_rows_185 rfl ?_
                  apply gf_X10_50 (pc := 186) C rfl dX10_rows_186
                  · repeat (first | assumption | exact Cl.s (by assumption) | refine Cl.n (by first | decide | omega) ?_)
                  · rfl
                  refine g_iload (pc := 189) C dX10_rows_189 rfl ?_
                  apply g_laload (pc := 191) C dX10_rows_191
                  · repeat (first | assumption | exact Cl.s (by assumption) | refine Cl.n (by first | decide | omega) ?_)
                  · exact vp_in_nI (by omega) (by decide)
                  rw [nI_clamp (by omega), f1 k hk]
                  refine g_ladd (pc := 192) C dX10_rows_192 ?_
                  rw [lN_add]
                  apply g_lastore (pc := 193) C dX10_rows_193
                  · repeat (first | assumption | exact Cl.s (by assumption) | refine Cl.n (by first | decide | omega) ?_)
                  · exact vp_in_nI (by omega) (by decide)
                  intro hw193
                  refine g_iinc (pc := 194) C dX10_rows_194 rfl (by decide) rfl ?_
                  refine g_goto (pc := 197) C 89 dX10_rows_197 (by decide) ?_
                  rw [nI_clamp (by omega), show 54 + (6 * p + mk5 T (UU T p (k / 6) &&& seen T)) = 54 + 6 * p + mk5 T (UU T p (k / 6) &&& seen T) by omega, bx_uu σ 14]
                  exact g_to (g κ C) ⟨rfl, rfl, rfl, rfl, rfl, rfl, lgi (nI_1 p), trivial⟩
        · have g0 := ih (p + 1) f d (by omega) f1 f2 (fun f' a1 a2 => K f' a1 (fun x hx => by
              rw [a2 x hx]
              congr 2
              by_cases z : x / 6 = p
              · rw [if_neg (show ¬ p + 1 ≤ x / 6 by omega), if_pos (show p ≤ x / 6 by omega)]
                unfold gq
                rw [z, if_pos (show p < tm T by omega)]
                unfold rct
                rw [if_neg (fun q => hps q.1)]
              · by_cases w : p ≤ x / 6
                · rw [if_pos w, if_pos (by omega)]
                · rw [if_neg w, if_neg (by omega)]))
          obtain ⟨f', g⟩ := g0
          refine ⟨f', fun κ C => ?_⟩
          have hps' : ps (tl T) (UU T p (k / 6) &&& seen T) (brd (ph (k % 6))) = false := by simpa using hps
          refine g_iload (pc := 89) C dX10_rows_89 rfl ?_
          refine g_aload_n (pc := 91) C dX10_rows_91 rfl ?_
          apply gf_X10_26 (pc := 92) C rfl dX10_rows_92
          · repeat (first | assumption | exact Cl.s (by assumption) | refine Cl.n (by first | decide | omega) ?_)
          · rfl
          refine g_iconst (pc := 95) (v := nI 0) C dX10_rows_95 (by decide) ?_
          apply g_iaload (pc := 96) C dX10_rows_96
          · repeat (first | assumption | exact Cl.s (by assumption) | refine Cl.n (by first | decide | omega) ?_)
          · exact vp_in_nI (n := 0) (by decide) (by decide)
          rw [nI_clamp (by decide), e3]
          refine g_icmp_ge (pc := 97) C 200 dX10_rows_97 (by decide) (fun c97 => ?_) (fun c97 => ?_)
          · exact absurd c97 (nI_ge (by omega) (by omega))
          · refine g_aload_n (pc := 100) C dX10_rows_100 rfl ?_
            apply gf_X10_50 (pc := 101) C rfl dX10_rows_101
            · repeat (first | assumption | exact Cl.s (by assumption) | refine Cl.n (by first | decide | omega) ?_)
            · rfl
            refine g_iload (pc := 104) C dX10_rows_104 rfl ?_
            apply g_laload (pc := 106) C dX10_rows_106
            · repeat (first | assumption | exact Cl.s (by assumption) | refine Cl.n (by first | decide | omega) ?_)
            · exact vp_in_nI (by omega) (by decide)
            rw [nI_clamp (by omega), f1 k hk]
            refine g_lconst (pc := 107) (v := 0) C dX10_rows_107 (by decide) ?_
            refine g_lcmp (pc := 108) C dX10_rows_108 ?_
            refine g_if_le (pc := 109) C 200 dX10_rows_109 (by decide) (fun c109 => ?_) (fun c109 => ?_)
            · exact absurd c109 (lc_1 hz (by omega))
            · refine g_aload_n (pc := 112) C dX10_rows_112 rfl ?_
              refine g_iload (pc := 113) C dX10_rows_113 rfl ?_
              refine g_iload (pc := 115) C dX10_rows_115 rfl ?_
              refine g_bipush (pc := 117) (v := nI 6) C dX10_rows_117 (by decide) ?_
              refine g_idiv (pc := 119) C dX10_rows_119 (by decide) ?_
              rw [pk_div (by omega) (by decide) (by decide)]
              apply cl_X10_136 (pc := 120) C rfl (r_unlike y0 hT1 (by omega) hk6) dX10_rows_120
              · repeat (first | assumption | exact Cl.s (by assumption) | refine Cl.n (by first | decide | omega) ?_)
              · rfl
              · exact Nat.le_of_ble_eq_true rfl
              refine g_aload_n (pc := 123) C dX10_rows_123 rfl ?_
              apply cl_X10_140 (pc := 124) C rfl (r_seen y0 hT1) dX10_rows_124
              · repeat (first | assumption | exact Cl.s (by assumption) | refine Cl.n (by first | decide | omega) ?_)
              · rfl
              · exact Nat.le_of_ble_eq_true rfl
              refine g_iand (pc := 127) C dX10_rows_127 ?_
              rw [nx_and]
              refine g_istore (pc := 128) C dX10_rows_128 (by decide) rfl ?_
              refine g_aload_n (pc := 130) C dX10_rows_130 rfl ?_
              apply gf_X10_13 (pc := 131) C rfl dX10_rows_131
              · repeat (first | assumption | exact Cl.s (by assumption) | refine Cl.n (by first | decide | omega) ?_)
              · rfl
              refine g_iconst (pc := 134) (v := nI 0) C dX10_rows_134 (by decide) ?_
              apply g_iaload (pc := 135) C dX10_rows_135
              · repeat (first | assumption | exact Cl.s (by assumption) | refine Cl.n (by first | decide | omega) ?_)
              · exact vp_in_nI (n := 0) (by decide) (by decide)
              rw [nI_clamp (by decide), e0]
              refine g_iload (pc := 136) C dX10_rows_136 rfl ?_
              refine g_iload (pc := 138) C dX10_rows_138 rfl ?_
              refine g_bipush (pc := 140) (v := nI 6) C dX10_rows_140 (by decide) ?_
              refine g_irem (pc := 142) C dX10_rows_142 (by decide) ?_
              rw [pk_rem (by omega) (by decide) (by decide)]
              refine g_iconst (pc := 143) (v := nI 5) C dX10_rows_143 (by decide) ?_
              refine g_icmp_nE (pc := 144) C 151 dX10_rows_144 (by decide) (fun c144 => ?_) (fun c144 => ?_)
              · refine g_iconst (pc := 151) (v := nI 1) C dX10_rows_151 (by decide) ?_
                refine g_iload (pc := 152) C dX10_rows_152 rfl ?_
                refine g_bipush (pc := 154) (v := nI 6) C dX10_rows_154 (by decide) ?_
                refine g_irem (pc := 156) C dX10_rows_156 (by decide) ?_
                rw [pk_rem (by omega) (by decide) (by decide)]
                refine g_ishl (pc := 157) C dX10_rows_157 ?_
                first | (have c144' := (nI_eq (by omega) (by decide)).mp c144; rw [show nI 0 = nI (brd (ph (k % 6))) by rw [c144', brph5]]) | (have c144' : ¬ k % 6 = 5 := fun q => c144 (by rw [q]); rw [nx_shl _ (by omega), ← brph c144'])
                refine cl_X10_146 (pc := 158) C rfl (r_passes hlaw (by omega) (by omega)) dX10_rows_158 rfl (Nat.le_of_ble_eq_true rfl) ?_
                refine g_if_eq (pc := 161) C 194 dX10_rows_161 (by decide) (fun c161 => ?_) (fun c161 => ?_)
                · refine g_iinc (pc := 194) C dX10_rows_194 rfl (by decide) rfl ?_
                  refine g_goto (pc := 197) C 89 dX10_rows_197 (by decide) ?_
                  exact g_to (g κ C) ⟨rfl, rfl, rfl, rfl, rfl, rfl, lgi (nI_1 p), trivial⟩
                · exact absurd (by rw [hps']; rfl) c161
              · refine g_iconst (pc := 147) (v := nI 0) C dX10_rows_147 (by decide) ?_
                refine g_goto (pc := 148) C 158 dX10_rows_148 (by decide) ?_
                first | (have c144' := (nI_eq (by omega) (by decide)).mp c144; rw [show nI 0 = nI (brd (ph (k % 6))) by rw [c144', brph5]]) | (have c144' : ¬ k % 6 = 5 := fun q => c144 (by rw [q]); rw [nx_shl _ (by omega), ← brph c144'])
                refine cl_X10_146 (pc := 158) C rfl (r_passes hlaw (by omega) (by omega)) dX10_rows_158 rfl (Nat.le_of_ble_eq_true rfl) ?_
                refine g_if_eq (pc := 161) C 194 dX10_rows_161 (by decide) (fun c161 => ?_) (fun c161 => ?_)
                · refine g_iinc (pc := 194) C dX10_rows_194 rfl (by decide) rfl ?_
                  refine g_goto (pc := 197) C 89 dX10_rows_197 (by decide) ?_
                  exact g_to (g κ C) ⟨rfl, rfl, rfl, rfl, rfl, rfl, lgi (nI_1 p), trivial⟩
                · exact absurd (by rw [hps']; rfl) c161
    exact loop (tm T) 0 f d (by omega) f1 f2 (fun f' a1 a2 => K f' a1 (fun x hx => by rw [a2 x hx, if_pos (Nat.zero_le _)]))
end REF9

