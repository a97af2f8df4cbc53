theorem cRn_s (T : TS) (w : Nat → Nat) (d k l : Nat) : cRn T w (d + 1) k l = if LOk T l then mnH (fun l' => if LOk T l' ∧ mfl T (lnv T (tp T (w k)) l) (lnv T (tp T (w (k + 1))) l') = true then cRn T w d (k + 1) l' else 1000) 16 + dfn T (tp T (w k)) (lnv T (tp T (w k)) l) else 1000 := rfl
theorem cR_a (T : TS) (w : Nat → Nat) (d k l : Nat) : cRn T w d k l = if LOk T l then (if d = 0 then 0 else mnH (nxF T w (d - 1) k l) 16) + dfn T (tp T (w k)) (lnv T (tp T (w k)) l) else 1000 := by
  cases d with
  | zero => rfl
  | succ d =>
    have e : nxF T w d k l = fun l' => if LOk T l' ∧ mfl T (lnv T (tp T (w k)) l) (lnv T (tp T (w (k + 1))) l') = true then cRn T w d (k + 1) l' else 1000 := funext (fun l' => rfl)
    rw [if_neg (show ¬ d + 1 = 0 by omega), Nat.add_sub_cancel, e, cRn_s]
section RN4
variable {G : GG} {σ : WW} {T : TS} {len at_ kept done : Int32} {r : Nat} {w : Nat → Nat}
theorem ln_13 (h0 : Cl G σ 0 (cRef G len at_ kept done (nI r))) (hT : QT G σ T) (hR : QR G σ r w) (hr16 : r ≤ 16) (hw : ∀ k, k < r → w k < tm T) {k : Nat} (hk : k < r) (K : ∀ σ2 fc fz, LnS G σ σ2 fc fz → LnR T w r k fc fz → LnE G σ T w r σ2 207 [(0, .ref (ga G 0)), (1, .int (nI k))]) : ∀ f l {σ1 : WW} {fc fz : Nat → Int32}, l + f = 16 → LnS G σ σ1 fc fz → LnR T w r (k + 1) fc fz → (∀ l', l' < l → fz (16 * k + l') = lcI T (tp T (w k)) l' ∧ fc (16 * k + l') = nI (cRn T w (r - 1 - k) k l')) → LnE G σ T w r σ1 13 [(0, .ref (ga G 0)), (1, .int (nI k)), (2, .int (nI l))] := by
  have hW := hT.w.1
  have hm := hW.2.2.2.2.1
  have hwk := hw k hk
  intro f
  induction f with
  | zero =>
    intro l σ1 fc fz hl hS hI hrow
    obtain ⟨σ', k1, k2⟩ := K σ1 fc fz hS (fun k' h1 h2 l' hl' => by
      by_cases e : k' = k
      · rw [e]; exact hrow l' (by omega)
      · exact hI k' (by omega) h2 l' hl')
    refine ⟨σ', fun κ C => ?_, k2⟩
    have k1 := k1 κ C
    refine g_iload_n (pc := 13) C dX10_loans_13 rfl ?_
    refine g_bipush (pc := 14) (v := nI 16) C dX10_loans_14 (by decide) ?_
    refine g_icmp_ge (pc := 16) C 207 dX10_loans_16 (by decide) (fun c16 => ?_) (fun c16 => ?_)
    · exact g_to k1 ⟨rfl, rfl, trivial⟩
    · exact absurd (nI_le (by omega) (by omega)) c16
  | succ f ih =>
    intro l σ1 fc fz hl hS hI hrow
    obtain ⟨y17, y18, yF⟩ := id hS
    have y0 := h0.fr yF (by decide)
    have hT1 := hT.fr yF (by decide) (by decide) (by decide) (by decide) (by decide) (by decide)
    have hR1 := hR.fr yF (by decide)
    obtain ⟨f10, y10, hf10⟩ := id hR1
    have e10 := hf10 k hk
    generalize ha : (if r - 1 - k = 0 then 0 else mnH (nxF T w (r - 1 - k - 1) k l) 16) = a
    have ecR : cRn T w (r - 1 - k) k l = if LOk T l then a + dfn T (tp T (w k)) (lnv T (tp T (w k)) l) else 1000 := by rw [cR_a, ha]
    obtain ⟨σ', k1, k2⟩ := ih (l + 1) (σ1 := va_up (va_up σ1 18 (iA G 272 (upd fz (16 * k + l) (lcI T (tp T (w k)) l)))) 17 (iA G 272 (upd fc (16 * k + l) (nI (cRn T w (r - 1 - k) k l))))) (by omega) ⟨Cl.s (Cl.n (by decide) y17), Cl.n (by decide) (Cl.s y18), fr3 (fr3 yF (by decide)) (by decide)⟩ (fun k' h1 h2 l' hl' => by
      rw [pk_un (by omega), pk_un (by omega)]
      exact hI k' h1 h2 l' hl') (fun l' hl' => by
      by_cases e : l' = l
      · rw [e, pk_us, pk_us]; exact ⟨rfl, rfl⟩
      · rw [pk_un (by omega), pk_un (by omega)]
        exact hrow l' (by omega))
    refine ⟨σ', fun κ C => ?_, k2⟩
    have k1 := k1 κ C
    rw [ecR] at k1
    have k154 := ln_154 y0 hT1 hR1 hr16 hw y17 y18 hk (by omega) C k1
    by_cases ho : LOk T l
    · have hcode : cdn (tv T) (lnv T (tp T (w k)) l) (tn T) < NC T := cdn_lt _ (lnv_V (hW.2.2.2.2.2.1 _ hwk) ho)
      have hN : NC T ≤ 1024 := cds_1024 hW
      rw [lcI_y ho] at k154
      by_cases hlast : k + 1 < r
      · rw [if_neg (by omega)] at ha
        have k53 := ln_53 y0 hT1 hr16 hw y17 y18 (l := l) (d := r - 1 - k - 1) hlast ho (fun l' hl' => by
          have := hI (k + 1) (Nat.le_refl _) hlast l' hl'
          rw [show r - 1 - (k + 1) = r - 1 - k - 1 by omega] at this
          exact this) C (by rw [ha]; exact k154) 16 0 (by omega)
        refine g_iload_n (pc := 13) C dX10_loans_13 rfl ?_
        refine g_bipush (pc := 14) (v := nI 16) C dX10_loans_14 (by decide) ?_
        refine g_icmp_ge (pc := 16) C 207 dX10_loans_16 (by decide) (fun c16 => ?_) (fun c16 => ?_)
        · exact absurd c16 (nI_ge (by omega) (by decide))
        · refine g_aload_n (pc := 19) C dX10_loans_19 rfl ?_
          refine g_aload_n (pc := 20) C dX10_loans_20 rfl ?_
          apply gf_X10_38 (pc := 21) C rfl dX10_loans_21
          · repeat (first | assumption | exact Cl.s (by assumption) | refine Cl.n (by first | decide | omega) ?_)
          · rfl
          refine g_iload_n (pc := 24) C dX10_loans_24 rfl ?_
          apply g_iaload (pc := 25) C dX10_loans_25
          · repeat (first | assumption | exact Cl.s (by assumption) | refine Cl.n (by first | decide | omega) ?_)
          · exact vp_in_nI (by omega) (by decide)
          rw [nI_clamp (by omega), e10]
          refine g_iload_n (pc := 26) C dX10_loans_26 rfl ?_
          apply cl_X10_186 (pc := 27) C rfl (r_lentCode y0 hT1 hwk (by omega)) dX10_loans_27
          · repeat (first | assumption | exact Cl.s (by assumption) | refine Cl.n (by first | decide | omega) ?_)
          · rfl
          · exact Nat.le_of_ble_eq_true rfl
          rw [lcI_y ho]
          refine g_istore_n (pc := 30) C dX10_loans_30 (by decide) rfl ?_
          refine g_iload_n (pc := 31) C dX10_loans_31 rfl ?_
          refine g_aload_n (pc := 32) C dX10_loans_32 rfl ?_
          apply gf_X10_111 (pc := 33) C rfl dX10_loans_33
          · repeat (first | assumption | exact Cl.s (by assumption) | refine Cl.n (by first | decide | omega) ?_)
          · rfl
          refine g_iconst (pc := 36) (v := nI 1) C dX10_loans_36 (by decide) ?_
          refine g_isub (pc := 37) C dX10_loans_37 ?_
          rw [pk_sub (by omega)]
          refine g_icmp_nE (pc := 38) C 45 dX10_loans_38 (by decide) (fun c38 => ?_) (fun c38 => ?_)
          · refine g_sipush (pc := 45) (v := nI 1000) C dX10_loans_45 (by decide) ?_
            refine g_istore (pc := 48) C dX10_loans_48 (by decide) rfl ?_
            refine g_iconst (pc := 50) (v := nI 0) C dX10_loans_50 (by decide) ?_
            refine g_istore (pc := 51) C dX10_loans_51 (by decide) rfl ?_
            exact g_to k53 ⟨rfl, rfl, rfl, rfl, rfl, rfl, trivial⟩
          · exact absurd ((nI_eq (by omega) (by omega)).mp c38) (by omega)
      · rw [if_pos (by omega)] at ha
        rw [← ha] at k154
        refine g_iload_n (pc := 13) C dX10_loans_13 rfl ?_
        refine g_bipush (pc := 14) (v := nI 16) C dX10_loans_14 (by decide) ?_
        refine g_icmp_ge (pc := 16) C 207 dX10_loans_16 (by decide) (fun c16 => ?_) (fun c16 => ?_)
        · exact absurd c16 (nI_ge (by omega) (by decide))
        · refine g_aload_n (pc := 19) C dX10_loans_19 rfl ?_
          refine g_aload_n (pc := 20) C dX10_loans_20 rfl ?_
          apply gf_X10_38 (pc := 21) C rfl dX10_loans_21
          · repeat (first | assumption | exact Cl.s (by assumption) | refine Cl.n (by first | decide | omega) ?_)
          · rfl
          refine g_iload_n (pc := 24) C dX10_loans_24 rfl ?_
          apply g_iaload (pc := 25) C dX10_loans_25
          · repeat (first | assumption | exact Cl.s (by assumption) | refine Cl.n (by first | decide | omega) ?_)
          · exact vp_in_nI (by omega) (by decide)
          rw [nI_clamp (by omega), e10]
          refine g_iload_n (pc := 26) C dX10_loans_26 rfl ?_
          apply cl_X10_186 (pc := 27) C rfl (r_lentCode y0 hT1 hwk (by omega)) dX10_loans_27
          · repeat (first | assumption | exact Cl.s (by assumption) | refine Cl.n (by first | decide | omega) ?_)
          · rfl
          · exact Nat.le_of_ble_eq_true rfl
          rw [lcI_y ho]
          refine g_istore_n (pc := 30) C dX10_loans_30 (by decide) rfl ?_
          refine g_iload_n (pc := 31) C dX10_loans_31 rfl ?_
          refine g_aload_n (pc := 32) C dX10_loans_32 rfl ?_
          apply gf_X10_111 (pc := 33) C rfl dX10_loans_33
          · repeat (first | assumption | exact Cl.s (by assumption) | refine Cl.n (by first | decide | omega) ?_)
          · rfl
          refine g_iconst (pc := 36) (v := nI 1) C dX10_loans_36 (by decide) ?_
          refine g_isub (pc := 37) C dX10_loans_37 ?_
          rw [pk_sub (by omega)]
          refine g_icmp_nE (pc := 38) C 45 dX10_loans_38 (by decide) (fun c38 => ?_) (fun c38 => ?_)
          · exact absurd (by congr 1; omega) c38
          · refine g_iconst (pc := 41) (v := nI 0) C dX10_loans_41 (by decide) ?_
            refine g_goto (pc := 42) C 48 dX10_loans_42 (by decide) ?_
            refine g_istore (pc := 48) C dX10_loans_48 (by decide) rfl ?_
            refine g_iconst (pc := 50) (v := nI 0) C dX10_loans_50 (by decide) ?_
            refine g_istore (pc := 51) C dX10_loans_51 (by decide) rfl ?_
            refine g_iload (pc := 53) C dX10_loans_53 rfl ?_
            refine g_bipush (pc := 55) (v := nI 16) C dX10_loans_55 (by decide) ?_
            refine g_icmp_ge (pc := 57) C 154 dX10_loans_57 (by decide) (fun c57 => ?_) (fun c57 => ?_)
            · exact absurd c57 (by decide)
            · refine g_iload_n (pc := 60) C dX10_loans_60 rfl ?_
              refine g_aload_n (pc := 61) C dX10_loans_61 rfl ?_
              apply gf_X10_111 (pc := 62) C rfl dX10_loans_62
              · repeat (first | assumption | exact Cl.s (by assumption) | refine Cl.n (by first | decide | omega) ?_)
              · rfl
              refine g_iconst (pc := 65) (v := nI 1) C dX10_loans_65 (by decide) ?_
              refine g_isub (pc := 66) C dX10_loans_66 ?_
              rw [pk_sub (by omega)]
              refine g_icmp_ge (pc := 67) C 154 dX10_loans_67 (by decide) (fun c67 => ?_) (fun c67 => ?_)
              · exact g_to k154 ⟨rfl, rfl, rfl, rfl, rfl, trivial⟩
              · exact absurd (nI_le (by omega) (by omega)) c67
    · have k154' : ∀ b, Go G mX10_loans κ none σ' σ1 154 [(0, .ref (ga G 0)), (1, .int (nI k)), (2, .int (nI l)), (3, .int (-1)), (4, .int (nI b))] [] := by
        intro b
        have := ln_154 y0 hT1 hR1 hr16 hw y17 y18 (a := b) hk (show l < 16 by omega) C (by rw [if_neg ho] at k1 ⊢; exact k1)
        rw [lcI_n ho] at this
        exact this
      refine g_iload_n (pc := 13) C dX10_loans_13 rfl ?_
      refine g_bipush (pc := 14) (v := nI 16) C dX10_loans_14 (by decide) ?_
      refine g_icmp_ge (pc := 16) C 207 dX10_loans_16 (by decide) (fun c16 => ?_) (fun c16 => ?_)
      · exact absurd c16 (nI_ge (by omega) (by decide))
      · refine g_aload_n (pc := 19) C dX10_loans_19 rfl ?_
        refine g_aload_n (pc := 20) C dX10_loans_20 rfl ?_
        apply gf_X10_38 (pc := 21) C rfl dX10_loans_21
        · repeat (first | assumption | exact Cl.s (by assumption) | refine Cl.n (by first | decide | omega) ?_)
        · rfl
        refine g_iload_n (pc := 24) C dX10_loans_24 rfl ?_
        apply g_iaload (pc := 25) C dX10_loans_25
        · repeat (first | assumption | exact Cl.s (by assumption) | refine Cl.n (by first | decide | omega) ?_)
        · exact vp_in_nI (by omega) (by decide)
        rw [nI_clamp (by omega), e10]
        refine g_iload_n (pc := 26) C dX10_loans_26 rfl ?_
        apply cl_X10_186 (pc := 27) C rfl (r_lentCode y0 hT1 hwk (by omega)) dX10_loans_27
        · repeat (first | assumption | exact Cl.s (by assumption) | refine Cl.n (by first | decide | omega) ?_)
        · rfl
        · exact Nat.le_of_ble_eq_true rfl
        rw [lcI_n ho]
        refine g_istore_n (pc := 30) C dX10_loans_30 (by decide) rfl ?_
        refine g_iload_n (pc := 31) C dX10_loans_31 rfl ?_
        refine g_aload_n (pc := 32) C dX10_loans_32 rfl ?_
        apply gf_X10_111 (pc := 33) C rfl dX10_loans_33
        · repeat (first | assumption | exact Cl.s (by assumption) | refine Cl.n (by first | decide | omega) ?_)
        · rfl
        refine g_iconst (pc := 36) (v := nI 1) C dX10_loans_36 (by decide) ?_
        refine g_isub (pc := 37) C dX10_loans_37 ?_
        refine g_icmp_nE (pc := 38) C 45 dX10_loans_38 (by decide) (fun c38 => ?_) (fun c38 => ?_)
        · refine g_sipush (pc := 45) (v := nI 1000) C dX10_loans_45 (by decide) ?_
          refine g_istore (pc := 48) C dX10_loans_48 (by decide) rfl ?_
          refine g_iconst (pc := 50) (v := nI 0) C dX10_loans_50 (by decide) ?_
          refine g_istore (pc := 51) C dX10_loans_51 (by decide) rfl ?_
          refine g_iload (pc := 53) C dX10_loans_53 rfl ?_
          refine g_bipush (pc := 55) (v := nI 16) C dX10_loans_55 (by decide) ?_
          refine g_icmp_ge (pc := 57) C 154 dX10_loans_57 (by decide) (fun c57 => ?_) (fun c57 => ?_)
          · exact absurd c57 (by decide)
          · refine g_iload_n (pc := 60) C dX10_loans_60 rfl ?_
            refine g_aload_n (pc := 61) C dX10_loans_61 rfl ?_
            apply gf_X10_111 (pc := 62) C rfl dX10_loans_62
            · repeat (first | assumption | exact Cl.s (by assumption) | refine Cl.n (by first | decide | omega) ?_)
            · rfl
            refine g_iconst (pc := 65) (v := nI 1) C dX10_loans_65 (by decide) ?_
            refine g_isub (pc := 66) C dX10_loans_66 ?_
            refine g_icmp_ge (pc := 67) C 154 dX10_loans_67 (by decide) (fun c67 => ?_) (fun c67 => ?_)
            · exact g_to (k154' _) ⟨rfl, rfl, rfl, rfl, rfl, trivial⟩
            · refine g_iload_n (pc := 70) C dX10_loans_70 rfl ?_
              refine g_if_lt (pc := 71) C 154 dX10_loans_71 (by decide) (fun c71 => ?_) (fun c71 => ?_)
              · exact g_to (k154' _) ⟨rfl, rfl, rfl, rfl, rfl, trivial⟩
              · exact absurd (by decide) c71
        · refine g_iconst (pc := 41) (v := nI 0) C dX10_loans_41 (by decide) ?_
          refine g_goto (pc := 42) C 48 dX10_loans_42 (by decide) ?_
          refine g_istore (pc := 48) C dX10_loans_48 (by decide) rfl ?_
          refine g_iconst (pc := 50) (v := nI 0) C dX10_loans_50 (by decide) ?_
          refine g_istore (pc := 51) C dX10_loans_51 (by decide) rfl ?_
          refine g_iload (pc := 53) C dX10_loans_53 rfl ?_
          refine g_bipush (pc := 55) (v := nI 16) C dX10_loans_55 (by decide) ?_
          refine g_icmp_ge (pc := 57) C 154 dX10_loans_57 (by decide) (fun c57 => ?_) (fun c57 => ?_)
          · exact absurd c57 (by decide)
          · refine g_iload_n (pc := 60) C dX10_loans_60 rfl ?_
            refine g_aload_n (pc := 61) C dX10_loans_61 rfl ?_
            apply gf_X10_111 (pc := 62) C rfl dX10_loans_62
            · repeat (first | assumption | exact Cl.s (by assumption) | refine Cl.n (by first | decide | omega) ?_)
            · rfl
            refine g_iconst (pc := 65) (v := nI 1) C dX10_loans_65 (by decide) ?_
            refine g_isub (pc := 66) C dX10_loans_66 ?_
            refine g_icmp_ge (pc := 67) C 154 dX10_loans_67 (by decide) (fun c67 => ?_) (fun c67 => ?_)
            · exact g_to (k154' _) ⟨rfl, rfl, rfl, rfl, rfl, trivial⟩
            · refine g_iload_n (pc := 70) C dX10_loans_70 rfl ?_
              refine g_if_lt (pc := 71) C 154 dX10_loans_71 (by decide) (fun c71 => ?_) (fun c71 => ?_)
              · exact g_to (k154' _) ⟨rfl, rfl, rfl, rfl, rfl, trivial⟩
              · exact absurd (by decide) c71
theorem ln_7 (h0 : Cl G σ 0 (cRef G len at_ kept done (nI r))) (hT : QT G σ T) (hR : QR G σ r w) (hr16 : r ≤ 16) (hw : ∀ k, k < r → w k < tm T) : ∀ k {σ1 : WW} {fc fz : Nat → Int32}, k ≤ r → LnS G σ σ1 fc fz → LnR T w r k fc fz → LnE G σ T w r σ1 7 [(0, .ref (ga G 0)), (1, .int (lat k))] := by
  intro k
  induction k with
  | zero =>
    intro σ1 fc fz hk hS hI
    refine ⟨σ1, fun κ C => ?_, fc, fz, hS, hI⟩
    refine g_iload_n (pc := 7) C dX10_loans_7 rfl ?_
    refine g_if_lt (pc := 8) C 213 dX10_loans_8 (by decide) (fun c8 => ?_) (fun c8 => ?_)
    · exact g_return (pc := 213) C dX10_loans_213 rfl rfl (rfl)
    · exact absurd (by rw [lat_0]; decide) c8
  | succ k ih =>
    intro σ1 fc fz hk hS hI
    obtain ⟨σ', k1, k2⟩ := ln_13 h0 hT hR hr16 hw (k := k) (by omega) (fun σ2 fc2 fz2 s1 s2 => by
      obtain ⟨σ', k1, k2⟩ := ih (by omega) s1 s2
      refine ⟨σ', fun κ C => ?_, k2⟩
      have k1 := k1 κ C
      refine g_iinc (pc := 207) C dX10_loans_207 rfl (by decide) rfl ?_
      refine g_goto (pc := 210) C 7 dX10_loans_210 (by decide) ?_
      exact g_to k1 ⟨rfl, lgi (by rw [lat, Int32.sub_eq_add_neg]; rfl), trivial⟩
      ) 16 0 (by omega) hS hI (fun l' hl' => absurd hl' (Nat.not_lt_zero _))
    refine ⟨σ', fun κ C => ?_, k2⟩
    have k1 := k1 κ C
    rw [lat_s]
    refine g_iload_n (pc := 7) C dX10_loans_7 rfl ?_
    refine g_if_lt (pc := 8) C 213 dX10_loans_8 (by decide) (fun c8 => ?_) (fun c8 => ?_)
    · exact absurd c8 (nI_pos (by omega))
    · refine g_iconst (pc := 11) (v := nI 0) C dX10_loans_11 (by decide) ?_
      refine g_istore_n (pc := 12) C dX10_loans_12 (by decide) rfl ?_
      exact g_to k1 ⟨rfl, rfl, rfl, trivial⟩
def QN (G : GG) (σ : WW) : Prop := ∃ fc fz, Cl G σ 17 (iA G 272 fc) ∧ Cl G σ 18 (iA G 272 fz)
theorem r_loans (h0 : Cl G σ 0 (cRef G len at_ kept done (nI r))) (hT : QT G σ T) (hR : QR G σ r w) (hN : QN G σ) (hr16 : r ≤ 16) (hw : ∀ k, k < r → w k < tm T) : ∃ σ', Mt G mX10_loans [.ref (ga G 0)] σ none σ' ∧ ∃ fc fz, LnS G σ σ' fc fz ∧ LnR T w r 0 fc fz := by
  obtain ⟨fc, fz, y17, y18⟩ := hN
  obtain ⟨σ', k1, k2⟩ := ln_7 h0 hT hR hr16 hw r (Nat.le_refl _) ⟨y17, y18, fr0⟩ (fun k' h1 h2 => absurd h2 (by omega))
  refine ⟨σ', ?_, k2⟩
  refine Mt.of (by decide +kernel) (Nat.le_of_ble_eq_true rfl) (fun κ C => ?_)
  have k1 := k1 κ C
  refine g_aload_n (pc := 0) C dX10_loans_0 rfl ?_
  apply gf_X10_111 (pc := 1) C rfl dX10_loans_1
  · repeat (first | assumption | exact Cl.s (by assumption) | refine Cl.n (by first | decide | omega) ?_)
  · rfl
  refine g_iconst (pc := 4) (v := nI 1) C dX10_loans_4 (by decide) ?_
  refine g_isub (pc := 5) C dX10_loans_5 ?_
  refine g_istore_n (pc := 6) C dX10_loans_6 (by decide) rfl ?_
  exact g_to k1 ⟨rfl, lgi rfl, trivial⟩
end RN4

