section TOLD5
variable {G : GG} {σ : WW} {P : TS}
theorem t_takeThing (h : RP G σ P) {o1 o2 : Option Nat} (l1 : ∀ v, o1 = some v → v < 100) (l2 : ∀ v, o2 = some v → v < 100) : ∃ σ', Mt G mX7_takeThing [.ref (ga G 10), .int (oN o1), .int (oN o2)] σ (some (.int (nI (b2 (thg P o1 o2).isSome)))) σ' ∧ (match thg P o1 o2 with | some P' => RP G σ' P' | none => RPa G σ') ∧ Fr σ σ' sp4 := by
  have h' := h
  obtain ⟨fv, fl, fh, h10, h24, h25, h26, hW, hv, hl, hh⟩ := h
  have hn5 := hW.1
  have hm9 := hW.2.2.2.2.1
  rcases o1 with _ | n
  · refine ⟨σ, ?_, h'.a, fr0⟩
    refine Mt.of (by decide +kernel) (Nat.le_of_ble_eq_true rfl) (fun κ C => ?_)
    refine g_iload_n (pc := 0) C dX7_takeThing_0 rfl ?_
    refine g_iconst (pc := 1) (v := nI 1) C dX7_takeThing_1 (by decide) ?_
    refine g_icmp_lt (pc := 2) C 34 dX7_takeThing_2 (by decide) (fun c2 => ?_) (fun c2 => ?_)
    · refine g_iconst (pc := 34) (v := nI 0) C dX7_takeThing_34 (by decide) ?_
      exact g_zreturn (pc := 35) C dX7_takeThing_35 rfl (by first | exact Or.inl rfl | exact Or.inr rfl) (rfl) (rfl)
    · exact absurd (by decide) c2
  · have hn := l1 n rfl
    rcases o2 with _ | b
    · refine ⟨σ, ?_, h'.a, fr0⟩
      refine Mt.of (by decide +kernel) (Nat.le_of_ble_eq_true rfl) (fun κ C => ?_)
      refine g_iload_n (pc := 0) C dX7_takeThing_0 rfl ?_
      refine g_iconst (pc := 1) (v := nI 1) C dX7_takeThing_1 (by decide) ?_
      refine g_icmp_lt (pc := 2) C 34 dX7_takeThing_2 (by decide) (fun c2 => ?_) (fun c2 => ?_)
      · refine g_iconst (pc := 34) (v := nI 0) C dX7_takeThing_34 (by decide) ?_
        exact g_zreturn (pc := 35) C dX7_takeThing_35 rfl (by first | exact Or.inl rfl | exact Or.inr rfl) (rfl) (rfl)
      · refine g_iload_n (pc := 5) C dX7_takeThing_5 rfl ?_
        refine g_iconst (pc := 6) (v := nI 4) C dX7_takeThing_6 (by decide) ?_
        refine g_icmp_gt (pc := 7) C 34 dX7_takeThing_7 (by decide) (fun c7 => ?_) (fun c7 => ?_)
        · refine g_iconst (pc := 34) (v := nI 0) C dX7_takeThing_34 (by decide) ?_
          exact g_zreturn (pc := 35) C dX7_takeThing_35 rfl (by first | exact Or.inl rfl | exact Or.inr rfl) (rfl) (rfl)
        · refine g_iload_n (pc := 10) C dX7_takeThing_10 rfl ?_
          refine g_if_lt (pc := 11) C 34 dX7_takeThing_11 (by decide) (fun c11 => ?_) (fun c11 => ?_)
          · refine g_iconst (pc := 34) (v := nI 0) C dX7_takeThing_34 (by decide) ?_
            exact g_zreturn (pc := 35) C dX7_takeThing_35 rfl (by first | exact Or.inl rfl | exact Or.inr rfl) (rfl) (rfl)
          · exact absurd (by decide) c11
    · have hb := l2 b rfl
      by_cases hq : 1 ≤ n ∧ n ≤ 4 ∧ b ≤ 1 ∧ tn P < 5 ∧ tm P = 0
      · obtain ⟨q1, q2, q3, q4, q5⟩ := hq
        by_cases hb1 : b = 1
        · subst hb1
          by_cases hs : sumb (tb P) (tn P) < 2
          · have e : thg P (some n) (some 1) = some (thgS P n 1) := by simp [thg, q1, q2, q4, q5]; omega
            have hTW := TW_thg hW e
            rw [e]
            have tbm := t_takeBorrowed (fv := fv) (fl := fl) h10 h26 hW hh q1 q2 q4 hs
            have ec := hcn_thg P n 1
            rw [if_pos rfl] at ec
            refine ⟨va_up (va_up (va_up (va_up (va_up σ 10 (cTold G 24 25 26 (nI (tn P)) (nI (tm P)) (nI (bset P ||| 1 <<< tn P)) (nI (hcn P (tn P))) (nI (tl P)) (nI (tg P)))) 26 (iA G 16 (wrO (tn P) n (hatn P (tn P)) (hcn P (tn P)) fh))) 10 (cTold G 24 25 26 (nI (tn P)) (nI (tm P)) (nI (bset P ||| 1 <<< tn P)) (nI (hcn P (tn P) * n)) (nI (tl P)) (nI (tg P)))) 24 (iA G 5 (upd fv (tn P) (nI n)))) 10 (cTold G 24 25 26 (nI (tn P + 1)) (nI (tm P)) (nI (bset P ||| 1 <<< tn P)) (nI (hcn P (tn P) * n)) (nI (tl P)) (nI (tg P))), ?_, ?_, fr3 (fr3 (fr3 (fr3 (fr3 fr0 (by decide)) (by decide)) (by decide)) (by decide)) (by decide)⟩
            · refine Mt.of (by decide +kernel) (Nat.le_of_ble_eq_true rfl) (fun κ C => ?_)
              have z10 : Cl G (va_up (va_up (va_up σ 10 (cTold G 24 25 26 (nI (tn P)) (nI (tm P)) (nI (bset P ||| 1 <<< tn P)) (nI (hcn P (tn P))) (nI (tl P)) (nI (tg P)))) 26 (iA G 16 (wrO (tn P) n (hatn P (tn P)) (hcn P (tn P)) fh))) 10 (cTold G 24 25 26 (nI (tn P)) (nI (tm P)) (nI (bset P ||| 1 <<< tn P)) (nI (hcn P (tn P) * n)) (nI (tl P)) (nI (tg P)))) 10 (cTold G 24 25 26 (nI (tn P)) (nI (tm P)) (nI (bset P ||| 1 <<< tn P)) (nI (hcn P (tn P) * n)) (nI (tl P)) (nI (tg P))) := Cl.s (Cl.n (by decide) (Cl.s h10))
              refine g_iload_n (pc := 0) C dX7_takeThing_0 rfl ?_
              refine g_iconst (pc := 1) (v := nI 1) C dX7_takeThing_1 (by decide) ?_
              refine g_icmp_lt (pc := 2) C 34 dX7_takeThing_2 (by decide) (fun c2 => ?_) (fun c2 => ?_)
              · exact absurd c2 (nI_nlt q1 (by omega))
              · refine g_iload_n (pc := 5) C dX7_takeThing_5 rfl ?_
                refine g_iconst (pc := 6) (v := nI 4) C dX7_takeThing_6 (by decide) ?_
                refine g_icmp_gt (pc := 7) C 34 dX7_takeThing_7 (by decide) (fun c7 => ?_) (fun c7 => ?_)
                · exact absurd c7 (nI_nlt q2 (by decide))
                · refine g_iload_n (pc := 10) C dX7_takeThing_10 rfl ?_
                  refine g_if_lt (pc := 11) C 34 dX7_takeThing_11 (by decide) (fun c11 => ?_) (fun c11 => ?_)
                  · exact absurd c11 (nI_pos (by omega))
                  · refine g_iload_n (pc := 14) C dX7_takeThing_14 rfl ?_
                    refine g_iconst (pc := 15) (v := nI 1) C dX7_takeThing_15 (by decide) ?_
                    refine g_icmp_gt (pc := 16) C 34 dX7_takeThing_16 (by decide) (fun c16 => ?_) (fun c16 => ?_)
                    · exact absurd c16 (nI_nlt q3 (by decide))
                    · refine g_aload_n (pc := 19) C dX7_takeThing_19 rfl ?_
                      apply gf_X7_21 (pc := 20) C rfl dX7_takeThing_20
                      · repeat (first | assumption | exact Cl.s (by assumption) | refine Cl.n (by first | decide | omega) ?_)
                      · rfl
                      refine g_iconst (pc := 23) (v := nI 5) C dX7_takeThing_23 (by decide) ?_
                      refine g_icmp_ge (pc := 24) C 34 dX7_takeThing_24 (by decide) (fun c24 => ?_) (fun c24 => ?_)
                      · exact absurd c24 (nI_ge q4 (by decide))
                      · refine g_aload_n (pc := 27) C dX7_takeThing_27 rfl ?_
                        apply gf_X7_25 (pc := 28) C rfl dX7_takeThing_28
                        · repeat (first | assumption | exact Cl.s (by assumption) | refine Cl.n (by first | decide | omega) ?_)
                        · rfl
                        refine g_if_le (pc := 31) C 36 dX7_takeThing_31 (by decide) (fun c31 => ?_) (fun c31 => ?_)
                        · refine g_iload_n (pc := 36) C dX7_takeThing_36 rfl ?_
                          refine g_iconst (pc := 37) (v := nI 1) C dX7_takeThing_37 (by decide) ?_
                          refine g_icmp_nE (pc := 38) C 51 dX7_takeThing_38 (by decide) (fun c38 => ?_) (fun c38 => ?_)
                          · exact absurd rfl c38
                          · refine g_aload_n (pc := 41) C dX7_takeThing_41 rfl ?_
                            refine g_iload_n (pc := 42) C dX7_takeThing_42 rfl ?_
                            apply cl_X7_40 (pc := 43) C rfl tbm dX7_takeThing_43
                            · repeat (first | assumption | exact Cl.s (by assumption) | refine Cl.n (by first | decide | omega) ?_)
                            · rfl
                            · exact Nat.le_of_ble_eq_true rfl
                            refine g_if_nE (pc := 46) C 51 dX7_takeThing_46 (by decide) (fun c46 => ?_) (fun c46 => ?_)
                            · refine g_aload_n (pc := 51) C dX7_takeThing_51 rfl ?_
                              apply gf_X7_9 (pc := 52) C rfl dX7_takeThing_52
                              · repeat (first | assumption | exact Cl.s (by assumption) | refine Cl.n (by first | decide | omega) ?_)
                              · rfl
                              refine g_aload_n (pc := 55) C dX7_takeThing_55 rfl ?_
                              apply gf_X7_21 (pc := 56) C rfl dX7_takeThing_56
                              · repeat (first | assumption | exact Cl.s (by assumption) | refine Cl.n (by first | decide | omega) ?_)
                              · rfl
                              refine g_iload_n (pc := 59) C dX7_takeThing_59 rfl ?_
                              apply g_iastore (pc := 60) C dX7_takeThing_60
                              · repeat (first | assumption | exact Cl.s (by assumption) | refine Cl.n (by first | decide | omega) ?_)
                              · exact vp_in_nI (by omega) (by decide)
                              intro hw60
                              refine g_aload_n (pc := 61) C dX7_takeThing_61 rfl ?_
                              refine g_dup (pc := 62) C dX7_takeThing_62 rfl ?_
                              apply gf_X7_21 (pc := 63) C rfl dX7_takeThing_63
                              · repeat (first | assumption | exact Cl.s (by assumption) | refine Cl.n (by first | decide | omega) ?_)
                              · rfl
                              refine g_iconst (pc := 66) (v := nI 1) C dX7_takeThing_66 (by decide) ?_
                              refine g_iadd (pc := 67) C dX7_takeThing_67 ?_
                              apply pf_X7_21 (pc := 68) C rfl dX7_takeThing_68
                              · repeat (first | assumption | exact Cl.s (by assumption) | refine Cl.n (by first | decide | omega) ?_)
                              · rfl
                              · rfl
                              · exact Nat.le_of_ble_eq_true rfl
                              intro hw68
                              refine g_iconst (pc := 71) (v := nI 1) C dX7_takeThing_71 (by decide) ?_
                              exact g_zreturn (pc := 72) C dX7_takeThing_72 rfl (by first | exact Or.inl rfl | exact Or.inr rfl) (rfl) (by rw [nI_clamp (by omega), nI_add]; rfl)
                            · exact absurd c46 (by decide)
                        · exact absurd (by rw [q5]; decide) c31
            · refine ⟨upd fv (tn P) (nI n), fl, wrO (tn P) n (hatn P (tn P)) (hcn P (tn P)) fh, ?_, Cl.n (by decide) (Cl.s (Cl.n (by decide) (Cl.n (by decide) (Cl.n (by decide) h24)))), Cl.n (by decide) (Cl.n (by decide) (Cl.n (by decide) (Cl.n (by decide) (Cl.n (by decide) h25)))), Cl.n (by decide) (Cl.n (by decide) (Cl.n (by decide) (Cl.s (Cl.n (by decide) h26)))), hTW, ?_, ?_, ?_⟩
              · rw [bset_thg]
                show Cl G _ 10 (cTold G 24 25 26 (nI (tn P + 1)) (nI (tm P)) (nI (bset P ||| 1 <<< tn P)) (nI (hcn (thgS P n 1) (tn P + 1))) (nI (tl P)) (nI (tg P)))
                rw [ec]
                exact Cl.s (Cl.n (by decide) (Cl.s (Cl.n (by decide) (Cl.s h10))))
              · intro t ht
                have ht : t < tn P + 1 := ht
                show _ = nI (if t = tn P then n else tv P t)
                by_cases e : t = tn P
                · rw [if_pos e, e, pk_us]
                · rw [if_neg e, pk_un e, hv t (by omega)]
              · intro i hi
                have hi : i < tm P := hi
                omega
              · intro j hj
                have hj : j < hcn (thgS P n 1) (tn P + 1) := hj
                rw [ec] at hj
                rw [wrO_at _ _ _ q1, if_pos hj]
                show _ = nI (hatn (thgS P n 1) (tn P + 1) j)
                rw [hatn_thg, if_pos rfl]
          · have e : thg P (some n) (some 1) = none := by simp [thg]; omega
            rw [e]
            refine ⟨σ, ?_, h'.a, fr0⟩
            refine Mt.of (by decide +kernel) (Nat.le_of_ble_eq_true rfl) (fun κ C => ?_)
            refine g_iload_n (pc := 0) C dX7_takeThing_0 rfl ?_
            refine g_iconst (pc := 1) (v := nI 1) C dX7_takeThing_1 (by decide) ?_
            refine g_icmp_lt (pc := 2) C 34 dX7_takeThing_2 (by decide) (fun c2 => ?_) (fun c2 => ?_)
            · exact absurd c2 (nI_nlt q1 (by omega))
            · refine g_iload_n (pc := 5) C dX7_takeThing_5 rfl ?_
              refine g_iconst (pc := 6) (v := nI 4) C dX7_takeThing_6 (by decide) ?_
              refine g_icmp_gt (pc := 7) C 34 dX7_takeThing_7 (by decide) (fun c7 => ?_) (fun c7 => ?_)
              · exact absurd c7 (nI_nlt q2 (by decide))
              · refine g_iload_n (pc := 10) C dX7_takeThing_10 rfl ?_
                refine g_if_lt (pc := 11) C 34 dX7_takeThing_11 (by decide) (fun c11 => ?_) (fun c11 => ?_)
                · exact absurd c11 (nI_pos (by omega))
                · refine g_iload_n (pc := 14) C dX7_takeThing_14 rfl ?_
                  refine g_iconst (pc := 15) (v := nI 1) C dX7_takeThing_15 (by decide) ?_
                  refine g_icmp_gt (pc := 16) C 34 dX7_takeThing_16 (by decide) (fun c16 => ?_) (fun c16 => ?_)
                  · exact absurd c16 (nI_nlt q3 (by decide))
                  · refine g_aload_n (pc := 19) C dX7_takeThing_19 rfl ?_
                    apply gf_X7_21 (pc := 20) C rfl dX7_takeThing_20
                    · repeat (first | assumption | exact Cl.s (by assumption) | refine Cl.n (by first | decide | omega) ?_)
                    · rfl
                    refine g_iconst (pc := 23) (v := nI 5) C dX7_takeThing_23 (by decide) ?_
                    refine g_icmp_ge (pc := 24) C 34 dX7_takeThing_24 (by decide) (fun c24 => ?_) (fun c24 => ?_)
                    · exact absurd c24 (nI_ge q4 (by decide))
                    · refine g_aload_n (pc := 27) C dX7_takeThing_27 rfl ?_
                      apply gf_X7_25 (pc := 28) C rfl dX7_takeThing_28
                      · repeat (first | assumption | exact Cl.s (by assumption) | refine Cl.n (by first | decide | omega) ?_)
                      · rfl
                      refine g_if_le (pc := 31) C 36 dX7_takeThing_31 (by decide) (fun c31 => ?_) (fun c31 => ?_)
                      · refine g_iload_n (pc := 36) C dX7_takeThing_36 rfl ?_
                        refine g_iconst (pc := 37) (v := nI 1) C dX7_takeThing_37 (by decide) ?_
                        refine g_icmp_nE (pc := 38) C 51 dX7_takeThing_38 (by decide) (fun c38 => ?_) (fun c38 => ?_)
                        · exact absurd rfl c38
                        · refine g_aload_n (pc := 41) C dX7_takeThing_41 rfl ?_
                          refine g_iload_n (pc := 42) C dX7_takeThing_42 rfl ?_
                          apply cl_X7_40 (pc := 43) C rfl (t_takeBorrowed0 h' (by omega)) dX7_takeThing_43
                          · repeat (first | assumption | exact Cl.s (by assumption) | refine Cl.n (by first | decide | omega) ?_)
                          · rfl
                          · exact Nat.le_of_ble_eq_true rfl
                          refine g_if_nE (pc := 46) C 51 dX7_takeThing_46 (by decide) (fun c46 => ?_) (fun c46 => ?_)
                          · exact absurd rfl c46
                          · refine g_iconst (pc := 49) (v := nI 0) C dX7_takeThing_49 (by decide) ?_
                            exact g_zreturn (pc := 50) C dX7_takeThing_50 rfl (by first | exact Or.inl rfl | exact Or.inr rfl) (rfl) (rfl)
                      · exact absurd (by rw [q5]; decide) c31
        · have hb0 : b = 0 := by omega
          subst hb0
          have e : thg P (some n) (some 0) = some (thgS P n 0) := by
            have := hW.2.2.2.1
            simp [thg, q1, q2, q4, q5, this]
          have hTW := TW_thg hW e
          rw [e]
          have ec := hcn_thg P n 0
          rw [if_neg (by decide)] at ec
          refine ⟨va_up (va_up σ 24 (iA G 5 (upd fv (tn P) (nI n)))) 10 (cTold G 24 25 26 (nI (tn P + 1)) (nI (tm P)) (nI (bset P)) (nI (hcn P (tn P))) (nI (tl P)) (nI (tg P))), ?_, ?_, fr3 (fr3 fr0 (by decide)) (by decide)⟩
          · refine Mt.of (by decide +kernel) (Nat.le_of_ble_eq_true rfl) (fun κ C => ?_)
            refine g_iload_n (pc := 0) C dX7_takeThing_0 rfl ?_
            refine g_iconst (pc := 1) (v := nI 1) C dX7_takeThing_1 (by decide) ?_
            refine g_icmp_lt (pc := 2) C 34 dX7_takeThing_2 (by decide) (fun c2 => ?_) (fun c2 => ?_)
            · exact absurd c2 (nI_nlt q1 (by omega))
            · refine g_iload_n (pc := 5) C dX7_takeThing_5 rfl ?_
              refine g_iconst (pc := 6) (v := nI 4) C dX7_takeThing_6 (by decide) ?_
              refine g_icmp_gt (pc := 7) C 34 dX7_takeThing_7 (by decide) (fun c7 => ?_) (fun c7 => ?_)
              · exact absurd c7 (nI_nlt q2 (by decide))
              · refine g_iload_n (pc := 10) C dX7_takeThing_10 rfl ?_
                refine g_if_lt (pc := 11) C 34 dX7_takeThing_11 (by decide) (fun c11 => ?_) (fun c11 => ?_)
                · exact absurd c11 (nI_pos (by omega))
                · refine g_iload_n (pc := 14) C dX7_takeThing_14 rfl ?_
                  refine g_iconst (pc := 15) (v := nI 1) C dX7_takeThing_15 (by decide) ?_
                  refine g_icmp_gt (pc := 16) C 34 dX7_takeThing_16 (by decide) (fun c16 => ?_) (fun c16 => ?_)
                  · exact absurd c16 (nI_nlt q3 (by decide))
                  · refine g_aload_n (pc := 19) C dX7_takeThing_19 rfl ?_
                    apply gf_X7_21 (pc := 20) C rfl dX7_takeThing_20
                    · repeat (first | assumption | exact Cl.s (by assumption) | refine Cl.n (by first | decide | omega) ?_)
                    · rfl
                    refine g_iconst (pc := 23) (v := nI 5) C dX7_takeThing_23 (by decide) ?_
                    refine g_icmp_ge (pc := 24) C 34 dX7_takeThing_24 (by decide) (fun c24 => ?_) (fun c24 => ?_)
                    · exact absurd c24 (nI_ge q4 (by decide))
                    · refine g_aload_n (pc := 27) C dX7_takeThing_27 rfl ?_
                      apply gf_X7_25 (pc := 28) C rfl dX7_takeThing_28
                      · repeat (first | assumption | exact Cl.s (by assumption) | refine Cl.n (by first | decide | omega) ?_)
                      · rfl
                      refine g_if_le (pc := 31) C 36 dX7_takeThing_31 (by decide) (fun c31 => ?_) (fun c31 => ?_)
                      · refine g_iload_n (pc := 36) C dX7_takeThing_36 rfl ?_
                        refine g_iconst (pc := 37) (v := nI 1) C dX7_takeThing_37 (by decide) ?_
                        refine g_icmp_nE (pc := 38) C 51 dX7_takeThing_38 (by decide) (fun c38 => ?_) (fun c38 => ?_)
                        · refine g_aload_n (pc := 51) C dX7_takeThing_51 rfl ?_
                          apply gf_X7_9 (pc := 52) C rfl dX7_takeThing_52
                          · repeat (first | assumption | exact Cl.s (by assumption) | refine Cl.n (by first | decide | omega) ?_)
                          · rfl
                          refine g_aload_n (pc := 55) C dX7_takeThing_55 rfl ?_
                          apply gf_X7_21 (pc := 56) C rfl dX7_takeThing_56
                          · repeat (first | assumption | exact Cl.s (by assumption) | refine Cl.n (by first | decide | omega) ?_)
                          · rfl
                          refine g_iload_n (pc := 59) C dX7_takeThing_59 rfl ?_
                          apply g_iastore (pc := 60) C dX7_takeThing_60
                          · repeat (first | assumption | exact Cl.s (by assumption) | refine Cl.n (by first | decide | omega) ?_)
                          · exact vp_in_nI (by omega) (by decide)
                          intro hw60
                          refine g_aload_n (pc := 61) C dX7_takeThing_61 rfl ?_
                          refine g_dup (pc := 62) C dX7_takeThing_62 rfl ?_
                          apply gf_X7_21 (pc := 63) C rfl dX7_takeThing_63
                          · repeat (first | assumption | exact Cl.s (by assumption) | refine Cl.n (by first | decide | omega) ?_)
                          · rfl
                          refine g_iconst (pc := 66) (v := nI 1) C dX7_takeThing_66 (by decide) ?_
                          refine g_iadd (pc := 67) C dX7_takeThing_67 ?_
                          apply pf_X7_21 (pc := 68) C rfl dX7_takeThing_68
                          · repeat (first | assumption | exact Cl.s (by assumption) | refine Cl.n (by first | decide | omega) ?_)
                          · rfl
                          · rfl
                          · exact Nat.le_of_ble_eq_true rfl
                          intro hw68
                          refine g_iconst (pc := 71) (v := nI 1) C dX7_takeThing_71 (by decide) ?_
                          exact g_zreturn (pc := 72) C dX7_takeThing_72 rfl (by first | exact Or.inl rfl | exact Or.inr rfl) (rfl) (by rw [nI_clamp (by omega), nI_add]; rfl)
                        · exact absurd c38 (by decide)
                      · exact absurd (by rw [q5]; decide) c31
          · refine ⟨upd fv (tn P) (nI n), fl, fh, ?_, Cl.n (by decide) (Cl.s h24), Cl.n (by decide) (Cl.n (by decide) h25), Cl.n (by decide) (Cl.n (by decide) h26), hTW, ?_, ?_, ?_⟩
            · rw [bset_thg0]
              show Cl G _ 10 (cTold G 24 25 26 (nI (tn P + 1)) (nI (tm P)) (nI (bset P)) (nI (hcn (thgS P n 0) (tn P + 1))) (nI (tl P)) (nI (tg P)))
              rw [ec]
              exact Cl.s (Cl.n (by decide) h10)
            · intro t ht
              have ht : t < tn P + 1 := ht
              show _ = nI (if t = tn P then n else tv P t)
              by_cases e : t = tn P
              · rw [if_pos e, e, pk_us]
              · rw [if_neg e, pk_un e, hv t (by omega)]
            · intro i hi
              have hi : i < tm P := hi
              omega
            · intro j hj
              have hj : j < hcn (thgS P n 0) (tn P + 1) := hj
              rw [ec] at hj
              rw [hh j hj]
              show _ = nI (hatn (thgS P n 0) (tn P + 1) j)
              rw [hatn_thg, if_neg (by decide)]
      · have e : thg P (some n) (some b) = none := by
          simp only [thg]
          rw [if_neg (fun z => hq ⟨z.1, z.2.1, z.2.2.1, z.2.2.2.1, z.2.2.2.2.1⟩)]
        rw [e]
        refine ⟨σ, ?_, h'.a, fr0⟩
        refine Mt.of (by decide +kernel) (Nat.le_of_ble_eq_true rfl) (fun κ C => ?_)
        refine g_iload_n (pc := 0) C dX7_takeThing_0 rfl ?_
        refine g_iconst (pc := 1) (v := nI 1) C dX7_takeThing_1 (by decide) ?_
        refine g_icmp_lt (pc := 2) C 34 dX7_takeThing_2 (by decide) (fun c2 => ?_) (fun c2 => ?_)
        · refine g_iconst (pc := 34) (v := nI 0) C dX7_takeThing_34 (by decide) ?_
          exact g_zreturn (pc := 35) C dX7_takeThing_35 rfl (by first | exact Or.inl rfl | exact Or.inr rfl) (rfl) (rfl)
        · refine g_iload_n (pc := 5) C dX7_takeThing_5 rfl ?_
          refine g_iconst (pc := 6) (v := nI 4) C dX7_takeThing_6 (by decide) ?_
          refine g_icmp_gt (pc := 7) C 34 dX7_takeThing_7 (by decide) (fun c7 => ?_) (fun c7 => ?_)
          · refine g_iconst (pc := 34) (v := nI 0) C dX7_takeThing_34 (by decide) ?_
            exact g_zreturn (pc := 35) C dX7_takeThing_35 rfl (by first | exact Or.inl rfl | exact Or.inr rfl) (rfl) (rfl)
          · refine g_iload_n (pc := 10) C dX7_takeThing_10 rfl ?_
            refine g_if_lt (pc := 11) C 34 dX7_takeThing_11 (by decide) (fun c11 => ?_) (fun c11 => ?_)
            · refine g_iconst (pc := 34) (v := nI 0) C dX7_takeThing_34 (by decide) ?_
              exact g_zreturn (pc := 35) C dX7_takeThing_35 rfl (by first | exact Or.inl rfl | exact Or.inr rfl) (rfl) (rfl)
            · refine g_iload_n (pc := 14) C dX7_takeThing_14 rfl ?_
              refine g_iconst (pc := 15) (v := nI 1) C dX7_takeThing_15 (by decide) ?_
              refine g_icmp_gt (pc := 16) C 34 dX7_takeThing_16 (by decide) (fun c16 => ?_) (fun c16 => ?_)
              · refine g_iconst (pc := 34) (v := nI 0) C dX7_takeThing_34 (by decide) ?_
                exact g_zreturn (pc := 35) C dX7_takeThing_35 rfl (by first | exact Or.inl rfl | exact Or.inr rfl) (rfl) (rfl)
              · refine g_aload_n (pc := 19) C dX7_takeThing_19 rfl ?_
                apply gf_X7_21 (pc := 20) C rfl dX7_takeThing_20
                · repeat (first | assumption | exact Cl.s (by assumption) | refine Cl.n (by first | decide | omega) ?_)
                · rfl
                refine g_iconst (pc := 23) (v := nI 5) C dX7_takeThing_23 (by decide) ?_
                refine g_icmp_ge (pc := 24) C 34 dX7_takeThing_24 (by decide) (fun c24 => ?_) (fun c24 => ?_)
                · refine g_iconst (pc := 34) (v := nI 0) C dX7_takeThing_34 (by decide) ?_
                  exact g_zreturn (pc := 35) C dX7_takeThing_35 rfl (by first | exact Or.inl rfl | exact Or.inr rfl) (rfl) (rfl)
                · refine g_aload_n (pc := 27) C dX7_takeThing_27 rfl ?_
                  apply gf_X7_25 (pc := 28) C rfl dX7_takeThing_28
                  · repeat (first | assumption | exact Cl.s (by assumption) | refine Cl.n (by first | decide | omega) ?_)
                  · rfl
                  refine g_if_le (pc := 31) C 36 dX7_takeThing_31 (by decide) (fun c31 => ?_) (fun c31 => ?_)
                  · exact absurd (by
                      change ¬ nI n < nI 1 at c2
                      change ¬ nI 4 < nI n at c7
                      change ¬ nI 1 < nI b at c16
                      rw [nI_ltI (by omega) (by decide)] at c2
                      rw [nI_ltI (by decide) (by omega)] at c7
                      rw [nI_ltI (by decide) (by omega)] at c16
                      rw [nI_leI (by decide) (by omega)] at c24
                      rw [nx_0, nI_leI (by omega) (by decide)] at c31
                      omega) hq
                  · refine g_iconst (pc := 34) (v := nI 0) C dX7_takeThing_34 (by decide) ?_
                    exact g_zreturn (pc := 35) C dX7_takeThing_35 rfl (by first | exact Or.inl rfl | exact Or.inr rfl) (rfl) (rfl)
/-- a byte -/
def BB (c : Int32) : Prop := -128 ≤ c.toInt ∧ c.toInt ≤ 127
theorem sub48 {c : Int32} (h : BB c) : (c - nI 48).toInt = c.toInt - 48 := by
  have h1 : (nI 48).toInt = 48 := by decide
  rw [Int32.toInt_sub, h1]
  unfold BB at h
  exact Int.bmod_eq_of_le (by omega) (by omega)
theorem t_takePerson {f x : Nat → Int32} (h : RP G σ P) (h11 : Cl G σ 11 (bA G 300 f)) {a e : Nat} (hae : a ≤ e) (he : e ≤ 300) (hf : ∀ k, k < e → f k = x k) (hx : ∀ k, k < e → BB (x k)) : ∃ σ', Mt G mX7_takePerson [.ref (ga G 10), .ref (ga G 11), .int (nI a), .int (nI e)] σ (some (.int (nI (b2 (prs P x a e).isSome)))) σ' ∧ (match prs P x a e with | some P' => RP G σ' P' | none => RPa G σ') ∧ Fr σ σ' sp4 := by
  have h' := h
  obtain ⟨fv, fl, fh, h10, h24, h25, h26, hW, hv, hl, hh⟩ := h
  have hn5 := hW.1
  have hm9 := hW.2.2.2.2.1
  have es : nI e - nI a = nI (e - a) := pk_sub hae
  by_cases hq : 1 ≤ tn P ∧ e = a + tn P ∧ tm P < 9
  · obtain ⟨q1, q2, q3⟩ := hq
    have loop : ∀ d t r σ' κ, Cx G mX7_takePerson κ → t + d = tn P → (prOk P x a d t = true → Go G mX7_takePerson κ r σ' σ 92 [(0, .ref (ga G 10)), (4, .int (nI (lkn (prv x a) (tn P))))] []) → (prOk P x a d t = false → r = some (.int (nI 0)) ∧ σ' = σ) → Go G mX7_takePerson κ r σ' σ 35 [(0, .ref (ga G 10)), (1, .ref (ga G 11)), (2, .int (nI a)), (4, .int (nI (lkn (prv x a) t))), (5, .int (nI t))] [] := by
      intro d
      induction d with
      | zero =>
        intro t r σ' κ C ht k1 k2
        have ht : t = tn P := by omega
        subst ht
        refine g_iload (pc := 35) C dX7_takePerson_35 rfl ?_
        refine g_aload_n (pc := 37) C dX7_takePerson_37 rfl ?_
        apply gf_X7_21 (pc := 38) C rfl dX7_takePerson_38
        · repeat (first | assumption | exact Cl.s (by assumption) | refine Cl.n (by first | decide | omega) ?_)
        · rfl
        refine g_icmp_ge (pc := 41) C 92 dX7_takePerson_41 (by decide) (fun c41 => ?_) (fun c41 => ?_)
        · exact g_to (k1 rfl) ⟨rfl, rfl, trivial⟩
        · exact absurd (nI_le (by omega) (by omega)) c41
      | succ d ih =>
        intro t r σ' κ C ht k1 k2
        have ev := hv t (by omega)
        have hv4 := hW.2.1 t (by omega)
        have hbb := hx (a + t) (by omega)
        have e48 := sub48 hbb
        cases hg : dgt (x (a + t)) with
        | none =>
          obtain ⟨r1, r2⟩ := k2 (by simp [prOk, hg])
          subst r1
          subst r2
          have hg2 : x (a + t) < 48 ∨ 57 < x (a + t) := by
            unfold dgt at hg
            split at hg
            · assumption
            · cases hg
          refine g_iload (pc := 35) C dX7_takePerson_35 rfl ?_
          refine g_aload_n (pc := 37) C dX7_takePerson_37 rfl ?_
          apply gf_X7_21 (pc := 38) C rfl dX7_takePerson_38
          · repeat (first | assumption | exact Cl.s (by assumption) | refine Cl.n (by first | decide | omega) ?_)
          · rfl
          refine g_icmp_ge (pc := 41) C 92 dX7_takePerson_41 (by decide) (fun c41 => ?_) (fun c41 => ?_)
          · exact absurd c41 (nI_ge (by omega) (by omega))
          · refine g_aload_n (pc := 44) C dX7_takePerson_44 rfl ?_
            refine g_iload_n (pc := 45) C dX7_takePerson_45 rfl ?_
            refine g_iload (pc := 46) C dX7_takePerson_46 rfl ?_
            refine g_iadd (pc := 48) C dX7_takePerson_48 ?_
            rw [nI_add]
            apply g_baload (pc := 49) C dX7_takePerson_49
            · repeat (first | assumption | exact Cl.s (by assumption) | refine Cl.n (by first | decide | omega) ?_)
            · exact vp_in_nI (by omega) (by decide)
            rw [nI_clamp (by omega), hf (a + t) (by omega)]
            refine g_bipush (pc := 50) (v := nI 48) C dX7_takePerson_50 (by decide) ?_
            refine g_isub (pc := 52) C dX7_takePerson_52 ?_
            refine g_istore (pc := 53) C dX7_takePerson_53 (by decide) rfl ?_
            refine g_iload (pc := 55) C dX7_takePerson_55 rfl ?_
            refine g_if_lt (pc := 57) C 72 dX7_takePerson_57 (by decide) (fun c57 => ?_) (fun c57 => ?_)
            · refine g_iconst (pc := 72) (v := nI 0) C dX7_takePerson_72 (by decide) ?_
              exact g_zreturn (pc := 73) C dX7_takePerson_73 rfl (by first | exact Or.inl rfl | exact Or.inr rfl) (rfl) (rfl)
            · refine g_iload (pc := 60) C dX7_takePerson_60 rfl ?_
              refine g_aload_n (pc := 62) C dX7_takePerson_62 rfl ?_
              apply gf_X7_9 (pc := 63) C rfl dX7_takePerson_63
              · repeat (first | assumption | exact Cl.s (by assumption) | refine Cl.n (by first | decide | omega) ?_)
              · rfl
              refine g_iload (pc := 66) C dX7_takePerson_66 rfl ?_
              apply g_iaload (pc := 68) C dX7_takePerson_68
              · repeat (first | assumption | exact Cl.s (by assumption) | refine Cl.n (by first | decide | omega) ?_)
              · exact vp_in_nI (by omega) (by decide)
              rw [nI_clamp (by omega), ev]
              refine g_icmp_lt (pc := 69) C 74 dX7_takePerson_69 (by decide) (fun c69 => ?_) (fun c69 => ?_)
              · exact absurd hg2 (by
                  rw [Int32.lt_iff_toInt_lt, e48, nI_toInt (by omega)] at c69
                  have c57 : ¬ (x (a + t) - nI 48).toInt < (0 : Int32).toInt := fun z => c57 (Int32.lt_iff_toInt_lt.mpr z)
                  rw [e48, show (0 : Int32).toInt = 0 from rfl] at c57
                  rw [Int32.lt_iff_toInt_lt, Int32.lt_iff_toInt_lt, show (48 : Int32).toInt = 48 by decide, show (57 : Int32).toInt = 57 by decide]
                  omega)
              · refine g_iconst (pc := 72) (v := nI 0) C dX7_takePerson_72 (by decide) ?_
                exact g_zreturn (pc := 73) C dX7_takePerson_73 rfl (by first | exact Or.inl rfl | exact Or.inr rfl) (rfl) (rfl)
        | some g =>
          obtain ⟨g1, g2⟩ := dgt_some hg
          have ep : prv x a t = g := by
            unfold prv
            rw [g2, nI_clamp (by omega)]
            omega
          have e3 : nI (48 + g) - nI 48 = nI g := by rw [pk_sub (by omega)]; congr 1; omega
          by_cases hlt : g < tv P t
          · have eo : prOk P x a (d + 1) t = prOk P x a d (t + 1) := by simp [prOk, hg, hlt]
            rw [eo] at k1 k2
            refine g_iload (pc := 35) C dX7_takePerson_35 rfl ?_
            refine g_aload_n (pc := 37) C dX7_takePerson_37 rfl ?_
            apply gf_X7_21 (pc := 38) C rfl dX7_takePerson_38
            · repeat (first | assumption | exact Cl.s (by assumption) | refine Cl.n (by first | decide | omega) ?_)
            · rfl
            refine g_icmp_ge (pc := 41) C 92 dX7_takePerson_41 (by decide) (fun c41 => ?_) (fun c41 => ?_)
            · exact absurd c41 (nI_ge (by omega) (by omega))
            · refine g_aload_n (pc := 44) C dX7_takePerson_44 rfl ?_
              refine g_iload_n (pc := 45) C dX7_takePerson_45 rfl ?_
              refine g_iload (pc := 46) C dX7_takePerson_46 rfl ?_
              refine g_iadd (pc := 48) C dX7_takePerson_48 ?_
              rw [nI_add]
              apply g_baload (pc := 49) C dX7_takePerson_49
              · repeat (first | assumption | exact Cl.s (by assumption) | refine Cl.n (by first | decide | omega) ?_)
              · exact vp_in_nI (by omega) (by decide)
              rw [nI_clamp (by omega), hf (a + t) (by omega), g2]
              refine g_bipush (pc := 50) (v := nI 48) C dX7_takePerson_50 (by decide) ?_
              refine g_isub (pc := 52) C dX7_takePerson_52 ?_
              rw [e3]
              refine g_istore (pc := 53) C dX7_takePerson_53 (by decide) rfl ?_
              refine g_iload (pc := 55) C dX7_takePerson_55 rfl ?_
              refine g_if_lt (pc := 57) C 72 dX7_takePerson_57 (by decide) (fun c57 => ?_) (fun c57 => ?_)
              · exact absurd c57 (nI_pos (by omega))
              · refine g_iload (pc := 60) C dX7_takePerson_60 rfl ?_
                refine g_aload_n (pc := 62) C dX7_takePerson_62 rfl ?_
                apply gf_X7_9 (pc := 63) C rfl dX7_takePerson_63
                · repeat (first | assumption | exact Cl.s (by assumption) | refine Cl.n (by first | decide | omega) ?_)
                · rfl
                refine g_iload (pc := 66) C dX7_takePerson_66 rfl ?_
                apply g_iaload (pc := 68) C dX7_takePerson_68
                · repeat (first | assumption | exact Cl.s (by assumption) | refine Cl.n (by first | decide | omega) ?_)
                · exact vp_in_nI (by omega) (by decide)
                rw [nI_clamp (by omega), ev]
                refine g_icmp_lt (pc := 69) C 74 dX7_takePerson_69 (by decide) (fun c69 => ?_) (fun c69 => ?_)
                · refine g_iload (pc := 74) C dX7_takePerson_74 rfl ?_
                  refine g_iload (pc := 76) C dX7_takePerson_76 rfl ?_
                  refine g_iload (pc := 78) C dX7_takePerson_78 rfl ?_
                  refine cl_X7_50 (pc := 80) C rfl (t_lookWith (by omega) (by omega)) dX7_takePerson_80 rfl (Nat.le_of_ble_eq_true rfl) ?_
                  refine g_ior (pc := 83) C dX7_takePerson_83 ?_
                  refine g_istore (pc := 84) C dX7_takePerson_84 (by decide) rfl ?_
                  refine g_iinc (pc := 86) C dX7_takePerson_86 rfl (by decide) rfl ?_
                  refine g_goto (pc := 89) C 35 dX7_takePerson_89 (by decide) ?_
                  exact g_to (ih (t + 1) r σ' κ C (by omega) k1 k2) ⟨rfl, rfl, rfl, lgi (by rw [nx_or]; show _ = nI (lkn (prv x a) t ||| lw t (prv x a t)); rw [ep]), lgi (nI_1 t), trivial⟩
                · exact absurd (nI_lt hlt (by omega)) c69
          · obtain ⟨r1, r2⟩ := k2 (by simp [prOk, hg, hlt])
            subst r1
            subst r2
            refine g_iload (pc := 35) C dX7_takePerson_35 rfl ?_
            refine g_aload_n (pc := 37) C dX7_takePerson_37 rfl ?_
            apply gf_X7_21 (pc := 38) C rfl dX7_takePerson_38
            · repeat (first | assumption | exact Cl.s (by assumption) | refine Cl.n (by first | decide | omega) ?_)
            · rfl
            refine g_icmp_ge (pc := 41) C 92 dX7_takePerson_41 (by decide) (fun c41 => ?_) (fun c41 => ?_)
            · exact absurd c41 (nI_ge (by omega) (by omega))
            · refine g_aload_n (pc := 44) C dX7_takePerson_44 rfl ?_
              refine g_iload_n (pc := 45) C dX7_takePerson_45 rfl ?_
              refine g_iload (pc := 46) C dX7_takePerson_46 rfl ?_
              refine g_iadd (pc := 48) C dX7_takePerson_48 ?_
              rw [nI_add]
              apply g_baload (pc := 49) C dX7_takePerson_49
              · repeat (first | assumption | exact Cl.s (by assumption) | refine Cl.n (by first | decide | omega) ?_)
              · exact vp_in_nI (by omega) (by decide)
              rw [nI_clamp (by omega), hf (a + t) (by omega), g2]
              refine g_bipush (pc := 50) (v := nI 48) C dX7_takePerson_50 (by decide) ?_
              refine g_isub (pc := 52) C dX7_takePerson_52 ?_
              rw [e3]
              refine g_istore (pc := 53) C dX7_takePerson_53 (by decide) rfl ?_
              refine g_iload (pc := 55) C dX7_takePerson_55 rfl ?_
              refine g_if_lt (pc := 57) C 72 dX7_takePerson_57 (by decide) (fun c57 => ?_) (fun c57 => ?_)
              · exact absurd c57 (nI_pos (by omega))
              · refine g_iload (pc := 60) C dX7_takePerson_60 rfl ?_
                refine g_aload_n (pc := 62) C dX7_takePerson_62 rfl ?_
                apply gf_X7_9 (pc := 63) C rfl dX7_takePerson_63
                · repeat (first | assumption | exact Cl.s (by assumption) | refine Cl.n (by first | decide | omega) ?_)
                · rfl
                refine g_iload (pc := 66) C dX7_takePerson_66 rfl ?_
                apply g_iaload (pc := 68) C dX7_takePerson_68
                · repeat (first | assumption | exact Cl.s (by assumption) | refine Cl.n (by first | decide | omega) ?_)
                · exact vp_in_nI (by omega) (by decide)
                rw [nI_clamp (by omega), ev]
                refine g_icmp_lt (pc := 69) C 74 dX7_takePerson_69 (by decide) (fun c69 => ?_) (fun c69 => ?_)
                · exact absurd c69 (nI_nlt (by omega) (by omega))
                · refine g_iconst (pc := 72) (v := nI 0) C dX7_takePerson_72 (by decide) ?_
                  exact g_zreturn (pc := 73) C dX7_takePerson_73 rfl (by first | exact Or.inl rfl | exact Or.inr rfl) (rfl) (rfl)
    cases hok : prOk P x a (tn P) 0
    · have e0 : prs P x a e = none := by simp [prs, hok]
      rw [e0]
      refine ⟨σ, ?_, h'.a, fr0⟩
      refine Mt.of (by decide +kernel) (Nat.le_of_ble_eq_true rfl) (fun κ C => ?_)
      refine g_aload_n (pc := 0) C dX7_takePerson_0 rfl ?_
      apply gf_X7_21 (pc := 1) C rfl dX7_takePerson_1
      · repeat (first | assumption | exact Cl.s (by assumption) | refine Cl.n (by first | decide | omega) ?_)
      · rfl
      refine g_iconst (pc := 4) (v := nI 1) C dX7_takePerson_4 (by decide) ?_
      refine g_icmp_lt (pc := 5) C 27 dX7_takePerson_5 (by decide) (fun c5 => ?_) (fun c5 => ?_)
      · exact absurd c5 (nI_nlt q1 (by omega))
      · refine g_iload_n (pc := 8) C dX7_takePerson_8 rfl ?_
        refine g_iload_n (pc := 9) C dX7_takePerson_9 rfl ?_
        refine g_isub (pc := 10) C dX7_takePerson_10 ?_
        refine g_aload_n (pc := 11) C dX7_takePerson_11 rfl ?_
        apply gf_X7_21 (pc := 12) C rfl dX7_takePerson_12
        · repeat (first | assumption | exact Cl.s (by assumption) | refine Cl.n (by first | decide | omega) ?_)
        · rfl
        refine g_icmp_nE (pc := 15) C 27 dX7_takePerson_15 (by decide) (fun c15 => ?_) (fun c15 => ?_)
        · exact absurd (by rw [es]; congr 1; omega) c15
        · refine g_aload_n (pc := 18) C dX7_takePerson_18 rfl ?_
          apply gf_X7_25 (pc := 19) C rfl dX7_takePerson_19
          · repeat (first | assumption | exact Cl.s (by assumption) | refine Cl.n (by first | decide | omega) ?_)
          · rfl
          refine g_bipush (pc := 22) (v := nI 9) C dX7_takePerson_22 (by decide) ?_
          refine g_icmp_lt (pc := 24) C 29 dX7_takePerson_24 (by decide) (fun c24 => ?_) (fun c24 => ?_)
          · refine g_iconst (pc := 29) (v := nI 0) C dX7_takePerson_29 (by decide) ?_
            refine g_istore (pc := 30) C dX7_takePerson_30 (by decide) rfl ?_
            refine g_iconst (pc := 32) (v := nI 0) C dX7_takePerson_32 (by decide) ?_
            refine g_istore (pc := 33) C dX7_takePerson_33 (by decide) rfl ?_
            exact g_to (loop (tn P) 0 _ _ κ C (by omega) (fun z => by rw [hok] at z; cases z) (fun _ => ⟨rfl, rfl⟩)) ⟨rfl, rfl, rfl, rfl, rfl, trivial⟩
          · exact absurd (nI_lt q3 (by decide)) c24
    · have e0 : prs P x a e = some (prsS P (prv x a)) := by simp [prs, hok, q1, q2, q3]
      have hTW := TW_prs hW e0
      rw [e0]
      refine ⟨va_up (va_up σ 25 (iA G 9 (upd fl (tm P) (nI (lkn (prv x a) (tn P)))))) 10 (cTold G 24 25 26 (nI (tn P)) (nI (tm P + 1)) (nI (bset P)) (nI (hcn P (tn P))) (nI (tl P)) (nI (tg P))), ?_, ?_, fr3 (fr3 fr0 (by decide)) (by decide)⟩
      · refine Mt.of (by decide +kernel) (Nat.le_of_ble_eq_true rfl) (fun κ C => ?_)
        have k92 : prOk P x a (tn P) 0 = true → Go G mX7_takePerson κ (some (.int (nI 1))) (va_up (va_up σ 25 (iA G 9 (upd fl (tm P) (nI (lkn (prv x a) (tn P)))))) 10 (cTold G 24 25 26 (nI (tn P)) (nI (tm P + 1)) (nI (bset P)) (nI (hcn P (tn P))) (nI (tl P)) (nI (tg P)))) σ 92 [(0, .ref (ga G 10)), (4, .int (nI (lkn (prv x a) (tn P))))] [] := by
          intro _
          refine g_aload_n (pc := 92) C dX7_takePerson_92 rfl ?_
          apply gf_X7_15 (pc := 93) C rfl dX7_takePerson_93
          · repeat (first | assumption | exact Cl.s (by assumption) | refine Cl.n (by first | decide | omega) ?_)
          · rfl
          refine g_aload_n (pc := 96) C dX7_takePerson_96 rfl ?_
          apply gf_X7_25 (pc := 97) C rfl dX7_takePerson_97
          · repeat (first | assumption | exact Cl.s (by assumption) | refine Cl.n (by first | decide | omega) ?_)
          · rfl
          refine g_iload (pc := 100) C dX7_takePerson_100 rfl ?_
          apply g_iastore (pc := 102) C dX7_takePerson_102
          · repeat (first | assumption | exact Cl.s (by assumption) | refine Cl.n (by first | decide | omega) ?_)
          · exact vp_in_nI (by omega) (by decide)
          intro hw102
          refine g_aload_n (pc := 103) C dX7_takePerson_103 rfl ?_
          refine g_dup (pc := 104) C dX7_takePerson_104 rfl ?_
          apply gf_X7_25 (pc := 105) C rfl dX7_takePerson_105
          · repeat (first | assumption | exact Cl.s (by assumption) | refine Cl.n (by first | decide | omega) ?_)
          · rfl
          refine g_iconst (pc := 108) (v := nI 1) C dX7_takePerson_108 (by decide) ?_
          refine g_iadd (pc := 109) C dX7_takePerson_109 ?_
          apply pf_X7_25 (pc := 110) C rfl dX7_takePerson_110
          · repeat (first | assumption | exact Cl.s (by assumption) | refine Cl.n (by first | decide | omega) ?_)
          · rfl
          · rfl
          · exact Nat.le_of_ble_eq_true rfl
          intro hw110
          refine g_iconst (pc := 113) (v := nI 1) C dX7_takePerson_113 (by decide) ?_
          exact g_zreturn (pc := 114) C dX7_takePerson_114 rfl (by first | exact Or.inl rfl | exact Or.inr rfl) (rfl) (by rw [nI_clamp (by omega), nI_add]; rfl)
        refine g_aload_n (pc := 0) C dX7_takePerson_0 rfl ?_
        apply gf_X7_21 (pc := 1) C rfl dX7_takePerson_1
        · repeat (first | assumption | exact Cl.s (by assumption) | refine Cl.n (by first | decide | omega) ?_)
        · rfl
        refine g_iconst (pc := 4) (v := nI 1) C dX7_takePerson_4 (by decide) ?_
        refine g_icmp_lt (pc := 5) C 27 dX7_takePerson_5 (by decide) (fun c5 => ?_) (fun c5 => ?_)
        · exact absurd c5 (nI_nlt q1 (by omega))
        · refine g_iload_n (pc := 8) C dX7_takePerson_8 rfl ?_
          refine g_iload_n (pc := 9) C dX7_takePerson_9 rfl ?_
          refine g_isub (pc := 10) C dX7_takePerson_10 ?_
          refine g_aload_n (pc := 11) C dX7_takePerson_11 rfl ?_
          apply gf_X7_21 (pc := 12) C rfl dX7_takePerson_12
          · repeat (first | assumption | exact Cl.s (by assumption) | refine Cl.n (by first | decide | omega) ?_)
          · rfl
          refine g_icmp_nE (pc := 15) C 27 dX7_takePerson_15 (by decide) (fun c15 => ?_) (fun c15 => ?_)
          · exact absurd (by rw [es]; congr 1; omega) c15
          · refine g_aload_n (pc := 18) C dX7_takePerson_18 rfl ?_
            apply gf_X7_25 (pc := 19) C rfl dX7_takePerson_19
            · repeat (first | assumption | exact Cl.s (by assumption) | refine Cl.n (by first | decide | omega) ?_)
            · rfl
            refine g_bipush (pc := 22) (v := nI 9) C dX7_takePerson_22 (by decide) ?_
            refine g_icmp_lt (pc := 24) C 29 dX7_takePerson_24 (by decide) (fun c24 => ?_) (fun c24 => ?_)
            · refine g_iconst (pc := 29) (v := nI 0) C dX7_takePerson_29 (by decide) ?_
              refine g_istore (pc := 30) C dX7_takePerson_30 (by decide) rfl ?_
              refine g_iconst (pc := 32) (v := nI 0) C dX7_takePerson_32 (by decide) ?_
              refine g_istore (pc := 33) C dX7_takePerson_33 (by decide) rfl ?_
              exact g_to (loop (tn P) 0 _ _ κ C (by omega) k92 (fun z => by rw [hok] at z; cases z)) ⟨rfl, rfl, rfl, rfl, rfl, trivial⟩
            · exact absurd (nI_lt q3 (by decide)) c24
      · have ec : hcn (prsS P (prv x a)) (tn P) = hcn P (tn P) := hcn_congr _ (fun t _ => ⟨rfl, rfl⟩)
        refine ⟨fv, upd fl (tm P) (nI (lkn (prv x a) (tn P))), fh, ?_, Cl.n (by decide) (Cl.n (by decide) h24), Cl.n (by decide) (Cl.s h25), Cl.n (by decide) (Cl.n (by decide) h26), hTW, hv, ?_, ?_⟩
        · show Cl G _ 10 (cTold G 24 25 26 (nI (tn P)) (nI (tm P + 1)) (nI (bset P)) (nI (hcn (prsS P (prv x a)) (tn P))) (nI (tl P)) (nI (tg P)))
          rw [ec]
          exact Cl.s (Cl.n (by decide) h10)
        · intro i hi
          have hi : i < tm P + 1 := hi
          show _ = nI (lkn (if i = tm P then prv x a else tp P i) (tn P))
          by_cases e : i = tm P
          · rw [if_pos e, e, pk_us]
          · rw [if_neg e, pk_un e, hl i (by omega)]
        · intro j hj
          have hj : j < hcn (prsS P (prv x a)) (tn P) := hj
          rw [ec] at hj
          rw [hh j hj]
          exact congrArg nI (hatn_congr (P := P) (Q := prsS P (prv x a)) _ (fun t _ => ⟨rfl, rfl⟩) j)
  · have e0 : prs P x a e = none := by
      unfold prs
      rw [if_neg (fun z => hq ⟨z.1, z.2.1, z.2.2.1⟩)]
    rw [e0]
    refine ⟨σ, ?_, h'.a, fr0⟩
    refine Mt.of (by decide +kernel) (Nat.le_of_ble_eq_true rfl) (fun κ C => ?_)
    refine g_aload_n (pc := 0) C dX7_takePerson_0 rfl ?_
    apply gf_X7_21 (pc := 1) C rfl dX7_takePerson_1
    · repeat (first | assumption | exact Cl.s (by assumption) | refine Cl.n (by first | decide | omega) ?_)
    · rfl
    refine g_iconst (pc := 4) (v := nI 1) C dX7_takePerson_4 (by decide) ?_
    refine g_icmp_lt (pc := 5) C 27 dX7_takePerson_5 (by decide) (fun c5 => ?_) (fun c5 => ?_)
    · refine g_iconst (pc := 27) (v := nI 0) C dX7_takePerson_27 (by decide) ?_
      exact g_zreturn (pc := 28) C dX7_takePerson_28 rfl (by first | exact Or.inl rfl | exact Or.inr rfl) (rfl) (rfl)
    · refine g_iload_n (pc := 8) C dX7_takePerson_8 rfl ?_
      refine g_iload_n (pc := 9) C dX7_takePerson_9 rfl ?_
      refine g_isub (pc := 10) C dX7_takePerson_10 ?_
      refine g_aload_n (pc := 11) C dX7_takePerson_11 rfl ?_
      apply gf_X7_21 (pc := 12) C rfl dX7_takePerson_12
      · repeat (first | assumption | exact Cl.s (by assumption) | refine Cl.n (by first | decide | omega) ?_)
      · rfl
      refine g_icmp_nE (pc := 15) C 27 dX7_takePerson_15 (by decide) (fun c15 => ?_) (fun c15 => ?_)
      · refine g_iconst (pc := 27) (v := nI 0) C dX7_takePerson_27 (by decide) ?_
        exact g_zreturn (pc := 28) C dX7_takePerson_28 rfl (by first | exact Or.inl rfl | exact Or.inr rfl) (rfl) (rfl)
      · refine g_aload_n (pc := 18) C dX7_takePerson_18 rfl ?_
        apply gf_X7_25 (pc := 19) C rfl dX7_takePerson_19
        · repeat (first | assumption | exact Cl.s (by assumption) | refine Cl.n (by first | decide | omega) ?_)
        · rfl
        refine g_bipush (pc := 22) (v := nI 9) C dX7_takePerson_22 (by decide) ?_
        refine g_icmp_lt (pc := 24) C 29 dX7_takePerson_24 (by decide) (fun c24 => ?_) (fun c24 => ?_)
        · exact absurd (by
            rw [nI_ltI (by omega) (by decide)] at c5
            rw [es, nI_eq (by omega) (by omega)] at c15
            rw [nI_ltI (by omega) (by decide)] at c24
            omega) hq
        · refine g_iconst (pc := 27) (v := nI 0) C dX7_takePerson_27 (by decide) ?_
          exact g_zreturn (pc := 28) C dX7_takePerson_28 rfl (by first | exact Or.inl rfl | exact Or.inr rfl) (rfl) (rfl)
end TOLD5

