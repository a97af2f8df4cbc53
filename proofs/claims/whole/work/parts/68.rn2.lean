def lcI (T : TS) (x : Nat → Nat) (l : Nat) : Int32 := if lok T l = true then nI (cdn (tv T) (lnv T x l) (tn T)) else -1
def sumc (p : Nat → Bool) : Nat → Nat
  | 0 => 0
  | t + 1 => sumc p t + b2 (p t)
theorem cnt_bits (p : Nat → Bool) (n : Nat) : ∀ k, cnt (bits p n) k = sumc (fun t => decide (t < n) && p t) k
  | 0 => rfl
  | k + 1 => by
    show cnt (bits p n) k + (bits p n >>> k &&& 1) = sumc _ k + b2 (decide (k < n) && p k)
    rw [cnt_bits p n k, tb_b2, tb_bits]
theorem sumc_cut (p : Nat → Bool) (n : Nat) : ∀ k, sumc (fun t => decide (t < n) && p t) (n + k) = sumc (fun t => decide (t < n) && p t) n
  | 0 => rfl
  | k + 1 => by
    show sumc _ (n + k) + b2 (decide (n + k < n) && p (n + k)) = _
    rw [sumc_cut p n k, show decide (n + k < n) = false by simp]
    rfl
theorem sumc_cg {p q : Nat → Bool} : ∀ n, (∀ t, t < n → p t = q t) → sumc p n = sumc q n
  | 0, _ => rfl
  | n + 1, h => by
    show _ + _ = _ + _
    rw [sumc_cg n (fun t ht => h t (by omega)), h n (by omega)]
theorem dfn_sum {T : TS} (hn : tn T ≤ 5) (x y : Nat → Nat) : dfn T x y = sumc (fun t => x t != y t) (tn T) := by
  unfold dfn many
  rw [cnt_bits, show (10 : Nat) = tn T + (10 - tn T) by omega, sumc_cut]
  exact sumc_cg _ (fun t ht => by simp [ht])
theorem lfd_le (T : TS) (l : Nat) : ∀ t, lfd T l t ≤ l
  | 0 => Nat.le_refl _
  | t + 1 => by
    have := lfd_le T l t
    unfold lfd
    split <;> omega
theorem ps_20 (s : Nat) : ps 2 s 0 = ps 0 s 0 := by
  have : ∀ b, ps 2 s 0 = true ↔ ps 0 s b = true := by
    intro b
    rw [ps_2]
    unfold ps
    simp
    intro h z
    rw [z, many_0] at h
    exact absurd h (by decide)
  cases h1 : ps 2 s 0 <;> cases h2 : ps 0 s 0
  · rfl
  · rw [(this 0).mpr h2] at h1; exact absurd h1 (by decide)
  · rw [(this 0).mp h1] at h2; exact absurd h2 (by decide)
  · rfl
section RN2
variable {G : GG} {σ : WW} {T : TS} {len at_ kept done rm : Int32}
theorem r_lentCode (h0 : Cl G σ 0 (cRef G len at_ kept done rm)) (hT : QT G σ T) {i l : Nat} (hi : i < tm T) (hl16 : l < 16) : Mt G mX10_lentCode [.ref (ga G 0), .int (nI i), .int (nI l)] σ (some (.int (lcI T (tp T i) l))) σ := by
  obtain ⟨ft, fn, fv, fl, fm, fp, h2, h3, h4, h5, h6, h7, hW, h1, e0, e1, e2, e3, hv, hl, hp⟩ := id hT
  have hn := hW.1
  have hm := hW.2.2.2.2.1
  refine Mt.of (by decide +kernel) (Nat.le_of_ble_eq_true rfl) (fun κ C => ?_)
  have loop : ∀ d t, t + d = tn T → (∀ t', t' < t → tb T t' = 1 → lfd T l t' % 4 < tv T t') → Go G mX10_lentCode κ (some (.int (lcI T (tp T i) l))) σ σ 8 [(0, .ref (ga G 0)), (1, .int (nI i)), (3, .int (nI (cdn (tv T) (lnv T (tp T i) l) t))), (4, .int (nI (lfd T l t))), (5, .int (nI t))] [] := by
    intro d
    induction d with
    | zero =>
      intro t ht hok
      have hle := lfd_le T l t
      have et : t = tn T := by omega
      by_cases hz : lfd T l t = 0
      · have e : lcI T (tp T i) l = nI (cdn (tv T) (lnv T (tp T i) l) t) := by
          unfold lcI
          rw [if_pos (show LOk T l from LOk_i.mpr ⟨fun t' ht' => hok t' (by omega), by rw [← et]; exact hz⟩), et]
        rw [e]
        refine g_iload (pc := 8) C dX10_lentCode_8 rfl ?_
        refine g_aload_n (pc := 10) C dX10_lentCode_10 rfl ?_
        apply gf_X10_17 (pc := 11) C rfl dX10_lentCode_11
        · repeat (first | assumption | exact Cl.s (by assumption) | refine Cl.n (by first | decide | omega) ?_)
        · rfl
        refine g_iconst (pc := 14) (v := nI 0) C dX10_lentCode_14 (by decide) ?_
        apply g_iaload (pc := 15) C dX10_lentCode_15
        · repeat (first | assumption | exact Cl.s (by assumption) | refine Cl.n (by first | decide | omega) ?_)
        · exact vp_in_nI (n := 0) (by decide) (by decide)
        rw [nI_clamp (by decide), e2]
        refine g_icmp_ge (pc := 16) C 88 dX10_lentCode_16 (by decide) (fun c16 => ?_) (fun c16 => ?_)
        · refine g_iload (pc := 88) C dX10_lentCode_88 rfl ?_
          refine g_if_nE (pc := 90) C 97 dX10_lentCode_90 (by decide) (fun c90 => ?_) (fun c90 => ?_)
          · exact absurd (by rw [hz]; rfl) c90
          · refine g_iload_n (pc := 93) C dX10_lentCode_93 rfl ?_
            refine g_goto (pc := 94) C 98 dX10_lentCode_94 (by decide) ?_
            exact g_ireturn (pc := 98) C dX10_lentCode_98 rfl (rfl) (rfl)
        · exact absurd (nI_le (by omega) (by omega)) c16
      · have e : lcI T (tp T i) l = -1 := by
          unfold lcI
          rw [if_neg (fun q => hz (by rw [et]; exact (LOk_i.mp q).2))]
        rw [e]
        refine g_iload (pc := 8) C dX10_lentCode_8 rfl ?_
        refine g_aload_n (pc := 10) C dX10_lentCode_10 rfl ?_
        apply gf_X10_17 (pc := 11) C rfl dX10_lentCode_11
        · repeat (first | assumption | exact Cl.s (by assumption) | refine Cl.n (by first | decide | omega) ?_)
        · rfl
        refine g_iconst (pc := 14) (v := nI 0) C dX10_lentCode_14 (by decide) ?_
        apply g_iaload (pc := 15) C dX10_lentCode_15
        · repeat (first | assumption | exact Cl.s (by assumption) | refine Cl.n (by first | decide | omega) ?_)
        · exact vp_in_nI (n := 0) (by decide) (by decide)
        rw [nI_clamp (by decide), e2]
        refine g_icmp_ge (pc := 16) C 88 dX10_lentCode_16 (by decide) (fun c16 => ?_) (fun c16 => ?_)
        · refine g_iload (pc := 88) C dX10_lentCode_88 rfl ?_
          refine g_if_nE (pc := 90) C 97 dX10_lentCode_90 (by decide) (fun c90 => ?_) (fun c90 => ?_)
          · refine g_iconst (pc := 97) (v := -1) C dX10_lentCode_97 (by decide) ?_
            exact g_ireturn (pc := 98) C dX10_lentCode_98 rfl (rfl) (rfl)
          · exact absurd ((nI_eq (b := 0) (by omega) (by decide)).mp c90) hz
        · exact absurd (nI_le (by omega) (by omega)) c16
    | succ d ih =>
      intro t ht hok
      have hle := lfd_le T l t
      have hvt := hW.2.1 t (by omega)
      have hbt := hW.2.2.1 t (by omega)
      have hpt := hW.2.2.2.2.2.1 i hi t (by omega)
      by_cases hb : tb T t = 1
      · have el : lnv T (tp T i) l t = lfd T l t % 4 := if_pos hb
        have elf : lfd T l (t + 1) = lfd T l t / 4 := by show (if tb T t = 1 then _ else _) = _; rw [if_pos hb]
        by_cases hz : lfd T l t % 4 < tv T t
        · have k1 := ih (t + 1) (by omega) (fun t' ht' hb' => by
            by_cases z : t' = t
            · rw [z]; exact hz
            · exact hok t' (by omega) hb')
          rw [elf] at k1
          refine g_iload (pc := 8) C dX10_lentCode_8 rfl ?_
          refine g_aload_n (pc := 10) C dX10_lentCode_10 rfl ?_
          apply gf_X10_17 (pc := 11) C rfl dX10_lentCode_11
          · repeat (first | assumption | exact Cl.s (by assumption) | refine Cl.n (by first | decide | omega) ?_)
          · rfl
          refine g_iconst (pc := 14) (v := nI 0) C dX10_lentCode_14 (by decide) ?_
          apply g_iaload (pc := 15) C dX10_lentCode_15
          · repeat (first | assumption | exact Cl.s (by assumption) | refine Cl.n (by first | decide | omega) ?_)
          · exact vp_in_nI (n := 0) (by decide) (by decide)
          rw [nI_clamp (by decide), e2]
          refine g_icmp_ge (pc := 16) C 88 dX10_lentCode_16 (by decide) (fun c16 => ?_) (fun c16 => ?_)
          · exact absurd c16 (nI_ge (by omega) (by omega))
          · refine g_aload_n (pc := 19) C dX10_lentCode_19 rfl ?_
            apply gf_X10_29 (pc := 20) C rfl dX10_lentCode_20
            · repeat (first | assumption | exact Cl.s (by assumption) | refine Cl.n (by first | decide | omega) ?_)
            · rfl
            refine g_iconst (pc := 23) (v := nI 5) C dX10_lentCode_23 (by decide) ?_
            refine g_iload_n (pc := 24) C dX10_lentCode_24 rfl ?_
            refine g_imul (pc := 25) C dX10_lentCode_25 ?_
            rw [pk_mul]
            refine g_iload (pc := 26) C dX10_lentCode_26 rfl ?_
            refine g_iadd (pc := 28) C dX10_lentCode_28 ?_
            rw [nI_add]
            apply g_iaload (pc := 29) C dX10_lentCode_29
            · repeat (first | assumption | exact Cl.s (by assumption) | refine Cl.n (by first | decide | omega) ?_)
            · exact vp_in_nI (by omega) (by decide)
            rw [nI_clamp (by omega), hp i hi t (by omega)]
            refine g_istore (pc := 30) C dX10_lentCode_30 (by decide) rfl ?_
            refine g_aload_n (pc := 32) C dX10_lentCode_32 rfl ?_
            apply gf_X10_23 (pc := 33) C rfl dX10_lentCode_33
            · repeat (first | assumption | exact Cl.s (by assumption) | refine Cl.n (by first | decide | omega) ?_)
            · rfl
            refine g_iload (pc := 36) C dX10_lentCode_36 rfl ?_
            apply g_iaload (pc := 38) C dX10_lentCode_38
            · repeat (first | assumption | exact Cl.s (by assumption) | refine Cl.n (by first | decide | omega) ?_)
            · exact vp_in_nI (by omega) (by decide)
            rw [nI_clamp (by omega), hl t (by omega), hb]
            refine g_iconst (pc := 39) (v := nI 1) C dX10_lentCode_39 (by decide) ?_
            refine g_icmp_nE (pc := 40) C 55 dX10_lentCode_40 (by decide) (fun c40 => ?_) (fun c40 => ?_)
            · exact absurd rfl c40
            · refine g_iload (pc := 43) C dX10_lentCode_43 rfl ?_
              refine g_iconst (pc := 45) (v := nI 4) C dX10_lentCode_45 (by decide) ?_
              refine g_irem (pc := 46) C dX10_lentCode_46 (by decide) ?_
              rw [pk_rem (by omega) (by decide) (by decide)]
              refine g_istore (pc := 47) C dX10_lentCode_47 (by decide) rfl ?_
              refine g_iload (pc := 49) C dX10_lentCode_49 rfl ?_
              refine g_iconst (pc := 51) (v := nI 4) C dX10_lentCode_51 (by decide) ?_
              refine g_idiv (pc := 52) C dX10_lentCode_52 (by decide) ?_
              rw [pk_div (by omega) (by decide) (by decide)]
              refine g_istore (pc := 53) C dX10_lentCode_53 (by decide) rfl ?_
              refine g_iload (pc := 55) C dX10_lentCode_55 rfl ?_
              refine g_aload_n (pc := 57) C dX10_lentCode_57 rfl ?_
              apply gf_X10_20 (pc := 58) C rfl dX10_lentCode_58
              · repeat (first | assumption | exact Cl.s (by assumption) | refine Cl.n (by first | decide | omega) ?_)
              · rfl
              refine g_iload (pc := 61) C dX10_lentCode_61 rfl ?_
              apply g_iaload (pc := 63) C dX10_lentCode_63
              · repeat (first | assumption | exact Cl.s (by assumption) | refine Cl.n (by first | decide | omega) ?_)
              · exact vp_in_nI (by omega) (by decide)
              rw [nI_clamp (by omega), hv t (by omega)]
              refine g_icmp_lt (pc := 64) C 69 dX10_lentCode_64 (by decide) (fun c64 => ?_) (fun c64 => ?_)
              · refine g_iload_n (pc := 69) C dX10_lentCode_69 rfl ?_
                refine g_aload_n (pc := 70) C dX10_lentCode_70 rfl ?_
                apply gf_X10_20 (pc := 71) C rfl dX10_lentCode_71
                · repeat (first | assumption | exact Cl.s (by assumption) | refine Cl.n (by first | decide | omega) ?_)
                · rfl
                refine g_iload (pc := 74) C dX10_lentCode_74 rfl ?_
                apply g_iaload (pc := 76) C dX10_lentCode_76
                · repeat (first | assumption | exact Cl.s (by assumption) | refine Cl.n (by first | decide | omega) ?_)
                · exact vp_in_nI (by omega) (by decide)
                rw [nI_clamp (by omega), hv t (by omega)]
                refine g_imul (pc := 77) C dX10_lentCode_77 ?_
                rw [pk_mul]
                refine g_iload (pc := 78) C dX10_lentCode_78 rfl ?_
                refine g_iadd (pc := 80) C dX10_lentCode_80 ?_
                rw [nI_add]
                refine g_istore_n (pc := 81) C dX10_lentCode_81 (by decide) rfl ?_
                refine g_iinc (pc := 82) C dX10_lentCode_82 rfl (by decide) rfl ?_
                refine g_goto (pc := 85) C 8 dX10_lentCode_85 (by decide) ?_
                exact g_to k1 ⟨rfl, rfl, lgi (by congr 1; show _ = _ * _ + lnv T (tp T i) l t; rw [el]), rfl, lgi (nI_1 t), trivial⟩
              · exact absurd (nI_lt hz (by omega)) c64
        · have e : lcI T (tp T i) l = -1 := by
            unfold lcI
            rw [if_neg (fun q => hz ((LOk_i.mp q).1 t (by omega) hb))]
          rw [e]
          refine g_iload (pc := 8) C dX10_lentCode_8 rfl ?_
          refine g_aload_n (pc := 10) C dX10_lentCode_10 rfl ?_
          apply gf_X10_17 (pc := 11) C rfl dX10_lentCode_11
          · repeat (first | assumption | exact Cl.s (by assumption) | refine Cl.n (by first | decide | omega) ?_)
          · rfl
          refine g_iconst (pc := 14) (v := nI 0) C dX10_lentCode_14 (by decide) ?_
          apply g_iaload (pc := 15) C dX10_lentCode_15
          · repeat (first | assumption | exact Cl.s (by assumption) | refine Cl.n (by first | decide | omega) ?_)
          · exact vp_in_nI (n := 0) (by decide) (by decide)
          rw [nI_clamp (by decide), e2]
          refine g_icmp_ge (pc := 16) C 88 dX10_lentCode_16 (by decide) (fun c16 => ?_) (fun c16 => ?_)
          · exact absurd c16 (nI_ge (by omega) (by omega))
          · refine g_aload_n (pc := 19) C dX10_lentCode_19 rfl ?_
            apply gf_X10_29 (pc := 20) C rfl dX10_lentCode_20
            · repeat (first | assumption | exact Cl.s (by assumption) | refine Cl.n (by first | decide | omega) ?_)
            · rfl
            refine g_iconst (pc := 23) (v := nI 5) C dX10_lentCode_23 (by decide) ?_
            refine g_iload_n (pc := 24) C dX10_lentCode_24 rfl ?_
            refine g_imul (pc := 25) C dX10_lentCode_25 ?_
            rw [pk_mul]
            refine g_iload (pc := 26) C dX10_lentCode_26 rfl ?_
            refine g_iadd (pc := 28) C dX10_lentCode_28 ?_
            rw [nI_add]
            apply g_iaload (pc := 29) C dX10_lentCode_29
            · repeat (first | assumption | exact Cl.s (by assumption) | refine Cl.n (by first | decide | omega) ?_)
            · exact vp_in_nI (by omega) (by decide)
            rw [nI_clamp (by omega), hp i hi t (by omega)]
            refine g_istore (pc := 30) C dX10_lentCode_30 (by decide) rfl ?_
            refine g_aload_n (pc := 32) C dX10_lentCode_32 rfl ?_
            apply gf_X10_23 (pc := 33) C rfl dX10_lentCode_33
            · repeat (first | assumption | exact Cl.s (by assumption) | refine Cl.n (by first | decide | omega) ?_)
            · rfl
            refine g_iload (pc := 36) C dX10_lentCode_36 rfl ?_
            apply g_iaload (pc := 38) C dX10_lentCode_38
            · repeat (first | assumption | exact Cl.s (by assumption) | refine Cl.n (by first | decide | omega) ?_)
            · exact vp_in_nI (by omega) (by decide)
            rw [nI_clamp (by omega), hl t (by omega), hb]
            refine g_iconst (pc := 39) (v := nI 1) C dX10_lentCode_39 (by decide) ?_
            refine g_icmp_nE (pc := 40) C 55 dX10_lentCode_40 (by decide) (fun c40 => ?_) (fun c40 => ?_)
            · exact absurd rfl c40
            · refine g_iload (pc := 43) C dX10_lentCode_43 rfl ?_
              refine g_iconst (pc := 45) (v := nI 4) C dX10_lentCode_45 (by decide) ?_
              refine g_irem (pc := 46) C dX10_lentCode_46 (by decide) ?_
              rw [pk_rem (by omega) (by decide) (by decide)]
              refine g_istore (pc := 47) C dX10_lentCode_47 (by decide) rfl ?_
              refine g_iload (pc := 49) C dX10_lentCode_49 rfl ?_
              refine g_iconst (pc := 51) (v := nI 4) C dX10_lentCode_51 (by decide) ?_
              refine g_idiv (pc := 52) C dX10_lentCode_52 (by decide) ?_
              rw [pk_div (by omega) (by decide) (by decide)]
              refine g_istore (pc := 53) C dX10_lentCode_53 (by decide) rfl ?_
              refine g_iload (pc := 55) C dX10_lentCode_55 rfl ?_
              refine g_aload_n (pc := 57) C dX10_lentCode_57 rfl ?_
              apply gf_X10_20 (pc := 58) C rfl dX10_lentCode_58
              · repeat (first | assumption | exact Cl.s (by assumption) | refine Cl.n (by first | decide | omega) ?_)
              · rfl
              refine g_iload (pc := 61) C dX10_lentCode_61 rfl ?_
              apply g_iaload (pc := 63) C dX10_lentCode_63
              · repeat (first | assumption | exact Cl.s (by assumption) | refine Cl.n (by first | decide | omega) ?_)
              · exact vp_in_nI (by omega) (by decide)
              rw [nI_clamp (by omega), hv t (by omega)]
              refine g_icmp_lt (pc := 64) C 69 dX10_lentCode_64 (by decide) (fun c64 => ?_) (fun c64 => ?_)
              · exact absurd c64 (nI_nlt (by omega) (by omega))
              · refine g_iconst (pc := 67) (v := -1) C dX10_lentCode_67 (by decide) ?_
                exact g_ireturn (pc := 68) C dX10_lentCode_68 rfl (rfl) (rfl)
      · have el : lnv T (tp T i) l t = tp T i t := if_neg hb
        have elf : lfd T l (t + 1) = lfd T l t := by show (if tb T t = 1 then _ else _) = _; rw [if_neg hb]
        have k1 := ih (t + 1) (by omega) (fun t' ht' hb' => by
          by_cases z : t' = t
          · rw [z] at hb'; exact absurd hb' hb
          · exact hok t' (by omega) hb')
        rw [elf] at k1
        refine g_iload (pc := 8) C dX10_lentCode_8 rfl ?_
        refine g_aload_n (pc := 10) C dX10_lentCode_10 rfl ?_
        apply gf_X10_17 (pc := 11) C rfl dX10_lentCode_11
        · repeat (first | assumption | exact Cl.s (by assumption) | refine Cl.n (by first | decide | omega) ?_)
        · rfl
        refine g_iconst (pc := 14) (v := nI 0) C dX10_lentCode_14 (by decide) ?_
        apply g_iaload (pc := 15) C dX10_lentCode_15
        · repeat (first | assumption | exact Cl.s (by assumption) | refine Cl.n (by first | decide | omega) ?_)
        · exact vp_in_nI (n := 0) (by decide) (by decide)
        rw [nI_clamp (by decide), e2]
        refine g_icmp_ge (pc := 16) C 88 dX10_lentCode_16 (by decide) (fun c16 => ?_) (fun c16 => ?_)
        · exact absurd c16 (nI_ge (by omega) (by omega))
        · refine g_aload_n (pc := 19) C dX10_lentCode_19 rfl ?_
          apply gf_X10_29 (pc := 20) C rfl dX10_lentCode_20
          · repeat (first | assumption | exact Cl.s (by assumption) | refine Cl.n (by first | decide | omega) ?_)
          · rfl
          refine g_iconst (pc := 23) (v := nI 5) C dX10_lentCode_23 (by decide) ?_
          refine g_iload_n (pc := 24) C dX10_lentCode_24 rfl ?_
          refine g_imul (pc := 25) C dX10_lentCode_25 ?_
          rw [pk_mul]
          refine g_iload (pc := 26) C dX10_lentCode_26 rfl ?_
          refine g_iadd (pc := 28) C dX10_lentCode_28 ?_
          rw [nI_add]
          apply g_iaload (pc := 29) C dX10_lentCode_29
          · repeat (first | assumption | exact Cl.s (by assumption) | refine Cl.n (by first | decide | omega) ?_)
          · exact vp_in_nI (by omega) (by decide)
          rw [nI_clamp (by omega), hp i hi t (by omega)]
          refine g_istore (pc := 30) C dX10_lentCode_30 (by decide) rfl ?_
          refine g_aload_n (pc := 32) C dX10_lentCode_32 rfl ?_
          apply gf_X10_23 (pc := 33) C rfl dX10_lentCode_33
          · repeat (first | assumption | exact Cl.s (by assumption) | refine Cl.n (by first | decide | omega) ?_)
          · rfl
          refine g_iload (pc := 36) C dX10_lentCode_36 rfl ?_
          apply g_iaload (pc := 38) C dX10_lentCode_38
          · repeat (first | assumption | exact Cl.s (by assumption) | refine Cl.n (by first | decide | omega) ?_)
          · exact vp_in_nI (by omega) (by decide)
          rw [nI_clamp (by omega), hl t (by omega)]
          refine g_iconst (pc := 39) (v := nI 1) C dX10_lentCode_39 (by decide) ?_
          refine g_icmp_nE (pc := 40) C 55 dX10_lentCode_40 (by decide) (fun c40 => ?_) (fun c40 => ?_)
          · refine g_iload (pc := 55) C dX10_lentCode_55 rfl ?_
            refine g_aload_n (pc := 57) C dX10_lentCode_57 rfl ?_
            apply gf_X10_20 (pc := 58) C rfl dX10_lentCode_58
            · repeat (first | assumption | exact Cl.s (by assumption) | refine Cl.n (by first | decide | omega) ?_)
            · rfl
            refine g_iload (pc := 61) C dX10_lentCode_61 rfl ?_
            apply g_iaload (pc := 63) C dX10_lentCode_63
            · repeat (first | assumption | exact Cl.s (by assumption) | refine Cl.n (by first | decide | omega) ?_)
            · exact vp_in_nI (by omega) (by decide)
            rw [nI_clamp (by omega), hv t (by omega)]
            refine g_icmp_lt (pc := 64) C 69 dX10_lentCode_64 (by decide) (fun c64 => ?_) (fun c64 => ?_)
            · refine g_iload_n (pc := 69) C dX10_lentCode_69 rfl ?_
              refine g_aload_n (pc := 70) C dX10_lentCode_70 rfl ?_
              apply gf_X10_20 (pc := 71) C rfl dX10_lentCode_71
              · repeat (first | assumption | exact Cl.s (by assumption) | refine Cl.n (by first | decide | omega) ?_)
              · rfl
              refine g_iload (pc := 74) C dX10_lentCode_74 rfl ?_
              apply g_iaload (pc := 76) C dX10_lentCode_76
              · repeat (first | assumption | exact Cl.s (by assumption) | refine Cl.n (by first | decide | omega) ?_)
              · exact vp_in_nI (by omega) (by decide)
              rw [nI_clamp (by omega), hv t (by omega)]
              refine g_imul (pc := 77) C dX10_lentCode_77 ?_
              rw [pk_mul]
              refine g_iload (pc := 78) C dX10_lentCode_78 rfl ?_
              refine g_iadd (pc := 80) C dX10_lentCode_80 ?_
              rw [nI_add]
              refine g_istore_n (pc := 81) C dX10_lentCode_81 (by decide) rfl ?_
              refine g_iinc (pc := 82) C dX10_lentCode_82 rfl (by decide) rfl ?_
              refine g_goto (pc := 85) C 8 dX10_lentCode_85 (by decide) ?_
              exact g_to k1 ⟨rfl, rfl, lgi (by congr 1; show _ = _ * _ + lnv T (tp T i) l t; rw [el]), rfl, lgi (nI_1 t), trivial⟩
            · exact absurd (nI_lt hpt (by omega)) c64
          · exact absurd ((nI_eq (by omega) (by decide)).mp c40) hb
  refine g_iconst (pc := 0) (v := nI 0) C dX10_lentCode_0 (by decide) ?_
  refine g_istore_n (pc := 1) C dX10_lentCode_1 (by decide) rfl ?_
  refine g_iload_n (pc := 2) C dX10_lentCode_2 rfl ?_
  refine g_istore (pc := 3) C dX10_lentCode_3 (by decide) rfl ?_
  refine g_iconst (pc := 5) (v := nI 0) C dX10_lentCode_5 (by decide) ?_
  refine g_istore (pc := 6) C dX10_lentCode_6 (by decide) rfl ?_
  exact g_to (loop (tn T) 0 (by omega) (fun t' ht' => absurd ht' (Nat.not_lt_zero _))) ⟨rfl, rfl, rfl, rfl, rfl, trivial⟩
theorem r_others (h0 : Cl G σ 0 (cRef G len at_ kept done rm)) (hT : QT G σ T) {i c : Nat} (hi : i < tm T) (hc : c < 1024) : Mt G mX10_others [.ref (ga G 0), .int (nI i), .int (nI c)] σ (some (.int (nI (dfn T (tp T i) (gd T c))))) σ := by
  obtain ⟨ft, fn, fv, fl, fm, fp, h2, h3, h4, h5, h6, h7, hW, h1, e0, e1, e2, e3, hv, hl, hp⟩ := id hT
  have hn := hW.1
  have hm := hW.2.2.2.2.1
  rw [dfn_sum hn]
  refine Mt.of (by decide +kernel) (Nat.le_of_ble_eq_true rfl) (fun κ C => ?_)
  have loop : ∀ d t, t + d = tn T → Go G mX10_others κ (some (.int (nI (sumc (fun t => tp T i t != gd T c t) (tn T))))) σ σ 5 [(0, .ref (ga G 0)), (1, .int (nI i)), (2, .int (nI c)), (3, .int (nI (sumc (fun t => tp T i t != gd T c t) t))), (4, .int (nI t))] [] := by
    intro d
    induction d with
    | zero =>
      intro t ht
      refine g_iload (pc := 5) C dX10_others_5 rfl ?_
      refine g_aload_n (pc := 7) C dX10_others_7 rfl ?_
      apply gf_X10_17 (pc := 8) C rfl dX10_others_8
      · repeat (first | assumption | exact Cl.s (by assumption) | refine Cl.n (by first | decide | omega) ?_)
      · rfl
      refine g_iconst (pc := 11) (v := nI 0) C dX10_others_11 (by decide) ?_
      apply g_iaload (pc := 12) C dX10_others_12
      · repeat (first | assumption | exact Cl.s (by assumption) | refine Cl.n (by first | decide | omega) ?_)
      · exact vp_in_nI (n := 0) (by decide) (by decide)
      rw [nI_clamp (by decide), e2]
      refine g_icmp_ge (pc := 13) C 51 dX10_others_13 (by decide) (fun c13 => ?_) (fun c13 => ?_)
      · refine g_iload_n (pc := 51) C dX10_others_51 rfl ?_
        exact g_ireturn (pc := 52) C dX10_others_52 rfl (by rw [show t = tn T by omega]) (rfl)
      · exact absurd (nI_le (by omega) (by omega)) c13
    | succ d ih =>
      intro t ht
      have g4 : gd T c t < 4 := dgv_4 hW c t (by omega)
      have p4 := hT.p4 hi t (by omega)
      have k1 := ih (t + 1) (by omega)
      by_cases hd : gd T c t = tp T i t
      · refine g_iload (pc := 5) C dX10_others_5 rfl ?_
        refine g_aload_n (pc := 7) C dX10_others_7 rfl ?_
        apply gf_X10_17 (pc := 8) C rfl dX10_others_8
        · repeat (first | assumption | exact Cl.s (by assumption) | refine Cl.n (by first | decide | omega) ?_)
        · rfl
        refine g_iconst (pc := 11) (v := nI 0) C dX10_others_11 (by decide) ?_
        apply g_iaload (pc := 12) C dX10_others_12
        · repeat (first | assumption | exact Cl.s (by assumption) | refine Cl.n (by first | decide | omega) ?_)
        · exact vp_in_nI (n := 0) (by decide) (by decide)
        rw [nI_clamp (by decide), e2]
        refine g_icmp_ge (pc := 13) C 51 dX10_others_13 (by decide) (fun c13 => ?_) (fun c13 => ?_)
        · exact absurd c13 (nI_ge (by omega) (by omega))
        · refine g_iload_n (pc := 16) C dX10_others_16 rfl ?_
          refine g_aload_n (pc := 17) C dX10_others_17 rfl ?_
          refine g_iload_n (pc := 18) C dX10_others_18 rfl ?_
          refine g_iload (pc := 19) C dX10_others_19 rfl ?_
          apply cl_X10_170 (pc := 21) C rfl (r_valueOf h0 hT hc (by omega)) dX10_others_21
          · repeat (first | assumption | exact Cl.s (by assumption) | refine Cl.n (by first | decide | omega) ?_)
          · rfl
          · exact Nat.le_of_ble_eq_true rfl
          refine g_aload_n (pc := 24) C dX10_others_24 rfl ?_
          apply gf_X10_29 (pc := 25) C rfl dX10_others_25
          · repeat (first | assumption | exact Cl.s (by assumption) | refine Cl.n (by first | decide | omega) ?_)
          · rfl
          refine g_iconst (pc := 28) (v := nI 5) C dX10_others_28 (by decide) ?_
          refine g_iload_n (pc := 29) C dX10_others_29 rfl ?_
          refine g_imul (pc := 30) C dX10_others_30 ?_
          rw [pk_mul]
          refine g_iload (pc := 31) C dX10_others_31 rfl ?_
          refine g_iadd (pc := 33) C dX10_others_33 ?_
          rw [nI_add]
          apply g_iaload (pc := 34) C dX10_others_34
          · repeat (first | assumption | exact Cl.s (by assumption) | refine Cl.n (by first | decide | omega) ?_)
          · exact vp_in_nI (by omega) (by decide)
          rw [nI_clamp (by omega), hp i hi t (by omega)]
          refine g_icmp_eq (pc := 35) C 42 dX10_others_35 (by decide) (fun c35 => ?_) (fun c35 => ?_)
          · refine g_iconst (pc := 42) (v := nI 0) C dX10_others_42 (by decide) ?_
            refine g_iadd (pc := 43) C dX10_others_43 ?_
            refine g_istore_n (pc := 44) C dX10_others_44 (by decide) rfl ?_
            refine g_iinc (pc := 45) C dX10_others_45 rfl (by decide) rfl ?_
            refine g_goto (pc := 48) C 5 dX10_others_48 (by decide) ?_
            exact g_to k1 ⟨rfl, rfl, rfl, lgi (by rw [nI_add]; congr 1; show _ = _ + b2 (tp T i t != gd T c t); rw [hd]; simp [b2]), lgi (nI_1 t), trivial⟩
          · exact absurd (by rw [hd]) c35
      · have hd' : (tp T i t != gd T c t) = true := by simpa using fun z => hd z.symm
        refine g_iload (pc := 5) C dX10_others_5 rfl ?_
        refine g_aload_n (pc := 7) C dX10_others_7 rfl ?_
        apply gf_X10_17 (pc := 8) C rfl dX10_others_8
        · repeat (first | assumption | exact Cl.s (by assumption) | refine Cl.n (by first | decide | omega) ?_)
        · rfl
        refine g_iconst (pc := 11) (v := nI 0) C dX10_others_11 (by decide) ?_
        apply g_iaload (pc := 12) C dX10_others_12
        · repeat (first | assumption | exact Cl.s (by assumption) | refine Cl.n (by first | decide | omega) ?_)
        · exact vp_in_nI (n := 0) (by decide) (by decide)
        rw [nI_clamp (by decide), e2]
        refine g_icmp_ge (pc := 13) C 51 dX10_others_13 (by decide) (fun c13 => ?_) (fun c13 => ?_)
        · exact absurd c13 (nI_ge (by omega) (by omega))
        · refine g_iload_n (pc := 16) C dX10_others_16 rfl ?_
          refine g_aload_n (pc := 17) C dX10_others_17 rfl ?_
          refine g_iload_n (pc := 18) C dX10_others_18 rfl ?_
          refine g_iload (pc := 19) C dX10_others_19 rfl ?_
          apply cl_X10_170 (pc := 21) C rfl (r_valueOf h0 hT hc (by omega)) dX10_others_21
          · repeat (first | assumption | exact Cl.s (by assumption) | refine Cl.n (by first | decide | omega) ?_)
          · rfl
          · exact Nat.le_of_ble_eq_true rfl
          refine g_aload_n (pc := 24) C dX10_others_24 rfl ?_
          apply gf_X10_29 (pc := 25) C rfl dX10_others_25
          · repeat (first | assumption | exact Cl.s (by assumption) | refine Cl.n (by first | decide | omega) ?_)
          · rfl
          refine g_iconst (pc := 28) (v := nI 5) C dX10_others_28 (by decide) ?_
          refine g_iload_n (pc := 29) C dX10_others_29 rfl ?_
          refine g_imul (pc := 30) C dX10_others_30 ?_
          rw [pk_mul]
          refine g_iload (pc := 31) C dX10_others_31 rfl ?_
          refine g_iadd (pc := 33) C dX10_others_33 ?_
          rw [nI_add]
          apply g_iaload (pc := 34) C dX10_others_34
          · repeat (first | assumption | exact Cl.s (by assumption) | refine Cl.n (by first | decide | omega) ?_)
          · exact vp_in_nI (by omega) (by decide)
          rw [nI_clamp (by omega), hp i hi t (by omega)]
          refine g_icmp_eq (pc := 35) C 42 dX10_others_35 (by decide) (fun c35 => ?_) (fun c35 => ?_)
          · exact absurd ((nI_eq (by omega) (by omega)).mp c35) hd
          · refine g_iconst (pc := 38) (v := nI 1) C dX10_others_38 (by decide) ?_
            refine g_goto (pc := 39) C 43 dX10_others_39 (by decide) ?_
            refine g_iadd (pc := 43) C dX10_others_43 ?_
            refine g_istore_n (pc := 44) C dX10_others_44 (by decide) rfl ?_
            refine g_iinc (pc := 45) C dX10_others_45 rfl (by decide) rfl ?_
            refine g_goto (pc := 48) C 5 dX10_others_48 (by decide) ?_
            exact g_to k1 ⟨rfl, rfl, rfl, lgi (by rw [nI_add]; congr 1; show _ = _ + b2 (tp T i t != gd T c t); rw [hd']; rfl), lgi (nI_1 t), trivial⟩
  refine g_iconst (pc := 0) (v := nI 0) C dX10_others_0 (by decide) ?_
  refine g_istore_n (pc := 1) C dX10_others_1 (by decide) rfl ?_
  refine g_iconst (pc := 2) (v := nI 0) C dX10_others_2 (by decide) ?_
  refine g_istore (pc := 3) C dX10_others_3 (by decide) rfl ?_
  exact g_to (loop (tn T) 0 (by omega)) ⟨rfl, rfl, rfl, rfl, rfl, trivial⟩
theorem r_goesWith (h0 : Cl G σ 0 (cRef G len at_ kept done rm)) (hT : QT G σ T) {a c : Nat} (ha : a < 1024) (hc : c < 1024) : Mt G mX10_goesWith [.ref (ga G 0), .int (nI a), .int (nI c)] σ (some (.int (nI (b2 (mfl T (gd T a) (gd T c)))))) σ := by
  obtain ⟨ft, fn, fv, fl, fm, fp, h2, h3, h4, h5, h6, h7, hW, h1, e0, e1, e2, e3, hv, hl, hp⟩ := id hT
  have hn := hW.1
  have hlaw := hW.2.2.2.2.2.2.1
  have hs32 := DD_lt hn (gd T a) (gd T c)
  refine Mt.of (by decide +kernel) (Nat.le_of_ble_eq_true rfl) (fun κ C => ?_)
  by_cases hl2 : tl T = 2
  · have e : mfl T (gd T a) (gd T c) = ps 0 (DD T (gd T a) (gd T c)) 0 := by
      unfold mfl
      rw [hl2]
      exact ps_20 _
    rw [e]
    refine g_aload_n (pc := 0) C dX10_goesWith_0 rfl ?_
    apply gf_X10_13 (pc := 1) C rfl dX10_goesWith_1
    · repeat (first | assumption | exact Cl.s (by assumption) | refine Cl.n (by first | decide | omega) ?_)
    · rfl
    refine g_iconst (pc := 4) (v := nI 0) C dX10_goesWith_4 (by decide) ?_
    apply g_iaload (pc := 5) C dX10_goesWith_5
    · repeat (first | assumption | exact Cl.s (by assumption) | refine Cl.n (by first | decide | omega) ?_)
    · exact vp_in_nI (n := 0) (by decide) (by decide)
    rw [nI_clamp (by decide), e0]
    refine g_iconst (pc := 6) (v := nI 2) C dX10_goesWith_6 (by decide) ?_
    refine g_icmp_nE (pc := 7) C 14 dX10_goesWith_7 (by decide) (fun c7 => ?_) (fun c7 => ?_)
    · exact absurd (by rw [hl2]) c7
    · refine g_iconst (pc := 10) (v := nI 0) C dX10_goesWith_10 (by decide) ?_
      refine g_goto (pc := 11) C 20 dX10_goesWith_11 (by decide) ?_
      refine g_aload_n (pc := 20) C dX10_goesWith_20 rfl ?_
      refine g_iload_n (pc := 21) C dX10_goesWith_21 rfl ?_
      refine g_iload_n (pc := 22) C dX10_goesWith_22 rfl ?_
      apply cl_X10_176 (pc := 23) C rfl (r_unlikeCodes h0 hT ha hc) dX10_goesWith_23
      · repeat (first | assumption | exact Cl.s (by assumption) | refine Cl.n (by first | decide | omega) ?_)
      · rfl
      · exact Nat.le_of_ble_eq_true rfl
      refine g_iconst (pc := 26) (v := nI 0) C dX10_goesWith_26 (by decide) ?_
      refine cl_X10_146 (pc := 27) C rfl (r_passes (by decide) (by omega) (by decide)) dX10_goesWith_27 rfl (Nat.le_of_ble_eq_true rfl) ?_
      exact g_zreturn (pc := 30) C dX10_goesWith_30 rfl (b2_01 _) (rfl) (rfl)
  · refine g_aload_n (pc := 0) C dX10_goesWith_0 rfl ?_
    apply gf_X10_13 (pc := 1) C rfl dX10_goesWith_1
    · repeat (first | assumption | exact Cl.s (by assumption) | refine Cl.n (by first | decide | omega) ?_)
    · rfl
    refine g_iconst (pc := 4) (v := nI 0) C dX10_goesWith_4 (by decide) ?_
    apply g_iaload (pc := 5) C dX10_goesWith_5
    · repeat (first | assumption | exact Cl.s (by assumption) | refine Cl.n (by first | decide | omega) ?_)
    · exact vp_in_nI (n := 0) (by decide) (by decide)
    rw [nI_clamp (by decide), e0]
    refine g_iconst (pc := 6) (v := nI 2) C dX10_goesWith_6 (by decide) ?_
    refine g_icmp_nE (pc := 7) C 14 dX10_goesWith_7 (by decide) (fun c7 => ?_) (fun c7 => ?_)
    · refine g_aload_n (pc := 14) C dX10_goesWith_14 rfl ?_
      apply gf_X10_13 (pc := 15) C rfl dX10_goesWith_15
      · repeat (first | assumption | exact Cl.s (by assumption) | refine Cl.n (by first | decide | omega) ?_)
      · rfl
      refine g_iconst (pc := 18) (v := nI 0) C dX10_goesWith_18 (by decide) ?_
      apply g_iaload (pc := 19) C dX10_goesWith_19
      · repeat (first | assumption | exact Cl.s (by assumption) | refine Cl.n (by first | decide | omega) ?_)
      · exact vp_in_nI (n := 0) (by decide) (by decide)
      rw [nI_clamp (by decide), e0]
      refine g_aload_n (pc := 20) C dX10_goesWith_20 rfl ?_
      refine g_iload_n (pc := 21) C dX10_goesWith_21 rfl ?_
      refine g_iload_n (pc := 22) C dX10_goesWith_22 rfl ?_
      apply cl_X10_176 (pc := 23) C rfl (r_unlikeCodes h0 hT ha hc) dX10_goesWith_23
      · repeat (first | assumption | exact Cl.s (by assumption) | refine Cl.n (by first | decide | omega) ?_)
      · rfl
      · exact Nat.le_of_ble_eq_true rfl
      refine g_iconst (pc := 26) (v := nI 0) C dX10_goesWith_26 (by decide) ?_
      refine cl_X10_146 (pc := 27) C rfl (r_passes hlaw (by omega) (by decide)) dX10_goesWith_27 rfl (Nat.le_of_ble_eq_true rfl) ?_
      exact g_zreturn (pc := 30) C dX10_goesWith_30 rfl (b2_01 _) (rfl) (rfl)
    · exact absurd ((nI_eq (by omega) (by decide)).mp c7) hl2
end RN2

