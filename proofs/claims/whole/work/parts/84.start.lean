theorem ds_X9i : descOk mX9_init 0 := by refine ⟨?_, ?_, ?_⟩ <;> decide +kernel
theorem ds_X10i : descOk mX10_init 0 := by refine ⟨?_, ?_, ?_⟩ <;> decide +kernel
theorem v_20 : (Cond.classLink "UnlikeGateLaw" (7) "UnlikeGate") ∈ GW := gw_tbl (List.mem_of_getElem? (i := 20) (by decide +kernel)) (by decide +kernel)
theorem v_22 : (Cond.methodLink "UnlikeGateLaw" (9) yX9_init) ∈ GW := gw_tbl (List.mem_of_getElem? (i := 22) (by decide +kernel)) (by decide +kernel)
theorem v_23 : (Cond.instanceMethod yX9_init) ∈ GW := gw_tbl (List.mem_of_getElem? (i := 23) (by decide +kernel)) (by decide +kernel)
theorem v_24 : Cond.code yX9_init cX9_init 2 none ∈ GW := gw_tbl (List.mem_of_getElem? (i := 24) (by decide +kernel)) (by decide +kernel)
theorem v_725 : (Cond.classLink "UnlikeGateLaw" (10) "UnlikeGateModel") ∈ GW := gw_tbl (List.mem_of_getElem? (i := 725) (by decide +kernel)) (by decide +kernel)
theorem v_727 : (Cond.methodLink "UnlikeGateLaw" (12) yX10_init) ∈ GW := gw_tbl (List.mem_of_getElem? (i := 727) (by decide +kernel)) (by decide +kernel)
theorem v_728 : (Cond.instanceMethod yX10_init) ∈ GW := gw_tbl (List.mem_of_getElem? (i := 728) (by decide +kernel)) (by decide +kernel)
theorem v_729 : Cond.code yX10_init cX10_init 1 none ∈ GW := gw_tbl (List.mem_of_getElem? (i := 729) (by decide +kernel)) (by decide +kernel)
/-! THE CLAIM OUT OF ONE WALK OF THE LAW'S BODY. Your part is whole_start (and what it stands on); all else here is the same for every law, but numbers. -/
def R_law : String := "UnlikeGateLaw"
def lw_P (b : Addr) (xs : List Int32) (args : Array Value) (s : State) : Prop := args = #[.ref b] ∧ s.IntsAt b xs ∧ xs.length ≤ 2048 ∧ (Jvm.Cond.and given_1 narrow_1).before args s = true
def lw_Q (_ : Array Value) (s : State) (o : Outcome) (t : State) : Prop := o = .returned (some (.int 1)) ∧ Framed s o t [] 46 17118
def lw_Z (below : List Frame) (a : Array Value) (s : State) : State → Prop := fun t => ∃ o, t.status = .running ∧ Ended t below o ∧ lw_Q a s o t
/-- the law's own end, with 1 on the stack, nothing written that was there before, its room as the claim has it -/
theorem lw_ret {p : Program} {l : Launch} {e : Env} {s : State} {m : MethodId} {below : List Frame} {meth : Method} {c : Code} {b : Nat} (hx : p.tables.exec = Jvm.exec) (hb : c.code = code) (hr : meth.sig.returnType = ret) (hlocks : meth.locks = false) {pc : Nat} {H : Heap} {ls : Array Slot} (hdg : decode code pc = .ok (.ireturn, 1)) : W p l e room_1 s m #[Value.ref b] below meth c H [] 46 17118 (lw_Z below #[Value.ref b] s) (F0 m pc ls [.int 1]) := by
  intro T hT X
  obtain ⟨fs, hret, hrun, hended, hW, hframe⟩ := X.leave (v := some (.int 1)) (hlocks := hlocks) (fun h => by rw [hr] at h; cases h)
  have hmeth' : T.vm.method? m = some meth := X.method'
  refine ⟨T.setFrames fs, ?_, .returned (some (.int 1)), hrun, hended, rfl, ⟨_, rfl⟩, hW, hframe⟩
  jvm_step X.here [X.here.top, hx, hb, hdg, hmeth', hr, ret, narrow_b1]
  (try refine ⟨rfl, ?_⟩); (try refine ⟨rfl, ?_⟩)
  first | (intro acts; rw [hret _ acts rfl rfl rfl]) | rw [hret _ _ rfl rfl rfl]
  exact Steps.refl _
/-- what holds at the law's entry: the machine, the code, the tables' words (any of lw_tbl by 'hts w (by decide +kernel)'), the script of L ints xs at the cell b, what the Statement gives of the start (any of its parts by flat_of_before) -/
def lw_At (p : Program) (s : State) (m : MethodId) (meth : Method) (c : Code) (b L : Nat) (xs : Nat → Int32) : Prop :=
  p.tables.exec = Jvm.exec ∧ c.code = code ∧ meth.sig.returnType = ret ∧ c.maxLocals = 4 ∧ s.vm.findClass R_law = some m.cls ∧ (∀ w ∈ lw_tbl, w.before #[Value.ref b] s = true) ∧ va_X b L xs s s.heap ∧ b < s.heap.size ∧ meth.locks = false ∧ (Jvm.Cond.and given_1 narrow_1).before #[Value.ref b] s = true
-- ===== YOUR PART BEGINS =====
theorem nest_on {w : Cond} (h : w ∈ nestW) : w.onTables = true := by
  have h2 := (List.mem_filter.mp h).2
  cases w <;> first | (simp [isNest] at h2; done) | rfl
theorem EX9.blind : ∀ (h0 sz : Nat) (U : State) g mk a, EX9 h0 sz U → EX9 h0 sz (U.calling g mk a) := by
  intro h0 sz U g mk a h
  obtain ⟨h1, q, v, f, h2, h3⟩ := h
  exact ⟨h1.warm (U := U.calling g mk a) (H := U.heap) (locs := []) rfl va_S.rf (fun _ h => h) (Vm.Alike.refl U.vm), q, v, f, vk_R.same (u := U) (U := U.calling g mk a) rfl h2, h3.warm (U := U.calling g mk a) (H := U.heap) (locs := []) rfl va_S.rf (fun _ h => h) (Vm.Alike.refl U.vm)⟩
theorem H10.blind : ∀ (h0 sz : Nat) (U : State) g mk a, HoldX (va_A [(h0, .inr (10, [.int 0, .null, .int 0, .null, .null, .null, .null, .null, .null, .null, .int 0, .int 0, .null, .int 0, .null, .null, .null, .null, .null, .null, .null, .null, .null]))] sz) U → HoldX (va_A [(h0, .inr (10, [.int 0, .null, .int 0, .null, .null, .null, .null, .null, .null, .null, .int 0, .int 0, .null, .int 0, .null, .null, .null, .null, .null, .null, .null, .null, .null]))] sz) (U.calling g mk a) := fun h0 sz U g mk a h => h.warm (U := U.calling g mk a) (H := U.heap) (locs := []) rfl va_S.rf (fun _ h => h) (Vm.Alike.refl U.vm)
theorem A_sub {X : XX} {ws : va_W} {q0 : Nat × va_E} {H : Heap} (hP : PW X (ws ++ [q0]) H) (hup : ∀ q, H.size ≤ q → xA X q) : ∀ q, va_A [q0] H.size q → xA X q := by
  intro q h
  rcases h with ⟨k2, e, h⟩ | h
  · have hk2 : k2 < 1 := (List.getElem?_eq_some_iff.mp h).1
    rw [show k2 = 0 by omega] at h
    have h : q0 = (q, e) := Option.some.inj h
    have := hP.2.2 ws.length q0 (by simp)
    rw [h] at this
    exact this
  · exact hup q h
theorem n_exB {X : XX} {κ : KK} {Q : State → Prop} {cs sl pc : Nat} {lv : List (Nat × Value)} {st : List Value} {Ψ : GG → WW → Prop} (k : ∀ G σ, Ψ G σ → Gn X κ Q (WP G σ) cs sl pc lv st) : Gn X κ Q (fun H => ∃ G σ, Ψ G σ ∧ WP G σ H) cs sl pc lv st := fun H locs ls hP hS hl => by
  obtain ⟨G, σ, h1, h2⟩ := hP
  exact k G σ h1 H locs ls h2 hS hl
theorem memS : ∀ j, j < 22 → Cond.eq (.elem (.field (.string "UnlikeGate" 75) "java/lang/String" "value" "[B") (.int (Int32.ofNat j))) (.int ((([bytS] : List (List Int32)).getD 0 []).getD j 0)) ∈ flatC (Jvm.Cond.and given_1 narrow_1) := by decide +kernel
theorem memH : ∀ j, j < 5 → Cond.eq (.elem (.static "UnlikeGate$Strangers" "HOLDING" "[I") (.int (Int32.ofNat j))) (.int (if j = 0 then (-1431655766) else if j = 1 then (-858993460) else if j = 2 then (-252645136) else if j = 3 then (-16711936) else (-65536))) ∈ flatC (Jvm.Cond.and given_1 narrow_1) := by decide +kernel
/-- from the entry, for every script of at most 2048 ints, the law comes to its end with true -/
theorem whole_start {p : Program} {e : Env} {s : State} {m : MethodId} {below : List Frame} {meth : Method} {c : Code} (l : Launch) {b L : Nat} {xs : Nat → Int32} (hL : L ≤ 2048) (C0 : lw_At p s m meth c b L xs) : W p l e room_1 s m #[Value.ref b] below meth c s.heap [] 0 0 (lw_Z below #[Value.ref b] s) (entryFrame m ([Value.ref b] : List Value).toArray 4) := by
  obtain ⟨hx, hb, hr, hml, hown, hts, hX, hbl, hlocks, hgv⟩ := id C0
  have htsG : ∀ w ∈ GW, w.before #[Value.ref b] s = true := fun w hw => hts w (List.mem_filter.mp hw).1
  have hnest : ∀ w ∈ nestW, va_Nw w s := fun w hw => va_Nw.of (nest_on hw) (hts w (List.mem_append_right _ (List.mem_filter.mp hw).1))
  obtain ⟨D, t, hK⟩ := K_of htsG
  have hA : ∀ a : Nat, a < s.heap.size → ¬ zA s.heap.size a := fun a h => Nat.not_le.mpr h
  have hs := flat_of_before _ hgv
  have hHold : HoldX (zA s.heap.size) s := by
    obtain ⟨th, e1, hT⟩ := va_Tof (tm := .static "UnlikeGate$Strangers" "HOLDING" "[I") (ty := .int) (N := 5) (f := holdV) (A := zA s.heap.size) (by decide) (hs _ (by decide +kernel)) (va_eqt (hs _ (by decide +kernel))) (fun j hj => va_eqt (hs _ (memH j hj))) hA
    exact ⟨th, va_Zof (hts _ (List.mem_append_right _ (List.mem_of_getElem? (i := 627) (by decide +kernel)))) (hts _ (List.mem_append_right _ (List.mem_of_getElem? (i := 8) (by decide +kernel)))) e1 hA, hT⟩
  have hStr : ∃ a v f, vk_R RX9 75 txS a s ∧ StrO (zA s.heap.size) a v f s := by
    obtain ⟨adK, adV, hS1, hS2⟩ := vk_Sof (args := #[Value.ref b]) (s := s) (N := 1) (tm := fun _ => .string "UnlikeGate" 75) (len := [22]) (byt := [bytS]) (A := zA s.heap.size) (show ∀ i : Nat, i < 1 → ([22] : List Nat).getD i 0 < 2 ^ 31 by decide) (fun i hi => hs _ (by decide +kernel)) (fun i hi => hs _ (by decide +kernel)) (fun i hi => hs _ (by decide +kernel)) (fun i hi => by
      obtain rfl : i = 0 := by omega
      exact hs _ (by decide +kernel)) (fun i hi j hj => by
      obtain rfl : i = 0 := by omega
      exact hs _ (memS j hj)) (fun i j hi hj hij => absurd (by omega) hij) hA
    obtain ⟨s1, s2, s3, s4⟩ := hS1.1 0 (by decide)
    have hC : va_Z "java/lang/String" "COMPACT_STRINGS" "Z" (.int 1) (zA s.heap.size) s s.heap := va_Zof (C := "java/lang/String") (n := "COMPACT_STRINGS") (d := "Z") (hts _ (List.mem_append_right _ (List.mem_of_getElem? (i := 205) (by decide +kernel)))) (hts _ (List.mem_append_right _ (List.mem_of_getElem? (i := 11) (by decide +kernel)))) (va_eqi (z := 1) (hs _ (by decide +kernel))) hA
    have hF := va_Zqof (C := "jdk/internal/util/Preconditions") (n := "SIOOBE_FORMATTER") (d := "Ljava/util/function/BiFunction;") (hts _ (List.mem_append_right _ (List.mem_of_getElem? (i := 221) (by decide +kernel)))) (hts _ (List.mem_append_right _ (List.mem_of_getElem? (i := 13) (by decide +kernel)))) (hs _ (by decide +kernel)) hA
    have hR : vk_R RX9 75 txS (adK 0) s := vk_R.of (hts _ (List.mem_append_right _ (List.mem_of_getElem? (i := 195) (by decide +kernel)))) (hS2 0 (by decide))
    rcases hF with hF | ⟨q, hF⟩
    · exact ⟨adK 0, adV 0, none, hR, s1, s2, s3, s4, hC, hF⟩
    · exact ⟨adK 0, adV 0, some q, hR, s1, s2, s3, s4, hC, hF⟩
  have C : Cn (xL l D t s.heap.size) (p, e, s, m, #[Value.ref b], below, meth, c) := ⟨hx, hb, hml, hown, htsG, fun q h => h, hK, hnest, hlocks⟩
  have kend : Gn (xL l D t s.heap.size) (p, e, s, m, #[Value.ref b], below, meth, c) (lw_Z below #[Value.ref b] s) (fun _ => True) 46 17118 786 [] [] := by
    refine n_iconst (pc := 786) (v := 1) C dL_law_786 (by decide) ?_
    intro H locs ls _ hS _
    exact va_forget (fun q hq => hS.2.2 q hq) (lw_ret hx hb hr hlocks dL_law_787)
  have hl := lv_entry ([.ref b]) (n := 4) (Nat.le_of_ble_eq_true rfl)
  rw [lg_entry_eq]
  have main : Gn (xL l D t s.heap.size) (p, e, s, m, #[Value.ref b], below, meth, c) (lw_Z below #[Value.ref b] s) (PW (xL l D t s.heap.size) []) 0 0 0 [(0, .ref b)] [] := by
    refine n_new (pc := 0) (fs := [.null, .null, .null, .null, .null, .null, .null, .null, .null, .null]) (ci := 9) C dL_law_0 rfl inGX9 tyX9_ok v_20 v_21 w_1 (by decide) (Nat.le_of_ble_eq_true rfl) (Nat.le_of_ble_eq_true rfl) (fun q1 => ?_)
    refine n_dup (pc := 3) C dL_law_3 rfl ?_
    refine n_callI (pc := 4) (ws := []) (Φ1 := fun H => ∃ G σ, (BaseG l D t 27 q1 (zA s.heap.size) G ∧ AllC G σ 0 xS0 T0 hh0 0 (fun _ => 0)) ∧ WP G σ H) C (i_X9 l D t) EX9.blind (fun H locs U hP hS hU hW => ?_) dL_law_4 v_24 rfl v_22 w_1 v_23 rfl ds_X9i ⟨Nat.le_of_ble_eq_true rfl, Nat.le_of_ble_eq_true rfl⟩ (Nat.le_of_ble_eq_true rfl) (Nat.le_of_ble_eq_true rfl) (Nat.le_of_ble_eq_true rfl) (fun H H1 hP hup hk hB => ?_) ?_
    · obtain ⟨a, v, f, g1, g2⟩ := hStr
      have hsub : ∀ q, va_A [(q1, .inr (9, [.null, .null, .null, .null, .null, .null, .null, .null, .null, .null]))] H.size q → zA s.heap.size q := A_sub (ws := []) hP (fun q h => Nat.le_trans hS.1 h)
      exact ⟨hHold.warm hU hS hsub hW.alike, a, v, f, g1.warm hW, g2.warm hU hS hsub hW.alike⟩
    · obtain ⟨G, σ, ⟨b1, b2, b3, b4, b5, b6, b7⟩, w, ac⟩ := hB
      exact ⟨G, σ, ⟨⟨b1, b2, b3, b4, b5, b6, fun i hi => A_sub (ws := []) hP hup _ (b7 i hi)⟩, ac⟩, w⟩
    refine n_astore_n (pc := 7) C dL_law_7 (Nat.le_of_ble_eq_true rfl) rfl ?_
    refine n_exB (fun G1 σ1 hb1 => ?_)
    obtain ⟨⟨b1, b2, b3, b4, b5, b6, b7⟩, ac⟩ := hb1
    refine n_phi (Φ' := PW (xL l D t s.heap.size) (wd G1 σ1)) (fun H h => ⟨by show va_P D vwCl _ H; rw [← b2]; exact h, ?_⟩) ?_
    · obtain ⟨a1, -⟩ := wd_D (G := G1) (σ := σ1) (sz := 0) b6
      refine ⟨a1, fun k q hk => ?_⟩
      obtain ⟨h1, rfl⟩ := wd_lt hk
      exact b7 k (by rw [← b4]; exact h1)
    refine n_new (pc := 8) (fs := [.int 0, .null, .int 0, .null, .null, .null, .null, .null, .null, .null, .int 0, .int 0, .null, .int 0, .null, .null, .null, .null, .null, .null, .null, .null, .null]) (ci := 10) C dL_law_8 rfl inGX10 tyX10_ok v_725 v_726 w_16 (by decide) (Nat.le_of_ble_eq_true rfl) (Nat.le_of_ble_eq_true rfl) (fun q2 => ?_)
    refine n_dup (pc := 11) C dL_law_11 rfl ?_
    refine n_callI (pc := 12) (ws := wd G1 σ1) (Φ1 := LW (xL l D t s.heap.size) q1 q2) C (i_X10 l D t) H10.blind (fun H locs U hP hS hU hW => ?_) dL_law_12 v_729 rfl v_727 w_16 v_728 rfl ds_X10i ⟨Nat.le_of_ble_eq_true rfl, Nat.le_of_ble_eq_true rfl⟩ (Nat.le_of_ble_eq_true rfl) (Nat.le_of_ble_eq_true rfl) (Nat.le_of_ble_eq_true rfl) (fun H H1 hP hup hk hB => ?_) ?_
    · exact hHold.warm hU hS (A_sub hP (fun q h => Nat.le_trans hS.1 h)) hW.alike
    · obtain ⟨G2, σ2, ⟨d1, d2, d3, d4, d5, d6, d7⟩, w2, aq⟩ := hB
      have hsub := A_sub hP hup
      have apart : ∀ i, i < 27 → ga G1 i < H.size ∧ ¬ va_A [(q2, .inr (10, [.int 0, .null, .int 0, .null, .null, .null, .null, .null, .null, .null, .int 0, .int 0, .null, .int 0, .null, .null, .null, .null, .null, .null, .null, .null, .null]))] H.size (ga G1 i) := by
        intro i hi
        have hw : (wd G1 σ1)[i]? = some (ga G1 i, σ1 i) := wd_at (by rw [b4]; exact hi)
        have hlen : (wd G1 σ1).length = 27 := by simp [wd]; exact b4
        have hw2 : (wd G1 σ1 ++ [(q2, .inr (10, [.int 0, .null, .int 0, .null, .null, .null, .null, .null, .null, .null, .int 0, .int 0, .null, .int 0, .null, .null, .null, .null, .null, .null, .null, .null, .null]))])[i]? = some (ga G1 i, σ1 i) := by rw [List.getElem?_append_left (by omega)]; exact hw
        have hlt := (hP.1 i _ hw2).lt
        refine ⟨hlt, fun h => ?_⟩
        rcases h with ⟨k2, e2, h⟩ | h
        · have hk2 : k2 < 1 := (List.getElem?_eq_some_iff.mp h).1
          rw [show k2 = 0 by omega] at h
          have h : (q2, .inr (10, [.int 0, .null, .int 0, .null, .null, .null, .null, .null, .null, .null, .int 0, .int 0, .null, .int 0, .null, .null, .null, .null, .null, .null, .null, .null, .null])) = (ga G1 i, e2) := Option.some.inj h
          have h3 := hP.2.1 i 27 (ga G1 i, σ1 i) (q2, .inr (10, [.int 0, .null, .int 0, .null, .null, .null, .null, .null, .null, .null, .int 0, .int 0, .null, .int 0, .null, .null, .null, .null, .null, .null, .null, .null, .null])) hw2 (by rw [← hlen]; simp) (by rw [(Prod.mk.inj h).1])
          omega
        · exact absurd hlt (Nat.not_lt.mpr h)
      refine ⟨G1, σ1, G2, σ2, ⟨⟨b1, b2, b3, b6, fun i hi => b7 i (by rw [← b4]; exact hi)⟩, ⟨d1, d2, d3, d6, fun i hi => hsub _ (d7 i (by rw [← d4]; exact hi))⟩, b4, d4, b5, d5, fun i j hi hj he => (apart i hi).2 (by rw [he]; exact d7 j hj)⟩, ⟨0, xS0, T0, hh0, 0, fun _ => 0, ac, aq, Nat.zero_le _, fun k hk => absurd hk (Nat.not_lt_zero _), T0_m, ⟨⟨by decide, Nat.zero_le _, by decide⟩, by decide, fun k hk => absurd hk (Nat.not_lt_zero _), by decide, fun k hk => absurd hk (Nat.not_lt_zero _)⟩, Nat.zero_le _, fun k hk => absurd hk (Nat.not_lt_zero _)⟩, fun k q hk' => ?_, w2⟩
      obtain ⟨g1, rfl⟩ := wd_lt hk'
      have g1 : k < 27 := by rw [← b4]; exact g1
      have hlen : (wd G1 σ1).length = 27 := by simp [wd]; exact b4
      have hw2 : (wd G1 σ1 ++ [(q2, .inr (10, [.int 0, .null, .int 0, .null, .null, .null, .null, .null, .null, .null, .int 0, .int 0, .null, .int 0, .null, .null, .null, .null, .null, .null, .null, .null, .null]))])[k]? = some (ga G1 k, σ1 k) := by rw [List.getElem?_append_left (by omega)]; exact hk'
      rw [b2]
      exact (hP.1 k _ hw2).kept (hk _ (apart k g1).1 (apart k g1).2)
    refine n_astore_n (pc := 15) C dL_law_15 (Nat.le_of_ble_eq_true rfl) rfl ?_
    refine n_iconst (pc := 16) (v := nI 0) C dL_law_16 (by decide) ?_
    refine n_istore_n (pc := 17) C dL_law_17 (Nat.le_of_ble_eq_true rfl) rfl ?_
    exact n_to (law_loop C rfl hHold hL hX hbl kend (L + 1) 0 q1 q2 (Nat.zero_le _) (by omega)) ⟨rfl, rfl, rfl, rfl, trivial⟩
  exact main s.heap [] _ ⟨fun k q h => by simp at h, fun i j p q h => by simp at h, fun k q h => by simp at h⟩ va_S.rf (Has.ofv hl)
-- ===== YOUR PART ENDS =====
set_option maxHeartbeats 4000000 in
theorem lw_walk (l : Launch) (b : Addr) (xs : List Int32) : MetFree l x (headSpec (Jvm.Cond.code x code maxLocals ret :: tables_1) room_1) (lw_P b xs) (fun _ _ _ _ _ => True) lw_Q := by
  refine MetFree.of_bodyS (code := code) (maxLocals := maxLocals) (ret := ret) (by decide) ?_ ?_
  · intro args s m h hn
    obtain ⟨meth, c, h1, h2, h3, h4, h5, h6, -, -⟩ := Cond.code_spec hn (atoms_spec (ws := Jvm.Cond.code x code maxLocals ret :: tables_1) h _ List.mem_cons_self)
    exact ⟨meth, c, h1, h2, h3, h4, h5, h6⟩
  · intro p e s m args below meth c s₁ B hml0 hP _
    obtain ⟨rfl, hx, hbd, hgv⟩ := hP
    obtain ⟨scr, harrAt, hlist, hof, hsmall⟩ := hx
    obtain ⟨hcb, hkn, -, -⟩ := State.arrayAt?_spec harrAt
    have hown : s.vm.findClass R_law = some m.cls := findClass_of_methodNamed B.named
    have hts0 : ∀ c ∈ (Jvm.Cond.code x code maxLocals ret :: tables_1), c.before #[Value.ref b] s = true := atoms_spec (ws := Jvm.Cond.code x code maxLocals ret :: tables_1) B.pre
    have hts : ∀ w ∈ lw_tbl, w.before #[Value.ref b] s = true := k2_hts_sels lw_privs (fun w hw => hts0 w (List.mem_cons_of_mem _ hw)) lw_privs_ok
    have hml : c.maxLocals = 4 := B.maxLocals_eq (hts0 _ List.mem_cons_self)
    have X₀ : Stand p l e room_1 s m #[Value.ref b] below meth c s₁ [] 0 0 := Stand.of_body B
    have hh0 : s₁.heap = s.heap := by rw [B.state]; rfl
    have hsz : scr.slots.size = xs.length := by rw [← Array.length_toList, hlist, List.length_map]
    have hval : ∀ j : Nat, j < xs.length → scr.slots[j]? = some (.int (xs.getD j 0)) := fun j hj => by
      rw [← Array.getElem?_toList, hlist]
      simp [hj]
    have hbl : b < s.heap.size := (Array.getElem?_eq_some_iff.mp hcb).1
    have hX : va_X b xs.length (fun j => xs.getD j 0) s s.heap := ⟨scr, hcb, hof, hkn, hsz, hval⟩
    have K : W p l e room_1 s m #[Value.ref b] below meth c s₁.heap [] 0 0 (lw_Z below #[Value.ref b] s) (entryFrame m ([Value.ref b] : List Value).toArray 4) := by
      rw [hh0]
      exact whole_start l hbd ⟨B.exec, B.bytes, B.returns, hml, hown, hts, hX, hbl, B.notSynchronized, hgv⟩
    obtain ⟨t, a1, o, b1, b2, b3⟩ := K s₁ rfl X₀
    exact ⟨t, o, a1, b1, b2, b3⟩
theorem lw_pre_spec {args : Array Value} {s : State} (h : (Jvm.Cond.and given_1 narrow_1).before args s = true) (hr : rest_1_c.before args s = true) : ∃ (b : Addr) (xs : List Int32), lw_P b xs args s := by
  have hs := flat_of_before _ h
  have hq := flat_of_before _ hr
  have hc : (Cond.count 1).before args s = true := hs _ (by decide +kernel)
  have harr : (Cond.arrayOf (.arg 0) .int).before args s = true := hs _ (by decide +kernel)
  have hle : (Cond.le (.length (.arg 0)) (.int 2048)).before args s = true := hs _ (by decide +kernel)
  have hlen : (Cond.isInt (.length (.arg 0))).before args s = true := hq _ (by decide +kernel)
  have hall : (Cond.all (.arg 0) (.isInt (.elem (.arg 0) (.index 0)))).before args s = true := hq _ (by decide +kernel)
  obtain ⟨b, xs, hb, hx⟩ := State.ints_of_pre rfl harr hlen hall
  have hsm : xs.length < 2 ^ 31 := hx.choose_spec.2.2.2
  have hev : (Term.length (.arg 0)).eval args s none [] s = some (.int xs.length.toInt32) := hx.length_eval hb
  have hv := Cond.le_ints hev (show (Term.int 2048).eval args s none [] s = some (.int 2048) from rfl)
  have hd : xs.length.toInt32 ≤ 2048 := by
    simpa [Cond.before, Cond.holds, hv] using hle
  have hN : xs.length ≤ 2048 := (Int32.ofNat_le_ofNat hsm (by decide)).mp (show Int32.ofNat xs.length ≤ Int32.ofNat 2048 from hd)
  exact ⟨b, xs, Cond.one_arg hc (show args[0]? = some (.ref b) from hb), hx, hN, h⟩
theorem lw_comes (l : Launch) : Comes l x (Jvm.Cond.code x code maxLocals ret :: tables_1) room_1 (fun tb e args s => Calls_1 tb e args s ∧ rest_1 tb e args s ∧ Pre_1 tb e args s)
    (fun _ _ args s o t => lw_Q args s o t) := by
  intro p e ha hc hk s m args below hf hfit hheap happ hpre
  obtain ⟨b, xs, hP⟩ := lw_pre_spec hpre.2.2 hpre.2.1
  obtain ⟨k, o, h1, h2, h3, hQ⟩ := lw_walk l b xs p e ha hc hk s m args below hf ((Spec.applies_iff_loose hf).mp happ).1 hP trivial
  exact ⟨k, o, h1, h2, h3, hQ⟩
theorem lw_frame {s t : State} {o : Outcome} {args : Array Value} (h : Framed s o t [] 46 17118) :
    Framed s o t (fieldLocs frame_1_writes args s ++ arrayLocs frame_1_arrays args s ++ staticLocs frame_1_statics s) 46 17118 := h
theorem lw_limb (L : Cond) (hL : ∀ (args : Array Value) (s t : State), L.after args s (.returned (some (.int 1))) t = true) :
    ArmFor flags0 classFile x code maxLocals ret World_1 tables_1 room_1 Calls_1 rest_1 Pre_1
      (fun tb e a s o t => postC L tb e a s o t ∧ Framed s o t (fieldLocs frame_1_writes a s ++ arrayLocs frame_1_arrays a s ++ staticLocs frame_1_statics s) 46 17118) := by
  intro l _ _ _ p e ha hc hk s m args below hf hfit hheap happ hpre
  obtain ⟨k, o, h1, h2, h3, rfl, hF⟩ := lw_comes l p e ha hc hk s m args below hf hfit hheap happ hpre
  exact ⟨k, _, h1, h2, h3, hL args s _, lw_frame hF⟩
theorem i_vc : Claimed_1_1 ∧ Claimed_1_2 := ⟨lw_limb limb_1_1 (fun args s t => by simp [limb_1_1, Cond.after, Cond.holds, Cond.value]), lw_limb limb_1_2 (fun args s t => Cond.after_iff.mpr (by
  first | (rw [show limb_1_2 = Cond.eq .result (.int 1) from rfl, Cond.eq_ints (x := 1) (y := 1) rfl rfl]; simp; done) | (simp [limb_1_2, Cond.value, Term.eval]; done)))⟩
