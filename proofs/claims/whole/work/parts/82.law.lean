/-! the law's loop -/
abbrev xL (l : Launch) (D : va_G) (t : ClassId × ClassId × ClassId) (sz : Nat) : XX := ((cL_law, 4, RL), l, room_1, D, t, zA sz)
abbrev W2 (G1 : GG) (σ1 : WW) (G2 : GG) (σ2 : WW) (H : Heap) : Prop := WP G1 σ1 H ∧ WP G2 σ2 H
def LB (X : XX) (q1 q2 : Nat) (G1 G2 : GG) : Prop := GX X G1 ∧ GX X G2 ∧ gN G1 = 27 ∧ gN G2 = 19 ∧ ga G1 0 = q1 ∧ ga G2 0 = q2 ∧ ∀ i j, i < 27 → j < 19 → ga G1 i ≠ ga G2 j
def LW (X : XX) (q1 q2 : Nat) (H : Heap) : Prop := ∃ G1 σ1 G2 σ2, LB X q1 q2 G1 G2 ∧ PQ G1 σ1 G2 σ2 ∧ W2 G1 σ1 G2 σ2 H
theorem n_exL {X : XX} {κ : KK} {Q : State → Prop} {cs sl pc q1 q2 : Nat} {lv : List (Nat × Value)} {st : List Value} (k : ∀ G1 σ1 G2 σ2, LB X q1 q2 G1 G2 → PQ G1 σ1 G2 σ2 → Gn X κ Q (W2 G1 σ1 G2 σ2) cs sl pc lv st) : Gn X κ Q (LW X q1 q2) cs sl pc lv st := fun H locs ls hP hS hl => by
  obtain ⟨G1, σ1, G2, σ2, h1, h2, h3⟩ := hP
  exact k G1 σ1 G2 σ2 h1 h2 H locs ls h3 hS hl
theorem W2.a {G1 G2 : GG} {σ1 σ1' σ2 : WW} (hd : ∀ i j, i < gN G1 → j < gN G2 → ga G1 i ≠ ga G2 j) : ∀ H H1 : Heap, W2 G1 σ1 G2 σ2 H → H.size ≤ H1.size → WP G1 σ1' H1 → (∀ q : Nat, q < H.size → ¬ AA G1 H.size q → H1[q]? = H[q]?) → W2 G1 σ1' G2 σ2 H1 := fun H H1 h _ h3 hk => ⟨h3, fun k q hq => by
  obtain ⟨g1, rfl⟩ := wd_lt hq
  have hl := (h.2 k _ hq).lt
  refine (h.2 k _ hq).kept (hk _ hl (fun z => ?_))
  rcases z with ⟨i, z1, z2⟩ | z
  · exact hd i k z1 g1 z2.symm
  · exact absurd hl (Nat.not_lt.mpr z)⟩
theorem W2.b {G1 G2 : GG} {σ1 σ2 σ2' : WW} (hd : ∀ i j, i < gN G1 → j < gN G2 → ga G1 i ≠ ga G2 j) : ∀ H H1 : Heap, W2 G1 σ1 G2 σ2 H → H.size ≤ H1.size → WP G2 σ2' H1 → (∀ q : Nat, q < H.size → ¬ AA G2 H.size q → H1[q]? = H[q]?) → W2 G1 σ1 G2 σ2' H1 := fun H H1 h _ h3 hk => ⟨fun k q hq => by
  obtain ⟨g1, rfl⟩ := wd_lt hq
  have hl := (h.1 k _ hq).lt
  refine (h.1 k _ hq).kept (hk _ hl (fun z => ?_))
  rcases z with ⟨i, z1, z2⟩ | z
  · exact hd k i g1 z1 z2
  · exact absurd hl (Nat.not_lt.mpr z), h3⟩
theorem n_sld {X : XX} {κ : KK} {Q : State → Prop} {Φ : Heap → Prop} {cs sl pc : Nat} {lv : List (Nat × Value)} {st : List Value} (C : Cn X κ) {b L : Nat} {xs : Nat → Int32} (hX : va_X b L xs (ks κ) (ks κ).heap) (hbl : b < (ks κ).heap.size) (hbA : ¬ xA X b) {j : Int32} (hj : vp_in j L) (hd : decode (xc X) pc = .ok (.iaload, 1)) (k : Gn X κ Q Φ cs sl (pc + 1) lv (.int (xs j.toNatClampNeg) :: st)) : Gn X κ Q Φ cs sl pc lv (.int j :: .ref b :: st) := fun H locs ls hP hS hl => va_sld C.1 C.2.1 hX hbl hbA hS hj hd (k H locs ls hP hS hl)
theorem n_slen {X : XX} {κ : KK} {Q : State → Prop} {Φ : Heap → Prop} {cs sl pc : Nat} {lv : List (Nat × Value)} {st : List Value} (C : Cn X κ) {b L : Nat} {xs : Nat → Int32} (hX : va_X b L xs (ks κ) (ks κ).heap) (hbl : b < (ks κ).heap.size) (hbA : ¬ xA X b) (hd : decode (xc X) pc = .ok (.arraylength, 1)) (k : Gn X κ Q Φ cs sl (pc + 1) lv (.int (nI L) :: st)) : Gn X κ Q Φ cs sl pc lv (.ref b :: st) := fun H locs ls hP hS hl => va_slen C.1 C.2.1 hX hbl hbA hS hd (k H locs ls hP hS hl)
theorem Cx0 {G1 : GG} {σ1 : WW} {G2 : GG} {σ2 : WW} (h : PQ G1 σ1 G2 σ2) : Cl G1 σ1 0 (cMain G1) ∧ ∃ a b c d e, Cl G2 σ2 0 (cRef G2 a b c d e) := by
  obtain ⟨n, x, T, hh, r, w, h1, h2, _⟩ := h
  obtain ⟨⟨at0, h2⟩, _⟩ := h2
  exact ⟨h1.1, _, _, _, _, _, h2.1⟩
theorem sI {i k L : Nat} (h : i + k < L) (hL : L ≤ 2048) : vp_in (nI i + nI k) L := by rw [nI_add]; exact vp_in_nI h (by omega)
section LAW
variable {l : Launch} {D : va_G} {t : ClassId × ClassId × ClassId} {κ : KK} {sz : Nat} {Q : State → Prop} {b L : Nat} {xs : Nat → Int32} {G1 G2 : GG} {σ1 σ2 : WW} {i : Nat}
abbrev lvW (b : Nat) (G1 G2 : GG) (i : Nat) : List (Nat × Value) := [(0, .ref b), (1, .ref (ga G1 0)), (2, .ref (ga G2 0)), (3, .int (nI i))]
theorem v_1030 : (Cond.constantLong "UnlikeGateLaw" (13) (4294967295 : Int64)) ∈ GW := gw_tbl (List.mem_of_getElem? (i := 1030) (by decide +kernel)) (by decide +kernel)
theorem lc_same (u : Int64) : lg_cmp u u = 0 := by unfold lg_cmp; rw [if_neg (show ¬ u > u from Int64.lt_irrefl), if_pos rfl]
theorem law_write (C : Cn (xL l D t sz) κ) (hsz : (ks κ).heap.size = sz) (hH : HoldX (zA sz) (ks κ)) (hL : L ≤ 2048) (hX : va_X b L xs (ks κ) (ks κ).heap) (hbl : b < sz) (hB : LB (xL l D t sz) (ga G1 0) (ga G2 0) G1 G2) (hP : PQ G1 σ1 G2 σ2) (hi : i + 4 ≤ L) (K : Gn (xL l D t sz) κ Q (LW (xL l D t sz) (ga G1 0) (ga G2 0)) 46 17118 780 (lvW b G1 G2 i) []) : Gn (xL l D t sz) κ Q (W2 G1 σ1 G2 σ2) 46 17118 148 (lvW b G1 G2 i) [] := by
  obtain ⟨h1, _, _, _, _, _, h2⟩ := Cx0 hP
  have hdj : ∀ i j, i < gN G1 → j < gN G2 → ga G1 i ≠ ga G2 j := by rw [hB.2.2.1, hB.2.2.2.1]; exact hB.2.2.2.2.2.2
  obtain ⟨u, τ1, τ2, k1, k2, hP2⟩ := s_write hP (xs (nI i + nI 1).toNatClampNeg) ((xs (nI i + nI 2).toNatClampNeg).toInt64 <<< ((nI 32).toInt64 &&& 63) ||| (xs (nI i + nI 3).toNatClampNeg).toInt64 &&& 4294967295)
  refine n_aload_n (pc := 148) C dL_law_148 rfl ?_
  refine n_aload_n (pc := 149) C dL_law_149 rfl ?_
  refine n_iload_n (pc := 150) C dL_law_150 rfl ?_
  refine n_iconst (pc := 151) (v := nI 1) C dL_law_151 (by decide) ?_
  refine n_iadd (pc := 152) C dL_law_152 ?_
  refine n_sld (pc := 153) C hX (by omega) (Nat.not_le.mpr hbl) (sI (by omega) hL) dL_law_153 ?_
  refine n_aload_n (pc := 154) C dL_law_154 rfl ?_
  refine n_iload_n (pc := 155) C dL_law_155 rfl ?_
  refine n_iconst (pc := 156) (v := nI 2) C dL_law_156 (by decide) ?_
  refine n_iadd (pc := 157) C dL_law_157 ?_
  refine n_sld (pc := 158) C hX (by omega) (Nat.not_le.mpr hbl) (sI (by omega) hL) dL_law_158 ?_
  refine n_i2l (pc := 159) C dL_law_159 ?_
  refine n_bipush (pc := 160) (v := nI 32) C dL_law_160 (by decide) ?_
  refine n_lshl (pc := 162) C dL_law_162 ?_
  refine n_aload_n (pc := 163) C dL_law_163 rfl ?_
  refine n_iload_n (pc := 164) C dL_law_164 rfl ?_
  refine n_iconst (pc := 165) (v := nI 3) C dL_law_165 (by decide) ?_
  refine n_iadd (pc := 166) C dL_law_166 ?_
  refine n_sld (pc := 167) C hX (by omega) (Nat.not_le.mpr hbl) (sI (by omega) hL) dL_law_167 ?_
  refine n_i2l (pc := 168) C dL_law_168 ?_
  refine n_ldc2 (pc := 169) C dL_law_169 v_1030 ?_
  refine n_land (pc := 172) C dL_law_172 ?_
  refine n_lor (pc := 173) C dL_law_173 ?_
  refine n_callV (pc := 174) (i := 0) (ci := 9) (As := [.int (xs (nI i + nI 1).toNatClampNeg), .long ((xs (nI i + nI 2).toNatClampNeg).toInt64 <<< ((nI 32).toInt64 &&& 63) ||| (xs (nI i + nI 3).toNatClampNeg).toInt64 &&& 4294967295)]) (rest := []) (Φ1 := W2 G1 τ1 G2 σ2) C hB.1 hH k1 dL_law_174 rfl w_335 (List.forall_mem_cons.mpr ⟨w_332, List.forall_mem_cons.mpr ⟨w_333, List.forall_mem_cons.mpr ⟨w_334, List.forall_mem_cons.mpr ⟨w_1, fun _ h => absurd h List.not_mem_nil⟩⟩⟩⟩) ds_X9_write h1 ⟨Nat.le_of_ble_eq_true rfl, Nat.le_of_ble_eq_true rfl⟩ (Nat.le_of_ble_eq_true rfl) ⟨Nat.le_of_ble_eq_true rfl, Nat.le_of_ble_eq_true rfl⟩ (fun _ h => h.1) (W2.a hdj) ?_
  refine n_aload_n (pc := 177) C dL_law_177 rfl ?_
  refine n_aload_n (pc := 178) C dL_law_178 rfl ?_
  refine n_iload_n (pc := 179) C dL_law_179 rfl ?_
  refine n_iconst (pc := 180) (v := nI 1) C dL_law_180 (by decide) ?_
  refine n_iadd (pc := 181) C dL_law_181 ?_
  refine n_sld (pc := 182) C hX (by omega) (Nat.not_le.mpr hbl) (sI (by omega) hL) dL_law_182 ?_
  refine n_aload_n (pc := 183) C dL_law_183 rfl ?_
  refine n_iload_n (pc := 184) C dL_law_184 rfl ?_
  refine n_iconst (pc := 185) (v := nI 2) C dL_law_185 (by decide) ?_
  refine n_iadd (pc := 186) C dL_law_186 ?_
  refine n_sld (pc := 187) C hX (by omega) (Nat.not_le.mpr hbl) (sI (by omega) hL) dL_law_187 ?_
  refine n_i2l (pc := 188) C dL_law_188 ?_
  refine n_bipush (pc := 189) (v := nI 32) C dL_law_189 (by decide) ?_
  refine n_lshl (pc := 191) C dL_law_191 ?_
  refine n_aload_n (pc := 192) C dL_law_192 rfl ?_
  refine n_iload_n (pc := 193) C dL_law_193 rfl ?_
  refine n_iconst (pc := 194) (v := nI 3) C dL_law_194 (by decide) ?_
  refine n_iadd (pc := 195) C dL_law_195 ?_
  refine n_sld (pc := 196) C hX (by omega) (Nat.not_le.mpr hbl) (sI (by omega) hL) dL_law_196 ?_
  refine n_i2l (pc := 197) C dL_law_197 ?_
  refine n_ldc2 (pc := 198) C dL_law_198 v_1030 ?_
  refine n_land (pc := 201) C dL_law_201 ?_
  refine n_lor (pc := 202) C dL_law_202 ?_
  refine n_callV (pc := 203) (i := 0) (ci := 10) (As := [.int (xs (nI i + nI 1).toNatClampNeg), .long ((xs (nI i + nI 2).toNatClampNeg).toInt64 <<< ((nI 32).toInt64 &&& 63) ||| (xs (nI i + nI 3).toNatClampNeg).toInt64 &&& 4294967295)]) (rest := [.int u]) (Φ1 := W2 G1 τ1 G2 τ2) C hB.2.1 hH k2 dL_law_203 rfl w_812 (List.forall_mem_cons.mpr ⟨w_809, List.forall_mem_cons.mpr ⟨w_810, List.forall_mem_cons.mpr ⟨w_811, List.forall_mem_cons.mpr ⟨w_16, fun _ h => absurd h List.not_mem_nil⟩⟩⟩⟩) ds_X10_write h2 ⟨Nat.le_of_ble_eq_true rfl, Nat.le_of_ble_eq_true rfl⟩ (Nat.le_of_ble_eq_true rfl) ⟨Nat.le_of_ble_eq_true rfl, Nat.le_of_ble_eq_true rfl⟩ (fun _ h => h.2) (W2.b hdj) ?_
  refine n_icmp_eq (pc := 206) C 780 dL_law_206 rfl (fun _ => ?_) (fun z => absurd rfl z)
  exact n_phi (fun H h => ⟨G1, τ1, G2, τ2, hB, hP2, h⟩) K
theorem law_wipe (C : Cn (xL l D t sz) κ) (hsz : (ks κ).heap.size = sz) (hH : HoldX (zA sz) (ks κ)) (hL : L ≤ 2048) (hX : va_X b L xs (ks κ) (ks κ).heap) (hbl : b < sz) (hB : LB (xL l D t sz) (ga G1 0) (ga G2 0) G1 G2) (hP : PQ G1 σ1 G2 σ2) (hi : i + 4 ≤ L) (K : Gn (xL l D t sz) κ Q (LW (xL l D t sz) (ga G1 0) (ga G2 0)) 46 17118 780 (lvW b G1 G2 i) []) : Gn (xL l D t sz) κ Q (W2 G1 σ1 G2 σ2) 46 17118 211 (lvW b G1 G2 i) [] := by
  obtain ⟨h1, _, _, _, _, _, h2⟩ := Cx0 hP
  have hdj : ∀ i j, i < gN G1 → j < gN G2 → ga G1 i ≠ ga G2 j := by rw [hB.2.2.1, hB.2.2.2.1]; exact hB.2.2.2.2.2.2
  obtain ⟨u, τ1, τ2, k1, k2, hP2⟩ := s_wipe hP 
  refine n_aload_n (pc := 211) C dL_law_211 rfl ?_
  refine n_callV (pc := 212) (i := 0) (ci := 9) (As := []) (rest := []) (Φ1 := W2 G1 τ1 G2 σ2) C hB.1 hH k1 dL_law_212 rfl w_343 (List.forall_mem_cons.mpr ⟨w_340, List.forall_mem_cons.mpr ⟨w_341, List.forall_mem_cons.mpr ⟨w_342, List.forall_mem_cons.mpr ⟨w_1, fun _ h => absurd h List.not_mem_nil⟩⟩⟩⟩) ds_X9_wipe h1 ⟨Nat.le_of_ble_eq_true rfl, Nat.le_of_ble_eq_true rfl⟩ (Nat.le_of_ble_eq_true rfl) ⟨Nat.le_of_ble_eq_true rfl, Nat.le_of_ble_eq_true rfl⟩ (fun _ h => h.1) (W2.a hdj) ?_
  refine n_aload_n (pc := 215) C dL_law_215 rfl ?_
  refine n_callV (pc := 216) (i := 0) (ci := 10) (As := []) (rest := [.int u]) (Φ1 := W2 G1 τ1 G2 τ2) C hB.2.1 hH k2 dL_law_216 rfl w_820 (List.forall_mem_cons.mpr ⟨w_817, List.forall_mem_cons.mpr ⟨w_818, List.forall_mem_cons.mpr ⟨w_819, List.forall_mem_cons.mpr ⟨w_16, fun _ h => absurd h List.not_mem_nil⟩⟩⟩⟩) ds_X10_wipe h2 ⟨Nat.le_of_ble_eq_true rfl, Nat.le_of_ble_eq_true rfl⟩ (Nat.le_of_ble_eq_true rfl) ⟨Nat.le_of_ble_eq_true rfl, Nat.le_of_ble_eq_true rfl⟩ (fun _ h => h.2) (W2.b hdj) ?_
  refine n_icmp_eq (pc := 219) C 780 dL_law_219 rfl (fun _ => ?_) (fun z => absurd rfl z)
  exact n_phi (fun H h => ⟨G1, τ1, G2, τ2, hB, hP2, h⟩) K
theorem law_fault (C : Cn (xL l D t sz) κ) (hsz : (ks κ).heap.size = sz) (hH : HoldX (zA sz) (ks κ)) (hL : L ≤ 2048) (hX : va_X b L xs (ks κ) (ks κ).heap) (hbl : b < sz) (hB : LB (xL l D t sz) (ga G1 0) (ga G2 0) G1 G2) (hP : PQ G1 σ1 G2 σ2) (hi : i + 4 ≤ L) (K : Gn (xL l D t sz) κ Q (LW (xL l D t sz) (ga G1 0) (ga G2 0)) 46 17118 780 (lvW b G1 G2 i) []) : Gn (xL l D t sz) κ Q (W2 G1 σ1 G2 σ2) 46 17118 224 (lvW b G1 G2 i) [] := by
  obtain ⟨h1, _, _, _, _, _, h2⟩ := Cx0 hP
  have hdj : ∀ i j, i < gN G1 → j < gN G2 → ga G1 i ≠ ga G2 j := by rw [hB.2.2.1, hB.2.2.2.1]; exact hB.2.2.2.2.2.2
  obtain ⟨u, τ1, τ2, k1, k2, hP2⟩ := s_fault hP 
  refine n_aload_n (pc := 224) C dL_law_224 rfl ?_
  refine n_callV (pc := 225) (i := 0) (ci := 9) (As := []) (rest := []) (Φ1 := W2 G1 τ1 G2 σ2) C hB.1 hH k1 dL_law_225 rfl w_347 (List.forall_mem_cons.mpr ⟨w_344, List.forall_mem_cons.mpr ⟨w_345, List.forall_mem_cons.mpr ⟨w_346, List.forall_mem_cons.mpr ⟨w_1, fun _ h => absurd h List.not_mem_nil⟩⟩⟩⟩) ds_X9_fault h1 ⟨Nat.le_of_ble_eq_true rfl, Nat.le_of_ble_eq_true rfl⟩ (Nat.le_of_ble_eq_true rfl) ⟨Nat.le_of_ble_eq_true rfl, Nat.le_of_ble_eq_true rfl⟩ (fun _ h => h.1) (W2.a hdj) ?_
  refine n_aload_n (pc := 228) C dL_law_228 rfl ?_
  refine n_callV (pc := 229) (i := 0) (ci := 10) (As := []) (rest := [.int u]) (Φ1 := W2 G1 τ1 G2 τ2) C hB.2.1 hH k2 dL_law_229 rfl w_824 (List.forall_mem_cons.mpr ⟨w_821, List.forall_mem_cons.mpr ⟨w_822, List.forall_mem_cons.mpr ⟨w_823, List.forall_mem_cons.mpr ⟨w_16, fun _ h => absurd h List.not_mem_nil⟩⟩⟩⟩) ds_X10_fault h2 ⟨Nat.le_of_ble_eq_true rfl, Nat.le_of_ble_eq_true rfl⟩ (Nat.le_of_ble_eq_true rfl) ⟨Nat.le_of_ble_eq_true rfl, Nat.le_of_ble_eq_true rfl⟩ (fun _ h => h.2) (W2.b hdj) ?_
  refine n_icmp_eq (pc := 232) C 780 dL_law_232 rfl (fun _ => ?_) (fun z => absurd rfl z)
  exact n_phi (fun H h => ⟨G1, τ1, G2, τ2, hB, hP2, h⟩) K
theorem law_lay (C : Cn (xL l D t sz) κ) (hsz : (ks κ).heap.size = sz) (hH : HoldX (zA sz) (ks κ)) (hL : L ≤ 2048) (hX : va_X b L xs (ks κ) (ks κ).heap) (hbl : b < sz) (hB : LB (xL l D t sz) (ga G1 0) (ga G2 0) G1 G2) (hP : PQ G1 σ1 G2 σ2) (hi : i + 4 ≤ L) (K : Gn (xL l D t sz) κ Q (LW (xL l D t sz) (ga G1 0) (ga G2 0)) 46 17118 780 (lvW b G1 G2 i) []) : Gn (xL l D t sz) κ Q (W2 G1 σ1 G2 σ2) 46 17118 237 (lvW b G1 G2 i) [] := by
  obtain ⟨h1, _, _, _, _, _, h2⟩ := Cx0 hP
  have hdj : ∀ i j, i < gN G1 → j < gN G2 → ga G1 i ≠ ga G2 j := by rw [hB.2.2.1, hB.2.2.2.1]; exact hB.2.2.2.2.2.2
  obtain ⟨u, τ1, τ2, k1, k2, hP2⟩ := s_lay hB.2.2.1 hP
  refine n_aload_n (pc := 237) C dL_law_237 rfl ?_
  refine n_callV (pc := 238) (i := 0) (ci := 9) (As := []) (rest := []) (Φ1 := W2 G1 τ1 G2 σ2) C hB.1 hH k1 dL_law_238 rfl w_351 (List.forall_mem_cons.mpr ⟨w_348, List.forall_mem_cons.mpr ⟨w_349, List.forall_mem_cons.mpr ⟨w_350, List.forall_mem_cons.mpr ⟨w_1, fun _ h => absurd h List.not_mem_nil⟩⟩⟩⟩) ds_X9_lay h1 ⟨Nat.le_of_ble_eq_true rfl, Nat.le_of_ble_eq_true rfl⟩ (Nat.le_of_ble_eq_true rfl) ⟨Nat.le_of_ble_eq_true rfl, Nat.le_of_ble_eq_true rfl⟩ (fun _ h => h.1) (W2.a hdj) ?_
  refine n_aload_n (pc := 241) C dL_law_241 rfl ?_
  refine n_callV (pc := 242) (i := 0) (ci := 10) (As := []) (rest := [.int u]) (Φ1 := W2 G1 τ1 G2 τ2) C hB.2.1 hH k2 dL_law_242 rfl w_854 (List.forall_mem_cons.mpr ⟨w_851, List.forall_mem_cons.mpr ⟨w_852, List.forall_mem_cons.mpr ⟨w_853, List.forall_mem_cons.mpr ⟨w_16, fun _ h => absurd h List.not_mem_nil⟩⟩⟩⟩) ds_X10_lay h2 ⟨Nat.le_of_ble_eq_true rfl, Nat.le_of_ble_eq_true rfl⟩ (Nat.le_of_ble_eq_true rfl) ⟨Nat.le_of_ble_eq_true rfl, Nat.le_of_ble_eq_true rfl⟩ (fun _ h => h.2) (W2.b hdj) ?_
  refine n_icmp_eq (pc := 245) C 780 dL_law_245 rfl (fun _ => ?_) (fun z => absurd rfl z)
  refine n_phi (fun H h => ?_) K
  rcases hP2 with q | q
  · exact ⟨G1, τ1, G2, τ2, hB, q, h⟩
  · obtain ⟨⟨b1, b2, b3, b4, b5⟩, b6, b7, b8, b9, b10, b11⟩ := hB
    refine ⟨swG G1, swW τ1, G2, τ2, ⟨⟨b1, b2, b3, sw_I b7 b4, fun i hi => b5 (pi9 i) (by have hi : i < gN G1 := hi; rw [b7] at hi ⊢; exact pi9_lt i hi)⟩, b6, b7, b8, rfl, b10, fun i j hi hj => b11 (pi9 i) j (pi9_lt i hi) hj⟩, q, sw_P b7 h.1, h.2⟩
theorem law_person (C : Cn (xL l D t sz) κ) (hsz : (ks κ).heap.size = sz) (hH : HoldX (zA sz) (ks κ)) (hL : L ≤ 2048) (hX : va_X b L xs (ks κ) (ks κ).heap) (hbl : b < sz) (hB : LB (xL l D t sz) (ga G1 0) (ga G2 0) G1 G2) (hP : PQ G1 σ1 G2 σ2) (hi : i + 4 ≤ L) (K : Gn (xL l D t sz) κ Q (LW (xL l D t sz) (ga G1 0) (ga G2 0)) 46 17118 780 (lvW b G1 G2 i) []) : Gn (xL l D t sz) κ Q (W2 G1 σ1 G2 σ2) 46 17118 250 (lvW b G1 G2 i) [] := by
  obtain ⟨h1, _, _, _, _, _, h2⟩ := Cx0 hP
  have hdj : ∀ i j, i < gN G1 → j < gN G2 → ga G1 i ≠ ga G2 j := by rw [hB.2.2.1, hB.2.2.2.1]; exact hB.2.2.2.2.2.2
  obtain ⟨u, τ1, τ2, k1, k2, hP2⟩ := s_person hP (xs (nI i + nI 1).toNatClampNeg) (xs (nI i + nI 2).toNatClampNeg)
  refine n_aload_n (pc := 250) C dL_law_250 rfl ?_
  refine n_aload_n (pc := 251) C dL_law_251 rfl ?_
  refine n_iload_n (pc := 252) C dL_law_252 rfl ?_
  refine n_iconst (pc := 253) (v := nI 1) C dL_law_253 (by decide) ?_
  refine n_iadd (pc := 254) C dL_law_254 ?_
  refine n_sld (pc := 255) C hX (by omega) (Nat.not_le.mpr hbl) (sI (by omega) hL) dL_law_255 ?_
  refine n_aload_n (pc := 256) C dL_law_256 rfl ?_
  refine n_iload_n (pc := 257) C dL_law_257 rfl ?_
  refine n_iconst (pc := 258) (v := nI 2) C dL_law_258 (by decide) ?_
  refine n_iadd (pc := 259) C dL_law_259 ?_
  refine n_sld (pc := 260) C hX (by omega) (Nat.not_le.mpr hbl) (sI (by omega) hL) dL_law_260 ?_
  refine n_callV (pc := 261) (i := 0) (ci := 9) (As := [.int (xs (nI i + nI 1).toNatClampNeg), .int (xs (nI i + nI 2).toNatClampNeg)]) (rest := []) (Φ1 := W2 G1 τ1 G2 σ2) C hB.1 hH k1 dL_law_261 rfl w_367 (List.forall_mem_cons.mpr ⟨w_364, List.forall_mem_cons.mpr ⟨w_365, List.forall_mem_cons.mpr ⟨w_366, List.forall_mem_cons.mpr ⟨w_1, fun _ h => absurd h List.not_mem_nil⟩⟩⟩⟩) ds_X9_person h1 ⟨Nat.le_of_ble_eq_true rfl, Nat.le_of_ble_eq_true rfl⟩ (Nat.le_of_ble_eq_true rfl) ⟨Nat.le_of_ble_eq_true rfl, Nat.le_of_ble_eq_true rfl⟩ (fun _ h => h.1) (W2.a hdj) ?_
  refine n_aload_n (pc := 264) C dL_law_264 rfl ?_
  refine n_aload_n (pc := 265) C dL_law_265 rfl ?_
  refine n_iload_n (pc := 266) C dL_law_266 rfl ?_
  refine n_iconst (pc := 267) (v := nI 1) C dL_law_267 (by decide) ?_
  refine n_iadd (pc := 268) C dL_law_268 ?_
  refine n_sld (pc := 269) C hX (by omega) (Nat.not_le.mpr hbl) (sI (by omega) hL) dL_law_269 ?_
  refine n_aload_n (pc := 270) C dL_law_270 rfl ?_
  refine n_iload_n (pc := 271) C dL_law_271 rfl ?_
  refine n_iconst (pc := 272) (v := nI 2) C dL_law_272 (by decide) ?_
  refine n_iadd (pc := 273) C dL_law_273 ?_
  refine n_sld (pc := 274) C hX (by omega) (Nat.not_le.mpr hbl) (sI (by omega) hL) dL_law_274 ?_
  refine n_callV (pc := 275) (i := 0) (ci := 10) (As := [.int (xs (nI i + nI 1).toNatClampNeg), .int (xs (nI i + nI 2).toNatClampNeg)]) (rest := [.int u]) (Φ1 := W2 G1 τ1 G2 τ2) C hB.2.1 hH k2 dL_law_275 rfl w_859 (List.forall_mem_cons.mpr ⟨w_856, List.forall_mem_cons.mpr ⟨w_857, List.forall_mem_cons.mpr ⟨w_858, List.forall_mem_cons.mpr ⟨w_16, fun _ h => absurd h List.not_mem_nil⟩⟩⟩⟩) ds_X10_person h2 ⟨Nat.le_of_ble_eq_true rfl, Nat.le_of_ble_eq_true rfl⟩ (Nat.le_of_ble_eq_true rfl) ⟨Nat.le_of_ble_eq_true rfl, Nat.le_of_ble_eq_true rfl⟩ (fun _ h => h.2) (W2.b hdj) ?_
  refine n_icmp_eq (pc := 278) C 780 dL_law_278 rfl (fun _ => ?_) (fun z => absurd rfl z)
  exact n_phi (fun H h => ⟨G1, τ1, G2, τ2, hB, hP2, h⟩) K
theorem law_differ (C : Cn (xL l D t sz) κ) (hsz : (ks κ).heap.size = sz) (hH : HoldX (zA sz) (ks κ)) (hL : L ≤ 2048) (hX : va_X b L xs (ks κ) (ks κ).heap) (hbl : b < sz) (hB : LB (xL l D t sz) (ga G1 0) (ga G2 0) G1 G2) (hP : PQ G1 σ1 G2 σ2) (hi : i + 4 ≤ L) (K : Gn (xL l D t sz) κ Q (LW (xL l D t sz) (ga G1 0) (ga G2 0)) 46 17118 780 (lvW b G1 G2 i) []) : Gn (xL l D t sz) κ Q (W2 G1 σ1 G2 σ2) 46 17118 283 (lvW b G1 G2 i) [] := by
  obtain ⟨h1, _, _, _, _, _, h2⟩ := Cx0 hP
  have hdj : ∀ i j, i < gN G1 → j < gN G2 → ga G1 i ≠ ga G2 j := by rw [hB.2.2.1, hB.2.2.2.1]; exact hB.2.2.2.2.2.2
  by_cases hz : (xs (nI i + nI 3).toNatClampNeg) = 0
  · obtain ⟨u, τ1, τ2, k1, k2, hP2⟩ := s_differ hP (xs (nI i + nI 1).toNatClampNeg) (xs (nI i + nI 2).toNatClampNeg) false
    refine n_aload_n (pc := 283) C dL_law_283 rfl ?_
    refine n_aload_n (pc := 284) C dL_law_284 rfl ?_
    refine n_iload_n (pc := 285) C dL_law_285 rfl ?_
    refine n_iconst (pc := 286) (v := nI 1) C dL_law_286 (by decide) ?_
    refine n_iadd (pc := 287) C dL_law_287 ?_
    refine n_sld (pc := 288) C hX (by omega) (Nat.not_le.mpr hbl) (sI (by omega) hL) dL_law_288 ?_
    refine n_aload_n (pc := 289) C dL_law_289 rfl ?_
    refine n_iload_n (pc := 290) C dL_law_290 rfl ?_
    refine n_iconst (pc := 291) (v := nI 2) C dL_law_291 (by decide) ?_
    refine n_iadd (pc := 292) C dL_law_292 ?_
    refine n_sld (pc := 293) C hX (by omega) (Nat.not_le.mpr hbl) (sI (by omega) hL) dL_law_293 ?_
    refine n_aload_n (pc := 294) C dL_law_294 rfl ?_
    refine n_iload_n (pc := 295) C dL_law_295 rfl ?_
    refine n_iconst (pc := 296) (v := nI 3) C dL_law_296 (by decide) ?_
    refine n_iadd (pc := 297) C dL_law_297 ?_
    refine n_sld (pc := 298) C hX (by omega) (Nat.not_le.mpr hbl) (sI (by omega) hL) dL_law_298 ?_
    refine n_if_eq (pc := 299) C 306 dL_law_299 rfl (fun _ => ?_) (fun z => absurd hz z)
    refine n_iconst (pc := 306) (v := nI 0) C dL_law_306 (by decide) ?_
    refine n_callV (pc := 307) (i := 0) (ci := 9) (As := [.int (xs (nI i + nI 1).toNatClampNeg), .int (xs (nI i + nI 2).toNatClampNeg), .int (nI (b2 false))]) (rest := []) (Φ1 := W2 G1 τ1 G2 σ2) C hB.1 hH k1 dL_law_307 rfl w_395 (List.forall_mem_cons.mpr ⟨w_392, List.forall_mem_cons.mpr ⟨w_393, List.forall_mem_cons.mpr ⟨w_394, List.forall_mem_cons.mpr ⟨w_1, fun _ h => absurd h List.not_mem_nil⟩⟩⟩⟩) ds_X9_differ h1 ⟨Nat.le_of_ble_eq_true rfl, Nat.le_of_ble_eq_true rfl⟩ (Nat.le_of_ble_eq_true rfl) ⟨Nat.le_of_ble_eq_true rfl, Nat.le_of_ble_eq_true rfl⟩ (fun _ h => h.1) (W2.a hdj) ?_
    refine n_aload_n (pc := 310) C dL_law_310 rfl ?_
    refine n_aload_n (pc := 311) C dL_law_311 rfl ?_
    refine n_iload_n (pc := 312) C dL_law_312 rfl ?_
    refine n_iconst (pc := 313) (v := nI 1) C dL_law_313 (by decide) ?_
    refine n_iadd (pc := 314) C dL_law_314 ?_
    refine n_sld (pc := 315) C hX (by omega) (Nat.not_le.mpr hbl) (sI (by omega) hL) dL_law_315 ?_
    refine n_aload_n (pc := 316) C dL_law_316 rfl ?_
    refine n_iload_n (pc := 317) C dL_law_317 rfl ?_
    refine n_iconst (pc := 318) (v := nI 2) C dL_law_318 (by decide) ?_
    refine n_iadd (pc := 319) C dL_law_319 ?_
    refine n_sld (pc := 320) C hX (by omega) (Nat.not_le.mpr hbl) (sI (by omega) hL) dL_law_320 ?_
    refine n_aload_n (pc := 321) C dL_law_321 rfl ?_
    refine n_iload_n (pc := 322) C dL_law_322 rfl ?_
    refine n_iconst (pc := 323) (v := nI 3) C dL_law_323 (by decide) ?_
    refine n_iadd (pc := 324) C dL_law_324 ?_
    refine n_sld (pc := 325) C hX (by omega) (Nat.not_le.mpr hbl) (sI (by omega) hL) dL_law_325 ?_
    refine n_if_eq (pc := 326) C 333 dL_law_326 rfl (fun _ => ?_) (fun z => absurd hz z)
    refine n_iconst (pc := 333) (v := nI 0) C dL_law_333 (by decide) ?_
    refine n_callV (pc := 334) (i := 0) (ci := 10) (As := [.int (xs (nI i + nI 1).toNatClampNeg), .int (xs (nI i + nI 2).toNatClampNeg), .int (nI (b2 false))]) (rest := [.int u]) (Φ1 := W2 G1 τ1 G2 τ2) C hB.2.1 hH k2 dL_law_334 rfl w_872 (List.forall_mem_cons.mpr ⟨w_869, List.forall_mem_cons.mpr ⟨w_870, List.forall_mem_cons.mpr ⟨w_871, List.forall_mem_cons.mpr ⟨w_16, fun _ h => absurd h List.not_mem_nil⟩⟩⟩⟩) ds_X10_differ h2 ⟨Nat.le_of_ble_eq_true rfl, Nat.le_of_ble_eq_true rfl⟩ (Nat.le_of_ble_eq_true rfl) ⟨Nat.le_of_ble_eq_true rfl, Nat.le_of_ble_eq_true rfl⟩ (fun _ h => h.2) (W2.b hdj) ?_
    refine n_icmp_eq (pc := 337) C 780 dL_law_337 rfl (fun _ => ?_) (fun z => absurd rfl z)
    exact n_phi (fun H h => ⟨G1, τ1, G2, τ2, hB, hP2, h⟩) K
  · obtain ⟨u, τ1, τ2, k1, k2, hP2⟩ := s_differ hP (xs (nI i + nI 1).toNatClampNeg) (xs (nI i + nI 2).toNatClampNeg) true
    refine n_aload_n (pc := 283) C dL_law_283 rfl ?_
    refine n_aload_n (pc := 284) C dL_law_284 rfl ?_
    refine n_iload_n (pc := 285) C dL_law_285 rfl ?_
    refine n_iconst (pc := 286) (v := nI 1) C dL_law_286 (by decide) ?_
    refine n_iadd (pc := 287) C dL_law_287 ?_
    refine n_sld (pc := 288) C hX (by omega) (Nat.not_le.mpr hbl) (sI (by omega) hL) dL_law_288 ?_
    refine n_aload_n (pc := 289) C dL_law_289 rfl ?_
    refine n_iload_n (pc := 290) C dL_law_290 rfl ?_
    refine n_iconst (pc := 291) (v := nI 2) C dL_law_291 (by decide) ?_
    refine n_iadd (pc := 292) C dL_law_292 ?_
    refine n_sld (pc := 293) C hX (by omega) (Nat.not_le.mpr hbl) (sI (by omega) hL) dL_law_293 ?_
    refine n_aload_n (pc := 294) C dL_law_294 rfl ?_
    refine n_iload_n (pc := 295) C dL_law_295 rfl ?_
    refine n_iconst (pc := 296) (v := nI 3) C dL_law_296 (by decide) ?_
    refine n_iadd (pc := 297) C dL_law_297 ?_
    refine n_sld (pc := 298) C hX (by omega) (Nat.not_le.mpr hbl) (sI (by omega) hL) dL_law_298 ?_
    refine n_if_eq (pc := 299) C 306 dL_law_299 rfl (fun z => absurd z hz) (fun _ => ?_)
    refine n_iconst (pc := 302) (v := nI 1) C dL_law_302 (by decide) ?_
    refine n_goto (pc := 303) C 307 dL_law_303 rfl ?_
    refine n_callV (pc := 307) (i := 0) (ci := 9) (As := [.int (xs (nI i + nI 1).toNatClampNeg), .int (xs (nI i + nI 2).toNatClampNeg), .int (nI (b2 true))]) (rest := []) (Φ1 := W2 G1 τ1 G2 σ2) C hB.1 hH k1 dL_law_307 rfl w_395 (List.forall_mem_cons.mpr ⟨w_392, List.forall_mem_cons.mpr ⟨w_393, List.forall_mem_cons.mpr ⟨w_394, List.forall_mem_cons.mpr ⟨w_1, fun _ h => absurd h List.not_mem_nil⟩⟩⟩⟩) ds_X9_differ h1 ⟨Nat.le_of_ble_eq_true rfl, Nat.le_of_ble_eq_true rfl⟩ (Nat.le_of_ble_eq_true rfl) ⟨Nat.le_of_ble_eq_true rfl, Nat.le_of_ble_eq_true rfl⟩ (fun _ h => h.1) (W2.a hdj) ?_
    refine n_aload_n (pc := 310) C dL_law_310 rfl ?_
    refine n_aload_n (pc := 311) C dL_law_311 rfl ?_
    refine n_iload_n (pc := 312) C dL_law_312 rfl ?_
    refine n_iconst (pc := 313) (v := nI 1) C dL_law_313 (by decide) ?_
    refine n_iadd (pc := 314) C dL_law_314 ?_
    refine n_sld (pc := 315) C hX (by omega) (Nat.not_le.mpr hbl) (sI (by omega) hL) dL_law_315 ?_
    refine n_aload_n (pc := 316) C dL_law_316 rfl ?_
    refine n_iload_n (pc := 317) C dL_law_317 rfl ?_
    refine n_iconst (pc := 318) (v := nI 2) C dL_law_318 (by decide) ?_
    refine n_iadd (pc := 319) C dL_law_319 ?_
    refine n_sld (pc := 320) C hX (by omega) (Nat.not_le.mpr hbl) (sI (by omega) hL) dL_law_320 ?_
    refine n_aload_n (pc := 321) C dL_law_321 rfl ?_
    refine n_iload_n (pc := 322) C dL_law_322 rfl ?_
    refine n_iconst (pc := 323) (v := nI 3) C dL_law_323 (by decide) ?_
    refine n_iadd (pc := 324) C dL_law_324 ?_
    refine n_sld (pc := 325) C hX (by omega) (Nat.not_le.mpr hbl) (sI (by omega) hL) dL_law_325 ?_
    refine n_if_eq (pc := 326) C 333 dL_law_326 rfl (fun z => absurd z hz) (fun _ => ?_)
    refine n_iconst (pc := 329) (v := nI 1) C dL_law_329 (by decide) ?_
    refine n_goto (pc := 330) C 334 dL_law_330 rfl ?_
    refine n_callV (pc := 334) (i := 0) (ci := 10) (As := [.int (xs (nI i + nI 1).toNatClampNeg), .int (xs (nI i + nI 2).toNatClampNeg), .int (nI (b2 true))]) (rest := [.int u]) (Φ1 := W2 G1 τ1 G2 τ2) C hB.2.1 hH k2 dL_law_334 rfl w_872 (List.forall_mem_cons.mpr ⟨w_869, List.forall_mem_cons.mpr ⟨w_870, List.forall_mem_cons.mpr ⟨w_871, List.forall_mem_cons.mpr ⟨w_16, fun _ h => absurd h List.not_mem_nil⟩⟩⟩⟩) ds_X10_differ h2 ⟨Nat.le_of_ble_eq_true rfl, Nat.le_of_ble_eq_true rfl⟩ (Nat.le_of_ble_eq_true rfl) ⟨Nat.le_of_ble_eq_true rfl, Nat.le_of_ble_eq_true rfl⟩ (fun _ h => h.2) (W2.b hdj) ?_
    refine n_icmp_eq (pc := 337) C 780 dL_law_337 rfl (fun _ => ?_) (fun z => absurd rfl z)
    exact n_phi (fun H h => ⟨G1, τ1, G2, τ2, hB, hP2, h⟩) K
theorem law_may (C : Cn (xL l D t sz) κ) (hsz : (ks κ).heap.size = sz) (hH : HoldX (zA sz) (ks κ)) (hL : L ≤ 2048) (hX : va_X b L xs (ks κ) (ks κ).heap) (hbl : b < sz) (hB : LB (xL l D t sz) (ga G1 0) (ga G2 0) G1 G2) (hP : PQ G1 σ1 G2 σ2) (hi : i + 4 ≤ L) (K : Gn (xL l D t sz) κ Q (LW (xL l D t sz) (ga G1 0) (ga G2 0)) 46 17118 780 (lvW b G1 G2 i) []) : Gn (xL l D t sz) κ Q (W2 G1 σ1 G2 σ2) 46 17118 342 (lvW b G1 G2 i) [] := by
  obtain ⟨h1, _, _, _, _, _, h2⟩ := Cx0 hP
  have hdj : ∀ i j, i < gN G1 → j < gN G2 → ga G1 i ≠ ga G2 j := by rw [hB.2.2.1, hB.2.2.2.1]; exact hB.2.2.2.2.2.2
  obtain ⟨u, τ1, τ2, k1, k2, hP2⟩ := s_may hP (xs (nI i + nI 1).toNatClampNeg)
  refine n_aload_n (pc := 342) C dL_law_342 rfl ?_
  refine n_aload_n (pc := 343) C dL_law_343 rfl ?_
  refine n_iload_n (pc := 344) C dL_law_344 rfl ?_
  refine n_iconst (pc := 345) (v := nI 1) C dL_law_345 (by decide) ?_
  refine n_iadd (pc := 346) C dL_law_346 ?_
  refine n_sld (pc := 347) C hX (by omega) (Nat.not_le.mpr hbl) (sI (by omega) hL) dL_law_347 ?_
  refine n_callV (pc := 348) (i := 0) (ci := 9) (As := [.int (xs (nI i + nI 1).toNatClampNeg)]) (rest := []) (Φ1 := W2 G1 τ1 G2 σ2) C hB.1 hH k1 dL_law_348 rfl w_412 (List.forall_mem_cons.mpr ⟨w_409, List.forall_mem_cons.mpr ⟨w_410, List.forall_mem_cons.mpr ⟨w_411, List.forall_mem_cons.mpr ⟨w_1, fun _ h => absurd h List.not_mem_nil⟩⟩⟩⟩) ds_X9_may h1 ⟨Nat.le_of_ble_eq_true rfl, Nat.le_of_ble_eq_true rfl⟩ (Nat.le_of_ble_eq_true rfl) ⟨Nat.le_of_ble_eq_true rfl, Nat.le_of_ble_eq_true rfl⟩ (fun _ h => h.1) (W2.a hdj) ?_
  refine n_aload_n (pc := 351) C dL_law_351 rfl ?_
  refine n_aload_n (pc := 352) C dL_law_352 rfl ?_
  refine n_iload_n (pc := 353) C dL_law_353 rfl ?_
  refine n_iconst (pc := 354) (v := nI 1) C dL_law_354 (by decide) ?_
  refine n_iadd (pc := 355) C dL_law_355 ?_
  refine n_sld (pc := 356) C hX (by omega) (Nat.not_le.mpr hbl) (sI (by omega) hL) dL_law_356 ?_
  refine n_callV (pc := 357) (i := 0) (ci := 10) (As := [.int (xs (nI i + nI 1).toNatClampNeg)]) (rest := [.int u]) (Φ1 := W2 G1 τ1 G2 τ2) C hB.2.1 hH k2 dL_law_357 rfl w_884 (List.forall_mem_cons.mpr ⟨w_881, List.forall_mem_cons.mpr ⟨w_882, List.forall_mem_cons.mpr ⟨w_883, List.forall_mem_cons.mpr ⟨w_16, fun _ h => absurd h List.not_mem_nil⟩⟩⟩⟩) ds_X10_may h2 ⟨Nat.le_of_ble_eq_true rfl, Nat.le_of_ble_eq_true rfl⟩ (Nat.le_of_ble_eq_true rfl) ⟨Nat.le_of_ble_eq_true rfl, Nat.le_of_ble_eq_true rfl⟩ (fun _ h => h.2) (W2.b hdj) ?_
  refine n_icmp_eq (pc := 360) C 780 dL_law_360 rfl (fun _ => ?_) (fun z => absurd rfl z)
  exact n_phi (fun H h => ⟨G1, τ1, G2, τ2, hB, hP2, h⟩) K
theorem law_goIn (C : Cn (xL l D t sz) κ) (hsz : (ks κ).heap.size = sz) (hH : HoldX (zA sz) (ks κ)) (hL : L ≤ 2048) (hX : va_X b L xs (ks κ) (ks κ).heap) (hbl : b < sz) (hB : LB (xL l D t sz) (ga G1 0) (ga G2 0) G1 G2) (hP : PQ G1 σ1 G2 σ2) (hi : i + 4 ≤ L) (K : Gn (xL l D t sz) κ Q (LW (xL l D t sz) (ga G1 0) (ga G2 0)) 46 17118 780 (lvW b G1 G2 i) []) : Gn (xL l D t sz) κ Q (W2 G1 σ1 G2 σ2) 46 17118 365 (lvW b G1 G2 i) [] := by
  obtain ⟨h1, _, _, _, _, _, h2⟩ := Cx0 hP
  have hdj : ∀ i j, i < gN G1 → j < gN G2 → ga G1 i ≠ ga G2 j := by rw [hB.2.2.1, hB.2.2.2.1]; exact hB.2.2.2.2.2.2
  obtain ⟨u, τ1, τ2, k1, k2, hP2⟩ := s_goIn hP (xs (nI i + nI 1).toNatClampNeg)
  refine n_aload_n (pc := 365) C dL_law_365 rfl ?_
  refine n_aload_n (pc := 366) C dL_law_366 rfl ?_
  refine n_iload_n (pc := 367) C dL_law_367 rfl ?_
  refine n_iconst (pc := 368) (v := nI 1) C dL_law_368 (by decide) ?_
  refine n_iadd (pc := 369) C dL_law_369 ?_
  refine n_sld (pc := 370) C hX (by omega) (Nat.not_le.mpr hbl) (sI (by omega) hL) dL_law_370 ?_
  refine n_callV (pc := 371) (i := 0) (ci := 9) (As := [.int (xs (nI i + nI 1).toNatClampNeg)]) (rest := []) (Φ1 := W2 G1 τ1 G2 σ2) C hB.1 hH k1 dL_law_371 rfl w_429 (List.forall_mem_cons.mpr ⟨w_426, List.forall_mem_cons.mpr ⟨w_427, List.forall_mem_cons.mpr ⟨w_428, List.forall_mem_cons.mpr ⟨w_1, fun _ h => absurd h List.not_mem_nil⟩⟩⟩⟩) ds_X9_goIn h1 ⟨Nat.le_of_ble_eq_true rfl, Nat.le_of_ble_eq_true rfl⟩ (Nat.le_of_ble_eq_true rfl) ⟨Nat.le_of_ble_eq_true rfl, Nat.le_of_ble_eq_true rfl⟩ (fun _ h => h.1) (W2.a hdj) ?_
  refine n_aload_n (pc := 374) C dL_law_374 rfl ?_
  refine n_aload_n (pc := 375) C dL_law_375 rfl ?_
  refine n_iload_n (pc := 376) C dL_law_376 rfl ?_
  refine n_iconst (pc := 377) (v := nI 1) C dL_law_377 (by decide) ?_
  refine n_iadd (pc := 378) C dL_law_378 ?_
  refine n_sld (pc := 379) C hX (by omega) (Nat.not_le.mpr hbl) (sI (by omega) hL) dL_law_379 ?_
  refine n_callV (pc := 380) (i := 0) (ci := 10) (As := [.int (xs (nI i + nI 1).toNatClampNeg)]) (rest := [.int u]) (Φ1 := W2 G1 τ1 G2 τ2) C hB.2.1 hH k2 dL_law_380 rfl w_898 (List.forall_mem_cons.mpr ⟨w_895, List.forall_mem_cons.mpr ⟨w_896, List.forall_mem_cons.mpr ⟨w_897, List.forall_mem_cons.mpr ⟨w_16, fun _ h => absurd h List.not_mem_nil⟩⟩⟩⟩) ds_X10_goIn h2 ⟨Nat.le_of_ble_eq_true rfl, Nat.le_of_ble_eq_true rfl⟩ (Nat.le_of_ble_eq_true rfl) ⟨Nat.le_of_ble_eq_true rfl, Nat.le_of_ble_eq_true rfl⟩ (fun _ h => h.2) (W2.b hdj) ?_
  refine n_icmp_eq (pc := 383) C 780 dL_law_383 rfl (fun _ => ?_) (fun z => absurd rfl z)
  exact n_phi (fun H h => ⟨G1, τ1, G2, τ2, hB, hP2, h⟩) K
theorem law_goOut (C : Cn (xL l D t sz) κ) (hsz : (ks κ).heap.size = sz) (hH : HoldX (zA sz) (ks κ)) (hL : L ≤ 2048) (hX : va_X b L xs (ks κ) (ks κ).heap) (hbl : b < sz) (hB : LB (xL l D t sz) (ga G1 0) (ga G2 0) G1 G2) (hP : PQ G1 σ1 G2 σ2) (hi : i + 4 ≤ L) (K : Gn (xL l D t sz) κ Q (LW (xL l D t sz) (ga G1 0) (ga G2 0)) 46 17118 780 (lvW b G1 G2 i) []) : Gn (xL l D t sz) κ Q (W2 G1 σ1 G2 σ2) 46 17118 388 (lvW b G1 G2 i) [] := by
  obtain ⟨h1, _, _, _, _, _, h2⟩ := Cx0 hP
  have hdj : ∀ i j, i < gN G1 → j < gN G2 → ga G1 i ≠ ga G2 j := by rw [hB.2.2.1, hB.2.2.2.1]; exact hB.2.2.2.2.2.2
  obtain ⟨u, τ1, τ2, k1, k2, hP2⟩ := s_goOut hP (xs (nI i + nI 1).toNatClampNeg)
  refine n_aload_n (pc := 388) C dL_law_388 rfl ?_
  refine n_aload_n (pc := 389) C dL_law_389 rfl ?_
  refine n_iload_n (pc := 390) C dL_law_390 rfl ?_
  refine n_iconst (pc := 391) (v := nI 1) C dL_law_391 (by decide) ?_
  refine n_iadd (pc := 392) C dL_law_392 ?_
  refine n_sld (pc := 393) C hX (by omega) (Nat.not_le.mpr hbl) (sI (by omega) hL) dL_law_393 ?_
  refine n_callV (pc := 394) (i := 0) (ci := 9) (As := [.int (xs (nI i + nI 1).toNatClampNeg)]) (rest := []) (Φ1 := W2 G1 τ1 G2 σ2) C hB.1 hH k1 dL_law_394 rfl w_461 (List.forall_mem_cons.mpr ⟨w_458, List.forall_mem_cons.mpr ⟨w_459, List.forall_mem_cons.mpr ⟨w_460, List.forall_mem_cons.mpr ⟨w_1, fun _ h => absurd h List.not_mem_nil⟩⟩⟩⟩) ds_X9_goOut h1 ⟨Nat.le_of_ble_eq_true rfl, Nat.le_of_ble_eq_true rfl⟩ (Nat.le_of_ble_eq_true rfl) ⟨Nat.le_of_ble_eq_true rfl, Nat.le_of_ble_eq_true rfl⟩ (fun _ h => h.1) (W2.a hdj) ?_
  refine n_aload_n (pc := 397) C dL_law_397 rfl ?_
  refine n_aload_n (pc := 398) C dL_law_398 rfl ?_
  refine n_iload_n (pc := 399) C dL_law_399 rfl ?_
  refine n_iconst (pc := 400) (v := nI 1) C dL_law_400 (by decide) ?_
  refine n_iadd (pc := 401) C dL_law_401 ?_
  refine n_sld (pc := 402) C hX (by omega) (Nat.not_le.mpr hbl) (sI (by omega) hL) dL_law_402 ?_
  refine n_callV (pc := 403) (i := 0) (ci := 10) (As := [.int (xs (nI i + nI 1).toNatClampNeg)]) (rest := [.int u]) (Φ1 := W2 G1 τ1 G2 τ2) C hB.2.1 hH k2 dL_law_403 rfl w_906 (List.forall_mem_cons.mpr ⟨w_903, List.forall_mem_cons.mpr ⟨w_904, List.forall_mem_cons.mpr ⟨w_905, List.forall_mem_cons.mpr ⟨w_16, fun _ h => absurd h List.not_mem_nil⟩⟩⟩⟩) ds_X10_goOut h2 ⟨Nat.le_of_ble_eq_true rfl, Nat.le_of_ble_eq_true rfl⟩ (Nat.le_of_ble_eq_true rfl) ⟨Nat.le_of_ble_eq_true rfl, Nat.le_of_ble_eq_true rfl⟩ (fun _ h => h.2) (W2.b hdj) ?_
  refine n_icmp_eq (pc := 406) C 780 dL_law_406 rfl (fun _ => ?_) (fun z => absurd rfl z)
  exact n_phi (fun H h => ⟨G1, τ1, G2, τ2, hB, hP2, h⟩) K
theorem law_undo (C : Cn (xL l D t sz) κ) (hsz : (ks κ).heap.size = sz) (hH : HoldX (zA sz) (ks κ)) (hL : L ≤ 2048) (hX : va_X b L xs (ks κ) (ks κ).heap) (hbl : b < sz) (hB : LB (xL l D t sz) (ga G1 0) (ga G2 0) G1 G2) (hP : PQ G1 σ1 G2 σ2) (hi : i + 4 ≤ L) (K : Gn (xL l D t sz) κ Q (LW (xL l D t sz) (ga G1 0) (ga G2 0)) 46 17118 780 (lvW b G1 G2 i) []) : Gn (xL l D t sz) κ Q (W2 G1 σ1 G2 σ2) 46 17118 411 (lvW b G1 G2 i) [] := by
  obtain ⟨h1, _, _, _, _, _, h2⟩ := Cx0 hP
  have hdj : ∀ i j, i < gN G1 → j < gN G2 → ga G1 i ≠ ga G2 j := by rw [hB.2.2.1, hB.2.2.2.1]; exact hB.2.2.2.2.2.2
  obtain ⟨u, τ1, τ2, k1, k2, hP2⟩ := s_undo hP 
  refine n_aload_n (pc := 411) C dL_law_411 rfl ?_
  refine n_callV (pc := 412) (i := 0) (ci := 9) (As := []) (rest := []) (Φ1 := W2 G1 τ1 G2 σ2) C hB.1 hH k1 dL_law_412 rfl w_465 (List.forall_mem_cons.mpr ⟨w_462, List.forall_mem_cons.mpr ⟨w_463, List.forall_mem_cons.mpr ⟨w_464, List.forall_mem_cons.mpr ⟨w_1, fun _ h => absurd h List.not_mem_nil⟩⟩⟩⟩) ds_X9_undo h1 ⟨Nat.le_of_ble_eq_true rfl, Nat.le_of_ble_eq_true rfl⟩ (Nat.le_of_ble_eq_true rfl) ⟨Nat.le_of_ble_eq_true rfl, Nat.le_of_ble_eq_true rfl⟩ (fun _ h => h.1) (W2.a hdj) ?_
  refine n_aload_n (pc := 415) C dL_law_415 rfl ?_
  refine n_callV (pc := 416) (i := 0) (ci := 10) (As := []) (rest := [.int u]) (Φ1 := W2 G1 τ1 G2 τ2) C hB.2.1 hH k2 dL_law_416 rfl w_910 (List.forall_mem_cons.mpr ⟨w_907, List.forall_mem_cons.mpr ⟨w_908, List.forall_mem_cons.mpr ⟨w_909, List.forall_mem_cons.mpr ⟨w_16, fun _ h => absurd h List.not_mem_nil⟩⟩⟩⟩) ds_X10_undo h2 ⟨Nat.le_of_ble_eq_true rfl, Nat.le_of_ble_eq_true rfl⟩ (Nat.le_of_ble_eq_true rfl) ⟨Nat.le_of_ble_eq_true rfl, Nat.le_of_ble_eq_true rfl⟩ (fun _ h => h.2) (W2.b hdj) ?_
  refine n_icmp_eq (pc := 419) C 780 dL_law_419 rfl (fun _ => ?_) (fun z => absurd rfl z)
  exact n_phi (fun H h => ⟨G1, τ1, G2, τ2, hB, hP2, h⟩) K
theorem law_last (C : Cn (xL l D t sz) κ) (hsz : (ks κ).heap.size = sz) (hH : HoldX (zA sz) (ks κ)) (hL : L ≤ 2048) (hX : va_X b L xs (ks κ) (ks κ).heap) (hbl : b < sz) (hB : LB (xL l D t sz) (ga G1 0) (ga G2 0) G1 G2) (hP : PQ G1 σ1 G2 σ2) (hi : i + 4 ≤ L) (K : Gn (xL l D t sz) κ Q (LW (xL l D t sz) (ga G1 0) (ga G2 0)) 46 17118 780 (lvW b G1 G2 i) []) : Gn (xL l D t sz) κ Q (W2 G1 σ1 G2 σ2) 46 17118 424 (lvW b G1 G2 i) [] := by
  obtain ⟨h1, _, _, _, _, _, h2⟩ := Cx0 hP
  have hdj : ∀ i j, i < gN G1 → j < gN G2 → ga G1 i ≠ ga G2 j := by rw [hB.2.2.1, hB.2.2.2.1]; exact hB.2.2.2.2.2.2
  obtain ⟨u, τ1, τ2, k1, k2, hP2⟩ := s_last hP 
  refine n_aload_n (pc := 424) C dL_law_424 rfl ?_
  refine n_callV (pc := 425) (i := 0) (ci := 9) (As := []) (rest := []) (Φ1 := W2 G1 τ1 G2 σ2) C hB.1 hH k1 dL_law_425 rfl w_477 (List.forall_mem_cons.mpr ⟨w_474, List.forall_mem_cons.mpr ⟨w_475, List.forall_mem_cons.mpr ⟨w_476, List.forall_mem_cons.mpr ⟨w_1, fun _ h => absurd h List.not_mem_nil⟩⟩⟩⟩) ds_X9_last h1 ⟨Nat.le_of_ble_eq_true rfl, Nat.le_of_ble_eq_true rfl⟩ (Nat.le_of_ble_eq_true rfl) ⟨Nat.le_of_ble_eq_true rfl, Nat.le_of_ble_eq_true rfl⟩ (fun _ h => h.1) (W2.a hdj) ?_
  refine n_aload_n (pc := 428) C dL_law_428 rfl ?_
  refine n_callV (pc := 429) (i := 0) (ci := 10) (As := []) (rest := [.int u]) (Φ1 := W2 G1 τ1 G2 τ2) C hB.2.1 hH k2 dL_law_429 rfl w_914 (List.forall_mem_cons.mpr ⟨w_911, List.forall_mem_cons.mpr ⟨w_912, List.forall_mem_cons.mpr ⟨w_913, List.forall_mem_cons.mpr ⟨w_16, fun _ h => absurd h List.not_mem_nil⟩⟩⟩⟩) ds_X10_last h2 ⟨Nat.le_of_ble_eq_true rfl, Nat.le_of_ble_eq_true rfl⟩ (Nat.le_of_ble_eq_true rfl) ⟨Nat.le_of_ble_eq_true rfl, Nat.le_of_ble_eq_true rfl⟩ (fun _ h => h.2) (W2.b hdj) ?_
  refine n_icmp_eq (pc := 432) C 780 dL_law_432 rfl (fun _ => ?_) (fun z => absurd rfl z)
  exact n_phi (fun H h => ⟨G1, τ1, G2, τ2, hB, hP2, h⟩) K
theorem law_add (C : Cn (xL l D t sz) κ) (hsz : (ks κ).heap.size = sz) (hH : HoldX (zA sz) (ks κ)) (hL : L ≤ 2048) (hX : va_X b L xs (ks κ) (ks κ).heap) (hbl : b < sz) (hB : LB (xL l D t sz) (ga G1 0) (ga G2 0) G1 G2) (hP : PQ G1 σ1 G2 σ2) (hi : i + 4 ≤ L) (K : Gn (xL l D t sz) κ Q (LW (xL l D t sz) (ga G1 0) (ga G2 0)) 46 17118 780 (lvW b G1 G2 i) []) : Gn (xL l D t sz) κ Q (W2 G1 σ1 G2 σ2) 46 17118 437 (lvW b G1 G2 i) [] := by
  obtain ⟨h1, _, _, _, _, _, h2⟩ := Cx0 hP
  have hdj : ∀ i j, i < gN G1 → j < gN G2 → ga G1 i ≠ ga G2 j := by rw [hB.2.2.1, hB.2.2.2.1]; exact hB.2.2.2.2.2.2
  obtain ⟨u, τ1, τ2, k1, k2, hP2⟩ := s_add hP (xs (nI i + nI 1).toNatClampNeg)
  refine n_aload_n (pc := 437) C dL_law_437 rfl ?_
  refine n_aload_n (pc := 438) C dL_law_438 rfl ?_
  refine n_iload_n (pc := 439) C dL_law_439 rfl ?_
  refine n_iconst (pc := 440) (v := nI 1) C dL_law_440 (by decide) ?_
  refine n_iadd (pc := 441) C dL_law_441 ?_
  refine n_sld (pc := 442) C hX (by omega) (Nat.not_le.mpr hbl) (sI (by omega) hL) dL_law_442 ?_
  refine n_callV (pc := 443) (i := 0) (ci := 9) (As := [.int (xs (nI i + nI 1).toNatClampNeg)]) (rest := []) (Φ1 := W2 G1 τ1 G2 σ2) C hB.1 hH k1 dL_law_443 rfl w_481 (List.forall_mem_cons.mpr ⟨w_478, List.forall_mem_cons.mpr ⟨w_479, List.forall_mem_cons.mpr ⟨w_480, List.forall_mem_cons.mpr ⟨w_1, fun _ h => absurd h List.not_mem_nil⟩⟩⟩⟩) ds_X9_add h1 ⟨Nat.le_of_ble_eq_true rfl, Nat.le_of_ble_eq_true rfl⟩ (Nat.le_of_ble_eq_true rfl) ⟨Nat.le_of_ble_eq_true rfl, Nat.le_of_ble_eq_true rfl⟩ (fun _ h => h.1) (W2.a hdj) ?_
  refine n_aload_n (pc := 446) C dL_law_446 rfl ?_
  refine n_aload_n (pc := 447) C dL_law_447 rfl ?_
  refine n_iload_n (pc := 448) C dL_law_448 rfl ?_
  refine n_iconst (pc := 449) (v := nI 1) C dL_law_449 (by decide) ?_
  refine n_iadd (pc := 450) C dL_law_450 ?_
  refine n_sld (pc := 451) C hX (by omega) (Nat.not_le.mpr hbl) (sI (by omega) hL) dL_law_451 ?_
  refine n_callV (pc := 452) (i := 0) (ci := 10) (As := [.int (xs (nI i + nI 1).toNatClampNeg)]) (rest := [.int u]) (Φ1 := W2 G1 τ1 G2 τ2) C hB.2.1 hH k2 dL_law_452 rfl w_918 (List.forall_mem_cons.mpr ⟨w_915, List.forall_mem_cons.mpr ⟨w_916, List.forall_mem_cons.mpr ⟨w_917, List.forall_mem_cons.mpr ⟨w_16, fun _ h => absurd h List.not_mem_nil⟩⟩⟩⟩) ds_X10_add h2 ⟨Nat.le_of_ble_eq_true rfl, Nat.le_of_ble_eq_true rfl⟩ (Nat.le_of_ble_eq_true rfl) ⟨Nat.le_of_ble_eq_true rfl, Nat.le_of_ble_eq_true rfl⟩ (fun _ h => h.2) (W2.b hdj) ?_
  refine n_icmp_eq (pc := 455) C 780 dL_law_455 rfl (fun _ => ?_) (fun z => absurd rfl z)
  exact n_phi (fun H h => ⟨G1, τ1, G2, τ2, hB, hP2, h⟩) K
theorem law_noRow (C : Cn (xL l D t sz) κ) (hsz : (ks κ).heap.size = sz) (hH : HoldX (zA sz) (ks κ)) (hL : L ≤ 2048) (hX : va_X b L xs (ks κ) (ks κ).heap) (hbl : b < sz) (hB : LB (xL l D t sz) (ga G1 0) (ga G2 0) G1 G2) (hP : PQ G1 σ1 G2 σ2) (hi : i + 4 ≤ L) (K : Gn (xL l D t sz) κ Q (LW (xL l D t sz) (ga G1 0) (ga G2 0)) 46 17118 780 (lvW b G1 G2 i) []) : Gn (xL l D t sz) κ Q (W2 G1 σ1 G2 σ2) 46 17118 460 (lvW b G1 G2 i) [] := by
  obtain ⟨h1, _, _, _, _, _, h2⟩ := Cx0 hP
  have hdj : ∀ i j, i < gN G1 → j < gN G2 → ga G1 i ≠ ga G2 j := by rw [hB.2.2.1, hB.2.2.2.1]; exact hB.2.2.2.2.2.2
  obtain ⟨u, τ1, τ2, k1, k2, hP2⟩ := s_noRow hP 
  refine n_aload_n (pc := 460) C dL_law_460 rfl ?_
  refine n_callV (pc := 461) (i := 0) (ci := 9) (As := []) (rest := []) (Φ1 := W2 G1 τ1 G2 σ2) C hB.1 hH k1 dL_law_461 rfl w_489 (List.forall_mem_cons.mpr ⟨w_486, List.forall_mem_cons.mpr ⟨w_487, List.forall_mem_cons.mpr ⟨w_488, List.forall_mem_cons.mpr ⟨w_1, fun _ h => absurd h List.not_mem_nil⟩⟩⟩⟩) ds_X9_noRow h1 ⟨Nat.le_of_ble_eq_true rfl, Nat.le_of_ble_eq_true rfl⟩ (Nat.le_of_ble_eq_true rfl) ⟨Nat.le_of_ble_eq_true rfl, Nat.le_of_ble_eq_true rfl⟩ (fun _ h => h.1) (W2.a hdj) ?_
  refine n_aload_n (pc := 464) C dL_law_464 rfl ?_
  refine n_callV (pc := 465) (i := 0) (ci := 10) (As := []) (rest := [.int u]) (Φ1 := W2 G1 τ1 G2 τ2) C hB.2.1 hH k2 dL_law_465 rfl w_922 (List.forall_mem_cons.mpr ⟨w_919, List.forall_mem_cons.mpr ⟨w_920, List.forall_mem_cons.mpr ⟨w_921, List.forall_mem_cons.mpr ⟨w_16, fun _ h => absurd h List.not_mem_nil⟩⟩⟩⟩) ds_X10_noRow h2 ⟨Nat.le_of_ble_eq_true rfl, Nat.le_of_ble_eq_true rfl⟩ (Nat.le_of_ble_eq_true rfl) ⟨Nat.le_of_ble_eq_true rfl, Nat.le_of_ble_eq_true rfl⟩ (fun _ h => h.2) (W2.b hdj) ?_
  refine n_icmp_eq (pc := 468) C 780 dL_law_468 rfl (fun _ => ?_) (fun z => absurd rfl z)
  exact n_phi (fun H h => ⟨G1, τ1, G2, τ2, hB, hP2, h⟩) K
theorem law_judge (C : Cn (xL l D t sz) κ) (hsz : (ks κ).heap.size = sz) (hH : HoldX (zA sz) (ks κ)) (hL : L ≤ 2048) (hX : va_X b L xs (ks κ) (ks κ).heap) (hbl : b < sz) (hB : LB (xL l D t sz) (ga G1 0) (ga G2 0) G1 G2) (hP : PQ G1 σ1 G2 σ2) (hi : i + 4 ≤ L) (K : Gn (xL l D t sz) κ Q (LW (xL l D t sz) (ga G1 0) (ga G2 0)) 46 17118 780 (lvW b G1 G2 i) []) : Gn (xL l D t sz) κ Q (W2 G1 σ1 G2 σ2) 46 17118 473 (lvW b G1 G2 i) [] := by
  obtain ⟨h1, _, _, _, _, _, h2⟩ := Cx0 hP
  have hdj : ∀ i j, i < gN G1 → j < gN G2 → ga G1 i ≠ ga G2 j := by rw [hB.2.2.1, hB.2.2.2.1]; exact hB.2.2.2.2.2.2
  obtain ⟨u, τ1, τ2, k1, k2, hP2⟩ := s_judge hP 
  refine n_aload_n (pc := 473) C dL_law_473 rfl ?_
  refine n_callV (pc := 474) (i := 0) (ci := 9) (As := []) (rest := []) (Φ1 := W2 G1 τ1 G2 σ2) C hB.1 hH k1 dL_law_474 rfl w_493 (List.forall_mem_cons.mpr ⟨w_490, List.forall_mem_cons.mpr ⟨w_491, List.forall_mem_cons.mpr ⟨w_492, List.forall_mem_cons.mpr ⟨w_1, fun _ h => absurd h List.not_mem_nil⟩⟩⟩⟩) ds_X9_judge h1 ⟨Nat.le_of_ble_eq_true rfl, Nat.le_of_ble_eq_true rfl⟩ (Nat.le_of_ble_eq_true rfl) ⟨Nat.le_of_ble_eq_true rfl, Nat.le_of_ble_eq_true rfl⟩ (fun _ h => h.1) (W2.a hdj) ?_
  refine n_aload_n (pc := 477) C dL_law_477 rfl ?_
  refine n_callV (pc := 478) (i := 0) (ci := 10) (As := []) (rest := [.int u]) (Φ1 := W2 G1 τ1 G2 τ2) C hB.2.1 hH k2 dL_law_478 rfl w_926 (List.forall_mem_cons.mpr ⟨w_923, List.forall_mem_cons.mpr ⟨w_924, List.forall_mem_cons.mpr ⟨w_925, List.forall_mem_cons.mpr ⟨w_16, fun _ h => absurd h List.not_mem_nil⟩⟩⟩⟩) ds_X10_judge h2 ⟨Nat.le_of_ble_eq_true rfl, Nat.le_of_ble_eq_true rfl⟩ (Nat.le_of_ble_eq_true rfl) ⟨Nat.le_of_ble_eq_true rfl, Nat.le_of_ble_eq_true rfl⟩ (fun _ h => h.2) (W2.b hdj) ?_
  refine n_icmp_eq (pc := 481) C 780 dL_law_481 rfl (fun _ => ?_) (fun z => absurd rfl z)
  exact n_phi (fun H h => ⟨G1, τ1, G2, τ2, hB, hP2, h⟩) K
theorem law_longest (C : Cn (xL l D t sz) κ) (hsz : (ks κ).heap.size = sz) (hH : HoldX (zA sz) (ks κ)) (hL : L ≤ 2048) (hX : va_X b L xs (ks κ) (ks κ).heap) (hbl : b < sz) (hB : LB (xL l D t sz) (ga G1 0) (ga G2 0) G1 G2) (hP : PQ G1 σ1 G2 σ2) (hi : i + 4 ≤ L) (K : Gn (xL l D t sz) κ Q (LW (xL l D t sz) (ga G1 0) (ga G2 0)) 46 17118 780 (lvW b G1 G2 i) []) : Gn (xL l D t sz) κ Q (W2 G1 σ1 G2 σ2) 46 17118 486 (lvW b G1 G2 i) [] := by
  obtain ⟨h1, _, _, _, _, _, h2⟩ := Cx0 hP
  have hdj : ∀ i j, i < gN G1 → j < gN G2 → ga G1 i ≠ ga G2 j := by rw [hB.2.2.1, hB.2.2.2.1]; exact hB.2.2.2.2.2.2
  obtain ⟨u, τ1, τ2, k1, k2, hP2⟩ := s_longest hP (xs (nI i + nI 1).toNatClampNeg) (xs (nI i + nI 2).toNatClampNeg)
  refine n_aload_n (pc := 486) C dL_law_486 rfl ?_
  refine n_aload_n (pc := 487) C dL_law_487 rfl ?_
  refine n_iload_n (pc := 488) C dL_law_488 rfl ?_
  refine n_iconst (pc := 489) (v := nI 1) C dL_law_489 (by decide) ?_
  refine n_iadd (pc := 490) C dL_law_490 ?_
  refine n_sld (pc := 491) C hX (by omega) (Nat.not_le.mpr hbl) (sI (by omega) hL) dL_law_491 ?_
  refine n_aload_n (pc := 492) C dL_law_492 rfl ?_
  refine n_iload_n (pc := 493) C dL_law_493 rfl ?_
  refine n_iconst (pc := 494) (v := nI 2) C dL_law_494 (by decide) ?_
  refine n_iadd (pc := 495) C dL_law_495 ?_
  refine n_sld (pc := 496) C hX (by omega) (Nat.not_le.mpr hbl) (sI (by omega) hL) dL_law_496 ?_
  refine n_callV (pc := 497) (i := 0) (ci := 9) (As := [.int (xs (nI i + nI 1).toNatClampNeg), .int (xs (nI i + nI 2).toNatClampNeg)]) (rest := []) (Φ1 := W2 G1 τ1 G2 σ2) C hB.1 hH k1 dL_law_497 rfl w_503 (List.forall_mem_cons.mpr ⟨w_500, List.forall_mem_cons.mpr ⟨w_501, List.forall_mem_cons.mpr ⟨w_502, List.forall_mem_cons.mpr ⟨w_1, fun _ h => absurd h List.not_mem_nil⟩⟩⟩⟩) ds_X9_longest h1 ⟨Nat.le_of_ble_eq_true rfl, Nat.le_of_ble_eq_true rfl⟩ (Nat.le_of_ble_eq_true rfl) ⟨Nat.le_of_ble_eq_true rfl, Nat.le_of_ble_eq_true rfl⟩ (fun _ h => h.1) (W2.a hdj) ?_
  refine n_aload_n (pc := 500) C dL_law_500 rfl ?_
  refine n_aload_n (pc := 501) C dL_law_501 rfl ?_
  refine n_iload_n (pc := 502) C dL_law_502 rfl ?_
  refine n_iconst (pc := 503) (v := nI 1) C dL_law_503 (by decide) ?_
  refine n_iadd (pc := 504) C dL_law_504 ?_
  refine n_sld (pc := 505) C hX (by omega) (Nat.not_le.mpr hbl) (sI (by omega) hL) dL_law_505 ?_
  refine n_aload_n (pc := 506) C dL_law_506 rfl ?_
  refine n_iload_n (pc := 507) C dL_law_507 rfl ?_
  refine n_iconst (pc := 508) (v := nI 2) C dL_law_508 (by decide) ?_
  refine n_iadd (pc := 509) C dL_law_509 ?_
  refine n_sld (pc := 510) C hX (by omega) (Nat.not_le.mpr hbl) (sI (by omega) hL) dL_law_510 ?_
  refine n_callV (pc := 511) (i := 0) (ci := 10) (As := [.int (xs (nI i + nI 1).toNatClampNeg), .int (xs (nI i + nI 2).toNatClampNeg)]) (rest := [.int u]) (Φ1 := W2 G1 τ1 G2 τ2) C hB.2.1 hH k2 dL_law_511 rfl w_930 (List.forall_mem_cons.mpr ⟨w_927, List.forall_mem_cons.mpr ⟨w_928, List.forall_mem_cons.mpr ⟨w_929, List.forall_mem_cons.mpr ⟨w_16, fun _ h => absurd h List.not_mem_nil⟩⟩⟩⟩) ds_X10_longest h2 ⟨Nat.le_of_ble_eq_true rfl, Nat.le_of_ble_eq_true rfl⟩ (Nat.le_of_ble_eq_true rfl) ⟨Nat.le_of_ble_eq_true rfl, Nat.le_of_ble_eq_true rfl⟩ (fun _ h => h.2) (W2.b hdj) ?_
  refine n_icmp_eq (pc := 514) C 780 dL_law_514 rfl (fun _ => ?_) (fun z => absurd rfl z)
  exact n_phi (fun H h => ⟨G1, τ1, G2, τ2, hB, hP2, h⟩) K
theorem law_proof (C : Cn (xL l D t sz) κ) (hsz : (ks κ).heap.size = sz) (hH : HoldX (zA sz) (ks κ)) (hL : L ≤ 2048) (hX : va_X b L xs (ks κ) (ks κ).heap) (hbl : b < sz) (hB : LB (xL l D t sz) (ga G1 0) (ga G2 0) G1 G2) (hP : PQ G1 σ1 G2 σ2) (hi : i + 4 ≤ L) (K : Gn (xL l D t sz) κ Q (LW (xL l D t sz) (ga G1 0) (ga G2 0)) 46 17118 780 (lvW b G1 G2 i) []) : Gn (xL l D t sz) κ Q (W2 G1 σ1 G2 σ2) 46 17118 519 (lvW b G1 G2 i) [] := by
  obtain ⟨h1, _, _, _, _, _, h2⟩ := Cx0 hP
  have hdj : ∀ i j, i < gN G1 → j < gN G2 → ga G1 i ≠ ga G2 j := by rw [hB.2.2.1, hB.2.2.2.1]; exact hB.2.2.2.2.2.2
  obtain ⟨u, τ1, τ2, k1, k2, hP2⟩ := s_proof hP 
  refine n_aload_n (pc := 519) C dL_law_519 rfl ?_
  refine n_callV (pc := 520) (i := 0) (ci := 9) (As := []) (rest := []) (Φ1 := W2 G1 τ1 G2 σ2) C hB.1 hH k1 dL_law_520 rfl w_551 (List.forall_mem_cons.mpr ⟨w_548, List.forall_mem_cons.mpr ⟨w_549, List.forall_mem_cons.mpr ⟨w_550, List.forall_mem_cons.mpr ⟨w_1, fun _ h => absurd h List.not_mem_nil⟩⟩⟩⟩) ds_X9_proof h1 ⟨Nat.le_of_ble_eq_true rfl, Nat.le_of_ble_eq_true rfl⟩ (Nat.le_of_ble_eq_true rfl) ⟨Nat.le_of_ble_eq_true rfl, Nat.le_of_ble_eq_true rfl⟩ (fun _ h => h.1) (W2.a hdj) ?_
  refine n_aload_n (pc := 523) C dL_law_523 rfl ?_
  refine n_callV (pc := 524) (i := 0) (ci := 10) (As := []) (rest := [.int u]) (Φ1 := W2 G1 τ1 G2 τ2) C hB.2.1 hH k2 dL_law_524 rfl w_938 (List.forall_mem_cons.mpr ⟨w_935, List.forall_mem_cons.mpr ⟨w_936, List.forall_mem_cons.mpr ⟨w_937, List.forall_mem_cons.mpr ⟨w_16, fun _ h => absurd h List.not_mem_nil⟩⟩⟩⟩) ds_X10_proof h2 ⟨Nat.le_of_ble_eq_true rfl, Nat.le_of_ble_eq_true rfl⟩ (Nat.le_of_ble_eq_true rfl) ⟨Nat.le_of_ble_eq_true rfl, Nat.le_of_ble_eq_true rfl⟩ (fun _ h => h.2) (W2.b hdj) ?_
  refine n_icmp_eq (pc := 527) C 780 dL_law_527 rfl (fun _ => ?_) (fun z => absurd rfl z)
  exact n_phi (fun H h => ⟨G1, τ1, G2, τ2, hB, hP2, h⟩) K
theorem law_between (C : Cn (xL l D t sz) κ) (hsz : (ks κ).heap.size = sz) (hH : HoldX (zA sz) (ks κ)) (hL : L ≤ 2048) (hX : va_X b L xs (ks κ) (ks κ).heap) (hbl : b < sz) (hB : LB (xL l D t sz) (ga G1 0) (ga G2 0) G1 G2) (hP : PQ G1 σ1 G2 σ2) (hi : i + 4 ≤ L) (K : Gn (xL l D t sz) κ Q (LW (xL l D t sz) (ga G1 0) (ga G2 0)) 46 17118 780 (lvW b G1 G2 i) []) : Gn (xL l D t sz) κ Q (W2 G1 σ1 G2 σ2) 46 17118 532 (lvW b G1 G2 i) [] := by
  obtain ⟨h1, _, _, _, _, _, h2⟩ := Cx0 hP
  have hdj : ∀ i j, i < gN G1 → j < gN G2 → ga G1 i ≠ ga G2 j := by rw [hB.2.2.1, hB.2.2.2.1]; exact hB.2.2.2.2.2.2
  obtain ⟨u, τ1, τ2, k1, k2, hP2⟩ := s_between hP (xs (nI i + nI 1).toNatClampNeg) (xs (nI i + nI 2).toNatClampNeg) (xs (nI i + nI 3).toNatClampNeg)
  refine n_aload_n (pc := 532) C dL_law_532 rfl ?_
  refine n_aload_n (pc := 533) C dL_law_533 rfl ?_
  refine n_iload_n (pc := 534) C dL_law_534 rfl ?_
  refine n_iconst (pc := 535) (v := nI 1) C dL_law_535 (by decide) ?_
  refine n_iadd (pc := 536) C dL_law_536 ?_
  refine n_sld (pc := 537) C hX (by omega) (Nat.not_le.mpr hbl) (sI (by omega) hL) dL_law_537 ?_
  refine n_aload_n (pc := 538) C dL_law_538 rfl ?_
  refine n_iload_n (pc := 539) C dL_law_539 rfl ?_
  refine n_iconst (pc := 540) (v := nI 2) C dL_law_540 (by decide) ?_
  refine n_iadd (pc := 541) C dL_law_541 ?_
  refine n_sld (pc := 542) C hX (by omega) (Nat.not_le.mpr hbl) (sI (by omega) hL) dL_law_542 ?_
  refine n_aload_n (pc := 543) C dL_law_543 rfl ?_
  refine n_iload_n (pc := 544) C dL_law_544 rfl ?_
  refine n_iconst (pc := 545) (v := nI 3) C dL_law_545 (by decide) ?_
  refine n_iadd (pc := 546) C dL_law_546 ?_
  refine n_sld (pc := 547) C hX (by omega) (Nat.not_le.mpr hbl) (sI (by omega) hL) dL_law_547 ?_
  refine n_callV (pc := 548) (i := 0) (ci := 9) (As := [.int (xs (nI i + nI 1).toNatClampNeg), .int (xs (nI i + nI 2).toNatClampNeg), .int (xs (nI i + nI 3).toNatClampNeg)]) (rest := []) (Φ1 := W2 G1 τ1 G2 σ2) C hB.1 hH k1 dL_law_548 rfl w_571 (List.forall_mem_cons.mpr ⟨w_568, List.forall_mem_cons.mpr ⟨w_569, List.forall_mem_cons.mpr ⟨w_570, List.forall_mem_cons.mpr ⟨w_1, fun _ h => absurd h List.not_mem_nil⟩⟩⟩⟩) ds_X9_between h1 ⟨Nat.le_of_ble_eq_true rfl, Nat.le_of_ble_eq_true rfl⟩ (Nat.le_of_ble_eq_true rfl) ⟨Nat.le_of_ble_eq_true rfl, Nat.le_of_ble_eq_true rfl⟩ (fun _ h => h.1) (W2.a hdj) ?_
  refine n_aload_n (pc := 551) C dL_law_551 rfl ?_
  refine n_aload_n (pc := 552) C dL_law_552 rfl ?_
  refine n_iload_n (pc := 553) C dL_law_553 rfl ?_
  refine n_iconst (pc := 554) (v := nI 1) C dL_law_554 (by decide) ?_
  refine n_iadd (pc := 555) C dL_law_555 ?_
  refine n_sld (pc := 556) C hX (by omega) (Nat.not_le.mpr hbl) (sI (by omega) hL) dL_law_556 ?_
  refine n_aload_n (pc := 557) C dL_law_557 rfl ?_
  refine n_iload_n (pc := 558) C dL_law_558 rfl ?_
  refine n_iconst (pc := 559) (v := nI 2) C dL_law_559 (by decide) ?_
  refine n_iadd (pc := 560) C dL_law_560 ?_
  refine n_sld (pc := 561) C hX (by omega) (Nat.not_le.mpr hbl) (sI (by omega) hL) dL_law_561 ?_
  refine n_aload_n (pc := 562) C dL_law_562 rfl ?_
  refine n_iload_n (pc := 563) C dL_law_563 rfl ?_
  refine n_iconst (pc := 564) (v := nI 3) C dL_law_564 (by decide) ?_
  refine n_iadd (pc := 565) C dL_law_565 ?_
  refine n_sld (pc := 566) C hX (by omega) (Nat.not_le.mpr hbl) (sI (by omega) hL) dL_law_566 ?_
  refine n_callV (pc := 567) (i := 0) (ci := 10) (As := [.int (xs (nI i + nI 1).toNatClampNeg), .int (xs (nI i + nI 2).toNatClampNeg), .int (xs (nI i + nI 3).toNatClampNeg)]) (rest := [.long u]) (Φ1 := W2 G1 τ1 G2 τ2) C hB.2.1 hH k2 dL_law_567 rfl w_942 (List.forall_mem_cons.mpr ⟨w_939, List.forall_mem_cons.mpr ⟨w_940, List.forall_mem_cons.mpr ⟨w_941, List.forall_mem_cons.mpr ⟨w_16, fun _ h => absurd h List.not_mem_nil⟩⟩⟩⟩) ds_X10_between h2 ⟨Nat.le_of_ble_eq_true rfl, Nat.le_of_ble_eq_true rfl⟩ (Nat.le_of_ble_eq_true rfl) ⟨Nat.le_of_ble_eq_true rfl, Nat.le_of_ble_eq_true rfl⟩ (fun _ h => h.2) (W2.b hdj) ?_
  refine n_lcmp (pc := 570) C dL_law_570 ?_
  refine n_if_eq (pc := 571) C 780 dL_law_571 rfl (fun _ => ?_) (fun z => absurd (lc_same u) z)
  exact n_phi (fun H h => ⟨G1, τ1, G2, τ2, hB, hP2, h⟩) K
theorem law_nearest (C : Cn (xL l D t sz) κ) (hsz : (ks κ).heap.size = sz) (hH : HoldX (zA sz) (ks κ)) (hL : L ≤ 2048) (hX : va_X b L xs (ks κ) (ks κ).heap) (hbl : b < sz) (hB : LB (xL l D t sz) (ga G1 0) (ga G2 0) G1 G2) (hP : PQ G1 σ1 G2 σ2) (hi : i + 4 ≤ L) (K : Gn (xL l D t sz) κ Q (LW (xL l D t sz) (ga G1 0) (ga G2 0)) 46 17118 780 (lvW b G1 G2 i) []) : Gn (xL l D t sz) κ Q (W2 G1 σ1 G2 σ2) 46 17118 576 (lvW b G1 G2 i) [] := by
  obtain ⟨h1, _, _, _, _, _, h2⟩ := Cx0 hP
  have hdj : ∀ i j, i < gN G1 → j < gN G2 → ga G1 i ≠ ga G2 j := by rw [hB.2.2.1, hB.2.2.2.1]; exact hB.2.2.2.2.2.2
  obtain ⟨u, τ1, τ2, k1, k2, hP2⟩ := s_nearest hP (xs (nI i + nI 1).toNatClampNeg) (xs (nI i + nI 2).toNatClampNeg)
  refine n_aload_n (pc := 576) C dL_law_576 rfl ?_
  refine n_aload_n (pc := 577) C dL_law_577 rfl ?_
  refine n_iload_n (pc := 578) C dL_law_578 rfl ?_
  refine n_iconst (pc := 579) (v := nI 1) C dL_law_579 (by decide) ?_
  refine n_iadd (pc := 580) C dL_law_580 ?_
  refine n_sld (pc := 581) C hX (by omega) (Nat.not_le.mpr hbl) (sI (by omega) hL) dL_law_581 ?_
  refine n_aload_n (pc := 582) C dL_law_582 rfl ?_
  refine n_iload_n (pc := 583) C dL_law_583 rfl ?_
  refine n_iconst (pc := 584) (v := nI 2) C dL_law_584 (by decide) ?_
  refine n_iadd (pc := 585) C dL_law_585 ?_
  refine n_sld (pc := 586) C hX (by omega) (Nat.not_le.mpr hbl) (sI (by omega) hL) dL_law_586 ?_
  refine n_callV (pc := 587) (i := 0) (ci := 9) (As := [.int (xs (nI i + nI 1).toNatClampNeg), .int (xs (nI i + nI 2).toNatClampNeg)]) (rest := []) (Φ1 := W2 G1 τ1 G2 σ2) C hB.1 hH k1 dL_law_587 rfl w_600 (List.forall_mem_cons.mpr ⟨w_597, List.forall_mem_cons.mpr ⟨w_598, List.forall_mem_cons.mpr ⟨w_599, List.forall_mem_cons.mpr ⟨w_1, fun _ h => absurd h List.not_mem_nil⟩⟩⟩⟩) ds_X9_nearest h1 ⟨Nat.le_of_ble_eq_true rfl, Nat.le_of_ble_eq_true rfl⟩ (Nat.le_of_ble_eq_true rfl) ⟨Nat.le_of_ble_eq_true rfl, Nat.le_of_ble_eq_true rfl⟩ (fun _ h => h.1) (W2.a hdj) ?_
  refine n_aload_n (pc := 590) C dL_law_590 rfl ?_
  refine n_aload_n (pc := 591) C dL_law_591 rfl ?_
  refine n_iload_n (pc := 592) C dL_law_592 rfl ?_
  refine n_iconst (pc := 593) (v := nI 1) C dL_law_593 (by decide) ?_
  refine n_iadd (pc := 594) C dL_law_594 ?_
  refine n_sld (pc := 595) C hX (by omega) (Nat.not_le.mpr hbl) (sI (by omega) hL) dL_law_595 ?_
  refine n_aload_n (pc := 596) C dL_law_596 rfl ?_
  refine n_iload_n (pc := 597) C dL_law_597 rfl ?_
  refine n_iconst (pc := 598) (v := nI 2) C dL_law_598 (by decide) ?_
  refine n_iadd (pc := 599) C dL_law_599 ?_
  refine n_sld (pc := 600) C hX (by omega) (Nat.not_le.mpr hbl) (sI (by omega) hL) dL_law_600 ?_
  refine n_callV (pc := 601) (i := 0) (ci := 10) (As := [.int (xs (nI i + nI 1).toNatClampNeg), .int (xs (nI i + nI 2).toNatClampNeg)]) (rest := [.int u]) (Φ1 := W2 G1 τ1 G2 τ2) C hB.2.1 hH k2 dL_law_601 rfl w_956 (List.forall_mem_cons.mpr ⟨w_953, List.forall_mem_cons.mpr ⟨w_954, List.forall_mem_cons.mpr ⟨w_955, List.forall_mem_cons.mpr ⟨w_16, fun _ h => absurd h List.not_mem_nil⟩⟩⟩⟩) ds_X10_nearest h2 ⟨Nat.le_of_ble_eq_true rfl, Nat.le_of_ble_eq_true rfl⟩ (Nat.le_of_ble_eq_true rfl) ⟨Nat.le_of_ble_eq_true rfl, Nat.le_of_ble_eq_true rfl⟩ (fun _ h => h.2) (W2.b hdj) ?_
  refine n_icmp_eq (pc := 604) C 780 dL_law_604 rfl (fun _ => ?_) (fun z => absurd rfl z)
  exact n_phi (fun H h => ⟨G1, τ1, G2, τ2, hB, hP2, h⟩) K
theorem law_steps (C : Cn (xL l D t sz) κ) (hsz : (ks κ).heap.size = sz) (hH : HoldX (zA sz) (ks κ)) (hL : L ≤ 2048) (hX : va_X b L xs (ks κ) (ks κ).heap) (hbl : b < sz) (hB : LB (xL l D t sz) (ga G1 0) (ga G2 0) G1 G2) (hP : PQ G1 σ1 G2 σ2) (hi : i + 4 ≤ L) (K : Gn (xL l D t sz) κ Q (LW (xL l D t sz) (ga G1 0) (ga G2 0)) 46 17118 780 (lvW b G1 G2 i) []) : Gn (xL l D t sz) κ Q (W2 G1 σ1 G2 σ2) 46 17118 609 (lvW b G1 G2 i) [] := by
  obtain ⟨h1, _, _, _, _, _, h2⟩ := Cx0 hP
  have hdj : ∀ i j, i < gN G1 → j < gN G2 → ga G1 i ≠ ga G2 j := by rw [hB.2.2.1, hB.2.2.2.1]; exact hB.2.2.2.2.2.2
  obtain ⟨u, τ1, τ2, k1, k2, hP2⟩ := s_steps hP (xs (nI i + nI 1).toNatClampNeg) (xs (nI i + nI 2).toNatClampNeg) (xs (nI i + nI 3).toNatClampNeg)
  refine n_aload_n (pc := 609) C dL_law_609 rfl ?_
  refine n_aload_n (pc := 610) C dL_law_610 rfl ?_
  refine n_iload_n (pc := 611) C dL_law_611 rfl ?_
  refine n_iconst (pc := 612) (v := nI 1) C dL_law_612 (by decide) ?_
  refine n_iadd (pc := 613) C dL_law_613 ?_
  refine n_sld (pc := 614) C hX (by omega) (Nat.not_le.mpr hbl) (sI (by omega) hL) dL_law_614 ?_
  refine n_aload_n (pc := 615) C dL_law_615 rfl ?_
  refine n_iload_n (pc := 616) C dL_law_616 rfl ?_
  refine n_iconst (pc := 617) (v := nI 2) C dL_law_617 (by decide) ?_
  refine n_iadd (pc := 618) C dL_law_618 ?_
  refine n_sld (pc := 619) C hX (by omega) (Nat.not_le.mpr hbl) (sI (by omega) hL) dL_law_619 ?_
  refine n_aload_n (pc := 620) C dL_law_620 rfl ?_
  refine n_iload_n (pc := 621) C dL_law_621 rfl ?_
  refine n_iconst (pc := 622) (v := nI 3) C dL_law_622 (by decide) ?_
  refine n_iadd (pc := 623) C dL_law_623 ?_
  refine n_sld (pc := 624) C hX (by omega) (Nat.not_le.mpr hbl) (sI (by omega) hL) dL_law_624 ?_
  refine n_callV (pc := 625) (i := 0) (ci := 9) (As := [.int (xs (nI i + nI 1).toNatClampNeg), .int (xs (nI i + nI 2).toNatClampNeg), .int (xs (nI i + nI 3).toNatClampNeg)]) (rest := []) (Φ1 := W2 G1 τ1 G2 σ2) C hB.1 hH k1 dL_law_625 rfl w_604 (List.forall_mem_cons.mpr ⟨w_601, List.forall_mem_cons.mpr ⟨w_602, List.forall_mem_cons.mpr ⟨w_603, List.forall_mem_cons.mpr ⟨w_1, fun _ h => absurd h List.not_mem_nil⟩⟩⟩⟩) ds_X9_steps h1 ⟨Nat.le_of_ble_eq_true rfl, Nat.le_of_ble_eq_true rfl⟩ (Nat.le_of_ble_eq_true rfl) ⟨Nat.le_of_ble_eq_true rfl, Nat.le_of_ble_eq_true rfl⟩ (fun _ h => h.1) (W2.a hdj) ?_
  refine n_aload_n (pc := 628) C dL_law_628 rfl ?_
  refine n_aload_n (pc := 629) C dL_law_629 rfl ?_
  refine n_iload_n (pc := 630) C dL_law_630 rfl ?_
  refine n_iconst (pc := 631) (v := nI 1) C dL_law_631 (by decide) ?_
  refine n_iadd (pc := 632) C dL_law_632 ?_
  refine n_sld (pc := 633) C hX (by omega) (Nat.not_le.mpr hbl) (sI (by omega) hL) dL_law_633 ?_
  refine n_aload_n (pc := 634) C dL_law_634 rfl ?_
  refine n_iload_n (pc := 635) C dL_law_635 rfl ?_
  refine n_iconst (pc := 636) (v := nI 2) C dL_law_636 (by decide) ?_
  refine n_iadd (pc := 637) C dL_law_637 ?_
  refine n_sld (pc := 638) C hX (by omega) (Nat.not_le.mpr hbl) (sI (by omega) hL) dL_law_638 ?_
  refine n_aload_n (pc := 639) C dL_law_639 rfl ?_
  refine n_iload_n (pc := 640) C dL_law_640 rfl ?_
  refine n_iconst (pc := 641) (v := nI 3) C dL_law_641 (by decide) ?_
  refine n_iadd (pc := 642) C dL_law_642 ?_
  refine n_sld (pc := 643) C hX (by omega) (Nat.not_le.mpr hbl) (sI (by omega) hL) dL_law_643 ?_
  refine n_callV (pc := 644) (i := 0) (ci := 10) (As := [.int (xs (nI i + nI 1).toNatClampNeg), .int (xs (nI i + nI 2).toNatClampNeg), .int (xs (nI i + nI 3).toNatClampNeg)]) (rest := [.int u]) (Φ1 := W2 G1 τ1 G2 τ2) C hB.2.1 hH k2 dL_law_644 rfl w_960 (List.forall_mem_cons.mpr ⟨w_957, List.forall_mem_cons.mpr ⟨w_958, List.forall_mem_cons.mpr ⟨w_959, List.forall_mem_cons.mpr ⟨w_16, fun _ h => absurd h List.not_mem_nil⟩⟩⟩⟩) ds_X10_steps h2 ⟨Nat.le_of_ble_eq_true rfl, Nat.le_of_ble_eq_true rfl⟩ (Nat.le_of_ble_eq_true rfl) ⟨Nat.le_of_ble_eq_true rfl, Nat.le_of_ble_eq_true rfl⟩ (fun _ h => h.2) (W2.b hdj) ?_
  refine n_icmp_eq (pc := 647) C 780 dL_law_647 rfl (fun _ => ?_) (fun z => absurd rfl z)
  exact n_phi (fun H h => ⟨G1, τ1, G2, τ2, hB, hP2, h⟩) K
theorem law_lent (C : Cn (xL l D t sz) κ) (hsz : (ks κ).heap.size = sz) (hH : HoldX (zA sz) (ks κ)) (hL : L ≤ 2048) (hX : va_X b L xs (ks κ) (ks κ).heap) (hbl : b < sz) (hB : LB (xL l D t sz) (ga G1 0) (ga G2 0) G1 G2) (hP : PQ G1 σ1 G2 σ2) (hi : i + 4 ≤ L) (K : Gn (xL l D t sz) κ Q (LW (xL l D t sz) (ga G1 0) (ga G2 0)) 46 17118 780 (lvW b G1 G2 i) []) : Gn (xL l D t sz) κ Q (W2 G1 σ1 G2 σ2) 46 17118 652 (lvW b G1 G2 i) [] := by
  obtain ⟨h1, _, _, _, _, _, h2⟩ := Cx0 hP
  have hdj : ∀ i j, i < gN G1 → j < gN G2 → ga G1 i ≠ ga G2 j := by rw [hB.2.2.1, hB.2.2.2.1]; exact hB.2.2.2.2.2.2
  obtain ⟨u, τ1, τ2, k1, k2, hP2⟩ := s_lent hP (xs (nI i + nI 1).toNatClampNeg)
  refine n_aload_n (pc := 652) C dL_law_652 rfl ?_
  refine n_aload_n (pc := 653) C dL_law_653 rfl ?_
  refine n_iload_n (pc := 654) C dL_law_654 rfl ?_
  refine n_iconst (pc := 655) (v := nI 1) C dL_law_655 (by decide) ?_
  refine n_iadd (pc := 656) C dL_law_656 ?_
  refine n_sld (pc := 657) C hX (by omega) (Nat.not_le.mpr hbl) (sI (by omega) hL) dL_law_657 ?_
  refine n_callV (pc := 658) (i := 0) (ci := 9) (As := [.int (xs (nI i + nI 1).toNatClampNeg)]) (rest := []) (Φ1 := W2 G1 τ1 G2 σ2) C hB.1 hH k1 dL_law_658 rfl w_648 (List.forall_mem_cons.mpr ⟨w_645, List.forall_mem_cons.mpr ⟨w_646, List.forall_mem_cons.mpr ⟨w_647, List.forall_mem_cons.mpr ⟨w_1, fun _ h => absurd h List.not_mem_nil⟩⟩⟩⟩) ds_X9_lent h1 ⟨Nat.le_of_ble_eq_true rfl, Nat.le_of_ble_eq_true rfl⟩ (Nat.le_of_ble_eq_true rfl) ⟨Nat.le_of_ble_eq_true rfl, Nat.le_of_ble_eq_true rfl⟩ (fun _ h => h.1) (W2.a hdj) ?_
  refine n_aload_n (pc := 661) C dL_law_661 rfl ?_
  refine n_aload_n (pc := 662) C dL_law_662 rfl ?_
  refine n_iload_n (pc := 663) C dL_law_663 rfl ?_
  refine n_iconst (pc := 664) (v := nI 1) C dL_law_664 (by decide) ?_
  refine n_iadd (pc := 665) C dL_law_665 ?_
  refine n_sld (pc := 666) C hX (by omega) (Nat.not_le.mpr hbl) (sI (by omega) hL) dL_law_666 ?_
  refine n_callV (pc := 667) (i := 0) (ci := 10) (As := [.int (xs (nI i + nI 1).toNatClampNeg)]) (rest := [.int u]) (Φ1 := W2 G1 τ1 G2 τ2) C hB.2.1 hH k2 dL_law_667 rfl w_984 (List.forall_mem_cons.mpr ⟨w_981, List.forall_mem_cons.mpr ⟨w_982, List.forall_mem_cons.mpr ⟨w_983, List.forall_mem_cons.mpr ⟨w_16, fun _ h => absurd h List.not_mem_nil⟩⟩⟩⟩) ds_X10_lent h2 ⟨Nat.le_of_ble_eq_true rfl, Nat.le_of_ble_eq_true rfl⟩ (Nat.le_of_ble_eq_true rfl) ⟨Nat.le_of_ble_eq_true rfl, Nat.le_of_ble_eq_true rfl⟩ (fun _ h => h.2) (W2.b hdj) ?_
  refine n_icmp_eq (pc := 670) C 780 dL_law_670 rfl (fun _ => ?_) (fun z => absurd rfl z)
  exact n_phi (fun H h => ⟨G1, τ1, G2, τ2, hB, hP2, h⟩) K
theorem law_mustSee (C : Cn (xL l D t sz) κ) (hsz : (ks κ).heap.size = sz) (hH : HoldX (zA sz) (ks κ)) (hL : L ≤ 2048) (hX : va_X b L xs (ks κ) (ks κ).heap) (hbl : b < sz) (hB : LB (xL l D t sz) (ga G1 0) (ga G2 0) G1 G2) (hP : PQ G1 σ1 G2 σ2) (hi : i + 4 ≤ L) (K : Gn (xL l D t sz) κ Q (LW (xL l D t sz) (ga G1 0) (ga G2 0)) 46 17118 780 (lvW b G1 G2 i) []) : Gn (xL l D t sz) κ Q (W2 G1 σ1 G2 σ2) 46 17118 675 (lvW b G1 G2 i) [] := by
  obtain ⟨h1, _, _, _, _, _, h2⟩ := Cx0 hP
  have hdj : ∀ i j, i < gN G1 → j < gN G2 → ga G1 i ≠ ga G2 j := by rw [hB.2.2.1, hB.2.2.2.1]; exact hB.2.2.2.2.2.2
  obtain ⟨u, τ1, τ2, k1, k2, hP2⟩ := s_mustSee hP 
  refine n_aload_n (pc := 675) C dL_law_675 rfl ?_
  refine n_callV (pc := 676) (i := 0) (ci := 9) (As := []) (rest := []) (Φ1 := W2 G1 τ1 G2 σ2) C hB.1 hH k1 dL_law_676 rfl w_687 (List.forall_mem_cons.mpr ⟨w_684, List.forall_mem_cons.mpr ⟨w_685, List.forall_mem_cons.mpr ⟨w_686, List.forall_mem_cons.mpr ⟨w_1, fun _ h => absurd h List.not_mem_nil⟩⟩⟩⟩) ds_X9_mustSee h1 ⟨Nat.le_of_ble_eq_true rfl, Nat.le_of_ble_eq_true rfl⟩ (Nat.le_of_ble_eq_true rfl) ⟨Nat.le_of_ble_eq_true rfl, Nat.le_of_ble_eq_true rfl⟩ (fun _ h => h.1) (W2.a hdj) ?_
  refine n_aload_n (pc := 679) C dL_law_679 rfl ?_
  refine n_callV (pc := 680) (i := 0) (ci := 10) (As := []) (rest := [.int u]) (Φ1 := W2 G1 τ1 G2 τ2) C hB.2.1 hH k2 dL_law_680 rfl w_1004 (List.forall_mem_cons.mpr ⟨w_1001, List.forall_mem_cons.mpr ⟨w_1002, List.forall_mem_cons.mpr ⟨w_1003, List.forall_mem_cons.mpr ⟨w_16, fun _ h => absurd h List.not_mem_nil⟩⟩⟩⟩) ds_X10_mustSee h2 ⟨Nat.le_of_ble_eq_true rfl, Nat.le_of_ble_eq_true rfl⟩ (Nat.le_of_ble_eq_true rfl) ⟨Nat.le_of_ble_eq_true rfl, Nat.le_of_ble_eq_true rfl⟩ (fun _ h => h.2) (W2.b hdj) ?_
  refine n_icmp_eq (pc := 683) C 780 dL_law_683 rfl (fun _ => ?_) (fun z => absurd rfl z)
  exact n_phi (fun H h => ⟨G1, τ1, G2, τ2, hB, hP2, h⟩) K
theorem law_crowd (C : Cn (xL l D t sz) κ) (hsz : (ks κ).heap.size = sz) (hH : HoldX (zA sz) (ks κ)) (hL : L ≤ 2048) (hX : va_X b L xs (ks κ) (ks κ).heap) (hbl : b < sz) (hB : LB (xL l D t sz) (ga G1 0) (ga G2 0) G1 G2) (hP : PQ G1 σ1 G2 σ2) (hi : i + 4 ≤ L) (K : Gn (xL l D t sz) κ Q (LW (xL l D t sz) (ga G1 0) (ga G2 0)) 46 17118 780 (lvW b G1 G2 i) []) : Gn (xL l D t sz) κ Q (W2 G1 σ1 G2 σ2) 46 17118 688 (lvW b G1 G2 i) [] := by
  obtain ⟨h1, _, _, _, _, _, h2⟩ := Cx0 hP
  have hdj : ∀ i j, i < gN G1 → j < gN G2 → ga G1 i ≠ ga G2 j := by rw [hB.2.2.1, hB.2.2.2.1]; exact hB.2.2.2.2.2.2
  obtain ⟨u, τ1, τ2, k1, k2, hP2⟩ := s_crowd hP (xs (nI i + nI 1).toNatClampNeg) (xs (nI i + nI 2).toNatClampNeg) (xs (nI i + nI 3).toNatClampNeg)
  refine n_aload_n (pc := 688) C dL_law_688 rfl ?_
  refine n_aload_n (pc := 689) C dL_law_689 rfl ?_
  refine n_iload_n (pc := 690) C dL_law_690 rfl ?_
  refine n_iconst (pc := 691) (v := nI 1) C dL_law_691 (by decide) ?_
  refine n_iadd (pc := 692) C dL_law_692 ?_
  refine n_sld (pc := 693) C hX (by omega) (Nat.not_le.mpr hbl) (sI (by omega) hL) dL_law_693 ?_
  refine n_aload_n (pc := 694) C dL_law_694 rfl ?_
  refine n_iload_n (pc := 695) C dL_law_695 rfl ?_
  refine n_iconst (pc := 696) (v := nI 2) C dL_law_696 (by decide) ?_
  refine n_iadd (pc := 697) C dL_law_697 ?_
  refine n_sld (pc := 698) C hX (by omega) (Nat.not_le.mpr hbl) (sI (by omega) hL) dL_law_698 ?_
  refine n_aload_n (pc := 699) C dL_law_699 rfl ?_
  refine n_iload_n (pc := 700) C dL_law_700 rfl ?_
  refine n_iconst (pc := 701) (v := nI 3) C dL_law_701 (by decide) ?_
  refine n_iadd (pc := 702) C dL_law_702 ?_
  refine n_sld (pc := 703) C hX (by omega) (Nat.not_le.mpr hbl) (sI (by omega) hL) dL_law_703 ?_
  refine n_callV (pc := 704) (i := 0) (ci := 9) (As := [.int (xs (nI i + nI 1).toNatClampNeg), .int (xs (nI i + nI 2).toNatClampNeg), .int (xs (nI i + nI 3).toNatClampNeg)]) (rest := []) (Φ1 := W2 G1 τ1 G2 σ2) C hB.1 hH k1 dL_law_704 rfl w_697 (List.forall_mem_cons.mpr ⟨w_694, List.forall_mem_cons.mpr ⟨w_695, List.forall_mem_cons.mpr ⟨w_696, List.forall_mem_cons.mpr ⟨w_1, fun _ h => absurd h List.not_mem_nil⟩⟩⟩⟩) ds_X9_crowd h1 ⟨Nat.le_of_ble_eq_true rfl, Nat.le_of_ble_eq_true rfl⟩ (Nat.le_of_ble_eq_true rfl) ⟨Nat.le_of_ble_eq_true rfl, Nat.le_of_ble_eq_true rfl⟩ (fun _ h => h.1) (W2.a hdj) ?_
  refine n_aload_n (pc := 707) C dL_law_707 rfl ?_
  refine n_aload_n (pc := 708) C dL_law_708 rfl ?_
  refine n_iload_n (pc := 709) C dL_law_709 rfl ?_
  refine n_iconst (pc := 710) (v := nI 1) C dL_law_710 (by decide) ?_
  refine n_iadd (pc := 711) C dL_law_711 ?_
  refine n_sld (pc := 712) C hX (by omega) (Nat.not_le.mpr hbl) (sI (by omega) hL) dL_law_712 ?_
  refine n_aload_n (pc := 713) C dL_law_713 rfl ?_
  refine n_iload_n (pc := 714) C dL_law_714 rfl ?_
  refine n_iconst (pc := 715) (v := nI 2) C dL_law_715 (by decide) ?_
  refine n_iadd (pc := 716) C dL_law_716 ?_
  refine n_sld (pc := 717) C hX (by omega) (Nat.not_le.mpr hbl) (sI (by omega) hL) dL_law_717 ?_
  refine n_aload_n (pc := 718) C dL_law_718 rfl ?_
  refine n_iload_n (pc := 719) C dL_law_719 rfl ?_
  refine n_iconst (pc := 720) (v := nI 3) C dL_law_720 (by decide) ?_
  refine n_iadd (pc := 721) C dL_law_721 ?_
  refine n_sld (pc := 722) C hX (by omega) (Nat.not_le.mpr hbl) (sI (by omega) hL) dL_law_722 ?_
  refine n_callV (pc := 723) (i := 0) (ci := 10) (As := [.int (xs (nI i + nI 1).toNatClampNeg), .int (xs (nI i + nI 2).toNatClampNeg), .int (xs (nI i + nI 3).toNatClampNeg)]) (rest := [.int u]) (Φ1 := W2 G1 τ1 G2 τ2) C hB.2.1 hH k2 dL_law_723 rfl w_1008 (List.forall_mem_cons.mpr ⟨w_1005, List.forall_mem_cons.mpr ⟨w_1006, List.forall_mem_cons.mpr ⟨w_1007, List.forall_mem_cons.mpr ⟨w_16, fun _ h => absurd h List.not_mem_nil⟩⟩⟩⟩) ds_X10_crowd h2 ⟨Nat.le_of_ble_eq_true rfl, Nat.le_of_ble_eq_true rfl⟩ (Nat.le_of_ble_eq_true rfl) ⟨Nat.le_of_ble_eq_true rfl, Nat.le_of_ble_eq_true rfl⟩ (fun _ h => h.2) (W2.b hdj) ?_
  refine n_icmp_eq (pc := 726) C 780 dL_law_726 rfl (fun _ => ?_) (fun z => absurd rfl z)
  exact n_phi (fun H h => ⟨G1, τ1, G2, τ2, hB, hP2, h⟩) K
theorem law_keep (C : Cn (xL l D t sz) κ) (hsz : (ks κ).heap.size = sz) (hH : HoldX (zA sz) (ks κ)) (hL : L ≤ 2048) (hX : va_X b L xs (ks κ) (ks κ).heap) (hbl : b < sz) (hB : LB (xL l D t sz) (ga G1 0) (ga G2 0) G1 G2) (hP : PQ G1 σ1 G2 σ2) (hi : i + 4 ≤ L) (K : Gn (xL l D t sz) κ Q (LW (xL l D t sz) (ga G1 0) (ga G2 0)) 46 17118 780 (lvW b G1 G2 i) []) : Gn (xL l D t sz) κ Q (W2 G1 σ1 G2 σ2) 46 17118 731 (lvW b G1 G2 i) [] := by
  obtain ⟨h1, _, _, _, _, _, h2⟩ := Cx0 hP
  have hdj : ∀ i j, i < gN G1 → j < gN G2 → ga G1 i ≠ ga G2 j := by rw [hB.2.2.1, hB.2.2.2.1]; exact hB.2.2.2.2.2.2
  obtain ⟨u, τ1, τ2, k1, k2, hP2⟩ := s_keep hP 
  refine n_aload_n (pc := 731) C dL_law_731 rfl ?_
  refine n_callV (pc := 732) (i := 0) (ci := 9) (As := []) (rest := []) (Φ1 := W2 G1 τ1 G2 σ2) C hB.1 hH k1 dL_law_732 rfl w_708 (List.forall_mem_cons.mpr ⟨w_705, List.forall_mem_cons.mpr ⟨w_706, List.forall_mem_cons.mpr ⟨w_707, List.forall_mem_cons.mpr ⟨w_1, fun _ h => absurd h List.not_mem_nil⟩⟩⟩⟩) ds_X9_keep h1 ⟨Nat.le_of_ble_eq_true rfl, Nat.le_of_ble_eq_true rfl⟩ (Nat.le_of_ble_eq_true rfl) ⟨Nat.le_of_ble_eq_true rfl, Nat.le_of_ble_eq_true rfl⟩ (fun _ h => h.1) (W2.a hdj) ?_
  refine n_aload_n (pc := 735) C dL_law_735 rfl ?_
  refine n_callV (pc := 736) (i := 0) (ci := 10) (As := []) (rest := [.int u]) (Φ1 := W2 G1 τ1 G2 τ2) C hB.2.1 hH k2 dL_law_736 rfl w_1017 (List.forall_mem_cons.mpr ⟨w_1014, List.forall_mem_cons.mpr ⟨w_1015, List.forall_mem_cons.mpr ⟨w_1016, List.forall_mem_cons.mpr ⟨w_16, fun _ h => absurd h List.not_mem_nil⟩⟩⟩⟩) ds_X10_keep h2 ⟨Nat.le_of_ble_eq_true rfl, Nat.le_of_ble_eq_true rfl⟩ (Nat.le_of_ble_eq_true rfl) ⟨Nat.le_of_ble_eq_true rfl, Nat.le_of_ble_eq_true rfl⟩ (fun _ h => h.2) (W2.b hdj) ?_
  refine n_icmp_eq (pc := 739) C 780 dL_law_739 rfl (fun _ => ?_) (fun z => absurd rfl z)
  exact n_phi (fun H h => ⟨G1, τ1, G2, τ2, hB, hP2, h⟩) K
theorem law_back (C : Cn (xL l D t sz) κ) (hsz : (ks κ).heap.size = sz) (hH : HoldX (zA sz) (ks κ)) (hL : L ≤ 2048) (hX : va_X b L xs (ks κ) (ks κ).heap) (hbl : b < sz) (hB : LB (xL l D t sz) (ga G1 0) (ga G2 0) G1 G2) (hP : PQ G1 σ1 G2 σ2) (hi : i + 4 ≤ L) (K : Gn (xL l D t sz) κ Q (LW (xL l D t sz) (ga G1 0) (ga G2 0)) 46 17118 780 (lvW b G1 G2 i) []) : Gn (xL l D t sz) κ Q (W2 G1 σ1 G2 σ2) 46 17118 744 (lvW b G1 G2 i) [] := by
  obtain ⟨h1, _, _, _, _, _, h2⟩ := Cx0 hP
  have hdj : ∀ i j, i < gN G1 → j < gN G2 → ga G1 i ≠ ga G2 j := by rw [hB.2.2.1, hB.2.2.2.1]; exact hB.2.2.2.2.2.2
  obtain ⟨u, τ1, τ2, k1, k2, hP2⟩ := s_back hP 
  refine n_aload_n (pc := 744) C dL_law_744 rfl ?_
  refine n_callV (pc := 745) (i := 0) (ci := 9) (As := []) (rest := []) (Φ1 := W2 G1 τ1 G2 σ2) C hB.1 hH k1 dL_law_745 rfl w_716 (List.forall_mem_cons.mpr ⟨w_713, List.forall_mem_cons.mpr ⟨w_714, List.forall_mem_cons.mpr ⟨w_715, List.forall_mem_cons.mpr ⟨w_1, fun _ h => absurd h List.not_mem_nil⟩⟩⟩⟩) ds_X9_back h1 ⟨Nat.le_of_ble_eq_true rfl, Nat.le_of_ble_eq_true rfl⟩ (Nat.le_of_ble_eq_true rfl) ⟨Nat.le_of_ble_eq_true rfl, Nat.le_of_ble_eq_true rfl⟩ (fun _ h => h.1) (W2.a hdj) ?_
  refine n_aload_n (pc := 748) C dL_law_748 rfl ?_
  refine n_callV (pc := 749) (i := 0) (ci := 10) (As := []) (rest := [.int u]) (Φ1 := W2 G1 τ1 G2 τ2) C hB.2.1 hH k2 dL_law_749 rfl w_1025 (List.forall_mem_cons.mpr ⟨w_1022, List.forall_mem_cons.mpr ⟨w_1023, List.forall_mem_cons.mpr ⟨w_1024, List.forall_mem_cons.mpr ⟨w_16, fun _ h => absurd h List.not_mem_nil⟩⟩⟩⟩) ds_X10_back h2 ⟨Nat.le_of_ble_eq_true rfl, Nat.le_of_ble_eq_true rfl⟩ (Nat.le_of_ble_eq_true rfl) ⟨Nat.le_of_ble_eq_true rfl, Nat.le_of_ble_eq_true rfl⟩ (fun _ h => h.2) (W2.b hdj) ?_
  refine n_icmp_eq (pc := 752) C 780 dL_law_752 rfl (fun _ => ?_) (fun z => absurd rfl z)
  exact n_phi (fun H h => ⟨G1, τ1, G2, τ2, hB, hP2, h⟩) K
theorem law_count (C : Cn (xL l D t sz) κ) (hsz : (ks κ).heap.size = sz) (hH : HoldX (zA sz) (ks κ)) (hL : L ≤ 2048) (hX : va_X b L xs (ks κ) (ks κ).heap) (hbl : b < sz) (hB : LB (xL l D t sz) (ga G1 0) (ga G2 0) G1 G2) (hP : PQ G1 σ1 G2 σ2) (hi : i + 4 ≤ L) (K : Gn (xL l D t sz) κ Q (LW (xL l D t sz) (ga G1 0) (ga G2 0)) 46 17118 780 (lvW b G1 G2 i) []) : Gn (xL l D t sz) κ Q (W2 G1 σ1 G2 σ2) 46 17118 757 (lvW b G1 G2 i) [] := by
  obtain ⟨h1, _, _, _, _, _, h2⟩ := Cx0 hP
  have hdj : ∀ i j, i < gN G1 → j < gN G2 → ga G1 i ≠ ga G2 j := by rw [hB.2.2.1, hB.2.2.2.1]; exact hB.2.2.2.2.2.2
  obtain ⟨u, τ1, τ2, k1, k2, hP2⟩ := s_count hP (xs (nI i + nI 1).toNatClampNeg)
  refine n_aload_n (pc := 757) C dL_law_757 rfl ?_
  refine n_aload_n (pc := 758) C dL_law_758 rfl ?_
  refine n_iload_n (pc := 759) C dL_law_759 rfl ?_
  refine n_iconst (pc := 760) (v := nI 1) C dL_law_760 (by decide) ?_
  refine n_iadd (pc := 761) C dL_law_761 ?_
  refine n_sld (pc := 762) C hX (by omega) (Nat.not_le.mpr hbl) (sI (by omega) hL) dL_law_762 ?_
  refine n_callV (pc := 763) (i := 0) (ci := 9) (As := [.int (xs (nI i + nI 1).toNatClampNeg)]) (rest := []) (Φ1 := W2 G1 τ1 G2 σ2) C hB.1 hH k1 dL_law_763 rfl w_724 (List.forall_mem_cons.mpr ⟨w_721, List.forall_mem_cons.mpr ⟨w_722, List.forall_mem_cons.mpr ⟨w_723, List.forall_mem_cons.mpr ⟨w_1, fun _ h => absurd h List.not_mem_nil⟩⟩⟩⟩) ds_X9_count h1 ⟨Nat.le_of_ble_eq_true rfl, Nat.le_of_ble_eq_true rfl⟩ (Nat.le_of_ble_eq_true rfl) ⟨Nat.le_of_ble_eq_true rfl, Nat.le_of_ble_eq_true rfl⟩ (fun _ h => h.1) (W2.a hdj) ?_
  refine n_aload_n (pc := 766) C dL_law_766 rfl ?_
  refine n_aload_n (pc := 767) C dL_law_767 rfl ?_
  refine n_iload_n (pc := 768) C dL_law_768 rfl ?_
  refine n_iconst (pc := 769) (v := nI 1) C dL_law_769 (by decide) ?_
  refine n_iadd (pc := 770) C dL_law_770 ?_
  refine n_sld (pc := 771) C hX (by omega) (Nat.not_le.mpr hbl) (sI (by omega) hL) dL_law_771 ?_
  refine n_callV (pc := 772) (i := 0) (ci := 10) (As := [.int (xs (nI i + nI 1).toNatClampNeg)]) (rest := [.int u]) (Φ1 := W2 G1 τ1 G2 τ2) C hB.2.1 hH k2 dL_law_772 rfl w_1029 (List.forall_mem_cons.mpr ⟨w_1026, List.forall_mem_cons.mpr ⟨w_1027, List.forall_mem_cons.mpr ⟨w_1028, List.forall_mem_cons.mpr ⟨w_16, fun _ h => absurd h List.not_mem_nil⟩⟩⟩⟩) ds_X10_count h2 ⟨Nat.le_of_ble_eq_true rfl, Nat.le_of_ble_eq_true rfl⟩ (Nat.le_of_ble_eq_true rfl) ⟨Nat.le_of_ble_eq_true rfl, Nat.le_of_ble_eq_true rfl⟩ (fun _ h => h.2) (W2.b hdj) ?_
  refine n_icmp_eq (pc := 775) C 780 dL_law_775 rfl (fun _ => ?_) (fun z => absurd rfl z)
  exact n_phi (fun H h => ⟨G1, τ1, G2, τ2, hB, hP2, h⟩) K
end LAW
