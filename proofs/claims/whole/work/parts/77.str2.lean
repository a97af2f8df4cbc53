theorem v_200 : (Cond.methodLink "java/lang/String" (335) yJ0_coder_7d493) ∈ GW := gw_tbl (List.mem_of_getElem? (i := 200) (by decide +kernel)) (by decide +kernel)
theorem v_201 : (Cond.instanceMethod yJ0_coder_7d493) ∈ GW := gw_tbl (List.mem_of_getElem? (i := 201) (by decide +kernel)) (by decide +kernel)
theorem v_202 : (Cond.selects "java/lang/String" yJ0_coder_7d493 yJ0_coder_7d493) ∈ GW := gw_tbl (List.mem_of_getElem? (i := 202) (by decide +kernel)) (by decide +kernel)
theorem v_204 : (Cond.fieldLink "java/lang/String" (38) "java/lang/String" "COMPACT_STRINGS" "Z") ∈ GW := gw_tbl (List.mem_of_getElem? (i := 204) (by decide +kernel)) (by decide +kernel)
theorem v_210 : (Cond.methodLink "java/lang/String" (492) yJ0_isLatin1_aae02) ∈ GW := gw_tbl (List.mem_of_getElem? (i := 210) (by decide +kernel)) (by decide +kernel)
theorem v_211 : (Cond.instanceMethod yJ0_isLatin1_aae02) ∈ GW := gw_tbl (List.mem_of_getElem? (i := 211) (by decide +kernel)) (by decide +kernel)
theorem v_212 : (Cond.selects "java/lang/String" yJ0_isLatin1_aae02 yJ0_isLatin1_aae02) ∈ GW := gw_tbl (List.mem_of_getElem? (i := 212) (by decide +kernel)) (by decide +kernel)
theorem v_220 : (Cond.fieldLink "java/lang/String" (1053) "jdk/internal/util/Preconditions" "SIOOBE_FORMATTER" "Ljava/util/function/BiFunction;") ∈ GW := gw_tbl (List.mem_of_getElem? (i := 220) (by decide +kernel)) (by decide +kernel)
theorem v_1031 : (Cond.fieldLink "java/lang/String" (9) "java/lang/String" "value" "[B") ∈ GW := gw_tbl (List.mem_of_getElem? (i := 1031) (by decide +kernel)) (by decide +kernel)
theorem v_1032 : (Cond.fieldLink "java/lang/String" (15) "java/lang/String" "coder" "B") ∈ GW := gw_tbl (List.mem_of_getElem? (i := 1032) (by decide +kernel)) (by decide +kernel)
theorem s_coder (l : Launch) (D : va_G) (t : ClassId × ClassId × ClassId) (a v : Nat) (f : Option Nat) : MtS l D t a v f mJ0_coder_7d493 [.ref a] (some (.int 0)) := by
  refine MtS.of (by decide +kernel) (Nat.le_of_ble_eq_true rfl) (fun sz κ C hr hs => ?_)
  obtain ⟨s1, s2, s3, s4, s5, s6⟩ := id hs
  refine n_stat (pc := 0) C s5 dJ0_coder_7d493_0 v_204 ?_
  refine n_if_eq (pc := 3) C 13 dJ0_coder_7d493_3 rfl (fun h => absurd h (by decide)) (fun _ => ?_)
  refine n_aload_n (pc := 6) C dJ0_coder_7d493_6 rfl ?_
  refine n_fld (pc := 7) C s2 dJ0_coder_7d493_7 v_1032 ?_
  refine n_goto (pc := 10) C 14 dJ0_coder_7d493_10 rfl ?_
  exact n_sret (pc := 14) C hr rfl rfl rfl dJ0_coder_7d493_14
theorem s_isLatin1 (l : Launch) (D : va_G) (t : ClassId × ClassId × ClassId) (a v : Nat) (f : Option Nat) : MtS l D t a v f mJ0_isLatin1_aae02 [.ref a] (some (.int 1)) := by
  refine MtS.of (by decide +kernel) (Nat.le_of_ble_eq_true rfl) (fun sz κ C hr hs => ?_)
  obtain ⟨s1, s2, s3, s4, s5, s6⟩ := id hs
  refine n_stat (pc := 0) C s5 dJ0_isLatin1_aae02_0 v_204 ?_
  refine n_if_eq (pc := 3) C 17 dJ0_isLatin1_aae02_3 rfl (fun h => absurd h (by decide)) (fun _ => ?_)
  refine n_aload_n (pc := 6) C dJ0_isLatin1_aae02_6 rfl ?_
  refine n_fld (pc := 7) C s2 dJ0_isLatin1_aae02_7 v_1032 ?_
  refine n_if_ne (pc := 10) C 17 dJ0_isLatin1_aae02_10 rfl (fun h => absurd rfl h) (fun _ => ?_)
  refine n_iconst (pc := 13) (v := 1) C dJ0_isLatin1_aae02_13 (by decide) ?_
  refine n_goto (pc := 14) C 18 dJ0_isLatin1_aae02_14 rfl ?_
  exact n_sret (pc := 18) C hr rfl rfl rfl dJ0_isLatin1_aae02_18
theorem s_length (l : Launch) (D : va_G) (t : ClassId × ClassId × ClassId) (a v : Nat) (f : Option Nat) : MtS l D t a v f mJ0_length_8abf5 [.ref a] (some (.int (nI 22))) := by
  refine MtS.of (by decide +kernel) (Nat.le_of_ble_eq_true rfl) (fun sz κ C hr hs => ?_)
  obtain ⟨s1, s2, s3, s4, s5, s6⟩ := id hs
  refine n_aload_n (pc := 0) C dJ0_length_8abf5_0 rfl ?_
  refine n_fld (pc := 1) C s3 dJ0_length_8abf5_1 v_1031 ?_
  refine n_tlen (pc := 4) C s4 dJ0_length_8abf5_4 ?_
  refine n_aload_n (pc := 5) C dJ0_length_8abf5_5 rfl ?_
  refine n_callVS (pc := 6) (As := []) (rest := [.int (nI 22)]) C hs (s_coder _ _ _ _ _ _) rfl dJ0_length_8abf5_6 w_203 (List.forall_mem_cons.mpr ⟨v_200, List.forall_mem_cons.mpr ⟨v_201, List.forall_mem_cons.mpr ⟨v_202, List.forall_mem_cons.mpr ⟨w_11, fun _ h => absurd h List.not_mem_nil⟩⟩⟩⟩) ds_J0_coder_7d493 ⟨Nat.le_of_ble_eq_true rfl, Nat.le_of_ble_eq_true rfl⟩ (by decide) ⟨Nat.zero_le _, Nat.zero_le _⟩ (fun _ _ _ _ _ => trivial) ?_
  refine n_ishr (pc := 9) C dJ0_length_8abf5_9 ?_
  exact n_sret (pc := 10) C hr (by decide) (by decide) rfl dJ0_length_8abf5_10
theorem s_pre (l : Launch) (D : va_G) (t : ClassId × ClassId × ClassId) (a v : Nat) (f : Option Nat) {k : Nat} (hk : k < 22) : MtS l D t a v f mJ3_checkIndex_8e157 [.int (nI k), .int (nI 22), va_rf f] (some (.int (nI k))) := by
  have hlen : (lg_sl [.int (nI k), .int (nI 22), va_rf f]).length ≤ Mn mJ3_checkIndex_8e157 := by cases f <;> exact Nat.le_of_ble_eq_true rfl
  refine MtS.of (by decide +kernel) hlen (fun sz κ C hr hs => ?_)
  refine n_lv [(0, .int (nI k)), (1, .int (nI 22))] ⟨rfl, rfl, trivial⟩ ?_
  refine n_iload_n (pc := 0) C dJ3_checkIndex_8e157_0 rfl ?_
  refine n_if_lt (pc := 1) C 9 dJ3_checkIndex_8e157_1 rfl (fun h => absurd h (nI_pos (by omega))) (fun _ => ?_)
  refine n_iload_n (pc := 4) C dJ3_checkIndex_8e157_4 rfl ?_
  refine n_iload_n (pc := 5) C dJ3_checkIndex_8e157_5 rfl ?_
  refine n_icmp_lt (pc := 6) C 16 dJ3_checkIndex_8e157_6 rfl (fun _ => ?_) (fun h => absurd (nI_lt hk (by decide)) h)
  refine n_iload_n (pc := 16) C dJ3_checkIndex_8e157_16 rfl ?_
  exact n_sret (pc := 17) C hr rfl rfl rfl dJ3_checkIndex_8e157_17
theorem s_check (l : Launch) (D : va_G) (t : ClassId × ClassId × ClassId) (a v : Nat) (f : Option Nat) {k : Nat} (hk : k < 22) : MtS l D t a v f mJ0_checkIndex_df160 [.int (nI k), .int (nI 22)] none := by
  refine MtS.of (by decide +kernel) (Nat.le_of_ble_eq_true rfl) (fun sz κ C hr hs => ?_)
  obtain ⟨s1, s2, s3, s4, s5, s6⟩ := id hs
  refine n_iload_n (pc := 0) C dJ0_checkIndex_df160_0 rfl ?_
  refine n_iload_n (pc := 1) C dJ0_checkIndex_df160_1 rfl ?_
  refine n_stat (pc := 2) C s6 dJ0_checkIndex_df160_2 v_220 ?_
  refine n_callSS (pc := 5) (As := [.int (nI k), .int (nI 22), va_rf f]) (rest := []) C hs (s_pre _ _ _ _ _ _ hk) dJ0_checkIndex_df160_5 w_224 (List.forall_mem_cons.mpr ⟨w_222, List.forall_mem_cons.mpr ⟨w_223, List.forall_mem_cons.mpr ⟨w_13, fun _ h => absurd h List.not_mem_nil⟩⟩⟩) ds_J3_checkIndex_8e157 ⟨Nat.le_of_ble_eq_true rfl, Nat.le_of_ble_eq_true rfl⟩ (by decide) ⟨Nat.zero_le _, Nat.zero_le _⟩ (fun _ _ _ _ _ => trivial) ?_
  refine n_pop (pc := 8) C dJ0_checkIndex_df160_8 rfl ?_
  exact n_sretv (pc := 9) C hr rfl dJ0_checkIndex_df160_9
theorem chS : ∀ k, k < 22 → ((bytS.getD k 0 &&& nI 255).toUInt32 % 65536).toInt32 = bytS.getD k 0 ∧ narrow .char (.int (bytS.getD k 0)) = .int (bytS.getD k 0) := by decide +kernel
theorem s_lat (l : Launch) (D : va_G) (t : ClassId × ClassId × ClassId) (a v : Nat) (f : Option Nat) {k : Nat} (hk : k < 22) : MtS l D t a v f mJ1_charAt_3b067 [.ref v, .int (nI k)] (some (.int (bytS.getD k 0))) := by
  refine MtS.of (by decide +kernel) (Nat.le_of_ble_eq_true rfl) (fun sz κ C hr hs => ?_)
  obtain ⟨s1, s2, s3, s4, s5, s6⟩ := id hs
  refine n_iload_n (pc := 0) C dJ1_charAt_3b067_0 rfl ?_
  refine n_aload_n (pc := 1) C dJ1_charAt_3b067_1 rfl ?_
  refine n_tlen (pc := 2) C s4 dJ1_charAt_3b067_2 ?_
  refine n_callSS (pc := 3) (As := [.int (nI k), .int (nI 22)]) (rest := []) C hs (s_check _ _ _ _ _ _ hk) dJ1_charAt_3b067_3 w_219 (List.forall_mem_cons.mpr ⟨w_217, List.forall_mem_cons.mpr ⟨w_218, List.forall_mem_cons.mpr ⟨w_11, fun _ h => absurd h List.not_mem_nil⟩⟩⟩) ds_J0_checkIndex_df160 ⟨Nat.le_of_ble_eq_true rfl, Nat.le_of_ble_eq_true rfl⟩ (by decide) ⟨Nat.zero_le _, Nat.zero_le _⟩ (fun _ _ _ _ _ => trivial) ?_
  refine n_aload_n (pc := 6) C dJ1_charAt_3b067_6 rfl ?_
  refine n_iload_n (pc := 7) C dJ1_charAt_3b067_7 rfl ?_
  refine n_tb (pc := 8) (z := .int (bytS.getD k 0)) C s4 (vp_in_nI hk (by decide)) (by rw [nI_clamp (by omega)]) dJ1_charAt_3b067_8 ?_
  refine n_sipush (pc := 9) (v := nI 255) C dJ1_charAt_3b067_9 (by decide) ?_
  refine n_iand (pc := 12) C dJ1_charAt_3b067_12 ?_
  refine n_i2c (pc := 13) C dJ1_charAt_3b067_13 ?_
  rw [(chS k hk).1]
  exact n_sret (pc := 14) C hr (chS k hk).2 rfl rfl dJ1_charAt_3b067_14
theorem s_charAt (l : Launch) (D : va_G) (t : ClassId × ClassId × ClassId) (a v : Nat) (f : Option Nat) {k : Nat} (hk : k < 22) : MtS l D t a v f mJ0_charAt_5068e [.ref a, .int (nI k)] (some (.int (bytS.getD k 0))) := by
  refine MtS.of (by decide +kernel) (Nat.le_of_ble_eq_true rfl) (fun sz κ C hr hs => ?_)
  obtain ⟨s1, s2, s3, s4, s5, s6⟩ := id hs
  refine n_aload_n (pc := 0) C dJ0_charAt_5068e_0 rfl ?_
  refine n_callVS (pc := 1) (As := []) (rest := []) C hs (s_isLatin1 _ _ _ _ _ _) rfl dJ0_charAt_5068e_1 w_213 (List.forall_mem_cons.mpr ⟨v_210, List.forall_mem_cons.mpr ⟨v_211, List.forall_mem_cons.mpr ⟨v_212, List.forall_mem_cons.mpr ⟨w_11, fun _ h => absurd h List.not_mem_nil⟩⟩⟩⟩) ds_J0_isLatin1_aae02 ⟨Nat.le_of_ble_eq_true rfl, Nat.le_of_ble_eq_true rfl⟩ (by decide) ⟨Nat.zero_le _, Nat.zero_le _⟩ (fun _ _ _ _ _ => trivial) ?_
  refine n_if_eq (pc := 4) C 16 dJ0_charAt_5068e_4 rfl (fun h => absurd h (by decide)) (fun _ => ?_)
  refine n_aload_n (pc := 7) C dJ0_charAt_5068e_7 rfl ?_
  refine n_fld (pc := 8) C s3 dJ0_charAt_5068e_8 v_1031 ?_
  refine n_iload_n (pc := 11) C dJ0_charAt_5068e_11 rfl ?_
  refine n_callSS (pc := 12) (As := [.ref v, .int (nI k)]) (rest := []) C hs (s_lat _ _ _ _ _ _ hk) dJ0_charAt_5068e_12 w_216 (List.forall_mem_cons.mpr ⟨w_214, List.forall_mem_cons.mpr ⟨w_215, List.forall_mem_cons.mpr ⟨w_12, fun _ h => absurd h List.not_mem_nil⟩⟩⟩) ds_J1_charAt_3b067 ⟨Nat.le_of_ble_eq_true rfl, Nat.le_of_ble_eq_true rfl⟩ (by decide) ⟨Nat.zero_le _, Nat.zero_le _⟩ (fun _ _ _ _ _ => trivial) ?_
  exact n_sret (pc := 15) C hr (chS k hk).2 rfl rfl dJ0_charAt_5068e_15
