/-! ===== the JDK's own small methods ===== -/
set_option maxRecDepth 100000 in
set_option maxHeartbeats 4000000 in
theorem c_J6_compare_7cf53 (g : zG) (l : Launch) {x z : Int32} {M : zM} : zMet g l yJ6_compare_7cf53 cJ6_compare_7cf53 2 (some .int) 0 0 0 [.int x, .int z] S0 M (zQi (fun r M' => r = (if x < z then -1 else if x = z then 0 else 1) ∧ M' = M)) := by
  refine zMet.of (by decide) (Nat.le_of_ble_eq_true rfl) ?_
  refine z_iload_n dJ6_compare_7cf53_0 rfl ?_
  refine z_iload_n dJ6_compare_7cf53_1 rfl ?_
  refine z_icmp_ge (tgt := 9) dJ6_compare_7cf53_2 (by decide) (fun b2 => ?_) (fun b2 => ?_)
  · refine z_iload_n dJ6_compare_7cf53_9 rfl ?_
    refine z_iload_n dJ6_compare_7cf53_10 rfl ?_
    refine z_icmp_ne (tgt := 18) dJ6_compare_7cf53_11 (by decide) (fun b11 => ?_) (fun b11 => ?_)
    · refine z_iconst (v := 1) dJ6_compare_7cf53_18 (by decide) ?_
      refine z_iret dJ6_compare_7cf53_19 rfl zle ?_
      first
        | exact ⟨by rw [if_neg (Int32.not_lt.mpr b2), if_neg b11], rfl⟩
        | exact ⟨by rw [if_neg (Int32.not_lt.mpr b2), if_pos b11], rfl⟩
        | exact ⟨by rw [if_pos (Int32.not_le.mp b2)], rfl⟩
    · refine z_iconst (v := 0) dJ6_compare_7cf53_14 (by decide) ?_
      refine z_goto (tgt := 19) dJ6_compare_7cf53_15 (by decide) ?_
      refine z_iret dJ6_compare_7cf53_19 rfl zle ?_
      first
        | exact ⟨by rw [if_neg (Int32.not_lt.mpr b2), if_neg b11], rfl⟩
        | exact ⟨by rw [if_neg (Int32.not_lt.mpr b2), if_pos b11], rfl⟩
        | exact ⟨by rw [if_pos (Int32.not_le.mp b2)], rfl⟩
  · refine z_iconst (v := (-1)) dJ6_compare_7cf53_5 (by decide) ?_
    refine z_goto (tgt := 19) dJ6_compare_7cf53_6 (by decide) ?_
    refine z_iret dJ6_compare_7cf53_19 rfl zle ?_
    first
      | exact ⟨by rw [if_neg (Int32.not_lt.mpr b2), if_neg b11], rfl⟩
      | exact ⟨by rw [if_neg (Int32.not_lt.mpr b2), if_pos b11], rfl⟩
      | exact ⟨by rw [if_pos (Int32.not_le.mp b2)], rfl⟩

def zBc (x : Int32) : Int32 :=
  let a := x - ((x.toUInt32 >>> ((1 : Int32).toUInt32 &&& Int32.toUInt32 31)).toInt32 &&& 1431655765)
  let b := (a &&& 858993459) + ((a.toUInt32 >>> ((2 : Int32).toUInt32 &&& Int32.toUInt32 31)).toInt32 &&& 858993459)
  let c := (b + (b.toUInt32 >>> ((4 : Int32).toUInt32 &&& Int32.toUInt32 31)).toInt32) &&& 252645135
  let d := c + (c.toUInt32 >>> ((8 : Int32).toUInt32 &&& Int32.toUInt32 31)).toInt32
  let e := d + (d.toUInt32 >>> ((16 : Int32).toUInt32 &&& Int32.toUInt32 31)).toInt32
  e &&& 63
set_option maxRecDepth 100000 in
set_option maxHeartbeats 4000000 in
theorem c_J6_bitCount_0f7a4 (g : zG) (l : Launch) {x : Int32} {M : zM} : zMet g l yJ6_bitCount_0f7a4 cJ6_bitCount_0f7a4 1 (some .int) 0 0 0 [.int x] S0 M (zQi (fun r M' => r = zBc x ∧ M' = M)) := by
  refine zMet.of (by decide) (Nat.le_of_ble_eq_true rfl) ?_
  refine z_iload_n dJ6_bitCount_0f7a4_0 rfl ?_
  refine z_iload_n dJ6_bitCount_0f7a4_1 rfl ?_
  refine z_iconst (v := 1) dJ6_bitCount_0f7a4_2 (by decide) ?_
  refine z_iushr dJ6_bitCount_0f7a4_3 ?_
  refine z_ldcw lc_J6_265 dJ6_bitCount_0f7a4_4 ?_
  refine z_iand dJ6_bitCount_0f7a4_7 ?_
  refine z_isub dJ6_bitCount_0f7a4_8 ?_
  refine z_istore_n dJ6_bitCount_0f7a4_9 (by decide) rfl rfl ?_
  refine z_iload_n dJ6_bitCount_0f7a4_10 rfl ?_
  refine z_ldcw lc_J6_266 dJ6_bitCount_0f7a4_11 ?_
  refine z_iand dJ6_bitCount_0f7a4_14 ?_
  refine z_iload_n dJ6_bitCount_0f7a4_15 rfl ?_
  refine z_iconst (v := 2) dJ6_bitCount_0f7a4_16 (by decide) ?_
  refine z_iushr dJ6_bitCount_0f7a4_17 ?_
  refine z_ldcw lc_J6_266 dJ6_bitCount_0f7a4_18 ?_
  refine z_iand dJ6_bitCount_0f7a4_21 ?_
  refine z_iadd dJ6_bitCount_0f7a4_22 ?_
  refine z_istore_n dJ6_bitCount_0f7a4_23 (by decide) rfl rfl ?_
  refine z_iload_n dJ6_bitCount_0f7a4_24 rfl ?_
  refine z_iload_n dJ6_bitCount_0f7a4_25 rfl ?_
  refine z_iconst (v := 4) dJ6_bitCount_0f7a4_26 (by decide) ?_
  refine z_iushr dJ6_bitCount_0f7a4_27 ?_
  refine z_iadd dJ6_bitCount_0f7a4_28 ?_
  refine z_ldcw lc_J6_267 dJ6_bitCount_0f7a4_29 ?_
  refine z_iand dJ6_bitCount_0f7a4_32 ?_
  refine z_istore_n dJ6_bitCount_0f7a4_33 (by decide) rfl rfl ?_
  refine z_iload_n dJ6_bitCount_0f7a4_34 rfl ?_
  refine z_iload_n dJ6_bitCount_0f7a4_35 rfl ?_
  refine z_bipush (v := 8) dJ6_bitCount_0f7a4_36 (by decide) ?_
  refine z_iushr dJ6_bitCount_0f7a4_38 ?_
  refine z_iadd dJ6_bitCount_0f7a4_39 ?_
  refine z_istore_n dJ6_bitCount_0f7a4_40 (by decide) rfl rfl ?_
  refine z_iload_n dJ6_bitCount_0f7a4_41 rfl ?_
  refine z_iload_n dJ6_bitCount_0f7a4_42 rfl ?_
  refine z_bipush (v := 16) dJ6_bitCount_0f7a4_43 (by decide) ?_
  refine z_iushr dJ6_bitCount_0f7a4_45 ?_
  refine z_iadd dJ6_bitCount_0f7a4_46 ?_
  refine z_istore_n dJ6_bitCount_0f7a4_47 (by decide) rfl rfl ?_
  refine z_iload_n dJ6_bitCount_0f7a4_48 rfl ?_
  refine z_bipush (v := 63) dJ6_bitCount_0f7a4_49 (by decide) ?_
  refine z_iand dJ6_bitCount_0f7a4_51 ?_
  exact z_iret dJ6_bitCount_0f7a4_52 rfl zle (⟨rfl, rfl⟩)

set_option maxRecDepth 100000 in
set_option maxHeartbeats 4000000 in
theorem c_J0_coder_7d493 (g : zG) (l : Launch) {i : Nat} {M : zM} (hi : i < 8) : zMet g l yJ0_coder_7d493 cJ0_coder_7d493 1 (some .byte) 0 0 0 [.ref (1000 + i)] S0 M (zQi (fun r M' => r = 0 ∧ M' = M)) := by
  refine zMet.of (by decide) (Nat.le_of_ble_eq_true rfl) ?_
  refine z_getCS lf_J0_38 dJ0_coder_7d493_0 ?_
  refine z_if_eq (tgt := 13) dJ0_coder_7d493_3 (by decide) (fun b3 => ?_) (fun b3 => ?_)
  · exact absurd b3 (by decide)
  · refine z_aload_n dJ0_coder_7d493_6 rfl ?_
    refine z_getTC hi lf_J0_15 dJ0_coder_7d493_7 ?_
    refine z_goto (tgt := 14) dJ0_coder_7d493_10 (by decide) ?_
    exact z_iret dJ0_coder_7d493_14 rfl zle (⟨rfl, rfl⟩)

set_option maxRecDepth 100000 in
set_option maxHeartbeats 4000000 in
theorem c_J0_isLatin1_aae02 (g : zG) (l : Launch) {i : Nat} {M : zM} (hi : i < 8) : zMet g l yJ0_isLatin1_aae02 cJ0_isLatin1_aae02 1 (some .boolean) 0 0 0 [.ref (1000 + i)] S0 M (zQi (fun r M' => r = 1 ∧ M' = M)) := by
  refine zMet.of (by decide) (Nat.le_of_ble_eq_true rfl) ?_
  refine z_getCS lf_J0_38 dJ0_isLatin1_aae02_0 ?_
  refine z_if_eq (tgt := 17) dJ0_isLatin1_aae02_3 (by decide) (fun b3 => ?_) (fun b3 => ?_)
  · exact absurd b3 (by decide)
  · refine z_aload_n dJ0_isLatin1_aae02_6 rfl ?_
    refine z_getTC hi lf_J0_15 dJ0_isLatin1_aae02_7 ?_
    refine z_if_ne (tgt := 17) dJ0_isLatin1_aae02_10 (by decide) (fun b10 => ?_) (fun b10 => ?_)
    · exact absurd b10 (by decide)
    · refine z_iconst (v := 1) dJ0_isLatin1_aae02_13 (by decide) ?_
      refine z_goto (tgt := 18) dJ0_isLatin1_aae02_14 (by decide) ?_
      exact z_iret dJ0_isLatin1_aae02_18 rfl zle (⟨rfl, rfl⟩)

set_option maxRecDepth 100000 in
set_option maxHeartbeats 4000000 in
theorem c_J0_length_8abf5 (g : zG) (l : Launch) {i : Nat} {M : zM} (hi : i < 8) : zMet g l yJ0_length_8abf5 cJ0_length_8abf5 1 (some .int) 1 0 0 [.ref (1000 + i)] S0 M (zQi (fun r M' => r = nI (zConLen.getD i 0) ∧ M' = M)) := by
  refine zMet.of (by decide) (Nat.le_of_ble_eq_true rfl) ?_
  refine z_aload_n dJ0_length_8abf5_0 rfl ?_
  refine z_getTV hi lf_J0_9 dJ0_length_8abf5_1 ?_
  refine z_lenTV hi dJ0_length_8abf5_4 ?_
  refine z_aload_n dJ0_length_8abf5_5 rfl ?_
  refine z_iT0 hi (c_J0_coder_7d493 g l hi) mw_J0_coder_7d493 lm_J0_335 mi_J0_coder_7d493 mv_J0_coder_7d493 rfl (by decide) (Nat.le_of_ble_eq_true rfl) zle dJ0_length_8abf5_6 (fun r6 M6 q6 => ?_)
  obtain ⟨rfl, rfl⟩ := q6
  refine z_ishr dJ0_length_8abf5_9 ?_
  refine z_iret dJ0_length_8abf5_10 rfl zle ?_
  exact ⟨sb_shr0 _, rfl⟩

set_option maxRecDepth 100000 in
set_option maxHeartbeats 4000000 in
theorem c_J3_checkIndex_8e157 (g : zG) (l : Launch) {a b : Nat} {v : Value} {M : zM} (hab : a < b) (hb : b < 1000) (hv : v = .null ∨ v = .ref (2000 + 101)) : zMet g l yJ3_checkIndex_8e157 cJ3_checkIndex_8e157 3 (some .int) 1 0 0 [.int (nI a), .int (nI b), v] S0 M (zQi (fun r M' => r = nI a ∧ M' = M)) := by
  rcases hv with rfl | rfl
  · refine zMet.of (by decide) (Nat.le_of_ble_eq_true rfl) ?_
    refine z_iload_n dJ3_checkIndex_8e157_0 rfl ?_
    refine z_if_lt (tgt := 9) dJ3_checkIndex_8e157_1 (by decide) (fun b1 => ?_) (fun b1 => ?_)
    · exact absurd b1 (nI_pos (by omega))
    · refine z_iload_n dJ3_checkIndex_8e157_4 rfl ?_
      refine z_iload_n dJ3_checkIndex_8e157_5 rfl ?_
      refine z_icmp_lt (tgt := 16) dJ3_checkIndex_8e157_6 (by decide) (fun b6 => ?_) (fun b6 => ?_)
      · refine z_iload_n dJ3_checkIndex_8e157_16 rfl ?_
        exact z_iret dJ3_checkIndex_8e157_17 rfl zle (⟨rfl, rfl⟩)
      · exact absurd (nI_lt hab (by omega)) b6
  · refine zMet.of (by decide) (Nat.le_of_ble_eq_true rfl) ?_
    refine z_iload_n dJ3_checkIndex_8e157_0 rfl ?_
    refine z_if_lt (tgt := 9) dJ3_checkIndex_8e157_1 (by decide) (fun b1 => ?_) (fun b1 => ?_)
    · exact absurd b1 (nI_pos (by omega))
    · refine z_iload_n dJ3_checkIndex_8e157_4 rfl ?_
      refine z_iload_n dJ3_checkIndex_8e157_5 rfl ?_
      refine z_icmp_lt (tgt := 16) dJ3_checkIndex_8e157_6 (by decide) (fun b6 => ?_) (fun b6 => ?_)
      · refine z_iload_n dJ3_checkIndex_8e157_16 rfl ?_
        exact z_iret dJ3_checkIndex_8e157_17 rfl zle (⟨rfl, rfl⟩)
      · exact absurd (nI_lt hab (by omega)) b6

set_option maxRecDepth 100000 in
set_option maxHeartbeats 4000000 in
theorem c_J0_checkIndex_df160 (g : zG) (l : Launch) {a b : Nat} {M : zM} (hab : a < b) (hb : b < 1000) : zMet g l yJ0_checkIndex_df160 cJ0_checkIndex_df160 2 none 2 0 0 [.int (nI a), .int (nI b)] S0 M (zQv (fun M' => M' = M)) := by
  refine zMet.of (by decide) (Nat.le_of_ble_eq_true rfl) ?_
  refine z_iload_n dJ0_checkIndex_df160_0 rfl ?_
  refine z_iload_n dJ0_checkIndex_df160_1 rfl ?_
  refine z_getSF lf_J0_1053 dJ0_checkIndex_df160_2 (fun v2 hv2 => ?_)
  rcases hv2 with rfl | rfl
  · refine z_iS3 (c_J3_checkIndex_8e157 g l hab hb (by first | exact Or.inl rfl | exact Or.inr rfl)) mw_J3_checkIndex_8e157 lm_J0_1059 ms_J3_checkIndex_8e157 (by decide) (Nat.le_of_ble_eq_true rfl) zle dJ0_checkIndex_df160_5 (fun r5 M5 q5 => ?_)
    obtain ⟨rfl, rfl⟩ := q5
    refine z_pop dJ0_checkIndex_df160_8 rfl ?_
    exact z_vret dJ0_checkIndex_df160_9 zle (rfl)
  · refine z_iS3 (c_J3_checkIndex_8e157 g l hab hb (by first | exact Or.inl rfl | exact Or.inr rfl)) mw_J3_checkIndex_8e157 lm_J0_1059 ms_J3_checkIndex_8e157 (by decide) (Nat.le_of_ble_eq_true rfl) zle dJ0_checkIndex_df160_5 (fun r5 M5 q5 => ?_)
    obtain ⟨rfl, rfl⟩ := q5
    refine z_pop dJ0_checkIndex_df160_8 rfl ?_
    exact z_vret dJ0_checkIndex_df160_9 zle (rfl)

theorem zCon_len : ∀ i, i < 8 → zConLen.getD i 0 = (zConByt.getD i []).length ∧ zConLen.getD i 0 < 1000 := by decide +kernel
theorem zCon_c : ∀ i, i < 8 → ∀ j, j < zConLen.getD i 0 → (((zConByt.getD i []).getD j 0 &&& 255).toUInt32 % 65536).toInt32 = (zConByt.getD i []).getD j 0 ∧ narrow .char (.int ((zConByt.getD i []).getD j 0)) = .int ((zConByt.getD i []).getD j 0) := by decide +kernel
set_option maxRecDepth 100000 in
set_option maxHeartbeats 4000000 in
theorem c_J1_charAt_3b067 (g : zG) (l : Launch) {i j : Nat} {M : zM} (hi : i < 8) (hj : j < zConLen.getD i 0) : zMet g l yJ1_charAt_3b067 cJ1_charAt_3b067 2 (some .char) 3 0 0 [.ref (2000 + i), .int (nI j)] S0 M (zQi (fun r M' => r = (zConByt.getD i []).getD j 0 ∧ M' = M)) := by
  refine zMet.of (by decide) (Nat.le_of_ble_eq_true rfl) ?_
  refine z_iload_n dJ1_charAt_3b067_0 rfl ?_
  refine z_aload_n dJ1_charAt_3b067_1 rfl ?_
  refine z_lenTV hi dJ1_charAt_3b067_2 ?_
  refine z_vS2 (c_J0_checkIndex_df160 g l hj (zCon_len i hi).2) mw_J0_checkIndex_df160 lm_J1_9 ms_J0_checkIndex_df160 (by decide) (Nat.le_of_ble_eq_true rfl) zle dJ1_charAt_3b067_3 (fun M3 q3 => ?_)
  subst q3
  refine z_aload_n dJ1_charAt_3b067_6 rfl ?_
  refine z_iload_n dJ1_charAt_3b067_7 rfl ?_
  refine z_baldTV hi rfl hj (Nat.lt_trans hj (zCon_len i hi).2) dJ1_charAt_3b067_8 ?_
  refine z_sipush (v := 255) dJ1_charAt_3b067_9 (by decide) ?_
  refine z_iand dJ1_charAt_3b067_12 ?_
  refine z_i2c dJ1_charAt_3b067_13 ?_
  rw [(zCon_c i hi j hj).1]
  exact z_iret dJ1_charAt_3b067_14 (zCon_c i hi j hj).2 zle (⟨rfl, rfl⟩)

set_option maxRecDepth 100000 in
set_option maxHeartbeats 4000000 in
theorem c_J0_charAt_5068e (g : zG) (l : Launch) {i j : Nat} {M : zM} (hi : i < 8) (hj : j < zConLen.getD i 0) : zMet g l yJ0_charAt_5068e cJ0_charAt_5068e 2 (some .char) 5 0 0 [.ref (1000 + i), .int (nI j)] S0 M (zQi (fun r M' => r = (zConByt.getD i []).getD j 0 ∧ M' = M)) := by
  refine zMet.of (by decide) (Nat.le_of_ble_eq_true rfl) ?_
  refine z_aload_n dJ0_charAt_5068e_0 rfl ?_
  refine z_iT0 hi (c_J0_isLatin1_aae02 g l hi) mw_J0_isLatin1_aae02 lm_J0_492 mi_J0_isLatin1_aae02 mv_J0_isLatin1_aae02 rfl (by decide) (Nat.le_of_ble_eq_true rfl) zle dJ0_charAt_5068e_1 (fun r1 M1 q1 => ?_)
  obtain ⟨rfl, rfl⟩ := q1
  refine z_if_eq (tgt := 16) dJ0_charAt_5068e_4 (by decide) (fun b4 => ?_) (fun b4 => ?_)
  · exact absurd b4 (by decide)
  · refine z_aload_n dJ0_charAt_5068e_7 rfl ?_
    refine z_getTV hi lf_J0_9 dJ0_charAt_5068e_8 ?_
    refine z_iload_n dJ0_charAt_5068e_11 rfl ?_
    refine z_iS2 (c_J1_charAt_3b067 g l hi hj) mw_J1_charAt_3b067 lm_J0_495 ms_J1_charAt_3b067 (by decide) (Nat.le_of_ble_eq_true rfl) zle dJ0_charAt_5068e_12 (fun r12 M12 q12 => ?_)
    obtain ⟨rfl, rfl⟩ := q12
    exact z_iret dJ0_charAt_5068e_15 (zCon_c i hi j hj).2 zle (⟨rfl, rfl⟩)

