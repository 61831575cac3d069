/-! ===== the reference: small functions, and what a day does in a region of its row ===== -/
set_option maxRecDepth 100000 in
set_option maxHeartbeats 4000000 in
theorem c_X12_takes (g : zG) (l : Launch) {k x : Int32} {M : zM} : zMet g l yX12_takes cX12_takes 2 (some .int) 0 0 0 [.int k, .int x] S0 M (zQi (fun r' M' => r' = kTakes k x ∧ M' = M)) := by
  refine zMet.of (by decide) (Nat.le_of_ble_eq_true rfl) ?_
  refine z_iload_n dX12_takes_0 rfl ?_
  refine z_iconst (v := 2) dX12_takes_1 (by decide) ?_
  refine z_icmp_ne (tgt := 13) dX12_takes_2 (by decide) (fun b2 => ?_) (fun b2 => ?_)
  · refine z_iload_n dX12_takes_13 rfl ?_
    refine z_iconst (v := 3) dX12_takes_14 (by decide) ?_
    refine z_icmp_eq (tgt := 23) dX12_takes_15 (by decide) (fun b15 => ?_) (fun b15 => ?_)
    · refine z_iconst (v := 2) dX12_takes_23 (by decide) ?_
      refine z_iload_n dX12_takes_24 rfl ?_
      refine z_imul dX12_takes_25 ?_
      refine z_goto (tgt := 30) dX12_takes_26 (by decide) ?_
      refine z_iret dX12_takes_30 rfl zle ?_
      refine ⟨?_, rfl⟩
      unfold kTakes
      simp_all
    · refine z_iload_n dX12_takes_18 rfl ?_
      refine z_iconst (v := 4) dX12_takes_19 (by decide) ?_
      refine z_icmp_ne (tgt := 29) dX12_takes_20 (by decide) (fun b20 => ?_) (fun b20 => ?_)
      · refine z_iload_n dX12_takes_29 rfl ?_
        refine z_iret dX12_takes_30 rfl zle ?_
        refine ⟨?_, rfl⟩
        unfold kTakes
        simp_all
      · refine z_iconst (v := 2) dX12_takes_23 (by decide) ?_
        refine z_iload_n dX12_takes_24 rfl ?_
        refine z_imul dX12_takes_25 ?_
        refine z_goto (tgt := 30) dX12_takes_26 (by decide) ?_
        refine z_iret dX12_takes_30 rfl zle ?_
        refine ⟨?_, rfl⟩
        unfold kTakes
        simp_all
  · refine z_iload_n dX12_takes_5 rfl ?_
    refine z_iconst (v := 2) dX12_takes_6 (by decide) ?_
    refine z_idiv dX12_takes_7 (by decide) ?_
    refine z_iconst (v := 1) dX12_takes_8 (by decide) ?_
    refine z_iadd dX12_takes_9 ?_
    refine z_goto (tgt := 30) dX12_takes_10 (by decide) ?_
    refine z_iret dX12_takes_30 rfl zle ?_
    refine ⟨?_, rfl⟩
    unfold kTakes
    simp_all

set_option maxRecDepth 100000 in
set_option maxHeartbeats 4000000 in
theorem c_X12_tires (g : zG) (l : Launch) {k x : Int32} {M : zM} : zMet g l yX12_tires cX12_tires 2 (some .int) 0 0 0 [.int k, .int x] S0 M (zQi (fun r' M' => r' = kTires k x ∧ M' = M)) := by
  refine zMet.of (by decide) (Nat.le_of_ble_eq_true rfl) ?_
  refine z_iload_n dX12_tires_0 rfl ?_
  refine z_iconst (v := 2) dX12_tires_1 (by decide) ?_
  refine z_icmp_ne (tgt := 11) dX12_tires_2 (by decide) (fun b2 => ?_) (fun b2 => ?_)
  · refine z_iload_n dX12_tires_11 rfl ?_
    refine z_iconst (v := 3) dX12_tires_12 (by decide) ?_
    refine z_icmp_ne (tgt := 20) dX12_tires_13 (by decide) (fun b13 => ?_) (fun b13 => ?_)
    · refine z_iload_n dX12_tires_20 rfl ?_
      refine z_iconst (v := 4) dX12_tires_21 (by decide) ?_
      refine z_icmp_ne (tgt := 29) dX12_tires_22 (by decide) (fun b22 => ?_) (fun b22 => ?_)
      · refine z_iload_n dX12_tires_29 rfl ?_
        refine z_iret dX12_tires_30 rfl zle ?_
        refine ⟨?_, rfl⟩
        unfold kTires
        simp_all
      · refine z_iconst (v := 1) dX12_tires_25 (by decide) ?_
        refine z_goto (tgt := 30) dX12_tires_26 (by decide) ?_
        refine z_iret dX12_tires_30 rfl zle ?_
        refine ⟨?_, rfl⟩
        unfold kTires
        simp_all
    · refine z_iconst (v := 0) dX12_tires_16 (by decide) ?_
      refine z_goto (tgt := 30) dX12_tires_17 (by decide) ?_
      refine z_iret dX12_tires_30 rfl zle ?_
      refine ⟨?_, rfl⟩
      unfold kTires
      simp_all
  · refine z_iconst (v := 2) dX12_tires_5 (by decide) ?_
    refine z_iload_n dX12_tires_6 rfl ?_
    refine z_imul dX12_tires_7 ?_
    refine z_goto (tgt := 30) dX12_tires_8 (by decide) ?_
    refine z_iret dX12_tires_30 rfl zle ?_
    refine ⟨?_, rfl⟩
    unfold kTires
    simp_all

set_option maxRecDepth 100000 in
set_option maxHeartbeats 4000000 in
theorem c_X12_rests (g : zG) (l : Launch) {k : Int32} {M : zM} : zMet g l yX12_rests cX12_rests 1 (some .int) 0 0 0 [.int k] S0 M (zQi (fun r' M' => r' = kRests k ∧ M' = M)) := by
  refine zMet.of (by decide) (Nat.le_of_ble_eq_true rfl) ?_
  refine z_iload_n dX12_rests_0 rfl ?_
  refine z_iconst (v := 1) dX12_rests_1 (by decide) ?_
  refine z_icmp_ne (tgt := 9) dX12_rests_2 (by decide) (fun b2 => ?_) (fun b2 => ?_)
  · refine z_iload_n dX12_rests_9 rfl ?_
    refine z_iconst (v := 3) dX12_rests_10 (by decide) ?_
    refine z_icmp_eq (tgt := 19) dX12_rests_11 (by decide) (fun b11 => ?_) (fun b11 => ?_)
    · refine z_iconst (v := 1) dX12_rests_19 (by decide) ?_
      refine z_goto (tgt := 24) dX12_rests_20 (by decide) ?_
      refine z_iret dX12_rests_24 rfl zle ?_
      refine ⟨?_, rfl⟩
      unfold kRests
      simp_all
    · refine z_iload_n dX12_rests_14 rfl ?_
      refine z_iconst (v := 4) dX12_rests_15 (by decide) ?_
      refine z_icmp_ne (tgt := 23) dX12_rests_16 (by decide) (fun b16 => ?_) (fun b16 => ?_)
      · refine z_iconst (v := 2) dX12_rests_23 (by decide) ?_
        refine z_iret dX12_rests_24 rfl zle ?_
        refine ⟨?_, rfl⟩
        unfold kRests
        simp_all
      · refine z_iconst (v := 1) dX12_rests_19 (by decide) ?_
        refine z_goto (tgt := 24) dX12_rests_20 (by decide) ?_
        refine z_iret dX12_rests_24 rfl zle ?_
        refine ⟨?_, rfl⟩
        unfold kRests
        simp_all
  · refine z_iconst (v := 3) dX12_rests_5 (by decide) ?_
    refine z_goto (tgt := 24) dX12_rests_6 (by decide) ?_
    refine z_iret dX12_rests_24 rfl zle ?_
    refine ⟨?_, rfl⟩
    unfold kRests
    simp_all

set_option maxRecDepth 100000 in
set_option maxHeartbeats 4000000 in
theorem c_X12_next (g : zG) (l : Launch) {f t : Int32} {M : zM} : zMet g l yX12_next cX12_next 2 (some .int) 0 0 0 [.int f, .int t] S0 M (zQi (fun r' M' => r' = dNext f t ∧ M' = M)) := by
  refine zMet.of (by decide) (Nat.le_of_ble_eq_true rfl) ?_
  refine z_iload_n dX12_next_0 rfl ?_
  refine z_iload_n dX12_next_1 rfl ?_
  refine z_icmp_le (tgt := 11) dX12_next_2 (by decide) (fun b2 => ?_) (fun b2 => ?_)
  · refine z_iload_n dX12_next_11 rfl ?_
    refine z_iload_n dX12_next_12 rfl ?_
    refine z_icmp_ge (tgt := 22) dX12_next_13 (by decide) (fun b13 => ?_) (fun b13 => ?_)
    · refine z_iload_n dX12_next_22 rfl ?_
      refine z_iret dX12_next_23 rfl zle ?_
      refine ⟨?_, rfl⟩
      unfold dNext
      (repeat' split) <;> first | rfl | (exfalso; simp only [Int32.lt_iff_toInt_lt, Int32.le_iff_toInt_le] at *; omega)
    · refine z_iload_n dX12_next_16 rfl ?_
      refine z_iconst (v := 1) dX12_next_17 (by decide) ?_
      refine z_isub dX12_next_18 ?_
      refine z_goto (tgt := 23) dX12_next_19 (by decide) ?_
      refine z_iret dX12_next_23 rfl zle ?_
      refine ⟨?_, rfl⟩
      unfold dNext
      (repeat' split) <;> first | rfl | (exfalso; simp only [Int32.lt_iff_toInt_lt, Int32.le_iff_toInt_le] at *; omega)
  · refine z_iload_n dX12_next_5 rfl ?_
    refine z_iconst (v := 1) dX12_next_6 (by decide) ?_
    refine z_iadd dX12_next_7 ?_
    refine z_goto (tgt := 23) dX12_next_8 (by decide) ?_
    refine z_iret dX12_next_23 rfl zle ?_
    refine ⟨?_, rfl⟩
    unfold dNext
    (repeat' split) <;> first | rfl | (exfalso; simp only [Int32.lt_iff_toInt_lt, Int32.le_iff_toInt_le] at *; omega)

set_option maxRecDepth 100000 in
set_option maxHeartbeats 4000000 in
theorem c_X12_has (g : zG) (l : Launch) {s k : Int32} {M : zM} : zMet g l yX12_has cX12_has 2 (some .boolean) 0 0 0 [.int s, .int k] S0 M (zQi (fun r' M' => M' = M ∧ (((hasB s k) ∧ r' = 1) ∨ (¬ (hasB s k) ∧ r' = 0)))) := by
  refine zMet.of (by decide) (Nat.le_of_ble_eq_true rfl) ?_
  refine z_iload_n dX12_has_0 rfl ?_
  refine z_iload_n dX12_has_1 rfl ?_
  refine z_ishr dX12_has_2 ?_
  refine z_iconst (v := 1) dX12_has_3 (by decide) ?_
  refine z_iand dX12_has_4 ?_
  refine z_iconst (v := 1) dX12_has_5 (by decide) ?_
  refine z_icmp_ne (tgt := 13) dX12_has_6 (by decide) (fun b6 => ?_) (fun b6 => ?_)
  · refine z_iconst (v := 0) dX12_has_13 (by decide) ?_
    refine z_iret dX12_has_14 rfl zle ?_
    first
      | exact ⟨rfl, Or.inl ⟨b6, rfl⟩⟩
      | exact ⟨rfl, Or.inr ⟨b6, rfl⟩⟩
  · refine z_iconst (v := 1) dX12_has_9 (by decide) ?_
    refine z_goto (tgt := 14) dX12_has_10 (by decide) ?_
    refine z_iret dX12_has_14 rfl zle ?_
    first
      | exact ⟨rfl, Or.inl ⟨b6, rfl⟩⟩
      | exact ⟨rfl, Or.inr ⟨b6, rfl⟩⟩

set_option maxRecDepth 100000 in
set_option maxHeartbeats 4000000 in
theorem c_X12_in (g : zG) (l : Launch) {v a z : Int64} {M : zM} : zMet g l yX12_in cX12_in 6 (some .boolean) 0 0 0 [.long v, .long a, .long z] S0 M (zQi (fun r' M' => M' = M ∧ (((a ≤ v ∧ v ≤ z) ∧ r' = 1) ∨ (¬ (a ≤ v ∧ v ≤ z) ∧ r' = 0)))) := by
  refine zMet.of (by decide) (Nat.le_of_ble_eq_true rfl) ?_
  refine z_lload_n dX12_in_0 rfl ?_
  refine z_lload_n dX12_in_1 rfl ?_
  refine z_lcmp dX12_in_2 ?_
  refine z_if_lt (tgt := 17) dX12_in_3 (by decide) (fun b3 => ?_) (fun b3 => ?_)
  · refine z_iconst (v := 0) dX12_in_17 (by decide) ?_
    refine z_iret dX12_in_18 rfl zle ?_
    first
      | exact ⟨rfl, Or.inl ⟨⟨Int64.not_lt.mp (fun q => b3 ((lg_lt _ _).mpr q)), Int64.not_lt.mp (fun q => b10 ((lg_gt _ _).mpr q))⟩, rfl⟩⟩
      | exact ⟨rfl, Or.inr ⟨fun q => absurd ((lg_gt _ _).mp b10) (Int64.not_lt.mpr q.2), rfl⟩⟩
      | exact ⟨rfl, Or.inr ⟨fun q => absurd ((lg_lt _ _).mp b3) (Int64.not_lt.mpr q.1), rfl⟩⟩
  · refine z_lload_n dX12_in_6 rfl ?_
    refine z_lload dX12_in_7 rfl ?_
    refine z_lcmp dX12_in_9 ?_
    refine z_if_gt (tgt := 17) dX12_in_10 (by decide) (fun b10 => ?_) (fun b10 => ?_)
    · refine z_iconst (v := 0) dX12_in_17 (by decide) ?_
      refine z_iret dX12_in_18 rfl zle ?_
      first
        | exact ⟨rfl, Or.inl ⟨⟨Int64.not_lt.mp (fun q => b3 ((lg_lt _ _).mpr q)), Int64.not_lt.mp (fun q => b10 ((lg_gt _ _).mpr q))⟩, rfl⟩⟩
        | exact ⟨rfl, Or.inr ⟨fun q => absurd ((lg_gt _ _).mp b10) (Int64.not_lt.mpr q.2), rfl⟩⟩
        | exact ⟨rfl, Or.inr ⟨fun q => absurd ((lg_lt _ _).mp b3) (Int64.not_lt.mpr q.1), rfl⟩⟩
    · refine z_iconst (v := 1) dX12_in_13 (by decide) ?_
      refine z_goto (tgt := 18) dX12_in_14 (by decide) ?_
      refine z_iret dX12_in_18 rfl zle ?_
      first
        | exact ⟨rfl, Or.inl ⟨⟨Int64.not_lt.mp (fun q => b3 ((lg_lt _ _).mpr q)), Int64.not_lt.mp (fun q => b10 ((lg_gt _ _).mpr q))⟩, rfl⟩⟩
        | exact ⟨rfl, Or.inr ⟨fun q => absurd ((lg_gt _ _).mp b10) (Int64.not_lt.mpr q.2), rfl⟩⟩
        | exact ⟨rfl, Or.inr ⟨fun q => absurd ((lg_lt _ _).mp b3) (Int64.not_lt.mpr q.1), rfl⟩⟩

set_option maxRecDepth 100000 in
set_option maxHeartbeats 4000000 in
theorem c_X12_milesOn (g : zG) (l : Launch) {M : zM} {b : Nat} {σ : Dy} {rid led : Int32} {a : Nat} {t : Int32} (hb : b + 70 ≤ 910) (ha : a < 6) (ha2 : nI a < t → a + 1 < 6) : zMet g l yX12_milesOn cX12_milesOn 4 (some .int) 0 0 0 [.ref 127, .int (nI b), .int (nI a), .int t] S0 (zMd M b σ rid led) (zQi (fun r' M' => r' = dMiles σ (nI a) t ∧ M' = (zMd M b σ rid led))) := by
  refine zMet.of (by decide) (Nat.le_of_ble_eq_true rfl) ?_
  refine z_aload_n dX12_milesOn_0 rfl ?_
  refine z_getR (j := 0) (r := 128) kX12 lf_X12_7 (by decide) rfl dX12_milesOn_1 k0_127 s0_127 r0_127_0 (by decide) ?_
  refine z_iload_n dX12_milesOn_4 rfl ?_
  refine z_bipush (v := 64) dX12_milesOn_5 (by decide) ?_
  refine z_iaddN (a := b) (b := 64) rfl rfl dX12_milesOn_7 ?_
  refine z_iload_n dX12_milesOn_8 rfl ?_
  refine z_iload_n dX12_milesOn_9 rfl ?_
  refine z_icmp_le (tgt := 19) dX12_milesOn_10 (by decide) (fun b10 => ?_) (fun b10 => ?_)
  · have c10 : ¬ nI a < t := Int32.not_lt.mpr b10
    refine z_iload_n dX12_milesOn_19 rfl ?_
    refine z_iaddN (a := (b + 64)) (b := a) rfl rfl dX12_milesOn_20 ?_
    refine z_ialdV (j := ((b + 64) + a)) rfl (by omega) (zMd_g 64 a (by omega)) dX12_milesOn_21 k0_128 s0_128 ?_
    refine z_iret dX12_milesOn_22 rfl zle ?_
    refine ⟨?_, rfl⟩
    unfold dMiles
    first
      | rw [if_neg c10, nI_clamp (by omega)]
      | rw [if_pos c10, nI_1, nI_clamp (by omega)]
  · have c10 : nI a < t := Int32.not_le.mp b10
    have d10 := ha2 c10
    refine z_iload_n dX12_milesOn_13 rfl ?_
    refine z_iconst (v := 1) dX12_milesOn_14 (by decide) ?_
    refine z_iaddN (a := a) (b := 1) rfl rfl dX12_milesOn_15 ?_
    refine z_goto (tgt := 20) dX12_milesOn_16 (by decide) ?_
    refine z_iaddN (a := (b + 64)) (b := (a + 1)) rfl rfl dX12_milesOn_20 ?_
    refine z_ialdV (j := ((b + 64) + (a + 1))) rfl (by omega) (zMd_g 64 (a + 1) (by omega)) dX12_milesOn_21 k0_128 s0_128 ?_
    refine z_iret dX12_milesOn_22 rfl zle ?_
    refine ⟨?_, rfl⟩
    unfold dMiles
    first
      | rw [if_neg c10, nI_clamp (by omega)]
      | rw [if_pos c10, nI_1, nI_clamp (by omega)]

set_option maxRecDepth 100000 in
set_option maxHeartbeats 4000000 in
theorem c_X12_tire (g : zG) (l : Launch) {M : zM} {b : Nat} {σ : Dy} {rid led : Int32} {h : Nat} {x : Int32} (hb : b + 70 ≤ 910) (h8 : h < 8) : zMet g l yX12_tire cX12_tire 4 none 0 0 0 [.ref 127, .int (nI b), .int (nI h), .int x] S0 (zMd M b σ rid led) (zQv (fun M' => M' = zMd M b (dTire σ h x) rid led)) := by
  refine zMet.of (by decide) (Nat.le_of_ble_eq_true rfl) ?_
  refine z_aload_n dX12_tire_0 rfl ?_
  refine z_getR (j := 0) (r := 128) kX12 lf_X12_7 (by decide) rfl dX12_tire_1 k0_127 s0_127 r0_127_0 (by decide) ?_
  refine z_iload_n dX12_tire_4 rfl ?_
  refine z_bipush (v := 27) dX12_tire_5 (by decide) ?_
  refine z_iaddN (a := b) (b := 27) rfl rfl dX12_tire_7 ?_
  refine z_iload_n dX12_tire_8 rfl ?_
  refine z_iaddN (a := (b + 27)) (b := h) rfl rfl dX12_tire_9 ?_
  refine z_dup2 dX12_tire_10 rfl rfl ?_
  refine z_ialdV (j := ((b + 27) + h)) rfl (by omega) (zMd_g 27 h (by omega)) dX12_tire_11 k0_128 s0_128 ?_
  refine z_iload_n dX12_tire_12 rfl ?_
  refine z_iadd dX12_tire_13 ?_
  refine z_iastV (j := ((b + 27) + h)) rfl (by omega) (zMd_s 27 h (by omega)) dX12_tire_14 k0_128 s0_128 ?_
  refine z_aload_n dX12_tire_15 rfl ?_
  refine z_getR (j := 0) (r := 128) kX12 lf_X12_7 (by decide) rfl dX12_tire_16 k0_127 s0_127 r0_127_0 (by decide) ?_
  refine z_iload_n dX12_tire_19 rfl ?_
  refine z_bipush (v := 27) dX12_tire_20 (by decide) ?_
  refine z_iaddN (a := b) (b := 27) rfl rfl dX12_tire_22 ?_
  refine z_iload_n dX12_tire_23 rfl ?_
  refine z_iaddN (a := (b + 27)) (b := h) rfl rfl dX12_tire_24 ?_
  refine z_ialdV (j := ((b + 27) + h)) rfl (by omega) ((zMd_g 27 h (by omega)).trans (upd_s _ _ _)) dX12_tire_25 k0_128 s0_128 ?_
  refine z_bipush (v := 9) dX12_tire_26 (by decide) ?_
  refine z_icmp_le (tgt := 56) dX12_tire_28 (by decide) (fun b28 => ?_) (fun b28 => ?_)
  · have c28 : ¬ 9 < σ (27 + h) + x := Int32.not_lt.mpr b28
    refine z_vret dX12_tire_56 zle ?_
    unfold dTire
    first
      | rw [if_neg c28]
      | rw [if_pos c28, upd_tw]
  · have c28 : 9 < σ (27 + h) + x := Int32.not_le.mp b28
    refine z_aload_n dX12_tire_31 rfl ?_
    refine z_getR (j := 0) (r := 128) kX12 lf_X12_7 (by decide) rfl dX12_tire_32 k0_127 s0_127 r0_127_0 (by decide) ?_
    refine z_iload_n dX12_tire_35 rfl ?_
    refine z_bipush (v := 27) dX12_tire_36 (by decide) ?_
    refine z_iaddN (a := b) (b := 27) rfl rfl dX12_tire_38 ?_
    refine z_iload_n dX12_tire_39 rfl ?_
    refine z_iaddN (a := (b + 27)) (b := h) rfl rfl dX12_tire_40 ?_
    refine z_bipush (v := 10) dX12_tire_41 (by decide) ?_
    refine z_iastV (j := ((b + 27) + h)) rfl (by omega) (zMd_s 27 h (by omega)) dX12_tire_43 k0_128 s0_128 ?_
    refine z_aload_n dX12_tire_44 rfl ?_
    refine z_getR (j := 0) (r := 128) kX12 lf_X12_7 (by decide) rfl dX12_tire_45 k0_127 s0_127 r0_127_0 (by decide) ?_
    refine z_iload_n dX12_tire_48 rfl ?_
    refine z_bipush (v := 35) dX12_tire_49 (by decide) ?_
    refine z_iaddN (a := b) (b := 35) rfl rfl dX12_tire_51 ?_
    refine z_iload_n dX12_tire_52 rfl ?_
    refine z_iaddN (a := (b + 35)) (b := h) rfl rfl dX12_tire_53 ?_
    refine z_iconst (v := 1) dX12_tire_54 (by decide) ?_
    refine z_iastV (j := ((b + 35) + h)) rfl (by omega) (zMd_s 35 h (by omega)) dX12_tire_55 k0_128 s0_128 ?_
    refine z_vret dX12_tire_56 zle ?_
    unfold dTire
    first
      | rw [if_neg c28]
      | rw [if_pos c28, upd_tw]

set_option maxRecDepth 100000 in
set_option maxHeartbeats 4000000 in
theorem lp_givenIn (g : zG) (l : Launch) {M : zM} {b : Nat} {σ : Dy} {rid led : Int32} {n r i q : Nat} (hb : b + 70 ≤ 910) (ok : dOK σ n r i) (hq : q < 4) : ∀ (k h : Nat), h ≤ n → n - h ≤ k → zA g l yX12_givenIn cX12_givenIn 8 (some .int) 1 0 0 (zQi (fun r' M' => r' = (dGiv σ rid q n).1 ∧ M' = (zMd M b σ rid led))) 9 0 0 S0 (zMd M b σ rid led) [.ref 127, .int (nI b), .int (nI q), .int (dGiv σ rid q h).1, .int (dGiv σ rid q h).2, .int (nI h), .null, .null] [] := by
  have n8 := ok.1.1
  intro k
  induction k with
  | zero =>
    intro h hh hk
    have e : h = n := by omega
    subst e
    refine z_iload dX12_givenIn_9 rfl ?_
    refine z_aload_n dX12_givenIn_11 rfl ?_
    refine z_getR (j := 0) (r := 128) kX12 lf_X12_7 (by decide) rfl dX12_givenIn_12 k0_127 s0_127 r0_127_0 (by decide) ?_
    refine z_iload_n dX12_givenIn_15 rfl ?_
    refine z_iconst (v := 0) dX12_givenIn_16 (by decide) ?_
    refine z_iaddN (a := b) (b := 0) rfl rfl dX12_givenIn_17 ?_
    refine z_ialdV (j := (b + 0)) rfl (by omega) ((zMd_g0 0 (by decide)).trans ok.1.2.2.2.1) dX12_givenIn_18 k0_128 s0_128 ?_
    refine z_icmp_ge (tgt := 143) dX12_givenIn_19 (by decide) (fun b19 => ?_) (fun b19 => ?_)
    · refine z_iload_n dX12_givenIn_143 rfl ?_
      exact z_iret dX12_givenIn_144 rfl zle (⟨rfl, rfl⟩)
    · exact absurd (Int32.le_refl _) b19
  | succ k ih =>
    intro h hh hk
    refine z_iload dX12_givenIn_9 rfl ?_
    refine z_aload_n dX12_givenIn_11 rfl ?_
    refine z_getR (j := 0) (r := 128) kX12 lf_X12_7 (by decide) rfl dX12_givenIn_12 k0_127 s0_127 r0_127_0 (by decide) ?_
    refine z_iload_n dX12_givenIn_15 rfl ?_
    refine z_iconst (v := 0) dX12_givenIn_16 (by decide) ?_
    refine z_iaddN (a := b) (b := 0) rfl rfl dX12_givenIn_17 ?_
    refine z_ialdV (j := (b + 0)) rfl (by omega) ((zMd_g0 0 (by decide)).trans ok.1.2.2.2.1) dX12_givenIn_18 k0_128 s0_128 ?_
    refine z_icmp_ge (tgt := 143) dX12_givenIn_19 (by decide) (fun b19 => ?_) (fun b19 => ?_)
    · have e : n ≤ h := (nI_leI (by omega) (by omega)).mp b19
      have e2 : h = n := by omega
      subst e2
      refine z_iload_n dX12_givenIn_143 rfl ?_
      exact z_iret dX12_givenIn_144 rfl zle (⟨rfl, rfl⟩)
    · have hn : h < n := by
        rcases Nat.lt_or_ge h n with z | z
        · exact z
        · exact absurd (nI_le z (by omega)) b19
      refine z_aload_n dX12_givenIn_22 rfl ?_
      refine z_getR (j := 0) (r := 128) kX12 lf_X12_7 (by decide) rfl dX12_givenIn_23 k0_127 s0_127 r0_127_0 (by decide) ?_
      refine z_iload_n dX12_givenIn_26 rfl ?_
      refine z_bipush (v := 19) dX12_givenIn_27 (by decide) ?_
      refine z_iaddN (a := b) (b := 19) rfl rfl dX12_givenIn_29 ?_
      refine z_iload dX12_givenIn_30 rfl ?_
      refine z_iaddN (a := (b + 19)) (b := h) rfl rfl dX12_givenIn_32 ?_
      refine z_ialdV (j := ((b + 19) + h)) rfl (by omega) (zMd_g 19 h (by omega)) dX12_givenIn_33 k0_128 s0_128 ?_
      refine z_aload_n dX12_givenIn_34 rfl ?_
      refine z_getR (j := 0) (r := 128) kX12 lf_X12_7 (by decide) rfl dX12_givenIn_35 k0_127 s0_127 r0_127_0 (by decide) ?_
      refine z_iload_n dX12_givenIn_38 rfl ?_
      refine z_bipush (v := 51) dX12_givenIn_39 (by decide) ?_
      refine z_iaddN (a := b) (b := 51) rfl rfl dX12_givenIn_41 ?_
      refine z_iload_n dX12_givenIn_42 rfl ?_
      refine z_iaddN (a := (b + 51)) (b := q) rfl rfl dX12_givenIn_43 ?_
      refine z_ialdV (j := ((b + 51) + q)) rfl (by omega) (zMd_g 51 q (by omega)) dX12_givenIn_44 k0_128 s0_128 ?_
      refine z_icmp_ne (tgt := 79) dX12_givenIn_45 (by decide) (fun b45 => ?_) (fun b45 => ?_)
      · refine z_iconst (v := 0) dX12_givenIn_79 (by decide) ?_
        refine z_istore dX12_givenIn_80 (by decide) rfl rfl ?_
        refine z_aload_n dX12_givenIn_82 rfl ?_
        refine z_getR (j := 0) (r := 128) kX12 lf_X12_7 (by decide) rfl dX12_givenIn_83 k0_127 s0_127 r0_127_0 (by decide) ?_
        refine z_iload_n dX12_givenIn_86 rfl ?_
        refine z_bipush (v := 27) dX12_givenIn_87 (by decide) ?_
        refine z_iaddN (a := b) (b := 27) rfl rfl dX12_givenIn_89 ?_
        refine z_iload dX12_givenIn_90 rfl ?_
        refine z_iaddN (a := (b + 27)) (b := h) rfl rfl dX12_givenIn_92 ?_
        refine z_ialdV (j := ((b + 27) + h)) rfl (by omega) (zMd_g 27 h (by omega)) dX12_givenIn_93 k0_128 s0_128 ?_
        refine z_aload_n dX12_givenIn_94 rfl ?_
        refine z_getR (j := 0) (r := 128) kX12 lf_X12_7 (by decide) rfl dX12_givenIn_95 k0_127 s0_127 r0_127_0 (by decide) ?_
        refine z_iload_n dX12_givenIn_98 rfl ?_
        refine z_iconst (v := 3) dX12_givenIn_99 (by decide) ?_
        refine z_iaddN (a := b) (b := 3) rfl rfl dX12_givenIn_100 ?_
        refine z_iload dX12_givenIn_101 rfl ?_
        refine z_iaddN (a := (b + 3)) (b := h) rfl rfl dX12_givenIn_103 ?_
        refine z_ialdV (j := ((b + 3) + h)) rfl (by omega) (zMd_g 3 h (by omega)) dX12_givenIn_104 k0_128 s0_128 ?_
        refine z_iconst (v := 4) dX12_givenIn_105 (by decide) ?_
        refine z_icmp_ne (tgt := 114) dX12_givenIn_106 (by decide) (fun b106 => ?_) (fun b106 => ?_)
        · refine z_iconst (v := 0) dX12_givenIn_114 (by decide) ?_
          refine z_iadd dX12_givenIn_115 ?_
          refine z_istore dX12_givenIn_116 (by decide) rfl rfl ?_
          refine z_iload dX12_givenIn_118 rfl ?_
          refine z_if_eq (tgt := 137) dX12_givenIn_120 (by decide) (fun b120 => ?_) (fun b120 => ?_)
          · refine z_iincN (k := h) dX12_givenIn_137 rfl rfl (by decide) rfl rfl ?_
            refine z_goto (tgt := 9) dX12_givenIn_140 (by decide) ?_
            have e9 : (dGiv σ rid q (h + 1)) = dGivS σ rid q h (dGiv σ rid q h) := rfl
            refine zA.sub (ih (h + 1) (by omega) (by omega)) rfl ⟨Or.inr rfl, Or.inr rfl, Or.inr rfl, Or.inr ?_, Or.inr ?_, Or.inr rfl, Or.inl rfl, Or.inl rfl, trivial⟩
            all_goals
              rw [e9]
              unfold dGivS
              first
              | (rw [if_pos (show dMay σ rid q h ∧ dBy σ h < _ from ⟨⟨b45, b60, c69⟩, by unfold dBy; first | (rw [if_pos b106]; exact Int32.not_le.mp b127) | (rw [if_neg b106]; exact Int32.not_le.mp b127)⟩)]
                 try unfold dBy
                 first | rfl | (rw [if_pos b106]; rfl) | (rw [if_neg b106]; rfl))
              | (rw [if_neg (show ¬ (dMay σ rid q h ∧ dBy σ h < _) from fun z => absurd z.1.1 b45)]; rfl)
              | (rw [if_neg (show ¬ (dMay σ rid q h ∧ dBy σ h < _) from fun z => absurd z.1.2.1 b60)]; rfl)
              | (rw [if_neg (show ¬ (dMay σ rid q h ∧ dBy σ h < _) from fun z => absurd c69 z.1.2.2)]; rfl)
              | (rw [if_neg (show ¬ (dMay σ rid q h ∧ dBy σ h < _) from fun z => absurd z.2 (by unfold dBy; first | (rw [if_pos b106]; exact Int32.not_lt.mpr b127) | (rw [if_neg b106]; exact Int32.not_lt.mpr b127)))]; rfl)
          · exact absurd b120 (by decide)
        · refine z_bipush (v := 100) dX12_givenIn_109 (by decide) ?_
          refine z_goto (tgt := 115) dX12_givenIn_111 (by decide) ?_
          refine z_iadd dX12_givenIn_115 ?_
          refine z_istore dX12_givenIn_116 (by decide) rfl rfl ?_
          refine z_iload dX12_givenIn_118 rfl ?_
          refine z_if_eq (tgt := 137) dX12_givenIn_120 (by decide) (fun b120 => ?_) (fun b120 => ?_)
          · refine z_iincN (k := h) dX12_givenIn_137 rfl rfl (by decide) rfl rfl ?_
            refine z_goto (tgt := 9) dX12_givenIn_140 (by decide) ?_
            have e9 : (dGiv σ rid q (h + 1)) = dGivS σ rid q h (dGiv σ rid q h) := rfl
            refine zA.sub (ih (h + 1) (by omega) (by omega)) rfl ⟨Or.inr rfl, Or.inr rfl, Or.inr rfl, Or.inr ?_, Or.inr ?_, Or.inr rfl, Or.inl rfl, Or.inl rfl, trivial⟩
            all_goals
              rw [e9]
              unfold dGivS
              first
              | (rw [if_pos (show dMay σ rid q h ∧ dBy σ h < _ from ⟨⟨b45, b60, c69⟩, by unfold dBy; first | (rw [if_pos b106]; exact Int32.not_le.mp b127) | (rw [if_neg b106]; exact Int32.not_le.mp b127)⟩)]
                 try unfold dBy
                 first | rfl | (rw [if_pos b106]; rfl) | (rw [if_neg b106]; rfl))
              | (rw [if_neg (show ¬ (dMay σ rid q h ∧ dBy σ h < _) from fun z => absurd z.1.1 b45)]; rfl)
              | (rw [if_neg (show ¬ (dMay σ rid q h ∧ dBy σ h < _) from fun z => absurd z.1.2.1 b60)]; rfl)
              | (rw [if_neg (show ¬ (dMay σ rid q h ∧ dBy σ h < _) from fun z => absurd c69 z.1.2.2)]; rfl)
              | (rw [if_neg (show ¬ (dMay σ rid q h ∧ dBy σ h < _) from fun z => absurd z.2 (by unfold dBy; first | (rw [if_pos b106]; exact Int32.not_lt.mpr b127) | (rw [if_neg b106]; exact Int32.not_lt.mpr b127)))]; rfl)
          · exact absurd b120 (by decide)
      · refine z_aload_n dX12_givenIn_48 rfl ?_
        refine z_getR (j := 0) (r := 128) kX12 lf_X12_7 (by decide) rfl dX12_givenIn_49 k0_127 s0_127 r0_127_0 (by decide) ?_
        refine z_iload_n dX12_givenIn_52 rfl ?_
        refine z_bipush (v := 35) dX12_givenIn_53 (by decide) ?_
        refine z_iaddN (a := b) (b := 35) rfl rfl dX12_givenIn_55 ?_
        refine z_iload dX12_givenIn_56 rfl ?_
        refine z_iaddN (a := (b + 35)) (b := h) rfl rfl dX12_givenIn_58 ?_
        refine z_ialdV (j := ((b + 35) + h)) rfl (by omega) (zMd_g 35 h (by omega)) dX12_givenIn_59 k0_128 s0_128 ?_
        refine z_if_ne (tgt := 79) dX12_givenIn_60 (by decide) (fun b60 => ?_) (fun b60 => ?_)
        · refine z_iconst (v := 0) dX12_givenIn_79 (by decide) ?_
          refine z_istore dX12_givenIn_80 (by decide) rfl rfl ?_
          refine z_aload_n dX12_givenIn_82 rfl ?_
          refine z_getR (j := 0) (r := 128) kX12 lf_X12_7 (by decide) rfl dX12_givenIn_83 k0_127 s0_127 r0_127_0 (by decide) ?_
          refine z_iload_n dX12_givenIn_86 rfl ?_
          refine z_bipush (v := 27) dX12_givenIn_87 (by decide) ?_
          refine z_iaddN (a := b) (b := 27) rfl rfl dX12_givenIn_89 ?_
          refine z_iload dX12_givenIn_90 rfl ?_
          refine z_iaddN (a := (b + 27)) (b := h) rfl rfl dX12_givenIn_92 ?_
          refine z_ialdV (j := ((b + 27) + h)) rfl (by omega) (zMd_g 27 h (by omega)) dX12_givenIn_93 k0_128 s0_128 ?_
          refine z_aload_n dX12_givenIn_94 rfl ?_
          refine z_getR (j := 0) (r := 128) kX12 lf_X12_7 (by decide) rfl dX12_givenIn_95 k0_127 s0_127 r0_127_0 (by decide) ?_
          refine z_iload_n dX12_givenIn_98 rfl ?_
          refine z_iconst (v := 3) dX12_givenIn_99 (by decide) ?_
          refine z_iaddN (a := b) (b := 3) rfl rfl dX12_givenIn_100 ?_
          refine z_iload dX12_givenIn_101 rfl ?_
          refine z_iaddN (a := (b + 3)) (b := h) rfl rfl dX12_givenIn_103 ?_
          refine z_ialdV (j := ((b + 3) + h)) rfl (by omega) (zMd_g 3 h (by omega)) dX12_givenIn_104 k0_128 s0_128 ?_
          refine z_iconst (v := 4) dX12_givenIn_105 (by decide) ?_
          refine z_icmp_ne (tgt := 114) dX12_givenIn_106 (by decide) (fun b106 => ?_) (fun b106 => ?_)
          · refine z_iconst (v := 0) dX12_givenIn_114 (by decide) ?_
            refine z_iadd dX12_givenIn_115 ?_
            refine z_istore dX12_givenIn_116 (by decide) rfl rfl ?_
            refine z_iload dX12_givenIn_118 rfl ?_
            refine z_if_eq (tgt := 137) dX12_givenIn_120 (by decide) (fun b120 => ?_) (fun b120 => ?_)
            · refine z_iincN (k := h) dX12_givenIn_137 rfl rfl (by decide) rfl rfl ?_
              refine z_goto (tgt := 9) dX12_givenIn_140 (by decide) ?_
              have e9 : (dGiv σ rid q (h + 1)) = dGivS σ rid q h (dGiv σ rid q h) := rfl
              refine zA.sub (ih (h + 1) (by omega) (by omega)) rfl ⟨Or.inr rfl, Or.inr rfl, Or.inr rfl, Or.inr ?_, Or.inr ?_, Or.inr rfl, Or.inl rfl, Or.inl rfl, trivial⟩
              all_goals
                rw [e9]
                unfold dGivS
                first
                | (rw [if_pos (show dMay σ rid q h ∧ dBy σ h < _ from ⟨⟨b45, b60, c69⟩, by unfold dBy; first | (rw [if_pos b106]; exact Int32.not_le.mp b127) | (rw [if_neg b106]; exact Int32.not_le.mp b127)⟩)]
                   try unfold dBy
                   first | rfl | (rw [if_pos b106]; rfl) | (rw [if_neg b106]; rfl))
                | (rw [if_neg (show ¬ (dMay σ rid q h ∧ dBy σ h < _) from fun z => absurd z.1.1 b45)]; rfl)
                | (rw [if_neg (show ¬ (dMay σ rid q h ∧ dBy σ h < _) from fun z => absurd z.1.2.1 b60)]; rfl)
                | (rw [if_neg (show ¬ (dMay σ rid q h ∧ dBy σ h < _) from fun z => absurd c69 z.1.2.2)]; rfl)
                | (rw [if_neg (show ¬ (dMay σ rid q h ∧ dBy σ h < _) from fun z => absurd z.2 (by unfold dBy; first | (rw [if_pos b106]; exact Int32.not_lt.mpr b127) | (rw [if_neg b106]; exact Int32.not_lt.mpr b127)))]; rfl)
            · exact absurd b120 (by decide)
          · refine z_bipush (v := 100) dX12_givenIn_109 (by decide) ?_
            refine z_goto (tgt := 115) dX12_givenIn_111 (by decide) ?_
            refine z_iadd dX12_givenIn_115 ?_
            refine z_istore dX12_givenIn_116 (by decide) rfl rfl ?_
            refine z_iload dX12_givenIn_118 rfl ?_
            refine z_if_eq (tgt := 137) dX12_givenIn_120 (by decide) (fun b120 => ?_) (fun b120 => ?_)
            · refine z_iincN (k := h) dX12_givenIn_137 rfl rfl (by decide) rfl rfl ?_
              refine z_goto (tgt := 9) dX12_givenIn_140 (by decide) ?_
              have e9 : (dGiv σ rid q (h + 1)) = dGivS σ rid q h (dGiv σ rid q h) := rfl
              refine zA.sub (ih (h + 1) (by omega) (by omega)) rfl ⟨Or.inr rfl, Or.inr rfl, Or.inr rfl, Or.inr ?_, Or.inr ?_, Or.inr rfl, Or.inl rfl, Or.inl rfl, trivial⟩
              all_goals
                rw [e9]
                unfold dGivS
                first
                | (rw [if_pos (show dMay σ rid q h ∧ dBy σ h < _ from ⟨⟨b45, b60, c69⟩, by unfold dBy; first | (rw [if_pos b106]; exact Int32.not_le.mp b127) | (rw [if_neg b106]; exact Int32.not_le.mp b127)⟩)]
                   try unfold dBy
                   first | rfl | (rw [if_pos b106]; rfl) | (rw [if_neg b106]; rfl))
                | (rw [if_neg (show ¬ (dMay σ rid q h ∧ dBy σ h < _) from fun z => absurd z.1.1 b45)]; rfl)
                | (rw [if_neg (show ¬ (dMay σ rid q h ∧ dBy σ h < _) from fun z => absurd z.1.2.1 b60)]; rfl)
                | (rw [if_neg (show ¬ (dMay σ rid q h ∧ dBy σ h < _) from fun z => absurd c69 z.1.2.2)]; rfl)
                | (rw [if_neg (show ¬ (dMay σ rid q h ∧ dBy σ h < _) from fun z => absurd z.2 (by unfold dBy; first | (rw [if_pos b106]; exact Int32.not_lt.mpr b127) | (rw [if_neg b106]; exact Int32.not_lt.mpr b127)))]; rfl)
            · exact absurd b120 (by decide)
        · refine z_aload_n dX12_givenIn_63 rfl ?_
          refine z_getIV (j := 28) kX12 lf_X12_185 (by decide) rfl zMd_rid dX12_givenIn_64 k0_127 s0_127 ?_
          refine z_iload dX12_givenIn_67 rfl ?_
          refine z_iS2 (c_X12_has g l) mw_X12_has lm_X12_188 ms_X12_has (by decide) (Nat.le_of_ble_eq_true rfl) zle dX12_givenIn_69 (fun r69 M69 q69 => ?_)
          obtain ⟨rfl, ⟨c69, rfl⟩ | ⟨c69, rfl⟩⟩ := q69
          · refine z_if_ne (tgt := 79) dX12_givenIn_72 (by decide) (fun b72 => ?_) (fun b72 => ?_)
            · refine z_iconst (v := 0) dX12_givenIn_79 (by decide) ?_
              refine z_istore dX12_givenIn_80 (by decide) rfl rfl ?_
              refine z_aload_n dX12_givenIn_82 rfl ?_
              refine z_getR (j := 0) (r := 128) kX12 lf_X12_7 (by decide) rfl dX12_givenIn_83 k0_127 s0_127 r0_127_0 (by decide) ?_
              refine z_iload_n dX12_givenIn_86 rfl ?_
              refine z_bipush (v := 27) dX12_givenIn_87 (by decide) ?_
              refine z_iaddN (a := b) (b := 27) rfl rfl dX12_givenIn_89 ?_
              refine z_iload dX12_givenIn_90 rfl ?_
              refine z_iaddN (a := (b + 27)) (b := h) rfl rfl dX12_givenIn_92 ?_
              refine z_ialdV (j := ((b + 27) + h)) rfl (by omega) (zMd_g 27 h (by omega)) dX12_givenIn_93 k0_128 s0_128 ?_
              refine z_aload_n dX12_givenIn_94 rfl ?_
              refine z_getR (j := 0) (r := 128) kX12 lf_X12_7 (by decide) rfl dX12_givenIn_95 k0_127 s0_127 r0_127_0 (by decide) ?_
              refine z_iload_n dX12_givenIn_98 rfl ?_
              refine z_iconst (v := 3) dX12_givenIn_99 (by decide) ?_
              refine z_iaddN (a := b) (b := 3) rfl rfl dX12_givenIn_100 ?_
              refine z_iload dX12_givenIn_101 rfl ?_
              refine z_iaddN (a := (b + 3)) (b := h) rfl rfl dX12_givenIn_103 ?_
              refine z_ialdV (j := ((b + 3) + h)) rfl (by omega) (zMd_g 3 h (by omega)) dX12_givenIn_104 k0_128 s0_128 ?_
              refine z_iconst (v := 4) dX12_givenIn_105 (by decide) ?_
              refine z_icmp_ne (tgt := 114) dX12_givenIn_106 (by decide) (fun b106 => ?_) (fun b106 => ?_)
              · refine z_iconst (v := 0) dX12_givenIn_114 (by decide) ?_
                refine z_iadd dX12_givenIn_115 ?_
                refine z_istore dX12_givenIn_116 (by decide) rfl rfl ?_
                refine z_iload dX12_givenIn_118 rfl ?_
                refine z_if_eq (tgt := 137) dX12_givenIn_120 (by decide) (fun b120 => ?_) (fun b120 => ?_)
                · refine z_iincN (k := h) dX12_givenIn_137 rfl rfl (by decide) rfl rfl ?_
                  refine z_goto (tgt := 9) dX12_givenIn_140 (by decide) ?_
                  have e9 : (dGiv σ rid q (h + 1)) = dGivS σ rid q h (dGiv σ rid q h) := rfl
                  refine zA.sub (ih (h + 1) (by omega) (by omega)) rfl ⟨Or.inr rfl, Or.inr rfl, Or.inr rfl, Or.inr ?_, Or.inr ?_, Or.inr rfl, Or.inl rfl, Or.inl rfl, trivial⟩
                  all_goals
                    rw [e9]
                    unfold dGivS
                    first
                    | (rw [if_pos (show dMay σ rid q h ∧ dBy σ h < _ from ⟨⟨b45, b60, c69⟩, by unfold dBy; first | (rw [if_pos b106]; exact Int32.not_le.mp b127) | (rw [if_neg b106]; exact Int32.not_le.mp b127)⟩)]
                       try unfold dBy
                       first | rfl | (rw [if_pos b106]; rfl) | (rw [if_neg b106]; rfl))
                    | (rw [if_neg (show ¬ (dMay σ rid q h ∧ dBy σ h < _) from fun z => absurd z.1.1 b45)]; rfl)
                    | (rw [if_neg (show ¬ (dMay σ rid q h ∧ dBy σ h < _) from fun z => absurd z.1.2.1 b60)]; rfl)
                    | (rw [if_neg (show ¬ (dMay σ rid q h ∧ dBy σ h < _) from fun z => absurd c69 z.1.2.2)]; rfl)
                    | (rw [if_neg (show ¬ (dMay σ rid q h ∧ dBy σ h < _) from fun z => absurd z.2 (by unfold dBy; first | (rw [if_pos b106]; exact Int32.not_lt.mpr b127) | (rw [if_neg b106]; exact Int32.not_lt.mpr b127)))]; rfl)
                · exact absurd b120 (by decide)
              · refine z_bipush (v := 100) dX12_givenIn_109 (by decide) ?_
                refine z_goto (tgt := 115) dX12_givenIn_111 (by decide) ?_
                refine z_iadd dX12_givenIn_115 ?_
                refine z_istore dX12_givenIn_116 (by decide) rfl rfl ?_
                refine z_iload dX12_givenIn_118 rfl ?_
                refine z_if_eq (tgt := 137) dX12_givenIn_120 (by decide) (fun b120 => ?_) (fun b120 => ?_)
                · refine z_iincN (k := h) dX12_givenIn_137 rfl rfl (by decide) rfl rfl ?_
                  refine z_goto (tgt := 9) dX12_givenIn_140 (by decide) ?_
                  have e9 : (dGiv σ rid q (h + 1)) = dGivS σ rid q h (dGiv σ rid q h) := rfl
                  refine zA.sub (ih (h + 1) (by omega) (by omega)) rfl ⟨Or.inr rfl, Or.inr rfl, Or.inr rfl, Or.inr ?_, Or.inr ?_, Or.inr rfl, Or.inl rfl, Or.inl rfl, trivial⟩
                  all_goals
                    rw [e9]
                    unfold dGivS
                    first
                    | (rw [if_pos (show dMay σ rid q h ∧ dBy σ h < _ from ⟨⟨b45, b60, c69⟩, by unfold dBy; first | (rw [if_pos b106]; exact Int32.not_le.mp b127) | (rw [if_neg b106]; exact Int32.not_le.mp b127)⟩)]
                       try unfold dBy
                       first | rfl | (rw [if_pos b106]; rfl) | (rw [if_neg b106]; rfl))
                    | (rw [if_neg (show ¬ (dMay σ rid q h ∧ dBy σ h < _) from fun z => absurd z.1.1 b45)]; rfl)
                    | (rw [if_neg (show ¬ (dMay σ rid q h ∧ dBy σ h < _) from fun z => absurd z.1.2.1 b60)]; rfl)
                    | (rw [if_neg (show ¬ (dMay σ rid q h ∧ dBy σ h < _) from fun z => absurd c69 z.1.2.2)]; rfl)
                    | (rw [if_neg (show ¬ (dMay σ rid q h ∧ dBy σ h < _) from fun z => absurd z.2 (by unfold dBy; first | (rw [if_pos b106]; exact Int32.not_lt.mpr b127) | (rw [if_neg b106]; exact Int32.not_lt.mpr b127)))]; rfl)
                · exact absurd b120 (by decide)
            · exact absurd b72 (by decide)
          · refine z_if_ne (tgt := 79) dX12_givenIn_72 (by decide) (fun b72 => ?_) (fun b72 => ?_)
            · exact absurd b72 (by decide)
            · refine z_iconst (v := 1) dX12_givenIn_75 (by decide) ?_
              refine z_goto (tgt := 80) dX12_givenIn_76 (by decide) ?_
              refine z_istore dX12_givenIn_80 (by decide) rfl rfl ?_
              refine z_aload_n dX12_givenIn_82 rfl ?_
              refine z_getR (j := 0) (r := 128) kX12 lf_X12_7 (by decide) rfl dX12_givenIn_83 k0_127 s0_127 r0_127_0 (by decide) ?_
              refine z_iload_n dX12_givenIn_86 rfl ?_
              refine z_bipush (v := 27) dX12_givenIn_87 (by decide) ?_
              refine z_iaddN (a := b) (b := 27) rfl rfl dX12_givenIn_89 ?_
              refine z_iload dX12_givenIn_90 rfl ?_
              refine z_iaddN (a := (b + 27)) (b := h) rfl rfl dX12_givenIn_92 ?_
              refine z_ialdV (j := ((b + 27) + h)) rfl (by omega) (zMd_g 27 h (by omega)) dX12_givenIn_93 k0_128 s0_128 ?_
              refine z_aload_n dX12_givenIn_94 rfl ?_
              refine z_getR (j := 0) (r := 128) kX12 lf_X12_7 (by decide) rfl dX12_givenIn_95 k0_127 s0_127 r0_127_0 (by decide) ?_
              refine z_iload_n dX12_givenIn_98 rfl ?_
              refine z_iconst (v := 3) dX12_givenIn_99 (by decide) ?_
              refine z_iaddN (a := b) (b := 3) rfl rfl dX12_givenIn_100 ?_
              refine z_iload dX12_givenIn_101 rfl ?_
              refine z_iaddN (a := (b + 3)) (b := h) rfl rfl dX12_givenIn_103 ?_
              refine z_ialdV (j := ((b + 3) + h)) rfl (by omega) (zMd_g 3 h (by omega)) dX12_givenIn_104 k0_128 s0_128 ?_
              refine z_iconst (v := 4) dX12_givenIn_105 (by decide) ?_
              refine z_icmp_ne (tgt := 114) dX12_givenIn_106 (by decide) (fun b106 => ?_) (fun b106 => ?_)
              · refine z_iconst (v := 0) dX12_givenIn_114 (by decide) ?_
                refine z_iadd dX12_givenIn_115 ?_
                refine z_istore dX12_givenIn_116 (by decide) rfl rfl ?_
                refine z_iload dX12_givenIn_118 rfl ?_
                refine z_if_eq (tgt := 137) dX12_givenIn_120 (by decide) (fun b120 => ?_) (fun b120 => ?_)
                · exact absurd b120 (by decide)
                · refine z_iload dX12_givenIn_123 rfl ?_
                  refine z_iload dX12_givenIn_125 rfl ?_
                  refine z_icmp_ge (tgt := 137) dX12_givenIn_127 (by decide) (fun b127 => ?_) (fun b127 => ?_)
                  · refine z_iincN (k := h) dX12_givenIn_137 rfl rfl (by decide) rfl rfl ?_
                    refine z_goto (tgt := 9) dX12_givenIn_140 (by decide) ?_
                    have e9 : (dGiv σ rid q (h + 1)) = dGivS σ rid q h (dGiv σ rid q h) := rfl
                    refine zA.sub (ih (h + 1) (by omega) (by omega)) rfl ⟨Or.inr rfl, Or.inr rfl, Or.inr rfl, Or.inr ?_, Or.inr ?_, Or.inr rfl, Or.inl rfl, Or.inl rfl, trivial⟩
                    all_goals
                      rw [e9]
                      unfold dGivS
                      first
                      | (rw [if_pos (show dMay σ rid q h ∧ dBy σ h < _ from ⟨⟨b45, b60, c69⟩, by unfold dBy; first | (rw [if_pos b106]; exact Int32.not_le.mp b127) | (rw [if_neg b106]; exact Int32.not_le.mp b127)⟩)]
                         try unfold dBy
                         first | rfl | (rw [if_pos b106]; rfl) | (rw [if_neg b106]; rfl))
                      | (rw [if_neg (show ¬ (dMay σ rid q h ∧ dBy σ h < _) from fun z => absurd z.1.1 b45)]; rfl)
                      | (rw [if_neg (show ¬ (dMay σ rid q h ∧ dBy σ h < _) from fun z => absurd z.1.2.1 b60)]; rfl)
                      | (rw [if_neg (show ¬ (dMay σ rid q h ∧ dBy σ h < _) from fun z => absurd c69 z.1.2.2)]; rfl)
                      | (rw [if_neg (show ¬ (dMay σ rid q h ∧ dBy σ h < _) from fun z => absurd z.2 (by unfold dBy; first | (rw [if_pos b106]; exact Int32.not_lt.mpr b127) | (rw [if_neg b106]; exact Int32.not_lt.mpr b127)))]; rfl)
                  · refine z_iload dX12_givenIn_130 rfl ?_
                    refine z_istore_n dX12_givenIn_132 (by decide) rfl rfl ?_
                    refine z_iload dX12_givenIn_133 rfl ?_
                    refine z_istore dX12_givenIn_135 (by decide) rfl rfl ?_
                    refine z_iincN (k := h) dX12_givenIn_137 rfl rfl (by decide) rfl rfl ?_
                    refine z_goto (tgt := 9) dX12_givenIn_140 (by decide) ?_
                    have e9 : (dGiv σ rid q (h + 1)) = dGivS σ rid q h (dGiv σ rid q h) := rfl
                    refine zA.sub (ih (h + 1) (by omega) (by omega)) rfl ⟨Or.inr rfl, Or.inr rfl, Or.inr rfl, Or.inr ?_, Or.inr ?_, Or.inr rfl, Or.inl rfl, Or.inl rfl, trivial⟩
                    all_goals
                      rw [e9]
                      unfold dGivS
                      first
                      | (rw [if_pos (show dMay σ rid q h ∧ dBy σ h < _ from ⟨⟨b45, b60, c69⟩, by unfold dBy; first | (rw [if_pos b106]; exact Int32.not_le.mp b127) | (rw [if_neg b106]; exact Int32.not_le.mp b127)⟩)]
                         try unfold dBy
                         first | rfl | (rw [if_pos b106]; rfl) | (rw [if_neg b106]; rfl))
                      | (rw [if_neg (show ¬ (dMay σ rid q h ∧ dBy σ h < _) from fun z => absurd z.1.1 b45)]; rfl)
                      | (rw [if_neg (show ¬ (dMay σ rid q h ∧ dBy σ h < _) from fun z => absurd z.1.2.1 b60)]; rfl)
                      | (rw [if_neg (show ¬ (dMay σ rid q h ∧ dBy σ h < _) from fun z => absurd c69 z.1.2.2)]; rfl)
                      | (rw [if_neg (show ¬ (dMay σ rid q h ∧ dBy σ h < _) from fun z => absurd z.2 (by unfold dBy; first | (rw [if_pos b106]; exact Int32.not_lt.mpr b127) | (rw [if_neg b106]; exact Int32.not_lt.mpr b127)))]; rfl)
              · refine z_bipush (v := 100) dX12_givenIn_109 (by decide) ?_
                refine z_goto (tgt := 115) dX12_givenIn_111 (by decide) ?_
                refine z_iadd dX12_givenIn_115 ?_
                refine z_istore dX12_givenIn_116 (by decide) rfl rfl ?_
                refine z_iload dX12_givenIn_118 rfl ?_
                refine z_if_eq (tgt := 137) dX12_givenIn_120 (by decide) (fun b120 => ?_) (fun b120 => ?_)
                · exact absurd b120 (by decide)
                · refine z_iload dX12_givenIn_123 rfl ?_
                  refine z_iload dX12_givenIn_125 rfl ?_
                  refine z_icmp_ge (tgt := 137) dX12_givenIn_127 (by decide) (fun b127 => ?_) (fun b127 => ?_)
                  · refine z_iincN (k := h) dX12_givenIn_137 rfl rfl (by decide) rfl rfl ?_
                    refine z_goto (tgt := 9) dX12_givenIn_140 (by decide) ?_
                    have e9 : (dGiv σ rid q (h + 1)) = dGivS σ rid q h (dGiv σ rid q h) := rfl
                    refine zA.sub (ih (h + 1) (by omega) (by omega)) rfl ⟨Or.inr rfl, Or.inr rfl, Or.inr rfl, Or.inr ?_, Or.inr ?_, Or.inr rfl, Or.inl rfl, Or.inl rfl, trivial⟩
                    all_goals
                      rw [e9]
                      unfold dGivS
                      first
                      | (rw [if_pos (show dMay σ rid q h ∧ dBy σ h < _ from ⟨⟨b45, b60, c69⟩, by unfold dBy; first | (rw [if_pos b106]; exact Int32.not_le.mp b127) | (rw [if_neg b106]; exact Int32.not_le.mp b127)⟩)]
                         try unfold dBy
                         first | rfl | (rw [if_pos b106]; rfl) | (rw [if_neg b106]; rfl))
                      | (rw [if_neg (show ¬ (dMay σ rid q h ∧ dBy σ h < _) from fun z => absurd z.1.1 b45)]; rfl)
                      | (rw [if_neg (show ¬ (dMay σ rid q h ∧ dBy σ h < _) from fun z => absurd z.1.2.1 b60)]; rfl)
                      | (rw [if_neg (show ¬ (dMay σ rid q h ∧ dBy σ h < _) from fun z => absurd c69 z.1.2.2)]; rfl)
                      | (rw [if_neg (show ¬ (dMay σ rid q h ∧ dBy σ h < _) from fun z => absurd z.2 (by unfold dBy; first | (rw [if_pos b106]; exact Int32.not_lt.mpr b127) | (rw [if_neg b106]; exact Int32.not_lt.mpr b127)))]; rfl)
                  · refine z_iload dX12_givenIn_130 rfl ?_
                    refine z_istore_n dX12_givenIn_132 (by decide) rfl rfl ?_
                    refine z_iload dX12_givenIn_133 rfl ?_
                    refine z_istore dX12_givenIn_135 (by decide) rfl rfl ?_
                    refine z_iincN (k := h) dX12_givenIn_137 rfl rfl (by decide) rfl rfl ?_
                    refine z_goto (tgt := 9) dX12_givenIn_140 (by decide) ?_
                    have e9 : (dGiv σ rid q (h + 1)) = dGivS σ rid q h (dGiv σ rid q h) := rfl
                    refine zA.sub (ih (h + 1) (by omega) (by omega)) rfl ⟨Or.inr rfl, Or.inr rfl, Or.inr rfl, Or.inr ?_, Or.inr ?_, Or.inr rfl, Or.inl rfl, Or.inl rfl, trivial⟩
                    all_goals
                      rw [e9]
                      unfold dGivS
                      first
                      | (rw [if_pos (show dMay σ rid q h ∧ dBy σ h < _ from ⟨⟨b45, b60, c69⟩, by unfold dBy; first | (rw [if_pos b106]; exact Int32.not_le.mp b127) | (rw [if_neg b106]; exact Int32.not_le.mp b127)⟩)]
                         try unfold dBy
                         first | rfl | (rw [if_pos b106]; rfl) | (rw [if_neg b106]; rfl))
                      | (rw [if_neg (show ¬ (dMay σ rid q h ∧ dBy σ h < _) from fun z => absurd z.1.1 b45)]; rfl)
                      | (rw [if_neg (show ¬ (dMay σ rid q h ∧ dBy σ h < _) from fun z => absurd z.1.2.1 b60)]; rfl)
                      | (rw [if_neg (show ¬ (dMay σ rid q h ∧ dBy σ h < _) from fun z => absurd c69 z.1.2.2)]; rfl)
                      | (rw [if_neg (show ¬ (dMay σ rid q h ∧ dBy σ h < _) from fun z => absurd z.2 (by unfold dBy; first | (rw [if_pos b106]; exact Int32.not_lt.mpr b127) | (rw [if_neg b106]; exact Int32.not_lt.mpr b127)))]; rfl)

set_option maxRecDepth 100000 in
set_option maxHeartbeats 4000000 in
theorem c_X12_givenIn (g : zG) (l : Launch) {M : zM} {b : Nat} {σ : Dy} {rid led : Int32} {n r i q : Nat} (hb : b + 70 ≤ 910) (ok : dOK σ n r i) (hq : q < 4) : zMet g l yX12_givenIn cX12_givenIn 8 (some .int) 1 0 0 [.ref 127, .int (nI b), .int (nI q)] S0 (zMd M b σ rid led) (zQi (fun r' M' => r' = (dGiv σ rid q n).1 ∧ M' = (zMd M b σ rid led))) := by
  refine zMet.of (by decide) (Nat.le_of_ble_eq_true rfl) ?_
  refine z_iconst (v := (-1)) dX12_givenIn_0 (by decide) ?_
  refine z_istore_n dX12_givenIn_1 (by decide) rfl rfl ?_
  refine z_ldc lc_X12_184 dX12_givenIn_2 ?_
  refine z_istore dX12_givenIn_4 (by decide) rfl rfl ?_
  refine z_iconst (v := 0) dX12_givenIn_6 (by decide) ?_
  refine z_istore dX12_givenIn_7 (by decide) rfl rfl ?_
  exact lp_givenIn g l hb ok hq n 0 (Nat.zero_le _) (by omega)

