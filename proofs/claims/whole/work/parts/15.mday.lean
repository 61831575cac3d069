/-! ===== the reference: small functions, and what a day does in a region of its row ===== -/
set_option maxRecDepth 100000 in
set_option maxHeartbeats 4000000 in
theorem c_X12_takes (g : zG) (l : Launch) {k x : Int32} {M : zM} : zMet g l yX12_takes cX12_takes 2 (some .int) 0 0 0 [.int k, .int x] S0 M (zQi (fun r' M' => r' = kTakes k x ∧ M' = M)) := by
  refine zMet.of (by decide) (Nat.le_of_ble_eq_true rfl) ?_
  refine z_iload_n dX12_takes_0 rfl ?_
  refine z_iconst (v := 2) dX12_takes_1 (by decide) ?_
  refine z_icmp_ne (tgt := 13) dX12_takes_2 (by decide) (fun b2 => ?_) (fun b2 => ?_)
  · refine z_iload_n dX12_takes_13 rfl ?_
    refine z_iconst (v := 3) dX12_takes_14 (by decide) ?_
    refine z_icmp_eq (tgt := 23) dX12_takes_15 (by decide) (fun b15 => ?_) (fun b15 => ?_)
    · refine z_iconst (v := 2) dX12_takes_23 (by decide) ?_
      refine z_iload_n dX12_takes_24 rfl ?_
      refine z_imul dX12_takes_25 ?_
      refine z_goto (tgt := 30) dX12_takes_26 (by decide) ?_
      refine z_iret dX12_takes_30 rfl zle ?_
      refine ⟨?_, rfl⟩
      unfold kTakes
      simp_all
    · refine z_iload_n dX12_takes_18 rfl ?_
      refine z_iconst (v := 4) dX12_takes_19 (by decide) ?_
      refine z_icmp_ne (tgt := 29) dX12_takes_20 (by decide) (fun b20 => ?_) (fun b20 => ?_)
      · refine z_iload_n dX12_takes_29 rfl ?_
        refine z_iret dX12_takes_30 rfl zle ?_
        refine ⟨?_, rfl⟩
        unfold kTakes
        simp_all
      · refine z_iconst (v := 2) dX12_takes_23 (by decide) ?_
        refine z_iload_n dX12_takes_24 rfl ?_
        refine z_imul dX12_takes_25 ?_
        refine z_goto (tgt := 30) dX12_takes_26 (by decide) ?_
        refine z_iret dX12_takes_30 rfl zle ?_
        refine ⟨?_, rfl⟩
        unfold kTakes
        simp_all
  · refine z_iload_n dX12_takes_5 rfl ?_
    refine z_iconst (v := 2) dX12_takes_6 (by decide) ?_
    refine z_idiv dX12_takes_7 (by decide) ?_
    refine z_iconst (v := 1) dX12_takes_8 (by decide) ?_
    refine z_iadd dX12_takes_9 ?_
    refine z_goto (tgt := 30) dX12_takes_10 (by decide) ?_
    refine z_iret dX12_takes_30 rfl zle ?_
    refine ⟨?_, rfl⟩
    unfold kTakes
    simp_all

set_option maxRecDepth 100000 in
set_option maxHeartbeats 4000000 in
theorem c_X12_tires (g : zG) (l : Launch) {k x : Int32} {M : zM} : zMet g l yX12_tires cX12_tires 2 (some .int) 0 0 0 [.int k, .int x] S0 M (zQi (fun r' M' => r' = kTires k x ∧ M' = M)) := by
  refine zMet.of (by decide) (Nat.le_of_ble_eq_true rfl) ?_
  refine z_iload_n dX12_tires_0 rfl ?_
  refine z_iconst (v := 2) dX12_tires_1 (by decide) ?_
  refine z_icmp_ne (tgt := 11) dX12_tires_2 (by decide) (fun b2 => ?_) (fun b2 => ?_)
  · refine z_iload_n dX12_tires_11 rfl ?_
    refine z_iconst (v := 3) dX12_tires_12 (by decide) ?_
    refine z_icmp_ne (tgt := 20) dX12_tires_13 (by decide) (fun b13 => ?_) (fun b13 => ?_)
    · refine z_iload_n dX12_tires_20 rfl ?_
      refine z_iconst (v := 4) dX12_tires_21 (by decide) ?_
      refine z_icmp_ne (tgt := 29) dX12_tires_22 (by decide) (fun b22 => ?_) (fun b22 => ?_)
      · refine z_iload_n dX12_tires_29 rfl ?_
        refine z_iret dX12_tires_30 rfl zle ?_
        refine ⟨?_, rfl⟩
        unfold kTires
        simp_all
      · refine z_iconst (v := 1) dX12_tires_25 (by decide) ?_
        refine z_goto (tgt := 30) dX12_tires_26 (by decide) ?_
        refine z_iret dX12_tires_30 rfl zle ?_
        refine ⟨?_, rfl⟩
        unfold kTires
        simp_all
    · refine z_iconst (v := 0) dX12_tires_16 (by decide) ?_
      refine z_goto (tgt := 30) dX12_tires_17 (by decide) ?_
      refine z_iret dX12_tires_30 rfl zle ?_
      refine ⟨?_, rfl⟩
      unfold kTires
      simp_all
  · refine z_iconst (v := 2) dX12_tires_5 (by decide) ?_
    refine z_iload_n dX12_tires_6 rfl ?_
    refine z_imul dX12_tires_7 ?_
    refine z_goto (tgt := 30) dX12_tires_8 (by decide) ?_
    refine z_iret dX12_tires_30 rfl zle ?_
    refine ⟨?_, rfl⟩
    unfold kTires
    simp_all

set_option maxRecDepth 100000 in
set_option maxHeartbeats 4000000 in
theorem c_X12_rests (g : zG) (l : Launch) {k : Int32} {M : zM} : zMet g l yX12_rests cX12_rests 1 (some .int) 0 0 0 [.int k] S0 M (zQi (fun r' M' => r' = kRests k ∧ M' = M)) := by
  refine zMet.of (by decide) (Nat.le_of_ble_eq_true rfl) ?_
  refine z_iload_n dX12_rests_0 rfl ?_
  refine z_iconst (v := 1) dX12_rests_1 (by decide) ?_
  refine z_icmp_ne (tgt := 9) dX12_rests_2 (by decide) (fun b2 => ?_) (fun b2 => ?_)
  · refine z_iload_n dX12_rests_9 rfl ?_
    refine z_iconst (v := 3) dX12_rests_10 (by decide) ?_
    refine z_icmp_eq (tgt := 19) dX12_rests_11 (by decide) (fun b11 => ?_) (fun b11 => ?_)
    · refine z_iconst (v := 1) dX12_rests_19 (by decide) ?_
      refine z_goto (tgt := 24) dX12_rests_20 (by decide) ?_
      refine z_iret dX12_rests_24 rfl zle ?_
      refine ⟨?_, rfl⟩
      unfold kRests
      simp_all
    · refine z_iload_n dX12_rests_14 rfl ?_
      refine z_iconst (v := 4) dX12_rests_15 (by decide) ?_
      refine z_icmp_ne (tgt := 23) dX12_rests_16 (by decide) (fun b16 => ?_) (fun b16 => ?_)
      · refine z_iconst (v := 2) dX12_rests_23 (by decide) ?_
        refine z_iret dX12_rests_24 rfl zle ?_
        refine ⟨?_, rfl⟩
        unfold kRests
        simp_all
      · refine z_iconst (v := 1) dX12_rests_19 (by decide) ?_
        refine z_goto (tgt := 24) dX12_rests_20 (by decide) ?_
        refine z_iret dX12_rests_24 rfl zle ?_
        refine ⟨?_, rfl⟩
        unfold kRests
        simp_all
  · refine z_iconst (v := 3) dX12_rests_5 (by decide) ?_
    refine z_goto (tgt := 24) dX12_rests_6 (by decide) ?_
    refine z_iret dX12_rests_24 rfl zle ?_
    refine ⟨?_, rfl⟩
    unfold kRests
    simp_all

set_option maxRecDepth 100000 in
set_option maxHeartbeats 4000000 in
theorem c_X12_next (g : zG) (l : Launch) {f t : Int32} {M : zM} : zMet g l yX12_next cX12_next 2 (some .int) 0 0 0 [.int f, .int t] S0 M (zQi (fun r' M' => r' = dNext f t ∧ M' = M)) := by
  refine zMet.of (by decide) (Nat.le_of_ble_eq_true rfl) ?_
  refine z_iload_n dX12_next_0 rfl ?_
  refine z_iload_n dX12_next_1 rfl ?_
  refine z_icmp_le (tgt := 11) dX12_next_2 (by decide) (fun b2 => ?_) (fun b2 => ?_)
  · refine z_iload_n dX12_next_11 rfl ?_
    refine z_iload_n dX12_next_12 rfl ?_
    refine z_icmp_ge (tgt := 22) dX12_next_13 (by decide) (fun b13 => ?_) (fun b13 => ?_)
    · refine z_iload_n dX12_next_22 rfl ?_
      refine z_iret dX12_next_23 rfl zle ?_
      refine ⟨?_, rfl⟩
      unfold dNext
      (repeat' split) <;> first | rfl | (exfalso; simp only [Int32.lt_iff_toInt_lt, Int32.le_iff_toInt_le] at *; omega)
    · refine z_iload_n dX12_next_16 rfl ?_
      refine z_iconst (v := 1) dX12_next_17 (by decide) ?_
      refine z_isub dX12_next_18 ?_
      refine z_goto (tgt := 23) dX12_next_19 (by decide) ?_
      refine z_iret dX12_next_23 rfl zle ?_
      refine ⟨?_, rfl⟩
      unfold dNext
      (repeat' split) <;> first | rfl | (exfalso; simp only [Int32.lt_iff_toInt_lt, Int32.le_iff_toInt_le] at *; omega)
  · refine z_iload_n dX12_next_5 rfl ?_
    refine z_iconst (v := 1) dX12_next_6 (by decide) ?_
    refine z_iadd dX12_next_7 ?_
    refine z_goto (tgt := 23) dX12_next_8 (by decide) ?_
    refine z_iret dX12_next_23 rfl zle ?_
    refine ⟨?_, rfl⟩
    unfold dNext
    (repeat' split) <;> first | rfl | (exfalso; simp only [Int32.lt_iff_toInt_lt, Int32.le_iff_toInt_le] at *; omega)

set_option maxRecDepth 100000 in
set_option maxHeartbeats 4000000 in
theorem c_X12_has (g : zG) (l : Launch) {s k : Int32} {M : zM} : zMet g l yX12_has cX12_has 2 (some .boolean) 0 0 0 [.int s, .int k] S0 M (zQi (fun r' M' => M' = M ∧ (((hasB s k) ∧ r' = 1) ∨ (¬ (hasB s k) ∧ r' = 0)))) := by
  refine zMet.of (by decide) (Nat.le_of_ble_eq_true rfl) ?_
  refine z_iload_n dX12_has_0 rfl ?_
  refine z_iload_n dX12_has_1 rfl ?_
  refine z_ishr dX12_has_2 ?_
  refine z_iconst (v := 1) dX12_has_3 (by decide) ?_
  refine z_iand dX12_has_4 ?_
  refine z_iconst (v := 1) dX12_has_5 (by decide) ?_
  refine z_icmp_ne (tgt := 13) dX12_has_6 (by decide) (fun b6 => ?_) (fun b6 => ?_)
  · refine z_iconst (v := 0) dX12_has_13 (by decide) ?_
    refine z_iret dX12_has_14 rfl zle ?_
    first
      | exact ⟨rfl, Or.inl ⟨b6, rfl⟩⟩
      | exact ⟨rfl, Or.inr ⟨b6, rfl⟩⟩
  · refine z_iconst (v := 1) dX12_has_9 (by decide) ?_
    refine z_goto (tgt := 14) dX12_has_10 (by decide) ?_
    refine z_iret dX12_has_14 rfl zle ?_
    first
      | exact ⟨rfl, Or.inl ⟨b6, rfl⟩⟩
      | exact ⟨rfl, Or.inr ⟨b6, rfl⟩⟩

set_option maxRecDepth 100000 in
set_option maxHeartbeats 4000000 in
theorem c_X12_in (g : zG) (l : Launch) {v a z : Int64} {M : zM} : zMet g l yX12_in cX12_in 6 (some .boolean) 0 0 0 [.long v, .long a, .long z] S0 M (zQi (fun r' M' => M' = M ∧ (((a ≤ v ∧ v ≤ z) ∧ r' = 1) ∨ (¬ (a ≤ v ∧ v ≤ z) ∧ r' = 0)))) := by
  refine zMet.of (by decide) (Nat.le_of_ble_eq_true rfl) ?_
  refine z_lload_n dX12_in_0 rfl ?_
  refine z_lload_n dX12_in_1 rfl ?_
  refine z_lcmp dX12_in_2 ?_
  refine z_if_lt (tgt := 17) dX12_in_3 (by decide) (fun b3 => ?_) (fun b3 => ?_)
  · refine z_iconst (v := 0) dX12_in_17 (by decide) ?_
    refine z_iret dX12_in_18 rfl zle ?_
    first
      | exact ⟨rfl, Or.inl ⟨⟨Int64.not_lt.mp (fun q => b3 ((lg_lt _ _).mpr q)), Int64.not_lt.mp (fun q => b10 ((lg_gt _ _).mpr q))⟩, rfl⟩⟩
      | exact ⟨rfl, Or.inr ⟨fun q => absurd ((lg_gt _ _).mp b10) (Int64.not_lt.mpr q.2), rfl⟩⟩
      | exact ⟨rfl, Or.inr ⟨fun q => absurd ((lg_lt _ _).mp b3) (Int64.not_lt.mpr q.1), rfl⟩⟩
  · refine z_lload_n dX12_in_6 rfl ?_
    refine z_lload dX12_in_7 rfl ?_
    refine z_lcmp dX12_in_9 ?_
    refine z_if_gt (tgt := 17) dX12_in_10 (by decide) (fun b10 => ?_) (fun b10 => ?_)
    · refine z_iconst (v := 0) dX12_in_17 (by decide) ?_
      refine z_iret dX12_in_18 rfl zle ?_
      first
        | exact ⟨rfl, Or.inl ⟨⟨Int64.not_lt.mp (fun q => b3 ((lg_lt _ _).mpr q)), Int64.not_lt.mp (fun q => b10 ((lg_gt _ _).mpr q))⟩, rfl⟩⟩
        | exact ⟨rfl, Or.inr ⟨fun q => absurd ((lg_gt _ _).mp b10) (Int64.not_lt.mpr q.2), rfl⟩⟩
        | exact ⟨rfl, Or.inr ⟨fun q => absurd ((lg_lt _ _).mp b3) (Int64.not_lt.mpr q.1), rfl⟩⟩
    · refine z_iconst (v := 1) dX12_in_13 (by decide) ?_
      refine z_goto (tgt := 18) dX12_in_14 (by decide) ?_
      refine z_iret dX12_in_18 rfl zle ?_
      first
        | exact ⟨rfl, Or.inl ⟨⟨Int64.not_lt.mp (fun q => b3 ((lg_lt _ _).mpr q)), Int64.not_lt.mp (fun q => b10 ((lg_gt _ _).mpr q))⟩, rfl⟩⟩
        | exact ⟨rfl, Or.inr ⟨fun q => absurd ((lg_gt _ _).mp b10) (Int64.not_lt.mpr q.2), rfl⟩⟩
        | exact ⟨rfl, Or.inr ⟨fun q => absurd ((lg_lt _ _).mp b3) (Int64.not_lt.mpr q.1), rfl⟩⟩

set_option maxRecDepth 100000 in
set_option maxHeartbeats 4000000 in
theorem c_X12_milesOn (g : zG) (l : Launch) {M : zM} {b : Nat} {σ : Dy} {rid led : Int32} {a : Nat} {t : Int32} (hb : b + 70 ≤ 910) (ha : a < 6) (ha2 : nI a < t → a + 1 < 6) : zMet g l yX12_milesOn cX12_milesOn 4 (some .int) 0 0 0 [.ref 127, .int (nI b), .int (nI a), .int t] S0 (zMd M b σ rid led) (zQi (fun r' M' => r' = dMiles σ (nI a) t ∧ M' = (zMd M b σ rid led))) := by
  refine zMet.of (by decide) (Nat.le_of_ble_eq_true rfl) ?_
  refine z_aload_n dX12_milesOn_0 rfl ?_
  refine z_getR (j := 0) (r := 128) kX12 lf_X12_7 (by decide) rfl dX12_milesOn_1 k0_127 s0_127 r0_127_0 (by decide) ?_
  refine z_iload_n dX12_milesOn_4 rfl ?_
  refine z_bipush (v := 64) dX12_milesOn_5 (by decide) ?_
  refine z_iaddN (a := b) (b := 64) rfl rfl dX12_milesOn_7 ?_
  refine z_iload_n dX12_milesOn_8 rfl ?_
  refine z_iload_n dX12_milesOn_9 rfl ?_
  refine z_icmp_le (tgt := 19) dX12_milesOn_10 (by decide) (fun b10 => ?_) (fun b10 => ?_)
  · have c10 : ¬ nI a < t := Int32.not_lt.mpr b10
    refine z_iload_n dX12_milesOn_19 rfl ?_
    refine z_iaddN (a := (b + 64)) (b := a) rfl rfl dX12_milesOn_20 ?_
    refine z_ialdV (j := ((b + 64) + a)) rfl (by omega) (zMd_g 64 a (by omega)) dX12_milesOn_21 k0_128 s0_128 ?_
    refine z_iret dX12_milesOn_22 rfl zle ?_
    refine ⟨?_, rfl⟩
    unfold dMiles
    first
      | rw [if_neg c10, nI_clamp (by omega)]
      | rw [if_pos c10, nI_1, nI_clamp (by omega)]
  · have c10 : nI a < t := Int32.not_le.mp b10
    have d10 := ha2 c10
    refine z_iload_n dX12_milesOn_13 rfl ?_
    refine z_iconst (v := 1) dX12_milesOn_14 (by decide) ?_
    refine z_iaddN (a := a) (b := 1) rfl rfl dX12_milesOn_15 ?_
    refine z_goto (tgt := 20) dX12_milesOn_16 (by decide) ?_
    refine z_iaddN (a := (b + 64)) (b := (a + 1)) rfl rfl dX12_milesOn_20 ?_
    refine z_ialdV (j := ((b + 64) + (a + 1))) rfl (by omega) (zMd_g 64 (a + 1) (by omega)) dX12_milesOn_21 k0_128 s0_128 ?_
    refine z_iret dX12_milesOn_22 rfl zle ?_
    refine ⟨?_, rfl⟩
    unfold dMiles
    first
      | rw [if_neg c10, nI_clamp (by omega)]
      | rw [if_pos c10, nI_1, nI_clamp (by omega)]

set_option maxRecDepth 100000 in
set_option maxHeartbeats 4000000 in
theorem c_X12_tire (g : zG) (l : Launch) {M : zM} {b : Nat} {σ : Dy} {rid led : Int32} {h : Nat} {x : Int32} (hb : b + 70 ≤ 910) (h8 : h < 8) : zMet g l yX12_tire cX12_tire 4 none 0 0 0 [.ref 127, .int (nI b), .int (nI h), .int x] S0 (zMd M b σ rid led) (zQv (fun M' => M' = zMd M b (dTire σ h x) rid led)) := by
  refine zMet.of (by decide) (Nat.le_of_ble_eq_true rfl) ?_
  refine z_aload_n dX12_tire_0 rfl ?_
  refine z_getR (j := 0) (r := 128) kX12 lf_X12_7 (by decide) rfl dX12_tire_1 k0_127 s0_127 r0_127_0 (by decide) ?_
  refine z_iload_n dX12_tire_4 rfl ?_
  refine z_bipush (v := 27) dX12_tire_5 (by decide) ?_
  refine z_iaddN (a := b) (b := 27) rfl rfl dX12_tire_7 ?_
  refine z_iload_n dX12_tire_8 rfl ?_
  refine z_iaddN (a := (b + 27)) (b := h) rfl rfl dX12_tire_9 ?_
  refine z_dup2 dX12_tire_10 rfl rfl ?_
  refine z_ialdV (j := ((b + 27) + h)) rfl (by omega) (zMd_g 27 h (by omega)) dX12_tire_11 k0_128 s0_128 ?_
  refine z_iload_n dX12_tire_12 rfl ?_
  refine z_iadd dX12_tire_13 ?_
  refine z_iastV (j := ((b + 27) + h)) rfl (by omega) (zMd_s 27 h (by omega)) dX12_tire_14 k0_128 s0_128 ?_
  refine z_aload_n dX12_tire_15 rfl ?_
  refine z_getR (j := 0) (r := 128) kX12 lf_X12_7 (by decide) rfl dX12_tire_16 k0_127 s0_127 r0_127_0 (by decide) ?_
  refine z_iload_n dX12_tire_19 rfl ?_
  refine z_bipush (v := 27) dX12_tire_20 (by decide) ?_
  refine z_iaddN (a := b) (b := 27) rfl rfl dX12_tire_22 ?_
  refine z_iload_n dX12_tire_23 rfl ?_
  refine z_iaddN (a := (b + 27)) (b := h) rfl rfl dX12_tire_24 ?_
  refine z_ialdV (j := ((b + 27) + h)) rfl (by omega) ((zMd_g 27 h (by omega)).trans (upd_s _ _ _)) dX12_tire_25 k0_128 s0_128 ?_
  refine z_bipush (v := 9) dX12_tire_26 (by decide) ?_
  refine z_icmp_le (tgt := 56) dX12_tire_28 (by decide) (fun b28 => ?_) (fun b28 => ?_)
  · have c28 : ¬ 9 < σ (27 + h) + x := Int32.not_lt.mpr b28
    refine z_vret dX12_tire_56 zle ?_
    unfold dTire
    first
      | rw [if_neg c28]
      | rw [if_pos c28, upd_tw]
  · have c28 : 9 < σ (27 + h) + x := Int32.not_le.mp b28
    refine z_aload_n dX12_tire_31 rfl ?_
    refine z_getR (j := 0) (r := 128) kX12 lf_X12_7 (by decide) rfl dX12_tire_32 k0_127 s0_127 r0_127_0 (by decide) ?_
    refine z_iload_n dX12_tire_35 rfl ?_
    refine z_bipush (v := 27) dX12_tire_36 (by decide) ?_
    refine z_iaddN (a := b) (b := 27) rfl rfl dX12_tire_38 ?_
    refine z_iload_n dX12_tire_39 rfl ?_
    refine z_iaddN (a := (b + 27)) (b := h) rfl rfl dX12_tire_40 ?_
    refine z_bipush (v := 10) dX12_tire_41 (by decide) ?_
    refine z_iastV (j := ((b + 27) + h)) rfl (by omega) (zMd_s 27 h (by omega)) dX12_tire_43 k0_128 s0_128 ?_
    refine z_aload_n dX12_tire_44 rfl ?_
    refine z_getR (j := 0) (r := 128) kX12 lf_X12_7 (by decide) rfl dX12_tire_45 k0_127 s0_127 r0_127_0 (by decide) ?_
    refine z_iload_n dX12_tire_48 rfl ?_
    refine z_bipush (v := 35) dX12_tire_49 (by decide) ?_
    refine z_iaddN (a := b) (b := 35) rfl rfl dX12_tire_51 ?_
    refine z_iload_n dX12_tire_52 rfl ?_
    refine z_iaddN (a := (b + 35)) (b := h) rfl rfl dX12_tire_53 ?_
    refine z_iconst (v := 1) dX12_tire_54 (by decide) ?_
    refine z_iastV (j := ((b + 35) + h)) rfl (by omega) (zMd_s 35 h (by omega)) dX12_tire_55 k0_128 s0_128 ?_
    refine z_vret dX12_tire_56 zle ?_
    unfold dTire
    first
      | rw [if_neg c28]
      | rw [if_pos c28, upd_tw]

set_option maxRecDepth 100000 in
set_option maxHeartbeats 4000000 in
theorem lp_givenIn (g : zG) (l : Launch) {M : zM} {b : Nat} {σ : Dy} {rid led : Int32} {n r i q : Nat} (hb : b + 70 ≤ 910) (ok : dOK σ n r i) (hq : q < 4) : ∀ (k h : Nat), h ≤ n → n - h ≤ k → zA g l yX12_givenIn cX12_givenIn 8 (some .int) 1 0 0 (zQi (fun r' M' => r' = (dGiv σ rid q n).1 ∧ M' = (zMd M b σ rid led))) 9 0 0 S0 (zMd M b σ rid led) [.ref 127, .int (nI b), .int (nI q), .int (dGiv σ rid q h).1, .int (dGiv σ rid q h).2, .int (nI h), .null, .null] [] := by
  have n8 := ok.1.1
  intro k
  induction k with
  | zero =>
    intro h hh hk
    have e : h = n := by omega
    subst e
    refine z_iload dX12_givenIn_9 rfl ?_
    refine z_aload_n dX12_givenIn_11 rfl ?_
    refine z_getR (j := 0) (r := 128) kX12 lf_X12_7 (by decide) rfl dX12_givenIn_12 k0_127 s0_127 r0_127_0 (by decide) ?_
    refine z_iload_n dX12_givenIn_15 rfl ?_
    refine z_iconst (v := 0) dX12_givenIn_16 (by decide) ?_
    refine z_iaddN (a := b) (b := 0) rfl rfl dX12_givenIn_17 ?_
    refine z_ialdV (j := (b + 0)) rfl (by omega) ((zMd_g0 0 (by decide)).trans ok.1.2.2.2.1) dX12_givenIn_18 k0_128 s0_128 ?_
    refine z_icmp_ge (tgt := 143) dX12_givenIn_19 (by decide) (fun b19 => ?_) (fun b19 => ?_)
    · refine z_iload_n dX12_givenIn_143 rfl ?_
      exact z_iret dX12_givenIn_144 rfl zle (⟨rfl, rfl⟩)
    · exact absurd (Int32.le_refl _) b19
  | succ k ih =>
    intro h hh hk
    refine z_iload dX12_givenIn_9 rfl ?_
    refine z_aload_n dX12_givenIn_11 rfl ?_
    refine z_getR (j := 0) (r := 128) kX12 lf_X12_7 (by decide) rfl dX12_givenIn_12 k0_127 s0_127 r0_127_0 (by decide) ?_
    refine z_iload_n dX12_givenIn_15 rfl ?_
    refine z_iconst (v := 0) dX12_givenIn_16 (by decide) ?_
    refine z_iaddN (a := b) (b := 0) rfl rfl dX12_givenIn_17 ?_
    refine z_ialdV (j := (b + 0)) rfl (by omega) ((zMd_g0 0 (by decide)).trans ok.1.2.2.2.1) dX12_givenIn_18 k0_128 s0_128 ?_
    refine z_icmp_ge (tgt := 143) dX12_givenIn_19 (by decide) (fun b19 => ?_) (fun b19 => ?_)
    · have e : n ≤ h := (nI_leI (by omega) (by omega)).mp b19
      have e2 : h = n := by omega
      subst e2
      refine z_iload_n dX12_givenIn_143 rfl ?_
      exact z_iret dX12_givenIn_144 rfl zle (⟨rfl, rfl⟩)
    · have hn : h < n := by
        rcases Nat.lt_or_ge h n with z | z
        · exact z
        · exact absurd (nI_le z (by omega)) b19
      refine z_aload_n dX12_givenIn_22 rfl ?_
      refine z_getR (j := 0) (r := 128) kX12 lf_X12_7 (by decide) rfl dX12_givenIn_23 k0_127 s0_127 r0_127_0 (by decide) ?_
      refine z_iload_n dX12_givenIn_26 rfl ?_
      refine z_bipush (v := 19) dX12_givenIn_27 (by decide) ?_
      refine z_iaddN (a := b) (b := 19) rfl rfl dX12_givenIn_29 ?_
      refine z_iload dX12_givenIn_30 rfl ?_
      refine z_iaddN (a := (b + 19)) (b := h) rfl rfl dX12_givenIn_32 ?_
      refine z_ialdV (j := ((b + 19) + h)) rfl (by omega) (zMd_g 19 h (by omega)) dX12_givenIn_33 k0_128 s0_128 ?_
      refine z_aload_n dX12_givenIn_34 rfl ?_
      refine z_getR (j := 0) (r := 128) kX12 lf_X12_7 (by decide) rfl dX12_givenIn_35 k0_127 s0_127 r0_127_0 (by decide) ?_
      refine z_iload_n dX12_givenIn_38 rfl ?_
      refine z_bipush (v := 51) dX12_givenIn_39 (by decide) ?_
      refine z_iaddN (a := b) (b := 51) rfl rfl dX12_givenIn_41 ?_
      refine z_iload_n dX12_givenIn_42 rfl ?_
      refine z_iaddN (a := (b + 51)) (b := q) rfl rfl dX12_givenIn_43 ?_
      refine z_ialdV (j := ((b + 51) + q)) rfl (by omega) (zMd_g 51 q (by omega)) dX12_givenIn_44 k0_128 s0_128 ?_
      refine z_icmp_ne (tgt := 79) dX12_givenIn_45 (by decide) (fun b45 => ?_) (fun b45 => ?_)
      · refine z_iconst (v := 0) dX12_givenIn_79 (by decide) ?_
        refine z_istore dX12_givenIn_80 (by decide) rfl rfl ?_
        refine z_aload_n dX12_givenIn_82 rfl ?_
        refine z_getR (j := 0) (r := 128) kX12 lf_X12_7 (by decide) rfl dX12_givenIn_83 k0_127 s0_127 r0_127_0 (by decide) ?_
        refine z_iload_n dX12_givenIn_86 rfl ?_
        refine z_bipush (v := 27) dX12_givenIn_87 (by decide) ?_
        refine z_iaddN (a := b) (b := 27) rfl rfl dX12_givenIn_89 ?_
        refine z_iload dX12_givenIn_90 rfl ?_
        refine z_iaddN (a := (b + 27)) (b := h) rfl rfl dX12_givenIn_92 ?_
        refine z_ialdV (j := ((b + 27) + h)) rfl (by omega) (zMd_g 27 h (by omega)) dX12_givenIn_93 k0_128 s0_128 ?_
        refine z_aload_n dX12_givenIn_94 rfl ?_
        refine z_getR (j := 0) (r := 128) kX12 lf_X12_7 (by decide) rfl dX12_givenIn_95 k0_127 s0_127 r0_127_0 (by decide) ?_
        refine z_iload_n dX12_givenIn_98 rfl ?_
        refine z_iconst (v := 3) dX12_givenIn_99 (by decide) ?_
        refine z_iaddN (a := b) (b := 3) rfl rfl dX12_givenIn_100 ?_
        refine z_iload dX12_givenIn_101 rfl ?_
        refine z_iaddN (a := (b + 3)) (b := h) rfl rfl dX12_givenIn_103 ?_
        refine z_ialdV (j := ((b + 3) + h)) rfl (by omega) (zMd_g 3 h (by omega)) dX12_givenIn_104 k0_128 s0_128 ?_
        refine z_iconst (v := 4) dX12_givenIn_105 (by decide) ?_
        refine z_icmp_ne (tgt := 114) dX12_givenIn_106 (by decide) (fun b106 => ?_) (fun b106 => ?_)
        · refine z_iconst (v := 0) dX12_givenIn_114 (by decide) ?_
          refine z_iadd dX12_givenIn_115 ?_
          refine z_istore dX12_givenIn_116 (by decide) rfl rfl ?_
          refine z_iload dX12_givenIn_118 rfl ?_
          refine z_if_eq (tgt := 137) dX12_givenIn_120 (by decide) (fun b120 => ?_) (fun b120 => ?_)
          · refine z_iincN (k := h) dX12_givenIn_137 rfl rfl (by decide) rfl rfl ?_
            refine z_goto (tgt := 9) dX12_givenIn_140 (by decide) ?_
            have e9 : (dGiv σ rid q (h + 1)) = dGivS σ rid q h (dGiv σ rid q h) := rfl
            refine zA.sub (ih (h + 1) (by omega) (by omega)) rfl ⟨Or.inr rfl, Or.inr rfl, Or.inr rfl, Or.inr ?_, Or.inr ?_, Or.inr rfl, Or.inl rfl, Or.inl rfl, trivial⟩
            all_goals
              rw [e9]
              unfold dGivS
              first
              | (rw [if_pos (show dMay σ rid q h ∧ dBy σ h < _ from ⟨⟨b45, b60, c69⟩, by unfold dBy; first | (rw [if_pos b106]; exact Int32.not_le.mp b127) | (rw [if_neg b106]; exact Int32.not_le.mp b127)⟩)]
                 try unfold dBy
                 first | rfl | (rw [if_pos b106]; rfl) | (rw [if_neg b106]; rfl))
              | (rw [if_neg (show ¬ (dMay σ rid q h ∧ dBy σ h < _) from fun z => absurd z.1.1 b45)]; rfl)
              | (rw [if_neg (show ¬ (dMay σ rid q h ∧ dBy σ h < _) from fun z => absurd z.1.2.1 b60)]; rfl)
              | (rw [if_neg (show ¬ (dMay σ rid q h ∧ dBy σ h < _) from fun z => absurd c69 z.1.2.2)]; rfl)
              | (rw [if_neg (show ¬ (dMay σ rid q h ∧ dBy σ h < _) from fun z => absurd z.2 (by unfold dBy; first | (rw [if_pos b106]; exact Int32.not_lt.mpr b127) | (rw [if_neg b106]; exact Int32.not_lt.mpr b127)))]; rfl)
          · exact absurd b120 (by decide)
        · refine z_bipush (v := 100) dX12_givenIn_109 (by decide) ?_
          refine z_goto (tgt := 115) dX12_givenIn_111 (by decide) ?_
          refine z_iadd dX12_givenIn_115 ?_
          refine z_istore dX12_givenIn_116 (by decide) rfl rfl ?_
          refine z_iload dX12_givenIn_118 rfl ?_
          refine z_if_eq (tgt := 137) dX12_givenIn_120 (by decide) (fun b120 => ?_) (fun b120 => ?_)
          · refine z_iincN (k := h) dX12_givenIn_137 rfl rfl (by decide) rfl rfl ?_
            refine z_goto (tgt := 9) dX12_givenIn_140 (by decide) ?_
            have e9 : (dGiv σ rid q (h + 1)) = dGivS σ rid q h (dGiv σ rid q h) := rfl
            refine zA.sub (ih (h + 1) (by omega) (by omega)) rfl ⟨Or.inr rfl, Or.inr rfl, Or.inr rfl, Or.inr ?_, Or.inr ?_, Or.inr rfl, Or.inl rfl, Or.inl rfl, trivial⟩
            all_goals
              rw [e9]
              unfold dGivS
              first
              | (rw [if_pos (show dMay σ rid q h ∧ dBy σ h < _ from ⟨⟨b45, b60, c69⟩, by unfold dBy; first | (rw [if_pos b106]; exact Int32.not_le.mp b127) | (rw [if_neg b106]; exact Int32.not_le.mp b127)⟩)]
                 try unfold dBy
                 first | rfl | (rw [if_pos b106]; rfl) | (rw [if_neg b106]; rfl))
              | (rw [if_neg (show ¬ (dMay σ rid q h ∧ dBy σ h < _) from fun z => absurd z.1.1 b45)]; rfl)
              | (rw [if_neg (show ¬ (dMay σ rid q h ∧ dBy σ h < _) from fun z => absurd z.1.2.1 b60)]; rfl)
              | (rw [if_neg (show ¬ (dMay σ rid q h ∧ dBy σ h < _) from fun z => absurd c69 z.1.2.2)]; rfl)
              | (rw [if_neg (show ¬ (dMay σ rid q h ∧ dBy σ h < _) from fun z => absurd z.2 (by unfold dBy; first | (rw [if_pos b106]; exact Int32.not_lt.mpr b127) | (rw [if_neg b106]; exact Int32.not_lt.mpr b127)))]; rfl)
          · exact absurd b120 (by decide)
      · refine z_aload_n dX12_givenIn_48 rfl ?_
        refine z_getR (j := 0) (r := 128) kX12 lf_X12_7 (by decide) rfl dX12_givenIn_49 k0_127 s0_127 r0_127_0 (by decide) ?_
        refine z_iload_n dX12_givenIn_52 rfl ?_
        refine z_bipush (v := 35) dX12_givenIn_53 (by decide) ?_
        refine z_iaddN (a := b) (b := 35) rfl rfl dX12_givenIn_55 ?_
        refine z_iload dX12_givenIn_56 rfl ?_
        refine z_iaddN (a := (b + 35)) (b := h) rfl rfl dX12_givenIn_58 ?_
        refine z_ialdV (j := ((b + 35) + h)) rfl (by omega) (zMd_g 35 h (by omega)) dX12_givenIn_59 k0_128 s0_128 ?_
        refine z_if_ne (tgt := 79) dX12_givenIn_60 (by decide) (fun b60 => ?_) (fun b60 => ?_)
        · refine z_iconst (v := 0) dX12_givenIn_79 (by decide) ?_
          refine z_istore dX12_givenIn_80 (by decide) rfl rfl ?_
          refine z_aload_n dX12_givenIn_82 rfl ?_
          refine z_getR (j := 0) (r := 128) kX12 lf_X12_7 (by decide) rfl dX12_givenIn_83 k0_127 s0_127 r0_127_0 (by decide) ?_
          refine z_iload_n dX12_givenIn_86 rfl ?_
          refine z_bipush (v := 27) dX12_givenIn_87 (by decide) ?_
          refine z_iaddN (a := b) (b := 27) rfl rfl dX12_givenIn_89 ?_
          refine z_iload dX12_givenIn_90 rfl ?_
          refine z_iaddN (a := (b + 27)) (b := h) rfl rfl dX12_givenIn_92 ?_
          refine z_ialdV (j := ((b + 27) + h)) rfl (by omega) (zMd_g 27 h (by omega)) dX12_givenIn_93 k0_128 s0_128 ?_
          refine z_aload_n dX12_givenIn_94 rfl ?_
          refine z_getR (j := 0) (r := 128) kX12 lf_X12_7 (by decide) rfl dX12_givenIn_95 k0_127 s0_127 r0_127_0 (by decide) ?_
          refine z_iload_n dX12_givenIn_98 rfl ?_
          refine z_iconst (v := 3) dX12_givenIn_99 (by decide) ?_
          refine z_iaddN (a := b) (b := 3) rfl rfl dX12_givenIn_100 ?_
          refine z_iload dX12_givenIn_101 rfl ?_
          refine z_iaddN (a := (b + 3)) (b := h) rfl rfl dX12_givenIn_103 ?_
          refine z_ialdV (j := ((b + 3) + h)) rfl (by omega) (zMd_g 3 h (by omega)) dX12_givenIn_104 k0_128 s0_128 ?_
          refine z_iconst (v := 4) dX12_givenIn_105 (by decide) ?_
          refine z_icmp_ne (tgt := 114) dX12_givenIn_106 (by decide) (fun b106 => ?_) (fun b106 => ?_)
          · refine z_iconst (v := 0) dX12_givenIn_114 (by decide) ?_
            refine z_iadd dX12_givenIn_115 ?_
            refine z_istore dX12_givenIn_116 (by decide) rfl rfl ?_
            refine z_iload dX12_givenIn_118 rfl ?_
            refine z_if_eq (tgt := 137) dX12_givenIn_120 (by decide) (fun b120 => ?_) (fun b120 => ?_)
            · refine z_iincN (k := h) dX12_givenIn_137 rfl rfl (by decide) rfl rfl ?_
              refine z_goto (tgt := 9) dX12_givenIn_140 (by decide) ?_
              have e9 : (dGiv σ rid q (h + 1)) = dGivS σ rid q h (dGiv σ rid q h) := rfl
              refine zA.sub (ih (h + 1) (by omega) (by omega)) rfl ⟨Or.inr rfl, Or.inr rfl, Or.inr rfl, Or.inr ?_, Or.inr ?_, Or.inr rfl, Or.inl rfl, Or.inl rfl, trivial⟩
              all_goals
                rw [e9]
                unfold dGivS
                first
                | (rw [if_pos (show dMay σ rid q h ∧ dBy σ h < _ from ⟨⟨b45, b60, c69⟩, by unfold dBy; first | (rw [if_pos b106]; exact Int32.not_le.mp b127) | (rw [if_neg b106]; exact Int32.not_le.mp b127)⟩)]
                   try unfold dBy
                   first | rfl | (rw [if_pos b106]; rfl) | (rw [if_neg b106]; rfl))
                | (rw [if_neg (show ¬ (dMay σ rid q h ∧ dBy σ h < _) from fun z => absurd z.1.1 b45)]; rfl)
                | (rw [if_neg (show ¬ (dMay σ rid q h ∧ dBy σ h < _) from fun z => absurd z.1.2.1 b60)]; rfl)
                | (rw [if_neg (show ¬ (dMay σ rid q h ∧ dBy σ h < _) from fun z => absurd c69 z.1.2.2)]; rfl)
                | (rw [if_neg (show ¬ (dMay σ rid q h ∧ dBy σ h < _) from fun z => absurd z.2 (by unfold dBy; first | (rw [if_pos b106]; exact Int32.not_lt.mpr b127) | (rw [if_neg b106]; exact Int32.not_lt.mpr b127)))]; rfl)
            · exact absurd b120 (by decide)
          · refine z_bipush (v := 100) dX12_givenIn_109 (by decide) ?_
            refine z_goto (tgt := 115) dX12_givenIn_111 (by decide) ?_
            refine z_iadd dX12_givenIn_115 ?_
            refine z_istore dX12_givenIn_116 (by decide) rfl rfl ?_
            refine z_iload dX12_givenIn_118 rfl ?_
            refine z_if_eq (tgt := 137) dX12_givenIn_120 (by decide) (fun b120 => ?_) (fun b120 => ?_)
            · refine z_iincN (k := h) dX12_givenIn_137 rfl rfl (by decide) rfl rfl ?_
              refine z_goto (tgt := 9) dX12_givenIn_140 (by decide) ?_
              have e9 : (dGiv σ rid q (h + 1)) = dGivS σ rid q h (dGiv σ rid q h) := rfl
              refine zA.sub (ih (h + 1) (by omega) (by omega)) rfl ⟨Or.inr rfl, Or.inr rfl, Or.inr rfl, Or.inr ?_, Or.inr ?_, Or.inr rfl, Or.inl rfl, Or.inl rfl, trivial⟩
              all_goals
                rw [e9]
                unfold dGivS
                first
                | (rw [if_pos (show dMay σ rid q h ∧ dBy σ h < _ from ⟨⟨b45, b60, c69⟩, by unfold dBy; first | (rw [if_pos b106]; exact Int32.not_le.mp b127) | (rw [if_neg b106]; exact Int32.not_le.mp b127)⟩)]
                   try unfold dBy
                   first | rfl | (rw [if_pos b106]; rfl) | (rw [if_neg b106]; rfl))
                | (rw [if_neg (show ¬ (dMay σ rid q h ∧ dBy σ h < _) from fun z => absurd z.1.1 b45)]; rfl)
                | (rw [if_neg (show ¬ (dMay σ rid q h ∧ dBy σ h < _) from fun z => absurd z.1.2.1 b60)]; rfl)
                | (rw [if_neg (show ¬ (dMay σ rid q h ∧ dBy σ h < _) from fun z => absurd c69 z.1.2.2)]; rfl)
                | (rw [if_neg (show ¬ (dMay σ rid q h ∧ dBy σ h < _) from fun z => absurd z.2 (by unfold dBy; first | (rw [if_pos b106]; exact Int32.not_lt.mpr b127) | (rw [if_neg b106]; exact Int32.not_lt.mpr b127)))]; rfl)
            · exact absurd b120 (by decide)
        · refine z_aload_n dX12_givenIn_63 rfl ?_
          refine z_getIV (j := 28) kX12 lf_X12_185 (by decide) rfl zMd_rid dX12_givenIn_64 k0_127 s0_127 ?_
          refine z_iload dX12_givenIn_67 rfl ?_
          refine z_iS2 (c_X12_has g l) mw_X12_has lm_X12_188 ms_X12_has (by decide) (Nat.le_of_ble_eq_true rfl) zle dX12_givenIn_69 (fun r69 M69 q69 => ?_)
          obtain ⟨rfl, ⟨c69, rfl⟩ | ⟨c69, rfl⟩⟩ := q69
          · refine z_if_ne (tgt := 79) dX12_givenIn_72 (by decide) (fun b72 => ?_) (fun b72 => ?_)
            · refine z_iconst (v := 0) dX12_givenIn_79 (by decide) ?_
              refine z_istore dX12_givenIn_80 (by decide) rfl rfl ?_
              refine z_aload_n dX12_givenIn_82 rfl ?_
              refine z_getR (j := 0) (r := 128) kX12 lf_X12_7 (by decide) rfl dX12_givenIn_83 k0_127 s0_127 r0_127_0 (by decide) ?_
              refine z_iload_n dX12_givenIn_86 rfl ?_
              refine z_bipush (v := 27) dX12_givenIn_87 (by decide) ?_
              refine z_iaddN (a := b) (b := 27) rfl rfl dX12_givenIn_89 ?_
              refine z_iload dX12_givenIn_90 rfl ?_
              refine z_iaddN (a := (b + 27)) (b := h) rfl rfl dX12_givenIn_92 ?_
              refine z_ialdV (j := ((b + 27) + h)) rfl (by omega) (zMd_g 27 h (by omega)) dX12_givenIn_93 k0_128 s0_128 ?_
              refine z_aload_n dX12_givenIn_94 rfl ?_
              refine z_getR (j := 0) (r := 128) kX12 lf_X12_7 (by decide) rfl dX12_givenIn_95 k0_127 s0_127 r0_127_0 (by decide) ?_
              refine z_iload_n dX12_givenIn_98 rfl ?_
              refine z_iconst (v := 3) dX12_givenIn_99 (by decide) ?_
              refine z_iaddN (a := b) (b := 3) rfl rfl dX12_givenIn_100 ?_
              refine z_iload dX12_givenIn_101 rfl ?_
              refine z_iaddN (a := (b + 3)) (b := h) rfl rfl dX12_givenIn_103 ?_
              refine z_ialdV (j := ((b + 3) + h)) rfl (by omega) (zMd_g 3 h (by omega)) dX12_givenIn_104 k0_128 s0_128 ?_
              refine z_iconst (v := 4) dX12_givenIn_105 (by decide) ?_
              refine z_icmp_ne (tgt := 114) dX12_givenIn_106 (by decide) (fun b106 => ?_) (fun b106 => ?_)
              · refine z_iconst (v := 0) dX12_givenIn_114 (by decide) ?_
                refine z_iadd dX12_givenIn_115 ?_
                refine z_istore dX12_givenIn_116 (by decide) rfl rfl ?_
                refine z_iload dX12_givenIn_118 rfl ?_
                refine z_if_eq (tgt := 137) dX12_givenIn_120 (by decide) (fun b120 => ?_) (fun b120 => ?_)
                · refine z_iincN (k := h) dX12_givenIn_137 rfl rfl (by decide) rfl rfl ?_
                  refine z_goto (tgt := 9) dX12_givenIn_140 (by decide) ?_
                  have e9 : (dGiv σ rid q (h + 1)) = dGivS σ rid q h (dGiv σ rid q h) := rfl
                  refine zA.sub (ih (h + 1) (by omega) (by omega)) rfl ⟨Or.inr rfl, Or.inr rfl, Or.inr rfl, Or.inr ?_, Or.inr ?_, Or.inr rfl, Or.inl rfl, Or.inl rfl, trivial⟩
                  all_goals
                    rw [e9]
                    unfold dGivS
                    first
                    | (rw [if_pos (show dMay σ rid q h ∧ dBy σ h < _ from ⟨⟨b45, b60, c69⟩, by unfold dBy; first | (rw [if_pos b106]; exact Int32.not_le.mp b127) | (rw [if_neg b106]; exact Int32.not_le.mp b127)⟩)]
                       try unfold dBy
                       first | rfl | (rw [if_pos b106]; rfl) | (rw [if_neg b106]; rfl))
                    | (rw [if_neg (show ¬ (dMay σ rid q h ∧ dBy σ h < _) from fun z => absurd z.1.1 b45)]; rfl)
                    | (rw [if_neg (show ¬ (dMay σ rid q h ∧ dBy σ h < _) from fun z => absurd z.1.2.1 b60)]; rfl)
                    | (rw [if_neg (show ¬ (dMay σ rid q h ∧ dBy σ h < _) from fun z => absurd c69 z.1.2.2)]; rfl)
                    | (rw [if_neg (show ¬ (dMay σ rid q h ∧ dBy σ h < _) from fun z => absurd z.2 (by unfold dBy; first | (rw [if_pos b106]; exact Int32.not_lt.mpr b127) | (rw [if_neg b106]; exact Int32.not_lt.mpr b127)))]; rfl)
                · exact absurd b120 (by decide)
              · refine z_bipush (v := 100) dX12_givenIn_109 (by decide) ?_
                refine z_goto (tgt := 115) dX12_givenIn_111 (by decide) ?_
                refine z_iadd dX12_givenIn_115 ?_
                refine z_istore dX12_givenIn_116 (by decide) rfl rfl ?_
                refine z_iload dX12_givenIn_118 rfl ?_
                refine z_if_eq (tgt := 137) dX12_givenIn_120 (by decide) (fun b120 => ?_) (fun b120 => ?_)
                · refine z_iincN (k := h) dX12_givenIn_137 rfl rfl (by decide) rfl rfl ?_
                  refine z_goto (tgt := 9) dX12_givenIn_140 (by decide) ?_
                  have e9 : (dGiv σ rid q (h + 1)) = dGivS σ rid q h (dGiv σ rid q h) := rfl
                  refine zA.sub (ih (h + 1) (by omega) (by omega)) rfl ⟨Or.inr rfl, Or.inr rfl, Or.inr rfl, Or.inr ?_, Or.inr ?_, Or.inr rfl, Or.inl rfl, Or.inl rfl, trivial⟩
                  all_goals
                    rw [e9]
                    unfold dGivS
                    first
                    | (rw [if_pos (show dMay σ rid q h ∧ dBy σ h < _ from ⟨⟨b45, b60, c69⟩, by unfold dBy; first | (rw [if_pos b106]; exact Int32.not_le.mp b127) | (rw [if_neg b106]; exact Int32.not_le.mp b127)⟩)]
                       try unfold dBy
                       first | rfl | (rw [if_pos b106]; rfl) | (rw [if_neg b106]; rfl))
                    | (rw [if_neg (show ¬ (dMay σ rid q h ∧ dBy σ h < _) from fun z => absurd z.1.1 b45)]; rfl)
                    | (rw [if_neg (show ¬ (dMay σ rid q h ∧ dBy σ h < _) from fun z => absurd z.1.2.1 b60)]; rfl)
                    | (rw [if_neg (show ¬ (dMay σ rid q h ∧ dBy σ h < _) from fun z => absurd c69 z.1.2.2)]; rfl)
                    | (rw [if_neg (show ¬ (dMay σ rid q h ∧ dBy σ h < _) from fun z => absurd z.2 (by unfold dBy; first | (rw [if_pos b106]; exact Int32.not_lt.mpr b127) | (rw [if_neg b106]; exact Int32.not_lt.mpr b127)))]; rfl)
                · exact absurd b120 (by decide)
            · exact absurd b72 (by decide)
          · refine z_if_ne (tgt := 79) dX12_givenIn_72 (by decide) (fun b72 => ?_) (fun b72 => ?_)
            · exact absurd b72 (by decide)
            · refine z_iconst (v := 1) dX12_givenIn_75 (by decide) ?_
              refine z_goto (tgt := 80) dX12_givenIn_76 (by decide) ?_
              refine z_istore dX12_givenIn_80 (by decide) rfl rfl ?_
              refine z_aload_n dX12_givenIn_82 rfl ?_
              refine z_getR (j := 0) (r := 128) kX12 lf_X12_7 (by decide) rfl dX12_givenIn_83 k0_127 s0_127 r0_127_0 (by decide) ?_
              refine z_iload_n dX12_givenIn_86 rfl ?_
              refine z_bipush (v := 27) dX12_givenIn_87 (by decide) ?_
              refine z_iaddN (a := b) (b := 27) rfl rfl dX12_givenIn_89 ?_
              refine z_iload dX12_givenIn_90 rfl ?_
              refine z_iaddN (a := (b + 27)) (b := h) rfl rfl dX12_givenIn_92 ?_
              refine z_ialdV (j := ((b + 27) + h)) rfl (by omega) (zMd_g 27 h (by omega)) dX12_givenIn_93 k0_128 s0_128 ?_
              refine z_aload_n dX12_givenIn_94 rfl ?_
              refine z_getR (j := 0) (r := 128) kX12 lf_X12_7 (by decide) rfl dX12_givenIn_95 k0_127 s0_127 r0_127_0 (by decide) ?_
              refine z_iload_n dX12_givenIn_98 rfl ?_
              refine z_iconst (v := 3) dX12_givenIn_99 (by decide) ?_
              refine z_iaddN (a := b) (b := 3) rfl rfl dX12_givenIn_100 ?_
              refine z_iload dX12_givenIn_101 rfl ?_
              refine z_iaddN (a := (b + 3)) (b := h) rfl rfl dX12_givenIn_103 ?_
              refine z_ialdV (j := ((b + 3) + h)) rfl (by omega) (zMd_g 3 h (by omega)) dX12_givenIn_104 k0_128 s0_128 ?_
              refine z_iconst (v := 4) dX12_givenIn_105 (by decide) ?_
              refine z_icmp_ne (tgt := 114) dX12_givenIn_106 (by decide) (fun b106 => ?_) (fun b106 => ?_)
              · refine z_iconst (v := 0) dX12_givenIn_114 (by decide) ?_
                refine z_iadd dX12_givenIn_115 ?_
                refine z_istore dX12_givenIn_116 (by decide) rfl rfl ?_
                refine z_iload dX12_givenIn_118 rfl ?_
                refine z_if_eq (tgt := 137) dX12_givenIn_120 (by decide) (fun b120 => ?_) (fun b120 => ?_)
                · exact absurd b120 (by decide)
                · refine z_iload dX12_givenIn_123 rfl ?_
                  refine z_iload dX12_givenIn_125 rfl ?_
                  refine z_icmp_ge (tgt := 137) dX12_givenIn_127 (by decide) (fun b127 => ?_) (fun b127 => ?_)
                  · refine z_iincN (k := h) dX12_givenIn_137 rfl rfl (by decide) rfl rfl ?_
                    refine z_goto (tgt := 9) dX12_givenIn_140 (by decide) ?_
                    have e9 : (dGiv σ rid q (h + 1)) = dGivS σ rid q h (dGiv σ rid q h) := rfl
                    refine zA.sub (ih (h + 1) (by omega) (by omega)) rfl ⟨Or.inr rfl, Or.inr rfl, Or.inr rfl, Or.inr ?_, Or.inr ?_, Or.inr rfl, Or.inl rfl, Or.inl rfl, trivial⟩
                    all_goals
                      rw [e9]
                      unfold dGivS
                      first
                      | (rw [if_pos (show dMay σ rid q h ∧ dBy σ h < _ from ⟨⟨b45, b60, c69⟩, by unfold dBy; first | (rw [if_pos b106]; exact Int32.not_le.mp b127) | (rw [if_neg b106]; exact Int32.not_le.mp b127)⟩)]
                         try unfold dBy
                         first | rfl | (rw [if_pos b106]; rfl) | (rw [if_neg b106]; rfl))
                      | (rw [if_neg (show ¬ (dMay σ rid q h ∧ dBy σ h < _) from fun z => absurd z.1.1 b45)]; rfl)
                      | (rw [if_neg (show ¬ (dMay σ rid q h ∧ dBy σ h < _) from fun z => absurd z.1.2.1 b60)]; rfl)
                      | (rw [if_neg (show ¬ (dMay σ rid q h ∧ dBy σ h < _) from fun z => absurd c69 z.1.2.2)]; rfl)
                      | (rw [if_neg (show ¬ (dMay σ rid q h ∧ dBy σ h < _) from fun z => absurd z.2 (by unfold dBy; first | (rw [if_pos b106]; exact Int32.not_lt.mpr b127) | (rw [if_neg b106]; exact Int32.not_lt.mpr b127)))]; rfl)
                  · refine z_iload dX12_givenIn_130 rfl ?_
                    refine z_istore_n dX12_givenIn_132 (by decide) rfl rfl ?_
                    refine z_iload dX12_givenIn_133 rfl ?_
                    refine z_istore dX12_givenIn_135 (by decide) rfl rfl ?_
                    refine z_iincN (k := h) dX12_givenIn_137 rfl rfl (by decide) rfl rfl ?_
                    refine z_goto (tgt := 9) dX12_givenIn_140 (by decide) ?_
                    have e9 : (dGiv σ rid q (h + 1)) = dGivS σ rid q h (dGiv σ rid q h) := rfl
                    refine zA.sub (ih (h + 1) (by omega) (by omega)) rfl ⟨Or.inr rfl, Or.inr rfl, Or.inr rfl, Or.inr ?_, Or.inr ?_, Or.inr rfl, Or.inl rfl, Or.inl rfl, trivial⟩
                    all_goals
                      rw [e9]
                      unfold dGivS
                      first
                      | (rw [if_pos (show dMay σ rid q h ∧ dBy σ h < _ from ⟨⟨b45, b60, c69⟩, by unfold dBy; first | (rw [if_pos b106]; exact Int32.not_le.mp b127) | (rw [if_neg b106]; exact Int32.not_le.mp b127)⟩)]
                         try unfold dBy
                         first | rfl | (rw [if_pos b106]; rfl) | (rw [if_neg b106]; rfl))
                      | (rw [if_neg (show ¬ (dMay σ rid q h ∧ dBy σ h < _) from fun z => absurd z.1.1 b45)]; rfl)
                      | (rw [if_neg (show ¬ (dMay σ rid q h ∧ dBy σ h < _) from fun z => absurd z.1.2.1 b60)]; rfl)
                      | (rw [if_neg (show ¬ (dMay σ rid q h ∧ dBy σ h < _) from fun z => absurd c69 z.1.2.2)]; rfl)
                      | (rw [if_neg (show ¬ (dMay σ rid q h ∧ dBy σ h < _) from fun z => absurd z.2 (by unfold dBy; first | (rw [if_pos b106]; exact Int32.not_lt.mpr b127) | (rw [if_neg b106]; exact Int32.not_lt.mpr b127)))]; rfl)
              · refine z_bipush (v := 100) dX12_givenIn_109 (by decide) ?_
                refine z_goto (tgt := 115) dX12_givenIn_111 (by decide) ?_
                refine z_iadd dX12_givenIn_115 ?_
                refine z_istore dX12_givenIn_116 (by decide) rfl rfl ?_
                refine z_iload dX12_givenIn_118 rfl ?_
                refine z_if_eq (tgt := 137) dX12_givenIn_120 (by decide) (fun b120 => ?_) (fun b120 => ?_)
                · exact absurd b120 (by decide)
                · refine z_iload dX12_givenIn_123 rfl ?_
                  refine z_iload dX12_givenIn_125 rfl ?_
                  refine z_icmp_ge (tgt := 137) dX12_givenIn_127 (by decide) (fun b127 => ?_) (fun b127 => ?_)
                  · refine z_iincN (k := h) dX12_givenIn_137 rfl rfl (by decide) rfl rfl ?_
                    refine z_goto (tgt := 9) dX12_givenIn_140 (by decide) ?_
                    have e9 : (dGiv σ rid q (h + 1)) = dGivS σ rid q h (dGiv σ rid q h) := rfl
                    refine zA.sub (ih (h + 1) (by omega) (by omega)) rfl ⟨Or.inr rfl, Or.inr rfl, Or.inr rfl, Or.inr ?_, Or.inr ?_, Or.inr rfl, Or.inl rfl, Or.inl rfl, trivial⟩
                    all_goals
                      rw [e9]
                      unfold dGivS
                      first
                      | (rw [if_pos (show dMay σ rid q h ∧ dBy σ h < _ from ⟨⟨b45, b60, c69⟩, by unfold dBy; first | (rw [if_pos b106]; exact Int32.not_le.mp b127) | (rw [if_neg b106]; exact Int32.not_le.mp b127)⟩)]
                         try unfold dBy
                         first | rfl | (rw [if_pos b106]; rfl) | (rw [if_neg b106]; rfl))
                      | (rw [if_neg (show ¬ (dMay σ rid q h ∧ dBy σ h < _) from fun z => absurd z.1.1 b45)]; rfl)
                      | (rw [if_neg (show ¬ (dMay σ rid q h ∧ dBy σ h < _) from fun z => absurd z.1.2.1 b60)]; rfl)
                      | (rw [if_neg (show ¬ (dMay σ rid q h ∧ dBy σ h < _) from fun z => absurd c69 z.1.2.2)]; rfl)
                      | (rw [if_neg (show ¬ (dMay σ rid q h ∧ dBy σ h < _) from fun z => absurd z.2 (by unfold dBy; first | (rw [if_pos b106]; exact Int32.not_lt.mpr b127) | (rw [if_neg b106]; exact Int32.not_lt.mpr b127)))]; rfl)
                  · refine z_iload dX12_givenIn_130 rfl ?_
                    refine z_istore_n dX12_givenIn_132 (by decide) rfl rfl ?_
                    refine z_iload dX12_givenIn_133 rfl ?_
                    refine z_istore dX12_givenIn_135 (by decide) rfl rfl ?_
                    refine z_iincN (k := h) dX12_givenIn_137 rfl rfl (by decide) rfl rfl ?_
                    refine z_goto (tgt := 9) dX12_givenIn_140 (by decide) ?_
                    have e9 : (dGiv σ rid q (h + 1)) = dGivS σ rid q h (dGiv σ rid q h) := rfl
                    refine zA.sub (ih (h + 1) (by omega) (by omega)) rfl ⟨Or.inr rfl, Or.inr rfl, Or.inr rfl, Or.inr ?_, Or.inr ?_, Or.inr rfl, Or.inl rfl, Or.inl rfl, trivial⟩
                    all_goals
                      rw [e9]
                      unfold dGivS
                      first
                      | (rw [if_pos (show dMay σ rid q h ∧ dBy σ h < _ from ⟨⟨b45, b60, c69⟩, by unfold dBy; first | (rw [if_pos b106]; exact Int32.not_le.mp b127) | (rw [if_neg b106]; exact Int32.not_le.mp b127)⟩)]
                         try unfold dBy
                         first | rfl | (rw [if_pos b106]; rfl) | (rw [if_neg b106]; rfl))
                      | (rw [if_neg (show ¬ (dMay σ rid q h ∧ dBy σ h < _) from fun z => absurd z.1.1 b45)]; rfl)
                      | (rw [if_neg (show ¬ (dMay σ rid q h ∧ dBy σ h < _) from fun z => absurd z.1.2.1 b60)]; rfl)
                      | (rw [if_neg (show ¬ (dMay σ rid q h ∧ dBy σ h < _) from fun z => absurd c69 z.1.2.2)]; rfl)
                      | (rw [if_neg (show ¬ (dMay σ rid q h ∧ dBy σ h < _) from fun z => absurd z.2 (by unfold dBy; first | (rw [if_pos b106]; exact Int32.not_lt.mpr b127) | (rw [if_neg b106]; exact Int32.not_lt.mpr b127)))]; rfl)

set_option maxRecDepth 100000 in
set_option maxHeartbeats 4000000 in
theorem c_X12_givenIn (g : zG) (l : Launch) {M : zM} {b : Nat} {σ : Dy} {rid led : Int32} {n r i q : Nat} (hb : b + 70 ≤ 910) (ok : dOK σ n r i) (hq : q < 4) : zMet g l yX12_givenIn cX12_givenIn 8 (some .int) 1 0 0 [.ref 127, .int (nI b), .int (nI q)] S0 (zMd M b σ rid led) (zQi (fun r' M' => r' = (dGiv σ rid q n).1 ∧ M' = (zMd M b σ rid led))) := by
  refine zMet.of (by decide) (Nat.le_of_ble_eq_true rfl) ?_
  refine z_iconst (v := (-1)) dX12_givenIn_0 (by decide) ?_
  refine z_istore_n dX12_givenIn_1 (by decide) rfl rfl ?_
  refine z_ldc lc_X12_184 dX12_givenIn_2 ?_
  refine z_istore dX12_givenIn_4 (by decide) rfl rfl ?_
  refine z_iconst (v := 0) dX12_givenIn_6 (by decide) ?_
  refine z_istore dX12_givenIn_7 (by decide) rfl rfl ?_
  exact lp_givenIn g l hb ok hq n 0 (Nat.zero_le _) (by omega)

set_option maxRecDepth 100000 in
set_option maxHeartbeats 4000000 in
theorem c_X12_rides (g : zG) (l : Launch) {M : zM} {b : Nat} {σ : Dy} {rid led : Int32} {n r i q : Nat} (hb : b + 70 ≤ 910) (ok : dOK σ n r i) (hq : q < r) : zMet g l yX12_rides cX12_rides 7 none 2 0 0 [.ref 127, .int (nI b), .int (nI q)] S0 (zMd M b σ rid led) (zQv (fun M' => M' = zMd M b (dRide σ rid q n).1 (dRide σ rid q n).2 led)) := by
  have n8 := ok.1.1
  have r4 := ok.1.2.1
  have i6 := ok.1.2.2.1
  obtain ⟨⟨a, ha, ea⟩, ⟨t, ht, et⟩⟩ := ok.2.2.1 q hq
  refine zMet.of (by decide) (Nat.le_of_ble_eq_true rfl) ?_
  refine z_aload_n dX12_rides_0 rfl ?_
  refine z_iload_n dX12_rides_1 rfl ?_
  refine z_iload_n dX12_rides_2 rfl ?_
  refine z_iV2 (c_X12_givenIn g l hb ok (by omega)) mw_X12_givenIn lm_X12_192 mi_X12_givenIn mv_X12_givenIn kX12 (by decide) (Nat.le_of_ble_eq_true rfl) zle k0_127 s0_127 dX12_rides_3 (fun r3 M3 q3 => ?_)
  obtain ⟨rfl, rfl⟩ := q3
  rcases dGiv_ran σ rid q n (by omega) with e3 | ⟨h, h1, e3, h2⟩
  · rw [e3]
    refine z_istore_n dX12_rides_6 (by decide) rfl rfl ?_
    refine z_iload_n dX12_rides_7 rfl ?_
    refine z_iconst (v := (-1)) dX12_rides_8 (by decide) ?_
    refine z_icmp_ne (tgt := 28) dX12_rides_9 (by decide) (fun b9 => ?_) (fun b9 => ?_)
    · exact absurd b9 (by decide)
    · refine z_aload_n dX12_rides_12 rfl ?_
      refine z_getR (j := 0) (r := 128) kX12 lf_X12_7 (by decide) rfl dX12_rides_13 k0_127 s0_127 r0_127_0 (by decide) ?_
      refine z_iload_n dX12_rides_16 rfl ?_
      refine z_bipush (v := 59) dX12_rides_17 (by decide) ?_
      refine z_iaddN (a := b) (b := 59) rfl rfl dX12_rides_19 ?_
      refine z_iload_n dX12_rides_20 rfl ?_
      refine z_iaddN (a := (b + 59)) (b := q) rfl rfl dX12_rides_21 ?_
      refine z_dup2 dX12_rides_22 rfl rfl ?_
      refine z_ialdV (j := ((b + 59) + q)) rfl (by omega) (zMd_g 59 q (by omega)) dX12_rides_23 k0_128 s0_128 ?_
      refine z_iconst (v := 1) dX12_rides_24 (by decide) ?_
      refine z_iadd dX12_rides_25 ?_
      refine z_iastV (j := ((b + 59) + q)) rfl (by omega) (zMd_s 59 q (by omega)) dX12_rides_26 k0_128 s0_128 ?_
      refine z_vret dX12_rides_27 zle ?_
      unfold dRide
      rw [if_pos e3]
  · rw [e3]
    have h8 : h < 8 := by omega
    refine z_istore_n dX12_rides_6 (by decide) rfl rfl ?_
    refine z_iload_n dX12_rides_7 rfl ?_
    refine z_iconst (v := (-1)) dX12_rides_8 (by decide) ?_
    refine z_icmp_ne (tgt := 28) dX12_rides_9 (by decide) (fun b9 => ?_) (fun b9 => ?_)
    · refine z_aload_n dX12_rides_28 rfl ?_
      refine z_getR (j := 0) (r := 128) kX12 lf_X12_7 (by decide) rfl dX12_rides_29 k0_127 s0_127 r0_127_0 (by decide) ?_
      refine z_iload_n dX12_rides_32 rfl ?_
      refine z_iconst (v := 3) dX12_rides_33 (by decide) ?_
      refine z_iaddN (a := b) (b := 3) rfl rfl dX12_rides_34 ?_
      refine z_iload_n dX12_rides_35 rfl ?_
      refine z_iaddN (a := (b + 3)) (b := h) rfl rfl dX12_rides_36 ?_
      refine z_ialdV (j := ((b + 3) + h)) rfl (by omega) (zMd_g 3 h (by omega)) dX12_rides_37 k0_128 s0_128 ?_
      refine z_istore dX12_rides_38 (by decide) rfl rfl ?_
      refine z_aload_n dX12_rides_40 rfl ?_
      refine z_dup dX12_rides_41 rfl ?_
      refine z_getIV (j := 28) kX12 lf_X12_185 (by decide) rfl zMd_rid dX12_rides_42 k0_127 s0_127 ?_
      refine z_iconst (v := 1) dX12_rides_45 (by decide) ?_
      refine z_iload_n dX12_rides_46 rfl ?_
      refine z_ishl dX12_rides_47 ?_
      refine z_ior dX12_rides_48 ?_
      refine z_putIV (j := 28) kX12 lf_X12_185 (by decide) rfl rfl (kX12.2.2.1 28 (by decide)) rfl rfl zMd_sr dX12_rides_49 k0_127 s0_127 ?_
      refine z_aload_n dX12_rides_52 rfl ?_
      refine z_getR (j := 0) (r := 128) kX12 lf_X12_7 (by decide) rfl dX12_rides_53 k0_127 s0_127 r0_127_0 (by decide) ?_
      refine z_iload_n dX12_rides_56 rfl ?_
      refine z_bipush (v := 43) dX12_rides_57 (by decide) ?_
      refine z_iaddN (a := b) (b := 43) rfl rfl dX12_rides_59 ?_
      refine z_iload_n dX12_rides_60 rfl ?_
      refine z_iaddN (a := (b + 43)) (b := h) rfl rfl dX12_rides_61 ?_
      refine z_dup2 dX12_rides_62 rfl rfl ?_
      refine z_ialdV (j := ((b + 43) + h)) rfl (by omega) (zMd_g 43 h (by omega)) dX12_rides_63 k0_128 s0_128 ?_
      refine z_iconst (v := 1) dX12_rides_64 (by decide) ?_
      refine z_iadd dX12_rides_65 ?_
      refine z_iastV (j := ((b + 43) + h)) rfl (by omega) (zMd_s 43 h (by omega)) dX12_rides_66 k0_128 s0_128 ?_
      refine z_iload dX12_rides_67 rfl ?_
      refine z_iconst (v := 1) dX12_rides_69 (by decide) ?_
      refine z_icmp_ne (tgt := 112) dX12_rides_70 (by decide) (fun b70 => ?_) (fun b70 => ?_)
      · refine z_aload_n dX12_rides_112 rfl ?_
        refine z_getR (j := 0) (r := 128) kX12 lf_X12_7 (by decide) rfl dX12_rides_113 k0_127 s0_127 r0_127_0 (by decide) ?_
        refine z_iload_n dX12_rides_116 rfl ?_
        refine z_bipush (v := 51) dX12_rides_117 (by decide) ?_
        refine z_iaddN (a := b) (b := 51) rfl rfl dX12_rides_119 ?_
        refine z_iload_n dX12_rides_120 rfl ?_
        refine z_iaddN (a := (b + 51)) (b := q) rfl rfl dX12_rides_121 ?_
        refine z_ialdV (j := ((b + 51) + q)) rfl (by omega) (((zMd_g 51 q (by omega)).trans (upd_n _ _ (by omega))).trans ea) dX12_rides_122 k0_128 s0_128 ?_
        refine z_istore dX12_rides_123 (by decide) rfl rfl ?_
        refine z_aload_n dX12_rides_125 rfl ?_
        refine z_iload_n dX12_rides_126 rfl ?_
        refine z_iload dX12_rides_127 rfl ?_
        refine z_aload_n dX12_rides_129 rfl ?_
        refine z_getR (j := 0) (r := 128) kX12 lf_X12_7 (by decide) rfl dX12_rides_130 k0_127 s0_127 r0_127_0 (by decide) ?_
        refine z_iload_n dX12_rides_133 rfl ?_
        refine z_bipush (v := 55) dX12_rides_134 (by decide) ?_
        refine z_iaddN (a := b) (b := 55) rfl rfl dX12_rides_136 ?_
        refine z_iload_n dX12_rides_137 rfl ?_
        refine z_iaddN (a := (b + 55)) (b := q) rfl rfl dX12_rides_138 ?_
        refine z_ialdV (j := ((b + 55) + q)) rfl (by omega) (((zMd_g 55 q (by omega)).trans (upd_n _ _ (by omega))).trans et) dX12_rides_139 k0_128 s0_128 ?_
        refine z_iV3 (c_X12_milesOn g l hb (by omega) (fun z => by have := (nI_ltI (by omega) (by omega)).mp z; omega)) mw_X12_milesOn lm_X12_199 mi_X12_milesOn mv_X12_milesOn kX12 (by decide) (Nat.le_of_ble_eq_true rfl) zle k0_127 s0_127 dX12_rides_140 (fun r140 M140 q140 => ?_)
        obtain ⟨rfl, rfl⟩ := q140
        rw [dMiles_rid h8]
        refine z_istore dX12_rides_143 (by decide) rfl rfl ?_
        refine z_aload_n dX12_rides_145 rfl ?_
        refine z_getR (j := 0) (r := 128) kX12 lf_X12_7 (by decide) rfl dX12_rides_146 k0_127 s0_127 r0_127_0 (by decide) ?_
        refine z_iload_n dX12_rides_149 rfl ?_
        refine z_bipush (v := 51) dX12_rides_150 (by decide) ?_
        refine z_iaddN (a := b) (b := 51) rfl rfl dX12_rides_152 ?_
        refine z_iload_n dX12_rides_153 rfl ?_
        refine z_iaddN (a := (b + 51)) (b := q) rfl rfl dX12_rides_154 ?_
        refine z_iload dX12_rides_155 rfl ?_
        refine z_aload_n dX12_rides_157 rfl ?_
        refine z_getR (j := 0) (r := 128) kX12 lf_X12_7 (by decide) rfl dX12_rides_158 k0_127 s0_127 r0_127_0 (by decide) ?_
        refine z_iload_n dX12_rides_161 rfl ?_
        refine z_bipush (v := 55) dX12_rides_162 (by decide) ?_
        refine z_iaddN (a := b) (b := 55) rfl rfl dX12_rides_164 ?_
        refine z_iload_n dX12_rides_165 rfl ?_
        refine z_iaddN (a := (b + 55)) (b := q) rfl rfl dX12_rides_166 ?_
        refine z_ialdV (j := ((b + 55) + q)) rfl (by omega) (((zMd_g 55 q (by omega)).trans (upd_n _ _ (by omega))).trans et) dX12_rides_167 k0_128 s0_128 ?_
        refine z_iS2 (c_X12_next g l) mw_X12_next lm_X12_203 ms_X12_next (by decide) (Nat.le_of_ble_eq_true rfl) zle dX12_rides_168 (fun r168 M168 q168 => ?_)
        obtain ⟨rfl, rfl⟩ := q168
        refine z_iastV (j := ((b + 51) + q)) rfl (by omega) (zMd_s 51 q (by omega)) dX12_rides_171 k0_128 s0_128 ?_
        refine z_aload_n dX12_rides_172 rfl ?_
        refine z_getR (j := 0) (r := 128) kX12 lf_X12_7 (by decide) rfl dX12_rides_173 k0_127 s0_127 r0_127_0 (by decide) ?_
        refine z_iload_n dX12_rides_176 rfl ?_
        refine z_bipush (v := 19) dX12_rides_177 (by decide) ?_
        refine z_iaddN (a := b) (b := 19) rfl rfl dX12_rides_179 ?_
        refine z_iload_n dX12_rides_180 rfl ?_
        refine z_iaddN (a := (b + 19)) (b := h) rfl rfl dX12_rides_181 ?_
        refine z_aload_n dX12_rides_182 rfl ?_
        refine z_getR (j := 0) (r := 128) kX12 lf_X12_7 (by decide) rfl dX12_rides_183 k0_127 s0_127 r0_127_0 (by decide) ?_
        refine z_iload_n dX12_rides_186 rfl ?_
        refine z_bipush (v := 51) dX12_rides_187 (by decide) ?_
        refine z_iaddN (a := b) (b := 51) rfl rfl dX12_rides_189 ?_
        refine z_iload_n dX12_rides_190 rfl ?_
        refine z_iaddN (a := (b + 51)) (b := q) rfl rfl dX12_rides_191 ?_
        refine z_ialdV (j := ((b + 51) + q)) rfl (by omega) ((zMd_g 51 q (by omega)).trans (upd_s _ _ _)) dX12_rides_192 k0_128 s0_128 ?_
        refine z_iastV (j := ((b + 19) + h)) rfl (by omega) (zMd_s 19 h (by omega)) dX12_rides_193 k0_128 s0_128 ?_
        refine z_aload_n dX12_rides_194 rfl ?_
        refine z_getR (j := 0) (r := 128) kX12 lf_X12_7 (by decide) rfl dX12_rides_195 k0_127 s0_127 r0_127_0 (by decide) ?_
        refine z_iload_n dX12_rides_198 rfl ?_
        refine z_bipush (v := 59) dX12_rides_199 (by decide) ?_
        refine z_iaddN (a := b) (b := 59) rfl rfl dX12_rides_201 ?_
        refine z_iload_n dX12_rides_202 rfl ?_
        refine z_iaddN (a := (b + 59)) (b := q) rfl rfl dX12_rides_203 ?_
        refine z_dup2 dX12_rides_204 rfl rfl ?_
        refine z_ialdV (j := ((b + 59) + q)) rfl (by omega) ((zMd_g 59 q (by omega)).trans ((upd_n _ _ (by omega)).trans ((upd_n _ _ (by omega)).trans (upd_n _ _ (by omega))))) dX12_rides_205 k0_128 s0_128 ?_
        refine z_iload dX12_rides_206 rfl ?_
        refine z_iload dX12_rides_208 rfl ?_
        refine z_iS2 (c_X12_takes g l) mw_X12_takes lm_X12_180 ms_X12_takes (by decide) (Nat.le_of_ble_eq_true rfl) zle dX12_rides_210 (fun r210 M210 q210 => ?_)
        obtain ⟨rfl, rfl⟩ := q210
        refine z_iadd dX12_rides_213 ?_
        refine z_iastV (j := ((b + 59) + q)) rfl (by omega) (zMd_s 59 q (by omega)) dX12_rides_214 k0_128 s0_128 ?_
        refine z_aload_n dX12_rides_215 rfl ?_
        refine z_iload_n dX12_rides_216 rfl ?_
        refine z_iload_n dX12_rides_217 rfl ?_
        refine z_iload dX12_rides_218 rfl ?_
        refine z_iload dX12_rides_220 rfl ?_
        refine z_iS2 (c_X12_tires g l) mw_X12_tires lm_X12_206 ms_X12_tires (by decide) (Nat.le_of_ble_eq_true rfl) zle dX12_rides_222 (fun r222 M222 q222 => ?_)
        obtain ⟨rfl, rfl⟩ := q222
        refine z_vV3 (c_X12_tire g l hb h8) mw_X12_tire lm_X12_195 mi_X12_tire mv_X12_tire kX12 (by decide) (Nat.le_of_ble_eq_true rfl) zle k0_127 s0_127 dX12_rides_225 (fun M225 q225 => ?_)
        subst q225
        refine z_vret dX12_rides_228 zle ?_
        unfold dRide
        rw [if_neg (by rw [e3]; exact nI_nm1 (by omega)), e3, nI_clamp (by omega)]
        unfold dRideH
        rw [if_neg (fun z => by first | exact b70 ((dThrows_iff h8).mp z).1 | exact b86 ((dThrows_iff h8).mp z).2), dGo_eq h8 (by omega), ea, et]
        rfl
      · refine z_aload_n dX12_rides_73 rfl ?_
        refine z_getR (j := 0) (r := 128) kX12 lf_X12_7 (by decide) rfl dX12_rides_74 k0_127 s0_127 r0_127_0 (by decide) ?_
        refine z_iload_n dX12_rides_77 rfl ?_
        refine z_bipush (v := 43) dX12_rides_78 (by decide) ?_
        refine z_iaddN (a := b) (b := 43) rfl rfl dX12_rides_80 ?_
        refine z_iload_n dX12_rides_81 rfl ?_
        refine z_iaddN (a := (b + 43)) (b := h) rfl rfl dX12_rides_82 ?_
        refine z_ialdV (j := ((b + 43) + h)) rfl (by omega) ((zMd_g 43 h (by omega)).trans (upd_s _ _ _)) dX12_rides_83 k0_128 s0_128 ?_
        refine z_iconst (v := 3) dX12_rides_84 (by decide) ?_
        refine z_irem dX12_rides_85 (by decide) ?_
        refine z_if_ne (tgt := 112) dX12_rides_86 (by decide) (fun b86 => ?_) (fun b86 => ?_)
        · refine z_aload_n dX12_rides_112 rfl ?_
          refine z_getR (j := 0) (r := 128) kX12 lf_X12_7 (by decide) rfl dX12_rides_113 k0_127 s0_127 r0_127_0 (by decide) ?_
          refine z_iload_n dX12_rides_116 rfl ?_
          refine z_bipush (v := 51) dX12_rides_117 (by decide) ?_
          refine z_iaddN (a := b) (b := 51) rfl rfl dX12_rides_119 ?_
          refine z_iload_n dX12_rides_120 rfl ?_
          refine z_iaddN (a := (b + 51)) (b := q) rfl rfl dX12_rides_121 ?_
          refine z_ialdV (j := ((b + 51) + q)) rfl (by omega) (((zMd_g 51 q (by omega)).trans (upd_n _ _ (by omega))).trans ea) dX12_rides_122 k0_128 s0_128 ?_
          refine z_istore dX12_rides_123 (by decide) rfl rfl ?_
          refine z_aload_n dX12_rides_125 rfl ?_
          refine z_iload_n dX12_rides_126 rfl ?_
          refine z_iload dX12_rides_127 rfl ?_
          refine z_aload_n dX12_rides_129 rfl ?_
          refine z_getR (j := 0) (r := 128) kX12 lf_X12_7 (by decide) rfl dX12_rides_130 k0_127 s0_127 r0_127_0 (by decide) ?_
          refine z_iload_n dX12_rides_133 rfl ?_
          refine z_bipush (v := 55) dX12_rides_134 (by decide) ?_
          refine z_iaddN (a := b) (b := 55) rfl rfl dX12_rides_136 ?_
          refine z_iload_n dX12_rides_137 rfl ?_
          refine z_iaddN (a := (b + 55)) (b := q) rfl rfl dX12_rides_138 ?_
          refine z_ialdV (j := ((b + 55) + q)) rfl (by omega) (((zMd_g 55 q (by omega)).trans (upd_n _ _ (by omega))).trans et) dX12_rides_139 k0_128 s0_128 ?_
          refine z_iV3 (c_X12_milesOn g l hb (by omega) (fun z => by have := (nI_ltI (by omega) (by omega)).mp z; omega)) mw_X12_milesOn lm_X12_199 mi_X12_milesOn mv_X12_milesOn kX12 (by decide) (Nat.le_of_ble_eq_true rfl) zle k0_127 s0_127 dX12_rides_140 (fun r140 M140 q140 => ?_)
          obtain ⟨rfl, rfl⟩ := q140
          rw [dMiles_rid h8]
          refine z_istore dX12_rides_143 (by decide) rfl rfl ?_
          refine z_aload_n dX12_rides_145 rfl ?_
          refine z_getR (j := 0) (r := 128) kX12 lf_X12_7 (by decide) rfl dX12_rides_146 k0_127 s0_127 r0_127_0 (by decide) ?_
          refine z_iload_n dX12_rides_149 rfl ?_
          refine z_bipush (v := 51) dX12_rides_150 (by decide) ?_
          refine z_iaddN (a := b) (b := 51) rfl rfl dX12_rides_152 ?_
          refine z_iload_n dX12_rides_153 rfl ?_
          refine z_iaddN (a := (b + 51)) (b := q) rfl rfl dX12_rides_154 ?_
          refine z_iload dX12_rides_155 rfl ?_
          refine z_aload_n dX12_rides_157 rfl ?_
          refine z_getR (j := 0) (r := 128) kX12 lf_X12_7 (by decide) rfl dX12_rides_158 k0_127 s0_127 r0_127_0 (by decide) ?_
          refine z_iload_n dX12_rides_161 rfl ?_
          refine z_bipush (v := 55) dX12_rides_162 (by decide) ?_
          refine z_iaddN (a := b) (b := 55) rfl rfl dX12_rides_164 ?_
          refine z_iload_n dX12_rides_165 rfl ?_
          refine z_iaddN (a := (b + 55)) (b := q) rfl rfl dX12_rides_166 ?_
          refine z_ialdV (j := ((b + 55) + q)) rfl (by omega) (((zMd_g 55 q (by omega)).trans (upd_n _ _ (by omega))).trans et) dX12_rides_167 k0_128 s0_128 ?_
          refine z_iS2 (c_X12_next g l) mw_X12_next lm_X12_203 ms_X12_next (by decide) (Nat.le_of_ble_eq_true rfl) zle dX12_rides_168 (fun r168 M168 q168 => ?_)
          obtain ⟨rfl, rfl⟩ := q168
          refine z_iastV (j := ((b + 51) + q)) rfl (by omega) (zMd_s 51 q (by omega)) dX12_rides_171 k0_128 s0_128 ?_
          refine z_aload_n dX12_rides_172 rfl ?_
          refine z_getR (j := 0) (r := 128) kX12 lf_X12_7 (by decide) rfl dX12_rides_173 k0_127 s0_127 r0_127_0 (by decide) ?_
          refine z_iload_n dX12_rides_176 rfl ?_
          refine z_bipush (v := 19) dX12_rides_177 (by decide) ?_
          refine z_iaddN (a := b) (b := 19) rfl rfl dX12_rides_179 ?_
          refine z_iload_n dX12_rides_180 rfl ?_
          refine z_iaddN (a := (b + 19)) (b := h) rfl rfl dX12_rides_181 ?_
          refine z_aload_n dX12_rides_182 rfl ?_
          refine z_getR (j := 0) (r := 128) kX12 lf_X12_7 (by decide) rfl dX12_rides_183 k0_127 s0_127 r0_127_0 (by decide) ?_
          refine z_iload_n dX12_rides_186 rfl ?_
          refine z_bipush (v := 51) dX12_rides_187 (by decide) ?_
          refine z_iaddN (a := b) (b := 51) rfl rfl dX12_rides_189 ?_
          refine z_iload_n dX12_rides_190 rfl ?_
          refine z_iaddN (a := (b + 51)) (b := q) rfl rfl dX12_rides_191 ?_
          refine z_ialdV (j := ((b + 51) + q)) rfl (by omega) ((zMd_g 51 q (by omega)).trans (upd_s _ _ _)) dX12_rides_192 k0_128 s0_128 ?_
          refine z_iastV (j := ((b + 19) + h)) rfl (by omega) (zMd_s 19 h (by omega)) dX12_rides_193 k0_128 s0_128 ?_
          refine z_aload_n dX12_rides_194 rfl ?_
          refine z_getR (j := 0) (r := 128) kX12 lf_X12_7 (by decide) rfl dX12_rides_195 k0_127 s0_127 r0_127_0 (by decide) ?_
          refine z_iload_n dX12_rides_198 rfl ?_
          refine z_bipush (v := 59) dX12_rides_199 (by decide) ?_
          refine z_iaddN (a := b) (b := 59) rfl rfl dX12_rides_201 ?_
          refine z_iload_n dX12_rides_202 rfl ?_
          refine z_iaddN (a := (b + 59)) (b := q) rfl rfl dX12_rides_203 ?_
          refine z_dup2 dX12_rides_204 rfl rfl ?_
          refine z_ialdV (j := ((b + 59) + q)) rfl (by omega) ((zMd_g 59 q (by omega)).trans ((upd_n _ _ (by omega)).trans ((upd_n _ _ (by omega)).trans (upd_n _ _ (by omega))))) dX12_rides_205 k0_128 s0_128 ?_
          refine z_iload dX12_rides_206 rfl ?_
          refine z_iload dX12_rides_208 rfl ?_
          refine z_iS2 (c_X12_takes g l) mw_X12_takes lm_X12_180 ms_X12_takes (by decide) (Nat.le_of_ble_eq_true rfl) zle dX12_rides_210 (fun r210 M210 q210 => ?_)
          obtain ⟨rfl, rfl⟩ := q210
          refine z_iadd dX12_rides_213 ?_
          refine z_iastV (j := ((b + 59) + q)) rfl (by omega) (zMd_s 59 q (by omega)) dX12_rides_214 k0_128 s0_128 ?_
          refine z_aload_n dX12_rides_215 rfl ?_
          refine z_iload_n dX12_rides_216 rfl ?_
          refine z_iload_n dX12_rides_217 rfl ?_
          refine z_iload dX12_rides_218 rfl ?_
          refine z_iload dX12_rides_220 rfl ?_
          refine z_iS2 (c_X12_tires g l) mw_X12_tires lm_X12_206 ms_X12_tires (by decide) (Nat.le_of_ble_eq_true rfl) zle dX12_rides_222 (fun r222 M222 q222 => ?_)
          obtain ⟨rfl, rfl⟩ := q222
          refine z_vV3 (c_X12_tire g l hb h8) mw_X12_tire lm_X12_195 mi_X12_tire mv_X12_tire kX12 (by decide) (Nat.le_of_ble_eq_true rfl) zle k0_127 s0_127 dX12_rides_225 (fun M225 q225 => ?_)
          subst q225
          refine z_vret dX12_rides_228 zle ?_
          unfold dRide
          rw [if_neg (by rw [e3]; exact nI_nm1 (by omega)), e3, nI_clamp (by omega)]
          unfold dRideH
          rw [if_neg (fun z => by first | exact b70 ((dThrows_iff h8).mp z).1 | exact b86 ((dThrows_iff h8).mp z).2), dGo_eq h8 (by omega), ea, et]
          rfl
        · refine z_aload_n dX12_rides_89 rfl ?_
          refine z_getR (j := 0) (r := 128) kX12 lf_X12_7 (by decide) rfl dX12_rides_90 k0_127 s0_127 r0_127_0 (by decide) ?_
          refine z_iload_n dX12_rides_93 rfl ?_
          refine z_bipush (v := 59) dX12_rides_94 (by decide) ?_
          refine z_iaddN (a := b) (b := 59) rfl rfl dX12_rides_96 ?_
          refine z_iload_n dX12_rides_97 rfl ?_
          refine z_iaddN (a := (b + 59)) (b := q) rfl rfl dX12_rides_98 ?_
          refine z_dup2 dX12_rides_99 rfl rfl ?_
          refine z_ialdV (j := ((b + 59) + q)) rfl (by omega) ((zMd_g 59 q (by omega)).trans (upd_n _ _ (by omega))) dX12_rides_100 k0_128 s0_128 ?_
          refine z_iconst (v := 2) dX12_rides_101 (by decide) ?_
          refine z_iadd dX12_rides_102 ?_
          refine z_iastV (j := ((b + 59) + q)) rfl (by omega) (zMd_s 59 q (by omega)) dX12_rides_103 k0_128 s0_128 ?_
          refine z_aload_n dX12_rides_104 rfl ?_
          refine z_iload_n dX12_rides_105 rfl ?_
          refine z_iload_n dX12_rides_106 rfl ?_
          refine z_iconst (v := 1) dX12_rides_107 (by decide) ?_
          refine z_vV3 (c_X12_tire g l hb h8) mw_X12_tire lm_X12_195 mi_X12_tire mv_X12_tire kX12 (by decide) (Nat.le_of_ble_eq_true rfl) zle k0_127 s0_127 dX12_rides_108 (fun M108 q108 => ?_)
          subst q108
          refine z_vret dX12_rides_111 zle ?_
          unfold dRide
          rw [if_neg (by rw [e3]; exact nI_nm1 (by omega)), e3, nI_clamp (by omega)]
          unfold dRideH
          rw [if_pos ((dThrows_iff h8).mpr ⟨b70, b86⟩)]
          rfl
    · exact absurd b9 (nI_nm1 (by omega))

set_option maxRecDepth 100000 in
set_option maxHeartbeats 4000000 in
theorem lp_leads (g : zG) (l : Launch) {M : zM} {b : Nat} {σ : Dy} {rid led : Int32} {n r i q : Nat} (hb : b + 70 ≤ 910) (ok : dOK σ n r i) (hq : q < i) : ∀ k : Nat, k ≤ n → zA g l yX12_leads cX12_leads 6 none 1 0 0 (zQv (fun M' => M' = zMd M b (dLead σ rid led q n).1 rid (dLead σ rid led q n).2)) 14 0 0 S0 (zMd M b σ rid led) [.ref 127, .int (nI b), .int (nI q), .int (dWho σ (rid ||| led) q k (n - k)), .int (nI k - 1), .null] [] := by
  have n8 := ok.1.1
  have r4 := ok.1.2.1
  have i6 := ok.1.2.2.1
  intro k
  induction k with
  | zero =>
    intro hk
    rw [Nat.sub_zero]
    rcases dWho_ran σ (rid ||| led) q n with e3 | ⟨h, h1, e3, h2⟩
    · rw [e3]
      refine z_iload dX12_leads_14 rfl ?_
      refine z_if_lt (tgt := 108) dX12_leads_16 (by decide) (fun b16 => ?_) (fun b16 => ?_)
      · refine z_iload_n dX12_leads_108 rfl ?_
        refine z_iconst (v := (-1)) dX12_leads_109 (by decide) ?_
        refine z_icmp_eq (tgt := 151) dX12_leads_110 (by decide) (fun b110 => ?_) (fun b110 => ?_)
        · refine z_vret dX12_leads_151 zle ?_
          unfold dLead
          first
            | rw [if_pos e3]
            | rw [if_neg (by rw [e3]; exact nI_nm1 (by omega)), e3, nI_clamp (by omega)]
        · exact absurd b110 (by decide)
      · exact absurd (show nI 0 - 1 < 0 by decide) b16
    · rw [e3]
      have h8 : h < 8 := by omega
      refine z_iload dX12_leads_14 rfl ?_
      refine z_if_lt (tgt := 108) dX12_leads_16 (by decide) (fun b16 => ?_) (fun b16 => ?_)
      · refine z_iload_n dX12_leads_108 rfl ?_
        refine z_iconst (v := (-1)) dX12_leads_109 (by decide) ?_
        refine z_icmp_eq (tgt := 151) dX12_leads_110 (by decide) (fun b110 => ?_) (fun b110 => ?_)
        · exact absurd b110 (nI_nm1 (by omega))
        · refine z_aload_n dX12_leads_113 rfl ?_
          refine z_dup dX12_leads_114 rfl ?_
          refine z_getIV (j := 29) kX12 lf_X12_209 (by decide) rfl zMd_led dX12_leads_115 k0_127 s0_127 ?_
          refine z_iconst (v := 1) dX12_leads_118 (by decide) ?_
          refine z_iload_n dX12_leads_119 rfl ?_
          refine z_ishl dX12_leads_120 ?_
          refine z_ior dX12_leads_121 ?_
          refine z_putIV (j := 29) kX12 lf_X12_209 (by decide) rfl rfl (kX12.2.2.1 29 (by decide)) rfl rfl zMd_sl dX12_leads_122 k0_127 s0_127 ?_
          refine z_aload_n dX12_leads_125 rfl ?_
          refine z_getR (j := 0) (r := 128) kX12 lf_X12_7 (by decide) rfl dX12_leads_126 k0_127 s0_127 r0_127_0 (by decide) ?_
          refine z_iload_n dX12_leads_129 rfl ?_
          refine z_bipush (v := 19) dX12_leads_130 (by decide) ?_
          refine z_iaddN (a := b) (b := 19) rfl rfl dX12_leads_132 ?_
          refine z_iload_n dX12_leads_133 rfl ?_
          refine z_iaddN (a := (b + 19)) (b := h) rfl rfl dX12_leads_134 ?_
          refine z_iload_n dX12_leads_135 rfl ?_
          refine z_aload_n dX12_leads_136 rfl ?_
          refine z_getR (j := 0) (r := 128) kX12 lf_X12_7 (by decide) rfl dX12_leads_137 k0_127 s0_127 r0_127_0 (by decide) ?_
          refine z_iload_n dX12_leads_140 rfl ?_
          refine z_bipush (v := 11) dX12_leads_141 (by decide) ?_
          refine z_iaddN (a := b) (b := 11) rfl rfl dX12_leads_143 ?_
          refine z_iload_n dX12_leads_144 rfl ?_
          refine z_iaddN (a := (b + 11)) (b := h) rfl rfl dX12_leads_145 ?_
          refine z_ialdV (j := ((b + 11) + h)) rfl (by omega) (zMd_g 11 h (by omega)) dX12_leads_146 k0_128 s0_128 ?_
          refine z_iS2 (c_X12_next g l) mw_X12_next lm_X12_203 ms_X12_next (by decide) (Nat.le_of_ble_eq_true rfl) zle dX12_leads_147 (fun r147 M147 q147 => ?_)
          obtain ⟨rfl, rfl⟩ := q147
          refine z_iastV (j := ((b + 19) + h)) rfl (by omega) (zMd_s 19 h (by omega)) dX12_leads_150 k0_128 s0_128 ?_
          refine z_vret dX12_leads_151 zle ?_
          unfold dLead
          first
            | rw [if_pos e3]
            | rw [if_neg (by rw [e3]; exact nI_nm1 (by omega)), e3, nI_clamp (by omega)]
      · exact absurd (show nI 0 - 1 < 0 by decide) b16
  | succ k ih =>
    intro hk
    rw [nI_pred]
    have hkn : k < n := by omega
    refine z_iload dX12_leads_14 rfl ?_
    refine z_if_lt (tgt := 108) dX12_leads_16 (by decide) (fun b16 => ?_) (fun b16 => ?_)
    · exact absurd b16 (nI_pos (by omega))
    · refine z_aload_n dX12_leads_19 rfl ?_
      refine z_getR (j := 0) (r := 128) kX12 lf_X12_7 (by decide) rfl dX12_leads_20 k0_127 s0_127 r0_127_0 (by decide) ?_
      refine z_iload_n dX12_leads_23 rfl ?_
      refine z_bipush (v := 19) dX12_leads_24 (by decide) ?_
      refine z_iaddN (a := b) (b := 19) rfl rfl dX12_leads_26 ?_
      refine z_iload dX12_leads_27 rfl ?_
      refine z_iaddN (a := (b + 19)) (b := k) rfl rfl dX12_leads_29 ?_
      refine z_ialdV (j := ((b + 19) + k)) rfl (by omega) (zMd_g 19 k (by omega)) dX12_leads_30 k0_128 s0_128 ?_
      refine z_iload_n dX12_leads_31 rfl ?_
      refine z_icmp_ne (tgt := 87) dX12_leads_32 (by decide) (fun b32 => ?_) (fun b32 => ?_)
      · refine z_iconst (v := 0) dX12_leads_87 (by decide) ?_
        refine z_istore dX12_leads_88 (by decide) rfl rfl ?_
        refine z_iload dX12_leads_90 rfl ?_
        refine z_if_eq (tgt := 100) dX12_leads_92 (by decide) (fun b92 => ?_) (fun b92 => ?_)
        · refine z_iload_n dX12_leads_100 rfl ?_
          refine z_istore_n dX12_leads_101 (by decide) rfl rfl ?_
          refine z_iinc (v := nI k - 1) dX12_leads_102 rfl (nI_dec _) (by decide) rfl rfl ?_
          refine z_goto (tgt := 14) dX12_leads_105 (by decide) ?_
          have e9 : n - k = n - (k + 1) + 1 := by omega
          refine zA.sub (ih (by omega)) rfl ⟨Or.inr rfl, Or.inr rfl, Or.inr rfl, Or.inr (congrArg (fun z => some (Value.int z)) ?_), Or.inr rfl, Or.inl rfl, trivial⟩
          rw [e9]
          show _ = frst _ k _
          unfold frst
          first
            | rw [if_pos (decide_eq_true (show dLeadOk σ (rid ||| led) q k from ⟨b32, b48, b63, c77⟩))]
            | rw [if_neg (show ¬ decide (dLeadOk σ (rid ||| led) q k) = true from fun z => absurd (of_decide_eq_true z).1 b32)]; rfl
            | rw [if_neg (show ¬ decide (dLeadOk σ (rid ||| led) q k) = true from fun z => absurd b48 (of_decide_eq_true z).2.1)]; rfl
            | rw [if_neg (show ¬ decide (dLeadOk σ (rid ||| led) q k) = true from fun z => absurd (of_decide_eq_true z).2.2.1 b63)]; rfl
            | rw [if_neg (show ¬ decide (dLeadOk σ (rid ||| led) q k) = true from fun z => absurd c77 (of_decide_eq_true z).2.2.2)]; rfl
        · exact absurd b92 (by decide)
      · refine z_aload_n dX12_leads_35 rfl ?_
        refine z_getR (j := 0) (r := 128) kX12 lf_X12_7 (by decide) rfl dX12_leads_36 k0_127 s0_127 r0_127_0 (by decide) ?_
        refine z_iload_n dX12_leads_39 rfl ?_
        refine z_bipush (v := 11) dX12_leads_40 (by decide) ?_
        refine z_iaddN (a := b) (b := 11) rfl rfl dX12_leads_42 ?_
        refine z_iload dX12_leads_43 rfl ?_
        refine z_iaddN (a := (b + 11)) (b := k) rfl rfl dX12_leads_45 ?_
        refine z_ialdV (j := ((b + 11) + k)) rfl (by omega) (zMd_g 11 k (by omega)) dX12_leads_46 k0_128 s0_128 ?_
        refine z_iload_n dX12_leads_47 rfl ?_
        refine z_icmp_eq (tgt := 87) dX12_leads_48 (by decide) (fun b48 => ?_) (fun b48 => ?_)
        · refine z_iconst (v := 0) dX12_leads_87 (by decide) ?_
          refine z_istore dX12_leads_88 (by decide) rfl rfl ?_
          refine z_iload dX12_leads_90 rfl ?_
          refine z_if_eq (tgt := 100) dX12_leads_92 (by decide) (fun b92 => ?_) (fun b92 => ?_)
          · refine z_iload_n dX12_leads_100 rfl ?_
            refine z_istore_n dX12_leads_101 (by decide) rfl rfl ?_
            refine z_iinc (v := nI k - 1) dX12_leads_102 rfl (nI_dec _) (by decide) rfl rfl ?_
            refine z_goto (tgt := 14) dX12_leads_105 (by decide) ?_
            have e9 : n - k = n - (k + 1) + 1 := by omega
            refine zA.sub (ih (by omega)) rfl ⟨Or.inr rfl, Or.inr rfl, Or.inr rfl, Or.inr (congrArg (fun z => some (Value.int z)) ?_), Or.inr rfl, Or.inl rfl, trivial⟩
            rw [e9]
            show _ = frst _ k _
            unfold frst
            first
              | rw [if_pos (decide_eq_true (show dLeadOk σ (rid ||| led) q k from ⟨b32, b48, b63, c77⟩))]
              | rw [if_neg (show ¬ decide (dLeadOk σ (rid ||| led) q k) = true from fun z => absurd (of_decide_eq_true z).1 b32)]; rfl
              | rw [if_neg (show ¬ decide (dLeadOk σ (rid ||| led) q k) = true from fun z => absurd b48 (of_decide_eq_true z).2.1)]; rfl
              | rw [if_neg (show ¬ decide (dLeadOk σ (rid ||| led) q k) = true from fun z => absurd (of_decide_eq_true z).2.2.1 b63)]; rfl
              | rw [if_neg (show ¬ decide (dLeadOk σ (rid ||| led) q k) = true from fun z => absurd c77 (of_decide_eq_true z).2.2.2)]; rfl
          · exact absurd b92 (by decide)
        · refine z_aload_n dX12_leads_51 rfl ?_
          refine z_getR (j := 0) (r := 128) kX12 lf_X12_7 (by decide) rfl dX12_leads_52 k0_127 s0_127 r0_127_0 (by decide) ?_
          refine z_iload_n dX12_leads_55 rfl ?_
          refine z_bipush (v := 35) dX12_leads_56 (by decide) ?_
          refine z_iaddN (a := b) (b := 35) rfl rfl dX12_leads_58 ?_
          refine z_iload dX12_leads_59 rfl ?_
          refine z_iaddN (a := (b + 35)) (b := k) rfl rfl dX12_leads_61 ?_
          refine z_ialdV (j := ((b + 35) + k)) rfl (by omega) (zMd_g 35 k (by omega)) dX12_leads_62 k0_128 s0_128 ?_
          refine z_if_ne (tgt := 87) dX12_leads_63 (by decide) (fun b63 => ?_) (fun b63 => ?_)
          · refine z_iconst (v := 0) dX12_leads_87 (by decide) ?_
            refine z_istore dX12_leads_88 (by decide) rfl rfl ?_
            refine z_iload dX12_leads_90 rfl ?_
            refine z_if_eq (tgt := 100) dX12_leads_92 (by decide) (fun b92 => ?_) (fun b92 => ?_)
            · refine z_iload_n dX12_leads_100 rfl ?_
              refine z_istore_n dX12_leads_101 (by decide) rfl rfl ?_
              refine z_iinc (v := nI k - 1) dX12_leads_102 rfl (nI_dec _) (by decide) rfl rfl ?_
              refine z_goto (tgt := 14) dX12_leads_105 (by decide) ?_
              have e9 : n - k = n - (k + 1) + 1 := by omega
              refine zA.sub (ih (by omega)) rfl ⟨Or.inr rfl, Or.inr rfl, Or.inr rfl, Or.inr (congrArg (fun z => some (Value.int z)) ?_), Or.inr rfl, Or.inl rfl, trivial⟩
              rw [e9]
              show _ = frst _ k _
              unfold frst
              first
                | rw [if_pos (decide_eq_true (show dLeadOk σ (rid ||| led) q k from ⟨b32, b48, b63, c77⟩))]
                | rw [if_neg (show ¬ decide (dLeadOk σ (rid ||| led) q k) = true from fun z => absurd (of_decide_eq_true z).1 b32)]; rfl
                | rw [if_neg (show ¬ decide (dLeadOk σ (rid ||| led) q k) = true from fun z => absurd b48 (of_decide_eq_true z).2.1)]; rfl
                | rw [if_neg (show ¬ decide (dLeadOk σ (rid ||| led) q k) = true from fun z => absurd (of_decide_eq_true z).2.2.1 b63)]; rfl
                | rw [if_neg (show ¬ decide (dLeadOk σ (rid ||| led) q k) = true from fun z => absurd c77 (of_decide_eq_true z).2.2.2)]; rfl
            · exact absurd b92 (by decide)
          · refine z_aload_n dX12_leads_66 rfl ?_
            refine z_getIV (j := 28) kX12 lf_X12_185 (by decide) rfl zMd_rid dX12_leads_67 k0_127 s0_127 ?_
            refine z_aload_n dX12_leads_70 rfl ?_
            refine z_getIV (j := 29) kX12 lf_X12_209 (by decide) rfl zMd_led dX12_leads_71 k0_127 s0_127 ?_
            refine z_ior dX12_leads_74 ?_
            refine z_iload dX12_leads_75 rfl ?_
            refine z_iS2 (c_X12_has g l) mw_X12_has lm_X12_188 ms_X12_has (by decide) (Nat.le_of_ble_eq_true rfl) zle dX12_leads_77 (fun r77 M77 q77 => ?_)
            obtain ⟨rfl, ⟨c77, rfl⟩ | ⟨c77, rfl⟩⟩ := q77
            · refine z_if_ne (tgt := 87) dX12_leads_80 (by decide) (fun b80 => ?_) (fun b80 => ?_)
              · refine z_iconst (v := 0) dX12_leads_87 (by decide) ?_
                refine z_istore dX12_leads_88 (by decide) rfl rfl ?_
                refine z_iload dX12_leads_90 rfl ?_
                refine z_if_eq (tgt := 100) dX12_leads_92 (by decide) (fun b92 => ?_) (fun b92 => ?_)
                · refine z_iload_n dX12_leads_100 rfl ?_
                  refine z_istore_n dX12_leads_101 (by decide) rfl rfl ?_
                  refine z_iinc (v := nI k - 1) dX12_leads_102 rfl (nI_dec _) (by decide) rfl rfl ?_
                  refine z_goto (tgt := 14) dX12_leads_105 (by decide) ?_
                  have e9 : n - k = n - (k + 1) + 1 := by omega
                  refine zA.sub (ih (by omega)) rfl ⟨Or.inr rfl, Or.inr rfl, Or.inr rfl, Or.inr (congrArg (fun z => some (Value.int z)) ?_), Or.inr rfl, Or.inl rfl, trivial⟩
                  rw [e9]
                  show _ = frst _ k _
                  unfold frst
                  first
                    | rw [if_pos (decide_eq_true (show dLeadOk σ (rid ||| led) q k from ⟨b32, b48, b63, c77⟩))]
                    | rw [if_neg (show ¬ decide (dLeadOk σ (rid ||| led) q k) = true from fun z => absurd (of_decide_eq_true z).1 b32)]; rfl
                    | rw [if_neg (show ¬ decide (dLeadOk σ (rid ||| led) q k) = true from fun z => absurd b48 (of_decide_eq_true z).2.1)]; rfl
                    | rw [if_neg (show ¬ decide (dLeadOk σ (rid ||| led) q k) = true from fun z => absurd (of_decide_eq_true z).2.2.1 b63)]; rfl
                    | rw [if_neg (show ¬ decide (dLeadOk σ (rid ||| led) q k) = true from fun z => absurd c77 (of_decide_eq_true z).2.2.2)]; rfl
                · exact absurd b92 (by decide)
              · exact absurd b80 (by decide)
            · refine z_if_ne (tgt := 87) dX12_leads_80 (by decide) (fun b80 => ?_) (fun b80 => ?_)
              · exact absurd b80 (by decide)
              · refine z_iconst (v := 1) dX12_leads_83 (by decide) ?_
                refine z_goto (tgt := 88) dX12_leads_84 (by decide) ?_
                refine z_istore dX12_leads_88 (by decide) rfl rfl ?_
                refine z_iload dX12_leads_90 rfl ?_
                refine z_if_eq (tgt := 100) dX12_leads_92 (by decide) (fun b92 => ?_) (fun b92 => ?_)
                · exact absurd b92 (by decide)
                · refine z_iload dX12_leads_95 rfl ?_
                  refine z_goto (tgt := 101) dX12_leads_97 (by decide) ?_
                  refine z_istore_n dX12_leads_101 (by decide) rfl rfl ?_
                  refine z_iinc (v := nI k - 1) dX12_leads_102 rfl (nI_dec _) (by decide) rfl rfl ?_
                  refine z_goto (tgt := 14) dX12_leads_105 (by decide) ?_
                  have e9 : n - k = n - (k + 1) + 1 := by omega
                  refine zA.sub (ih (by omega)) rfl ⟨Or.inr rfl, Or.inr rfl, Or.inr rfl, Or.inr (congrArg (fun z => some (Value.int z)) ?_), Or.inr rfl, Or.inl rfl, trivial⟩
                  rw [e9]
                  show _ = frst _ k _
                  unfold frst
                  first
                    | rw [if_pos (decide_eq_true (show dLeadOk σ (rid ||| led) q k from ⟨b32, b48, b63, c77⟩))]
                    | rw [if_neg (show ¬ decide (dLeadOk σ (rid ||| led) q k) = true from fun z => absurd (of_decide_eq_true z).1 b32)]; rfl
                    | rw [if_neg (show ¬ decide (dLeadOk σ (rid ||| led) q k) = true from fun z => absurd b48 (of_decide_eq_true z).2.1)]; rfl
                    | rw [if_neg (show ¬ decide (dLeadOk σ (rid ||| led) q k) = true from fun z => absurd (of_decide_eq_true z).2.2.1 b63)]; rfl
                    | rw [if_neg (show ¬ decide (dLeadOk σ (rid ||| led) q k) = true from fun z => absurd c77 (of_decide_eq_true z).2.2.2)]; rfl

set_option maxRecDepth 100000 in
set_option maxHeartbeats 4000000 in
theorem c_X12_leads (g : zG) (l : Launch) {M : zM} {b : Nat} {σ : Dy} {rid led : Int32} {n r i q : Nat} (hb : b + 70 ≤ 910) (ok : dOK σ n r i) (hq : q < i) : zMet g l yX12_leads cX12_leads 6 none 1 0 0 [.ref 127, .int (nI b), .int (nI q)] S0 (zMd M b σ rid led) (zQv (fun M' => M' = zMd M b (dLead σ rid led q n).1 rid (dLead σ rid led q n).2)) := by
  have n8 := ok.1.1
  have r4 := ok.1.2.1
  have i6 := ok.1.2.2.1
  refine zMet.of (by decide) (Nat.le_of_ble_eq_true rfl) ?_
  refine z_iconst (v := (-1)) dX12_leads_0 (by decide) ?_
  refine z_istore_n dX12_leads_1 (by decide) rfl rfl ?_
  refine z_aload_n dX12_leads_2 rfl ?_
  refine z_getR (j := 0) (r := 128) kX12 lf_X12_7 (by decide) rfl dX12_leads_3 k0_127 s0_127 r0_127_0 (by decide) ?_
  refine z_iload_n dX12_leads_6 rfl ?_
  refine z_iconst (v := 0) dX12_leads_7 (by decide) ?_
  refine z_iaddN (a := b) (b := 0) rfl rfl dX12_leads_8 ?_
  refine z_ialdV (j := (b + 0)) rfl (by omega) ((zMd_g0 0 (by decide)).trans ok.1.2.2.2.1) dX12_leads_9 k0_128 s0_128 ?_
  refine z_iconst (v := 1) dX12_leads_10 (by decide) ?_
  refine z_isub dX12_leads_11 ?_
  refine z_istore dX12_leads_12 (by decide) rfl rfl ?_
  have h0 := lp_leads g l hb ok hq (led := led) (rid := rid) (M := M) n (Nat.le_refl _)
  rw [Nat.sub_self] at h0
  exact h0

set_option maxRecDepth 100000 in
set_option maxHeartbeats 4000000 in
theorem lp_restAll (g : zG) (l : Launch) {M : zM} {b : Nat} {σ : Dy} {rid led : Int32} {n r i : Nat} (hb : b + 70 ≤ 910) (ok : dOK σ n r i) : ∀ (k h : Nat), h ≤ n → n - h < k → zA g l yX12_restAll cX12_restAll 4 none 1 0 0 (zQv (fun M' => M' = zMd M b (dRests σ rid n) rid led)) 2 0 0 S0 (zMd M b (dRests σ rid h) rid led) [.ref 127, .int (nI b), .int (nI h), .null] [] := by
  have n8 := ok.1.1
  have r4 := ok.1.2.1
  have i6 := ok.1.2.2.1
  intro k
  induction k with
  | zero => exact fun h hh hk => absurd hk (Nat.not_lt_zero _)
  | succ k ih =>
    intro h hh hk
    have ok1 := dRests_ok (rid := rid) ok h hh
    refine z_iload_n dX12_restAll_2 rfl ?_
    refine z_aload_n dX12_restAll_3 rfl ?_
    refine z_getR (j := 0) (r := 128) kX12 lf_X12_7 (by decide) rfl dX12_restAll_4 k0_127 s0_127 r0_127_0 (by decide) ?_
    refine z_iload_n dX12_restAll_7 rfl ?_
    refine z_iconst (v := 0) dX12_restAll_8 (by decide) ?_
    refine z_iaddN (a := b) (b := 0) rfl rfl dX12_restAll_9 ?_
    refine z_ialdV (j := (b + 0)) rfl (by omega) ((zMd_g0 0 (by decide)).trans ok1.1.2.2.2.1) dX12_restAll_10 k0_128 s0_128 ?_
    refine z_icmp_ge (tgt := 126) dX12_restAll_11 (by decide) (fun b11 => ?_) (fun b11 => ?_)
    · have e : n ≤ h := (nI_leI (by omega) (by omega)).mp b11
      have e2 : h = n := by omega
      subst e2
      exact z_vret dX12_restAll_126 zle (rfl)
    · have hn : h < n := by
        rcases Nat.lt_or_ge h n with z | z
        · exact z
        · exact absurd (nI_le z (by omega)) b11
      refine z_aload_n dX12_restAll_14 rfl ?_
      refine z_getIV (j := 28) kX12 lf_X12_185 (by decide) rfl zMd_rid dX12_restAll_15 k0_127 s0_127 ?_
      refine z_iload_n dX12_restAll_18 rfl ?_
      refine z_iS2 (c_X12_has g l) mw_X12_has lm_X12_188 ms_X12_has (by decide) (Nat.le_of_ble_eq_true rfl) zle dX12_restAll_19 (fun r19 M19 q19 => ?_)
      obtain ⟨rfl, ⟨c19, rfl⟩ | ⟨c19, rfl⟩⟩ := q19
      · refine z_if_ne (tgt := 120) dX12_restAll_22 (by decide) (fun b22 => ?_) (fun b22 => ?_)
        · refine z_iincN (k := h) dX12_restAll_120 rfl rfl (by decide) rfl rfl ?_
          refine z_goto (tgt := 2) dX12_restAll_123 (by decide) ?_
          refine zA.sub (ih (h + 1) (by omega) (by omega)) ?_ ⟨Or.inr rfl, Or.inr rfl, Or.inr rfl, Or.inl rfl, trivial⟩
          first
            | (rw [show dRests σ rid (h + 1) = dRests σ rid h from if_pos c19])
            | (rw [show dRests σ rid (h + 1) = dEase (dRests σ rid h) h (dLeft (dRests σ rid h) h) from if_neg c19]
               unfold dEase
               first
               | rw [if_pos (Int32.not_le.mp b81), if_neg (Int32.not_lt.mpr b101)]
               | rw [if_pos (Int32.not_le.mp b81), if_pos (Int32.not_le.mp b101)]
               | rw [if_neg (Int32.not_lt.mpr b81), if_neg (Int32.not_lt.mpr b101)]
               | rw [if_neg (Int32.not_lt.mpr b81), if_pos (Int32.not_le.mp b101)])
        · exact absurd b22 (by decide)
      · refine z_if_ne (tgt := 120) dX12_restAll_22 (by decide) (fun b22 => ?_) (fun b22 => ?_)
        · exact absurd b22 (by decide)
        · refine z_aload_n dX12_restAll_25 rfl ?_
          refine z_getR (j := 0) (r := 128) kX12 lf_X12_7 (by decide) rfl dX12_restAll_26 k0_127 s0_127 r0_127_0 (by decide) ?_
          refine z_iload_n dX12_restAll_29 rfl ?_
          refine z_bipush (v := 27) dX12_restAll_30 (by decide) ?_
          refine z_iaddN (a := b) (b := 27) rfl rfl dX12_restAll_32 ?_
          refine z_iload_n dX12_restAll_33 rfl ?_
          refine z_iaddN (a := (b + 27)) (b := h) rfl rfl dX12_restAll_34 ?_
          refine z_ialdV (j := ((b + 27) + h)) rfl (by omega) (zMd_g 27 h (by omega)) dX12_restAll_35 k0_128 s0_128 ?_
          refine z_aload_n dX12_restAll_36 rfl ?_
          refine z_getR (j := 0) (r := 128) kX12 lf_X12_7 (by decide) rfl dX12_restAll_37 k0_127 s0_127 r0_127_0 (by decide) ?_
          refine z_iload_n dX12_restAll_40 rfl ?_
          refine z_bipush (v := 35) dX12_restAll_41 (by decide) ?_
          refine z_iaddN (a := b) (b := 35) rfl rfl dX12_restAll_43 ?_
          refine z_iload_n dX12_restAll_44 rfl ?_
          refine z_iaddN (a := (b + 35)) (b := h) rfl rfl dX12_restAll_45 ?_
          refine z_ialdV (j := ((b + 35) + h)) rfl (by omega) (zMd_g 35 h (by omega)) dX12_restAll_46 k0_128 s0_128 ?_
          refine z_iconst (v := 1) dX12_restAll_47 (by decide) ?_
          refine z_icmp_ne (tgt := 55) dX12_restAll_48 (by decide) (fun b48 => ?_) (fun b48 => ?_)
          · refine z_aload_n dX12_restAll_55 rfl ?_
            refine z_getR (j := 0) (r := 128) kX12 lf_X12_7 (by decide) rfl dX12_restAll_56 k0_127 s0_127 r0_127_0 (by decide) ?_
            refine z_iload_n dX12_restAll_59 rfl ?_
            refine z_iconst (v := 3) dX12_restAll_60 (by decide) ?_
            refine z_iaddN (a := b) (b := 3) rfl rfl dX12_restAll_61 ?_
            refine z_iload_n dX12_restAll_62 rfl ?_
            refine z_iaddN (a := (b + 3)) (b := h) rfl rfl dX12_restAll_63 ?_
            refine z_ialdV (j := ((b + 3) + h)) rfl (by omega) (zMd_g 3 h (by omega)) dX12_restAll_64 k0_128 s0_128 ?_
            refine z_iS1 (c_X12_rests g l) mw_X12_rests lm_X12_212 ms_X12_rests (by decide) (Nat.le_of_ble_eq_true rfl) zle dX12_restAll_65 (fun r65 M65 q65 => ?_)
            obtain ⟨rfl, rfl⟩ := q65
            refine z_isub dX12_restAll_68 ?_
            first | rw [show dRests σ rid h (27 + h) - 1 = dLeft (dRests σ rid h) h by (unfold dLeft; rw [if_pos b48])] | rw [show dRests σ rid h (27 + h) - kRests (dRests σ rid h (3 + h)) = dLeft (dRests σ rid h) h by (unfold dLeft; rw [if_neg b48])]
            refine z_istore_n dX12_restAll_69 (by decide) rfl rfl ?_
            refine z_aload_n dX12_restAll_70 rfl ?_
            refine z_getR (j := 0) (r := 128) kX12 lf_X12_7 (by decide) rfl dX12_restAll_71 k0_127 s0_127 r0_127_0 (by decide) ?_
            refine z_iload_n dX12_restAll_74 rfl ?_
            refine z_bipush (v := 27) dX12_restAll_75 (by decide) ?_
            refine z_iaddN (a := b) (b := 27) rfl rfl dX12_restAll_77 ?_
            refine z_iload_n dX12_restAll_78 rfl ?_
            refine z_iaddN (a := (b + 27)) (b := h) rfl rfl dX12_restAll_79 ?_
            refine z_iload_n dX12_restAll_80 rfl ?_
            refine z_if_ge (tgt := 88) dX12_restAll_81 (by decide) (fun b81 => ?_) (fun b81 => ?_)
            · refine z_iload_n dX12_restAll_88 rfl ?_
              refine z_iastV (j := ((b + 27) + h)) rfl (by omega) (zMd_s 27 h (by omega)) dX12_restAll_89 k0_128 s0_128 ?_
              refine z_aload_n dX12_restAll_90 rfl ?_
              refine z_getR (j := 0) (r := 128) kX12 lf_X12_7 (by decide) rfl dX12_restAll_91 k0_127 s0_127 r0_127_0 (by decide) ?_
              refine z_iload_n dX12_restAll_94 rfl ?_
              refine z_bipush (v := 35) dX12_restAll_95 (by decide) ?_
              refine z_iaddN (a := b) (b := 35) rfl rfl dX12_restAll_97 ?_
              refine z_iload_n dX12_restAll_98 rfl ?_
              refine z_iaddN (a := (b + 35)) (b := h) rfl rfl dX12_restAll_99 ?_
              refine z_iload_n dX12_restAll_100 rfl ?_
              refine z_if_le (tgt := 118) dX12_restAll_101 (by decide) (fun b101 => ?_) (fun b101 => ?_)
              · refine z_iconst (v := 0) dX12_restAll_118 (by decide) ?_
                refine z_iastV (j := ((b + 35) + h)) rfl (by omega) (zMd_s 35 h (by omega)) dX12_restAll_119 k0_128 s0_128 ?_
                refine z_iincN (k := h) dX12_restAll_120 rfl rfl (by decide) rfl rfl ?_
                refine z_goto (tgt := 2) dX12_restAll_123 (by decide) ?_
                refine zA.sub (ih (h + 1) (by omega) (by omega)) ?_ ⟨Or.inr rfl, Or.inr rfl, Or.inr rfl, Or.inl rfl, trivial⟩
                first
                  | (rw [show dRests σ rid (h + 1) = dRests σ rid h from if_pos c19])
                  | (rw [show dRests σ rid (h + 1) = dEase (dRests σ rid h) h (dLeft (dRests σ rid h) h) from if_neg c19]
                     unfold dEase
                     first
                     | rw [if_pos (Int32.not_le.mp b81), if_neg (Int32.not_lt.mpr b101)]
                     | rw [if_pos (Int32.not_le.mp b81), if_pos (Int32.not_le.mp b101)]
                     | rw [if_neg (Int32.not_lt.mpr b81), if_neg (Int32.not_lt.mpr b101)]
                     | rw [if_neg (Int32.not_lt.mpr b81), if_pos (Int32.not_le.mp b101)])
              · refine z_aload_n dX12_restAll_104 rfl ?_
                refine z_getR (j := 0) (r := 128) kX12 lf_X12_7 (by decide) rfl dX12_restAll_105 k0_127 s0_127 r0_127_0 (by decide) ?_
                refine z_iload_n dX12_restAll_108 rfl ?_
                refine z_bipush (v := 35) dX12_restAll_109 (by decide) ?_
                refine z_iaddN (a := b) (b := 35) rfl rfl dX12_restAll_111 ?_
                refine z_iload_n dX12_restAll_112 rfl ?_
                refine z_iaddN (a := (b + 35)) (b := h) rfl rfl dX12_restAll_113 ?_
                refine z_ialdV (j := ((b + 35) + h)) rfl (by omega) ((zMd_g 35 h (by omega)).trans (upd_n _ _ (by omega))) dX12_restAll_114 k0_128 s0_128 ?_
                refine z_goto (tgt := 119) dX12_restAll_115 (by decide) ?_
                refine z_iastV (j := ((b + 35) + h)) rfl (by omega) (zMd_s 35 h (by omega)) dX12_restAll_119 k0_128 s0_128 ?_
                refine z_iincN (k := h) dX12_restAll_120 rfl rfl (by decide) rfl rfl ?_
                refine z_goto (tgt := 2) dX12_restAll_123 (by decide) ?_
                refine zA.sub (ih (h + 1) (by omega) (by omega)) ?_ ⟨Or.inr rfl, Or.inr rfl, Or.inr rfl, Or.inl rfl, trivial⟩
                first
                  | (rw [show dRests σ rid (h + 1) = dRests σ rid h from if_pos c19])
                  | (rw [show dRests σ rid (h + 1) = dEase (dRests σ rid h) h (dLeft (dRests σ rid h) h) from if_neg c19]
                     unfold dEase
                     first
                     | rw [if_pos (Int32.not_le.mp b81), if_neg (Int32.not_lt.mpr b101)]
                     | rw [if_pos (Int32.not_le.mp b81), if_pos (Int32.not_le.mp b101)]
                     | rw [if_neg (Int32.not_lt.mpr b81), if_neg (Int32.not_lt.mpr b101)]
                     | rw [if_neg (Int32.not_lt.mpr b81), if_pos (Int32.not_le.mp b101)])
            · refine z_iconst (v := 0) dX12_restAll_84 (by decide) ?_
              refine z_goto (tgt := 89) dX12_restAll_85 (by decide) ?_
              refine z_iastV (j := ((b + 27) + h)) rfl (by omega) (zMd_s 27 h (by omega)) dX12_restAll_89 k0_128 s0_128 ?_
              refine z_aload_n dX12_restAll_90 rfl ?_
              refine z_getR (j := 0) (r := 128) kX12 lf_X12_7 (by decide) rfl dX12_restAll_91 k0_127 s0_127 r0_127_0 (by decide) ?_
              refine z_iload_n dX12_restAll_94 rfl ?_
              refine z_bipush (v := 35) dX12_restAll_95 (by decide) ?_
              refine z_iaddN (a := b) (b := 35) rfl rfl dX12_restAll_97 ?_
              refine z_iload_n dX12_restAll_98 rfl ?_
              refine z_iaddN (a := (b + 35)) (b := h) rfl rfl dX12_restAll_99 ?_
              refine z_iload_n dX12_restAll_100 rfl ?_
              refine z_if_le (tgt := 118) dX12_restAll_101 (by decide) (fun b101 => ?_) (fun b101 => ?_)
              · refine z_iconst (v := 0) dX12_restAll_118 (by decide) ?_
                refine z_iastV (j := ((b + 35) + h)) rfl (by omega) (zMd_s 35 h (by omega)) dX12_restAll_119 k0_128 s0_128 ?_
                refine z_iincN (k := h) dX12_restAll_120 rfl rfl (by decide) rfl rfl ?_
                refine z_goto (tgt := 2) dX12_restAll_123 (by decide) ?_
                refine zA.sub (ih (h + 1) (by omega) (by omega)) ?_ ⟨Or.inr rfl, Or.inr rfl, Or.inr rfl, Or.inl rfl, trivial⟩
                first
                  | (rw [show dRests σ rid (h + 1) = dRests σ rid h from if_pos c19])
                  | (rw [show dRests σ rid (h + 1) = dEase (dRests σ rid h) h (dLeft (dRests σ rid h) h) from if_neg c19]
                     unfold dEase
                     first
                     | rw [if_pos (Int32.not_le.mp b81), if_neg (Int32.not_lt.mpr b101)]
                     | rw [if_pos (Int32.not_le.mp b81), if_pos (Int32.not_le.mp b101)]
                     | rw [if_neg (Int32.not_lt.mpr b81), if_neg (Int32.not_lt.mpr b101)]
                     | rw [if_neg (Int32.not_lt.mpr b81), if_pos (Int32.not_le.mp b101)])
              · refine z_aload_n dX12_restAll_104 rfl ?_
                refine z_getR (j := 0) (r := 128) kX12 lf_X12_7 (by decide) rfl dX12_restAll_105 k0_127 s0_127 r0_127_0 (by decide) ?_
                refine z_iload_n dX12_restAll_108 rfl ?_
                refine z_bipush (v := 35) dX12_restAll_109 (by decide) ?_
                refine z_iaddN (a := b) (b := 35) rfl rfl dX12_restAll_111 ?_
                refine z_iload_n dX12_restAll_112 rfl ?_
                refine z_iaddN (a := (b + 35)) (b := h) rfl rfl dX12_restAll_113 ?_
                refine z_ialdV (j := ((b + 35) + h)) rfl (by omega) ((zMd_g 35 h (by omega)).trans (upd_n _ _ (by omega))) dX12_restAll_114 k0_128 s0_128 ?_
                refine z_goto (tgt := 119) dX12_restAll_115 (by decide) ?_
                refine z_iastV (j := ((b + 35) + h)) rfl (by omega) (zMd_s 35 h (by omega)) dX12_restAll_119 k0_128 s0_128 ?_
                refine z_iincN (k := h) dX12_restAll_120 rfl rfl (by decide) rfl rfl ?_
                refine z_goto (tgt := 2) dX12_restAll_123 (by decide) ?_
                refine zA.sub (ih (h + 1) (by omega) (by omega)) ?_ ⟨Or.inr rfl, Or.inr rfl, Or.inr rfl, Or.inl rfl, trivial⟩
                first
                  | (rw [show dRests σ rid (h + 1) = dRests σ rid h from if_pos c19])
                  | (rw [show dRests σ rid (h + 1) = dEase (dRests σ rid h) h (dLeft (dRests σ rid h) h) from if_neg c19]
                     unfold dEase
                     first
                     | rw [if_pos (Int32.not_le.mp b81), if_neg (Int32.not_lt.mpr b101)]
                     | rw [if_pos (Int32.not_le.mp b81), if_pos (Int32.not_le.mp b101)]
                     | rw [if_neg (Int32.not_lt.mpr b81), if_neg (Int32.not_lt.mpr b101)]
                     | rw [if_neg (Int32.not_lt.mpr b81), if_pos (Int32.not_le.mp b101)])
          · refine z_iconst (v := 1) dX12_restAll_51 (by decide) ?_
            refine z_goto (tgt := 68) dX12_restAll_52 (by decide) ?_
            refine z_isub dX12_restAll_68 ?_
            first | rw [show dRests σ rid h (27 + h) - 1 = dLeft (dRests σ rid h) h by (unfold dLeft; rw [if_pos b48])] | rw [show dRests σ rid h (27 + h) - kRests (dRests σ rid h (3 + h)) = dLeft (dRests σ rid h) h by (unfold dLeft; rw [if_neg b48])]
            refine z_istore_n dX12_restAll_69 (by decide) rfl rfl ?_
            refine z_aload_n dX12_restAll_70 rfl ?_
            refine z_getR (j := 0) (r := 128) kX12 lf_X12_7 (by decide) rfl dX12_restAll_71 k0_127 s0_127 r0_127_0 (by decide) ?_
            refine z_iload_n dX12_restAll_74 rfl ?_
            refine z_bipush (v := 27) dX12_restAll_75 (by decide) ?_
            refine z_iaddN (a := b) (b := 27) rfl rfl dX12_restAll_77 ?_
            refine z_iload_n dX12_restAll_78 rfl ?_
            refine z_iaddN (a := (b + 27)) (b := h) rfl rfl dX12_restAll_79 ?_
            refine z_iload_n dX12_restAll_80 rfl ?_
            refine z_if_ge (tgt := 88) dX12_restAll_81 (by decide) (fun b81 => ?_) (fun b81 => ?_)
            · refine z_iload_n dX12_restAll_88 rfl ?_
              refine z_iastV (j := ((b + 27) + h)) rfl (by omega) (zMd_s 27 h (by omega)) dX12_restAll_89 k0_128 s0_128 ?_
              refine z_aload_n dX12_restAll_90 rfl ?_
              refine z_getR (j := 0) (r := 128) kX12 lf_X12_7 (by decide) rfl dX12_restAll_91 k0_127 s0_127 r0_127_0 (by decide) ?_
              refine z_iload_n dX12_restAll_94 rfl ?_
              refine z_bipush (v := 35) dX12_restAll_95 (by decide) ?_
              refine z_iaddN (a := b) (b := 35) rfl rfl dX12_restAll_97 ?_
              refine z_iload_n dX12_restAll_98 rfl ?_
              refine z_iaddN (a := (b + 35)) (b := h) rfl rfl dX12_restAll_99 ?_
              refine z_iload_n dX12_restAll_100 rfl ?_
              refine z_if_le (tgt := 118) dX12_restAll_101 (by decide) (fun b101 => ?_) (fun b101 => ?_)
              · refine z_iconst (v := 0) dX12_restAll_118 (by decide) ?_
                refine z_iastV (j := ((b + 35) + h)) rfl (by omega) (zMd_s 35 h (by omega)) dX12_restAll_119 k0_128 s0_128 ?_
                refine z_iincN (k := h) dX12_restAll_120 rfl rfl (by decide) rfl rfl ?_
                refine z_goto (tgt := 2) dX12_restAll_123 (by decide) ?_
                refine zA.sub (ih (h + 1) (by omega) (by omega)) ?_ ⟨Or.inr rfl, Or.inr rfl, Or.inr rfl, Or.inl rfl, trivial⟩
                first
                  | (rw [show dRests σ rid (h + 1) = dRests σ rid h from if_pos c19])
                  | (rw [show dRests σ rid (h + 1) = dEase (dRests σ rid h) h (dLeft (dRests σ rid h) h) from if_neg c19]
                     unfold dEase
                     first
                     | rw [if_pos (Int32.not_le.mp b81), if_neg (Int32.not_lt.mpr b101)]
                     | rw [if_pos (Int32.not_le.mp b81), if_pos (Int32.not_le.mp b101)]
                     | rw [if_neg (Int32.not_lt.mpr b81), if_neg (Int32.not_lt.mpr b101)]
                     | rw [if_neg (Int32.not_lt.mpr b81), if_pos (Int32.not_le.mp b101)])
              · refine z_aload_n dX12_restAll_104 rfl ?_
                refine z_getR (j := 0) (r := 128) kX12 lf_X12_7 (by decide) rfl dX12_restAll_105 k0_127 s0_127 r0_127_0 (by decide) ?_
                refine z_iload_n dX12_restAll_108 rfl ?_
                refine z_bipush (v := 35) dX12_restAll_109 (by decide) ?_
                refine z_iaddN (a := b) (b := 35) rfl rfl dX12_restAll_111 ?_
                refine z_iload_n dX12_restAll_112 rfl ?_
                refine z_iaddN (a := (b + 35)) (b := h) rfl rfl dX12_restAll_113 ?_
                refine z_ialdV (j := ((b + 35) + h)) rfl (by omega) ((zMd_g 35 h (by omega)).trans (upd_n _ _ (by omega))) dX12_restAll_114 k0_128 s0_128 ?_
                refine z_goto (tgt := 119) dX12_restAll_115 (by decide) ?_
                refine z_iastV (j := ((b + 35) + h)) rfl (by omega) (zMd_s 35 h (by omega)) dX12_restAll_119 k0_128 s0_128 ?_
                refine z_iincN (k := h) dX12_restAll_120 rfl rfl (by decide) rfl rfl ?_
                refine z_goto (tgt := 2) dX12_restAll_123 (by decide) ?_
                refine zA.sub (ih (h + 1) (by omega) (by omega)) ?_ ⟨Or.inr rfl, Or.inr rfl, Or.inr rfl, Or.inl rfl, trivial⟩
                first
                  | (rw [show dRests σ rid (h + 1) = dRests σ rid h from if_pos c19])
                  | (rw [show dRests σ rid (h + 1) = dEase (dRests σ rid h) h (dLeft (dRests σ rid h) h) from if_neg c19]
                     unfold dEase
                     first
                     | rw [if_pos (Int32.not_le.mp b81), if_neg (Int32.not_lt.mpr b101)]
                     | rw [if_pos (Int32.not_le.mp b81), if_pos (Int32.not_le.mp b101)]
                     | rw [if_neg (Int32.not_lt.mpr b81), if_neg (Int32.not_lt.mpr b101)]
                     | rw [if_neg (Int32.not_lt.mpr b81), if_pos (Int32.not_le.mp b101)])
            · refine z_iconst (v := 0) dX12_restAll_84 (by decide) ?_
              refine z_goto (tgt := 89) dX12_restAll_85 (by decide) ?_
              refine z_iastV (j := ((b + 27) + h)) rfl (by omega) (zMd_s 27 h (by omega)) dX12_restAll_89 k0_128 s0_128 ?_
              refine z_aload_n dX12_restAll_90 rfl ?_
              refine z_getR (j := 0) (r := 128) kX12 lf_X12_7 (by decide) rfl dX12_restAll_91 k0_127 s0_127 r0_127_0 (by decide) ?_
              refine z_iload_n dX12_restAll_94 rfl ?_
              refine z_bipush (v := 35) dX12_restAll_95 (by decide) ?_
              refine z_iaddN (a := b) (b := 35) rfl rfl dX12_restAll_97 ?_
              refine z_iload_n dX12_restAll_98 rfl ?_
              refine z_iaddN (a := (b + 35)) (b := h) rfl rfl dX12_restAll_99 ?_
              refine z_iload_n dX12_restAll_100 rfl ?_
              refine z_if_le (tgt := 118) dX12_restAll_101 (by decide) (fun b101 => ?_) (fun b101 => ?_)
              · refine z_iconst (v := 0) dX12_restAll_118 (by decide) ?_
                refine z_iastV (j := ((b + 35) + h)) rfl (by omega) (zMd_s 35 h (by omega)) dX12_restAll_119 k0_128 s0_128 ?_
                refine z_iincN (k := h) dX12_restAll_120 rfl rfl (by decide) rfl rfl ?_
                refine z_goto (tgt := 2) dX12_restAll_123 (by decide) ?_
                refine zA.sub (ih (h + 1) (by omega) (by omega)) ?_ ⟨Or.inr rfl, Or.inr rfl, Or.inr rfl, Or.inl rfl, trivial⟩
                first
                  | (rw [show dRests σ rid (h + 1) = dRests σ rid h from if_pos c19])
                  | (rw [show dRests σ rid (h + 1) = dEase (dRests σ rid h) h (dLeft (dRests σ rid h) h) from if_neg c19]
                     unfold dEase
                     first
                     | rw [if_pos (Int32.not_le.mp b81), if_neg (Int32.not_lt.mpr b101)]
                     | rw [if_pos (Int32.not_le.mp b81), if_pos (Int32.not_le.mp b101)]
                     | rw [if_neg (Int32.not_lt.mpr b81), if_neg (Int32.not_lt.mpr b101)]
                     | rw [if_neg (Int32.not_lt.mpr b81), if_pos (Int32.not_le.mp b101)])
              · refine z_aload_n dX12_restAll_104 rfl ?_
                refine z_getR (j := 0) (r := 128) kX12 lf_X12_7 (by decide) rfl dX12_restAll_105 k0_127 s0_127 r0_127_0 (by decide) ?_
                refine z_iload_n dX12_restAll_108 rfl ?_
                refine z_bipush (v := 35) dX12_restAll_109 (by decide) ?_
                refine z_iaddN (a := b) (b := 35) rfl rfl dX12_restAll_111 ?_
                refine z_iload_n dX12_restAll_112 rfl ?_
                refine z_iaddN (a := (b + 35)) (b := h) rfl rfl dX12_restAll_113 ?_
                refine z_ialdV (j := ((b + 35) + h)) rfl (by omega) ((zMd_g 35 h (by omega)).trans (upd_n _ _ (by omega))) dX12_restAll_114 k0_128 s0_128 ?_
                refine z_goto (tgt := 119) dX12_restAll_115 (by decide) ?_
                refine z_iastV (j := ((b + 35) + h)) rfl (by omega) (zMd_s 35 h (by omega)) dX12_restAll_119 k0_128 s0_128 ?_
                refine z_iincN (k := h) dX12_restAll_120 rfl rfl (by decide) rfl rfl ?_
                refine z_goto (tgt := 2) dX12_restAll_123 (by decide) ?_
                refine zA.sub (ih (h + 1) (by omega) (by omega)) ?_ ⟨Or.inr rfl, Or.inr rfl, Or.inr rfl, Or.inl rfl, trivial⟩
                first
                  | (rw [show dRests σ rid (h + 1) = dRests σ rid h from if_pos c19])
                  | (rw [show dRests σ rid (h + 1) = dEase (dRests σ rid h) h (dLeft (dRests σ rid h) h) from if_neg c19]
                     unfold dEase
                     first
                     | rw [if_pos (Int32.not_le.mp b81), if_neg (Int32.not_lt.mpr b101)]
                     | rw [if_pos (Int32.not_le.mp b81), if_pos (Int32.not_le.mp b101)]
                     | rw [if_neg (Int32.not_lt.mpr b81), if_neg (Int32.not_lt.mpr b101)]
                     | rw [if_neg (Int32.not_lt.mpr b81), if_pos (Int32.not_le.mp b101)])

set_option maxRecDepth 100000 in
set_option maxHeartbeats 4000000 in
theorem c_X12_restAll (g : zG) (l : Launch) {M : zM} {b : Nat} {σ : Dy} {rid led : Int32} {n r i : Nat} (hb : b + 70 ≤ 910) (ok : dOK σ n r i) : zMet g l yX12_restAll cX12_restAll 4 none 1 0 0 [.ref 127, .int (nI b)] S0 (zMd M b σ rid led) (zQv (fun M' => M' = zMd M b (dRests σ rid n) rid led)) := by
  refine zMet.of (by decide) (Nat.le_of_ble_eq_true rfl) ?_
  refine z_iconst (v := 0) dX12_restAll_0 (by decide) ?_
  refine z_istore_n dX12_restAll_1 (by decide) rfl rfl ?_
  exact lp_restAll g l hb ok (n + 1) 0 (Nat.zero_le _) (by omega)

set_option maxRecDepth 100000 in
set_option maxHeartbeats 4000000 in
theorem lp_passes2 (g : zG) (l : Launch) {M : zM} {b : Nat} {σ : Dy} {rid led : Int32} {n r i : Nat} (hb : b + 70 ≤ 910) (ok : dOK σ n r i) : ∀ (k h : Nat), h ≤ i → i - h < k → zA g l yX12_passes cX12_passes 3 none 3 0 0 (zQv (fun M' => M' = zMd M b (dPass σ n r i) (dPassRid σ n r) (dPassLed σ n r i))) 63 0 0 S0 (zMd M b (dLeads (dRides σ n r).1 (dRides σ n r).2 n h).1 (dRides σ n r).2 (dLeads (dRides σ n r).1 (dRides σ n r).2 n h).2) [.ref 127, .int (nI b), .int (nI h)] [] := by
  have n8 := ok.1.1
  have r4 := ok.1.2.1
  have i6 := ok.1.2.2.1
  intro k
  induction k with
  | zero => exact fun h hh hk => absurd hk (Nat.not_lt_zero _)
  | succ k ih =>
    intro h hh hk
    have ok2 := dLeads_ok (rid := (dRides σ n r).2) (dRides_ok ok r (Nat.le_refl _)) h hh
    refine z_iload_n dX12_passes_63 rfl ?_
    refine z_aload_n dX12_passes_64 rfl ?_
    refine z_getR (j := 0) (r := 128) kX12 lf_X12_7 (by decide) rfl dX12_passes_65 k0_127 s0_127 r0_127_0 (by decide) ?_
    refine z_iload_n dX12_passes_68 rfl ?_
    refine z_bipush (v := 63) dX12_passes_69 (by decide) ?_
    refine z_iaddN (a := b) (b := 63) rfl rfl dX12_passes_71 ?_
    refine z_ialdV (j := (b + 63)) rfl (by omega) ((zMd_g0 63 (by decide)).trans ok2.1.2.2.2.2.2) dX12_passes_72 k0_128 s0_128 ?_
    refine z_icmp_ge (tgt := 88) dX12_passes_73 (by decide) (fun b73 => ?_) (fun b73 => ?_)
    · have e : i ≤ h := (nI_leI (by omega) (by omega)).mp b73
      have e2 : h = i := by omega
      subst e2
      refine z_aload_n dX12_passes_88 rfl ?_
      refine z_iload_n dX12_passes_89 rfl ?_
      refine z_vV1 (c_X12_restAll g l hb ok2) mw_X12_restAll lm_X12_222 mi_X12_restAll mv_X12_restAll kX12 (by decide) (Nat.le_of_ble_eq_true rfl) zle k0_127 s0_127 dX12_passes_90 (fun M90 q90 => ?_)
      subst q90
      refine z_aload_n dX12_passes_93 rfl ?_
      refine z_getR (j := 0) (r := 128) kX12 lf_X12_7 (by decide) rfl dX12_passes_94 k0_127 s0_127 r0_127_0 (by decide) ?_
      refine z_iload_n dX12_passes_97 rfl ?_
      refine z_iconst (v := 2) dX12_passes_98 (by decide) ?_
      refine z_iaddN (a := b) (b := 2) rfl rfl dX12_passes_99 ?_
      refine z_dup2 dX12_passes_100 rfl rfl ?_
      refine z_ialdV (j := (b + 2)) rfl (by omega) (zMd_g0 2 (by decide)) dX12_passes_101 k0_128 s0_128 ?_
      refine z_iconst (v := 1) dX12_passes_102 (by decide) ?_
      refine z_iadd dX12_passes_103 ?_
      refine z_iastV (j := (b + 2)) rfl (by omega) (zMd_s0 2 (by decide)) dX12_passes_104 k0_128 s0_128 ?_
      exact z_vret dX12_passes_105 zle (rfl)
    · have hn : h < i := by
        rcases Nat.lt_or_ge h i with z | z
        · exact z
        · exact absurd (nI_le z (by omega)) b73
      refine z_aload_n dX12_passes_76 rfl ?_
      refine z_iload_n dX12_passes_77 rfl ?_
      refine z_iload_n dX12_passes_78 rfl ?_
      refine z_vV2 (c_X12_leads g l hb ok2 hn) mw_X12_leads lm_X12_219 mi_X12_leads mv_X12_leads kX12 (by decide) (Nat.le_of_ble_eq_true rfl) zle k0_127 s0_127 dX12_passes_79 (fun M79 q79 => ?_)
      subst q79
      refine z_iincN (k := h) dX12_passes_82 rfl rfl (by decide) rfl rfl ?_
      refine z_goto (tgt := 63) dX12_passes_85 (by decide) ?_
      exact ih (h + 1) (by omega) (by omega)

set_option maxRecDepth 100000 in
set_option maxHeartbeats 4000000 in
theorem lp_passes1 (g : zG) (l : Launch) {M : zM} {b : Nat} {σ : Dy} {rid led : Int32} {n r i : Nat} (hb : b + 70 ≤ 910) (ok : dOK σ n r i) : ∀ (k h : Nat), h ≤ r → r - h < k → zA g l yX12_passes cX12_passes 3 none 3 0 0 (zQv (fun M' => M' = zMd M b (dPass σ n r i) (dPassRid σ n r) (dPassLed σ n r i))) 12 0 0 S0 (zMd M b (dRides σ n h).1 (dRides σ n h).2 0) [.ref 127, .int (nI b), .int (nI h)] [] := by
  have n8 := ok.1.1
  have r4 := ok.1.2.1
  have i6 := ok.1.2.2.1
  intro k
  induction k with
  | zero => exact fun h hh hk => absurd hk (Nat.not_lt_zero _)
  | succ k ih =>
    intro h hh hk
    have ok1 := dRides_ok ok h hh
    refine z_iload_n dX12_passes_12 rfl ?_
    refine z_aload_n dX12_passes_13 rfl ?_
    refine z_getR (j := 0) (r := 128) kX12 lf_X12_7 (by decide) rfl dX12_passes_14 k0_127 s0_127 r0_127_0 (by decide) ?_
    refine z_iload_n dX12_passes_17 rfl ?_
    refine z_iconst (v := 1) dX12_passes_18 (by decide) ?_
    refine z_iaddN (a := b) (b := 1) rfl rfl dX12_passes_19 ?_
    refine z_ialdV (j := (b + 1)) rfl (by omega) ((zMd_g0 1 (by decide)).trans ok1.1.2.2.2.2.1) dX12_passes_20 k0_128 s0_128 ?_
    refine z_icmp_ge (tgt := 61) dX12_passes_21 (by decide) (fun b21 => ?_) (fun b21 => ?_)
    · have e : r ≤ h := (nI_leI (by omega) (by omega)).mp b21
      have e2 : h = r := by omega
      subst e2
      refine z_iconst (v := 0) dX12_passes_61 (by decide) ?_
      refine z_istore_n dX12_passes_62 (by decide) rfl rfl ?_
      exact lp_passes2 g l (rid := rid) (led := led) hb ok (i + 1) 0 (Nat.zero_le _) (by omega)
    · have hn : h < r := by
        rcases Nat.lt_or_ge h r with z | z
        · exact z
        · exact absurd (nI_le z (by omega)) b21
      refine z_aload_n dX12_passes_24 rfl ?_
      refine z_getR (j := 0) (r := 128) kX12 lf_X12_7 (by decide) rfl dX12_passes_25 k0_127 s0_127 r0_127_0 (by decide) ?_
      refine z_iload_n dX12_passes_28 rfl ?_
      refine z_bipush (v := 51) dX12_passes_29 (by decide) ?_
      refine z_iaddN (a := b) (b := 51) rfl rfl dX12_passes_31 ?_
      refine z_iload_n dX12_passes_32 rfl ?_
      refine z_iaddN (a := (b + 51)) (b := h) rfl rfl dX12_passes_33 ?_
      refine z_ialdV (j := ((b + 51) + h)) rfl (by omega) (zMd_g 51 h (by omega)) dX12_passes_34 k0_128 s0_128 ?_
      refine z_aload_n dX12_passes_35 rfl ?_
      refine z_getR (j := 0) (r := 128) kX12 lf_X12_7 (by decide) rfl dX12_passes_36 k0_127 s0_127 r0_127_0 (by decide) ?_
      refine z_iload_n dX12_passes_39 rfl ?_
      refine z_bipush (v := 55) dX12_passes_40 (by decide) ?_
      refine z_iaddN (a := b) (b := 55) rfl rfl dX12_passes_42 ?_
      refine z_iload_n dX12_passes_43 rfl ?_
      refine z_iaddN (a := (b + 55)) (b := h) rfl rfl dX12_passes_44 ?_
      refine z_ialdV (j := ((b + 55) + h)) rfl (by omega) (zMd_g 55 h (by omega)) dX12_passes_45 k0_128 s0_128 ?_
      refine z_icmp_eq (tgt := 55) dX12_passes_46 (by decide) (fun b46 => ?_) (fun b46 => ?_)
      · refine z_iincN (k := h) dX12_passes_55 rfl rfl (by decide) rfl rfl ?_
        refine z_goto (tgt := 12) dX12_passes_58 (by decide) ?_
        first
          | (have e9 : dRides σ n (h + 1) = dRides σ n h := if_pos b46
             have h0 := ih (h + 1) (by omega) (by omega)
             rw [e9] at h0
             exact h0)
          | (have e9 : dRides σ n (h + 1) = dRide (dRides σ n h).1 (dRides σ n h).2 h n := if_neg b46
             have h0 := ih (h + 1) (by omega) (by omega)
             rw [e9] at h0
             exact h0)
      · refine z_aload_n dX12_passes_49 rfl ?_
        refine z_iload_n dX12_passes_50 rfl ?_
        refine z_iload_n dX12_passes_51 rfl ?_
        refine z_vV2 (c_X12_rides g l hb ok1 hn) mw_X12_rides lm_X12_216 mi_X12_rides mv_X12_rides kX12 (by decide) (Nat.le_of_ble_eq_true rfl) zle k0_127 s0_127 dX12_passes_52 (fun M52 q52 => ?_)
        subst q52
        refine z_iincN (k := h) dX12_passes_55 rfl rfl (by decide) rfl rfl ?_
        refine z_goto (tgt := 12) dX12_passes_58 (by decide) ?_
        first
          | (have e9 : dRides σ n (h + 1) = dRides σ n h := if_pos b46
             have h0 := ih (h + 1) (by omega) (by omega)
             rw [e9] at h0
             exact h0)
          | (have e9 : dRides σ n (h + 1) = dRide (dRides σ n h).1 (dRides σ n h).2 h n := if_neg b46
             have h0 := ih (h + 1) (by omega) (by omega)
             rw [e9] at h0
             exact h0)

set_option maxRecDepth 100000 in
set_option maxHeartbeats 4000000 in
theorem c_X12_passes (g : zG) (l : Launch) {M : zM} {b : Nat} {σ : Dy} {rid led : Int32} {n r i : Nat} (hb : b + 70 ≤ 910) (ok : dOK σ n r i) : zMet g l yX12_passes cX12_passes 3 none 3 0 0 [.ref 127, .int (nI b)] S0 (zMd M b σ rid led) (zQv (fun M' => M' = zMd M b (dPass σ n r i) (dPassRid σ n r) (dPassLed σ n r i))) := by
  refine zMet.of (by decide) (Nat.le_of_ble_eq_true rfl) ?_
  refine z_aload_n dX12_passes_0 rfl ?_
  refine z_iconst (v := 0) dX12_passes_1 (by decide) ?_
  refine z_putIV (j := 28) kX12 lf_X12_185 (by decide) rfl rfl (kX12.2.2.1 28 (by decide)) rfl rfl zMd_sr dX12_passes_2 k0_127 s0_127 ?_
  refine z_aload_n dX12_passes_5 rfl ?_
  refine z_iconst (v := 0) dX12_passes_6 (by decide) ?_
  refine z_putIV (j := 29) kX12 lf_X12_209 (by decide) rfl rfl (kX12.2.2.1 29 (by decide)) rfl rfl zMd_sl dX12_passes_7 k0_127 s0_127 ?_
  refine z_iconst (v := 0) dX12_passes_10 (by decide) ?_
  refine z_istore_n dX12_passes_11 (by decide) rfl rfl ?_
  exact lp_passes1 g l (rid := rid) (led := led) hb ok (r + 1) 0 (Nat.zero_le _) (by omega)

