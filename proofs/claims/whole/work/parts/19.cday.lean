/-! ===== the class: KINDS, roads, and what a Day does ===== -/
set_option maxRecDepth 100000 in
set_option maxHeartbeats 4000000 in
theorem c_X2_takes (g : zG) (l : Launch) {k x : Int32} {M : zM} : zMet g l yX2_takes cX2_takes 2 (some .int) 0 0 0 [.int k, .int x] S0 M (zQi (fun r' M' => r' = kTakes k x ∧ M' = M)) := by
  refine zMet.of (by decide) (Nat.le_of_ble_eq_true rfl) ?_
  refine z_iload_n dX2_takes_0 rfl ?_
  refine z_tsw (b := 2) (n := 3) (tg := [28, 34, 34]) (tgt := 38) dX2_takes_1 (by decide) (by decide) (by decide) (by decide) (by decide) (fun k1 hk1 s1 => ?_) (fun s1 => ?_)
  · match k1, hk1 with
    | 0, _ =>
      have s2 : k = 2 := s1
      refine z_iload_n dX2_takes_28 rfl ?_
      refine z_iconst (v := 2) dX2_takes_29 (by decide) ?_
      refine z_idiv dX2_takes_30 (by decide) ?_
      refine z_iconst (v := 1) dX2_takes_31 (by decide) ?_
      refine z_iadd dX2_takes_32 ?_
      refine z_iret dX2_takes_33 rfl zle ?_
      refine ⟨?_, rfl⟩
      unfold kTakes
      first | (subst s2; first | rfl | simp) | simp [n2, n3, n4]
    | 1, _ =>
      have s2 : k = 3 := s1
      refine z_iconst (v := 2) dX2_takes_34 (by decide) ?_
      refine z_iload_n dX2_takes_35 rfl ?_
      refine z_imul dX2_takes_36 ?_
      refine z_iret dX2_takes_37 rfl zle ?_
      refine ⟨?_, rfl⟩
      unfold kTakes
      first | (subst s2; first | rfl | simp) | simp [n2, n3, n4]
    | 2, _ =>
      have s2 : k = 4 := s1
      refine z_iconst (v := 2) dX2_takes_34 (by decide) ?_
      refine z_iload_n dX2_takes_35 rfl ?_
      refine z_imul dX2_takes_36 ?_
      refine z_iret dX2_takes_37 rfl zle ?_
      refine ⟨?_, rfl⟩
      unfold kTakes
      first | (subst s2; first | rfl | simp) | simp [n2, n3, n4]
    | k + 3, h => exact absurd h (by omega)
  · have n2 : ¬ k = 2 := s1 0 (by decide)
    have n3 : ¬ k = 3 := s1 1 (by decide)
    have n4 : ¬ k = 4 := s1 2 (by decide)
    refine z_iload_n dX2_takes_38 rfl ?_
    refine z_iret dX2_takes_39 rfl zle ?_
    refine ⟨?_, rfl⟩
    unfold kTakes
    first | (subst s2; first | rfl | simp) | simp [n2, n3, n4]

set_option maxRecDepth 100000 in
set_option maxHeartbeats 4000000 in
theorem c_X2_tires (g : zG) (l : Launch) {k x : Int32} {M : zM} : zMet g l yX2_tires cX2_tires 2 (some .int) 0 0 0 [.int k, .int x] S0 M (zQi (fun r' M' => r' = kTires k x ∧ M' = M)) := by
  refine zMet.of (by decide) (Nat.le_of_ble_eq_true rfl) ?_
  refine z_iload_n dX2_tires_0 rfl ?_
  refine z_tsw (b := 2) (n := 3) (tg := [28, 32, 34]) (tgt := 36) dX2_tires_1 (by decide) (by decide) (by decide) (by decide) (by decide) (fun k1 hk1 s1 => ?_) (fun s1 => ?_)
  · match k1, hk1 with
    | 0, _ =>
      have s2 : k = 2 := s1
      refine z_iconst (v := 2) dX2_tires_28 (by decide) ?_
      refine z_iload_n dX2_tires_29 rfl ?_
      refine z_imul dX2_tires_30 ?_
      refine z_iret dX2_tires_31 rfl zle ?_
      refine ⟨?_, rfl⟩
      unfold kTires
      first | (subst s2; first | rfl | simp) | simp [n2, n3, n4]
    | 1, _ =>
      have s2 : k = 3 := s1
      refine z_iconst (v := 0) dX2_tires_32 (by decide) ?_
      refine z_iret dX2_tires_33 rfl zle ?_
      refine ⟨?_, rfl⟩
      unfold kTires
      first | (subst s2; first | rfl | simp) | simp [n2, n3, n4]
    | 2, _ =>
      have s2 : k = 4 := s1
      refine z_iconst (v := 1) dX2_tires_34 (by decide) ?_
      refine z_iret dX2_tires_35 rfl zle ?_
      refine ⟨?_, rfl⟩
      unfold kTires
      first | (subst s2; first | rfl | simp) | simp [n2, n3, n4]
    | k + 3, h => exact absurd h (by omega)
  · have n2 : ¬ k = 2 := s1 0 (by decide)
    have n3 : ¬ k = 3 := s1 1 (by decide)
    have n4 : ¬ k = 4 := s1 2 (by decide)
    refine z_iload_n dX2_tires_36 rfl ?_
    refine z_iret dX2_tires_37 rfl zle ?_
    refine ⟨?_, rfl⟩
    unfold kTires
    first | (subst s2; first | rfl | simp) | simp [n2, n3, n4]

set_option maxRecDepth 100000 in
set_option maxHeartbeats 4000000 in
theorem c_X2_rests (g : zG) (l : Launch) {k : Int32} {M : zM} : zMet g l yX2_rests cX2_rests 1 (some .int) 0 0 0 [.int k] S0 M (zQi (fun r' M' => r' = kRests k ∧ M' = M)) := by
  refine zMet.of (by decide) (Nat.le_of_ble_eq_true rfl) ?_
  refine z_iload_n dX2_rests_0 rfl ?_
  refine z_tsw (b := 1) (n := 4) (tg := [32, 36, 34, 34]) (tgt := 36) dX2_rests_1 (by decide) (by decide) (by decide) (by decide) (by decide) (fun k1 hk1 s1 => ?_) (fun s1 => ?_)
  · match k1, hk1 with
    | 0, _ =>
      have s2 : k = 1 := s1
      refine z_iconst (v := 3) dX2_rests_32 (by decide) ?_
      refine z_iret dX2_rests_33 rfl zle ?_
      refine ⟨?_, rfl⟩
      unfold kRests
      first | (subst s2; first | rfl | simp) | simp [n1, n3, n4]
    | 1, _ =>
      have s2 : k = 2 := s1
      refine z_iconst (v := 2) dX2_rests_36 (by decide) ?_
      refine z_iret dX2_rests_37 rfl zle ?_
      refine ⟨?_, rfl⟩
      unfold kRests
      first | (subst s2; first | rfl | simp) | simp [n1, n3, n4]
    | 2, _ =>
      have s2 : k = 3 := s1
      refine z_iconst (v := 1) dX2_rests_34 (by decide) ?_
      refine z_iret dX2_rests_35 rfl zle ?_
      refine ⟨?_, rfl⟩
      unfold kRests
      first | (subst s2; first | rfl | simp) | simp [n1, n3, n4]
    | 3, _ =>
      have s2 : k = 4 := s1
      refine z_iconst (v := 1) dX2_rests_34 (by decide) ?_
      refine z_iret dX2_rests_35 rfl zle ?_
      refine ⟨?_, rfl⟩
      unfold kRests
      first | (subst s2; first | rfl | simp) | simp [n1, n3, n4]
    | k + 4, h => exact absurd h (by omega)
  · have n1 : ¬ k = 1 := s1 0 (by decide)
    have n2 : ¬ k = 2 := s1 1 (by decide)
    have n3 : ¬ k = 3 := s1 2 (by decide)
    have n4 : ¬ k = 4 := s1 3 (by decide)
    refine z_iconst (v := 2) dX2_rests_36 (by decide) ?_
    refine z_iret dX2_rests_37 rfl zle ?_
    refine ⟨?_, rfl⟩
    unfold kRests
    first | (subst s2; first | rfl | simp) | simp [n1, n3, n4]

set_option maxRecDepth 100000 in
set_option maxHeartbeats 4000000 in
theorem c_X2_isWilling (g : zG) (l : Launch) {k : Int32} {M : zM} : zMet g l yX2_isWilling cX2_isWilling 1 (some .boolean) 0 0 0 [.int k] S0 M (zQi (fun r' M' => M' = M ∧ (((¬ k = 4) ∧ r' = 1) ∨ (¬ (¬ k = 4) ∧ r' = 0)))) := by
  refine zMet.of (by decide) (Nat.le_of_ble_eq_true rfl) ?_
  refine z_iload_n dX2_isWilling_0 rfl ?_
  refine z_iconst (v := 4) dX2_isWilling_1 (by decide) ?_
  refine z_icmp_eq (tgt := 9) dX2_isWilling_2 (by decide) (fun b2 => ?_) (fun b2 => ?_)
  · refine z_iconst (v := 0) dX2_isWilling_9 (by decide) ?_
    refine z_iret dX2_isWilling_10 rfl zle ?_
    first
      | exact ⟨rfl, Or.inl ⟨b2, rfl⟩⟩
      | exact ⟨rfl, Or.inr ⟨fun z => z b2, rfl⟩⟩
  · refine z_iconst (v := 1) dX2_isWilling_5 (by decide) ?_
    refine z_goto (tgt := 10) dX2_isWilling_6 (by decide) ?_
    refine z_iret dX2_isWilling_10 rfl zle ?_
    first
      | exact ⟨rfl, Or.inl ⟨b2, rfl⟩⟩
      | exact ⟨rfl, Or.inr ⟨fun z => z b2, rfl⟩⟩

set_option maxRecDepth 100000 in
set_option maxHeartbeats 4000000 in
theorem c_X2_throwsOff (g : zG) (l : Launch) {k x : Int32} {M : zM} : zMet g l yX2_throwsOff cX2_throwsOff 2 (some .boolean) 0 0 0 [.int k, .int x] S0 M (zQi (fun r' M' => M' = M ∧ (((k = 1 ∧ x - x / 3 * 3 = 0) ∧ r' = 1) ∨ (¬ (k = 1 ∧ x - x / 3 * 3 = 0) ∧ r' = 0)))) := by
  refine zMet.of (by decide) (Nat.le_of_ble_eq_true rfl) ?_
  refine z_iload_n dX2_throwsOff_0 rfl ?_
  refine z_iconst (v := 1) dX2_throwsOff_1 (by decide) ?_
  refine z_icmp_ne (tgt := 15) dX2_throwsOff_2 (by decide) (fun b2 => ?_) (fun b2 => ?_)
  · refine z_iconst (v := 0) dX2_throwsOff_15 (by decide) ?_
    refine z_iret dX2_throwsOff_16 rfl zle ?_
    first
      | exact ⟨rfl, Or.inl ⟨⟨b2, b8⟩, rfl⟩⟩
      | exact ⟨rfl, Or.inr ⟨fun z => b8 z.2, rfl⟩⟩
      | exact ⟨rfl, Or.inr ⟨fun z => b2 z.1, rfl⟩⟩
  · refine z_iload_n dX2_throwsOff_5 rfl ?_
    refine z_iconst (v := 3) dX2_throwsOff_6 (by decide) ?_
    refine z_irem dX2_throwsOff_7 (by decide) ?_
    refine z_if_ne (tgt := 15) dX2_throwsOff_8 (by decide) (fun b8 => ?_) (fun b8 => ?_)
    · refine z_iconst (v := 0) dX2_throwsOff_15 (by decide) ?_
      refine z_iret dX2_throwsOff_16 rfl zle ?_
      first
        | exact ⟨rfl, Or.inl ⟨⟨b2, b8⟩, rfl⟩⟩
        | exact ⟨rfl, Or.inr ⟨fun z => b8 z.2, rfl⟩⟩
        | exact ⟨rfl, Or.inr ⟨fun z => b2 z.1, rfl⟩⟩
    · refine z_iconst (v := 1) dX2_throwsOff_11 (by decide) ?_
      refine z_goto (tgt := 16) dX2_throwsOff_12 (by decide) ?_
      refine z_iret dX2_throwsOff_16 rfl zle ?_
      first
        | exact ⟨rfl, Or.inl ⟨⟨b2, b8⟩, rfl⟩⟩
        | exact ⟨rfl, Or.inr ⟨fun z => b8 z.2, rfl⟩⟩
        | exact ⟨rfl, Or.inr ⟨fun z => b2 z.1, rfl⟩⟩

set_option maxRecDepth 100000 in
set_option maxHeartbeats 4000000 in
theorem c_X7_nextInn (g : zG) (l : Launch) {f t : Int32} {M : zM} : zMet g l yX7_nextInn cX7_nextInn 2 (some .int) 1 0 0 [.int f, .int t] S0 M (zQi (fun r' M' => r' = dNext f t ∧ M' = M)) := by
  refine zMet.of (by decide) (Nat.le_of_ble_eq_true rfl) ?_
  refine z_iload_n dX7_nextInn_0 rfl ?_
  refine z_iload_n dX7_nextInn_1 rfl ?_
  refine z_iload_n dX7_nextInn_2 rfl ?_
  refine z_iS2 (c_J6_compare_7cf53 g l) mw_J6_compare_7cf53 lm_X7_46 ms_J6_compare_7cf53 (by decide) (Nat.le_of_ble_eq_true rfl) zle dX7_nextInn_3 (fun r3 M3 q3 => ?_)
  obtain ⟨rfl, rfl⟩ := q3
  refine z_iadd dX7_nextInn_6 ?_
  exact z_iret dX7_nextInn_7 rfl zle (⟨dNext_cmp f t, rfl⟩)

set_option maxRecDepth 100000 in
set_option maxHeartbeats 4000000 in
theorem c_X7_hasInn (g : zG) (l : Launch) {ro : Nat} {x : Int32} {M : zM} (hro : ro ∈ zRoads) : zMet g l yX7_hasInn cX7_hasInn 2 (some .boolean) 0 0 0 [.ref ro, .int x] S0 M (zQi (fun r' M' => M' = M ∧ (((0 ≤ x ∧ x < M ro 0) ∧ r' = 1) ∨ (¬ (0 ≤ x ∧ x < M ro 0) ∧ r' = 0)))) := by
  refine zMet.of (by decide) (Nat.le_of_ble_eq_true rfl) ?_
  refine z_iload_n dX7_hasInn_0 rfl ?_
  refine z_if_lt (tgt := 16) dX7_hasInn_1 (by decide) (fun b1 => ?_) (fun b1 => ?_)
  · refine z_iconst (v := 0) dX7_hasInn_16 (by decide) ?_
    refine z_iret dX7_hasInn_17 rfl zle ?_
    first
      | exact ⟨rfl, Or.inl ⟨⟨Int32.not_lt.mp b1, Int32.not_le.mp b9⟩, rfl⟩⟩
      | exact ⟨rfl, Or.inr ⟨fun z => absurd b9 (Int32.not_le.mpr z.2), rfl⟩⟩
      | exact ⟨rfl, Or.inr ⟨fun z => absurd b1 (Int32.not_lt.mpr z.1), rfl⟩⟩
  · refine z_iload_n dX7_hasInn_4 rfl ?_
    refine z_aload_n dX7_hasInn_5 rfl ?_
    refine z_getI (j := 0) kX7 lf_X7_30 (by decide) rfl dX7_hasInn_6 (zRoad_k0 hro) (zRoad_s0 hro) ?_
    refine z_icmp_ge (tgt := 16) dX7_hasInn_9 (by decide) (fun b9 => ?_) (fun b9 => ?_)
    · refine z_iconst (v := 0) dX7_hasInn_16 (by decide) ?_
      refine z_iret dX7_hasInn_17 rfl zle ?_
      first
        | exact ⟨rfl, Or.inl ⟨⟨Int32.not_lt.mp b1, Int32.not_le.mp b9⟩, rfl⟩⟩
        | exact ⟨rfl, Or.inr ⟨fun z => absurd b9 (Int32.not_le.mpr z.2), rfl⟩⟩
        | exact ⟨rfl, Or.inr ⟨fun z => absurd b1 (Int32.not_lt.mpr z.1), rfl⟩⟩
    · refine z_iconst (v := 1) dX7_hasInn_12 (by decide) ?_
      refine z_goto (tgt := 17) dX7_hasInn_13 (by decide) ?_
      refine z_iret dX7_hasInn_17 rfl zle ?_
      first
        | exact ⟨rfl, Or.inl ⟨⟨Int32.not_lt.mp b1, Int32.not_le.mp b9⟩, rfl⟩⟩
        | exact ⟨rfl, Or.inr ⟨fun z => absurd b9 (Int32.not_le.mpr z.2), rfl⟩⟩
        | exact ⟨rfl, Or.inr ⟨fun z => absurd b1 (Int32.not_lt.mpr z.1), rfl⟩⟩

set_option maxRecDepth 100000 in
set_option maxHeartbeats 4000000 in
theorem c_X7_hasHour (g : zG) (l : Launch) {ro : Nat} {x : Int32} {M : zM} (hro : ro ∈ zRoads) : zMet g l yX7_hasHour cX7_hasHour 2 (some .boolean) 0 0 0 [.ref ro, .int x] S0 M (zQi (fun r' M' => M' = M ∧ (((0 ≤ x ∧ x < M ro 1) ∧ r' = 1) ∨ (¬ (0 ≤ x ∧ x < M ro 1) ∧ r' = 0)))) := by
  refine zMet.of (by decide) (Nat.le_of_ble_eq_true rfl) ?_
  refine z_iload_n dX7_hasHour_0 rfl ?_
  refine z_if_lt (tgt := 16) dX7_hasHour_1 (by decide) (fun b1 => ?_) (fun b1 => ?_)
  · refine z_iconst (v := 0) dX7_hasHour_16 (by decide) ?_
    refine z_iret dX7_hasHour_17 rfl zle ?_
    first
      | exact ⟨rfl, Or.inl ⟨⟨Int32.not_lt.mp b1, Int32.not_le.mp b9⟩, rfl⟩⟩
      | exact ⟨rfl, Or.inr ⟨fun z => absurd b9 (Int32.not_le.mpr z.2), rfl⟩⟩
      | exact ⟨rfl, Or.inr ⟨fun z => absurd b1 (Int32.not_lt.mpr z.1), rfl⟩⟩
  · refine z_iload_n dX7_hasHour_4 rfl ?_
    refine z_aload_n dX7_hasHour_5 rfl ?_
    refine z_getI (j := 1) kX7 lf_X7_34 (by decide) rfl dX7_hasHour_6 (zRoad_k0 hro) (zRoad_s0 hro) ?_
    refine z_icmp_ge (tgt := 16) dX7_hasHour_9 (by decide) (fun b9 => ?_) (fun b9 => ?_)
    · refine z_iconst (v := 0) dX7_hasHour_16 (by decide) ?_
      refine z_iret dX7_hasHour_17 rfl zle ?_
      first
        | exact ⟨rfl, Or.inl ⟨⟨Int32.not_lt.mp b1, Int32.not_le.mp b9⟩, rfl⟩⟩
        | exact ⟨rfl, Or.inr ⟨fun z => absurd b9 (Int32.not_le.mpr z.2), rfl⟩⟩
        | exact ⟨rfl, Or.inr ⟨fun z => absurd b1 (Int32.not_lt.mpr z.1), rfl⟩⟩
    · refine z_iconst (v := 1) dX7_hasHour_12 (by decide) ?_
      refine z_goto (tgt := 17) dX7_hasHour_13 (by decide) ?_
      refine z_iret dX7_hasHour_17 rfl zle ?_
      first
        | exact ⟨rfl, Or.inl ⟨⟨Int32.not_lt.mp b1, Int32.not_le.mp b9⟩, rfl⟩⟩
        | exact ⟨rfl, Or.inr ⟨fun z => absurd b9 (Int32.not_le.mpr z.2), rfl⟩⟩
        | exact ⟨rfl, Or.inr ⟨fun z => absurd b1 (Int32.not_lt.mpr z.1), rfl⟩⟩

set_option maxRecDepth 100000 in
set_option maxHeartbeats 4000000 in
theorem c_X7_hasRider (g : zG) (l : Launch) {ro : Nat} {x : Int32} {M : zM} (hro : ro ∈ zRoads) : zMet g l yX7_hasRider cX7_hasRider 2 (some .boolean) 0 0 0 [.ref ro, .int x] S0 M (zQi (fun r' M' => M' = M ∧ (((0 ≤ x ∧ x < M ro 2) ∧ r' = 1) ∨ (¬ (0 ≤ x ∧ x < M ro 2) ∧ r' = 0)))) := by
  refine zMet.of (by decide) (Nat.le_of_ble_eq_true rfl) ?_
  refine z_iload_n dX7_hasRider_0 rfl ?_
  refine z_if_lt (tgt := 16) dX7_hasRider_1 (by decide) (fun b1 => ?_) (fun b1 => ?_)
  · refine z_iconst (v := 0) dX7_hasRider_16 (by decide) ?_
    refine z_iret dX7_hasRider_17 rfl zle ?_
    first
      | exact ⟨rfl, Or.inl ⟨⟨Int32.not_lt.mp b1, Int32.not_le.mp b9⟩, rfl⟩⟩
      | exact ⟨rfl, Or.inr ⟨fun z => absurd b9 (Int32.not_le.mpr z.2), rfl⟩⟩
      | exact ⟨rfl, Or.inr ⟨fun z => absurd b1 (Int32.not_lt.mpr z.1), rfl⟩⟩
  · refine z_iload_n dX7_hasRider_4 rfl ?_
    refine z_aload_n dX7_hasRider_5 rfl ?_
    refine z_getI (j := 2) kX7 lf_X7_37 (by decide) rfl dX7_hasRider_6 (zRoad_k0 hro) (zRoad_s0 hro) ?_
    refine z_icmp_ge (tgt := 16) dX7_hasRider_9 (by decide) (fun b9 => ?_) (fun b9 => ?_)
    · refine z_iconst (v := 0) dX7_hasRider_16 (by decide) ?_
      refine z_iret dX7_hasRider_17 rfl zle ?_
      first
        | exact ⟨rfl, Or.inl ⟨⟨Int32.not_lt.mp b1, Int32.not_le.mp b9⟩, rfl⟩⟩
        | exact ⟨rfl, Or.inr ⟨fun z => absurd b9 (Int32.not_le.mpr z.2), rfl⟩⟩
        | exact ⟨rfl, Or.inr ⟨fun z => absurd b1 (Int32.not_lt.mpr z.1), rfl⟩⟩
    · refine z_iconst (v := 1) dX7_hasRider_12 (by decide) ?_
      refine z_goto (tgt := 17) dX7_hasRider_13 (by decide) ?_
      refine z_iret dX7_hasRider_17 rfl zle ?_
      first
        | exact ⟨rfl, Or.inl ⟨⟨Int32.not_lt.mp b1, Int32.not_le.mp b9⟩, rfl⟩⟩
        | exact ⟨rfl, Or.inr ⟨fun z => absurd b9 (Int32.not_le.mpr z.2), rfl⟩⟩
        | exact ⟨rfl, Or.inr ⟨fun z => absurd b1 (Int32.not_lt.mpr z.1), rfl⟩⟩

set_option maxRecDepth 100000 in
set_option maxHeartbeats 4000000 in
theorem c_X7_milesBetween (g : zG) (l : Launch) {ro a c m i : Nat} {M : zM} (hro : ro ∈ zRoads) (hi : i ≤ 6) (hI : M ro 0 = nI i) (ha : a < i) (hc : c < i) (hm : m = if a < c then c else a) : zMet g l yX7_milesBetween cX7_milesBetween 4 (some .int) 1 0 0 [.ref ro, .int (nI a), .int (nI c)] S0 M (zQi (fun r' M' => r' = M (ro + 1) m ∧ M' = M)) := by
  have hmi : m < i := by rw [hm]; split <;> assumption
  refine zMet.of (by decide) (Nat.le_of_ble_eq_true rfl) ?_
  refine z_iload_n dX7_milesBetween_0 rfl ?_
  refine z_iload_n dX7_milesBetween_1 rfl ?_
  refine z_max lm_X7_52 w_maxs w_mi w_maxc (by decide) (Nat.le_of_ble_eq_true rfl) (Nat.le_refl _) (Nat.le_refl _) dX7_milesBetween_2 ?_
  rw [nI_max (by omega) (by omega), ← hm]
  refine z_istore_n dX7_milesBetween_5 (by decide) rfl rfl ?_
  refine z_aload_n dX7_milesBetween_6 rfl ?_
  refine z_iload_n dX7_milesBetween_7 rfl ?_
  refine z_iV1 (c_X7_hasInn g l hro) mw_X7_hasInn lm_X7_57 mi_X7_hasInn mv_X7_hasInn kX7 (by decide) (Nat.le_of_ble_eq_true rfl) zle (zRoad_k0 hro) (zRoad_s0 hro) dX7_milesBetween_8 (fun r8 M8 q8 => ?_)
  obtain ⟨rfl, ⟨c8, rfl⟩ | ⟨c8, rfl⟩⟩ := q8
  · refine z_if_eq (tgt := 23) dX7_milesBetween_11 (by decide) (fun b11 => ?_) (fun b11 => ?_)
    · exact absurd b11 (by decide)
    · refine z_aload_n dX7_milesBetween_14 rfl ?_
      refine z_getR (j := 3) (r := (ro + 1)) kX7 lf_X7_9 (by decide) rfl dX7_milesBetween_15 (zRoad_k0 hro) (zRoad_s0 hro) (zRoad_r3 hro) (zRoad_l1 hro) ?_
      refine z_iload_n dX7_milesBetween_18 rfl ?_
      refine z_ialdN (j := m) rfl (by omega) dX7_milesBetween_19 (zRoad_k1 hro) (zRoad_s1 hro) ?_
      refine z_goto (tgt := 24) dX7_milesBetween_20 (by decide) ?_
      exact z_iret dX7_milesBetween_24 rfl zle (⟨rfl, rfl⟩)
  · exact absurd ⟨nI_pos' (by omega), by rw [hI]; exact (nI_ltI (by omega) (by omega)).mpr hmi⟩ c8

set_option maxRecDepth 100000 in
set_option maxHeartbeats 4000000 in
theorem c_X1_isLame (g : zG) (l : Launch) {M0 M : zM} {d n r i : Nat} {σ : Dy} {h : Nat} (hd : d ∈ zDays) (R : zDR M0 M d σ n r i) (hh : h < n) (hs : n ≤ 8 ∧ r ≤ 4 ∧ i ≤ 6) : zMet g l yX1_isLame cX1_isLame 2 (some .boolean) 0 0 0 [.ref d, .int (nI h)] S0 M (zQi (fun r' M' => M' = M ∧ (((σ (35 + h) = 1) ∧ r' = 1) ∨ (¬ (σ (35 + h) = 1) ∧ r' = 0)))) := by
  obtain ⟨n8, r4, i6⟩ := hs
  refine zMet.of (by decide) (Nat.le_of_ble_eq_true rfl) ?_
  refine z_aload_n dX1_isLame_0 rfl ?_
  refine z_getI (j := 5) kX1 lf_X1_38 (by decide) rfl dX1_isLame_1 (zDay_k0 hd) (zDay_s0 hd) ?_
  refine z_iload_n dX1_isLame_4 rfl ?_
  refine z_ishr dX1_isLame_5 ?_
  refine z_iconst (v := 1) dX1_isLame_6 (by decide) ?_
  refine z_iand dX1_isLame_7 ?_
  refine z_if_eq (tgt := 15) dX1_isLame_8 (by decide) (fun b8 => ?_) (fun b8 => ?_)
  · refine z_iconst (v := 0) dX1_isLame_15 (by decide) ?_
    refine z_iret dX1_isLame_16 rfl zle ?_
    have e := R.1.2.2.1.is hh n8
    first
      | exact ⟨rfl, Or.inr ⟨fun z => by rw [(z_b0 (by omega)).mp b8] at e; exact absurd z (of_decide_eq_false e.symm), rfl⟩⟩
      | exact ⟨rfl, Or.inl ⟨by
          have e2 : bt (M d 5) h = true := by
            rcases Bool.eq_false_or_eq_true (bt (M d 5) h) with z | z
            · exact z
            · exact absurd ((z_b0 (by omega)).mpr z) b8
          rw [e2] at e
          exact of_decide_eq_true e.symm, rfl⟩⟩
  · refine z_iconst (v := 1) dX1_isLame_11 (by decide) ?_
    refine z_goto (tgt := 16) dX1_isLame_12 (by decide) ?_
    refine z_iret dX1_isLame_16 rfl zle ?_
    have e := R.1.2.2.1.is hh n8
    first
      | exact ⟨rfl, Or.inr ⟨fun z => by rw [(z_b0 (by omega)).mp b8] at e; exact absurd z (of_decide_eq_false e.symm), rfl⟩⟩
      | exact ⟨rfl, Or.inl ⟨by
          have e2 : bt (M d 5) h = true := by
            rcases Bool.eq_false_or_eq_true (bt (M d 5) h) with z | z
            · exact z
            · exact absurd ((z_b0 (by omega)).mpr z) b8
          rw [e2] at e
          exact of_decide_eq_true e.symm, rfl⟩⟩

set_option maxRecDepth 100000 in
set_option maxHeartbeats 4000000 in
theorem c_X1_isThere (g : zG) (l : Launch) {M0 M : zM} {d n r i : Nat} {σ : Dy} {q : Nat} (hd : d ∈ zDays) (R : zDR M0 M d σ n r i) (hq : q < r) (hs : n ≤ 8 ∧ r ≤ 4 ∧ i ≤ 6) : zMet g l yX1_isThere cX1_isThere 2 (some .boolean) 0 0 0 [.ref d, .int (nI q)] S0 M (zQi (fun r' M' => M' = M ∧ (((σ (51 + q) = σ (55 + q)) ∧ r' = 1) ∨ (¬ (σ (51 + q) = σ (55 + q)) ∧ r' = 0)))) := by
  obtain ⟨n8, r4, i6⟩ := hs
  refine zMet.of (by decide) (Nat.le_of_ble_eq_true rfl) ?_
  refine z_aload_n dX1_isThere_0 rfl ?_
  refine z_getR (j := 6) (r := (d + 4)) kX1 lf_X1_21 (by decide) rfl dX1_isThere_1 (zDay_k0 hd) (zDay_s0 hd) (zDay_r6 hd) (zDay_l4 hd) ?_
  refine z_iload_n dX1_isThere_4 rfl ?_
  refine z_ialdV (j := q) rfl (by omega) (R.1.2.2.2.2 q (by omega)).1 dX1_isThere_5 (zDay_k4 hd) (zDay_s4 hd) ?_
  refine z_aload_n dX1_isThere_6 rfl ?_
  refine z_getR (j := 7) (r := (d + 5)) kX1 lf_X1_24 (by decide) rfl dX1_isThere_7 (zDay_k0 hd) (zDay_s0 hd) (zDay_r7 hd) (zDay_l5 hd) ?_
  refine z_iload_n dX1_isThere_10 rfl ?_
  refine z_ialdV (j := q) rfl (by omega) (R.1.2.2.2.2 q (by omega)).2.1 dX1_isThere_11 (zDay_k5 hd) (zDay_s5 hd) ?_
  refine z_icmp_ne (tgt := 19) dX1_isThere_12 (by decide) (fun b12 => ?_) (fun b12 => ?_)
  · refine z_iconst (v := 0) dX1_isThere_19 (by decide) ?_
    refine z_iret dX1_isThere_20 rfl zle ?_
    first
      | exact ⟨rfl, Or.inl ⟨b12, rfl⟩⟩
      | exact ⟨rfl, Or.inr ⟨b12, rfl⟩⟩
  · refine z_iconst (v := 1) dX1_isThere_15 (by decide) ?_
    refine z_goto (tgt := 20) dX1_isThere_16 (by decide) ?_
    refine z_iret dX1_isThere_20 rfl zle ?_
    first
      | exact ⟨rfl, Or.inl ⟨b12, rfl⟩⟩
      | exact ⟨rfl, Or.inr ⟨b12, rfl⟩⟩

set_option maxRecDepth 100000 in
set_option maxHeartbeats 4000000 in
theorem c_X1_healIfRested (g : zG) (l : Launch) {M0 M : zM} {d n r i : Nat} {σ : Dy} {h : Nat} (hd : d ∈ zDays) (R : zDR M0 M d σ n r i) (hh : h < n) (hs : n ≤ 8 ∧ r ≤ 4 ∧ i ≤ 6) : zMet g l yX1_healIfRested cX1_healIfRested 2 none 0 0 0 [.ref d, .int (nI h)] S0 M (zQv (fun M' => zDR M0 M' d (if σ (27 + h) = 0 then upd σ (35 + h) 0 else σ) n r i)) := by
  obtain ⟨n8, r4, i6⟩ := hs
  refine zMet.of (by decide) (Nat.le_of_ble_eq_true rfl) ?_
  refine z_aload_n dX1_healIfRested_0 rfl ?_
  refine z_getR (j := 3) (r := (d + 2)) kX1 lf_X1_15 (by decide) rfl dX1_healIfRested_1 (zDay_k0 hd) (zDay_s0 hd) (zDay_r3 hd) (zDay_l2 hd) ?_
  refine z_iload_n dX1_healIfRested_4 rfl ?_
  refine z_ialdV (j := h) rfl (by omega) (R.1.2.2.2.1 h (by omega)).2.1 dX1_healIfRested_5 (zDay_k2 hd) (zDay_s2 hd) ?_
  refine z_if_ne (tgt := 23) dX1_healIfRested_6 (by decide) (fun b6 => ?_) (fun b6 => ?_)
  · refine z_vret dX1_healIfRested_23 zle ?_
    first
      | (rw [if_neg b6]; exact R)
      | (rw [if_pos b6]; exact R20)
  · refine z_aload_n dX1_healIfRested_9 rfl ?_
    refine z_dup dX1_healIfRested_10 rfl ?_
    refine z_getI (j := 5) kX1 lf_X1_38 (by decide) rfl dX1_healIfRested_11 (zDay_k0 hd) (zDay_s0 hd) ?_
    refine z_iconst (v := 1) dX1_healIfRested_14 (by decide) ?_
    refine z_iload_n dX1_healIfRested_15 rfl ?_
    refine z_ishl dX1_healIfRested_16 ?_
    refine z_iconst (v := (-1)) dX1_healIfRested_17 (by decide) ?_
    refine z_ixor dX1_healIfRested_18 ?_
    refine z_iand dX1_healIfRested_19 ?_
    refine z_putIE (j := 5) kX1 lf_X1_38 (by decide) rfl rfl (kX1.2.2.1 5 (by decide)) rfl rfl dX1_healIfRested_20 (zDay_k0 hd) (zDay_s0 hd) (fun M20 e20 => ?_)
    have R20 := R.lame hd h 0 _ e20 n8 r4 (by omega) (R.1.2.2.1.clr (by omega) n8)
    refine z_vret dX1_healIfRested_23 zle ?_
    first
      | (rw [if_neg b6]; exact R)
      | (rw [if_pos b6]; exact R20)

set_option maxRecDepth 100000 in
set_option maxHeartbeats 4000000 in
theorem c_X1_giveShoes (g : zG) (l : Launch) {M0 M : zM} {d n r i : Nat} {σ : Dy} {h : Nat} (hd : d ∈ zDays) (R : zDR M0 M d σ n r i) (hh : h < n) (hs : n ≤ 8 ∧ r ≤ 4 ∧ i ≤ 6) : zMet g l yX1_giveShoes cX1_giveShoes 2 none 0 0 0 [.ref d, .int (nI h)] S0 M (zQv (fun M' => zDR M0 M' d (upd (upd σ (35 + h) 0) (27 + h) 5) n r i)) := by
  obtain ⟨n8, r4, i6⟩ := hs
  refine zMet.of (by decide) (Nat.le_of_ble_eq_true rfl) ?_
  refine z_aload_n dX1_giveShoes_0 rfl ?_
  refine z_dup dX1_giveShoes_1 rfl ?_
  refine z_getI (j := 5) kX1 lf_X1_38 (by decide) rfl dX1_giveShoes_2 (zDay_k0 hd) (zDay_s0 hd) ?_
  refine z_iconst (v := 1) dX1_giveShoes_5 (by decide) ?_
  refine z_iload_n dX1_giveShoes_6 rfl ?_
  refine z_ishl dX1_giveShoes_7 ?_
  refine z_iconst (v := (-1)) dX1_giveShoes_8 (by decide) ?_
  refine z_ixor dX1_giveShoes_9 ?_
  refine z_iand dX1_giveShoes_10 ?_
  refine z_putIE (j := 5) kX1 lf_X1_38 (by decide) rfl rfl (kX1.2.2.1 5 (by decide)) rfl rfl dX1_giveShoes_11 (zDay_k0 hd) (zDay_s0 hd) (fun M11 e11 => ?_)
  have R11 := R.lame hd h 0 _ e11 n8 r4 (by omega) (R.1.2.2.1.clr (by omega) n8)
  refine z_aload_n dX1_giveShoes_14 rfl ?_
  refine z_getR (j := 3) (r := (d + 2)) kX1 lf_X1_15 (by decide) rfl dX1_giveShoes_15 (zDay_k0 hd) (zDay_s0 hd) (zDay_r3 hd) (zDay_l2 hd) ?_
  refine z_iload_n dX1_giveShoes_18 rfl ?_
  refine z_iconst (v := 5) dX1_giveShoes_19 (by decide) ?_
  refine z_iastE (j := h) rfl (by omega) dX1_giveShoes_20 (zDay_k2 hd) (zDay_s2 hd) (fun M20 e20 => ?_)
  have R20 := R11.row hd 2 27 h _ e20 n8 r4 (by omega) i6
  refine z_vret dX1_giveShoes_21 zle ?_
  exact R20

set_option maxRecDepth 100000 in
set_option maxHeartbeats 4000000 in
theorem c_X1_tire (g : zG) (l : Launch) {M0 M : zM} {d n r i : Nat} {σ : Dy} {h : Nat} {x : Int32} (hd : d ∈ zDays) (R : zDR M0 M d σ n r i) (hh : h < n) (hs : n ≤ 8 ∧ r ≤ 4 ∧ i ≤ 6) : zMet g l yX1_tire cX1_tire 3 none 0 0 0 [.ref d, .int (nI h), .int x] S0 M (zQv (fun M' => zDR M0 M' d (dTire σ h x) n r i)) := by
  obtain ⟨n8, r4, i6⟩ := hs
  refine zMet.of (by decide) (Nat.le_of_ble_eq_true rfl) ?_
  refine z_aload_n dX1_tire_0 rfl ?_
  refine z_getR (j := 3) (r := (d + 2)) kX1 lf_X1_15 (by decide) rfl dX1_tire_1 (zDay_k0 hd) (zDay_s0 hd) (zDay_r3 hd) (zDay_l2 hd) ?_
  refine z_iload_n dX1_tire_4 rfl ?_
  refine z_dup2 dX1_tire_5 rfl rfl ?_
  refine z_ialdV (j := h) rfl (by omega) (R.1.2.2.2.1 h (by omega)).2.1 dX1_tire_6 (zDay_k2 hd) (zDay_s2 hd) ?_
  refine z_iload_n dX1_tire_7 rfl ?_
  refine z_iadd dX1_tire_8 ?_
  refine z_iastE (j := h) rfl (by omega) dX1_tire_9 (zDay_k2 hd) (zDay_s2 hd) (fun M9 e9 => ?_)
  have R9 := R.row hd 2 27 h _ e9 n8 r4 (by omega) i6
  refine z_aload_n dX1_tire_10 rfl ?_
  refine z_getR (j := 3) (r := (d + 2)) kX1 lf_X1_15 (by decide) rfl dX1_tire_11 (zDay_k0 hd) (zDay_s0 hd) (zDay_r3 hd) (zDay_l2 hd) ?_
  refine z_iload_n dX1_tire_14 rfl ?_
  refine z_ialdV (j := h) rfl (by omega) ((R9.1.2.2.2.1 h (by omega)).2.1.trans (upd_s _ _ _)) dX1_tire_15 (zDay_k2 hd) (zDay_s2 hd) ?_
  refine z_bipush (v := 10) dX1_tire_16 (by decide) ?_
  refine z_icmp_lt (tgt := 41) dX1_tire_18 (by decide) (fun b18 => ?_) (fun b18 => ?_)
  · refine z_vret dX1_tire_41 zle ?_
    unfold dTire
    first
      | (rw [if_neg (fun z => (z_910 _).mpr z b18)]; exact R9)
      | (rw [if_pos ((z_910 _).mp b18), ← upd_tw σ (27 + h) (σ (27 + h) + x) 10]; exact R38)
  · refine z_aload_n dX1_tire_21 rfl ?_
    refine z_getR (j := 3) (r := (d + 2)) kX1 lf_X1_15 (by decide) rfl dX1_tire_22 (zDay_k0 hd) (zDay_s0 hd) (zDay_r3 hd) (zDay_l2 hd) ?_
    refine z_iload_n dX1_tire_25 rfl ?_
    refine z_bipush (v := 10) dX1_tire_26 (by decide) ?_
    refine z_iastE (j := h) rfl (by omega) dX1_tire_28 (zDay_k2 hd) (zDay_s2 hd) (fun M28 e28 => ?_)
    have R28 := R9.row hd 2 27 h _ e28 n8 r4 (by omega) i6
    refine z_aload_n dX1_tire_29 rfl ?_
    refine z_dup dX1_tire_30 rfl ?_
    refine z_getI (j := 5) kX1 lf_X1_38 (by decide) rfl dX1_tire_31 (zDay_k0 hd) (zDay_s0 hd) ?_
    refine z_iconst (v := 1) dX1_tire_34 (by decide) ?_
    refine z_iload_n dX1_tire_35 rfl ?_
    refine z_ishl dX1_tire_36 ?_
    refine z_ior dX1_tire_37 ?_
    refine z_putIE (j := 5) kX1 lf_X1_38 (by decide) rfl rfl (kX1.2.2.1 5 (by decide)) rfl rfl dX1_tire_38 (zDay_k0 hd) (zDay_s0 hd) (fun M38 e38 => ?_)
    have R38 := R28.lame hd h 1 _ e38 n8 r4 (by omega) (R28.1.2.2.1.set (by omega) n8)
    refine z_vret dX1_tire_41 zle ?_
    unfold dTire
    first
      | (rw [if_neg (fun z => (z_910 _).mpr z b18)]; exact R9)
      | (rw [if_pos ((z_910 _).mp b18), ← upd_tw σ (27 + h) (σ (27 + h) + x) 10]; exact R38)

set_option maxRecDepth 100000 in
set_option maxHeartbeats 4000000 in
theorem c_X1_giveOats (g : zG) (l : Launch) {M0 M : zM} {d n r i : Nat} {σ : Dy} {h : Nat} (hd : d ∈ zDays) (R : zDR M0 M d σ n r i) (hh : h < n) (hs : n ≤ 8 ∧ r ≤ 4 ∧ i ≤ 6) : zMet g l yX1_giveOats cX1_giveOats 2 none 1 0 0 [.ref d, .int (nI h)] S0 M (zQv (fun M' => zDR M0 M' d (dEase σ h (σ (27 + h) - 3)) n r i)) := by
  obtain ⟨n8, r4, i6⟩ := hs
  refine zMet.of (by decide) (Nat.le_of_ble_eq_true rfl) ?_
  refine z_aload_n dX1_giveOats_0 rfl ?_
  refine z_getR (j := 3) (r := (d + 2)) kX1 lf_X1_15 (by decide) rfl dX1_giveOats_1 (zDay_k0 hd) (zDay_s0 hd) (zDay_r3 hd) (zDay_l2 hd) ?_
  refine z_iload_n dX1_giveOats_4 rfl ?_
  refine z_iconst (v := 0) dX1_giveOats_5 (by decide) ?_
  refine z_aload_n dX1_giveOats_6 rfl ?_
  refine z_getR (j := 3) (r := (d + 2)) kX1 lf_X1_15 (by decide) rfl dX1_giveOats_7 (zDay_k0 hd) (zDay_s0 hd) (zDay_r3 hd) (zDay_l2 hd) ?_
  refine z_iload_n dX1_giveOats_10 rfl ?_
  refine z_ialdV (j := h) rfl (by omega) (R.1.2.2.2.1 h (by omega)).2.1 dX1_giveOats_11 (zDay_k2 hd) (zDay_s2 hd) ?_
  refine z_iconst (v := 3) dX1_giveOats_12 (by decide) ?_
  refine z_isub dX1_giveOats_13 ?_
  refine z_max lm_X1_67 w_maxs w_mi w_maxc (by decide) (Nat.le_of_ble_eq_true rfl) (Nat.le_refl _) (Nat.le_refl _) dX1_giveOats_14 ?_
  refine z_iastE (j := h) rfl (by omega) dX1_giveOats_17 (zDay_k2 hd) (zDay_s2 hd) (fun M17 e17 => ?_)
  have R17 := R.row hd 2 27 h _ e17 n8 r4 (by omega) i6
  refine z_aload_n dX1_giveOats_18 rfl ?_
  refine z_iload_n dX1_giveOats_19 rfl ?_
  refine z_vV1 (c_X1_healIfRested g l hd R17 hh ⟨n8, r4, i6⟩) mw_X1_healIfRested lm_X1_73 mi_X1_healIfRested mv_X1_healIfRested kX1 (by decide) (Nat.le_of_ble_eq_true rfl) zle (zDay_k0 hd) (zDay_s0 hd) dX1_giveOats_20 (fun M20 q20 => ?_)
  refine z_vret dX1_giveOats_23 zle ?_
  rw [upd_s, dEase_cls] at q20
  exact q20

set_option maxRecDepth 100000 in
set_option maxHeartbeats 4000000 in
theorem c_X1_rest (g : zG) (l : Launch) {M0 M : zM} {d n r i : Nat} {σ : Dy} {h : Nat} (hd : d ∈ zDays) (R : zDR M0 M d σ n r i) (hh : h < n) (hs : n ≤ 8 ∧ r ≤ 4 ∧ i ≤ 6) : zMet g l yX1_rest cX1_rest 3 none 1 0 0 [.ref d, .int (nI h)] S0 M (zQv (fun M' => zDR M0 M' d (dEase σ h (dLeft σ h)) n r i)) := by
  obtain ⟨n8, r4, i6⟩ := hs
  refine zMet.of (by decide) (Nat.le_of_ble_eq_true rfl) ?_
  refine z_aload_n dX1_rest_0 rfl ?_
  refine z_iload_n dX1_rest_1 rfl ?_
  refine z_iV1 (c_X1_isLame g l hd R hh ⟨n8, r4, i6⟩) mw_X1_isLame lm_X1_120 mi_X1_isLame mv_X1_isLame kX1 (by decide) (Nat.le_of_ble_eq_true rfl) zle (zDay_k0 hd) (zDay_s0 hd) dX1_rest_2 (fun r2 M2 q2 => ?_)
  obtain ⟨rfl, ⟨c2, rfl⟩ | ⟨c2, rfl⟩⟩ := q2
  · refine z_if_eq (tgt := 12) dX1_rest_5 (by decide) (fun b5 => ?_) (fun b5 => ?_)
    · exact absurd b5 (by decide)
    · refine z_iconst (v := 1) dX1_rest_8 (by decide) ?_
      refine z_goto (tgt := 24) dX1_rest_9 (by decide) ?_
      refine z_istore_n dX1_rest_24 (by decide) rfl rfl ?_
      refine z_aload_n dX1_rest_25 rfl ?_
      refine z_getR (j := 3) (r := (d + 2)) kX1 lf_X1_15 (by decide) rfl dX1_rest_26 (zDay_k0 hd) (zDay_s0 hd) (zDay_r3 hd) (zDay_l2 hd) ?_
      refine z_iload_n dX1_rest_29 rfl ?_
      refine z_iconst (v := 0) dX1_rest_30 (by decide) ?_
      refine z_aload_n dX1_rest_31 rfl ?_
      refine z_getR (j := 3) (r := (d + 2)) kX1 lf_X1_15 (by decide) rfl dX1_rest_32 (zDay_k0 hd) (zDay_s0 hd) (zDay_r3 hd) (zDay_l2 hd) ?_
      refine z_iload_n dX1_rest_35 rfl ?_
      refine z_ialdV (j := h) rfl (by omega) (R.1.2.2.2.1 h (by omega)).2.1 dX1_rest_36 (zDay_k2 hd) (zDay_s2 hd) ?_
      refine z_iload_n dX1_rest_37 rfl ?_
      refine z_isub dX1_rest_38 ?_
      refine z_as (x' := dLeft σ h) (by unfold dLeft; first | rw [if_pos c2] | rw [if_neg c2]) ?_
      refine z_max lm_X1_67 w_maxs w_mi w_maxc (by decide) (Nat.le_of_ble_eq_true rfl) (Nat.le_refl _) (Nat.le_refl _) dX1_rest_39 ?_
      refine z_iastE (j := h) rfl (by omega) dX1_rest_42 (zDay_k2 hd) (zDay_s2 hd) (fun M42 e42 => ?_)
      have R42 := R.row hd 2 27 h _ e42 n8 r4 (by omega) i6
      refine z_aload_n dX1_rest_43 rfl ?_
      refine z_iload_n dX1_rest_44 rfl ?_
      refine z_vV1 (c_X1_healIfRested g l hd R42 hh ⟨n8, r4, i6⟩) mw_X1_healIfRested lm_X1_73 mi_X1_healIfRested mv_X1_healIfRested kX1 (by decide) (Nat.le_of_ble_eq_true rfl) zle (zDay_k0 hd) (zDay_s0 hd) dX1_rest_45 (fun M45 q45 => ?_)
      refine z_vret dX1_rest_48 zle ?_
      rw [upd_s, dEase_cls] at q45
      exact q45
  · refine z_if_eq (tgt := 12) dX1_rest_5 (by decide) (fun b5 => ?_) (fun b5 => ?_)
    · refine z_aload_n dX1_rest_12 rfl ?_
      refine z_getR (j := 0) (r := 1) kX1 lf_X1_30 (by decide) rfl dX1_rest_13 (zDay_k0 hd) (zDay_s0 hd) (zDay_r0 hd) (by decide) ?_
      refine z_getR (j := 4) (r := 3) kX7 lf_X1_77 (by decide) rfl dX1_rest_16 k0_1 s0_1 r0_1_4 (by decide) ?_
      refine z_iload_n dX1_rest_19 rfl ?_
      refine z_ialdV (j := h) rfl (by omega) (R.1.1.2.2.2.2 h (by omega)).1 dX1_rest_20 k0_3 s0_3 ?_
      refine z_iS1 (c_X2_rests g l) mw_X2_rests lm_X1_123 ms_X2_rests (by decide) (Nat.le_of_ble_eq_true rfl) zle dX1_rest_21 (fun r21 M21 q21 => ?_)
      obtain ⟨rfl, rfl⟩ := q21
      refine z_istore_n dX1_rest_24 (by decide) rfl rfl ?_
      refine z_aload_n dX1_rest_25 rfl ?_
      refine z_getR (j := 3) (r := (d + 2)) kX1 lf_X1_15 (by decide) rfl dX1_rest_26 (zDay_k0 hd) (zDay_s0 hd) (zDay_r3 hd) (zDay_l2 hd) ?_
      refine z_iload_n dX1_rest_29 rfl ?_
      refine z_iconst (v := 0) dX1_rest_30 (by decide) ?_
      refine z_aload_n dX1_rest_31 rfl ?_
      refine z_getR (j := 3) (r := (d + 2)) kX1 lf_X1_15 (by decide) rfl dX1_rest_32 (zDay_k0 hd) (zDay_s0 hd) (zDay_r3 hd) (zDay_l2 hd) ?_
      refine z_iload_n dX1_rest_35 rfl ?_
      refine z_ialdV (j := h) rfl (by omega) (R.1.2.2.2.1 h (by omega)).2.1 dX1_rest_36 (zDay_k2 hd) (zDay_s2 hd) ?_
      refine z_iload_n dX1_rest_37 rfl ?_
      refine z_isub dX1_rest_38 ?_
      refine z_as (x' := dLeft σ h) (by unfold dLeft; first | rw [if_pos c2] | rw [if_neg c2]) ?_
      refine z_max lm_X1_67 w_maxs w_mi w_maxc (by decide) (Nat.le_of_ble_eq_true rfl) (Nat.le_refl _) (Nat.le_refl _) dX1_rest_39 ?_
      refine z_iastE (j := h) rfl (by omega) dX1_rest_42 (zDay_k2 hd) (zDay_s2 hd) (fun M42 e42 => ?_)
      have R42 := R.row hd 2 27 h _ e42 n8 r4 (by omega) i6
      refine z_aload_n dX1_rest_43 rfl ?_
      refine z_iload_n dX1_rest_44 rfl ?_
      refine z_vV1 (c_X1_healIfRested g l hd R42 hh ⟨n8, r4, i6⟩) mw_X1_healIfRested lm_X1_73 mi_X1_healIfRested mv_X1_healIfRested kX1 (by decide) (Nat.le_of_ble_eq_true rfl) zle (zDay_k0 hd) (zDay_s0 hd) dX1_rest_45 (fun M45 q45 => ?_)
      refine z_vret dX1_rest_48 zle ?_
      rw [upd_s, dEase_cls] at q45
      exact q45
    · exact absurd b5 (by decide)

set_option maxRecDepth 100000 in
set_option maxHeartbeats 4000000 in
theorem lp_chooseHour (g : zG) (l : Launch) {M0 M : zM} {d n r i : Nat} {σ : Dy} {q : Nat} {s : Int32} (hd : d ∈ zDays) (R : zDR M0 M d σ n r i) (ok : dOK σ n r i) (hq : q < r) : ∀ (k h : Nat), h ≤ n → n - h < k → ∀ ρ : Int32, dRkI σ s q h ρ → zA g l yX1_chooseHour cX1_chooseHour 8 (some .int) 1 0 0 (zQi (fun r' M' => r' = (dGiv σ s q n).1 ∧ M' = M)) 16 0 0 S0 M [.ref d, .int (nI q), .int s, .int (s ||| M d 5), .int (dGiv σ s q h).1, .int ρ, .int (nI h), .null] [] := by
  have n8 := ok.1.1
  have r4 := ok.1.2.1
  have i6 := ok.1.2.2.1
  intro k
  induction k with
  | zero => intro h hh hk; exact absurd hk (Nat.not_lt_zero _)
  | succ k ih =>
    intro h hh hk ρ I
    refine z_iload dX1_chooseHour_16 rfl ?_
    refine z_aload_n dX1_chooseHour_18 rfl ?_
    refine z_getR (j := 0) (r := 1) kX1 lf_X1_30 (by decide) rfl dX1_chooseHour_19 (zDay_k0 hd) (zDay_s0 hd) (zDay_r0 hd) (by decide) ?_
    refine z_getIV (j := 1) kX7 lf_X1_41 (by decide) rfl R.1.1.2.1 dX1_chooseHour_22 k0_1 s0_1 ?_
    refine z_icmp_ge (tgt := 118) dX1_chooseHour_25 (by decide) (fun b25 => ?_) (fun b25 => ?_)
    · have e : n ≤ h := (nI_leI (by omega) (by omega)).mp b25
      have e2 : h = n := by omega
      subst e2
      refine z_iload dX1_chooseHour_118 rfl ?_
      exact z_iret dX1_chooseHour_120 rfl zle (⟨rfl, rfl⟩)
    · have hn : h < n := by
        rcases Nat.lt_or_ge h n with z | z
        · exact z
        · exact absurd (nI_le z (by omega)) b25
      refine z_aload_n dX1_chooseHour_28 rfl ?_
      refine z_getR (j := 2) (r := (d + 1)) kX1 lf_X1_11 (by decide) rfl dX1_chooseHour_29 (zDay_k0 hd) (zDay_s0 hd) (zDay_r2 hd) (zDay_l1 hd) ?_
      refine z_iload dX1_chooseHour_32 rfl ?_
      refine z_ialdV (j := h) rfl (by omega) (R.1.2.2.2.1 h (by omega)).1 dX1_chooseHour_34 (zDay_k1 hd) (zDay_s1 hd) ?_
      refine z_aload_n dX1_chooseHour_35 rfl ?_
      refine z_getR (j := 6) (r := (d + 4)) kX1 lf_X1_21 (by decide) rfl dX1_chooseHour_36 (zDay_k0 hd) (zDay_s0 hd) (zDay_r6 hd) (zDay_l4 hd) ?_
      refine z_iload_n dX1_chooseHour_39 rfl ?_
      refine z_ialdV (j := q) rfl (by omega) (R.1.2.2.2.2 q (by omega)).1 dX1_chooseHour_40 (zDay_k4 hd) (zDay_s4 hd) ?_
      refine z_icmp_ne (tgt := 112) dX1_chooseHour_41 (by decide) (fun b41 => ?_) (fun b41 => ?_)
      · refine z_iincN (k := h) dX1_chooseHour_112 rfl rfl (by decide) rfl rfl ?_
        refine z_goto (tgt := 16) dX1_chooseHour_115 (by decide) ?_
        first
          | (have e9 : dGiv σ s q (h + 1) = dGiv σ s q h := dGiv_no (fun z => b41 z.1)
             have h0 := ih (h + 1) (by omega) (by omega) ρ (I.no e9)
             rw [e9] at h0
             exact h0)
          | (have e9 : dGiv σ s q (h + 1) = dGiv σ s q h := dGiv_no (fun z => b50 ((dBar ok R.1.2.2.1 hn s).mpr z.2))
             have h0 := ih (h + 1) (by omega) (by omega) ρ (I.no e9)
             rw [e9] at h0
             exact h0)
          | (have e9 : dGiv σ s q (h + 1) = (nI h, dBy σ h) := I.first ok hn ⟨b41, (dBar ok R.1.2.2.1 hn s).mp b50⟩ b94
             have h0 := ih (h + 1) (by omega) (by omega) (dRk σ h) (dRkI.got e9)
             rw [e9] at h0
             exact zA.sub h0 rfl ⟨Or.inr rfl, Or.inr rfl, Or.inr rfl, Or.inr rfl, Or.inr rfl, Or.inr rfl, Or.inr rfl, Or.inl rfl, trivial⟩)
          | (have e9 : dGiv σ s q (h + 1) = (nI h, dBy σ h) := (I.less ok hn ⟨b41, (dBar ok R.1.2.2.1 hn s).mp b50⟩ b94).1 (Int32.not_le.mp b101)
             have h0 := ih (h + 1) (by omega) (by omega) (dRk σ h) (dRkI.got e9)
             rw [e9] at h0
             exact zA.sub h0 rfl ⟨Or.inr rfl, Or.inr rfl, Or.inr rfl, Or.inr rfl, Or.inr rfl, Or.inr rfl, Or.inr rfl, Or.inl rfl, trivial⟩)
          | (have e9 : dGiv σ s q (h + 1) = dGiv σ s q h := (I.less ok hn ⟨b41, (dBar ok R.1.2.2.1 hn s).mp b50⟩ b94).2 (Int32.not_lt.mpr b101)
             have h0 := ih (h + 1) (by omega) (by omega) ρ (I.no e9)
             rw [e9] at h0
             exact zA.sub h0 rfl ⟨Or.inr rfl, Or.inr rfl, Or.inr rfl, Or.inr rfl, Or.inr rfl, Or.inr rfl, Or.inr rfl, Or.inl rfl, trivial⟩)
      · refine z_iload_n dX1_chooseHour_44 rfl ?_
        refine z_iload dX1_chooseHour_45 rfl ?_
        refine z_ishr dX1_chooseHour_47 ?_
        refine z_iconst (v := 1) dX1_chooseHour_48 (by decide) ?_
        refine z_iand dX1_chooseHour_49 ?_
        refine z_if_ne (tgt := 112) dX1_chooseHour_50 (by decide) (fun b50 => ?_) (fun b50 => ?_)
        · refine z_iincN (k := h) dX1_chooseHour_112 rfl rfl (by decide) rfl rfl ?_
          refine z_goto (tgt := 16) dX1_chooseHour_115 (by decide) ?_
          first
            | (have e9 : dGiv σ s q (h + 1) = dGiv σ s q h := dGiv_no (fun z => b41 z.1)
               have h0 := ih (h + 1) (by omega) (by omega) ρ (I.no e9)
               rw [e9] at h0
               exact h0)
            | (have e9 : dGiv σ s q (h + 1) = dGiv σ s q h := dGiv_no (fun z => b50 ((dBar ok R.1.2.2.1 hn s).mpr z.2))
               have h0 := ih (h + 1) (by omega) (by omega) ρ (I.no e9)
               rw [e9] at h0
               exact h0)
            | (have e9 : dGiv σ s q (h + 1) = (nI h, dBy σ h) := I.first ok hn ⟨b41, (dBar ok R.1.2.2.1 hn s).mp b50⟩ b94
               have h0 := ih (h + 1) (by omega) (by omega) (dRk σ h) (dRkI.got e9)
               rw [e9] at h0
               exact zA.sub h0 rfl ⟨Or.inr rfl, Or.inr rfl, Or.inr rfl, Or.inr rfl, Or.inr rfl, Or.inr rfl, Or.inr rfl, Or.inl rfl, trivial⟩)
            | (have e9 : dGiv σ s q (h + 1) = (nI h, dBy σ h) := (I.less ok hn ⟨b41, (dBar ok R.1.2.2.1 hn s).mp b50⟩ b94).1 (Int32.not_le.mp b101)
               have h0 := ih (h + 1) (by omega) (by omega) (dRk σ h) (dRkI.got e9)
               rw [e9] at h0
               exact zA.sub h0 rfl ⟨Or.inr rfl, Or.inr rfl, Or.inr rfl, Or.inr rfl, Or.inr rfl, Or.inr rfl, Or.inr rfl, Or.inl rfl, trivial⟩)
            | (have e9 : dGiv σ s q (h + 1) = dGiv σ s q h := (I.less ok hn ⟨b41, (dBar ok R.1.2.2.1 hn s).mp b50⟩ b94).2 (Int32.not_lt.mpr b101)
               have h0 := ih (h + 1) (by omega) (by omega) ρ (I.no e9)
               rw [e9] at h0
               exact zA.sub h0 rfl ⟨Or.inr rfl, Or.inr rfl, Or.inr rfl, Or.inr rfl, Or.inr rfl, Or.inr rfl, Or.inr rfl, Or.inl rfl, trivial⟩)
        · refine z_aload_n dX1_chooseHour_53 rfl ?_
          refine z_getR (j := 0) (r := 1) kX1 lf_X1_30 (by decide) rfl dX1_chooseHour_54 (zDay_k0 hd) (zDay_s0 hd) (zDay_r0 hd) (by decide) ?_
          refine z_getR (j := 4) (r := 3) kX7 lf_X1_77 (by decide) rfl dX1_chooseHour_57 k0_1 s0_1 r0_1_4 (by decide) ?_
          refine z_iload dX1_chooseHour_60 rfl ?_
          refine z_ialdV (j := h) rfl (by omega) (R.1.1.2.2.2.2 h (by omega)).1 dX1_chooseHour_62 k0_3 s0_3 ?_
          refine z_iS1 (c_X2_isWilling g l) mw_X2_isWilling lm_X1_80 ms_X2_isWilling (by decide) (Nat.le_of_ble_eq_true rfl) zle dX1_chooseHour_63 (fun r63 M63 q63 => ?_)
          obtain ⟨rfl, ⟨c63, rfl⟩ | ⟨c63, rfl⟩⟩ := q63
          · refine z_if_eq (tgt := 79) dX1_chooseHour_66 (by decide) (fun b66 => ?_) (fun b66 => ?_)
            · exact absurd b66 (by decide)
            · refine z_aload_n dX1_chooseHour_69 rfl ?_
              refine z_getR (j := 3) (r := (d + 2)) kX1 lf_X1_15 (by decide) rfl dX1_chooseHour_70 (zDay_k0 hd) (zDay_s0 hd) (zDay_r3 hd) (zDay_l2 hd) ?_
              refine z_iload dX1_chooseHour_73 rfl ?_
              refine z_ialdV (j := h) rfl (by omega) (R.1.2.2.2.1 h (by omega)).2.1 dX1_chooseHour_75 (zDay_k2 hd) (zDay_s2 hd) ?_
              refine z_goto (tgt := 89) dX1_chooseHour_76 (by decide) ?_
              refine z_as (x' := dRk σ h) (by unfold dRk; first | rw [if_neg c63] | rw [if_pos (Classical.byContradiction c63)]) ?_
              refine z_istore dX1_chooseHour_89 (by decide) rfl rfl ?_
              refine z_iload dX1_chooseHour_91 rfl ?_
              refine z_iconst (v := (-1)) dX1_chooseHour_93 (by decide) ?_
              refine z_icmp_eq (tgt := 104) dX1_chooseHour_94 (by decide) (fun b94 => ?_) (fun b94 => ?_)
              · refine z_iload dX1_chooseHour_104 rfl ?_
                refine z_istore dX1_chooseHour_106 (by decide) rfl rfl ?_
                refine z_iload dX1_chooseHour_108 rfl ?_
                refine z_istore dX1_chooseHour_110 (by decide) rfl rfl ?_
                refine z_iincN (k := h) dX1_chooseHour_112 rfl rfl (by decide) rfl rfl ?_
                refine z_goto (tgt := 16) dX1_chooseHour_115 (by decide) ?_
                first
                  | (have e9 : dGiv σ s q (h + 1) = dGiv σ s q h := dGiv_no (fun z => b41 z.1)
                     have h0 := ih (h + 1) (by omega) (by omega) ρ (I.no e9)
                     rw [e9] at h0
                     exact h0)
                  | (have e9 : dGiv σ s q (h + 1) = dGiv σ s q h := dGiv_no (fun z => b50 ((dBar ok R.1.2.2.1 hn s).mpr z.2))
                     have h0 := ih (h + 1) (by omega) (by omega) ρ (I.no e9)
                     rw [e9] at h0
                     exact h0)
                  | (have e9 : dGiv σ s q (h + 1) = (nI h, dBy σ h) := I.first ok hn ⟨b41, (dBar ok R.1.2.2.1 hn s).mp b50⟩ b94
                     have h0 := ih (h + 1) (by omega) (by omega) (dRk σ h) (dRkI.got e9)
                     rw [e9] at h0
                     exact zA.sub h0 rfl ⟨Or.inr rfl, Or.inr rfl, Or.inr rfl, Or.inr rfl, Or.inr rfl, Or.inr rfl, Or.inr rfl, Or.inl rfl, trivial⟩)
                  | (have e9 : dGiv σ s q (h + 1) = (nI h, dBy σ h) := (I.less ok hn ⟨b41, (dBar ok R.1.2.2.1 hn s).mp b50⟩ b94).1 (Int32.not_le.mp b101)
                     have h0 := ih (h + 1) (by omega) (by omega) (dRk σ h) (dRkI.got e9)
                     rw [e9] at h0
                     exact zA.sub h0 rfl ⟨Or.inr rfl, Or.inr rfl, Or.inr rfl, Or.inr rfl, Or.inr rfl, Or.inr rfl, Or.inr rfl, Or.inl rfl, trivial⟩)
                  | (have e9 : dGiv σ s q (h + 1) = dGiv σ s q h := (I.less ok hn ⟨b41, (dBar ok R.1.2.2.1 hn s).mp b50⟩ b94).2 (Int32.not_lt.mpr b101)
                     have h0 := ih (h + 1) (by omega) (by omega) ρ (I.no e9)
                     rw [e9] at h0
                     exact zA.sub h0 rfl ⟨Or.inr rfl, Or.inr rfl, Or.inr rfl, Or.inr rfl, Or.inr rfl, Or.inr rfl, Or.inr rfl, Or.inl rfl, trivial⟩)
              · refine z_iload dX1_chooseHour_97 rfl ?_
                refine z_iload dX1_chooseHour_99 rfl ?_
                refine z_icmp_ge (tgt := 112) dX1_chooseHour_101 (by decide) (fun b101 => ?_) (fun b101 => ?_)
                · refine z_iincN (k := h) dX1_chooseHour_112 rfl rfl (by decide) rfl rfl ?_
                  refine z_goto (tgt := 16) dX1_chooseHour_115 (by decide) ?_
                  first
                    | (have e9 : dGiv σ s q (h + 1) = dGiv σ s q h := dGiv_no (fun z => b41 z.1)
                       have h0 := ih (h + 1) (by omega) (by omega) ρ (I.no e9)
                       rw [e9] at h0
                       exact h0)
                    | (have e9 : dGiv σ s q (h + 1) = dGiv σ s q h := dGiv_no (fun z => b50 ((dBar ok R.1.2.2.1 hn s).mpr z.2))
                       have h0 := ih (h + 1) (by omega) (by omega) ρ (I.no e9)
                       rw [e9] at h0
                       exact h0)
                    | (have e9 : dGiv σ s q (h + 1) = (nI h, dBy σ h) := I.first ok hn ⟨b41, (dBar ok R.1.2.2.1 hn s).mp b50⟩ b94
                       have h0 := ih (h + 1) (by omega) (by omega) (dRk σ h) (dRkI.got e9)
                       rw [e9] at h0
                       exact zA.sub h0 rfl ⟨Or.inr rfl, Or.inr rfl, Or.inr rfl, Or.inr rfl, Or.inr rfl, Or.inr rfl, Or.inr rfl, Or.inl rfl, trivial⟩)
                    | (have e9 : dGiv σ s q (h + 1) = (nI h, dBy σ h) := (I.less ok hn ⟨b41, (dBar ok R.1.2.2.1 hn s).mp b50⟩ b94).1 (Int32.not_le.mp b101)
                       have h0 := ih (h + 1) (by omega) (by omega) (dRk σ h) (dRkI.got e9)
                       rw [e9] at h0
                       exact zA.sub h0 rfl ⟨Or.inr rfl, Or.inr rfl, Or.inr rfl, Or.inr rfl, Or.inr rfl, Or.inr rfl, Or.inr rfl, Or.inl rfl, trivial⟩)
                    | (have e9 : dGiv σ s q (h + 1) = dGiv σ s q h := (I.less ok hn ⟨b41, (dBar ok R.1.2.2.1 hn s).mp b50⟩ b94).2 (Int32.not_lt.mpr b101)
                       have h0 := ih (h + 1) (by omega) (by omega) ρ (I.no e9)
                       rw [e9] at h0
                       exact zA.sub h0 rfl ⟨Or.inr rfl, Or.inr rfl, Or.inr rfl, Or.inr rfl, Or.inr rfl, Or.inr rfl, Or.inr rfl, Or.inl rfl, trivial⟩)
                · refine z_iload dX1_chooseHour_104 rfl ?_
                  refine z_istore dX1_chooseHour_106 (by decide) rfl rfl ?_
                  refine z_iload dX1_chooseHour_108 rfl ?_
                  refine z_istore dX1_chooseHour_110 (by decide) rfl rfl ?_
                  refine z_iincN (k := h) dX1_chooseHour_112 rfl rfl (by decide) rfl rfl ?_
                  refine z_goto (tgt := 16) dX1_chooseHour_115 (by decide) ?_
                  first
                    | (have e9 : dGiv σ s q (h + 1) = dGiv σ s q h := dGiv_no (fun z => b41 z.1)
                       have h0 := ih (h + 1) (by omega) (by omega) ρ (I.no e9)
                       rw [e9] at h0
                       exact h0)
                    | (have e9 : dGiv σ s q (h + 1) = dGiv σ s q h := dGiv_no (fun z => b50 ((dBar ok R.1.2.2.1 hn s).mpr z.2))
                       have h0 := ih (h + 1) (by omega) (by omega) ρ (I.no e9)
                       rw [e9] at h0
                       exact h0)
                    | (have e9 : dGiv σ s q (h + 1) = (nI h, dBy σ h) := I.first ok hn ⟨b41, (dBar ok R.1.2.2.1 hn s).mp b50⟩ b94
                       have h0 := ih (h + 1) (by omega) (by omega) (dRk σ h) (dRkI.got e9)
                       rw [e9] at h0
                       exact zA.sub h0 rfl ⟨Or.inr rfl, Or.inr rfl, Or.inr rfl, Or.inr rfl, Or.inr rfl, Or.inr rfl, Or.inr rfl, Or.inl rfl, trivial⟩)
                    | (have e9 : dGiv σ s q (h + 1) = (nI h, dBy σ h) := (I.less ok hn ⟨b41, (dBar ok R.1.2.2.1 hn s).mp b50⟩ b94).1 (Int32.not_le.mp b101)
                       have h0 := ih (h + 1) (by omega) (by omega) (dRk σ h) (dRkI.got e9)
                       rw [e9] at h0
                       exact zA.sub h0 rfl ⟨Or.inr rfl, Or.inr rfl, Or.inr rfl, Or.inr rfl, Or.inr rfl, Or.inr rfl, Or.inr rfl, Or.inl rfl, trivial⟩)
                    | (have e9 : dGiv σ s q (h + 1) = dGiv σ s q h := (I.less ok hn ⟨b41, (dBar ok R.1.2.2.1 hn s).mp b50⟩ b94).2 (Int32.not_lt.mpr b101)
                       have h0 := ih (h + 1) (by omega) (by omega) ρ (I.no e9)
                       rw [e9] at h0
                       exact zA.sub h0 rfl ⟨Or.inr rfl, Or.inr rfl, Or.inr rfl, Or.inr rfl, Or.inr rfl, Or.inr rfl, Or.inr rfl, Or.inl rfl, trivial⟩)
          · refine z_if_eq (tgt := 79) dX1_chooseHour_66 (by decide) (fun b66 => ?_) (fun b66 => ?_)
            · refine z_aload_n dX1_chooseHour_79 rfl ?_
              refine z_getR (j := 3) (r := (d + 2)) kX1 lf_X1_15 (by decide) rfl dX1_chooseHour_80 (zDay_k0 hd) (zDay_s0 hd) (zDay_r3 hd) (zDay_l2 hd) ?_
              refine z_iload dX1_chooseHour_83 rfl ?_
              refine z_ialdV (j := h) rfl (by omega) (R.1.2.2.2.1 h (by omega)).2.1 dX1_chooseHour_85 (zDay_k2 hd) (zDay_s2 hd) ?_
              refine z_bipush (v := 11) dX1_chooseHour_86 (by decide) ?_
              refine z_iadd dX1_chooseHour_88 ?_
              refine z_as (x' := dRk σ h) (by unfold dRk; first | rw [if_neg c63] | rw [if_pos (Classical.byContradiction c63)]) ?_
              refine z_istore dX1_chooseHour_89 (by decide) rfl rfl ?_
              refine z_iload dX1_chooseHour_91 rfl ?_
              refine z_iconst (v := (-1)) dX1_chooseHour_93 (by decide) ?_
              refine z_icmp_eq (tgt := 104) dX1_chooseHour_94 (by decide) (fun b94 => ?_) (fun b94 => ?_)
              · refine z_iload dX1_chooseHour_104 rfl ?_
                refine z_istore dX1_chooseHour_106 (by decide) rfl rfl ?_
                refine z_iload dX1_chooseHour_108 rfl ?_
                refine z_istore dX1_chooseHour_110 (by decide) rfl rfl ?_
                refine z_iincN (k := h) dX1_chooseHour_112 rfl rfl (by decide) rfl rfl ?_
                refine z_goto (tgt := 16) dX1_chooseHour_115 (by decide) ?_
                first
                  | (have e9 : dGiv σ s q (h + 1) = dGiv σ s q h := dGiv_no (fun z => b41 z.1)
                     have h0 := ih (h + 1) (by omega) (by omega) ρ (I.no e9)
                     rw [e9] at h0
                     exact h0)
                  | (have e9 : dGiv σ s q (h + 1) = dGiv σ s q h := dGiv_no (fun z => b50 ((dBar ok R.1.2.2.1 hn s).mpr z.2))
                     have h0 := ih (h + 1) (by omega) (by omega) ρ (I.no e9)
                     rw [e9] at h0
                     exact h0)
                  | (have e9 : dGiv σ s q (h + 1) = (nI h, dBy σ h) := I.first ok hn ⟨b41, (dBar ok R.1.2.2.1 hn s).mp b50⟩ b94
                     have h0 := ih (h + 1) (by omega) (by omega) (dRk σ h) (dRkI.got e9)
                     rw [e9] at h0
                     exact zA.sub h0 rfl ⟨Or.inr rfl, Or.inr rfl, Or.inr rfl, Or.inr rfl, Or.inr rfl, Or.inr rfl, Or.inr rfl, Or.inl rfl, trivial⟩)
                  | (have e9 : dGiv σ s q (h + 1) = (nI h, dBy σ h) := (I.less ok hn ⟨b41, (dBar ok R.1.2.2.1 hn s).mp b50⟩ b94).1 (Int32.not_le.mp b101)
                     have h0 := ih (h + 1) (by omega) (by omega) (dRk σ h) (dRkI.got e9)
                     rw [e9] at h0
                     exact zA.sub h0 rfl ⟨Or.inr rfl, Or.inr rfl, Or.inr rfl, Or.inr rfl, Or.inr rfl, Or.inr rfl, Or.inr rfl, Or.inl rfl, trivial⟩)
                  | (have e9 : dGiv σ s q (h + 1) = dGiv σ s q h := (I.less ok hn ⟨b41, (dBar ok R.1.2.2.1 hn s).mp b50⟩ b94).2 (Int32.not_lt.mpr b101)
                     have h0 := ih (h + 1) (by omega) (by omega) ρ (I.no e9)
                     rw [e9] at h0
                     exact zA.sub h0 rfl ⟨Or.inr rfl, Or.inr rfl, Or.inr rfl, Or.inr rfl, Or.inr rfl, Or.inr rfl, Or.inr rfl, Or.inl rfl, trivial⟩)
              · refine z_iload dX1_chooseHour_97 rfl ?_
                refine z_iload dX1_chooseHour_99 rfl ?_
                refine z_icmp_ge (tgt := 112) dX1_chooseHour_101 (by decide) (fun b101 => ?_) (fun b101 => ?_)
                · refine z_iincN (k := h) dX1_chooseHour_112 rfl rfl (by decide) rfl rfl ?_
                  refine z_goto (tgt := 16) dX1_chooseHour_115 (by decide) ?_
                  first
                    | (have e9 : dGiv σ s q (h + 1) = dGiv σ s q h := dGiv_no (fun z => b41 z.1)
                       have h0 := ih (h + 1) (by omega) (by omega) ρ (I.no e9)
                       rw [e9] at h0
                       exact h0)
                    | (have e9 : dGiv σ s q (h + 1) = dGiv σ s q h := dGiv_no (fun z => b50 ((dBar ok R.1.2.2.1 hn s).mpr z.2))
                       have h0 := ih (h + 1) (by omega) (by omega) ρ (I.no e9)
                       rw [e9] at h0
                       exact h0)
                    | (have e9 : dGiv σ s q (h + 1) = (nI h, dBy σ h) := I.first ok hn ⟨b41, (dBar ok R.1.2.2.1 hn s).mp b50⟩ b94
                       have h0 := ih (h + 1) (by omega) (by omega) (dRk σ h) (dRkI.got e9)
                       rw [e9] at h0
                       exact zA.sub h0 rfl ⟨Or.inr rfl, Or.inr rfl, Or.inr rfl, Or.inr rfl, Or.inr rfl, Or.inr rfl, Or.inr rfl, Or.inl rfl, trivial⟩)
                    | (have e9 : dGiv σ s q (h + 1) = (nI h, dBy σ h) := (I.less ok hn ⟨b41, (dBar ok R.1.2.2.1 hn s).mp b50⟩ b94).1 (Int32.not_le.mp b101)
                       have h0 := ih (h + 1) (by omega) (by omega) (dRk σ h) (dRkI.got e9)
                       rw [e9] at h0
                       exact zA.sub h0 rfl ⟨Or.inr rfl, Or.inr rfl, Or.inr rfl, Or.inr rfl, Or.inr rfl, Or.inr rfl, Or.inr rfl, Or.inl rfl, trivial⟩)
                    | (have e9 : dGiv σ s q (h + 1) = dGiv σ s q h := (I.less ok hn ⟨b41, (dBar ok R.1.2.2.1 hn s).mp b50⟩ b94).2 (Int32.not_lt.mpr b101)
                       have h0 := ih (h + 1) (by omega) (by omega) ρ (I.no e9)
                       rw [e9] at h0
                       exact zA.sub h0 rfl ⟨Or.inr rfl, Or.inr rfl, Or.inr rfl, Or.inr rfl, Or.inr rfl, Or.inr rfl, Or.inr rfl, Or.inl rfl, trivial⟩)
                · refine z_iload dX1_chooseHour_104 rfl ?_
                  refine z_istore dX1_chooseHour_106 (by decide) rfl rfl ?_
                  refine z_iload dX1_chooseHour_108 rfl ?_
                  refine z_istore dX1_chooseHour_110 (by decide) rfl rfl ?_
                  refine z_iincN (k := h) dX1_chooseHour_112 rfl rfl (by decide) rfl rfl ?_
                  refine z_goto (tgt := 16) dX1_chooseHour_115 (by decide) ?_
                  first
                    | (have e9 : dGiv σ s q (h + 1) = dGiv σ s q h := dGiv_no (fun z => b41 z.1)
                       have h0 := ih (h + 1) (by omega) (by omega) ρ (I.no e9)
                       rw [e9] at h0
                       exact h0)
                    | (have e9 : dGiv σ s q (h + 1) = dGiv σ s q h := dGiv_no (fun z => b50 ((dBar ok R.1.2.2.1 hn s).mpr z.2))
                       have h0 := ih (h + 1) (by omega) (by omega) ρ (I.no e9)
                       rw [e9] at h0
                       exact h0)
                    | (have e9 : dGiv σ s q (h + 1) = (nI h, dBy σ h) := I.first ok hn ⟨b41, (dBar ok R.1.2.2.1 hn s).mp b50⟩ b94
                       have h0 := ih (h + 1) (by omega) (by omega) (dRk σ h) (dRkI.got e9)
                       rw [e9] at h0
                       exact zA.sub h0 rfl ⟨Or.inr rfl, Or.inr rfl, Or.inr rfl, Or.inr rfl, Or.inr rfl, Or.inr rfl, Or.inr rfl, Or.inl rfl, trivial⟩)
                    | (have e9 : dGiv σ s q (h + 1) = (nI h, dBy σ h) := (I.less ok hn ⟨b41, (dBar ok R.1.2.2.1 hn s).mp b50⟩ b94).1 (Int32.not_le.mp b101)
                       have h0 := ih (h + 1) (by omega) (by omega) (dRk σ h) (dRkI.got e9)
                       rw [e9] at h0
                       exact zA.sub h0 rfl ⟨Or.inr rfl, Or.inr rfl, Or.inr rfl, Or.inr rfl, Or.inr rfl, Or.inr rfl, Or.inr rfl, Or.inl rfl, trivial⟩)
                    | (have e9 : dGiv σ s q (h + 1) = dGiv σ s q h := (I.less ok hn ⟨b41, (dBar ok R.1.2.2.1 hn s).mp b50⟩ b94).2 (Int32.not_lt.mpr b101)
                       have h0 := ih (h + 1) (by omega) (by omega) ρ (I.no e9)
                       rw [e9] at h0
                       exact zA.sub h0 rfl ⟨Or.inr rfl, Or.inr rfl, Or.inr rfl, Or.inr rfl, Or.inr rfl, Or.inr rfl, Or.inr rfl, Or.inl rfl, trivial⟩)
            · exact absurd b66 (by decide)

set_option maxRecDepth 100000 in
set_option maxHeartbeats 4000000 in
theorem c_X1_chooseHour (g : zG) (l : Launch) {M0 M : zM} {d n r i : Nat} {σ : Dy} {q : Nat} {s : Int32} (hd : d ∈ zDays) (R : zDR M0 M d σ n r i) (ok : dOK σ n r i) (hq : q < r) : zMet g l yX1_chooseHour cX1_chooseHour 8 (some .int) 1 0 0 [.ref d, .int (nI q), .int s] S0 M (zQi (fun r' M' => r' = (dGiv σ s q n).1 ∧ M' = M)) := by
  have n8 := ok.1.1
  have r4 := ok.1.2.1
  have i6 := ok.1.2.2.1
  refine zMet.of (by decide) (Nat.le_of_ble_eq_true rfl) ?_
  refine z_iload_n dX1_chooseHour_0 rfl ?_
  refine z_aload_n dX1_chooseHour_1 rfl ?_
  refine z_getI (j := 5) kX1 lf_X1_38 (by decide) rfl dX1_chooseHour_2 (zDay_k0 hd) (zDay_s0 hd) ?_
  refine z_ior dX1_chooseHour_5 ?_
  refine z_istore_n dX1_chooseHour_6 (by decide) rfl rfl ?_
  refine z_iconst (v := (-1)) dX1_chooseHour_7 (by decide) ?_
  refine z_istore dX1_chooseHour_8 (by decide) rfl rfl ?_
  refine z_iconst (v := 0) dX1_chooseHour_10 (by decide) ?_
  refine z_istore dX1_chooseHour_11 (by decide) rfl rfl ?_
  refine z_iconst (v := 0) dX1_chooseHour_13 (by decide) ?_
  refine z_istore dX1_chooseHour_14 (by decide) rfl rfl ?_
  exact lp_chooseHour g l hd R ok hq (n + 1) 0 (Nat.zero_le _) (by omega) 0 (Or.inl ⟨rfl, rfl⟩)

set_option maxRecDepth 100000 in
set_option maxHeartbeats 4000000 in
theorem c_X1_sendOff (g : zG) (l : Launch) {M0 M : zM} {d n r i : Nat} {σ : Dy} {q : Nat} {s : Int32} (hd : d ∈ zDays) (R : zDR M0 M d σ n r i) (ok : dOK σ n r i) (hq : q < r) : zMet g l yX1_sendOff cX1_sendOff 7 (some .int) 2 0 0 [.ref d, .int (nI q), .int s] S0 M (zQi (fun r' M' => s ||| r' = (dRide σ s q n).2 ∧ zDR M0 M' d (dRide σ s q n).1 n r i)) := by
  have n8 := ok.1.1
  have r4 := ok.1.2.1
  have i6 := ok.1.2.2.1
  obtain ⟨⟨a, ha, ea⟩, ⟨t, ht, et⟩⟩ := ok.2.2.1 q hq
  obtain ⟨c, hc, ec⟩ : zIn (dNext (nI a) (nI t)) i := dNext_in ⟨a, ha, rfl⟩ ⟨t, ht, rfl⟩ (by omega)
  refine zMet.of (by decide) (Nat.le_of_ble_eq_true rfl) ?_
  refine z_aload_n dX1_sendOff_0 rfl ?_
  refine z_iload_n dX1_sendOff_1 rfl ?_
  refine z_iload_n dX1_sendOff_2 rfl ?_
  refine z_iV2 (c_X1_chooseHour g l hd R ok hq) mw_X1_chooseHour lm_X1_97 mi_X1_chooseHour mv_X1_chooseHour kX1 (by decide) (Nat.le_of_ble_eq_true rfl) zle (zDay_k0 hd) (zDay_s0 hd) dX1_sendOff_3 (fun r3 M3 q3 => ?_)
  obtain ⟨rfl, rfl⟩ := q3
  rcases dGiv_ran σ s q n (by omega) with e3 | ⟨h, h1, e3, h2⟩
  · rw [e3]
    refine z_istore_n dX1_sendOff_6 (by decide) rfl rfl ?_
    refine z_iload_n dX1_sendOff_7 rfl ?_
    refine z_iconst (v := (-1)) dX1_sendOff_8 (by decide) ?_
    refine z_icmp_ne (tgt := 24) dX1_sendOff_9 (by decide) (fun b9 => ?_) (fun b9 => ?_)
    · exact absurd b9 (by decide)
    · refine z_aload_n dX1_sendOff_12 rfl ?_
      refine z_getR (j := 8) (r := (d + 6)) kX1 lf_X1_27 (by decide) rfl dX1_sendOff_13 (zDay_k0 hd) (zDay_s0 hd) (zDay_r8 hd) (zDay_l6 hd) ?_
      refine z_iload_n dX1_sendOff_16 rfl ?_
      refine z_dup2 dX1_sendOff_17 rfl rfl ?_
      refine z_ialdV (j := q) rfl (by omega) (R.1.2.2.2.2 q (by omega)).2.2 dX1_sendOff_18 (zDay_k6 hd) (zDay_s6 hd) ?_
      refine z_iconst (v := 1) dX1_sendOff_19 (by decide) ?_
      refine z_iadd dX1_sendOff_20 ?_
      refine z_iastE (j := q) rfl (by omega) dX1_sendOff_21 (zDay_k6 hd) (zDay_s6 hd) (fun M21 e21 => ?_)
      have R21 := R.row hd 6 59 q _ e21 n8 r4 (by omega) i6
      refine z_iconst (v := 0) dX1_sendOff_22 (by decide) ?_
      refine z_iret dX1_sendOff_23 rfl zle ?_
      unfold dRide
      rw [if_pos e3]
      exact ⟨Int32.or_zero, R21⟩
  · rw [e3]
    have h8 : h < 8 := by omega
    refine z_istore_n dX1_sendOff_6 (by decide) rfl rfl ?_
    refine z_iload_n dX1_sendOff_7 rfl ?_
    refine z_iconst (v := (-1)) dX1_sendOff_8 (by decide) ?_
    refine z_icmp_ne (tgt := 24) dX1_sendOff_9 (by decide) (fun b9 => ?_) (fun b9 => ?_)
    · refine z_aload_n dX1_sendOff_24 rfl ?_
      refine z_getR (j := 4) (r := (d + 3)) kX1 lf_X1_18 (by decide) rfl dX1_sendOff_25 (zDay_k0 hd) (zDay_s0 hd) (zDay_r4 hd) (zDay_l3 hd) ?_
      refine z_iload_n dX1_sendOff_28 rfl ?_
      refine z_dup2 dX1_sendOff_29 rfl rfl ?_
      refine z_ialdV (j := h) rfl (by omega) (R.1.2.2.2.1 h (by omega)).2.2 dX1_sendOff_30 (zDay_k3 hd) (zDay_s3 hd) ?_
      refine z_iconst (v := 1) dX1_sendOff_31 (by decide) ?_
      refine z_iadd dX1_sendOff_32 ?_
      refine z_iastE (j := h) rfl (by omega) dX1_sendOff_33 (zDay_k3 hd) (zDay_s3 hd) (fun M33 e33 => ?_)
      have R33 := R.row hd 3 43 h _ e33 n8 r4 (by omega) i6
      refine z_aload_n dX1_sendOff_34 rfl ?_
      refine z_getR (j := 0) (r := 1) kX1 lf_X1_30 (by decide) rfl dX1_sendOff_35 (zDay_k0 hd) (zDay_s0 hd) (zDay_r0 hd) (by decide) ?_
      refine z_getR (j := 4) (r := 3) kX7 lf_X1_77 (by decide) rfl dX1_sendOff_38 k0_1 s0_1 r0_1_4 (by decide) ?_
      refine z_iload_n dX1_sendOff_41 rfl ?_
      refine z_ialdV (j := h) rfl (by omega) ((R33.1.1.2.2.2.2 h (by omega)).1.trans (upd_n _ _ (by omega))) dX1_sendOff_42 k0_3 s0_3 ?_
      refine z_istore dX1_sendOff_43 (by decide) rfl rfl ?_
      refine z_iload dX1_sendOff_45 rfl ?_
      refine z_aload_n dX1_sendOff_47 rfl ?_
      refine z_getR (j := 4) (r := (d + 3)) kX1 lf_X1_18 (by decide) rfl dX1_sendOff_48 (zDay_k0 hd) (zDay_s0 hd) (zDay_r4 hd) (zDay_l3 hd) ?_
      refine z_iload_n dX1_sendOff_51 rfl ?_
      refine z_ialdV (j := h) rfl (by omega) ((R33.1.2.2.2.1 h (by omega)).2.2.trans (upd_s _ _ _)) dX1_sendOff_52 (zDay_k3 hd) (zDay_s3 hd) ?_
      refine z_iS2 (c_X2_throwsOff g l) mw_X2_throwsOff lm_X1_100 ms_X2_throwsOff (by decide) (Nat.le_of_ble_eq_true rfl) zle dX1_sendOff_53 (fun r53 M53 q53 => ?_)
      obtain ⟨rfl, ⟨c53, rfl⟩ | ⟨c53, rfl⟩⟩ := q53
      · refine z_if_eq (tgt := 78) dX1_sendOff_56 (by decide) (fun b56 => ?_) (fun b56 => ?_)
        · exact absurd b56 (by decide)
        · refine z_aload_n dX1_sendOff_59 rfl ?_
          refine z_getR (j := 8) (r := (d + 6)) kX1 lf_X1_27 (by decide) rfl dX1_sendOff_60 (zDay_k0 hd) (zDay_s0 hd) (zDay_r8 hd) (zDay_l6 hd) ?_
          refine z_iload_n dX1_sendOff_63 rfl ?_
          refine z_dup2 dX1_sendOff_64 rfl rfl ?_
          refine z_ialdV (j := q) rfl (by omega) ((R33.1.2.2.2.2 q (by omega)).2.2.trans (upd_n _ _ (by omega))) dX1_sendOff_65 (zDay_k6 hd) (zDay_s6 hd) ?_
          refine z_iconst (v := 2) dX1_sendOff_66 (by decide) ?_
          refine z_iadd dX1_sendOff_67 ?_
          refine z_iastE (j := q) rfl (by omega) dX1_sendOff_68 (zDay_k6 hd) (zDay_s6 hd) (fun M68 e68 => ?_)
          have R68 := R33.row hd 6 59 q _ e68 n8 r4 (by omega) i6
          refine z_aload_n dX1_sendOff_69 rfl ?_
          refine z_iload_n dX1_sendOff_70 rfl ?_
          refine z_iconst (v := 1) dX1_sendOff_71 (by decide) ?_
          refine z_vV2 (c_X1_tire g l hd R68 h1 ⟨n8, r4, i6⟩) mw_X1_tire lm_X1_104 mi_X1_tire mv_X1_tire kX1 (by decide) (Nat.le_of_ble_eq_true rfl) zle (zDay_k0 hd) (zDay_s0 hd) dX1_sendOff_72 (fun M72 q72 => ?_)
          refine z_goto (tgt := 156) dX1_sendOff_75 (by decide) ?_
          refine z_iconst (v := 1) dX1_sendOff_156 (by decide) ?_
          refine z_iload_n dX1_sendOff_157 rfl ?_
          refine z_ishl dX1_sendOff_158 ?_
          refine z_iret dX1_sendOff_159 rfl zle ?_
          unfold dRide
          rw [if_neg (by rw [e3]; exact nI_nm1 (by omega)), e3, nI_clamp (by omega)]
          refine ⟨rfl, ?_⟩
          show zDR M0 _ d (dRideH σ q h) n r i
          unfold dRideH
          first
            | (rw [if_pos ((dThrows_iff h8).mpr c53)]; exact q72)
            | (rw [if_neg (fun z => c53 ((dThrows_iff h8).mp z)), dGo_eq h8 (by omega), ea, et, ec]; exact q153)
      · refine z_if_eq (tgt := 78) dX1_sendOff_56 (by decide) (fun b56 => ?_) (fun b56 => ?_)
        · refine z_aload_n dX1_sendOff_78 rfl ?_
          refine z_getR (j := 6) (r := (d + 4)) kX1 lf_X1_21 (by decide) rfl dX1_sendOff_79 (zDay_k0 hd) (zDay_s0 hd) (zDay_r6 hd) (zDay_l4 hd) ?_
          refine z_iload_n dX1_sendOff_82 rfl ?_
          refine z_ialdV (j := q) rfl (by omega) ((R33.1.2.2.2.2 q (by omega)).1.trans ((upd_n _ _ (by omega)).trans ea)) dX1_sendOff_83 (zDay_k4 hd) (zDay_s4 hd) ?_
          refine z_aload_n dX1_sendOff_84 rfl ?_
          refine z_getR (j := 7) (r := (d + 5)) kX1 lf_X1_24 (by decide) rfl dX1_sendOff_85 (zDay_k0 hd) (zDay_s0 hd) (zDay_r7 hd) (zDay_l5 hd) ?_
          refine z_iload_n dX1_sendOff_88 rfl ?_
          refine z_ialdV (j := q) rfl (by omega) ((R33.1.2.2.2.2 q (by omega)).2.1.trans ((upd_n _ _ (by omega)).trans et)) dX1_sendOff_89 (zDay_k5 hd) (zDay_s5 hd) ?_
          refine z_iS2 (c_X7_nextInn g l) mw_X7_nextInn lm_X1_108 ms_X7_nextInn (by decide) (Nat.le_of_ble_eq_true rfl) zle dX1_sendOff_90 (fun r90 M90 q90 => ?_)
          obtain ⟨rfl, rfl⟩ := q90
          rw [ec]
          refine z_istore dX1_sendOff_93 (by decide) rfl rfl ?_
          refine z_aload_n dX1_sendOff_95 rfl ?_
          refine z_getR (j := 0) (r := 1) kX1 lf_X1_30 (by decide) rfl dX1_sendOff_96 (zDay_k0 hd) (zDay_s0 hd) (zDay_r0 hd) (by decide) ?_
          refine z_aload_n dX1_sendOff_99 rfl ?_
          refine z_getR (j := 6) (r := (d + 4)) kX1 lf_X1_21 (by decide) rfl dX1_sendOff_100 (zDay_k0 hd) (zDay_s0 hd) (zDay_r6 hd) (zDay_l4 hd) ?_
          refine z_iload_n dX1_sendOff_103 rfl ?_
          refine z_ialdV (j := q) rfl (by omega) ((R33.1.2.2.2.2 q (by omega)).1.trans ((upd_n _ _ (by omega)).trans ea)) dX1_sendOff_104 (zDay_k4 hd) (zDay_s4 hd) ?_
          refine z_iload dX1_sendOff_105 rfl ?_
          refine z_iV2 (c_X7_milesBetween g l (ro := 1) (by decide) i6 R33.1.1.1 ha hc rfl) mw_X7_milesBetween lm_X1_111 mi_X7_milesBetween mv_X7_milesBetween kX7 (by decide) (Nat.le_of_ble_eq_true rfl) zle k0_1 s0_1 dX1_sendOff_107 (fun r107 M107 q107 => ?_)
          obtain ⟨rfl, rfl⟩ := q107
          refine z_as (x' := dMiles σ (nI a) (nI t)) (((R33.1.1.2.2.2.1 _ (by split <;> assumption)).trans (upd_n _ _ (by omega))).trans (by unfold dMiles; rw [dMid (by omega) (by omega) (by omega) ec])) ?_
          refine z_istore dX1_sendOff_110 (by decide) rfl rfl ?_
          refine z_aload_n dX1_sendOff_112 rfl ?_
          refine z_getR (j := 6) (r := (d + 4)) kX1 lf_X1_21 (by decide) rfl dX1_sendOff_113 (zDay_k0 hd) (zDay_s0 hd) (zDay_r6 hd) (zDay_l4 hd) ?_
          refine z_iload_n dX1_sendOff_116 rfl ?_
          refine z_iload dX1_sendOff_117 rfl ?_
          refine z_iastE (j := q) rfl (by omega) dX1_sendOff_119 (zDay_k4 hd) (zDay_s4 hd) (fun M119 e119 => ?_)
          have R119 := R33.row hd 4 51 q _ e119 n8 r4 (by omega) i6
          refine z_aload_n dX1_sendOff_120 rfl ?_
          refine z_getR (j := 2) (r := (d + 1)) kX1 lf_X1_11 (by decide) rfl dX1_sendOff_121 (zDay_k0 hd) (zDay_s0 hd) (zDay_r2 hd) (zDay_l1 hd) ?_
          refine z_iload_n dX1_sendOff_124 rfl ?_
          refine z_iload dX1_sendOff_125 rfl ?_
          refine z_iastE (j := h) rfl (by omega) dX1_sendOff_127 (zDay_k1 hd) (zDay_s1 hd) (fun M127 e127 => ?_)
          have R127 := R119.row hd 1 19 h _ e127 n8 r4 (by omega) i6
          refine z_aload_n dX1_sendOff_128 rfl ?_
          refine z_getR (j := 8) (r := (d + 6)) kX1 lf_X1_27 (by decide) rfl dX1_sendOff_129 (zDay_k0 hd) (zDay_s0 hd) (zDay_r8 hd) (zDay_l6 hd) ?_
          refine z_iload_n dX1_sendOff_132 rfl ?_
          refine z_dup2 dX1_sendOff_133 rfl rfl ?_
          refine z_ialdV (j := q) rfl (by omega) ((R127.1.2.2.2.2 q (by omega)).2.2.trans ((upd_n _ _ (by omega)).trans ((upd_n _ _ (by omega)).trans (upd_n _ _ (by omega))))) dX1_sendOff_134 (zDay_k6 hd) (zDay_s6 hd) ?_
          refine z_iload dX1_sendOff_135 rfl ?_
          refine z_iload dX1_sendOff_137 rfl ?_
          refine z_iS2 (c_X2_takes g l) mw_X2_takes lm_X1_114 ms_X2_takes (by decide) (Nat.le_of_ble_eq_true rfl) zle dX1_sendOff_139 (fun r139 M139 q139 => ?_)
          obtain ⟨rfl, rfl⟩ := q139
          refine z_iadd dX1_sendOff_142 ?_
          refine z_iastE (j := q) rfl (by omega) dX1_sendOff_143 (zDay_k6 hd) (zDay_s6 hd) (fun M143 e143 => ?_)
          have R143 := R127.row hd 6 59 q _ e143 n8 r4 (by omega) i6
          refine z_aload_n dX1_sendOff_144 rfl ?_
          refine z_iload_n dX1_sendOff_145 rfl ?_
          refine z_iload dX1_sendOff_146 rfl ?_
          refine z_iload dX1_sendOff_148 rfl ?_
          refine z_iS2 (c_X2_tires g l) mw_X2_tires lm_X1_117 ms_X2_tires (by decide) (Nat.le_of_ble_eq_true rfl) zle dX1_sendOff_150 (fun r150 M150 q150 => ?_)
          obtain ⟨rfl, rfl⟩ := q150
          refine z_vV2 (c_X1_tire g l hd R143 h1 ⟨n8, r4, i6⟩) mw_X1_tire lm_X1_104 mi_X1_tire mv_X1_tire kX1 (by decide) (Nat.le_of_ble_eq_true rfl) zle (zDay_k0 hd) (zDay_s0 hd) dX1_sendOff_153 (fun M153 q153 => ?_)
          refine z_iconst (v := 1) dX1_sendOff_156 (by decide) ?_
          refine z_iload_n dX1_sendOff_157 rfl ?_
          refine z_ishl dX1_sendOff_158 ?_
          refine z_iret dX1_sendOff_159 rfl zle ?_
          unfold dRide
          rw [if_neg (by rw [e3]; exact nI_nm1 (by omega)), e3, nI_clamp (by omega)]
          refine ⟨rfl, ?_⟩
          show zDR M0 _ d (dRideH σ q h) n r i
          unfold dRideH
          first
            | (rw [if_pos ((dThrows_iff h8).mpr c53)]; exact q72)
            | (rw [if_neg (fun z => c53 ((dThrows_iff h8).mp z)), dGo_eq h8 (by omega), ea, et, ec]; exact q153)
        · exact absurd b56 (by decide)
    · exact absurd b9 (nI_nm1 (by omega))

set_option maxRecDepth 100000 in
set_option maxHeartbeats 4000000 in
theorem lp_leadHome (g : zG) (l : Launch) {M0 M : zM} {d n r i : Nat} {σ : Dy} {q : Nat} {s u : Int32} (hd : d ∈ zDays) (R : zDR M0 M d σ n r i) (ok : dOK σ n r i) (hq : q < i) : ∀ (k h : Nat), h ≤ n → n - h < k → dWho σ (s ||| u) q 0 n = dWho σ (s ||| u) q h (n - h) → zA g l yX1_leadHome cX1_leadHome 5 (some .int) 2 0 0 (zQi (fun r' M' => u ||| r' = (dLead σ s u q n).2 ∧ zDR M0 M' d (dLead σ s u q n).1 n r i)) 10 0 0 S0 M [.ref d, .int (nI q), .int (s ||| u), .int ((s ||| u) ||| M d 5), .int (nI h)] [] := by
  have n8 := ok.1.1
  have r4 := ok.1.2.1
  have i6 := ok.1.2.2.1
  intro k
  induction k with
  | zero => intro h hh hk; exact absurd hk (Nat.not_lt_zero _)
  | succ k ih =>
    intro h hh hk w
    refine z_iload dX1_leadHome_10 rfl ?_
    refine z_aload_n dX1_leadHome_12 rfl ?_
    refine z_getR (j := 0) (r := 1) kX1 lf_X1_30 (by decide) rfl dX1_leadHome_13 (zDay_k0 hd) (zDay_s0 hd) (zDay_r0 hd) (by decide) ?_
    refine z_getIV (j := 1) kX7 lf_X1_41 (by decide) rfl R.1.1.2.1 dX1_leadHome_16 k0_1 s0_1 ?_
    refine z_icmp_ge (tgt := 88) dX1_leadHome_19 (by decide) (fun b19 => ?_) (fun b19 => ?_)
    · have e : n ≤ h := (nI_leI (by omega) (by omega)).mp b19
      have e2 : h = n := by omega
      subst e2
      refine z_iconst (v := 0) dX1_leadHome_88 (by decide) ?_
      refine z_iret dX1_leadHome_89 rfl zle ?_
      have w2 : dWho σ (s ||| u) q 0 h = -1 := by rw [w, Nat.sub_self]; rfl
      unfold dLead
      rw [if_pos w2]
      exact ⟨Int32.or_zero, R⟩
    · have hn : h < n := by
        rcases Nat.lt_or_ge h n with z | z
        · exact z
        · exact absurd (nI_le z (by omega)) b19
      refine z_aload_n dX1_leadHome_22 rfl ?_
      refine z_getR (j := 2) (r := (d + 1)) kX1 lf_X1_11 (by decide) rfl dX1_leadHome_23 (zDay_k0 hd) (zDay_s0 hd) (zDay_r2 hd) (zDay_l1 hd) ?_
      refine z_iload dX1_leadHome_26 rfl ?_
      refine z_ialdV (j := h) rfl (by omega) (R.1.2.2.2.1 h (by omega)).1 dX1_leadHome_28 (zDay_k1 hd) (zDay_s1 hd) ?_
      refine z_iload_n dX1_leadHome_29 rfl ?_
      refine z_icmp_ne (tgt := 82) dX1_leadHome_30 (by decide) (fun b30 => ?_) (fun b30 => ?_)
      · refine z_iincN (k := h) dX1_leadHome_82 rfl rfl (by decide) rfl rfl ?_
        refine z_goto (tgt := 10) dX1_leadHome_85 (by decide) ?_
        have e9 : n - h = n - (h + 1) + 1 := by omega
        refine ih (h + 1) (by omega) (by omega) (w.trans ?_)
        rw [e9]
        show frst _ h _ = _
        unfold frst
        first
          | (rw [if_neg (show ¬ decide (dLeadOk σ (s ||| u) q h) = true from fun z => absurd (of_decide_eq_true z).1 b30)]; rfl)
          | (rw [if_neg (show ¬ decide (dLeadOk σ (s ||| u) q h) = true from fun z => absurd b44 (of_decide_eq_true z).2.1)]; rfl)
          | (rw [if_neg (show ¬ decide (dLeadOk σ (s ||| u) q h) = true from fun z => absurd ((dBar ok R.1.2.2.1 hn (s ||| u)).mpr (of_decide_eq_true z).2.2) b53)]; rfl)
      · refine z_aload_n dX1_leadHome_33 rfl ?_
        refine z_getR (j := 0) (r := 1) kX1 lf_X1_30 (by decide) rfl dX1_leadHome_34 (zDay_k0 hd) (zDay_s0 hd) (zDay_r0 hd) (by decide) ?_
        refine z_getR (j := 5) (r := 4) kX7 lf_X1_46 (by decide) rfl dX1_leadHome_37 k0_1 s0_1 r0_1_5 (by decide) ?_
        refine z_iload dX1_leadHome_40 rfl ?_
        refine z_ialdV (j := h) rfl (by omega) (R.1.1.2.2.2.2 h (by omega)).2 dX1_leadHome_42 k0_4 s0_4 ?_
        refine z_iload_n dX1_leadHome_43 rfl ?_
        refine z_icmp_eq (tgt := 82) dX1_leadHome_44 (by decide) (fun b44 => ?_) (fun b44 => ?_)
        · refine z_iincN (k := h) dX1_leadHome_82 rfl rfl (by decide) rfl rfl ?_
          refine z_goto (tgt := 10) dX1_leadHome_85 (by decide) ?_
          have e9 : n - h = n - (h + 1) + 1 := by omega
          refine ih (h + 1) (by omega) (by omega) (w.trans ?_)
          rw [e9]
          show frst _ h _ = _
          unfold frst
          first
            | (rw [if_neg (show ¬ decide (dLeadOk σ (s ||| u) q h) = true from fun z => absurd (of_decide_eq_true z).1 b30)]; rfl)
            | (rw [if_neg (show ¬ decide (dLeadOk σ (s ||| u) q h) = true from fun z => absurd b44 (of_decide_eq_true z).2.1)]; rfl)
            | (rw [if_neg (show ¬ decide (dLeadOk σ (s ||| u) q h) = true from fun z => absurd ((dBar ok R.1.2.2.1 hn (s ||| u)).mpr (of_decide_eq_true z).2.2) b53)]; rfl)
        · refine z_iload_n dX1_leadHome_47 rfl ?_
          refine z_iload dX1_leadHome_48 rfl ?_
          refine z_ishr dX1_leadHome_50 ?_
          refine z_iconst (v := 1) dX1_leadHome_51 (by decide) ?_
          refine z_iand dX1_leadHome_52 ?_
          refine z_if_ne (tgt := 82) dX1_leadHome_53 (by decide) (fun b53 => ?_) (fun b53 => ?_)
          · refine z_iincN (k := h) dX1_leadHome_82 rfl rfl (by decide) rfl rfl ?_
            refine z_goto (tgt := 10) dX1_leadHome_85 (by decide) ?_
            have e9 : n - h = n - (h + 1) + 1 := by omega
            refine ih (h + 1) (by omega) (by omega) (w.trans ?_)
            rw [e9]
            show frst _ h _ = _
            unfold frst
            first
              | (rw [if_neg (show ¬ decide (dLeadOk σ (s ||| u) q h) = true from fun z => absurd (of_decide_eq_true z).1 b30)]; rfl)
              | (rw [if_neg (show ¬ decide (dLeadOk σ (s ||| u) q h) = true from fun z => absurd b44 (of_decide_eq_true z).2.1)]; rfl)
              | (rw [if_neg (show ¬ decide (dLeadOk σ (s ||| u) q h) = true from fun z => absurd ((dBar ok R.1.2.2.1 hn (s ||| u)).mpr (of_decide_eq_true z).2.2) b53)]; rfl)
          · refine z_aload_n dX1_leadHome_56 rfl ?_
            refine z_getR (j := 2) (r := (d + 1)) kX1 lf_X1_11 (by decide) rfl dX1_leadHome_57 (zDay_k0 hd) (zDay_s0 hd) (zDay_r2 hd) (zDay_l1 hd) ?_
            refine z_iload dX1_leadHome_60 rfl ?_
            refine z_iload_n dX1_leadHome_62 rfl ?_
            refine z_aload_n dX1_leadHome_63 rfl ?_
            refine z_getR (j := 0) (r := 1) kX1 lf_X1_30 (by decide) rfl dX1_leadHome_64 (zDay_k0 hd) (zDay_s0 hd) (zDay_r0 hd) (by decide) ?_
            refine z_getR (j := 5) (r := 4) kX7 lf_X1_46 (by decide) rfl dX1_leadHome_67 k0_1 s0_1 r0_1_5 (by decide) ?_
            refine z_iload dX1_leadHome_70 rfl ?_
            refine z_ialdV (j := h) rfl (by omega) (R.1.1.2.2.2.2 h (by omega)).2 dX1_leadHome_72 k0_4 s0_4 ?_
            refine z_iS2 (c_X7_nextInn g l) mw_X7_nextInn lm_X1_108 ms_X7_nextInn (by decide) (Nat.le_of_ble_eq_true rfl) zle dX1_leadHome_73 (fun r73 M73 q73 => ?_)
            obtain ⟨rfl, rfl⟩ := q73
            refine z_iastE (j := h) rfl (by omega) dX1_leadHome_76 (zDay_k1 hd) (zDay_s1 hd) (fun M76 e76 => ?_)
            have R76 := R.row hd 1 19 h _ e76 n8 r4 (by omega) i6
            refine z_iconst (v := 1) dX1_leadHome_77 (by decide) ?_
            refine z_iload dX1_leadHome_78 rfl ?_
            refine z_ishl dX1_leadHome_80 ?_
            refine z_iret dX1_leadHome_81 rfl zle ?_
            have w2 : dWho σ (s ||| u) q 0 n = nI h := by
              rw [w]
              have e9 : n - h = n - (h + 1) + 1 := by omega
              rw [e9]
              show frst _ h _ = _
              unfold frst
              rw [if_pos (decide_eq_true (show dLeadOk σ (s ||| u) q h from ⟨b30, b44, (dBar ok R.1.2.2.1 hn (s ||| u)).mp b53⟩))]
            unfold dLead
            rw [if_neg (by rw [w2]; exact nI_nm1 (by omega)), w2, nI_clamp (by omega)]
            exact ⟨rfl, R76⟩

set_option maxRecDepth 100000 in
set_option maxHeartbeats 4000000 in
theorem c_X1_leadHome (g : zG) (l : Launch) {M0 M : zM} {d n r i : Nat} {σ : Dy} {q : Nat} {s u : Int32} (hd : d ∈ zDays) (R : zDR M0 M d σ n r i) (ok : dOK σ n r i) (hq : q < i) : zMet g l yX1_leadHome cX1_leadHome 5 (some .int) 2 0 0 [.ref d, .int (nI q), .int (s ||| u)] S0 M (zQi (fun r' M' => u ||| r' = (dLead σ s u q n).2 ∧ zDR M0 M' d (dLead σ s u q n).1 n r i)) := by
  have n8 := ok.1.1
  have r4 := ok.1.2.1
  have i6 := ok.1.2.2.1
  refine zMet.of (by decide) (Nat.le_of_ble_eq_true rfl) ?_
  refine z_iload_n dX1_leadHome_0 rfl ?_
  refine z_aload_n dX1_leadHome_1 rfl ?_
  refine z_getI (j := 5) kX1 lf_X1_38 (by decide) rfl dX1_leadHome_2 (zDay_k0 hd) (zDay_s0 hd) ?_
  refine z_ior dX1_leadHome_5 ?_
  refine z_istore_n dX1_leadHome_6 (by decide) rfl rfl ?_
  refine z_iconst (v := 0) dX1_leadHome_7 (by decide) ?_
  refine z_istore dX1_leadHome_8 (by decide) rfl rfl ?_
  exact lp_leadHome g l hd R ok hq (n + 1) 0 (Nat.zero_le _) (by omega) rfl

set_option maxRecDepth 100000 in
set_option maxHeartbeats 4000000 in
theorem lp_pass3 (g : zG) (l : Launch) {M0 : zM} {d n r i : Nat} {σ : Dy} (hd : d ∈ zDays) (ok : dOK σ n r i) : ∀ (k h : Nat) (M : zM), h ≤ n → n - h < k → zDR M0 M d (dRests (dLeads (dRides σ n r).1 (dRides σ n r).2 n i).1 (dRides σ n r).2 h) n r i → zA g l yX1_passStage cX1_passStage 4 none 3 0 0 (zQv (fun M' => zDR M0 M' d (dPass σ n r i) n r i)) 72 0 0 S0 M [.ref d, .int (dRides σ n r).2, .null, .int (nI h)] [] := by
  have n8 := ok.1.1
  have r4 := ok.1.2.1
  have i6 := ok.1.2.2.1
  intro k
  induction k with
  | zero => intro h M hh hk; exact absurd hk (Nat.not_lt_zero _)
  | succ k ih =>
    intro h M hh hk R
    refine z_iload_n dX1_passStage_72 rfl ?_
    refine z_aload_n dX1_passStage_73 rfl ?_
    refine z_getR (j := 0) (r := 1) kX1 lf_X1_30 (by decide) rfl dX1_passStage_74 (zDay_k0 hd) (zDay_s0 hd) (zDay_r0 hd) (by decide) ?_
    refine z_getIV (j := 1) kX7 lf_X1_41 (by decide) rfl R.1.1.2.1 dX1_passStage_77 k0_1 s0_1 ?_
    refine z_icmp_ge (tgt := 102) dX1_passStage_80 (by decide) (fun b80 => ?_) (fun b80 => ?_)
    · have e : n ≤ h := (nI_leI (by omega) (by omega)).mp b80
      have e2 : h = n := by omega
      subst e2
      refine z_aload_n dX1_passStage_102 rfl ?_
      refine z_dup dX1_passStage_103 rfl ?_
      refine z_getIV (j := 1) kX1 lf_X1_34 (by decide) rfl R.1.2.1 dX1_passStage_104 (zDay_k0 hd) (zDay_s0 hd) ?_
      refine z_iconst (v := 1) dX1_passStage_107 (by decide) ?_
      refine z_iadd dX1_passStage_108 ?_
      refine z_putIE (j := 1) kX1 lf_X1_34 (by decide) rfl rfl (kX1.2.2.1 1 (by decide)) rfl rfl dX1_passStage_109 (zDay_k0 hd) (zDay_s0 hd) (fun M109 e109 => ?_)
      have R109 := R.number hd _ e109 n8 r4
      refine z_vret dX1_passStage_112 zle ?_
      exact R109
    · have hn : h < n := by
        rcases Nat.lt_or_ge h n with z | z
        · exact z
        · exact absurd (nI_le z (by omega)) b80
      refine z_iload_n dX1_passStage_83 rfl ?_
      refine z_iload_n dX1_passStage_84 rfl ?_
      refine z_ishr dX1_passStage_85 ?_
      refine z_iconst (v := 1) dX1_passStage_86 (by decide) ?_
      refine z_iand dX1_passStage_87 ?_
      refine z_if_ne (tgt := 96) dX1_passStage_88 (by decide) (fun b88 => ?_) (fun b88 => ?_)
      · refine z_iincN (k := h) dX1_passStage_96 rfl rfl (by decide) rfl rfl ?_
        refine z_goto (tgt := 72) dX1_passStage_99 (by decide) ?_
        first
          | (have e9 : dRests (dLeads (dRides σ n r).1 (dRides σ n r).2 n i).1 (dRides σ n r).2 (h + 1) = dRests (dLeads (dRides σ n r).1 (dRides σ n r).2 n i).1 (dRides σ n r).2 h := if_pos (by rw [z_b1 (by omega)]; rcases Bool.eq_false_or_eq_true (bt (dRides σ n r).2 h) with z | z; exact z; exact absurd ((z_b0 (by omega)).mpr z) b88)
             exact ih (h + 1) _ (by omega) (by omega) (by rw [e9]; exact R))
          | (have e9 : dRests (dLeads (dRides σ n r).1 (dRides σ n r).2 n i).1 (dRides σ n r).2 (h + 1) = dEase (dRests (dLeads (dRides σ n r).1 (dRides σ n r).2 n i).1 (dRides σ n r).2 h) h (dLeft (dRests (dLeads (dRides σ n r).1 (dRides σ n r).2 n i).1 (dRides σ n r).2 h) h) := if_neg (by rw [z_b1 (by omega), (z_b0 (by omega)).mp b88]; decide)
             exact ih (h + 1) _ (by omega) (by omega) (by rw [e9]; exact q93))
      · refine z_aload_n dX1_passStage_91 rfl ?_
        refine z_iload_n dX1_passStage_92 rfl ?_
        refine z_vV1 (c_X1_rest g l hd R hn ⟨n8, r4, i6⟩) mw_X1_rest lm_X1_94 mi_X1_rest mv_X1_rest kX1 (by decide) (Nat.le_of_ble_eq_true rfl) zle (zDay_k0 hd) (zDay_s0 hd) dX1_passStage_93 (fun M93 q93 => ?_)
        refine z_iincN (k := h) dX1_passStage_96 rfl rfl (by decide) rfl rfl ?_
        refine z_goto (tgt := 72) dX1_passStage_99 (by decide) ?_
        first
          | (have e9 : dRests (dLeads (dRides σ n r).1 (dRides σ n r).2 n i).1 (dRides σ n r).2 (h + 1) = dRests (dLeads (dRides σ n r).1 (dRides σ n r).2 n i).1 (dRides σ n r).2 h := if_pos (by rw [z_b1 (by omega)]; rcases Bool.eq_false_or_eq_true (bt (dRides σ n r).2 h) with z | z; exact z; exact absurd ((z_b0 (by omega)).mpr z) b88)
             exact ih (h + 1) _ (by omega) (by omega) (by rw [e9]; exact R))
          | (have e9 : dRests (dLeads (dRides σ n r).1 (dRides σ n r).2 n i).1 (dRides σ n r).2 (h + 1) = dEase (dRests (dLeads (dRides σ n r).1 (dRides σ n r).2 n i).1 (dRides σ n r).2 h) h (dLeft (dRests (dLeads (dRides σ n r).1 (dRides σ n r).2 n i).1 (dRides σ n r).2 h) h) := if_neg (by rw [z_b1 (by omega), (z_b0 (by omega)).mp b88]; decide)
             exact ih (h + 1) _ (by omega) (by omega) (by rw [e9]; exact q93))

set_option maxRecDepth 100000 in
set_option maxHeartbeats 4000000 in
theorem lp_pass2 (g : zG) (l : Launch) {M0 : zM} {d n r i : Nat} {σ : Dy} (hd : d ∈ zDays) (ok : dOK σ n r i) : ∀ (k h : Nat) (M : zM), h ≤ i → i - h < k → zDR M0 M d (dLeads (dRides σ n r).1 (dRides σ n r).2 n h).1 n r i → zA g l yX1_passStage cX1_passStage 4 none 3 0 0 (zQv (fun M' => zDR M0 M' d (dPass σ n r i) n r i)) 42 0 0 S0 M [.ref d, .int (dRides σ n r).2, .int (dLeads (dRides σ n r).1 (dRides σ n r).2 n h).2, .int (nI h)] [] := by
  have n8 := ok.1.1
  have r4 := ok.1.2.1
  have i6 := ok.1.2.2.1
  intro k
  induction k with
  | zero => intro h M hh hk; exact absurd hk (Nat.not_lt_zero _)
  | succ k ih =>
    intro h M hh hk R
    have ok2 := dLeads_ok (rid := (dRides σ n r).2) (dRides_ok ok r (Nat.le_refl _)) h hh
    refine z_iload_n dX1_passStage_42 rfl ?_
    refine z_aload_n dX1_passStage_43 rfl ?_
    refine z_getR (j := 0) (r := 1) kX1 lf_X1_30 (by decide) rfl dX1_passStage_44 (zDay_k0 hd) (zDay_s0 hd) (zDay_r0 hd) (by decide) ?_
    refine z_getIV (j := 0) kX7 lf_X1_88 (by decide) rfl R.1.1.1 dX1_passStage_47 k0_1 s0_1 ?_
    refine z_icmp_ge (tgt := 70) dX1_passStage_50 (by decide) (fun b50 => ?_) (fun b50 => ?_)
    · have e : i ≤ h := (nI_leI (by omega) (by omega)).mp b50
      have e2 : h = i := by omega
      subst e2
      refine z_iconst (v := 0) dX1_passStage_70 (by decide) ?_
      refine z_istore_n dX1_passStage_71 (by decide) rfl rfl ?_
      exact zA.sub (lp_pass3 g l hd ok (n + 1) 0 _ (Nat.zero_le _) (by omega) R) rfl ⟨Or.inr rfl, Or.inr rfl, Or.inl rfl, Or.inr rfl, trivial⟩
    · have hn : h < i := by
        rcases Nat.lt_or_ge h i with z | z
        · exact z
        · exact absurd (nI_le z (by omega)) b50
      refine z_iload_n dX1_passStage_53 rfl ?_
      refine z_aload_n dX1_passStage_54 rfl ?_
      refine z_iload_n dX1_passStage_55 rfl ?_
      refine z_iload_n dX1_passStage_56 rfl ?_
      refine z_iload_n dX1_passStage_57 rfl ?_
      refine z_ior dX1_passStage_58 ?_
      refine z_iV2 (c_X1_leadHome g l hd R ok2 hn) mw_X1_leadHome lm_X1_91 mi_X1_leadHome mv_X1_leadHome kX1 (by decide) (Nat.le_of_ble_eq_true rfl) zle (zDay_k0 hd) (zDay_s0 hd) dX1_passStage_59 (fun r59 M59 q59 => ?_)
      refine z_ior dX1_passStage_62 ?_
      refine z_as (x' := (dLeads (dRides σ n r).1 (dRides σ n r).2 n (h + 1)).2) q59.1 ?_
      refine z_istore_n dX1_passStage_63 (by decide) rfl rfl ?_
      refine z_iincN (k := h) dX1_passStage_64 rfl rfl (by decide) rfl rfl ?_
      refine z_goto (tgt := 42) dX1_passStage_67 (by decide) ?_
      exact ih (h + 1) _ (by omega) (by omega) q59.2

set_option maxRecDepth 100000 in
set_option maxHeartbeats 4000000 in
theorem lp_pass1 (g : zG) (l : Launch) {M0 : zM} {d n r i : Nat} {σ : Dy} (hd : d ∈ zDays) (ok : dOK σ n r i) : ∀ (k h : Nat) (M : zM), h ≤ r → r - h < k → zDR M0 M d (dRides σ n h).1 n r i → zA g l yX1_passStage cX1_passStage 4 none 3 0 0 (zQv (fun M' => zDR M0 M' d (dPass σ n r i) n r i)) 4 0 0 S0 M [.ref d, .int (dRides σ n h).2, .int (nI h), .null] [] := by
  have n8 := ok.1.1
  have r4 := ok.1.2.1
  have i6 := ok.1.2.2.1
  intro k
  induction k with
  | zero => intro h M hh hk; exact absurd hk (Nat.not_lt_zero _)
  | succ k ih =>
    intro h M hh hk R
    have ok1 := dRides_ok ok h hh
    refine z_iload_n dX1_passStage_4 rfl ?_
    refine z_aload_n dX1_passStage_5 rfl ?_
    refine z_getR (j := 0) (r := 1) kX1 lf_X1_30 (by decide) rfl dX1_passStage_6 (zDay_k0 hd) (zDay_s0 hd) (zDay_r0 hd) (by decide) ?_
    refine z_getIV (j := 2) kX7 lf_X1_50 (by decide) rfl R.1.1.2.2.1 dX1_passStage_9 k0_1 s0_1 ?_
    refine z_icmp_ge (tgt := 38) dX1_passStage_12 (by decide) (fun b12 => ?_) (fun b12 => ?_)
    · have e : r ≤ h := (nI_leI (by omega) (by omega)).mp b12
      have e2 : h = r := by omega
      subst e2
      refine z_iconst (v := 0) dX1_passStage_38 (by decide) ?_
      refine z_istore_n dX1_passStage_39 (by decide) rfl rfl ?_
      refine z_iconst (v := 0) dX1_passStage_40 (by decide) ?_
      refine z_istore_n dX1_passStage_41 (by decide) rfl rfl ?_
      exact lp_pass2 g l hd ok (i + 1) 0 _ (Nat.zero_le _) (by omega) R
    · have hn : h < r := by
        rcases Nat.lt_or_ge h r with z | z
        · exact z
        · exact absurd (nI_le z (by omega)) b12
      refine z_aload_n dX1_passStage_15 rfl ?_
      refine z_iload_n dX1_passStage_16 rfl ?_
      refine z_iV1 (c_X1_isThere g l hd R hn ⟨n8, r4, i6⟩) mw_X1_isThere lm_X1_63 mi_X1_isThere mv_X1_isThere kX1 (by decide) (Nat.le_of_ble_eq_true rfl) zle (zDay_k0 hd) (zDay_s0 hd) dX1_passStage_17 (fun r17 M17 q17 => ?_)
      obtain ⟨rfl, ⟨c17, rfl⟩ | ⟨c17, rfl⟩⟩ := q17
      · refine z_if_ne (tgt := 32) dX1_passStage_20 (by decide) (fun b20 => ?_) (fun b20 => ?_)
        · refine z_iincN (k := h) dX1_passStage_32 rfl rfl (by decide) rfl rfl ?_
          refine z_goto (tgt := 4) dX1_passStage_35 (by decide) ?_
          first
            | (have e9 : dRides σ n (h + 1) = dRides σ n h := if_pos c17
               have h0 := ih (h + 1) _ (by omega) (by omega) (by rw [e9]; exact R)
               rw [e9] at h0
               exact h0)
            | (have e9 : dRides σ n (h + 1) = dRide (dRides σ n h).1 (dRides σ n h).2 h n := if_neg c17
               exact ih (h + 1) _ (by omega) (by omega) (by rw [e9]; exact q27.2))
        · exact absurd b20 (by decide)
      · refine z_if_ne (tgt := 32) dX1_passStage_20 (by decide) (fun b20 => ?_) (fun b20 => ?_)
        · exact absurd b20 (by decide)
        · refine z_iload_n dX1_passStage_23 rfl ?_
          refine z_aload_n dX1_passStage_24 rfl ?_
          refine z_iload_n dX1_passStage_25 rfl ?_
          refine z_iload_n dX1_passStage_26 rfl ?_
          refine z_iV2 (c_X1_sendOff g l hd R ok1 hn) mw_X1_sendOff lm_X1_85 mi_X1_sendOff mv_X1_sendOff kX1 (by decide) (Nat.le_of_ble_eq_true rfl) zle (zDay_k0 hd) (zDay_s0 hd) dX1_passStage_27 (fun r27 M27 q27 => ?_)
          refine z_ior dX1_passStage_30 ?_
          refine z_as (x' := (dRides σ n (h + 1)).2) (q27.1.trans (by rw [show dRides σ n (h + 1) = dRide (dRides σ n h).1 (dRides σ n h).2 h n from if_neg c17])) ?_
          refine z_istore_n dX1_passStage_31 (by decide) rfl rfl ?_
          refine z_iincN (k := h) dX1_passStage_32 rfl rfl (by decide) rfl rfl ?_
          refine z_goto (tgt := 4) dX1_passStage_35 (by decide) ?_
          first
            | (have e9 : dRides σ n (h + 1) = dRides σ n h := if_pos c17
               have h0 := ih (h + 1) _ (by omega) (by omega) (by rw [e9]; exact R)
               rw [e9] at h0
               exact h0)
            | (have e9 : dRides σ n (h + 1) = dRide (dRides σ n h).1 (dRides σ n h).2 h n := if_neg c17
               exact ih (h + 1) _ (by omega) (by omega) (by rw [e9]; exact q27.2))

set_option maxRecDepth 100000 in
set_option maxHeartbeats 4000000 in
theorem c_X1_passStage (g : zG) (l : Launch) {M0 M : zM} {d n r i : Nat} {σ : Dy} (hd : d ∈ zDays) (R : zDR M0 M d σ n r i) (ok : dOK σ n r i) : zMet g l yX1_passStage cX1_passStage 4 none 3 0 0 [.ref d] S0 M (zQv (fun M' => zDR M0 M' d (dPass σ n r i) n r i)) := by
  have n8 := ok.1.1
  have r4 := ok.1.2.1
  have i6 := ok.1.2.2.1
  refine zMet.of (by decide) (Nat.le_of_ble_eq_true rfl) ?_
  refine z_iconst (v := 0) dX1_passStage_0 (by decide) ?_
  refine z_istore_n dX1_passStage_1 (by decide) rfl rfl ?_
  refine z_iconst (v := 0) dX1_passStage_2 (by decide) ?_
  refine z_istore_n dX1_passStage_3 (by decide) rfl rfl ?_
  exact lp_pass1 g l hd ok (r + 1) 0 _ (Nat.zero_le _) (by omega) R

