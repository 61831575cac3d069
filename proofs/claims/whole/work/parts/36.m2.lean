/-! ===== the reference's own methods: reading, foretelling ===== -/
theorem as_eq {k w : Int32} (hk : zIn k 5) (hw : ¬ (w < 0 ∨ 5 < w)) : aUnder k w ↔ (w = 0 ∨ w = k + 1 ∨ (w = 1 ∧ k < 3) ∨ (w = 4 ∧ k = 4)) := by
  obtain ⟨a, ha, rfl⟩ := hk
  obtain ⟨u, -, hu, rfl⟩ := (zIdx w (a := 0) (c := 5) (by omega) (by omega)).resolve_right hw
  exact decide_eq_decide.mp ((by decide +kernel : ∀ a, a < 5 → ∀ u, u < 6 → decide (aUnder (nI a) (nI u)) = decide (nI u = 0 ∨ nI u = nI a + 1 ∨ (nI u = 1 ∧ nI a < 3) ∨ (nI u = 4 ∧ nI a = 4))) a ha u (by omega))
section ZM0
variable {M : zM} {A : aSt}
theorem c_given0 (g : zG) (l : Launch) (ok : aOK A) (C : RelM M A) {q : Nat} (hq : q < A.r) : zMet g l yX12_givenIn cX12_givenIn 8 (some .int) 1 0 0 [.ref 127, .int (nI 0), .int (nI q)] S0 M (zQi (fun r' M' => r' = (dGiv A.s (M 127 28) q A.n).1 ∧ M' = M)) := by
  have r4 : A.r ≤ 4 := ok.s.1.2.1
  have h := c_X12_givenIn g l (M := M) (b := 0) (σ := A.s) (rid := M 127 28) (led := M 127 29) (by omega) ok.s (q := q) (by omega)
  rw [C.self] at h
  exact h
theorem c_miles0 (g : zG) (l : Launch) (ok : aOK A) (C : RelM M A) {a t : Nat} (ha : a < A.i) (ht : t < A.i) : zMet g l yX12_milesOn cX12_milesOn 4 (some .int) 0 0 0 [.ref 127, .int (nI 0), .int (nI a), .int (nI t)] S0 M (zQi (fun r' M' => r' = dMiles A.s (nI a) (nI t) ∧ M' = M)) := by
  have i6 : A.i ≤ 6 := ok.s.1.2.2.1
  have h := c_X12_milesOn g l (M := M) (b := 0) (σ := A.s) (rid := M 127 28) (led := M 127 29) (t := nI t) (by omega) (show a < 6 by omega) (fun z => by have := (nI_ltI (by omega) (by omega)).mp z; omega)
  rw [C.self] at h
  exact h
theorem c_lay (g : zG) (l : Launch) (C : RelM M A) : zMet g l yX12_layTried cX12_layTried 1 none 1 0 0 [.ref 127] S0 M (zQv (fun M' => M' = zMd M 840 A.s (M 127 28) (M 127 29))) := by
  have h := c_X12_layTried g l (M := M)
  rw [C.lay] at h
  exact h
end ZM0
set_option maxRecDepth 100000 in
set_option maxHeartbeats 4000000 in
theorem c_X12_hour (g : zG) (l : Launch) {M : zM} {A : aSt} (ok : aOK A) (C : RelM M A) {x w : Int32} : zMet g l yX12_hour cX12_hour 3 (some .int) 2 0 0 [.ref 127, .int x, .int w] S0 M (zQi (fun r' M' => zAnsM M A (aHour A x w) r' M')) := by
  have n8 : A.n ≤ 8 := ok.s.1.1
  have r4 : A.r ≤ 4 := ok.s.1.2.1
  have i6 : A.i ≤ 6 := ok.s.1.2.2.1
  have u8 : A.u ≤ 8 := ok.u
  rcases zInD x (show A.n < 1000 by omega) with ⟨h, hh, rfl⟩ | hx
  · refine zMet.of (by decide) (Nat.le_of_ble_eq_true rfl) ?_
    refine z_aload_n dX12_hour_0 rfl ?_
    refine z_iload_n dX12_hour_1 rfl ?_
    refine z_iV1 (c_X12_isHour g l ok C) mw_X12_isHour lm_X12_169 mi_X12_isHour mv_X12_isHour kX12 (by decide) (Nat.le_of_ble_eq_true rfl) zle k0_127 s0_127 dX12_hour_2 (fun r2 M2 q2 => ?_)
    obtain ⟨qm2, qr2⟩ := q2
    obtain rfl := qm2.symm
    obtain ⟨c2, rfl⟩ | ⟨c2, rfl⟩ := qr2
    · refine z_if_ne (tgt := 11) dX12_hour_5 (by decide) (fun b5 => ?_) (fun b5 => ?_)
      · refine z_iload_n dX12_hour_11 rfl ?_
        refine z_tsw (b := 0) (n := 6) (tg := [52, 61, 71, 81, 91, 101]) (tgt := 111) dX12_hour_12 (by decide) (by decide) (by decide) (by decide) (by decide) (fun k12 hk12 s12 => ?_) (fun s12 => ?_)
        · match k12, hk12 with
          | 0, _ =>
            have s2 : w = 0 := s12
            refine z_aload_n dX12_hour_52 rfl ?_
            refine z_getR (j := 0) (r := 128) kX12 lf_X12_7 (by decide) rfl dX12_hour_53 k0_127 s0_127 r0_127_0 (by decide) ?_
            refine z_iconst (v := 3) dX12_hour_56 (by decide) ?_
            refine z_iload_n dX12_hour_57 rfl ?_
            refine z_iaddN (a := 3) (b := h) rfl rfl dX12_hour_58 ?_
            refine z_ialdV (j := (3 + h)) rfl (by omega) (C.s (3 + h) (by omega)) dX12_hour_59 k0_128 s0_128 ?_
            refine z_iret dX12_hour_60 rfl zle ?_
            exact zAnsM.of C (by unfold aHour; rw [aIx_in hh (by omega)]; rw [if_pos s2])
          | 1, _ =>
            have s2 : w = 1 := s12
            refine z_aload_n dX12_hour_61 rfl ?_
            refine z_getR (j := 0) (r := 128) kX12 lf_X12_7 (by decide) rfl dX12_hour_62 k0_127 s0_127 r0_127_0 (by decide) ?_
            refine z_bipush (v := 11) dX12_hour_65 (by decide) ?_
            refine z_iload_n dX12_hour_67 rfl ?_
            refine z_iaddN (a := 11) (b := h) rfl rfl dX12_hour_68 ?_
            refine z_ialdV (j := (11 + h)) rfl (by omega) (C.s (11 + h) (by omega)) dX12_hour_69 k0_128 s0_128 ?_
            refine z_iret dX12_hour_70 rfl zle ?_
            exact zAnsM.of C (by unfold aHour; rw [aIx_in hh (by omega)]; rw [if_neg (by rw [s2]; decide), if_pos s2])
          | 2, _ =>
            have s2 : w = 2 := s12
            refine z_aload_n dX12_hour_71 rfl ?_
            refine z_getR (j := 0) (r := 128) kX12 lf_X12_7 (by decide) rfl dX12_hour_72 k0_127 s0_127 r0_127_0 (by decide) ?_
            refine z_bipush (v := 19) dX12_hour_75 (by decide) ?_
            refine z_iload_n dX12_hour_77 rfl ?_
            refine z_iaddN (a := 19) (b := h) rfl rfl dX12_hour_78 ?_
            refine z_ialdV (j := (19 + h)) rfl (by omega) (C.s (19 + h) (by omega)) dX12_hour_79 k0_128 s0_128 ?_
            refine z_iret dX12_hour_80 rfl zle ?_
            exact zAnsM.of C (by unfold aHour; rw [aIx_in hh (by omega)]; rw [if_neg (by rw [s2]; decide), if_neg (by rw [s2]; decide), if_pos s2])
          | 3, _ =>
            have s2 : w = 3 := s12
            refine z_aload_n dX12_hour_81 rfl ?_
            refine z_getR (j := 0) (r := 128) kX12 lf_X12_7 (by decide) rfl dX12_hour_82 k0_127 s0_127 r0_127_0 (by decide) ?_
            refine z_bipush (v := 27) dX12_hour_85 (by decide) ?_
            refine z_iload_n dX12_hour_87 rfl ?_
            refine z_iaddN (a := 27) (b := h) rfl rfl dX12_hour_88 ?_
            refine z_ialdV (j := (27 + h)) rfl (by omega) (C.s (27 + h) (by omega)) dX12_hour_89 k0_128 s0_128 ?_
            refine z_iret dX12_hour_90 rfl zle ?_
            exact zAnsM.of C (by unfold aHour; rw [aIx_in hh (by omega)]; rw [if_neg (by rw [s2]; decide), if_neg (by rw [s2]; decide), if_neg (by rw [s2]; decide), if_pos s2])
          | 4, _ =>
            have s2 : w = 4 := s12
            refine z_aload_n dX12_hour_91 rfl ?_
            refine z_getR (j := 0) (r := 128) kX12 lf_X12_7 (by decide) rfl dX12_hour_92 k0_127 s0_127 r0_127_0 (by decide) ?_
            refine z_bipush (v := 35) dX12_hour_95 (by decide) ?_
            refine z_iload_n dX12_hour_97 rfl ?_
            refine z_iaddN (a := 35) (b := h) rfl rfl dX12_hour_98 ?_
            refine z_ialdV (j := (35 + h)) rfl (by omega) (C.s (35 + h) (by omega)) dX12_hour_99 k0_128 s0_128 ?_
            refine z_iret dX12_hour_100 rfl zle ?_
            exact zAnsM.of C (by unfold aHour; rw [aIx_in hh (by omega)]; rw [if_neg (by rw [s2]; decide), if_neg (by rw [s2]; decide), if_neg (by rw [s2]; decide), if_neg (by rw [s2]; decide), if_pos s2])
          | 5, _ =>
            have s2 : w = 5 := s12
            refine z_aload_n dX12_hour_101 rfl ?_
            refine z_getR (j := 0) (r := 128) kX12 lf_X12_7 (by decide) rfl dX12_hour_102 k0_127 s0_127 r0_127_0 (by decide) ?_
            refine z_bipush (v := 43) dX12_hour_105 (by decide) ?_
            refine z_iload_n dX12_hour_107 rfl ?_
            refine z_iaddN (a := 43) (b := h) rfl rfl dX12_hour_108 ?_
            refine z_ialdV (j := (43 + h)) rfl (by omega) (C.s (43 + h) (by omega)) dX12_hour_109 k0_128 s0_128 ?_
            refine z_iret dX12_hour_110 rfl zle ?_
            exact zAnsM.of C (by unfold aHour; rw [aIx_in hh (by omega)]; rw [if_neg (by rw [s2]; decide), if_neg (by rw [s2]; decide), if_neg (by rw [s2]; decide), if_neg (by rw [s2]; decide), if_neg (by rw [s2]; decide), if_pos s2])
          | k + 6, h => exact absurd h (by omega)
        · have n0 : ¬ w = 0 := s12 0 (by decide)
          have n1 : ¬ w = 1 := s12 1 (by decide)
          have n2 : ¬ w = 2 := s12 2 (by decide)
          have n3 : ¬ w = 3 := s12 3 (by decide)
          have n4 : ¬ w = 4 := s12 4 (by decide)
          have n5 : ¬ w = 5 := s12 5 (by decide)
          refine z_bipush (v := (-3)) dX12_hour_111 (by decide) ?_
          refine z_iret dX12_hour_113 rfl zle ?_
          exact zAnsM.of C (by unfold aHour; rw [aIx_in hh (by omega)]; rw [if_neg n0, if_neg n1, if_neg n2, if_neg n3, if_neg n4, if_neg n5])
      · exact absurd b5 (by decide)
    · exact absurd (zInP hh (by omega)) c2
  · refine zMet.of (by decide) (Nat.le_of_ble_eq_true rfl) ?_
    refine z_aload_n dX12_hour_0 rfl ?_
    refine z_iload_n dX12_hour_1 rfl ?_
    refine z_iV1 (c_X12_isHour g l ok C) mw_X12_isHour lm_X12_169 mi_X12_isHour mv_X12_isHour kX12 (by decide) (Nat.le_of_ble_eq_true rfl) zle k0_127 s0_127 dX12_hour_2 (fun r2 M2 q2 => ?_)
    obtain ⟨qm2, qr2⟩ := q2
    obtain rfl := qm2.symm
    obtain ⟨c2, rfl⟩ | ⟨c2, rfl⟩ := qr2
    · exact absurd c2 hx
    · refine z_if_ne (tgt := 11) dX12_hour_5 (by decide) (fun b5 => ?_) (fun b5 => ?_)
      · exact absurd b5 (by decide)
      · refine z_bipush (v := (-2)) dX12_hour_8 (by decide) ?_
        refine z_iret dX12_hour_10 rfl zle ?_
        exact zAnsM.of C (by unfold aHour; rw [aIx_out hx])

set_option maxRecDepth 100000 in
set_option maxHeartbeats 4000000 in
theorem c_X12_rider (g : zG) (l : Launch) {M : zM} {A : aSt} (ok : aOK A) (C : RelM M A) {x w : Int32} : zMet g l yX12_rider cX12_rider 3 (some .int) 2 0 0 [.ref 127, .int x, .int w] S0 M (zQi (fun r' M' => zAnsM M A (aRider A x w) r' M')) := by
  have n8 : A.n ≤ 8 := ok.s.1.1
  have r4 : A.r ≤ 4 := ok.s.1.2.1
  have i6 : A.i ≤ 6 := ok.s.1.2.2.1
  have u8 : A.u ≤ 8 := ok.u
  rcases zInD x (show A.r < 1000 by omega) with ⟨h, hh, rfl⟩ | hx
  · refine zMet.of (by decide) (Nat.le_of_ble_eq_true rfl) ?_
    refine z_aload_n dX12_rider_0 rfl ?_
    refine z_iload_n dX12_rider_1 rfl ?_
    refine z_iV1 (c_X12_isRider g l ok C) mw_X12_isRider lm_X12_172 mi_X12_isRider mv_X12_isRider kX12 (by decide) (Nat.le_of_ble_eq_true rfl) zle k0_127 s0_127 dX12_rider_2 (fun r2 M2 q2 => ?_)
    obtain ⟨qm2, qr2⟩ := q2
    obtain rfl := qm2.symm
    obtain ⟨c2, rfl⟩ | ⟨c2, rfl⟩ := qr2
    · refine z_if_ne (tgt := 11) dX12_rider_5 (by decide) (fun b5 => ?_) (fun b5 => ?_)
      · refine z_iload_n dX12_rider_11 rfl ?_
        refine z_if_ne (tgt := 27) dX12_rider_12 (by decide) (fun b12 => ?_) (fun b12 => ?_)
        · refine z_iload_n dX12_rider_27 rfl ?_
          refine z_iconst (v := 1) dX12_rider_28 (by decide) ?_
          refine z_icmp_ne (tgt := 44) dX12_rider_29 (by decide) (fun b29 => ?_) (fun b29 => ?_)
          · refine z_iload_n dX12_rider_44 rfl ?_
            refine z_iconst (v := 2) dX12_rider_45 (by decide) ?_
            refine z_icmp_ne (tgt := 61) dX12_rider_46 (by decide) (fun b46 => ?_) (fun b46 => ?_)
            · refine z_bipush (v := (-3)) dX12_rider_61 (by decide) ?_
              refine z_iret dX12_rider_63 rfl zle ?_
              first
                | exact zAnsM.of C (by unfold aRider; rw [aIx_in hh (by omega)]; exact (if_pos b12).symm)
                | exact zAnsM.of C (by unfold aRider; rw [aIx_in hh (by omega)]; exact ((if_neg b12).trans (if_pos b29)).symm)
                | exact zAnsM.of C (by unfold aRider; rw [aIx_in hh (by omega)]; exact ((if_neg b12).trans ((if_neg b29).trans (if_pos b46))).symm)
                | exact zAnsM.of C (by unfold aRider; rw [aIx_in hh (by omega)]; exact ((if_neg b12).trans ((if_neg b29).trans (if_neg b46))).symm)
            · refine z_aload_n dX12_rider_49 rfl ?_
              refine z_getR (j := 0) (r := 128) kX12 lf_X12_7 (by decide) rfl dX12_rider_50 k0_127 s0_127 r0_127_0 (by decide) ?_
              refine z_bipush (v := 59) dX12_rider_53 (by decide) ?_
              refine z_iload_n dX12_rider_55 rfl ?_
              refine z_iaddN (a := 59) (b := h) rfl rfl dX12_rider_56 ?_
              refine z_ialdV (j := (59 + h)) rfl (by omega) (C.s (59 + h) (by omega)) dX12_rider_57 k0_128 s0_128 ?_
              refine z_goto (tgt := 63) dX12_rider_58 (by decide) ?_
              refine z_iret dX12_rider_63 rfl zle ?_
              first
                | exact zAnsM.of C (by unfold aRider; rw [aIx_in hh (by omega)]; exact (if_pos b12).symm)
                | exact zAnsM.of C (by unfold aRider; rw [aIx_in hh (by omega)]; exact ((if_neg b12).trans (if_pos b29)).symm)
                | exact zAnsM.of C (by unfold aRider; rw [aIx_in hh (by omega)]; exact ((if_neg b12).trans ((if_neg b29).trans (if_pos b46))).symm)
                | exact zAnsM.of C (by unfold aRider; rw [aIx_in hh (by omega)]; exact ((if_neg b12).trans ((if_neg b29).trans (if_neg b46))).symm)
          · refine z_aload_n dX12_rider_32 rfl ?_
            refine z_getR (j := 0) (r := 128) kX12 lf_X12_7 (by decide) rfl dX12_rider_33 k0_127 s0_127 r0_127_0 (by decide) ?_
            refine z_bipush (v := 55) dX12_rider_36 (by decide) ?_
            refine z_iload_n dX12_rider_38 rfl ?_
            refine z_iaddN (a := 55) (b := h) rfl rfl dX12_rider_39 ?_
            refine z_ialdV (j := (55 + h)) rfl (by omega) (C.s (55 + h) (by omega)) dX12_rider_40 k0_128 s0_128 ?_
            refine z_goto (tgt := 63) dX12_rider_41 (by decide) ?_
            refine z_iret dX12_rider_63 rfl zle ?_
            first
              | exact zAnsM.of C (by unfold aRider; rw [aIx_in hh (by omega)]; exact (if_pos b12).symm)
              | exact zAnsM.of C (by unfold aRider; rw [aIx_in hh (by omega)]; exact ((if_neg b12).trans (if_pos b29)).symm)
              | exact zAnsM.of C (by unfold aRider; rw [aIx_in hh (by omega)]; exact ((if_neg b12).trans ((if_neg b29).trans (if_pos b46))).symm)
              | exact zAnsM.of C (by unfold aRider; rw [aIx_in hh (by omega)]; exact ((if_neg b12).trans ((if_neg b29).trans (if_neg b46))).symm)
        · refine z_aload_n dX12_rider_15 rfl ?_
          refine z_getR (j := 0) (r := 128) kX12 lf_X12_7 (by decide) rfl dX12_rider_16 k0_127 s0_127 r0_127_0 (by decide) ?_
          refine z_bipush (v := 51) dX12_rider_19 (by decide) ?_
          refine z_iload_n dX12_rider_21 rfl ?_
          refine z_iaddN (a := 51) (b := h) rfl rfl dX12_rider_22 ?_
          refine z_ialdV (j := (51 + h)) rfl (by omega) (C.s (51 + h) (by omega)) dX12_rider_23 k0_128 s0_128 ?_
          refine z_goto (tgt := 63) dX12_rider_24 (by decide) ?_
          refine z_iret dX12_rider_63 rfl zle ?_
          first
            | exact zAnsM.of C (by unfold aRider; rw [aIx_in hh (by omega)]; exact (if_pos b12).symm)
            | exact zAnsM.of C (by unfold aRider; rw [aIx_in hh (by omega)]; exact ((if_neg b12).trans (if_pos b29)).symm)
            | exact zAnsM.of C (by unfold aRider; rw [aIx_in hh (by omega)]; exact ((if_neg b12).trans ((if_neg b29).trans (if_pos b46))).symm)
            | exact zAnsM.of C (by unfold aRider; rw [aIx_in hh (by omega)]; exact ((if_neg b12).trans ((if_neg b29).trans (if_neg b46))).symm)
      · exact absurd b5 (by decide)
    · exact absurd (zInP hh (by omega)) c2
  · refine zMet.of (by decide) (Nat.le_of_ble_eq_true rfl) ?_
    refine z_aload_n dX12_rider_0 rfl ?_
    refine z_iload_n dX12_rider_1 rfl ?_
    refine z_iV1 (c_X12_isRider g l ok C) mw_X12_isRider lm_X12_172 mi_X12_isRider mv_X12_isRider kX12 (by decide) (Nat.le_of_ble_eq_true rfl) zle k0_127 s0_127 dX12_rider_2 (fun r2 M2 q2 => ?_)
    obtain ⟨qm2, qr2⟩ := q2
    obtain rfl := qm2.symm
    obtain ⟨c2, rfl⟩ | ⟨c2, rfl⟩ := qr2
    · exact absurd c2 hx
    · refine z_if_ne (tgt := 11) dX12_rider_5 (by decide) (fun b5 => ?_) (fun b5 => ?_)
      · exact absurd b5 (by decide)
      · refine z_bipush (v := (-2)) dX12_rider_8 (by decide) ?_
        refine z_iret dX12_rider_10 rfl zle ?_
        exact zAnsM.of C (by unfold aRider; rw [aIx_out hx])

set_option maxRecDepth 100000 in
set_option maxHeartbeats 4000000 in
theorem c_X12_inn (g : zG) (l : Launch) {M : zM} {A : aSt} (ok : aOK A) (C : RelM M A) {x : Int32} : zMet g l yX12_inn cX12_inn 2 (some .int) 2 0 0 [.ref 127, .int x] S0 M (zQi (fun r' M' => zAnsM M A (aInn A x) r' M')) := by
  have n8 : A.n ≤ 8 := ok.s.1.1
  have r4 : A.r ≤ 4 := ok.s.1.2.1
  have i6 : A.i ≤ 6 := ok.s.1.2.2.1
  have u8 : A.u ≤ 8 := ok.u
  rcases zInD x (show A.i < 1000 by omega) with ⟨h, hh, rfl⟩ | hx
  · refine zMet.of (by decide) (Nat.le_of_ble_eq_true rfl) ?_
    refine z_aload_n dX12_inn_0 rfl ?_
    refine z_iload_n dX12_inn_1 rfl ?_
    refine z_iV1 (c_X12_isInn g l ok C) mw_X12_isInn lm_X12_175 mi_X12_isInn mv_X12_isInn kX12 (by decide) (Nat.le_of_ble_eq_true rfl) zle k0_127 s0_127 dX12_inn_2 (fun r2 M2 q2 => ?_)
    obtain ⟨qm2, qr2⟩ := q2
    obtain rfl := qm2.symm
    obtain ⟨c2, rfl⟩ | ⟨c2, rfl⟩ := qr2
    · refine z_if_eq (tgt := 20) dX12_inn_5 (by decide) (fun b5 => ?_) (fun b5 => ?_)
      · exact absurd b5 (by decide)
      · refine z_aload_n dX12_inn_8 rfl ?_
        refine z_getR (j := 0) (r := 128) kX12 lf_X12_7 (by decide) rfl dX12_inn_9 k0_127 s0_127 r0_127_0 (by decide) ?_
        refine z_bipush (v := 64) dX12_inn_12 (by decide) ?_
        refine z_iload_n dX12_inn_14 rfl ?_
        refine z_iaddN (a := 64) (b := h) rfl rfl dX12_inn_15 ?_
        refine z_ialdV (j := (64 + h)) rfl (by omega) (C.s (64 + h) (by omega)) dX12_inn_16 k0_128 s0_128 ?_
        refine z_goto (tgt := 22) dX12_inn_17 (by decide) ?_
        refine z_iret dX12_inn_22 rfl zle ?_
        exact zAnsM.of C (by unfold aInn; rw [aIx_in hh (by omega)])
    · exact absurd (zInP hh (by omega)) c2
  · refine zMet.of (by decide) (Nat.le_of_ble_eq_true rfl) ?_
    refine z_aload_n dX12_inn_0 rfl ?_
    refine z_iload_n dX12_inn_1 rfl ?_
    refine z_iV1 (c_X12_isInn g l ok C) mw_X12_isInn lm_X12_175 mi_X12_isInn mv_X12_isInn kX12 (by decide) (Nat.le_of_ble_eq_true rfl) zle k0_127 s0_127 dX12_inn_2 (fun r2 M2 q2 => ?_)
    obtain ⟨qm2, qr2⟩ := q2
    obtain rfl := qm2.symm
    obtain ⟨c2, rfl⟩ | ⟨c2, rfl⟩ := qr2
    · exact absurd c2 hx
    · refine z_if_eq (tgt := 20) dX12_inn_5 (by decide) (fun b5 => ?_) (fun b5 => ?_)
      · refine z_bipush (v := (-2)) dX12_inn_20 (by decide) ?_
        refine z_iret dX12_inn_22 rfl zle ?_
        exact zAnsM.of C (by unfold aInn; rw [aIx_out hx])
      · exact absurd b5 (by decide)

set_option maxRecDepth 100000 in
set_option maxHeartbeats 4000000 in
theorem c_X12_as (g : zG) (l : Launch) {M : zM} {A : aSt} (ok : aOK A) (C : RelM M A) {x w : Int32} : zMet g l yX12_as cX12_as 5 (some .int) 2 0 0 [.ref 127, .int x, .int w] S0 M (zQi (fun r' M' => zAnsM M A (aAs A x w) r' M')) := by
  have n8 : A.n ≤ 8 := ok.s.1.1
  have r4 : A.r ≤ 4 := ok.s.1.2.1
  have i6 : A.i ≤ 6 := ok.s.1.2.2.1
  have u8 : A.u ≤ 8 := ok.u
  rcases zInD x (show A.n < 1000 by omega) with ⟨h, hh, rfl⟩ | hx
  · obtain ⟨hk, -⟩ := ok.s.2.1 h hh
    refine zMet.of (by decide) (Nat.le_of_ble_eq_true rfl) ?_
    refine z_aload_n dX12_as_0 rfl ?_
    refine z_iload_n dX12_as_1 rfl ?_
    refine z_iV1 (c_X12_isHour g l ok C) mw_X12_isHour lm_X12_169 mi_X12_isHour mv_X12_isHour kX12 (by decide) (Nat.le_of_ble_eq_true rfl) zle k0_127 s0_127 dX12_as_2 (fun r2 M2 q2 => ?_)
    obtain ⟨qm2, qr2⟩ := q2
    obtain rfl := qm2.symm
    obtain ⟨c2, rfl⟩ | ⟨c2, rfl⟩ := qr2
    · refine z_if_ne (tgt := 11) dX12_as_5 (by decide) (fun b5 => ?_) (fun b5 => ?_)
      · refine z_iload_n dX12_as_11 rfl ?_
        refine z_i2l dX12_as_12 ?_
        refine z_lconst (v := 0) dX12_as_13 (by decide) ?_
        refine z_ldc2 lc_X12_178 dX12_as_14 ?_
        refine z_iS3 (c_X12_in g l) mw_X12_in lm_X12_79 ms_X12_in (by decide) (Nat.le_of_ble_eq_true rfl) zle dX12_as_17 (fun r17 M17 q17 => ?_)
        obtain ⟨qm, qr⟩ := q17
        obtain rfl := qm.symm
        rcases qr with ⟨c17, rfl⟩ | ⟨c17, rfl⟩
        · have d17 := (l_inn (a := 0) (z := 5) (by decide) (by decide)).mp c17
          refine z_if_ne (tgt := 26) dX12_as_20 (by decide) (fun b20 => ?_) (fun b20 => ?_)
          · have bb : ¬ (w < 0 ∨ 5 < w) := fun z => z.elim (Int32.not_lt.mpr d17.1) (Int32.not_lt.mpr d17.2)
            refine z_aload_n dX12_as_26 rfl ?_
            refine z_getR (j := 0) (r := 128) kX12 lf_X12_7 (by decide) rfl dX12_as_27 k0_127 s0_127 r0_127_0 (by decide) ?_
            refine z_iconst (v := 3) dX12_as_30 (by decide) ?_
            refine z_iload_n dX12_as_31 rfl ?_
            refine z_iaddN (a := 3) (b := h) rfl rfl dX12_as_32 ?_
            refine z_ialdV (j := (3 + h)) rfl (by omega) (C.s (3 + h) (by omega)) dX12_as_33 k0_128 s0_128 ?_
            refine z_istore_n dX12_as_34 (by decide) rfl rfl ?_
            refine z_iload_n dX12_as_35 rfl ?_
            refine z_if_eq (tgt := 66) dX12_as_36 (by decide) (fun b36 => ?_) (fun b36 => ?_)
            · refine z_iconst (v := 1) dX12_as_66 (by decide) ?_
              refine z_goto (tgt := 71) dX12_as_67 (by decide) ?_
              refine z_istore dX12_as_71 (by decide) rfl rfl ?_
              refine z_iload dX12_as_73 rfl ?_
              refine z_if_eq (tgt := 86) dX12_as_75 (by decide) (fun b75 => ?_) (fun b75 => ?_)
              · exact absurd b75 (by decide)
              · refine z_iload_n dX12_as_78 rfl ?_
                refine z_iconst (v := 5) dX12_as_79 (by decide) ?_
                refine z_iS2 (c_X12_takes g l) mw_X12_takes lm_X12_180 ms_X12_takes (by decide) (Nat.le_of_ble_eq_true rfl) zle dX12_as_80 (fun r80 M80 q80 => ?_)
                obtain ⟨qr80, qm80⟩ := q80
                obtain rfl := qr80.symm
                obtain rfl := qm80.symm
                refine z_goto (tgt := 88) dX12_as_83 (by decide) ?_
                refine z_iret dX12_as_88 rfl zle ?_
                first
                  | exact zAnsM.of C (by unfold aAs; rw [aIx_in hh (by omega), if_neg bb]; exact (if_pos ((as_eq hk bb).mpr (by first | exact Or.inl b36 | exact Or.inr (Or.inl b43) | exact Or.inr (Or.inr (Or.inl ⟨b48, Int32.not_le.mp b53⟩)) | exact Or.inr (Or.inr (Or.inl ⟨b48, b53⟩)) | exact Or.inr (Or.inr (Or.inr ⟨b58, b63⟩))))).symm)
                  | exact zAnsM.of C (by unfold aAs; rw [aIx_in hh (by omega), if_neg bb]; exact (if_neg (fun z => ((as_eq hk bb).mp z).elim b36 (fun z => z.elim b43 (fun z => z.elim (fun z => by first | exact b48 z.1 | exact b53 z.2) (fun z => by first | exact b58 z.1 | exact b63 z.2))))).symm)
            · refine z_iload_n dX12_as_39 rfl ?_
              refine z_iload_n dX12_as_40 rfl ?_
              refine z_iconst (v := 1) dX12_as_41 (by decide) ?_
              refine z_iadd dX12_as_42 ?_
              refine z_icmp_eq (tgt := 66) dX12_as_43 (by decide) (fun b43 => ?_) (fun b43 => ?_)
              · refine z_iconst (v := 1) dX12_as_66 (by decide) ?_
                refine z_goto (tgt := 71) dX12_as_67 (by decide) ?_
                refine z_istore dX12_as_71 (by decide) rfl rfl ?_
                refine z_iload dX12_as_73 rfl ?_
                refine z_if_eq (tgt := 86) dX12_as_75 (by decide) (fun b75 => ?_) (fun b75 => ?_)
                · exact absurd b75 (by decide)
                · refine z_iload_n dX12_as_78 rfl ?_
                  refine z_iconst (v := 5) dX12_as_79 (by decide) ?_
                  refine z_iS2 (c_X12_takes g l) mw_X12_takes lm_X12_180 ms_X12_takes (by decide) (Nat.le_of_ble_eq_true rfl) zle dX12_as_80 (fun r80 M80 q80 => ?_)
                  obtain ⟨qr80, qm80⟩ := q80
                  obtain rfl := qr80.symm
                  obtain rfl := qm80.symm
                  refine z_goto (tgt := 88) dX12_as_83 (by decide) ?_
                  refine z_iret dX12_as_88 rfl zle ?_
                  first
                    | exact zAnsM.of C (by unfold aAs; rw [aIx_in hh (by omega), if_neg bb]; exact (if_pos ((as_eq hk bb).mpr (by first | exact Or.inl b36 | exact Or.inr (Or.inl b43) | exact Or.inr (Or.inr (Or.inl ⟨b48, Int32.not_le.mp b53⟩)) | exact Or.inr (Or.inr (Or.inl ⟨b48, b53⟩)) | exact Or.inr (Or.inr (Or.inr ⟨b58, b63⟩))))).symm)
                    | exact zAnsM.of C (by unfold aAs; rw [aIx_in hh (by omega), if_neg bb]; exact (if_neg (fun z => ((as_eq hk bb).mp z).elim b36 (fun z => z.elim b43 (fun z => z.elim (fun z => by first | exact b48 z.1 | exact b53 z.2) (fun z => by first | exact b58 z.1 | exact b63 z.2))))).symm)
              · refine z_iload_n dX12_as_46 rfl ?_
                refine z_iconst (v := 1) dX12_as_47 (by decide) ?_
                refine z_icmp_ne (tgt := 56) dX12_as_48 (by decide) (fun b48 => ?_) (fun b48 => ?_)
                · refine z_iload_n dX12_as_56 rfl ?_
                  refine z_iconst (v := 4) dX12_as_57 (by decide) ?_
                  refine z_icmp_ne (tgt := 70) dX12_as_58 (by decide) (fun b58 => ?_) (fun b58 => ?_)
                  · refine z_iconst (v := 0) dX12_as_70 (by decide) ?_
                    refine z_istore dX12_as_71 (by decide) rfl rfl ?_
                    refine z_iload dX12_as_73 rfl ?_
                    refine z_if_eq (tgt := 86) dX12_as_75 (by decide) (fun b75 => ?_) (fun b75 => ?_)
                    · refine z_bipush (v := (-4)) dX12_as_86 (by decide) ?_
                      refine z_iret dX12_as_88 rfl zle ?_
                      first
                        | exact zAnsM.of C (by unfold aAs; rw [aIx_in hh (by omega), if_neg bb]; exact (if_pos ((as_eq hk bb).mpr (by first | exact Or.inl b36 | exact Or.inr (Or.inl b43) | exact Or.inr (Or.inr (Or.inl ⟨b48, Int32.not_le.mp b53⟩)) | exact Or.inr (Or.inr (Or.inl ⟨b48, b53⟩)) | exact Or.inr (Or.inr (Or.inr ⟨b58, b63⟩))))).symm)
                        | exact zAnsM.of C (by unfold aAs; rw [aIx_in hh (by omega), if_neg bb]; exact (if_neg (fun z => ((as_eq hk bb).mp z).elim b36 (fun z => z.elim b43 (fun z => z.elim (fun z => by first | exact b48 z.1 | exact b53 z.2) (fun z => by first | exact b58 z.1 | exact b63 z.2))))).symm)
                    · exact absurd b75 (by decide)
                  · refine z_iload_n dX12_as_61 rfl ?_
                    refine z_iconst (v := 4) dX12_as_62 (by decide) ?_
                    refine z_icmp_ne (tgt := 70) dX12_as_63 (by decide) (fun b63 => ?_) (fun b63 => ?_)
                    · refine z_iconst (v := 0) dX12_as_70 (by decide) ?_
                      refine z_istore dX12_as_71 (by decide) rfl rfl ?_
                      refine z_iload dX12_as_73 rfl ?_
                      refine z_if_eq (tgt := 86) dX12_as_75 (by decide) (fun b75 => ?_) (fun b75 => ?_)
                      · refine z_bipush (v := (-4)) dX12_as_86 (by decide) ?_
                        refine z_iret dX12_as_88 rfl zle ?_
                        first
                          | exact zAnsM.of C (by unfold aAs; rw [aIx_in hh (by omega), if_neg bb]; exact (if_pos ((as_eq hk bb).mpr (by first | exact Or.inl b36 | exact Or.inr (Or.inl b43) | exact Or.inr (Or.inr (Or.inl ⟨b48, Int32.not_le.mp b53⟩)) | exact Or.inr (Or.inr (Or.inl ⟨b48, b53⟩)) | exact Or.inr (Or.inr (Or.inr ⟨b58, b63⟩))))).symm)
                          | exact zAnsM.of C (by unfold aAs; rw [aIx_in hh (by omega), if_neg bb]; exact (if_neg (fun z => ((as_eq hk bb).mp z).elim b36 (fun z => z.elim b43 (fun z => z.elim (fun z => by first | exact b48 z.1 | exact b53 z.2) (fun z => by first | exact b58 z.1 | exact b63 z.2))))).symm)
                      · exact absurd b75 (by decide)
                    · refine z_iconst (v := 1) dX12_as_66 (by decide) ?_
                      refine z_goto (tgt := 71) dX12_as_67 (by decide) ?_
                      refine z_istore dX12_as_71 (by decide) rfl rfl ?_
                      refine z_iload dX12_as_73 rfl ?_
                      refine z_if_eq (tgt := 86) dX12_as_75 (by decide) (fun b75 => ?_) (fun b75 => ?_)
                      · exact absurd b75 (by decide)
                      · refine z_iload_n dX12_as_78 rfl ?_
                        refine z_iconst (v := 5) dX12_as_79 (by decide) ?_
                        refine z_iS2 (c_X12_takes g l) mw_X12_takes lm_X12_180 ms_X12_takes (by decide) (Nat.le_of_ble_eq_true rfl) zle dX12_as_80 (fun r80 M80 q80 => ?_)
                        obtain ⟨qr80, qm80⟩ := q80
                        obtain rfl := qr80.symm
                        obtain rfl := qm80.symm
                        refine z_goto (tgt := 88) dX12_as_83 (by decide) ?_
                        refine z_iret dX12_as_88 rfl zle ?_
                        first
                          | exact zAnsM.of C (by unfold aAs; rw [aIx_in hh (by omega), if_neg bb]; exact (if_pos ((as_eq hk bb).mpr (by first | exact Or.inl b36 | exact Or.inr (Or.inl b43) | exact Or.inr (Or.inr (Or.inl ⟨b48, Int32.not_le.mp b53⟩)) | exact Or.inr (Or.inr (Or.inl ⟨b48, b53⟩)) | exact Or.inr (Or.inr (Or.inr ⟨b58, b63⟩))))).symm)
                          | exact zAnsM.of C (by unfold aAs; rw [aIx_in hh (by omega), if_neg bb]; exact (if_neg (fun z => ((as_eq hk bb).mp z).elim b36 (fun z => z.elim b43 (fun z => z.elim (fun z => by first | exact b48 z.1 | exact b53 z.2) (fun z => by first | exact b58 z.1 | exact b63 z.2))))).symm)
                · refine z_iload_n dX12_as_51 rfl ?_
                  refine z_iconst (v := 3) dX12_as_52 (by decide) ?_
                  refine z_icmp_lt (tgt := 66) dX12_as_53 (by decide) (fun b53 => ?_) (fun b53 => ?_)
                  · refine z_iconst (v := 1) dX12_as_66 (by decide) ?_
                    refine z_goto (tgt := 71) dX12_as_67 (by decide) ?_
                    refine z_istore dX12_as_71 (by decide) rfl rfl ?_
                    refine z_iload dX12_as_73 rfl ?_
                    refine z_if_eq (tgt := 86) dX12_as_75 (by decide) (fun b75 => ?_) (fun b75 => ?_)
                    · exact absurd b75 (by decide)
                    · refine z_iload_n dX12_as_78 rfl ?_
                      refine z_iconst (v := 5) dX12_as_79 (by decide) ?_
                      refine z_iS2 (c_X12_takes g l) mw_X12_takes lm_X12_180 ms_X12_takes (by decide) (Nat.le_of_ble_eq_true rfl) zle dX12_as_80 (fun r80 M80 q80 => ?_)
                      obtain ⟨qr80, qm80⟩ := q80
                      obtain rfl := qr80.symm
                      obtain rfl := qm80.symm
                      refine z_goto (tgt := 88) dX12_as_83 (by decide) ?_
                      refine z_iret dX12_as_88 rfl zle ?_
                      first
                        | exact zAnsM.of C (by unfold aAs; rw [aIx_in hh (by omega), if_neg bb]; exact (if_pos ((as_eq hk bb).mpr (by first | exact Or.inl b36 | exact Or.inr (Or.inl b43) | exact Or.inr (Or.inr (Or.inl ⟨b48, Int32.not_le.mp b53⟩)) | exact Or.inr (Or.inr (Or.inl ⟨b48, b53⟩)) | exact Or.inr (Or.inr (Or.inr ⟨b58, b63⟩))))).symm)
                        | exact zAnsM.of C (by unfold aAs; rw [aIx_in hh (by omega), if_neg bb]; exact (if_neg (fun z => ((as_eq hk bb).mp z).elim b36 (fun z => z.elim b43 (fun z => z.elim (fun z => by first | exact b48 z.1 | exact b53 z.2) (fun z => by first | exact b58 z.1 | exact b63 z.2))))).symm)
                  · refine z_iload_n dX12_as_56 rfl ?_
                    refine z_iconst (v := 4) dX12_as_57 (by decide) ?_
                    refine z_icmp_ne (tgt := 70) dX12_as_58 (by decide) (fun b58 => ?_) (fun b58 => ?_)
                    · refine z_iconst (v := 0) dX12_as_70 (by decide) ?_
                      refine z_istore dX12_as_71 (by decide) rfl rfl ?_
                      refine z_iload dX12_as_73 rfl ?_
                      refine z_if_eq (tgt := 86) dX12_as_75 (by decide) (fun b75 => ?_) (fun b75 => ?_)
                      · refine z_bipush (v := (-4)) dX12_as_86 (by decide) ?_
                        refine z_iret dX12_as_88 rfl zle ?_
                        first
                          | exact zAnsM.of C (by unfold aAs; rw [aIx_in hh (by omega), if_neg bb]; exact (if_pos ((as_eq hk bb).mpr (by first | exact Or.inl b36 | exact Or.inr (Or.inl b43) | exact Or.inr (Or.inr (Or.inl ⟨b48, Int32.not_le.mp b53⟩)) | exact Or.inr (Or.inr (Or.inl ⟨b48, b53⟩)) | exact Or.inr (Or.inr (Or.inr ⟨b58, b63⟩))))).symm)
                          | exact zAnsM.of C (by unfold aAs; rw [aIx_in hh (by omega), if_neg bb]; exact (if_neg (fun z => ((as_eq hk bb).mp z).elim b36 (fun z => z.elim b43 (fun z => z.elim (fun z => by first | exact b48 z.1 | exact b53 z.2) (fun z => by first | exact b58 z.1 | exact b63 z.2))))).symm)
                      · exact absurd b75 (by decide)
                    · refine z_iload_n dX12_as_61 rfl ?_
                      refine z_iconst (v := 4) dX12_as_62 (by decide) ?_
                      refine z_icmp_ne (tgt := 70) dX12_as_63 (by decide) (fun b63 => ?_) (fun b63 => ?_)
                      · refine z_iconst (v := 0) dX12_as_70 (by decide) ?_
                        refine z_istore dX12_as_71 (by decide) rfl rfl ?_
                        refine z_iload dX12_as_73 rfl ?_
                        refine z_if_eq (tgt := 86) dX12_as_75 (by decide) (fun b75 => ?_) (fun b75 => ?_)
                        · refine z_bipush (v := (-4)) dX12_as_86 (by decide) ?_
                          refine z_iret dX12_as_88 rfl zle ?_
                          first
                            | exact zAnsM.of C (by unfold aAs; rw [aIx_in hh (by omega), if_neg bb]; exact (if_pos ((as_eq hk bb).mpr (by first | exact Or.inl b36 | exact Or.inr (Or.inl b43) | exact Or.inr (Or.inr (Or.inl ⟨b48, Int32.not_le.mp b53⟩)) | exact Or.inr (Or.inr (Or.inl ⟨b48, b53⟩)) | exact Or.inr (Or.inr (Or.inr ⟨b58, b63⟩))))).symm)
                            | exact zAnsM.of C (by unfold aAs; rw [aIx_in hh (by omega), if_neg bb]; exact (if_neg (fun z => ((as_eq hk bb).mp z).elim b36 (fun z => z.elim b43 (fun z => z.elim (fun z => by first | exact b48 z.1 | exact b53 z.2) (fun z => by first | exact b58 z.1 | exact b63 z.2))))).symm)
                        · exact absurd b75 (by decide)
                      · refine z_iconst (v := 1) dX12_as_66 (by decide) ?_
                        refine z_goto (tgt := 71) dX12_as_67 (by decide) ?_
                        refine z_istore dX12_as_71 (by decide) rfl rfl ?_
                        refine z_iload dX12_as_73 rfl ?_
                        refine z_if_eq (tgt := 86) dX12_as_75 (by decide) (fun b75 => ?_) (fun b75 => ?_)
                        · exact absurd b75 (by decide)
                        · refine z_iload_n dX12_as_78 rfl ?_
                          refine z_iconst (v := 5) dX12_as_79 (by decide) ?_
                          refine z_iS2 (c_X12_takes g l) mw_X12_takes lm_X12_180 ms_X12_takes (by decide) (Nat.le_of_ble_eq_true rfl) zle dX12_as_80 (fun r80 M80 q80 => ?_)
                          obtain ⟨qr80, qm80⟩ := q80
                          obtain rfl := qr80.symm
                          obtain rfl := qm80.symm
                          refine z_goto (tgt := 88) dX12_as_83 (by decide) ?_
                          refine z_iret dX12_as_88 rfl zle ?_
                          first
                            | exact zAnsM.of C (by unfold aAs; rw [aIx_in hh (by omega), if_neg bb]; exact (if_pos ((as_eq hk bb).mpr (by first | exact Or.inl b36 | exact Or.inr (Or.inl b43) | exact Or.inr (Or.inr (Or.inl ⟨b48, Int32.not_le.mp b53⟩)) | exact Or.inr (Or.inr (Or.inl ⟨b48, b53⟩)) | exact Or.inr (Or.inr (Or.inr ⟨b58, b63⟩))))).symm)
                            | exact zAnsM.of C (by unfold aAs; rw [aIx_in hh (by omega), if_neg bb]; exact (if_neg (fun z => ((as_eq hk bb).mp z).elim b36 (fun z => z.elim b43 (fun z => z.elim (fun z => by first | exact b48 z.1 | exact b53 z.2) (fun z => by first | exact b58 z.1 | exact b63 z.2))))).symm)
          · exact absurd b20 (by decide)
        · have d17 := fun z => c17 ((l_inn (a := 0) (z := 5) (by decide) (by decide)).mpr z)
          refine z_if_ne (tgt := 26) dX12_as_20 (by decide) (fun b20 => ?_) (fun b20 => ?_)
          · exact absurd b20 (by decide)
          · refine z_bipush (v := (-3)) dX12_as_23 (by decide) ?_
            refine z_iret dX12_as_25 rfl zle ?_
            exact zAnsM.of C (by unfold aAs; rw [aIx_in hh (by omega)]; exact (if_pos (by by_cases z : w < 0; exact Or.inl z; exact Or.inr (Int32.not_le.mp (fun z2 => d17 ⟨Int32.not_lt.mp z, z2⟩)))).symm)
      · exact absurd b5 (by decide)
    · exact absurd (zInP hh (by omega)) c2
  · refine zMet.of (by decide) (Nat.le_of_ble_eq_true rfl) ?_
    refine z_aload_n dX12_as_0 rfl ?_
    refine z_iload_n dX12_as_1 rfl ?_
    refine z_iV1 (c_X12_isHour g l ok C) mw_X12_isHour lm_X12_169 mi_X12_isHour mv_X12_isHour kX12 (by decide) (Nat.le_of_ble_eq_true rfl) zle k0_127 s0_127 dX12_as_2 (fun r2 M2 q2 => ?_)
    obtain ⟨qm2, qr2⟩ := q2
    obtain rfl := qm2.symm
    obtain ⟨c2, rfl⟩ | ⟨c2, rfl⟩ := qr2
    · exact absurd c2 hx
    · refine z_if_ne (tgt := 11) dX12_as_5 (by decide) (fun b5 => ?_) (fun b5 => ?_)
      · exact absurd b5 (by decide)
      · refine z_bipush (v := (-2)) dX12_as_8 (by decide) ?_
        refine z_iret dX12_as_10 rfl zle ?_
        exact zAnsM.of C (by unfold aAs; rw [aIx_out hx])

set_option maxRecDepth 100000 in
set_option maxHeartbeats 4000000 in
theorem c_X12_given (g : zG) (l : Launch) {M : zM} {A : aSt} (ok : aOK A) (C : RelM M A) {x : Int32} : zMet g l yX12_given cX12_given 2 (some .int) 2 0 0 [.ref 127, .int x] S0 M (zQi (fun r' M' => zAnsM M A (aGiven A x) r' M')) := by
  have n8 : A.n ≤ 8 := ok.s.1.1
  have r4 : A.r ≤ 4 := ok.s.1.2.1
  have i6 : A.i ≤ 6 := ok.s.1.2.2.1
  have u8 : A.u ≤ 8 := ok.u
  rcases zInD x (show A.r < 1000 by omega) with ⟨h, hh, rfl⟩ | hx
  · refine zMet.of (by decide) (Nat.le_of_ble_eq_true rfl) ?_
    refine z_aload_n dX12_given_0 rfl ?_
    refine z_iload_n dX12_given_1 rfl ?_
    refine z_iV1 (c_X12_isRider g l ok C) mw_X12_isRider lm_X12_172 mi_X12_isRider mv_X12_isRider kX12 (by decide) (Nat.le_of_ble_eq_true rfl) zle k0_127 s0_127 dX12_given_2 (fun r2 M2 q2 => ?_)
    obtain ⟨qm2, qr2⟩ := q2
    obtain rfl := qm2.symm
    obtain ⟨c2, rfl⟩ | ⟨c2, rfl⟩ := qr2
    · refine z_if_ne (tgt := 11) dX12_given_5 (by decide) (fun b5 => ?_) (fun b5 => ?_)
      · refine z_aload_n dX12_given_11 rfl ?_
        refine z_iconst (v := 0) dX12_given_12 (by decide) ?_
        refine z_putIE (j := 28) kX12 lf_X12_185 (by decide) rfl rfl (kX12.2.2.1 28 (by decide)) rfl rfl dX12_given_13 k0_127 s0_127 (fun M13 e13 => ?_)
        have C13 : RelM M13 A := by rw [e13]; exact C.scr (by omega) u8
        have F13 : ∀ k, k < 127 → M13 k = M k := fun k a => by rw [e13, z_up_n _ _ _ (by omega)]
        refine z_aload_n dX12_given_16 rfl ?_
        refine z_iload_n dX12_given_17 rfl ?_
        refine z_iV1 (c_X12_isRiding g l ok C13 hh) mw_X12_isRiding lm_X12_237 mi_X12_isRiding mv_X12_isRiding kX12 (by decide) (Nat.le_of_ble_eq_true rfl) zle k0_127 s0_127 dX12_given_18 (fun r18 M18 q18 => ?_)
        obtain ⟨qm18, qr18⟩ := q18
        obtain rfl := qm18.symm
        obtain ⟨c18, rfl⟩ | ⟨c18, rfl⟩ := qr18
        · refine z_if_eq (tgt := 33) dX12_given_21 (by decide) (fun b21 => ?_) (fun b21 => ?_)
          · exact absurd b21 (by decide)
          · refine z_aload_n dX12_given_24 rfl ?_
            refine z_iconst (v := 0) dX12_given_25 (by decide) ?_
            refine z_iload_n dX12_given_26 rfl ?_
            refine z_iV2 (c_given0 g l ok C13 hh) mw_X12_givenIn lm_X12_192 mi_X12_givenIn mv_X12_givenIn kX12 (by decide) (Nat.le_of_ble_eq_true rfl) zle k0_127 s0_127 dX12_given_27 (fun r27 M27 q27 => ?_)
            obtain ⟨qr27, qm27⟩ := q27
            obtain rfl := qr27.symm
            obtain rfl := qm27.symm
            refine z_goto (tgt := 34) dX12_given_30 (by decide) ?_
            refine z_iret dX12_given_34 rfl zle ?_
            first
              | exact ⟨by unfold aGiven; rw [aIx_in hh (by omega), if_neg c18, e13, z_up_kj], C13, F13⟩
              | exact ⟨by unfold aGiven; rw [aIx_in hh (by omega)]; exact (if_pos (Classical.byContradiction c18)).symm, C13, F13⟩
        · refine z_if_eq (tgt := 33) dX12_given_21 (by decide) (fun b21 => ?_) (fun b21 => ?_)
          · refine z_iconst (v := (-1)) dX12_given_33 (by decide) ?_
            refine z_iret dX12_given_34 rfl zle ?_
            first
              | exact ⟨by unfold aGiven; rw [aIx_in hh (by omega), if_neg c18, e13, z_up_kj], C13, F13⟩
              | exact ⟨by unfold aGiven; rw [aIx_in hh (by omega)]; exact (if_pos (Classical.byContradiction c18)).symm, C13, F13⟩
          · exact absurd b21 (by decide)
      · exact absurd b5 (by decide)
    · exact absurd (zInP hh (by omega)) c2
  · refine zMet.of (by decide) (Nat.le_of_ble_eq_true rfl) ?_
    refine z_aload_n dX12_given_0 rfl ?_
    refine z_iload_n dX12_given_1 rfl ?_
    refine z_iV1 (c_X12_isRider g l ok C) mw_X12_isRider lm_X12_172 mi_X12_isRider mv_X12_isRider kX12 (by decide) (Nat.le_of_ble_eq_true rfl) zle k0_127 s0_127 dX12_given_2 (fun r2 M2 q2 => ?_)
    obtain ⟨qm2, qr2⟩ := q2
    obtain rfl := qm2.symm
    obtain ⟨c2, rfl⟩ | ⟨c2, rfl⟩ := qr2
    · exact absurd c2 hx
    · refine z_if_ne (tgt := 11) dX12_given_5 (by decide) (fun b5 => ?_) (fun b5 => ?_)
      · exact absurd b5 (by decide)
      · refine z_bipush (v := (-2)) dX12_given_8 (by decide) ?_
        refine z_iret dX12_given_10 rfl zle ?_
        exact zAnsM.of C (by unfold aGiven; rw [aIx_out hx])

set_option maxRecDepth 100000 in
set_option maxHeartbeats 4000000 in
theorem lp_ahead2 (g : zG) (l : Launch) {M0 : zM} {n r i m x : Nat} {w : Int32} {σ : Dy} (ok : dOK σ n r i) (hm : m ≤ 1000) (hx : x < n) : ∀ (k h : Nat), h ≤ m → m - h < k → ∀ rid led : Int32, zA g l yX12_ahead cX12_ahead 5 (some .int) 4 0 0 (zQi (fun r' M' => r' = (if w = 0 then (dIter σ n r i m) (19 + x) else if w = 1 then (dIter σ n r i m) (27 + x) else (dIter σ n r i m) (35 + x)) ∧ ∃ rid led, M' = zMd M0 840 (dIter σ n r i m) rid led)) 45 0 0 S0 (zMd M0 840 (dIter σ n r i h) rid led) [.ref 127, .int (nI x), .int (nI m), .int w, .int (nI h)] [] := by
  have n8 := ok.1.1
  have r4 := ok.1.2.1
  have i6 := ok.1.2.2.1
  intro k
  induction k with
  | zero => intro h hh hk; exact absurd hk (Nat.not_lt_zero _)
  | succ k ih =>
    intro h hh hk rid led
    have okh := dIter_ok ok h
    refine z_iload dX12_ahead_45 rfl ?_
    refine z_iload_n dX12_ahead_47 rfl ?_
    refine z_icmp_ge (tgt := 64) dX12_ahead_48 (by decide) (fun b48 => ?_) (fun b48 => ?_)
    · have e : m ≤ h := (nI_leI (by omega) (by omega)).mp b48
      have e2 : h = m := by omega
      subst e2
      refine z_aload_n dX12_ahead_64 rfl ?_
      refine z_getR (j := 0) (r := 128) kX12 lf_X12_7 (by decide) rfl dX12_ahead_65 k0_127 s0_127 r0_127_0 (by decide) ?_
      refine z_sipush (v := 840) dX12_ahead_68 (by decide) ?_
      refine z_iload_n dX12_ahead_71 rfl ?_
      refine z_if_ne (tgt := 80) dX12_ahead_72 (by decide) (fun b72 => ?_) (fun b72 => ?_)
      · refine z_iload_n dX12_ahead_80 rfl ?_
        refine z_iconst (v := 1) dX12_ahead_81 (by decide) ?_
        refine z_icmp_ne (tgt := 90) dX12_ahead_82 (by decide) (fun b82 => ?_) (fun b82 => ?_)
        · refine z_bipush (v := 35) dX12_ahead_90 (by decide) ?_
          refine z_iaddN (a := 840) (b := 35) rfl rfl dX12_ahead_92 ?_
          refine z_iload_n dX12_ahead_93 rfl ?_
          refine z_iaddN (a := (840 + 35)) (b := x) rfl rfl dX12_ahead_94 ?_
          refine z_ialdV (j := ((840 + 35) + x)) rfl (by omega) (zMd_g (b := 840) 35 x (by omega)) dX12_ahead_95 k0_128 s0_128 ?_
          refine z_iret dX12_ahead_96 rfl zle ?_
          first
            | exact ⟨(if_pos b72).symm, _, _, rfl⟩
            | exact ⟨((if_neg b72).trans (if_pos b82)).symm, _, _, rfl⟩
            | exact ⟨((if_neg b72).trans (if_neg b82)).symm, _, _, rfl⟩
        · refine z_bipush (v := 27) dX12_ahead_85 (by decide) ?_
          refine z_goto (tgt := 92) dX12_ahead_87 (by decide) ?_
          refine z_iaddN (a := 840) (b := 27) rfl rfl dX12_ahead_92 ?_
          refine z_iload_n dX12_ahead_93 rfl ?_
          refine z_iaddN (a := (840 + 27)) (b := x) rfl rfl dX12_ahead_94 ?_
          refine z_ialdV (j := ((840 + 27) + x)) rfl (by omega) (zMd_g (b := 840) 27 x (by omega)) dX12_ahead_95 k0_128 s0_128 ?_
          refine z_iret dX12_ahead_96 rfl zle ?_
          first
            | exact ⟨(if_pos b72).symm, _, _, rfl⟩
            | exact ⟨((if_neg b72).trans (if_pos b82)).symm, _, _, rfl⟩
            | exact ⟨((if_neg b72).trans (if_neg b82)).symm, _, _, rfl⟩
      · refine z_bipush (v := 19) dX12_ahead_75 (by decide) ?_
        refine z_goto (tgt := 92) dX12_ahead_77 (by decide) ?_
        refine z_iaddN (a := 840) (b := 19) rfl rfl dX12_ahead_92 ?_
        refine z_iload_n dX12_ahead_93 rfl ?_
        refine z_iaddN (a := (840 + 19)) (b := x) rfl rfl dX12_ahead_94 ?_
        refine z_ialdV (j := ((840 + 19) + x)) rfl (by omega) (zMd_g (b := 840) 19 x (by omega)) dX12_ahead_95 k0_128 s0_128 ?_
        refine z_iret dX12_ahead_96 rfl zle ?_
        first
          | exact ⟨(if_pos b72).symm, _, _, rfl⟩
          | exact ⟨((if_neg b72).trans (if_pos b82)).symm, _, _, rfl⟩
          | exact ⟨((if_neg b72).trans (if_neg b82)).symm, _, _, rfl⟩
    · have hn : h < m := by
        rcases Nat.lt_or_ge h m with z | z
        · exact z
        · exact absurd (nI_le z (by omega)) b48
      refine z_aload_n dX12_ahead_51 rfl ?_
      refine z_sipush (v := 840) dX12_ahead_52 (by decide) ?_
      refine z_vV1 (c_X12_passes (b := 840) g l (by omega) okh) mw_X12_passes lm_X12_231 mi_X12_passes mv_X12_passes kX12 (by decide) (Nat.le_of_ble_eq_true rfl) zle k0_127 s0_127 dX12_ahead_55 (fun M55 q55 => ?_)
      obtain rfl := q55.symm
      refine z_iincN (k := h) dX12_ahead_58 rfl rfl (by decide) rfl rfl ?_
      refine z_goto (tgt := 45) dX12_ahead_61 (by decide) ?_
      exact ih (h + 1) (by omega) (by omega) _ _

set_option maxRecDepth 100000 in
set_option maxHeartbeats 4000000 in
theorem c_X12_ahead (g : zG) (l : Launch) {M : zM} {A : aSt} (ok : aOK A) (C : RelM M A) {x m w : Int32} : zMet g l yX12_ahead cX12_ahead 5 (some .int) 4 0 0 [.ref 127, .int x, .int m, .int w] S0 M (zQi (fun r' M' => zAnsM M A (aAhead A x m w) r' M')) := by
  have n8 : A.n ≤ 8 := ok.s.1.1
  have r4 : A.r ≤ 4 := ok.s.1.2.1
  have i6 : A.i ≤ 6 := ok.s.1.2.2.1
  have u8 : A.u ≤ 8 := ok.u
  rcases zInD x (show A.n < 1000 by omega) with ⟨h, hh, rfl⟩ | hx
  · refine zMet.of (by decide) (Nat.le_of_ble_eq_true rfl) ?_
    refine z_aload_n dX12_ahead_0 rfl ?_
    refine z_iload_n dX12_ahead_1 rfl ?_
    refine z_iV1 (c_X12_isHour g l ok C) mw_X12_isHour lm_X12_169 mi_X12_isHour mv_X12_isHour kX12 (by decide) (Nat.le_of_ble_eq_true rfl) zle k0_127 s0_127 dX12_ahead_2 (fun r2 M2 q2 => ?_)
    obtain ⟨qm2, qr2⟩ := q2
    obtain rfl := qm2.symm
    obtain ⟨c2, rfl⟩ | ⟨c2, rfl⟩ := qr2
    · refine z_if_ne (tgt := 11) dX12_ahead_5 (by decide) (fun b5 => ?_) (fun b5 => ?_)
      · refine z_iload_n dX12_ahead_11 rfl ?_
        refine z_i2l dX12_ahead_12 ?_
        refine z_lconst (v := 0) dX12_ahead_13 (by decide) ?_
        refine z_ldc2 lc_X12_240 dX12_ahead_14 ?_
        refine z_iS3 (c_X12_in g l) mw_X12_in lm_X12_79 ms_X12_in (by decide) (Nat.le_of_ble_eq_true rfl) zle dX12_ahead_17 (fun r17 M17 q17 => ?_)
        obtain ⟨qm, qr⟩ := q17
        obtain rfl := qm.symm
        rcases qr with ⟨c17, rfl⟩ | ⟨c17, rfl⟩
        · have d17 := (l_inn (a := 0) (z := 60) (by decide) (by decide)).mp c17
          refine z_if_eq (tgt := 35) dX12_ahead_20 (by decide) (fun b20 => ?_) (fun b20 => ?_)
          · exact absurd b20 (by decide)
          · refine z_iload_n dX12_ahead_23 rfl ?_
            refine z_i2l dX12_ahead_24 ?_
            refine z_lconst (v := 0) dX12_ahead_25 (by decide) ?_
            refine z_ldc2 lc_X12_242 dX12_ahead_26 ?_
            refine z_iS3 (c_X12_in g l) mw_X12_in lm_X12_79 ms_X12_in (by decide) (Nat.le_of_ble_eq_true rfl) zle dX12_ahead_29 (fun r29 M29 q29 => ?_)
            obtain ⟨qm, qr⟩ := q29
            obtain rfl := qm.symm
            rcases qr with ⟨c29, rfl⟩ | ⟨c29, rfl⟩
            · have d29 := (l_inn (a := 0) (z := 2) (by decide) (by decide)).mp c29
              refine z_if_ne (tgt := 38) dX12_ahead_32 (by decide) (fun b32 => ?_) (fun b32 => ?_)
              · have bb : ¬ ((m < 0 ∨ 60 < m) ∨ (w < 0 ∨ 2 < w)) := fun z => z.elim (fun z => z.elim (Int32.not_lt.mpr d17.1) (Int32.not_lt.mpr d17.2)) (fun z => z.elim (Int32.not_lt.mpr d29.1) (Int32.not_lt.mpr d29.2))
                obtain ⟨u, hu1, hu2, rfl⟩ := (zIdx m (a := 0) (c := 60) (by omega) (by omega)).resolve_right (fun z => bb (Or.inl z))
                refine z_aload_n dX12_ahead_38 rfl ?_
                refine z_vV0 (c_lay g l C) mw_X12_layTried lm_X12_244 mi_X12_layTried mv_X12_layTried kX12 (by decide) (Nat.le_of_ble_eq_true rfl) zle k0_127 s0_127 dX12_ahead_39 (fun M39 q39 => ?_)
                obtain rfl := q39.symm
                refine z_iconst (v := 0) dX12_ahead_42 (by decide) ?_
                refine z_istore dX12_ahead_43 (by decide) rfl rfl ?_
                refine (lp_ahead2 g l ok.s (by omega) hh (u + 1) 0 (Nat.zero_le _) (by omega) _ _).weak (fun v S2 M2 q => ?_)
                obtain ⟨qa, rr, qb, qc, rid, led, qd⟩ := q
                have C1 := C.tried (σ := dIter A.s A.n A.r A.i u) (rid := rid) (led := led) u8
                rw [← qd] at C1
                exact ⟨qa, rr, qb, by rw [qc]; unfold aAhead; rw [aIx_in hh (by omega), if_neg bb, nI_clamp (by omega)], C1.1, C1.2⟩
              · exact absurd b32 (by decide)
            · have d29 := fun z => c29 ((l_inn (a := 0) (z := 2) (by decide) (by decide)).mpr z)
              refine z_if_ne (tgt := 38) dX12_ahead_32 (by decide) (fun b32 => ?_) (fun b32 => ?_)
              · exact absurd b32 (by decide)
              · refine z_bipush (v := (-3)) dX12_ahead_35 (by decide) ?_
                refine z_iret dX12_ahead_37 rfl zle ?_
                first
                  | exact zAnsM.of C (by unfold aAhead; rw [aIx_in hh (by omega)]; exact (if_pos (Or.inr (by by_cases z : w < 0; exact Or.inl z; exact Or.inr (Int32.not_le.mp (fun z2 => d29 ⟨Int32.not_lt.mp z, z2⟩))))).symm)
                  | exact zAnsM.of C (by unfold aAhead; rw [aIx_in hh (by omega)]; exact (if_pos (Or.inl (by by_cases z : m < 0; exact Or.inl z; exact Or.inr (Int32.not_le.mp (fun z2 => d17 ⟨Int32.not_lt.mp z, z2⟩))))).symm)
        · have d17 := fun z => c17 ((l_inn (a := 0) (z := 60) (by decide) (by decide)).mpr z)
          refine z_if_eq (tgt := 35) dX12_ahead_20 (by decide) (fun b20 => ?_) (fun b20 => ?_)
          · refine z_bipush (v := (-3)) dX12_ahead_35 (by decide) ?_
            refine z_iret dX12_ahead_37 rfl zle ?_
            first
              | exact zAnsM.of C (by unfold aAhead; rw [aIx_in hh (by omega)]; exact (if_pos (Or.inr (by by_cases z : w < 0; exact Or.inl z; exact Or.inr (Int32.not_le.mp (fun z2 => d29 ⟨Int32.not_lt.mp z, z2⟩))))).symm)
              | exact zAnsM.of C (by unfold aAhead; rw [aIx_in hh (by omega)]; exact (if_pos (Or.inl (by by_cases z : m < 0; exact Or.inl z; exact Or.inr (Int32.not_le.mp (fun z2 => d17 ⟨Int32.not_lt.mp z, z2⟩))))).symm)
          · exact absurd b20 (by decide)
      · exact absurd b5 (by decide)
    · exact absurd (zInP hh (by omega)) c2
  · refine zMet.of (by decide) (Nat.le_of_ble_eq_true rfl) ?_
    refine z_aload_n dX12_ahead_0 rfl ?_
    refine z_iload_n dX12_ahead_1 rfl ?_
    refine z_iV1 (c_X12_isHour g l ok C) mw_X12_isHour lm_X12_169 mi_X12_isHour mv_X12_isHour kX12 (by decide) (Nat.le_of_ble_eq_true rfl) zle k0_127 s0_127 dX12_ahead_2 (fun r2 M2 q2 => ?_)
    obtain ⟨qm2, qr2⟩ := q2
    obtain rfl := qm2.symm
    obtain ⟨c2, rfl⟩ | ⟨c2, rfl⟩ := qr2
    · exact absurd c2 hx
    · refine z_if_ne (tgt := 11) dX12_ahead_5 (by decide) (fun b5 => ?_) (fun b5 => ?_)
      · exact absurd b5 (by decide)
      · refine z_bipush (v := (-2)) dX12_ahead_8 (by decide) ?_
        refine z_iret dX12_ahead_10 rfl zle ?_
        exact zAnsM.of C (by unfold aAhead; rw [aIx_out hx])

set_option maxRecDepth 100000 in
set_option maxHeartbeats 4000000 in
theorem lp_comesBy (g : zG) (l : Launch) {M0 : zM} {n r i q most : Nat} {σ : Dy} (ok : dOK σ n r i) (hq : q < r) (hm : most ≤ 900) : ∀ (k h : Nat), h ≤ (most + 1) → (most + 1) - h < k → ∀ rid led : Int32, dCome σ n r i q most = dComeF σ n r i q h (most + 1 - h) → zA g l yX12_comesBy cX12_comesBy 4 (some .int) 4 0 0 (zQi (fun r' M' => r' = dCome σ n r i q most ∧ ∃ k rid led, k ≤ most + 1 ∧ M' = zMd M0 840 (dIter σ n r i k) rid led ∧ (r' = nI k ∨ r' = -1))) 2 0 0 S0 (zMd M0 840 (dIter σ n r i h) rid led) [.ref 127, .int (nI q), .int (nI most), .int (nI h)] [] := by
  have n8 := ok.1.1
  have r4 := ok.1.2.1
  have i6 := ok.1.2.2.1
  intro k
  induction k with
  | zero => intro h hh hk; exact absurd hk (Nat.not_lt_zero _)
  | succ k ih =>
    intro h hh hk rid led w
    have okh := dIter_ok ok h
    refine z_iload_n dX12_comesBy_2 rfl ?_
    refine z_iload_n dX12_comesBy_3 rfl ?_
    refine z_icmp_gt (tgt := 45) dX12_comesBy_4 (by decide) (fun b4 => ?_) (fun b4 => ?_)
    · have e2 : h = most + 1 := by have := (nI_ltI (a := most) (b := h) (by omega) (by omega)).mp b4; omega
      subst e2
      refine z_iconst (v := (-1)) dX12_comesBy_45 (by decide) ?_
      refine z_iret dX12_comesBy_46 rfl zle ?_
      exact ⟨by rw [w, Nat.sub_self]; rfl, most + 1, rid, led, by omega, rfl, Or.inr rfl⟩
    · have hn : h ≤ most := by
        rcases Nat.lt_or_ge most h with z | z
        · exact absurd ((nI_ltI (a := most) (b := h) (by omega) (by omega)).mpr z) b4
        · exact z
      refine z_aload_n dX12_comesBy_7 rfl ?_
      refine z_getR (j := 0) (r := 128) kX12 lf_X12_7 (by decide) rfl dX12_comesBy_8 k0_127 s0_127 r0_127_0 (by decide) ?_
      refine z_sipush (v := 891) dX12_comesBy_11 (by decide) ?_
      refine z_iload_n dX12_comesBy_14 rfl ?_
      refine z_iaddN (a := 891) (b := q) rfl rfl dX12_comesBy_15 ?_
      refine z_ialdV (j := (891 + q)) rfl (by omega) (zMd_g (b := 840) 51 q (by omega)) dX12_comesBy_16 k0_128 s0_128 ?_
      refine z_aload_n dX12_comesBy_17 rfl ?_
      refine z_getR (j := 0) (r := 128) kX12 lf_X12_7 (by decide) rfl dX12_comesBy_18 k0_127 s0_127 r0_127_0 (by decide) ?_
      refine z_sipush (v := 895) dX12_comesBy_21 (by decide) ?_
      refine z_iload_n dX12_comesBy_24 rfl ?_
      refine z_iaddN (a := 895) (b := q) rfl rfl dX12_comesBy_25 ?_
      refine z_ialdV (j := (895 + q)) rfl (by omega) (zMd_g (b := 840) 55 q (by omega)) dX12_comesBy_26 k0_128 s0_128 ?_
      refine z_icmp_ne (tgt := 32) dX12_comesBy_27 (by decide) (fun b27 => ?_) (fun b27 => ?_)
      · refine z_aload_n dX12_comesBy_32 rfl ?_
        refine z_sipush (v := 840) dX12_comesBy_33 (by decide) ?_
        refine z_vV1 (c_X12_passes (b := 840) g l (by omega) okh) mw_X12_passes lm_X12_231 mi_X12_passes mv_X12_passes kX12 (by decide) (Nat.le_of_ble_eq_true rfl) zle k0_127 s0_127 dX12_comesBy_36 (fun M36 q36 => ?_)
        obtain rfl := q36.symm
        refine z_iincN (k := h) dX12_comesBy_39 rfl rfl (by decide) rfl rfl ?_
        refine z_goto (tgt := 2) dX12_comesBy_42 (by decide) ?_
        exact ih (h + 1) (by omega) (by omega) _ _ (by rw [w, show most + 1 - h = (most - h) + 1 by omega, dComeF_s, if_neg b27, show most + 1 - (h + 1) = most - h by omega])
      · refine z_iload_n dX12_comesBy_30 rfl ?_
        refine z_iret dX12_comesBy_31 rfl zle ?_
        exact ⟨by rw [w, show most + 1 - h = (most - h) + 1 by omega, dComeF_s, if_pos b27], h, rid, led, by omega, rfl, Or.inl rfl⟩

set_option maxRecDepth 100000 in
set_option maxHeartbeats 4000000 in
theorem c_X12_comesBy (g : zG) (l : Launch) {M0 : zM} {n r i q most : Nat} {σ : Dy} {rid led : Int32} (ok : dOK σ n r i) (hq : q < r) (hm : most ≤ 900) : zMet g l yX12_comesBy cX12_comesBy 4 (some .int) 4 0 0 [.ref 127, .int (nI q), .int (nI most)] S0 (zMd M0 840 σ rid led) (zQi (fun r' M' => r' = dCome σ n r i q most ∧ ∃ k rid led, k ≤ most + 1 ∧ M' = zMd M0 840 (dIter σ n r i k) rid led ∧ (r' = nI k ∨ r' = -1))) := by
  refine zMet.of (by decide) (Nat.le_of_ble_eq_true rfl) ?_
  refine z_iconst (v := 0) dX12_comesBy_0 (by decide) ?_
  refine z_istore_n dX12_comesBy_1 (by decide) rfl rfl ?_
  exact lp_comesBy g l ok hq hm (most + 2) 0 (Nat.zero_le _) (by omega) _ _ rfl

set_option maxRecDepth 100000 in
set_option maxHeartbeats 4000000 in
theorem c_X12_comes (g : zG) (l : Launch) {M : zM} {A : aSt} (ok : aOK A) (C : RelM M A) {x w : Int32} : zMet g l yX12_comes cX12_comes 4 (some .int) 5 0 0 [.ref 127, .int x, .int w] S0 M (zQi (fun r' M' => zAnsM M A (aComes A x w) r' M')) := by
  have n8 : A.n ≤ 8 := ok.s.1.1
  have r4 : A.r ≤ 4 := ok.s.1.2.1
  have i6 : A.i ≤ 6 := ok.s.1.2.2.1
  have u8 : A.u ≤ 8 := ok.u
  rcases zInD x (show A.r < 1000 by omega) with ⟨h, hh, rfl⟩ | hx
  · refine zMet.of (by decide) (Nat.le_of_ble_eq_true rfl) ?_
    refine z_aload_n dX12_comes_0 rfl ?_
    refine z_iload_n dX12_comes_1 rfl ?_
    refine z_iV1 (c_X12_isRider g l ok C) mw_X12_isRider lm_X12_172 mi_X12_isRider mv_X12_isRider kX12 (by decide) (Nat.le_of_ble_eq_true rfl) zle k0_127 s0_127 dX12_comes_2 (fun r2 M2 q2 => ?_)
    obtain ⟨qm2, qr2⟩ := q2
    obtain rfl := qm2.symm
    obtain ⟨c2, rfl⟩ | ⟨c2, rfl⟩ := qr2
    · refine z_if_ne (tgt := 11) dX12_comes_5 (by decide) (fun b5 => ?_) (fun b5 => ?_)
      · refine z_iload_n dX12_comes_11 rfl ?_
        refine z_i2l dX12_comes_12 ?_
        refine z_lconst (v := 0) dX12_comes_13 (by decide) ?_
        refine z_lconst (v := 1) dX12_comes_14 (by decide) ?_
        refine z_iS3 (c_X12_in g l) mw_X12_in lm_X12_79 ms_X12_in (by decide) (Nat.le_of_ble_eq_true rfl) zle dX12_comes_15 (fun r15 M15 q15 => ?_)
        obtain ⟨qm, qr⟩ := q15
        obtain rfl := qm.symm
        rcases qr with ⟨c15, rfl⟩ | ⟨c15, rfl⟩
        · have d15 := (l_inn (a := 0) (z := 1) (by decide) (by decide)).mp c15
          refine z_if_ne (tgt := 24) dX12_comes_18 (by decide) (fun b18 => ?_) (fun b18 => ?_)
          · have bb : ¬ (w < 0 ∨ 1 < w) := fun z => z.elim (Int32.not_lt.mpr d15.1) (Int32.not_lt.mpr d15.2)
            refine z_aload_n dX12_comes_24 rfl ?_
            refine z_vV0 (c_lay g l C) mw_X12_layTried lm_X12_244 mi_X12_layTried mv_X12_layTried kX12 (by decide) (Nat.le_of_ble_eq_true rfl) zle k0_127 s0_127 dX12_comes_25 (fun M25 q25 => ?_)
            obtain rfl := q25.symm
            refine z_aload_n dX12_comes_28 rfl ?_
            refine z_iload_n dX12_comes_29 rfl ?_
            refine z_bipush (v := 60) dX12_comes_30 (by decide) ?_
            refine z_iV2 (c_X12_comesBy (most := 60) g l ok.s hh (by omega)) mw_X12_comesBy lm_X12_247 mi_X12_comesBy mv_X12_comesBy kX12 (by decide) (Nat.le_of_ble_eq_true rfl) zle k0_127 s0_127 dX12_comes_32 (fun r32 M32 q32 => ?_)
            obtain ⟨qc, k, rid, led, hk, qk, qr⟩ := q32
            obtain rfl := qk.symm
            have C1 := C.tried (σ := dIter A.s A.n A.r A.i k) (rid := rid) (led := led) u8
            refine z_istore_n dX12_comes_35 (by decide) rfl rfl ?_
            refine z_iload_n dX12_comes_36 rfl ?_
            refine z_if_eq (tgt := 45) dX12_comes_37 (by decide) (fun b37 => ?_) (fun b37 => ?_)
            · refine z_iload_n dX12_comes_45 rfl ?_
              refine z_goto (tgt := 59) dX12_comes_46 (by decide) ?_
              refine z_iret dX12_comes_59 rfl zle ?_
              first
                | exact ⟨by rw [qc]; unfold aComes; rw [aIx_in hh (by omega), if_neg bb]; exact (if_pos (by first | exact Or.inr b37 | exact Or.inl (qc.symm.trans b42))).symm, C1.1, C1.2⟩
                | (have kk := qr.resolve_right b42
                   have k2 : (dCome A.s A.n A.r A.i h 60).toNatClampNeg = k := by rw [← qc, kk]; exact nI_clamp (by omega)
                   exact ⟨by unfold aComes; rw [aIx_in hh (by omega), if_neg bb, if_neg (fun z2 => z2.elim (fun z3 => b42 (qc.trans z3)) b37), k2], C1.1, C1.2⟩)
            · refine z_iload_n dX12_comes_40 rfl ?_
              refine z_iconst (v := (-1)) dX12_comes_41 (by decide) ?_
              refine z_icmp_ne (tgt := 49) dX12_comes_42 (by decide) (fun b42 => ?_) (fun b42 => ?_)
              · refine z_aload_n dX12_comes_49 rfl ?_
                refine z_getR (j := 0) (r := 128) kX12 lf_X12_7 (by decide) rfl dX12_comes_50 k0_127 s0_127 r0_127_0 (by decide) ?_
                refine z_sipush (v := 899) dX12_comes_53 (by decide) ?_
                refine z_iload_n dX12_comes_56 rfl ?_
                refine z_iaddN (a := 899) (b := h) rfl rfl dX12_comes_57 ?_
                refine z_ialdV (j := (899 + h)) rfl (by omega) (zMd_g (b := 840) 59 h (by omega)) dX12_comes_58 k0_128 s0_128 ?_
                refine z_iret dX12_comes_59 rfl zle ?_
                first
                  | exact ⟨by rw [qc]; unfold aComes; rw [aIx_in hh (by omega), if_neg bb]; exact (if_pos (by first | exact Or.inr b37 | exact Or.inl (qc.symm.trans b42))).symm, C1.1, C1.2⟩
                  | (have kk := qr.resolve_right b42
                     have k2 : (dCome A.s A.n A.r A.i h 60).toNatClampNeg = k := by rw [← qc, kk]; exact nI_clamp (by omega)
                     exact ⟨by unfold aComes; rw [aIx_in hh (by omega), if_neg bb, if_neg (fun z2 => z2.elim (fun z3 => b42 (qc.trans z3)) b37), k2], C1.1, C1.2⟩)
              · refine z_iload_n dX12_comes_45 rfl ?_
                refine z_goto (tgt := 59) dX12_comes_46 (by decide) ?_
                refine z_iret dX12_comes_59 rfl zle ?_
                first
                  | exact ⟨by rw [qc]; unfold aComes; rw [aIx_in hh (by omega), if_neg bb]; exact (if_pos (by first | exact Or.inr b37 | exact Or.inl (qc.symm.trans b42))).symm, C1.1, C1.2⟩
                  | (have kk := qr.resolve_right b42
                     have k2 : (dCome A.s A.n A.r A.i h 60).toNatClampNeg = k := by rw [← qc, kk]; exact nI_clamp (by omega)
                     exact ⟨by unfold aComes; rw [aIx_in hh (by omega), if_neg bb, if_neg (fun z2 => z2.elim (fun z3 => b42 (qc.trans z3)) b37), k2], C1.1, C1.2⟩)
          · exact absurd b18 (by decide)
        · have d15 := fun z => c15 ((l_inn (a := 0) (z := 1) (by decide) (by decide)).mpr z)
          refine z_if_ne (tgt := 24) dX12_comes_18 (by decide) (fun b18 => ?_) (fun b18 => ?_)
          · exact absurd b18 (by decide)
          · refine z_bipush (v := (-3)) dX12_comes_21 (by decide) ?_
            refine z_iret dX12_comes_23 rfl zle ?_
            exact zAnsM.of C (by unfold aComes; rw [aIx_in hh (by omega)]; exact (if_pos (by by_cases z : w < 0; exact Or.inl z; exact Or.inr (Int32.not_le.mp (fun z2 => d15 ⟨Int32.not_lt.mp z, z2⟩)))).symm)
      · exact absurd b5 (by decide)
    · exact absurd (zInP hh (by omega)) c2
  · refine zMet.of (by decide) (Nat.le_of_ble_eq_true rfl) ?_
    refine z_aload_n dX12_comes_0 rfl ?_
    refine z_iload_n dX12_comes_1 rfl ?_
    refine z_iV1 (c_X12_isRider g l ok C) mw_X12_isRider lm_X12_172 mi_X12_isRider mv_X12_isRider kX12 (by decide) (Nat.le_of_ble_eq_true rfl) zle k0_127 s0_127 dX12_comes_2 (fun r2 M2 q2 => ?_)
    obtain ⟨qm2, qr2⟩ := q2
    obtain rfl := qm2.symm
    obtain ⟨c2, rfl⟩ | ⟨c2, rfl⟩ := qr2
    · exact absurd c2 hx
    · refine z_if_ne (tgt := 11) dX12_comes_5 (by decide) (fun b5 => ?_) (fun b5 => ?_)
      · exact absurd b5 (by decide)
      · refine z_bipush (v := (-2)) dX12_comes_8 (by decide) ?_
        refine z_iret dX12_comes_10 rfl zle ?_
        exact zAnsM.of C (by unfold aComes; rw [aIx_out hx])

set_option maxRecDepth 100000 in
set_option maxHeartbeats 4000000 in
theorem lp_fastestAt (g : zG) (l : Launch) {M : zM} {A : aSt} (ok : aOK A) (C : RelM M A) {inn m : Int32} : ∀ (k h : Nat), h ≤ A.n → A.n - h < k → zA g l yX12_fastestAt cX12_fastestAt 7 (some .int) 1 0 0 (zQi (fun r' M' => r' = dFA A.s inn m A.n ∧ M' = M)) 6 0 0 S0 M [.ref 127, .int inn, .int m, .int (dFA A.s inn m h), .int (nI h), .null, .null] [] := by
  have n8 : A.n ≤ 8 := ok.s.1.1
  have r4 : A.r ≤ 4 := ok.s.1.2.1
  have i6 : A.i ≤ 6 := ok.s.1.2.2.1
  have u8 : A.u ≤ 8 := ok.u
  intro k
  induction k with
  | zero => intro h hh hk; exact absurd hk (Nat.not_lt_zero _)
  | succ k ih =>
    intro h hh hk 
    refine z_iload dX12_fastestAt_6 rfl ?_
    refine z_aload_n dX12_fastestAt_8 rfl ?_
    refine z_getR (j := 0) (r := 128) kX12 lf_X12_7 (by decide) rfl dX12_fastestAt_9 k0_127 s0_127 r0_127_0 (by decide) ?_
    refine z_iconst (v := 0) dX12_fastestAt_12 (by decide) ?_
    refine z_ialdV (j := 0) rfl (by decide) ((C.s 0 (by omega)).trans ok.s.1.2.2.2.1) dX12_fastestAt_13 k0_128 s0_128 ?_
    refine z_icmp_ge (tgt := 116) dX12_fastestAt_14 (by decide) (fun b14 => ?_) (fun b14 => ?_)
    · have e : A.n ≤ h := (nI_leI (by omega) (by omega)).mp b14
      have e2 : h = A.n := by omega
      subst e2
      refine z_iload_n dX12_fastestAt_116 rfl ?_
      exact z_iret dX12_fastestAt_117 rfl zle (⟨rfl, rfl⟩)
    · have hn : h < A.n := by
        rcases Nat.lt_or_ge h A.n with z | z
        · exact z
        · exact absurd (nI_le z (by omega)) b14
      refine z_aload_n dX12_fastestAt_17 rfl ?_
      refine z_getR (j := 0) (r := 128) kX12 lf_X12_7 (by decide) rfl dX12_fastestAt_18 k0_127 s0_127 r0_127_0 (by decide) ?_
      refine z_iconst (v := 3) dX12_fastestAt_21 (by decide) ?_
      refine z_iload dX12_fastestAt_22 rfl ?_
      refine z_iaddN (a := 3) (b := h) rfl rfl dX12_fastestAt_24 ?_
      refine z_ialdV (j := (3 + h)) rfl (by omega) (C.s (3 + h) (by omega)) dX12_fastestAt_25 k0_128 s0_128 ?_
      refine z_istore dX12_fastestAt_26 (by decide) rfl rfl ?_
      refine z_aload_n dX12_fastestAt_28 rfl ?_
      refine z_getR (j := 0) (r := 128) kX12 lf_X12_7 (by decide) rfl dX12_fastestAt_29 k0_127 s0_127 r0_127_0 (by decide) ?_
      refine z_bipush (v := 19) dX12_fastestAt_32 (by decide) ?_
      refine z_iload dX12_fastestAt_34 rfl ?_
      refine z_iaddN (a := 19) (b := h) rfl rfl dX12_fastestAt_36 ?_
      refine z_ialdV (j := (19 + h)) rfl (by omega) (C.s (19 + h) (by omega)) dX12_fastestAt_37 k0_128 s0_128 ?_
      refine z_iload_n dX12_fastestAt_38 rfl ?_
      refine z_icmp_ne (tgt := 81) dX12_fastestAt_39 (by decide) (fun b39 => ?_) (fun b39 => ?_)
      · refine z_iconst (v := 0) dX12_fastestAt_81 (by decide) ?_
        refine z_istore dX12_fastestAt_82 (by decide) rfl rfl ?_
        refine z_iload dX12_fastestAt_84 rfl ?_
        refine z_if_eq (tgt := 108) dX12_fastestAt_86 (by decide) (fun b86 => ?_) (fun b86 => ?_)
        · refine z_iload_n dX12_fastestAt_108 rfl ?_
          refine z_istore_n dX12_fastestAt_109 (by decide) rfl rfl ?_
          refine z_iincN (k := h) dX12_fastestAt_110 rfl rfl (by decide) rfl rfl ?_
          refine z_goto (tgt := 6) dX12_fastestAt_113 (by decide) ?_
          refine zA.sub (ih (h + 1) (by omega) (by omega)) rfl ⟨Or.inr rfl, Or.inr rfl, Or.inr rfl, Or.inr (congrArg (fun z => some (Value.int z)) ?_), Or.inr rfl, Or.inl rfl, Or.inl rfl, trivial⟩
          first
            | exact (if_pos ⟨⟨b39, b52, Int32.not_le.mp b74⟩, Int32.not_le.mp b96⟩).symm
            | exact (if_neg (fun z => b39 z.1.1)).symm
            | exact (if_neg (fun z => b52 z.1.2.1)).symm
            | exact (if_neg (fun z => absurd z.1.2.2 (Int32.not_lt.mpr b74))).symm
            | exact (if_neg (fun z => absurd z.2 (Int32.not_lt.mpr b96))).symm
        · exact absurd b86 (by decide)
      · refine z_aload_n dX12_fastestAt_42 rfl ?_
        refine z_getR (j := 0) (r := 128) kX12 lf_X12_7 (by decide) rfl dX12_fastestAt_43 k0_127 s0_127 r0_127_0 (by decide) ?_
        refine z_bipush (v := 35) dX12_fastestAt_46 (by decide) ?_
        refine z_iload dX12_fastestAt_48 rfl ?_
        refine z_iaddN (a := 35) (b := h) rfl rfl dX12_fastestAt_50 ?_
        refine z_ialdV (j := (35 + h)) rfl (by omega) (C.s (35 + h) (by omega)) dX12_fastestAt_51 k0_128 s0_128 ?_
        refine z_if_ne (tgt := 81) dX12_fastestAt_52 (by decide) (fun b52 => ?_) (fun b52 => ?_)
        · refine z_iconst (v := 0) dX12_fastestAt_81 (by decide) ?_
          refine z_istore dX12_fastestAt_82 (by decide) rfl rfl ?_
          refine z_iload dX12_fastestAt_84 rfl ?_
          refine z_if_eq (tgt := 108) dX12_fastestAt_86 (by decide) (fun b86 => ?_) (fun b86 => ?_)
          · refine z_iload_n dX12_fastestAt_108 rfl ?_
            refine z_istore_n dX12_fastestAt_109 (by decide) rfl rfl ?_
            refine z_iincN (k := h) dX12_fastestAt_110 rfl rfl (by decide) rfl rfl ?_
            refine z_goto (tgt := 6) dX12_fastestAt_113 (by decide) ?_
            refine zA.sub (ih (h + 1) (by omega) (by omega)) rfl ⟨Or.inr rfl, Or.inr rfl, Or.inr rfl, Or.inr (congrArg (fun z => some (Value.int z)) ?_), Or.inr rfl, Or.inl rfl, Or.inl rfl, trivial⟩
            first
              | exact (if_pos ⟨⟨b39, b52, Int32.not_le.mp b74⟩, Int32.not_le.mp b96⟩).symm
              | exact (if_neg (fun z => b39 z.1.1)).symm
              | exact (if_neg (fun z => b52 z.1.2.1)).symm
              | exact (if_neg (fun z => absurd z.1.2.2 (Int32.not_lt.mpr b74))).symm
              | exact (if_neg (fun z => absurd z.2 (Int32.not_lt.mpr b96))).symm
          · exact absurd b86 (by decide)
        · refine z_aload_n dX12_fastestAt_55 rfl ?_
          refine z_getR (j := 0) (r := 128) kX12 lf_X12_7 (by decide) rfl dX12_fastestAt_56 k0_127 s0_127 r0_127_0 (by decide) ?_
          refine z_bipush (v := 27) dX12_fastestAt_59 (by decide) ?_
          refine z_iload dX12_fastestAt_61 rfl ?_
          refine z_iaddN (a := 27) (b := h) rfl rfl dX12_fastestAt_63 ?_
          refine z_ialdV (j := (27 + h)) rfl (by omega) (C.s (27 + h) (by omega)) dX12_fastestAt_64 k0_128 s0_128 ?_
          refine z_iload dX12_fastestAt_65 rfl ?_
          refine z_iload_n dX12_fastestAt_67 rfl ?_
          refine z_iS2 (c_X12_tires g l) mw_X12_tires lm_X12_206 ms_X12_tires (by decide) (Nat.le_of_ble_eq_true rfl) zle dX12_fastestAt_68 (fun r68 M68 q68 => ?_)
          obtain ⟨qr68, qm68⟩ := q68
          obtain rfl := qr68.symm
          obtain rfl := qm68.symm
          refine z_iadd dX12_fastestAt_71 ?_
          refine z_bipush (v := 10) dX12_fastestAt_72 (by decide) ?_
          refine z_icmp_ge (tgt := 81) dX12_fastestAt_74 (by decide) (fun b74 => ?_) (fun b74 => ?_)
          · refine z_iconst (v := 0) dX12_fastestAt_81 (by decide) ?_
            refine z_istore dX12_fastestAt_82 (by decide) rfl rfl ?_
            refine z_iload dX12_fastestAt_84 rfl ?_
            refine z_if_eq (tgt := 108) dX12_fastestAt_86 (by decide) (fun b86 => ?_) (fun b86 => ?_)
            · refine z_iload_n dX12_fastestAt_108 rfl ?_
              refine z_istore_n dX12_fastestAt_109 (by decide) rfl rfl ?_
              refine z_iincN (k := h) dX12_fastestAt_110 rfl rfl (by decide) rfl rfl ?_
              refine z_goto (tgt := 6) dX12_fastestAt_113 (by decide) ?_
              refine zA.sub (ih (h + 1) (by omega) (by omega)) rfl ⟨Or.inr rfl, Or.inr rfl, Or.inr rfl, Or.inr (congrArg (fun z => some (Value.int z)) ?_), Or.inr rfl, Or.inl rfl, Or.inl rfl, trivial⟩
              first
                | exact (if_pos ⟨⟨b39, b52, Int32.not_le.mp b74⟩, Int32.not_le.mp b96⟩).symm
                | exact (if_neg (fun z => b39 z.1.1)).symm
                | exact (if_neg (fun z => b52 z.1.2.1)).symm
                | exact (if_neg (fun z => absurd z.1.2.2 (Int32.not_lt.mpr b74))).symm
                | exact (if_neg (fun z => absurd z.2 (Int32.not_lt.mpr b96))).symm
            · exact absurd b86 (by decide)
          · refine z_iconst (v := 1) dX12_fastestAt_77 (by decide) ?_
            refine z_goto (tgt := 82) dX12_fastestAt_78 (by decide) ?_
            refine z_istore dX12_fastestAt_82 (by decide) rfl rfl ?_
            refine z_iload dX12_fastestAt_84 rfl ?_
            refine z_if_eq (tgt := 108) dX12_fastestAt_86 (by decide) (fun b86 => ?_) (fun b86 => ?_)
            · exact absurd b86 (by decide)
            · refine z_iload dX12_fastestAt_89 rfl ?_
              refine z_iload_n dX12_fastestAt_91 rfl ?_
              refine z_iS2 (c_X12_takes g l) mw_X12_takes lm_X12_180 ms_X12_takes (by decide) (Nat.le_of_ble_eq_true rfl) zle dX12_fastestAt_92 (fun r92 M92 q92 => ?_)
              obtain ⟨qr92, qm92⟩ := q92
              obtain rfl := qr92.symm
              obtain rfl := qm92.symm
              refine z_iload_n dX12_fastestAt_95 rfl ?_
              refine z_icmp_ge (tgt := 108) dX12_fastestAt_96 (by decide) (fun b96 => ?_) (fun b96 => ?_)
              · refine z_iload_n dX12_fastestAt_108 rfl ?_
                refine z_istore_n dX12_fastestAt_109 (by decide) rfl rfl ?_
                refine z_iincN (k := h) dX12_fastestAt_110 rfl rfl (by decide) rfl rfl ?_
                refine z_goto (tgt := 6) dX12_fastestAt_113 (by decide) ?_
                refine zA.sub (ih (h + 1) (by omega) (by omega)) rfl ⟨Or.inr rfl, Or.inr rfl, Or.inr rfl, Or.inr (congrArg (fun z => some (Value.int z)) ?_), Or.inr rfl, Or.inl rfl, Or.inl rfl, trivial⟩
                first
                  | exact (if_pos ⟨⟨b39, b52, Int32.not_le.mp b74⟩, Int32.not_le.mp b96⟩).symm
                  | exact (if_neg (fun z => b39 z.1.1)).symm
                  | exact (if_neg (fun z => b52 z.1.2.1)).symm
                  | exact (if_neg (fun z => absurd z.1.2.2 (Int32.not_lt.mpr b74))).symm
                  | exact (if_neg (fun z => absurd z.2 (Int32.not_lt.mpr b96))).symm
              · refine z_iload dX12_fastestAt_99 rfl ?_
                refine z_iload_n dX12_fastestAt_101 rfl ?_
                refine z_iS2 (c_X12_takes g l) mw_X12_takes lm_X12_180 ms_X12_takes (by decide) (Nat.le_of_ble_eq_true rfl) zle dX12_fastestAt_102 (fun r102 M102 q102 => ?_)
                obtain ⟨qr102, qm102⟩ := q102
                obtain rfl := qr102.symm
                obtain rfl := qm102.symm
                refine z_goto (tgt := 109) dX12_fastestAt_105 (by decide) ?_
                refine z_istore_n dX12_fastestAt_109 (by decide) rfl rfl ?_
                refine z_iincN (k := h) dX12_fastestAt_110 rfl rfl (by decide) rfl rfl ?_
                refine z_goto (tgt := 6) dX12_fastestAt_113 (by decide) ?_
                refine zA.sub (ih (h + 1) (by omega) (by omega)) rfl ⟨Or.inr rfl, Or.inr rfl, Or.inr rfl, Or.inr (congrArg (fun z => some (Value.int z)) ?_), Or.inr rfl, Or.inl rfl, Or.inl rfl, trivial⟩
                first
                  | exact (if_pos ⟨⟨b39, b52, Int32.not_le.mp b74⟩, Int32.not_le.mp b96⟩).symm
                  | exact (if_neg (fun z => b39 z.1.1)).symm
                  | exact (if_neg (fun z => b52 z.1.2.1)).symm
                  | exact (if_neg (fun z => absurd z.1.2.2 (Int32.not_lt.mpr b74))).symm
                  | exact (if_neg (fun z => absurd z.2 (Int32.not_lt.mpr b96))).symm

set_option maxRecDepth 100000 in
set_option maxHeartbeats 4000000 in
theorem c_X12_fastestAt (g : zG) (l : Launch) {M : zM} {A : aSt} (ok : aOK A) (C : RelM M A) {inn m : Int32} : zMet g l yX12_fastestAt cX12_fastestAt 7 (some .int) 1 0 0 [.ref 127, .int inn, .int m] S0 M (zQi (fun r' M' => r' = dFA A.s inn m A.n ∧ M' = M)) := by
  refine zMet.of (by decide) (Nat.le_of_ble_eq_true rfl) ?_
  refine z_ldc lc_X12_184 dX12_fastestAt_0 ?_
  refine z_istore_n dX12_fastestAt_2 (by decide) rfl rfl ?_
  refine z_iconst (v := 0) dX12_fastestAt_3 (by decide) ?_
  refine z_istore dX12_fastestAt_4 (by decide) rfl rfl ?_
  exact lp_fastestAt g l ok C (A.n + 1) 0 (Nat.zero_le _) (by omega)

set_option maxRecDepth 100000 in
set_option maxHeartbeats 4000000 in
theorem lp_fastest2 (g : zG) (l : Launch) {M : zM} {A : aSt} (ok : aOK A) (C : RelM M A) {q t : Nat} (hq : q < A.r) (ht : t < A.i) (et : A.s (55 + q) = nI t) : ∀ (k a : Nat) (s : Int32), a < A.i → (a ≤ t → t - a < k) → (t ≤ a → a - t < k) → dFS A.s A.n (A.s (55 + q)) 6 (A.s (51 + q)) 0 = dFS A.s A.n (nI t) k (nI a) s → zA g l yX12_fastest cX12_fastest 4 (some .int) 2 0 0 (zQi (fun r' M' => r' = dFast A.s A.n q ∧ M' = M)) 23 0 0 S0 M [.ref 127, .int (nI q), .int s, .int (nI a)] [] := by
  have n8 : A.n ≤ 8 := ok.s.1.1
  have r4 : A.r ≤ 4 := ok.s.1.2.1
  have i6 : A.i ≤ 6 := ok.s.1.2.2.1
  have u8 : A.u ≤ 8 := ok.u
  intro k
  induction k with
  | zero => intro a s ha h1 h2; exact absurd h1 (by omega)
  | succ k ih =>
    intro a s ha h1 h2 w
    refine z_iload_n dX12_fastest_23 rfl ?_
    refine z_aload_n dX12_fastest_24 rfl ?_
    refine z_getR (j := 0) (r := 128) kX12 lf_X12_7 (by decide) rfl dX12_fastest_25 k0_127 s0_127 r0_127_0 (by decide) ?_
    refine z_bipush (v := 55) dX12_fastest_28 (by decide) ?_
    refine z_iload_n dX12_fastest_30 rfl ?_
    refine z_iaddN (a := 55) (b := q) rfl rfl dX12_fastest_31 ?_
    refine z_ialdV (j := (55 + q)) rfl (by omega) ((C.s (55 + q) (by omega)).trans et) dX12_fastest_32 k0_128 s0_128 ?_
    refine z_icmp_eq (tgt := 76) dX12_fastest_33 (by decide) (fun b33 => ?_) (fun b33 => ?_)
    · have ea : a = t := (nI_eq (by omega) (by omega)).mp b33
      have g1 : dFS A.s A.n (A.s (55 + q)) 6 (A.s (51 + q)) 0 = s := by rw [w]; exact if_pos b33
      refine z_iload_n dX12_fastest_76 rfl ?_
      refine z_ldc lc_X12_184 dX12_fastest_77 ?_
      refine z_icmp_lt (tgt := 86) dX12_fastest_79 (by decide) (fun b79 => ?_) (fun b79 => ?_)
      · refine z_iload_n dX12_fastest_86 rfl ?_
        refine z_iret dX12_fastest_87 rfl zle ?_
        first
          | exact ⟨by unfold dFast; rw [g1]; exact (if_pos (Int32.not_lt.mp b79)).symm, rfl⟩
          | exact ⟨by unfold dFast; rw [g1]; exact (if_neg (Int32.not_le.mpr b79)).symm, rfl⟩
      · refine z_iconst (v := (-1)) dX12_fastest_82 (by decide) ?_
        refine z_goto (tgt := 87) dX12_fastest_83 (by decide) ?_
        refine z_iret dX12_fastest_87 rfl zle ?_
        first
          | exact ⟨by unfold dFast; rw [g1]; exact (if_pos (Int32.not_lt.mp b79)).symm, rfl⟩
          | exact ⟨by unfold dFast; rw [g1]; exact (if_neg (Int32.not_le.mpr b79)).symm, rfl⟩
    · have ea : a ≠ t := fun z => b33 (by rw [z])
      have w2 : dFS A.s A.n (A.s (55 + q)) 6 (A.s (51 + q)) 0 = dFS A.s A.n (nI t) k (dNext (nI a) (nI t)) (s + dFA A.s (nI a) (dMiles A.s (nI a) (nI t)) A.n) := by rw [w]; exact if_neg b33
      obtain ⟨c, hc, ec, hd⟩ : ∃ c : Nat, c < A.i ∧ dNext (nI a) (nI t) = nI c ∧ ((a < t ∧ c = a + 1) ∨ (t < a ∧ c + 1 = a)) := by
        rcases Nat.lt_or_ge a t with z | z
        · refine ⟨a + 1, by omega, ?_, Or.inl ⟨z, rfl⟩⟩
          unfold dNext
          rw [if_pos ((nI_ltI (by omega) (by omega)).mpr z)]; exact nI_1 a
        · obtain ⟨x, rfl⟩ : ∃ x, a = x + 1 := ⟨a - 1, by omega⟩
          refine ⟨x, by omega, ?_, Or.inr ⟨by omega, rfl⟩⟩
          unfold dNext
          rw [if_neg (fun z2 => by have := (nI_ltI (by omega) (by omega)).mp z2; omega), if_pos ((nI_ltI (by omega) (by omega)).mpr (by omega))]; exact nI_pred x
      rw [ec] at w2
      refine z_iload_n dX12_fastest_36 rfl ?_
      refine z_aload_n dX12_fastest_37 rfl ?_
      refine z_iload_n dX12_fastest_38 rfl ?_
      refine z_aload_n dX12_fastest_39 rfl ?_
      refine z_iconst (v := 0) dX12_fastest_40 (by decide) ?_
      refine z_iload_n dX12_fastest_41 rfl ?_
      refine z_aload_n dX12_fastest_42 rfl ?_
      refine z_getR (j := 0) (r := 128) kX12 lf_X12_7 (by decide) rfl dX12_fastest_43 k0_127 s0_127 r0_127_0 (by decide) ?_
      refine z_bipush (v := 55) dX12_fastest_46 (by decide) ?_
      refine z_iload_n dX12_fastest_48 rfl ?_
      refine z_iaddN (a := 55) (b := q) rfl rfl dX12_fastest_49 ?_
      refine z_ialdV (j := (55 + q)) rfl (by omega) ((C.s (55 + q) (by omega)).trans et) dX12_fastest_50 k0_128 s0_128 ?_
      refine z_iV3 (c_miles0 g l ok C ha ht) mw_X12_milesOn lm_X12_199 mi_X12_milesOn mv_X12_milesOn kX12 (by decide) (Nat.le_of_ble_eq_true rfl) zle k0_127 s0_127 dX12_fastest_51 (fun r51 M51 q51 => ?_)
      obtain ⟨qr51, qm51⟩ := q51
      obtain rfl := qr51.symm
      obtain rfl := qm51.symm
      refine z_iV2 (c_X12_fastestAt g l ok C) mw_X12_fastestAt lm_X12_256 mi_X12_fastestAt mv_X12_fastestAt kX12 (by decide) (Nat.le_of_ble_eq_true rfl) zle k0_127 s0_127 dX12_fastest_54 (fun r54 M54 q54 => ?_)
      obtain ⟨qr54, qm54⟩ := q54
      obtain rfl := qr54.symm
      obtain rfl := qm54.symm
      refine z_iadd dX12_fastest_57 ?_
      refine z_istore_n dX12_fastest_58 (by decide) rfl rfl ?_
      refine z_iload_n dX12_fastest_59 rfl ?_
      refine z_aload_n dX12_fastest_60 rfl ?_
      refine z_getR (j := 0) (r := 128) kX12 lf_X12_7 (by decide) rfl dX12_fastest_61 k0_127 s0_127 r0_127_0 (by decide) ?_
      refine z_bipush (v := 55) dX12_fastest_64 (by decide) ?_
      refine z_iload_n dX12_fastest_66 rfl ?_
      refine z_iaddN (a := 55) (b := q) rfl rfl dX12_fastest_67 ?_
      refine z_ialdV (j := (55 + q)) rfl (by omega) ((C.s (55 + q) (by omega)).trans et) dX12_fastest_68 k0_128 s0_128 ?_
      refine z_iS2 (c_X12_next g l) mw_X12_next lm_X12_203 ms_X12_next (by decide) (Nat.le_of_ble_eq_true rfl) zle dX12_fastest_69 (fun r69 M69 q69 => ?_)
      obtain ⟨qr69, qm69⟩ := q69
      obtain rfl := qr69.symm
      obtain rfl := qm69.symm
      rw [ec]
      refine z_istore_n dX12_fastest_72 (by decide) rfl rfl ?_
      refine z_goto (tgt := 23) dX12_fastest_73 (by decide) ?_
      exact ih c _ hc (fun _ => by omega) (fun _ => by omega) w2

set_option maxRecDepth 100000 in
set_option maxHeartbeats 4000000 in
theorem c_X12_fastest (g : zG) (l : Launch) {M : zM} {A : aSt} (ok : aOK A) (C : RelM M A) {x : Int32} : zMet g l yX12_fastest cX12_fastest 4 (some .int) 2 0 0 [.ref 127, .int x] S0 M (zQi (fun r' M' => zAnsM M A (aFast A x) r' M')) := by
  have n8 : A.n ≤ 8 := ok.s.1.1
  have r4 : A.r ≤ 4 := ok.s.1.2.1
  have i6 : A.i ≤ 6 := ok.s.1.2.2.1
  have u8 : A.u ≤ 8 := ok.u
  rcases zInD x (show A.r < 1000 by omega) with ⟨h, hh, rfl⟩ | hx
  · obtain ⟨⟨a, ha, ea⟩, ⟨t, ht, et⟩⟩ := ok.s.2.2.1 h hh
    refine zMet.of (by decide) (Nat.le_of_ble_eq_true rfl) ?_
    refine z_aload_n dX12_fastest_0 rfl ?_
    refine z_iload_n dX12_fastest_1 rfl ?_
    refine z_iV1 (c_X12_isRider g l ok C) mw_X12_isRider lm_X12_172 mi_X12_isRider mv_X12_isRider kX12 (by decide) (Nat.le_of_ble_eq_true rfl) zle k0_127 s0_127 dX12_fastest_2 (fun r2 M2 q2 => ?_)
    obtain ⟨qm2, qr2⟩ := q2
    obtain rfl := qm2.symm
    obtain ⟨c2, rfl⟩ | ⟨c2, rfl⟩ := qr2
    · refine z_if_ne (tgt := 11) dX12_fastest_5 (by decide) (fun b5 => ?_) (fun b5 => ?_)
      · refine z_iconst (v := 0) dX12_fastest_11 (by decide) ?_
        refine z_istore_n dX12_fastest_12 (by decide) rfl rfl ?_
        refine z_aload_n dX12_fastest_13 rfl ?_
        refine z_getR (j := 0) (r := 128) kX12 lf_X12_7 (by decide) rfl dX12_fastest_14 k0_127 s0_127 r0_127_0 (by decide) ?_
        refine z_bipush (v := 51) dX12_fastest_17 (by decide) ?_
        refine z_iload_n dX12_fastest_19 rfl ?_
        refine z_iaddN (a := 51) (b := h) rfl rfl dX12_fastest_20 ?_
        refine z_ialdV (j := (51 + h)) rfl (by omega) ((C.s (51 + h) (by omega)).trans ea) dX12_fastest_21 k0_128 s0_128 ?_
        refine z_istore_n dX12_fastest_22 (by decide) rfl rfl ?_
        refine (lp_fastest2 g l ok C hh ht et 6 a 0 ha (fun _ => by omega) (fun _ => by omega) (by rw [et, ea])).weak (fun v S2 M2 q => ?_)
        obtain ⟨qa, rr, qb, qc, qd⟩ := q
        obtain rfl := qd.symm
        exact ⟨qa, rr, qb, zAnsM.of C (by rw [qc]; unfold aFast; rw [aIx_in hh (by omega)])⟩
      · exact absurd b5 (by decide)
    · exact absurd (zInP hh (by omega)) c2
  · refine zMet.of (by decide) (Nat.le_of_ble_eq_true rfl) ?_
    refine z_aload_n dX12_fastest_0 rfl ?_
    refine z_iload_n dX12_fastest_1 rfl ?_
    refine z_iV1 (c_X12_isRider g l ok C) mw_X12_isRider lm_X12_172 mi_X12_isRider mv_X12_isRider kX12 (by decide) (Nat.le_of_ble_eq_true rfl) zle k0_127 s0_127 dX12_fastest_2 (fun r2 M2 q2 => ?_)
    obtain ⟨qm2, qr2⟩ := q2
    obtain rfl := qm2.symm
    obtain ⟨c2, rfl⟩ | ⟨c2, rfl⟩ := qr2
    · exact absurd c2 hx
    · refine z_if_ne (tgt := 11) dX12_fastest_5 (by decide) (fun b5 => ?_) (fun b5 => ?_)
      · exact absurd b5 (by decide)
      · refine z_bipush (v := (-2)) dX12_fastest_8 (by decide) ?_
        refine z_iret dX12_fastest_10 rfl zle ?_
        exact zAnsM.of C (by unfold aFast; rw [aIx_out hx])

