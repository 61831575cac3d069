/-! ===== the reference's own methods: feed ===== -/
set_option maxRecDepth 100000 in
set_option maxHeartbeats 4000000 in
theorem lp_feedOats (g : zG) (l : Launch) {M : zM} {A : aSt} (ok : aOK A) (C : RelM M A) {q m s : Nat} {xb xs : Int32} {P : Option Value → zS → zM → Prop} (Kz : ∀ rid led : Int32, zA g l yX12_feed cX12_feed 7 (some .int) 5 0 0 P 100 0 0 S0 (zMd M 840 (dFed A.s (nI s) A.n) rid led) [.ref 127, .int (nI q), .int (nI m), .int xb, .int xs, .int (nI s), .int (nI A.n)] []) : ∀ (k h : Nat), h ≤ A.n → A.n - h < k → ∀ rid led : Int32, zA g l yX12_feed cX12_feed 7 (some .int) 5 0 0 (P) 64 0 0 S0 (zMd M 840 (dFed A.s (nI s) h) rid led) [.ref 127, .int (nI q), .int (nI m), .int xb, .int xs, .int (nI s), .int (nI h)] [] := by
  have n8 : A.n ≤ 8 := ok.s.1.1
  have r4 : A.r ≤ 4 := ok.s.1.2.1
  have i6 : A.i ≤ 6 := ok.s.1.2.2.1
  have u8 : A.u ≤ 8 := ok.u
  intro k
  induction k with
  | zero => intro h hh hk; exact absurd hk (Nat.not_lt_zero _)
  | succ k ih =>
    intro h hh hk rid led
    refine z_iload dX12_feed_64 rfl ?_
    refine z_aload_n dX12_feed_66 rfl ?_
    refine z_getR (j := 0) (r := 128) kX12 lf_X12_7 (by decide) rfl dX12_feed_67 k0_127 s0_127 r0_127_0 (by decide) ?_
    refine z_iconst (v := 0) dX12_feed_70 (by decide) ?_
    refine z_ialdV (j := 0) rfl (by decide) (((C.tried (σ := dFed A.s (nI s) h) (rid := rid) (led := led) u8).1.s 0 (by omega)).trans ok.s.1.2.2.2.1) dX12_feed_71 k0_128 s0_128 ?_
    refine z_icmp_ge (tgt := 100) dX12_feed_72 (by decide) (fun b72 => ?_) (fun b72 => ?_)
    · have e : A.n ≤ h := (nI_leI (by omega) (by omega)).mp b72
      have e2 : h = A.n := by omega
      subst e2
      exact Kz _ _
    · have hn : h < A.n := by
        rcases Nat.lt_or_ge h A.n with z | z
        · exact z
        · exact absurd (nI_le z (by omega)) b72
      refine z_iload dX12_feed_75 rfl ?_
      refine z_iload dX12_feed_77 rfl ?_
      refine z_iS2 (c_X12_has g l) mw_X12_has lm_X12_188 ms_X12_has (by decide) (Nat.le_of_ble_eq_true rfl) zle dX12_feed_79 (fun r79 M79 q79 => ?_)
      obtain ⟨qm79, qr79⟩ := q79
      obtain rfl := qm79.symm
      obtain ⟨c79, rfl⟩ | ⟨c79, rfl⟩ := qr79
      · refine z_if_eq (tgt := 94) dX12_feed_82 (by decide) (fun b82 => ?_) (fun b82 => ?_)
        · exact absurd b82 (by decide)
        · refine z_aload_n dX12_feed_85 rfl ?_
          refine z_sipush (v := 840) dX12_feed_86 (by decide) ?_
          refine z_iload dX12_feed_89 rfl ?_
          refine z_vV2 (c_X12_oat (b := 840) g l (by omega) (by omega)) mw_X12_oat lm_X12_234 mi_X12_oat mv_X12_oat kX12 (by decide) (Nat.le_of_ble_eq_true rfl) zle k0_127 s0_127 dX12_feed_91 (fun M91 q91 => ?_)
          obtain rfl := q91.symm
          refine z_iincN (k := h) dX12_feed_94 rfl rfl (by decide) rfl rfl ?_
          refine z_goto (tgt := 64) dX12_feed_97 (by decide) ?_
          have e9 : dFed A.s (nI s) (h + 1) = if ((nI s) >>> (nI h &&& 31)) &&& 1 = 0 then dFed A.s (nI s) h else dEase (dFed A.s (nI s) h) h ((dFed A.s (nI s) h) (27 + h) - 3) := rfl
          have e8 := hasB_iff (s := nI s) (k := h) (by omega)
          first
            | (have e7 := e9.trans (if_neg (e8.mp c79))
               exact zA.sub (ih (h + 1) (by omega) (by omega) rid led) (by rw [e7]) ⟨Or.inr rfl, Or.inr rfl, Or.inr rfl, Or.inr rfl, Or.inr rfl, Or.inr rfl, Or.inr rfl, trivial⟩)
            | (have e7 := e9.trans (if_pos (Classical.byContradiction (fun z => c79 (e8.mpr z))))
               exact zA.sub (ih (h + 1) (by omega) (by omega) rid led) (by rw [e7]) ⟨Or.inr rfl, Or.inr rfl, Or.inr rfl, Or.inr rfl, Or.inr rfl, Or.inr rfl, Or.inr rfl, trivial⟩)
      · refine z_if_eq (tgt := 94) dX12_feed_82 (by decide) (fun b82 => ?_) (fun b82 => ?_)
        · refine z_iincN (k := h) dX12_feed_94 rfl rfl (by decide) rfl rfl ?_
          refine z_goto (tgt := 64) dX12_feed_97 (by decide) ?_
          have e9 : dFed A.s (nI s) (h + 1) = if ((nI s) >>> (nI h &&& 31)) &&& 1 = 0 then dFed A.s (nI s) h else dEase (dFed A.s (nI s) h) h ((dFed A.s (nI s) h) (27 + h) - 3) := rfl
          have e8 := hasB_iff (s := nI s) (k := h) (by omega)
          first
            | (have e7 := e9.trans (if_neg (e8.mp c79))
               exact zA.sub (ih (h + 1) (by omega) (by omega) rid led) (by rw [e7]) ⟨Or.inr rfl, Or.inr rfl, Or.inr rfl, Or.inr rfl, Or.inr rfl, Or.inr rfl, Or.inr rfl, trivial⟩)
            | (have e7 := e9.trans (if_pos (Classical.byContradiction (fun z => c79 (e8.mpr z))))
               exact zA.sub (ih (h + 1) (by omega) (by omega) rid led) (by rw [e7]) ⟨Or.inr rfl, Or.inr rfl, Or.inr rfl, Or.inr rfl, Or.inr rfl, Or.inr rfl, Or.inr rfl, trivial⟩)
        · exact absurd b82 (by decide)

set_option maxRecDepth 100000 in
set_option maxHeartbeats 4000000 in
theorem lp_feed2 (g : zG) (l : Launch) {M0 : zM} {A : aSt} (ok : aOK A) {q m p : Nat} (hq : q < A.r) (hm : m ≤ 900) (ep : p = 2 ^ A.n) (p8 : p ≤ 256) : ∀ (k h : Nat) (M : zM), h ≤ p → p - h < k → RelM M A → (∀ k, k < 127 → M k = M0 k) → zA g l yX12_feed cX12_feed 7 (some .int) 5 0 0 (zQi (fun r' M' => r' = toB (rS (gW A.s A.n A.r A.i q m) p).1 ∧ RelM M' A ∧ ∀ k, k < 127 → M' k = M0 k)) 34 0 0 S0 M [.ref 127, .int (nI q), .int (nI m), .int (toB (rS (gW A.s A.n A.r A.i q m) h).1), .int (nI (rS (gW A.s A.n A.r A.i q m) h).2), .int (nI h), .null] [] := by
  have n8 : A.n ≤ 8 := ok.s.1.1
  have r4 : A.r ≤ 4 := ok.s.1.2.1
  have i6 : A.i ≤ 6 := ok.s.1.2.2.1
  have u8 : A.u ≤ 8 := ok.u
  intro k
  induction k with
  | zero => intro h M hh hk; exact absurd hk (Nat.not_lt_zero _)
  | succ k ih =>
    intro h M hh hk C F
    have pb := pbn_le h 8
    have okf := dFed_ok ok.s (nI h) A.n (Nat.le_refl _)
    have b2 : (rS (gW A.s A.n A.r A.i q m) h).2 ≤ 8 := by
      rcases rS_c (gW A.s A.n A.r A.i q m) h with ⟨-, e, -⟩ | ⟨t, -, -, -, e, e2, -⟩
      · omega
      · omega
    refine z_iload dX12_feed_34 rfl ?_
    refine z_iconst (v := 1) dX12_feed_36 (by decide) ?_
    refine z_aload_n dX12_feed_37 rfl ?_
    refine z_getR (j := 0) (r := 128) kX12 lf_X12_7 (by decide) rfl dX12_feed_38 k0_127 s0_127 r0_127_0 (by decide) ?_
    refine z_iconst (v := 0) dX12_feed_41 (by decide) ?_
    refine z_ialdV (j := 0) rfl (by decide) ((C.s 0 (by omega)).trans ok.s.1.2.2.2.1) dX12_feed_42 k0_128 s0_128 ?_
    refine z_ishl dX12_feed_43 ?_
    rw [z_shn _ (by omega), ← ep]
    refine z_icmp_ge (tgt := 152) dX12_feed_44 (by decide) (fun b44 => ?_) (fun b44 => ?_)
    · have e : p ≤ h := (nI_leI (by omega) (by omega)).mp b44
      have e2 : h = p := by omega
      subst e2
      refine z_iload_n dX12_feed_152 rfl ?_
      refine z_iret dX12_feed_153 rfl zle ?_
      exact ⟨rfl, C, F⟩
    · have hn : h < p := by
        rcases Nat.lt_or_ge h p with z | z
        · exact z
        · exact absurd (nI_le z (by omega)) b44
      refine z_iload dX12_feed_47 rfl ?_
      refine z_iS1 (c_X12_bits g l) mw_X12_bits lm_X12_261 ms_X12_bits (by decide) (Nat.le_of_ble_eq_true rfl) zle dX12_feed_49 (fun r49 M49 q49 => ?_)
      obtain ⟨qr49, qm49⟩ := q49
      obtain rfl := qr49.symm
      obtain rfl := qm49.symm
      rw [pb_f h (by omega)]
      refine z_iload dX12_feed_52 rfl ?_
      refine z_icmp_ge (tgt := 146) dX12_feed_54 (by decide) (fun b54 => ?_) (fun b54 => ?_)
      · refine z_iincN (k := h) dX12_feed_146 rfl rfl (by decide) rfl rfl ?_
        refine z_goto (tgt := 34) dX12_feed_149 (by decide) ?_
        have e9 : rS (gW A.s A.n A.r A.i q m) (h + 1) = if pbn 8 h < (rS (gW A.s A.n A.r A.i q m) h).2 ∧ (gW A.s A.n A.r A.i q m) h = true then (h + 1, pbn 8 h) else rS (gW A.s A.n A.r A.i q m) h := rfl
        have e7 := e9.trans (if_neg (fun z => absurd ((nI_leI (by omega) (by omega)).mp b54) (Nat.not_le_of_lt z.1)))
        exact zA.sub (ih (h + 1) _ (by omega) (by omega) C F) rfl ⟨Or.inr rfl, Or.inr rfl, Or.inr rfl, Or.inr (congrArg (fun z => some (Value.int z)) (by rw [e7])), Or.inr (congrArg (fun z => some (Value.int z)) (by rw [e7])), Or.inr rfl, Or.inl rfl, trivial⟩
      · have hlt : pbn 8 h < (rS (gW A.s A.n A.r A.i q m) h).2 := Nat.lt_of_not_le (fun z => b54 ((nI_leI (by omega) (by omega)).mpr z))
        refine z_aload_n dX12_feed_57 rfl ?_
        refine z_vV0 (c_lay g l C) mw_X12_layTried lm_X12_244 mi_X12_layTried mv_X12_layTried kX12 (by decide) (Nat.le_of_ble_eq_true rfl) zle k0_127 s0_127 dX12_feed_58 (fun M58 q58 => ?_)
        obtain rfl := q58.symm
        refine z_iconst (v := 0) dX12_feed_61 (by decide) ?_
        refine z_istore dX12_feed_62 (by decide) rfl rfl ?_
        refine lp_feedOats g l ok C (s := h) (fun rid led => ?_) (A.n + 1) 0 (Nat.zero_le _) (by omega) _ _
        refine z_aload_n dX12_feed_100 rfl ?_
        refine z_iload_n dX12_feed_101 rfl ?_
        refine z_iload_n dX12_feed_102 rfl ?_
        refine z_iV2 (c_X12_comesBy (most := m) g l okf hq hm) mw_X12_comesBy lm_X12_247 mi_X12_comesBy mv_X12_comesBy kX12 (by decide) (Nat.le_of_ble_eq_true rfl) zle k0_127 s0_127 dX12_feed_103 (fun r103 M103 q103 => ?_)
        obtain ⟨qc, k2, rid2, led2, hk2, qk, qr⟩ := q103
        obtain rfl := qk.symm
        have C2 := C.tried (σ := dIter (dFed A.s (nI h) A.n) A.n A.r A.i k2) (rid := rid2) (led := led2) u8
        refine z_iconst (v := (-1)) dX12_feed_106 (by decide) ?_
        refine z_icmp_eq (tgt := 114) dX12_feed_107 (by decide) (fun b107 => ?_) (fun b107 => ?_)
        · refine z_iconst (v := 0) dX12_feed_114 (by decide) ?_
          refine z_istore dX12_feed_115 (by decide) rfl rfl ?_
          refine z_iload dX12_feed_117 rfl ?_
          refine z_if_eq (tgt := 127) dX12_feed_119 (by decide) (fun b119 => ?_) (fun b119 => ?_)
          · refine z_iload_n dX12_feed_127 rfl ?_
            refine z_istore_n dX12_feed_128 (by decide) rfl rfl ?_
            refine z_iload dX12_feed_129 rfl ?_
            refine z_if_eq (tgt := 142) dX12_feed_131 (by decide) (fun b131 => ?_) (fun b131 => ?_)
            · refine z_iload dX12_feed_142 rfl ?_
              refine z_istore dX12_feed_144 (by decide) rfl rfl ?_
              refine z_iincN (k := h) dX12_feed_146 rfl rfl (by decide) rfl rfl ?_
              refine z_goto (tgt := 34) dX12_feed_149 (by decide) ?_
              have e9 : rS (gW A.s A.n A.r A.i q m) (h + 1) = if pbn 8 h < (rS (gW A.s A.n A.r A.i q m) h).2 ∧ (gW A.s A.n A.r A.i q m) h = true then (h + 1, pbn 8 h) else rS (gW A.s A.n A.r A.i q m) h := rfl
              first
                | (have gw : (gW A.s A.n A.r A.i q m) h = true := by unfold gW; exact decide_eq_true (fun z => b107 (qc.trans z))
                   have e7 := e9.trans (if_pos ⟨hlt, gw⟩)
                   exact zA.sub (ih (h + 1) _ (by omega) (by omega) C2.1 (fun k a => (C2.2 k a).trans (F k a))) rfl ⟨Or.inr rfl, Or.inr rfl, Or.inr rfl, Or.inr (congrArg (fun z => some (Value.int z)) (by rw [e7]; exact ((if_neg (by omega) : toB (h + 1) = _).trans (congrArg nI (by omega))).symm)), Or.inr (congrArg (fun z => some (Value.int z)) (by rw [e7])), Or.inr rfl, Or.inl rfl, trivial⟩)
                | (have e7 := e9.trans (if_neg (fun z => absurd (qc.symm.trans b107) (of_decide_eq_true (p := ¬ dCome (dFed A.s (nI h) A.n) A.n A.r A.i q m = -1) z.2)))
                   exact zA.sub (ih (h + 1) _ (by omega) (by omega) C2.1 (fun k a => (C2.2 k a).trans (F k a))) rfl ⟨Or.inr rfl, Or.inr rfl, Or.inr rfl, Or.inr (congrArg (fun z => some (Value.int z)) (by rw [e7])), Or.inr (congrArg (fun z => some (Value.int z)) (by rw [e7])), Or.inr rfl, Or.inl rfl, trivial⟩)
            · exact absurd b131 (by decide)
          · exact absurd b119 (by decide)
        · refine z_iconst (v := 1) dX12_feed_110 (by decide) ?_
          refine z_goto (tgt := 115) dX12_feed_111 (by decide) ?_
          refine z_istore dX12_feed_115 (by decide) rfl rfl ?_
          refine z_iload dX12_feed_117 rfl ?_
          refine z_if_eq (tgt := 127) dX12_feed_119 (by decide) (fun b119 => ?_) (fun b119 => ?_)
          · exact absurd b119 (by decide)
          · refine z_iload dX12_feed_122 rfl ?_
            refine z_goto (tgt := 128) dX12_feed_124 (by decide) ?_
            refine z_istore_n dX12_feed_128 (by decide) rfl rfl ?_
            refine z_iload dX12_feed_129 rfl ?_
            refine z_if_eq (tgt := 142) dX12_feed_131 (by decide) (fun b131 => ?_) (fun b131 => ?_)
            · exact absurd b131 (by decide)
            · refine z_iload dX12_feed_134 rfl ?_
              refine z_iS1 (c_X12_bits g l) mw_X12_bits lm_X12_261 ms_X12_bits (by decide) (Nat.le_of_ble_eq_true rfl) zle dX12_feed_136 (fun r136 M136 q136 => ?_)
              obtain ⟨qr136, qm136⟩ := q136
              obtain rfl := qr136.symm
              obtain rfl := qm136.symm
              rw [pb_f h (by omega)]
              refine z_goto (tgt := 144) dX12_feed_139 (by decide) ?_
              refine z_istore dX12_feed_144 (by decide) rfl rfl ?_
              refine z_iincN (k := h) dX12_feed_146 rfl rfl (by decide) rfl rfl ?_
              refine z_goto (tgt := 34) dX12_feed_149 (by decide) ?_
              have e9 : rS (gW A.s A.n A.r A.i q m) (h + 1) = if pbn 8 h < (rS (gW A.s A.n A.r A.i q m) h).2 ∧ (gW A.s A.n A.r A.i q m) h = true then (h + 1, pbn 8 h) else rS (gW A.s A.n A.r A.i q m) h := rfl
              first
                | (have gw : (gW A.s A.n A.r A.i q m) h = true := by unfold gW; exact decide_eq_true (fun z => b107 (qc.trans z))
                   have e7 := e9.trans (if_pos ⟨hlt, gw⟩)
                   exact zA.sub (ih (h + 1) _ (by omega) (by omega) C2.1 (fun k a => (C2.2 k a).trans (F k a))) rfl ⟨Or.inr rfl, Or.inr rfl, Or.inr rfl, Or.inr (congrArg (fun z => some (Value.int z)) (by rw [e7]; exact ((if_neg (by omega) : toB (h + 1) = _).trans (congrArg nI (by omega))).symm)), Or.inr (congrArg (fun z => some (Value.int z)) (by rw [e7])), Or.inr rfl, Or.inl rfl, trivial⟩)
                | (have e7 := e9.trans (if_neg (fun z => absurd (qc.symm.trans b107) (of_decide_eq_true (p := ¬ dCome (dFed A.s (nI h) A.n) A.n A.r A.i q m = -1) z.2)))
                   exact zA.sub (ih (h + 1) _ (by omega) (by omega) C2.1 (fun k a => (C2.2 k a).trans (F k a))) rfl ⟨Or.inr rfl, Or.inr rfl, Or.inr rfl, Or.inr (congrArg (fun z => some (Value.int z)) (by rw [e7])), Or.inr (congrArg (fun z => some (Value.int z)) (by rw [e7])), Or.inr rfl, Or.inl rfl, trivial⟩)

set_option maxRecDepth 100000 in
set_option maxHeartbeats 4000000 in
theorem c_X12_feed (g : zG) (l : Launch) {M : zM} {A : aSt} (ok : aOK A) (C : RelM M A) {x m : Int32} : zMet g l yX12_feed cX12_feed 7 (some .int) 5 0 0 [.ref 127, .int x, .int m] S0 M (zQi (fun r' M' => zAnsM M A (aFeed A x m) r' M')) := by
  have n8 : A.n ≤ 8 := ok.s.1.1
  have r4 : A.r ≤ 4 := ok.s.1.2.1
  have i6 : A.i ≤ 6 := ok.s.1.2.2.1
  have u8 : A.u ≤ 8 := ok.u
  rcases zInD x (show A.r < 1000 by omega) with ⟨h, hh, rfl⟩ | hx
  · refine zMet.of (by decide) (Nat.le_of_ble_eq_true rfl) ?_
    refine z_aload_n dX12_feed_0 rfl ?_
    refine z_iload_n dX12_feed_1 rfl ?_
    refine z_iV1 (c_X12_isRider g l ok C) mw_X12_isRider lm_X12_172 mi_X12_isRider mv_X12_isRider kX12 (by decide) (Nat.le_of_ble_eq_true rfl) zle k0_127 s0_127 dX12_feed_2 (fun r2 M2 q2 => ?_)
    obtain ⟨qm2, qr2⟩ := q2
    obtain rfl := qm2.symm
    obtain ⟨c2, rfl⟩ | ⟨c2, rfl⟩ := qr2
    · refine z_if_ne (tgt := 11) dX12_feed_5 (by decide) (fun b5 => ?_) (fun b5 => ?_)
      · refine z_iload_n dX12_feed_11 rfl ?_
        refine z_i2l dX12_feed_12 ?_
        refine z_lconst (v := 1) dX12_feed_13 (by decide) ?_
        refine z_ldc2 lc_X12_259 dX12_feed_14 ?_
        refine z_iS3 (c_X12_in g l) mw_X12_in lm_X12_79 ms_X12_in (by decide) (Nat.le_of_ble_eq_true rfl) zle dX12_feed_17 (fun r17 M17 q17 => ?_)
        obtain ⟨qm, qr⟩ := q17
        obtain rfl := qm.symm
        rcases qr with ⟨c17, rfl⟩ | ⟨c17, rfl⟩
        · have d17 := (l_inn (a := 1) (z := 40) (by decide) (by decide)).mp c17
          refine z_if_ne (tgt := 26) dX12_feed_20 (by decide) (fun b20 => ?_) (fun b20 => ?_)
          · have bb : ¬ (m < 1 ∨ 40 < m) := fun z => z.elim (Int32.not_lt.mpr d17.1) (Int32.not_lt.mpr d17.2)
            obtain ⟨u, hu1, hu2, rfl⟩ := (zIdx m (a := 1) (c := 40) (by omega) (by omega)).resolve_right bb
            refine z_iconst (v := (-1)) dX12_feed_26 (by decide) ?_
            refine z_istore_n dX12_feed_27 (by decide) rfl rfl ?_
            refine z_iconst (v := 4) dX12_feed_28 (by decide) ?_
            refine z_istore dX12_feed_29 (by decide) rfl rfl ?_
            refine z_iconst (v := 0) dX12_feed_31 (by decide) ?_
            refine z_istore dX12_feed_32 (by decide) rfl rfl ?_
            refine (zA.sub (lp_feed2 g l (M0 := M) ok hh (show u ≤ 900 by omega) rfl (z_pow A.n (by omega)) (2 ^ A.n + 1) 0 M (Nat.zero_le _) (Nat.lt_succ_of_le (Nat.sub_le _ _)) C (fun _ _ => rfl)) rfl ⟨Or.inr rfl, Or.inr rfl, Or.inr rfl, Or.inr rfl, Or.inr rfl, Or.inr rfl, Or.inl rfl, trivial⟩).weak (fun v S2 M2 q => ?_)
            obtain ⟨qa, rr, qb, qc, qd, qe⟩ := q
            exact ⟨qa, rr, qb, by rw [qc, ← feed_eq ok.s]; unfold aFeed; rw [aIx_in hh (by omega), if_neg bb, nI_clamp (by omega)], qd, qe⟩
          · exact absurd b20 (by decide)
        · have d17 := fun z => c17 ((l_inn (a := 1) (z := 40) (by decide) (by decide)).mpr z)
          refine z_if_ne (tgt := 26) dX12_feed_20 (by decide) (fun b20 => ?_) (fun b20 => ?_)
          · exact absurd b20 (by decide)
          · refine z_bipush (v := (-3)) dX12_feed_23 (by decide) ?_
            refine z_iret dX12_feed_25 rfl zle ?_
            exact zAnsM.of C (by unfold aFeed; rw [aIx_in hh (by omega)]; exact (if_pos (by by_cases z : m < 1; exact Or.inl z; exact Or.inr (Int32.not_le.mp (fun z2 => d17 ⟨Int32.not_lt.mp z, z2⟩)))).symm)
      · exact absurd b5 (by decide)
    · exact absurd (zInP hh (by omega)) c2
  · refine zMet.of (by decide) (Nat.le_of_ble_eq_true rfl) ?_
    refine z_aload_n dX12_feed_0 rfl ?_
    refine z_iload_n dX12_feed_1 rfl ?_
    refine z_iV1 (c_X12_isRider g l ok C) mw_X12_isRider lm_X12_172 mi_X12_isRider mv_X12_isRider kX12 (by decide) (Nat.le_of_ble_eq_true rfl) zle k0_127 s0_127 dX12_feed_2 (fun r2 M2 q2 => ?_)
    obtain ⟨qm2, qr2⟩ := q2
    obtain rfl := qm2.symm
    obtain ⟨c2, rfl⟩ | ⟨c2, rfl⟩ := qr2
    · exact absurd c2 hx
    · refine z_if_ne (tgt := 11) dX12_feed_5 (by decide) (fun b5 => ?_) (fun b5 => ?_)
      · exact absurd b5 (by decide)
      · refine z_bipush (v := (-2)) dX12_feed_8 (by decide) ?_
        refine z_iret dX12_feed_10 rfl zle ?_
        exact zAnsM.of C (by unfold aFeed; rw [aIx_out hx])

