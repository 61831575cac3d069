/-! ===== the reference's own methods: weigh, drop, copy ===== -/
set_option maxRecDepth 100000 in
set_option maxHeartbeats 4000000 in
theorem lp_toldBy (g : zG) (l : Launch) {M : zM} {A : aSt} (ok : aOK A) (C : RelM M A) {b : Nat} (hb : b < 4) : ∀ (k h : Nat), h ≤ (A.ln b) → (A.ln b) - h < k → zA g l yX12_toldBy cX12_toldBy 5 (some .int) 0 0 0 (zQi (fun r' M' => r' = mTold A b (A.ln b) ∧ M' = M)) 4 0 0 S0 M [.ref 127, .int (nI b), .int (mTold A b h), .int (nI h), .null] [] := by
  have n8 : A.n ≤ 8 := ok.s.1.1
  have r4 : A.r ≤ 4 := ok.s.1.2.1
  have i6 : A.i ≤ 6 := ok.s.1.2.2.1
  have u8 : A.u ≤ 8 := ok.u
  have hL := bSz_len (ok.ln b hb)
  intro k
  induction k with
  | zero => intro h hh hk; exact absurd hk (Nat.not_lt_zero _)
  | succ k ih =>
    intro h hh hk 
    refine z_iload_n dX12_toldBy_4 rfl ?_
    refine z_aload_n dX12_toldBy_5 rfl ?_
    refine z_getR (j := 9) (r := 134) kX12 lf_X12_29 (by decide) rfl dX12_toldBy_6 k0_127 s0_127 r0_127_9 (by decide) ?_
    refine z_iload_n dX12_toldBy_9 rfl ?_
    refine z_ialdV (j := b) rfl (by omega) (C.book b (by omega)).1 dX12_toldBy_10 k0_134 s0_134 ?_
    refine z_icmp_ge (tgt := 70) dX12_toldBy_11 (by decide) (fun b11 => ?_) (fun b11 => ?_)
    · have e2 : h = A.ln b := by have := (hL.2 h (by have := hL.1; omega)).mp b11; omega
      subst e2
      refine z_iload_n dX12_toldBy_70 rfl ?_
      exact z_iret dX12_toldBy_71 rfl zle (⟨rfl, rfl⟩)
    · have hn : h < A.ln b := Nat.lt_of_not_le (fun z => b11 ((hL.2 h (by have := hL.1; omega)).mpr z))
      have h10 : h < 10 := by have := hL.1; omega
      refine z_bipush (v := 10) dX12_toldBy_14 (by decide) ?_
      refine z_iload_n dX12_toldBy_16 rfl ?_
      refine z_imulN (a := 10) (b := b) rfl rfl dX12_toldBy_17 ?_
      refine z_iload_n dX12_toldBy_18 rfl ?_
      refine z_iaddN (a := (10 * b)) (b := h) rfl rfl dX12_toldBy_19 ?_
      refine z_istore dX12_toldBy_20 (by decide) rfl rfl ?_
      refine z_iload_n dX12_toldBy_22 rfl ?_
      refine z_aload_n dX12_toldBy_23 rfl ?_
      refine z_getR (j := 10) (r := 135) kX12 lf_X12_32 (by decide) rfl dX12_toldBy_24 k0_127 s0_127 r0_127_10 (by decide) ?_
      refine z_iload dX12_toldBy_27 rfl ?_
      refine z_ialdV (j := (10 * b + h)) rfl (by omega) ((C.book b hb).2 h h10).1 dX12_toldBy_29 k0_135 s0_135 ?_
      refine z_iconst (v := 2) dX12_toldBy_30 (by decide) ?_
      refine z_icmp_ne (tgt := 61) dX12_toldBy_31 (by decide) (fun b31 => ?_) (fun b31 => ?_)
      · have em2 : (if A.so b h = 2 ∧ A.bo (A.va b h).toNatClampNeg = true then 1 <<< (A.va b h &&& 31) else 0 : Int32) = 0 := if_neg (fun z => b31 (((mSo_ne (ok.so b hb h h10).1).2 2 (by decide) (by decide)).mpr z.1))
        refine z_iconst (v := 0) dX12_toldBy_61 (by decide) ?_
        refine z_ior dX12_toldBy_62 ?_
        refine z_istore_n dX12_toldBy_63 (by decide) rfl rfl ?_
        refine z_iincN (k := h) dX12_toldBy_64 rfl rfl (by decide) rfl rfl ?_
        refine z_goto (tgt := 4) dX12_toldBy_67 (by decide) ?_
        have em : mTold A b (h + 1) = mTold A b h ||| (if A.so b h = 2 ∧ A.bo (A.va b h).toNatClampNeg = true then 1 <<< (A.va b h &&& 31) else 0) := rfl
        exact zA.sub (ih (h + 1) (by omega) (by omega)) rfl ⟨Or.inr rfl, Or.inr rfl, Or.inr (congrArg (fun z => some (Value.int z)) (by rw [em, em2])), Or.inr rfl, Or.inl rfl, trivial⟩
      · have s2 : A.so b h = 2 := ((mSo_ne (ok.so b hb h h10).1).2 2 (by decide) (by decide)).mp b31
        obtain ⟨v, hv, ev⟩ := (ok.so b hb h h10).2 s2
        have hz := bSz_ge (A := A) (b := v) (ok.ln v (by omega)).1
        refine z_aload_n dX12_toldBy_34 rfl ?_
        refine z_getR (j := 9) (r := 134) kX12 lf_X12_29 (by decide) rfl dX12_toldBy_35 k0_127 s0_127 r0_127_9 (by decide) ?_
        refine z_aload_n dX12_toldBy_38 rfl ?_
        refine z_getR (j := 11) (r := 136) kX12 lf_X12_35 (by decide) rfl dX12_toldBy_39 k0_127 s0_127 r0_127_11 (by decide) ?_
        refine z_iload dX12_toldBy_42 rfl ?_
        refine z_ialdV (j := (10 * b + h)) rfl (by omega) (((C.book b hb).2 h h10).2.trans ev) dX12_toldBy_44 k0_136 s0_136 ?_
        refine z_ialdV (j := v) rfl (by omega) (C.book v (by omega)).1 dX12_toldBy_45 k0_134 s0_134 ?_
        refine z_if_lt (tgt := 61) dX12_toldBy_46 (by decide) (fun b46 => ?_) (fun b46 => ?_)
        · have em2 : (if A.so b h = 2 ∧ A.bo (A.va b h).toNatClampNeg = true then 1 <<< (A.va b h &&& 31) else 0 : Int32) = 0 := if_neg (fun z => absurd (hz.mpr (by have z2 := z.2; rw [ev, nI_clamp (by omega)] at z2; exact z2)) (Int32.not_le.mpr b46))
          refine z_iconst (v := 0) dX12_toldBy_61 (by decide) ?_
          refine z_ior dX12_toldBy_62 ?_
          refine z_istore_n dX12_toldBy_63 (by decide) rfl rfl ?_
          refine z_iincN (k := h) dX12_toldBy_64 rfl rfl (by decide) rfl rfl ?_
          refine z_goto (tgt := 4) dX12_toldBy_67 (by decide) ?_
          have em : mTold A b (h + 1) = mTold A b h ||| (if A.so b h = 2 ∧ A.bo (A.va b h).toNatClampNeg = true then 1 <<< (A.va b h &&& 31) else 0) := rfl
          exact zA.sub (ih (h + 1) (by omega) (by omega)) rfl ⟨Or.inr rfl, Or.inr rfl, Or.inr (congrArg (fun z => some (Value.int z)) (by rw [em, em2])), Or.inr rfl, Or.inl rfl, trivial⟩
        · have em2 : (if A.so b h = 2 ∧ A.bo (A.va b h).toNatClampNeg = true then 1 <<< (A.va b h &&& 31) else 0 : Int32) = 1 <<< (nI v &&& 31) := by rw [ev, nI_clamp (by omega)]; exact if_pos ⟨s2, hz.mp (Int32.not_lt.mp b46)⟩
          refine z_iconst (v := 1) dX12_toldBy_49 (by decide) ?_
          refine z_aload_n dX12_toldBy_50 rfl ?_
          refine z_getR (j := 11) (r := 136) kX12 lf_X12_35 (by decide) rfl dX12_toldBy_51 k0_127 s0_127 r0_127_11 (by decide) ?_
          refine z_iload dX12_toldBy_54 rfl ?_
          refine z_ialdV (j := (10 * b + h)) rfl (by omega) (((C.book b hb).2 h h10).2.trans ev) dX12_toldBy_56 k0_136 s0_136 ?_
          refine z_ishl dX12_toldBy_57 ?_
          refine z_goto (tgt := 62) dX12_toldBy_58 (by decide) ?_
          refine z_ior dX12_toldBy_62 ?_
          refine z_istore_n dX12_toldBy_63 (by decide) rfl rfl ?_
          refine z_iincN (k := h) dX12_toldBy_64 rfl rfl (by decide) rfl rfl ?_
          refine z_goto (tgt := 4) dX12_toldBy_67 (by decide) ?_
          have em : mTold A b (h + 1) = mTold A b h ||| (if A.so b h = 2 ∧ A.bo (A.va b h).toNatClampNeg = true then 1 <<< (A.va b h &&& 31) else 0) := rfl
          exact zA.sub (ih (h + 1) (by omega) (by omega)) rfl ⟨Or.inr rfl, Or.inr rfl, Or.inr (congrArg (fun z => some (Value.int z)) (by rw [em, em2])), Or.inr rfl, Or.inl rfl, trivial⟩

set_option maxRecDepth 100000 in
set_option maxHeartbeats 4000000 in
theorem c_X12_toldBy (g : zG) (l : Launch) {M : zM} {A : aSt} (ok : aOK A) (C : RelM M A) {b : Nat} (hb : b < 4) : zMet g l yX12_toldBy cX12_toldBy 5 (some .int) 0 0 0 [.ref 127, .int (nI b)] S0 M (zQi (fun r' M' => r' = mTold A b (A.ln b) ∧ M' = M)) := by
  refine zMet.of (by decide) (Nat.le_of_ble_eq_true rfl) ?_
  refine z_iconst (v := 0) dX12_toldBy_0 (by decide) ?_
  refine z_istore_n dX12_toldBy_1 (by decide) rfl rfl ?_
  refine z_iconst (v := 0) dX12_toldBy_2 (by decide) ?_
  refine z_istore_n dX12_toldBy_3 (by decide) rfl rfl ?_
  exact lp_toldBy g l ok C hb (A.ln b + 1) 0 (Nat.zero_le _) (by omega)

set_option maxRecDepth 100000 in
set_option maxHeartbeats 4000000 in
theorem lp_weightOf2 (g : zG) (l : Launch) {M : zM} {A : aSt} (ok : aOK A) (C : RelM M A) {b : Nat} (hb : b < 4) : ∀ (k h : Nat), h ≤ (A.ln b) → (A.ln b) - h < k → zA g l yX12_weightOf cX12_weightOf 5 (some .int) 0 0 0 (zQi (fun r' M' => r' = fOwn (A.so b) (A.va b) (A.ln b) ∧ M' = M)) 4 0 0 S0 M [.ref 127, .int (nI b), .int (fOwn (A.so b) (A.va b) h), .int (nI h), .null] [] := by
  have n8 : A.n ≤ 8 := ok.s.1.1
  have r4 : A.r ≤ 4 := ok.s.1.2.1
  have i6 : A.i ≤ 6 := ok.s.1.2.2.1
  have u8 : A.u ≤ 8 := ok.u
  have hL := bSz_len (ok.ln b hb)
  intro k
  induction k with
  | zero => intro h hh hk; exact absurd hk (Nat.not_lt_zero _)
  | succ k ih =>
    intro h hh hk 
    refine z_iload_n dX12_weightOf_4 rfl ?_
    refine z_aload_n dX12_weightOf_5 rfl ?_
    refine z_getR (j := 9) (r := 134) kX12 lf_X12_29 (by decide) rfl dX12_weightOf_6 k0_127 s0_127 r0_127_9 (by decide) ?_
    refine z_iload_n dX12_weightOf_9 rfl ?_
    refine z_ialdV (j := b) rfl (by omega) (C.book b (by omega)).1 dX12_weightOf_10 k0_134 s0_134 ?_
    refine z_icmp_ge (tgt := 69) dX12_weightOf_11 (by decide) (fun b11 => ?_) (fun b11 => ?_)
    · have e2 : h = A.ln b := by have := (hL.2 h (by have := hL.1; omega)).mp b11; omega
      subst e2
      refine z_iload_n dX12_weightOf_69 rfl ?_
      exact z_iret dX12_weightOf_70 rfl zle (⟨rfl, rfl⟩)
    · have hn : h < A.ln b := Nat.lt_of_not_le (fun z => b11 ((hL.2 h (by have := hL.1; omega)).mpr z))
      have h10 : h < 10 := by have := hL.1; omega
      refine z_bipush (v := 10) dX12_weightOf_14 (by decide) ?_
      refine z_iload_n dX12_weightOf_16 rfl ?_
      refine z_imulN (a := 10) (b := b) rfl rfl dX12_weightOf_17 ?_
      refine z_iload_n dX12_weightOf_18 rfl ?_
      refine z_iaddN (a := (10 * b)) (b := h) rfl rfl dX12_weightOf_19 ?_
      refine z_istore dX12_weightOf_20 (by decide) rfl rfl ?_
      refine z_iload_n dX12_weightOf_22 rfl ?_
      refine z_aload_n dX12_weightOf_23 rfl ?_
      refine z_getR (j := 10) (r := 135) kX12 lf_X12_32 (by decide) rfl dX12_weightOf_24 k0_127 s0_127 r0_127_10 (by decide) ?_
      refine z_iload dX12_weightOf_27 rfl ?_
      refine z_ialdV (j := (10 * b + h)) rfl (by omega) ((C.book b hb).2 h h10).1 dX12_weightOf_29 k0_135 s0_135 ?_
      refine z_if_ne (tgt := 43) dX12_weightOf_30 (by decide) (fun b30 => ?_) (fun b30 => ?_)
      · refine z_aload_n dX12_weightOf_43 rfl ?_
        refine z_getR (j := 10) (r := 135) kX12 lf_X12_32 (by decide) rfl dX12_weightOf_44 k0_127 s0_127 r0_127_10 (by decide) ?_
        refine z_iload dX12_weightOf_47 rfl ?_
        refine z_ialdV (j := (10 * b + h)) rfl (by omega) ((C.book b hb).2 h h10).1 dX12_weightOf_49 k0_135 s0_135 ?_
        refine z_iconst (v := 1) dX12_weightOf_50 (by decide) ?_
        refine z_icmp_ne (tgt := 60) dX12_weightOf_51 (by decide) (fun b51 => ?_) (fun b51 => ?_)
        · refine z_iconst (v := 0) dX12_weightOf_60 (by decide) ?_
          refine z_iadd dX12_weightOf_61 ?_
          refine z_istore_n dX12_weightOf_62 (by decide) rfl rfl ?_
          refine z_iincN (k := h) dX12_weightOf_63 rfl rfl (by decide) rfl rfl ?_
          refine z_goto (tgt := 4) dX12_weightOf_66 (by decide) ?_
          have em : fOwn (A.so b) (A.va b) (h + 1) = if A.so b h = 0 then fOwn (A.so b) (A.va b) h + A.va b h else if A.so b h = 1 then fOwn (A.so b) (A.va b) h + 1000 else fOwn (A.so b) (A.va b) h := rfl
          first
            | exact zA.sub (ih (h + 1) (by omega) (by omega)) rfl ⟨Or.inr rfl, Or.inr rfl, Or.inr (congrArg (fun z => some (Value.int z)) (by rw [em, if_pos (((mSo_ne (ok.so b hb h h10).1).2 0 (by decide) (by decide)).mp b30)])), Or.inr rfl, Or.inl rfl, trivial⟩
            | exact zA.sub (ih (h + 1) (by omega) (by omega)) rfl ⟨Or.inr rfl, Or.inr rfl, Or.inr (congrArg (fun z => some (Value.int z)) (by rw [em, if_neg (fun z => b30 (((mSo_ne (ok.so b hb h h10).1).2 0 (by decide) (by decide)).mpr z)), if_pos (((mSo_ne (ok.so b hb h h10).1).2 1 (by decide) (by decide)).mp b51)])), Or.inr rfl, Or.inl rfl, trivial⟩
            | exact zA.sub (ih (h + 1) (by omega) (by omega)) rfl ⟨Or.inr rfl, Or.inr rfl, Or.inr (congrArg (fun z => some (Value.int z)) (by rw [em, if_neg (fun z => b30 (((mSo_ne (ok.so b hb h h10).1).2 0 (by decide) (by decide)).mpr z)), if_neg (fun z => b51 (((mSo_ne (ok.so b hb h h10).1).2 1 (by decide) (by decide)).mpr z)), Int32.add_zero])), Or.inr rfl, Or.inl rfl, trivial⟩
        · refine z_sipush (v := 1000) dX12_weightOf_54 (by decide) ?_
          refine z_goto (tgt := 61) dX12_weightOf_57 (by decide) ?_
          refine z_iadd dX12_weightOf_61 ?_
          refine z_istore_n dX12_weightOf_62 (by decide) rfl rfl ?_
          refine z_iincN (k := h) dX12_weightOf_63 rfl rfl (by decide) rfl rfl ?_
          refine z_goto (tgt := 4) dX12_weightOf_66 (by decide) ?_
          have em : fOwn (A.so b) (A.va b) (h + 1) = if A.so b h = 0 then fOwn (A.so b) (A.va b) h + A.va b h else if A.so b h = 1 then fOwn (A.so b) (A.va b) h + 1000 else fOwn (A.so b) (A.va b) h := rfl
          first
            | exact zA.sub (ih (h + 1) (by omega) (by omega)) rfl ⟨Or.inr rfl, Or.inr rfl, Or.inr (congrArg (fun z => some (Value.int z)) (by rw [em, if_pos (((mSo_ne (ok.so b hb h h10).1).2 0 (by decide) (by decide)).mp b30)])), Or.inr rfl, Or.inl rfl, trivial⟩
            | exact zA.sub (ih (h + 1) (by omega) (by omega)) rfl ⟨Or.inr rfl, Or.inr rfl, Or.inr (congrArg (fun z => some (Value.int z)) (by rw [em, if_neg (fun z => b30 (((mSo_ne (ok.so b hb h h10).1).2 0 (by decide) (by decide)).mpr z)), if_pos (((mSo_ne (ok.so b hb h h10).1).2 1 (by decide) (by decide)).mp b51)])), Or.inr rfl, Or.inl rfl, trivial⟩
            | exact zA.sub (ih (h + 1) (by omega) (by omega)) rfl ⟨Or.inr rfl, Or.inr rfl, Or.inr (congrArg (fun z => some (Value.int z)) (by rw [em, if_neg (fun z => b30 (((mSo_ne (ok.so b hb h h10).1).2 0 (by decide) (by decide)).mpr z)), if_neg (fun z => b51 (((mSo_ne (ok.so b hb h h10).1).2 1 (by decide) (by decide)).mpr z)), Int32.add_zero])), Or.inr rfl, Or.inl rfl, trivial⟩
      · refine z_aload_n dX12_weightOf_33 rfl ?_
        refine z_getR (j := 11) (r := 136) kX12 lf_X12_35 (by decide) rfl dX12_weightOf_34 k0_127 s0_127 r0_127_11 (by decide) ?_
        refine z_iload dX12_weightOf_37 rfl ?_
        refine z_ialdV (j := (10 * b + h)) rfl (by omega) ((C.book b hb).2 h h10).2 dX12_weightOf_39 k0_136 s0_136 ?_
        refine z_goto (tgt := 61) dX12_weightOf_40 (by decide) ?_
        refine z_iadd dX12_weightOf_61 ?_
        refine z_istore_n dX12_weightOf_62 (by decide) rfl rfl ?_
        refine z_iincN (k := h) dX12_weightOf_63 rfl rfl (by decide) rfl rfl ?_
        refine z_goto (tgt := 4) dX12_weightOf_66 (by decide) ?_
        have em : fOwn (A.so b) (A.va b) (h + 1) = if A.so b h = 0 then fOwn (A.so b) (A.va b) h + A.va b h else if A.so b h = 1 then fOwn (A.so b) (A.va b) h + 1000 else fOwn (A.so b) (A.va b) h := rfl
        first
          | exact zA.sub (ih (h + 1) (by omega) (by omega)) rfl ⟨Or.inr rfl, Or.inr rfl, Or.inr (congrArg (fun z => some (Value.int z)) (by rw [em, if_pos (((mSo_ne (ok.so b hb h h10).1).2 0 (by decide) (by decide)).mp b30)])), Or.inr rfl, Or.inl rfl, trivial⟩
          | exact zA.sub (ih (h + 1) (by omega) (by omega)) rfl ⟨Or.inr rfl, Or.inr rfl, Or.inr (congrArg (fun z => some (Value.int z)) (by rw [em, if_neg (fun z => b30 (((mSo_ne (ok.so b hb h h10).1).2 0 (by decide) (by decide)).mpr z)), if_pos (((mSo_ne (ok.so b hb h h10).1).2 1 (by decide) (by decide)).mp b51)])), Or.inr rfl, Or.inl rfl, trivial⟩
          | exact zA.sub (ih (h + 1) (by omega) (by omega)) rfl ⟨Or.inr rfl, Or.inr rfl, Or.inr (congrArg (fun z => some (Value.int z)) (by rw [em, if_neg (fun z => b30 (((mSo_ne (ok.so b hb h h10).1).2 0 (by decide) (by decide)).mpr z)), if_neg (fun z => b51 (((mSo_ne (ok.so b hb h h10).1).2 1 (by decide) (by decide)).mpr z)), Int32.add_zero])), Or.inr rfl, Or.inl rfl, trivial⟩

set_option maxRecDepth 100000 in
set_option maxHeartbeats 4000000 in
theorem c_X12_weightOf (g : zG) (l : Launch) {M : zM} {A : aSt} (ok : aOK A) (C : RelM M A) {b : Nat} (hb : b < 4) : zMet g l yX12_weightOf cX12_weightOf 5 (some .int) 0 0 0 [.ref 127, .int (nI b)] S0 M (zQi (fun r' M' => r' = fOwn (A.so b) (A.va b) (A.ln b) ∧ M' = M)) := by
  refine zMet.of (by decide) (Nat.le_of_ble_eq_true rfl) ?_
  refine z_iconst (v := 0) dX12_weightOf_0 (by decide) ?_
  refine z_istore_n dX12_weightOf_1 (by decide) rfl rfl ?_
  refine z_iconst (v := 0) dX12_weightOf_2 (by decide) ?_
  refine z_istore_n dX12_weightOf_3 (by decide) rfl rfl ?_
  exact lp_weightOf2 g l ok C hb (A.ln b + 1) 0 (Nat.zero_le _) (by omega)

set_option maxRecDepth 100000 in
set_option maxHeartbeats 4000000 in
theorem lp_weighIn (g : zG) (l : Launch) {M : zM} {A : aSt} (ok : aOK A) (C : RelM M A) {b : Nat} {w s0 s : Int32} {r0 : Nat} (Kz : zA g l yX12_weigh cX12_weigh 6 (some .int) 2 0 0 (zQi (fun r' M' => r' = (if w = 0 then mSum A (mRea A s0 4) 4 else fBits (mRea A s0 4) 8) ∧ M' = M)) 85 0 0 S0 M [.ref 127, .int (nI b), .int w, .int (mRnd A s 4), .int (nI r0), .int (nI 4)] []) : ∀ (k h : Nat), h ≤ 4 → 4 - h < k → zA g l yX12_weigh cX12_weigh 6 (some .int) 2 0 0 (zQi (fun r' M' => r' = (if w = 0 then mSum A (mRea A s0 4) 4 else fBits (mRea A s0 4) 8) ∧ M' = M)) 51 0 0 S0 M [.ref 127, .int (nI b), .int w, .int (mRnd A s h), .int (nI r0), .int (nI h)] [] := by
  have n8 : A.n ≤ 8 := ok.s.1.1
  have r4 : A.r ≤ 4 := ok.s.1.2.1
  have i6 : A.i ≤ 6 := ok.s.1.2.2.1
  have u8 : A.u ≤ 8 := ok.u
  intro k
  induction k with
  | zero => intro h hh hk; exact absurd hk (Nat.not_lt_zero _)
  | succ k ih =>
    intro h hh hk 
    refine z_iload dX12_weigh_51 rfl ?_
    refine z_iconst (v := 4) dX12_weigh_53 (by decide) ?_
    refine z_icmp_ge (tgt := 85) dX12_weigh_54 (by decide) (fun b54 => ?_) (fun b54 => ?_)
    · have e : 4 ≤ h := (nI_leI (by omega) (by omega)).mp b54
      have e2 : h = 4 := by omega
      subst e2
      exact Kz
    · have hn : h < 4 := by
        rcases Nat.lt_or_ge h 4 with z | z
        · exact z
        · exact absurd (nI_le z (by omega)) b54
      refine z_iload_n dX12_weigh_57 rfl ?_
      refine z_iload_n dX12_weigh_58 rfl ?_
      refine z_iload dX12_weigh_59 rfl ?_
      refine z_iS2 (c_X12_has g l) mw_X12_has lm_X12_188 ms_X12_has (by decide) (Nat.le_of_ble_eq_true rfl) zle dX12_weigh_61 (fun r61 M61 q61 => ?_)
      obtain ⟨qm61, qr61⟩ := q61
      obtain rfl := qm61.symm
      obtain ⟨c61, rfl⟩ | ⟨c61, rfl⟩ := qr61
      · refine z_if_eq (tgt := 76) dX12_weigh_64 (by decide) (fun b64 => ?_) (fun b64 => ?_)
        · exact absurd b64 (by decide)
        · refine z_aload_n dX12_weigh_67 rfl ?_
          refine z_iload dX12_weigh_68 rfl ?_
          refine z_iV1 (c_X12_toldBy g l ok C hn) mw_X12_toldBy lm_X12_289 mi_X12_toldBy mv_X12_toldBy kX12 (by decide) (Nat.le_of_ble_eq_true rfl) zle k0_127 s0_127 dX12_weigh_70 (fun r70 M70 q70 => ?_)
          obtain ⟨qr70, qm70⟩ := q70
          obtain rfl := qr70.symm
          obtain rfl := qm70.symm
          refine z_goto (tgt := 77) dX12_weigh_73 (by decide) ?_
          refine z_ior dX12_weigh_77 ?_
          refine z_istore_n dX12_weigh_78 (by decide) rfl rfl ?_
          refine z_iincN (k := h) dX12_weigh_79 rfl rfl (by decide) rfl rfl ?_
          refine z_goto (tgt := 51) dX12_weigh_82 (by decide) ?_
          first
            | exact zA.sub (ih (h + 1) (by omega) (by omega)) rfl ⟨Or.inr rfl, Or.inr rfl, Or.inr rfl, Or.inr (congrArg (fun z => some (Value.int z)) (congrArg (fun z => mRnd A s h ||| z) (if_pos c61).symm)), Or.inr rfl, Or.inr rfl, trivial⟩
            | exact zA.sub (ih (h + 1) (by omega) (by omega)) rfl ⟨Or.inr rfl, Or.inr rfl, Or.inr rfl, Or.inr (congrArg (fun z => some (Value.int z)) (congrArg (fun z => mRnd A s h ||| z) (if_neg c61).symm)), Or.inr rfl, Or.inr rfl, trivial⟩
      · refine z_if_eq (tgt := 76) dX12_weigh_64 (by decide) (fun b64 => ?_) (fun b64 => ?_)
        · refine z_iconst (v := 0) dX12_weigh_76 (by decide) ?_
          refine z_ior dX12_weigh_77 ?_
          refine z_istore_n dX12_weigh_78 (by decide) rfl rfl ?_
          refine z_iincN (k := h) dX12_weigh_79 rfl rfl (by decide) rfl rfl ?_
          refine z_goto (tgt := 51) dX12_weigh_82 (by decide) ?_
          first
            | exact zA.sub (ih (h + 1) (by omega) (by omega)) rfl ⟨Or.inr rfl, Or.inr rfl, Or.inr rfl, Or.inr (congrArg (fun z => some (Value.int z)) (congrArg (fun z => mRnd A s h ||| z) (if_pos c61).symm)), Or.inr rfl, Or.inr rfl, trivial⟩
            | exact zA.sub (ih (h + 1) (by omega) (by omega)) rfl ⟨Or.inr rfl, Or.inr rfl, Or.inr rfl, Or.inr (congrArg (fun z => some (Value.int z)) (congrArg (fun z => mRnd A s h ||| z) (if_neg c61).symm)), Or.inr rfl, Or.inr rfl, trivial⟩
        · exact absurd b64 (by decide)

set_option maxRecDepth 100000 in
set_option maxHeartbeats 4000000 in
theorem lp_weighSum (g : zG) (l : Launch) {M : zM} {A : aSt} (ok : aOK A) (C : RelM M A) {b : Nat} {w s0 : Int32} : ∀ (k h : Nat), h ≤ 4 → 4 - h < k → zA g l yX12_weigh cX12_weigh 6 (some .int) 2 0 0 (zQi (fun r' M' => r' = (if w = 0 then mSum A (mRea A s0 4) 4 else fBits (mRea A s0 4) 8) ∧ M' = M)) 99 0 0 S0 M [.ref 127, .int (nI b), .int w, .int (mRea A s0 4), .int (mSum A (mRea A s0 4) h), .int (nI h)] [] := by
  have n8 : A.n ≤ 8 := ok.s.1.1
  have r4 : A.r ≤ 4 := ok.s.1.2.1
  have i6 : A.i ≤ 6 := ok.s.1.2.2.1
  have u8 : A.u ≤ 8 := ok.u
  intro k
  induction k with
  | zero => intro h hh hk; exact absurd hk (Nat.not_lt_zero _)
  | succ k ih =>
    intro h hh hk 
    refine z_iload dX12_weigh_99 rfl ?_
    refine z_iconst (v := 4) dX12_weigh_101 (by decide) ?_
    refine z_icmp_ge (tgt := 135) dX12_weigh_102 (by decide) (fun b102 => ?_) (fun b102 => ?_)
    · have e : 4 ≤ h := (nI_leI (by omega) (by omega)).mp b102
      have e2 : h = 4 := by omega
      subst e2
      refine z_iload_n dX12_weigh_135 rfl ?_
      refine z_if_ne (tgt := 144) dX12_weigh_136 (by decide) (fun b136 => ?_) (fun b136 => ?_)
      · refine z_iload_n dX12_weigh_144 rfl ?_
        refine z_iS1 (c_X12_bits g l) mw_X12_bits lm_X12_261 ms_X12_bits (by decide) (Nat.le_of_ble_eq_true rfl) zle dX12_weigh_145 (fun r145 M145 q145 => ?_)
        obtain ⟨qr145, qm145⟩ := q145
        obtain rfl := qr145.symm
        obtain rfl := qm145.symm
        refine z_iret dX12_weigh_148 rfl zle ?_
        first
          | exact ⟨(if_pos b136).symm, rfl⟩
          | exact ⟨(if_neg b136).symm, rfl⟩
      · refine z_iload dX12_weigh_139 rfl ?_
        refine z_goto (tgt := 148) dX12_weigh_141 (by decide) ?_
        refine z_iret dX12_weigh_148 rfl zle ?_
        first
          | exact ⟨(if_pos b136).symm, rfl⟩
          | exact ⟨(if_neg b136).symm, rfl⟩
    · have hn : h < 4 := by
        rcases Nat.lt_or_ge h 4 with z | z
        · exact z
        · exact absurd (nI_le z (by omega)) b102
      refine z_iload dX12_weigh_105 rfl ?_
      refine z_iload_n dX12_weigh_107 rfl ?_
      refine z_iload dX12_weigh_108 rfl ?_
      refine z_iS2 (c_X12_has g l) mw_X12_has lm_X12_188 ms_X12_has (by decide) (Nat.le_of_ble_eq_true rfl) zle dX12_weigh_110 (fun r110 M110 q110 => ?_)
      obtain ⟨qm110, qr110⟩ := q110
      obtain rfl := qm110.symm
      obtain ⟨c110, rfl⟩ | ⟨c110, rfl⟩ := qr110
      · refine z_if_eq (tgt := 125) dX12_weigh_113 (by decide) (fun b113 => ?_) (fun b113 => ?_)
        · exact absurd b113 (by decide)
        · refine z_aload_n dX12_weigh_116 rfl ?_
          refine z_iload dX12_weigh_117 rfl ?_
          refine z_iV1 (c_X12_weightOf g l ok C hn) mw_X12_weightOf lm_X12_293 mi_X12_weightOf mv_X12_weightOf kX12 (by decide) (Nat.le_of_ble_eq_true rfl) zle k0_127 s0_127 dX12_weigh_119 (fun r119 M119 q119 => ?_)
          obtain ⟨qr119, qm119⟩ := q119
          obtain rfl := qr119.symm
          obtain rfl := qm119.symm
          refine z_goto (tgt := 126) dX12_weigh_122 (by decide) ?_
          refine z_iadd dX12_weigh_126 ?_
          refine z_istore dX12_weigh_127 (by decide) rfl rfl ?_
          refine z_iincN (k := h) dX12_weigh_129 rfl rfl (by decide) rfl rfl ?_
          refine z_goto (tgt := 99) dX12_weigh_132 (by decide) ?_
          first
            | exact zA.sub (ih (h + 1) (by omega) (by omega)) rfl ⟨Or.inr rfl, Or.inr rfl, Or.inr rfl, Or.inr rfl, Or.inr (congrArg (fun z => some (Value.int z)) (congrArg (fun z => mSum A (mRea A s0 4) h + z) (if_pos c110).symm)), Or.inr rfl, trivial⟩
            | exact zA.sub (ih (h + 1) (by omega) (by omega)) rfl ⟨Or.inr rfl, Or.inr rfl, Or.inr rfl, Or.inr rfl, Or.inr (congrArg (fun z => some (Value.int z)) (congrArg (fun z => mSum A (mRea A s0 4) h + z) (if_neg c110).symm)), Or.inr rfl, trivial⟩
      · refine z_if_eq (tgt := 125) dX12_weigh_113 (by decide) (fun b113 => ?_) (fun b113 => ?_)
        · refine z_iconst (v := 0) dX12_weigh_125 (by decide) ?_
          refine z_iadd dX12_weigh_126 ?_
          refine z_istore dX12_weigh_127 (by decide) rfl rfl ?_
          refine z_iincN (k := h) dX12_weigh_129 rfl rfl (by decide) rfl rfl ?_
          refine z_goto (tgt := 99) dX12_weigh_132 (by decide) ?_
          first
            | exact zA.sub (ih (h + 1) (by omega) (by omega)) rfl ⟨Or.inr rfl, Or.inr rfl, Or.inr rfl, Or.inr rfl, Or.inr (congrArg (fun z => some (Value.int z)) (congrArg (fun z => mSum A (mRea A s0 4) h + z) (if_pos c110).symm)), Or.inr rfl, trivial⟩
            | exact zA.sub (ih (h + 1) (by omega) (by omega)) rfl ⟨Or.inr rfl, Or.inr rfl, Or.inr rfl, Or.inr rfl, Or.inr (congrArg (fun z => some (Value.int z)) (congrArg (fun z => mSum A (mRea A s0 4) h + z) (if_neg c110).symm)), Or.inr rfl, trivial⟩
        · exact absurd b113 (by decide)

set_option maxRecDepth 100000 in
set_option maxHeartbeats 4000000 in
theorem lp_weigh (g : zG) (l : Launch) {M : zM} {A : aSt} (ok : aOK A) (C : RelM M A) {b : Nat} {w s0 : Int32} : ∀ (k h : Nat), h ≤ 4 → 4 - h < k → zA g l yX12_weigh cX12_weigh 6 (some .int) 2 0 0 (zQi (fun r' M' => r' = (if w = 0 then mSum A (mRea A s0 4) 4 else fBits (mRea A s0 4) 8) ∧ M' = M)) 42 0 0 S0 M [.ref 127, .int (nI b), .int w, .int (mRea A s0 h), .int (nI h), .null] [] := by
  have n8 : A.n ≤ 8 := ok.s.1.1
  have r4 : A.r ≤ 4 := ok.s.1.2.1
  have i6 : A.i ≤ 6 := ok.s.1.2.2.1
  have u8 : A.u ≤ 8 := ok.u
  intro k
  induction k with
  | zero => intro h hh hk; exact absurd hk (Nat.not_lt_zero _)
  | succ k ih =>
    intro h hh hk 
    refine z_iload dX12_weigh_42 rfl ?_
    refine z_iconst (v := 4) dX12_weigh_44 (by decide) ?_
    refine z_icmp_ge (tgt := 91) dX12_weigh_45 (by decide) (fun b45 => ?_) (fun b45 => ?_)
    · have e : 4 ≤ h := (nI_leI (by omega) (by omega)).mp b45
      have e2 : h = 4 := by omega
      subst e2
      refine z_ldcw lc_X12_292 dX12_weigh_91 ?_
      refine z_istore dX12_weigh_94 (by decide) rfl rfl ?_
      refine z_iconst (v := 0) dX12_weigh_96 (by decide) ?_
      refine z_istore dX12_weigh_97 (by decide) rfl rfl ?_
      exact lp_weighSum g l ok C 5 0 (Nat.zero_le _) (by omega)
    · have hn : h < 4 := by
        rcases Nat.lt_or_ge h 4 with z | z
        · exact z
        · exact absurd (nI_le z (by omega)) b45
      refine z_iconst (v := 0) dX12_weigh_48 (by decide) ?_
      refine z_istore dX12_weigh_49 (by decide) rfl rfl ?_
      refine lp_weighIn g l ok C ?_ 5 0 (Nat.zero_le _) (by omega)
      refine z_iincN (k := h) dX12_weigh_85 rfl rfl (by decide) rfl rfl ?_
      refine z_goto (tgt := 42) dX12_weigh_88 (by decide) ?_
      exact zA.sub (ih (h + 1) (by omega) (by omega)) rfl ⟨Or.inr rfl, Or.inr rfl, Or.inr rfl, Or.inr rfl, Or.inr rfl, Or.inl rfl, trivial⟩

set_option maxRecDepth 100000 in
set_option maxHeartbeats 4000000 in
theorem c_X12_weigh (g : zG) (l : Launch) {M : zM} {A : aSt} (ok : aOK A) (C : RelM M A) {x w : Int32} : zMet g l yX12_weigh cX12_weigh 6 (some .int) 2 0 0 [.ref 127, .int x, .int w] S0 M (zQi (fun r' M' => zAnsM M A (aWeigh A x w) r' M')) := by
  have n8 : A.n ≤ 8 := ok.s.1.1
  have r4 : A.r ≤ 4 := ok.s.1.2.1
  have i6 : A.i ≤ 6 := ok.s.1.2.2.1
  have u8 : A.u ≤ 8 := ok.u
  rcases zInD x (show 4 < 1000 by omega) with ⟨h, hh, rfl⟩ | hx
  all_goals rw [← weigh_eq ok]
  · have hln := (ok.ln h hh).1
    refine zMet.of (by decide) (Nat.le_of_ble_eq_true rfl) ?_
    refine z_iload_n dX12_weigh_0 rfl ?_
    refine z_iS1 (c_X12_isBook g l) mw_X12_isBook lm_X12_278 ms_X12_isBook (by decide) (Nat.le_of_ble_eq_true rfl) zle dX12_weigh_1 (fun r1 M1 q1 => ?_)
    obtain ⟨qm1, qr1⟩ := q1
    obtain rfl := qm1.symm
    obtain ⟨c1, rfl⟩ | ⟨c1, rfl⟩ := qr1
    · refine z_if_ne (tgt := 10) dX12_weigh_4 (by decide) (fun b4 => ?_) (fun b4 => ?_)
      · refine z_iload_n dX12_weigh_10 rfl ?_
        refine z_i2l dX12_weigh_11 ?_
        refine z_lconst (v := 0) dX12_weigh_12 (by decide) ?_
        refine z_lconst (v := 1) dX12_weigh_13 (by decide) ?_
        refine z_iS3 (c_X12_in g l) mw_X12_in lm_X12_79 ms_X12_in (by decide) (Nat.le_of_ble_eq_true rfl) zle dX12_weigh_14 (fun r14 M14 q14 => ?_)
        obtain ⟨qm, qr⟩ := q14
        obtain rfl := qm.symm
        rcases qr with ⟨c14, rfl⟩ | ⟨c14, rfl⟩
        · have d14 := (l_inn (a := 0) (z := 1) (by decide) (by decide)).mp c14
          refine z_if_ne (tgt := 23) dX12_weigh_17 (by decide) (fun b17 => ?_) (fun b17 => ?_)
          · have bb : ¬ (w < 0 ∨ 1 < w) := fun z => z.elim (Int32.not_lt.mpr d14.1) (Int32.not_lt.mpr d14.2)
            refine z_aload_n dX12_weigh_23 rfl ?_
            refine z_getR (j := 9) (r := 134) kX12 lf_X12_29 (by decide) rfl dX12_weigh_24 k0_127 s0_127 r0_127_9 (by decide) ?_
            refine z_iload_n dX12_weigh_27 rfl ?_
            refine z_ialdV (j := h) rfl (by omega) (C.book h (by omega)).1 dX12_weigh_28 k0_134 s0_134 ?_
            refine z_if_ge (tgt := 35) dX12_weigh_29 (by decide) (fun b29 => ?_) (fun b29 => ?_)
            · refine z_iconst (v := 1) dX12_weigh_35 (by decide) ?_
              refine z_iload_n dX12_weigh_36 rfl ?_
              refine z_ishl dX12_weigh_37 ?_
              refine z_istore_n dX12_weigh_38 (by decide) rfl rfl ?_
              refine z_iconst (v := 0) dX12_weigh_39 (by decide) ?_
              refine z_istore dX12_weigh_40 (by decide) rfl rfl ?_
              refine (lp_weigh g l ok C (s0 := 1 <<< (nI h &&& 31)) 5 0 (Nat.zero_le _) (by omega)).weak (fun v S2 M2 q => ?_)
              obtain ⟨qa, rr, qb, qc, qd⟩ := q
              obtain rfl := qd.symm
              exact ⟨qa, rr, qb, zAnsM.of C (by rw [qc]; unfold aWeighM; rw [aIx_in hh (by omega), if_neg bb]; exact (if_pos ((bSz_ge hln).mp b29)).symm)⟩
            · refine z_bipush (v := (-11)) dX12_weigh_32 (by decide) ?_
              refine z_iret dX12_weigh_34 rfl zle ?_
              exact zAnsM.of C (by unfold aWeighM; rw [aIx_in hh (by omega), if_neg bb]; exact (if_neg (fun z => b29 ((bSz_ge hln).mpr z))).symm)
          · exact absurd b17 (by decide)
        · have d14 := fun z => c14 ((l_inn (a := 0) (z := 1) (by decide) (by decide)).mpr z)
          refine z_if_ne (tgt := 23) dX12_weigh_17 (by decide) (fun b17 => ?_) (fun b17 => ?_)
          · exact absurd b17 (by decide)
          · refine z_bipush (v := (-3)) dX12_weigh_20 (by decide) ?_
            refine z_iret dX12_weigh_22 rfl zle ?_
            exact zAnsM.of C (by unfold aWeighM; rw [aIx_in hh (by omega)]; exact (if_pos (by by_cases z : w < 0; exact Or.inl z; exact Or.inr (Int32.not_le.mp (fun z2 => d14 ⟨Int32.not_lt.mp z, z2⟩)))).symm)
      · exact absurd b4 (by decide)
    · exact absurd (le3.mpr (zInP (n := 4) hh (by omega))) c1
  · refine zMet.of (by decide) (Nat.le_of_ble_eq_true rfl) ?_
    refine z_iload_n dX12_weigh_0 rfl ?_
    refine z_iS1 (c_X12_isBook g l) mw_X12_isBook lm_X12_278 ms_X12_isBook (by decide) (Nat.le_of_ble_eq_true rfl) zle dX12_weigh_1 (fun r1 M1 q1 => ?_)
    obtain ⟨qm1, qr1⟩ := q1
    obtain rfl := qm1.symm
    obtain ⟨c1, rfl⟩ | ⟨c1, rfl⟩ := qr1
    · exact absurd (le3.mp c1) hx
    · refine z_if_ne (tgt := 10) dX12_weigh_4 (by decide) (fun b4 => ?_) (fun b4 => ?_)
      · exact absurd b4 (by decide)
      · refine z_bipush (v := (-2)) dX12_weigh_7 (by decide) ?_
        refine z_iret dX12_weigh_9 rfl zle ?_
        exact zAnsM.of C (by unfold aWeighM; rw [aIx_out hx])

set_option maxRecDepth 100000 in
set_option maxHeartbeats 4000000 in
theorem lp_drop (g : zG) (l : Launch) {M : zM} {A : aSt} (ok : aOK A) (C : RelM M A) {b : Nat} (hb : b < 4) : ∀ (k h : Nat), h ≤ (A.ln b) → (A.ln b) - h < k → zA g l yX12_drop cX12_drop 4 (some .int) 2 0 0 (zQi (fun r' M' => r' = fFill (A.so b) (A.ln b) ∧ M' = z_up M 134 b (-1))) 26 0 0 S0 M [.ref 127, .int (nI b), .int (fFill (A.so b) h), .int (nI h)] [] := by
  have n8 : A.n ≤ 8 := ok.s.1.1
  have r4 : A.r ≤ 4 := ok.s.1.2.1
  have i6 : A.i ≤ 6 := ok.s.1.2.2.1
  have u8 : A.u ≤ 8 := ok.u
  have hL := bSz_len (ok.ln b hb)
  intro k
  induction k with
  | zero => intro h hh hk; exact absurd hk (Nat.not_lt_zero _)
  | succ k ih =>
    intro h hh hk 
    refine z_iload_n dX12_drop_26 rfl ?_
    refine z_aload_n dX12_drop_27 rfl ?_
    refine z_getR (j := 9) (r := 134) kX12 lf_X12_29 (by decide) rfl dX12_drop_28 k0_127 s0_127 r0_127_9 (by decide) ?_
    refine z_iload_n dX12_drop_31 rfl ?_
    refine z_ialdV (j := b) rfl (by omega) (C.book b (by omega)).1 dX12_drop_32 k0_134 s0_134 ?_
    refine z_icmp_ge (tgt := 65) dX12_drop_33 (by decide) (fun b33 => ?_) (fun b33 => ?_)
    · have e2 : h = A.ln b := by have := (hL.2 h (by have := hL.1; omega)).mp b33; omega
      subst e2
      refine z_aload_n dX12_drop_65 rfl ?_
      refine z_getR (j := 9) (r := 134) kX12 lf_X12_29 (by decide) rfl dX12_drop_66 k0_127 s0_127 r0_127_9 (by decide) ?_
      refine z_iload_n dX12_drop_69 rfl ?_
      refine z_iconst (v := (-1)) dX12_drop_70 (by decide) ?_
      refine z_iastN (j := b) rfl (by omega) dX12_drop_71 k0_134 s0_134 ?_
      refine z_iload_n dX12_drop_72 rfl ?_
      exact z_iret dX12_drop_73 rfl zle (⟨rfl, rfl⟩)
    · have hn : h < A.ln b := Nat.lt_of_not_le (fun z => b33 ((hL.2 h (by have := hL.1; omega)).mpr z))
      have h10 : h < 10 := by have := hL.1; omega
      refine z_iload_n dX12_drop_36 rfl ?_
      refine z_aload_n dX12_drop_37 rfl ?_
      refine z_getR (j := 10) (r := 135) kX12 lf_X12_32 (by decide) rfl dX12_drop_38 k0_127 s0_127 r0_127_10 (by decide) ?_
      refine z_bipush (v := 10) dX12_drop_41 (by decide) ?_
      refine z_iload_n dX12_drop_43 rfl ?_
      refine z_imulN (a := 10) (b := b) rfl rfl dX12_drop_44 ?_
      refine z_iload_n dX12_drop_45 rfl ?_
      refine z_iaddN (a := (10 * b)) (b := h) rfl rfl dX12_drop_46 ?_
      refine z_ialdV (j := (10 * b + h)) rfl (by omega) ((C.book b hb).2 h h10).1 dX12_drop_47 k0_135 s0_135 ?_
      refine z_iconst (v := (-1)) dX12_drop_48 (by decide) ?_
      refine z_icmp_ne (tgt := 56) dX12_drop_49 (by decide) (fun b49 => ?_) (fun b49 => ?_)
      · refine z_iconst (v := 1) dX12_drop_56 (by decide) ?_
        refine z_iadd dX12_drop_57 ?_
        refine z_istore_n dX12_drop_58 (by decide) rfl rfl ?_
        refine z_iincN (k := h) dX12_drop_59 rfl rfl (by decide) rfl rfl ?_
        refine z_goto (tgt := 26) dX12_drop_62 (by decide) ?_
        have em : fFill (A.so b) (h + 1) = if A.so b h = 3 then fFill (A.so b) h else fFill (A.so b) h + 1 := rfl
        first
          | exact zA.sub (ih (h + 1) (by omega) (by omega)) rfl ⟨Or.inr rfl, Or.inr rfl, Or.inr (congrArg (fun z => some (Value.int z)) (by rw [em, if_pos ((mSo_ne (ok.so b hb h h10).1).1.mp b49), Int32.add_zero])), Or.inr rfl, trivial⟩
          | exact zA.sub (ih (h + 1) (by omega) (by omega)) rfl ⟨Or.inr rfl, Or.inr rfl, Or.inr (congrArg (fun z => some (Value.int z)) (by rw [em, if_neg (fun z => b49 ((mSo_ne (ok.so b hb h h10).1).1.mpr z))])), Or.inr rfl, trivial⟩
      · refine z_iconst (v := 0) dX12_drop_52 (by decide) ?_
        refine z_goto (tgt := 57) dX12_drop_53 (by decide) ?_
        refine z_iadd dX12_drop_57 ?_
        refine z_istore_n dX12_drop_58 (by decide) rfl rfl ?_
        refine z_iincN (k := h) dX12_drop_59 rfl rfl (by decide) rfl rfl ?_
        refine z_goto (tgt := 26) dX12_drop_62 (by decide) ?_
        have em : fFill (A.so b) (h + 1) = if A.so b h = 3 then fFill (A.so b) h else fFill (A.so b) h + 1 := rfl
        first
          | exact zA.sub (ih (h + 1) (by omega) (by omega)) rfl ⟨Or.inr rfl, Or.inr rfl, Or.inr (congrArg (fun z => some (Value.int z)) (by rw [em, if_pos ((mSo_ne (ok.so b hb h h10).1).1.mp b49), Int32.add_zero])), Or.inr rfl, trivial⟩
          | exact zA.sub (ih (h + 1) (by omega) (by omega)) rfl ⟨Or.inr rfl, Or.inr rfl, Or.inr (congrArg (fun z => some (Value.int z)) (by rw [em, if_neg (fun z => b49 ((mSo_ne (ok.so b hb h h10).1).1.mpr z))])), Or.inr rfl, trivial⟩

set_option maxRecDepth 100000 in
set_option maxHeartbeats 4000000 in
theorem c_X12_drop (g : zG) (l : Launch) {M : zM} {A : aSt} (ok : aOK A) (C : RelM M A) {x : Int32} : zMet g l yX12_drop cX12_drop 4 (some .int) 2 0 0 [.ref 127, .int x] S0 M (zQi (fun r' M' => zStpM M (sDrop A x) r' M')) := by
  have n8 : A.n ≤ 8 := ok.s.1.1
  have r4 : A.r ≤ 4 := ok.s.1.2.1
  have i6 : A.i ≤ 6 := ok.s.1.2.2.1
  have u8 : A.u ≤ 8 := ok.u
  rcases zInD x (show 4 < 1000 by omega) with ⟨h, hh, rfl⟩ | hx
  · have hln := (ok.ln h hh).1
    refine zMet.of (by decide) (Nat.le_of_ble_eq_true rfl) ?_
    refine z_iload_n dX12_drop_0 rfl ?_
    refine z_iS1 (c_X12_isBook g l) mw_X12_isBook lm_X12_278 ms_X12_isBook (by decide) (Nat.le_of_ble_eq_true rfl) zle dX12_drop_1 (fun r1 M1 q1 => ?_)
    obtain ⟨qm1, qr1⟩ := q1
    obtain rfl := qm1.symm
    obtain ⟨c1, rfl⟩ | ⟨c1, rfl⟩ := qr1
    · refine z_if_ne (tgt := 10) dX12_drop_4 (by decide) (fun b4 => ?_) (fun b4 => ?_)
      · refine z_aload_n dX12_drop_10 rfl ?_
        refine z_getR (j := 9) (r := 134) kX12 lf_X12_29 (by decide) rfl dX12_drop_11 k0_127 s0_127 r0_127_9 (by decide) ?_
        refine z_iload_n dX12_drop_14 rfl ?_
        refine z_ialdV (j := h) rfl (by omega) (C.book h (by omega)).1 dX12_drop_15 k0_134 s0_134 ?_
        refine z_if_ge (tgt := 22) dX12_drop_16 (by decide) (fun b16 => ?_) (fun b16 => ?_)
        · refine z_iconst (v := 0) dX12_drop_22 (by decide) ?_
          refine z_istore_n dX12_drop_23 (by decide) rfl rfl ?_
          refine z_iconst (v := 0) dX12_drop_24 (by decide) ?_
          refine z_istore_n dX12_drop_25 (by decide) rfl rfl ?_
          refine (lp_drop g l ok C hh (A.ln h + 1) 0 (Nat.zero_le _) (by omega)).weak (fun v S2 M2 q => ?_)
          obtain ⟨qa, rr, qb, qc, qd⟩ := q
          have C1 := C.putB (M' := M2) hh (o := false) (n := 0) (f := A.so h) (v := A.va h) (by rw [qd, z_up_kj]; rfl) (fun x hx e => by rw [qd, z_up_jn _ _ e]) (fun j hj => by rw [qd, z_up_n _ _ _ (by omega), z_up_n _ _ _ (by omega)]; exact (C.book h hh).2 j hj) (fun x hx e j hj => by rw [qd, z_up_n _ _ _ (by omega), z_up_n _ _ _ (by omega)]; exact ⟨rfl, rfl⟩) (fun k a => by rw [qd, z_up_n _ _ _ (by omega)])
          exact ⟨qa, rr, qb, zStpM.mk C1.1 C1.2 (by unfold sDrop; rw [aIx_in hh (by omega), if_pos ((bSz_ge hln).mp b16)]) qc⟩
        · refine z_bipush (v := (-11)) dX12_drop_19 (by decide) ?_
          refine z_iret dX12_drop_21 rfl zle ?_
          exact zStpM.of C (by unfold sDrop; rw [aIx_in hh (by omega)]; exact if_neg (fun z => b16 ((bSz_ge hln).mpr z)))
      · exact absurd b4 (by decide)
    · exact absurd (le3.mpr (zInP (n := 4) hh (by omega))) c1
  · refine zMet.of (by decide) (Nat.le_of_ble_eq_true rfl) ?_
    refine z_iload_n dX12_drop_0 rfl ?_
    refine z_iS1 (c_X12_isBook g l) mw_X12_isBook lm_X12_278 ms_X12_isBook (by decide) (Nat.le_of_ble_eq_true rfl) zle dX12_drop_1 (fun r1 M1 q1 => ?_)
    obtain ⟨qm1, qr1⟩ := q1
    obtain rfl := qm1.symm
    obtain ⟨c1, rfl⟩ | ⟨c1, rfl⟩ := qr1
    · exact absurd (le3.mp c1) hx
    · refine z_if_ne (tgt := 10) dX12_drop_4 (by decide) (fun b4 => ?_) (fun b4 => ?_)
      · exact absurd b4 (by decide)
      · refine z_bipush (v := (-2)) dX12_drop_7 (by decide) ?_
        refine z_iret dX12_drop_9 rfl zle ?_
        exact zStpM.of C (by unfold sDrop; rw [aIx_out hx])

set_option maxRecDepth 100000 in
set_option maxHeartbeats 4000000 in
theorem lp_copy2 (g : zG) (l : Launch) {M0 : zM} {b a c e m : Nat} (hb : b < 4) (hc : c < 4) (ha : a + m ≤ 10) (he : e + m ≤ 10) : ∀ (k h : Nat), h ≤ m → m - h < k → zA g l yX12_copy cX12_copy 7 (some .int) 2 0 0 (zQi (fun r' M' => r' = nI m ∧ M' = (z_row (z_row M0 135 (va_cpy (M0 148) (M0 135) 0 (10 * c + e) m)) 136 (va_cpy (M0 149) (M0 136) 0 (10 * c + e) m)))) 125 0 0 S0 (z_row (z_row M0 135 (va_cpy (M0 148) (M0 135) 0 (10 * c + e) h)) 136 (va_cpy (M0 149) (M0 136) 0 (10 * c + e) h)) [.ref 127, .int (nI b), .int (nI a), .int (nI c), .int (nI e), .int (nI m), .int (nI h)] [] := by
  intro k
  induction k with
  | zero => intro h hh hk; exact absurd hk (Nat.not_lt_zero _)
  | succ k ih =>
    intro h hh hk 
    refine z_iload dX12_copy_125 rfl ?_
    refine z_iload dX12_copy_127 rfl ?_
    refine z_icmp_ge (tgt := 182) dX12_copy_129 (by decide) (fun b129 => ?_) (fun b129 => ?_)
    · have e : m ≤ h := (nI_leI (by omega) (by omega)).mp b129
      have e2 : h = m := by omega
      subst e2
      refine z_iload dX12_copy_182 rfl ?_
      exact z_iret dX12_copy_184 rfl zle (⟨rfl, rfl⟩)
    · have hn : h < m := by
        rcases Nat.lt_or_ge h m with z | z
        · exact z
        · exact absurd (nI_le z (by omega)) b129
      refine z_aload_n dX12_copy_132 rfl ?_
      refine z_getR (j := 10) (r := 135) kX12 lf_X12_32 (by decide) rfl dX12_copy_133 k0_127 s0_127 r0_127_10 (by decide) ?_
      refine z_bipush (v := 10) dX12_copy_136 (by decide) ?_
      refine z_iload_n dX12_copy_138 rfl ?_
      refine z_imulN (a := 10) (b := c) rfl rfl dX12_copy_139 ?_
      refine z_iload dX12_copy_140 rfl ?_
      refine z_iaddN (a := (10 * c)) (b := e) rfl rfl dX12_copy_142 ?_
      refine z_iload dX12_copy_143 rfl ?_
      refine z_iaddN (a := ((10 * c) + e)) (b := h) rfl rfl dX12_copy_145 ?_
      refine z_aload_n dX12_copy_146 rfl ?_
      refine z_getR (j := 32) (r := 148) kX12 lf_X12_71 (by decide) rfl dX12_copy_147 k0_127 s0_127 r0_127_32 (by decide) ?_
      refine z_iload dX12_copy_150 rfl ?_
      refine z_ialdV (j := h) rfl (by omega) (congrFun ((z_row_n _ _ (by omega)).trans (z_row_n _ _ (by omega))) h) dX12_copy_152 k0_148 s0_148 ?_
      refine z_iastN (j := ((10 * c + e) + h)) rfl (by omega) dX12_copy_153 k0_135 s0_135 ?_
      refine z_aload_n dX12_copy_154 rfl ?_
      refine z_getR (j := 11) (r := 136) kX12 lf_X12_35 (by decide) rfl dX12_copy_155 k0_127 s0_127 r0_127_11 (by decide) ?_
      refine z_bipush (v := 10) dX12_copy_158 (by decide) ?_
      refine z_iload_n dX12_copy_160 rfl ?_
      refine z_imulN (a := 10) (b := c) rfl rfl dX12_copy_161 ?_
      refine z_iload dX12_copy_162 rfl ?_
      refine z_iaddN (a := (10 * c)) (b := e) rfl rfl dX12_copy_164 ?_
      refine z_iload dX12_copy_165 rfl ?_
      refine z_iaddN (a := ((10 * c) + e)) (b := h) rfl rfl dX12_copy_167 ?_
      refine z_aload_n dX12_copy_168 rfl ?_
      refine z_getR (j := 33) (r := 149) kX12 lf_X12_74 (by decide) rfl dX12_copy_169 k0_127 s0_127 r0_127_33 (by decide) ?_
      refine z_iload dX12_copy_172 rfl ?_
      refine z_ialdV (j := h) rfl (by omega) (congrFun ((z_up_n _ _ _ (by omega)).trans ((z_row_n _ _ (by omega)).trans (z_row_n _ _ (by omega)))) h) dX12_copy_174 k0_149 s0_149 ?_
      refine z_iastN (j := ((10 * c + e) + h)) rfl (by omega) dX12_copy_175 k0_136 s0_136 ?_
      refine z_iincN (k := h) dX12_copy_176 rfl rfl (by decide) rfl rfl ?_
      refine z_goto (tgt := 125) dX12_copy_179 (by decide) ?_
      refine zA.sub (ih (h + 1) (by omega) (by omega)) ?_ ⟨Or.inr rfl, Or.inr rfl, Or.inr rfl, Or.inr rfl, Or.inr rfl, Or.inr rfl, Or.inr rfl, trivial⟩
      funext k
      by_cases c1 : k = 135
      · subst c1
        rw [z_up_n _ _ _ (by omega), z_up_s, z_row_n _ _ (by omega), z_row_s, z_row_n _ _ (by omega), z_row_s]
        funext j
        by_cases c2 : j = ((10 * c + e) + h)
        · subst c2; rw [upd_s]; unfold va_cpy; rw [if_pos (by omega)]; exact congrArg (M0 148) (by omega)
        · rw [upd_n _ _ c2]; unfold va_cpy
          by_cases c3 : (10 * c + e) ≤ j ∧ j < (10 * c + e) + h
          · rw [if_pos c3, if_pos (by omega)]
          · rw [if_neg c3, if_neg (by omega)]
      · by_cases c4 : k = 136
        · subst c4
          rw [z_up_s, z_up_n _ _ _ (by omega), z_row_s, z_row_s]
          funext j
          by_cases c2 : j = ((10 * c + e) + h)
          · subst c2; rw [upd_s]; unfold va_cpy; rw [if_pos (by omega)]; exact congrArg (M0 149) (by omega)
          · rw [upd_n _ _ c2]; unfold va_cpy
            by_cases c3 : (10 * c + e) ≤ j ∧ j < (10 * c + e) + h
            · rw [if_pos c3, if_pos (by omega)]
            · rw [if_neg c3, if_neg (by omega)]
        · rw [z_up_n _ _ _ c4, z_up_n _ _ _ c1, z_row_n _ _ c4, z_row_n _ _ c1, z_row_n _ _ c4, z_row_n _ _ c1]

set_option maxRecDepth 100000 in
set_option maxHeartbeats 4000000 in
theorem lp_copy1 (g : zG) (l : Launch) {M0 : zM} {b a c e m : Nat} (hb : b < 4) (hc : c < 4) (ha : a + m ≤ 10) (he : e + m ≤ 10) {P : Option Value → zS → zM → Prop} (Kz : zA g l yX12_copy cX12_copy 7 (some .int) 2 0 0 P 122 0 0 S0 (z_row (z_row M0 148 (va_cpy (M0 135) (M0 148) (10 * b + a) 0 m)) 149 (va_cpy (M0 136) (M0 149) (10 * b + a) 0 m)) [.ref 127, .int (nI b), .int (nI a), .int (nI c), .int (nI e), .int (nI m), .int (nI m)] []) : ∀ (k h : Nat), h ≤ m → m - h < k → zA g l yX12_copy cX12_copy 7 (some .int) 2 0 0 (P) 67 0 0 S0 (z_row (z_row M0 148 (va_cpy (M0 135) (M0 148) (10 * b + a) 0 h)) 149 (va_cpy (M0 136) (M0 149) (10 * b + a) 0 h)) [.ref 127, .int (nI b), .int (nI a), .int (nI c), .int (nI e), .int (nI m), .int (nI h)] [] := by
  intro k
  induction k with
  | zero => intro h hh hk; exact absurd hk (Nat.not_lt_zero _)
  | succ k ih =>
    intro h hh hk 
    refine z_iload dX12_copy_67 rfl ?_
    refine z_iload dX12_copy_69 rfl ?_
    refine z_icmp_ge (tgt := 122) dX12_copy_71 (by decide) (fun b71 => ?_) (fun b71 => ?_)
    · have e : m ≤ h := (nI_leI (by omega) (by omega)).mp b71
      have e2 : h = m := by omega
      subst e2
      exact Kz
    · have hn : h < m := by
        rcases Nat.lt_or_ge h m with z | z
        · exact z
        · exact absurd (nI_le z (by omega)) b71
      refine z_aload_n dX12_copy_74 rfl ?_
      refine z_getR (j := 32) (r := 148) kX12 lf_X12_71 (by decide) rfl dX12_copy_75 k0_127 s0_127 r0_127_32 (by decide) ?_
      refine z_iload dX12_copy_78 rfl ?_
      refine z_aload_n dX12_copy_80 rfl ?_
      refine z_getR (j := 10) (r := 135) kX12 lf_X12_32 (by decide) rfl dX12_copy_81 k0_127 s0_127 r0_127_10 (by decide) ?_
      refine z_bipush (v := 10) dX12_copy_84 (by decide) ?_
      refine z_iload_n dX12_copy_86 rfl ?_
      refine z_imulN (a := 10) (b := b) rfl rfl dX12_copy_87 ?_
      refine z_iload_n dX12_copy_88 rfl ?_
      refine z_iaddN (a := (10 * b)) (b := a) rfl rfl dX12_copy_89 ?_
      refine z_iload dX12_copy_90 rfl ?_
      refine z_iaddN (a := ((10 * b) + a)) (b := h) rfl rfl dX12_copy_92 ?_
      refine z_ialdV (j := (((10 * b) + a) + h)) rfl (by omega) (congrFun ((z_row_n _ _ (by omega)).trans (z_row_n _ _ (by omega))) _) dX12_copy_93 k0_135 s0_135 ?_
      refine z_iastN (j := h) rfl (by omega) dX12_copy_94 k0_148 s0_148 ?_
      refine z_aload_n dX12_copy_95 rfl ?_
      refine z_getR (j := 33) (r := 149) kX12 lf_X12_74 (by decide) rfl dX12_copy_96 k0_127 s0_127 r0_127_33 (by decide) ?_
      refine z_iload dX12_copy_99 rfl ?_
      refine z_aload_n dX12_copy_101 rfl ?_
      refine z_getR (j := 11) (r := 136) kX12 lf_X12_35 (by decide) rfl dX12_copy_102 k0_127 s0_127 r0_127_11 (by decide) ?_
      refine z_bipush (v := 10) dX12_copy_105 (by decide) ?_
      refine z_iload_n dX12_copy_107 rfl ?_
      refine z_imulN (a := 10) (b := b) rfl rfl dX12_copy_108 ?_
      refine z_iload_n dX12_copy_109 rfl ?_
      refine z_iaddN (a := (10 * b)) (b := a) rfl rfl dX12_copy_110 ?_
      refine z_iload dX12_copy_111 rfl ?_
      refine z_iaddN (a := ((10 * b) + a)) (b := h) rfl rfl dX12_copy_113 ?_
      refine z_ialdV (j := (((10 * b) + a) + h)) rfl (by omega) (congrFun ((z_up_n _ _ _ (by omega)).trans ((z_row_n _ _ (by omega)).trans (z_row_n _ _ (by omega)))) _) dX12_copy_114 k0_136 s0_136 ?_
      refine z_iastN (j := h) rfl (by omega) dX12_copy_115 k0_149 s0_149 ?_
      refine z_iincN (k := h) dX12_copy_116 rfl rfl (by decide) rfl rfl ?_
      refine z_goto (tgt := 67) dX12_copy_119 (by decide) ?_
      refine zA.sub (ih (h + 1) (by omega) (by omega)) ?_ ⟨Or.inr rfl, Or.inr rfl, Or.inr rfl, Or.inr rfl, Or.inr rfl, Or.inr rfl, Or.inr rfl, trivial⟩
      funext k
      by_cases c1 : k = 148
      · subst c1
        rw [z_up_n _ _ _ (by omega), z_up_s, z_row_n _ _ (by omega), z_row_s, z_row_n _ _ (by omega), z_row_s]
        funext j
        by_cases c2 : j = h
        · subst c2; rw [upd_s]; unfold va_cpy; rw [if_pos (by omega)]; exact congrArg (M0 135) (by omega)
        · rw [upd_n _ _ c2]; unfold va_cpy
          by_cases c3 : 0 ≤ j ∧ j < 0 + h
          · rw [if_pos c3, if_pos (by omega)]
          · rw [if_neg c3, if_neg (by omega)]
      · by_cases c4 : k = 149
        · subst c4
          rw [z_up_s, z_up_n _ _ _ (by omega), z_row_s, z_row_s]
          funext j
          by_cases c2 : j = h
          · subst c2; rw [upd_s]; unfold va_cpy; rw [if_pos (by omega)]; exact congrArg (M0 136) (by omega)
          · rw [upd_n _ _ c2]; unfold va_cpy
            by_cases c3 : 0 ≤ j ∧ j < 0 + h
            · rw [if_pos c3, if_pos (by omega)]
            · rw [if_neg c3, if_neg (by omega)]
        · rw [z_up_n _ _ _ c4, z_up_n _ _ _ c1, z_row_n _ _ c4, z_row_n _ _ c1, z_row_n _ _ c4, z_row_n _ _ c1]

set_option maxRecDepth 100000 in
set_option maxHeartbeats 4000000 in
theorem c_X12_copy (g : zG) (l : Launch) {M : zM} {A : aSt} (ok : aOK A) (C : RelM M A) {x y w z m : Int32} : zMet g l yX12_copy cX12_copy 7 (some .int) 2 0 0 [.ref 127, .int x, .int y, .int w, .int z, .int m] S0 M (zQi (fun r' M' => zStpM M (sCopy A x y w z m) r' M')) := by
  have n8 : A.n ≤ 8 := ok.s.1.1
  have r4 : A.r ≤ 4 := ok.s.1.2.1
  have i6 : A.i ≤ 6 := ok.s.1.2.2.1
  have u8 : A.u ≤ 8 := ok.u
  rcases zInD x (show 4 < 1000 by omega) with ⟨h, hh, rfl⟩ | hx
  · rcases zInD w (show 4 < 1000 by omega) with ⟨t, ht, rfl⟩ | hy
    · have hln := ok.ln h hh
      have hlt := ok.ln t ht
      refine zMet.of (by decide) (Nat.le_of_ble_eq_true rfl) ?_
      refine z_iload_n dX12_copy_0 rfl ?_
      refine z_iS1 (c_X12_isBook g l) mw_X12_isBook lm_X12_278 ms_X12_isBook (by decide) (Nat.le_of_ble_eq_true rfl) zle dX12_copy_1 (fun r1 M1 q1 => ?_)
      obtain ⟨qm1, qr1⟩ := q1
      obtain rfl := qm1.symm
      obtain ⟨c1, rfl⟩ | ⟨c1, rfl⟩ := qr1
      · refine z_if_eq (tgt := 14) dX12_copy_4 (by decide) (fun b4 => ?_) (fun b4 => ?_)
        · exact absurd b4 (by decide)
        · refine z_iload_n dX12_copy_7 rfl ?_
          refine z_iS1 (c_X12_isBook g l) mw_X12_isBook lm_X12_278 ms_X12_isBook (by decide) (Nat.le_of_ble_eq_true rfl) zle dX12_copy_8 (fun r8 M8 q8 => ?_)
          obtain ⟨qm8, qr8⟩ := q8
          obtain rfl := qm8.symm
          obtain ⟨c8, rfl⟩ | ⟨c8, rfl⟩ := qr8
          · refine z_if_ne (tgt := 17) dX12_copy_11 (by decide) (fun b11 => ?_) (fun b11 => ?_)
            · refine z_aload_n dX12_copy_17 rfl ?_
              refine z_getR (j := 9) (r := 134) kX12 lf_X12_29 (by decide) rfl dX12_copy_18 k0_127 s0_127 r0_127_9 (by decide) ?_
              refine z_iload_n dX12_copy_21 rfl ?_
              refine z_ialdV (j := h) rfl (by omega) (C.book h (by omega)).1 dX12_copy_22 k0_134 s0_134 ?_
              refine z_if_lt (tgt := 35) dX12_copy_23 (by decide) (fun b23 => ?_) (fun b23 => ?_)
              · have hb : ¬ A.bo h = true := fun z => absurd ((bSz_ge hln.1).mpr z) (Int32.not_le.mpr b23)
                refine z_bipush (v := (-11)) dX12_copy_35 (by decide) ?_
                refine z_iret dX12_copy_37 rfl zle ?_
                exact zStpM.of C (by unfold sCopy; rw [aIx_in hh (by omega), aIx_in ht (by omega)]; exact if_neg (by first | exact fun z => ht2 z.2 | exact fun z => hb z.1))
              · have hb : A.bo h = true := (bSz_ge hln.1).mp (Int32.not_lt.mp b23)
                refine z_aload_n dX12_copy_26 rfl ?_
                refine z_getR (j := 9) (r := 134) kX12 lf_X12_29 (by decide) rfl dX12_copy_27 k0_127 s0_127 r0_127_9 (by decide) ?_
                refine z_iload_n dX12_copy_30 rfl ?_
                refine z_ialdV (j := t) rfl (by omega) (C.book t (by omega)).1 dX12_copy_31 k0_134 s0_134 ?_
                refine z_if_ge (tgt := 38) dX12_copy_32 (by decide) (fun b32 => ?_) (fun b32 => ?_)
                · have ht2 : A.bo t = true := (bSz_ge hlt.1).mp b32
                  refine z_aload_n dX12_copy_38 rfl ?_
                  refine z_iload_n dX12_copy_39 rfl ?_
                  refine z_iload_n dX12_copy_40 rfl ?_
                  refine z_iload dX12_copy_41 rfl ?_
                  refine z_iV3 (c_X12_isSpan g l hh hln.1 ((C.book h hh).1.trans (if_pos hb))) mw_X12_isSpan lm_X12_296 mi_X12_isSpan mv_X12_isSpan kX12 (by decide) (Nat.le_of_ble_eq_true rfl) zle k0_127 s0_127 dX12_copy_43 (fun r43 M43 q43 => ?_)
                  obtain ⟨qm43, qr43⟩ := q43
                  obtain rfl := qm43.symm
                  obtain ⟨c43, rfl⟩ | ⟨c43, rfl⟩ := qr43
                  · refine z_if_eq (tgt := 61) dX12_copy_46 (by decide) (fun b46 => ?_) (fun b46 => ?_)
                    · exact absurd b46 (by decide)
                    · refine z_aload_n dX12_copy_49 rfl ?_
                      refine z_iload_n dX12_copy_50 rfl ?_
                      refine z_iload dX12_copy_51 rfl ?_
                      refine z_iload dX12_copy_53 rfl ?_
                      refine z_iV3 (c_X12_isSpan g l ht hlt.1 ((C.book t ht).1.trans (if_pos ht2))) mw_X12_isSpan lm_X12_296 mi_X12_isSpan mv_X12_isSpan kX12 (by decide) (Nat.le_of_ble_eq_true rfl) zle k0_127 s0_127 dX12_copy_55 (fun r55 M55 q55 => ?_)
                      obtain ⟨qm55, qr55⟩ := q55
                      obtain rfl := qm55.symm
                      obtain ⟨c55, rfl⟩ | ⟨c55, rfl⟩ := qr55
                      · refine z_if_ne (tgt := 64) dX12_copy_58 (by decide) (fun b58 => ?_) (fun b58 => ?_)
                        · have cc := And.intro c43 c55
                          obtain ⟨a, e, hae, rfl, rfl⟩ := zSpan hln.1 c43
                          obtain ⟨c, e1, hce, rfl, he1⟩ := zSpan hlt.1 c55
                          have he2 : e1 = e := ((nI_eq (by omega) (by omega)).mp he1).symm
                          subst he2
                          refine z_iconst (v := 0) dX12_copy_64 (by decide) ?_
                          refine z_istore dX12_copy_65 (by decide) rfl rfl ?_
                          have zc : ∀ (f g : Nat → Int32) (a c : Nat), va_cpy f g a c 0 = g := fun f g a c => funext (fun j => if_neg (by omega))
                          obtain ⟨N0, eN⟩ : ∃ N0 : zM, N0 = (z_row (z_row M 148 (va_cpy (M 135) (M 148) (10 * h + a) 0 e1)) 149 (va_cpy (M 136) (M 149) (10 * h + a) 0 e1)) := ⟨_, rfl⟩
                          have K2 := lp_copy2 g l (M0 := N0) (b := h) (a := a) (c := t) (e := c) (m := e1) hh ht (by omega) (by omega) (e1 + 1) 0 (Nat.zero_le _) (by omega)
                          have r0 : ∀ (X : zM) (k : Nat), z_row X k (X k) = X := fun X k => funext (fun j => by
                            by_cases d : j = k
                            · subst d; rw [z_row_s]
                            · rw [z_row_n _ _ d])
                          rw [zc, zc, r0, r0] at K2
                          refine zA.sub (lp_copy1 g l (M0 := M) (b := h) (a := a) (c := t) (e := c) (m := e1) (P := zQi (fun r' M' => zStpM M (sCopy A (nI h) (nI a) (nI t) (nI c) (nI e1)) r' M')) hh ht (by omega) (by omega) ?_ (e1 + 1) 0 (Nat.zero_le _) (by omega)) (by rw [zc, zc, r0, r0]) ⟨Or.inr rfl, Or.inr rfl, Or.inr rfl, Or.inr rfl, Or.inr rfl, Or.inr rfl, Or.inr rfl, trivial⟩
                          rw [← eN]
                          refine z_iconst (v := 0) dX12_copy_122 (by decide) ?_
                          refine z_istore dX12_copy_123 (by decide) rfl rfl ?_
                          refine K2.weak (fun v S2 M2 q => ?_)
                          obtain ⟨qa, rr, qb, qc, qd⟩ := q
                          have n5 : N0 135 = M 135 := by rw [eN, z_row_n _ _ (by omega), z_row_n _ _ (by omega)]
                          have n6 : N0 136 = M 136 := by rw [eN, z_row_n _ _ (by omega), z_row_n _ _ (by omega)]
                          have n8 : ∀ j, j < e1 → N0 148 j = M 135 (10 * h + a + j) := fun j hj => by rw [eN, z_row_n _ _ (by omega), z_row_s]; unfold va_cpy; rw [if_pos (by omega), Nat.sub_zero]
                          have n9 : ∀ j, j < e1 → N0 149 j = M 136 (10 * h + a + j) := fun j hj => by rw [eN, z_row_s]; unfold va_cpy; rw [if_pos (by omega), Nat.sub_zero]
                          have nk : ∀ k, k ≠ 148 → k ≠ 149 → N0 k = M k := fun k d1 d2 => by rw [eN, z_row_n _ _ d2, z_row_n _ _ d1]
                          have m5 : ∀ j, M2 135 j = if 10 * t + c ≤ j ∧ j < 10 * t + c + e1 then N0 148 (j - (10 * t + c)) else M 135 j := fun j => by rw [qd, z_row_n _ _ (by omega), z_row_s]; unfold va_cpy; rw [n5, Nat.zero_add]
                          have m6 : ∀ j, M2 136 j = if 10 * t + c ≤ j ∧ j < 10 * t + c + e1 then N0 149 (j - (10 * t + c)) else M 136 j := fun j => by rw [qd, z_row_s]; unfold va_cpy; rw [n6, Nat.zero_add]
                          have mk : ∀ k, k ≠ 135 → k ≠ 136 → k ≠ 148 → k ≠ 149 → M2 k = M k := fun k d1 d2 d3 d4 => by rw [qd, z_row_n _ _ d2, z_row_n _ _ d1]; exact nk k d3 d4
                          have C1 := C.putB (M' := M2) ht (o := true) (n := A.ln t) (f := va_cpy (A.so h) (A.so t) a c e1) (v := va_cpy (A.va h) (A.va t) a c e1) (by rw [mk 134 (by omega) (by omega) (by omega) (by omega)]; exact (C.book t ht).1.trans (if_pos ht2)) (fun x hx e => by rw [mk 134 (by omega) (by omega) (by omega) (by omega)]) (fun j hj => by
                            rw [m5, m6]
                            unfold va_cpy
                            by_cases d : c ≤ j ∧ j < c + e1
                            · rw [if_pos (by omega), if_pos d, if_pos (by omega), if_pos d, n8 _ (by omega), n9 _ (by omega), show 10 * h + a + (10 * t + j - (10 * t + c)) = 10 * h + (a + (j - c)) by omega]
                              exact (C.book h hh).2 (a + (j - c)) (by omega)
                            · rw [if_neg (by omega), if_neg d, if_neg (by omega), if_neg d]
                              exact (C.book t ht).2 j hj) (fun x hx e j hj => by
                            rw [m5, m6, if_neg (by omega), if_neg (by omega)]; exact ⟨rfl, rfl⟩) (fun k d => mk k (by omega) (by omega) (by omega) (by omega))
                          exact ⟨qa, rr, qb, zStpM.mk C1.1 C1.2 (by unfold sCopy; rw [aIx_in hh (by omega), aIx_in ht (by omega), if_pos ⟨hb, ht2⟩, if_pos cc, nI_clamp (by omega), nI_clamp (by omega), nI_clamp (by omega)]) qc⟩
                        · exact absurd b58 (by decide)
                      · refine z_if_ne (tgt := 64) dX12_copy_58 (by decide) (fun b58 => ?_) (fun b58 => ?_)
                        · exact absurd b58 (by decide)
                        · refine z_bipush (v := (-12)) dX12_copy_61 (by decide) ?_
                          refine z_iret dX12_copy_63 rfl zle ?_
                          first
                            | exact zStpM.of C (by unfold sCopy; rw [aIx_in hh (by omega), aIx_in ht (by omega), if_pos ⟨hb, ht2⟩, if_neg (fun z => c55 z.2)])
                            | exact zStpM.of C (by unfold sCopy; rw [aIx_in hh (by omega), aIx_in ht (by omega), if_pos ⟨hb, ht2⟩, if_neg (fun z => c43 z.1)])
                  · refine z_if_eq (tgt := 61) dX12_copy_46 (by decide) (fun b46 => ?_) (fun b46 => ?_)
                    · refine z_bipush (v := (-12)) dX12_copy_61 (by decide) ?_
                      refine z_iret dX12_copy_63 rfl zle ?_
                      first
                        | exact zStpM.of C (by unfold sCopy; rw [aIx_in hh (by omega), aIx_in ht (by omega), if_pos ⟨hb, ht2⟩, if_neg (fun z => c55 z.2)])
                        | exact zStpM.of C (by unfold sCopy; rw [aIx_in hh (by omega), aIx_in ht (by omega), if_pos ⟨hb, ht2⟩, if_neg (fun z => c43 z.1)])
                    · exact absurd b46 (by decide)
                · have ht2 : ¬ A.bo t = true := fun z => b32 ((bSz_ge hlt.1).mpr z)
                  refine z_bipush (v := (-11)) dX12_copy_35 (by decide) ?_
                  refine z_iret dX12_copy_37 rfl zle ?_
                  exact zStpM.of C (by unfold sCopy; rw [aIx_in hh (by omega), aIx_in ht (by omega)]; exact if_neg (by first | exact fun z => ht2 z.2 | exact fun z => hb z.1))
            · exact absurd b11 (by decide)
          · exact absurd (le3.mpr (zInP (n := 4) ht (by omega))) c8
      · exact absurd (le3.mpr (zInP (n := 4) hh (by omega))) c1
    · refine zMet.of (by decide) (Nat.le_of_ble_eq_true rfl) ?_
      refine z_iload_n dX12_copy_0 rfl ?_
      refine z_iS1 (c_X12_isBook g l) mw_X12_isBook lm_X12_278 ms_X12_isBook (by decide) (Nat.le_of_ble_eq_true rfl) zle dX12_copy_1 (fun r1 M1 q1 => ?_)
      obtain ⟨qm1, qr1⟩ := q1
      obtain rfl := qm1.symm
      obtain ⟨c1, rfl⟩ | ⟨c1, rfl⟩ := qr1
      · refine z_if_eq (tgt := 14) dX12_copy_4 (by decide) (fun b4 => ?_) (fun b4 => ?_)
        · exact absurd b4 (by decide)
        · refine z_iload_n dX12_copy_7 rfl ?_
          refine z_iS1 (c_X12_isBook g l) mw_X12_isBook lm_X12_278 ms_X12_isBook (by decide) (Nat.le_of_ble_eq_true rfl) zle dX12_copy_8 (fun r8 M8 q8 => ?_)
          obtain ⟨qm8, qr8⟩ := q8
          obtain rfl := qm8.symm
          obtain ⟨c8, rfl⟩ | ⟨c8, rfl⟩ := qr8
          · exact absurd (le3.mp c8) hy
          · refine z_if_ne (tgt := 17) dX12_copy_11 (by decide) (fun b11 => ?_) (fun b11 => ?_)
            · exact absurd b11 (by decide)
            · refine z_bipush (v := (-2)) dX12_copy_14 (by decide) ?_
              refine z_iret dX12_copy_16 rfl zle ?_
              exact zStpM.of C (by unfold sCopy; rw [aIx_in hh (by omega), aIx_out hy])
      · exact absurd (le3.mpr (zInP (n := 4) hh (by omega))) c1
  · refine zMet.of (by decide) (Nat.le_of_ble_eq_true rfl) ?_
    refine z_iload_n dX12_copy_0 rfl ?_
    refine z_iS1 (c_X12_isBook g l) mw_X12_isBook lm_X12_278 ms_X12_isBook (by decide) (Nat.le_of_ble_eq_true rfl) zle dX12_copy_1 (fun r1 M1 q1 => ?_)
    obtain ⟨qm1, qr1⟩ := q1
    obtain rfl := qm1.symm
    obtain ⟨c1, rfl⟩ | ⟨c1, rfl⟩ := qr1
    · exact absurd (le3.mp c1) hx
    · refine z_if_eq (tgt := 14) dX12_copy_4 (by decide) (fun b4 => ?_) (fun b4 => ?_)
      · refine z_bipush (v := (-2)) dX12_copy_14 (by decide) ?_
        refine z_iret dX12_copy_16 rfl zle ?_
        exact zStpM.of C (by unfold sCopy; rw [aIx_out hx])
      · exact absurd b4 (by decide)

