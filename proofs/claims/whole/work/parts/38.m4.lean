/-! ===== the reference's own methods: sightings, books, counting ===== -/
theorem small_of_bt {x : Int32} {k : Nat} (h : ∀ i, k ≤ i → i < 32 → bt x i = false) : ∃ a, a < 2 ^ k ∧ x = nI a := by
  have e : x = nI x.toBitVec.toNat := by
    refine Int32.toBitVec_inj.mp ?_
    show x.toBitVec = BitVec.ofNat 32 x.toBitVec.toNat
    apply BitVec.eq_of_toNat_eq
    simp
  refine ⟨x.toBitVec.toNat, ?_, e⟩
  apply Nat.lt_pow_two_of_testBit
  intro i hi
  by_cases h2 : i < 32
  · have := h i hi h2
    unfold bt at this
    exact this
  · exact Nat.testBit_lt_two_pow (Nat.lt_of_lt_of_le x.toBitVec.isLt (Nat.pow_le_pow_right (by omega) (by omega)))
theorem fBits_bc : ∀ a, a < 256 → fBits (nI a) 8 = zBc (nI a) := by decide +kernel
theorem fKinds_bt (M : zM) (u : Nat) : ∀ k, k ≤ 5 → ∀ i, k ≤ i → i < 32 → bt (fKinds M u k) i = false
  | 0, _, i, _, _ => b_0 i
  | k + 1, hk, i, h1, h2 => by
    unfold fKinds
    split
    · rw [b_or, fKinds_bt M u k (by omega) i (by omega) h2, bt_sh (by omega) h2, decide_eq_false (by omega)]; rfl
    · exact fKinds_bt M u k (by omega) i (by omega) h2
theorem fKinds_bc (M : zM) (u : Nat) : fBits (fKinds M u 5) 8 = zBc (fKinds M u 5) := by
  obtain ⟨a, ha, e⟩ := small_of_bt (fKinds_bt M u 5 (Nat.le_refl _))
  rw [e]
  exact fBits_bc a (by omega)
theorem hasB_iff {s : Int32} {k : Nat} (hk : k < 31) : hasB s (nI k) ↔ ¬ (s >>> (nI k &&& 31)) &&& 1 = 0 := by
  rw [z_b1 hk, z_b0 hk]
  cases bt s k <;> decide
def mLike (s m k : Int32) : Nat → Int32
  | 0 => 0
  | o + 1 => mLike s m k o + (if hasB s k ∧ hasB s (nI o) ∧ kTakes k m = kTakes (nI o) m ∧ kTires k m = kTires (nI o) m then 1 else 0)
theorem mLike_f {s m k : Int32} : ∀ o, o ≤ 5 → mLike s m k o = if hasB s k then fLike s m k o else 0
  | 0, _ => by split <;> rfl
  | o + 1, h => by
    unfold mLike
    rw [mLike_f o (by omega)]
    by_cases c : hasB s k
    · rw [if_pos c, if_pos c]
      have e : fLike s m k (o + 1) = if ¬ (s >>> (nI o &&& 31)) &&& 1 = 0 ∧ kTakes (nI o) m = kTakes k m ∧ kTires (nI o) m = kTires k m then fLike s m k o + 1 else fLike s m k o := rfl
      rw [e]
      by_cases c2 : hasB s (nI o) ∧ kTakes k m = kTakes (nI o) m ∧ kTires k m = kTires (nI o) m
      · rw [if_pos ⟨c, c2⟩, if_pos ⟨(hasB_iff (by omega)).mp c2.1, c2.2.1.symm, c2.2.2.symm⟩]
      · rw [if_neg (fun z => c2 z.2), if_neg (fun z => c2 ⟨(hasB_iff (by omega)).mpr z.1, z.2.1.symm, z.2.2.symm⟩), Int32.add_zero]
    · rw [if_neg c, if_neg c, if_neg (fun z => c z.1), Int32.add_zero]
theorem fLike_in {s m k : Int32} : ∀ o, ∃ x, x ≤ o ∧ fLike s m k o = nI x
  | 0 => ⟨0, Nat.le_refl _, rfl⟩
  | o + 1 => by
    obtain ⟨x, hx, e⟩ := fLike_in (s := s) (m := m) (k := k) o
    unfold fLike
    split
    · exact ⟨x + 1, by omega, by rw [e]; exact nI_1 x⟩
    · exact ⟨x, by omega, e⟩
theorem fPart_in {s m : Int32} : ∀ o, ∃ x, x ≤ 5 ∧ fPart s m o = nI x
  | 0 => ⟨0, Nat.zero_le _, rfl⟩
  | o + 1 => by
    have h := fPart_in (s := s) (m := m) o
    unfold fPart
    split
    · exact h
    · split
      · exact fLike_in 5
      · exact h
theorem fPart_m {s m : Int32} {k : Nat} (hk : k < 5) : fPart s m (k + 1) = if fPart s m k < mLike s m (nI k) 5 then mLike s m (nI k) 5 else fPart s m k := by
  rw [mLike_f 5 (Nat.le_refl _)]
  show (if _ then _ else _) = _
  by_cases c : hasB s (nI k)
  · rw [if_pos c, if_neg ((hasB_iff (by omega)).mp c)]
  · rw [if_neg c, if_pos (Classical.byContradiction (fun z => c ((hasB_iff (by omega)).mpr z)))]
    obtain ⟨x, hx, e⟩ := fPart_in (s := s) (m := m) k
    rw [e, if_neg (show ¬ nI x < 0 from nI_pos (by omega))]
theorem le3 {x : Int32} : (0 ≤ x ∧ x ≤ 3) ↔ (0 ≤ x ∧ x < 4) := by
  have h := le_pred (x := x) (n := 4) (by omega)
  rw [show nI 4 - 1 = 3 by decide] at h
  exact h
theorem RelM.putB {M M' : zM} {A : aSt} (C : RelM M A) {b : Nat} (hb : b < 4) {o : Bool} {n : Nat} {f v : Nat → Int32} (h0 : M' 134 b = if o = true then nI n else -1) (h0' : ∀ x, x < 4 → x ≠ b → M' 134 x = M 134 x) (h1 : ∀ j, j < 10 → M' 135 (10 * b + j) = mSo (f j) ∧ M' 136 (10 * b + j) = v j)
    (h2 : ∀ x, x < 4 → x ≠ b → ∀ j, j < 10 → M' 135 (10 * x + j) = M 135 (10 * x + j) ∧ M' 136 (10 * x + j) = M 136 (10 * x + j)) (hk : ∀ k, (k < 134 ∨ (136 < k ∧ k < 148)) → M' k = M k) : RelM M' (A.putB b o n f v) ∧ ∀ k, k < 127 → M' k = M k := by
  refine C.setBook (fun x hx => ?_) hk
  by_cases e : x = b
  · subst e
    refine ⟨?_, fun j hj => ?_⟩
    · rw [h0]
      show _ = if (if x = x then o else A.bo x) = true then nI (if x = x then n else A.ln x) else -1
      rw [if_pos rfl, if_pos rfl]
    · show _ = mSo ((if x = x then f else A.so x) j) ∧ _ = (if x = x then v else A.va x) j
      rw [if_pos rfl, if_pos rfl]
      exact h1 j hj
  · obtain ⟨g0, g1⟩ := C.book x hx
    refine ⟨?_, fun j hj => ?_⟩
    · rw [h0' x hx e, g0]
      show bSz A x = if (if x = b then o else A.bo x) = true then nI (if x = b then n else A.ln x) else -1
      rw [if_neg e, if_neg e]; rfl
    · show _ = mSo ((if x = b then f else A.so x) j) ∧ _ = (if x = b then v else A.va x) j
      rw [if_neg e, if_neg e, (h2 x hx e j hj).1, (h2 x hx e j hj).2]
      exact g1 j hj
theorem bSz_ge {A : aSt} {b : Nat} (h : A.ln b ≤ 10) : 0 ≤ bSz A b ↔ A.bo b = true := by
  unfold bSz
  by_cases c : A.bo b = true
  · rw [if_pos c]; exact ⟨fun _ => c, fun _ => Int32.not_lt.mp (nI_pos (by omega))⟩
  · rw [if_neg c]; exact ⟨fun z => absurd z (by decide), fun z => absurd z c⟩
def aNo (A : aSt) (b : Nat) (y : Int32) : Int32 := if A.bo b = true then (if 0 ≤ y ∧ y < nI (A.ln b) then 0 else -12) else -11
theorem mSo_ne {x : Int32} (h : zIn x 4) : (mSo x = -1 ↔ x = 3) ∧ (∀ w : Int32, 0 ≤ w → w ≤ 2 → (mSo x = w ↔ x = w)) := by
  obtain ⟨j, hj, rfl⟩ := h
  refine ⟨(by decide : ∀ j, j < 4 → (mSo (nI j) = -1 ↔ nI j = 3)) j hj, fun w h1 h2 => ?_⟩
  obtain ⟨u, -, hu, rfl⟩ := zIn_c (a := 0) (c := 2) (by omega) (by omega) h1 h2
  exact (by decide : ∀ j, j < 4 → ∀ u, u < 3 → (mSo (nI j) = nI u ↔ nI j = nI u)) j hj u (by omega)
theorem span_eq {y m : Int32} {n : Nat} (hn : n ≤ 10) (h1 : 0 ≤ y) (h2 : 0 ≤ m) : y ≤ nI n - m ↔ ¬ (nI n).toInt64 < y.toInt64 + m.toInt64 := by
  have en := nI_toInt (show n < 2147483648 by omega)
  have b1 : y.toInt < 2147483648 := Int32.toInt_lt y
  have b2 : m.toInt < 2147483648 := Int32.toInt_lt m
  rw [Int32.le_iff_toInt_le] at h1 h2
  have e0 : (0 : Int32).toInt = 0 := by decide
  rw [e0] at h1 h2
  rw [Int32.le_iff_toInt_le, Int64.lt_iff_toInt_lt, Int64.toInt_add, Int32.toInt_toInt64, Int32.toInt_toInt64, Int32.toInt_toInt64, Int32.toInt_sub, en, Int.bmod_def, Int.bmod_def]
  split <;> split <;> omega
def mTold (A : aSt) (b : Nat) : Nat → Int32
  | 0 => 0
  | k + 1 => mTold A b k ||| (if A.so b k = 2 ∧ A.bo (A.va b k).toNatClampNeg = true then 1 <<< (A.va b k &&& 31) else 0)
def mRnd (A : aSt) (s : Int32) : Nat → Int32
  | 0 => s
  | o + 1 => mRnd A s o ||| (if hasB (mRnd A s o) (nI o) then mTold A o (A.ln o) else 0)
def mRea (A : aSt) (s : Int32) : Nat → Int32
  | 0 => s
  | k + 1 => mRnd A (mRea A s k) 4
def mSum (A : aSt) (s : Int32) : Nat → Int32
  | 0 => 1000000
  | o + 1 => mSum A s o + (if hasB s (nI o) then fOwn (A.so o) (A.va o) (A.ln o) else 0)
def aWeighM (A : aSt) (x w : Int32) : Int32 := aIx 4 x (fun b => if w < 0 ∨ 1 < w then -3 else if A.bo b = true then (if w = 0 then mSum A (mRea A (1 <<< (nI b &&& 31)) 4) 4 else fBits (mRea A (1 <<< (nI b &&& 31)) 4) 8) else -11) (-2)

set_option maxRecDepth 100000 in
set_option maxHeartbeats 4000000 in
theorem lp_kindsIn (g : zG) (l : Launch) {M : zM} {A : aSt} (ok : aOK A) (C : RelM M A) {s : Int32} {k0 : Nat} (Kz : zA g l yX12_kinds cX12_kinds 5 (some .int) 1 0 0 (zQi (fun r' M' => r' = fKinds (aSeen A) A.v 5 ∧ M' = M)) 81 0 0 S0 M [.ref 127, .int s, .int (nI k0), .int (if fFits (aSeen A) (nI k0) A.v = true then (1 : Int32) else 0), .int (nI A.v)] []) : ∀ (k h : Nat), h ≤ A.v → A.v - h < k → zA g l yX12_kinds cX12_kinds 5 (some .int) 1 0 0 (zQi (fun r' M' => r' = fKinds (aSeen A) A.v 5 ∧ M' = M)) 14 0 0 S0 M [.ref 127, .int s, .int (nI k0), .int (if fFits (aSeen A) (nI k0) h = true then (1 : Int32) else 0), .int (nI h)] [] := by
  have n8 : A.n ≤ 8 := ok.s.1.1
  have r4 : A.r ≤ 4 := ok.s.1.2.1
  have i6 : A.i ≤ 6 := ok.s.1.2.2.1
  have u8 : A.u ≤ 8 := ok.u
  have v6 := ok.v
  intro k
  induction k with
  | zero => intro h hh hk; exact absurd hk (Nat.not_lt_zero _)
  | succ k ih =>
    intro h hh hk 
    refine z_iload dX12_kinds_14 rfl ?_
    refine z_aload_n dX12_kinds_16 rfl ?_
    refine z_getIV (j := 5) kX12 lf_X12_166 (by decide) rfl C.fl.2.2 dX12_kinds_17 k0_127 s0_127 ?_
    refine z_icmp_ge (tgt := 81) dX12_kinds_20 (by decide) (fun b20 => ?_) (fun b20 => ?_)
    · have e : A.v ≤ h := (nI_leI (by omega) (by omega)).mp b20
      have e2 : h = A.v := by omega
      subst e2
      exact Kz
    · have hn : h < A.v := by
        rcases Nat.lt_or_ge h A.v with z | z
        · exact z
        · exact absurd (nI_le z (by omega)) b20
      refine z_iload_n dX12_kinds_23 rfl ?_
      refine z_if_eq (tgt := 73) dX12_kinds_24 (by decide) (fun b24 => ?_) (fun b24 => ?_)
      · refine z_iconst (v := 0) dX12_kinds_73 (by decide) ?_
        refine z_istore_n dX12_kinds_74 (by decide) rfl rfl ?_
        refine z_iincN (k := h) dX12_kinds_75 rfl rfl (by decide) rfl rfl ?_
        refine z_goto (tgt := 14) dX12_kinds_78 (by decide) ?_
        have e9 : fFits (aSeen A) (nI k0) (h + 1) = (fFits (aSeen A) (nI k0) h && decide (kTakes (nI k0) (A.sm h) = A.st h ∧ kTires (nI k0) (A.sm h) = A.sd h)) := rfl
        first
          | exact zA.sub (ih (h + 1) (by omega) (by omega)) rfl ⟨Or.inr rfl, Or.inr rfl, Or.inr rfl, Or.inr (congrArg (fun z => some (Value.int z)) (by rw [e9, (Classical.byContradiction (fun z => b24 (if_neg z)) : fFits (aSeen A) (nI k0) h = true), decide_eq_true (show _ ∧ _ from ⟨b45, b66⟩)]; rfl)), Or.inr rfl, trivial⟩
          | exact zA.sub (ih (h + 1) (by omega) (by omega)) rfl ⟨Or.inr rfl, Or.inr rfl, Or.inr rfl, Or.inr (congrArg (fun z => some (Value.int z)) (by rw [e9, decide_eq_false (fun z => b66 z.2), Bool.and_false]; rfl)), Or.inr rfl, trivial⟩
          | exact zA.sub (ih (h + 1) (by omega) (by omega)) rfl ⟨Or.inr rfl, Or.inr rfl, Or.inr rfl, Or.inr (congrArg (fun z => some (Value.int z)) (by rw [e9, decide_eq_false (fun z => b45 z.1), Bool.and_false]; rfl)), Or.inr rfl, trivial⟩
          | exact zA.sub (ih (h + 1) (by omega) (by omega)) rfl ⟨Or.inr rfl, Or.inr rfl, Or.inr rfl, Or.inr (congrArg (fun z => some (Value.int z)) (by rw [e9, (Bool.eq_false_iff.mpr (fun z => absurd b24 (by rw [if_pos z]; decide)) : fFits (aSeen A) (nI k0) h = false), Bool.false_and]; rfl)), Or.inr rfl, trivial⟩
      · refine z_iload_n dX12_kinds_27 rfl ?_
        refine z_aload_n dX12_kinds_28 rfl ?_
        refine z_getR (j := 6) (r := 131) kX12 lf_X12_20 (by decide) rfl dX12_kinds_29 k0_127 s0_127 r0_127_6 (by decide) ?_
        refine z_iload dX12_kinds_32 rfl ?_
        refine z_ialdV (j := h) rfl (by omega) (C.see h (by omega)).1 dX12_kinds_34 k0_131 s0_131 ?_
        refine z_iS2 (c_X12_takes g l) mw_X12_takes lm_X12_180 ms_X12_takes (by decide) (Nat.le_of_ble_eq_true rfl) zle dX12_kinds_35 (fun r35 M35 q35 => ?_)
        obtain ⟨qr35, qm35⟩ := q35
        obtain rfl := qr35.symm
        obtain rfl := qm35.symm
        refine z_aload_n dX12_kinds_38 rfl ?_
        refine z_getR (j := 7) (r := 132) kX12 lf_X12_23 (by decide) rfl dX12_kinds_39 k0_127 s0_127 r0_127_7 (by decide) ?_
        refine z_iload dX12_kinds_42 rfl ?_
        refine z_ialdV (j := h) rfl (by omega) (C.see h (by omega)).2.1 dX12_kinds_44 k0_132 s0_132 ?_
        refine z_icmp_ne (tgt := 73) dX12_kinds_45 (by decide) (fun b45 => ?_) (fun b45 => ?_)
        · refine z_iconst (v := 0) dX12_kinds_73 (by decide) ?_
          refine z_istore_n dX12_kinds_74 (by decide) rfl rfl ?_
          refine z_iincN (k := h) dX12_kinds_75 rfl rfl (by decide) rfl rfl ?_
          refine z_goto (tgt := 14) dX12_kinds_78 (by decide) ?_
          have e9 : fFits (aSeen A) (nI k0) (h + 1) = (fFits (aSeen A) (nI k0) h && decide (kTakes (nI k0) (A.sm h) = A.st h ∧ kTires (nI k0) (A.sm h) = A.sd h)) := rfl
          first
            | exact zA.sub (ih (h + 1) (by omega) (by omega)) rfl ⟨Or.inr rfl, Or.inr rfl, Or.inr rfl, Or.inr (congrArg (fun z => some (Value.int z)) (by rw [e9, (Classical.byContradiction (fun z => b24 (if_neg z)) : fFits (aSeen A) (nI k0) h = true), decide_eq_true (show _ ∧ _ from ⟨b45, b66⟩)]; rfl)), Or.inr rfl, trivial⟩
            | exact zA.sub (ih (h + 1) (by omega) (by omega)) rfl ⟨Or.inr rfl, Or.inr rfl, Or.inr rfl, Or.inr (congrArg (fun z => some (Value.int z)) (by rw [e9, decide_eq_false (fun z => b66 z.2), Bool.and_false]; rfl)), Or.inr rfl, trivial⟩
            | exact zA.sub (ih (h + 1) (by omega) (by omega)) rfl ⟨Or.inr rfl, Or.inr rfl, Or.inr rfl, Or.inr (congrArg (fun z => some (Value.int z)) (by rw [e9, decide_eq_false (fun z => b45 z.1), Bool.and_false]; rfl)), Or.inr rfl, trivial⟩
            | exact zA.sub (ih (h + 1) (by omega) (by omega)) rfl ⟨Or.inr rfl, Or.inr rfl, Or.inr rfl, Or.inr (congrArg (fun z => some (Value.int z)) (by rw [e9, (Bool.eq_false_iff.mpr (fun z => absurd b24 (by rw [if_pos z]; decide)) : fFits (aSeen A) (nI k0) h = false), Bool.false_and]; rfl)), Or.inr rfl, trivial⟩
        · refine z_iload_n dX12_kinds_48 rfl ?_
          refine z_aload_n dX12_kinds_49 rfl ?_
          refine z_getR (j := 6) (r := 131) kX12 lf_X12_20 (by decide) rfl dX12_kinds_50 k0_127 s0_127 r0_127_6 (by decide) ?_
          refine z_iload dX12_kinds_53 rfl ?_
          refine z_ialdV (j := h) rfl (by omega) (C.see h (by omega)).1 dX12_kinds_55 k0_131 s0_131 ?_
          refine z_iS2 (c_X12_tires g l) mw_X12_tires lm_X12_206 ms_X12_tires (by decide) (Nat.le_of_ble_eq_true rfl) zle dX12_kinds_56 (fun r56 M56 q56 => ?_)
          obtain ⟨qr56, qm56⟩ := q56
          obtain rfl := qr56.symm
          obtain rfl := qm56.symm
          refine z_aload_n dX12_kinds_59 rfl ?_
          refine z_getR (j := 8) (r := 133) kX12 lf_X12_26 (by decide) rfl dX12_kinds_60 k0_127 s0_127 r0_127_8 (by decide) ?_
          refine z_iload dX12_kinds_63 rfl ?_
          refine z_ialdV (j := h) rfl (by omega) (C.see h (by omega)).2.2 dX12_kinds_65 k0_133 s0_133 ?_
          refine z_icmp_ne (tgt := 73) dX12_kinds_66 (by decide) (fun b66 => ?_) (fun b66 => ?_)
          · refine z_iconst (v := 0) dX12_kinds_73 (by decide) ?_
            refine z_istore_n dX12_kinds_74 (by decide) rfl rfl ?_
            refine z_iincN (k := h) dX12_kinds_75 rfl rfl (by decide) rfl rfl ?_
            refine z_goto (tgt := 14) dX12_kinds_78 (by decide) ?_
            have e9 : fFits (aSeen A) (nI k0) (h + 1) = (fFits (aSeen A) (nI k0) h && decide (kTakes (nI k0) (A.sm h) = A.st h ∧ kTires (nI k0) (A.sm h) = A.sd h)) := rfl
            first
              | exact zA.sub (ih (h + 1) (by omega) (by omega)) rfl ⟨Or.inr rfl, Or.inr rfl, Or.inr rfl, Or.inr (congrArg (fun z => some (Value.int z)) (by rw [e9, (Classical.byContradiction (fun z => b24 (if_neg z)) : fFits (aSeen A) (nI k0) h = true), decide_eq_true (show _ ∧ _ from ⟨b45, b66⟩)]; rfl)), Or.inr rfl, trivial⟩
              | exact zA.sub (ih (h + 1) (by omega) (by omega)) rfl ⟨Or.inr rfl, Or.inr rfl, Or.inr rfl, Or.inr (congrArg (fun z => some (Value.int z)) (by rw [e9, decide_eq_false (fun z => b66 z.2), Bool.and_false]; rfl)), Or.inr rfl, trivial⟩
              | exact zA.sub (ih (h + 1) (by omega) (by omega)) rfl ⟨Or.inr rfl, Or.inr rfl, Or.inr rfl, Or.inr (congrArg (fun z => some (Value.int z)) (by rw [e9, decide_eq_false (fun z => b45 z.1), Bool.and_false]; rfl)), Or.inr rfl, trivial⟩
              | exact zA.sub (ih (h + 1) (by omega) (by omega)) rfl ⟨Or.inr rfl, Or.inr rfl, Or.inr rfl, Or.inr (congrArg (fun z => some (Value.int z)) (by rw [e9, (Bool.eq_false_iff.mpr (fun z => absurd b24 (by rw [if_pos z]; decide)) : fFits (aSeen A) (nI k0) h = false), Bool.false_and]; rfl)), Or.inr rfl, trivial⟩
          · refine z_iconst (v := 1) dX12_kinds_69 (by decide) ?_
            refine z_goto (tgt := 74) dX12_kinds_70 (by decide) ?_
            refine z_istore_n dX12_kinds_74 (by decide) rfl rfl ?_
            refine z_iincN (k := h) dX12_kinds_75 rfl rfl (by decide) rfl rfl ?_
            refine z_goto (tgt := 14) dX12_kinds_78 (by decide) ?_
            have e9 : fFits (aSeen A) (nI k0) (h + 1) = (fFits (aSeen A) (nI k0) h && decide (kTakes (nI k0) (A.sm h) = A.st h ∧ kTires (nI k0) (A.sm h) = A.sd h)) := rfl
            first
              | exact zA.sub (ih (h + 1) (by omega) (by omega)) rfl ⟨Or.inr rfl, Or.inr rfl, Or.inr rfl, Or.inr (congrArg (fun z => some (Value.int z)) (by rw [e9, (Classical.byContradiction (fun z => b24 (if_neg z)) : fFits (aSeen A) (nI k0) h = true), decide_eq_true (show _ ∧ _ from ⟨b45, b66⟩)]; rfl)), Or.inr rfl, trivial⟩
              | exact zA.sub (ih (h + 1) (by omega) (by omega)) rfl ⟨Or.inr rfl, Or.inr rfl, Or.inr rfl, Or.inr (congrArg (fun z => some (Value.int z)) (by rw [e9, decide_eq_false (fun z => b66 z.2), Bool.and_false]; rfl)), Or.inr rfl, trivial⟩
              | exact zA.sub (ih (h + 1) (by omega) (by omega)) rfl ⟨Or.inr rfl, Or.inr rfl, Or.inr rfl, Or.inr (congrArg (fun z => some (Value.int z)) (by rw [e9, decide_eq_false (fun z => b45 z.1), Bool.and_false]; rfl)), Or.inr rfl, trivial⟩
              | exact zA.sub (ih (h + 1) (by omega) (by omega)) rfl ⟨Or.inr rfl, Or.inr rfl, Or.inr rfl, Or.inr (congrArg (fun z => some (Value.int z)) (by rw [e9, (Bool.eq_false_iff.mpr (fun z => absurd b24 (by rw [if_pos z]; decide)) : fFits (aSeen A) (nI k0) h = false), Bool.false_and]; rfl)), Or.inr rfl, trivial⟩

set_option maxRecDepth 100000 in
set_option maxHeartbeats 4000000 in
theorem lp_kinds (g : zG) (l : Launch) {M : zM} {A : aSt} (ok : aOK A) (C : RelM M A) : ∀ (k h : Nat), h ≤ 5 → 5 - h < k → zA g l yX12_kinds cX12_kinds 5 (some .int) 1 0 0 (zQi (fun r' M' => r' = fKinds (aSeen A) A.v 5 ∧ M' = M)) 4 0 0 S0 M [.ref 127, .int (fKinds (aSeen A) A.v h), .int (nI h), .null, .null] [] := by
  have n8 : A.n ≤ 8 := ok.s.1.1
  have r4 : A.r ≤ 4 := ok.s.1.2.1
  have i6 : A.i ≤ 6 := ok.s.1.2.2.1
  have u8 : A.u ≤ 8 := ok.u
  intro k
  induction k with
  | zero => intro h hh hk; exact absurd hk (Nat.not_lt_zero _)
  | succ k ih =>
    intro h hh hk 
    refine z_iload_n dX12_kinds_4 rfl ?_
    refine z_iconst (v := 5) dX12_kinds_5 (by decide) ?_
    refine z_icmp_ge (tgt := 101) dX12_kinds_6 (by decide) (fun b6 => ?_) (fun b6 => ?_)
    · have e : 5 ≤ h := (nI_leI (by omega) (by omega)).mp b6
      have e2 : h = 5 := by omega
      subst e2
      refine z_iload_n dX12_kinds_101 rfl ?_
      exact z_iret dX12_kinds_102 rfl zle (⟨rfl, rfl⟩)
    · have hn : h < 5 := by
        rcases Nat.lt_or_ge h 5 with z | z
        · exact z
        · exact absurd (nI_le z (by omega)) b6
      refine z_iconst (v := 1) dX12_kinds_9 (by decide) ?_
      refine z_istore_n dX12_kinds_10 (by decide) rfl rfl ?_
      refine z_iconst (v := 0) dX12_kinds_11 (by decide) ?_
      refine z_istore dX12_kinds_12 (by decide) rfl rfl ?_
      refine lp_kindsIn g l ok C ?_ (A.v + 1) 0 (Nat.zero_le _) (by omega)
      refine z_iload_n dX12_kinds_81 rfl ?_
      refine z_iload_n dX12_kinds_82 rfl ?_
      refine z_if_eq (tgt := 92) dX12_kinds_83 (by decide) (fun b83 => ?_) (fun b83 => ?_)
      · refine z_iconst (v := 0) dX12_kinds_92 (by decide) ?_
        refine z_ior dX12_kinds_93 ?_
        refine z_istore_n dX12_kinds_94 (by decide) rfl rfl ?_
        refine z_iincN (k := h) dX12_kinds_95 rfl rfl (by decide) rfl rfl ?_
        refine z_goto (tgt := 4) dX12_kinds_98 (by decide) ?_
        first
          | exact zA.sub (ih (h + 1) (by omega) (by omega)) rfl ⟨Or.inr rfl, Or.inr (congrArg (fun z => some (Value.int z)) (if_pos (Classical.byContradiction (fun z => b83 (if_neg z)))).symm), Or.inr rfl, Or.inl rfl, Or.inl rfl, trivial⟩
          | exact zA.sub (ih (h + 1) (by omega) (by omega)) rfl ⟨Or.inr rfl, Or.inr (congrArg (fun z => some (Value.int z)) ((Int32.or_zero).trans (if_neg (fun z => absurd b83 (by rw [if_pos z]; decide)) : fKinds (aSeen A) A.v (h + 1) = _).symm)), Or.inr rfl, Or.inl rfl, Or.inl rfl, trivial⟩
      · refine z_iconst (v := 1) dX12_kinds_86 (by decide) ?_
        refine z_iload_n dX12_kinds_87 rfl ?_
        refine z_ishl dX12_kinds_88 ?_
        refine z_goto (tgt := 93) dX12_kinds_89 (by decide) ?_
        refine z_ior dX12_kinds_93 ?_
        refine z_istore_n dX12_kinds_94 (by decide) rfl rfl ?_
        refine z_iincN (k := h) dX12_kinds_95 rfl rfl (by decide) rfl rfl ?_
        refine z_goto (tgt := 4) dX12_kinds_98 (by decide) ?_
        first
          | exact zA.sub (ih (h + 1) (by omega) (by omega)) rfl ⟨Or.inr rfl, Or.inr (congrArg (fun z => some (Value.int z)) (if_pos (Classical.byContradiction (fun z => b83 (if_neg z)))).symm), Or.inr rfl, Or.inl rfl, Or.inl rfl, trivial⟩
          | exact zA.sub (ih (h + 1) (by omega) (by omega)) rfl ⟨Or.inr rfl, Or.inr (congrArg (fun z => some (Value.int z)) ((Int32.or_zero).trans (if_neg (fun z => absurd b83 (by rw [if_pos z]; decide)) : fKinds (aSeen A) A.v (h + 1) = _).symm)), Or.inr rfl, Or.inl rfl, Or.inl rfl, trivial⟩

set_option maxRecDepth 100000 in
set_option maxHeartbeats 4000000 in
theorem c_X12_kinds (g : zG) (l : Launch) {M : zM} {A : aSt} (ok : aOK A) (C : RelM M A) : zMet g l yX12_kinds cX12_kinds 5 (some .int) 1 0 0 [.ref 127] S0 M (zQi (fun r' M' => r' = fKinds (aSeen A) A.v 5 ∧ M' = M)) := by
  refine zMet.of (by decide) (Nat.le_of_ble_eq_true rfl) ?_
  refine z_iconst (v := 0) dX12_kinds_0 (by decide) ?_
  refine z_istore_n dX12_kinds_1 (by decide) rfl rfl ?_
  refine z_iconst (v := 0) dX12_kinds_2 (by decide) ?_
  refine z_istore_n dX12_kinds_3 (by decide) rfl rfl ?_
  exact lp_kinds g l ok C 6 0 (Nat.zero_le _) (by omega)

set_option maxRecDepth 100000 in
set_option maxHeartbeats 4000000 in
theorem lp_greatestIn (g : zG) (l : Launch) {M : zM} {s m x : Int32} {k0 : Nat} (Kz : zA g l yX12_greatestPart cX12_greatestPart 6 (some .int) 1 0 0 (zQi (fun r' M' => r' = fPart s m 5 ∧ M' = M)) 82 0 0 S0 M [.int s, .int m, .int x, .int (nI k0), .int (mLike s m (nI k0) 5), .int (nI 5)] []) : ∀ (k h : Nat), h ≤ 5 → 5 - h < k → zA g l yX12_greatestPart cX12_greatestPart 6 (some .int) 1 0 0 (zQi (fun r' M' => r' = fPart s m 5 ∧ M' = M)) 15 0 0 S0 M [.int s, .int m, .int x, .int (nI k0), .int (mLike s m (nI k0) h), .int (nI h)] [] := by
  intro k
  induction k with
  | zero => intro h hh hk; exact absurd hk (Nat.not_lt_zero _)
  | succ k ih =>
    intro h hh hk 
    refine z_iload dX12_greatestPart_15 rfl ?_
    refine z_iconst (v := 5) dX12_greatestPart_17 (by decide) ?_
    refine z_icmp_ge (tgt := 82) dX12_greatestPart_18 (by decide) (fun b18 => ?_) (fun b18 => ?_)
    · have e : 5 ≤ h := (nI_leI (by omega) (by omega)).mp b18
      have e2 : h = 5 := by omega
      subst e2
      exact Kz
    · have hn : h < 5 := by
        rcases Nat.lt_or_ge h 5 with z | z
        · exact z
        · exact absurd (nI_le z (by omega)) b18
      refine z_iload dX12_greatestPart_21 rfl ?_
      refine z_iload_n dX12_greatestPart_23 rfl ?_
      refine z_iload_n dX12_greatestPart_24 rfl ?_
      refine z_iS2 (c_X12_has g l) mw_X12_has lm_X12_188 ms_X12_has (by decide) (Nat.le_of_ble_eq_true rfl) zle dX12_greatestPart_25 (fun r25 M25 q25 => ?_)
      obtain ⟨qm25, qr25⟩ := q25
      obtain rfl := qm25.symm
      obtain ⟨c25, rfl⟩ | ⟨c25, rfl⟩ := qr25
      · refine z_if_eq (tgt := 72) dX12_greatestPart_28 (by decide) (fun b28 => ?_) (fun b28 => ?_)
        · exact absurd b28 (by decide)
        · refine z_iload_n dX12_greatestPart_31 rfl ?_
          refine z_iload dX12_greatestPart_32 rfl ?_
          refine z_iS2 (c_X12_has g l) mw_X12_has lm_X12_188 ms_X12_has (by decide) (Nat.le_of_ble_eq_true rfl) zle dX12_greatestPart_34 (fun r34 M34 q34 => ?_)
          obtain ⟨qm34, qr34⟩ := q34
          obtain rfl := qm34.symm
          obtain ⟨c34, rfl⟩ | ⟨c34, rfl⟩ := qr34
          · refine z_if_eq (tgt := 72) dX12_greatestPart_37 (by decide) (fun b37 => ?_) (fun b37 => ?_)
            · exact absurd b37 (by decide)
            · refine z_iload_n dX12_greatestPart_40 rfl ?_
              refine z_iload_n dX12_greatestPart_41 rfl ?_
              refine z_iS2 (c_X12_takes g l) mw_X12_takes lm_X12_180 ms_X12_takes (by decide) (Nat.le_of_ble_eq_true rfl) zle dX12_greatestPart_42 (fun r42 M42 q42 => ?_)
              obtain ⟨qr42, qm42⟩ := q42
              obtain rfl := qr42.symm
              obtain rfl := qm42.symm
              refine z_iload dX12_greatestPart_45 rfl ?_
              refine z_iload_n dX12_greatestPart_47 rfl ?_
              refine z_iS2 (c_X12_takes g l) mw_X12_takes lm_X12_180 ms_X12_takes (by decide) (Nat.le_of_ble_eq_true rfl) zle dX12_greatestPart_48 (fun r48 M48 q48 => ?_)
              obtain ⟨qr48, qm48⟩ := q48
              obtain rfl := qr48.symm
              obtain rfl := qm48.symm
              refine z_icmp_ne (tgt := 72) dX12_greatestPart_51 (by decide) (fun b51 => ?_) (fun b51 => ?_)
              · refine z_iconst (v := 0) dX12_greatestPart_72 (by decide) ?_
                refine z_iadd dX12_greatestPart_73 ?_
                refine z_istore dX12_greatestPart_74 (by decide) rfl rfl ?_
                refine z_iincN (k := h) dX12_greatestPart_76 rfl rfl (by decide) rfl rfl ?_
                refine z_goto (tgt := 15) dX12_greatestPart_79 (by decide) ?_
                first
                  | exact zA.sub (ih (h + 1) (by omega) (by omega)) rfl ⟨Or.inr rfl, Or.inr rfl, Or.inr rfl, Or.inr rfl, Or.inr (congrArg (fun z => some (Value.int z)) (congrArg (fun z => mLike s m (nI k0) h + z) (if_pos ⟨c25, c34, b51, b65⟩).symm)), Or.inr rfl, trivial⟩
                  | exact zA.sub (ih (h + 1) (by omega) (by omega)) rfl ⟨Or.inr rfl, Or.inr rfl, Or.inr rfl, Or.inr rfl, Or.inr (congrArg (fun z => some (Value.int z)) (congrArg (fun z => mLike s m (nI k0) h + z) (if_neg (fun z => b65 z.2.2.2)).symm)), Or.inr rfl, trivial⟩
                  | exact zA.sub (ih (h + 1) (by omega) (by omega)) rfl ⟨Or.inr rfl, Or.inr rfl, Or.inr rfl, Or.inr rfl, Or.inr (congrArg (fun z => some (Value.int z)) (congrArg (fun z => mLike s m (nI k0) h + z) (if_neg (fun z => b51 z.2.2.1)).symm)), Or.inr rfl, trivial⟩
                  | exact zA.sub (ih (h + 1) (by omega) (by omega)) rfl ⟨Or.inr rfl, Or.inr rfl, Or.inr rfl, Or.inr rfl, Or.inr (congrArg (fun z => some (Value.int z)) (congrArg (fun z => mLike s m (nI k0) h + z) (if_neg (fun z => c34 z.2.1)).symm)), Or.inr rfl, trivial⟩
                  | exact zA.sub (ih (h + 1) (by omega) (by omega)) rfl ⟨Or.inr rfl, Or.inr rfl, Or.inr rfl, Or.inr rfl, Or.inr (congrArg (fun z => some (Value.int z)) (congrArg (fun z => mLike s m (nI k0) h + z) (if_neg (fun z => c25 z.1)).symm)), Or.inr rfl, trivial⟩
              · refine z_iload_n dX12_greatestPart_54 rfl ?_
                refine z_iload_n dX12_greatestPart_55 rfl ?_
                refine z_iS2 (c_X12_tires g l) mw_X12_tires lm_X12_206 ms_X12_tires (by decide) (Nat.le_of_ble_eq_true rfl) zle dX12_greatestPart_56 (fun r56 M56 q56 => ?_)
                obtain ⟨qr56, qm56⟩ := q56
                obtain rfl := qr56.symm
                obtain rfl := qm56.symm
                refine z_iload dX12_greatestPart_59 rfl ?_
                refine z_iload_n dX12_greatestPart_61 rfl ?_
                refine z_iS2 (c_X12_tires g l) mw_X12_tires lm_X12_206 ms_X12_tires (by decide) (Nat.le_of_ble_eq_true rfl) zle dX12_greatestPart_62 (fun r62 M62 q62 => ?_)
                obtain ⟨qr62, qm62⟩ := q62
                obtain rfl := qr62.symm
                obtain rfl := qm62.symm
                refine z_icmp_ne (tgt := 72) dX12_greatestPart_65 (by decide) (fun b65 => ?_) (fun b65 => ?_)
                · refine z_iconst (v := 0) dX12_greatestPart_72 (by decide) ?_
                  refine z_iadd dX12_greatestPart_73 ?_
                  refine z_istore dX12_greatestPart_74 (by decide) rfl rfl ?_
                  refine z_iincN (k := h) dX12_greatestPart_76 rfl rfl (by decide) rfl rfl ?_
                  refine z_goto (tgt := 15) dX12_greatestPart_79 (by decide) ?_
                  first
                    | exact zA.sub (ih (h + 1) (by omega) (by omega)) rfl ⟨Or.inr rfl, Or.inr rfl, Or.inr rfl, Or.inr rfl, Or.inr (congrArg (fun z => some (Value.int z)) (congrArg (fun z => mLike s m (nI k0) h + z) (if_pos ⟨c25, c34, b51, b65⟩).symm)), Or.inr rfl, trivial⟩
                    | exact zA.sub (ih (h + 1) (by omega) (by omega)) rfl ⟨Or.inr rfl, Or.inr rfl, Or.inr rfl, Or.inr rfl, Or.inr (congrArg (fun z => some (Value.int z)) (congrArg (fun z => mLike s m (nI k0) h + z) (if_neg (fun z => b65 z.2.2.2)).symm)), Or.inr rfl, trivial⟩
                    | exact zA.sub (ih (h + 1) (by omega) (by omega)) rfl ⟨Or.inr rfl, Or.inr rfl, Or.inr rfl, Or.inr rfl, Or.inr (congrArg (fun z => some (Value.int z)) (congrArg (fun z => mLike s m (nI k0) h + z) (if_neg (fun z => b51 z.2.2.1)).symm)), Or.inr rfl, trivial⟩
                    | exact zA.sub (ih (h + 1) (by omega) (by omega)) rfl ⟨Or.inr rfl, Or.inr rfl, Or.inr rfl, Or.inr rfl, Or.inr (congrArg (fun z => some (Value.int z)) (congrArg (fun z => mLike s m (nI k0) h + z) (if_neg (fun z => c34 z.2.1)).symm)), Or.inr rfl, trivial⟩
                    | exact zA.sub (ih (h + 1) (by omega) (by omega)) rfl ⟨Or.inr rfl, Or.inr rfl, Or.inr rfl, Or.inr rfl, Or.inr (congrArg (fun z => some (Value.int z)) (congrArg (fun z => mLike s m (nI k0) h + z) (if_neg (fun z => c25 z.1)).symm)), Or.inr rfl, trivial⟩
                · refine z_iconst (v := 1) dX12_greatestPart_68 (by decide) ?_
                  refine z_goto (tgt := 73) dX12_greatestPart_69 (by decide) ?_
                  refine z_iadd dX12_greatestPart_73 ?_
                  refine z_istore dX12_greatestPart_74 (by decide) rfl rfl ?_
                  refine z_iincN (k := h) dX12_greatestPart_76 rfl rfl (by decide) rfl rfl ?_
                  refine z_goto (tgt := 15) dX12_greatestPart_79 (by decide) ?_
                  first
                    | exact zA.sub (ih (h + 1) (by omega) (by omega)) rfl ⟨Or.inr rfl, Or.inr rfl, Or.inr rfl, Or.inr rfl, Or.inr (congrArg (fun z => some (Value.int z)) (congrArg (fun z => mLike s m (nI k0) h + z) (if_pos ⟨c25, c34, b51, b65⟩).symm)), Or.inr rfl, trivial⟩
                    | exact zA.sub (ih (h + 1) (by omega) (by omega)) rfl ⟨Or.inr rfl, Or.inr rfl, Or.inr rfl, Or.inr rfl, Or.inr (congrArg (fun z => some (Value.int z)) (congrArg (fun z => mLike s m (nI k0) h + z) (if_neg (fun z => b65 z.2.2.2)).symm)), Or.inr rfl, trivial⟩
                    | exact zA.sub (ih (h + 1) (by omega) (by omega)) rfl ⟨Or.inr rfl, Or.inr rfl, Or.inr rfl, Or.inr rfl, Or.inr (congrArg (fun z => some (Value.int z)) (congrArg (fun z => mLike s m (nI k0) h + z) (if_neg (fun z => b51 z.2.2.1)).symm)), Or.inr rfl, trivial⟩
                    | exact zA.sub (ih (h + 1) (by omega) (by omega)) rfl ⟨Or.inr rfl, Or.inr rfl, Or.inr rfl, Or.inr rfl, Or.inr (congrArg (fun z => some (Value.int z)) (congrArg (fun z => mLike s m (nI k0) h + z) (if_neg (fun z => c34 z.2.1)).symm)), Or.inr rfl, trivial⟩
                    | exact zA.sub (ih (h + 1) (by omega) (by omega)) rfl ⟨Or.inr rfl, Or.inr rfl, Or.inr rfl, Or.inr rfl, Or.inr (congrArg (fun z => some (Value.int z)) (congrArg (fun z => mLike s m (nI k0) h + z) (if_neg (fun z => c25 z.1)).symm)), Or.inr rfl, trivial⟩
          · refine z_if_eq (tgt := 72) dX12_greatestPart_37 (by decide) (fun b37 => ?_) (fun b37 => ?_)
            · refine z_iconst (v := 0) dX12_greatestPart_72 (by decide) ?_
              refine z_iadd dX12_greatestPart_73 ?_
              refine z_istore dX12_greatestPart_74 (by decide) rfl rfl ?_
              refine z_iincN (k := h) dX12_greatestPart_76 rfl rfl (by decide) rfl rfl ?_
              refine z_goto (tgt := 15) dX12_greatestPart_79 (by decide) ?_
              first
                | exact zA.sub (ih (h + 1) (by omega) (by omega)) rfl ⟨Or.inr rfl, Or.inr rfl, Or.inr rfl, Or.inr rfl, Or.inr (congrArg (fun z => some (Value.int z)) (congrArg (fun z => mLike s m (nI k0) h + z) (if_pos ⟨c25, c34, b51, b65⟩).symm)), Or.inr rfl, trivial⟩
                | exact zA.sub (ih (h + 1) (by omega) (by omega)) rfl ⟨Or.inr rfl, Or.inr rfl, Or.inr rfl, Or.inr rfl, Or.inr (congrArg (fun z => some (Value.int z)) (congrArg (fun z => mLike s m (nI k0) h + z) (if_neg (fun z => b65 z.2.2.2)).symm)), Or.inr rfl, trivial⟩
                | exact zA.sub (ih (h + 1) (by omega) (by omega)) rfl ⟨Or.inr rfl, Or.inr rfl, Or.inr rfl, Or.inr rfl, Or.inr (congrArg (fun z => some (Value.int z)) (congrArg (fun z => mLike s m (nI k0) h + z) (if_neg (fun z => b51 z.2.2.1)).symm)), Or.inr rfl, trivial⟩
                | exact zA.sub (ih (h + 1) (by omega) (by omega)) rfl ⟨Or.inr rfl, Or.inr rfl, Or.inr rfl, Or.inr rfl, Or.inr (congrArg (fun z => some (Value.int z)) (congrArg (fun z => mLike s m (nI k0) h + z) (if_neg (fun z => c34 z.2.1)).symm)), Or.inr rfl, trivial⟩
                | exact zA.sub (ih (h + 1) (by omega) (by omega)) rfl ⟨Or.inr rfl, Or.inr rfl, Or.inr rfl, Or.inr rfl, Or.inr (congrArg (fun z => some (Value.int z)) (congrArg (fun z => mLike s m (nI k0) h + z) (if_neg (fun z => c25 z.1)).symm)), Or.inr rfl, trivial⟩
            · exact absurd b37 (by decide)
      · refine z_if_eq (tgt := 72) dX12_greatestPart_28 (by decide) (fun b28 => ?_) (fun b28 => ?_)
        · refine z_iconst (v := 0) dX12_greatestPart_72 (by decide) ?_
          refine z_iadd dX12_greatestPart_73 ?_
          refine z_istore dX12_greatestPart_74 (by decide) rfl rfl ?_
          refine z_iincN (k := h) dX12_greatestPart_76 rfl rfl (by decide) rfl rfl ?_
          refine z_goto (tgt := 15) dX12_greatestPart_79 (by decide) ?_
          first
            | exact zA.sub (ih (h + 1) (by omega) (by omega)) rfl ⟨Or.inr rfl, Or.inr rfl, Or.inr rfl, Or.inr rfl, Or.inr (congrArg (fun z => some (Value.int z)) (congrArg (fun z => mLike s m (nI k0) h + z) (if_pos ⟨c25, c34, b51, b65⟩).symm)), Or.inr rfl, trivial⟩
            | exact zA.sub (ih (h + 1) (by omega) (by omega)) rfl ⟨Or.inr rfl, Or.inr rfl, Or.inr rfl, Or.inr rfl, Or.inr (congrArg (fun z => some (Value.int z)) (congrArg (fun z => mLike s m (nI k0) h + z) (if_neg (fun z => b65 z.2.2.2)).symm)), Or.inr rfl, trivial⟩
            | exact zA.sub (ih (h + 1) (by omega) (by omega)) rfl ⟨Or.inr rfl, Or.inr rfl, Or.inr rfl, Or.inr rfl, Or.inr (congrArg (fun z => some (Value.int z)) (congrArg (fun z => mLike s m (nI k0) h + z) (if_neg (fun z => b51 z.2.2.1)).symm)), Or.inr rfl, trivial⟩
            | exact zA.sub (ih (h + 1) (by omega) (by omega)) rfl ⟨Or.inr rfl, Or.inr rfl, Or.inr rfl, Or.inr rfl, Or.inr (congrArg (fun z => some (Value.int z)) (congrArg (fun z => mLike s m (nI k0) h + z) (if_neg (fun z => c34 z.2.1)).symm)), Or.inr rfl, trivial⟩
            | exact zA.sub (ih (h + 1) (by omega) (by omega)) rfl ⟨Or.inr rfl, Or.inr rfl, Or.inr rfl, Or.inr rfl, Or.inr (congrArg (fun z => some (Value.int z)) (congrArg (fun z => mLike s m (nI k0) h + z) (if_neg (fun z => c25 z.1)).symm)), Or.inr rfl, trivial⟩
        · exact absurd b28 (by decide)

set_option maxRecDepth 100000 in
set_option maxHeartbeats 4000000 in
theorem lp_greatest (g : zG) (l : Launch) {M : zM} {s m : Int32} : ∀ (k h : Nat), h ≤ 5 → 5 - h < k → zA g l yX12_greatestPart cX12_greatestPart 6 (some .int) 1 0 0 (zQi (fun r' M' => r' = fPart s m 5 ∧ M' = M)) 4 0 0 S0 M [.int s, .int m, .int (fPart s m h), .int (nI h), .null, .null] [] := by
  intro k
  induction k with
  | zero => intro h hh hk; exact absurd hk (Nat.not_lt_zero _)
  | succ k ih =>
    intro h hh hk 
    refine z_iload_n dX12_greatestPart_4 rfl ?_
    refine z_iconst (v := 5) dX12_greatestPart_5 (by decide) ?_
    refine z_icmp_ge (tgt := 101) dX12_greatestPart_6 (by decide) (fun b6 => ?_) (fun b6 => ?_)
    · have e : 5 ≤ h := (nI_leI (by omega) (by omega)).mp b6
      have e2 : h = 5 := by omega
      subst e2
      refine z_iload_n dX12_greatestPart_101 rfl ?_
      exact z_iret dX12_greatestPart_102 rfl zle (⟨rfl, rfl⟩)
    · have hn : h < 5 := by
        rcases Nat.lt_or_ge h 5 with z | z
        · exact z
        · exact absurd (nI_le z (by omega)) b6
      refine z_iconst (v := 0) dX12_greatestPart_9 (by decide) ?_
      refine z_istore dX12_greatestPart_10 (by decide) rfl rfl ?_
      refine z_iconst (v := 0) dX12_greatestPart_12 (by decide) ?_
      refine z_istore dX12_greatestPart_13 (by decide) rfl rfl ?_
      refine lp_greatestIn g l ?_ 6 0 (Nat.zero_le _) (by omega)
      refine z_iload dX12_greatestPart_82 rfl ?_
      refine z_iload_n dX12_greatestPart_84 rfl ?_
      refine z_icmp_le (tgt := 93) dX12_greatestPart_85 (by decide) (fun b85 => ?_) (fun b85 => ?_)
      · refine z_iload_n dX12_greatestPart_93 rfl ?_
        refine z_istore_n dX12_greatestPart_94 (by decide) rfl rfl ?_
        refine z_iincN (k := h) dX12_greatestPart_95 rfl rfl (by decide) rfl rfl ?_
        refine z_goto (tgt := 4) dX12_greatestPart_98 (by decide) ?_
        first
          | exact zA.sub (ih (h + 1) (by omega) (by omega)) rfl ⟨Or.inr rfl, Or.inr rfl, Or.inr (congrArg (fun z => some (Value.int z)) ((fPart_m hn).trans (if_pos (Int32.not_le.mp b85))).symm), Or.inr rfl, Or.inl rfl, Or.inl rfl, trivial⟩
          | exact zA.sub (ih (h + 1) (by omega) (by omega)) rfl ⟨Or.inr rfl, Or.inr rfl, Or.inr (congrArg (fun z => some (Value.int z)) ((fPart_m hn).trans (if_neg (Int32.not_lt.mpr b85))).symm), Or.inr rfl, Or.inl rfl, Or.inl rfl, trivial⟩
      · refine z_iload dX12_greatestPart_88 rfl ?_
        refine z_goto (tgt := 94) dX12_greatestPart_90 (by decide) ?_
        refine z_istore_n dX12_greatestPart_94 (by decide) rfl rfl ?_
        refine z_iincN (k := h) dX12_greatestPart_95 rfl rfl (by decide) rfl rfl ?_
        refine z_goto (tgt := 4) dX12_greatestPart_98 (by decide) ?_
        first
          | exact zA.sub (ih (h + 1) (by omega) (by omega)) rfl ⟨Or.inr rfl, Or.inr rfl, Or.inr (congrArg (fun z => some (Value.int z)) ((fPart_m hn).trans (if_pos (Int32.not_le.mp b85))).symm), Or.inr rfl, Or.inl rfl, Or.inl rfl, trivial⟩
          | exact zA.sub (ih (h + 1) (by omega) (by omega)) rfl ⟨Or.inr rfl, Or.inr rfl, Or.inr (congrArg (fun z => some (Value.int z)) ((fPart_m hn).trans (if_neg (Int32.not_lt.mpr b85))).symm), Or.inr rfl, Or.inl rfl, Or.inl rfl, trivial⟩

set_option maxRecDepth 100000 in
set_option maxHeartbeats 4000000 in
theorem c_X12_greatestPart (g : zG) (l : Launch) {M : zM} {s m : Int32} : zMet g l yX12_greatestPart cX12_greatestPart 6 (some .int) 1 0 0 [.int s, .int m] S0 M (zQi (fun r' M' => r' = fPart s m 5 ∧ M' = M)) := by
  refine zMet.of (by decide) (Nat.le_of_ble_eq_true rfl) ?_
  refine z_iconst (v := 0) dX12_greatestPart_0 (by decide) ?_
  refine z_istore_n dX12_greatestPart_1 (by decide) rfl rfl ?_
  refine z_iconst (v := 0) dX12_greatestPart_2 (by decide) ?_
  refine z_istore_n dX12_greatestPart_3 (by decide) rfl rfl ?_
  exact lp_greatest g l 6 0 (Nat.zero_le _) (by omega)

set_option maxRecDepth 100000 in
set_option maxHeartbeats 4000000 in
theorem lp_ask (g : zG) (l : Launch) {M : zM} {s : Int32} : ∀ (k h : Nat), h ≤ 9 → 9 - h < k → zA g l yX12_ask cX12_ask 6 (some .int) 2 0 0 (zQi (fun r' M' => r' = (fAsk s 9).1 ∧ M' = M)) 15 0 0 S0 M [.ref 127, .int s, .int (fAsk s h).1, .int (fAsk s h).2, .int (nI (h + 1)), .null] [] := by
  intro k
  induction k with
  | zero => intro h hh hk; exact absurd hk (Nat.not_lt_zero _)
  | succ k ih =>
    intro h hh hk 
    refine z_iload dX12_ask_15 rfl ?_
    refine z_bipush (v := 10) dX12_ask_17 (by decide) ?_
    refine z_icmp_ge (tgt := 62) dX12_ask_19 (by decide) (fun b19 => ?_) (fun b19 => ?_)
    · have e2 : h = 9 := by have := (nI_leI (a := 10) (by omega) (by omega)).mp b19; omega
      subst e2
      refine z_iload_n dX12_ask_62 rfl ?_
      exact z_iret dX12_ask_63 rfl zle (⟨rfl, rfl⟩)
    · have hn : h < 9 := by
        rcases Nat.lt_or_ge h 9 with z | z
        · exact z
        · exact absurd ((nI_leI (a := 10) (by omega) (by omega)).mpr (by omega)) b19
      refine z_iload_n dX12_ask_22 rfl ?_
      refine z_iload dX12_ask_23 rfl ?_
      refine z_iS2 (c_X12_greatestPart g l) mw_X12_greatestPart lm_X12_273 ms_X12_greatestPart (by decide) (Nat.le_of_ble_eq_true rfl) zle dX12_ask_25 (fun r25 M25 q25 => ?_)
      obtain ⟨qr25, qm25⟩ := q25
      obtain rfl := qr25.symm
      obtain rfl := qm25.symm
      refine z_istore dX12_ask_28 (by decide) rfl rfl ?_
      refine z_iload dX12_ask_30 rfl ?_
      refine z_iload_n dX12_ask_32 rfl ?_
      refine z_icmp_ge (tgt := 41) dX12_ask_33 (by decide) (fun b33 => ?_) (fun b33 => ?_)
      · refine z_iload_n dX12_ask_41 rfl ?_
        refine z_istore_n dX12_ask_42 (by decide) rfl rfl ?_
        refine z_iload dX12_ask_43 rfl ?_
        refine z_iload_n dX12_ask_45 rfl ?_
        refine z_icmp_ge (tgt := 54) dX12_ask_46 (by decide) (fun b46 => ?_) (fun b46 => ?_)
        · refine z_iload_n dX12_ask_54 rfl ?_
          refine z_istore_n dX12_ask_55 (by decide) rfl rfl ?_
          refine z_iincN (k := (h + 1)) dX12_ask_56 rfl rfl (by decide) rfl rfl ?_
          refine z_goto (tgt := 15) dX12_ask_59 (by decide) ?_
          first
            | exact zA.sub (ih (h + 1) (by omega) (by omega)) rfl ⟨Or.inr rfl, Or.inr rfl, Or.inr (congrArg (fun z => some (Value.int z)) (congrArg Prod.fst (if_pos (Int32.not_le.mp b33) : fAsk s (h + 1) = _)).symm), Or.inr (congrArg (fun z => some (Value.int z)) (congrArg Prod.snd (if_pos (Int32.not_le.mp b33) : fAsk s (h + 1) = _)).symm), Or.inr rfl, Or.inl rfl, trivial⟩
            | exact zA.sub (ih (h + 1) (by omega) (by omega)) rfl ⟨Or.inr rfl, Or.inr rfl, Or.inr (congrArg (fun z => some (Value.int z)) (congrArg Prod.fst (if_neg (Int32.not_lt.mpr b33) : fAsk s (h + 1) = _)).symm), Or.inr (congrArg (fun z => some (Value.int z)) (congrArg Prod.snd (if_neg (Int32.not_lt.mpr b33) : fAsk s (h + 1) = _)).symm), Or.inr rfl, Or.inl rfl, trivial⟩
            | exact absurd b46 b33
            | exact absurd b33 b46
        · refine z_iload dX12_ask_49 rfl ?_
          refine z_goto (tgt := 55) dX12_ask_51 (by decide) ?_
          refine z_istore_n dX12_ask_55 (by decide) rfl rfl ?_
          refine z_iincN (k := (h + 1)) dX12_ask_56 rfl rfl (by decide) rfl rfl ?_
          refine z_goto (tgt := 15) dX12_ask_59 (by decide) ?_
          first
            | exact zA.sub (ih (h + 1) (by omega) (by omega)) rfl ⟨Or.inr rfl, Or.inr rfl, Or.inr (congrArg (fun z => some (Value.int z)) (congrArg Prod.fst (if_pos (Int32.not_le.mp b33) : fAsk s (h + 1) = _)).symm), Or.inr (congrArg (fun z => some (Value.int z)) (congrArg Prod.snd (if_pos (Int32.not_le.mp b33) : fAsk s (h + 1) = _)).symm), Or.inr rfl, Or.inl rfl, trivial⟩
            | exact zA.sub (ih (h + 1) (by omega) (by omega)) rfl ⟨Or.inr rfl, Or.inr rfl, Or.inr (congrArg (fun z => some (Value.int z)) (congrArg Prod.fst (if_neg (Int32.not_lt.mpr b33) : fAsk s (h + 1) = _)).symm), Or.inr (congrArg (fun z => some (Value.int z)) (congrArg Prod.snd (if_neg (Int32.not_lt.mpr b33) : fAsk s (h + 1) = _)).symm), Or.inr rfl, Or.inl rfl, trivial⟩
            | exact absurd b46 b33
            | exact absurd b33 b46
      · refine z_iload dX12_ask_36 rfl ?_
        refine z_goto (tgt := 42) dX12_ask_38 (by decide) ?_
        refine z_istore_n dX12_ask_42 (by decide) rfl rfl ?_
        refine z_iload dX12_ask_43 rfl ?_
        refine z_iload_n dX12_ask_45 rfl ?_
        refine z_icmp_ge (tgt := 54) dX12_ask_46 (by decide) (fun b46 => ?_) (fun b46 => ?_)
        · refine z_iload_n dX12_ask_54 rfl ?_
          refine z_istore_n dX12_ask_55 (by decide) rfl rfl ?_
          refine z_iincN (k := (h + 1)) dX12_ask_56 rfl rfl (by decide) rfl rfl ?_
          refine z_goto (tgt := 15) dX12_ask_59 (by decide) ?_
          first
            | exact zA.sub (ih (h + 1) (by omega) (by omega)) rfl ⟨Or.inr rfl, Or.inr rfl, Or.inr (congrArg (fun z => some (Value.int z)) (congrArg Prod.fst (if_pos (Int32.not_le.mp b33) : fAsk s (h + 1) = _)).symm), Or.inr (congrArg (fun z => some (Value.int z)) (congrArg Prod.snd (if_pos (Int32.not_le.mp b33) : fAsk s (h + 1) = _)).symm), Or.inr rfl, Or.inl rfl, trivial⟩
            | exact zA.sub (ih (h + 1) (by omega) (by omega)) rfl ⟨Or.inr rfl, Or.inr rfl, Or.inr (congrArg (fun z => some (Value.int z)) (congrArg Prod.fst (if_neg (Int32.not_lt.mpr b33) : fAsk s (h + 1) = _)).symm), Or.inr (congrArg (fun z => some (Value.int z)) (congrArg Prod.snd (if_neg (Int32.not_lt.mpr b33) : fAsk s (h + 1) = _)).symm), Or.inr rfl, Or.inl rfl, trivial⟩
            | exact absurd b46 b33
            | exact absurd b33 b46
        · refine z_iload dX12_ask_49 rfl ?_
          refine z_goto (tgt := 55) dX12_ask_51 (by decide) ?_
          refine z_istore_n dX12_ask_55 (by decide) rfl rfl ?_
          refine z_iincN (k := (h + 1)) dX12_ask_56 rfl rfl (by decide) rfl rfl ?_
          refine z_goto (tgt := 15) dX12_ask_59 (by decide) ?_
          first
            | exact zA.sub (ih (h + 1) (by omega) (by omega)) rfl ⟨Or.inr rfl, Or.inr rfl, Or.inr (congrArg (fun z => some (Value.int z)) (congrArg Prod.fst (if_pos (Int32.not_le.mp b33) : fAsk s (h + 1) = _)).symm), Or.inr (congrArg (fun z => some (Value.int z)) (congrArg Prod.snd (if_pos (Int32.not_le.mp b33) : fAsk s (h + 1) = _)).symm), Or.inr rfl, Or.inl rfl, trivial⟩
            | exact zA.sub (ih (h + 1) (by omega) (by omega)) rfl ⟨Or.inr rfl, Or.inr rfl, Or.inr (congrArg (fun z => some (Value.int z)) (congrArg Prod.fst (if_neg (Int32.not_lt.mpr b33) : fAsk s (h + 1) = _)).symm), Or.inr (congrArg (fun z => some (Value.int z)) (congrArg Prod.snd (if_neg (Int32.not_lt.mpr b33) : fAsk s (h + 1) = _)).symm), Or.inr rfl, Or.inl rfl, trivial⟩
            | exact absurd b46 b33
            | exact absurd b33 b46

set_option maxRecDepth 100000 in
set_option maxHeartbeats 4000000 in
theorem c_X12_ask (g : zG) (l : Launch) {M : zM} {A : aSt} (ok : aOK A) (C : RelM M A) : zMet g l yX12_ask cX12_ask 6 (some .int) 2 0 0 [.ref 127] S0 M (zQi (fun r' M' => r' = (fAsk (fKinds (aSeen A) A.v 5) 9).1 ∧ M' = M)) := by
  refine zMet.of (by decide) (Nat.le_of_ble_eq_true rfl) ?_
  refine z_aload_n dX12_ask_0 rfl ?_
  refine z_iV0 (c_X12_kinds g l ok C) mw_X12_kinds lm_X12_270 mi_X12_kinds mv_X12_kinds kX12 (by decide) (Nat.le_of_ble_eq_true rfl) zle k0_127 s0_127 dX12_ask_1 (fun r1 M1 q1 => ?_)
  obtain ⟨qr1, qm1⟩ := q1
  obtain rfl := qr1.symm
  obtain rfl := qm1.symm
  refine z_istore_n dX12_ask_4 (by decide) rfl rfl ?_
  refine z_iconst (v := (-1)) dX12_ask_5 (by decide) ?_
  refine z_istore_n dX12_ask_6 (by decide) rfl rfl ?_
  refine z_iload_n dX12_ask_7 rfl ?_
  refine z_iS1 (c_X12_bits g l) mw_X12_bits lm_X12_261 ms_X12_bits (by decide) (Nat.le_of_ble_eq_true rfl) zle dX12_ask_8 (fun r8 M8 q8 => ?_)
  obtain ⟨qr8, qm8⟩ := q8
  obtain rfl := qr8.symm
  obtain rfl := qm8.symm
  refine z_as (x' := zBc (fKinds (aSeen A) A.v 5)) (fKinds_bc _ _) ?_
  refine z_istore_n dX12_ask_11 (by decide) rfl rfl ?_
  refine z_iconst (v := 1) dX12_ask_12 (by decide) ?_
  refine z_istore dX12_ask_13 (by decide) rfl rfl ?_
  exact lp_ask g l 10 0 (Nat.zero_le _) (by omega)

set_option maxRecDepth 100000 in
set_option maxHeartbeats 4000000 in
theorem lp_lameOnes (g : zG) (l : Launch) {M : zM} {A : aSt} (ok : aOK A) (C : RelM M A) : ∀ (k h : Nat), h ≤ A.n → A.n - h < k → zA g l yX12_lameOnes cX12_lameOnes 3 (some .int) 0 0 0 (zQi (fun r' M' => r' = dLamB A.s A.n ∧ M' = M)) 4 0 0 S0 M [.ref 127, .int (dLamB A.s h), .int (nI h)] [] := by
  have n8 : A.n ≤ 8 := ok.s.1.1
  have r4 : A.r ≤ 4 := ok.s.1.2.1
  have i6 : A.i ≤ 6 := ok.s.1.2.2.1
  have u8 : A.u ≤ 8 := ok.u
  intro k
  induction k with
  | zero => intro h hh hk; exact absurd hk (Nat.not_lt_zero _)
  | succ k ih =>
    intro h hh hk 
    refine z_iload_n dX12_lameOnes_4 rfl ?_
    refine z_aload_n dX12_lameOnes_5 rfl ?_
    refine z_getR (j := 0) (r := 128) kX12 lf_X12_7 (by decide) rfl dX12_lameOnes_6 k0_127 s0_127 r0_127_0 (by decide) ?_
    refine z_iconst (v := 0) dX12_lameOnes_9 (by decide) ?_
    refine z_ialdV (j := 0) rfl (by decide) ((C.s 0 (by omega)).trans ok.s.1.2.2.2.1) dX12_lameOnes_10 k0_128 s0_128 ?_
    refine z_icmp_ge (tgt := 34) dX12_lameOnes_11 (by decide) (fun b11 => ?_) (fun b11 => ?_)
    · have e : A.n ≤ h := (nI_leI (by omega) (by omega)).mp b11
      have e2 : h = A.n := by omega
      subst e2
      refine z_iload_n dX12_lameOnes_34 rfl ?_
      exact z_iret dX12_lameOnes_35 rfl zle (⟨rfl, rfl⟩)
    · have hn : h < A.n := by
        rcases Nat.lt_or_ge h A.n with z | z
        · exact z
        · exact absurd (nI_le z (by omega)) b11
      refine z_iload_n dX12_lameOnes_14 rfl ?_
      refine z_aload_n dX12_lameOnes_15 rfl ?_
      refine z_getR (j := 0) (r := 128) kX12 lf_X12_7 (by decide) rfl dX12_lameOnes_16 k0_127 s0_127 r0_127_0 (by decide) ?_
      refine z_bipush (v := 35) dX12_lameOnes_19 (by decide) ?_
      refine z_iload_n dX12_lameOnes_21 rfl ?_
      refine z_iaddN (a := 35) (b := h) rfl rfl dX12_lameOnes_22 ?_
      refine z_ialdV (j := (35 + h)) rfl (by omega) (C.s (35 + h) (by omega)) dX12_lameOnes_23 k0_128 s0_128 ?_
      refine z_iload_n dX12_lameOnes_24 rfl ?_
      refine z_ishl dX12_lameOnes_25 ?_
      refine z_ior dX12_lameOnes_26 ?_
      refine z_istore_n dX12_lameOnes_27 (by decide) rfl rfl ?_
      refine z_iincN (k := h) dX12_lameOnes_28 rfl rfl (by decide) rfl rfl ?_
      refine z_goto (tgt := 4) dX12_lameOnes_31 (by decide) ?_
      exact ih (h + 1) (by omega) (by omega)

set_option maxRecDepth 100000 in
set_option maxHeartbeats 4000000 in
theorem c_X12_lameOnes (g : zG) (l : Launch) {M : zM} {A : aSt} (ok : aOK A) (C : RelM M A) : zMet g l yX12_lameOnes cX12_lameOnes 3 (some .int) 0 0 0 [.ref 127] S0 M (zQi (fun r' M' => r' = dLamB A.s A.n ∧ M' = M)) := by
  refine zMet.of (by decide) (Nat.le_of_ble_eq_true rfl) ?_
  refine z_iconst (v := 0) dX12_lameOnes_0 (by decide) ?_
  refine z_istore_n dX12_lameOnes_1 (by decide) rfl rfl ?_
  refine z_iconst (v := 0) dX12_lameOnes_2 (by decide) ?_
  refine z_istore_n dX12_lameOnes_3 (by decide) rfl rfl ?_
  exact lp_lameOnes g l ok C (A.n + 1) 0 (Nat.zero_le _) (by omega)

set_option maxRecDepth 100000 in
set_option maxHeartbeats 4000000 in
theorem lp_thereOnes (g : zG) (l : Launch) {M : zM} {A : aSt} (ok : aOK A) (C : RelM M A) : ∀ (k h : Nat), h ≤ A.r → A.r - h < k → zA g l yX12_thereOnes cX12_thereOnes 3 (some .int) 1 0 0 (zQi (fun r' M' => r' = dThere A.s A.r ∧ M' = M)) 4 0 0 S0 M [.ref 127, .int (dThere A.s h), .int (nI h)] [] := by
  have n8 : A.n ≤ 8 := ok.s.1.1
  have r4 : A.r ≤ 4 := ok.s.1.2.1
  have i6 : A.i ≤ 6 := ok.s.1.2.2.1
  have u8 : A.u ≤ 8 := ok.u
  intro k
  induction k with
  | zero => intro h hh hk; exact absurd hk (Nat.not_lt_zero _)
  | succ k ih =>
    intro h hh hk 
    refine z_iload_n dX12_thereOnes_4 rfl ?_
    refine z_aload_n dX12_thereOnes_5 rfl ?_
    refine z_getR (j := 0) (r := 128) kX12 lf_X12_7 (by decide) rfl dX12_thereOnes_6 k0_127 s0_127 r0_127_0 (by decide) ?_
    refine z_iconst (v := 1) dX12_thereOnes_9 (by decide) ?_
    refine z_ialdV (j := 1) rfl (by decide) ((C.s 1 (by omega)).trans ok.s.1.2.2.2.2.1) dX12_thereOnes_10 k0_128 s0_128 ?_
    refine z_icmp_ge (tgt := 38) dX12_thereOnes_11 (by decide) (fun b11 => ?_) (fun b11 => ?_)
    · have e : A.r ≤ h := (nI_leI (by omega) (by omega)).mp b11
      have e2 : h = A.r := by omega
      subst e2
      refine z_iload_n dX12_thereOnes_38 rfl ?_
      exact z_iret dX12_thereOnes_39 rfl zle (⟨rfl, rfl⟩)
    · have hn : h < A.r := by
        rcases Nat.lt_or_ge h A.r with z | z
        · exact z
        · exact absurd (nI_le z (by omega)) b11
      refine z_iload_n dX12_thereOnes_14 rfl ?_
      refine z_aload_n dX12_thereOnes_15 rfl ?_
      refine z_iload_n dX12_thereOnes_16 rfl ?_
      refine z_iV1 (c_X12_isRiding g l ok C hn) mw_X12_isRiding lm_X12_237 mi_X12_isRiding mv_X12_isRiding kX12 (by decide) (Nat.le_of_ble_eq_true rfl) zle k0_127 s0_127 dX12_thereOnes_17 (fun r17 M17 q17 => ?_)
      obtain ⟨qm17, qr17⟩ := q17
      obtain rfl := qm17.symm
      obtain ⟨c17, rfl⟩ | ⟨c17, rfl⟩ := qr17
      · refine z_if_eq (tgt := 27) dX12_thereOnes_20 (by decide) (fun b20 => ?_) (fun b20 => ?_)
        · exact absurd b20 (by decide)
        · refine z_iconst (v := 0) dX12_thereOnes_23 (by decide) ?_
          refine z_goto (tgt := 30) dX12_thereOnes_24 (by decide) ?_
          refine z_ior dX12_thereOnes_30 ?_
          refine z_istore_n dX12_thereOnes_31 (by decide) rfl rfl ?_
          refine z_iincN (k := h) dX12_thereOnes_32 rfl rfl (by decide) rfl rfl ?_
          refine z_goto (tgt := 4) dX12_thereOnes_35 (by decide) ?_
          first
            | exact zA.sub (ih (h + 1) (by omega) (by omega)) rfl ⟨Or.inr rfl, Or.inr (congrArg (fun z => some (Value.int z)) ((Int32.or_zero).trans (if_neg c17 : dThere A.s (h + 1) = _).symm)), Or.inr rfl, trivial⟩
            | exact zA.sub (ih (h + 1) (by omega) (by omega)) rfl ⟨Or.inr rfl, Or.inr (congrArg (fun z => some (Value.int z)) (if_pos (Classical.byContradiction c17) : dThere A.s (h + 1) = _).symm), Or.inr rfl, trivial⟩
      · refine z_if_eq (tgt := 27) dX12_thereOnes_20 (by decide) (fun b20 => ?_) (fun b20 => ?_)
        · refine z_iconst (v := 1) dX12_thereOnes_27 (by decide) ?_
          refine z_iload_n dX12_thereOnes_28 rfl ?_
          refine z_ishl dX12_thereOnes_29 ?_
          refine z_ior dX12_thereOnes_30 ?_
          refine z_istore_n dX12_thereOnes_31 (by decide) rfl rfl ?_
          refine z_iincN (k := h) dX12_thereOnes_32 rfl rfl (by decide) rfl rfl ?_
          refine z_goto (tgt := 4) dX12_thereOnes_35 (by decide) ?_
          first
            | exact zA.sub (ih (h + 1) (by omega) (by omega)) rfl ⟨Or.inr rfl, Or.inr (congrArg (fun z => some (Value.int z)) ((Int32.or_zero).trans (if_neg c17 : dThere A.s (h + 1) = _).symm)), Or.inr rfl, trivial⟩
            | exact zA.sub (ih (h + 1) (by omega) (by omega)) rfl ⟨Or.inr rfl, Or.inr (congrArg (fun z => some (Value.int z)) (if_pos (Classical.byContradiction c17) : dThere A.s (h + 1) = _).symm), Or.inr rfl, trivial⟩
        · exact absurd b20 (by decide)

set_option maxRecDepth 100000 in
set_option maxHeartbeats 4000000 in
theorem c_X12_thereOnes (g : zG) (l : Launch) {M : zM} {A : aSt} (ok : aOK A) (C : RelM M A) : zMet g l yX12_thereOnes cX12_thereOnes 3 (some .int) 1 0 0 [.ref 127] S0 M (zQi (fun r' M' => r' = dThere A.s A.r ∧ M' = M)) := by
  have n8 : A.n ≤ 8 := ok.s.1.1
  have r4 : A.r ≤ 4 := ok.s.1.2.1
  have i6 : A.i ≤ 6 := ok.s.1.2.2.1
  have u8 : A.u ≤ 8 := ok.u
  refine zMet.of (by decide) (Nat.le_of_ble_eq_true rfl) ?_
  refine z_iconst (v := 0) dX12_thereOnes_0 (by decide) ?_
  refine z_istore_n dX12_thereOnes_1 (by decide) rfl rfl ?_
  refine z_iconst (v := 0) dX12_thereOnes_2 (by decide) ?_
  refine z_istore_n dX12_thereOnes_3 (by decide) rfl rfl ?_
  exact lp_thereOnes g l ok C (A.r + 1) 0 (Nat.zero_le _) (by omega)

set_option maxRecDepth 100000 in
set_option maxHeartbeats 4000000 in
theorem lp_clocks (g : zG) (l : Launch) {M : zM} {A : aSt} (ok : aOK A) (C : RelM M A) : ∀ (k h : Nat), h ≤ A.r → A.r - h < k → zA g l yX12_clocks cX12_clocks 3 (some .int) 0 0 0 (zQi (fun r' M' => r' = dClk A.s A.r ∧ M' = M)) 4 0 0 S0 M [.ref 127, .int (dClk A.s h), .int (nI h)] [] := by
  have n8 : A.n ≤ 8 := ok.s.1.1
  have r4 : A.r ≤ 4 := ok.s.1.2.1
  have i6 : A.i ≤ 6 := ok.s.1.2.2.1
  have u8 : A.u ≤ 8 := ok.u
  intro k
  induction k with
  | zero => intro h hh hk; exact absurd hk (Nat.not_lt_zero _)
  | succ k ih =>
    intro h hh hk 
    refine z_iload_n dX12_clocks_4 rfl ?_
    refine z_aload_n dX12_clocks_5 rfl ?_
    refine z_getR (j := 0) (r := 128) kX12 lf_X12_7 (by decide) rfl dX12_clocks_6 k0_127 s0_127 r0_127_0 (by decide) ?_
    refine z_iconst (v := 1) dX12_clocks_9 (by decide) ?_
    refine z_ialdV (j := 1) rfl (by decide) ((C.s 1 (by omega)).trans ok.s.1.2.2.2.2.1) dX12_clocks_10 k0_128 s0_128 ?_
    refine z_icmp_ge (tgt := 32) dX12_clocks_11 (by decide) (fun b11 => ?_) (fun b11 => ?_)
    · have e : A.r ≤ h := (nI_leI (by omega) (by omega)).mp b11
      have e2 : h = A.r := by omega
      subst e2
      refine z_iload_n dX12_clocks_32 rfl ?_
      exact z_iret dX12_clocks_33 rfl zle (⟨rfl, rfl⟩)
    · have hn : h < A.r := by
        rcases Nat.lt_or_ge h A.r with z | z
        · exact z
        · exact absurd (nI_le z (by omega)) b11
      refine z_iload_n dX12_clocks_14 rfl ?_
      refine z_aload_n dX12_clocks_15 rfl ?_
      refine z_getR (j := 0) (r := 128) kX12 lf_X12_7 (by decide) rfl dX12_clocks_16 k0_127 s0_127 r0_127_0 (by decide) ?_
      refine z_bipush (v := 59) dX12_clocks_19 (by decide) ?_
      refine z_iload_n dX12_clocks_21 rfl ?_
      refine z_iaddN (a := 59) (b := h) rfl rfl dX12_clocks_22 ?_
      refine z_ialdV (j := (59 + h)) rfl (by omega) (C.s (59 + h) (by omega)) dX12_clocks_23 k0_128 s0_128 ?_
      refine z_iadd dX12_clocks_24 ?_
      refine z_istore_n dX12_clocks_25 (by decide) rfl rfl ?_
      refine z_iincN (k := h) dX12_clocks_26 rfl rfl (by decide) rfl rfl ?_
      refine z_goto (tgt := 4) dX12_clocks_29 (by decide) ?_
      exact ih (h + 1) (by omega) (by omega)

set_option maxRecDepth 100000 in
set_option maxHeartbeats 4000000 in
theorem c_X12_clocks (g : zG) (l : Launch) {M : zM} {A : aSt} (ok : aOK A) (C : RelM M A) : zMet g l yX12_clocks cX12_clocks 3 (some .int) 0 0 0 [.ref 127] S0 M (zQi (fun r' M' => r' = dClk A.s A.r ∧ M' = M)) := by
  refine zMet.of (by decide) (Nat.le_of_ble_eq_true rfl) ?_
  refine z_iconst (v := 0) dX12_clocks_0 (by decide) ?_
  refine z_istore_n dX12_clocks_1 (by decide) rfl rfl ?_
  refine z_iconst (v := 0) dX12_clocks_2 (by decide) ?_
  refine z_istore_n dX12_clocks_3 (by decide) rfl rfl ?_
  exact lp_clocks g l ok C (A.r + 1) 0 (Nat.zero_le _) (by omega)

theorem fOpen_s {A : aSt} {h : Nat} (hl : A.ln h ≤ 10) : fOpen (aBk A) (h + 1) = fOpen (aBk A) h + (if 0 ≤ bSz A h then 1 else 0) := by
  show (if aBk A (115 + 3 * h) 2 = -1 then _ else _) = _
  rw [aBk_0]
  by_cases c : A.bo h = true
  · rw [if_neg (fun z => (bSz_m hl).mp z c), if_pos ((bSz_ge hl).mpr c)]
  · rw [if_pos ((bSz_m hl).mpr c), if_neg (fun z => c ((bSz_ge hl).mp z)), Int32.add_zero]
set_option maxRecDepth 100000 in
set_option maxHeartbeats 4000000 in
theorem lp_booksThere (g : zG) (l : Launch) {M : zM} {A : aSt} (ok : aOK A) (C : RelM M A) : ∀ (k h : Nat), h ≤ 4 → 4 - h < k → zA g l yX12_booksThere cX12_booksThere 3 (some .int) 0 0 0 (zQi (fun r' M' => r' = fOpen (aBk A) 4 ∧ M' = M)) 4 0 0 S0 M [.ref 127, .int (fOpen (aBk A) h), .int (nI h)] [] := by
  have n8 : A.n ≤ 8 := ok.s.1.1
  have r4 : A.r ≤ 4 := ok.s.1.2.1
  have i6 : A.i ≤ 6 := ok.s.1.2.2.1
  have u8 : A.u ≤ 8 := ok.u
  intro k
  induction k with
  | zero => intro h hh hk; exact absurd hk (Nat.not_lt_zero _)
  | succ k ih =>
    intro h hh hk 
    refine z_iload_n dX12_booksThere_4 rfl ?_
    refine z_iconst (v := 4) dX12_booksThere_5 (by decide) ?_
    refine z_icmp_ge (tgt := 32) dX12_booksThere_6 (by decide) (fun b6 => ?_) (fun b6 => ?_)
    · have e : 4 ≤ h := (nI_leI (by omega) (by omega)).mp b6
      have e2 : h = 4 := by omega
      subst e2
      refine z_iload_n dX12_booksThere_32 rfl ?_
      exact z_iret dX12_booksThere_33 rfl zle (⟨rfl, rfl⟩)
    · have hn : h < 4 := by
        rcases Nat.lt_or_ge h 4 with z | z
        · exact z
        · exact absurd (nI_le z (by omega)) b6
      refine z_iload_n dX12_booksThere_9 rfl ?_
      refine z_aload_n dX12_booksThere_10 rfl ?_
      refine z_getR (j := 9) (r := 134) kX12 lf_X12_29 (by decide) rfl dX12_booksThere_11 k0_127 s0_127 r0_127_9 (by decide) ?_
      refine z_iload_n dX12_booksThere_14 rfl ?_
      refine z_ialdV (j := h) rfl (by omega) (C.book h (by omega)).1 dX12_booksThere_15 k0_134 s0_134 ?_
      refine z_if_ge (tgt := 23) dX12_booksThere_16 (by decide) (fun b16 => ?_) (fun b16 => ?_)
      · refine z_iconst (v := 1) dX12_booksThere_23 (by decide) ?_
        refine z_iadd dX12_booksThere_24 ?_
        refine z_istore_n dX12_booksThere_25 (by decide) rfl rfl ?_
        refine z_iincN (k := h) dX12_booksThere_26 rfl rfl (by decide) rfl rfl ?_
        refine z_goto (tgt := 4) dX12_booksThere_29 (by decide) ?_
        have hl := (ok.ln h (by omega)).1
        first
          | exact zA.sub (ih (h + 1) (by omega) (by omega)) rfl ⟨Or.inr rfl, Or.inr (congrArg (fun z => some (Value.int z)) ((fOpen_s hl).trans (congrArg (fun z => fOpen (aBk A) h + z) (if_pos b16))).symm), Or.inr rfl, trivial⟩
          | exact zA.sub (ih (h + 1) (by omega) (by omega)) rfl ⟨Or.inr rfl, Or.inr (congrArg (fun z => some (Value.int z)) ((fOpen_s hl).trans (congrArg (fun z => fOpen (aBk A) h + z) (if_neg b16))).symm), Or.inr rfl, trivial⟩
      · refine z_iconst (v := 0) dX12_booksThere_19 (by decide) ?_
        refine z_goto (tgt := 24) dX12_booksThere_20 (by decide) ?_
        refine z_iadd dX12_booksThere_24 ?_
        refine z_istore_n dX12_booksThere_25 (by decide) rfl rfl ?_
        refine z_iincN (k := h) dX12_booksThere_26 rfl rfl (by decide) rfl rfl ?_
        refine z_goto (tgt := 4) dX12_booksThere_29 (by decide) ?_
        have hl := (ok.ln h (by omega)).1
        first
          | exact zA.sub (ih (h + 1) (by omega) (by omega)) rfl ⟨Or.inr rfl, Or.inr (congrArg (fun z => some (Value.int z)) ((fOpen_s hl).trans (congrArg (fun z => fOpen (aBk A) h + z) (if_pos b16))).symm), Or.inr rfl, trivial⟩
          | exact zA.sub (ih (h + 1) (by omega) (by omega)) rfl ⟨Or.inr rfl, Or.inr (congrArg (fun z => some (Value.int z)) ((fOpen_s hl).trans (congrArg (fun z => fOpen (aBk A) h + z) (if_neg b16))).symm), Or.inr rfl, trivial⟩

set_option maxRecDepth 100000 in
set_option maxHeartbeats 4000000 in
theorem c_X12_booksThere (g : zG) (l : Launch) {M : zM} {A : aSt} (ok : aOK A) (C : RelM M A) : zMet g l yX12_booksThere cX12_booksThere 3 (some .int) 0 0 0 [.ref 127] S0 M (zQi (fun r' M' => r' = fOpen (aBk A) 4 ∧ M' = M)) := by
  refine zMet.of (by decide) (Nat.le_of_ble_eq_true rfl) ?_
  refine z_iconst (v := 0) dX12_booksThere_0 (by decide) ?_
  refine z_istore_n dX12_booksThere_1 (by decide) rfl rfl ?_
  refine z_iconst (v := 0) dX12_booksThere_2 (by decide) ?_
  refine z_istore_n dX12_booksThere_3 (by decide) rfl rfl ?_
  exact lp_booksThere g l ok C 5 0 (Nat.zero_le _) (by omega)

set_option maxRecDepth 100000 in
set_option maxHeartbeats 4000000 in
theorem c_X12_count (g : zG) (l : Launch) {M : zM} {A : aSt} (ok : aOK A) (C : RelM M A) {x : Int32} : zMet g l yX12_count cX12_count 2 (some .int) 2 0 0 [.ref 127, .int x] S0 M (zQi (fun r' M' => zAnsM M A (aCount A x) r' M')) := by
  have n8 : A.n ≤ 8 := ok.s.1.1
  have r4 : A.r ≤ 4 := ok.s.1.2.1
  have i6 : A.i ≤ 6 := ok.s.1.2.2.1
  have u8 : A.u ≤ 8 := ok.u
  refine zMet.of (by decide) (Nat.le_of_ble_eq_true rfl) ?_
  refine z_iload_n dX12_count_0 rfl ?_
  refine z_tsw (b := 0) (n := 11) (tg := [60, 68, 75, 82, 89, 94, 99, 104, 109, 114, 119]) (tgt := 124) dX12_count_1 (by decide) (by decide) (by decide) (by decide) (by decide) (fun k1 hk1 s1 => ?_) (fun s1 => ?_)
  · match k1, hk1 with
    | 0, _ =>
      have s2 : x = 0 := s1
      refine z_aload_n dX12_count_60 rfl ?_
      refine z_getR (j := 0) (r := 128) kX12 lf_X12_7 (by decide) rfl dX12_count_61 k0_127 s0_127 r0_127_0 (by decide) ?_
      refine z_bipush (v := 63) dX12_count_64 (by decide) ?_
      refine z_ialdV (j := 63) rfl (by decide) ((C.s 63 (by omega)).trans ok.s.1.2.2.2.2.2) dX12_count_66 k0_128 s0_128 ?_
      refine z_iret dX12_count_67 rfl zle ?_
      exact zAnsM.of C (by unfold aCount; rw [if_pos s2])
    | 1, _ =>
      have s2 : x = 1 := s1
      refine z_aload_n dX12_count_68 rfl ?_
      refine z_getR (j := 0) (r := 128) kX12 lf_X12_7 (by decide) rfl dX12_count_69 k0_127 s0_127 r0_127_0 (by decide) ?_
      refine z_iconst (v := 0) dX12_count_72 (by decide) ?_
      refine z_ialdV (j := 0) rfl (by decide) ((C.s 0 (by omega)).trans ok.s.1.2.2.2.1) dX12_count_73 k0_128 s0_128 ?_
      refine z_iret dX12_count_74 rfl zle ?_
      exact zAnsM.of C (by unfold aCount; rw [if_neg (by rw [s2]; decide), if_pos s2])
    | 2, _ =>
      have s2 : x = 2 := s1
      refine z_aload_n dX12_count_75 rfl ?_
      refine z_getR (j := 0) (r := 128) kX12 lf_X12_7 (by decide) rfl dX12_count_76 k0_127 s0_127 r0_127_0 (by decide) ?_
      refine z_iconst (v := 1) dX12_count_79 (by decide) ?_
      refine z_ialdV (j := 1) rfl (by decide) ((C.s 1 (by omega)).trans ok.s.1.2.2.2.2.1) dX12_count_80 k0_128 s0_128 ?_
      refine z_iret dX12_count_81 rfl zle ?_
      exact zAnsM.of C (by unfold aCount; rw [if_neg (by rw [s2]; decide), if_neg (by rw [s2]; decide), if_pos s2])
    | 3, _ =>
      have s2 : x = 3 := s1
      refine z_aload_n dX12_count_82 rfl ?_
      refine z_getR (j := 0) (r := 128) kX12 lf_X12_7 (by decide) rfl dX12_count_83 k0_127 s0_127 r0_127_0 (by decide) ?_
      refine z_iconst (v := 2) dX12_count_86 (by decide) ?_
      refine z_ialdV (j := 2) rfl (by decide) (C.s 2 (by omega)) dX12_count_87 k0_128 s0_128 ?_
      refine z_iret dX12_count_88 rfl zle ?_
      exact zAnsM.of C (by unfold aCount; rw [if_neg (by rw [s2]; decide), if_neg (by rw [s2]; decide), if_neg (by rw [s2]; decide), if_pos s2])
    | 4, _ =>
      have s2 : x = 4 := s1
      refine z_aload_n dX12_count_89 rfl ?_
      refine z_iV0 (c_X12_lameOnes g l ok C) mw_X12_lameOnes lm_X12_299 mi_X12_lameOnes mv_X12_lameOnes kX12 (by decide) (Nat.le_of_ble_eq_true rfl) zle k0_127 s0_127 dX12_count_90 (fun r90 M90 q90 => ?_)
      obtain ⟨qr90, qm90⟩ := q90
      obtain rfl := qr90.symm
      obtain rfl := qm90.symm
      refine z_iret dX12_count_93 rfl zle ?_
      exact zAnsM.of C (by unfold aCount; rw [if_neg (by rw [s2]; decide), if_neg (by rw [s2]; decide), if_neg (by rw [s2]; decide), if_neg (by rw [s2]; decide), if_pos s2])
    | 5, _ =>
      have s2 : x = 5 := s1
      refine z_aload_n dX12_count_94 rfl ?_
      refine z_iV0 (c_X12_thereOnes g l ok C) mw_X12_thereOnes lm_X12_302 mi_X12_thereOnes mv_X12_thereOnes kX12 (by decide) (Nat.le_of_ble_eq_true rfl) zle k0_127 s0_127 dX12_count_95 (fun r95 M95 q95 => ?_)
      obtain ⟨qr95, qm95⟩ := q95
      obtain rfl := qr95.symm
      obtain rfl := qm95.symm
      refine z_iret dX12_count_98 rfl zle ?_
      exact zAnsM.of C (by unfold aCount; rw [if_neg (by rw [s2]; decide), if_neg (by rw [s2]; decide), if_neg (by rw [s2]; decide), if_neg (by rw [s2]; decide), if_neg (by rw [s2]; decide), if_pos s2])
    | 6, _ =>
      have s2 : x = 6 := s1
      refine z_aload_n dX12_count_99 rfl ?_
      refine z_iV0 (c_X12_clocks g l ok C) mw_X12_clocks lm_X12_305 mi_X12_clocks mv_X12_clocks kX12 (by decide) (Nat.le_of_ble_eq_true rfl) zle k0_127 s0_127 dX12_count_100 (fun r100 M100 q100 => ?_)
      obtain ⟨qr100, qm100⟩ := q100
      obtain rfl := qr100.symm
      obtain rfl := qm100.symm
      refine z_iret dX12_count_103 rfl zle ?_
      exact zAnsM.of C (by unfold aCount; rw [if_neg (by rw [s2]; decide), if_neg (by rw [s2]; decide), if_neg (by rw [s2]; decide), if_neg (by rw [s2]; decide), if_neg (by rw [s2]; decide), if_neg (by rw [s2]; decide), if_pos s2])
    | 7, _ =>
      have s2 : x = 7 := s1
      refine z_aload_n dX12_count_104 rfl ?_
      refine z_getIV (j := 5) kX12 lf_X12_166 (by decide) rfl C.fl.2.2 dX12_count_105 k0_127 s0_127 ?_
      refine z_iret dX12_count_108 rfl zle ?_
      exact zAnsM.of C (by unfold aCount; rw [if_neg (by rw [s2]; decide), if_neg (by rw [s2]; decide), if_neg (by rw [s2]; decide), if_neg (by rw [s2]; decide), if_neg (by rw [s2]; decide), if_neg (by rw [s2]; decide), if_neg (by rw [s2]; decide), if_pos s2])
    | 8, _ =>
      have s2 : x = 8 := s1
      refine z_aload_n dX12_count_109 rfl ?_
      refine z_iV0 (c_X12_booksThere g l ok C) mw_X12_booksThere lm_X12_308 mi_X12_booksThere mv_X12_booksThere kX12 (by decide) (Nat.le_of_ble_eq_true rfl) zle k0_127 s0_127 dX12_count_110 (fun r110 M110 q110 => ?_)
      obtain ⟨qr110, qm110⟩ := q110
      obtain rfl := qr110.symm
      obtain rfl := qm110.symm
      refine z_iret dX12_count_113 rfl zle ?_
      exact zAnsM.of C (by unfold aCount; rw [if_neg (by rw [s2]; decide), if_neg (by rw [s2]; decide), if_neg (by rw [s2]; decide), if_neg (by rw [s2]; decide), if_neg (by rw [s2]; decide), if_neg (by rw [s2]; decide), if_neg (by rw [s2]; decide), if_neg (by rw [s2]; decide), if_pos s2])
    | 9, _ =>
      have s2 : x = 9 := s1
      refine z_aload_n dX12_count_114 rfl ?_
      refine z_getIV (j := 1) kX12 lf_X12_163 (by decide) rfl C.fl.1 dX12_count_115 k0_127 s0_127 ?_
      refine z_iret dX12_count_118 rfl zle ?_
      exact zAnsM.of C (by unfold aCount; rw [if_neg (by rw [s2]; decide), if_neg (by rw [s2]; decide), if_neg (by rw [s2]; decide), if_neg (by rw [s2]; decide), if_neg (by rw [s2]; decide), if_neg (by rw [s2]; decide), if_neg (by rw [s2]; decide), if_neg (by rw [s2]; decide), if_neg (by rw [s2]; decide), if_pos s2])
    | 10, _ =>
      have s2 : x = 10 := s1
      refine z_aload_n dX12_count_119 rfl ?_
      refine z_getIV (j := 4) kX12 lf_X12_83 (by decide) rfl C.fl.2.1 dX12_count_120 k0_127 s0_127 ?_
      refine z_iret dX12_count_123 rfl zle ?_
      exact zAnsM.of C (by unfold aCount; rw [if_neg (by rw [s2]; decide), if_neg (by rw [s2]; decide), if_neg (by rw [s2]; decide), if_neg (by rw [s2]; decide), if_neg (by rw [s2]; decide), if_neg (by rw [s2]; decide), if_neg (by rw [s2]; decide), if_neg (by rw [s2]; decide), if_neg (by rw [s2]; decide), if_neg (by rw [s2]; decide), if_pos s2])
    | k + 11, h => exact absurd h (by omega)
  · have n0 : ¬ x = 0 := s1 0 (by decide)
    have n1 : ¬ x = 1 := s1 1 (by decide)
    have n2 : ¬ x = 2 := s1 2 (by decide)
    have n3 : ¬ x = 3 := s1 3 (by decide)
    have n4 : ¬ x = 4 := s1 4 (by decide)
    have n5 : ¬ x = 5 := s1 5 (by decide)
    have n6 : ¬ x = 6 := s1 6 (by decide)
    have n7 : ¬ x = 7 := s1 7 (by decide)
    have n8 : ¬ x = 8 := s1 8 (by decide)
    have n9 : ¬ x = 9 := s1 9 (by decide)
    have n10 : ¬ x = 10 := s1 10 (by decide)
    refine z_bipush (v := (-3)) dX12_count_124 (by decide) ?_
    refine z_iret dX12_count_126 rfl zle ?_
    exact zAnsM.of C (by unfold aCount; rw [if_neg n0, if_neg n1, if_neg n2, if_neg n3, if_neg n4, if_neg n5, if_neg n6, if_neg n7, if_neg n8, if_neg n9, if_neg n10])

set_option maxRecDepth 100000 in
set_option maxHeartbeats 4000000 in
theorem c_X12_isSpan (g : zG) (l : Launch) {M : zM} {b n : Nat} {y m : Int32} (hb : b < 4) (hn : n ≤ 10) (h1 : M 134 b = nI n) : zMet g l yX12_isSpan cX12_isSpan 4 (some .boolean) 0 0 0 [.ref 127, .int (nI b), .int y, .int m] S0 M (zQi (fun r' M' => M' = M ∧ (((0 ≤ y ∧ 0 ≤ m ∧ y ≤ nI n - m) ∧ r' = 1) ∨ (¬ (0 ≤ y ∧ 0 ≤ m ∧ y ≤ nI n - m) ∧ r' = 0)))) := by
  refine zMet.of (by decide) (Nat.le_of_ble_eq_true rfl) ?_
  refine z_iload_n dX12_isSpan_0 rfl ?_
  refine z_if_lt (tgt := 28) dX12_isSpan_1 (by decide) (fun b1 => ?_) (fun b1 => ?_)
  · refine z_iconst (v := 0) dX12_isSpan_28 (by decide) ?_
    refine z_iret dX12_isSpan_29 rfl zle ?_
    first
      | exact ⟨rfl, Or.inl ⟨⟨Int32.not_lt.mp b1, Int32.not_lt.mp b5, (span_eq hn (Int32.not_lt.mp b1) (Int32.not_lt.mp b5)).mpr (fun z => b21 ((lg_gt _ _).mpr z))⟩, rfl⟩⟩
      | exact ⟨rfl, Or.inl ⟨⟨Int32.not_lt.mp b1, Int32.not_lt.mp b5, (span_eq hn (Int32.not_lt.mp b1) (Int32.not_lt.mp b5)).mpr (fun z => absurd ((lg_gt _ _).mpr z) (Int32.not_lt.mpr b21))⟩, rfl⟩⟩
      | exact ⟨rfl, Or.inr ⟨fun z => (span_eq hn z.1 z.2.1).mp z.2.2 ((lg_gt _ _).mp b21), rfl⟩⟩
      | exact ⟨rfl, Or.inr ⟨fun z => absurd b5 (Int32.not_lt.mpr z.2.1), rfl⟩⟩
      | exact ⟨rfl, Or.inr ⟨fun z => absurd b1 (Int32.not_lt.mpr z.1), rfl⟩⟩
  · refine z_iload_n dX12_isSpan_4 rfl ?_
    refine z_if_lt (tgt := 28) dX12_isSpan_5 (by decide) (fun b5 => ?_) (fun b5 => ?_)
    · refine z_iconst (v := 0) dX12_isSpan_28 (by decide) ?_
      refine z_iret dX12_isSpan_29 rfl zle ?_
      first
        | exact ⟨rfl, Or.inl ⟨⟨Int32.not_lt.mp b1, Int32.not_lt.mp b5, (span_eq hn (Int32.not_lt.mp b1) (Int32.not_lt.mp b5)).mpr (fun z => b21 ((lg_gt _ _).mpr z))⟩, rfl⟩⟩
        | exact ⟨rfl, Or.inl ⟨⟨Int32.not_lt.mp b1, Int32.not_lt.mp b5, (span_eq hn (Int32.not_lt.mp b1) (Int32.not_lt.mp b5)).mpr (fun z => absurd ((lg_gt _ _).mpr z) (Int32.not_lt.mpr b21))⟩, rfl⟩⟩
        | exact ⟨rfl, Or.inr ⟨fun z => (span_eq hn z.1 z.2.1).mp z.2.2 ((lg_gt _ _).mp b21), rfl⟩⟩
        | exact ⟨rfl, Or.inr ⟨fun z => absurd b5 (Int32.not_lt.mpr z.2.1), rfl⟩⟩
        | exact ⟨rfl, Or.inr ⟨fun z => absurd b1 (Int32.not_lt.mpr z.1), rfl⟩⟩
    · refine z_iload_n dX12_isSpan_8 rfl ?_
      refine z_i2l dX12_isSpan_9 ?_
      refine z_iload_n dX12_isSpan_10 rfl ?_
      refine z_i2l dX12_isSpan_11 ?_
      refine z_ladd dX12_isSpan_12 ?_
      refine z_aload_n dX12_isSpan_13 rfl ?_
      refine z_getR (j := 9) (r := 134) kX12 lf_X12_29 (by decide) rfl dX12_isSpan_14 k0_127 s0_127 r0_127_9 (by decide) ?_
      refine z_iload_n dX12_isSpan_17 rfl ?_
      refine z_ialdV (j := b) rfl (by omega) h1 dX12_isSpan_18 k0_134 s0_134 ?_
      refine z_i2l dX12_isSpan_19 ?_
      refine z_lcmp dX12_isSpan_20 ?_
      refine z_if_gt (tgt := 28) dX12_isSpan_21 (by decide) (fun b21 => ?_) (fun b21 => ?_)
      · refine z_iconst (v := 0) dX12_isSpan_28 (by decide) ?_
        refine z_iret dX12_isSpan_29 rfl zle ?_
        first
          | exact ⟨rfl, Or.inl ⟨⟨Int32.not_lt.mp b1, Int32.not_lt.mp b5, (span_eq hn (Int32.not_lt.mp b1) (Int32.not_lt.mp b5)).mpr (fun z => b21 ((lg_gt _ _).mpr z))⟩, rfl⟩⟩
          | exact ⟨rfl, Or.inl ⟨⟨Int32.not_lt.mp b1, Int32.not_lt.mp b5, (span_eq hn (Int32.not_lt.mp b1) (Int32.not_lt.mp b5)).mpr (fun z => absurd ((lg_gt _ _).mpr z) (Int32.not_lt.mpr b21))⟩, rfl⟩⟩
          | exact ⟨rfl, Or.inr ⟨fun z => (span_eq hn z.1 z.2.1).mp z.2.2 ((lg_gt _ _).mp b21), rfl⟩⟩
          | exact ⟨rfl, Or.inr ⟨fun z => absurd b5 (Int32.not_lt.mpr z.2.1), rfl⟩⟩
          | exact ⟨rfl, Or.inr ⟨fun z => absurd b1 (Int32.not_lt.mpr z.1), rfl⟩⟩
      · refine z_iconst (v := 1) dX12_isSpan_24 (by decide) ?_
        refine z_goto (tgt := 29) dX12_isSpan_25 (by decide) ?_
        refine z_iret dX12_isSpan_29 rfl zle ?_
        first
          | exact ⟨rfl, Or.inl ⟨⟨Int32.not_lt.mp b1, Int32.not_lt.mp b5, (span_eq hn (Int32.not_lt.mp b1) (Int32.not_lt.mp b5)).mpr (fun z => b21 ((lg_gt _ _).mpr z))⟩, rfl⟩⟩
          | exact ⟨rfl, Or.inl ⟨⟨Int32.not_lt.mp b1, Int32.not_lt.mp b5, (span_eq hn (Int32.not_lt.mp b1) (Int32.not_lt.mp b5)).mpr (fun z => absurd ((lg_gt _ _).mpr z) (Int32.not_lt.mpr b21))⟩, rfl⟩⟩
          | exact ⟨rfl, Or.inr ⟨fun z => (span_eq hn z.1 z.2.1).mp z.2.2 ((lg_gt _ _).mp b21), rfl⟩⟩
          | exact ⟨rfl, Or.inr ⟨fun z => absurd b5 (Int32.not_lt.mpr z.2.1), rfl⟩⟩
          | exact ⟨rfl, Or.inr ⟨fun z => absurd b1 (Int32.not_lt.mpr z.1), rfl⟩⟩

set_option maxRecDepth 100000 in
set_option maxHeartbeats 4000000 in
theorem c_X12_noLine (g : zG) (l : Launch) {M : zM} {A : aSt} (ok : aOK A) (C : RelM M A) {b : Nat} {y : Int32} (hb : b < 4) : zMet g l yX12_noLine cX12_noLine 3 (some .int) 1 0 0 [.ref 127, .int (nI b), .int y] S0 M (zQi (fun r' M' => r' = aNo A b y ∧ M' = M)) := by
  have n8 : A.n ≤ 8 := ok.s.1.1
  have r4 : A.r ≤ 4 := ok.s.1.2.1
  have i6 : A.i ≤ 6 := ok.s.1.2.2.1
  have u8 : A.u ≤ 8 := ok.u
  have hln := ok.ln b hb
  refine zMet.of (by decide) (Nat.le_of_ble_eq_true rfl) ?_
  refine z_aload_n dX12_noLine_0 rfl ?_
  refine z_getR (j := 9) (r := 134) kX12 lf_X12_29 (by decide) rfl dX12_noLine_1 k0_127 s0_127 r0_127_9 (by decide) ?_
  refine z_iload_n dX12_noLine_4 rfl ?_
  refine z_ialdV (j := b) rfl (by omega) (C.book b (by omega)).1 dX12_noLine_5 k0_134 s0_134 ?_
  refine z_if_ge (tgt := 14) dX12_noLine_6 (by decide) (fun b6 => ?_) (fun b6 => ?_)
  · have hbo := (bSz_ge hln.1).mp b6
    have hl : bSz A b = nI (A.ln b) := if_pos hbo
    refine z_iload_n dX12_noLine_14 rfl ?_
    refine z_i2l dX12_noLine_15 ?_
    refine z_lconst (v := 0) dX12_noLine_16 (by decide) ?_
    refine z_aload_n dX12_noLine_17 rfl ?_
    refine z_getR (j := 9) (r := 134) kX12 lf_X12_29 (by decide) rfl dX12_noLine_18 k0_127 s0_127 r0_127_9 (by decide) ?_
    refine z_iload_n dX12_noLine_21 rfl ?_
    refine z_ialdV (j := b) rfl (by omega) ((C.book b hb).1.trans hl) dX12_noLine_22 k0_134 s0_134 ?_
    refine z_iconst (v := 1) dX12_noLine_23 (by decide) ?_
    refine z_isub dX12_noLine_24 ?_
    refine z_i2l dX12_noLine_25 ?_
    refine z_iS3 (c_X12_in g l) mw_X12_in lm_X12_79 ms_X12_in (by decide) (Nat.le_of_ble_eq_true rfl) zle dX12_noLine_26 (fun r26 M26 q26 => ?_)
    obtain ⟨qm, qr⟩ := q26
    obtain rfl := qm.symm
    rcases qr with ⟨c26, rfl⟩ | ⟨c26, rfl⟩
    · refine z_if_eq (tgt := 36) dX12_noLine_29 (by decide) (fun b29 => ?_) (fun b29 => ?_)
      · exact absurd b29 (by decide)
      · refine z_iconst (v := 0) dX12_noLine_32 (by decide) ?_
        refine z_goto (tgt := 38) dX12_noLine_33 (by decide) ?_
        refine z_iret dX12_noLine_38 rfl zle ?_
        first
          | exact ⟨(if_neg (fun z => b6 ((bSz_ge hln.1).mpr z))).symm, rfl⟩
          | exact ⟨((if_pos hbo).trans (if_pos ((le_pred (by omega)).mp ((l_inn (a := 0) (by decide) rfl).mp c26)))).symm, rfl⟩
          | exact ⟨((if_pos hbo).trans (if_neg (fun z => c26 ((l_inn (a := 0) (by decide) rfl).mpr ((le_pred (by omega)).mpr z))))).symm, rfl⟩
    · refine z_if_eq (tgt := 36) dX12_noLine_29 (by decide) (fun b29 => ?_) (fun b29 => ?_)
      · refine z_bipush (v := (-12)) dX12_noLine_36 (by decide) ?_
        refine z_iret dX12_noLine_38 rfl zle ?_
        first
          | exact ⟨(if_neg (fun z => b6 ((bSz_ge hln.1).mpr z))).symm, rfl⟩
          | exact ⟨((if_pos hbo).trans (if_pos ((le_pred (by omega)).mp ((l_inn (a := 0) (by decide) rfl).mp c26)))).symm, rfl⟩
          | exact ⟨((if_pos hbo).trans (if_neg (fun z => c26 ((l_inn (a := 0) (by decide) rfl).mpr ((le_pred (by omega)).mpr z))))).symm, rfl⟩
      · exact absurd b29 (by decide)
  · refine z_bipush (v := (-11)) dX12_noLine_9 (by decide) ?_
    refine z_goto (tgt := 38) dX12_noLine_11 (by decide) ?_
    refine z_iret dX12_noLine_38 rfl zle ?_
    first
      | exact ⟨(if_neg (fun z => b6 ((bSz_ge hln.1).mpr z))).symm, rfl⟩
      | exact ⟨((if_pos hbo).trans (if_pos ((le_pred (by omega)).mp ((l_inn (a := 0) (by decide) rfl).mp c26)))).symm, rfl⟩
      | exact ⟨((if_pos hbo).trans (if_neg (fun z => c26 ((l_inn (a := 0) (by decide) rfl).mpr ((le_pred (by omega)).mpr z))))).symm, rfl⟩

set_option maxRecDepth 100000 in
set_option maxHeartbeats 4000000 in
theorem lp_book (g : zG) (l : Launch) {M0 : zM} {b : Nat} {m : Int32} (hb : b < 4) : ∀ (k h : Nat), h ≤ 10 → 10 - h < k → zA g l yX12_book cX12_book 4 (some .int) 2 0 0 (zQi (fun r' M' => r' = m ∧ M' = (z_row M0 135 (fun j => if 10 * b ≤ j ∧ j < 10 * b + 10 then -1 else M0 135 j)))) 35 0 0 S0 (z_row M0 135 (fun j => if 10 * b ≤ j ∧ j < 10 * b + h then -1 else M0 135 j)) [.ref 127, .int (nI b), .int m, .int (nI h)] [] := by
  intro k
  induction k with
  | zero => intro h hh hk; exact absurd hk (Nat.not_lt_zero _)
  | succ k ih =>
    intro h hh hk 
    refine z_iload_n dX12_book_35 rfl ?_
    refine z_bipush (v := 10) dX12_book_36 (by decide) ?_
    refine z_icmp_ge (tgt := 59) dX12_book_38 (by decide) (fun b38 => ?_) (fun b38 => ?_)
    · have e : 10 ≤ h := (nI_leI (by omega) (by omega)).mp b38
      have e2 : h = 10 := by omega
      subst e2
      refine z_iload_n dX12_book_59 rfl ?_
      exact z_iret dX12_book_60 rfl zle (⟨rfl, rfl⟩)
    · have hn : h < 10 := by
        rcases Nat.lt_or_ge h 10 with z | z
        · exact z
        · exact absurd (nI_le z (by omega)) b38
      refine z_aload_n dX12_book_41 rfl ?_
      refine z_getR (j := 10) (r := 135) kX12 lf_X12_32 (by decide) rfl dX12_book_42 k0_127 s0_127 r0_127_10 (by decide) ?_
      refine z_bipush (v := 10) dX12_book_45 (by decide) ?_
      refine z_iload_n dX12_book_47 rfl ?_
      refine z_imulN (a := 10) (b := b) rfl rfl dX12_book_48 ?_
      refine z_iload_n dX12_book_49 rfl ?_
      refine z_iaddN (a := (10 * b)) (b := h) rfl rfl dX12_book_50 ?_
      refine z_iconst (v := (-1)) dX12_book_51 (by decide) ?_
      refine z_iastN (j := ((10 * b) + h)) rfl (by omega) dX12_book_52 k0_135 s0_135 ?_
      refine z_iincN (k := h) dX12_book_53 rfl rfl (by decide) rfl rfl ?_
      refine z_goto (tgt := 35) dX12_book_56 (by decide) ?_
      refine zA.sub (ih (h + 1) (by omega) (by omega)) ?_ ⟨Or.inr rfl, Or.inr rfl, Or.inr rfl, Or.inr rfl, trivial⟩
      funext k
      by_cases c : k = 135
      · subst c
        rw [z_up_s, z_row_s, z_row_s]
        funext j
        by_cases c2 : j = 10 * b + h
        · subst c2; rw [upd_s, if_pos (by omega)]
        · rw [upd_n _ _ c2]
          by_cases c3 : 10 * b ≤ j ∧ j < 10 * b + h
          · rw [if_pos c3, if_pos (by omega)]
          · rw [if_neg c3, if_neg (by omega)]
      · rw [z_up_n _ _ _ c, z_row_n _ _ c, z_row_n _ _ c]

set_option maxRecDepth 100000 in
set_option maxHeartbeats 4000000 in
theorem c_X12_book (g : zG) (l : Launch) {M : zM} {A : aSt} (ok : aOK A) (C : RelM M A) {x m : Int32} : zMet g l yX12_book cX12_book 4 (some .int) 2 0 0 [.ref 127, .int x, .int m] S0 M (zQi (fun r' M' => zStpM M (sBook A x m) r' M')) := by
  have n8 : A.n ≤ 8 := ok.s.1.1
  have r4 : A.r ≤ 4 := ok.s.1.2.1
  have i6 : A.i ≤ 6 := ok.s.1.2.2.1
  have u8 : A.u ≤ 8 := ok.u
  rcases zInD x (show 4 < 1000 by omega) with ⟨h, hh, rfl⟩ | hx
  · refine zMet.of (by decide) (Nat.le_of_ble_eq_true rfl) ?_
    refine z_iload_n dX12_book_0 rfl ?_
    refine z_iS1 (c_X12_isBook g l) mw_X12_isBook lm_X12_278 ms_X12_isBook (by decide) (Nat.le_of_ble_eq_true rfl) zle dX12_book_1 (fun r1 M1 q1 => ?_)
    obtain ⟨qm1, qr1⟩ := q1
    obtain rfl := qm1.symm
    obtain ⟨c1, rfl⟩ | ⟨c1, rfl⟩ := qr1
    · refine z_if_ne (tgt := 10) dX12_book_4 (by decide) (fun b4 => ?_) (fun b4 => ?_)
      · refine z_iload_n dX12_book_10 rfl ?_
        refine z_bipush (v := 10) dX12_book_11 (by decide) ?_
        refine z_icmp_le (tgt := 19) dX12_book_13 (by decide) (fun b13 => ?_) (fun b13 => ?_)
        · refine z_iload_n dX12_book_19 rfl ?_
          refine z_if_ge (tgt := 26) dX12_book_20 (by decide) (fun b20 => ?_) (fun b20 => ?_)
          · obtain ⟨u, hu1, hu2, rfl⟩ := (zIdx m (a := 0) (c := 10) (by omega) (by omega)).resolve_right (fun z => z.elim (Int32.not_lt.mpr b20) (Int32.not_lt.mpr b13))
            refine z_aload_n dX12_book_26 rfl ?_
            refine z_getR (j := 9) (r := 134) kX12 lf_X12_29 (by decide) rfl dX12_book_27 k0_127 s0_127 r0_127_9 (by decide) ?_
            refine z_iload_n dX12_book_30 rfl ?_
            refine z_iload_n dX12_book_31 rfl ?_
            refine z_iastN (j := h) rfl (by omega) dX12_book_32 k0_134 s0_134 ?_
            refine z_iconst (v := 0) dX12_book_33 (by decide) ?_
            refine z_istore_n dX12_book_34 (by decide) rfl rfl ?_
            refine (zA.sub (lp_book g l (M0 := z_up M 134 h (nI u)) (b := h) (m := nI u) hh 11 0 (Nat.zero_le _) (by omega)) ?_ ⟨Or.inr rfl, Or.inr rfl, Or.inr rfl, Or.inr rfl, trivial⟩).weak (fun v S2 M2 q => ?_)
            · funext k
              by_cases c : k = 135
              · subst c
                rw [z_row_s]
                funext j
                exact (if_neg (by omega)).symm
              · rw [z_row_n _ _ c]
            obtain ⟨qa, rr, qb, qc, qd⟩ := q
            have C1 := C.putB (M' := M2) hh (o := true) (n := u) (f := fun _ => 3) (v := A.va h) (by rw [qd, z_row_n _ _ (by omega), z_up_kj]; rfl) (fun x hx e => by rw [qd, z_row_n _ _ (by omega), z_up_jn _ _ e]) (fun j hj => by
              rw [qd, z_row_s, z_row_n _ _ (by omega), z_up_n _ _ _ (by omega)]
              exact ⟨if_pos (by omega), ((C.book h hh).2 j hj).2⟩) (fun x hx e j hj => by
              rw [qd, z_row_s, z_row_n _ _ (by omega), z_up_n _ _ _ (by omega), z_up_n _ _ _ (by omega)]
              exact ⟨if_neg (by omega), rfl⟩) (fun k a => by rw [qd, z_row_n _ _ (by omega), z_up_n _ _ _ (by omega)])
            exact ⟨qa, rr, qb, zStpM.mk C1.1 C1.2 (by unfold sBook; rw [aIx_in hh (by omega), if_neg (Int32.not_lt.mpr b13), if_neg (Int32.not_lt.mpr b20), nI_clamp (by omega)]) qc⟩
          · refine z_bipush (v := (-15)) dX12_book_23 (by decide) ?_
            refine z_iret dX12_book_25 rfl zle ?_
            exact zStpM.of C (by unfold sBook; rw [aIx_in hh (by omega)]; exact (if_neg (Int32.not_lt.mpr b13)).trans (if_pos (Int32.not_le.mp b20)))
        · refine z_bipush (v := (-3)) dX12_book_16 (by decide) ?_
          refine z_iret dX12_book_18 rfl zle ?_
          exact zStpM.of C (by unfold sBook; rw [aIx_in hh (by omega)]; exact if_pos (Int32.not_le.mp b13))
      · exact absurd b4 (by decide)
    · exact absurd (le3.mpr (zInP (n := 4) hh (by omega))) c1
  · refine zMet.of (by decide) (Nat.le_of_ble_eq_true rfl) ?_
    refine z_iload_n dX12_book_0 rfl ?_
    refine z_iS1 (c_X12_isBook g l) mw_X12_isBook lm_X12_278 ms_X12_isBook (by decide) (Nat.le_of_ble_eq_true rfl) zle dX12_book_1 (fun r1 M1 q1 => ?_)
    obtain ⟨qm1, qr1⟩ := q1
    obtain rfl := qm1.symm
    obtain ⟨c1, rfl⟩ | ⟨c1, rfl⟩ := qr1
    · exact absurd (le3.mp c1) hx
    · refine z_if_ne (tgt := 10) dX12_book_4 (by decide) (fun b4 => ?_) (fun b4 => ?_)
      · exact absurd b4 (by decide)
      · refine z_bipush (v := (-2)) dX12_book_7 (by decide) ?_
        refine z_iret dX12_book_9 rfl zle ?_
        exact zStpM.of C (by unfold sBook; rw [aIx_out hx])

theorem aNo_c (A : aSt) (b : Nat) (y : Int32) : (A.bo b = true ∧ (0 ≤ y ∧ y < nI (A.ln b)) ∧ aNo A b y = 0) ∨ (A.bo b = true ∧ ¬ (0 ≤ y ∧ y < nI (A.ln b)) ∧ aNo A b y = -12) ∨ (¬ A.bo b = true ∧ aNo A b y = -11) := by
  by_cases hb : A.bo b = true
  · by_cases hy : 0 ≤ y ∧ y < nI (A.ln b)
    · exact Or.inl ⟨hb, hy, (if_pos hb).trans (if_pos hy)⟩
    · exact Or.inr (Or.inl ⟨hb, hy, (if_pos hb).trans (if_neg hy)⟩)
  · exact Or.inr (Or.inr ⟨hb, if_neg hb⟩)
set_option maxRecDepth 100000 in
set_option maxHeartbeats 4000000 in
theorem c_X12_enter (g : zG) (l : Launch) {M : zM} {A : aSt} (ok : aOK A) (C : RelM M A) {x y w v : Int32} : zMet g l yX12_enter cX12_enter 6 (some .int) 2 0 0 [.ref 127, .int x, .int y, .int w, .int v] S0 M (zQi (fun r' M' => zStpM M (sEnter A x y w v) r' M')) := by
  have n8 : A.n ≤ 8 := ok.s.1.1
  have r4 : A.r ≤ 4 := ok.s.1.2.1
  have i6 : A.i ≤ 6 := ok.s.1.2.2.1
  have u8 : A.u ≤ 8 := ok.u
  rcases zInD x (show 4 < 1000 by omega) with ⟨h, hh, rfl⟩ | hx
  · refine zMet.of (by decide) (Nat.le_of_ble_eq_true rfl) ?_
    refine z_iload_n dX12_enter_0 rfl ?_
    refine z_iS1 (c_X12_isBook g l) mw_X12_isBook lm_X12_278 ms_X12_isBook (by decide) (Nat.le_of_ble_eq_true rfl) zle dX12_enter_1 (fun r1 M1 q1 => ?_)
    obtain ⟨qm1, qr1⟩ := q1
    obtain rfl := qm1.symm
    obtain ⟨c1, rfl⟩ | ⟨c1, rfl⟩ := qr1
    · refine z_if_eq (tgt := 34) dX12_enter_4 (by decide) (fun b4 => ?_) (fun b4 => ?_)
      · exact absurd b4 (by decide)
      · refine z_iload_n dX12_enter_7 rfl ?_
        refine z_iconst (v := 1) dX12_enter_8 (by decide) ?_
        refine z_icmp_ne (tgt := 21) dX12_enter_9 (by decide) (fun b9 => ?_) (fun b9 => ?_)
        · refine z_iload_n dX12_enter_21 rfl ?_
          refine z_iconst (v := 2) dX12_enter_22 (by decide) ?_
          refine z_icmp_ne (tgt := 37) dX12_enter_23 (by decide) (fun b23 => ?_) (fun b23 => ?_)
          · have n1 : ¬ ((¬ (0 ≤ nI h ∧ nI h < 4)) ∨ (w = 1 ∧ ¬ (0 ≤ v ∧ v < nI A.n)) ∨ (w = 2 ∧ ¬ (0 ≤ v ∧ v < 4))) := fun z => z.elim (fun a => a (zInP (n := 4) hh (by omega))) (fun z => z.elim (fun a => by first | exact absurd a.1 b9 | exact a.2 c15) (fun a => by first | exact absurd a.1 b23 | exact a.2 (le3.mp c28)))
            refine z_iload_n dX12_enter_37 rfl ?_
            refine z_i2l dX12_enter_38 ?_
            refine z_lconst (v := 0) dX12_enter_39 (by decide) ?_
            refine z_ldc2 lc_X12_276 dX12_enter_40 ?_
            refine z_iS3 (c_X12_in g l) mw_X12_in lm_X12_79 ms_X12_in (by decide) (Nat.le_of_ble_eq_true rfl) zle dX12_enter_43 (fun r43 M43 q43 => ?_)
            obtain ⟨qm, qr⟩ := q43
            obtain rfl := qm.symm
            rcases qr with ⟨c43, rfl⟩ | ⟨c43, rfl⟩
            · have d43 := (l_inn (a := 0) (z := 3) (by decide) (by decide)).mp c43
              refine z_if_eq (tgt := 68) dX12_enter_46 (by decide) (fun b46 => ?_) (fun b46 => ?_)
              · exact absurd b46 (by decide)
              · refine z_iload_n dX12_enter_49 rfl ?_
                refine z_if_ne (tgt := 71) dX12_enter_50 (by decide) (fun b50 => ?_) (fun b50 => ?_)
                · have n2 : ¬ ((w < 0 ∨ 3 < w) ∨ (w = 0 ∧ (v < -9999 ∨ 9999 < v))) := fun z => z.elim (fun z => z.elim (Int32.not_lt.mpr d43.1) (Int32.not_lt.mpr d43.2)) (fun z => by first | exact absurd z.1 b50 | exact z.2.elim (Int32.not_lt.mpr d62.1) (Int32.not_lt.mpr d62.2))
                  refine z_aload_n dX12_enter_71 rfl ?_
                  refine z_iload_n dX12_enter_72 rfl ?_
                  refine z_iload_n dX12_enter_73 rfl ?_
                  refine z_iV2 (c_X12_noLine g l ok C hh) mw_X12_noLine lm_X12_285 mi_X12_noLine mv_X12_noLine kX12 (by decide) (Nat.le_of_ble_eq_true rfl) zle k0_127 s0_127 dX12_enter_74 (fun r74 M74 q74 => ?_)
                  obtain ⟨qr74, qm74⟩ := q74
                  obtain rfl := qr74.symm
                  obtain rfl := qm74.symm
                  rcases aNo_c A h y with ⟨hb, hy, ea⟩ | ⟨hb, hy, ea⟩ | ⟨hb, ea⟩
                  · rw [ea]
                    obtain ⟨j, hj, rfl⟩ := (zInD y (n := A.ln h) (by have := (ok.ln h hh).1; omega)).resolve_right (fun z => z hy)
                    have hln10 := (ok.ln h hh).1
                    have hj10 : j < 10 := by omega
                    refine z_istore dX12_enter_77 (by decide) rfl rfl ?_
                    refine z_iload dX12_enter_79 rfl ?_
                    refine z_if_eq (tgt := 87) dX12_enter_81 (by decide) (fun b81 => ?_) (fun b81 => ?_)
                    · refine z_aload_n dX12_enter_87 rfl ?_
                      refine z_getR (j := 10) (r := 135) kX12 lf_X12_32 (by decide) rfl dX12_enter_88 k0_127 s0_127 r0_127_10 (by decide) ?_
                      refine z_bipush (v := 10) dX12_enter_91 (by decide) ?_
                      refine z_iload_n dX12_enter_93 rfl ?_
                      refine z_imulN (a := 10) (b := h) rfl rfl dX12_enter_94 ?_
                      refine z_iload_n dX12_enter_95 rfl ?_
                      refine z_iaddN (a := (10 * h)) (b := j) rfl rfl dX12_enter_96 ?_
                      
                      refine z_iload_n dX12_enter_97 rfl ?_
                      refine z_iconst (v := 3) dX12_enter_98 (by decide) ?_
                      refine z_icmp_ne (tgt := 106) dX12_enter_99 (by decide) (fun b99 => ?_) (fun b99 => ?_)
                      · refine z_iload_n dX12_enter_106 rfl ?_
                        refine z_iastN (j := (10 * h + j)) rfl (by omega) dX12_enter_107 k0_135 s0_135 ?_
                        refine z_aload_n dX12_enter_108 rfl ?_
                        refine z_getR (j := 11) (r := 136) kX12 lf_X12_35 (by decide) rfl dX12_enter_109 k0_127 s0_127 r0_127_11 (by decide) ?_
                        refine z_bipush (v := 10) dX12_enter_112 (by decide) ?_
                        refine z_iload_n dX12_enter_114 rfl ?_
                        refine z_imulN (a := 10) (b := h) rfl rfl dX12_enter_115 ?_
                        refine z_iload_n dX12_enter_116 rfl ?_
                        refine z_iaddN (a := (10 * h)) (b := j) rfl rfl dX12_enter_117 ?_
                        refine z_iload dX12_enter_118 rfl ?_
                        refine z_iastN (j := (10 * h + j)) rfl (by omega) dX12_enter_120 k0_136 s0_136 ?_
                        refine z_iconst (v := 1) dX12_enter_121 (by decide) ?_
                        refine z_iret dX12_enter_122 rfl zle ?_
                        first
                          | (have ew : mSo w = -1 := if_pos b99
                             rw [show (-1 : Int32) = mSo w from ew.symm]
                             have C1 := C.putB (M' := z_up (z_up M 135 (10 * h + j) (mSo w)) 136 (10 * h + j) v) hh (o := true) (n := A.ln h) (f := upd (A.so h) j w) (v := upd (A.va h) j v) (by rw [z_up_n _ _ _ (by omega), z_up_n _ _ _ (by omega)]; exact (C.book h hh).1.trans (if_pos hb)) (fun x hx e => by rw [z_up_n _ _ _ (by omega), z_up_n _ _ _ (by omega)]) (fun k hk => by
                               rw [z_up_s, z_up_n _ _ _ (by omega), z_up_s, z_up_n _ _ _ (by omega)]
                               by_cases e : k = j
                               · rw [e]; exact ⟨(upd_s _ _ _).trans (congrArg mSo (upd_s _ _ _).symm), (upd_s _ _ _).trans (upd_s _ _ _).symm⟩
                               · have hB := (C.book h hh).2 k hk
                                 exact ⟨(upd_n _ _ (by omega)).trans (hB.1.trans (congrArg mSo (upd_n _ _ e).symm)), (upd_n _ _ (by omega)).trans (hB.2.trans (upd_n _ _ e).symm)⟩) (fun x hx e k hk => by
                               rw [z_up_s, z_up_n _ _ _ (by omega), z_up_s, z_up_n _ _ _ (by omega)]
                               exact ⟨upd_n _ _ (by omega), upd_n _ _ (by omega)⟩) (fun k a => by rw [z_up_n _ _ _ (by omega), z_up_n _ _ _ (by omega)])
                             exact zStpM.mk C1.1 C1.2 (by unfold sEnter; rw [if_neg n1, if_neg n2, aIx_in hh (by omega), if_pos hb, aIx_in hj (by omega)]) rfl)
                          | (have ew : mSo w = w := if_neg b99
                             rw [show z_up M 135 (10 * h + j) w = z_up M 135 (10 * h + j) (mSo w) by rw [ew]]
                             have C1 := C.putB (M' := z_up (z_up M 135 (10 * h + j) (mSo w)) 136 (10 * h + j) v) hh (o := true) (n := A.ln h) (f := upd (A.so h) j w) (v := upd (A.va h) j v) (by rw [z_up_n _ _ _ (by omega), z_up_n _ _ _ (by omega)]; exact (C.book h hh).1.trans (if_pos hb)) (fun x hx e => by rw [z_up_n _ _ _ (by omega), z_up_n _ _ _ (by omega)]) (fun k hk => by
                               rw [z_up_s, z_up_n _ _ _ (by omega), z_up_s, z_up_n _ _ _ (by omega)]
                               by_cases e : k = j
                               · rw [e]; exact ⟨(upd_s _ _ _).trans (congrArg mSo (upd_s _ _ _).symm), (upd_s _ _ _).trans (upd_s _ _ _).symm⟩
                               · have hB := (C.book h hh).2 k hk
                                 exact ⟨(upd_n _ _ (by omega)).trans (hB.1.trans (congrArg mSo (upd_n _ _ e).symm)), (upd_n _ _ (by omega)).trans (hB.2.trans (upd_n _ _ e).symm)⟩) (fun x hx e k hk => by
                               rw [z_up_s, z_up_n _ _ _ (by omega), z_up_s, z_up_n _ _ _ (by omega)]
                               exact ⟨upd_n _ _ (by omega), upd_n _ _ (by omega)⟩) (fun k a => by rw [z_up_n _ _ _ (by omega), z_up_n _ _ _ (by omega)])
                             exact zStpM.mk C1.1 C1.2 (by unfold sEnter; rw [if_neg n1, if_neg n2, aIx_in hh (by omega), if_pos hb, aIx_in hj (by omega)]) rfl)
                      · refine z_iconst (v := (-1)) dX12_enter_102 (by decide) ?_
                        refine z_goto (tgt := 107) dX12_enter_103 (by decide) ?_
                        refine z_iastN (j := (10 * h + j)) rfl (by omega) dX12_enter_107 k0_135 s0_135 ?_
                        refine z_aload_n dX12_enter_108 rfl ?_
                        refine z_getR (j := 11) (r := 136) kX12 lf_X12_35 (by decide) rfl dX12_enter_109 k0_127 s0_127 r0_127_11 (by decide) ?_
                        refine z_bipush (v := 10) dX12_enter_112 (by decide) ?_
                        refine z_iload_n dX12_enter_114 rfl ?_
                        refine z_imulN (a := 10) (b := h) rfl rfl dX12_enter_115 ?_
                        refine z_iload_n dX12_enter_116 rfl ?_
                        refine z_iaddN (a := (10 * h)) (b := j) rfl rfl dX12_enter_117 ?_
                        refine z_iload dX12_enter_118 rfl ?_
                        refine z_iastN (j := (10 * h + j)) rfl (by omega) dX12_enter_120 k0_136 s0_136 ?_
                        refine z_iconst (v := 1) dX12_enter_121 (by decide) ?_
                        refine z_iret dX12_enter_122 rfl zle ?_
                        first
                          | (have ew : mSo w = -1 := if_pos b99
                             rw [show (-1 : Int32) = mSo w from ew.symm]
                             have C1 := C.putB (M' := z_up (z_up M 135 (10 * h + j) (mSo w)) 136 (10 * h + j) v) hh (o := true) (n := A.ln h) (f := upd (A.so h) j w) (v := upd (A.va h) j v) (by rw [z_up_n _ _ _ (by omega), z_up_n _ _ _ (by omega)]; exact (C.book h hh).1.trans (if_pos hb)) (fun x hx e => by rw [z_up_n _ _ _ (by omega), z_up_n _ _ _ (by omega)]) (fun k hk => by
                               rw [z_up_s, z_up_n _ _ _ (by omega), z_up_s, z_up_n _ _ _ (by omega)]
                               by_cases e : k = j
                               · rw [e]; exact ⟨(upd_s _ _ _).trans (congrArg mSo (upd_s _ _ _).symm), (upd_s _ _ _).trans (upd_s _ _ _).symm⟩
                               · have hB := (C.book h hh).2 k hk
                                 exact ⟨(upd_n _ _ (by omega)).trans (hB.1.trans (congrArg mSo (upd_n _ _ e).symm)), (upd_n _ _ (by omega)).trans (hB.2.trans (upd_n _ _ e).symm)⟩) (fun x hx e k hk => by
                               rw [z_up_s, z_up_n _ _ _ (by omega), z_up_s, z_up_n _ _ _ (by omega)]
                               exact ⟨upd_n _ _ (by omega), upd_n _ _ (by omega)⟩) (fun k a => by rw [z_up_n _ _ _ (by omega), z_up_n _ _ _ (by omega)])
                             exact zStpM.mk C1.1 C1.2 (by unfold sEnter; rw [if_neg n1, if_neg n2, aIx_in hh (by omega), if_pos hb, aIx_in hj (by omega)]) rfl)
                          | (have ew : mSo w = w := if_neg b99
                             rw [show z_up M 135 (10 * h + j) w = z_up M 135 (10 * h + j) (mSo w) by rw [ew]]
                             have C1 := C.putB (M' := z_up (z_up M 135 (10 * h + j) (mSo w)) 136 (10 * h + j) v) hh (o := true) (n := A.ln h) (f := upd (A.so h) j w) (v := upd (A.va h) j v) (by rw [z_up_n _ _ _ (by omega), z_up_n _ _ _ (by omega)]; exact (C.book h hh).1.trans (if_pos hb)) (fun x hx e => by rw [z_up_n _ _ _ (by omega), z_up_n _ _ _ (by omega)]) (fun k hk => by
                               rw [z_up_s, z_up_n _ _ _ (by omega), z_up_s, z_up_n _ _ _ (by omega)]
                               by_cases e : k = j
                               · rw [e]; exact ⟨(upd_s _ _ _).trans (congrArg mSo (upd_s _ _ _).symm), (upd_s _ _ _).trans (upd_s _ _ _).symm⟩
                               · have hB := (C.book h hh).2 k hk
                                 exact ⟨(upd_n _ _ (by omega)).trans (hB.1.trans (congrArg mSo (upd_n _ _ e).symm)), (upd_n _ _ (by omega)).trans (hB.2.trans (upd_n _ _ e).symm)⟩) (fun x hx e k hk => by
                               rw [z_up_s, z_up_n _ _ _ (by omega), z_up_s, z_up_n _ _ _ (by omega)]
                               exact ⟨upd_n _ _ (by omega), upd_n _ _ (by omega)⟩) (fun k a => by rw [z_up_n _ _ _ (by omega), z_up_n _ _ _ (by omega)])
                             exact zStpM.mk C1.1 C1.2 (by unfold sEnter; rw [if_neg n1, if_neg n2, aIx_in hh (by omega), if_pos hb, aIx_in hj (by omega)]) rfl)
                    · exact absurd b81 (by decide)
                  · rw [ea]
                    have hln10 := (ok.ln h hh).1
                    refine z_istore dX12_enter_77 (by decide) rfl rfl ?_
                    refine z_iload dX12_enter_79 rfl ?_
                    refine z_if_eq (tgt := 87) dX12_enter_81 (by decide) (fun b81 => ?_) (fun b81 => ?_)
                    · exact absurd b81 (by decide)
                    · refine z_iload dX12_enter_84 rfl ?_
                      refine z_iret dX12_enter_86 rfl zle ?_
                      first
                        | exact zStpM.of C (by unfold sEnter; rw [if_neg n1, if_neg n2, aIx_in hh (by omega), if_pos hb, aIx_out hy])
                        | exact zStpM.of C (by unfold sEnter; rw [if_neg n1, if_neg n2, aIx_in hh (by omega), if_neg hb])
                  · rw [ea]
                    refine z_istore dX12_enter_77 (by decide) rfl rfl ?_
                    refine z_iload dX12_enter_79 rfl ?_
                    refine z_if_eq (tgt := 87) dX12_enter_81 (by decide) (fun b81 => ?_) (fun b81 => ?_)
                    · exact absurd b81 (by decide)
                    · refine z_iload dX12_enter_84 rfl ?_
                      refine z_iret dX12_enter_86 rfl zle ?_
                      first
                        | exact zStpM.of C (by unfold sEnter; rw [if_neg n1, if_neg n2, aIx_in hh (by omega), if_pos hb, aIx_out hy])
                        | exact zStpM.of C (by unfold sEnter; rw [if_neg n1, if_neg n2, aIx_in hh (by omega), if_neg hb])
                · refine z_iload dX12_enter_53 rfl ?_
                  refine z_i2l dX12_enter_55 ?_
                  refine z_ldc2 lc_X12_281 dX12_enter_56 ?_
                  refine z_ldc2 lc_X12_283 dX12_enter_59 ?_
                  refine z_iS3 (c_X12_in g l) mw_X12_in lm_X12_79 ms_X12_in (by decide) (Nat.le_of_ble_eq_true rfl) zle dX12_enter_62 (fun r62 M62 q62 => ?_)
                  obtain ⟨qm, qr⟩ := q62
                  obtain rfl := qm.symm
                  rcases qr with ⟨c62, rfl⟩ | ⟨c62, rfl⟩
                  · have d62 := (l_inn (a := -9999) (z := 9999) (by decide) (by decide)).mp c62
                    refine z_if_ne (tgt := 71) dX12_enter_65 (by decide) (fun b65 => ?_) (fun b65 => ?_)
                    · have n2 : ¬ ((w < 0 ∨ 3 < w) ∨ (w = 0 ∧ (v < -9999 ∨ 9999 < v))) := fun z => z.elim (fun z => z.elim (Int32.not_lt.mpr d43.1) (Int32.not_lt.mpr d43.2)) (fun z => by first | exact absurd z.1 b50 | exact z.2.elim (Int32.not_lt.mpr d62.1) (Int32.not_lt.mpr d62.2))
                      refine z_aload_n dX12_enter_71 rfl ?_
                      refine z_iload_n dX12_enter_72 rfl ?_
                      refine z_iload_n dX12_enter_73 rfl ?_
                      refine z_iV2 (c_X12_noLine g l ok C hh) mw_X12_noLine lm_X12_285 mi_X12_noLine mv_X12_noLine kX12 (by decide) (Nat.le_of_ble_eq_true rfl) zle k0_127 s0_127 dX12_enter_74 (fun r74 M74 q74 => ?_)
                      obtain ⟨qr74, qm74⟩ := q74
                      obtain rfl := qr74.symm
                      obtain rfl := qm74.symm
                      rcases aNo_c A h y with ⟨hb, hy, ea⟩ | ⟨hb, hy, ea⟩ | ⟨hb, ea⟩
                      · rw [ea]
                        obtain ⟨j, hj, rfl⟩ := (zInD y (n := A.ln h) (by have := (ok.ln h hh).1; omega)).resolve_right (fun z => z hy)
                        have hln10 := (ok.ln h hh).1
                        have hj10 : j < 10 := by omega
                        refine z_istore dX12_enter_77 (by decide) rfl rfl ?_
                        refine z_iload dX12_enter_79 rfl ?_
                        refine z_if_eq (tgt := 87) dX12_enter_81 (by decide) (fun b81 => ?_) (fun b81 => ?_)
                        · refine z_aload_n dX12_enter_87 rfl ?_
                          refine z_getR (j := 10) (r := 135) kX12 lf_X12_32 (by decide) rfl dX12_enter_88 k0_127 s0_127 r0_127_10 (by decide) ?_
                          refine z_bipush (v := 10) dX12_enter_91 (by decide) ?_
                          refine z_iload_n dX12_enter_93 rfl ?_
                          refine z_imulN (a := 10) (b := h) rfl rfl dX12_enter_94 ?_
                          refine z_iload_n dX12_enter_95 rfl ?_
                          refine z_iaddN (a := (10 * h)) (b := j) rfl rfl dX12_enter_96 ?_
                          
                          refine z_iload_n dX12_enter_97 rfl ?_
                          refine z_iconst (v := 3) dX12_enter_98 (by decide) ?_
                          refine z_icmp_ne (tgt := 106) dX12_enter_99 (by decide) (fun b99 => ?_) (fun b99 => ?_)
                          · refine z_iload_n dX12_enter_106 rfl ?_
                            refine z_iastN (j := (10 * h + j)) rfl (by omega) dX12_enter_107 k0_135 s0_135 ?_
                            refine z_aload_n dX12_enter_108 rfl ?_
                            refine z_getR (j := 11) (r := 136) kX12 lf_X12_35 (by decide) rfl dX12_enter_109 k0_127 s0_127 r0_127_11 (by decide) ?_
                            refine z_bipush (v := 10) dX12_enter_112 (by decide) ?_
                            refine z_iload_n dX12_enter_114 rfl ?_
                            refine z_imulN (a := 10) (b := h) rfl rfl dX12_enter_115 ?_
                            refine z_iload_n dX12_enter_116 rfl ?_
                            refine z_iaddN (a := (10 * h)) (b := j) rfl rfl dX12_enter_117 ?_
                            refine z_iload dX12_enter_118 rfl ?_
                            refine z_iastN (j := (10 * h + j)) rfl (by omega) dX12_enter_120 k0_136 s0_136 ?_
                            refine z_iconst (v := 1) dX12_enter_121 (by decide) ?_
                            refine z_iret dX12_enter_122 rfl zle ?_
                            first
                              | (have ew : mSo w = -1 := if_pos b99
                                 rw [show (-1 : Int32) = mSo w from ew.symm]
                                 have C1 := C.putB (M' := z_up (z_up M 135 (10 * h + j) (mSo w)) 136 (10 * h + j) v) hh (o := true) (n := A.ln h) (f := upd (A.so h) j w) (v := upd (A.va h) j v) (by rw [z_up_n _ _ _ (by omega), z_up_n _ _ _ (by omega)]; exact (C.book h hh).1.trans (if_pos hb)) (fun x hx e => by rw [z_up_n _ _ _ (by omega), z_up_n _ _ _ (by omega)]) (fun k hk => by
                                   rw [z_up_s, z_up_n _ _ _ (by omega), z_up_s, z_up_n _ _ _ (by omega)]
                                   by_cases e : k = j
                                   · rw [e]; exact ⟨(upd_s _ _ _).trans (congrArg mSo (upd_s _ _ _).symm), (upd_s _ _ _).trans (upd_s _ _ _).symm⟩
                                   · have hB := (C.book h hh).2 k hk
                                     exact ⟨(upd_n _ _ (by omega)).trans (hB.1.trans (congrArg mSo (upd_n _ _ e).symm)), (upd_n _ _ (by omega)).trans (hB.2.trans (upd_n _ _ e).symm)⟩) (fun x hx e k hk => by
                                   rw [z_up_s, z_up_n _ _ _ (by omega), z_up_s, z_up_n _ _ _ (by omega)]
                                   exact ⟨upd_n _ _ (by omega), upd_n _ _ (by omega)⟩) (fun k a => by rw [z_up_n _ _ _ (by omega), z_up_n _ _ _ (by omega)])
                                 exact zStpM.mk C1.1 C1.2 (by unfold sEnter; rw [if_neg n1, if_neg n2, aIx_in hh (by omega), if_pos hb, aIx_in hj (by omega)]) rfl)
                              | (have ew : mSo w = w := if_neg b99
                                 rw [show z_up M 135 (10 * h + j) w = z_up M 135 (10 * h + j) (mSo w) by rw [ew]]
                                 have C1 := C.putB (M' := z_up (z_up M 135 (10 * h + j) (mSo w)) 136 (10 * h + j) v) hh (o := true) (n := A.ln h) (f := upd (A.so h) j w) (v := upd (A.va h) j v) (by rw [z_up_n _ _ _ (by omega), z_up_n _ _ _ (by omega)]; exact (C.book h hh).1.trans (if_pos hb)) (fun x hx e => by rw [z_up_n _ _ _ (by omega), z_up_n _ _ _ (by omega)]) (fun k hk => by
                                   rw [z_up_s, z_up_n _ _ _ (by omega), z_up_s, z_up_n _ _ _ (by omega)]
                                   by_cases e : k = j
                                   · rw [e]; exact ⟨(upd_s _ _ _).trans (congrArg mSo (upd_s _ _ _).symm), (upd_s _ _ _).trans (upd_s _ _ _).symm⟩
                                   · have hB := (C.book h hh).2 k hk
                                     exact ⟨(upd_n _ _ (by omega)).trans (hB.1.trans (congrArg mSo (upd_n _ _ e).symm)), (upd_n _ _ (by omega)).trans (hB.2.trans (upd_n _ _ e).symm)⟩) (fun x hx e k hk => by
                                   rw [z_up_s, z_up_n _ _ _ (by omega), z_up_s, z_up_n _ _ _ (by omega)]
                                   exact ⟨upd_n _ _ (by omega), upd_n _ _ (by omega)⟩) (fun k a => by rw [z_up_n _ _ _ (by omega), z_up_n _ _ _ (by omega)])
                                 exact zStpM.mk C1.1 C1.2 (by unfold sEnter; rw [if_neg n1, if_neg n2, aIx_in hh (by omega), if_pos hb, aIx_in hj (by omega)]) rfl)
                          · refine z_iconst (v := (-1)) dX12_enter_102 (by decide) ?_
                            refine z_goto (tgt := 107) dX12_enter_103 (by decide) ?_
                            refine z_iastN (j := (10 * h + j)) rfl (by omega) dX12_enter_107 k0_135 s0_135 ?_
                            refine z_aload_n dX12_enter_108 rfl ?_
                            refine z_getR (j := 11) (r := 136) kX12 lf_X12_35 (by decide) rfl dX12_enter_109 k0_127 s0_127 r0_127_11 (by decide) ?_
                            refine z_bipush (v := 10) dX12_enter_112 (by decide) ?_
                            refine z_iload_n dX12_enter_114 rfl ?_
                            refine z_imulN (a := 10) (b := h) rfl rfl dX12_enter_115 ?_
                            refine z_iload_n dX12_enter_116 rfl ?_
                            refine z_iaddN (a := (10 * h)) (b := j) rfl rfl dX12_enter_117 ?_
                            refine z_iload dX12_enter_118 rfl ?_
                            refine z_iastN (j := (10 * h + j)) rfl (by omega) dX12_enter_120 k0_136 s0_136 ?_
                            refine z_iconst (v := 1) dX12_enter_121 (by decide) ?_
                            refine z_iret dX12_enter_122 rfl zle ?_
                            first
                              | (have ew : mSo w = -1 := if_pos b99
                                 rw [show (-1 : Int32) = mSo w from ew.symm]
                                 have C1 := C.putB (M' := z_up (z_up M 135 (10 * h + j) (mSo w)) 136 (10 * h + j) v) hh (o := true) (n := A.ln h) (f := upd (A.so h) j w) (v := upd (A.va h) j v) (by rw [z_up_n _ _ _ (by omega), z_up_n _ _ _ (by omega)]; exact (C.book h hh).1.trans (if_pos hb)) (fun x hx e => by rw [z_up_n _ _ _ (by omega), z_up_n _ _ _ (by omega)]) (fun k hk => by
                                   rw [z_up_s, z_up_n _ _ _ (by omega), z_up_s, z_up_n _ _ _ (by omega)]
                                   by_cases e : k = j
                                   · rw [e]; exact ⟨(upd_s _ _ _).trans (congrArg mSo (upd_s _ _ _).symm), (upd_s _ _ _).trans (upd_s _ _ _).symm⟩
                                   · have hB := (C.book h hh).2 k hk
                                     exact ⟨(upd_n _ _ (by omega)).trans (hB.1.trans (congrArg mSo (upd_n _ _ e).symm)), (upd_n _ _ (by omega)).trans (hB.2.trans (upd_n _ _ e).symm)⟩) (fun x hx e k hk => by
                                   rw [z_up_s, z_up_n _ _ _ (by omega), z_up_s, z_up_n _ _ _ (by omega)]
                                   exact ⟨upd_n _ _ (by omega), upd_n _ _ (by omega)⟩) (fun k a => by rw [z_up_n _ _ _ (by omega), z_up_n _ _ _ (by omega)])
                                 exact zStpM.mk C1.1 C1.2 (by unfold sEnter; rw [if_neg n1, if_neg n2, aIx_in hh (by omega), if_pos hb, aIx_in hj (by omega)]) rfl)
                              | (have ew : mSo w = w := if_neg b99
                                 rw [show z_up M 135 (10 * h + j) w = z_up M 135 (10 * h + j) (mSo w) by rw [ew]]
                                 have C1 := C.putB (M' := z_up (z_up M 135 (10 * h + j) (mSo w)) 136 (10 * h + j) v) hh (o := true) (n := A.ln h) (f := upd (A.so h) j w) (v := upd (A.va h) j v) (by rw [z_up_n _ _ _ (by omega), z_up_n _ _ _ (by omega)]; exact (C.book h hh).1.trans (if_pos hb)) (fun x hx e => by rw [z_up_n _ _ _ (by omega), z_up_n _ _ _ (by omega)]) (fun k hk => by
                                   rw [z_up_s, z_up_n _ _ _ (by omega), z_up_s, z_up_n _ _ _ (by omega)]
                                   by_cases e : k = j
                                   · rw [e]; exact ⟨(upd_s _ _ _).trans (congrArg mSo (upd_s _ _ _).symm), (upd_s _ _ _).trans (upd_s _ _ _).symm⟩
                                   · have hB := (C.book h hh).2 k hk
                                     exact ⟨(upd_n _ _ (by omega)).trans (hB.1.trans (congrArg mSo (upd_n _ _ e).symm)), (upd_n _ _ (by omega)).trans (hB.2.trans (upd_n _ _ e).symm)⟩) (fun x hx e k hk => by
                                   rw [z_up_s, z_up_n _ _ _ (by omega), z_up_s, z_up_n _ _ _ (by omega)]
                                   exact ⟨upd_n _ _ (by omega), upd_n _ _ (by omega)⟩) (fun k a => by rw [z_up_n _ _ _ (by omega), z_up_n _ _ _ (by omega)])
                                 exact zStpM.mk C1.1 C1.2 (by unfold sEnter; rw [if_neg n1, if_neg n2, aIx_in hh (by omega), if_pos hb, aIx_in hj (by omega)]) rfl)
                        · exact absurd b81 (by decide)
                      · rw [ea]
                        have hln10 := (ok.ln h hh).1
                        refine z_istore dX12_enter_77 (by decide) rfl rfl ?_
                        refine z_iload dX12_enter_79 rfl ?_
                        refine z_if_eq (tgt := 87) dX12_enter_81 (by decide) (fun b81 => ?_) (fun b81 => ?_)
                        · exact absurd b81 (by decide)
                        · refine z_iload dX12_enter_84 rfl ?_
                          refine z_iret dX12_enter_86 rfl zle ?_
                          first
                            | exact zStpM.of C (by unfold sEnter; rw [if_neg n1, if_neg n2, aIx_in hh (by omega), if_pos hb, aIx_out hy])
                            | exact zStpM.of C (by unfold sEnter; rw [if_neg n1, if_neg n2, aIx_in hh (by omega), if_neg hb])
                      · rw [ea]
                        refine z_istore dX12_enter_77 (by decide) rfl rfl ?_
                        refine z_iload dX12_enter_79 rfl ?_
                        refine z_if_eq (tgt := 87) dX12_enter_81 (by decide) (fun b81 => ?_) (fun b81 => ?_)
                        · exact absurd b81 (by decide)
                        · refine z_iload dX12_enter_84 rfl ?_
                          refine z_iret dX12_enter_86 rfl zle ?_
                          first
                            | exact zStpM.of C (by unfold sEnter; rw [if_neg n1, if_neg n2, aIx_in hh (by omega), if_pos hb, aIx_out hy])
                            | exact zStpM.of C (by unfold sEnter; rw [if_neg n1, if_neg n2, aIx_in hh (by omega), if_neg hb])
                    · exact absurd b65 (by decide)
                  · have d62 := fun z => c62 ((l_inn (a := -9999) (z := 9999) (by decide) (by decide)).mpr z)
                    refine z_if_ne (tgt := 71) dX12_enter_65 (by decide) (fun b65 => ?_) (fun b65 => ?_)
                    · exact absurd b65 (by decide)
                    · refine z_bipush (v := (-3)) dX12_enter_68 (by decide) ?_
                      refine z_iret dX12_enter_70 rfl zle ?_
                      exact zStpM.of C ((if_neg n1).trans (if_pos (by first | exact Or.inl (by by_cases z : w < 0; exact Or.inl z; exact Or.inr (Int32.not_le.mp (fun z2 => d43 ⟨Int32.not_lt.mp z, z2⟩))) | exact Or.inr ⟨b50, (by by_cases z : v < -9999; exact Or.inl z; exact Or.inr (Int32.not_le.mp (fun z2 => d62 ⟨Int32.not_lt.mp z, z2⟩)))⟩)))
            · have d43 := fun z => c43 ((l_inn (a := 0) (z := 3) (by decide) (by decide)).mpr z)
              refine z_if_eq (tgt := 68) dX12_enter_46 (by decide) (fun b46 => ?_) (fun b46 => ?_)
              · refine z_bipush (v := (-3)) dX12_enter_68 (by decide) ?_
                refine z_iret dX12_enter_70 rfl zle ?_
                exact zStpM.of C ((if_neg n1).trans (if_pos (by first | exact Or.inl (by by_cases z : w < 0; exact Or.inl z; exact Or.inr (Int32.not_le.mp (fun z2 => d43 ⟨Int32.not_lt.mp z, z2⟩))) | exact Or.inr ⟨b50, (by by_cases z : v < -9999; exact Or.inl z; exact Or.inr (Int32.not_le.mp (fun z2 => d62 ⟨Int32.not_lt.mp z, z2⟩)))⟩)))
              · exact absurd b46 (by decide)
          · refine z_iload dX12_enter_26 rfl ?_
            refine z_iS1 (c_X12_isBook g l) mw_X12_isBook lm_X12_278 ms_X12_isBook (by decide) (Nat.le_of_ble_eq_true rfl) zle dX12_enter_28 (fun r28 M28 q28 => ?_)
            obtain ⟨qm28, qr28⟩ := q28
            obtain rfl := qm28.symm
            obtain ⟨c28, rfl⟩ | ⟨c28, rfl⟩ := qr28
            · refine z_if_ne (tgt := 37) dX12_enter_31 (by decide) (fun b31 => ?_) (fun b31 => ?_)
              · have n1 : ¬ ((¬ (0 ≤ nI h ∧ nI h < 4)) ∨ (w = 1 ∧ ¬ (0 ≤ v ∧ v < nI A.n)) ∨ (w = 2 ∧ ¬ (0 ≤ v ∧ v < 4))) := fun z => z.elim (fun a => a (zInP (n := 4) hh (by omega))) (fun z => z.elim (fun a => by first | exact absurd a.1 b9 | exact a.2 c15) (fun a => by first | exact absurd a.1 b23 | exact a.2 (le3.mp c28)))
                refine z_iload_n dX12_enter_37 rfl ?_
                refine z_i2l dX12_enter_38 ?_
                refine z_lconst (v := 0) dX12_enter_39 (by decide) ?_
                refine z_ldc2 lc_X12_276 dX12_enter_40 ?_
                refine z_iS3 (c_X12_in g l) mw_X12_in lm_X12_79 ms_X12_in (by decide) (Nat.le_of_ble_eq_true rfl) zle dX12_enter_43 (fun r43 M43 q43 => ?_)
                obtain ⟨qm, qr⟩ := q43
                obtain rfl := qm.symm
                rcases qr with ⟨c43, rfl⟩ | ⟨c43, rfl⟩
                · have d43 := (l_inn (a := 0) (z := 3) (by decide) (by decide)).mp c43
                  refine z_if_eq (tgt := 68) dX12_enter_46 (by decide) (fun b46 => ?_) (fun b46 => ?_)
                  · exact absurd b46 (by decide)
                  · refine z_iload_n dX12_enter_49 rfl ?_
                    refine z_if_ne (tgt := 71) dX12_enter_50 (by decide) (fun b50 => ?_) (fun b50 => ?_)
                    · have n2 : ¬ ((w < 0 ∨ 3 < w) ∨ (w = 0 ∧ (v < -9999 ∨ 9999 < v))) := fun z => z.elim (fun z => z.elim (Int32.not_lt.mpr d43.1) (Int32.not_lt.mpr d43.2)) (fun z => by first | exact absurd z.1 b50 | exact z.2.elim (Int32.not_lt.mpr d62.1) (Int32.not_lt.mpr d62.2))
                      refine z_aload_n dX12_enter_71 rfl ?_
                      refine z_iload_n dX12_enter_72 rfl ?_
                      refine z_iload_n dX12_enter_73 rfl ?_
                      refine z_iV2 (c_X12_noLine g l ok C hh) mw_X12_noLine lm_X12_285 mi_X12_noLine mv_X12_noLine kX12 (by decide) (Nat.le_of_ble_eq_true rfl) zle k0_127 s0_127 dX12_enter_74 (fun r74 M74 q74 => ?_)
                      obtain ⟨qr74, qm74⟩ := q74
                      obtain rfl := qr74.symm
                      obtain rfl := qm74.symm
                      rcases aNo_c A h y with ⟨hb, hy, ea⟩ | ⟨hb, hy, ea⟩ | ⟨hb, ea⟩
                      · rw [ea]
                        obtain ⟨j, hj, rfl⟩ := (zInD y (n := A.ln h) (by have := (ok.ln h hh).1; omega)).resolve_right (fun z => z hy)
                        have hln10 := (ok.ln h hh).1
                        have hj10 : j < 10 := by omega
                        refine z_istore dX12_enter_77 (by decide) rfl rfl ?_
                        refine z_iload dX12_enter_79 rfl ?_
                        refine z_if_eq (tgt := 87) dX12_enter_81 (by decide) (fun b81 => ?_) (fun b81 => ?_)
                        · refine z_aload_n dX12_enter_87 rfl ?_
                          refine z_getR (j := 10) (r := 135) kX12 lf_X12_32 (by decide) rfl dX12_enter_88 k0_127 s0_127 r0_127_10 (by decide) ?_
                          refine z_bipush (v := 10) dX12_enter_91 (by decide) ?_
                          refine z_iload_n dX12_enter_93 rfl ?_
                          refine z_imulN (a := 10) (b := h) rfl rfl dX12_enter_94 ?_
                          refine z_iload_n dX12_enter_95 rfl ?_
                          refine z_iaddN (a := (10 * h)) (b := j) rfl rfl dX12_enter_96 ?_
                          
                          refine z_iload_n dX12_enter_97 rfl ?_
                          refine z_iconst (v := 3) dX12_enter_98 (by decide) ?_
                          refine z_icmp_ne (tgt := 106) dX12_enter_99 (by decide) (fun b99 => ?_) (fun b99 => ?_)
                          · refine z_iload_n dX12_enter_106 rfl ?_
                            refine z_iastN (j := (10 * h + j)) rfl (by omega) dX12_enter_107 k0_135 s0_135 ?_
                            refine z_aload_n dX12_enter_108 rfl ?_
                            refine z_getR (j := 11) (r := 136) kX12 lf_X12_35 (by decide) rfl dX12_enter_109 k0_127 s0_127 r0_127_11 (by decide) ?_
                            refine z_bipush (v := 10) dX12_enter_112 (by decide) ?_
                            refine z_iload_n dX12_enter_114 rfl ?_
                            refine z_imulN (a := 10) (b := h) rfl rfl dX12_enter_115 ?_
                            refine z_iload_n dX12_enter_116 rfl ?_
                            refine z_iaddN (a := (10 * h)) (b := j) rfl rfl dX12_enter_117 ?_
                            refine z_iload dX12_enter_118 rfl ?_
                            refine z_iastN (j := (10 * h + j)) rfl (by omega) dX12_enter_120 k0_136 s0_136 ?_
                            refine z_iconst (v := 1) dX12_enter_121 (by decide) ?_
                            refine z_iret dX12_enter_122 rfl zle ?_
                            first
                              | (have ew : mSo w = -1 := if_pos b99
                                 rw [show (-1 : Int32) = mSo w from ew.symm]
                                 have C1 := C.putB (M' := z_up (z_up M 135 (10 * h + j) (mSo w)) 136 (10 * h + j) v) hh (o := true) (n := A.ln h) (f := upd (A.so h) j w) (v := upd (A.va h) j v) (by rw [z_up_n _ _ _ (by omega), z_up_n _ _ _ (by omega)]; exact (C.book h hh).1.trans (if_pos hb)) (fun x hx e => by rw [z_up_n _ _ _ (by omega), z_up_n _ _ _ (by omega)]) (fun k hk => by
                                   rw [z_up_s, z_up_n _ _ _ (by omega), z_up_s, z_up_n _ _ _ (by omega)]
                                   by_cases e : k = j
                                   · rw [e]; exact ⟨(upd_s _ _ _).trans (congrArg mSo (upd_s _ _ _).symm), (upd_s _ _ _).trans (upd_s _ _ _).symm⟩
                                   · have hB := (C.book h hh).2 k hk
                                     exact ⟨(upd_n _ _ (by omega)).trans (hB.1.trans (congrArg mSo (upd_n _ _ e).symm)), (upd_n _ _ (by omega)).trans (hB.2.trans (upd_n _ _ e).symm)⟩) (fun x hx e k hk => by
                                   rw [z_up_s, z_up_n _ _ _ (by omega), z_up_s, z_up_n _ _ _ (by omega)]
                                   exact ⟨upd_n _ _ (by omega), upd_n _ _ (by omega)⟩) (fun k a => by rw [z_up_n _ _ _ (by omega), z_up_n _ _ _ (by omega)])
                                 exact zStpM.mk C1.1 C1.2 (by unfold sEnter; rw [if_neg n1, if_neg n2, aIx_in hh (by omega), if_pos hb, aIx_in hj (by omega)]) rfl)
                              | (have ew : mSo w = w := if_neg b99
                                 rw [show z_up M 135 (10 * h + j) w = z_up M 135 (10 * h + j) (mSo w) by rw [ew]]
                                 have C1 := C.putB (M' := z_up (z_up M 135 (10 * h + j) (mSo w)) 136 (10 * h + j) v) hh (o := true) (n := A.ln h) (f := upd (A.so h) j w) (v := upd (A.va h) j v) (by rw [z_up_n _ _ _ (by omega), z_up_n _ _ _ (by omega)]; exact (C.book h hh).1.trans (if_pos hb)) (fun x hx e => by rw [z_up_n _ _ _ (by omega), z_up_n _ _ _ (by omega)]) (fun k hk => by
                                   rw [z_up_s, z_up_n _ _ _ (by omega), z_up_s, z_up_n _ _ _ (by omega)]
                                   by_cases e : k = j
                                   · rw [e]; exact ⟨(upd_s _ _ _).trans (congrArg mSo (upd_s _ _ _).symm), (upd_s _ _ _).trans (upd_s _ _ _).symm⟩
                                   · have hB := (C.book h hh).2 k hk
                                     exact ⟨(upd_n _ _ (by omega)).trans (hB.1.trans (congrArg mSo (upd_n _ _ e).symm)), (upd_n _ _ (by omega)).trans (hB.2.trans (upd_n _ _ e).symm)⟩) (fun x hx e k hk => by
                                   rw [z_up_s, z_up_n _ _ _ (by omega), z_up_s, z_up_n _ _ _ (by omega)]
                                   exact ⟨upd_n _ _ (by omega), upd_n _ _ (by omega)⟩) (fun k a => by rw [z_up_n _ _ _ (by omega), z_up_n _ _ _ (by omega)])
                                 exact zStpM.mk C1.1 C1.2 (by unfold sEnter; rw [if_neg n1, if_neg n2, aIx_in hh (by omega), if_pos hb, aIx_in hj (by omega)]) rfl)
                          · refine z_iconst (v := (-1)) dX12_enter_102 (by decide) ?_
                            refine z_goto (tgt := 107) dX12_enter_103 (by decide) ?_
                            refine z_iastN (j := (10 * h + j)) rfl (by omega) dX12_enter_107 k0_135 s0_135 ?_
                            refine z_aload_n dX12_enter_108 rfl ?_
                            refine z_getR (j := 11) (r := 136) kX12 lf_X12_35 (by decide) rfl dX12_enter_109 k0_127 s0_127 r0_127_11 (by decide) ?_
                            refine z_bipush (v := 10) dX12_enter_112 (by decide) ?_
                            refine z_iload_n dX12_enter_114 rfl ?_
                            refine z_imulN (a := 10) (b := h) rfl rfl dX12_enter_115 ?_
                            refine z_iload_n dX12_enter_116 rfl ?_
                            refine z_iaddN (a := (10 * h)) (b := j) rfl rfl dX12_enter_117 ?_
                            refine z_iload dX12_enter_118 rfl ?_
                            refine z_iastN (j := (10 * h + j)) rfl (by omega) dX12_enter_120 k0_136 s0_136 ?_
                            refine z_iconst (v := 1) dX12_enter_121 (by decide) ?_
                            refine z_iret dX12_enter_122 rfl zle ?_
                            first
                              | (have ew : mSo w = -1 := if_pos b99
                                 rw [show (-1 : Int32) = mSo w from ew.symm]
                                 have C1 := C.putB (M' := z_up (z_up M 135 (10 * h + j) (mSo w)) 136 (10 * h + j) v) hh (o := true) (n := A.ln h) (f := upd (A.so h) j w) (v := upd (A.va h) j v) (by rw [z_up_n _ _ _ (by omega), z_up_n _ _ _ (by omega)]; exact (C.book h hh).1.trans (if_pos hb)) (fun x hx e => by rw [z_up_n _ _ _ (by omega), z_up_n _ _ _ (by omega)]) (fun k hk => by
                                   rw [z_up_s, z_up_n _ _ _ (by omega), z_up_s, z_up_n _ _ _ (by omega)]
                                   by_cases e : k = j
                                   · rw [e]; exact ⟨(upd_s _ _ _).trans (congrArg mSo (upd_s _ _ _).symm), (upd_s _ _ _).trans (upd_s _ _ _).symm⟩
                                   · have hB := (C.book h hh).2 k hk
                                     exact ⟨(upd_n _ _ (by omega)).trans (hB.1.trans (congrArg mSo (upd_n _ _ e).symm)), (upd_n _ _ (by omega)).trans (hB.2.trans (upd_n _ _ e).symm)⟩) (fun x hx e k hk => by
                                   rw [z_up_s, z_up_n _ _ _ (by omega), z_up_s, z_up_n _ _ _ (by omega)]
                                   exact ⟨upd_n _ _ (by omega), upd_n _ _ (by omega)⟩) (fun k a => by rw [z_up_n _ _ _ (by omega), z_up_n _ _ _ (by omega)])
                                 exact zStpM.mk C1.1 C1.2 (by unfold sEnter; rw [if_neg n1, if_neg n2, aIx_in hh (by omega), if_pos hb, aIx_in hj (by omega)]) rfl)
                              | (have ew : mSo w = w := if_neg b99
                                 rw [show z_up M 135 (10 * h + j) w = z_up M 135 (10 * h + j) (mSo w) by rw [ew]]
                                 have C1 := C.putB (M' := z_up (z_up M 135 (10 * h + j) (mSo w)) 136 (10 * h + j) v) hh (o := true) (n := A.ln h) (f := upd (A.so h) j w) (v := upd (A.va h) j v) (by rw [z_up_n _ _ _ (by omega), z_up_n _ _ _ (by omega)]; exact (C.book h hh).1.trans (if_pos hb)) (fun x hx e => by rw [z_up_n _ _ _ (by omega), z_up_n _ _ _ (by omega)]) (fun k hk => by
                                   rw [z_up_s, z_up_n _ _ _ (by omega), z_up_s, z_up_n _ _ _ (by omega)]
                                   by_cases e : k = j
                                   · rw [e]; exact ⟨(upd_s _ _ _).trans (congrArg mSo (upd_s _ _ _).symm), (upd_s _ _ _).trans (upd_s _ _ _).symm⟩
                                   · have hB := (C.book h hh).2 k hk
                                     exact ⟨(upd_n _ _ (by omega)).trans (hB.1.trans (congrArg mSo (upd_n _ _ e).symm)), (upd_n _ _ (by omega)).trans (hB.2.trans (upd_n _ _ e).symm)⟩) (fun x hx e k hk => by
                                   rw [z_up_s, z_up_n _ _ _ (by omega), z_up_s, z_up_n _ _ _ (by omega)]
                                   exact ⟨upd_n _ _ (by omega), upd_n _ _ (by omega)⟩) (fun k a => by rw [z_up_n _ _ _ (by omega), z_up_n _ _ _ (by omega)])
                                 exact zStpM.mk C1.1 C1.2 (by unfold sEnter; rw [if_neg n1, if_neg n2, aIx_in hh (by omega), if_pos hb, aIx_in hj (by omega)]) rfl)
                        · exact absurd b81 (by decide)
                      · rw [ea]
                        have hln10 := (ok.ln h hh).1
                        refine z_istore dX12_enter_77 (by decide) rfl rfl ?_
                        refine z_iload dX12_enter_79 rfl ?_
                        refine z_if_eq (tgt := 87) dX12_enter_81 (by decide) (fun b81 => ?_) (fun b81 => ?_)
                        · exact absurd b81 (by decide)
                        · refine z_iload dX12_enter_84 rfl ?_
                          refine z_iret dX12_enter_86 rfl zle ?_
                          first
                            | exact zStpM.of C (by unfold sEnter; rw [if_neg n1, if_neg n2, aIx_in hh (by omega), if_pos hb, aIx_out hy])
                            | exact zStpM.of C (by unfold sEnter; rw [if_neg n1, if_neg n2, aIx_in hh (by omega), if_neg hb])
                      · rw [ea]
                        refine z_istore dX12_enter_77 (by decide) rfl rfl ?_
                        refine z_iload dX12_enter_79 rfl ?_
                        refine z_if_eq (tgt := 87) dX12_enter_81 (by decide) (fun b81 => ?_) (fun b81 => ?_)
                        · exact absurd b81 (by decide)
                        · refine z_iload dX12_enter_84 rfl ?_
                          refine z_iret dX12_enter_86 rfl zle ?_
                          first
                            | exact zStpM.of C (by unfold sEnter; rw [if_neg n1, if_neg n2, aIx_in hh (by omega), if_pos hb, aIx_out hy])
                            | exact zStpM.of C (by unfold sEnter; rw [if_neg n1, if_neg n2, aIx_in hh (by omega), if_neg hb])
                    · refine z_iload dX12_enter_53 rfl ?_
                      refine z_i2l dX12_enter_55 ?_
                      refine z_ldc2 lc_X12_281 dX12_enter_56 ?_
                      refine z_ldc2 lc_X12_283 dX12_enter_59 ?_
                      refine z_iS3 (c_X12_in g l) mw_X12_in lm_X12_79 ms_X12_in (by decide) (Nat.le_of_ble_eq_true rfl) zle dX12_enter_62 (fun r62 M62 q62 => ?_)
                      obtain ⟨qm, qr⟩ := q62
                      obtain rfl := qm.symm
                      rcases qr with ⟨c62, rfl⟩ | ⟨c62, rfl⟩
                      · have d62 := (l_inn (a := -9999) (z := 9999) (by decide) (by decide)).mp c62
                        refine z_if_ne (tgt := 71) dX12_enter_65 (by decide) (fun b65 => ?_) (fun b65 => ?_)
                        · have n2 : ¬ ((w < 0 ∨ 3 < w) ∨ (w = 0 ∧ (v < -9999 ∨ 9999 < v))) := fun z => z.elim (fun z => z.elim (Int32.not_lt.mpr d43.1) (Int32.not_lt.mpr d43.2)) (fun z => by first | exact absurd z.1 b50 | exact z.2.elim (Int32.not_lt.mpr d62.1) (Int32.not_lt.mpr d62.2))
                          refine z_aload_n dX12_enter_71 rfl ?_
                          refine z_iload_n dX12_enter_72 rfl ?_
                          refine z_iload_n dX12_enter_73 rfl ?_
                          refine z_iV2 (c_X12_noLine g l ok C hh) mw_X12_noLine lm_X12_285 mi_X12_noLine mv_X12_noLine kX12 (by decide) (Nat.le_of_ble_eq_true rfl) zle k0_127 s0_127 dX12_enter_74 (fun r74 M74 q74 => ?_)
                          obtain ⟨qr74, qm74⟩ := q74
                          obtain rfl := qr74.symm
                          obtain rfl := qm74.symm
                          rcases aNo_c A h y with ⟨hb, hy, ea⟩ | ⟨hb, hy, ea⟩ | ⟨hb, ea⟩
                          · rw [ea]
                            obtain ⟨j, hj, rfl⟩ := (zInD y (n := A.ln h) (by have := (ok.ln h hh).1; omega)).resolve_right (fun z => z hy)
                            have hln10 := (ok.ln h hh).1
                            have hj10 : j < 10 := by omega
                            refine z_istore dX12_enter_77 (by decide) rfl rfl ?_
                            refine z_iload dX12_enter_79 rfl ?_
                            refine z_if_eq (tgt := 87) dX12_enter_81 (by decide) (fun b81 => ?_) (fun b81 => ?_)
                            · refine z_aload_n dX12_enter_87 rfl ?_
                              refine z_getR (j := 10) (r := 135) kX12 lf_X12_32 (by decide) rfl dX12_enter_88 k0_127 s0_127 r0_127_10 (by decide) ?_
                              refine z_bipush (v := 10) dX12_enter_91 (by decide) ?_
                              refine z_iload_n dX12_enter_93 rfl ?_
                              refine z_imulN (a := 10) (b := h) rfl rfl dX12_enter_94 ?_
                              refine z_iload_n dX12_enter_95 rfl ?_
                              refine z_iaddN (a := (10 * h)) (b := j) rfl rfl dX12_enter_96 ?_
                              
                              refine z_iload_n dX12_enter_97 rfl ?_
                              refine z_iconst (v := 3) dX12_enter_98 (by decide) ?_
                              refine z_icmp_ne (tgt := 106) dX12_enter_99 (by decide) (fun b99 => ?_) (fun b99 => ?_)
                              · refine z_iload_n dX12_enter_106 rfl ?_
                                refine z_iastN (j := (10 * h + j)) rfl (by omega) dX12_enter_107 k0_135 s0_135 ?_
                                refine z_aload_n dX12_enter_108 rfl ?_
                                refine z_getR (j := 11) (r := 136) kX12 lf_X12_35 (by decide) rfl dX12_enter_109 k0_127 s0_127 r0_127_11 (by decide) ?_
                                refine z_bipush (v := 10) dX12_enter_112 (by decide) ?_
                                refine z_iload_n dX12_enter_114 rfl ?_
                                refine z_imulN (a := 10) (b := h) rfl rfl dX12_enter_115 ?_
                                refine z_iload_n dX12_enter_116 rfl ?_
                                refine z_iaddN (a := (10 * h)) (b := j) rfl rfl dX12_enter_117 ?_
                                refine z_iload dX12_enter_118 rfl ?_
                                refine z_iastN (j := (10 * h + j)) rfl (by omega) dX12_enter_120 k0_136 s0_136 ?_
                                refine z_iconst (v := 1) dX12_enter_121 (by decide) ?_
                                refine z_iret dX12_enter_122 rfl zle ?_
                                first
                                  | (have ew : mSo w = -1 := if_pos b99
                                     rw [show (-1 : Int32) = mSo w from ew.symm]
                                     have C1 := C.putB (M' := z_up (z_up M 135 (10 * h + j) (mSo w)) 136 (10 * h + j) v) hh (o := true) (n := A.ln h) (f := upd (A.so h) j w) (v := upd (A.va h) j v) (by rw [z_up_n _ _ _ (by omega), z_up_n _ _ _ (by omega)]; exact (C.book h hh).1.trans (if_pos hb)) (fun x hx e => by rw [z_up_n _ _ _ (by omega), z_up_n _ _ _ (by omega)]) (fun k hk => by
                                       rw [z_up_s, z_up_n _ _ _ (by omega), z_up_s, z_up_n _ _ _ (by omega)]
                                       by_cases e : k = j
                                       · rw [e]; exact ⟨(upd_s _ _ _).trans (congrArg mSo (upd_s _ _ _).symm), (upd_s _ _ _).trans (upd_s _ _ _).symm⟩
                                       · have hB := (C.book h hh).2 k hk
                                         exact ⟨(upd_n _ _ (by omega)).trans (hB.1.trans (congrArg mSo (upd_n _ _ e).symm)), (upd_n _ _ (by omega)).trans (hB.2.trans (upd_n _ _ e).symm)⟩) (fun x hx e k hk => by
                                       rw [z_up_s, z_up_n _ _ _ (by omega), z_up_s, z_up_n _ _ _ (by omega)]
                                       exact ⟨upd_n _ _ (by omega), upd_n _ _ (by omega)⟩) (fun k a => by rw [z_up_n _ _ _ (by omega), z_up_n _ _ _ (by omega)])
                                     exact zStpM.mk C1.1 C1.2 (by unfold sEnter; rw [if_neg n1, if_neg n2, aIx_in hh (by omega), if_pos hb, aIx_in hj (by omega)]) rfl)
                                  | (have ew : mSo w = w := if_neg b99
                                     rw [show z_up M 135 (10 * h + j) w = z_up M 135 (10 * h + j) (mSo w) by rw [ew]]
                                     have C1 := C.putB (M' := z_up (z_up M 135 (10 * h + j) (mSo w)) 136 (10 * h + j) v) hh (o := true) (n := A.ln h) (f := upd (A.so h) j w) (v := upd (A.va h) j v) (by rw [z_up_n _ _ _ (by omega), z_up_n _ _ _ (by omega)]; exact (C.book h hh).1.trans (if_pos hb)) (fun x hx e => by rw [z_up_n _ _ _ (by omega), z_up_n _ _ _ (by omega)]) (fun k hk => by
                                       rw [z_up_s, z_up_n _ _ _ (by omega), z_up_s, z_up_n _ _ _ (by omega)]
                                       by_cases e : k = j
                                       · rw [e]; exact ⟨(upd_s _ _ _).trans (congrArg mSo (upd_s _ _ _).symm), (upd_s _ _ _).trans (upd_s _ _ _).symm⟩
                                       · have hB := (C.book h hh).2 k hk
                                         exact ⟨(upd_n _ _ (by omega)).trans (hB.1.trans (congrArg mSo (upd_n _ _ e).symm)), (upd_n _ _ (by omega)).trans (hB.2.trans (upd_n _ _ e).symm)⟩) (fun x hx e k hk => by
                                       rw [z_up_s, z_up_n _ _ _ (by omega), z_up_s, z_up_n _ _ _ (by omega)]
                                       exact ⟨upd_n _ _ (by omega), upd_n _ _ (by omega)⟩) (fun k a => by rw [z_up_n _ _ _ (by omega), z_up_n _ _ _ (by omega)])
                                     exact zStpM.mk C1.1 C1.2 (by unfold sEnter; rw [if_neg n1, if_neg n2, aIx_in hh (by omega), if_pos hb, aIx_in hj (by omega)]) rfl)
                              · refine z_iconst (v := (-1)) dX12_enter_102 (by decide) ?_
                                refine z_goto (tgt := 107) dX12_enter_103 (by decide) ?_
                                refine z_iastN (j := (10 * h + j)) rfl (by omega) dX12_enter_107 k0_135 s0_135 ?_
                                refine z_aload_n dX12_enter_108 rfl ?_
                                refine z_getR (j := 11) (r := 136) kX12 lf_X12_35 (by decide) rfl dX12_enter_109 k0_127 s0_127 r0_127_11 (by decide) ?_
                                refine z_bipush (v := 10) dX12_enter_112 (by decide) ?_
                                refine z_iload_n dX12_enter_114 rfl ?_
                                refine z_imulN (a := 10) (b := h) rfl rfl dX12_enter_115 ?_
                                refine z_iload_n dX12_enter_116 rfl ?_
                                refine z_iaddN (a := (10 * h)) (b := j) rfl rfl dX12_enter_117 ?_
                                refine z_iload dX12_enter_118 rfl ?_
                                refine z_iastN (j := (10 * h + j)) rfl (by omega) dX12_enter_120 k0_136 s0_136 ?_
                                refine z_iconst (v := 1) dX12_enter_121 (by decide) ?_
                                refine z_iret dX12_enter_122 rfl zle ?_
                                first
                                  | (have ew : mSo w = -1 := if_pos b99
                                     rw [show (-1 : Int32) = mSo w from ew.symm]
                                     have C1 := C.putB (M' := z_up (z_up M 135 (10 * h + j) (mSo w)) 136 (10 * h + j) v) hh (o := true) (n := A.ln h) (f := upd (A.so h) j w) (v := upd (A.va h) j v) (by rw [z_up_n _ _ _ (by omega), z_up_n _ _ _ (by omega)]; exact (C.book h hh).1.trans (if_pos hb)) (fun x hx e => by rw [z_up_n _ _ _ (by omega), z_up_n _ _ _ (by omega)]) (fun k hk => by
                                       rw [z_up_s, z_up_n _ _ _ (by omega), z_up_s, z_up_n _ _ _ (by omega)]
                                       by_cases e : k = j
                                       · rw [e]; exact ⟨(upd_s _ _ _).trans (congrArg mSo (upd_s _ _ _).symm), (upd_s _ _ _).trans (upd_s _ _ _).symm⟩
                                       · have hB := (C.book h hh).2 k hk
                                         exact ⟨(upd_n _ _ (by omega)).trans (hB.1.trans (congrArg mSo (upd_n _ _ e).symm)), (upd_n _ _ (by omega)).trans (hB.2.trans (upd_n _ _ e).symm)⟩) (fun x hx e k hk => by
                                       rw [z_up_s, z_up_n _ _ _ (by omega), z_up_s, z_up_n _ _ _ (by omega)]
                                       exact ⟨upd_n _ _ (by omega), upd_n _ _ (by omega)⟩) (fun k a => by rw [z_up_n _ _ _ (by omega), z_up_n _ _ _ (by omega)])
                                     exact zStpM.mk C1.1 C1.2 (by unfold sEnter; rw [if_neg n1, if_neg n2, aIx_in hh (by omega), if_pos hb, aIx_in hj (by omega)]) rfl)
                                  | (have ew : mSo w = w := if_neg b99
                                     rw [show z_up M 135 (10 * h + j) w = z_up M 135 (10 * h + j) (mSo w) by rw [ew]]
                                     have C1 := C.putB (M' := z_up (z_up M 135 (10 * h + j) (mSo w)) 136 (10 * h + j) v) hh (o := true) (n := A.ln h) (f := upd (A.so h) j w) (v := upd (A.va h) j v) (by rw [z_up_n _ _ _ (by omega), z_up_n _ _ _ (by omega)]; exact (C.book h hh).1.trans (if_pos hb)) (fun x hx e => by rw [z_up_n _ _ _ (by omega), z_up_n _ _ _ (by omega)]) (fun k hk => by
                                       rw [z_up_s, z_up_n _ _ _ (by omega), z_up_s, z_up_n _ _ _ (by omega)]
                                       by_cases e : k = j
                                       · rw [e]; exact ⟨(upd_s _ _ _).trans (congrArg mSo (upd_s _ _ _).symm), (upd_s _ _ _).trans (upd_s _ _ _).symm⟩
                                       · have hB := (C.book h hh).2 k hk
                                         exact ⟨(upd_n _ _ (by omega)).trans (hB.1.trans (congrArg mSo (upd_n _ _ e).symm)), (upd_n _ _ (by omega)).trans (hB.2.trans (upd_n _ _ e).symm)⟩) (fun x hx e k hk => by
                                       rw [z_up_s, z_up_n _ _ _ (by omega), z_up_s, z_up_n _ _ _ (by omega)]
                                       exact ⟨upd_n _ _ (by omega), upd_n _ _ (by omega)⟩) (fun k a => by rw [z_up_n _ _ _ (by omega), z_up_n _ _ _ (by omega)])
                                     exact zStpM.mk C1.1 C1.2 (by unfold sEnter; rw [if_neg n1, if_neg n2, aIx_in hh (by omega), if_pos hb, aIx_in hj (by omega)]) rfl)
                            · exact absurd b81 (by decide)
                          · rw [ea]
                            have hln10 := (ok.ln h hh).1
                            refine z_istore dX12_enter_77 (by decide) rfl rfl ?_
                            refine z_iload dX12_enter_79 rfl ?_
                            refine z_if_eq (tgt := 87) dX12_enter_81 (by decide) (fun b81 => ?_) (fun b81 => ?_)
                            · exact absurd b81 (by decide)
                            · refine z_iload dX12_enter_84 rfl ?_
                              refine z_iret dX12_enter_86 rfl zle ?_
                              first
                                | exact zStpM.of C (by unfold sEnter; rw [if_neg n1, if_neg n2, aIx_in hh (by omega), if_pos hb, aIx_out hy])
                                | exact zStpM.of C (by unfold sEnter; rw [if_neg n1, if_neg n2, aIx_in hh (by omega), if_neg hb])
                          · rw [ea]
                            refine z_istore dX12_enter_77 (by decide) rfl rfl ?_
                            refine z_iload dX12_enter_79 rfl ?_
                            refine z_if_eq (tgt := 87) dX12_enter_81 (by decide) (fun b81 => ?_) (fun b81 => ?_)
                            · exact absurd b81 (by decide)
                            · refine z_iload dX12_enter_84 rfl ?_
                              refine z_iret dX12_enter_86 rfl zle ?_
                              first
                                | exact zStpM.of C (by unfold sEnter; rw [if_neg n1, if_neg n2, aIx_in hh (by omega), if_pos hb, aIx_out hy])
                                | exact zStpM.of C (by unfold sEnter; rw [if_neg n1, if_neg n2, aIx_in hh (by omega), if_neg hb])
                        · exact absurd b65 (by decide)
                      · have d62 := fun z => c62 ((l_inn (a := -9999) (z := 9999) (by decide) (by decide)).mpr z)
                        refine z_if_ne (tgt := 71) dX12_enter_65 (by decide) (fun b65 => ?_) (fun b65 => ?_)
                        · exact absurd b65 (by decide)
                        · refine z_bipush (v := (-3)) dX12_enter_68 (by decide) ?_
                          refine z_iret dX12_enter_70 rfl zle ?_
                          exact zStpM.of C ((if_neg n1).trans (if_pos (by first | exact Or.inl (by by_cases z : w < 0; exact Or.inl z; exact Or.inr (Int32.not_le.mp (fun z2 => d43 ⟨Int32.not_lt.mp z, z2⟩))) | exact Or.inr ⟨b50, (by by_cases z : v < -9999; exact Or.inl z; exact Or.inr (Int32.not_le.mp (fun z2 => d62 ⟨Int32.not_lt.mp z, z2⟩)))⟩)))
                · have d43 := fun z => c43 ((l_inn (a := 0) (z := 3) (by decide) (by decide)).mpr z)
                  refine z_if_eq (tgt := 68) dX12_enter_46 (by decide) (fun b46 => ?_) (fun b46 => ?_)
                  · refine z_bipush (v := (-3)) dX12_enter_68 (by decide) ?_
                    refine z_iret dX12_enter_70 rfl zle ?_
                    exact zStpM.of C ((if_neg n1).trans (if_pos (by first | exact Or.inl (by by_cases z : w < 0; exact Or.inl z; exact Or.inr (Int32.not_le.mp (fun z2 => d43 ⟨Int32.not_lt.mp z, z2⟩))) | exact Or.inr ⟨b50, (by by_cases z : v < -9999; exact Or.inl z; exact Or.inr (Int32.not_le.mp (fun z2 => d62 ⟨Int32.not_lt.mp z, z2⟩)))⟩)))
                  · exact absurd b46 (by decide)
              · exact absurd b31 (by decide)
            · refine z_if_ne (tgt := 37) dX12_enter_31 (by decide) (fun b31 => ?_) (fun b31 => ?_)
              · exact absurd b31 (by decide)
              · refine z_bipush (v := (-2)) dX12_enter_34 (by decide) ?_
                refine z_iret dX12_enter_36 rfl zle ?_
                exact zStpM.of C (if_pos (by first | exact Or.inr (Or.inr ⟨b23, fun z => c28 (le3.mpr z)⟩) | exact Or.inr (Or.inl ⟨b9, c15⟩)))
        · refine z_aload_n dX12_enter_12 rfl ?_
          refine z_iload dX12_enter_13 rfl ?_
          refine z_iV1 (c_X12_isHour g l ok C) mw_X12_isHour lm_X12_169 mi_X12_isHour mv_X12_isHour kX12 (by decide) (Nat.le_of_ble_eq_true rfl) zle k0_127 s0_127 dX12_enter_15 (fun r15 M15 q15 => ?_)
          obtain ⟨qm15, qr15⟩ := q15
          obtain rfl := qm15.symm
          obtain ⟨c15, rfl⟩ | ⟨c15, rfl⟩ := qr15
          · refine z_if_eq (tgt := 34) dX12_enter_18 (by decide) (fun b18 => ?_) (fun b18 => ?_)
            · exact absurd b18 (by decide)
            · refine z_iload_n dX12_enter_21 rfl ?_
              refine z_iconst (v := 2) dX12_enter_22 (by decide) ?_
              refine z_icmp_ne (tgt := 37) dX12_enter_23 (by decide) (fun b23 => ?_) (fun b23 => ?_)
              · have n1 : ¬ ((¬ (0 ≤ nI h ∧ nI h < 4)) ∨ (w = 1 ∧ ¬ (0 ≤ v ∧ v < nI A.n)) ∨ (w = 2 ∧ ¬ (0 ≤ v ∧ v < 4))) := fun z => z.elim (fun a => a (zInP (n := 4) hh (by omega))) (fun z => z.elim (fun a => by first | exact absurd a.1 b9 | exact a.2 c15) (fun a => by first | exact absurd a.1 b23 | exact a.2 (le3.mp c28)))
                refine z_iload_n dX12_enter_37 rfl ?_
                refine z_i2l dX12_enter_38 ?_
                refine z_lconst (v := 0) dX12_enter_39 (by decide) ?_
                refine z_ldc2 lc_X12_276 dX12_enter_40 ?_
                refine z_iS3 (c_X12_in g l) mw_X12_in lm_X12_79 ms_X12_in (by decide) (Nat.le_of_ble_eq_true rfl) zle dX12_enter_43 (fun r43 M43 q43 => ?_)
                obtain ⟨qm, qr⟩ := q43
                obtain rfl := qm.symm
                rcases qr with ⟨c43, rfl⟩ | ⟨c43, rfl⟩
                · have d43 := (l_inn (a := 0) (z := 3) (by decide) (by decide)).mp c43
                  refine z_if_eq (tgt := 68) dX12_enter_46 (by decide) (fun b46 => ?_) (fun b46 => ?_)
                  · exact absurd b46 (by decide)
                  · refine z_iload_n dX12_enter_49 rfl ?_
                    refine z_if_ne (tgt := 71) dX12_enter_50 (by decide) (fun b50 => ?_) (fun b50 => ?_)
                    · have n2 : ¬ ((w < 0 ∨ 3 < w) ∨ (w = 0 ∧ (v < -9999 ∨ 9999 < v))) := fun z => z.elim (fun z => z.elim (Int32.not_lt.mpr d43.1) (Int32.not_lt.mpr d43.2)) (fun z => by first | exact absurd z.1 b50 | exact z.2.elim (Int32.not_lt.mpr d62.1) (Int32.not_lt.mpr d62.2))
                      refine z_aload_n dX12_enter_71 rfl ?_
                      refine z_iload_n dX12_enter_72 rfl ?_
                      refine z_iload_n dX12_enter_73 rfl ?_
                      refine z_iV2 (c_X12_noLine g l ok C hh) mw_X12_noLine lm_X12_285 mi_X12_noLine mv_X12_noLine kX12 (by decide) (Nat.le_of_ble_eq_true rfl) zle k0_127 s0_127 dX12_enter_74 (fun r74 M74 q74 => ?_)
                      obtain ⟨qr74, qm74⟩ := q74
                      obtain rfl := qr74.symm
                      obtain rfl := qm74.symm
                      rcases aNo_c A h y with ⟨hb, hy, ea⟩ | ⟨hb, hy, ea⟩ | ⟨hb, ea⟩
                      · rw [ea]
                        obtain ⟨j, hj, rfl⟩ := (zInD y (n := A.ln h) (by have := (ok.ln h hh).1; omega)).resolve_right (fun z => z hy)
                        have hln10 := (ok.ln h hh).1
                        have hj10 : j < 10 := by omega
                        refine z_istore dX12_enter_77 (by decide) rfl rfl ?_
                        refine z_iload dX12_enter_79 rfl ?_
                        refine z_if_eq (tgt := 87) dX12_enter_81 (by decide) (fun b81 => ?_) (fun b81 => ?_)
                        · refine z_aload_n dX12_enter_87 rfl ?_
                          refine z_getR (j := 10) (r := 135) kX12 lf_X12_32 (by decide) rfl dX12_enter_88 k0_127 s0_127 r0_127_10 (by decide) ?_
                          refine z_bipush (v := 10) dX12_enter_91 (by decide) ?_
                          refine z_iload_n dX12_enter_93 rfl ?_
                          refine z_imulN (a := 10) (b := h) rfl rfl dX12_enter_94 ?_
                          refine z_iload_n dX12_enter_95 rfl ?_
                          refine z_iaddN (a := (10 * h)) (b := j) rfl rfl dX12_enter_96 ?_
                          
                          refine z_iload_n dX12_enter_97 rfl ?_
                          refine z_iconst (v := 3) dX12_enter_98 (by decide) ?_
                          refine z_icmp_ne (tgt := 106) dX12_enter_99 (by decide) (fun b99 => ?_) (fun b99 => ?_)
                          · refine z_iload_n dX12_enter_106 rfl ?_
                            refine z_iastN (j := (10 * h + j)) rfl (by omega) dX12_enter_107 k0_135 s0_135 ?_
                            refine z_aload_n dX12_enter_108 rfl ?_
                            refine z_getR (j := 11) (r := 136) kX12 lf_X12_35 (by decide) rfl dX12_enter_109 k0_127 s0_127 r0_127_11 (by decide) ?_
                            refine z_bipush (v := 10) dX12_enter_112 (by decide) ?_
                            refine z_iload_n dX12_enter_114 rfl ?_
                            refine z_imulN (a := 10) (b := h) rfl rfl dX12_enter_115 ?_
                            refine z_iload_n dX12_enter_116 rfl ?_
                            refine z_iaddN (a := (10 * h)) (b := j) rfl rfl dX12_enter_117 ?_
                            refine z_iload dX12_enter_118 rfl ?_
                            refine z_iastN (j := (10 * h + j)) rfl (by omega) dX12_enter_120 k0_136 s0_136 ?_
                            refine z_iconst (v := 1) dX12_enter_121 (by decide) ?_
                            refine z_iret dX12_enter_122 rfl zle ?_
                            first
                              | (have ew : mSo w = -1 := if_pos b99
                                 rw [show (-1 : Int32) = mSo w from ew.symm]
                                 have C1 := C.putB (M' := z_up (z_up M 135 (10 * h + j) (mSo w)) 136 (10 * h + j) v) hh (o := true) (n := A.ln h) (f := upd (A.so h) j w) (v := upd (A.va h) j v) (by rw [z_up_n _ _ _ (by omega), z_up_n _ _ _ (by omega)]; exact (C.book h hh).1.trans (if_pos hb)) (fun x hx e => by rw [z_up_n _ _ _ (by omega), z_up_n _ _ _ (by omega)]) (fun k hk => by
                                   rw [z_up_s, z_up_n _ _ _ (by omega), z_up_s, z_up_n _ _ _ (by omega)]
                                   by_cases e : k = j
                                   · rw [e]; exact ⟨(upd_s _ _ _).trans (congrArg mSo (upd_s _ _ _).symm), (upd_s _ _ _).trans (upd_s _ _ _).symm⟩
                                   · have hB := (C.book h hh).2 k hk
                                     exact ⟨(upd_n _ _ (by omega)).trans (hB.1.trans (congrArg mSo (upd_n _ _ e).symm)), (upd_n _ _ (by omega)).trans (hB.2.trans (upd_n _ _ e).symm)⟩) (fun x hx e k hk => by
                                   rw [z_up_s, z_up_n _ _ _ (by omega), z_up_s, z_up_n _ _ _ (by omega)]
                                   exact ⟨upd_n _ _ (by omega), upd_n _ _ (by omega)⟩) (fun k a => by rw [z_up_n _ _ _ (by omega), z_up_n _ _ _ (by omega)])
                                 exact zStpM.mk C1.1 C1.2 (by unfold sEnter; rw [if_neg n1, if_neg n2, aIx_in hh (by omega), if_pos hb, aIx_in hj (by omega)]) rfl)
                              | (have ew : mSo w = w := if_neg b99
                                 rw [show z_up M 135 (10 * h + j) w = z_up M 135 (10 * h + j) (mSo w) by rw [ew]]
                                 have C1 := C.putB (M' := z_up (z_up M 135 (10 * h + j) (mSo w)) 136 (10 * h + j) v) hh (o := true) (n := A.ln h) (f := upd (A.so h) j w) (v := upd (A.va h) j v) (by rw [z_up_n _ _ _ (by omega), z_up_n _ _ _ (by omega)]; exact (C.book h hh).1.trans (if_pos hb)) (fun x hx e => by rw [z_up_n _ _ _ (by omega), z_up_n _ _ _ (by omega)]) (fun k hk => by
                                   rw [z_up_s, z_up_n _ _ _ (by omega), z_up_s, z_up_n _ _ _ (by omega)]
                                   by_cases e : k = j
                                   · rw [e]; exact ⟨(upd_s _ _ _).trans (congrArg mSo (upd_s _ _ _).symm), (upd_s _ _ _).trans (upd_s _ _ _).symm⟩
                                   · have hB := (C.book h hh).2 k hk
                                     exact ⟨(upd_n _ _ (by omega)).trans (hB.1.trans (congrArg mSo (upd_n _ _ e).symm)), (upd_n _ _ (by omega)).trans (hB.2.trans (upd_n _ _ e).symm)⟩) (fun x hx e k hk => by
                                   rw [z_up_s, z_up_n _ _ _ (by omega), z_up_s, z_up_n _ _ _ (by omega)]
                                   exact ⟨upd_n _ _ (by omega), upd_n _ _ (by omega)⟩) (fun k a => by rw [z_up_n _ _ _ (by omega), z_up_n _ _ _ (by omega)])
                                 exact zStpM.mk C1.1 C1.2 (by unfold sEnter; rw [if_neg n1, if_neg n2, aIx_in hh (by omega), if_pos hb, aIx_in hj (by omega)]) rfl)
                          · refine z_iconst (v := (-1)) dX12_enter_102 (by decide) ?_
                            refine z_goto (tgt := 107) dX12_enter_103 (by decide) ?_
                            refine z_iastN (j := (10 * h + j)) rfl (by omega) dX12_enter_107 k0_135 s0_135 ?_
                            refine z_aload_n dX12_enter_108 rfl ?_
                            refine z_getR (j := 11) (r := 136) kX12 lf_X12_35 (by decide) rfl dX12_enter_109 k0_127 s0_127 r0_127_11 (by decide) ?_
                            refine z_bipush (v := 10) dX12_enter_112 (by decide) ?_
                            refine z_iload_n dX12_enter_114 rfl ?_
                            refine z_imulN (a := 10) (b := h) rfl rfl dX12_enter_115 ?_
                            refine z_iload_n dX12_enter_116 rfl ?_
                            refine z_iaddN (a := (10 * h)) (b := j) rfl rfl dX12_enter_117 ?_
                            refine z_iload dX12_enter_118 rfl ?_
                            refine z_iastN (j := (10 * h + j)) rfl (by omega) dX12_enter_120 k0_136 s0_136 ?_
                            refine z_iconst (v := 1) dX12_enter_121 (by decide) ?_
                            refine z_iret dX12_enter_122 rfl zle ?_
                            first
                              | (have ew : mSo w = -1 := if_pos b99
                                 rw [show (-1 : Int32) = mSo w from ew.symm]
                                 have C1 := C.putB (M' := z_up (z_up M 135 (10 * h + j) (mSo w)) 136 (10 * h + j) v) hh (o := true) (n := A.ln h) (f := upd (A.so h) j w) (v := upd (A.va h) j v) (by rw [z_up_n _ _ _ (by omega), z_up_n _ _ _ (by omega)]; exact (C.book h hh).1.trans (if_pos hb)) (fun x hx e => by rw [z_up_n _ _ _ (by omega), z_up_n _ _ _ (by omega)]) (fun k hk => by
                                   rw [z_up_s, z_up_n _ _ _ (by omega), z_up_s, z_up_n _ _ _ (by omega)]
                                   by_cases e : k = j
                                   · rw [e]; exact ⟨(upd_s _ _ _).trans (congrArg mSo (upd_s _ _ _).symm), (upd_s _ _ _).trans (upd_s _ _ _).symm⟩
                                   · have hB := (C.book h hh).2 k hk
                                     exact ⟨(upd_n _ _ (by omega)).trans (hB.1.trans (congrArg mSo (upd_n _ _ e).symm)), (upd_n _ _ (by omega)).trans (hB.2.trans (upd_n _ _ e).symm)⟩) (fun x hx e k hk => by
                                   rw [z_up_s, z_up_n _ _ _ (by omega), z_up_s, z_up_n _ _ _ (by omega)]
                                   exact ⟨upd_n _ _ (by omega), upd_n _ _ (by omega)⟩) (fun k a => by rw [z_up_n _ _ _ (by omega), z_up_n _ _ _ (by omega)])
                                 exact zStpM.mk C1.1 C1.2 (by unfold sEnter; rw [if_neg n1, if_neg n2, aIx_in hh (by omega), if_pos hb, aIx_in hj (by omega)]) rfl)
                              | (have ew : mSo w = w := if_neg b99
                                 rw [show z_up M 135 (10 * h + j) w = z_up M 135 (10 * h + j) (mSo w) by rw [ew]]
                                 have C1 := C.putB (M' := z_up (z_up M 135 (10 * h + j) (mSo w)) 136 (10 * h + j) v) hh (o := true) (n := A.ln h) (f := upd (A.so h) j w) (v := upd (A.va h) j v) (by rw [z_up_n _ _ _ (by omega), z_up_n _ _ _ (by omega)]; exact (C.book h hh).1.trans (if_pos hb)) (fun x hx e => by rw [z_up_n _ _ _ (by omega), z_up_n _ _ _ (by omega)]) (fun k hk => by
                                   rw [z_up_s, z_up_n _ _ _ (by omega), z_up_s, z_up_n _ _ _ (by omega)]
                                   by_cases e : k = j
                                   · rw [e]; exact ⟨(upd_s _ _ _).trans (congrArg mSo (upd_s _ _ _).symm), (upd_s _ _ _).trans (upd_s _ _ _).symm⟩
                                   · have hB := (C.book h hh).2 k hk
                                     exact ⟨(upd_n _ _ (by omega)).trans (hB.1.trans (congrArg mSo (upd_n _ _ e).symm)), (upd_n _ _ (by omega)).trans (hB.2.trans (upd_n _ _ e).symm)⟩) (fun x hx e k hk => by
                                   rw [z_up_s, z_up_n _ _ _ (by omega), z_up_s, z_up_n _ _ _ (by omega)]
                                   exact ⟨upd_n _ _ (by omega), upd_n _ _ (by omega)⟩) (fun k a => by rw [z_up_n _ _ _ (by omega), z_up_n _ _ _ (by omega)])
                                 exact zStpM.mk C1.1 C1.2 (by unfold sEnter; rw [if_neg n1, if_neg n2, aIx_in hh (by omega), if_pos hb, aIx_in hj (by omega)]) rfl)
                        · exact absurd b81 (by decide)
                      · rw [ea]
                        have hln10 := (ok.ln h hh).1
                        refine z_istore dX12_enter_77 (by decide) rfl rfl ?_
                        refine z_iload dX12_enter_79 rfl ?_
                        refine z_if_eq (tgt := 87) dX12_enter_81 (by decide) (fun b81 => ?_) (fun b81 => ?_)
                        · exact absurd b81 (by decide)
                        · refine z_iload dX12_enter_84 rfl ?_
                          refine z_iret dX12_enter_86 rfl zle ?_
                          first
                            | exact zStpM.of C (by unfold sEnter; rw [if_neg n1, if_neg n2, aIx_in hh (by omega), if_pos hb, aIx_out hy])
                            | exact zStpM.of C (by unfold sEnter; rw [if_neg n1, if_neg n2, aIx_in hh (by omega), if_neg hb])
                      · rw [ea]
                        refine z_istore dX12_enter_77 (by decide) rfl rfl ?_
                        refine z_iload dX12_enter_79 rfl ?_
                        refine z_if_eq (tgt := 87) dX12_enter_81 (by decide) (fun b81 => ?_) (fun b81 => ?_)
                        · exact absurd b81 (by decide)
                        · refine z_iload dX12_enter_84 rfl ?_
                          refine z_iret dX12_enter_86 rfl zle ?_
                          first
                            | exact zStpM.of C (by unfold sEnter; rw [if_neg n1, if_neg n2, aIx_in hh (by omega), if_pos hb, aIx_out hy])
                            | exact zStpM.of C (by unfold sEnter; rw [if_neg n1, if_neg n2, aIx_in hh (by omega), if_neg hb])
                    · refine z_iload dX12_enter_53 rfl ?_
                      refine z_i2l dX12_enter_55 ?_
                      refine z_ldc2 lc_X12_281 dX12_enter_56 ?_
                      refine z_ldc2 lc_X12_283 dX12_enter_59 ?_
                      refine z_iS3 (c_X12_in g l) mw_X12_in lm_X12_79 ms_X12_in (by decide) (Nat.le_of_ble_eq_true rfl) zle dX12_enter_62 (fun r62 M62 q62 => ?_)
                      obtain ⟨qm, qr⟩ := q62
                      obtain rfl := qm.symm
                      rcases qr with ⟨c62, rfl⟩ | ⟨c62, rfl⟩
                      · have d62 := (l_inn (a := -9999) (z := 9999) (by decide) (by decide)).mp c62
                        refine z_if_ne (tgt := 71) dX12_enter_65 (by decide) (fun b65 => ?_) (fun b65 => ?_)
                        · have n2 : ¬ ((w < 0 ∨ 3 < w) ∨ (w = 0 ∧ (v < -9999 ∨ 9999 < v))) := fun z => z.elim (fun z => z.elim (Int32.not_lt.mpr d43.1) (Int32.not_lt.mpr d43.2)) (fun z => by first | exact absurd z.1 b50 | exact z.2.elim (Int32.not_lt.mpr d62.1) (Int32.not_lt.mpr d62.2))
                          refine z_aload_n dX12_enter_71 rfl ?_
                          refine z_iload_n dX12_enter_72 rfl ?_
                          refine z_iload_n dX12_enter_73 rfl ?_
                          refine z_iV2 (c_X12_noLine g l ok C hh) mw_X12_noLine lm_X12_285 mi_X12_noLine mv_X12_noLine kX12 (by decide) (Nat.le_of_ble_eq_true rfl) zle k0_127 s0_127 dX12_enter_74 (fun r74 M74 q74 => ?_)
                          obtain ⟨qr74, qm74⟩ := q74
                          obtain rfl := qr74.symm
                          obtain rfl := qm74.symm
                          rcases aNo_c A h y with ⟨hb, hy, ea⟩ | ⟨hb, hy, ea⟩ | ⟨hb, ea⟩
                          · rw [ea]
                            obtain ⟨j, hj, rfl⟩ := (zInD y (n := A.ln h) (by have := (ok.ln h hh).1; omega)).resolve_right (fun z => z hy)
                            have hln10 := (ok.ln h hh).1
                            have hj10 : j < 10 := by omega
                            refine z_istore dX12_enter_77 (by decide) rfl rfl ?_
                            refine z_iload dX12_enter_79 rfl ?_
                            refine z_if_eq (tgt := 87) dX12_enter_81 (by decide) (fun b81 => ?_) (fun b81 => ?_)
                            · refine z_aload_n dX12_enter_87 rfl ?_
                              refine z_getR (j := 10) (r := 135) kX12 lf_X12_32 (by decide) rfl dX12_enter_88 k0_127 s0_127 r0_127_10 (by decide) ?_
                              refine z_bipush (v := 10) dX12_enter_91 (by decide) ?_
                              refine z_iload_n dX12_enter_93 rfl ?_
                              refine z_imulN (a := 10) (b := h) rfl rfl dX12_enter_94 ?_
                              refine z_iload_n dX12_enter_95 rfl ?_
                              refine z_iaddN (a := (10 * h)) (b := j) rfl rfl dX12_enter_96 ?_
                              
                              refine z_iload_n dX12_enter_97 rfl ?_
                              refine z_iconst (v := 3) dX12_enter_98 (by decide) ?_
                              refine z_icmp_ne (tgt := 106) dX12_enter_99 (by decide) (fun b99 => ?_) (fun b99 => ?_)
                              · refine z_iload_n dX12_enter_106 rfl ?_
                                refine z_iastN (j := (10 * h + j)) rfl (by omega) dX12_enter_107 k0_135 s0_135 ?_
                                refine z_aload_n dX12_enter_108 rfl ?_
                                refine z_getR (j := 11) (r := 136) kX12 lf_X12_35 (by decide) rfl dX12_enter_109 k0_127 s0_127 r0_127_11 (by decide) ?_
                                refine z_bipush (v := 10) dX12_enter_112 (by decide) ?_
                                refine z_iload_n dX12_enter_114 rfl ?_
                                refine z_imulN (a := 10) (b := h) rfl rfl dX12_enter_115 ?_
                                refine z_iload_n dX12_enter_116 rfl ?_
                                refine z_iaddN (a := (10 * h)) (b := j) rfl rfl dX12_enter_117 ?_
                                refine z_iload dX12_enter_118 rfl ?_
                                refine z_iastN (j := (10 * h + j)) rfl (by omega) dX12_enter_120 k0_136 s0_136 ?_
                                refine z_iconst (v := 1) dX12_enter_121 (by decide) ?_
                                refine z_iret dX12_enter_122 rfl zle ?_
                                first
                                  | (have ew : mSo w = -1 := if_pos b99
                                     rw [show (-1 : Int32) = mSo w from ew.symm]
                                     have C1 := C.putB (M' := z_up (z_up M 135 (10 * h + j) (mSo w)) 136 (10 * h + j) v) hh (o := true) (n := A.ln h) (f := upd (A.so h) j w) (v := upd (A.va h) j v) (by rw [z_up_n _ _ _ (by omega), z_up_n _ _ _ (by omega)]; exact (C.book h hh).1.trans (if_pos hb)) (fun x hx e => by rw [z_up_n _ _ _ (by omega), z_up_n _ _ _ (by omega)]) (fun k hk => by
                                       rw [z_up_s, z_up_n _ _ _ (by omega), z_up_s, z_up_n _ _ _ (by omega)]
                                       by_cases e : k = j
                                       · rw [e]; exact ⟨(upd_s _ _ _).trans (congrArg mSo (upd_s _ _ _).symm), (upd_s _ _ _).trans (upd_s _ _ _).symm⟩
                                       · have hB := (C.book h hh).2 k hk
                                         exact ⟨(upd_n _ _ (by omega)).trans (hB.1.trans (congrArg mSo (upd_n _ _ e).symm)), (upd_n _ _ (by omega)).trans (hB.2.trans (upd_n _ _ e).symm)⟩) (fun x hx e k hk => by
                                       rw [z_up_s, z_up_n _ _ _ (by omega), z_up_s, z_up_n _ _ _ (by omega)]
                                       exact ⟨upd_n _ _ (by omega), upd_n _ _ (by omega)⟩) (fun k a => by rw [z_up_n _ _ _ (by omega), z_up_n _ _ _ (by omega)])
                                     exact zStpM.mk C1.1 C1.2 (by unfold sEnter; rw [if_neg n1, if_neg n2, aIx_in hh (by omega), if_pos hb, aIx_in hj (by omega)]) rfl)
                                  | (have ew : mSo w = w := if_neg b99
                                     rw [show z_up M 135 (10 * h + j) w = z_up M 135 (10 * h + j) (mSo w) by rw [ew]]
                                     have C1 := C.putB (M' := z_up (z_up M 135 (10 * h + j) (mSo w)) 136 (10 * h + j) v) hh (o := true) (n := A.ln h) (f := upd (A.so h) j w) (v := upd (A.va h) j v) (by rw [z_up_n _ _ _ (by omega), z_up_n _ _ _ (by omega)]; exact (C.book h hh).1.trans (if_pos hb)) (fun x hx e => by rw [z_up_n _ _ _ (by omega), z_up_n _ _ _ (by omega)]) (fun k hk => by
                                       rw [z_up_s, z_up_n _ _ _ (by omega), z_up_s, z_up_n _ _ _ (by omega)]
                                       by_cases e : k = j
                                       · rw [e]; exact ⟨(upd_s _ _ _).trans (congrArg mSo (upd_s _ _ _).symm), (upd_s _ _ _).trans (upd_s _ _ _).symm⟩
                                       · have hB := (C.book h hh).2 k hk
                                         exact ⟨(upd_n _ _ (by omega)).trans (hB.1.trans (congrArg mSo (upd_n _ _ e).symm)), (upd_n _ _ (by omega)).trans (hB.2.trans (upd_n _ _ e).symm)⟩) (fun x hx e k hk => by
                                       rw [z_up_s, z_up_n _ _ _ (by omega), z_up_s, z_up_n _ _ _ (by omega)]
                                       exact ⟨upd_n _ _ (by omega), upd_n _ _ (by omega)⟩) (fun k a => by rw [z_up_n _ _ _ (by omega), z_up_n _ _ _ (by omega)])
                                     exact zStpM.mk C1.1 C1.2 (by unfold sEnter; rw [if_neg n1, if_neg n2, aIx_in hh (by omega), if_pos hb, aIx_in hj (by omega)]) rfl)
                              · refine z_iconst (v := (-1)) dX12_enter_102 (by decide) ?_
                                refine z_goto (tgt := 107) dX12_enter_103 (by decide) ?_
                                refine z_iastN (j := (10 * h + j)) rfl (by omega) dX12_enter_107 k0_135 s0_135 ?_
                                refine z_aload_n dX12_enter_108 rfl ?_
                                refine z_getR (j := 11) (r := 136) kX12 lf_X12_35 (by decide) rfl dX12_enter_109 k0_127 s0_127 r0_127_11 (by decide) ?_
                                refine z_bipush (v := 10) dX12_enter_112 (by decide) ?_
                                refine z_iload_n dX12_enter_114 rfl ?_
                                refine z_imulN (a := 10) (b := h) rfl rfl dX12_enter_115 ?_
                                refine z_iload_n dX12_enter_116 rfl ?_
                                refine z_iaddN (a := (10 * h)) (b := j) rfl rfl dX12_enter_117 ?_
                                refine z_iload dX12_enter_118 rfl ?_
                                refine z_iastN (j := (10 * h + j)) rfl (by omega) dX12_enter_120 k0_136 s0_136 ?_
                                refine z_iconst (v := 1) dX12_enter_121 (by decide) ?_
                                refine z_iret dX12_enter_122 rfl zle ?_
                                first
                                  | (have ew : mSo w = -1 := if_pos b99
                                     rw [show (-1 : Int32) = mSo w from ew.symm]
                                     have C1 := C.putB (M' := z_up (z_up M 135 (10 * h + j) (mSo w)) 136 (10 * h + j) v) hh (o := true) (n := A.ln h) (f := upd (A.so h) j w) (v := upd (A.va h) j v) (by rw [z_up_n _ _ _ (by omega), z_up_n _ _ _ (by omega)]; exact (C.book h hh).1.trans (if_pos hb)) (fun x hx e => by rw [z_up_n _ _ _ (by omega), z_up_n _ _ _ (by omega)]) (fun k hk => by
                                       rw [z_up_s, z_up_n _ _ _ (by omega), z_up_s, z_up_n _ _ _ (by omega)]
                                       by_cases e : k = j
                                       · rw [e]; exact ⟨(upd_s _ _ _).trans (congrArg mSo (upd_s _ _ _).symm), (upd_s _ _ _).trans (upd_s _ _ _).symm⟩
                                       · have hB := (C.book h hh).2 k hk
                                         exact ⟨(upd_n _ _ (by omega)).trans (hB.1.trans (congrArg mSo (upd_n _ _ e).symm)), (upd_n _ _ (by omega)).trans (hB.2.trans (upd_n _ _ e).symm)⟩) (fun x hx e k hk => by
                                       rw [z_up_s, z_up_n _ _ _ (by omega), z_up_s, z_up_n _ _ _ (by omega)]
                                       exact ⟨upd_n _ _ (by omega), upd_n _ _ (by omega)⟩) (fun k a => by rw [z_up_n _ _ _ (by omega), z_up_n _ _ _ (by omega)])
                                     exact zStpM.mk C1.1 C1.2 (by unfold sEnter; rw [if_neg n1, if_neg n2, aIx_in hh (by omega), if_pos hb, aIx_in hj (by omega)]) rfl)
                                  | (have ew : mSo w = w := if_neg b99
                                     rw [show z_up M 135 (10 * h + j) w = z_up M 135 (10 * h + j) (mSo w) by rw [ew]]
                                     have C1 := C.putB (M' := z_up (z_up M 135 (10 * h + j) (mSo w)) 136 (10 * h + j) v) hh (o := true) (n := A.ln h) (f := upd (A.so h) j w) (v := upd (A.va h) j v) (by rw [z_up_n _ _ _ (by omega), z_up_n _ _ _ (by omega)]; exact (C.book h hh).1.trans (if_pos hb)) (fun x hx e => by rw [z_up_n _ _ _ (by omega), z_up_n _ _ _ (by omega)]) (fun k hk => by
                                       rw [z_up_s, z_up_n _ _ _ (by omega), z_up_s, z_up_n _ _ _ (by omega)]
                                       by_cases e : k = j
                                       · rw [e]; exact ⟨(upd_s _ _ _).trans (congrArg mSo (upd_s _ _ _).symm), (upd_s _ _ _).trans (upd_s _ _ _).symm⟩
                                       · have hB := (C.book h hh).2 k hk
                                         exact ⟨(upd_n _ _ (by omega)).trans (hB.1.trans (congrArg mSo (upd_n _ _ e).symm)), (upd_n _ _ (by omega)).trans (hB.2.trans (upd_n _ _ e).symm)⟩) (fun x hx e k hk => by
                                       rw [z_up_s, z_up_n _ _ _ (by omega), z_up_s, z_up_n _ _ _ (by omega)]
                                       exact ⟨upd_n _ _ (by omega), upd_n _ _ (by omega)⟩) (fun k a => by rw [z_up_n _ _ _ (by omega), z_up_n _ _ _ (by omega)])
                                     exact zStpM.mk C1.1 C1.2 (by unfold sEnter; rw [if_neg n1, if_neg n2, aIx_in hh (by omega), if_pos hb, aIx_in hj (by omega)]) rfl)
                            · exact absurd b81 (by decide)
                          · rw [ea]
                            have hln10 := (ok.ln h hh).1
                            refine z_istore dX12_enter_77 (by decide) rfl rfl ?_
                            refine z_iload dX12_enter_79 rfl ?_
                            refine z_if_eq (tgt := 87) dX12_enter_81 (by decide) (fun b81 => ?_) (fun b81 => ?_)
                            · exact absurd b81 (by decide)
                            · refine z_iload dX12_enter_84 rfl ?_
                              refine z_iret dX12_enter_86 rfl zle ?_
                              first
                                | exact zStpM.of C (by unfold sEnter; rw [if_neg n1, if_neg n2, aIx_in hh (by omega), if_pos hb, aIx_out hy])
                                | exact zStpM.of C (by unfold sEnter; rw [if_neg n1, if_neg n2, aIx_in hh (by omega), if_neg hb])
                          · rw [ea]
                            refine z_istore dX12_enter_77 (by decide) rfl rfl ?_
                            refine z_iload dX12_enter_79 rfl ?_
                            refine z_if_eq (tgt := 87) dX12_enter_81 (by decide) (fun b81 => ?_) (fun b81 => ?_)
                            · exact absurd b81 (by decide)
                            · refine z_iload dX12_enter_84 rfl ?_
                              refine z_iret dX12_enter_86 rfl zle ?_
                              first
                                | exact zStpM.of C (by unfold sEnter; rw [if_neg n1, if_neg n2, aIx_in hh (by omega), if_pos hb, aIx_out hy])
                                | exact zStpM.of C (by unfold sEnter; rw [if_neg n1, if_neg n2, aIx_in hh (by omega), if_neg hb])
                        · exact absurd b65 (by decide)
                      · have d62 := fun z => c62 ((l_inn (a := -9999) (z := 9999) (by decide) (by decide)).mpr z)
                        refine z_if_ne (tgt := 71) dX12_enter_65 (by decide) (fun b65 => ?_) (fun b65 => ?_)
                        · exact absurd b65 (by decide)
                        · refine z_bipush (v := (-3)) dX12_enter_68 (by decide) ?_
                          refine z_iret dX12_enter_70 rfl zle ?_
                          exact zStpM.of C ((if_neg n1).trans (if_pos (by first | exact Or.inl (by by_cases z : w < 0; exact Or.inl z; exact Or.inr (Int32.not_le.mp (fun z2 => d43 ⟨Int32.not_lt.mp z, z2⟩))) | exact Or.inr ⟨b50, (by by_cases z : v < -9999; exact Or.inl z; exact Or.inr (Int32.not_le.mp (fun z2 => d62 ⟨Int32.not_lt.mp z, z2⟩)))⟩)))
                · have d43 := fun z => c43 ((l_inn (a := 0) (z := 3) (by decide) (by decide)).mpr z)
                  refine z_if_eq (tgt := 68) dX12_enter_46 (by decide) (fun b46 => ?_) (fun b46 => ?_)
                  · refine z_bipush (v := (-3)) dX12_enter_68 (by decide) ?_
                    refine z_iret dX12_enter_70 rfl zle ?_
                    exact zStpM.of C ((if_neg n1).trans (if_pos (by first | exact Or.inl (by by_cases z : w < 0; exact Or.inl z; exact Or.inr (Int32.not_le.mp (fun z2 => d43 ⟨Int32.not_lt.mp z, z2⟩))) | exact Or.inr ⟨b50, (by by_cases z : v < -9999; exact Or.inl z; exact Or.inr (Int32.not_le.mp (fun z2 => d62 ⟨Int32.not_lt.mp z, z2⟩)))⟩)))
                  · exact absurd b46 (by decide)
              · refine z_iload dX12_enter_26 rfl ?_
                refine z_iS1 (c_X12_isBook g l) mw_X12_isBook lm_X12_278 ms_X12_isBook (by decide) (Nat.le_of_ble_eq_true rfl) zle dX12_enter_28 (fun r28 M28 q28 => ?_)
                obtain ⟨qm28, qr28⟩ := q28
                obtain rfl := qm28.symm
                obtain ⟨c28, rfl⟩ | ⟨c28, rfl⟩ := qr28
                · refine z_if_ne (tgt := 37) dX12_enter_31 (by decide) (fun b31 => ?_) (fun b31 => ?_)
                  · have n1 : ¬ ((¬ (0 ≤ nI h ∧ nI h < 4)) ∨ (w = 1 ∧ ¬ (0 ≤ v ∧ v < nI A.n)) ∨ (w = 2 ∧ ¬ (0 ≤ v ∧ v < 4))) := fun z => z.elim (fun a => a (zInP (n := 4) hh (by omega))) (fun z => z.elim (fun a => by first | exact absurd a.1 b9 | exact a.2 c15) (fun a => by first | exact absurd a.1 b23 | exact a.2 (le3.mp c28)))
                    refine z_iload_n dX12_enter_37 rfl ?_
                    refine z_i2l dX12_enter_38 ?_
                    refine z_lconst (v := 0) dX12_enter_39 (by decide) ?_
                    refine z_ldc2 lc_X12_276 dX12_enter_40 ?_
                    refine z_iS3 (c_X12_in g l) mw_X12_in lm_X12_79 ms_X12_in (by decide) (Nat.le_of_ble_eq_true rfl) zle dX12_enter_43 (fun r43 M43 q43 => ?_)
                    obtain ⟨qm, qr⟩ := q43
                    obtain rfl := qm.symm
                    rcases qr with ⟨c43, rfl⟩ | ⟨c43, rfl⟩
                    · have d43 := (l_inn (a := 0) (z := 3) (by decide) (by decide)).mp c43
                      refine z_if_eq (tgt := 68) dX12_enter_46 (by decide) (fun b46 => ?_) (fun b46 => ?_)
                      · exact absurd b46 (by decide)
                      · refine z_iload_n dX12_enter_49 rfl ?_
                        refine z_if_ne (tgt := 71) dX12_enter_50 (by decide) (fun b50 => ?_) (fun b50 => ?_)
                        · have n2 : ¬ ((w < 0 ∨ 3 < w) ∨ (w = 0 ∧ (v < -9999 ∨ 9999 < v))) := fun z => z.elim (fun z => z.elim (Int32.not_lt.mpr d43.1) (Int32.not_lt.mpr d43.2)) (fun z => by first | exact absurd z.1 b50 | exact z.2.elim (Int32.not_lt.mpr d62.1) (Int32.not_lt.mpr d62.2))
                          refine z_aload_n dX12_enter_71 rfl ?_
                          refine z_iload_n dX12_enter_72 rfl ?_
                          refine z_iload_n dX12_enter_73 rfl ?_
                          refine z_iV2 (c_X12_noLine g l ok C hh) mw_X12_noLine lm_X12_285 mi_X12_noLine mv_X12_noLine kX12 (by decide) (Nat.le_of_ble_eq_true rfl) zle k0_127 s0_127 dX12_enter_74 (fun r74 M74 q74 => ?_)
                          obtain ⟨qr74, qm74⟩ := q74
                          obtain rfl := qr74.symm
                          obtain rfl := qm74.symm
                          rcases aNo_c A h y with ⟨hb, hy, ea⟩ | ⟨hb, hy, ea⟩ | ⟨hb, ea⟩
                          · rw [ea]
                            obtain ⟨j, hj, rfl⟩ := (zInD y (n := A.ln h) (by have := (ok.ln h hh).1; omega)).resolve_right (fun z => z hy)
                            have hln10 := (ok.ln h hh).1
                            have hj10 : j < 10 := by omega
                            refine z_istore dX12_enter_77 (by decide) rfl rfl ?_
                            refine z_iload dX12_enter_79 rfl ?_
                            refine z_if_eq (tgt := 87) dX12_enter_81 (by decide) (fun b81 => ?_) (fun b81 => ?_)
                            · refine z_aload_n dX12_enter_87 rfl ?_
                              refine z_getR (j := 10) (r := 135) kX12 lf_X12_32 (by decide) rfl dX12_enter_88 k0_127 s0_127 r0_127_10 (by decide) ?_
                              refine z_bipush (v := 10) dX12_enter_91 (by decide) ?_
                              refine z_iload_n dX12_enter_93 rfl ?_
                              refine z_imulN (a := 10) (b := h) rfl rfl dX12_enter_94 ?_
                              refine z_iload_n dX12_enter_95 rfl ?_
                              refine z_iaddN (a := (10 * h)) (b := j) rfl rfl dX12_enter_96 ?_
                              
                              refine z_iload_n dX12_enter_97 rfl ?_
                              refine z_iconst (v := 3) dX12_enter_98 (by decide) ?_
                              refine z_icmp_ne (tgt := 106) dX12_enter_99 (by decide) (fun b99 => ?_) (fun b99 => ?_)
                              · refine z_iload_n dX12_enter_106 rfl ?_
                                refine z_iastN (j := (10 * h + j)) rfl (by omega) dX12_enter_107 k0_135 s0_135 ?_
                                refine z_aload_n dX12_enter_108 rfl ?_
                                refine z_getR (j := 11) (r := 136) kX12 lf_X12_35 (by decide) rfl dX12_enter_109 k0_127 s0_127 r0_127_11 (by decide) ?_
                                refine z_bipush (v := 10) dX12_enter_112 (by decide) ?_
                                refine z_iload_n dX12_enter_114 rfl ?_
                                refine z_imulN (a := 10) (b := h) rfl rfl dX12_enter_115 ?_
                                refine z_iload_n dX12_enter_116 rfl ?_
                                refine z_iaddN (a := (10 * h)) (b := j) rfl rfl dX12_enter_117 ?_
                                refine z_iload dX12_enter_118 rfl ?_
                                refine z_iastN (j := (10 * h + j)) rfl (by omega) dX12_enter_120 k0_136 s0_136 ?_
                                refine z_iconst (v := 1) dX12_enter_121 (by decide) ?_
                                refine z_iret dX12_enter_122 rfl zle ?_
                                first
                                  | (have ew : mSo w = -1 := if_pos b99
                                     rw [show (-1 : Int32) = mSo w from ew.symm]
                                     have C1 := C.putB (M' := z_up (z_up M 135 (10 * h + j) (mSo w)) 136 (10 * h + j) v) hh (o := true) (n := A.ln h) (f := upd (A.so h) j w) (v := upd (A.va h) j v) (by rw [z_up_n _ _ _ (by omega), z_up_n _ _ _ (by omega)]; exact (C.book h hh).1.trans (if_pos hb)) (fun x hx e => by rw [z_up_n _ _ _ (by omega), z_up_n _ _ _ (by omega)]) (fun k hk => by
                                       rw [z_up_s, z_up_n _ _ _ (by omega), z_up_s, z_up_n _ _ _ (by omega)]
                                       by_cases e : k = j
                                       · rw [e]; exact ⟨(upd_s _ _ _).trans (congrArg mSo (upd_s _ _ _).symm), (upd_s _ _ _).trans (upd_s _ _ _).symm⟩
                                       · have hB := (C.book h hh).2 k hk
                                         exact ⟨(upd_n _ _ (by omega)).trans (hB.1.trans (congrArg mSo (upd_n _ _ e).symm)), (upd_n _ _ (by omega)).trans (hB.2.trans (upd_n _ _ e).symm)⟩) (fun x hx e k hk => by
                                       rw [z_up_s, z_up_n _ _ _ (by omega), z_up_s, z_up_n _ _ _ (by omega)]
                                       exact ⟨upd_n _ _ (by omega), upd_n _ _ (by omega)⟩) (fun k a => by rw [z_up_n _ _ _ (by omega), z_up_n _ _ _ (by omega)])
                                     exact zStpM.mk C1.1 C1.2 (by unfold sEnter; rw [if_neg n1, if_neg n2, aIx_in hh (by omega), if_pos hb, aIx_in hj (by omega)]) rfl)
                                  | (have ew : mSo w = w := if_neg b99
                                     rw [show z_up M 135 (10 * h + j) w = z_up M 135 (10 * h + j) (mSo w) by rw [ew]]
                                     have C1 := C.putB (M' := z_up (z_up M 135 (10 * h + j) (mSo w)) 136 (10 * h + j) v) hh (o := true) (n := A.ln h) (f := upd (A.so h) j w) (v := upd (A.va h) j v) (by rw [z_up_n _ _ _ (by omega), z_up_n _ _ _ (by omega)]; exact (C.book h hh).1.trans (if_pos hb)) (fun x hx e => by rw [z_up_n _ _ _ (by omega), z_up_n _ _ _ (by omega)]) (fun k hk => by
                                       rw [z_up_s, z_up_n _ _ _ (by omega), z_up_s, z_up_n _ _ _ (by omega)]
                                       by_cases e : k = j
                                       · rw [e]; exact ⟨(upd_s _ _ _).trans (congrArg mSo (upd_s _ _ _).symm), (upd_s _ _ _).trans (upd_s _ _ _).symm⟩
                                       · have hB := (C.book h hh).2 k hk
                                         exact ⟨(upd_n _ _ (by omega)).trans (hB.1.trans (congrArg mSo (upd_n _ _ e).symm)), (upd_n _ _ (by omega)).trans (hB.2.trans (upd_n _ _ e).symm)⟩) (fun x hx e k hk => by
                                       rw [z_up_s, z_up_n _ _ _ (by omega), z_up_s, z_up_n _ _ _ (by omega)]
                                       exact ⟨upd_n _ _ (by omega), upd_n _ _ (by omega)⟩) (fun k a => by rw [z_up_n _ _ _ (by omega), z_up_n _ _ _ (by omega)])
                                     exact zStpM.mk C1.1 C1.2 (by unfold sEnter; rw [if_neg n1, if_neg n2, aIx_in hh (by omega), if_pos hb, aIx_in hj (by omega)]) rfl)
                              · refine z_iconst (v := (-1)) dX12_enter_102 (by decide) ?_
                                refine z_goto (tgt := 107) dX12_enter_103 (by decide) ?_
                                refine z_iastN (j := (10 * h + j)) rfl (by omega) dX12_enter_107 k0_135 s0_135 ?_
                                refine z_aload_n dX12_enter_108 rfl ?_
                                refine z_getR (j := 11) (r := 136) kX12 lf_X12_35 (by decide) rfl dX12_enter_109 k0_127 s0_127 r0_127_11 (by decide) ?_
                                refine z_bipush (v := 10) dX12_enter_112 (by decide) ?_
                                refine z_iload_n dX12_enter_114 rfl ?_
                                refine z_imulN (a := 10) (b := h) rfl rfl dX12_enter_115 ?_
                                refine z_iload_n dX12_enter_116 rfl ?_
                                refine z_iaddN (a := (10 * h)) (b := j) rfl rfl dX12_enter_117 ?_
                                refine z_iload dX12_enter_118 rfl ?_
                                refine z_iastN (j := (10 * h + j)) rfl (by omega) dX12_enter_120 k0_136 s0_136 ?_
                                refine z_iconst (v := 1) dX12_enter_121 (by decide) ?_
                                refine z_iret dX12_enter_122 rfl zle ?_
                                first
                                  | (have ew : mSo w = -1 := if_pos b99
                                     rw [show (-1 : Int32) = mSo w from ew.symm]
                                     have C1 := C.putB (M' := z_up (z_up M 135 (10 * h + j) (mSo w)) 136 (10 * h + j) v) hh (o := true) (n := A.ln h) (f := upd (A.so h) j w) (v := upd (A.va h) j v) (by rw [z_up_n _ _ _ (by omega), z_up_n _ _ _ (by omega)]; exact (C.book h hh).1.trans (if_pos hb)) (fun x hx e => by rw [z_up_n _ _ _ (by omega), z_up_n _ _ _ (by omega)]) (fun k hk => by
                                       rw [z_up_s, z_up_n _ _ _ (by omega), z_up_s, z_up_n _ _ _ (by omega)]
                                       by_cases e : k = j
                                       · rw [e]; exact ⟨(upd_s _ _ _).trans (congrArg mSo (upd_s _ _ _).symm), (upd_s _ _ _).trans (upd_s _ _ _).symm⟩
                                       · have hB := (C.book h hh).2 k hk
                                         exact ⟨(upd_n _ _ (by omega)).trans (hB.1.trans (congrArg mSo (upd_n _ _ e).symm)), (upd_n _ _ (by omega)).trans (hB.2.trans (upd_n _ _ e).symm)⟩) (fun x hx e k hk => by
                                       rw [z_up_s, z_up_n _ _ _ (by omega), z_up_s, z_up_n _ _ _ (by omega)]
                                       exact ⟨upd_n _ _ (by omega), upd_n _ _ (by omega)⟩) (fun k a => by rw [z_up_n _ _ _ (by omega), z_up_n _ _ _ (by omega)])
                                     exact zStpM.mk C1.1 C1.2 (by unfold sEnter; rw [if_neg n1, if_neg n2, aIx_in hh (by omega), if_pos hb, aIx_in hj (by omega)]) rfl)
                                  | (have ew : mSo w = w := if_neg b99
                                     rw [show z_up M 135 (10 * h + j) w = z_up M 135 (10 * h + j) (mSo w) by rw [ew]]
                                     have C1 := C.putB (M' := z_up (z_up M 135 (10 * h + j) (mSo w)) 136 (10 * h + j) v) hh (o := true) (n := A.ln h) (f := upd (A.so h) j w) (v := upd (A.va h) j v) (by rw [z_up_n _ _ _ (by omega), z_up_n _ _ _ (by omega)]; exact (C.book h hh).1.trans (if_pos hb)) (fun x hx e => by rw [z_up_n _ _ _ (by omega), z_up_n _ _ _ (by omega)]) (fun k hk => by
                                       rw [z_up_s, z_up_n _ _ _ (by omega), z_up_s, z_up_n _ _ _ (by omega)]
                                       by_cases e : k = j
                                       · rw [e]; exact ⟨(upd_s _ _ _).trans (congrArg mSo (upd_s _ _ _).symm), (upd_s _ _ _).trans (upd_s _ _ _).symm⟩
                                       · have hB := (C.book h hh).2 k hk
                                         exact ⟨(upd_n _ _ (by omega)).trans (hB.1.trans (congrArg mSo (upd_n _ _ e).symm)), (upd_n _ _ (by omega)).trans (hB.2.trans (upd_n _ _ e).symm)⟩) (fun x hx e k hk => by
                                       rw [z_up_s, z_up_n _ _ _ (by omega), z_up_s, z_up_n _ _ _ (by omega)]
                                       exact ⟨upd_n _ _ (by omega), upd_n _ _ (by omega)⟩) (fun k a => by rw [z_up_n _ _ _ (by omega), z_up_n _ _ _ (by omega)])
                                     exact zStpM.mk C1.1 C1.2 (by unfold sEnter; rw [if_neg n1, if_neg n2, aIx_in hh (by omega), if_pos hb, aIx_in hj (by omega)]) rfl)
                            · exact absurd b81 (by decide)
                          · rw [ea]
                            have hln10 := (ok.ln h hh).1
                            refine z_istore dX12_enter_77 (by decide) rfl rfl ?_
                            refine z_iload dX12_enter_79 rfl ?_
                            refine z_if_eq (tgt := 87) dX12_enter_81 (by decide) (fun b81 => ?_) (fun b81 => ?_)
                            · exact absurd b81 (by decide)
                            · refine z_iload dX12_enter_84 rfl ?_
                              refine z_iret dX12_enter_86 rfl zle ?_
                              first
                                | exact zStpM.of C (by unfold sEnter; rw [if_neg n1, if_neg n2, aIx_in hh (by omega), if_pos hb, aIx_out hy])
                                | exact zStpM.of C (by unfold sEnter; rw [if_neg n1, if_neg n2, aIx_in hh (by omega), if_neg hb])
                          · rw [ea]
                            refine z_istore dX12_enter_77 (by decide) rfl rfl ?_
                            refine z_iload dX12_enter_79 rfl ?_
                            refine z_if_eq (tgt := 87) dX12_enter_81 (by decide) (fun b81 => ?_) (fun b81 => ?_)
                            · exact absurd b81 (by decide)
                            · refine z_iload dX12_enter_84 rfl ?_
                              refine z_iret dX12_enter_86 rfl zle ?_
                              first
                                | exact zStpM.of C (by unfold sEnter; rw [if_neg n1, if_neg n2, aIx_in hh (by omega), if_pos hb, aIx_out hy])
                                | exact zStpM.of C (by unfold sEnter; rw [if_neg n1, if_neg n2, aIx_in hh (by omega), if_neg hb])
                        · refine z_iload dX12_enter_53 rfl ?_
                          refine z_i2l dX12_enter_55 ?_
                          refine z_ldc2 lc_X12_281 dX12_enter_56 ?_
                          refine z_ldc2 lc_X12_283 dX12_enter_59 ?_
                          refine z_iS3 (c_X12_in g l) mw_X12_in lm_X12_79 ms_X12_in (by decide) (Nat.le_of_ble_eq_true rfl) zle dX12_enter_62 (fun r62 M62 q62 => ?_)
                          obtain ⟨qm, qr⟩ := q62
                          obtain rfl := qm.symm
                          rcases qr with ⟨c62, rfl⟩ | ⟨c62, rfl⟩
                          · have d62 := (l_inn (a := -9999) (z := 9999) (by decide) (by decide)).mp c62
                            refine z_if_ne (tgt := 71) dX12_enter_65 (by decide) (fun b65 => ?_) (fun b65 => ?_)
                            · have n2 : ¬ ((w < 0 ∨ 3 < w) ∨ (w = 0 ∧ (v < -9999 ∨ 9999 < v))) := fun z => z.elim (fun z => z.elim (Int32.not_lt.mpr d43.1) (Int32.not_lt.mpr d43.2)) (fun z => by first | exact absurd z.1 b50 | exact z.2.elim (Int32.not_lt.mpr d62.1) (Int32.not_lt.mpr d62.2))
                              refine z_aload_n dX12_enter_71 rfl ?_
                              refine z_iload_n dX12_enter_72 rfl ?_
                              refine z_iload_n dX12_enter_73 rfl ?_
                              refine z_iV2 (c_X12_noLine g l ok C hh) mw_X12_noLine lm_X12_285 mi_X12_noLine mv_X12_noLine kX12 (by decide) (Nat.le_of_ble_eq_true rfl) zle k0_127 s0_127 dX12_enter_74 (fun r74 M74 q74 => ?_)
                              obtain ⟨qr74, qm74⟩ := q74
                              obtain rfl := qr74.symm
                              obtain rfl := qm74.symm
                              rcases aNo_c A h y with ⟨hb, hy, ea⟩ | ⟨hb, hy, ea⟩ | ⟨hb, ea⟩
                              · rw [ea]
                                obtain ⟨j, hj, rfl⟩ := (zInD y (n := A.ln h) (by have := (ok.ln h hh).1; omega)).resolve_right (fun z => z hy)
                                have hln10 := (ok.ln h hh).1
                                have hj10 : j < 10 := by omega
                                refine z_istore dX12_enter_77 (by decide) rfl rfl ?_
                                refine z_iload dX12_enter_79 rfl ?_
                                refine z_if_eq (tgt := 87) dX12_enter_81 (by decide) (fun b81 => ?_) (fun b81 => ?_)
                                · refine z_aload_n dX12_enter_87 rfl ?_
                                  refine z_getR (j := 10) (r := 135) kX12 lf_X12_32 (by decide) rfl dX12_enter_88 k0_127 s0_127 r0_127_10 (by decide) ?_
                                  refine z_bipush (v := 10) dX12_enter_91 (by decide) ?_
                                  refine z_iload_n dX12_enter_93 rfl ?_
                                  refine z_imulN (a := 10) (b := h) rfl rfl dX12_enter_94 ?_
                                  refine z_iload_n dX12_enter_95 rfl ?_
                                  refine z_iaddN (a := (10 * h)) (b := j) rfl rfl dX12_enter_96 ?_
                                  
                                  refine z_iload_n dX12_enter_97 rfl ?_
                                  refine z_iconst (v := 3) dX12_enter_98 (by decide) ?_
                                  refine z_icmp_ne (tgt := 106) dX12_enter_99 (by decide) (fun b99 => ?_) (fun b99 => ?_)
                                  · refine z_iload_n dX12_enter_106 rfl ?_
                                    refine z_iastN (j := (10 * h + j)) rfl (by omega) dX12_enter_107 k0_135 s0_135 ?_
                                    refine z_aload_n dX12_enter_108 rfl ?_
                                    refine z_getR (j := 11) (r := 136) kX12 lf_X12_35 (by decide) rfl dX12_enter_109 k0_127 s0_127 r0_127_11 (by decide) ?_
                                    refine z_bipush (v := 10) dX12_enter_112 (by decide) ?_
                                    refine z_iload_n dX12_enter_114 rfl ?_
                                    refine z_imulN (a := 10) (b := h) rfl rfl dX12_enter_115 ?_
                                    refine z_iload_n dX12_enter_116 rfl ?_
                                    refine z_iaddN (a := (10 * h)) (b := j) rfl rfl dX12_enter_117 ?_
                                    refine z_iload dX12_enter_118 rfl ?_
                                    refine z_iastN (j := (10 * h + j)) rfl (by omega) dX12_enter_120 k0_136 s0_136 ?_
                                    refine z_iconst (v := 1) dX12_enter_121 (by decide) ?_
                                    refine z_iret dX12_enter_122 rfl zle ?_
                                    first
                                      | (have ew : mSo w = -1 := if_pos b99
                                         rw [show (-1 : Int32) = mSo w from ew.symm]
                                         have C1 := C.putB (M' := z_up (z_up M 135 (10 * h + j) (mSo w)) 136 (10 * h + j) v) hh (o := true) (n := A.ln h) (f := upd (A.so h) j w) (v := upd (A.va h) j v) (by rw [z_up_n _ _ _ (by omega), z_up_n _ _ _ (by omega)]; exact (C.book h hh).1.trans (if_pos hb)) (fun x hx e => by rw [z_up_n _ _ _ (by omega), z_up_n _ _ _ (by omega)]) (fun k hk => by
                                           rw [z_up_s, z_up_n _ _ _ (by omega), z_up_s, z_up_n _ _ _ (by omega)]
                                           by_cases e : k = j
                                           · rw [e]; exact ⟨(upd_s _ _ _).trans (congrArg mSo (upd_s _ _ _).symm), (upd_s _ _ _).trans (upd_s _ _ _).symm⟩
                                           · have hB := (C.book h hh).2 k hk
                                             exact ⟨(upd_n _ _ (by omega)).trans (hB.1.trans (congrArg mSo (upd_n _ _ e).symm)), (upd_n _ _ (by omega)).trans (hB.2.trans (upd_n _ _ e).symm)⟩) (fun x hx e k hk => by
                                           rw [z_up_s, z_up_n _ _ _ (by omega), z_up_s, z_up_n _ _ _ (by omega)]
                                           exact ⟨upd_n _ _ (by omega), upd_n _ _ (by omega)⟩) (fun k a => by rw [z_up_n _ _ _ (by omega), z_up_n _ _ _ (by omega)])
                                         exact zStpM.mk C1.1 C1.2 (by unfold sEnter; rw [if_neg n1, if_neg n2, aIx_in hh (by omega), if_pos hb, aIx_in hj (by omega)]) rfl)
                                      | (have ew : mSo w = w := if_neg b99
                                         rw [show z_up M 135 (10 * h + j) w = z_up M 135 (10 * h + j) (mSo w) by rw [ew]]
                                         have C1 := C.putB (M' := z_up (z_up M 135 (10 * h + j) (mSo w)) 136 (10 * h + j) v) hh (o := true) (n := A.ln h) (f := upd (A.so h) j w) (v := upd (A.va h) j v) (by rw [z_up_n _ _ _ (by omega), z_up_n _ _ _ (by omega)]; exact (C.book h hh).1.trans (if_pos hb)) (fun x hx e => by rw [z_up_n _ _ _ (by omega), z_up_n _ _ _ (by omega)]) (fun k hk => by
                                           rw [z_up_s, z_up_n _ _ _ (by omega), z_up_s, z_up_n _ _ _ (by omega)]
                                           by_cases e : k = j
                                           · rw [e]; exact ⟨(upd_s _ _ _).trans (congrArg mSo (upd_s _ _ _).symm), (upd_s _ _ _).trans (upd_s _ _ _).symm⟩
                                           · have hB := (C.book h hh).2 k hk
                                             exact ⟨(upd_n _ _ (by omega)).trans (hB.1.trans (congrArg mSo (upd_n _ _ e).symm)), (upd_n _ _ (by omega)).trans (hB.2.trans (upd_n _ _ e).symm)⟩) (fun x hx e k hk => by
                                           rw [z_up_s, z_up_n _ _ _ (by omega), z_up_s, z_up_n _ _ _ (by omega)]
                                           exact ⟨upd_n _ _ (by omega), upd_n _ _ (by omega)⟩) (fun k a => by rw [z_up_n _ _ _ (by omega), z_up_n _ _ _ (by omega)])
                                         exact zStpM.mk C1.1 C1.2 (by unfold sEnter; rw [if_neg n1, if_neg n2, aIx_in hh (by omega), if_pos hb, aIx_in hj (by omega)]) rfl)
                                  · refine z_iconst (v := (-1)) dX12_enter_102 (by decide) ?_
                                    refine z_goto (tgt := 107) dX12_enter_103 (by decide) ?_
                                    refine z_iastN (j := (10 * h + j)) rfl (by omega) dX12_enter_107 k0_135 s0_135 ?_
                                    refine z_aload_n dX12_enter_108 rfl ?_
                                    refine z_getR (j := 11) (r := 136) kX12 lf_X12_35 (by decide) rfl dX12_enter_109 k0_127 s0_127 r0_127_11 (by decide) ?_
                                    refine z_bipush (v := 10) dX12_enter_112 (by decide) ?_
                                    refine z_iload_n dX12_enter_114 rfl ?_
                                    refine z_imulN (a := 10) (b := h) rfl rfl dX12_enter_115 ?_
                                    refine z_iload_n dX12_enter_116 rfl ?_
                                    refine z_iaddN (a := (10 * h)) (b := j) rfl rfl dX12_enter_117 ?_
                                    refine z_iload dX12_enter_118 rfl ?_
                                    refine z_iastN (j := (10 * h + j)) rfl (by omega) dX12_enter_120 k0_136 s0_136 ?_
                                    refine z_iconst (v := 1) dX12_enter_121 (by decide) ?_
                                    refine z_iret dX12_enter_122 rfl zle ?_
                                    first
                                      | (have ew : mSo w = -1 := if_pos b99
                                         rw [show (-1 : Int32) = mSo w from ew.symm]
                                         have C1 := C.putB (M' := z_up (z_up M 135 (10 * h + j) (mSo w)) 136 (10 * h + j) v) hh (o := true) (n := A.ln h) (f := upd (A.so h) j w) (v := upd (A.va h) j v) (by rw [z_up_n _ _ _ (by omega), z_up_n _ _ _ (by omega)]; exact (C.book h hh).1.trans (if_pos hb)) (fun x hx e => by rw [z_up_n _ _ _ (by omega), z_up_n _ _ _ (by omega)]) (fun k hk => by
                                           rw [z_up_s, z_up_n _ _ _ (by omega), z_up_s, z_up_n _ _ _ (by omega)]
                                           by_cases e : k = j
                                           · rw [e]; exact ⟨(upd_s _ _ _).trans (congrArg mSo (upd_s _ _ _).symm), (upd_s _ _ _).trans (upd_s _ _ _).symm⟩
                                           · have hB := (C.book h hh).2 k hk
                                             exact ⟨(upd_n _ _ (by omega)).trans (hB.1.trans (congrArg mSo (upd_n _ _ e).symm)), (upd_n _ _ (by omega)).trans (hB.2.trans (upd_n _ _ e).symm)⟩) (fun x hx e k hk => by
                                           rw [z_up_s, z_up_n _ _ _ (by omega), z_up_s, z_up_n _ _ _ (by omega)]
                                           exact ⟨upd_n _ _ (by omega), upd_n _ _ (by omega)⟩) (fun k a => by rw [z_up_n _ _ _ (by omega), z_up_n _ _ _ (by omega)])
                                         exact zStpM.mk C1.1 C1.2 (by unfold sEnter; rw [if_neg n1, if_neg n2, aIx_in hh (by omega), if_pos hb, aIx_in hj (by omega)]) rfl)
                                      | (have ew : mSo w = w := if_neg b99
                                         rw [show z_up M 135 (10 * h + j) w = z_up M 135 (10 * h + j) (mSo w) by rw [ew]]
                                         have C1 := C.putB (M' := z_up (z_up M 135 (10 * h + j) (mSo w)) 136 (10 * h + j) v) hh (o := true) (n := A.ln h) (f := upd (A.so h) j w) (v := upd (A.va h) j v) (by rw [z_up_n _ _ _ (by omega), z_up_n _ _ _ (by omega)]; exact (C.book h hh).1.trans (if_pos hb)) (fun x hx e => by rw [z_up_n _ _ _ (by omega), z_up_n _ _ _ (by omega)]) (fun k hk => by
                                           rw [z_up_s, z_up_n _ _ _ (by omega), z_up_s, z_up_n _ _ _ (by omega)]
                                           by_cases e : k = j
                                           · rw [e]; exact ⟨(upd_s _ _ _).trans (congrArg mSo (upd_s _ _ _).symm), (upd_s _ _ _).trans (upd_s _ _ _).symm⟩
                                           · have hB := (C.book h hh).2 k hk
                                             exact ⟨(upd_n _ _ (by omega)).trans (hB.1.trans (congrArg mSo (upd_n _ _ e).symm)), (upd_n _ _ (by omega)).trans (hB.2.trans (upd_n _ _ e).symm)⟩) (fun x hx e k hk => by
                                           rw [z_up_s, z_up_n _ _ _ (by omega), z_up_s, z_up_n _ _ _ (by omega)]
                                           exact ⟨upd_n _ _ (by omega), upd_n _ _ (by omega)⟩) (fun k a => by rw [z_up_n _ _ _ (by omega), z_up_n _ _ _ (by omega)])
                                         exact zStpM.mk C1.1 C1.2 (by unfold sEnter; rw [if_neg n1, if_neg n2, aIx_in hh (by omega), if_pos hb, aIx_in hj (by omega)]) rfl)
                                · exact absurd b81 (by decide)
                              · rw [ea]
                                have hln10 := (ok.ln h hh).1
                                refine z_istore dX12_enter_77 (by decide) rfl rfl ?_
                                refine z_iload dX12_enter_79 rfl ?_
                                refine z_if_eq (tgt := 87) dX12_enter_81 (by decide) (fun b81 => ?_) (fun b81 => ?_)
                                · exact absurd b81 (by decide)
                                · refine z_iload dX12_enter_84 rfl ?_
                                  refine z_iret dX12_enter_86 rfl zle ?_
                                  first
                                    | exact zStpM.of C (by unfold sEnter; rw [if_neg n1, if_neg n2, aIx_in hh (by omega), if_pos hb, aIx_out hy])
                                    | exact zStpM.of C (by unfold sEnter; rw [if_neg n1, if_neg n2, aIx_in hh (by omega), if_neg hb])
                              · rw [ea]
                                refine z_istore dX12_enter_77 (by decide) rfl rfl ?_
                                refine z_iload dX12_enter_79 rfl ?_
                                refine z_if_eq (tgt := 87) dX12_enter_81 (by decide) (fun b81 => ?_) (fun b81 => ?_)
                                · exact absurd b81 (by decide)
                                · refine z_iload dX12_enter_84 rfl ?_
                                  refine z_iret dX12_enter_86 rfl zle ?_
                                  first
                                    | exact zStpM.of C (by unfold sEnter; rw [if_neg n1, if_neg n2, aIx_in hh (by omega), if_pos hb, aIx_out hy])
                                    | exact zStpM.of C (by unfold sEnter; rw [if_neg n1, if_neg n2, aIx_in hh (by omega), if_neg hb])
                            · exact absurd b65 (by decide)
                          · have d62 := fun z => c62 ((l_inn (a := -9999) (z := 9999) (by decide) (by decide)).mpr z)
                            refine z_if_ne (tgt := 71) dX12_enter_65 (by decide) (fun b65 => ?_) (fun b65 => ?_)
                            · exact absurd b65 (by decide)
                            · refine z_bipush (v := (-3)) dX12_enter_68 (by decide) ?_
                              refine z_iret dX12_enter_70 rfl zle ?_
                              exact zStpM.of C ((if_neg n1).trans (if_pos (by first | exact Or.inl (by by_cases z : w < 0; exact Or.inl z; exact Or.inr (Int32.not_le.mp (fun z2 => d43 ⟨Int32.not_lt.mp z, z2⟩))) | exact Or.inr ⟨b50, (by by_cases z : v < -9999; exact Or.inl z; exact Or.inr (Int32.not_le.mp (fun z2 => d62 ⟨Int32.not_lt.mp z, z2⟩)))⟩)))
                    · have d43 := fun z => c43 ((l_inn (a := 0) (z := 3) (by decide) (by decide)).mpr z)
                      refine z_if_eq (tgt := 68) dX12_enter_46 (by decide) (fun b46 => ?_) (fun b46 => ?_)
                      · refine z_bipush (v := (-3)) dX12_enter_68 (by decide) ?_
                        refine z_iret dX12_enter_70 rfl zle ?_
                        exact zStpM.of C ((if_neg n1).trans (if_pos (by first | exact Or.inl (by by_cases z : w < 0; exact Or.inl z; exact Or.inr (Int32.not_le.mp (fun z2 => d43 ⟨Int32.not_lt.mp z, z2⟩))) | exact Or.inr ⟨b50, (by by_cases z : v < -9999; exact Or.inl z; exact Or.inr (Int32.not_le.mp (fun z2 => d62 ⟨Int32.not_lt.mp z, z2⟩)))⟩)))
                      · exact absurd b46 (by decide)
                  · exact absurd b31 (by decide)
                · refine z_if_ne (tgt := 37) dX12_enter_31 (by decide) (fun b31 => ?_) (fun b31 => ?_)
                  · exact absurd b31 (by decide)
                  · refine z_bipush (v := (-2)) dX12_enter_34 (by decide) ?_
                    refine z_iret dX12_enter_36 rfl zle ?_
                    exact zStpM.of C (if_pos (by first | exact Or.inr (Or.inr ⟨b23, fun z => c28 (le3.mpr z)⟩) | exact Or.inr (Or.inl ⟨b9, c15⟩)))
          · refine z_if_eq (tgt := 34) dX12_enter_18 (by decide) (fun b18 => ?_) (fun b18 => ?_)
            · refine z_bipush (v := (-2)) dX12_enter_34 (by decide) ?_
              refine z_iret dX12_enter_36 rfl zle ?_
              exact zStpM.of C (if_pos (by first | exact Or.inr (Or.inr ⟨b23, fun z => c28 (le3.mpr z)⟩) | exact Or.inr (Or.inl ⟨b9, c15⟩)))
            · exact absurd b18 (by decide)
    · exact absurd (le3.mpr (zInP (n := 4) hh (by omega))) c1
  · refine zMet.of (by decide) (Nat.le_of_ble_eq_true rfl) ?_
    refine z_iload_n dX12_enter_0 rfl ?_
    refine z_iS1 (c_X12_isBook g l) mw_X12_isBook lm_X12_278 ms_X12_isBook (by decide) (Nat.le_of_ble_eq_true rfl) zle dX12_enter_1 (fun r1 M1 q1 => ?_)
    obtain ⟨qm1, qr1⟩ := q1
    obtain rfl := qm1.symm
    obtain ⟨c1, rfl⟩ | ⟨c1, rfl⟩ := qr1
    · exact absurd (le3.mp c1) hx
    · refine z_if_eq (tgt := 34) dX12_enter_4 (by decide) (fun b4 => ?_) (fun b4 => ?_)
      · refine z_bipush (v := (-2)) dX12_enter_34 (by decide) ?_
        refine z_iret dX12_enter_36 rfl zle ?_
        exact zStpM.of C (if_pos (Or.inl hx))
      · exact absurd b4 (by decide)

set_option maxRecDepth 100000 in
set_option maxHeartbeats 4000000 in
theorem c_X12_read (g : zG) (l : Launch) {M : zM} {A : aSt} (ok : aOK A) (C : RelM M A) {x y w : Int32} : zMet g l yX12_read cX12_read 6 (some .int) 2 0 0 [.ref 127, .int x, .int y, .int w] S0 M (zQi (fun r' M' => zAnsM M A (aRead A x y w) r' M')) := by
  have n8 : A.n ≤ 8 := ok.s.1.1
  have r4 : A.r ≤ 4 := ok.s.1.2.1
  have i6 : A.i ≤ 6 := ok.s.1.2.2.1
  have u8 : A.u ≤ 8 := ok.u
  rcases zInD x (show 4 < 1000 by omega) with ⟨h, hh, rfl⟩ | hx
  · refine zMet.of (by decide) (Nat.le_of_ble_eq_true rfl) ?_
    refine z_iload_n dX12_read_0 rfl ?_
    refine z_iS1 (c_X12_isBook g l) mw_X12_isBook lm_X12_278 ms_X12_isBook (by decide) (Nat.le_of_ble_eq_true rfl) zle dX12_read_1 (fun r1 M1 q1 => ?_)
    obtain ⟨qm1, qr1⟩ := q1
    obtain rfl := qm1.symm
    obtain ⟨c1, rfl⟩ | ⟨c1, rfl⟩ := qr1
    · refine z_if_ne (tgt := 10) dX12_read_4 (by decide) (fun b4 => ?_) (fun b4 => ?_)
      · refine z_iload_n dX12_read_10 rfl ?_
        refine z_i2l dX12_read_11 ?_
        refine z_lconst (v := 0) dX12_read_12 (by decide) ?_
        refine z_ldc2 lc_X12_242 dX12_read_13 ?_
        refine z_iS3 (c_X12_in g l) mw_X12_in lm_X12_79 ms_X12_in (by decide) (Nat.le_of_ble_eq_true rfl) zle dX12_read_16 (fun r16 M16 q16 => ?_)
        obtain ⟨qm, qr⟩ := q16
        obtain rfl := qm.symm
        rcases qr with ⟨c16, rfl⟩ | ⟨c16, rfl⟩
        · have d16 := (l_inn (a := 0) (z := 2) (by decide) (by decide)).mp c16
          refine z_if_ne (tgt := 25) dX12_read_19 (by decide) (fun b19 => ?_) (fun b19 => ?_)
          · have bb : ¬ (w < 0 ∨ 2 < w) := fun z => z.elim (Int32.not_lt.mpr d16.1) (Int32.not_lt.mpr d16.2)
            refine z_aload_n dX12_read_25 rfl ?_
            refine z_iload_n dX12_read_26 rfl ?_
            refine z_iload_n dX12_read_27 rfl ?_
            refine z_iV2 (c_X12_noLine g l ok C hh) mw_X12_noLine lm_X12_285 mi_X12_noLine mv_X12_noLine kX12 (by decide) (Nat.le_of_ble_eq_true rfl) zle k0_127 s0_127 dX12_read_28 (fun r28 M28 q28 => ?_)
            obtain ⟨qr28, qm28⟩ := q28
            obtain rfl := qr28.symm
            obtain rfl := qm28.symm
            rcases aNo_c A h y with ⟨hb, hy, ea⟩ | ⟨hb, hy, ea⟩ | ⟨hb, ea⟩
            · rw [ea]
              obtain ⟨j, hj, rfl⟩ := (zInD y (n := A.ln h) (by have := (ok.ln h hh).1; omega)).resolve_right (fun z => z hy)
              have hln10 := (ok.ln h hh).1
              have hj10 : j < 10 := by omega
              have hs := mSo_ne (ok.so h hh j hj10).1
              have hw := hs.2 w d16.1 d16.2
              refine z_istore dX12_read_31 (by decide) rfl rfl ?_
              refine z_iload dX12_read_33 rfl ?_
              refine z_if_eq (tgt := 41) dX12_read_35 (by decide) (fun b35 => ?_) (fun b35 => ?_)
              · refine z_aload_n dX12_read_41 rfl ?_
                refine z_getR (j := 10) (r := 135) kX12 lf_X12_32 (by decide) rfl dX12_read_42 k0_127 s0_127 r0_127_10 (by decide) ?_
                refine z_bipush (v := 10) dX12_read_45 (by decide) ?_
                refine z_iload_n dX12_read_47 rfl ?_
                refine z_imulN (a := 10) (b := h) rfl rfl dX12_read_48 ?_
                refine z_iload_n dX12_read_49 rfl ?_
                refine z_iaddN (a := (10 * h)) (b := j) rfl rfl dX12_read_50 ?_
                refine z_ialdV (j := ((10 * h) + j)) rfl (by omega) ((C.book h (by omega)).2 j (by omega)).1 dX12_read_51 k0_135 s0_135 ?_
                refine z_istore dX12_read_52 (by decide) rfl rfl ?_
                refine z_iload dX12_read_54 rfl ?_
                refine z_iconst (v := (-1)) dX12_read_56 (by decide) ?_
                refine z_icmp_ne (tgt := 63) dX12_read_57 (by decide) (fun b57 => ?_) (fun b57 => ?_)
                · refine z_iload dX12_read_63 rfl ?_
                  refine z_iload_n dX12_read_65 rfl ?_
                  refine z_icmp_eq (tgt := 74) dX12_read_66 (by decide) (fun b66 => ?_) (fun b66 => ?_)
                  · refine z_iload_n dX12_read_74 rfl ?_
                    refine z_if_ne (tgt := 96) dX12_read_75 (by decide) (fun b75 => ?_) (fun b75 => ?_)
                    · refine z_aload_n dX12_read_96 rfl ?_
                      refine z_getR (j := 11) (r := 136) kX12 lf_X12_35 (by decide) rfl dX12_read_97 k0_127 s0_127 r0_127_11 (by decide) ?_
                      refine z_bipush (v := 10) dX12_read_100 (by decide) ?_
                      refine z_iload_n dX12_read_102 rfl ?_
                      refine z_imulN (a := 10) (b := h) rfl rfl dX12_read_103 ?_
                      refine z_iload_n dX12_read_104 rfl ?_
                      refine z_iaddN (a := (10 * h)) (b := j) rfl rfl dX12_read_105 ?_
                      refine z_ialdV (j := ((10 * h) + j)) rfl (by omega) ((C.book h (by omega)).2 j (by omega)).2 dX12_read_106 k0_136 s0_136 ?_
                      refine z_iret dX12_read_107 rfl zle ?_
                      first
                        | exact zAnsM.of C (by unfold aRead; rw [aIx_in hh (by omega), if_neg bb, if_pos hb, aIx_in hj (by omega)]; exact ((if_neg (fun z => b57 (hs.1.mpr z))).trans (if_neg (fun z => b66 (hw.mpr z)))).symm)
                        | exact zAnsM.of C (by unfold aRead; rw [aIx_in hh (by omega), if_neg bb, if_pos hb, aIx_in hj (by omega)]; exact ((if_neg (fun z => b57 (hs.1.mpr z))).trans ((if_pos (hw.mp b66)).trans (if_pos b75))).symm)
                        | exact zAnsM.of C (by unfold aRead; rw [aIx_in hh (by omega), if_neg bb, if_pos hb, aIx_in hj (by omega)]; exact ((if_neg (fun z => b57 (hs.1.mpr z))).trans ((if_pos (hw.mp b66)).trans (if_neg b75))).symm)
                    · refine z_aload_n dX12_read_78 rfl ?_
                      refine z_getR (j := 11) (r := 136) kX12 lf_X12_35 (by decide) rfl dX12_read_79 k0_127 s0_127 r0_127_11 (by decide) ?_
                      refine z_bipush (v := 10) dX12_read_82 (by decide) ?_
                      refine z_iload_n dX12_read_84 rfl ?_
                      refine z_imulN (a := 10) (b := h) rfl rfl dX12_read_85 ?_
                      refine z_iload_n dX12_read_86 rfl ?_
                      refine z_iaddN (a := (10 * h)) (b := j) rfl rfl dX12_read_87 ?_
                      refine z_ialdV (j := ((10 * h) + j)) rfl (by omega) ((C.book h (by omega)).2 j (by omega)).2 dX12_read_88 k0_136 s0_136 ?_
                      refine z_ldcw lc_X12_288 dX12_read_89 ?_
                      refine z_iadd dX12_read_92 ?_
                      refine z_goto (tgt := 107) dX12_read_93 (by decide) ?_
                      refine z_iret dX12_read_107 rfl zle ?_
                      first
                        | exact zAnsM.of C (by unfold aRead; rw [aIx_in hh (by omega), if_neg bb, if_pos hb, aIx_in hj (by omega)]; exact ((if_neg (fun z => b57 (hs.1.mpr z))).trans (if_neg (fun z => b66 (hw.mpr z)))).symm)
                        | exact zAnsM.of C (by unfold aRead; rw [aIx_in hh (by omega), if_neg bb, if_pos hb, aIx_in hj (by omega)]; exact ((if_neg (fun z => b57 (hs.1.mpr z))).trans ((if_pos (hw.mp b66)).trans (if_pos b75))).symm)
                        | exact zAnsM.of C (by unfold aRead; rw [aIx_in hh (by omega), if_neg bb, if_pos hb, aIx_in hj (by omega)]; exact ((if_neg (fun z => b57 (hs.1.mpr z))).trans ((if_pos (hw.mp b66)).trans (if_neg b75))).symm)
                  · refine z_bipush (v := (-14)) dX12_read_69 (by decide) ?_
                    refine z_goto (tgt := 107) dX12_read_71 (by decide) ?_
                    refine z_iret dX12_read_107 rfl zle ?_
                    first
                      | exact zAnsM.of C (by unfold aRead; rw [aIx_in hh (by omega), if_neg bb, if_pos hb, aIx_in hj (by omega)]; exact ((if_neg (fun z => b57 (hs.1.mpr z))).trans (if_neg (fun z => b66 (hw.mpr z)))).symm)
                      | exact zAnsM.of C (by unfold aRead; rw [aIx_in hh (by omega), if_neg bb, if_pos hb, aIx_in hj (by omega)]; exact ((if_neg (fun z => b57 (hs.1.mpr z))).trans ((if_pos (hw.mp b66)).trans (if_pos b75))).symm)
                      | exact zAnsM.of C (by unfold aRead; rw [aIx_in hh (by omega), if_neg bb, if_pos hb, aIx_in hj (by omega)]; exact ((if_neg (fun z => b57 (hs.1.mpr z))).trans ((if_pos (hw.mp b66)).trans (if_neg b75))).symm)
                · refine z_bipush (v := (-13)) dX12_read_60 (by decide) ?_
                  refine z_iret dX12_read_62 rfl zle ?_
                  exact zAnsM.of C (by unfold aRead; rw [aIx_in hh (by omega), if_neg bb, if_pos hb, aIx_in hj (by omega)]; exact (if_pos (hs.1.mp b57)).symm)
              · exact absurd b35 (by decide)
            · rw [ea]
              have hln10 := (ok.ln h hh).1
              refine z_istore dX12_read_31 (by decide) rfl rfl ?_
              refine z_iload dX12_read_33 rfl ?_
              refine z_if_eq (tgt := 41) dX12_read_35 (by decide) (fun b35 => ?_) (fun b35 => ?_)
              · exact absurd b35 (by decide)
              · refine z_iload dX12_read_38 rfl ?_
                refine z_iret dX12_read_40 rfl zle ?_
                first
                  | exact zAnsM.of C (by unfold aRead; rw [aIx_in hh (by omega), if_neg bb, if_pos hb, aIx_out hy])
                  | exact zAnsM.of C (by unfold aRead; rw [aIx_in hh (by omega), if_neg bb, if_neg hb])
            · rw [ea]
              refine z_istore dX12_read_31 (by decide) rfl rfl ?_
              refine z_iload dX12_read_33 rfl ?_
              refine z_if_eq (tgt := 41) dX12_read_35 (by decide) (fun b35 => ?_) (fun b35 => ?_)
              · exact absurd b35 (by decide)
              · refine z_iload dX12_read_38 rfl ?_
                refine z_iret dX12_read_40 rfl zle ?_
                first
                  | exact zAnsM.of C (by unfold aRead; rw [aIx_in hh (by omega), if_neg bb, if_pos hb, aIx_out hy])
                  | exact zAnsM.of C (by unfold aRead; rw [aIx_in hh (by omega), if_neg bb, if_neg hb])
          · exact absurd b19 (by decide)
        · have d16 := fun z => c16 ((l_inn (a := 0) (z := 2) (by decide) (by decide)).mpr z)
          refine z_if_ne (tgt := 25) dX12_read_19 (by decide) (fun b19 => ?_) (fun b19 => ?_)
          · exact absurd b19 (by decide)
          · refine z_bipush (v := (-3)) dX12_read_22 (by decide) ?_
            refine z_iret dX12_read_24 rfl zle ?_
            exact zAnsM.of C (by unfold aRead; rw [aIx_in hh (by omega)]; exact (if_pos (by by_cases z : w < 0; exact Or.inl z; exact Or.inr (Int32.not_le.mp (fun z2 => d16 ⟨Int32.not_lt.mp z, z2⟩)))).symm)
      · exact absurd b4 (by decide)
    · exact absurd (le3.mpr (zInP (n := 4) hh (by omega))) c1
  · refine zMet.of (by decide) (Nat.le_of_ble_eq_true rfl) ?_
    refine z_iload_n dX12_read_0 rfl ?_
    refine z_iS1 (c_X12_isBook g l) mw_X12_isBook lm_X12_278 ms_X12_isBook (by decide) (Nat.le_of_ble_eq_true rfl) zle dX12_read_1 (fun r1 M1 q1 => ?_)
    obtain ⟨qm1, qr1⟩ := q1
    obtain rfl := qm1.symm
    obtain ⟨c1, rfl⟩ | ⟨c1, rfl⟩ := qr1
    · exact absurd (le3.mp c1) hx
    · refine z_if_ne (tgt := 10) dX12_read_4 (by decide) (fun b4 => ?_) (fun b4 => ?_)
      · exact absurd b4 (by decide)
      · refine z_bipush (v := (-2)) dX12_read_7 (by decide) ?_
        refine z_iret dX12_read_9 rfl zle ?_
        exact zAnsM.of C (by unfold aRead; rw [aIx_out hx])

