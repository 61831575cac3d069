/-! ===== the reference: how its cells hold the abstract state ===== -/
def S0i : zM := fun k => if k = 138 then (fun j => if j = 0 then 114 else if j = 1 then 111 else if j = 2 then 97 else if j = 3 then 100 else 0) else if k = 139 then (fun j => if j = 0 then 105 else if j = 1 then 110 else if j = 2 then 110 else 0) else if k = 140 then (fun j => if j = 0 then 104 else if j = 1 then 97 else if j = 2 then 99 else if j = 3 then 107 else 0) else if k = 141 then (fun j => if j = 0 then 118 else if j = 1 then 105 else if j = 2 then 99 else if j = 3 then 105 else if j = 4 then 111 else if j = 5 then 117 else if j = 6 then 115 else 0) else if k = 142 then (fun j => if j = 0 then 100 else if j = 1 then 97 else if j = 2 then 119 else if j = 3 then 110 else 0) else if k = 143 then (fun j => if j = 0 then 103 else if j = 1 then 114 else if j = 2 then 101 else if j = 3 then 121 else 0) else if k = 144 then (fun j => if j = 0 then 109 else if j = 1 then 105 else if j = 2 then 100 else if j = 3 then 110 else if j = 4 then 105 else if j = 5 then 103 else if j = 6 then 104 else if j = 7 then 116 else 0) else if k = 145 then (fun j => if j = 0 then 114 else if j = 1 then 105 else if j = 2 then 100 else if j = 3 then 101 else if j = 4 then 114 else 0) else (fun _ => 0)
def mSo (x : Int32) : Int32 := if x = 3 then -1 else x
def mFl (M : zM) (A : aSt) : Prop := M 127 1 = nI A.u ∧ M 127 4 = nI A.L ∧ M 127 5 = nI A.v
def mKb (M : zM) (A : aSt) : Prop := ∀ k, k < 2 → M 129 k = if A.kb k = true then 1 else 0
def mTx (M : zM) (A : aSt) : Prop := ∀ j, j < A.L → M 130 j = A.T j
def mSee (M : zM) (A : aSt) : Prop := ∀ j, j < A.v → M 131 j = A.sm j ∧ M 132 j = A.st j ∧ M 133 j = A.sd j
def mBook (M : zM) (A : aSt) : Prop := ∀ b, b < 4 → M 134 b = bSz A b ∧ ∀ j, j < 10 → M 135 (10 * b + j) = mSo (A.so b j) ∧ M 136 (10 * b + j) = A.va b j
def mWd (M : zM) : Prop := ∀ k, 138 ≤ k → k < 146 → M k = S0i k
def RelM (M : zM) (A : aSt) : Prop := (∀ j, j < 70 → M 128 j = A.s j) ∧ (∀ j, j < 70 → M 128 (70 + j) = A.t j) ∧ (∀ k, k < A.u → ∀ j, j < 70 → M 128 (140 + 70 * k + j) = A.P k j) ∧ (∀ k, k < 2 → A.kb k = true → ∀ j, j < 70 → M 128 (700 + 70 * k + j) = A.K k j) ∧
  mFl M A ∧ mKb M A ∧ mTx M A ∧ mSee M A ∧ mBook M A ∧ mWd M
section ZRELM
variable {M M' : zM} {A : aSt}
theorem RelM.s (h : RelM M A) : ∀ j, j < 70 → M 128 j = A.s j := h.1
theorem RelM.t (h : RelM M A) : ∀ j, j < 70 → M 128 (70 + j) = A.t j := h.2.1
theorem RelM.P (h : RelM M A) : ∀ k, k < A.u → ∀ j, j < 70 → M 128 (140 + 70 * k + j) = A.P k j := h.2.2.1
theorem RelM.K (h : RelM M A) : ∀ k, k < 2 → A.kb k = true → ∀ j, j < 70 → M 128 (700 + 70 * k + j) = A.K k j := h.2.2.2.1
theorem RelM.fl (h : RelM M A) : mFl M A := h.2.2.2.2.1
theorem RelM.kb (h : RelM M A) : mKb M A := h.2.2.2.2.2.1
theorem RelM.text (h : RelM M A) : mTx M A := h.2.2.2.2.2.2.1
theorem RelM.see (h : RelM M A) : mSee M A := h.2.2.2.2.2.2.2.1
theorem RelM.book (h : RelM M A) : mBook M A := h.2.2.2.2.2.2.2.2.1
theorem RelM.wd (h : RelM M A) : mWd M := h.2.2.2.2.2.2.2.2.2
theorem mFl.keep (h : mFl M A) (e1 : M' 127 1 = M 127 1) (e4 : M' 127 4 = M 127 4) (e5 : M' 127 5 = M 127 5) : mFl M' A := ⟨e1.trans h.1, e4.trans h.2.1, e5.trans h.2.2⟩
theorem mKb.keep (h : mKb M A) (e : M' 129 = M 129) : mKb M' A := fun k hk => by rw [e]; exact h k hk
theorem mTx.keep (h : mTx M A) (e : M' 130 = M 130) : mTx M' A := fun k hk => by rw [e]; exact h k hk
theorem mSee.keep (h : mSee M A) (e1 : M' 131 = M 131) (e2 : M' 132 = M 132) (e3 : M' 133 = M 133) : mSee M' A := fun k hk => by rw [e1, e2, e3]; exact h k hk
theorem mBook.keep (h : mBook M A) (e1 : M' 134 = M 134) (e2 : M' 135 = M 135) (e3 : M' 136 = M 136) : mBook M' A := fun k hk => by rw [e1, e2, e3]; exact h k hk
theorem mWd.keep (h : mWd M) (e : ∀ k, 138 ≤ k → k < 146 → M' k = M k) : mWd M' := fun k a b => (e k a b).trans (h k a b)
theorem RelM.keep (h : RelM M A) (h0 : ∀ j, j < 840 → M' 128 j = M 128 j) (h1 : ∀ j, j = 1 ∨ j = 4 ∨ j = 5 → M' 127 j = M 127 j) (h2 : ∀ k, (129 ≤ k ∧ k < 137) ∨ (138 ≤ k ∧ k < 146) → M' k = M k) (u8 : A.u ≤ 8) : RelM M' A :=
  ⟨fun j hj => (h0 j (by omega)).trans (h.s j hj), fun j hj => (h0 _ (by omega)).trans (h.t j hj), fun k hk j hj => (h0 _ (by omega)).trans (h.P k hk j hj), fun k hk z j hj => (h0 _ (by omega)).trans (h.K k hk z j hj),
   h.fl.keep (h1 1 (by omega)) (h1 4 (by omega)) (h1 5 (by omega)), h.kb.keep (h2 _ (by omega)), h.text.keep (h2 _ (by omega)), h.see.keep (h2 _ (by omega)) (h2 _ (by omega)) (h2 _ (by omega)), h.book.keep (h2 _ (by omega)) (h2 _ (by omega)) (h2 _ (by omega)), h.wd.keep (fun k a b => h2 k (by omega))⟩
theorem RelM.setS (h : RelM M A) {σ : Dy} (hs : ∀ j, j < 70 → M' 128 j = σ j) (h0 : ∀ j, 70 ≤ j → j < 840 → M' 128 j = M 128 j) (h1 : ∀ j, j = 1 ∨ j = 4 ∨ j = 5 → M' 127 j = M 127 j) (h2 : ∀ k, (129 ≤ k ∧ k < 137) ∨ (138 ≤ k ∧ k < 146) → M' k = M k) (u8 : A.u ≤ 8) : RelM M' (A.setS σ) :=
  ⟨hs, fun j hj => (h0 _ (by omega) (by omega)).trans (h.t j hj), fun k hk j hj => (h0 _ (by omega) (by have : k < A.u := hk; omega)).trans (h.P k hk j hj), fun k hk z j hj => (h0 _ (by omega) (by omega)).trans (h.K k hk z j hj),
   h.fl.keep (h1 1 (by omega)) (h1 4 (by omega)) (h1 5 (by omega)), h.kb.keep (h2 _ (by omega)), h.text.keep (h2 _ (by omega)), h.see.keep (h2 _ (by omega)) (h2 _ (by omega)) (h2 _ (by omega)), h.book.keep (h2 _ (by omega)) (h2 _ (by omega)) (h2 _ (by omega)), h.wd.keep (fun k a b => h2 k (by omega))⟩
theorem RelM.setRow (h : RelM M A) {q : Nat} {x : Int32} (hq : q < 70) (u8 : A.u ≤ 8) : RelM (z_up M 128 q x) (A.setS (upd A.s q x)) :=
  h.setS (fun j hj => by
    rw [z_up_s]
    by_cases e : j = q
    · rw [e, upd_s, upd_s]
    · rw [upd_n _ _ e, upd_n _ _ e]; exact h.s j hj) (fun j a b => by rw [z_up_s, upd_n _ _ (by omega)]) (fun j _ => by rw [z_up_n _ _ _ (by omega)]) (fun k a => by rw [z_up_n _ _ _ (by omega)]) u8
/-- a day that went on in the row's first region -/
theorem RelM.day (h : RelM M A) {σ : Dy} {rid led : Int32} (u8 : A.u ≤ 8) : RelM (zMd M 0 σ rid led) (A.setS σ) ∧ ∀ k, k < 127 → zMd M 0 σ rid led k = M k := by
  refine ⟨h.setS (fun j hj => ?_) (fun j a b => ?_) (fun j a => ?_) (fun k a => zMd_o _ _ _ _ _ (by omega) (by omega)) u8, fun k a => zMd_o _ _ _ _ _ (by omega) (by omega)⟩
  · have := regU_in (M 128) 0 σ hj
    rw [Nat.zero_add] at this
    exact this
  · exact regU_out _ _ _ (by omega)
  · rw [zMd_127, upd_n _ _ (by omega), upd_n _ _ (by omega)]
theorem RelM.self (h : RelM M A) : zMd M 0 A.s (M 127 28) (M 127 29) = M := by
  have e := zMd_id M 0
  rw [show (fun i => M 128 (0 + i)) = (fun i => M 128 i) from funext (fun i => by rw [Nat.zero_add])] at e
  have e2 : zMd M 0 A.s (M 127 28) (M 127 29) = zMd M 0 (fun i => M 128 i) (M 127 28) (M 127 29) := by
    funext k
    by_cases c : k = 128
    · subst c
      rw [zMd_128, zMd_128]
      funext i
      unfold regU
      by_cases c2 : 0 ≤ i ∧ i < 0 + 70
      · rw [if_pos c2, if_pos c2]; exact (h.s _ (by omega)).symm
      · rw [if_neg c2, if_neg c2]
    · by_cases c2 : k = 127
      · subst c2; rfl
      · rw [zMd_o _ _ _ _ _ c c2, zMd_o _ _ _ _ _ c c2]
  rw [e2]; exact e
/-- a day that goes on in the tried region -/
theorem RelM.tried (h : RelM M A) {σ : Dy} {rid led : Int32} (u8 : A.u ≤ 8) : RelM (zMd M 840 σ rid led) A ∧ ∀ k, k < 127 → zMd M 840 σ rid led k = M k :=
  ⟨h.keep (fun j a => regU_out _ _ _ (by omega)) (fun j a => by rw [zMd_127, upd_n _ _ (by omega), upd_n _ _ (by omega)]) (fun k a => zMd_o _ _ _ _ _ (by omega) (by omega)) u8, fun k a => zMd_o _ _ _ _ _ (by omega) (by omega)⟩
theorem RelM.scr (h : RelM M A) {q : Nat} {x : Int32} (hq : q ≠ 1 ∧ q ≠ 4 ∧ q ≠ 5) (u8 : A.u ≤ 8) : RelM (z_up M 127 q x) A :=
  h.keep (fun j a => by rw [z_up_n _ _ _ (by omega)]) (fun j a => by rw [z_up_jn _ _ (by omega)]) (fun k a => by rw [z_up_n _ _ _ (by omega)]) u8
end ZRELM
def zStpM (M : zM) (res : aSt × Int32) (r' : Int32) (M' : zM) : Prop := r' = res.2 ∧ RelM M' res.1 ∧ ∀ k, k < 127 → M' k = M k
def zAnsM (M : zM) (A : aSt) (x : Int32) (r' : Int32) (M' : zM) : Prop := r' = x ∧ RelM M' A ∧ ∀ k, k < 127 → M' k = M k
theorem zAnsM.of {M : zM} {A : aSt} {x y : Int32} (R : RelM M A) (e : y = x) : zAnsM M A x y M := ⟨e, R, fun _ _ => rfl⟩
theorem zStpM.of {M : zM} {A : aSt} {res : aSt × Int32} {x : Int32} (R : RelM M A) (e : res = (A, x)) : zStpM M res x M := by
  rw [e]
  exact ⟨rfl, R, fun _ _ => rfl⟩
theorem zStpM.mk {M M' : zM} {res : aSt × Int32} {x y : Int32} {A' : aSt} (R : RelM M' A') (hf : ∀ k, k < 127 → M' k = M k) (e : res = (A', y)) (hx : x = y) : zStpM M res x M' := by
  rw [e, hx]
  exact ⟨rfl, R, hf⟩
theorem l_inn {x a z : Int32} {a' z' : Int64} (ha : a' = a.toInt64) (hz : z' = z.toInt64) : (a' ≤ x.toInt64 ∧ x.toInt64 ≤ z') ↔ (a ≤ x ∧ x ≤ z) := by
  rw [ha, hz]
  simp only [Int64.le_iff_toInt_le, Int32.le_iff_toInt_le, Int32.toInt_toInt64]
theorem le_pred {x : Int32} {n : Nat} (hn : n < 1000) : (0 ≤ x ∧ x ≤ nI n - 1) ↔ (0 ≤ x ∧ x < nI n) := by
  have en := nI_toInt (show n < 2147483648 by omega)
  have e1 : (nI n - 1).toInt = n - 1 := by
    rw [Int32.toInt_sub, en, show (1 : Int32).toInt = 1 by decide, Int.bmod_def]
    split <;> omega
  rw [Int32.le_iff_toInt_le, Int32.le_iff_toInt_le, Int32.lt_iff_toInt_lt, e1, en]
  have e0 : (0 : Int32).toInt = 0 := by decide
  omega

set_option maxRecDepth 100000 in
set_option maxHeartbeats 4000000 in
theorem c_X12_isHour (g : zG) (l : Launch) {M : zM} {A : aSt} (ok : aOK A) (C : RelM M A) {x : Int32} : zMet g l yX12_isHour cX12_isHour 2 (some .boolean) 1 0 0 [.ref 127, .int x] S0 M (zQi (fun r' M' => M' = M ∧ (((0 ≤ x ∧ x < nI A.n) ∧ r' = 1) ∨ (¬ (0 ≤ x ∧ x < nI A.n) ∧ r' = 0)))) := by
  have n8 : A.n ≤ 8 := ok.s.1.1
  have r4 : A.r ≤ 4 := ok.s.1.2.1
  have i6 : A.i ≤ 6 := ok.s.1.2.2.1
  have u8 : A.u ≤ 8 := ok.u
  refine zMet.of (by decide) (Nat.le_of_ble_eq_true rfl) ?_
  refine z_iload_n dX12_isHour_0 rfl ?_
  refine z_i2l dX12_isHour_1 ?_
  refine z_lconst (v := 0) dX12_isHour_2 (by decide) ?_
  refine z_aload_n dX12_isHour_3 rfl ?_
  refine z_getR (j := 0) (r := 128) kX12 lf_X12_7 (by decide) rfl dX12_isHour_4 k0_127 s0_127 r0_127_0 (by decide) ?_
  refine z_iconst (v := 0) dX12_isHour_7 (by decide) ?_
  refine z_ialdV (j := 0) rfl (by decide) ((C.s 0 (by omega)).trans ok.s.1.2.2.2.1) dX12_isHour_8 k0_128 s0_128 ?_
  refine z_iconst (v := 1) dX12_isHour_9 (by decide) ?_
  refine z_isub dX12_isHour_10 ?_
  refine z_i2l dX12_isHour_11 ?_
  refine z_iS3 (c_X12_in g l) mw_X12_in lm_X12_79 ms_X12_in (by decide) (Nat.le_of_ble_eq_true rfl) zle dX12_isHour_12 (fun r12 M12 q12 => ?_)
  obtain ⟨qm, qr⟩ := q12
  obtain rfl := qm.symm
  rcases qr with ⟨c12, rfl⟩ | ⟨c12, rfl⟩
  · refine z_iret dX12_isHour_15 rfl zle ?_
    first
      | exact ⟨rfl, Or.inl ⟨(le_pred (by omega)).mp ((l_inn (a := 0) (by decide) rfl).mp c12), rfl⟩⟩
      | exact ⟨rfl, Or.inr ⟨fun z => c12 ((l_inn (a := 0) (by decide) rfl).mpr ((le_pred (by omega)).mpr z)), rfl⟩⟩
  · refine z_iret dX12_isHour_15 rfl zle ?_
    first
      | exact ⟨rfl, Or.inl ⟨(le_pred (by omega)).mp ((l_inn (a := 0) (by decide) rfl).mp c12), rfl⟩⟩
      | exact ⟨rfl, Or.inr ⟨fun z => c12 ((l_inn (a := 0) (by decide) rfl).mpr ((le_pred (by omega)).mpr z)), rfl⟩⟩

set_option maxRecDepth 100000 in
set_option maxHeartbeats 4000000 in
theorem c_X12_isRider (g : zG) (l : Launch) {M : zM} {A : aSt} (ok : aOK A) (C : RelM M A) {x : Int32} : zMet g l yX12_isRider cX12_isRider 2 (some .boolean) 1 0 0 [.ref 127, .int x] S0 M (zQi (fun r' M' => M' = M ∧ (((0 ≤ x ∧ x < nI A.r) ∧ r' = 1) ∨ (¬ (0 ≤ x ∧ x < nI A.r) ∧ r' = 0)))) := by
  have n8 : A.n ≤ 8 := ok.s.1.1
  have r4 : A.r ≤ 4 := ok.s.1.2.1
  have i6 : A.i ≤ 6 := ok.s.1.2.2.1
  have u8 : A.u ≤ 8 := ok.u
  refine zMet.of (by decide) (Nat.le_of_ble_eq_true rfl) ?_
  refine z_iload_n dX12_isRider_0 rfl ?_
  refine z_i2l dX12_isRider_1 ?_
  refine z_lconst (v := 0) dX12_isRider_2 (by decide) ?_
  refine z_aload_n dX12_isRider_3 rfl ?_
  refine z_getR (j := 0) (r := 128) kX12 lf_X12_7 (by decide) rfl dX12_isRider_4 k0_127 s0_127 r0_127_0 (by decide) ?_
  refine z_iconst (v := 1) dX12_isRider_7 (by decide) ?_
  refine z_ialdV (j := 1) rfl (by decide) ((C.s 1 (by omega)).trans ok.s.1.2.2.2.2.1) dX12_isRider_8 k0_128 s0_128 ?_
  refine z_iconst (v := 1) dX12_isRider_9 (by decide) ?_
  refine z_isub dX12_isRider_10 ?_
  refine z_i2l dX12_isRider_11 ?_
  refine z_iS3 (c_X12_in g l) mw_X12_in lm_X12_79 ms_X12_in (by decide) (Nat.le_of_ble_eq_true rfl) zle dX12_isRider_12 (fun r12 M12 q12 => ?_)
  obtain ⟨qm, qr⟩ := q12
  obtain rfl := qm.symm
  rcases qr with ⟨c12, rfl⟩ | ⟨c12, rfl⟩
  · refine z_iret dX12_isRider_15 rfl zle ?_
    first
      | exact ⟨rfl, Or.inl ⟨(le_pred (by omega)).mp ((l_inn (a := 0) (by decide) rfl).mp c12), rfl⟩⟩
      | exact ⟨rfl, Or.inr ⟨fun z => c12 ((l_inn (a := 0) (by decide) rfl).mpr ((le_pred (by omega)).mpr z)), rfl⟩⟩
  · refine z_iret dX12_isRider_15 rfl zle ?_
    first
      | exact ⟨rfl, Or.inl ⟨(le_pred (by omega)).mp ((l_inn (a := 0) (by decide) rfl).mp c12), rfl⟩⟩
      | exact ⟨rfl, Or.inr ⟨fun z => c12 ((l_inn (a := 0) (by decide) rfl).mpr ((le_pred (by omega)).mpr z)), rfl⟩⟩

set_option maxRecDepth 100000 in
set_option maxHeartbeats 4000000 in
theorem c_X12_isInn (g : zG) (l : Launch) {M : zM} {A : aSt} (ok : aOK A) (C : RelM M A) {x : Int32} : zMet g l yX12_isInn cX12_isInn 2 (some .boolean) 1 0 0 [.ref 127, .int x] S0 M (zQi (fun r' M' => M' = M ∧ (((0 ≤ x ∧ x < nI A.i) ∧ r' = 1) ∨ (¬ (0 ≤ x ∧ x < nI A.i) ∧ r' = 0)))) := by
  have n8 : A.n ≤ 8 := ok.s.1.1
  have r4 : A.r ≤ 4 := ok.s.1.2.1
  have i6 : A.i ≤ 6 := ok.s.1.2.2.1
  have u8 : A.u ≤ 8 := ok.u
  refine zMet.of (by decide) (Nat.le_of_ble_eq_true rfl) ?_
  refine z_iload_n dX12_isInn_0 rfl ?_
  refine z_i2l dX12_isInn_1 ?_
  refine z_lconst (v := 0) dX12_isInn_2 (by decide) ?_
  refine z_aload_n dX12_isInn_3 rfl ?_
  refine z_getR (j := 0) (r := 128) kX12 lf_X12_7 (by decide) rfl dX12_isInn_4 k0_127 s0_127 r0_127_0 (by decide) ?_
  refine z_bipush (v := 63) dX12_isInn_7 (by decide) ?_
  refine z_ialdV (j := 63) rfl (by decide) ((C.s 63 (by omega)).trans ok.s.1.2.2.2.2.2) dX12_isInn_9 k0_128 s0_128 ?_
  refine z_iconst (v := 1) dX12_isInn_10 (by decide) ?_
  refine z_isub dX12_isInn_11 ?_
  refine z_i2l dX12_isInn_12 ?_
  refine z_iS3 (c_X12_in g l) mw_X12_in lm_X12_79 ms_X12_in (by decide) (Nat.le_of_ble_eq_true rfl) zle dX12_isInn_13 (fun r13 M13 q13 => ?_)
  obtain ⟨qm, qr⟩ := q13
  obtain rfl := qm.symm
  rcases qr with ⟨c12, rfl⟩ | ⟨c12, rfl⟩
  · refine z_iret dX12_isInn_16 rfl zle ?_
    first
      | exact ⟨rfl, Or.inl ⟨(le_pred (by omega)).mp ((l_inn (a := 0) (by decide) rfl).mp c12), rfl⟩⟩
      | exact ⟨rfl, Or.inr ⟨fun z => c12 ((l_inn (a := 0) (by decide) rfl).mpr ((le_pred (by omega)).mpr z)), rfl⟩⟩
  · refine z_iret dX12_isInn_16 rfl zle ?_
    first
      | exact ⟨rfl, Or.inl ⟨(le_pred (by omega)).mp ((l_inn (a := 0) (by decide) rfl).mp c12), rfl⟩⟩
      | exact ⟨rfl, Or.inr ⟨fun z => c12 ((l_inn (a := 0) (by decide) rfl).mpr ((le_pred (by omega)).mpr z)), rfl⟩⟩

set_option maxRecDepth 100000 in
set_option maxHeartbeats 4000000 in
theorem c_X12_isBook (g : zG) (l : Launch) {M : zM} {x : Int32} : zMet g l yX12_isBook cX12_isBook 1 (some .boolean) 1 0 0 [.int x] S0 M (zQi (fun r' M' => M' = M ∧ (((0 ≤ x ∧ x ≤ 3) ∧ r' = 1) ∨ (¬ (0 ≤ x ∧ x ≤ 3) ∧ r' = 0)))) := by
  refine zMet.of (by decide) (Nat.le_of_ble_eq_true rfl) ?_
  refine z_iload_n dX12_isBook_0 rfl ?_
  refine z_i2l dX12_isBook_1 ?_
  refine z_lconst (v := 0) dX12_isBook_2 (by decide) ?_
  refine z_ldc2 lc_X12_276 dX12_isBook_3 ?_
  refine z_iS3 (c_X12_in g l) mw_X12_in lm_X12_79 ms_X12_in (by decide) (Nat.le_of_ble_eq_true rfl) zle dX12_isBook_6 (fun r6 M6 q6 => ?_)
  obtain ⟨qm, qr⟩ := q6
  obtain rfl := qm.symm
  rcases qr with ⟨c6, rfl⟩ | ⟨c6, rfl⟩
  · refine z_iret dX12_isBook_9 rfl zle ?_
    first
      | exact ⟨rfl, Or.inl ⟨(l_inn (a := 0) (z := 3) (by decide) (by decide)).mp c6, rfl⟩⟩
      | exact ⟨rfl, Or.inr ⟨fun z => c6 ((l_inn (a := 0) (z := 3) (by decide) (by decide)).mpr z), rfl⟩⟩
  · refine z_iret dX12_isBook_9 rfl zle ?_
    first
      | exact ⟨rfl, Or.inl ⟨(l_inn (a := 0) (z := 3) (by decide) (by decide)).mp c6, rfl⟩⟩
      | exact ⟨rfl, Or.inr ⟨fun z => c6 ((l_inn (a := 0) (z := 3) (by decide) (by decide)).mpr z), rfl⟩⟩

set_option maxRecDepth 100000 in
set_option maxHeartbeats 4000000 in
theorem c_X12_isLetter (g : zG) (l : Launch) {M : zM} {x : Int32} : zMet g l yX12_isLetter cX12_isLetter 1 (some .boolean) 1 0 0 [.int x] S0 M (zQi (fun r' M' => M' = M ∧ (((97 ≤ x ∧ x ≤ 122) ∧ r' = 1) ∨ (¬ (97 ≤ x ∧ x ≤ 122) ∧ r' = 0)))) := by
  refine zMet.of (by decide) (Nat.le_of_ble_eq_true rfl) ?_
  refine z_iload_n dX12_isLetter_0 rfl ?_
  refine z_i2l dX12_isLetter_1 ?_
  refine z_ldc2 lc_X12_87 dX12_isLetter_2 ?_
  refine z_ldc2 lc_X12_89 dX12_isLetter_5 ?_
  refine z_iS3 (c_X12_in g l) mw_X12_in lm_X12_79 ms_X12_in (by decide) (Nat.le_of_ble_eq_true rfl) zle dX12_isLetter_8 (fun r8 M8 q8 => ?_)
  obtain ⟨qm, qr⟩ := q8
  obtain rfl := qm.symm
  rcases qr with ⟨c8, rfl⟩ | ⟨c8, rfl⟩
  · refine z_iret dX12_isLetter_11 rfl zle ?_
    first
      | exact ⟨rfl, Or.inl ⟨(l_inn (a := 97) (z := 122) (by decide) (by decide)).mp c8, rfl⟩⟩
      | exact ⟨rfl, Or.inr ⟨fun z => c8 ((l_inn (a := 97) (z := 122) (by decide) (by decide)).mpr z), rfl⟩⟩
  · refine z_iret dX12_isLetter_11 rfl zle ?_
    first
      | exact ⟨rfl, Or.inl ⟨(l_inn (a := 97) (z := 122) (by decide) (by decide)).mp c8, rfl⟩⟩
      | exact ⟨rfl, Or.inr ⟨fun z => c8 ((l_inn (a := 97) (z := 122) (by decide) (by decide)).mpr z), rfl⟩⟩

set_option maxRecDepth 100000 in
set_option maxHeartbeats 4000000 in
theorem c_X12_isDigit (g : zG) (l : Launch) {M : zM} {x : Int32} : zMet g l yX12_isDigit cX12_isDigit 1 (some .boolean) 1 0 0 [.int x] S0 M (zQi (fun r' M' => M' = M ∧ (((48 ≤ x ∧ x ≤ 57) ∧ r' = 1) ∨ (¬ (48 ≤ x ∧ x ≤ 57) ∧ r' = 0)))) := by
  refine zMet.of (by decide) (Nat.le_of_ble_eq_true rfl) ?_
  refine z_iload_n dX12_isDigit_0 rfl ?_
  refine z_i2l dX12_isDigit_1 ?_
  refine z_ldc2 lc_X12_91 dX12_isDigit_2 ?_
  refine z_ldc2 lc_X12_93 dX12_isDigit_5 ?_
  refine z_iS3 (c_X12_in g l) mw_X12_in lm_X12_79 ms_X12_in (by decide) (Nat.le_of_ble_eq_true rfl) zle dX12_isDigit_8 (fun r8 M8 q8 => ?_)
  obtain ⟨qm, qr⟩ := q8
  obtain rfl := qm.symm
  rcases qr with ⟨c8, rfl⟩ | ⟨c8, rfl⟩
  · refine z_iret dX12_isDigit_11 rfl zle ?_
    first
      | exact ⟨rfl, Or.inl ⟨(l_inn (a := 48) (z := 57) (by decide) (by decide)).mp c8, rfl⟩⟩
      | exact ⟨rfl, Or.inr ⟨fun z => c8 ((l_inn (a := 48) (z := 57) (by decide) (by decide)).mpr z), rfl⟩⟩
  · refine z_iret dX12_isDigit_11 rfl zle ?_
    first
      | exact ⟨rfl, Or.inl ⟨(l_inn (a := 48) (z := 57) (by decide) (by decide)).mp c8, rfl⟩⟩
      | exact ⟨rfl, Or.inr ⟨fun z => c8 ((l_inn (a := 48) (z := 57) (by decide) (by decide)).mpr z), rfl⟩⟩

set_option maxRecDepth 100000 in
set_option maxHeartbeats 4000000 in
theorem c_X12_isRiding (g : zG) (l : Launch) {M : zM} {A : aSt} (ok : aOK A) (C : RelM M A) {q : Nat} (hq : q < A.r) : zMet g l yX12_isRiding cX12_isRiding 2 (some .boolean) 0 0 0 [.ref 127, .int (nI q)] S0 M (zQi (fun r' M' => M' = M ∧ (((¬ dAt A.s q) ∧ r' = 1) ∨ (¬ (¬ dAt A.s q) ∧ r' = 0)))) := by
  have n8 : A.n ≤ 8 := ok.s.1.1
  have r4 : A.r ≤ 4 := ok.s.1.2.1
  have i6 : A.i ≤ 6 := ok.s.1.2.2.1
  have u8 : A.u ≤ 8 := ok.u
  refine zMet.of (by decide) (Nat.le_of_ble_eq_true rfl) ?_
  refine z_aload_n dX12_isRiding_0 rfl ?_
  refine z_getR (j := 0) (r := 128) kX12 lf_X12_7 (by decide) rfl dX12_isRiding_1 k0_127 s0_127 r0_127_0 (by decide) ?_
  refine z_bipush (v := 51) dX12_isRiding_4 (by decide) ?_
  refine z_iload_n dX12_isRiding_6 rfl ?_
  refine z_iaddN (a := 51) (b := q) rfl rfl dX12_isRiding_7 ?_
  refine z_ialdV (j := (51 + q)) rfl (by omega) (C.s (51 + q) (by omega)) dX12_isRiding_8 k0_128 s0_128 ?_
  refine z_aload_n dX12_isRiding_9 rfl ?_
  refine z_getR (j := 0) (r := 128) kX12 lf_X12_7 (by decide) rfl dX12_isRiding_10 k0_127 s0_127 r0_127_0 (by decide) ?_
  refine z_bipush (v := 55) dX12_isRiding_13 (by decide) ?_
  refine z_iload_n dX12_isRiding_15 rfl ?_
  refine z_iaddN (a := 55) (b := q) rfl rfl dX12_isRiding_16 ?_
  refine z_ialdV (j := (55 + q)) rfl (by omega) (C.s (55 + q) (by omega)) dX12_isRiding_17 k0_128 s0_128 ?_
  refine z_icmp_eq (tgt := 25) dX12_isRiding_18 (by decide) (fun b18 => ?_) (fun b18 => ?_)
  · refine z_iconst (v := 0) dX12_isRiding_25 (by decide) ?_
    refine z_iret dX12_isRiding_26 rfl zle ?_
    first
      | exact ⟨rfl, Or.inl ⟨b18, rfl⟩⟩
      | exact ⟨rfl, Or.inr ⟨fun z => z b18, rfl⟩⟩
  · refine z_iconst (v := 1) dX12_isRiding_21 (by decide) ?_
    refine z_goto (tgt := 26) dX12_isRiding_22 (by decide) ?_
    refine z_iret dX12_isRiding_26 rfl zle ?_
    first
      | exact ⟨rfl, Or.inl ⟨b18, rfl⟩⟩
      | exact ⟨rfl, Or.inr ⟨fun z => z b18, rfl⟩⟩

def fBits (s : Int32) : Nat → Int32
  | 0 => 0
  | k + 1 => fBits s k + ((s >>> (nI k &&& 31)) &&& 1)
set_option maxRecDepth 100000 in
set_option maxHeartbeats 4000000 in
theorem lp_bits (g : zG) (l : Launch) {M : zM} {s : Int32} : ∀ (k h : Nat), h ≤ 8 → 8 - h < k → zA g l yX12_bits cX12_bits 3 (some .int) 0 0 0 (zQi (fun r' M' => r' = fBits s 8 ∧ M' = M)) 4 0 0 S0 M [.int s, .int (fBits s h), .int (nI h)] [] := by
  intro k
  induction k with
  | zero => intro h hh hk; exact absurd hk (Nat.not_lt_zero _)
  | succ k ih =>
    intro h hh hk 
    refine z_iload_n dX12_bits_4 rfl ?_
    refine z_bipush (v := 8) dX12_bits_5 (by decide) ?_
    refine z_icmp_ge (tgt := 24) dX12_bits_7 (by decide) (fun b7 => ?_) (fun b7 => ?_)
    · have e : 8 ≤ h := (nI_leI (by omega) (by omega)).mp b7
      have e2 : h = 8 := by omega
      subst e2
      refine z_iload_n dX12_bits_24 rfl ?_
      exact z_iret dX12_bits_25 rfl zle (⟨rfl, rfl⟩)
    · have hn : h < 8 := by
        rcases Nat.lt_or_ge h 8 with z | z
        · exact z
        · exact absurd (nI_le z (by omega)) b7
      refine z_iload_n dX12_bits_10 rfl ?_
      refine z_iload_n dX12_bits_11 rfl ?_
      refine z_iload_n dX12_bits_12 rfl ?_
      refine z_ishr dX12_bits_13 ?_
      refine z_iconst (v := 1) dX12_bits_14 (by decide) ?_
      refine z_iand dX12_bits_15 ?_
      refine z_iadd dX12_bits_16 ?_
      refine z_istore_n dX12_bits_17 (by decide) rfl rfl ?_
      refine z_iincN (k := h) dX12_bits_18 rfl rfl (by decide) rfl rfl ?_
      refine z_goto (tgt := 4) dX12_bits_21 (by decide) ?_
      exact zA.sub (ih (h + 1) (by omega) (by omega)) rfl ⟨Or.inr rfl, Or.inr rfl, Or.inr rfl, trivial⟩

set_option maxRecDepth 100000 in
set_option maxHeartbeats 4000000 in
theorem c_X12_bits (g : zG) (l : Launch) {M : zM} {s : Int32} : zMet g l yX12_bits cX12_bits 3 (some .int) 0 0 0 [.int s] S0 M (zQi (fun r' M' => r' = fBits s 8 ∧ M' = M)) := by
  refine zMet.of (by decide) (Nat.le_of_ble_eq_true rfl) ?_
  refine z_iconst (v := 0) dX12_bits_0 (by decide) ?_
  refine z_istore_n dX12_bits_1 (by decide) rfl rfl ?_
  refine z_iconst (v := 0) dX12_bits_2 (by decide) ?_
  refine z_istore_n dX12_bits_3 (by decide) rfl rfl ?_
  exact lp_bits g l 9 0 (Nat.zero_le _) (by omega)

set_option maxRecDepth 100000 in
set_option maxHeartbeats 4000000 in
theorem lp_copyRoad (g : zG) (l : Launch) {M0 : zM} {a c : Nat} (ha : a + 70 ≤ 910) (hc : c + 70 ≤ 910) (hd : a + 70 ≤ c ∨ c + 70 ≤ a) : ∀ (k h : Nat), h ≤ 70 → 70 - h < k → zA g l yX12_copyRoad cX12_copyRoad 4 none 0 0 0 (zQv (fun M' => M' = z_row M0 128 (va_cpy (M0 128) (M0 128) a c 70))) 2 0 0 S0 (z_row M0 128 (va_cpy (M0 128) (M0 128) a c h)) [.ref 127, .int (nI a), .int (nI c), .int (nI h)] [] := by
  intro k
  induction k with
  | zero => intro h hh hk; exact absurd hk (Nat.not_lt_zero _)
  | succ k ih =>
    intro h hh hk 
    refine z_iload_n dX12_copyRoad_2 rfl ?_
    refine z_bipush (v := 70) dX12_copyRoad_3 (by decide) ?_
    refine z_icmp_ge (tgt := 30) dX12_copyRoad_5 (by decide) (fun b5 => ?_) (fun b5 => ?_)
    · have e : 70 ≤ h := (nI_leI (by omega) (by omega)).mp b5
      have e2 : h = 70 := by omega
      subst e2
      exact z_vret dX12_copyRoad_30 zle (rfl)
    · have hn : h < 70 := by
        rcases Nat.lt_or_ge h 70 with z | z
        · exact z
        · exact absurd (nI_le z (by omega)) b5
      refine z_aload_n dX12_copyRoad_8 rfl ?_
      refine z_getR (j := 0) (r := 128) kX12 lf_X12_7 (by decide) rfl dX12_copyRoad_9 k0_127 s0_127 r0_127_0 (by decide) ?_
      refine z_iload_n dX12_copyRoad_12 rfl ?_
      refine z_iload_n dX12_copyRoad_13 rfl ?_
      refine z_iaddN (a := c) (b := h) rfl rfl dX12_copyRoad_14 ?_
      refine z_aload_n dX12_copyRoad_15 rfl ?_
      refine z_getR (j := 0) (r := 128) kX12 lf_X12_7 (by decide) rfl dX12_copyRoad_16 k0_127 s0_127 r0_127_0 (by decide) ?_
      refine z_iload_n dX12_copyRoad_19 rfl ?_
      refine z_iload_n dX12_copyRoad_20 rfl ?_
      refine z_iaddN (a := a) (b := h) rfl rfl dX12_copyRoad_21 ?_
      refine z_ialdN (j := (a + h)) rfl (by omega) dX12_copyRoad_22 k0_128 s0_128 ?_
      refine z_iastN (j := (c + h)) rfl (by omega) dX12_copyRoad_23 k0_128 s0_128 ?_
      refine z_iincN (k := h) dX12_copyRoad_24 rfl rfl (by decide) rfl rfl ?_
      refine z_goto (tgt := 2) dX12_copyRoad_27 (by decide) ?_
      refine zA.sub (ih (h + 1) (by omega) (by omega)) ?_ ⟨Or.inr rfl, Or.inr rfl, Or.inr rfl, Or.inr rfl, trivial⟩
      funext k
      by_cases e : k = 128
      · subst e
        rw [z_up_s, z_row_s, z_row_s]
        funext j
        have e1 : va_cpy (M0 128) (M0 128) a c h (a + h) = M0 128 (a + h) := if_neg (by omega)
        rw [e1]
        by_cases e2 : j = c + h
        · subst e2
          rw [upd_s]
          unfold va_cpy
          rw [if_pos (by omega), show c + h - c = h by omega]
        · rw [upd_n _ _ e2]
          unfold va_cpy
          by_cases e3 : c ≤ j ∧ j < c + h
          · rw [if_pos e3, if_pos (by omega)]
          · rw [if_neg e3, if_neg (by omega)]
      · rw [z_up_n _ _ _ e, z_row_n _ _ e, z_row_n _ _ e]

set_option maxRecDepth 100000 in
set_option maxHeartbeats 4000000 in
theorem c_X12_copyRoad (g : zG) (l : Launch) {M : zM} {a c : Nat} (ha : a + 70 ≤ 910) (hc : c + 70 ≤ 910) (hd : a + 70 ≤ c ∨ c + 70 ≤ a) : zMet g l yX12_copyRoad cX12_copyRoad 4 none 0 0 0 [.ref 127, .int (nI a), .int (nI c)] S0 M (zQv (fun M' => M' = z_row M 128 (va_cpy (M 128) (M 128) a c 70))) := by
  refine zMet.of (by decide) (Nat.le_of_ble_eq_true rfl) ?_
  refine z_iconst (v := 0) dX12_copyRoad_0 (by decide) ?_
  refine z_istore_n dX12_copyRoad_1 (by decide) rfl rfl ?_
  refine zA.sub (lp_copyRoad g l (M0 := M) ha hc hd 71 0 (Nat.zero_le _) (by omega)) ?_ ⟨Or.inr rfl, Or.inr rfl, Or.inr rfl, Or.inr rfl, trivial⟩
  funext k
  by_cases e : k = 128
  · subst e
    rw [z_row_s]
    funext j
    exact (if_neg (by omega)).symm
  · rw [z_row_n _ _ e]

set_option maxRecDepth 100000 in
set_option maxHeartbeats 4000000 in
theorem c_X12_layTried (g : zG) (l : Launch) {M : zM} : zMet g l yX12_layTried cX12_layTried 1 none 1 0 0 [.ref 127] S0 M (zQv (fun M' => M' = z_row M 128 (va_cpy (M 128) (M 128) 0 840 70))) := by
  refine zMet.of (by decide) (Nat.le_of_ble_eq_true rfl) ?_
  refine z_aload_n dX12_layTried_0 rfl ?_
  refine z_iconst (v := 0) dX12_layTried_1 (by decide) ?_
  refine z_sipush (v := 840) dX12_layTried_2 (by decide) ?_
  refine z_vV2 (c_X12_copyRoad g l (a := 0) (c := 840) (by omega) (by omega) (by omega)) mw_X12_copyRoad lm_X12_159 mi_X12_copyRoad mv_X12_copyRoad kX12 (by decide) (Nat.le_of_ble_eq_true rfl) zle k0_127 s0_127 dX12_layTried_5 (fun M5 q5 => ?_)
  obtain rfl := q5.symm
  exact z_vret dX12_layTried_8 zle (rfl)

theorem RelM.lay {M : zM} {A : aSt} (h : RelM M A) : z_row M 128 (va_cpy (M 128) (M 128) 0 840 70) = zMd M 840 A.s (M 127 28) (M 127 29) := by
  funext k
  by_cases e : k = 128
  · subst e
    rw [z_row_s, zMd_128]
    funext j
    unfold va_cpy regU
    by_cases c : 840 ≤ j ∧ j < 840 + 70
    · rw [if_pos c, if_pos c, Nat.zero_add]; exact h.s _ (by omega)
    · rw [if_neg c, if_neg c]
  · rw [z_row_n _ _ e]
    by_cases c2 : k = 127
    · subst c2
      rw [zMd_127]
      funext j
      unfold upd
      by_cases e3 : j = 29
      · subst e3; rfl
      · by_cases e4 : j = 28
        · subst e4; rfl
        · simp [e3, e4]
    · exact (zMd_o _ _ _ _ _ e c2).symm

set_option maxRecDepth 100000 in
set_option maxHeartbeats 4000000 in
theorem c_X12_oat (g : zG) (l : Launch) {M : zM} {b : Nat} {σ : Dy} {rid led : Int32} {h : Nat} (hb : b + 70 ≤ 910) (h8 : h < 8) : zMet g l yX12_oat cX12_oat 4 none 0 0 0 [.ref 127, .int (nI b), .int (nI h)] S0 (zMd M b σ rid led) (zQv (fun M' => M' = zMd M b (dEase σ h (σ (27 + h) - 3)) rid led)) := by
  refine zMet.of (by decide) (Nat.le_of_ble_eq_true rfl) ?_
  refine z_aload_n dX12_oat_0 rfl ?_
  refine z_getR (j := 0) (r := 128) kX12 lf_X12_7 (by decide) rfl dX12_oat_1 k0_127 s0_127 r0_127_0 (by decide) ?_
  refine z_iload_n dX12_oat_4 rfl ?_
  refine z_bipush (v := 27) dX12_oat_5 (by decide) ?_
  refine z_iaddN (a := b) (b := 27) rfl rfl dX12_oat_7 ?_
  refine z_iload_n dX12_oat_8 rfl ?_
  refine z_iaddN (a := (b + 27)) (b := h) rfl rfl dX12_oat_9 ?_
  refine z_ialdV (j := ((b + 27) + h)) rfl (by omega) (zMd_g 27 h (by omega)) dX12_oat_10 k0_128 s0_128 ?_
  refine z_iconst (v := 3) dX12_oat_11 (by decide) ?_
  refine z_isub dX12_oat_12 ?_
  refine z_istore_n dX12_oat_13 (by decide) rfl rfl ?_
  refine z_aload_n dX12_oat_14 rfl ?_
  refine z_getR (j := 0) (r := 128) kX12 lf_X12_7 (by decide) rfl dX12_oat_15 k0_127 s0_127 r0_127_0 (by decide) ?_
  refine z_iload_n dX12_oat_18 rfl ?_
  refine z_bipush (v := 27) dX12_oat_19 (by decide) ?_
  refine z_iaddN (a := b) (b := 27) rfl rfl dX12_oat_21 ?_
  refine z_iload_n dX12_oat_22 rfl ?_
  refine z_iaddN (a := (b + 27)) (b := h) rfl rfl dX12_oat_23 ?_
  refine z_iload_n dX12_oat_24 rfl ?_
  refine z_if_ge (tgt := 32) dX12_oat_25 (by decide) (fun b25 => ?_) (fun b25 => ?_)
  · refine z_iload_n dX12_oat_32 rfl ?_
    refine z_iastV (j := ((b + 27) + h)) rfl (by omega) (zMd_s 27 h (by omega)) dX12_oat_33 k0_128 s0_128 ?_
    refine z_aload_n dX12_oat_34 rfl ?_
    refine z_getR (j := 0) (r := 128) kX12 lf_X12_7 (by decide) rfl dX12_oat_35 k0_127 s0_127 r0_127_0 (by decide) ?_
    refine z_iload_n dX12_oat_38 rfl ?_
    refine z_bipush (v := 35) dX12_oat_39 (by decide) ?_
    refine z_iaddN (a := b) (b := 35) rfl rfl dX12_oat_41 ?_
    refine z_iload_n dX12_oat_42 rfl ?_
    refine z_iaddN (a := (b + 35)) (b := h) rfl rfl dX12_oat_43 ?_
    refine z_iload_n dX12_oat_44 rfl ?_
    refine z_if_le (tgt := 62) dX12_oat_45 (by decide) (fun b45 => ?_) (fun b45 => ?_)
    · refine z_iconst (v := 0) dX12_oat_62 (by decide) ?_
      refine z_iastV (j := ((b + 35) + h)) rfl (by omega) (zMd_s 35 h (by omega)) dX12_oat_63 k0_128 s0_128 ?_
      refine z_vret dX12_oat_64 zle ?_
      unfold dEase
      first
        | rw [if_pos (Int32.not_le.mp b25), if_neg (show ¬ 0 < σ (27 + h) - 3 from Int32.not_lt.mpr b45)]
        | rw [if_pos (Int32.not_le.mp b25), if_pos (show 0 < σ (27 + h) - 3 from Int32.not_le.mp b45)]
        | rw [if_neg (Int32.not_lt.mpr b25), if_neg (show ¬ 0 < σ (27 + h) - 3 from Int32.not_lt.mpr b45)]
        | rw [if_neg (Int32.not_lt.mpr b25), if_pos (show 0 < σ (27 + h) - 3 from Int32.not_le.mp b45)]
    · refine z_aload_n dX12_oat_48 rfl ?_
      refine z_getR (j := 0) (r := 128) kX12 lf_X12_7 (by decide) rfl dX12_oat_49 k0_127 s0_127 r0_127_0 (by decide) ?_
      refine z_iload_n dX12_oat_52 rfl ?_
      refine z_bipush (v := 35) dX12_oat_53 (by decide) ?_
      refine z_iaddN (a := b) (b := 35) rfl rfl dX12_oat_55 ?_
      refine z_iload_n dX12_oat_56 rfl ?_
      refine z_iaddN (a := (b + 35)) (b := h) rfl rfl dX12_oat_57 ?_
      refine z_ialdV (j := ((b + 35) + h)) rfl (by omega) ((zMd_g 35 h (by omega)).trans (upd_n _ _ (by omega))) dX12_oat_58 k0_128 s0_128 ?_
      refine z_goto (tgt := 63) dX12_oat_59 (by decide) ?_
      refine z_iastV (j := ((b + 35) + h)) rfl (by omega) (zMd_s 35 h (by omega)) dX12_oat_63 k0_128 s0_128 ?_
      refine z_vret dX12_oat_64 zle ?_
      unfold dEase
      first
        | rw [if_pos (Int32.not_le.mp b25), if_neg (show ¬ 0 < σ (27 + h) - 3 from Int32.not_lt.mpr b45)]
        | rw [if_pos (Int32.not_le.mp b25), if_pos (show 0 < σ (27 + h) - 3 from Int32.not_le.mp b45)]
        | rw [if_neg (Int32.not_lt.mpr b25), if_neg (show ¬ 0 < σ (27 + h) - 3 from Int32.not_lt.mpr b45)]
        | rw [if_neg (Int32.not_lt.mpr b25), if_pos (show 0 < σ (27 + h) - 3 from Int32.not_le.mp b45)]
  · refine z_iconst (v := 0) dX12_oat_28 (by decide) ?_
    refine z_goto (tgt := 33) dX12_oat_29 (by decide) ?_
    refine z_iastV (j := ((b + 27) + h)) rfl (by omega) (zMd_s 27 h (by omega)) dX12_oat_33 k0_128 s0_128 ?_
    refine z_aload_n dX12_oat_34 rfl ?_
    refine z_getR (j := 0) (r := 128) kX12 lf_X12_7 (by decide) rfl dX12_oat_35 k0_127 s0_127 r0_127_0 (by decide) ?_
    refine z_iload_n dX12_oat_38 rfl ?_
    refine z_bipush (v := 35) dX12_oat_39 (by decide) ?_
    refine z_iaddN (a := b) (b := 35) rfl rfl dX12_oat_41 ?_
    refine z_iload_n dX12_oat_42 rfl ?_
    refine z_iaddN (a := (b + 35)) (b := h) rfl rfl dX12_oat_43 ?_
    refine z_iload_n dX12_oat_44 rfl ?_
    refine z_if_le (tgt := 62) dX12_oat_45 (by decide) (fun b45 => ?_) (fun b45 => ?_)
    · refine z_iconst (v := 0) dX12_oat_62 (by decide) ?_
      refine z_iastV (j := ((b + 35) + h)) rfl (by omega) (zMd_s 35 h (by omega)) dX12_oat_63 k0_128 s0_128 ?_
      refine z_vret dX12_oat_64 zle ?_
      unfold dEase
      first
        | rw [if_pos (Int32.not_le.mp b25), if_neg (show ¬ 0 < σ (27 + h) - 3 from Int32.not_lt.mpr b45)]
        | rw [if_pos (Int32.not_le.mp b25), if_pos (show 0 < σ (27 + h) - 3 from Int32.not_le.mp b45)]
        | rw [if_neg (Int32.not_lt.mpr b25), if_neg (show ¬ 0 < σ (27 + h) - 3 from Int32.not_lt.mpr b45)]
        | rw [if_neg (Int32.not_lt.mpr b25), if_pos (show 0 < σ (27 + h) - 3 from Int32.not_le.mp b45)]
    · refine z_aload_n dX12_oat_48 rfl ?_
      refine z_getR (j := 0) (r := 128) kX12 lf_X12_7 (by decide) rfl dX12_oat_49 k0_127 s0_127 r0_127_0 (by decide) ?_
      refine z_iload_n dX12_oat_52 rfl ?_
      refine z_bipush (v := 35) dX12_oat_53 (by decide) ?_
      refine z_iaddN (a := b) (b := 35) rfl rfl dX12_oat_55 ?_
      refine z_iload_n dX12_oat_56 rfl ?_
      refine z_iaddN (a := (b + 35)) (b := h) rfl rfl dX12_oat_57 ?_
      refine z_ialdV (j := ((b + 35) + h)) rfl (by omega) ((zMd_g 35 h (by omega)).trans (upd_n _ _ (by omega))) dX12_oat_58 k0_128 s0_128 ?_
      refine z_goto (tgt := 63) dX12_oat_59 (by decide) ?_
      refine z_iastV (j := ((b + 35) + h)) rfl (by omega) (zMd_s 35 h (by omega)) dX12_oat_63 k0_128 s0_128 ?_
      refine z_vret dX12_oat_64 zle ?_
      unfold dEase
      first
        | rw [if_pos (Int32.not_le.mp b25), if_neg (show ¬ 0 < σ (27 + h) - 3 from Int32.not_lt.mpr b45)]
        | rw [if_pos (Int32.not_le.mp b25), if_pos (show 0 < σ (27 + h) - 3 from Int32.not_le.mp b45)]
        | rw [if_neg (Int32.not_lt.mpr b25), if_neg (show ¬ 0 < σ (27 + h) - 3 from Int32.not_lt.mpr b45)]
        | rw [if_neg (Int32.not_lt.mpr b25), if_pos (show 0 < σ (27 + h) - 3 from Int32.not_le.mp b45)]

