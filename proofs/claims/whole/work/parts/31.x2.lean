/-! ===== the class's own methods: what changes the day ===== -/
set_option maxRecDepth 100000 in
set_option maxHeartbeats 4000000 in
theorem c_X10_append (g : zG) (l : Launch) {M : zM} {L : Nat} {c : Int32} (hL : L < 200) (h1 : M 8 2 = nI L) : zMet g l yX10_append cX10_append 2 none 0 0 0 [.ref 8, .int c] S0 M (zQv (fun M' => M' = z_up (z_up M 9 L c) 8 2 (nI (L + 1)))) := by
  refine zMet.of (by decide) (Nat.le_of_ble_eq_true rfl) ?_
  refine z_aload_n dX10_append_0 rfl ?_
  refine z_getIV (j := 2) kX10 lf_X10_15 (by decide) rfl h1 dX10_append_1 k0_8 s0_8 ?_
  refine z_sipush (v := 200) dX10_append_4 (by decide) ?_
  refine z_icmp_ge (tgt := 30) dX10_append_7 (by decide) (fun b7 => ?_) (fun b7 => ?_)
  · exact absurd ((nI_leI (b := L) (a := 200) (by omega) (by omega)).mp b7) (by omega)
  · refine z_aload_n dX10_append_10 rfl ?_
    refine z_getR (j := 0) (r := 9) kX10 lf_X10_9 (by decide) rfl dX10_append_11 k0_8 s0_8 r0_8_0 (by decide) ?_
    refine z_aload_n dX10_append_14 rfl ?_
    refine z_getIV (j := 2) kX10 lf_X10_15 (by decide) rfl h1 dX10_append_15 k0_8 s0_8 ?_
    refine z_iload_n dX10_append_18 rfl ?_
    refine z_iastN (j := L) rfl hL dX10_append_19 k0_9 s0_9 ?_
    refine z_aload_n dX10_append_20 rfl ?_
    refine z_dup dX10_append_21 rfl ?_
    refine z_getIV (j := 2) kX10 lf_X10_15 (by decide) rfl ((congrFun (z_up_n M L c (by omega)) 2).trans h1) dX10_append_22 k0_8 s0_8 ?_
    refine z_iconst (v := 1) dX10_append_25 (by decide) ?_
    refine z_iaddN (a := L) (b := 1) rfl rfl dX10_append_26 ?_
    refine z_putI (j := 2) kX10 lf_X10_15 (by decide) rfl rfl (kX10.2.2.1 2 (by decide)) rfl rfl dX10_append_27 k0_8 s0_8 ?_
    exact z_vret dX10_append_30 zle (rfl)

set_option maxRecDepth 100000 in
set_option maxHeartbeats 4000000 in
theorem c_X10_clear (g : zG) (l : Launch) {M : zM} : zMet g l yX10_clear cX10_clear 1 none 0 0 0 [.ref 8] S0 M (zQv (fun M' => M' = z_up M 8 2 0)) := by
  refine zMet.of (by decide) (Nat.le_of_ble_eq_true rfl) ?_
  refine z_aload_n dX10_clear_0 rfl ?_
  refine z_iconst (v := 0) dX10_clear_1 (by decide) ?_
  refine z_putI (j := 2) kX10 lf_X10_15 (by decide) rfl rfl (kX10.2.2.1 2 (by decide)) rfl rfl dX10_clear_2 k0_8 s0_8 ?_
  exact z_vret dX10_clear_5 zle (rfl)

def sWrite (A : aSt) (c : Int32) : aSt × Int32 := if c < 0 ∨ 255 < c then (A, -3) else if A.L = 200 then (A, -5) else (A.setText (A.L + 1, upd A.T A.L c), nI (A.L + 1))
def sErase (A : aSt) : aSt × Int32 := (A.setText (0, A.T), nI A.L)
def aRun (A : aSt) : Bool × Nat × pSt := pRun A.T A.L 20 1 (tF A.T A.L 0, A.t, A.n, A.r, A.i)
def sFault (A : aSt) : aSt × Int32 := (A, if (aRun A).1 = true then -1 else nI (aRun A).2.2.1)
theorem RelC.ff {M M' : zM} {A : aSt} {x : Bool × Nat × pSt} (C : RelC M A) (h : zFF M M' A.T A.L x) : RelC M' A ∧ ∀ k, 127 ≤ k → M' k = M k := by
  obtain ⟨h1, h2, h3⟩ := h
  exact ⟨⟨C.road.keep (fun k a b => h3 k (by omega)), C.day.keep4 (fun k a => h3 k (by omega)), C.past.keep (fun k a => h3 k (by omega)), C.kept.keep (fun k a => h3 k (by omega)), ⟨h1.1.2.1, h1.1.2.2.2.2⟩, C.see.keep (fun k a => h3 k (by omega)), C.book.keep (fun k a => h3 k (by omega))⟩, fun k a => h3 k (by omega)⟩
def sStage (A : aSt) (x : Int32) : aSt × Int32 := if x < 1 ∨ 12 < x then (A, -3) else if 999 < A.s 2 + x then (A, -5) else ((A.setPast (aPush A)).setS (dIter A.s A.n A.r A.i x.toNatClampNeg), (dIter A.s A.n A.r A.i x.toNatClampNeg) 2)
def sOats (A : aSt) (x : Int32) : aSt × Int32 := aIx A.n x (fun h => if A.s (27 + h) = 0 then (A, -4) else ((A.setPast (aPush A)).setS (dEase A.s h (A.s (27 + h) - 3)), (dEase A.s h (A.s (27 + h) - 3)) (27 + h))) (A, -2)
def sShoe (A : aSt) (x : Int32) : aSt × Int32 := aIx A.n x (fun h => if A.s (35 + h) = 0 then (A, -4) else ((A.setPast (aPush A)).setS (upd (upd A.s (35 + h) 0) (27 + h) 5), A.s (27 + h))) (A, -2)
def sLead (A : aSt) (x z : Int32) : aSt × Int32 := aIx A.n x (fun h => aIx A.i z (fun j => if A.s (19 + h) = nI j then (A, -4) else ((A.setPast (aPush A)).setS (upd A.s (19 + h) (nI j)), A.s (19 + h))) (A, -2)) (A, -2)
def sTurn (A : aSt) (x z : Int32) : aSt × Int32 := aIx A.r x (fun q => aIx A.i z (fun j => if A.s (55 + q) = nI j then (A, -4) else ((A.setPast (aPush A)).setS (upd A.s (55 + q) (nI j)), A.s (55 + q))) (A, -2)) (A, -2)
def sUndo (A : aSt) : aSt × Int32 := if A.u = 0 then (A, -4) else ((A.setPast (A.u - 1, A.P)).setS (A.P (A.u - 1)), nI (A.u - 1))
def sKeep (A : aSt) (x : Int32) : aSt × Int32 := aIx 2 x (fun k => (A.setKept (fun j => if j = k then true else A.kb j, fun j => if j = k then A.s else A.K j), A.s 2)) (A, -2)
def sBack (A : aSt) (x : Int32) : aSt × Int32 := aIx 2 x (fun k => if A.kb k = true then ((A.setS (A.K k)).setPast (0, A.P), (A.K k) 2) else (A, -4)) (A, -2)
theorem zIdx (x : Int32) {a c : Nat} (ha : a < 100000) (hc : c < 100000) : (∃ h, a ≤ h ∧ h ≤ c ∧ x = nI h) ∨ (x < nI a ∨ nI c < x) := by
  by_cases h1 : x < nI a
  · exact Or.inr (Or.inl h1)
  · by_cases h2 : nI c < x
    · exact Or.inr (Or.inr h2)
    · refine Or.inl ?_
      · have h3 := Int32.not_lt.mp h1
        have h4 := Int32.not_lt.mp h2
        rw [Int32.le_iff_toInt_le, nI_toInt (show a < 2147483648 by omega)] at h3
        rw [Int32.le_iff_toInt_le, nI_toInt (show c < 2147483648 by omega)] at h4
        refine ⟨x.toInt.toNat, by omega, by omega, ?_⟩
        apply Int32.toInt_inj.mp
        rw [nI_toInt (by omega)]
        omega

set_option maxRecDepth 100000 in
set_option maxHeartbeats 4000000 in
theorem c_X11_write (g : zG) (l : Launch) {M : zM} {A : aSt} (ok : aOK A) (C : RelC M A) {c : Int32} : zMet g l yX11_write cX11_write 2 (some .int) 1 0 0 [.ref 0, .int c] S0 M (zQi (fun r' M' => zStp M (sWrite A c) r' M')) := by
  have n8 : A.n ≤ 8 := ok.s.1.1
  have r4 : A.r ≤ 4 := ok.s.1.2.1
  have i6 : A.i ≤ 6 := ok.s.1.2.2.1
  have R : zDR M M 18 A.s A.n A.r A.i := ⟨C.day, fun _ _ => rfl⟩
  · refine zMet.of (by decide) (Nat.le_of_ble_eq_true rfl) ?_
    refine z_iload_n dX11_write_0 rfl ?_
    refine z_if_lt (tgt := 11) dX11_write_1 (by decide) (fun b1 => ?_) (fun b1 => ?_)
    · refine z_bipush (v := (-3)) dX11_write_11 (by decide) ?_
      refine z_iret dX11_write_13 rfl zle ?_
      exact zStp.of C (by unfold sWrite; rw [if_pos (by first | exact Or.inl b1 | exact Or.inr (Int32.not_le.mp b8))])
    · refine z_iload_n dX11_write_4 rfl ?_
      refine z_sipush (v := 255) dX11_write_5 (by decide) ?_
      refine z_icmp_le (tgt := 14) dX11_write_8 (by decide) (fun b8 => ?_) (fun b8 => ?_)
      · refine z_aload_n dX11_write_14 rfl ?_
        refine z_getR (j := 1) (r := 8) kX11 lf_X11_19 (by decide) rfl dX11_write_15 k0_0 s0_0 r0_0_1 (by decide) ?_
        refine z_getIV (j := 2) kX10 lf_X11_80 (by decide) rfl C.text.1 dX11_write_18 k0_8 s0_8 ?_
        refine z_sipush (v := 200) dX11_write_21 (by decide) ?_
        refine z_icmp_lt (tgt := 30) dX11_write_24 (by decide) (fun b24 => ?_) (fun b24 => ?_)
        · have hL : A.L < 200 := (nI_ltI (b := 200) (by have := ok.L; omega) (by omega)).mp b24
          have hn : ¬ (c < 0 ∨ 255 < c) := fun z => z.elim b1 (Int32.not_lt.mpr b8)
          refine z_aload_n dX11_write_30 rfl ?_
          refine z_getR (j := 1) (r := 8) kX11 lf_X11_19 (by decide) rfl dX11_write_31 k0_0 s0_0 r0_0_1 (by decide) ?_
          refine z_iload_n dX11_write_34 rfl ?_
          refine z_vV1 (c_X10_append g l hL C.text.1) mw_X10_append lm_X11_84 mi_X10_append mv_X10_append kX10 (by decide) (Nat.le_of_ble_eq_true rfl) zle k0_8 s0_8 dX11_write_35 (fun M35 q35 => ?_)
          obtain rfl := q35.symm
          refine z_aload_n dX11_write_38 rfl ?_
          refine z_getR (j := 1) (r := 8) kX11 lf_X11_19 (by decide) rfl dX11_write_39 k0_0 s0_0 r0_0_1 (by decide) ?_
          refine z_getIV (j := 2) kX10 lf_X11_80 (by decide) rfl (z_up_kj _ _ _ _) dX11_write_42 k0_8 s0_8 ?_
          refine z_iret dX11_write_45 rfl zle ?_
          have C1 := C.setText (M' := z_up (z_up M 9 A.L c) 8 2 (nI (A.L + 1))) (x := (A.L + 1, upd A.T A.L c)) (z_up_kj _ _ _ _) (fun j hj => by
            rw [z_up_n _ _ _ (by omega)]
            by_cases e : j = A.L
            · rw [e, z_up_kj]; exact (upd_s _ _ _).symm
            · rw [z_up_jn _ _ e]; exact (C.text.2 j (by have : j < A.L + 1 := hj; omega)).trans (upd_n _ _ e).symm) (fun k a b => by rw [z_up_n _ _ _ (by omega), z_up_n _ _ _ (by omega)])
          exact zStp.mk C1.1 C1.2 (by unfold sWrite; rw [if_neg hn, if_neg (by omega)]) rfl
        · have hL : A.L = 200 := by
            have h1 : ¬ A.L < 200 := fun z => b24 ((nI_ltI (a := A.L) (b := 200) (by have := ok.L; omega) (by omega)).mpr z)
            have := ok.L
            omega
          have hn : ¬ (c < 0 ∨ 255 < c) := fun z => z.elim b1 (Int32.not_lt.mpr b8)
          refine z_bipush (v := (-5)) dX11_write_27 (by decide) ?_
          refine z_iret dX11_write_29 rfl zle ?_
          exact zStp.of C (by unfold sWrite; rw [if_neg hn, if_pos hL])
      · refine z_bipush (v := (-3)) dX11_write_11 (by decide) ?_
        refine z_iret dX11_write_13 rfl zle ?_
        exact zStp.of C (by unfold sWrite; rw [if_pos (by first | exact Or.inl b1 | exact Or.inr (Int32.not_le.mp b8))])

set_option maxRecDepth 100000 in
set_option maxHeartbeats 4000000 in
theorem c_X11_erase (g : zG) (l : Launch) {M : zM} {A : aSt} (ok : aOK A) (C : RelC M A) : zMet g l yX11_erase cX11_erase 2 (some .int) 1 0 0 [.ref 0] S0 M (zQi (fun r' M' => zStp M (sErase A) r' M')) := by
  have n8 : A.n ≤ 8 := ok.s.1.1
  have r4 : A.r ≤ 4 := ok.s.1.2.1
  have i6 : A.i ≤ 6 := ok.s.1.2.2.1
  have R : zDR M M 18 A.s A.n A.r A.i := ⟨C.day, fun _ _ => rfl⟩
  · refine zMet.of (by decide) (Nat.le_of_ble_eq_true rfl) ?_
    refine z_aload_n dX11_erase_0 rfl ?_
    refine z_getR (j := 1) (r := 8) kX11 lf_X11_19 (by decide) rfl dX11_erase_1 k0_0 s0_0 r0_0_1 (by decide) ?_
    refine z_getIV (j := 2) kX10 lf_X11_80 (by decide) rfl C.text.1 dX11_erase_4 k0_8 s0_8 ?_
    refine z_istore_n dX11_erase_7 (by decide) rfl rfl ?_
    refine z_aload_n dX11_erase_8 rfl ?_
    refine z_getR (j := 1) (r := 8) kX11 lf_X11_19 (by decide) rfl dX11_erase_9 k0_0 s0_0 r0_0_1 (by decide) ?_
    refine z_vV0 (c_X10_clear g l) mw_X10_clear lm_X11_88 mi_X10_clear mv_X10_clear kX10 (by decide) (Nat.le_of_ble_eq_true rfl) zle k0_8 s0_8 dX11_erase_12 (fun M12 q12 => ?_)
    obtain rfl := q12.symm
    refine z_iload_n dX11_erase_15 rfl ?_
    refine z_iret dX11_erase_16 rfl zle ?_
    have C1 := C.setText (M' := z_up M 8 2 0) (x := (0, A.T)) (z_up_kj _ _ _ _) (fun j hj => absurd hj (Nat.not_lt_zero _)) (fun k a b => by rw [z_up_n _ _ _ (by omega)])
    exact zStp.mk C1.1 C1.2 rfl rfl

set_option maxRecDepth 100000 in
set_option maxHeartbeats 4000000 in
theorem c_X11_fault (g : zG) (l : Launch) {M : zM} {A : aSt} (ok : aOK A) (C : RelC M A) : zMet g l yX11_fault cX11_fault 1 (some .int) 10 0 0 [.ref 0] S0 M (zQi (fun r' M' => zStp M (sFault A) r' M')) := by
  have n8 : A.n ≤ 8 := ok.s.1.1
  have r4 : A.r ≤ 4 := ok.s.1.2.1
  have i6 : A.i ≤ 6 := ok.s.1.2.2.1
  have R : zDR M M 18 A.s A.n A.r A.i := ⟨C.day, fun _ _ => rfl⟩
  · refine zMet.of (by decide) (Nat.le_of_ble_eq_true rfl) ?_
    refine z_aload_n dX11_fault_0 rfl ?_
    refine z_getR (j := 2) (r := 10) kX11 lf_X11_28 (by decide) rfl dX11_fault_1 k0_0 s0_0 r0_0_2 (by decide) ?_
    refine z_aload_n dX11_fault_4 rfl ?_
    refine z_getR (j := 0) (r := 1) kX11 lf_X11_10 (by decide) rfl dX11_fault_5 k0_0 s0_0 r0_0_0 (by decide) ?_
    refine z_iV1 (c_X5_findFault g l ok.L C.text.1 C.text.2 C.road ⟨n8, r4, i6⟩) mw_X5_findFault lm_X11_91 mi_X5_findFault mv_X5_findFault kX5 (by decide) (Nat.le_of_ble_eq_true rfl) zle k0_10 s0_10 dX11_fault_8 (fun r8 M8 q8 => ?_)
    obtain ⟨qa, qb⟩ := q8
    refine z_iret dX11_fault_11 rfl zle ?_
    have C1 := C.ff qb
    exact zStp.mk C1.1 C1.2 rfl qa

set_option maxRecDepth 100000 in
set_option maxHeartbeats 4000000 in
theorem lp_stage (g : zG) (l : Launch) {M0 : zM} {n r i m : Nat} {σ : Dy} (ok : dOK σ n r i) (hm : m ≤ 1000) : ∀ (k h : Nat) (M : zM), h ≤ m → m - h < k → zDR M0 M 18 (dIter σ n r i h) n r i → zA g l yX11_stage cX11_stage 3 (some .int) 4 0 0 (zQi (fun r' M' => r' = (dIter σ n r i m) 2 ∧ zDR M0 M' 18 (dIter σ n r i m) n r i)) 45 0 0 S0 M [.ref 0, .int (nI m), .int (nI h)] [] := by
  have n8 := ok.1.1
  have r4 := ok.1.2.1
  have i6 := ok.1.2.2.1
  intro k
  induction k with
  | zero => intro h M hh hk; exact absurd hk (Nat.not_lt_zero _)
  | succ k ih =>
    intro h M hh hk R
    have okh := dIter_ok ok h
    refine z_iload_n dX11_stage_45 rfl ?_
    refine z_iload_n dX11_stage_46 rfl ?_
    refine z_icmp_ge (tgt := 63) dX11_stage_47 (by decide) (fun b47 => ?_) (fun b47 => ?_)
    · have e : m ≤ h := (nI_leI (by omega) (by omega)).mp b47
      have e2 : h = m := by omega
      subst e2
      refine z_aload_n dX11_stage_63 rfl ?_
      refine z_getR (j := 3) (r := 18) kX11 lf_X11_37 (by decide) rfl dX11_stage_64 k0_0 s0_0 r0_0_3 (by decide) ?_
      refine z_getIV (j := 1) kX1 lf_X11_158 (by decide) rfl R.1.2.1 dX11_stage_67 k0_18 s0_18 ?_
      refine z_iret dX11_stage_70 rfl zle ?_
      exact ⟨rfl, R⟩
    · have hn : h < m := by
        rcases Nat.lt_or_ge h m with z | z
        · exact z
        · exact absurd (nI_le z (by omega)) b47
      refine z_aload_n dX11_stage_50 rfl ?_
      refine z_getR (j := 3) (r := 18) kX11 lf_X11_37 (by decide) rfl dX11_stage_51 k0_0 s0_0 r0_0_3 (by decide) ?_
      refine z_vV0 (c_X1_passStage g l (by decide) R okh) mw_X1_passStage lm_X11_165 mi_X1_passStage mv_X1_passStage kX1 (by decide) (Nat.le_of_ble_eq_true rfl) zle k0_18 s0_18 dX11_stage_54 (fun M54 q54 => ?_)
      refine z_iincN (k := h) dX11_stage_57 rfl rfl (by decide) rfl rfl ?_
      refine z_goto (tgt := 45) dX11_stage_60 (by decide) ?_
      exact ih (h + 1) _ (by omega) (by omega) q54

set_option maxRecDepth 100000 in
set_option maxHeartbeats 4000000 in
theorem c_X11_stage (g : zG) (l : Launch) {M : zM} {A : aSt} (ok : aOK A) (C : RelC M A) {x : Int32} : zMet g l yX11_stage cX11_stage 3 (some .int) 4 0 0 [.ref 0, .int x] S0 M (zQi (fun r' M' => zStp M (sStage A x) r' M')) := by
  have n8 : A.n ≤ 8 := ok.s.1.1
  have r4 : A.r ≤ 4 := ok.s.1.2.1
  have i6 : A.i ≤ 6 := ok.s.1.2.2.1
  have R : zDR M M 18 A.s A.n A.r A.i := ⟨C.day, fun _ _ => rfl⟩
  obtain ⟨p, hp, h1, h2, h3⟩ := C.past
  rcases zIdx x (a := 1) (c := 12) (by omega) (by omega) with ⟨m, hm1, hm2, rfl⟩ | hx
  · have b1 : ¬ (nI m < 1 ∨ (12 : Int32) < nI m) := fun z => z.elim (fun z2 => absurd ((nI_ltI (b := 1) (by omega) (by omega)).mp z2) (by omega)) (fun z2 => absurd ((nI_ltI (a := 12) (by omega) (by omega)).mp z2) (by omega))
    have b0 : (nI m).toNatClampNeg = m := nI_clamp (by omega)
    refine zMet.of (by decide) (Nat.le_of_ble_eq_true rfl) ?_
    refine z_iload_n dX11_stage_0 rfl ?_
    refine z_iconst (v := 1) dX11_stage_1 (by decide) ?_
    refine z_icmp_lt (tgt := 11) dX11_stage_2 (by decide) (fun b2 => ?_) (fun b2 => ?_)
    · exact absurd (Or.inl b2) b1
    · refine z_iload_n dX11_stage_5 rfl ?_
      refine z_bipush (v := 12) dX11_stage_6 (by decide) ?_
      refine z_icmp_le (tgt := 14) dX11_stage_8 (by decide) (fun b8 => ?_) (fun b8 => ?_)
      · refine z_aload_n dX11_stage_14 rfl ?_
        refine z_getR (j := 3) (r := 18) kX11 lf_X11_37 (by decide) rfl dX11_stage_15 k0_0 s0_0 r0_0_3 (by decide) ?_
        refine z_getIV (j := 1) kX1 lf_X11_158 (by decide) rfl R.1.2.1 dX11_stage_18 k0_18 s0_18 ?_
        refine z_iload_n dX11_stage_21 rfl ?_
        refine z_iadd dX11_stage_22 ?_
        refine z_sipush (v := 999) dX11_stage_23 (by decide) ?_
        refine z_icmp_le (tgt := 32) dX11_stage_26 (by decide) (fun b26 => ?_) (fun b26 => ?_)
        · refine z_aload_n dX11_stage_32 rfl ?_
          refine z_getR (j := 5) (r := 32) kX11 lf_X11_47 (by decide) rfl dX11_stage_33 k0_0 s0_0 r0_0_5 (by decide) ?_
          refine z_aload_n dX11_stage_36 rfl ?_
          refine z_getR (j := 3) (r := 18) kX11 lf_X11_37 (by decide) rfl dX11_stage_37 k0_0 s0_0 r0_0_3 (by decide) ?_
          refine z_vV1 (c_X6_remember g l C.day ⟨n8, r4⟩ hp ok.u h1 h2) mw_X6_remember lm_X11_161 mi_X6_remember mv_X6_remember kX6 (by decide) (Nat.le_of_ble_eq_true rfl) zle k0_32 s0_32 dX11_stage_40 (fun M40 q40 => ?_)
          have C1 := C.push ok hp h3 q40
          have R1 : zDR M40 M40 18 A.s A.n A.r A.i := ⟨C1.1.day, fun _ _ => rfl⟩
          refine z_iconst (v := 0) dX11_stage_43 (by decide) ?_
          refine z_istore_n dX11_stage_44 (by decide) rfl rfl ?_
          refine (lp_stage g l ok.s (by omega) (m + 1) 0 _ (Nat.zero_le _) (by omega) R1).weak (fun v S2 M2 q => ?_)
          obtain ⟨qa, rr, qb, qc, qd⟩ := q
          refine ⟨qa, rr, qb, ?_⟩
          have C2 := C1.1.setS qd
          exact zStp.mk C2.1 (fun k a => (C2.2 k a).trans (C1.2 k a)) (by unfold sStage; rw [if_neg b1, if_neg (Int32.not_lt.mpr b26), b0]) qc
        · refine z_bipush (v := (-5)) dX11_stage_29 (by decide) ?_
          refine z_iret dX11_stage_31 rfl zle ?_
          exact zStp.of C (by unfold sStage; rw [if_neg b1, if_pos (Int32.not_le.mp b26)])
      · exact absurd (Or.inr (Int32.not_le.mp b8)) b1
  · refine zMet.of (by decide) (Nat.le_of_ble_eq_true rfl) ?_
    refine z_iload_n dX11_stage_0 rfl ?_
    refine z_iconst (v := 1) dX11_stage_1 (by decide) ?_
    refine z_icmp_lt (tgt := 11) dX11_stage_2 (by decide) (fun b2 => ?_) (fun b2 => ?_)
    · refine z_bipush (v := (-3)) dX11_stage_11 (by decide) ?_
      refine z_iret dX11_stage_13 rfl zle ?_
      exact zStp.of C (if_pos hx)
    · refine z_iload_n dX11_stage_5 rfl ?_
      refine z_bipush (v := 12) dX11_stage_6 (by decide) ?_
      refine z_icmp_le (tgt := 14) dX11_stage_8 (by decide) (fun b8 => ?_) (fun b8 => ?_)
      · exact (hx.elim (fun z => absurd z b2) (fun z => absurd z (Int32.not_lt.mpr b8)))
      · refine z_bipush (v := (-3)) dX11_stage_11 (by decide) ?_
        refine z_iret dX11_stage_13 rfl zle ?_
        exact zStp.of C (if_pos hx)

set_option maxRecDepth 100000 in
set_option maxHeartbeats 4000000 in
theorem c_X11_oats (g : zG) (l : Launch) {M : zM} {A : aSt} (ok : aOK A) (C : RelC M A) {x : Int32} : zMet g l yX11_oats cX11_oats 2 (some .int) 3 0 0 [.ref 0, .int x] S0 M (zQi (fun r' M' => zStp M (sOats A x) r' M')) := by
  have n8 : A.n ≤ 8 := ok.s.1.1
  have r4 : A.r ≤ 4 := ok.s.1.2.1
  have i6 : A.i ≤ 6 := ok.s.1.2.2.1
  have R : zDR M M 18 A.s A.n A.r A.i := ⟨C.day, fun _ _ => rfl⟩
  obtain ⟨p, hp, h1, h2, h3⟩ := C.past
  rcases zInD x (show A.n < 1000 by omega) with ⟨h, hh, rfl⟩ | hx
  · refine zMet.of (by decide) (Nat.le_of_ble_eq_true rfl) ?_
    refine z_aload_n dX11_oats_0 rfl ?_
    refine z_getR (j := 0) (r := 1) kX11 lf_X11_10 (by decide) rfl dX11_oats_1 k0_0 s0_0 r0_0_0 (by decide) ?_
    refine z_iload_n dX11_oats_4 rfl ?_
    refine z_iV1 (c_X7_hasHour g l (by decide)) mw_X7_hasHour lm_X11_107 mi_X7_hasHour mv_X7_hasHour kX7 (by decide) (Nat.le_of_ble_eq_true rfl) zle k0_1 s0_1 dX11_oats_5 (fun r5 M5 q5 => ?_)
    obtain ⟨qm5, qr5⟩ := q5
    obtain rfl := qm5.symm
    obtain ⟨c5, rfl⟩ | ⟨c5, rfl⟩ := qr5
    · refine z_if_ne (tgt := 14) dX11_oats_8 (by decide) (fun b8 => ?_) (fun b8 => ?_)
      · refine z_aload_n dX11_oats_14 rfl ?_
        refine z_getR (j := 3) (r := 18) kX11 lf_X11_37 (by decide) rfl dX11_oats_15 k0_0 s0_0 r0_0_3 (by decide) ?_
        refine z_getR (j := 3) (r := 20) kX1 lf_X11_121 (by decide) rfl dX11_oats_18 k0_18 s0_18 r0_18_3 (by decide) ?_
        refine z_iload_n dX11_oats_21 rfl ?_
        refine z_ialdV (j := h) rfl (by omega) (R.1.2.2.2.1 h (by omega)).2.1 dX11_oats_22 k0_20 s0_20 ?_
        refine z_if_ne (tgt := 29) dX11_oats_23 (by decide) (fun b23 => ?_) (fun b23 => ?_)
        · refine z_aload_n dX11_oats_29 rfl ?_
          refine z_getR (j := 5) (r := 32) kX11 lf_X11_47 (by decide) rfl dX11_oats_30 k0_0 s0_0 r0_0_5 (by decide) ?_
          refine z_aload_n dX11_oats_33 rfl ?_
          refine z_getR (j := 3) (r := 18) kX11 lf_X11_37 (by decide) rfl dX11_oats_34 k0_0 s0_0 r0_0_3 (by decide) ?_
          refine z_vV1 (c_X6_remember g l C.day ⟨n8, r4⟩ hp ok.u h1 h2) mw_X6_remember lm_X11_161 mi_X6_remember mv_X6_remember kX6 (by decide) (Nat.le_of_ble_eq_true rfl) zle k0_32 s0_32 dX11_oats_37 (fun M37 q37 => ?_)
          have C1 := C.push ok hp h3 q37
          have R1 : zDR M37 M37 18 A.s A.n A.r A.i := ⟨C1.1.day, fun _ _ => rfl⟩
          refine z_aload_n dX11_oats_40 rfl ?_
          refine z_getR (j := 3) (r := 18) kX11 lf_X11_37 (by decide) rfl dX11_oats_41 k0_0 s0_0 r0_0_3 (by decide) ?_
          refine z_iload_n dX11_oats_44 rfl ?_
          refine z_vV1 (c_X1_giveOats g l (by decide) R1 hh ⟨n8, r4, i6⟩) mw_X1_giveOats lm_X11_168 mi_X1_giveOats mv_X1_giveOats kX1 (by decide) (Nat.le_of_ble_eq_true rfl) zle k0_18 s0_18 dX11_oats_45 (fun M45 q45 => ?_)
          refine z_aload_n dX11_oats_48 rfl ?_
          refine z_getR (j := 3) (r := 18) kX11 lf_X11_37 (by decide) rfl dX11_oats_49 k0_0 s0_0 r0_0_3 (by decide) ?_
          refine z_getR (j := 3) (r := 20) kX1 lf_X11_121 (by decide) rfl dX11_oats_52 k0_18 s0_18 r0_18_3 (by decide) ?_
          refine z_iload_n dX11_oats_55 rfl ?_
          refine z_ialdV (j := h) rfl (by omega) (q45.1.2.2.2.1 h (by omega)).2.1 dX11_oats_56 k0_20 s0_20 ?_
          refine z_iret dX11_oats_57 rfl zle ?_
          have C2 := C1.1.setS q45
          exact zStp.mk C2.1 (fun k a => (C2.2 k a).trans (C1.2 k a)) (by unfold sOats; rw [aIx_in hh (by omega)]; exact if_neg b23) rfl
        · refine z_bipush (v := (-4)) dX11_oats_26 (by decide) ?_
          refine z_iret dX11_oats_28 rfl zle ?_
          exact zStp.of C (by unfold sOats; rw [aIx_in hh (by omega)]; exact if_pos b23)
      · exact absurd b8 (by decide)
    · exact absurd (show 0 ≤ nI h ∧ nI h < M 1 1 by rw [C.road.2.1]; exact zInP hh (by omega)) c5
  · refine zMet.of (by decide) (Nat.le_of_ble_eq_true rfl) ?_
    refine z_aload_n dX11_oats_0 rfl ?_
    refine z_getR (j := 0) (r := 1) kX11 lf_X11_10 (by decide) rfl dX11_oats_1 k0_0 s0_0 r0_0_0 (by decide) ?_
    refine z_iload_n dX11_oats_4 rfl ?_
    refine z_iV1 (c_X7_hasHour g l (by decide)) mw_X7_hasHour lm_X11_107 mi_X7_hasHour mv_X7_hasHour kX7 (by decide) (Nat.le_of_ble_eq_true rfl) zle k0_1 s0_1 dX11_oats_5 (fun r5 M5 q5 => ?_)
    obtain ⟨qm5, qr5⟩ := q5
    obtain rfl := qm5.symm
    obtain ⟨c5, rfl⟩ | ⟨c5, rfl⟩ := qr5
    · exact absurd (show _ ∧ _ < nI A.n by rw [← C.road.2.1]; exact c5) hx
    · refine z_if_ne (tgt := 14) dX11_oats_8 (by decide) (fun b8 => ?_) (fun b8 => ?_)
      · exact absurd b8 (by decide)
      · refine z_bipush (v := (-2)) dX11_oats_11 (by decide) ?_
        refine z_iret dX11_oats_13 rfl zle ?_
        exact zStp.of C (by unfold sOats; rw [aIx_out hx])

set_option maxRecDepth 100000 in
set_option maxHeartbeats 4000000 in
theorem c_X11_shoe (g : zG) (l : Launch) {M : zM} {A : aSt} (ok : aOK A) (C : RelC M A) {x : Int32} : zMet g l yX11_shoe cX11_shoe 3 (some .int) 3 0 0 [.ref 0, .int x] S0 M (zQi (fun r' M' => zStp M (sShoe A x) r' M')) := by
  have n8 : A.n ≤ 8 := ok.s.1.1
  have r4 : A.r ≤ 4 := ok.s.1.2.1
  have i6 : A.i ≤ 6 := ok.s.1.2.2.1
  have R : zDR M M 18 A.s A.n A.r A.i := ⟨C.day, fun _ _ => rfl⟩
  obtain ⟨p, hp, h1, h2, h3⟩ := C.past
  rcases zInD x (show A.n < 1000 by omega) with ⟨h, hh, rfl⟩ | hx
  · refine zMet.of (by decide) (Nat.le_of_ble_eq_true rfl) ?_
    refine z_aload_n dX11_shoe_0 rfl ?_
    refine z_getR (j := 0) (r := 1) kX11 lf_X11_10 (by decide) rfl dX11_shoe_1 k0_0 s0_0 r0_0_0 (by decide) ?_
    refine z_iload_n dX11_shoe_4 rfl ?_
    refine z_iV1 (c_X7_hasHour g l (by decide)) mw_X7_hasHour lm_X11_107 mi_X7_hasHour mv_X7_hasHour kX7 (by decide) (Nat.le_of_ble_eq_true rfl) zle k0_1 s0_1 dX11_shoe_5 (fun r5 M5 q5 => ?_)
    obtain ⟨qm5, qr5⟩ := q5
    obtain rfl := qm5.symm
    obtain ⟨c5, rfl⟩ | ⟨c5, rfl⟩ := qr5
    · refine z_if_ne (tgt := 14) dX11_shoe_8 (by decide) (fun b8 => ?_) (fun b8 => ?_)
      · refine z_aload_n dX11_shoe_14 rfl ?_
        refine z_getR (j := 3) (r := 18) kX11 lf_X11_37 (by decide) rfl dX11_shoe_15 k0_0 s0_0 r0_0_3 (by decide) ?_
        refine z_iload_n dX11_shoe_18 rfl ?_
        refine z_iV1 (c_X1_isLame g l (by decide) R hh ⟨n8, r4, i6⟩) mw_X1_isLame lm_X11_124 mi_X1_isLame mv_X1_isLame kX1 (by decide) (Nat.le_of_ble_eq_true rfl) zle k0_18 s0_18 dX11_shoe_19 (fun r19 M19 q19 => ?_)
        obtain ⟨qm19, qr19⟩ := q19
        obtain rfl := qm19.symm
        obtain ⟨c19, rfl⟩ | ⟨c19, rfl⟩ := qr19
        · refine z_if_ne (tgt := 28) dX11_shoe_22 (by decide) (fun b22 => ?_) (fun b22 => ?_)
          · refine z_aload_n dX11_shoe_28 rfl ?_
            refine z_getR (j := 5) (r := 32) kX11 lf_X11_47 (by decide) rfl dX11_shoe_29 k0_0 s0_0 r0_0_5 (by decide) ?_
            refine z_aload_n dX11_shoe_32 rfl ?_
            refine z_getR (j := 3) (r := 18) kX11 lf_X11_37 (by decide) rfl dX11_shoe_33 k0_0 s0_0 r0_0_3 (by decide) ?_
            refine z_vV1 (c_X6_remember g l C.day ⟨n8, r4⟩ hp ok.u h1 h2) mw_X6_remember lm_X11_161 mi_X6_remember mv_X6_remember kX6 (by decide) (Nat.le_of_ble_eq_true rfl) zle k0_32 s0_32 dX11_shoe_36 (fun M36 q36 => ?_)
            have C1 := C.push ok hp h3 q36
            have R1 : zDR M36 M36 18 A.s A.n A.r A.i := ⟨C1.1.day, fun _ _ => rfl⟩
            refine z_aload_n dX11_shoe_39 rfl ?_
            refine z_getR (j := 3) (r := 18) kX11 lf_X11_37 (by decide) rfl dX11_shoe_40 k0_0 s0_0 r0_0_3 (by decide) ?_
            refine z_getR (j := 3) (r := 20) kX1 lf_X11_121 (by decide) rfl dX11_shoe_43 k0_18 s0_18 r0_18_3 (by decide) ?_
            refine z_iload_n dX11_shoe_46 rfl ?_
            refine z_ialdV (j := h) rfl (by omega) (R1.1.2.2.2.1 h (by omega)).2.1 dX11_shoe_47 k0_20 s0_20 ?_
            refine z_istore_n dX11_shoe_48 (by decide) rfl rfl ?_
            refine z_aload_n dX11_shoe_49 rfl ?_
            refine z_getR (j := 3) (r := 18) kX11 lf_X11_37 (by decide) rfl dX11_shoe_50 k0_0 s0_0 r0_0_3 (by decide) ?_
            refine z_iload_n dX11_shoe_53 rfl ?_
            refine z_vV1 (c_X1_giveShoes g l (by decide) R1 hh ⟨n8, r4, i6⟩) mw_X1_giveShoes lm_X11_171 mi_X1_giveShoes mv_X1_giveShoes kX1 (by decide) (Nat.le_of_ble_eq_true rfl) zle k0_18 s0_18 dX11_shoe_54 (fun M54 q54 => ?_)
            refine z_iload_n dX11_shoe_57 rfl ?_
            refine z_iret dX11_shoe_58 rfl zle ?_
            have C2 := C1.1.setS q54
            exact zStp.mk C2.1 (fun k a => (C2.2 k a).trans (C1.2 k a)) (by unfold sShoe; rw [aIx_in hh (by omega)]; exact if_neg (by rw [c19]; decide)) rfl
          · exact absurd b22 (by decide)
        · refine z_if_ne (tgt := 28) dX11_shoe_22 (by decide) (fun b22 => ?_) (fun b22 => ?_)
          · exact absurd b22 (by decide)
          · refine z_bipush (v := (-4)) dX11_shoe_25 (by decide) ?_
            refine z_iret dX11_shoe_27 rfl zle ?_
            exact zStp.of C (by unfold sShoe; rw [aIx_in hh (by omega)]; exact if_pos ((ok.s.2.1 h hh).2.2.2.2.resolve_right (fun z => c19 z.1)))
      · exact absurd b8 (by decide)
    · exact absurd (show 0 ≤ nI h ∧ nI h < M 1 1 by rw [C.road.2.1]; exact zInP hh (by omega)) c5
  · refine zMet.of (by decide) (Nat.le_of_ble_eq_true rfl) ?_
    refine z_aload_n dX11_shoe_0 rfl ?_
    refine z_getR (j := 0) (r := 1) kX11 lf_X11_10 (by decide) rfl dX11_shoe_1 k0_0 s0_0 r0_0_0 (by decide) ?_
    refine z_iload_n dX11_shoe_4 rfl ?_
    refine z_iV1 (c_X7_hasHour g l (by decide)) mw_X7_hasHour lm_X11_107 mi_X7_hasHour mv_X7_hasHour kX7 (by decide) (Nat.le_of_ble_eq_true rfl) zle k0_1 s0_1 dX11_shoe_5 (fun r5 M5 q5 => ?_)
    obtain ⟨qm5, qr5⟩ := q5
    obtain rfl := qm5.symm
    obtain ⟨c5, rfl⟩ | ⟨c5, rfl⟩ := qr5
    · exact absurd (show _ ∧ _ < nI A.n by rw [← C.road.2.1]; exact c5) hx
    · refine z_if_ne (tgt := 14) dX11_shoe_8 (by decide) (fun b8 => ?_) (fun b8 => ?_)
      · exact absurd b8 (by decide)
      · refine z_bipush (v := (-2)) dX11_shoe_11 (by decide) ?_
        refine z_iret dX11_shoe_13 rfl zle ?_
        exact zStp.of C (by unfold sShoe; rw [aIx_out hx])

set_option maxRecDepth 100000 in
set_option maxHeartbeats 4000000 in
theorem c_X11_lead (g : zG) (l : Launch) {M : zM} {A : aSt} (ok : aOK A) (C : RelC M A) {x z : Int32} : zMet g l yX11_lead cX11_lead 4 (some .int) 3 0 0 [.ref 0, .int x, .int z] S0 M (zQi (fun r' M' => zStp M (sLead A x z) r' M')) := by
  have n8 : A.n ≤ 8 := ok.s.1.1
  have r4 : A.r ≤ 4 := ok.s.1.2.1
  have i6 : A.i ≤ 6 := ok.s.1.2.2.1
  have R : zDR M M 18 A.s A.n A.r A.i := ⟨C.day, fun _ _ => rfl⟩
  obtain ⟨p, hp, h1, h2, h3⟩ := C.past
  rcases zInD x (show A.n < 1000 by omega) with ⟨h, hh, rfl⟩ | hx
  · rcases zInD z (show A.i < 1000 by omega) with ⟨j, hj, rfl⟩ | hy
    · refine zMet.of (by decide) (Nat.le_of_ble_eq_true rfl) ?_
      refine z_aload_n dX11_lead_0 rfl ?_
      refine z_getR (j := 0) (r := 1) kX11 lf_X11_10 (by decide) rfl dX11_lead_1 k0_0 s0_0 r0_0_0 (by decide) ?_
      refine z_iload_n dX11_lead_4 rfl ?_
      refine z_iV1 (c_X7_hasHour g l (by decide)) mw_X7_hasHour lm_X11_107 mi_X7_hasHour mv_X7_hasHour kX7 (by decide) (Nat.le_of_ble_eq_true rfl) zle k0_1 s0_1 dX11_lead_5 (fun r5 M5 q5 => ?_)
      obtain ⟨qm5, qr5⟩ := q5
      obtain rfl := qm5.symm
      obtain ⟨c5, rfl⟩ | ⟨c5, rfl⟩ := qr5
      · refine z_if_eq (tgt := 22) dX11_lead_8 (by decide) (fun b8 => ?_) (fun b8 => ?_)
        · exact absurd b8 (by decide)
        · refine z_aload_n dX11_lead_11 rfl ?_
          refine z_getR (j := 0) (r := 1) kX11 lf_X11_10 (by decide) rfl dX11_lead_12 k0_0 s0_0 r0_0_0 (by decide) ?_
          refine z_iload_n dX11_lead_15 rfl ?_
          refine z_iV1 (c_X7_hasInn g l (by decide)) mw_X7_hasInn lm_X11_142 mi_X7_hasInn mv_X7_hasInn kX7 (by decide) (Nat.le_of_ble_eq_true rfl) zle k0_1 s0_1 dX11_lead_16 (fun r16 M16 q16 => ?_)
          obtain ⟨qm16, qr16⟩ := q16
          obtain rfl := qm16.symm
          obtain ⟨c16, rfl⟩ | ⟨c16, rfl⟩ := qr16
          · refine z_if_ne (tgt := 25) dX11_lead_19 (by decide) (fun b19 => ?_) (fun b19 => ?_)
            · refine z_aload_n dX11_lead_25 rfl ?_
              refine z_getR (j := 3) (r := 18) kX11 lf_X11_37 (by decide) rfl dX11_lead_26 k0_0 s0_0 r0_0_3 (by decide) ?_
              refine z_getR (j := 2) (r := 19) kX1 lf_X11_118 (by decide) rfl dX11_lead_29 k0_18 s0_18 r0_18_2 (by decide) ?_
              refine z_iload_n dX11_lead_32 rfl ?_
              refine z_ialdV (j := h) rfl (by omega) (R.1.2.2.2.1 h (by omega)).1 dX11_lead_33 k0_19 s0_19 ?_
              refine z_istore_n dX11_lead_34 (by decide) rfl rfl ?_
              refine z_iload_n dX11_lead_35 rfl ?_
              refine z_iload_n dX11_lead_36 rfl ?_
              refine z_icmp_ne (tgt := 43) dX11_lead_37 (by decide) (fun b37 => ?_) (fun b37 => ?_)
              · refine z_aload_n dX11_lead_43 rfl ?_
                refine z_getR (j := 5) (r := 32) kX11 lf_X11_47 (by decide) rfl dX11_lead_44 k0_0 s0_0 r0_0_5 (by decide) ?_
                refine z_aload_n dX11_lead_47 rfl ?_
                refine z_getR (j := 3) (r := 18) kX11 lf_X11_37 (by decide) rfl dX11_lead_48 k0_0 s0_0 r0_0_3 (by decide) ?_
                refine z_vV1 (c_X6_remember g l C.day ⟨n8, r4⟩ hp ok.u h1 h2) mw_X6_remember lm_X11_161 mi_X6_remember mv_X6_remember kX6 (by decide) (Nat.le_of_ble_eq_true rfl) zle k0_32 s0_32 dX11_lead_51 (fun M51 q51 => ?_)
                have C1 := C.push ok hp h3 q51
                have R1 : zDR M51 M51 18 A.s A.n A.r A.i := ⟨C1.1.day, fun _ _ => rfl⟩
                refine z_aload_n dX11_lead_54 rfl ?_
                refine z_getR (j := 3) (r := 18) kX11 lf_X11_37 (by decide) rfl dX11_lead_55 k0_0 s0_0 r0_0_3 (by decide) ?_
                refine z_getR (j := 2) (r := 19) kX1 lf_X11_118 (by decide) rfl dX11_lead_58 k0_18 s0_18 r0_18_2 (by decide) ?_
                refine z_iload_n dX11_lead_61 rfl ?_
                refine z_iload_n dX11_lead_62 rfl ?_
                refine z_iastE (j := h) rfl (by omega) dX11_lead_63 k0_19 s0_19 (fun M63 e63 => ?_)
                have R63 := R1.row (by decide : 18 ∈ zDays) 1 19 h _ e63 n8 r4 (by omega) i6
                refine z_iload_n dX11_lead_64 rfl ?_
                refine z_iret dX11_lead_65 rfl zle ?_
                have C2 := C1.1.setS R63
                exact zStp.mk C2.1 (fun k a => (C2.2 k a).trans (C1.2 k a)) (by unfold sLead; rw [aIx_in hh (by omega), aIx_in hj (by omega)]; exact if_neg b37) rfl
              · refine z_bipush (v := (-4)) dX11_lead_40 (by decide) ?_
                refine z_iret dX11_lead_42 rfl zle ?_
                exact zStp.of C (by unfold sLead; rw [aIx_in hh (by omega), aIx_in hj (by omega)]; exact if_pos b37)
            · exact absurd b19 (by decide)
          · exact absurd (show 0 ≤ nI j ∧ nI j < M 1 0 by rw [C.road.1]; exact zInP hj (by omega)) c16
      · exact absurd (show 0 ≤ nI h ∧ nI h < M 1 1 by rw [C.road.2.1]; exact zInP hh (by omega)) c5
    · refine zMet.of (by decide) (Nat.le_of_ble_eq_true rfl) ?_
      refine z_aload_n dX11_lead_0 rfl ?_
      refine z_getR (j := 0) (r := 1) kX11 lf_X11_10 (by decide) rfl dX11_lead_1 k0_0 s0_0 r0_0_0 (by decide) ?_
      refine z_iload_n dX11_lead_4 rfl ?_
      refine z_iV1 (c_X7_hasHour g l (by decide)) mw_X7_hasHour lm_X11_107 mi_X7_hasHour mv_X7_hasHour kX7 (by decide) (Nat.le_of_ble_eq_true rfl) zle k0_1 s0_1 dX11_lead_5 (fun r5 M5 q5 => ?_)
      obtain ⟨qm5, qr5⟩ := q5
      obtain rfl := qm5.symm
      obtain ⟨c5, rfl⟩ | ⟨c5, rfl⟩ := qr5
      · refine z_if_eq (tgt := 22) dX11_lead_8 (by decide) (fun b8 => ?_) (fun b8 => ?_)
        · exact absurd b8 (by decide)
        · refine z_aload_n dX11_lead_11 rfl ?_
          refine z_getR (j := 0) (r := 1) kX11 lf_X11_10 (by decide) rfl dX11_lead_12 k0_0 s0_0 r0_0_0 (by decide) ?_
          refine z_iload_n dX11_lead_15 rfl ?_
          refine z_iV1 (c_X7_hasInn g l (by decide)) mw_X7_hasInn lm_X11_142 mi_X7_hasInn mv_X7_hasInn kX7 (by decide) (Nat.le_of_ble_eq_true rfl) zle k0_1 s0_1 dX11_lead_16 (fun r16 M16 q16 => ?_)
          obtain ⟨qm16, qr16⟩ := q16
          obtain rfl := qm16.symm
          obtain ⟨c16, rfl⟩ | ⟨c16, rfl⟩ := qr16
          · exact absurd (show _ ∧ _ < nI A.i by rw [← C.road.1]; exact c16) hy
          · refine z_if_ne (tgt := 25) dX11_lead_19 (by decide) (fun b19 => ?_) (fun b19 => ?_)
            · exact absurd b19 (by decide)
            · refine z_bipush (v := (-2)) dX11_lead_22 (by decide) ?_
              refine z_iret dX11_lead_24 rfl zle ?_
              exact zStp.of C (by unfold sLead; rw [aIx_in hh (by omega), aIx_out hy])
      · exact absurd (show 0 ≤ nI h ∧ nI h < M 1 1 by rw [C.road.2.1]; exact zInP hh (by omega)) c5
  · refine zMet.of (by decide) (Nat.le_of_ble_eq_true rfl) ?_
    refine z_aload_n dX11_lead_0 rfl ?_
    refine z_getR (j := 0) (r := 1) kX11 lf_X11_10 (by decide) rfl dX11_lead_1 k0_0 s0_0 r0_0_0 (by decide) ?_
    refine z_iload_n dX11_lead_4 rfl ?_
    refine z_iV1 (c_X7_hasHour g l (by decide)) mw_X7_hasHour lm_X11_107 mi_X7_hasHour mv_X7_hasHour kX7 (by decide) (Nat.le_of_ble_eq_true rfl) zle k0_1 s0_1 dX11_lead_5 (fun r5 M5 q5 => ?_)
    obtain ⟨qm5, qr5⟩ := q5
    obtain rfl := qm5.symm
    obtain ⟨c5, rfl⟩ | ⟨c5, rfl⟩ := qr5
    · exact absurd (show _ ∧ _ < nI A.n by rw [← C.road.2.1]; exact c5) hx
    · refine z_if_eq (tgt := 22) dX11_lead_8 (by decide) (fun b8 => ?_) (fun b8 => ?_)
      · refine z_bipush (v := (-2)) dX11_lead_22 (by decide) ?_
        refine z_iret dX11_lead_24 rfl zle ?_
        exact zStp.of C (by unfold sLead; rw [aIx_out hx])
      · exact absurd b8 (by decide)

set_option maxRecDepth 100000 in
set_option maxHeartbeats 4000000 in
theorem c_X11_turn (g : zG) (l : Launch) {M : zM} {A : aSt} (ok : aOK A) (C : RelC M A) {x z : Int32} : zMet g l yX11_turn cX11_turn 4 (some .int) 3 0 0 [.ref 0, .int x, .int z] S0 M (zQi (fun r' M' => zStp M (sTurn A x z) r' M')) := by
  have n8 : A.n ≤ 8 := ok.s.1.1
  have r4 : A.r ≤ 4 := ok.s.1.2.1
  have i6 : A.i ≤ 6 := ok.s.1.2.2.1
  have R : zDR M M 18 A.s A.n A.r A.i := ⟨C.day, fun _ _ => rfl⟩
  obtain ⟨p, hp, h1, h2, h3⟩ := C.past
  rcases zInD x (show A.r < 1000 by omega) with ⟨h, hh, rfl⟩ | hx
  · rcases zInD z (show A.i < 1000 by omega) with ⟨j, hj, rfl⟩ | hy
    · refine zMet.of (by decide) (Nat.le_of_ble_eq_true rfl) ?_
      refine z_aload_n dX11_turn_0 rfl ?_
      refine z_getR (j := 0) (r := 1) kX11 lf_X11_10 (by decide) rfl dX11_turn_1 k0_0 s0_0 r0_0_0 (by decide) ?_
      refine z_iload_n dX11_turn_4 rfl ?_
      refine z_iV1 (c_X7_hasRider g l (by decide)) mw_X7_hasRider lm_X11_130 mi_X7_hasRider mv_X7_hasRider kX7 (by decide) (Nat.le_of_ble_eq_true rfl) zle k0_1 s0_1 dX11_turn_5 (fun r5 M5 q5 => ?_)
      obtain ⟨qm5, qr5⟩ := q5
      obtain rfl := qm5.symm
      obtain ⟨c5, rfl⟩ | ⟨c5, rfl⟩ := qr5
      · refine z_if_eq (tgt := 22) dX11_turn_8 (by decide) (fun b8 => ?_) (fun b8 => ?_)
        · exact absurd b8 (by decide)
        · refine z_aload_n dX11_turn_11 rfl ?_
          refine z_getR (j := 0) (r := 1) kX11 lf_X11_10 (by decide) rfl dX11_turn_12 k0_0 s0_0 r0_0_0 (by decide) ?_
          refine z_iload_n dX11_turn_15 rfl ?_
          refine z_iV1 (c_X7_hasInn g l (by decide)) mw_X7_hasInn lm_X11_142 mi_X7_hasInn mv_X7_hasInn kX7 (by decide) (Nat.le_of_ble_eq_true rfl) zle k0_1 s0_1 dX11_turn_16 (fun r16 M16 q16 => ?_)
          obtain ⟨qm16, qr16⟩ := q16
          obtain rfl := qm16.symm
          obtain ⟨c16, rfl⟩ | ⟨c16, rfl⟩ := qr16
          · refine z_if_ne (tgt := 25) dX11_turn_19 (by decide) (fun b19 => ?_) (fun b19 => ?_)
            · refine z_aload_n dX11_turn_25 rfl ?_
              refine z_getR (j := 3) (r := 18) kX11 lf_X11_37 (by decide) rfl dX11_turn_26 k0_0 s0_0 r0_0_3 (by decide) ?_
              refine z_getR (j := 7) (r := 23) kX1 lf_X11_136 (by decide) rfl dX11_turn_29 k0_18 s0_18 r0_18_7 (by decide) ?_
              refine z_iload_n dX11_turn_32 rfl ?_
              refine z_ialdV (j := h) rfl (by omega) (R.1.2.2.2.2 h (by omega)).2.1 dX11_turn_33 k0_23 s0_23 ?_
              refine z_istore_n dX11_turn_34 (by decide) rfl rfl ?_
              refine z_iload_n dX11_turn_35 rfl ?_
              refine z_iload_n dX11_turn_36 rfl ?_
              refine z_icmp_ne (tgt := 43) dX11_turn_37 (by decide) (fun b37 => ?_) (fun b37 => ?_)
              · refine z_aload_n dX11_turn_43 rfl ?_
                refine z_getR (j := 5) (r := 32) kX11 lf_X11_47 (by decide) rfl dX11_turn_44 k0_0 s0_0 r0_0_5 (by decide) ?_
                refine z_aload_n dX11_turn_47 rfl ?_
                refine z_getR (j := 3) (r := 18) kX11 lf_X11_37 (by decide) rfl dX11_turn_48 k0_0 s0_0 r0_0_3 (by decide) ?_
                refine z_vV1 (c_X6_remember g l C.day ⟨n8, r4⟩ hp ok.u h1 h2) mw_X6_remember lm_X11_161 mi_X6_remember mv_X6_remember kX6 (by decide) (Nat.le_of_ble_eq_true rfl) zle k0_32 s0_32 dX11_turn_51 (fun M51 q51 => ?_)
                have C1 := C.push ok hp h3 q51
                have R1 : zDR M51 M51 18 A.s A.n A.r A.i := ⟨C1.1.day, fun _ _ => rfl⟩
                refine z_aload_n dX11_turn_54 rfl ?_
                refine z_getR (j := 3) (r := 18) kX11 lf_X11_37 (by decide) rfl dX11_turn_55 k0_0 s0_0 r0_0_3 (by decide) ?_
                refine z_getR (j := 7) (r := 23) kX1 lf_X11_136 (by decide) rfl dX11_turn_58 k0_18 s0_18 r0_18_7 (by decide) ?_
                refine z_iload_n dX11_turn_61 rfl ?_
                refine z_iload_n dX11_turn_62 rfl ?_
                refine z_iastE (j := h) rfl (by omega) dX11_turn_63 k0_23 s0_23 (fun M63 e63 => ?_)
                have R63 := R1.row (by decide : 18 ∈ zDays) 5 55 h _ e63 n8 r4 (by omega) i6
                refine z_iload_n dX11_turn_64 rfl ?_
                refine z_iret dX11_turn_65 rfl zle ?_
                have C2 := C1.1.setS R63
                exact zStp.mk C2.1 (fun k a => (C2.2 k a).trans (C1.2 k a)) (by unfold sTurn; rw [aIx_in hh (by omega), aIx_in hj (by omega)]; exact if_neg b37) rfl
              · refine z_bipush (v := (-4)) dX11_turn_40 (by decide) ?_
                refine z_iret dX11_turn_42 rfl zle ?_
                exact zStp.of C (by unfold sTurn; rw [aIx_in hh (by omega), aIx_in hj (by omega)]; exact if_pos b37)
            · exact absurd b19 (by decide)
          · exact absurd (show 0 ≤ nI j ∧ nI j < M 1 0 by rw [C.road.1]; exact zInP hj (by omega)) c16
      · exact absurd (show 0 ≤ nI h ∧ nI h < M 1 2 by rw [C.road.2.2.1]; exact zInP hh (by omega)) c5
    · refine zMet.of (by decide) (Nat.le_of_ble_eq_true rfl) ?_
      refine z_aload_n dX11_turn_0 rfl ?_
      refine z_getR (j := 0) (r := 1) kX11 lf_X11_10 (by decide) rfl dX11_turn_1 k0_0 s0_0 r0_0_0 (by decide) ?_
      refine z_iload_n dX11_turn_4 rfl ?_
      refine z_iV1 (c_X7_hasRider g l (by decide)) mw_X7_hasRider lm_X11_130 mi_X7_hasRider mv_X7_hasRider kX7 (by decide) (Nat.le_of_ble_eq_true rfl) zle k0_1 s0_1 dX11_turn_5 (fun r5 M5 q5 => ?_)
      obtain ⟨qm5, qr5⟩ := q5
      obtain rfl := qm5.symm
      obtain ⟨c5, rfl⟩ | ⟨c5, rfl⟩ := qr5
      · refine z_if_eq (tgt := 22) dX11_turn_8 (by decide) (fun b8 => ?_) (fun b8 => ?_)
        · exact absurd b8 (by decide)
        · refine z_aload_n dX11_turn_11 rfl ?_
          refine z_getR (j := 0) (r := 1) kX11 lf_X11_10 (by decide) rfl dX11_turn_12 k0_0 s0_0 r0_0_0 (by decide) ?_
          refine z_iload_n dX11_turn_15 rfl ?_
          refine z_iV1 (c_X7_hasInn g l (by decide)) mw_X7_hasInn lm_X11_142 mi_X7_hasInn mv_X7_hasInn kX7 (by decide) (Nat.le_of_ble_eq_true rfl) zle k0_1 s0_1 dX11_turn_16 (fun r16 M16 q16 => ?_)
          obtain ⟨qm16, qr16⟩ := q16
          obtain rfl := qm16.symm
          obtain ⟨c16, rfl⟩ | ⟨c16, rfl⟩ := qr16
          · exact absurd (show _ ∧ _ < nI A.i by rw [← C.road.1]; exact c16) hy
          · refine z_if_ne (tgt := 25) dX11_turn_19 (by decide) (fun b19 => ?_) (fun b19 => ?_)
            · exact absurd b19 (by decide)
            · refine z_bipush (v := (-2)) dX11_turn_22 (by decide) ?_
              refine z_iret dX11_turn_24 rfl zle ?_
              exact zStp.of C (by unfold sTurn; rw [aIx_in hh (by omega), aIx_out hy])
      · exact absurd (show 0 ≤ nI h ∧ nI h < M 1 2 by rw [C.road.2.2.1]; exact zInP hh (by omega)) c5
  · refine zMet.of (by decide) (Nat.le_of_ble_eq_true rfl) ?_
    refine z_aload_n dX11_turn_0 rfl ?_
    refine z_getR (j := 0) (r := 1) kX11 lf_X11_10 (by decide) rfl dX11_turn_1 k0_0 s0_0 r0_0_0 (by decide) ?_
    refine z_iload_n dX11_turn_4 rfl ?_
    refine z_iV1 (c_X7_hasRider g l (by decide)) mw_X7_hasRider lm_X11_130 mi_X7_hasRider mv_X7_hasRider kX7 (by decide) (Nat.le_of_ble_eq_true rfl) zle k0_1 s0_1 dX11_turn_5 (fun r5 M5 q5 => ?_)
    obtain ⟨qm5, qr5⟩ := q5
    obtain rfl := qm5.symm
    obtain ⟨c5, rfl⟩ | ⟨c5, rfl⟩ := qr5
    · exact absurd (show _ ∧ _ < nI A.r by rw [← C.road.2.2.1]; exact c5) hx
    · refine z_if_eq (tgt := 22) dX11_turn_8 (by decide) (fun b8 => ?_) (fun b8 => ?_)
      · refine z_bipush (v := (-2)) dX11_turn_22 (by decide) ?_
        refine z_iret dX11_turn_24 rfl zle ?_
        exact zStp.of C (by unfold sTurn; rw [aIx_out hx])
      · exact absurd b8 (by decide)

set_option maxRecDepth 100000 in
set_option maxHeartbeats 4000000 in
theorem c_X11_undo (g : zG) (l : Launch) {M : zM} {A : aSt} (ok : aOK A) (C : RelC M A) : zMet g l yX11_undo cX11_undo 1 (some .int) 3 0 0 [.ref 0] S0 M (zQi (fun r' M' => zStp M (sUndo A) r' M')) := by
  have n8 : A.n ≤ 8 := ok.s.1.1
  have r4 : A.r ≤ 4 := ok.s.1.2.1
  have i6 : A.i ≤ 6 := ok.s.1.2.2.1
  have R : zDR M M 18 A.s A.n A.r A.i := ⟨C.day, fun _ _ => rfl⟩
  obtain ⟨p, hp, h1, h2, h3⟩ := C.past
  have u8 := ok.u
  · rcases Nat.eq_zero_or_pos A.u with hu | hu
    · refine zMet.of (by decide) (Nat.le_of_ble_eq_true rfl) ?_
      refine z_aload_n dX11_undo_0 rfl ?_
      refine z_getR (j := 5) (r := 32) kX11 lf_X11_47 (by decide) rfl dX11_undo_1 k0_0 s0_0 r0_0_5 (by decide) ?_
      refine z_getIV (j := 2) kX6 lf_X11_174 (by decide) rfl h2 dX11_undo_4 k0_32 s0_32 ?_
      refine z_if_ne (tgt := 13) dX11_undo_7 (by decide) (fun b7 => ?_) (fun b7 => ?_)
      · exact absurd (by rw [hu]; rfl) b7
      · refine z_bipush (v := (-4)) dX11_undo_10 (by decide) ?_
        refine z_iret dX11_undo_12 rfl zle ?_
        exact zStp.of C (by unfold sUndo; rw [if_pos hu])
    · have h4 : M 32 2 = nI ((A.u - 1) + 1) := by rw [h2, show A.u - 1 + 1 = A.u by omega]
      have h5 := h3 (A.u - 1) (by omega)
      rw [show (p + 8 - A.u + (A.u - 1)) % 8 = (p + 7) % 8 by omega] at h5
      refine zMet.of (by decide) (Nat.le_of_ble_eq_true rfl) ?_
      refine z_aload_n dX11_undo_0 rfl ?_
      refine z_getR (j := 5) (r := 32) kX11 lf_X11_47 (by decide) rfl dX11_undo_1 k0_0 s0_0 r0_0_5 (by decide) ?_
      refine z_getIV (j := 2) kX6 lf_X11_174 (by decide) rfl h2 dX11_undo_4 k0_32 s0_32 ?_
      refine z_if_ne (tgt := 13) dX11_undo_7 (by decide) (fun b7 => ?_) (fun b7 => ?_)
      · refine z_aload_n dX11_undo_13 rfl ?_
        refine z_getR (j := 5) (r := 32) kX11 lf_X11_47 (by decide) rfl dX11_undo_14 k0_0 s0_0 r0_0_5 (by decide) ?_
        refine z_aload_n dX11_undo_17 rfl ?_
        refine z_getR (j := 3) (r := 18) kX11 lf_X11_37 (by decide) rfl dX11_undo_18 k0_0 s0_0 r0_0_3 (by decide) ?_
        refine z_vV1 (c_X6_restore (u := A.u - 1) g l hp (by omega) h1 h4 h5 ⟨n8, r4⟩) mw_X6_restore lm_X11_177 mi_X6_restore mv_X6_restore kX6 (by decide) (Nat.le_of_ble_eq_true rfl) zle k0_32 s0_32 dX11_undo_21 (fun M21 q21 => ?_)
        refine z_aload_n dX11_undo_24 rfl ?_
        refine z_getR (j := 5) (r := 32) kX11 lf_X11_47 (by decide) rfl dX11_undo_25 k0_0 s0_0 r0_0_5 (by decide) ?_
        refine z_getIV (j := 2) kX6 lf_X11_174 (by decide) rfl ((congrFun (q21.2 32 (by omega)) 2).trans (z_up_kj _ _ _ _)) dX11_undo_28 k0_32 s0_32 ?_
        refine z_iret dX11_undo_31 rfl zle ?_
        have C1 := C.undo hp (show A.u = (A.u - 1) + 1 by omega) u8 h3 q21
        exact zStp.mk C1.1 C1.2 (by unfold sUndo; rw [if_neg (by omega)]) rfl
      · exact absurd ((nI_eq (b := 0) (by omega) (by omega)).mp b7) (by omega)

theorem zKeptAt {k : Nat} (h : k < 2) : 91 + 7 * k ∈ zDays ∧ S0.2.2 90 k = (91 + 7 * k) + 1 := ⟨(by decide +kernel : ∀ k, k < 2 → 91 + 7 * k ∈ zDays) k h, (by decide +kernel : ∀ k, k < 2 → S0.2.2 90 k = (91 + 7 * k) + 1) k h⟩
set_option maxRecDepth 100000 in
set_option maxHeartbeats 4000000 in
theorem c_X11_keep (g : zG) (l : Launch) {M : zM} {A : aSt} (ok : aOK A) (C : RelC M A) {x : Int32} : zMet g l yX11_keep cX11_keep 2 (some .int) 2 0 0 [.ref 0, .int x] S0 M (zQi (fun r' M' => zStp M (sKeep A x) r' M')) := by
  have n8 : A.n ≤ 8 := ok.s.1.1
  have r4 : A.r ≤ 4 := ok.s.1.2.1
  have i6 : A.i ≤ 6 := ok.s.1.2.2.1
  have R : zDR M M 18 A.s A.n A.r A.i := ⟨C.day, fun _ _ => rfl⟩
  rcases zInD x (show 2 < 1000 by omega) with ⟨h, hh, rfl⟩ | hx
  · obtain ⟨he, he2⟩ := zKeptAt hh
    obtain ⟨e, ee⟩ : ∃ e, e = 91 + 7 * h := ⟨_, rfl⟩
    rw [← ee] at he he2
    refine zMet.of (by decide) (Nat.le_of_ble_eq_true rfl) ?_
    refine z_iload_n dX11_keep_0 rfl ?_
    refine z_if_lt (tgt := 9) dX11_keep_1 (by decide) (fun b1 => ?_) (fun b1 => ?_)
    · exact absurd b1 (nI_pos (by omega))
    · refine z_iload_n dX11_keep_4 rfl ?_
      refine z_iconst (v := 2) dX11_keep_5 (by decide) ?_
      refine z_icmp_lt (tgt := 12) dX11_keep_6 (by decide) (fun b6 => ?_) (fun b6 => ?_)
      · refine z_aload_n dX11_keep_12 rfl ?_
        refine z_getR (j := 6) (r := 90) kX11 lf_X11_51 (by decide) rfl dX11_keep_13 k0_0 s0_0 r0_0_6 (by decide) ?_
        refine z_iload_n dX11_keep_16 rfl ?_
        refine z_aaldN (j := h) (r := e) rfl hh dX11_keep_17 k0_90 s0_90 (by decide) he2 (zDay_l0 he) ?_
        refine z_aload_n dX11_keep_18 rfl ?_
        refine z_getR (j := 3) (r := 18) kX11 lf_X11_37 (by decide) rfl dX11_keep_19 k0_0 s0_0 r0_0_3 (by decide) ?_
        refine z_vV1 (c_X1_become g l he (by decide) (by omega) ⟨n8, r4⟩ C.day) mw_X1_become lm_X11_180 mi_X1_become mv_X1_become kX1 (by decide) (Nat.le_of_ble_eq_true rfl) zle (zDay_k0 he) (zDay_s0 he) dX11_keep_22 (fun M22 q22 => ?_)
        refine z_aload_n dX11_keep_25 rfl ?_
        refine z_getR (j := 7) (r := 105) kX11 lf_X11_55 (by decide) rfl dX11_keep_26 k0_0 s0_0 r0_0_7 (by decide) ?_
        refine z_iload_n dX11_keep_29 rfl ?_
        refine z_iconst (v := 1) dX11_keep_30 (by decide) ?_
        refine z_zastN (j := h) rfl hh rfl dX11_keep_31 k0_105 s0_105 ?_
        refine z_aload_n dX11_keep_32 rfl ?_
        refine z_getR (j := 3) (r := 18) kX11 lf_X11_37 (by decide) rfl dX11_keep_33 k0_0 s0_0 r0_0_3 (by decide) ?_
        refine z_getIV (j := 1) kX1 lf_X11_158 (by decide) rfl ((congrFun ((z_up_n _ _ _ (by omega)).trans (q22.2 18 (by omega))) 1).trans C.day.2.1) dX11_keep_36 k0_18 s0_18 ?_
        refine z_iret dX11_keep_39 rfl zle ?_
        have hk : ∀ k, k ≠ 105 → (k < e ∨ e + 6 < k) → z_up M22 105 h 1 k = M k := fun k a b => by rw [z_up_n _ _ _ a]; exact q22.2 k b
        have C1 := C.setKept (M' := z_up M22 105 h 1) (x := (fun j => if j = h then true else A.kb j, fun j => if j = h then A.s else A.K j)) (fun k hk2 => by
          by_cases c : k = h
          · refine ⟨?_, fun _ => ?_⟩
            · rw [c, z_up_kj]; exact (if_pos (if_pos rfl)).symm
            · show dRep _ _ (if k = h then A.s else A.K k) A.n A.r A.i
              rw [if_pos c, c, ← ee]
              exact q22.1.keep4 (fun k a b => z_up_n _ _ _ (by omega)) (fun k a b => z_up_n _ _ _ (by omega))
          · obtain ⟨g1, g2⟩ := C.kept k hk2
            refine ⟨?_, fun z => ?_⟩
            · rw [z_up_jn _ _ c, q22.2 105 (by omega)]
              show _ = if (if k = h then true else A.kb k) = true then (1 : Int32) else 0
              rw [if_neg c]; exact g1
            · show dRep _ _ (if k = h then A.s else A.K k) A.n A.r A.i
              have z2 : (if k = h then true else A.kb k) = true := z
              rw [if_neg c] at z2 ⊢
              exact (g2 z2).keep4 (fun k a b => hk k (by omega) (by omega)) (fun k a b => hk k (by omega) (by omega))) (fun k a => hk k (by omega) (by omega))
        exact zStp.mk C1.1 C1.2 (by unfold sKeep; rw [aIx_in hh (by omega)]) rfl
      · exact absurd ((nI_ltI (b := 2) (by omega) (by omega)).mpr hh) b6
  · refine zMet.of (by decide) (Nat.le_of_ble_eq_true rfl) ?_
    refine z_iload_n dX11_keep_0 rfl ?_
    refine z_if_lt (tgt := 9) dX11_keep_1 (by decide) (fun b1 => ?_) (fun b1 => ?_)
    · refine z_bipush (v := (-2)) dX11_keep_9 (by decide) ?_
      refine z_iret dX11_keep_11 rfl zle ?_
      exact zStp.of C (by unfold sKeep; rw [aIx_out hx])
    · refine z_iload_n dX11_keep_4 rfl ?_
      refine z_iconst (v := 2) dX11_keep_5 (by decide) ?_
      refine z_icmp_lt (tgt := 12) dX11_keep_6 (by decide) (fun b6 => ?_) (fun b6 => ?_)
      · exact absurd ⟨Int32.not_lt.mp b1, b6⟩ hx
      · refine z_bipush (v := (-2)) dX11_keep_9 (by decide) ?_
        refine z_iret dX11_keep_11 rfl zle ?_
        exact zStp.of C (by unfold sKeep; rw [aIx_out hx])

set_option maxRecDepth 100000 in
set_option maxHeartbeats 4000000 in
theorem c_X11_back (g : zG) (l : Launch) {M : zM} {A : aSt} (ok : aOK A) (C : RelC M A) {x : Int32} : zMet g l yX11_back cX11_back 2 (some .int) 2 0 0 [.ref 0, .int x] S0 M (zQi (fun r' M' => zStp M (sBack A x) r' M')) := by
  have n8 : A.n ≤ 8 := ok.s.1.1
  have r4 : A.r ≤ 4 := ok.s.1.2.1
  have i6 : A.i ≤ 6 := ok.s.1.2.2.1
  have R : zDR M M 18 A.s A.n A.r A.i := ⟨C.day, fun _ _ => rfl⟩
  rcases zInD x (show 2 < 1000 by omega) with ⟨h, hh, rfl⟩ | hx
  · obtain ⟨he, he2⟩ := zKeptAt hh
    obtain ⟨e, ee⟩ : ∃ e, e = 91 + 7 * h := ⟨_, rfl⟩
    rw [← ee] at he he2
    obtain ⟨g1, g2⟩ := C.kept h hh
    refine zMet.of (by decide) (Nat.le_of_ble_eq_true rfl) ?_
    refine z_iload_n dX11_back_0 rfl ?_
    refine z_if_lt (tgt := 9) dX11_back_1 (by decide) (fun b1 => ?_) (fun b1 => ?_)
    · exact absurd b1 (nI_pos (by omega))
    · refine z_iload_n dX11_back_4 rfl ?_
      refine z_iconst (v := 2) dX11_back_5 (by decide) ?_
      refine z_icmp_lt (tgt := 12) dX11_back_6 (by decide) (fun b6 => ?_) (fun b6 => ?_)
      · refine z_aload_n dX11_back_12 rfl ?_
        refine z_getR (j := 7) (r := 105) kX11 lf_X11_55 (by decide) rfl dX11_back_13 k0_0 s0_0 r0_0_7 (by decide) ?_
        refine z_iload_n dX11_back_16 rfl ?_
        refine z_zaldV (j := h) rfl hh g1 dX11_back_17 k0_105 s0_105 ?_
        refine z_if_ne (tgt := 24) dX11_back_18 (by decide) (fun b18 => ?_) (fun b18 => ?_)
        · have hb : A.kb h = true := Classical.byContradiction (fun z => b18 (if_neg z))
          have g3 : dRep M e (A.K h) A.n A.r A.i := by rw [ee]; exact g2 hb
          refine z_aload_n dX11_back_24 rfl ?_
          refine z_getR (j := 3) (r := 18) kX11 lf_X11_37 (by decide) rfl dX11_back_25 k0_0 s0_0 r0_0_3 (by decide) ?_
          refine z_aload_n dX11_back_28 rfl ?_
          refine z_getR (j := 6) (r := 90) kX11 lf_X11_51 (by decide) rfl dX11_back_29 k0_0 s0_0 r0_0_6 (by decide) ?_
          refine z_iload_n dX11_back_32 rfl ?_
          refine z_aaldN (j := h) (r := e) rfl hh dX11_back_33 k0_90 s0_90 (by decide) he2 (zDay_l0 he) ?_
          refine z_vV1 (c_X1_become g l (by decide) he (by omega) ⟨n8, r4⟩ g3) mw_X1_become lm_X11_180 mi_X1_become mv_X1_become kX1 (by decide) (Nat.le_of_ble_eq_true rfl) zle k0_18 s0_18 dX11_back_34 (fun M34 q34 => ?_)
          refine z_aload_n dX11_back_37 rfl ?_
          refine z_getR (j := 5) (r := 32) kX11 lf_X11_47 (by decide) rfl dX11_back_38 k0_0 s0_0 r0_0_5 (by decide) ?_
          refine z_vV0 (c_X6_clear g l) mw_X6_clear lm_X11_182 mi_X6_clear mv_X6_clear kX6 (by decide) (Nat.le_of_ble_eq_true rfl) zle k0_32 s0_32 dX11_back_41 (fun M41 q41 => ?_)
          obtain rfl := q41.symm
          refine z_aload_n dX11_back_44 rfl ?_
          refine z_getR (j := 3) (r := 18) kX11 lf_X11_37 (by decide) rfl dX11_back_45 k0_0 s0_0 r0_0_3 (by decide) ?_
          refine z_getIV (j := 1) kX1 lf_X11_158 (by decide) rfl ((congrFun (z_up_n _ _ _ (by omega)) 1).trans q34.1.2.1) dX11_back_48 k0_18 s0_18 ?_
          refine z_iret dX11_back_51 rfl zle ?_
          have C1 := C.setS q34
          have C2 := C1.1.clear (M' := z_up M34 32 2 0) A.P rfl
          exact zStp.mk C2.1 (fun k a => (C2.2 k a).trans (C1.2 k a)) (by unfold sBack; rw [aIx_in hh (by omega), if_pos hb]) rfl
        · have hb : ¬ A.kb h = true := fun z => by rw [if_pos z] at b18; exact absurd b18 (by decide)
          refine z_bipush (v := (-4)) dX11_back_21 (by decide) ?_
          refine z_iret dX11_back_23 rfl zle ?_
          exact zStp.of C (by unfold sBack; rw [aIx_in hh (by omega), if_neg hb])
      · exact absurd ((nI_ltI (b := 2) (by omega) (by omega)).mpr hh) b6
  · refine zMet.of (by decide) (Nat.le_of_ble_eq_true rfl) ?_
    refine z_iload_n dX11_back_0 rfl ?_
    refine z_if_lt (tgt := 9) dX11_back_1 (by decide) (fun b1 => ?_) (fun b1 => ?_)
    · refine z_bipush (v := (-2)) dX11_back_9 (by decide) ?_
      refine z_iret dX11_back_11 rfl zle ?_
      exact zStp.of C (by unfold sBack; rw [aIx_out hx])
    · refine z_iload_n dX11_back_4 rfl ?_
      refine z_iconst (v := 2) dX11_back_5 (by decide) ?_
      refine z_icmp_lt (tgt := 12) dX11_back_6 (by decide) (fun b6 => ?_) (fun b6 => ?_)
      · exact absurd ⟨Int32.not_lt.mp b1, b6⟩ hx
      · refine z_bipush (v := (-2)) dX11_back_9 (by decide) ?_
        refine z_iret dX11_back_11 rfl zle ?_
        exact zStp.of C (by unfold sBack; rw [aIx_out hx])

