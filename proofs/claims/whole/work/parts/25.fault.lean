/-! ===== the class: Parser.findFault ===== -/
def pRun (T : Nat → Int32) (len : Nat) : Nat → Nat → pSt → Bool × Nat × pSt
  | 0, c, st => (false, c, st)
  | k + 1, c, st =>
    if (pClause T len st.1 st.2.1 st.2.2.1 st.2.2.2.1 st.2.2.2.2).1 = false then (false, c, (pClause T len st.1 st.2.1 st.2.2.1 st.2.2.2.1 st.2.2.2.2).2)
    else if len ≤ (pClause T len st.1 st.2.1 st.2.2.1 st.2.2.2.1 st.2.2.2.2).2.1 then (true, c, (pClause T len st.1 st.2.1 st.2.2.1 st.2.2.2.1 st.2.2.2.2).2)
    else if ¬ T (pClause T len st.1 st.2.1 st.2.2.1 st.2.2.2.1 st.2.2.2.2).2.1 = 59 ∨ c = 20 then (false, c, (pClause T len st.1 st.2.1 st.2.2.1 st.2.2.2.1 st.2.2.2.2).2)
    else pRun T len k (c + 1) (tNx T len (pClause T len st.1 st.2.1 st.2.2.1 st.2.2.2.1 st.2.2.2.2).2.1, (pClause T len st.1 st.2.1 st.2.2.1 st.2.2.2.1 st.2.2.2.2).2.2)
theorem nI_any (x : Int32) : ∃ a, x = nI a := by
  refine ⟨x.toBitVec.toNat, Int32.toBitVec_inj.mp ?_⟩
  show x.toBitVec = BitVec.ofNat 32 x.toBitVec.toNat
  apply BitVec.eq_of_toNat_eq
  simp
theorem tS_ne (c : Int32) : ¬ tS c = 0 := by
  unfold tS
  split
  · decide
  · split <;> decide
theorem tSo_0 {T : Nat → Int32} {len f : Nat} : tSo T len f = 0 ↔ len ≤ f := by
  unfold tSo
  by_cases h : f < len
  · rw [if_pos h]
    exact ⟨fun z => absurd z (tS_ne _), fun z => by omega⟩
  · rw [if_neg h]
    exact ⟨fun _ => by omega, fun _ => rfl⟩
theorem pClause_r {T : Nat → Int32} {len f n r i : Nat} {τ : Dy} (hf : f ≤ len) (hs : n ≤ 8 ∧ r ≤ 4 ∧ i ≤ 6) :
    (pClause T len f τ n r i).2.1 ≤ len ∧ (pClause T len f τ n r i).2.2.2.1 ≤ 8 ∧ (pClause T len f τ n r i).2.2.2.2.1 ≤ 4 ∧ (pClause T len f τ n r i).2.2.2.2.2 ≤ 6 := by
  have hx := (tNx_r (T := T) hf).2
  unfold pClause
  split
  · exact ⟨hf, hs⟩
  · split
    · exact ⟨hf, hs⟩
    · rename_i c2
      split
      · exact ⟨hx, Nat.zero_le _, Nat.zero_le _, Nat.zero_le _⟩
      · rename_i c5
        split
        · rename_i c6
          have hi : i < 6 := Nat.lt_of_not_le (fun z => c2 (Or.inl ⟨c6, z⟩))
          unfold pInnC
          split
          · exact ⟨pNum_r hx, hs⟩
          · exact ⟨pNum_r hx, hs.1, hs.2.1, hi⟩
        · rename_i c6
          split
          · rename_i c7
            have hr : r < 4 := Nat.lt_of_not_le (fun z => c2 (Or.inr (Or.inl ⟨c7, z⟩)))
            unfold pRiderC
            split
            · exact ⟨pNum_r hx, hs⟩
            · split
              · exact ⟨pNum_r (pNum_r hx), hs⟩
              · exact ⟨pNum_r (pNum_r hx), hs.1, hr, hs.2.2⟩
          · rename_i c7
            have hn : n < 8 := Nat.lt_of_not_le (fun z => c2 (Or.inr (Or.inr ⟨c5, c6, c7, z⟩)))
            unfold pHourC
            split
            · exact ⟨pNum_r hx, hs⟩
            · split
              · exact ⟨pNum_r (pNum_r hx), hs⟩
              · exact ⟨pNum_r (pNum_r hx), hn, hs.2.1, hs.2.2⟩
/-- what findFault leaves behind -/
def zFF (M0 M : zM) (T : Nat → Int32) (len : Nat) (x : Bool × Nat × pSt) : Prop :=
  zPS M M T len x.2.2.1 x.2.2.2.1 x.2.2.2.2.1 x.2.2.2.2.2.1 x.2.2.2.2.2.2 ∧ M 10 2 = nI x.2.1 ∧ ∀ k, (k < 8 ∨ k = 9 ∨ 17 < k) → M k = M0 k
theorem zPS.base {M0 M : zM} {T : Nat → Int32} {len f n r i : Nat} {τ : Dy} (S : zPS M0 M T len f τ n r i) : zPS M M T len f τ n r i := ⟨S.1, S.2.1, fun _ _ => rfl⟩
theorem zPS.cl {M0 M M2 : zM} {T : Nat → Int32} {len f n r i : Nat} {τ : Dy} {x : Int32} (S : zPS M0 M T len f τ n r i) (e : M2 = z_up M 10 2 x) : zPS M2 M2 T len f τ n r i := by
  have g : ∀ k, k ≠ 10 → M2 k = M k := fun k hk => by rw [e, z_up_n _ _ _ hk]
  obtain ⟨⟨s1, s2, s3, s4, s5⟩, s6, s7⟩ := S
  refine ⟨⟨?_, ?_, ?_, ?_, fun j hj => ?_⟩, s6.keep (fun k a b => g k (by omega)), fun _ _ => rfl⟩
  · rw [g 8 (by omega)]; exact s1
  · rw [g 8 (by omega)]; exact s2
  · rw [g 8 (by omega)]; exact s3
  · rw [g 8 (by omega)]; exact s4
  · rw [g 9 (by omega)]; exact s5 j hj

set_option maxRecDepth 100000 in
set_option maxHeartbeats 4000000 in
theorem lp_findFault (g : zG) (l : Launch) {M0 : zM} {T : Nat → Int32} {len n0 r0 i0 : Nat} {τ0 : Dy} (hl : len ≤ 200) : ∀ (k h : Nat) (M : zM), h ≤ 20 → 20 - h < k → ∀ (f : Nat) (τ : Dy) (n r i : Nat), f ≤ len → (n ≤ 8 ∧ r ≤ 4 ∧ i ≤ 6) → zPS M M T len f τ n r i → M 10 2 = nI h → (∀ k, (k < 8 ∨ k = 9 ∨ 17 < k) → M k = M0 k) → (pRun T len 20 1 (tF T len 0, τ0, n0, r0, i0)) = pRun T len (21 - h) h (f, τ, n, r, i) → zA g l yX5_findFault cX5_findFault 2 (some .int) 9 0 0 (zQi (fun r' M' => r' = (if (pRun T len 20 1 (tF T len 0, τ0, n0, r0, i0)).1 = true then -1 else nI (pRun T len 20 1 (tF T len 0, τ0, n0, r0, i0)).2.2.1) ∧ zFF M0 M' T len (pRun T len 20 1 (tF T len 0, τ0, n0, r0, i0)))) 20 0 0 S0 M [.ref 10, .ref 1] [] := by
  intro k
  induction k with
  | zero => intro h M hh hk; exact absurd hk (Nat.not_lt_zero _)
  | succ k ih =>
    intro h M hh hk f τ n r i hf hs S C F w
    refine z_aload_n dX5_findFault_20 rfl ?_
    refine z_getIV (j := 2) kX5 lf_X5_31 (by decide) rfl C dX5_findFault_21 k0_10 s0_10 ?_
    refine z_bipush (v := 20) dX5_findFault_24 (by decide) ?_
    refine z_icmp_gt (tgt := 103) dX5_findFault_26 (by decide) (fun b26 => ?_) (fun b26 => ?_)
    · exact absurd ((nI_ltI (a := 20) (by omega) (by omega)).mp b26) (by omega)
    · refine z_aload_n dX5_findFault_29 rfl ?_
      refine z_iV0 (c_X5_takeClause g l hl hf S hs) mw_X5_takeClause lm_X5_35 mi_X5_takeClause mv_X5_takeClause kX5 (by decide) (Nat.le_of_ble_eq_true rfl) zle k0_10 s0_10 dX5_findFault_30 (fun r30 M30 q30 => ?_)
      obtain ⟨q30a, q30b⟩ := q30
      have S2 := zPS.base q30b
      have C2 : M30 10 2 = nI h := (congrFun (q30b.2.2 10 (by omega)) 2).trans C
      have F2 : ∀ k, (k < 8 ∨ k = 9 ∨ 17 < k) → M30 k = M0 k := fun k hk => (q30b.2.2 k (by omega)).trans (F k hk)
      have hR := pClause_r (T := T) (τ := τ) hf hs
      have w3 := w
      rw [show 21 - h = (20 - h) + 1 by omega] at w3
      rcases hx : (pClause T len f τ n r i).1 with _ | _
      · rw [show r30 = 0 from q30a.trans (by rw [hx]; rfl)]
        refine z_if_ne (tgt := 44) dX5_findFault_33 (by decide) (fun b33 => ?_) (fun b33 => ?_)
        · exact absurd b33 (by decide)
        · refine z_aload_n dX5_findFault_36 rfl ?_
          refine z_getR (j := 0) (r := 8) kX5 lf_X5_18 (by decide) rfl dX5_findFault_37 k0_10 s0_10 r0_10_0 (by decide) ?_
          refine z_getIV (j := 3) kX10 lf_X5_39 (by decide) rfl S2.1.2.2.1 dX5_findFault_40 k0_8 s0_8 ?_
          refine z_iret dX5_findFault_43 rfl zle ?_
          have w4 : (pRun T len 20 1 (tF T len 0, τ0, n0, r0, i0)) = (false, h, (pClause T len f τ n r i).2) := w3.trans (if_pos hx)
          rw [w4]
          exact ⟨rfl, S2, C2, F2⟩
      · rw [show r30 = 1 from q30a.trans (by rw [hx]; rfl)]
        refine z_if_ne (tgt := 44) dX5_findFault_33 (by decide) (fun b33 => ?_) (fun b33 => ?_)
        · refine z_aload_n dX5_findFault_44 rfl ?_
          refine z_getR (j := 0) (r := 8) kX5 lf_X5_18 (by decide) rfl dX5_findFault_45 k0_10 s0_10 r0_10_0 (by decide) ?_
          refine z_getIV (j := 4) kX10 lf_X5_42 (by decide) rfl S2.1.2.2.2.1 dX5_findFault_48 k0_8 s0_8 ?_
          refine z_if_ne (tgt := 56) dX5_findFault_51 (by decide) (fun b51 => ?_) (fun b51 => ?_)
          · refine z_aload_n dX5_findFault_56 rfl ?_
            refine z_getR (j := 0) (r := 8) kX5 lf_X5_18 (by decide) rfl dX5_findFault_57 k0_10 s0_10 r0_10_0 (by decide) ?_
            refine z_iV0 (c_X10_isSemicolon g l hl hR.1 S2.q) mw_X10_isSemicolon lm_X5_45 mi_X10_isSemicolon mv_X10_isSemicolon kX10 (by decide) (Nat.le_of_ble_eq_true rfl) zle k0_8 s0_8 dX5_findFault_60 (fun r60 M60 q60 => ?_)
            obtain ⟨qm60, qr60⟩ := q60
            obtain rfl := qm60.symm
            obtain ⟨c60, rfl⟩ | ⟨c60, rfl⟩ := qr60
            · refine z_if_eq (tgt := 75) dX5_findFault_63 (by decide) (fun b63 => ?_) (fun b63 => ?_)
              · exact absurd b63 (by decide)
              · refine z_aload_n dX5_findFault_66 rfl ?_
                refine z_getIV (j := 2) kX5 lf_X5_31 (by decide) rfl C2 dX5_findFault_67 k0_10 s0_10 ?_
                refine z_bipush (v := 20) dX5_findFault_70 (by decide) ?_
                refine z_icmp_ne (tgt := 83) dX5_findFault_72 (by decide) (fun b72 => ?_) (fun b72 => ?_)
                · refine z_aload_n dX5_findFault_83 rfl ?_
                  refine z_getR (j := 0) (r := 8) kX5 lf_X5_18 (by decide) rfl dX5_findFault_84 k0_10 s0_10 r0_10_0 (by decide) ?_
                  refine z_vV0 (c_X10_nextToken g l hl (tB_r (T := T) hR.1).2.1 S2.q) mw_X10_nextToken lm_X5_48 mi_X10_nextToken mv_X10_nextToken kX10 (by decide) (Nat.le_of_ble_eq_true rfl) zle k0_8 s0_8 dX5_findFault_87 (fun M87 q87 => ?_)
                  have S87 := S2.next q87
                  refine z_aload_n dX5_findFault_90 rfl ?_
                  refine z_dup dX5_findFault_91 rfl ?_
                  refine z_getIV (j := 2) kX5 lf_X5_31 (by decide) rfl ((congrFun (q87.2.2.2.2.2 10 (by omega)) 2).trans C2) dX5_findFault_92 k0_10 s0_10 ?_
                  refine z_iconst (v := 1) dX5_findFault_95 (by decide) ?_
                  refine z_iaddN (a := h) (b := 1) rfl rfl dX5_findFault_96 ?_
                  refine z_putIE (j := 2) kX5 lf_X5_31 (by decide) rfl rfl (kX5.2.2.1 2 (by decide)) rfl rfl dX5_findFault_97 k0_10 s0_10 (fun M97 e97 => ?_)
                  refine z_goto (tgt := 20) dX5_findFault_100 (by decide) ?_
                  have h20 : h < 20 := by
                    rcases Nat.lt_or_ge h 20 with z | z
                    · exact z
                    · exact absurd (show nI h = 20 from (nI_eq (b := 20) (by omega) (by omega)).mpr (by omega)) b72
                  refine ih (h + 1) _ (by omega) (by omega) _ _ _ _ _ (tNx_r hR.1).2 hR.2 (S87.cl e97) (by rw [e97]; exact z_up_kj _ _ _ _) (fun k hk => by rw [e97, z_up_n _ _ _ (by omega), q87.2.2.2.2.2 k (by omega)]; exact F2 k hk) ?_
                  rw [w3, show 21 - (h + 1) = 20 - h by omega]
                  exact (if_neg (by rw [hx]; decide)).trans ((if_neg (fun z => b51 (tSo_0.mpr z))).trans (if_neg (fun z => z.elim (fun z => z c60.2) (fun z => by omega))))
                · refine z_aload_n dX5_findFault_75 rfl ?_
                  refine z_getR (j := 0) (r := 8) kX5 lf_X5_18 (by decide) rfl dX5_findFault_76 k0_10 s0_10 r0_10_0 (by decide) ?_
                  refine z_getIV (j := 3) kX10 lf_X5_39 (by decide) rfl S2.1.2.2.1 dX5_findFault_79 k0_8 s0_8 ?_
                  refine z_iret dX5_findFault_82 rfl zle ?_
                  have w4 : (pRun T len 20 1 (tF T len 0, τ0, n0, r0, i0)) = (false, h, (pClause T len f τ n r i).2) := w3.trans ((if_neg (by rw [hx]; decide)).trans ((if_neg (fun z => b51 (tSo_0.mpr z))).trans (if_pos (by first | exact Or.inr ((nI_eq (b := 20) (by omega) (by omega)).mp b72) | exact Or.inl (fun z => c60 ⟨Nat.lt_of_not_le (fun z2 => b51 (tSo_0.mpr z2)), z⟩)))))
                  rw [w4]
                  exact ⟨rfl, S2, C2, F2⟩
            · refine z_if_eq (tgt := 75) dX5_findFault_63 (by decide) (fun b63 => ?_) (fun b63 => ?_)
              · refine z_aload_n dX5_findFault_75 rfl ?_
                refine z_getR (j := 0) (r := 8) kX5 lf_X5_18 (by decide) rfl dX5_findFault_76 k0_10 s0_10 r0_10_0 (by decide) ?_
                refine z_getIV (j := 3) kX10 lf_X5_39 (by decide) rfl S2.1.2.2.1 dX5_findFault_79 k0_8 s0_8 ?_
                refine z_iret dX5_findFault_82 rfl zle ?_
                have w4 : (pRun T len 20 1 (tF T len 0, τ0, n0, r0, i0)) = (false, h, (pClause T len f τ n r i).2) := w3.trans ((if_neg (by rw [hx]; decide)).trans ((if_neg (fun z => b51 (tSo_0.mpr z))).trans (if_pos (by first | exact Or.inr ((nI_eq (b := 20) (by omega) (by omega)).mp b72) | exact Or.inl (fun z => c60 ⟨Nat.lt_of_not_le (fun z2 => b51 (tSo_0.mpr z2)), z⟩)))))
                rw [w4]
                exact ⟨rfl, S2, C2, F2⟩
              · exact absurd b63 (by decide)
          · refine z_iconst (v := (-1)) dX5_findFault_54 (by decide) ?_
            refine z_iret dX5_findFault_55 rfl zle ?_
            have w4 : (pRun T len 20 1 (tF T len 0, τ0, n0, r0, i0)) = (true, h, (pClause T len f τ n r i).2) := w3.trans ((if_neg (by rw [hx]; decide)).trans (if_pos (tSo_0.mp b51)))
            rw [w4]
            exact ⟨rfl, S2, C2, F2⟩
        · exact absurd b33 (by decide)

set_option maxRecDepth 100000 in
set_option maxHeartbeats 4000000 in
theorem c_X5_findFault (g : zG) (l : Launch) {M0 : zM} {T : Nat → Int32} {len n0 r0 i0 : Nat} {τ0 : Dy} (hl : len ≤ 200) (h2 : M0 8 2 = nI len) (hT : ∀ j, j < len → M0 9 j = T j) (R : dRoad M0 1 τ0 n0 r0 i0) (hs : n0 ≤ 8 ∧ r0 ≤ 4 ∧ i0 ≤ 6) : zMet g l yX5_findFault cX5_findFault 2 (some .int) 9 0 0 [.ref 10, .ref 1] S0 M0 (zQi (fun r' M' => r' = (if (pRun T len 20 1 (tF T len 0, τ0, n0, r0, i0)).1 = true then -1 else nI (pRun T len 20 1 (tF T len 0, τ0, n0, r0, i0)).2.2.1) ∧ zFF M0 M' T len (pRun T len 20 1 (tF T len 0, τ0, n0, r0, i0)))) := by
  obtain ⟨f0, hf0⟩ := nI_any (M0 8 3)
  obtain ⟨b0, hb0⟩ := nI_any (M0 8 1)
  refine zMet.of (by decide) (Nat.le_of_ble_eq_true rfl) ?_
  refine z_aload_n dX5_findFault_0 rfl ?_
  refine z_getR (j := 1) (r := 11) kX5 lf_X5_12 (by decide) rfl dX5_findFault_1 k0_10 s0_10 r0_10_1 (by decide) ?_
  refine z_aload_n dX5_findFault_4 rfl ?_
  refine z_vV1 (c_X7_become g l (ro := 11) (ro2 := 1) (by decide) (by decide) (by decide) hs R) mw_X7_become lm_X5_22 mi_X7_become mv_X7_become kX7 (by decide) (Nat.le_of_ble_eq_true rfl) zle k0_11 s0_11 dX5_findFault_5 (fun M5 q5 => ?_)
  have Q5 : tQ M5 M5 T len f0 b0 (M5 8 4) := by
    have g8 := q5.2 8 (by omega)
    have g9 := q5.2 9 (by omega)
    exact ⟨by rw [g8]; exact hb0, by rw [g8]; exact h2, by rw [g8]; exact hf0, rfl, fun j hj => by rw [g9]; exact hT j hj, fun _ _ => rfl⟩
  refine z_aload_n dX5_findFault_8 rfl ?_
  refine z_getR (j := 0) (r := 8) kX5 lf_X5_18 (by decide) rfl dX5_findFault_9 k0_10 s0_10 r0_10_0 (by decide) ?_
  refine z_vV0 (c_X10_firstToken g l hl Q5) mw_X10_firstToken lm_X5_26 mi_X10_firstToken mv_X10_firstToken kX10 (by decide) (Nat.le_of_ble_eq_true rfl) zle k0_8 s0_8 dX5_findFault_12 (fun M12 q12 => ?_)
  have S12 : zPS M0 M12 T len (tF T len 0) τ0 n0 r0 i0 ∨ True := Or.inr trivial
  clear S12
  have g12 : ∀ k, k ≠ 8 → M12 k = M5 k := q12.2.2.2.2.2
  have S12 : zPS M12 M12 T len (tF T len 0) τ0 n0 r0 i0 := ⟨⟨q12.1, q12.2.1, q12.2.2.1, q12.2.2.2.1, q12.2.2.2.2.1⟩, q5.1.keep (fun k a b => g12 k (by omega)), fun _ _ => rfl⟩
  refine z_aload_n dX5_findFault_15 rfl ?_
  refine z_iconst (v := 1) dX5_findFault_16 (by decide) ?_
  refine z_putIE (j := 2) kX5 lf_X5_31 (by decide) rfl rfl (kX5.2.2.1 2 (by decide)) rfl rfl dX5_findFault_17 k0_10 s0_10 (fun M17 e17 => ?_)
  exact lp_findFault g l (M0 := M0) hl 20 1 _ (by omega) (by omega) _ _ _ _ _ (tF_r (Nat.zero_le _)).2 hs (S12.cl e17) (by rw [e17]; exact z_up_kj _ _ _ _) (fun k hk => by rw [e17, z_up_n _ _ _ (by omega), g12 k (by omega), q5.2 k (by omega)]) rfl

