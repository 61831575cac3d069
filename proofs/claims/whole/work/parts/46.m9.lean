/-! ===== the reference's own methods: match, the odometer ===== -/
def mHD (M0 M : zM) (A : aSt) (e : Nat → Nat) (st : mSt) : Prop := RelM M A ∧ (∀ k, k < 127 → M k = M0 k) ∧ (∀ j, j < 4 → M 146 j = nI (e j)) ∧ (st.1 < 99999 → ∀ j, j < A.r → M 147 j = nI (st.2 j))
theorem mHD.cg {M0 M : zM} {A : aSt} {e e' : Nat → Nat} {st : mSt} (h : mHD M0 M A e st) (he : ∀ j, j < 4 → e' j = e j) : mHD M0 M A e' st := ⟨h.1, h.2.1, fun j hj => by rw [he j hj]; exact h.2.2.1 j hj, h.2.2.2⟩
theorem RelM.row2 {M M' : zM} {A : aSt} (C : RelM M A) (u8 : A.u ≤ 8) (h : ∀ k, k ≠ 146 → k ≠ 147 → M' k = M k) : RelM M' A := C.keep (fun j a => by rw [h 128 (by omega) (by omega)]) (fun j a => by rw [h 127 (by omega) (by omega)]) (fun k a => h k (by omega) (by omega)) u8

set_option maxRecDepth 100000 in
set_option maxHeartbeats 4000000 in
theorem lp_lineCopy (g : zG) (l : Launch) {M1 : zM} {x y b : Int32} {P : Option Value → zS → zM → Prop} (Kz : zA g l yX12_match cX12_match 6 (some .int) 2 0 0 P 89 0 0 S0 (z_row M1 147 (va_cpy (M1 146) (M1 147) 0 0 4)) [.ref 127, .int x, .int y, .null, .null, .null] []) : ∀ (k h : Nat), h ≤ 4 → 4 - h < k → zA g l yX12_match cX12_match 6 (some .int) 2 0 0 (P) 63 0 0 S0 (z_row M1 147 (va_cpy (M1 146) (M1 147) 0 0 h)) [.ref 127, .int x, .int y, .null, .null, .int (nI h)] [] := by
  intro k
  induction k with
  | zero => intro h hh hk; exact absurd hk (Nat.not_lt_zero _)
  | succ k ih =>
    intro h hh hk 
    refine z_iload dX12_match_63 rfl ?_
    refine z_iconst (v := 4) dX12_match_65 (by decide) ?_
    refine z_icmp_ge (tgt := 89) dX12_match_66 (by decide) (fun b66 => ?_) (fun b66 => ?_)
    · have e : 4 ≤ h := (nI_leI (by omega) (by omega)).mp b66
      have e2 : h = 4 := by omega
      subst e2
      exact zA.sub Kz rfl ⟨Or.inr rfl, Or.inr rfl, Or.inr rfl, Or.inl rfl, Or.inl rfl, Or.inl rfl, trivial⟩
    · have hn : h < 4 := by
        rcases Nat.lt_or_ge h 4 with z | z
        · exact z
        · exact absurd (nI_le z (by omega)) b66
      refine z_aload_n dX12_match_69 rfl ?_
      refine z_getR (j := 31) (r := 147) kX12 lf_X12_68 (by decide) rfl dX12_match_70 k0_127 s0_127 r0_127_31 (by decide) ?_
      refine z_iload dX12_match_73 rfl ?_
      refine z_aload_n dX12_match_75 rfl ?_
      refine z_getR (j := 30) (r := 146) kX12 lf_X12_65 (by decide) rfl dX12_match_76 k0_127 s0_127 r0_127_30 (by decide) ?_
      refine z_iload dX12_match_79 rfl ?_
      refine z_ialdV (j := h) rfl (by omega) (congrFun (z_row_n _ _ (by omega)) h) dX12_match_81 k0_146 s0_146 ?_
      refine z_iastN (j := h) rfl (by omega) dX12_match_82 k0_147 s0_147 ?_
      refine z_iincN (k := h) dX12_match_83 rfl rfl (by decide) rfl rfl ?_
      refine z_goto (tgt := 63) dX12_match_86 (by decide) ?_
      refine zA.sub (ih (h + 1) (by omega) (by omega)) ?_ ⟨Or.inr rfl, Or.inr rfl, Or.inr rfl, Or.inl rfl, Or.inl rfl, Or.inr rfl, trivial⟩
      funext k
      by_cases c : k = 147
      · subst c
        rw [z_up_s, z_row_s, z_row_s]
        funext j
        by_cases c2 : j = h
        · subst c2; rw [upd_s]; unfold va_cpy; rw [if_pos (by omega)]; exact congrArg (M1 146) (by omega)
        · rw [upd_n _ _ c2]; unfold va_cpy
          by_cases c3 : 0 ≤ j ∧ j < 0 + h
          · rw [if_pos c3, if_pos (by omega)]
          · rw [if_neg c3, if_neg (by omega)]
      · rw [z_up_n _ _ _ c, z_row_n _ _ c, z_row_n _ _ c]

theorem mGo_dig {σ : Dy} {n r : Nat} : ∀ k q, q + k = r → ∀ (e : Nat → Nat) (st : mSt), (∀ j, j < q → e j ≤ n) → (∀ j, j < r → st.2 j ≤ n) → ∀ j, j < r → (mGo σ n r k q e st).2 j ≤ n
  | 0, q, hq, e, st, he, hs => by
    show ∀ j, j < r → (mStep σ n r e st).2 j ≤ n
    unfold mStep
    split
    · exact fun j hj => he j (by omega)
    · exact hs
  | k + 1, q, hq, e, st, he, hs => by
    have h : ∀ m, m ≤ n + 1 → ∀ j, j < r → (mFold (fun h st => mGo σ n r k (q + 1) (setL e q h) st) m st).2 j ≤ n := by
      intro m
      induction m with
      | zero => intro _; exact hs
      | succ m ih =>
        intro hm
        refine mGo_dig k (q + 1) (by omega) (setL e q m) _ (fun j hj => ?_) (ih (by omega))
        unfold setL
        split
        · omega
        · exact he j (by omega)
    exact h (n + 1) (Nat.le_refl _)
theorem tk_bound {σ : Dy} {n r i : Nat} (ok : dOK σ n r i) (e : Nat → Nat) : (tk σ n e r).2.2 < 99999 := by
  have h : ∀ q, q ≤ r → (tk σ n e q).2.2 ≤ 18 * q := by
    intro q
    induction q with
    | zero => intro _; exact Nat.le_refl _
    | succ q ih =>
      intro hq
      have i1 := ih (by omega)
      show (if e q < n then (tk σ n e q).2.2 + tkT σ q (e q) else (tk σ n e q).2.2) ≤ 18 * (q + 1)
      split
      · rename_i c
        have := (tkT_in ok (q := q) (d := e q) (by omega) c).1
        omega
      · omega
  have := h r (Nat.le_refl _)
  have := ok.1.2.1
  omega
set_option maxRecDepth 100000 in
set_option maxHeartbeats 4000000 in
theorem lp_match (g : zG) (l : Launch) {M0 : zM} {A : aSt} (ok : aOK A) {x : Int32} {P : Option Value → zS → zM → Prop} : ∀ (k q : Nat), q + k = A.r → ∀ (e : Nat → Nat) (st : mSt) (M : zM), (∀ j, j < q → e j ≤ A.n) → st.1 ≤ 99999 → mHD M0 M A (fun j => if j < q then e j else 0) st →
    (∀ M' : zM, mHD M0 M' A (fun j => if j < q then e j else if j < A.r then A.n else 0) (mGo A.s A.n A.r k q e st) → zA g l yX12_match cX12_match 6 (some .int) 2 0 0 P 89 0 0 S0 M' [.ref 127, .int x, .int (nI (mGo A.s A.n A.r k q e st).1), .null, .null, .null] []) → zA g l yX12_match cX12_match 6 (some .int) 2 0 0 P 41 0 0 S0 M [.ref 127, .int x, .int (nI st.1), .int 1, .null, .null] [] := by
  have n8 : A.n ≤ 8 := ok.s.1.1
  have r4 : A.r ≤ 4 := ok.s.1.2.1
  have i6 : A.i ≤ 6 := ok.s.1.2.2.1
  have u8 : A.u ≤ 8 := ok.u
  intro k
  induction k with
  | zero =>
    intro q hq e st M he hs H K
    have hq2 : q = A.r := by omega
    subst hq2
    obtain ⟨C, F, hl, hb⟩ := H
    have eb : byL A.s A.n A.r (fun j => if j < A.r then e j else 0) = byL A.s A.n A.r e := byL_cg (fun j hj => if_pos hj)
    have hle : byL A.s A.n A.r e ≤ 99999 := by
      rcases Nat.lt_or_ge (byL A.s A.n A.r e) st.1 with z | z
      · omega
      · unfold byL
        split
        · exact Nat.le_of_lt (tk_bound ok.s e)
        · exact Nat.le_refl _
    have g0 : mGo A.s A.n A.r 0 A.r e st = if byL A.s A.n A.r e < st.1 then (byL A.s A.n A.r e, e) else st := rfl
    refine z_iload_n dX12_match_41 rfl ?_
    refine z_if_eq (tgt := 97) dX12_match_42 (by decide) (fun b42 => ?_) (fun b42 => ?_)
    · exact absurd b42 (by decide)
    · refine z_aload_n dX12_match_45 rfl ?_
      refine z_iV0 (c_X12_takenByLine g l ok C hl (fun j hj => by show (if j < A.r then e j else 0) ≤ A.n; rw [if_pos hj]; exact he j hj)) mw_X12_takenByLine lm_X12_250 mi_X12_takenByLine mv_X12_takenByLine kX12 (by decide) (Nat.le_of_ble_eq_true rfl) zle k0_127 s0_127 dX12_match_46 (fun r46 M46 q46 => ?_)
      obtain ⟨qr46, qm46⟩ := q46
      obtain rfl := qr46.symm
      obtain rfl := qm46.symm
      rw [eb]
      refine z_istore dX12_match_49 (by decide) rfl rfl ?_
      refine z_iload dX12_match_51 rfl ?_
      refine z_iload_n dX12_match_53 rfl ?_
      refine z_icmp_ge (tgt := 89) dX12_match_54 (by decide) (fun b54 => ?_) (fun b54 => ?_)
      · have hn : ¬ byL A.s A.n A.r e < st.1 := Nat.not_lt_of_le ((nI_leI (by omega) (by omega)).mp b54)
        have g1 := g0.trans (if_neg hn)
        have K1 := K M (by rw [g1]; exact mHD.cg ⟨C, F, hl, hb⟩ (fun j hj => by by_cases c : j < A.r; rw [if_pos c, if_pos c]; rw [if_neg c, if_neg c, if_neg c]))
        rw [g1] at K1
        exact zA.sub K1 rfl ⟨Or.inr rfl, Or.inr rfl, Or.inr rfl, Or.inl rfl, Or.inl rfl, Or.inl rfl, trivial⟩
      · have hn : byL A.s A.n A.r e < st.1 := Nat.lt_of_not_le (fun z => b54 ((nI_leI (by omega) (by omega)).mpr z))
        have g1 := g0.trans (if_pos hn)
        refine z_iload dX12_match_57 rfl ?_
        refine z_istore_n dX12_match_59 (by decide) rfl rfl ?_
        refine z_iconst (v := 0) dX12_match_60 (by decide) ?_
        refine z_istore dX12_match_61 (by decide) rfl rfl ?_
        have K1 := K (z_row M 147 (va_cpy (M 146) (M 147) 0 0 4)) (by
          rw [g1]
          refine ⟨C.row2 u8 (fun k a b => z_row_n _ _ b), fun k a => (z_row_n _ _ (by omega)).trans (F k a), fun j hj => ?_, fun _ j hj => ?_⟩
          · rw [z_row_n _ _ (by omega), hl j hj]
            dsimp only
            by_cases c : j < A.r
            · rw [if_pos c, if_pos c]
            · rw [if_neg c, if_neg c, if_neg c]
          · rw [z_row_s]
            unfold va_cpy
            rw [if_pos (by omega), Nat.zero_add, Nat.sub_zero, hl j (by omega)]
            dsimp only
            rw [if_pos hj])
        rw [g1] at K1
        have r0 : z_row M 147 (va_cpy (M 146) (M 147) 0 0 0) = M := funext (fun k => by
          by_cases c : k = 147
          · subst c; rw [z_row_s]; funext j; exact if_neg (by omega)
          · rw [z_row_n _ _ c])
        have L := lp_lineCopy g l (M1 := M) (x := x) (y := nI (byL A.s A.n A.r e)) (b := 0) (P := P) K1 5 0 (Nat.zero_le _) (by omega)
        rw [r0] at L
        exact zA.sub L rfl ⟨Or.inr rfl, Or.inr rfl, Or.inr rfl, Or.inl rfl, Or.inl rfl, Or.inr rfl, trivial⟩
  | succ k ih =>
    intro q hq e st M he hs H K
    have claim : ∀ (d : Nat), d ≤ A.n → ∀ M : zM, mHD M0 M A (fun j => if j < q then e j else if j = q then A.n - d else 0) (mFold (fun h st => mGo A.s A.n A.r k (q + 1) (setL e q h) st) (A.n - d) st) → zA g l yX12_match cX12_match 6 (some .int) 2 0 0 P 41 0 0 S0 M [.ref 127, .int x, .int (nI (mFold (fun h st => mGo A.s A.n A.r k (q + 1) (setL e q h) st) (A.n - d) st).1), .int 1, .null, .null] [] := by
      intro d
      induction d with
      | zero =>
        intro _ M H2
        refine ih (q + 1) (by omega) (setL e q A.n) (mFold (fun h st => mGo A.s A.n A.r k (q + 1) (setL e q h) st) A.n st) M (fun j hj => ?_) (mFold_in hs _) (mHD.cg H2 (fun j hj => ?_)) (fun M' H3 => K M' (mHD.cg H3 (fun j hj => ?_)))
        · unfold setL; split
          · exact Nat.le_refl _
          · exact he j (by omega)
        · unfold setL
          by_cases c : j < q
          · rw [if_pos (by omega), if_neg (by omega), if_pos c]
          · by_cases c2 : j = q
            · rw [if_pos (by omega), if_pos c2, if_neg c, if_pos c2]; rfl
            · rw [if_neg (by omega), if_neg c, if_neg c2]
        · unfold setL
          by_cases c : j < q
          · rw [if_pos c, if_pos (by omega), if_neg (by omega)]
          · by_cases c2 : j = q
            · rw [if_neg c, if_pos (by omega), if_pos (by omega), if_pos c2]
            · rw [if_neg c, if_neg (show ¬ j < q + 1 by omega)]
      | succ d ihd =>
        intro hd M H2
        obtain ⟨h, eh⟩ : ∃ h, A.n - (d + 1) = h := ⟨_, rfl⟩
        have hn : h < A.n := by omega
        have ed : A.n - d = h + 1 := by omega
        rw [eh] at H2 ⊢
        rw [ed] at ihd
        refine ih (q + 1) (by omega) (setL e q h) (mFold (fun h st => mGo A.s A.n A.r k (q + 1) (setL e q h) st) h st) M (fun j hj => ?_) (mFold_in hs _) (mHD.cg H2 (fun j hj => ?_)) (fun M' H3 => ?_)
        · unfold setL; split
          · omega
          · exact he j (by omega)
        · unfold setL
          by_cases c : j < q
          · rw [if_pos (by omega), if_neg (by omega), if_pos c]
          · by_cases c2 : j = q
            · rw [if_pos (by omega), if_pos c2, if_neg c, if_pos c2]
            · rw [if_neg (by omega), if_neg c, if_neg c2]
        · obtain ⟨C, F, hl, hb⟩ := H3
          refine z_aload_n dX12_match_89 rfl ?_
          refine z_iV0 (c_X12_nextLine1 g l ok C hl (q := q) (by omega) (by show (if q < q + 1 then setL e q h q else _) < A.n; rw [if_pos (by omega)]; unfold setL; rw [if_pos rfl]; exact hn) (fun j h1 h2 => by show (if j < q + 1 then setL e q h j else if j < A.r then A.n else 0) = A.n; rw [if_neg (by omega), if_pos h2])) mw_X12_nextLine lm_X12_253 mi_X12_nextLine mv_X12_nextLine kX12 (by decide) (Nat.le_of_ble_eq_true rfl) zle k0_127 s0_127 dX12_match_90 (fun r90 M90 q90 => ?_)
          obtain ⟨rfl, qm⟩ := q90
          obtain rfl := qm.symm
          refine z_istore_n dX12_match_93 (by decide) rfl rfl ?_
          refine z_goto (tgt := 41) dX12_match_94 (by decide) ?_
          refine ihd (by omega) _ ⟨C.row2 u8 (fun k a b => z_row_n _ _ a), fun k a => (z_row_n _ _ (by omega)).trans (F k a), fun j hj => ?_, fun z j hj => by rw [z_row_n _ _ (by omega)]; exact hb z j hj⟩
          rw [z_row_s]
          dsimp only
          have e1 : (if q < q + 1 then setL e q h q else if q < A.r then A.n else 0) = h := by rw [if_pos (by omega)]; exact if_pos rfl
          by_cases c : q + 1 ≤ j ∧ j < A.r
          · rw [if_pos c, if_neg (show ¬ j < q by omega), if_neg (show ¬ j = q by omega)]; rfl
          · rw [if_neg c]
            by_cases c2 : j = q
            · rw [if_pos c2, if_neg (show ¬ j < q by omega), if_pos c2, e1]
            · rw [if_neg c2, hl j hj]
              dsimp only
              by_cases c3 : j < q
              · rw [if_pos c3, if_pos (by omega)]; exact congrArg nI (if_neg c2)
              · rw [if_neg c3, if_neg c2, if_neg (by omega), if_neg (by omega)]
    have c0 := claim A.n (Nat.le_refl _) M
    rw [Nat.sub_self] at c0
    exact c0 (mHD.cg H (fun j hj => by
      by_cases c : j < q
      · rw [if_pos c, if_pos c]
      · rw [if_neg c, if_neg c]; split <;> rfl))

set_option maxRecDepth 100000 in
set_option maxHeartbeats 4000000 in
theorem lp_lineZero (g : zG) (l : Launch) {M : zM} {x : Int32} {P : Option Value → zS → zM → Prop} (Kz : zA g l yX12_match cX12_match 6 (some .int) 2 0 0 P 36 0 0 S0 (z_row M 146 (fun j => if j < 4 then 0 else M 146 j)) [.ref 127, .int x, .null, .null, .null, .null] []) : ∀ (k h : Nat), h ≤ 4 → 4 - h < k → zA g l yX12_match cX12_match 6 (some .int) 2 0 0 (P) 18 0 0 S0 (z_row M 146 (fun j => if j < h then 0 else M 146 j)) [.ref 127, .int x, .int (nI h), .null, .null, .null] [] := by
  intro k
  induction k with
  | zero => intro h hh hk; exact absurd hk (Nat.not_lt_zero _)
  | succ k ih =>
    intro h hh hk 
    refine z_iload_n dX12_match_18 rfl ?_
    refine z_iconst (v := 4) dX12_match_19 (by decide) ?_
    refine z_icmp_ge (tgt := 36) dX12_match_20 (by decide) (fun b20 => ?_) (fun b20 => ?_)
    · have e : 4 ≤ h := (nI_leI (by omega) (by omega)).mp b20
      have e2 : h = 4 := by omega
      subst e2
      exact zA.sub Kz rfl ⟨Or.inr rfl, Or.inr rfl, Or.inl rfl, Or.inl rfl, Or.inl rfl, Or.inl rfl, trivial⟩
    · have hn : h < 4 := by
        rcases Nat.lt_or_ge h 4 with z | z
        · exact z
        · exact absurd (nI_le z (by omega)) b20
      refine z_aload_n dX12_match_23 rfl ?_
      refine z_getR (j := 30) (r := 146) kX12 lf_X12_65 (by decide) rfl dX12_match_24 k0_127 s0_127 r0_127_30 (by decide) ?_
      refine z_iload_n dX12_match_27 rfl ?_
      refine z_iconst (v := 0) dX12_match_28 (by decide) ?_
      refine z_iastN (j := h) rfl (by omega) dX12_match_29 k0_146 s0_146 ?_
      refine z_iincN (k := h) dX12_match_30 rfl rfl (by decide) rfl rfl ?_
      refine z_goto (tgt := 18) dX12_match_33 (by decide) ?_
      refine zA.sub (ih (h + 1) (by omega) (by omega)) ?_ ⟨Or.inr rfl, Or.inr rfl, Or.inr rfl, Or.inl rfl, Or.inl rfl, Or.inl rfl, trivial⟩
      funext k
      by_cases c : k = 146
      · subst c
        rw [z_up_s, z_row_s, z_row_s]
        funext j
        by_cases c2 : j = h
        · subst c2; rw [upd_s, if_pos (by omega)]
        · rw [upd_n _ _ c2]
          by_cases c3 : j < h
          · rw [if_pos c3, if_pos (by omega)]
          · rw [if_neg c3, if_neg (by omega)]
      · rw [z_up_n _ _ _ c, z_row_n _ _ c, z_row_n _ _ c]

set_option maxRecDepth 100000 in
set_option maxHeartbeats 4000000 in
theorem lp_matchTail (g : zG) (l : Launch) {M : zM} {A : aSt} (ok : aOK A) (C : RelM M A) {x : Int32} (hx : ¬ (¬ x = -1 ∧ ¬ (0 ≤ x ∧ x < nI A.r))) : zA g l yX12_match cX12_match 6 (some .int) 2 0 0 (zQi (fun r' M' => zAnsM M A (aMatchM A x) r' M')) 36 0 0 S0 (z_row M 146 (fun j => if j < 4 then 0 else M 146 j)) [.ref 127, .int x, .null, .null, .null, .null] [] := by
  have n8 : A.n ≤ 8 := ok.s.1.1
  have r4 : A.r ≤ 4 := ok.s.1.2.1
  have i6 : A.i ≤ 6 := ok.s.1.2.2.1
  have u8 : A.u ≤ 8 := ok.u
  have H0 : mHD M (z_row M 146 (fun j => if j < 4 then 0 else M 146 j)) A (fun j => if j < 0 then (fun _ => 0) j else 0) (99999, fun _ => 0) := ⟨C.row2 u8 (fun k a b => z_row_n _ _ a), fun k a => z_row_n _ _ (by omega), fun j hj => by rw [z_row_s, if_pos hj]; rfl, fun z => absurd z (Nat.lt_irrefl _)⟩
  refine z_ldc lc_X12_184 dX12_match_36 ?_
  refine z_istore_n dX12_match_38 (by decide) rfl rfl ?_
  refine z_iconst (v := 1) dX12_match_39 (by decide) ?_
  refine z_istore_n dX12_match_40 (by decide) rfl rfl ?_
  refine zA.sub (lp_match g l (M0 := M) ok (x := x) (P := (zQi (fun r' M' => zAnsM M A (aMatchM A x) r' M'))) A.r 0 (by omega) (fun _ => 0) (99999, fun _ => 0) _ (fun j hj => absurd hj (Nat.not_lt_zero _)) (Nat.le_refl _) H0 (fun M' H3 => ?_)) rfl ⟨Or.inr rfl, Or.inr rfl, Or.inr rfl, Or.inr rfl, Or.inl rfl, Or.inl rfl, trivial⟩
  obtain ⟨C3, F3, hl, h147⟩ := H3
  refine z_aload_n dX12_match_89 rfl ?_
  refine z_iV0 (c_X12_nextLine0 g l ok C3 hl (fun j hj => by show (if j < 0 then _ else if j < A.r then A.n else 0) = A.n; rw [if_neg (by omega), if_pos hj])) mw_X12_nextLine lm_X12_253 mi_X12_nextLine mv_X12_nextLine kX12 (by decide) (Nat.le_of_ble_eq_true rfl) zle k0_127 s0_127 dX12_match_90 (fun r90 M90 q90 => ?_)
  obtain ⟨rfl, qm⟩ := q90
  obtain rfl := qm.symm
  have C4 : RelM (z_row M' 146 (fun j => if 0 ≤ j ∧ j < A.r then 0 else M' 146 j)) A := C3.row2 u8 (fun k a b => z_row_n _ _ a)
  have F4 : ∀ k, k < 127 → z_row M' 146 (fun j => if 0 ≤ j ∧ j < A.r then 0 else M' 146 j) k = M k := fun k a => (z_row_n _ _ (by omega)).trans (F3 k a)
  have tl : (mTop A).1 ≤ 99999 := mGo_in _ _ _ _ (Nat.le_refl _)
  refine z_istore_n dX12_match_93 (by decide) rfl rfl ?_
  refine z_goto (tgt := 41) dX12_match_94 (by decide) ?_
  refine z_iload_n dX12_match_41 rfl ?_
  refine z_if_eq (tgt := 97) dX12_match_42 (by decide) (fun b42 => ?_) (fun b42 => ?_)
  · refine z_iload_n dX12_match_97 rfl ?_
    refine z_ldc lc_X12_184 dX12_match_98 ?_
    refine z_icmp_ne (tgt := 105) dX12_match_100 (by decide) (fun b100 => ?_) (fun b100 => ?_)
    · have ht : ¬ (mTop A).1 = 99999 := fun z => b100 (by show nI (mTop A).1 = _; rw [z]; rfl)
      
      refine z_iload_n dX12_match_105 rfl ?_
      refine z_iconst (v := (-1)) dX12_match_106 (by decide) ?_
      refine z_icmp_ne (tgt := 114) dX12_match_107 (by decide) (fun b107 => ?_) (fun b107 => ?_)
      · obtain ⟨q, hq, rfl⟩ := (zInD x (n := A.r) (by omega)).resolve_right (fun z => hx ⟨b107, z⟩)
        have h7 : M' 147 q = nI ((mTop A).2 q) := h147 (show (mTop A).1 < 99999 by omega) q hq
        have hd7 : (mTop A).2 q ≤ A.n := mGo_dig A.r 0 (by omega) _ _ (fun j hj => absurd hj (Nat.not_lt_zero _)) (fun j hj => Nat.zero_le _) q hq
        refine z_aload_n dX12_match_114 rfl ?_
        refine z_getR (j := 31) (r := 147) kX12 lf_X12_68 (by decide) rfl dX12_match_115 k0_127 s0_127 r0_127_31 (by decide) ?_
        refine z_iload_n dX12_match_118 rfl ?_
        refine z_ialdV (j := q) rfl (by omega) ((congrFun (z_row_n _ _ (by omega)) q).trans h7) dX12_match_119 k0_147 s0_147 ?_
        refine z_aload_n dX12_match_120 rfl ?_
        refine z_getR (j := 0) (r := 128) kX12 lf_X12_7 (by decide) rfl dX12_match_121 k0_127 s0_127 r0_127_0 (by decide) ?_
        refine z_iconst (v := 0) dX12_match_124 (by decide) ?_
        refine z_ialdV (j := 0) rfl (by decide) ((C4.s 0 (by omega)).trans ok.s.1.2.2.2.1) dX12_match_125 k0_128 s0_128 ?_
        refine z_icmp_ne (tgt := 133) dX12_match_126 (by decide) (fun b126 => ?_) (fun b126 => ?_)
        · refine z_aload_n dX12_match_133 rfl ?_
          refine z_getR (j := 31) (r := 147) kX12 lf_X12_68 (by decide) rfl dX12_match_134 k0_127 s0_127 r0_127_31 (by decide) ?_
          refine z_iload_n dX12_match_137 rfl ?_
          refine z_ialdV (j := q) rfl (by omega) ((congrFun (z_row_n _ _ (by omega)) q).trans h7) dX12_match_138 k0_147 s0_147 ?_
          refine z_iret dX12_match_139 rfl zle ?_
          first
            | exact ⟨by unfold aMatchM; rw [if_neg hx, if_neg ht, if_pos b107]; rfl, C4, F4⟩
            | (have e8 : aMatchM A (nI q) = cvN A.n ((mTop A).2 q) := by unfold aMatchM; rw [if_neg hx, if_neg ht, if_neg b107, nI_clamp (by omega)]
               first
               | exact ⟨by rw [e8]; unfold cvN; exact (if_pos ((nI_eq (a := (mTop A).2 q) (b := A.n) (by omega) (by omega)).mp b126)).symm, C4, F4⟩
               | exact ⟨by rw [e8]; unfold cvN; exact (if_neg (fun z => b126 (by show nI ((mTop A).2 q) = _; rw [z]))).symm, C4, F4⟩)
        · refine z_iconst (v := (-1)) dX12_match_129 (by decide) ?_
          refine z_goto (tgt := 139) dX12_match_130 (by decide) ?_
          refine z_iret dX12_match_139 rfl zle ?_
          first
            | exact ⟨by unfold aMatchM; rw [if_neg hx, if_neg ht, if_pos b107]; rfl, C4, F4⟩
            | (have e8 : aMatchM A (nI q) = cvN A.n ((mTop A).2 q) := by unfold aMatchM; rw [if_neg hx, if_neg ht, if_neg b107, nI_clamp (by omega)]
               first
               | exact ⟨by rw [e8]; unfold cvN; exact (if_pos ((nI_eq (a := (mTop A).2 q) (b := A.n) (by omega) (by omega)).mp b126)).symm, C4, F4⟩
               | exact ⟨by rw [e8]; unfold cvN; exact (if_neg (fun z => b126 (by show nI ((mTop A).2 q) = _; rw [z]))).symm, C4, F4⟩)
      · refine z_iload_n dX12_match_110 rfl ?_
        refine z_goto (tgt := 139) dX12_match_111 (by decide) ?_
        refine z_iret dX12_match_139 rfl zle ?_
        first
          | exact ⟨by unfold aMatchM; rw [if_neg hx, if_neg ht, if_pos b107]; rfl, C4, F4⟩
          | (have e8 : aMatchM A (nI q) = cvN A.n ((mTop A).2 q) := by unfold aMatchM; rw [if_neg hx, if_neg ht, if_neg b107, nI_clamp (by omega)]
             first
             | exact ⟨by rw [e8]; unfold cvN; exact (if_pos ((nI_eq (a := (mTop A).2 q) (b := A.n) (by omega) (by omega)).mp b126)).symm, C4, F4⟩
             | exact ⟨by rw [e8]; unfold cvN; exact (if_neg (fun z => b126 (by show nI ((mTop A).2 q) = _; rw [z]))).symm, C4, F4⟩)
    · have ht : (mTop A).1 = 99999 := (nI_eq (b := 99999) (by omega) (by omega)).mp b100
      refine z_iconst (v := (-1)) dX12_match_103 (by decide) ?_
      refine z_iret dX12_match_104 rfl zle ?_
      exact ⟨by unfold aMatchM; rw [if_neg hx, if_pos ht], C4, F4⟩
  · exact absurd b42 (by decide)

set_option maxRecDepth 100000 in
set_option maxHeartbeats 4000000 in
theorem c_X12_match (g : zG) (l : Launch) {M : zM} {A : aSt} (ok : aOK A) (C : RelM M A) {x : Int32} : zMet g l yX12_match cX12_match 6 (some .int) 2 0 0 [.ref 127, .int x] S0 M (zQi (fun r' M' => zAnsM M A (aMatchM A x) r' M')) := by
  have n8 : A.n ≤ 8 := ok.s.1.1
  have r4 : A.r ≤ 4 := ok.s.1.2.1
  have i6 : A.i ≤ 6 := ok.s.1.2.2.1
  have u8 : A.u ≤ 8 := ok.u
  rcases zInD x (show A.r < 1000 by omega) with ⟨h, hh, rfl⟩ | hx
  · have hn1 : ¬ nI h = -1 := nI_nm1 (by omega)
    refine zMet.of (by decide) (Nat.le_of_ble_eq_true rfl) ?_
    refine z_iload_n dX12_match_0 rfl ?_
    refine z_iconst (v := (-1)) dX12_match_1 (by decide) ?_
    refine z_icmp_eq (tgt := 16) dX12_match_2 (by decide) (fun b2 => ?_) (fun b2 => ?_)
    · exact absurd b2 hn1
    · refine z_aload_n dX12_match_5 rfl ?_
      refine z_iload_n dX12_match_6 rfl ?_
      refine z_iV1 (c_X12_isRider g l ok C) mw_X12_isRider lm_X12_172 mi_X12_isRider mv_X12_isRider kX12 (by decide) (Nat.le_of_ble_eq_true rfl) zle k0_127 s0_127 dX12_match_7 (fun r7 M7 q7 => ?_)
      obtain ⟨qm7, qr7⟩ := q7
      obtain rfl := qm7.symm
      obtain ⟨c7, rfl⟩ | ⟨c7, rfl⟩ := qr7
      · refine z_if_ne (tgt := 16) dX12_match_10 (by decide) (fun b10 => ?_) (fun b10 => ?_)
        · refine z_iconst (v := 0) dX12_match_16 (by decide) ?_
          refine z_istore_n dX12_match_17 (by decide) rfl rfl ?_
          have r0 : z_row M 146 (fun j => if j < 0 then 0 else M 146 j) = M := funext (fun k => by
            by_cases c : k = 146
            · subst c; rw [z_row_s]; funext j; exact if_neg (Nat.not_lt_zero _)
            · rw [z_row_n _ _ c])
          have L := lp_lineZero g l (M := M) (lp_matchTail g l ok C (fun z => z.2 (zInP hh (by omega)))) 5 0 (Nat.zero_le _) (by omega)
          rw [r0] at L
          exact zA.sub L rfl ⟨Or.inr rfl, Or.inr rfl, Or.inr rfl, Or.inl rfl, Or.inl rfl, Or.inl rfl, trivial⟩
        · exact absurd b10 (by decide)
      · exact absurd (zInP hh (by omega)) c7
  · by_cases hn1 : x = -1
    · refine zMet.of (by decide) (Nat.le_of_ble_eq_true rfl) ?_
      refine z_iload_n dX12_match_0 rfl ?_
      refine z_iconst (v := (-1)) dX12_match_1 (by decide) ?_
      refine z_icmp_eq (tgt := 16) dX12_match_2 (by decide) (fun b2 => ?_) (fun b2 => ?_)
      · refine z_iconst (v := 0) dX12_match_16 (by decide) ?_
        refine z_istore_n dX12_match_17 (by decide) rfl rfl ?_
        have r0 : z_row M 146 (fun j => if j < 0 then 0 else M 146 j) = M := funext (fun k => by
          by_cases c : k = 146
          · subst c; rw [z_row_s]; funext j; exact if_neg (Nat.not_lt_zero _)
          · rw [z_row_n _ _ c])
        have L := lp_lineZero g l (M := M) (lp_matchTail g l ok C (fun z => z.1 hn1)) 5 0 (Nat.zero_le _) (by omega)
        rw [r0] at L
        exact zA.sub L rfl ⟨Or.inr rfl, Or.inr rfl, Or.inr rfl, Or.inl rfl, Or.inl rfl, Or.inl rfl, trivial⟩
      · exact absurd hn1 b2
    · refine zMet.of (by decide) (Nat.le_of_ble_eq_true rfl) ?_
      refine z_iload_n dX12_match_0 rfl ?_
      refine z_iconst (v := (-1)) dX12_match_1 (by decide) ?_
      refine z_icmp_eq (tgt := 16) dX12_match_2 (by decide) (fun b2 => ?_) (fun b2 => ?_)
      · exact absurd b2 hn1
      · refine z_aload_n dX12_match_5 rfl ?_
        refine z_iload_n dX12_match_6 rfl ?_
        refine z_iV1 (c_X12_isRider g l ok C) mw_X12_isRider lm_X12_172 mi_X12_isRider mv_X12_isRider kX12 (by decide) (Nat.le_of_ble_eq_true rfl) zle k0_127 s0_127 dX12_match_7 (fun r7 M7 q7 => ?_)
        obtain ⟨qm7, qr7⟩ := q7
        obtain rfl := qm7.symm
        obtain ⟨c7, rfl⟩ | ⟨c7, rfl⟩ := qr7
        · exact absurd c7 hx
        · refine z_if_ne (tgt := 16) dX12_match_10 (by decide) (fun b10 => ?_) (fun b10 => ?_)
          · exact absurd b10 (by decide)
          · refine z_bipush (v := (-2)) dX12_match_13 (by decide) ?_
            refine z_iret dX12_match_15 rfl zle ?_
            exact zAnsM.of C (by unfold aMatchM; rw [if_pos ⟨hn1, hx⟩])

