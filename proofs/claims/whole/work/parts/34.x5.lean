/-! ===== the class's own methods: copy, road ===== -/
theorem pNum_in {T : Nat → Int32} {len f : Nat} {lo hi : Int32} (h : ¬ (pNum T len f lo hi).1 = -1) : lo ≤ (pNum T len f lo hi).1 ∧ (pNum T len f lo hi).1 ≤ hi := by
  unfold pNum at h ⊢
  by_cases c : tDg T len f = -1 ∨ tDg T len f < lo ∨ hi < tDg T len f
  · rw [if_pos c] at h; exact absurd rfl h
  · rw [if_neg c]
    exact ⟨Int32.not_lt.mp (fun z => c (Or.inr (Or.inl z))), Int32.not_lt.mp (fun z => c (Or.inr (Or.inr z)))⟩
theorem zIn_of {x : Int32} {i : Nat} (hi : i < 1000) (h1 : 0 ≤ x) (h2 : x ≤ nI i - 1) : zIn x i := by
  rcases Nat.eq_zero_or_pos i with e | e
  · subst e
    rw [Int32.le_iff_toInt_le] at h1 h2
    have e1 : (nI 0 - 1 : Int32).toInt = -1 := by decide
    rw [e1] at h2
    have e2 : (0 : Int32).toInt = 0 := by decide
    omega
  · obtain ⟨k, rfl⟩ : ∃ k, i = k + 1 := ⟨i - 1, by omega⟩
    rw [nI_pred k] at h2
    obtain ⟨j, hj1, hj2, rfl⟩ := (zIdx x (a := 0) (c := k) (by omega) (by omega)).resolve_right (fun z => z.elim (Int32.not_lt.mpr h1) (Int32.not_lt.mpr h2))
    exact ⟨j, by omega, rfl⟩
theorem zIn_c {x : Int32} {a c : Nat} (hc : c < 1000) (ha : a < 1000) (h1 : nI a ≤ x) (h2 : x ≤ nI c) : ∃ j, a ≤ j ∧ j ≤ c ∧ x = nI j := (zIdx x (a := a) (c := c) (by omega) (by omega)).resolve_right (fun z => z.elim (Int32.not_lt.mpr h1) (Int32.not_lt.mpr h2))
def pInv (τ : Dy) (n r i : Nat) : Prop := dOK τ n r i ∧ dFresh τ n ∧ (∀ h, h < 8 → τ (35 + h) = 0 ∧ τ (43 + h) = 0)
theorem pInn_ok {τ : Dy} {n r i : Nat} {x : Int32} (h : pInv τ n r i) (hi : i < 6) (hx : zIn1 x) : pInv (pInn τ i x) n r (i + 1) := by
  obtain ⟨⟨⟨h1, h2, h3, h4, h5, h6⟩, h7, h8, h9⟩, ⟨f1, f2, f3, f4⟩, f5⟩ := h
  have e : ∀ k, k < 63 → pInn τ i x k = τ k := fun k hk => by unfold pInn; rw [upd_n _ _ (by omega), upd_n _ _ (by omega)]
  refine ⟨⟨⟨h1, h2, by omega, by rw [e _ (by omega)]; exact h4, by rw [e _ (by omega)]; exact h5, by unfold pInn; rw [upd_s]⟩, fun k hk => ?_, fun k hk => ?_, fun k hk => ?_⟩, ⟨by rw [e _ (by omega)]; exact f1, fun k hk => by rw [e _ (by omega), e _ (by omega)]; exact f2 k hk, fun q hq => by rw [e _ (by omega)]; exact f3 q hq, fun k hk => by rw [e _ (by omega), e _ (by omega)]; exact f4 k hk⟩, fun k hk => by rw [e _ (by omega), e _ (by omega)]; exact f5 k hk⟩
  · rw [e _ (by omega), e _ (by omega), e _ (by omega), e _ (by omega), e _ (by omega)]
    obtain ⟨g1, g2, g3, g4⟩ := h7 k hk
    exact ⟨g1, g2.lt (by omega), g3.lt (by omega), g4⟩
  · rw [e _ (by omega), e _ (by omega)]
    exact ⟨(h8 k hk).1.lt (by omega), (h8 k hk).2.lt (by omega)⟩
  · by_cases c : k = i
    · subst c
      unfold pInn
      rw [upd_n _ _ (by omega), upd_s]; exact hx
    · unfold pInn
      rw [upd_n _ _ (by omega), upd_n _ _ (by omega)]; exact h9 k (by omega)
theorem pRider_ok {τ : Dy} {n r i : Nat} {x z : Int32} (h : pInv τ n r i) (hr : r < 4) (hx : zIn x i) (hz : zIn z i) : pInv (pRider τ r x z) n (r + 1) i := by
  obtain ⟨⟨⟨h1, h2, h3, h4, h5, h6⟩, h7, h8, h9⟩, ⟨f1, f2, f3, f4⟩, f5⟩ := h
  have e : ∀ k, k ≠ 1 → (k < 51 ∨ 58 < k) → pRider τ r x z k = τ k := fun k h1 hk => by unfold pRider; rw [upd_n _ _ (by omega), upd_n _ _ (by omega), upd_n _ _ (by omega)]
  refine ⟨⟨⟨h1, by omega, h3, by rw [e _ (by omega) (by omega)]; exact h4, by unfold pRider; rw [upd_s], by rw [e _ (by omega) (by omega)]; exact h6⟩, fun k hk => ?_, fun k hk => ?_, fun k hk => ?_⟩, ⟨by rw [e _ (by omega) (by omega)]; exact f1, fun k hk => by rw [e _ (by omega) (by omega), e _ (by omega) (by omega)]; exact f2 k hk, fun q hq => by rw [e _ (by omega) (by omega)]; exact f3 q hq, fun k hk => by rw [e _ (by omega) (by omega), e _ (by omega) (by omega)]; exact f4 k hk⟩, fun k hk => by rw [e _ (by omega) (by omega), e _ (by omega) (by omega)]; exact f5 k hk⟩
  · rw [e _ (by omega) (by omega), e _ (by omega) (by omega), e _ (by omega) (by omega), e _ (by omega) (by omega), e _ (by omega) (by omega)]
    exact h7 k hk
  · unfold pRider
    rw [upd_n _ _ (show 51 + k ≠ 1 by omega), upd_n _ _ (show 55 + k ≠ 1 by omega), upd_n _ _ (show 51 + k ≠ 55 + r by omega)]
    by_cases c : k = r
    · subst c
      rw [upd_s, upd_s]; exact ⟨hx, hz⟩
    · rw [upd_n _ _ (show 51 + k ≠ 51 + r by omega), upd_n _ _ (show 55 + k ≠ 55 + r by omega), upd_n _ _ (show 55 + k ≠ 51 + r by omega)]
      exact h8 k (by omega)
  · rw [e _ (by omega) (by omega)]; exact h9 k hk
theorem pHour_ok {τ : Dy} {n r i : Nat} {k x t : Int32} (h : pInv τ n r i) (hn : n < 8) (hk : zIn k 5) (hx : zIn x i) (ht : zIn t 11) : pInv (pHour τ n k x t) (n + 1) r i := by
  obtain ⟨⟨⟨h1, h2, h3, h4, h5, h6⟩, h7, h8, h9⟩, ⟨f1, f2, f3, f4⟩, f5⟩ := h
  have e : ∀ j, j ≠ 0 → j ≠ 3 + n → j ≠ 11 + n → j ≠ 19 + n → j ≠ 27 + n → pHour τ n k x t j = τ j := fun j g0 g1 g2 g3 g4 => by unfold pHour; rw [upd_n _ _ g0, upd_n _ _ g4, upd_n _ _ g3, upd_n _ _ g2, upd_n _ _ g1]
  have e0 : pHour τ n k x t 0 = nI (n + 1) := by unfold pHour; rw [upd_s]
  have e1 : pHour τ n k x t (3 + n) = k := by unfold pHour; rw [upd_n _ _ (by omega), upd_n _ _ (by omega), upd_n _ _ (by omega), upd_n _ _ (by omega), upd_s]
  have e2 : pHour τ n k x t (11 + n) = x := by unfold pHour; rw [upd_n _ _ (by omega), upd_n _ _ (by omega), upd_n _ _ (by omega), upd_s]
  have e3 : pHour τ n k x t (19 + n) = x := by unfold pHour; rw [upd_n _ _ (by omega), upd_n _ _ (by omega), upd_s]
  have e4 : pHour τ n k x t (27 + n) = t := by unfold pHour; rw [upd_n _ _ (by omega), upd_s]
  refine ⟨⟨⟨by omega, h2, h3, e0, by rw [e _ (by omega) (by omega) (by omega) (by omega) (by omega)]; exact h5, by rw [e _ (by omega) (by omega) (by omega) (by omega) (by omega)]; exact h6⟩, fun j hj => ?_, fun j hj => ?_, fun j hj => ?_⟩, ⟨by rw [e _ (by omega) (by omega) (by omega) (by omega) (by omega)]; exact f1, fun j hj => by rw [e _ (by omega) (by omega) (by omega) (by omega) (by omega), e _ (by omega) (by omega) (by omega) (by omega) (by omega)]; exact f2 j hj, fun q hq => by rw [e _ (by omega) (by omega) (by omega) (by omega) (by omega)]; exact f3 q hq, fun j hj => ?_⟩, fun j hj => by rw [e _ (by omega) (by omega) (by omega) (by omega) (by omega), e _ (by omega) (by omega) (by omega) (by omega) (by omega)]; exact f5 j hj⟩
  · rw [e (35 + j) (by omega) (by omega) (by omega) (by omega) (by omega)]
    by_cases c : j = n
    · subst c
      rw [e1, e2, e3, e4]
      exact ⟨hk, hx, hx, ht, Or.inl (f5 j (by omega)).1⟩
    · rw [e (3 + j) (by omega) (by omega) (by omega) (by omega) (by omega), e (11 + j) (by omega) (by omega) (by omega) (by omega) (by omega), e (19 + j) (by omega) (by omega) (by omega) (by omega) (by omega), e (27 + j) (by omega) (by omega) (by omega) (by omega) (by omega)]
      exact h7 j (by omega)
  · rw [e (51 + j) (by omega) (by omega) (by omega) (by omega) (by omega), e (55 + j) (by omega) (by omega) (by omega) (by omega) (by omega)]
    exact h8 j hj
  · rw [e (64 + j) (by omega) (by omega) (by omega) (by omega) (by omega)]; exact h9 j hj
  · by_cases c : j = n
    · subst c; rw [e2, e3]
    · rw [e (19 + j) (by omega) (by omega) (by omega) (by omega) (by omega), e (11 + j) (by omega) (by omega) (by omega) (by omega) (by omega)]
      exact f4 j (by omega)
theorem pRoad_ok (τ : Dy) : pInv (pRoad τ) 0 0 0 := by
  have e : ∀ k, k < 70 → pRoad τ k = 0 := fun k hk => if_pos hk
  exact ⟨⟨⟨by omega, by omega, by omega, e _ (by omega), e _ (by omega), e _ (by omega)⟩, fun k hk => absurd hk (Nat.not_lt_zero _), fun k hk => absurd hk (Nat.not_lt_zero _), fun k hk => absurd hk (Nat.not_lt_zero _)⟩,
    ⟨e _ (by omega), fun k hk => ⟨e _ (by omega), e _ (by omega)⟩, fun q hq => e _ (by omega), fun k hk => absurd hk (Nat.not_lt_zero _)⟩, fun k hk => ⟨e _ (by omega), e _ (by omega)⟩⟩
theorem pClause_ok {T : Nat → Int32} {len f n r i : Nat} {τ : Dy} (h : pInv τ n r i) : pInv (pClause T len f τ n r i).2.2.1 (pClause T len f τ n r i).2.2.2.1 (pClause T len f τ n r i).2.2.2.2.1 (pClause T len f τ n r i).2.2.2.2.2 := by
  have hs := h.1.1
  unfold pClause
  split
  · exact h
  · rename_i c1
    split
    · exact h
    · rename_i c2
      split
      · exact pRoad_ok τ
      · rename_i c5
        split
        · rename_i c6
          have hi : i < 6 := Nat.lt_of_not_le (fun z => c2 (Or.inl ⟨c6, z⟩))
          unfold pInnC
          split
          · exact h
          · rename_i d
            obtain ⟨a, ha, hb, e⟩ := zIn_c (a := 1) (c := 9) (by omega) (by omega) (pNum_in d).1 (pNum_in d).2
            exact pInn_ok h hi ⟨a, ha, hb, e⟩
        · rename_i c6
          split
          · rename_i c7
            have hr : r < 4 := Nat.lt_of_not_le (fun z => c2 (Or.inr (Or.inl ⟨c7, z⟩)))
            unfold pRiderC
            split
            · exact h
            · rename_i d1
              split
              · exact h
              · rename_i d2
                exact pRider_ok h hr (zIn_of (i := i) (by omega) (pNum_in d1).1 (pNum_in d1).2) (zIn_of (i := i) (by omega) (pNum_in d2).1 (pNum_in d2).2)
          · rename_i c7
            have hn : n < 8 := Nat.lt_of_not_le (fun z => c2 (Or.inr (Or.inr ⟨c5, c6, c7, z⟩)))
            have hw : zIn (tWord T len f) 5 := by
              obtain ⟨w, hw, ew⟩ := (tWord_ran T len f).resolve_left c1
              refine ⟨w, ?_, ew⟩
              rw [ew] at c5 c6 c7
              have g5 : w ≠ 5 := fun z => c5 (by rw [z]; rfl)
              have g6 : w ≠ 6 := fun z => c6 (by rw [z]; rfl)
              have g7 : w ≠ 7 := fun z => c7 (by rw [z]; rfl)
              omega
            unfold pHourC
            split
            · exact h
            · rename_i d1
              split
              · exact h
              · rename_i d2
                obtain ⟨a, ha, hb, e⟩ := zIn_c (a := 0) (c := 9) (by omega) (by omega) (pNum_in d2).1 (pNum_in d2).2
                exact pHour_ok h hn hw (zIn_of (i := i) (by omega) (pNum_in d1).1 (pNum_in d1).2) ⟨a, by omega, e⟩
theorem pRun_ok {T : Nat → Int32} {len : Nat} : ∀ (k c : Nat) (st : pSt), st.1 ≤ len → pInv st.2.1 st.2.2.1 st.2.2.2.1 st.2.2.2.2 → (pRun T len k c st).2.2.1 ≤ len ∧ pInv (pRun T len k c st).2.2.2.1 (pRun T len k c st).2.2.2.2.1 (pRun T len k c st).2.2.2.2.2.1 (pRun T len k c st).2.2.2.2.2.2
  | 0, c, st, hf, h => ⟨hf, h⟩
  | k + 1, c, st, hf, h => by
    have h2 := pClause_ok (T := T) (len := len) (f := st.1) h
    have h3 := (pClause_r (T := T) (τ := st.2.1) hf ⟨h.1.1.1, h.1.1.2.1, h.1.1.2.2.1⟩).1
    unfold pRun
    split
    · exact ⟨h3, h2⟩
    · split
      · exact ⟨h3, h2⟩
      · split
        · exact ⟨h3, h2⟩
        · exact pRun_ok k (c + 1) _ (tNx_r h3).2 h2
theorem zSpan {y m : Int32} {n : Nat} (hn : n ≤ 10) (h : 0 ≤ y ∧ 0 ≤ m ∧ y ≤ nI n - m) : ∃ a e : Nat, a + e ≤ n ∧ y = nI a ∧ m = nI e := by
  obtain ⟨h1, h2, h3⟩ := h
  rw [Int32.le_iff_toInt_le] at h1 h2 h3
  have e0 : (0 : Int32).toInt = 0 := by decide
  have en := nI_toInt (show n < 2147483648 by omega)
  have b1 : y.toInt < 2147483648 := Int32.toInt_lt y
  have b2 : m.toInt < 2147483648 := Int32.toInt_lt m
  rw [Int32.toInt_sub, en, Int.bmod_def] at h3
  rw [e0] at h1 h2
  have h4 : y.toInt + m.toInt ≤ n := by
    split at h3 <;> omega
  refine ⟨y.toInt.toNat, m.toInt.toNat, by omega, ?_, ?_⟩
  · apply Int32.toInt_inj.mp
    rw [nI_toInt (by omega)]; omega
  · apply Int32.toInt_inj.mp
    rw [nI_toInt (by omega)]; omega
theorem cpy_cg {f f2 g g2 : Nat → Int32} {a c e : Nat} (hf : ∀ j, j < 10 → f j = f2 j) (hg : ∀ j, j < 10 → g j = g2 j) (h : a + e ≤ 10) : ∀ j, j < 10 → va_cpy f g a c e j = va_cpy f2 g2 a c e j := fun j hj => by
  unfold va_cpy
  by_cases b : c ≤ j ∧ j < c + e
  · rw [if_pos b, if_pos b]; exact hf _ (by omega)
  · rw [if_neg b, if_neg b]; exact hg j hj
theorem zClo_o (M : zM) {k : Nat} : ∀ b, (∀ x, x < b → k ≠ 115 + 3 * x) → zClo M b k = M k
  | 0, _ => rfl
  | b + 1, h => by
    unfold zClo
    rw [z_up_n _ _ _ (h b (by omega))]
    exact zClo_o M b (fun x hx => h x (by omega))
theorem zClo_at (M : zM) : ∀ b x, x < b → zClo M b (115 + 3 * x) 2 = -1
  | 0, _, h => absurd h (Nat.not_lt_zero _)
  | b + 1, x, h => by
    unfold zClo
    by_cases e : x = b
    · subst e; rw [z_up_kj]
    · rw [z_up_n _ _ _ (by omega)]
      exact zClo_at M b x (by omega)
def aRoad (A : aSt) : aSt := aSt.mk ((aRun A).2.2.2.2.1, (aRun A).2.2.2.2.2.1, (aRun A).2.2.2.2.2.2) (aRun A).2.2.2.1 (0, A.P) (fun _ => false, A.K) (aRun A).2.2.2.1 (0, A.T) (0, A.sm, A.st, A.sd) (fun _ => false, fun _ => 0, A.so, A.va)
def sRoad (A : aSt) : aSt × Int32 := if (aRun A).1 = true then (aRoad A, nI (aRun A).2.1) else (A, -4)
theorem aRun_ok {A : aSt} (ok : aOK A) : (aRun A).2.2.1 ≤ A.L ∧ pInv (aRun A).2.2.2.1 (aRun A).2.2.2.2.1 (aRun A).2.2.2.2.2.1 (aRun A).2.2.2.2.2.2 :=
  pRun_ok 20 1 _ (by
    show tF A.T A.L 0 ≤ A.L
    have := (tSk_r A.T (A.L - 0) 0).2
    unfold tF
    omega) ⟨ok.t, ok.f, ok.f.2.1⟩
theorem aRoad_ok {A : aSt} (ok : aOK A) : aOK (aRoad A) := by
  obtain ⟨h1, h2, h3, h4⟩ := aRun_ok ok
  exact ⟨h2, fun j hj => absurd hj (Nat.not_lt_zero _), fun k _ z => absurd z (by show ¬ false = true; decide), h2, h3, Nat.zero_le _, Nat.zero_le _, Nat.zero_le _, fun b _ => ⟨Nat.zero_le _, fun _ => rfl⟩, fun b hb j hj => ok.so b hb j hj⟩

set_option maxRecDepth 100000 in
set_option maxHeartbeats 4000000 in
theorem c_X11_copy (g : zG) (l : Launch) {M : zM} {A : aSt} (ok : aOK A) (C : RelC M A) {x y w z m : Int32} : zMet g l yX11_copy cX11_copy 8 (some .int) 1 0 0 [.ref 0, .int x, .int y, .int w, .int z, .int m] S0 M (zQi (fun r' M' => zStp M (sCopy A x y w z m) r' M')) := by
  have n8 : A.n ≤ 8 := ok.s.1.1
  have r4 : A.r ≤ 4 := ok.s.1.2.1
  have i6 : A.i ≤ 6 := ok.s.1.2.2.1
  have R : zDR M M 18 A.s A.n A.r A.i := ⟨C.day, fun _ _ => rfl⟩
  rcases zInD x (show 4 < 1000 by omega) with ⟨h, hh, rfl⟩ | hx
  · rcases zInD w (show 4 < 1000 by omega) with ⟨t, ht, rfl⟩ | hy
    · obtain ⟨bk, hbk, ebk, ebk2⟩ := zBookAt hh
      have hB := C.book h hh
      have hln := ok.ln h hh
      rw [← ebk2] at hB
      obtain ⟨bk2, hbk2, fbk, fbk2⟩ := zBookAt ht
      have hC := C.book t ht
      have hlt := ok.ln t ht
      rw [← fbk2] at hC
      refine zMet.of (by decide) (Nat.le_of_ble_eq_true rfl) ?_
      refine z_aload_n dX11_copy_0 rfl ?_
      refine z_getR (j := 10) (r := 113) kX11 lf_X11_76 (by decide) rfl dX11_copy_1 k0_0 s0_0 r0_0_10 (by decide) ?_
      refine z_iload_n dX11_copy_4 rfl ?_
      refine z_iV1 (c_X8_hasPlace g l) mw_X8_hasPlace lm_X11_242 mi_X8_hasPlace mv_X8_hasPlace kX8 (by decide) (Nat.le_of_ble_eq_true rfl) zle k0_113 s0_113 dX11_copy_5 (fun r5 M5 q5 => ?_)
      obtain ⟨qm5, qr5⟩ := q5
      obtain rfl := qm5.symm
      obtain ⟨c5, rfl⟩ | ⟨c5, rfl⟩ := qr5
      · refine z_if_eq (tgt := 22) dX11_copy_8 (by decide) (fun b8 => ?_) (fun b8 => ?_)
        · exact absurd b8 (by decide)
        · refine z_aload_n dX11_copy_11 rfl ?_
          refine z_getR (j := 10) (r := 113) kX11 lf_X11_76 (by decide) rfl dX11_copy_12 k0_0 s0_0 r0_0_10 (by decide) ?_
          refine z_iload_n dX11_copy_15 rfl ?_
          refine z_iV1 (c_X8_hasPlace g l) mw_X8_hasPlace lm_X11_242 mi_X8_hasPlace mv_X8_hasPlace kX8 (by decide) (Nat.le_of_ble_eq_true rfl) zle k0_113 s0_113 dX11_copy_16 (fun r16 M16 q16 => ?_)
          obtain ⟨qm16, qr16⟩ := q16
          obtain rfl := qm16.symm
          obtain ⟨c16, rfl⟩ | ⟨c16, rfl⟩ := qr16
          · refine z_if_ne (tgt := 25) dX11_copy_19 (by decide) (fun b19 => ?_) (fun b19 => ?_)
            · refine z_aload_n dX11_copy_25 rfl ?_
              refine z_getR (j := 10) (r := 113) kX11 lf_X11_76 (by decide) rfl dX11_copy_26 k0_0 s0_0 r0_0_10 (by decide) ?_
              refine z_getR (j := 0) (r := 114) kX8 lf_X11_245 (by decide) rfl dX11_copy_29 k0_113 s0_113 r0_113_0 (by decide) ?_
              refine z_iload_n dX11_copy_32 rfl ?_
              refine z_aaldN (j := h) (r := bk) rfl hh dX11_copy_33 k0_114 s0_114 (by decide) ebk (zBook_l0 hbk) ?_
              refine z_astore dX11_copy_34 (by decide) rfl rfl ?_
              refine z_aload_n dX11_copy_36 rfl ?_
              refine z_getR (j := 10) (r := 113) kX11 lf_X11_76 (by decide) rfl dX11_copy_37 k0_0 s0_0 r0_0_10 (by decide) ?_
              refine z_getR (j := 0) (r := 114) kX8 lf_X11_245 (by decide) rfl dX11_copy_40 k0_113 s0_113 r0_113_0 (by decide) ?_
              refine z_iload_n dX11_copy_43 rfl ?_
              refine z_aaldN (j := t) (r := bk2) rfl ht dX11_copy_44 k0_114 s0_114 (by decide) fbk (zBook_l0 hbk2) ?_
              refine z_astore dX11_copy_45 (by decide) rfl rfl ?_
              refine z_aload dX11_copy_47 rfl ?_
              refine z_iV0 (c_X0_isMissing g l hbk) mw_X0_isMissing lm_X11_254 mi_X0_isMissing mv_X0_isMissing kX0 (by decide) (Nat.le_of_ble_eq_true rfl) zle (zBook_k0 hbk) (zBook_s0 hbk) dX11_copy_49 (fun r49 M49 q49 => ?_)
              obtain ⟨qm49, qr49⟩ := q49
              obtain rfl := qm49.symm
              obtain ⟨c49, rfl⟩ | ⟨c49, rfl⟩ := qr49
              · have hb : ¬ A.bo h = true := (bSz_m hln.1).mp (hB.1.symm.trans c49)
                refine z_if_ne (tgt := 63) dX11_copy_52 (by decide) (fun b52 => ?_) (fun b52 => ?_)
                · refine z_bipush (v := (-11)) dX11_copy_63 (by decide) ?_
                  refine z_iret dX11_copy_65 rfl zle ?_
                  exact zStp.of C (by unfold sCopy; rw [aIx_in hh (by omega), aIx_in ht (by omega)]; exact if_neg (by first | exact fun z => ht2 z.2 | exact fun z => hb z.1))
                · exact absurd b52 (by decide)
              · have hb : A.bo h = true := Classical.byContradiction (fun z => c49 (hB.1.trans ((bSz_m hln.1).mpr z)))
                have hlhb : M bk 2 = nI (A.ln h) := hB.1.trans (if_pos hb)
                refine z_if_ne (tgt := 63) dX11_copy_52 (by decide) (fun b52 => ?_) (fun b52 => ?_)
                · exact absurd b52 (by decide)
                · refine z_aload dX11_copy_55 rfl ?_
                  refine z_iV0 (c_X0_isMissing g l hbk2) mw_X0_isMissing lm_X11_254 mi_X0_isMissing mv_X0_isMissing kX0 (by decide) (Nat.le_of_ble_eq_true rfl) zle (zBook_k0 hbk2) (zBook_s0 hbk2) dX11_copy_57 (fun r57 M57 q57 => ?_)
                  obtain ⟨qm57, qr57⟩ := q57
                  obtain rfl := qm57.symm
                  obtain ⟨c57, rfl⟩ | ⟨c57, rfl⟩ := qr57
                  · have ht2 : ¬ A.bo t = true := (bSz_m hlt.1).mp (hC.1.symm.trans c57)
                    refine z_if_eq (tgt := 66) dX11_copy_60 (by decide) (fun b60 => ?_) (fun b60 => ?_)
                    · exact absurd b60 (by decide)
                    · refine z_bipush (v := (-11)) dX11_copy_63 (by decide) ?_
                      refine z_iret dX11_copy_65 rfl zle ?_
                      exact zStp.of C (by unfold sCopy; rw [aIx_in hh (by omega), aIx_in ht (by omega)]; exact if_neg (by first | exact fun z => ht2 z.2 | exact fun z => hb z.1))
                  · have ht2 : A.bo t = true := Classical.byContradiction (fun z => c57 (hC.1.trans ((bSz_m hlt.1).mpr z)))
                    have hlht2 : M bk2 2 = nI (A.ln t) := hC.1.trans (if_pos ht2)
                    refine z_if_eq (tgt := 66) dX11_copy_60 (by decide) (fun b60 => ?_) (fun b60 => ?_)
                    · refine z_aload dX11_copy_66 rfl ?_
                      refine z_iload_n dX11_copy_68 rfl ?_
                      refine z_iload dX11_copy_69 rfl ?_
                      refine z_iV2 (c_X0_hasLines g l hbk) mw_X0_hasLines lm_X11_274 mi_X0_hasLines mv_X0_hasLines kX0 (by decide) (Nat.le_of_ble_eq_true rfl) zle (zBook_k0 hbk) (zBook_s0 hbk) dX11_copy_71 (fun r71 M71 q71 => ?_)
                      obtain ⟨qm71, qr71⟩ := q71
                      obtain rfl := qm71.symm
                      obtain ⟨c71, rfl⟩ | ⟨c71, rfl⟩ := qr71
                      · refine z_if_eq (tgt := 89) dX11_copy_74 (by decide) (fun b74 => ?_) (fun b74 => ?_)
                        · exact absurd b74 (by decide)
                        · refine z_aload dX11_copy_77 rfl ?_
                          refine z_iload dX11_copy_79 rfl ?_
                          refine z_iload dX11_copy_81 rfl ?_
                          refine z_iV2 (c_X0_hasLines g l hbk2) mw_X0_hasLines lm_X11_274 mi_X0_hasLines mv_X0_hasLines kX0 (by decide) (Nat.le_of_ble_eq_true rfl) zle (zBook_k0 hbk2) (zBook_s0 hbk2) dX11_copy_83 (fun r83 M83 q83 => ?_)
                          obtain ⟨qm83, qr83⟩ := q83
                          obtain rfl := qm83.symm
                          obtain ⟨c83, rfl⟩ | ⟨c83, rfl⟩ := qr83
                          · refine z_if_ne (tgt := 92) dX11_copy_86 (by decide) (fun b86 => ?_) (fun b86 => ?_)
                            · rw [hlhb] at c71
                              rw [hlht2] at c83
                              have cc := And.intro c71 c83
                              obtain ⟨a, e, hae, rfl, rfl⟩ := zSpan hln.1 c71
                              obtain ⟨c, e1, hce, rfl, he1⟩ := zSpan hlt.1 c83
                              have he2 : e1 = e := ((nI_eq (by omega) (by omega)).mp he1).symm
                              subst he2
                              refine z_aload dX11_copy_92 rfl ?_
                              refine z_getR (j := 0) (r := (bk + 1)) kX0 lf_X11_261 (by decide) rfl dX11_copy_94 (zBook_k0 hbk) (zBook_s0 hbk) (zBook_r0 hbk) (zBook_l1 hbk) ?_
                              refine z_iload_n dX11_copy_97 rfl ?_
                              refine z_aload dX11_copy_98 rfl ?_
                              refine z_getR (j := 0) (r := (bk2 + 1)) kX0 lf_X11_261 (by decide) rfl dX11_copy_100 (zBook_k0 hbk2) (zBook_s0 hbk2) (zBook_r0 hbk2) (zBook_l1 hbk2) ?_
                              refine z_iload dX11_copy_103 rfl ?_
                              refine z_iload dX11_copy_105 rfl ?_
                              refine z_copy (a := a) (b := c) (m' := e1) lm_X11_277 w_an w_as w_ai (by decide) (Nat.le_of_ble_eq_true rfl) (zBook_k1 hbk) (zBook_s1 hbk) (zBook_k1 hbk2) (zBook_s1 hbk2) rfl rfl rfl (by omega) (by omega) (by decide) (by decide) dX11_copy_107 ?_
                              refine z_aload dX11_copy_110 rfl ?_
                              refine z_getR (j := 1) (r := (bk + 2)) kX0 lf_X11_264 (by decide) rfl dX11_copy_112 (zBook_k0 hbk) (zBook_s0 hbk) (zBook_r1 hbk) (zBook_l2 hbk) ?_
                              refine z_iload_n dX11_copy_115 rfl ?_
                              refine z_aload dX11_copy_116 rfl ?_
                              refine z_getR (j := 1) (r := (bk2 + 2)) kX0 lf_X11_264 (by decide) rfl dX11_copy_118 (zBook_k0 hbk2) (zBook_s0 hbk2) (zBook_r1 hbk2) (zBook_l2 hbk2) ?_
                              refine z_iload dX11_copy_121 rfl ?_
                              refine z_iload dX11_copy_123 rfl ?_
                              
                              refine z_copy (a := a) (b := c) (m' := e1) lm_X11_277 w_an w_as w_ai (by decide) (Nat.le_of_ble_eq_true rfl) (zBook_k2 hbk) (zBook_s2 hbk) (zBook_k2 hbk2) (zBook_s2 hbk2) rfl rfl rfl (by omega) (by omega) (by decide) (by decide) dX11_copy_125 ?_
                              refine z_iload dX11_copy_128 rfl ?_
                              refine z_iret dX11_copy_130 rfl zle ?_
                              rw [z_row_n M (_ : Nat → Int32) (show bk + 2 ≠ bk2 + 1 by omega), z_row_n M (_ : Nat → Int32) (show bk2 + 2 ≠ bk2 + 1 by omega)]
                              have C1 := C.putB (M' := (z_row (z_row M (bk2 + 1) (va_cpy (M (bk + 1)) (M (bk2 + 1)) a c e1)) (bk2 + 2) (va_cpy (M (bk + 2)) (M (bk2 + 2)) a c e1))) ht (o := true) (n := A.ln t) (f := va_cpy (A.so h) (A.so t) a c e1) (v := va_cpy (A.va h) (A.va t) a c e1) (by rw [← fbk2, z_row_n _ _ (by omega), z_row_n _ _ (by omega)]; exact hlht2) (fun j hj => by
                                rw [← fbk2, z_row_s, z_row_n _ _ (by omega), z_row_s]
                                exact ⟨cpy_cg (fun j hj => (hB.2 j hj).1) (fun j hj => (hC.2 j hj).1) (by omega) j hj, cpy_cg (fun j hj => (hB.2 j hj).2) (fun j hj => (hC.2 j hj).2) (by omega) j hj⟩) (fun k a => by rw [z_row_n _ _ (by omega), z_row_n _ _ (by omega)])
                              exact zStp.mk C1.1 C1.2 (by unfold sCopy; rw [aIx_in hh (by omega), aIx_in ht (by omega), if_pos ⟨hb, ht2⟩, if_pos cc, nI_clamp (by omega), nI_clamp (by omega), nI_clamp (by omega)]) rfl
                            · exact absurd b86 (by decide)
                          · refine z_if_ne (tgt := 92) dX11_copy_86 (by decide) (fun b86 => ?_) (fun b86 => ?_)
                            · exact absurd b86 (by decide)
                            · refine z_bipush (v := (-12)) dX11_copy_89 (by decide) ?_
                              refine z_iret dX11_copy_91 rfl zle ?_
                              first
                                | exact zStp.of C (by unfold sCopy; rw [aIx_in hh (by omega), aIx_in ht (by omega), if_pos ⟨hb, ht2⟩, if_neg (fun z => c83 (by rw [hlht2]; exact z.2))])
                                | exact zStp.of C (by unfold sCopy; rw [aIx_in hh (by omega), aIx_in ht (by omega), if_pos ⟨hb, ht2⟩, if_neg (fun z => c71 (by rw [hlhb]; exact z.1))])
                      · refine z_if_eq (tgt := 89) dX11_copy_74 (by decide) (fun b74 => ?_) (fun b74 => ?_)
                        · refine z_bipush (v := (-12)) dX11_copy_89 (by decide) ?_
                          refine z_iret dX11_copy_91 rfl zle ?_
                          first
                            | exact zStp.of C (by unfold sCopy; rw [aIx_in hh (by omega), aIx_in ht (by omega), if_pos ⟨hb, ht2⟩, if_neg (fun z => c83 (by rw [hlht2]; exact z.2))])
                            | exact zStp.of C (by unfold sCopy; rw [aIx_in hh (by omega), aIx_in ht (by omega), if_pos ⟨hb, ht2⟩, if_neg (fun z => c71 (by rw [hlhb]; exact z.1))])
                        · exact absurd b74 (by decide)
                    · exact absurd b60 (by decide)
            · exact absurd b19 (by decide)
          · exact absurd (zInP (n := 4) ht (by omega)) c16
      · exact absurd (zInP (n := 4) hh (by omega)) c5
    · refine zMet.of (by decide) (Nat.le_of_ble_eq_true rfl) ?_
      refine z_aload_n dX11_copy_0 rfl ?_
      refine z_getR (j := 10) (r := 113) kX11 lf_X11_76 (by decide) rfl dX11_copy_1 k0_0 s0_0 r0_0_10 (by decide) ?_
      refine z_iload_n dX11_copy_4 rfl ?_
      refine z_iV1 (c_X8_hasPlace g l) mw_X8_hasPlace lm_X11_242 mi_X8_hasPlace mv_X8_hasPlace kX8 (by decide) (Nat.le_of_ble_eq_true rfl) zle k0_113 s0_113 dX11_copy_5 (fun r5 M5 q5 => ?_)
      obtain ⟨qm5, qr5⟩ := q5
      obtain rfl := qm5.symm
      obtain ⟨c5, rfl⟩ | ⟨c5, rfl⟩ := qr5
      · refine z_if_eq (tgt := 22) dX11_copy_8 (by decide) (fun b8 => ?_) (fun b8 => ?_)
        · exact absurd b8 (by decide)
        · refine z_aload_n dX11_copy_11 rfl ?_
          refine z_getR (j := 10) (r := 113) kX11 lf_X11_76 (by decide) rfl dX11_copy_12 k0_0 s0_0 r0_0_10 (by decide) ?_
          refine z_iload_n dX11_copy_15 rfl ?_
          refine z_iV1 (c_X8_hasPlace g l) mw_X8_hasPlace lm_X11_242 mi_X8_hasPlace mv_X8_hasPlace kX8 (by decide) (Nat.le_of_ble_eq_true rfl) zle k0_113 s0_113 dX11_copy_16 (fun r16 M16 q16 => ?_)
          obtain ⟨qm16, qr16⟩ := q16
          obtain rfl := qm16.symm
          obtain ⟨c16, rfl⟩ | ⟨c16, rfl⟩ := qr16
          · exact absurd c16 hy
          · refine z_if_ne (tgt := 25) dX11_copy_19 (by decide) (fun b19 => ?_) (fun b19 => ?_)
            · exact absurd b19 (by decide)
            · refine z_bipush (v := (-2)) dX11_copy_22 (by decide) ?_
              refine z_iret dX11_copy_24 rfl zle ?_
              exact zStp.of C (by unfold sCopy; rw [aIx_in hh (by omega), aIx_out hy])
      · exact absurd (zInP (n := 4) hh (by omega)) c5
  · refine zMet.of (by decide) (Nat.le_of_ble_eq_true rfl) ?_
    refine z_aload_n dX11_copy_0 rfl ?_
    refine z_getR (j := 10) (r := 113) kX11 lf_X11_76 (by decide) rfl dX11_copy_1 k0_0 s0_0 r0_0_10 (by decide) ?_
    refine z_iload_n dX11_copy_4 rfl ?_
    refine z_iV1 (c_X8_hasPlace g l) mw_X8_hasPlace lm_X11_242 mi_X8_hasPlace mv_X8_hasPlace kX8 (by decide) (Nat.le_of_ble_eq_true rfl) zle k0_113 s0_113 dX11_copy_5 (fun r5 M5 q5 => ?_)
    obtain ⟨qm5, qr5⟩ := q5
    obtain rfl := qm5.symm
    obtain ⟨c5, rfl⟩ | ⟨c5, rfl⟩ := qr5
    · exact absurd c5 hx
    · refine z_if_eq (tgt := 22) dX11_copy_8 (by decide) (fun b8 => ?_) (fun b8 => ?_)
      · refine z_bipush (v := (-2)) dX11_copy_22 (by decide) ?_
        refine z_iret dX11_copy_24 rfl zle ?_
        exact zStp.of C (by unfold sCopy; rw [aIx_out hx])
      · exact absurd b8 (by decide)

set_option maxRecDepth 100000 in
set_option maxHeartbeats 4000000 in
theorem lp_beginDay (g : zG) (l : Launch) {M0 : zM} : ∀ (k h : Nat), h ≤ 2 → 2 - h < k → zA g l yX11_beginDay cX11_beginDay 2 none 2 0 0 (zQv (fun M' => M' = zClo (z_up (z_row M0 105 (fun j => if j < 2 then 0 else M0 105 j)) 109 3 0) 4)) 16 0 0 S0 (z_row M0 105 (fun j => if j < h then 0 else M0 105 j)) [.ref 0, .int (nI h)] [] := by
  intro k
  induction k with
  | zero => intro h hh hk; exact absurd hk (Nat.not_lt_zero _)
  | succ k ih =>
    intro h hh hk 
    refine z_iload_n dX11_beginDay_16 rfl ?_
    refine z_aload_n dX11_beginDay_17 rfl ?_
    refine z_getR (j := 7) (r := 105) kX11 lf_X11_55 (by decide) rfl dX11_beginDay_18 k0_0 s0_0 r0_0_7 (by decide) ?_
    refine z_alen dX11_beginDay_21 k0_105 s0_105 (by decide) ?_
    refine z_icmp_ge (tgt := 38) dX11_beginDay_22 (by decide) (fun b22 => ?_) (fun b22 => ?_)
    · have e : 2 ≤ h := (nI_leI (by omega) (by omega)).mp b22
      have e2 : h = 2 := by omega
      subst e2
      refine z_aload_n dX11_beginDay_38 rfl ?_
      refine z_getR (j := 9) (r := 109) kX11 lf_X11_69 (by decide) rfl dX11_beginDay_39 k0_0 s0_0 r0_0_9 (by decide) ?_
      refine z_vV0 (c_X9_clear g l) mw_X9_clear lm_X11_235 mi_X9_clear mv_X9_clear kX9 (by decide) (Nat.le_of_ble_eq_true rfl) zle k0_109 s0_109 dX11_beginDay_42 (fun M42 q42 => ?_)
      obtain rfl := q42.symm
      refine z_aload_n dX11_beginDay_45 rfl ?_
      refine z_getR (j := 10) (r := 113) kX11 lf_X11_76 (by decide) rfl dX11_beginDay_46 k0_0 s0_0 r0_0_10 (by decide) ?_
      refine z_vV0 (c_X8_closeAll g l) mw_X8_closeAll lm_X11_310 mi_X8_closeAll mv_X8_closeAll kX8 (by decide) (Nat.le_of_ble_eq_true rfl) zle k0_113 s0_113 dX11_beginDay_49 (fun M49 q49 => ?_)
      obtain rfl := q49.symm
      exact z_vret dX11_beginDay_52 zle (rfl)
    · have hn : h < 2 := by
        rcases Nat.lt_or_ge h 2 with z | z
        · exact z
        · exact absurd (nI_le z (by omega)) b22
      refine z_aload_n dX11_beginDay_25 rfl ?_
      refine z_getR (j := 7) (r := 105) kX11 lf_X11_55 (by decide) rfl dX11_beginDay_26 k0_0 s0_0 r0_0_7 (by decide) ?_
      refine z_iload_n dX11_beginDay_29 rfl ?_
      refine z_iconst (v := 0) dX11_beginDay_30 (by decide) ?_
      refine z_zastN (j := h) rfl (by omega) rfl dX11_beginDay_31 k0_105 s0_105 ?_
      refine z_iincN (k := h) dX11_beginDay_32 rfl rfl (by decide) rfl rfl ?_
      refine z_goto (tgt := 16) dX11_beginDay_35 (by decide) ?_
      refine zA.sub (ih (h + 1) (by omega) (by omega)) ?_ ⟨Or.inr rfl, Or.inr rfl, trivial⟩
      funext k
      by_cases c : k = 105
      · subst c
        rw [z_up_s, z_row_s, z_row_s]
        funext j
        by_cases c2 : j = h
        · subst c2; rw [upd_s, if_pos (by omega)]
        · rw [upd_n _ _ c2]
          by_cases c3 : j < h
          · rw [if_pos c3, if_pos (by omega)]
          · rw [if_neg c3, if_neg (by omega)]
      · rw [z_up_n _ _ _ c, z_row_n _ _ c, z_row_n _ _ c]

set_option maxRecDepth 100000 in
set_option maxHeartbeats 4000000 in
theorem c_X11_beginDay (g : zG) (l : Launch) {M : zM} {n r i : Nat} {τ : Dy} (T : dTold2 M τ n r i) (hs : n ≤ 8 ∧ r ≤ 4) : zMet g l yX11_beginDay cX11_beginDay 2 none 2 0 0 [.ref 0] S0 M (zQv (fun M' => ∃ M1, zDR M M1 18 τ n r i ∧ M' = zClo (z_up (z_row (z_up M1 32 2 0) 105 (fun j => if j < 2 then 0 else (z_up M1 32 2 0) 105 j)) 109 3 0) 4)) := by
  refine zMet.of (by decide) (Nat.le_of_ble_eq_true rfl) ?_
  refine z_aload_n dX11_beginDay_0 rfl ?_
  refine z_getR (j := 3) (r := 18) kX11 lf_X11_37 (by decide) rfl dX11_beginDay_1 k0_0 s0_0 r0_0_3 (by decide) ?_
  refine z_vV0 (c_X1_begin g l (by decide) T hs) mw_X1_begin lm_X11_307 mi_X1_begin mv_X1_begin kX1 (by decide) (Nat.le_of_ble_eq_true rfl) zle k0_18 s0_18 dX11_beginDay_4 (fun M4 q4 => ?_)
  refine z_aload_n dX11_beginDay_7 rfl ?_
  refine z_getR (j := 5) (r := 32) kX11 lf_X11_47 (by decide) rfl dX11_beginDay_8 k0_0 s0_0 r0_0_5 (by decide) ?_
  refine z_vV0 (c_X6_clear g l) mw_X6_clear lm_X11_182 mi_X6_clear mv_X6_clear kX6 (by decide) (Nat.le_of_ble_eq_true rfl) zle k0_32 s0_32 dX11_beginDay_11 (fun M11 q11 => ?_)
  obtain rfl := q11.symm
  refine z_iconst (v := 0) dX11_beginDay_14 (by decide) ?_
  refine z_istore_n dX11_beginDay_15 (by decide) rfl rfl ?_
  have h0 := lp_beginDay g l (M0 := z_up M4 32 2 0) 3 0 (Nat.zero_le _) (by omega)
  refine (zA.sub h0 ?_ ⟨Or.inr rfl, Or.inr rfl, trivial⟩).weak (fun v S2 M2 q => ⟨q.1, q.2.1, _, q4, q.2.2⟩)
  funext k
  by_cases c : k = 105
  · subst c
    rw [z_row_s]
    funext j
    rw [if_neg (by omega)]
  · rw [z_row_n _ _ c]

set_option maxRecDepth 100000 in
set_option maxHeartbeats 4000000 in
theorem c_X11_road (g : zG) (l : Launch) {M : zM} {A : aSt} (ok : aOK A) (C : RelC M A) : zMet g l yX11_road cX11_road 1 (some .int) 10 0 0 [.ref 0] S0 M (zQi (fun r' M' => zStp M (sRoad A) r' M')) := by
  have n8 : A.n ≤ 8 := ok.s.1.1
  have r4 : A.r ≤ 4 := ok.s.1.2.1
  have i6 : A.i ≤ 6 := ok.s.1.2.2.1
  have R : zDR M M 18 A.s A.n A.r A.i := ⟨C.day, fun _ _ => rfl⟩
  · obtain ⟨k1, k2, k3, k4⟩ := aRun_ok ok
    have hL := ok.L
    obtain ⟨n9, r5, i7, -⟩ := k2.1
    refine zMet.of (by decide) (Nat.le_of_ble_eq_true rfl) ?_
    refine z_aload_n dX11_road_0 rfl ?_
    refine z_getR (j := 2) (r := 10) kX11 lf_X11_28 (by decide) rfl dX11_road_1 k0_0 s0_0 r0_0_2 (by decide) ?_
    refine z_aload_n dX11_road_4 rfl ?_
    refine z_getR (j := 0) (r := 1) kX11 lf_X11_10 (by decide) rfl dX11_road_5 k0_0 s0_0 r0_0_0 (by decide) ?_
    refine z_iV1 (c_X5_findFault g l ok.L C.text.1 C.text.2 C.road ⟨n8, r4, i6⟩) mw_X5_findFault lm_X11_91 mi_X5_findFault mv_X5_findFault kX5 (by decide) (Nat.le_of_ble_eq_true rfl) zle k0_10 s0_10 dX11_road_8 (fun r8 M8 q8 => ?_)
    obtain ⟨qa, qb⟩ := q8
    refine z_iconst (v := (-1)) dX11_road_11 (by decide) ?_
    refine z_icmp_eq (tgt := 18) dX11_road_12 (by decide) (fun b12 => ?_) (fun b12 => ?_)
    · have hr : (aRun A).1 = true := Classical.byContradiction (fun z => absurd (qa.symm.trans b12) (by rw [show (if (pRun A.T A.L 20 1 (tF A.T A.L 0, A.t, A.n, A.r, A.i)).1 = true then (-1 : Int32) else nI (pRun A.T A.L 20 1 (tF A.T A.L 0, A.t, A.n, A.r, A.i)).2.2.1) = _ from if_neg z]; exact nI_nm1 (by have : (aRun A).2.2.1 ≤ A.L := k1; unfold aRun at this; omega)))
      have D : dRoad M8 11 (aRun A).2.2.2.1 (aRun A).2.2.2.2.1 (aRun A).2.2.2.2.2.1 (aRun A).2.2.2.2.2.2 := qb.1.2.1
      refine z_aload_n dX11_road_18 rfl ?_
      refine z_getR (j := 0) (r := 1) kX11 lf_X11_10 (by decide) rfl dX11_road_19 k0_0 s0_0 r0_0_0 (by decide) ?_
      refine z_aload_n dX11_road_22 rfl ?_
      refine z_getR (j := 2) (r := 10) kX11 lf_X11_28 (by decide) rfl dX11_road_23 k0_0 s0_0 r0_0_2 (by decide) ?_
      refine z_getR (j := 1) (r := 11) kX5 lf_X11_95 (by decide) rfl dX11_road_26 k0_10 s0_10 r0_10_1 (by decide) ?_
      refine z_vV1 (c_X7_become g l (ro := 1) (ro2 := 11) (by decide) (by decide) (by decide) ⟨n9, r5, i7⟩ D) mw_X7_become lm_X11_98 mi_X7_become mv_X7_become kX7 (by decide) (Nat.le_of_ble_eq_true rfl) zle k0_1 s0_1 dX11_road_29 (fun M29 q29 => ?_)
      refine z_aload_n dX11_road_32 rfl ?_
      refine z_getR (j := 1) (r := 8) kX11 lf_X11_19 (by decide) rfl dX11_road_33 k0_0 s0_0 r0_0_1 (by decide) ?_
      refine z_vV0 (c_X10_clear g l) mw_X10_clear lm_X11_88 mi_X10_clear mv_X10_clear kX10 (by decide) (Nat.le_of_ble_eq_true rfl) zle k0_8 s0_8 dX11_road_36 (fun M36 q36 => ?_)
      obtain rfl := q36.symm
      refine z_aload_n dX11_road_39 rfl ?_
      have kd : ∀ k, 1 ≤ k → k < 8 → (z_up M29 8 2 0) k = M29 k := fun k a b => z_up_n _ _ _ (by omega)
      obtain ⟨d1, d2, d3, d4, d5, d6⟩ := q29.1
      have T2 : dTold2 (z_up M29 8 2 0) (aRun A).2.2.2.1 (aRun A).2.2.2.2.1 (aRun A).2.2.2.2.2.1 (aRun A).2.2.2.2.2.2 := by
        refine ⟨⟨?_, ?_, ?_, fun j hj => ?_, fun h hh => ?_⟩, fun h hh => ?_, fun q hq => ?_, k3.1, fun h hh => ⟨k3.2.2.2 h hh, (k3.2.1 h (by omega)).1, (k3.2.1 h (by omega)).2⟩, fun q hq => k3.2.2.1 q (by omega)⟩
        · rw [kd 1 (by omega) (by omega)]; exact d1
        · rw [kd 1 (by omega) (by omega)]; exact d2
        · rw [kd 1 (by omega) (by omega)]; exact d3
        · rw [kd 2 (by omega) (by omega)]; exact d4 j hj
        · rw [kd 3 (by omega) (by omega), kd 4 (by omega) (by omega)]; exact ⟨(d5 h hh).1, (d5 h hh).2.1⟩
        · rw [kd 5 (by omega) (by omega)]; exact (d5 h hh).2.2
        · rw [kd 6 (by omega) (by omega), kd 7 (by omega) (by omega)]; exact d6 q hq
      refine z_vV0 (c_X11_beginDay g l T2 ⟨n9, r5⟩) mw_X11_beginDay lm_X11_101 mi_X11_beginDay mv_X11_beginDay kX11 (by decide) (Nat.le_of_ble_eq_true rfl) zle k0_0 s0_0 dX11_road_40 (fun M40 q40 => ?_)
      obtain ⟨M1, w1, w2⟩ := q40
      have wk : ∀ k, (k < 18 ∨ 24 < k) → k ≠ 32 → k ≠ 105 → k ≠ 109 → k ≠ 115 → k ≠ 118 → k ≠ 121 → k ≠ 124 → M40 k = z_up M29 8 2 0 k := fun k a b c d e f g2 h => by
        rw [w2, zClo_o _ 4 (fun x hx => by omega), z_up_n _ _ _ d, z_row_n _ _ c, z_up_n _ _ _ b]; exact w1.2 k (by omega)
      have wd : ∀ k, 18 ≤ k → k < 25 → M40 k = M1 k := fun k a b => by rw [w2, zClo_o _ 4 (fun x hx => by omega), z_up_n _ _ _ (by omega), z_row_n _ _ (by omega), z_up_n _ _ _ (by omega)]
      have w3 : ∀ k, 17 < k → M29 k = M k := fun k a => (q29.2 k (by omega)).trans (qb.2.2 k (by omega))
      have w4 : ∀ k, 17 < k → (k < 18 ∨ 24 < k) → k ≠ 32 → k ≠ 105 → k ≠ 109 → k ≠ 115 → k ≠ 118 → k ≠ 121 → k ≠ 124 → M40 k = M k := fun k a1 a b c d e f g2 h => (wk k a b c d e f g2 h).trans ((z_up_n _ _ _ (by omega)).trans (w3 k a1))
      have w5 : ∀ k, k < 8 → M40 k = M29 k := fun k a => (wk k (by omega) (by omega) (by omega) (by omega) (by omega) (by omega) (by omega) (by omega)).trans (z_up_n _ _ _ (by omega))
      refine z_aload_n dX11_road_43 rfl ?_
      refine z_getR (j := 2) (r := 10) kX11 lf_X11_28 (by decide) rfl dX11_road_44 k0_0 s0_0 r0_0_2 (by decide) ?_
      refine z_getIV (j := 2) kX5 lf_X11_104 (by decide) rfl ((congrFun ((wk 10 (by omega) (by omega) (by omega) (by omega) (by omega) (by omega) (by omega) (by omega)).trans ((z_up_n _ _ _ (by omega)).trans (q29.2 10 (by omega)))) 2).trans qb.2.1) dX11_road_47 k0_10 s0_10 ?_
      refine z_iret dX11_road_50 rfl zle ?_
      obtain ⟨p, hp, hu1, hu2, hu3⟩ := C.past
      have C1 : RelC M40 (aRoad A) := by
        refine ⟨?_, ?_, ⟨p, hp, ?_, ?_, fun j hj => absurd hj (Nat.not_lt_zero _)⟩, fun k hk => ⟨?_, fun z => absurd z (by show ¬ false = true; decide)⟩, ⟨?_, fun j hj => absurd hj (Nat.not_lt_zero _)⟩, ⟨?_, fun j hj => absurd hj (Nat.not_lt_zero _)⟩, fun b hb => ⟨?_, fun j hj => ?_⟩⟩
        · show dRoad M40 1 (aRun A).2.2.2.1 (aRun A).2.2.2.2.1 (aRun A).2.2.2.2.2.1 (aRun A).2.2.2.2.2.2
          exact q29.1.keep (fun k a b => w5 k (by omega))
        · show dRep M40 18 (aRun A).2.2.2.1 (aRun A).2.2.2.2.1 (aRun A).2.2.2.2.2.1 (aRun A).2.2.2.2.2.2
          exact w1.1.keep4 (fun k a b => (w5 k (by omega)).trans ((z_up_n _ _ _ (by omega)).symm.trans (w1.2 k (by omega)).symm)) (fun k a b => wd k (by omega) (by omega))
        · rw [w2, zClo_o _ 4 (fun x hx => by omega), z_up_n _ _ _ (by omega), z_row_n _ _ (by omega), z_up_jn _ _ (by omega), w1.2 32 (by omega), z_up_n _ _ _ (by omega), w3 32 (by omega)]
          exact hu1
        · rw [w2, zClo_o _ 4 (fun x hx => by omega), z_up_n _ _ _ (by omega), z_row_n _ _ (by omega), z_up_kj]; rfl
        · rw [w2, zClo_o _ 4 (fun x hx => by omega), z_up_n _ _ _ (by omega), z_row_s, if_pos hk]; rfl
        · rw [wk 8 (by omega) (by omega) (by omega) (by omega) (by omega) (by omega) (by omega) (by omega), z_up_kj]; rfl
        · rw [w2, zClo_o _ 4 (fun x hx => by omega), z_up_kj]; rfl
        · rw [w2, zClo_at _ 4 b hb]; rfl
        · rw [w4 _ (by omega) (by omega) (by omega) (by omega) (by omega) (by omega) (by omega) (by omega) (by omega), w4 _ (by omega) (by omega) (by omega) (by omega) (by omega) (by omega) (by omega) (by omega) (by omega)]
          exact (C.book b hb).2 j hj
      exact zStp.mk C1 (fun k a => w4 k (by omega) (by omega) (by omega) (by omega) (by omega) (by omega) (by omega) (by omega) (by omega)) (by unfold sRoad; rw [if_pos hr]; rfl) rfl
    · have hr : ¬ (aRun A).1 = true := fun z => b12 (qa.trans (if_pos z))
      refine z_bipush (v := (-4)) dX11_road_15 (by decide) ?_
      refine z_iret dX11_road_17 rfl zle ?_
      have C1 := C.ff qb
      exact zStp.mk C1.1 C1.2 (by unfold sRoad; rw [if_neg hr]) rfl

