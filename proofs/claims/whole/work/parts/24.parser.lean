/-! ===== the class: Parser ===== -/
abbrev pSt : Type := Nat × Dy × Nat × Nat × Nat
def pNum (T : Nat → Int32) (len f : Nat) (lo hi : Int32) : Int32 × Nat := if tDg T len f = -1 ∨ tDg T len f < lo ∨ hi < tDg T len f then (-1, f) else (tDg T len f, tNx T len f)
theorem pNum_r {T : Nat → Int32} {len f : Nat} {lo hi : Int32} (h : f ≤ len) : (pNum T len f lo hi).2 ≤ len := by
  unfold pNum
  split
  · exact h
  · exact (tNx_r h).2
def pInnC (T : Nat → Int32) (len f : Nat) (τ : Dy) (n r i : Nat) : Bool × pSt :=
  if (pNum T len f 1 9).1 = -1 then (false, ((pNum T len f 1 9).2, τ, n, r, i)) else (true, ((pNum T len f 1 9).2, pInn τ i (pNum T len f 1 9).1, n, r, i + 1))
def pHourC (T : Nat → Int32) (len f : Nat) (τ : Dy) (n r i : Nat) (k : Int32) : Bool × pSt :=
  if (pNum T len f 0 (nI i - 1)).1 = -1 then (false, ((pNum T len f 0 (nI i - 1)).2, τ, n, r, i))
  else if (pNum T len (pNum T len f 0 (nI i - 1)).2 0 9).1 = -1 then (false, ((pNum T len (pNum T len f 0 (nI i - 1)).2 0 9).2, τ, n, r, i))
  else (true, ((pNum T len (pNum T len f 0 (nI i - 1)).2 0 9).2, pHour τ n k (pNum T len f 0 (nI i - 1)).1 (pNum T len (pNum T len f 0 (nI i - 1)).2 0 9).1, n + 1, r, i))
def pRiderC (T : Nat → Int32) (len f : Nat) (τ : Dy) (n r i : Nat) : Bool × pSt :=
  if (pNum T len f 0 (nI i - 1)).1 = -1 then (false, ((pNum T len f 0 (nI i - 1)).2, τ, n, r, i))
  else if (pNum T len (pNum T len f 0 (nI i - 1)).2 0 (nI i - 1)).1 = -1 then (false, ((pNum T len (pNum T len f 0 (nI i - 1)).2 0 (nI i - 1)).2, τ, n, r, i))
  else (true, ((pNum T len (pNum T len f 0 (nI i - 1)).2 0 (nI i - 1)).2, pRider τ r (pNum T len f 0 (nI i - 1)).1 (pNum T len (pNum T len f 0 (nI i - 1)).2 0 (nI i - 1)).1, n, r + 1, i))
abbrev tMany (w : Int32) (n r i : Nat) : Prop := (w = 6 ∧ 6 ≤ i) ∨ (w = 7 ∧ 4 ≤ r) ∨ (¬ w = 5 ∧ ¬ w = 6 ∧ ¬ w = 7 ∧ 8 ≤ n)
def pClause (T : Nat → Int32) (len f : Nat) (τ : Dy) (n r i : Nat) : Bool × pSt :=
  if tWord T len f = -1 then (false, (f, τ, n, r, i))
  else if tMany (tWord T len f) n r i then (false, (f, τ, n, r, i))
  else if tWord T len f = 5 then (true, (tNx T len f, pRoad τ, 0, 0, 0))
  else if tWord T len f = 6 then pInnC T len (tNx T len f) τ n r i
  else if tWord T len f = 7 then pRiderC T len (tNx T len f) τ n r i
  else pHourC T len (tNx T len f) τ n r i (tWord T len f)
def zPS (M0 M : zM) (T : Nat → Int32) (len f : Nat) (τ : Dy) (n r i : Nat) : Prop :=
  (M 8 1 = nI (tB T len f) ∧ M 8 2 = nI len ∧ M 8 3 = nI f ∧ M 8 4 = tSo T len f ∧ ∀ j, j < len → M 9 j = T j) ∧ dRoad M 11 τ n r i ∧ ∀ k, (k < 8 ∨ k = 9 ∨ k = 10 ∨ 17 < k) → M k = M0 k
def zPT (M0 M : zM) (T : Nat → Int32) (len : Nat) (st : pSt) : Prop := zPS M0 M T len st.1 st.2.1 st.2.2.1 st.2.2.2.1 st.2.2.2.2
section ZPS
variable {M0 M M2 : zM} {T : Nat → Int32} {len f f2 n r i n2 r2 i2 : Nat} {τ τ2 : Dy}
theorem zPS.q (S : zPS M0 M T len f τ n r i) : tQ M M T len f (tB T len f) (tSo T len f) := ⟨S.1.1, S.1.2.1, S.1.2.2.1, S.1.2.2.2.1, S.1.2.2.2.2, fun _ _ => rfl⟩
theorem dRoad.keep {ro : Nat} (h : dRoad M ro τ n r i) (hk : ∀ k, ro ≤ k → k ≤ ro + 6 → M2 k = M k) : dRoad M2 ro τ n r i := by
  obtain ⟨h1, h2, h3, h4, h5, h6⟩ := h
  refine ⟨?_, ?_, ?_, fun j hj => ?_, fun h hh => ?_, fun q hq => ?_⟩
  · rw [hk ro (by omega) (by omega)]; exact h1
  · rw [hk ro (by omega) (by omega)]; exact h2
  · rw [hk ro (by omega) (by omega)]; exact h3
  · rw [hk (ro + 1) (by omega) (by omega)]; exact h4 j hj
  · rw [hk (ro + 2) (by omega) (by omega), hk (ro + 3) (by omega) (by omega), hk (ro + 4) (by omega) (by omega)]; exact h5 h hh
  · rw [hk (ro + 5) (by omega) (by omega), hk (ro + 6) (by omega) (by omega)]; exact h6 q hq
theorem zPS.next (S : zPS M0 M T len f τ n r i) (Q : tQ M M2 T len f2 (tB T len f2) (tSo T len f2)) : zPS M0 M2 T len f2 τ n r i := by
  obtain ⟨q1, q2, q3, q4, q5, q6⟩ := Q
  exact ⟨⟨q1, q2, q3, q4, q5⟩, S.2.1.keep (fun k a b => q6 k (by omega)), fun k hk => by rw [q6 k (by omega), S.2.2 k hk]⟩
theorem zPS.road (S : zPS M0 M T len f τ n r i) (Q : zRD M M2 11 τ2 n2 r2 i2) : zPS M0 M2 T len f τ2 n2 r2 i2 := by
  obtain ⟨⟨s1, s2, s3, s4, s5⟩, s6, s7⟩ := S
  have e8 := Q.2 8 (by omega)
  have e9 := Q.2 9 (by omega)
  refine ⟨⟨?_, ?_, ?_, ?_, fun j hj => ?_⟩, Q.1, fun k hk => ?_⟩
  · rw [e8]; exact s1
  · rw [e8]; exact s2
  · rw [e8]; exact s3
  · rw [e8]; exact s4
  · rw [e9]; exact s5 j hj
  · rw [Q.2 k (by omega)]; exact s7 k hk
end ZPS
theorem frst_hit (p : Nat → Bool) : ∀ (m a k : Nat), k < m → (∀ j, j < k → p (a + j) = false) → p (a + k) = true → frst p a m = nI (a + k)
  | 0, _, _, h, _, _ => absurd h (Nat.not_lt_zero _)
  | m + 1, a, 0, _, _, h => if_pos h
  | m + 1, a, k + 1, h, hn, hp => by
    unfold frst
    rw [if_neg (by have := hn 0 (by omega); rw [Nat.add_zero] at this; rw [this]; decide), frst_hit p m (a + 1) k (by omega) (fun j hj => by have := hn (j + 1) (by omega); rw [show a + 1 + j = a + (j + 1) by omega]; exact this) (by rw [show a + 1 + k = a + (k + 1) by omega]; exact hp), show a + 1 + k = a + (k + 1) by omega]
theorem frst_nil (p : Nat → Bool) : ∀ (m a : Nat), (∀ j, j < m → p (a + j) = false) → frst p a m = -1
  | 0, _, _ => rfl
  | m + 1, a, hn => by
    unfold frst
    rw [if_neg (by have := hn 0 (by omega); rw [Nat.add_zero] at this; rw [this]; decide)]
    exact frst_nil p m (a + 1) (fun j hj => by have := hn (j + 1) (by omega); rw [show a + 1 + j = a + (j + 1) by omega]; exact this)
theorem tWord_ran (T : Nat → Int32) (len f : Nat) : tWord T len f = -1 ∨ ∃ w, w < 8 ∧ tWord T len f = nI w := by
  rcases frst_ran (fun i => decide (tIs T len f i)) 8 0 with h | ⟨k, -, hk, h, -⟩
  · exact Or.inl h
  · exact Or.inr ⟨k, by omega, h⟩
theorem tN_s {P : Nat → Prop} {k : Nat} (h : ∀ j, j < k → ¬ P j) (c : ¬ P k) : ∀ j, j < k + 1 → ¬ P j := fun j hj => by
  by_cases e : j = k
  · subst e; exact c
  · exact h j (by omega)
theorem tW_hit {T : Nat → Int32} {len f k : Nat} (hk : k < 8) (h : ∀ j, j < k → ¬ tIs T len f j) (c : tIs T len f k) : nI k = tWord T len f := by
  have := frst_hit (fun i => decide (tIs T len f i)) 8 0 k hk (fun j hj => by rw [Nat.zero_add]; exact decide_eq_false (h j hj)) (by rw [Nat.zero_add]; exact decide_eq_true c)
  rw [Nat.zero_add] at this
  exact this.symm
theorem tW_no {T : Nat → Int32} {len f : Nat} (h : ∀ j, j < 8 → ¬ tIs T len f j) : -1 = tWord T len f := (frst_nil (fun i => decide (tIs T len f i)) 8 0 (fun j hj => by rw [Nat.zero_add]; exact decide_eq_false (h j hj))).symm

set_option maxRecDepth 100000 in
set_option maxHeartbeats 4000000 in
theorem c_X5_takeNumber (g : zG) (l : Launch) {M0 M : zM} {T : Nat → Int32} {len f n r i : Nat} {τ : Dy} (hl : len ≤ 200) (hf : f ≤ len) (S : zPS M0 M T len f τ n r i) {lo hi : Int32} : zMet g l yX5_takeNumber cX5_takeNumber 4 (some .int) 2 0 0 [.ref 10, .int lo, .int hi] S0 M (zQi (fun r' M' => r' = (pNum T len f lo hi).1 ∧ zPS M0 M' T len (pNum T len f lo hi).2 τ n r i)) := by
  refine zMet.of (by decide) (Nat.le_of_ble_eq_true rfl) ?_
  refine z_aload_n dX5_takeNumber_0 rfl ?_
  refine z_getR (j := 0) (r := 8) kX5 lf_X5_18 (by decide) rfl dX5_takeNumber_1 k0_10 s0_10 r0_10_0 (by decide) ?_
  refine z_iV0 (c_X10_digit g l hl hf S.q) mw_X10_digit lm_X5_118 mi_X10_digit mv_X10_digit kX10 (by decide) (Nat.le_of_ble_eq_true rfl) zle k0_8 s0_8 dX5_takeNumber_4 (fun r4 M4 q4 => ?_)
  obtain ⟨qr4, qm4⟩ := q4
  obtain rfl := qr4.symm
  obtain rfl := qm4.symm
  refine z_istore_n dX5_takeNumber_7 (by decide) rfl rfl ?_
  refine z_iload_n dX5_takeNumber_8 rfl ?_
  refine z_iconst (v := (-1)) dX5_takeNumber_9 (by decide) ?_
  refine z_icmp_eq (tgt := 23) dX5_takeNumber_10 (by decide) (fun b10 => ?_) (fun b10 => ?_)
  · refine z_iconst (v := (-1)) dX5_takeNumber_23 (by decide) ?_
    refine z_iret dX5_takeNumber_24 rfl zle ?_
    have e : pNum T len f lo hi = (-1, f) := if_pos (by first | exact Or.inl b10 | exact Or.inr (Or.inl b15) | exact Or.inr (Or.inr (Int32.not_le.mp b20)))
    rw [e]
    exact ⟨rfl, S⟩
  · refine z_iload_n dX5_takeNumber_13 rfl ?_
    refine z_iload_n dX5_takeNumber_14 rfl ?_
    refine z_icmp_lt (tgt := 23) dX5_takeNumber_15 (by decide) (fun b15 => ?_) (fun b15 => ?_)
    · refine z_iconst (v := (-1)) dX5_takeNumber_23 (by decide) ?_
      refine z_iret dX5_takeNumber_24 rfl zle ?_
      have e : pNum T len f lo hi = (-1, f) := if_pos (by first | exact Or.inl b10 | exact Or.inr (Or.inl b15) | exact Or.inr (Or.inr (Int32.not_le.mp b20)))
      rw [e]
      exact ⟨rfl, S⟩
    · refine z_iload_n dX5_takeNumber_18 rfl ?_
      refine z_iload_n dX5_takeNumber_19 rfl ?_
      refine z_icmp_le (tgt := 25) dX5_takeNumber_20 (by decide) (fun b20 => ?_) (fun b20 => ?_)
      · refine z_aload_n dX5_takeNumber_25 rfl ?_
        refine z_getR (j := 0) (r := 8) kX5 lf_X5_18 (by decide) rfl dX5_takeNumber_26 k0_10 s0_10 r0_10_0 (by decide) ?_
        refine z_vV0 (c_X10_nextToken g l hl (tB_r (T := T) hf).2.1 S.q) mw_X10_nextToken lm_X5_48 mi_X10_nextToken mv_X10_nextToken kX10 (by decide) (Nat.le_of_ble_eq_true rfl) zle k0_8 s0_8 dX5_takeNumber_29 (fun M29 q29 => ?_)
        refine z_iload_n dX5_takeNumber_32 rfl ?_
        refine z_iret dX5_takeNumber_33 rfl zle ?_
        have e : pNum T len f lo hi = (tDg T len f, tNx T len f) := if_neg (fun z => z.elim b10 (fun z => z.elim b15 (Int32.not_lt.mpr b20)))
        rw [e]
        exact ⟨rfl, S.next q29⟩
      · refine z_iconst (v := (-1)) dX5_takeNumber_23 (by decide) ?_
        refine z_iret dX5_takeNumber_24 rfl zle ?_
        have e : pNum T len f lo hi = (-1, f) := if_pos (by first | exact Or.inl b10 | exact Or.inr (Or.inl b15) | exact Or.inr (Or.inr (Int32.not_le.mp b20)))
        rw [e]
        exact ⟨rfl, S⟩

set_option maxRecDepth 100000 in
set_option maxHeartbeats 4000000 in
theorem c_X5_takeInn (g : zG) (l : Launch) {M0 M : zM} {T : Nat → Int32} {len f n r i : Nat} {τ : Dy} (hl : len ≤ 200) (hf : f ≤ len) (S : zPS M0 M T len f τ n r i) (hs : n ≤ 8 ∧ r ≤ 4 ∧ i ≤ 6) (hi : i < 6) : zMet g l yX5_takeInn cX5_takeInn 2 (some .boolean) 3 0 0 [.ref 10] S0 M (zQi (fun r' M' => r' = (if (pInnC T len f τ n r i).1 = true then 1 else 0) ∧ zPT M0 M' T len (pInnC T len f τ n r i).2)) := by
  refine zMet.of (by decide) (Nat.le_of_ble_eq_true rfl) ?_
  refine z_aload_n dX5_takeInn_0 rfl ?_
  refine z_iconst (v := 1) dX5_takeInn_1 (by decide) ?_
  refine z_bipush (v := 9) dX5_takeInn_2 (by decide) ?_
  refine z_iV2 (c_X5_takeNumber g l hl hf S) mw_X5_takeNumber lm_X5_102 mi_X5_takeNumber mv_X5_takeNumber kX5 (by decide) (Nat.le_of_ble_eq_true rfl) zle k0_10 s0_10 dX5_takeInn_4 (fun r4 M4 q4 => ?_)
  obtain ⟨qr4, S4⟩ := q4
  obtain rfl := qr4.symm
  refine z_istore_n dX5_takeInn_7 (by decide) rfl rfl ?_
  refine z_iload_n dX5_takeInn_8 rfl ?_
  refine z_iconst (v := (-1)) dX5_takeInn_9 (by decide) ?_
  refine z_icmp_ne (tgt := 15) dX5_takeInn_10 (by decide) (fun b10 => ?_) (fun b10 => ?_)
  · refine z_aload_n dX5_takeInn_15 rfl ?_
    refine z_getR (j := 1) (r := 11) kX5 lf_X5_12 (by decide) rfl dX5_takeInn_16 k0_10 s0_10 r0_10_1 (by decide) ?_
    refine z_iload_n dX5_takeInn_19 rfl ?_
    refine z_vV1 (c_X7_addInn g l (ro := 11) (by decide) S4.2.1 hi hs.1 hs.2.1) mw_X7_addInn lm_X5_106 mi_X7_addInn mv_X7_addInn kX7 (by decide) (Nat.le_of_ble_eq_true rfl) zle k0_11 s0_11 dX5_takeInn_20 (fun M20 q20 => ?_)
    refine z_iconst (v := 1) dX5_takeInn_23 (by decide) ?_
    refine z_iret dX5_takeInn_24 rfl zle ?_
    have e : pInnC T len f τ n r i = (true, _) := if_neg b10
    rw [e]
    exact ⟨rfl, S4.road q20⟩
  · refine z_iconst (v := 0) dX5_takeInn_13 (by decide) ?_
    refine z_iret dX5_takeInn_14 rfl zle ?_
    have e : pInnC T len f τ n r i = (false, _) := if_pos b10
    rw [e]
    exact ⟨rfl, S4⟩

set_option maxRecDepth 100000 in
set_option maxHeartbeats 4000000 in
theorem c_X5_takeHour (g : zG) (l : Launch) {M0 M : zM} {T : Nat → Int32} {len f n r i : Nat} {τ : Dy} (hl : len ≤ 200) (hf : f ≤ len) (S : zPS M0 M T len f τ n r i) (hs : n ≤ 8 ∧ r ≤ 4 ∧ i ≤ 6) (hn : n < 8) {k : Int32} : zMet g l yX5_takeHour cX5_takeHour 4 (some .boolean) 3 0 0 [.ref 10, .int k] S0 M (zQi (fun r' M' => r' = (if (pHourC T len f τ n r i k).1 = true then 1 else 0) ∧ zPT M0 M' T len (pHourC T len f τ n r i k).2)) := by
  refine zMet.of (by decide) (Nat.le_of_ble_eq_true rfl) ?_
  refine z_aload_n dX5_takeHour_0 rfl ?_
  refine z_iconst (v := 0) dX5_takeHour_1 (by decide) ?_
  refine z_aload_n dX5_takeHour_2 rfl ?_
  refine z_getR (j := 1) (r := 11) kX5 lf_X5_12 (by decide) rfl dX5_takeHour_3 k0_10 s0_10 r0_10_1 (by decide) ?_
  refine z_getIV (j := 0) kX7 lf_X5_93 (by decide) rfl S.2.1.1 dX5_takeHour_6 k0_11 s0_11 ?_
  refine z_iconst (v := 1) dX5_takeHour_9 (by decide) ?_
  refine z_isub dX5_takeHour_10 ?_
  refine z_iV2 (c_X5_takeNumber g l hl hf S) mw_X5_takeNumber lm_X5_102 mi_X5_takeNumber mv_X5_takeNumber kX5 (by decide) (Nat.le_of_ble_eq_true rfl) zle k0_10 s0_10 dX5_takeHour_11 (fun r11 M11 q11 => ?_)
  obtain ⟨qr11, S11⟩ := q11
  obtain rfl := qr11.symm
  refine z_istore_n dX5_takeHour_14 (by decide) rfl rfl ?_
  refine z_iload_n dX5_takeHour_15 rfl ?_
  refine z_iconst (v := (-1)) dX5_takeHour_16 (by decide) ?_
  refine z_icmp_ne (tgt := 22) dX5_takeHour_17 (by decide) (fun b17 => ?_) (fun b17 => ?_)
  · refine z_aload_n dX5_takeHour_22 rfl ?_
    refine z_iconst (v := 0) dX5_takeHour_23 (by decide) ?_
    refine z_bipush (v := 9) dX5_takeHour_24 (by decide) ?_
    refine z_iV2 (c_X5_takeNumber g l hl (pNum_r hf) S11) mw_X5_takeNumber lm_X5_102 mi_X5_takeNumber mv_X5_takeNumber kX5 (by decide) (Nat.le_of_ble_eq_true rfl) zle k0_10 s0_10 dX5_takeHour_26 (fun r26 M26 q26 => ?_)
    obtain ⟨qr26, S26⟩ := q26
    obtain rfl := qr26.symm
    refine z_istore_n dX5_takeHour_29 (by decide) rfl rfl ?_
    refine z_iload_n dX5_takeHour_30 rfl ?_
    refine z_iconst (v := (-1)) dX5_takeHour_31 (by decide) ?_
    refine z_icmp_ne (tgt := 37) dX5_takeHour_32 (by decide) (fun b32 => ?_) (fun b32 => ?_)
    · refine z_aload_n dX5_takeHour_37 rfl ?_
      refine z_getR (j := 1) (r := 11) kX5 lf_X5_12 (by decide) rfl dX5_takeHour_38 k0_10 s0_10 r0_10_1 (by decide) ?_
      refine z_iload_n dX5_takeHour_41 rfl ?_
      refine z_iload_n dX5_takeHour_42 rfl ?_
      refine z_iload_n dX5_takeHour_43 rfl ?_
      refine z_vV3 (c_X7_addHour g l (ro := 11) (by decide) S26.2.1 hn hs.2.2 hs.2.1) mw_X7_addHour lm_X5_110 mi_X7_addHour mv_X7_addHour kX7 (by decide) (Nat.le_of_ble_eq_true rfl) zle k0_11 s0_11 dX5_takeHour_44 (fun M44 q44 => ?_)
      refine z_iconst (v := 1) dX5_takeHour_47 (by decide) ?_
      refine z_iret dX5_takeHour_48 rfl zle ?_
      have e : pHourC T len f τ n r i k = (true, _) := (if_neg b17).trans (if_neg b32)
      rw [e]
      exact ⟨rfl, S26.road q44⟩
    · refine z_iconst (v := 0) dX5_takeHour_35 (by decide) ?_
      refine z_iret dX5_takeHour_36 rfl zle ?_
      have e : pHourC T len f τ n r i k = (false, _) := (if_neg b17).trans (if_pos b32)
      rw [e]
      exact ⟨rfl, S26⟩
  · refine z_iconst (v := 0) dX5_takeHour_20 (by decide) ?_
    refine z_iret dX5_takeHour_21 rfl zle ?_
    have e : pHourC T len f τ n r i k = (false, _) := if_pos b17
    rw [e]
    exact ⟨rfl, S11⟩

set_option maxRecDepth 100000 in
set_option maxHeartbeats 4000000 in
theorem c_X5_takeRider (g : zG) (l : Launch) {M0 M : zM} {T : Nat → Int32} {len f n r i : Nat} {τ : Dy} (hl : len ≤ 200) (hf : f ≤ len) (S : zPS M0 M T len f τ n r i) (hs : n ≤ 8 ∧ r ≤ 4 ∧ i ≤ 6) (hr : r < 4) : zMet g l yX5_takeRider cX5_takeRider 3 (some .boolean) 3 0 0 [.ref 10] S0 M (zQi (fun r' M' => r' = (if (pRiderC T len f τ n r i).1 = true then 1 else 0) ∧ zPT M0 M' T len (pRiderC T len f τ n r i).2)) := by
  refine zMet.of (by decide) (Nat.le_of_ble_eq_true rfl) ?_
  refine z_aload_n dX5_takeRider_0 rfl ?_
  refine z_iconst (v := 0) dX5_takeRider_1 (by decide) ?_
  refine z_aload_n dX5_takeRider_2 rfl ?_
  refine z_getR (j := 1) (r := 11) kX5 lf_X5_12 (by decide) rfl dX5_takeRider_3 k0_10 s0_10 r0_10_1 (by decide) ?_
  refine z_getIV (j := 0) kX7 lf_X5_93 (by decide) rfl S.2.1.1 dX5_takeRider_6 k0_11 s0_11 ?_
  refine z_iconst (v := 1) dX5_takeRider_9 (by decide) ?_
  refine z_isub dX5_takeRider_10 ?_
  refine z_iV2 (c_X5_takeNumber g l hl hf S) mw_X5_takeNumber lm_X5_102 mi_X5_takeNumber mv_X5_takeNumber kX5 (by decide) (Nat.le_of_ble_eq_true rfl) zle k0_10 s0_10 dX5_takeRider_11 (fun r11 M11 q11 => ?_)
  obtain ⟨qr11, S11⟩ := q11
  obtain rfl := qr11.symm
  refine z_istore_n dX5_takeRider_14 (by decide) rfl rfl ?_
  refine z_iload_n dX5_takeRider_15 rfl ?_
  refine z_iconst (v := (-1)) dX5_takeRider_16 (by decide) ?_
  refine z_icmp_ne (tgt := 22) dX5_takeRider_17 (by decide) (fun b17 => ?_) (fun b17 => ?_)
  · refine z_aload_n dX5_takeRider_22 rfl ?_
    refine z_iconst (v := 0) dX5_takeRider_23 (by decide) ?_
    refine z_aload_n dX5_takeRider_24 rfl ?_
    refine z_getR (j := 1) (r := 11) kX5 lf_X5_12 (by decide) rfl dX5_takeRider_25 k0_10 s0_10 r0_10_1 (by decide) ?_
    refine z_getIV (j := 0) kX7 lf_X5_93 (by decide) rfl S11.2.1.1 dX5_takeRider_28 k0_11 s0_11 ?_
    refine z_iconst (v := 1) dX5_takeRider_31 (by decide) ?_
    refine z_isub dX5_takeRider_32 ?_
    refine z_iV2 (c_X5_takeNumber g l hl (pNum_r hf) S11) mw_X5_takeNumber lm_X5_102 mi_X5_takeNumber mv_X5_takeNumber kX5 (by decide) (Nat.le_of_ble_eq_true rfl) zle k0_10 s0_10 dX5_takeRider_33 (fun r33 M33 q33 => ?_)
    obtain ⟨qr33, S33⟩ := q33
    obtain rfl := qr33.symm
    refine z_istore_n dX5_takeRider_36 (by decide) rfl rfl ?_
    refine z_iload_n dX5_takeRider_37 rfl ?_
    refine z_iconst (v := (-1)) dX5_takeRider_38 (by decide) ?_
    refine z_icmp_ne (tgt := 44) dX5_takeRider_39 (by decide) (fun b39 => ?_) (fun b39 => ?_)
    · refine z_aload_n dX5_takeRider_44 rfl ?_
      refine z_getR (j := 1) (r := 11) kX5 lf_X5_12 (by decide) rfl dX5_takeRider_45 k0_10 s0_10 r0_10_1 (by decide) ?_
      refine z_iload_n dX5_takeRider_48 rfl ?_
      refine z_iload_n dX5_takeRider_49 rfl ?_
      refine z_vV2 (c_X7_addRider g l (ro := 11) (by decide) S33.2.1 hr hs.1 hs.2.2) mw_X7_addRider lm_X5_114 mi_X7_addRider mv_X7_addRider kX7 (by decide) (Nat.le_of_ble_eq_true rfl) zle k0_11 s0_11 dX5_takeRider_50 (fun M50 q50 => ?_)
      refine z_iconst (v := 1) dX5_takeRider_53 (by decide) ?_
      refine z_iret dX5_takeRider_54 rfl zle ?_
      have e : pRiderC T len f τ n r i = (true, _) := (if_neg b17).trans (if_neg b39)
      rw [e]
      exact ⟨rfl, S33.road q50⟩
    · refine z_iconst (v := 0) dX5_takeRider_42 (by decide) ?_
      refine z_iret dX5_takeRider_43 rfl zle ?_
      have e : pRiderC T len f τ n r i = (false, _) := (if_neg b17).trans (if_pos b39)
      rw [e]
      exact ⟨rfl, S33⟩
  · refine z_iconst (v := 0) dX5_takeRider_20 (by decide) ?_
    refine z_iret dX5_takeRider_21 rfl zle ?_
    have e : pRiderC T len f τ n r i = (false, _) := if_pos b17
    rw [e]
    exact ⟨rfl, S11⟩

set_option maxRecDepth 100000 in
set_option maxHeartbeats 4000000 in
theorem c_X5_isOneTooMany (g : zG) (l : Launch) {M : zM} {n r i : Nat} {τ : Dy} {w : Int32} (R : dRoad M 11 τ n r i) (hs : n ≤ 8 ∧ r ≤ 4 ∧ i ≤ 6) : zMet g l yX5_isOneTooMany cX5_isOneTooMany 2 (some .boolean) 0 0 0 [.ref 10, .int w] S0 M (zQi (fun r' M' => M' = M ∧ (((tMany w n r i) ∧ r' = 1) ∨ (¬ (tMany w n r i) ∧ r' = 0)))) := by
  obtain ⟨n8, r4, i6⟩ := hs
  refine zMet.of (by decide) (Nat.le_of_ble_eq_true rfl) ?_
  refine z_iload_n dX5_isOneTooMany_0 rfl ?_
  refine z_tsw (b := 5) (n := 3) (tg := [28, 30, 48]) (tgt := 65) dX5_isOneTooMany_1 (by decide) (by decide) (by decide) (by decide) (by decide) (fun k1 hk1 s1 => ?_) (fun s1 => ?_)
  · match k1, hk1 with
    | 0, _ =>
      have s2 : w = 5 := s1
      refine z_iconst (v := 0) dX5_isOneTooMany_28 (by decide) ?_
      refine z_iret dX5_isOneTooMany_29 rfl zle ?_
      exact ⟨rfl, Or.inr ⟨fun z => by rw [s2] at z; rcases z with z | z | z; exact absurd z.1 (by decide); exact absurd z.1 (by decide); exact absurd rfl z.1, rfl⟩⟩
    | 1, _ =>
      have s2 : w = 6 := s1
      refine z_aload_n dX5_isOneTooMany_30 rfl ?_
      refine z_getR (j := 1) (r := 11) kX5 lf_X5_12 (by decide) rfl dX5_isOneTooMany_31 k0_10 s0_10 r0_10_1 (by decide) ?_
      refine z_getIV (j := 0) kX7 lf_X5_93 (by decide) rfl R.1 dX5_isOneTooMany_34 k0_11 s0_11 ?_
      refine z_bipush (v := 6) dX5_isOneTooMany_37 (by decide) ?_
      refine z_icmp_lt (tgt := 46) dX5_isOneTooMany_39 (by decide) (fun b39 => ?_) (fun b39 => ?_)
      · have h39 : i < 6 := (nI_ltI (b := 6) (by omega) (by omega)).mp b39
        refine z_iconst (v := 0) dX5_isOneTooMany_46 (by decide) ?_
        refine z_iret dX5_isOneTooMany_47 rfl zle ?_
        first
          | exact ⟨rfl, Or.inl ⟨Or.inl ⟨s2, (h39 : 6 ≤ i)⟩, rfl⟩⟩
          | exact ⟨rfl, Or.inr ⟨fun z => by rw [s2] at z; rcases z with z | z | z; exact absurd z.2 (by omega); exact absurd z.1 (by decide); exact absurd rfl z.2.1, rfl⟩⟩
      · have h39 : 6 ≤ i := Nat.le_of_not_lt (fun z => b39 ((nI_ltI (b := 6) (by omega) (by omega)).mpr z))
        refine z_iconst (v := 1) dX5_isOneTooMany_42 (by decide) ?_
        refine z_goto (tgt := 47) dX5_isOneTooMany_43 (by decide) ?_
        refine z_iret dX5_isOneTooMany_47 rfl zle ?_
        first
          | exact ⟨rfl, Or.inl ⟨Or.inl ⟨s2, (h39 : 6 ≤ i)⟩, rfl⟩⟩
          | exact ⟨rfl, Or.inr ⟨fun z => by rw [s2] at z; rcases z with z | z | z; exact absurd z.2 (by omega); exact absurd z.1 (by decide); exact absurd rfl z.2.1, rfl⟩⟩
    | 2, _ =>
      have s2 : w = 7 := s1
      refine z_aload_n dX5_isOneTooMany_48 rfl ?_
      refine z_getR (j := 1) (r := 11) kX5 lf_X5_12 (by decide) rfl dX5_isOneTooMany_49 k0_10 s0_10 r0_10_1 (by decide) ?_
      refine z_getIV (j := 2) kX7 lf_X5_96 (by decide) rfl R.2.2.1 dX5_isOneTooMany_52 k0_11 s0_11 ?_
      refine z_iconst (v := 4) dX5_isOneTooMany_55 (by decide) ?_
      refine z_icmp_lt (tgt := 63) dX5_isOneTooMany_56 (by decide) (fun b56 => ?_) (fun b56 => ?_)
      · have h56 : r < 4 := (nI_ltI (b := 4) (by omega) (by omega)).mp b56
        refine z_iconst (v := 0) dX5_isOneTooMany_63 (by decide) ?_
        refine z_iret dX5_isOneTooMany_64 rfl zle ?_
        first
          | exact ⟨rfl, Or.inl ⟨Or.inr (Or.inl ⟨s2, (h56 : 4 ≤ r)⟩), rfl⟩⟩
          | exact ⟨rfl, Or.inr ⟨fun z => by rw [s2] at z; rcases z with z | z | z; exact absurd z.1 (by decide); exact absurd z.2 (by omega); exact absurd rfl z.2.2.1, rfl⟩⟩
      · have h56 : 4 ≤ r := Nat.le_of_not_lt (fun z => b56 ((nI_ltI (b := 4) (by omega) (by omega)).mpr z))
        refine z_iconst (v := 1) dX5_isOneTooMany_59 (by decide) ?_
        refine z_goto (tgt := 64) dX5_isOneTooMany_60 (by decide) ?_
        refine z_iret dX5_isOneTooMany_64 rfl zle ?_
        first
          | exact ⟨rfl, Or.inl ⟨Or.inr (Or.inl ⟨s2, (h56 : 4 ≤ r)⟩), rfl⟩⟩
          | exact ⟨rfl, Or.inr ⟨fun z => by rw [s2] at z; rcases z with z | z | z; exact absurd z.1 (by decide); exact absurd z.2 (by omega); exact absurd rfl z.2.2.1, rfl⟩⟩
    | k + 3, h => exact absurd h (by omega)
  · have n5 : ¬ w = 5 := s1 0 (by decide)
    have n6 : ¬ w = 6 := s1 1 (by decide)
    have n7 : ¬ w = 7 := s1 2 (by decide)
    refine z_aload_n dX5_isOneTooMany_65 rfl ?_
    refine z_getR (j := 1) (r := 11) kX5 lf_X5_12 (by decide) rfl dX5_isOneTooMany_66 k0_10 s0_10 r0_10_1 (by decide) ?_
    refine z_getIV (j := 1) kX7 lf_X5_99 (by decide) rfl R.2.1 dX5_isOneTooMany_69 k0_11 s0_11 ?_
    refine z_bipush (v := 8) dX5_isOneTooMany_72 (by decide) ?_
    refine z_icmp_lt (tgt := 81) dX5_isOneTooMany_74 (by decide) (fun b74 => ?_) (fun b74 => ?_)
    · have h74 : n < 8 := (nI_ltI (b := 8) (by omega) (by omega)).mp b74
      refine z_iconst (v := 0) dX5_isOneTooMany_81 (by decide) ?_
      refine z_iret dX5_isOneTooMany_82 rfl zle ?_
      first
        | exact ⟨rfl, Or.inl ⟨Or.inr (Or.inr ⟨n5, n6, n7, (h74 : 8 ≤ n)⟩), rfl⟩⟩
        | exact ⟨rfl, Or.inr ⟨fun z => by rcases z with z | z | z; exact n6 z.1; exact n7 z.1; exact absurd z.2.2.2 (by omega), rfl⟩⟩
    · have h74 : 8 ≤ n := Nat.le_of_not_lt (fun z => b74 ((nI_ltI (b := 8) (by omega) (by omega)).mpr z))
      refine z_iconst (v := 1) dX5_isOneTooMany_77 (by decide) ?_
      refine z_goto (tgt := 82) dX5_isOneTooMany_78 (by decide) ?_
      refine z_iret dX5_isOneTooMany_82 rfl zle ?_
      first
        | exact ⟨rfl, Or.inl ⟨Or.inr (Or.inr ⟨n5, n6, n7, (h74 : 8 ≤ n)⟩), rfl⟩⟩
        | exact ⟨rfl, Or.inr ⟨fun z => by rcases z with z | z | z; exact n6 z.1; exact n7 z.1; exact absurd z.2.2.2 (by omega), rfl⟩⟩

set_option maxRecDepth 100000 in
set_option maxHeartbeats 4000000 in
theorem c_X5_wordNumber (g : zG) (l : Launch) {M0 M : zM} {T : Nat → Int32} {len f n r i : Nat} {τ : Dy} (hl : len ≤ 200) (hf : f ≤ len) (S : zPS M0 M T len f τ n r i) : zMet g l yX5_wordNumber cX5_wordNumber 1 (some .int) 7 0 0 [.ref 10] S0 M (zQi (fun r' M' => r' = tWord T len f ∧ M' = M)) := by
  refine zMet.of (by decide) (Nat.le_of_ble_eq_true rfl) ?_
  refine z_aload_n dX5_wordNumber_0 rfl ?_
  refine z_getR (j := 0) (r := 8) kX5 lf_X5_18 (by decide) rfl dX5_wordNumber_1 k0_10 s0_10 r0_10_0 (by decide) ?_
  refine z_ldcS (i := 0) (by decide) rfl dX5_wordNumber_4 ?_
  refine z_iV1 (c_X10_isWord g l (i := 0) (by decide) hl hf S.q) mw_X10_isWord lm_X5_73 mi_X10_isWord mv_X10_isWord kX10 (by decide) (Nat.le_of_ble_eq_true rfl) zle k0_8 s0_8 dX5_wordNumber_6 (fun r6 M6 q6 => ?_)
  obtain ⟨qm6, qr6⟩ := q6
  obtain rfl := qm6.symm
  obtain ⟨c6, rfl⟩ | ⟨c6, rfl⟩ := qr6
  · refine z_if_eq (tgt := 14) dX5_wordNumber_9 (by decide) (fun b9 => ?_) (fun b9 => ?_)
    · exact absurd b9 (by decide)
    · refine z_iconst (v := 0) dX5_wordNumber_12 (by decide) ?_
      refine z_iret dX5_wordNumber_13 rfl zle ?_
      exact ⟨tW_hit (k := 0) (by decide) (fun j hj => absurd hj (Nat.not_lt_zero _)) c6, rfl⟩
  · have n1 : ∀ j, j < 1 → ¬ tIs T len f j := tN_s (fun j hj => absurd hj (Nat.not_lt_zero _)) c6
    refine z_if_eq (tgt := 14) dX5_wordNumber_9 (by decide) (fun b9 => ?_) (fun b9 => ?_)
    · refine z_aload_n dX5_wordNumber_14 rfl ?_
      refine z_getR (j := 0) (r := 8) kX5 lf_X5_18 (by decide) rfl dX5_wordNumber_15 k0_10 s0_10 r0_10_0 (by decide) ?_
      refine z_ldcS (i := 1) (by decide) rfl dX5_wordNumber_18 ?_
      refine z_iV1 (c_X10_isWord g l (i := 1) (by decide) hl hf S.q) mw_X10_isWord lm_X5_73 mi_X10_isWord mv_X10_isWord kX10 (by decide) (Nat.le_of_ble_eq_true rfl) zle k0_8 s0_8 dX5_wordNumber_20 (fun r20 M20 q20 => ?_)
      obtain ⟨qm20, qr20⟩ := q20
      obtain rfl := qm20.symm
      obtain ⟨c20, rfl⟩ | ⟨c20, rfl⟩ := qr20
      · refine z_if_eq (tgt := 28) dX5_wordNumber_23 (by decide) (fun b23 => ?_) (fun b23 => ?_)
        · exact absurd b23 (by decide)
        · refine z_iconst (v := 1) dX5_wordNumber_26 (by decide) ?_
          refine z_iret dX5_wordNumber_27 rfl zle ?_
          exact ⟨tW_hit (k := 1) (by decide) n1 c20, rfl⟩
      · have n2 : ∀ j, j < 2 → ¬ tIs T len f j := tN_s n1 c20
        refine z_if_eq (tgt := 28) dX5_wordNumber_23 (by decide) (fun b23 => ?_) (fun b23 => ?_)
        · refine z_aload_n dX5_wordNumber_28 rfl ?_
          refine z_getR (j := 0) (r := 8) kX5 lf_X5_18 (by decide) rfl dX5_wordNumber_29 k0_10 s0_10 r0_10_0 (by decide) ?_
          refine z_ldcS (i := 2) (by decide) rfl dX5_wordNumber_32 ?_
          refine z_iV1 (c_X10_isWord g l (i := 2) (by decide) hl hf S.q) mw_X10_isWord lm_X5_73 mi_X10_isWord mv_X10_isWord kX10 (by decide) (Nat.le_of_ble_eq_true rfl) zle k0_8 s0_8 dX5_wordNumber_34 (fun r34 M34 q34 => ?_)
          obtain ⟨qm34, qr34⟩ := q34
          obtain rfl := qm34.symm
          obtain ⟨c34, rfl⟩ | ⟨c34, rfl⟩ := qr34
          · refine z_if_eq (tgt := 42) dX5_wordNumber_37 (by decide) (fun b37 => ?_) (fun b37 => ?_)
            · exact absurd b37 (by decide)
            · refine z_iconst (v := 2) dX5_wordNumber_40 (by decide) ?_
              refine z_iret dX5_wordNumber_41 rfl zle ?_
              exact ⟨tW_hit (k := 2) (by decide) n2 c34, rfl⟩
          · have n3 : ∀ j, j < 3 → ¬ tIs T len f j := tN_s n2 c34
            refine z_if_eq (tgt := 42) dX5_wordNumber_37 (by decide) (fun b37 => ?_) (fun b37 => ?_)
            · refine z_aload_n dX5_wordNumber_42 rfl ?_
              refine z_getR (j := 0) (r := 8) kX5 lf_X5_18 (by decide) rfl dX5_wordNumber_43 k0_10 s0_10 r0_10_0 (by decide) ?_
              refine z_ldcS (i := 3) (by decide) rfl dX5_wordNumber_46 ?_
              refine z_iV1 (c_X10_isWord g l (i := 3) (by decide) hl hf S.q) mw_X10_isWord lm_X5_73 mi_X10_isWord mv_X10_isWord kX10 (by decide) (Nat.le_of_ble_eq_true rfl) zle k0_8 s0_8 dX5_wordNumber_48 (fun r48 M48 q48 => ?_)
              obtain ⟨qm48, qr48⟩ := q48
              obtain rfl := qm48.symm
              obtain ⟨c48, rfl⟩ | ⟨c48, rfl⟩ := qr48
              · refine z_if_eq (tgt := 56) dX5_wordNumber_51 (by decide) (fun b51 => ?_) (fun b51 => ?_)
                · exact absurd b51 (by decide)
                · refine z_iconst (v := 3) dX5_wordNumber_54 (by decide) ?_
                  refine z_iret dX5_wordNumber_55 rfl zle ?_
                  exact ⟨tW_hit (k := 3) (by decide) n3 c48, rfl⟩
              · have n4 : ∀ j, j < 4 → ¬ tIs T len f j := tN_s n3 c48
                refine z_if_eq (tgt := 56) dX5_wordNumber_51 (by decide) (fun b51 => ?_) (fun b51 => ?_)
                · refine z_aload_n dX5_wordNumber_56 rfl ?_
                  refine z_getR (j := 0) (r := 8) kX5 lf_X5_18 (by decide) rfl dX5_wordNumber_57 k0_10 s0_10 r0_10_0 (by decide) ?_
                  refine z_ldcS (i := 4) (by decide) rfl dX5_wordNumber_60 ?_
                  refine z_iV1 (c_X10_isWord g l (i := 4) (by decide) hl hf S.q) mw_X10_isWord lm_X5_73 mi_X10_isWord mv_X10_isWord kX10 (by decide) (Nat.le_of_ble_eq_true rfl) zle k0_8 s0_8 dX5_wordNumber_62 (fun r62 M62 q62 => ?_)
                  obtain ⟨qm62, qr62⟩ := q62
                  obtain rfl := qm62.symm
                  obtain ⟨c62, rfl⟩ | ⟨c62, rfl⟩ := qr62
                  · refine z_if_eq (tgt := 70) dX5_wordNumber_65 (by decide) (fun b65 => ?_) (fun b65 => ?_)
                    · exact absurd b65 (by decide)
                    · refine z_iconst (v := 4) dX5_wordNumber_68 (by decide) ?_
                      refine z_iret dX5_wordNumber_69 rfl zle ?_
                      exact ⟨tW_hit (k := 4) (by decide) n4 c62, rfl⟩
                  · have n5 : ∀ j, j < 5 → ¬ tIs T len f j := tN_s n4 c62
                    refine z_if_eq (tgt := 70) dX5_wordNumber_65 (by decide) (fun b65 => ?_) (fun b65 => ?_)
                    · refine z_aload_n dX5_wordNumber_70 rfl ?_
                      refine z_getR (j := 0) (r := 8) kX5 lf_X5_18 (by decide) rfl dX5_wordNumber_71 k0_10 s0_10 r0_10_0 (by decide) ?_
                      refine z_ldcS (i := 5) (by decide) rfl dX5_wordNumber_74 ?_
                      refine z_iV1 (c_X10_isWord g l (i := 5) (by decide) hl hf S.q) mw_X10_isWord lm_X5_73 mi_X10_isWord mv_X10_isWord kX10 (by decide) (Nat.le_of_ble_eq_true rfl) zle k0_8 s0_8 dX5_wordNumber_76 (fun r76 M76 q76 => ?_)
                      obtain ⟨qm76, qr76⟩ := q76
                      obtain rfl := qm76.symm
                      obtain ⟨c76, rfl⟩ | ⟨c76, rfl⟩ := qr76
                      · refine z_if_eq (tgt := 84) dX5_wordNumber_79 (by decide) (fun b79 => ?_) (fun b79 => ?_)
                        · exact absurd b79 (by decide)
                        · refine z_iconst (v := 5) dX5_wordNumber_82 (by decide) ?_
                          refine z_iret dX5_wordNumber_83 rfl zle ?_
                          exact ⟨tW_hit (k := 5) (by decide) n5 c76, rfl⟩
                      · have n6 : ∀ j, j < 6 → ¬ tIs T len f j := tN_s n5 c76
                        refine z_if_eq (tgt := 84) dX5_wordNumber_79 (by decide) (fun b79 => ?_) (fun b79 => ?_)
                        · refine z_aload_n dX5_wordNumber_84 rfl ?_
                          refine z_getR (j := 0) (r := 8) kX5 lf_X5_18 (by decide) rfl dX5_wordNumber_85 k0_10 s0_10 r0_10_0 (by decide) ?_
                          refine z_ldcS (i := 6) (by decide) rfl dX5_wordNumber_88 ?_
                          refine z_iV1 (c_X10_isWord g l (i := 6) (by decide) hl hf S.q) mw_X10_isWord lm_X5_73 mi_X10_isWord mv_X10_isWord kX10 (by decide) (Nat.le_of_ble_eq_true rfl) zle k0_8 s0_8 dX5_wordNumber_90 (fun r90 M90 q90 => ?_)
                          obtain ⟨qm90, qr90⟩ := q90
                          obtain rfl := qm90.symm
                          obtain ⟨c90, rfl⟩ | ⟨c90, rfl⟩ := qr90
                          · refine z_if_eq (tgt := 99) dX5_wordNumber_93 (by decide) (fun b93 => ?_) (fun b93 => ?_)
                            · exact absurd b93 (by decide)
                            · refine z_bipush (v := 6) dX5_wordNumber_96 (by decide) ?_
                              refine z_iret dX5_wordNumber_98 rfl zle ?_
                              exact ⟨tW_hit (k := 6) (by decide) n6 c90, rfl⟩
                          · have n7 : ∀ j, j < 7 → ¬ tIs T len f j := tN_s n6 c90
                            refine z_if_eq (tgt := 99) dX5_wordNumber_93 (by decide) (fun b93 => ?_) (fun b93 => ?_)
                            · refine z_aload_n dX5_wordNumber_99 rfl ?_
                              refine z_getR (j := 0) (r := 8) kX5 lf_X5_18 (by decide) rfl dX5_wordNumber_100 k0_10 s0_10 r0_10_0 (by decide) ?_
                              refine z_ldcS (i := 7) (by decide) rfl dX5_wordNumber_103 ?_
                              refine z_iV1 (c_X10_isWord g l (i := 7) (by decide) hl hf S.q) mw_X10_isWord lm_X5_73 mi_X10_isWord mv_X10_isWord kX10 (by decide) (Nat.le_of_ble_eq_true rfl) zle k0_8 s0_8 dX5_wordNumber_105 (fun r105 M105 q105 => ?_)
                              obtain ⟨qm105, qr105⟩ := q105
                              obtain rfl := qm105.symm
                              obtain ⟨c105, rfl⟩ | ⟨c105, rfl⟩ := qr105
                              · refine z_if_eq (tgt := 116) dX5_wordNumber_108 (by decide) (fun b108 => ?_) (fun b108 => ?_)
                                · exact absurd b108 (by decide)
                                · refine z_bipush (v := 7) dX5_wordNumber_111 (by decide) ?_
                                  refine z_goto (tgt := 117) dX5_wordNumber_113 (by decide) ?_
                                  refine z_iret dX5_wordNumber_117 rfl zle ?_
                                  first
                                    | exact ⟨tW_hit (k := 7) (by decide) n7 c105, rfl⟩
                                    | exact ⟨tW_no n8, rfl⟩
                              · have n8 : ∀ j, j < 8 → ¬ tIs T len f j := tN_s n7 c105
                                refine z_if_eq (tgt := 116) dX5_wordNumber_108 (by decide) (fun b108 => ?_) (fun b108 => ?_)
                                · refine z_iconst (v := (-1)) dX5_wordNumber_116 (by decide) ?_
                                  refine z_iret dX5_wordNumber_117 rfl zle ?_
                                  first
                                    | exact ⟨tW_hit (k := 7) (by decide) n7 c105, rfl⟩
                                    | exact ⟨tW_no n8, rfl⟩
                                · exact absurd b108 (by decide)
                            · exact absurd b93 (by decide)
                        · exact absurd b79 (by decide)
                    · exact absurd b65 (by decide)
                · exact absurd b51 (by decide)
            · exact absurd b37 (by decide)
        · exact absurd b23 (by decide)
    · exact absurd b9 (by decide)

set_option maxRecDepth 100000 in
set_option maxHeartbeats 4000000 in
theorem c_X5_takeClause (g : zG) (l : Launch) {M0 M : zM} {T : Nat → Int32} {len f n r i : Nat} {τ : Dy} (hl : len ≤ 200) (hf : f ≤ len) (S : zPS M0 M T len f τ n r i) (hs : n ≤ 8 ∧ r ≤ 4 ∧ i ≤ 6) : zMet g l yX5_takeClause cX5_takeClause 2 (some .boolean) 8 0 0 [.ref 10] S0 M (zQi (fun r' M' => r' = (if (pClause T len f τ n r i).1 = true then 1 else 0) ∧ zPT M0 M' T len (pClause T len f τ n r i).2)) := by
  obtain ⟨n8, r4, i6⟩ := hs
  refine zMet.of (by decide) (Nat.le_of_ble_eq_true rfl) ?_
  refine z_aload_n dX5_takeClause_0 rfl ?_
  refine z_iV0 (c_X5_wordNumber g l hl hf S) mw_X5_wordNumber lm_X5_51 mi_X5_wordNumber mv_X5_wordNumber kX5 (by decide) (Nat.le_of_ble_eq_true rfl) zle k0_10 s0_10 dX5_takeClause_1 (fun r1 M1 q1 => ?_)
  obtain ⟨qr1, qm1⟩ := q1
  obtain rfl := qr1.symm
  obtain rfl := qm1.symm
  rcases tWord_ran T len f with ew | ⟨w, hw, ew⟩
  · rw [ew]
    refine z_istore_n dX5_takeClause_4 (by decide) rfl rfl ?_
    refine z_iload_n dX5_takeClause_5 rfl ?_
    refine z_iconst (v := (-1)) dX5_takeClause_6 (by decide) ?_
    refine z_icmp_eq (tgt := 18) dX5_takeClause_7 (by decide) (fun b7 => ?_) (fun b7 => ?_)
    · refine z_iconst (v := 0) dX5_takeClause_18 (by decide) ?_
      refine z_iret dX5_takeClause_19 rfl zle ?_
      have e : pClause T len f τ n r i = (false, (f, τ, n, r, i)) := by first | exact if_pos ew | exact (if_neg ew1).trans (if_pos (by rw [ew]; exact c12))
      rw [e]
      exact ⟨rfl, S⟩
    · exact absurd b7 (by decide)
  · rw [ew]
    have ew1 : ¬ tWord T len f = -1 := by rw [ew]; exact nI_nm1 (by omega)
    refine z_istore_n dX5_takeClause_4 (by decide) rfl rfl ?_
    refine z_iload_n dX5_takeClause_5 rfl ?_
    refine z_iconst (v := (-1)) dX5_takeClause_6 (by decide) ?_
    refine z_icmp_eq (tgt := 18) dX5_takeClause_7 (by decide) (fun b7 => ?_) (fun b7 => ?_)
    · exact absurd b7 (nI_nm1 (by omega))
    · refine z_aload_n dX5_takeClause_10 rfl ?_
      refine z_iload_n dX5_takeClause_11 rfl ?_
      refine z_iV1 (c_X5_isOneTooMany g l S.2.1 ⟨n8, r4, i6⟩) mw_X5_isOneTooMany lm_X5_55 mi_X5_isOneTooMany mv_X5_isOneTooMany kX5 (by decide) (Nat.le_of_ble_eq_true rfl) zle k0_10 s0_10 dX5_takeClause_12 (fun r12 M12 q12 => ?_)
      obtain ⟨qm12, qr12⟩ := q12
      obtain rfl := qm12.symm
      obtain ⟨c12, rfl⟩ | ⟨c12, rfl⟩ := qr12
      · refine z_if_eq (tgt := 20) dX5_takeClause_15 (by decide) (fun b15 => ?_) (fun b15 => ?_)
        · exact absurd b15 (by decide)
        · refine z_iconst (v := 0) dX5_takeClause_18 (by decide) ?_
          refine z_iret dX5_takeClause_19 rfl zle ?_
          have e : pClause T len f τ n r i = (false, (f, τ, n, r, i)) := by first | exact if_pos ew | exact (if_neg ew1).trans (if_pos (by rw [ew]; exact c12))
          rw [e]
          exact ⟨rfl, S⟩
      · have ew2 : ¬ tMany (tWord T len f) n r i := by rw [ew]; exact c12
        refine z_if_eq (tgt := 20) dX5_takeClause_15 (by decide) (fun b15 => ?_) (fun b15 => ?_)
        · refine z_aload_n dX5_takeClause_20 rfl ?_
          refine z_getR (j := 0) (r := 8) kX5 lf_X5_18 (by decide) rfl dX5_takeClause_21 k0_10 s0_10 r0_10_0 (by decide) ?_
          refine z_vV0 (c_X10_nextToken g l hl (tB_r (T := T) hf).2.1 S.q) mw_X10_nextToken lm_X5_48 mi_X10_nextToken mv_X10_nextToken kX10 (by decide) (Nat.le_of_ble_eq_true rfl) zle k0_8 s0_8 dX5_takeClause_24 (fun M24 q24 => ?_)
          have S24 := S.next q24
          have hf2 : tNx T len f ≤ len := (tNx_r hf).2
          refine z_iload_n dX5_takeClause_27 rfl ?_
          refine z_tsw (b := 5) (n := 3) (tg := [56, 65, 70]) (tgt := 75) dX5_takeClause_28 (by decide) (by decide) (by decide) (by decide) (by decide) (fun k28 hk28 s28 => ?_) (fun s28 => ?_)
          · match k28, hk28 with
            | 0, _ =>
              have s2 : nI w = 5 := s28
              refine z_aload_n dX5_takeClause_56 rfl ?_
              refine z_getR (j := 1) (r := 11) kX5 lf_X5_12 (by decide) rfl dX5_takeClause_57 k0_10 s0_10 r0_10_1 (by decide) ?_
              refine z_vV0 (c_X7_clear g l (ro := 11) (τ := pRoad τ) (n := 0) (r := 0) (i := 0) (by decide)) mw_X7_clear lm_X5_59 mi_X7_clear mv_X7_clear kX7 (by decide) (Nat.le_of_ble_eq_true rfl) zle k0_11 s0_11 dX5_takeClause_60 (fun M60 q60 => ?_)
              refine z_iconst (v := 1) dX5_takeClause_63 (by decide) ?_
              refine z_iret dX5_takeClause_64 rfl zle ?_
              have e : pClause T len f τ n r i = (true, _) := (if_neg ew1).trans ((if_neg ew2).trans (if_pos (ew.trans s2)))
              rw [e]
              exact ⟨rfl, S24.road q60⟩
            | 1, _ =>
              have s2 : nI w = 6 := s28
              have s5 : ¬ tWord T len f = 5 := by rw [ew, s2]; decide
              refine z_aload_n dX5_takeClause_65 rfl ?_
              refine z_iV0 (c_X5_takeInn g l hl hf2 S24 ⟨n8, r4, i6⟩ (Nat.lt_of_not_le (fun z => c12 (Or.inl ⟨s2, z⟩)))) mw_X5_takeInn lm_X5_62 mi_X5_takeInn mv_X5_takeInn kX5 (by decide) (Nat.le_of_ble_eq_true rfl) zle k0_10 s0_10 dX5_takeClause_66 (fun r66 M66 q66 => ?_)
              refine z_iret dX5_takeClause_69 (by rw [q66.1]; split <;> rfl) zle ?_
              have e : pClause T len f τ n r i = _ := (if_neg ew1).trans ((if_neg ew2).trans ((if_neg s5).trans (if_pos (ew.trans s2))))
              rw [e]
              exact q66
            | 2, _ =>
              have s2 : nI w = 7 := s28
              have s5 : ¬ tWord T len f = 5 := by rw [ew, s2]; decide
              have s6 : ¬ tWord T len f = 6 := by rw [ew, s2]; decide
              refine z_aload_n dX5_takeClause_70 rfl ?_
              refine z_iV0 (c_X5_takeRider g l hl hf2 S24 ⟨n8, r4, i6⟩ (Nat.lt_of_not_le (fun z => c12 (Or.inr (Or.inl ⟨s2, z⟩))))) mw_X5_takeRider lm_X5_65 mi_X5_takeRider mv_X5_takeRider kX5 (by decide) (Nat.le_of_ble_eq_true rfl) zle k0_10 s0_10 dX5_takeClause_71 (fun r71 M71 q71 => ?_)
              refine z_iret dX5_takeClause_74 (by rw [q71.1]; split <;> rfl) zle ?_
              have e : pClause T len f τ n r i = _ := (if_neg ew1).trans ((if_neg ew2).trans ((if_neg s5).trans ((if_neg s6).trans (if_pos (ew.trans s2)))))
              rw [e]
              exact q71
            | k + 3, h => exact absurd h (by omega)
          · have s5 : ¬ tWord T len f = 5 := by rw [ew]; exact s28 0 (by decide)
            have s6 : ¬ tWord T len f = 6 := by rw [ew]; exact s28 1 (by decide)
            have s7 : ¬ tWord T len f = 7 := by rw [ew]; exact s28 2 (by decide)
            refine z_aload_n dX5_takeClause_75 rfl ?_
            refine z_iload_n dX5_takeClause_76 rfl ?_
            refine z_iV1 (c_X5_takeHour g l hl hf2 S24 ⟨n8, r4, i6⟩ (Nat.lt_of_not_le (fun z => c12 (Or.inr (Or.inr ⟨by rw [← ew]; exact s5, by rw [← ew]; exact s6, by rw [← ew]; exact s7, z⟩)))) (k := nI w)) mw_X5_takeHour lm_X5_68 mi_X5_takeHour mv_X5_takeHour kX5 (by decide) (Nat.le_of_ble_eq_true rfl) zle k0_10 s0_10 dX5_takeClause_77 (fun r77 M77 q77 => ?_)
            refine z_iret dX5_takeClause_80 (by rw [q77.1]; split <;> rfl) zle ?_
            have e : pClause T len f τ n r i = pHourC T len (tNx T len f) τ n r i (nI w) := by rw [← ew]; exact (if_neg ew1).trans ((if_neg ew2).trans ((if_neg s5).trans ((if_neg s6).trans (if_neg s7))))
            rw [e]
            exact q77
        · exact absurd b15 (by decide)

