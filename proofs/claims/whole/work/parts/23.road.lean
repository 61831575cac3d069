/-! ===== the class: words, Road, Parser ===== -/
set_option maxRecDepth 100000 in
set_option maxHeartbeats 4000000 in
theorem lp_isWord (g : zG) (l : Launch) {M0 M : zM} {T : Nat → Int32} {len f i : Nat} (hi : i < 8) (hl : len ≤ 200) (hf : f ≤ len) (R : tQ M0 M T len f (tB T len f) (tSo T len f)) (hlen : tB T len f = f + (zConLen.getD i 0)) : ∀ (k h : Nat), h ≤ (zConLen.getD i 0) → (zConLen.getD i 0) - h < k → (∀ j, j < h → T (f + j) = (zConByt.getD i []).getD j 0) → zA g l yX10_isWord cX10_isWord 3 (some .boolean) 6 0 0 (zQi (fun r' M' => M' = M ∧ (((tIs T len f i) ∧ r' = 1) ∨ (¬ (tIs T len f i) ∧ r' = 0)))) 28 0 0 S0 M [.ref 8, .ref (1000 + i), .int (nI h)] [] := by
  have hB := tB_r (T := T) hf
  have hL := zCon_len i hi
  intro k
  induction k with
  | zero => intro h hh hk; exact absurd hk (Nat.not_lt_zero _)
  | succ k ih =>
    intro h hh hk w
    refine z_iload_n dX10_isWord_28 rfl ?_
    refine z_aload_n dX10_isWord_29 rfl ?_
    refine z_iT0 hi (c_J0_length_8abf5 g l hi) mw_J0_length_8abf5 lm_X10_35 mi_J0_length_8abf5 mv_J0_length_8abf5 rfl (by decide) (Nat.le_of_ble_eq_true rfl) zle dX10_isWord_30 (fun r30 M30 q30 => ?_)
    obtain ⟨qr30, qm30⟩ := q30
    obtain rfl := qr30.symm
    obtain rfl := qm30.symm
    refine z_icmp_ge (tgt := 76) dX10_isWord_33 (by decide) (fun b33 => ?_) (fun b33 => ?_)
    · have e : (zConLen.getD i 0) ≤ h := (nI_leI (by omega) (by omega)).mp b33
      have e2 : h = (zConLen.getD i 0) := by omega
      refine z_iconst (v := 1) dX10_isWord_76 (by decide) ?_
      refine z_iret dX10_isWord_77 rfl zle ?_
      exact ⟨rfl, Or.inl ⟨⟨hlen, fun j hj => w j (by omega)⟩, rfl⟩⟩
    · have hn : h < (zConLen.getD i 0) := by
        rcases Nat.lt_or_ge h (zConLen.getD i 0) with z | z
        · exact z
        · exact absurd (nI_le z (by omega)) b33
      refine z_aload_n dX10_isWord_36 rfl ?_
      refine z_getIV (j := 3) kX10 lf_X10_25 (by decide) rfl R.2.2.1 dX10_isWord_37 k0_8 s0_8 ?_
      refine z_iload_n dX10_isWord_40 rfl ?_
      refine z_iaddN (a := f) (b := h) rfl rfl dX10_isWord_41 ?_
      refine z_aload_n dX10_isWord_42 rfl ?_
      refine z_getIV (j := 2) kX10 lf_X10_15 (by decide) rfl R.2.1 dX10_isWord_43 k0_8 s0_8 ?_
      refine z_icmp_ge (tgt := 76) dX10_isWord_46 (by decide) (fun b46 => ?_) (fun b46 => ?_)
      · exact absurd ((nI_leI (by omega) (by omega)).mp b46) (by omega)
      · refine z_aload_n dX10_isWord_49 rfl ?_
        refine z_getR (j := 0) (r := 9) kX10 lf_X10_9 (by decide) rfl dX10_isWord_50 k0_8 s0_8 r0_8_0 (by decide) ?_
        refine z_aload_n dX10_isWord_53 rfl ?_
        refine z_getIV (j := 3) kX10 lf_X10_25 (by decide) rfl R.2.2.1 dX10_isWord_54 k0_8 s0_8 ?_
        refine z_iload_n dX10_isWord_57 rfl ?_
        refine z_iaddN (a := f) (b := h) rfl rfl dX10_isWord_58 ?_
        refine z_ialdV (j := (f + h)) rfl (by omega) (R.2.2.2.2.1 (f + h) (by omega)) dX10_isWord_59 k0_9 s0_9 ?_
        refine z_aload_n dX10_isWord_60 rfl ?_
        refine z_iload_n dX10_isWord_61 rfl ?_
        refine z_iT1 hi (c_J0_charAt_5068e g l hi hn) mw_J0_charAt_5068e lm_X10_40 mi_J0_charAt_5068e mv_J0_charAt_5068e rfl (by decide) (Nat.le_of_ble_eq_true rfl) zle dX10_isWord_62 (fun r62 M62 q62 => ?_)
        obtain ⟨qr62, qm62⟩ := q62
        obtain rfl := qr62.symm
        obtain rfl := qm62.symm
        refine z_icmp_eq (tgt := 70) dX10_isWord_65 (by decide) (fun b65 => ?_) (fun b65 => ?_)
        · refine z_iincN (k := h) dX10_isWord_70 rfl rfl (by decide) rfl rfl ?_
          refine z_goto (tgt := 28) dX10_isWord_73 (by decide) ?_
          refine ih (h + 1) (by omega) (by omega) (fun j hj => ?_)
          by_cases c : j = h
          · subst c; exact b65
          · exact w j (by omega)
        · refine z_iconst (v := 0) dX10_isWord_68 (by decide) ?_
          refine z_iret dX10_isWord_69 rfl zle ?_
          exact ⟨rfl, Or.inr ⟨fun z => b65 (z.2 h hn), rfl⟩⟩

set_option maxRecDepth 100000 in
set_option maxHeartbeats 4000000 in
theorem c_X10_isWord (g : zG) (l : Launch) {M0 M : zM} {T : Nat → Int32} {len f i : Nat} (hi : i < 8) (hl : len ≤ 200) (hf : f ≤ len) (R : tQ M0 M T len f (tB T len f) (tSo T len f)) : zMet g l yX10_isWord cX10_isWord 3 (some .boolean) 6 0 0 [.ref 8, .ref (1000 + i)] S0 M (zQi (fun r' M' => M' = M ∧ (((tIs T len f i) ∧ r' = 1) ∨ (¬ (tIs T len f i) ∧ r' = 0)))) := by
  have hB := tB_r (T := T) hf
  have hL := zCon_len i hi
  refine zMet.of (by decide) (Nat.le_of_ble_eq_true rfl) ?_
  refine z_aload_n dX10_isWord_0 rfl ?_
  refine z_getIV (j := 4) kX10 lf_X10_28 (by decide) rfl R.2.2.2.1 dX10_isWord_1 k0_8 s0_8 ?_
  refine z_iconst (v := 1) dX10_isWord_4 (by decide) ?_
  refine z_icmp_ne (tgt := 24) dX10_isWord_5 (by decide) (fun b5 => ?_) (fun b5 => ?_)
  · refine z_iconst (v := 0) dX10_isWord_24 (by decide) ?_
    refine z_iret dX10_isWord_25 rfl zle ?_
    first
      | exact ⟨rfl, Or.inr ⟨fun z => b21 (by rw [z.1, show f + zConLen.getD i 0 - f = zConLen.getD i 0 by omega]), rfl⟩⟩
      | exact ⟨rfl, Or.inr ⟨fun z => b5 (tIs_so hi hf z).1, rfl⟩⟩
  · refine z_aload_n dX10_isWord_8 rfl ?_
    refine z_getIV (j := 1) kX10 lf_X10_19 (by decide) rfl R.1 dX10_isWord_9 k0_8 s0_8 ?_
    refine z_aload_n dX10_isWord_12 rfl ?_
    refine z_getIV (j := 3) kX10 lf_X10_25 (by decide) rfl R.2.2.1 dX10_isWord_13 k0_8 s0_8 ?_
    refine z_isub dX10_isWord_16 ?_
    rw [nI_subs hB.1]
    refine z_aload_n dX10_isWord_17 rfl ?_
    refine z_iT0 hi (c_J0_length_8abf5 g l hi) mw_J0_length_8abf5 lm_X10_35 mi_J0_length_8abf5 mv_J0_length_8abf5 rfl (by decide) (Nat.le_of_ble_eq_true rfl) zle dX10_isWord_18 (fun r18 M18 q18 => ?_)
    obtain ⟨qr18, qm18⟩ := q18
    obtain rfl := qr18.symm
    obtain rfl := qm18.symm
    refine z_icmp_eq (tgt := 26) dX10_isWord_21 (by decide) (fun b21 => ?_) (fun b21 => ?_)
    · have hlen : tB T len f = f + zConLen.getD i 0 := by have := (nI_eq (by omega) (by omega)).mp b21; omega
      refine z_iconst (v := 0) dX10_isWord_26 (by decide) ?_
      refine z_istore_n dX10_isWord_27 (by decide) rfl rfl ?_
      exact lp_isWord g l hi hl hf R hlen (zConLen.getD i 0 + 1) 0 (Nat.zero_le _) (by omega) (fun j hj => absurd hj (Nat.not_lt_zero _))
    · refine z_iconst (v := 0) dX10_isWord_24 (by decide) ?_
      refine z_iret dX10_isWord_25 rfl zle ?_
      first
        | exact ⟨rfl, Or.inr ⟨fun z => b21 (by rw [z.1, show f + zConLen.getD i 0 - f = zConLen.getD i 0 by omega]), rfl⟩⟩
        | exact ⟨rfl, Or.inr ⟨fun z => b5 (tIs_so hi hf z).1, rfl⟩⟩

def dRoad (M : zM) (ro : Nat) (τ : Dy) (n r i : Nat) : Prop :=
  M ro 0 = nI i ∧ M ro 1 = nI n ∧ M ro 2 = nI r ∧ (∀ j, j < i → M (ro + 1) j = τ (64 + j)) ∧ (∀ h, h < n → M (ro + 2) h = τ (3 + h) ∧ M (ro + 3) h = τ (11 + h) ∧ M (ro + 4) h = τ (27 + h)) ∧ (∀ q, q < r → M (ro + 5) q = τ (51 + q) ∧ M (ro + 6) q = τ (55 + q))
def zRD (M0 M : zM) (ro : Nat) (τ : Dy) (n r i : Nat) : Prop := dRoad M ro τ n r i ∧ ∀ k, (k < ro ∨ ro + 6 < k) → M k = M0 k
def pInn (τ : Dy) (i : Nat) (m : Int32) : Dy := upd (upd τ (64 + i) m) 63 (nI (i + 1))
def pHour (τ : Dy) (n : Nat) (k h t : Int32) : Dy := upd (upd (upd (upd (upd τ (3 + n) k) (11 + n) h) (19 + n) h) (27 + n) t) 0 (nI (n + 1))
def pRider (τ : Dy) (r : Nat) (a c : Int32) : Dy := upd (upd (upd τ (51 + r) a) (55 + r) c) 1 (nI (r + 1))
def pRoad (τ : Dy) : Dy := fun j => if j < 70 then 0 else τ j

set_option maxRecDepth 100000 in
set_option maxHeartbeats 4000000 in
theorem zBecR {M M5 M13 M21 M36 M51 M66 M81 M95 M109 : zM} {ro ro2 n r i : Nat} {τ : Dy} (hro : ro ∈ zRoads) (hro2 : ro2 ∈ zRoads) (hne : ro ≠ ro2) (n8 : n ≤ 8) (r4 : r ≤ 4) (i6 : i ≤ 6) (R : dRoad M ro2 τ n r i) (e5 : M5 = z_up M ro 0 (M ro2 0)) (e13 : M13 = z_up M5 ro 1 (M5 ro2 1)) (e21 : M21 = z_up M13 ro 2 (M13 ro2 2)) (e36 : M36 = z_row M21 (ro + 1) (va_cpy (M21 (ro2 + 1)) (M21 (ro + 1)) 0 0 6)) (e51 : M51 = z_row M36 (ro + 2) (va_cpy (M36 (ro2 + 2)) (M36 (ro + 2)) 0 0 8)) (e66 : M66 = z_row M51 (ro + 3) (va_cpy (M51 (ro2 + 3)) (M51 (ro + 3)) 0 0 8)) (e81 : M81 = z_row M66 (ro + 4) (va_cpy (M66 (ro2 + 4)) (M66 (ro + 4)) 0 0 8)) (e95 : M95 = z_row M81 (ro + 5) (va_cpy (M81 (ro2 + 5)) (M81 (ro + 5)) 0 0 4)) (e109 : M109 = z_row M95 (ro + 6) (va_cpy (M95 (ro2 + 6)) (M95 (ro + 6)) 0 0 4)) : zRD M M109 ro τ n r i := by
  have hsep : ro + 6 < ro2 ∨ ro2 + 6 < ro := (by decide +kernel : ∀ d ∈ zRoads, ∀ e ∈ zRoads, d ≠ e → d + 6 < e ∨ e + 6 < d) ro hro ro2 hro2 hne
  have f5 : ∀ k, (k < ro ∨ ro + 6 < k) → M5 k = M k := fun k hk => by rw [e5, z_up_n _ _ _ (by omega)]
  have f13 : ∀ k, (k < ro ∨ ro + 6 < k) → M13 k = M k := fun k hk => by rw [e13, z_up_n _ _ _ (by omega), f5 k hk]
  have f21 : ∀ k, (k < ro ∨ ro + 6 < k) → M21 k = M k := fun k hk => by rw [e21, z_up_n _ _ _ (by omega), f13 k hk]
  have f36 : ∀ k, (k < ro ∨ ro + 6 < k) → M36 k = M k := fun k hk => by rw [e36, z_row_n _ _ (by omega), f21 k hk]
  have f51 : ∀ k, (k < ro ∨ ro + 6 < k) → M51 k = M k := fun k hk => by rw [e51, z_row_n _ _ (by omega), f36 k hk]
  have f66 : ∀ k, (k < ro ∨ ro + 6 < k) → M66 k = M k := fun k hk => by rw [e66, z_row_n _ _ (by omega), f51 k hk]
  have f81 : ∀ k, (k < ro ∨ ro + 6 < k) → M81 k = M k := fun k hk => by rw [e81, z_row_n _ _ (by omega), f66 k hk]
  have f95 : ∀ k, (k < ro ∨ ro + 6 < k) → M95 k = M k := fun k hk => by rw [e95, z_row_n _ _ (by omega), f81 k hk]
  have f109 : ∀ k, (k < ro ∨ ro + 6 < k) → M109 k = M k := fun k hk => by rw [e109, z_row_n _ _ (by omega), f95 k hk]
  obtain ⟨h1, h2, h3, h4, h5, h6⟩ := R
  have g0 : M109 ro = upd (upd (upd (M ro) 0 (M ro2 0)) 1 (M ro2 1)) 2 (M ro2 2) := by
    rw [e109, z_row_n _ _ (by omega), e95, z_row_n _ _ (by omega), e81, z_row_n _ _ (by omega), e66, z_row_n _ _ (by omega), e51, z_row_n _ _ (by omega), e36, z_row_n _ _ (by omega), e21, z_up_s, f13 ro2 (by omega), e13, z_up_s, f5 ro2 (by omega), e5, z_up_s]
  refine ⟨⟨?_, ?_, ?_, fun j hj => ?_, fun h hh => ⟨?_, ?_, ?_⟩, fun q hq => ⟨?_, ?_⟩⟩, f109⟩
  · rw [g0, upd_n _ _ (by omega), upd_n _ _ (by omega), upd_s]; exact h1
  · rw [g0, upd_n _ _ (by omega), upd_s]; exact h2
  · rw [g0, upd_s]; exact h3
  · rw [e109, z_row_n _ _ (by omega), e95, z_row_n _ _ (by omega), e81, z_row_n _ _ (by omega), e66, z_row_n _ _ (by omega), e51, z_row_n _ _ (by omega), e36, z_row_s, sb_cpy0 (by omega), f21 _ (by omega)]; exact h4 j hj
  · rw [e109, z_row_n _ _ (by omega), e95, z_row_n _ _ (by omega), e81, z_row_n _ _ (by omega), e66, z_row_n _ _ (by omega), e51, z_row_s, sb_cpy0 (by omega), f36 _ (by omega)]; exact (h5 h hh).1
  · rw [e109, z_row_n _ _ (by omega), e95, z_row_n _ _ (by omega), e81, z_row_n _ _ (by omega), e66, z_row_s, sb_cpy0 (by omega), f51 _ (by omega)]; exact (h5 h hh).2.1
  · rw [e109, z_row_n _ _ (by omega), e95, z_row_n _ _ (by omega), e81, z_row_s, sb_cpy0 (by omega), f66 _ (by omega)]; exact (h5 h hh).2.2
  · rw [e109, z_row_n _ _ (by omega), e95, z_row_s, sb_cpy0 (by omega), f81 _ (by omega)]; exact (h6 q hq).1
  · rw [e109, z_row_s, sb_cpy0 (by omega), f95 _ (by omega)]; exact (h6 q hq).2

theorem zRD.inn {M M2 : zM} {ro n r i : Nat} {τ : Dy} {m : Int32} (R : dRoad M ro τ n r i) (hi : i < 6) (hn8 : n ≤ 8) (hr4 : r ≤ 4) (e : M2 = z_up (z_up M (ro + 1) i m) ro 0 (nI (i + 1))) : zRD M M2 ro (pInn τ i m) n r (i + 1) := by
  subst e
  obtain ⟨h1, h2, h3, h4, h5, h6⟩ := R
  unfold pInn
  refine ⟨⟨z_up_kj _ _ _ _, ?_, ?_, fun j hj => ?_, fun h hh => ?_, fun q hq => ?_⟩, fun k hk => ?_⟩
  · rw [z_up_jn _ _ (by omega), z_up_n _ _ _ (by omega)]; exact h2
  · rw [z_up_jn _ _ (by omega), z_up_n _ _ _ (by omega)]; exact h3
  · rw [z_up_n _ _ _ (by omega), upd_n _ _ (by omega)]
    by_cases c : j = i
    · subst c; rw [z_up_kj, upd_s]
    · rw [z_up_jn _ _ c, upd_n _ _ (by omega)]; exact h4 j (by omega)
  · rw [z_up_n _ _ _ (by omega), z_up_n _ _ _ (by omega), z_up_n _ _ _ (by omega), z_up_n _ _ _ (by omega), z_up_n _ _ _ (by omega), z_up_n _ _ _ (by omega), upd_n _ _ (by omega), upd_n _ _ (by omega), upd_n _ _ (by omega), upd_n _ _ (by omega), upd_n _ _ (by omega), upd_n _ _ (by omega)]; exact h5 h hh
  · rw [z_up_n _ _ _ (by omega), z_up_n _ _ _ (by omega), z_up_n _ _ _ (by omega), z_up_n _ _ _ (by omega), upd_n _ _ (by omega), upd_n _ _ (by omega), upd_n _ _ (by omega), upd_n _ _ (by omega)]; exact h6 q hq
  · rw [z_up_n _ _ _ (by omega), z_up_n _ _ _ (by omega)]
theorem zRD.hour {M M2 : zM} {ro n r i : Nat} {τ : Dy} {k x t : Int32} (R : dRoad M ro τ n r i) (hn : n < 8) (hi6 : i ≤ 6) (hr4 : r ≤ 4) (e : M2 = z_up (z_up (z_up (z_up M (ro + 2) n k) (ro + 3) n x) (ro + 4) n t) ro 1 (nI (n + 1))) : zRD M M2 ro (pHour τ n k x t) (n + 1) r i := by
  subst e
  obtain ⟨h1, h2, h3, h4, h5, h6⟩ := R
  unfold pHour
  refine ⟨⟨?_, z_up_kj _ _ _ _, ?_, fun j hj => ?_, fun h hh => ⟨?_, ?_, ?_⟩, fun q hq => ?_⟩, fun k hk => ?_⟩
  · rw [z_up_jn _ _ (by omega), z_up_n _ _ _ (by omega), z_up_n _ _ _ (by omega), z_up_n _ _ _ (by omega)]; exact h1
  · rw [z_up_jn _ _ (by omega), z_up_n _ _ _ (by omega), z_up_n _ _ _ (by omega), z_up_n _ _ _ (by omega)]; exact h3
  · rw [z_up_n _ _ _ (by omega), z_up_n _ _ _ (by omega), z_up_n _ _ _ (by omega), z_up_n _ _ _ (by omega), upd_n _ _ (by omega), upd_n _ _ (by omega), upd_n _ _ (by omega), upd_n _ _ (by omega), upd_n _ _ (by omega)]; exact h4 j hj
  · rw [z_up_n _ _ _ (by omega), z_up_n _ _ _ (by omega), z_up_n _ _ _ (by omega), upd_n _ _ (by omega), upd_n _ _ (by omega), upd_n _ _ (by omega), upd_n _ _ (by omega)]
    by_cases c : h = n
    · subst c; rw [z_up_kj, upd_s]
    · rw [z_up_jn _ _ c, upd_n _ _ (by omega)]; exact (h5 h (by omega)).1
  · rw [z_up_n _ _ _ (by omega), z_up_n _ _ _ (by omega), upd_n _ _ (by omega), upd_n _ _ (by omega), upd_n _ _ (by omega)]
    by_cases c : h = n
    · subst c; rw [z_up_kj, upd_s]
    · rw [z_up_jn _ _ c, z_up_n _ _ _ (by omega), upd_n _ _ (by omega), upd_n _ _ (by omega)]; exact (h5 h (by omega)).2.1
  · rw [z_up_n _ _ _ (by omega), upd_n _ _ (by omega)]
    by_cases c : h = n
    · subst c; rw [z_up_kj, upd_s]
    · rw [z_up_jn _ _ c, z_up_n _ _ _ (by omega), z_up_n _ _ _ (by omega), upd_n _ _ (by omega), upd_n _ _ (by omega), upd_n _ _ (by omega), upd_n _ _ (by omega)]; exact (h5 h (by omega)).2.2
  · rw [z_up_n _ _ _ (by omega), z_up_n _ _ _ (by omega), z_up_n _ _ _ (by omega), z_up_n _ _ _ (by omega), z_up_n _ _ _ (by omega), z_up_n _ _ _ (by omega), z_up_n _ _ _ (by omega), z_up_n _ _ _ (by omega), upd_n _ _ (by omega), upd_n _ _ (by omega), upd_n _ _ (by omega), upd_n _ _ (by omega), upd_n _ _ (by omega), upd_n _ _ (by omega), upd_n _ _ (by omega), upd_n _ _ (by omega), upd_n _ _ (by omega), upd_n _ _ (by omega)]; exact h6 q hq
  · rw [z_up_n _ _ _ (by omega), z_up_n _ _ _ (by omega), z_up_n _ _ _ (by omega), z_up_n _ _ _ (by omega)]
theorem zRD.rider {M M2 : zM} {ro n r i : Nat} {τ : Dy} {a c : Int32} (R : dRoad M ro τ n r i) (hr : r < 4) (hn8 : n ≤ 8) (hi6 : i ≤ 6) (e : M2 = z_up (z_up (z_up M (ro + 5) r a) (ro + 6) r c) ro 2 (nI (r + 1))) : zRD M M2 ro (pRider τ r a c) n (r + 1) i := by
  subst e
  obtain ⟨h1, h2, h3, h4, h5, h6⟩ := R
  unfold pRider
  refine ⟨⟨?_, ?_, z_up_kj _ _ _ _, fun j hj => ?_, fun h hh => ?_, fun q hq => ⟨?_, ?_⟩⟩, fun k hk => ?_⟩
  · rw [z_up_jn _ _ (by omega), z_up_n _ _ _ (by omega), z_up_n _ _ _ (by omega)]; exact h1
  · rw [z_up_jn _ _ (by omega), z_up_n _ _ _ (by omega), z_up_n _ _ _ (by omega)]; exact h2
  · rw [z_up_n _ _ _ (by omega), z_up_n _ _ _ (by omega), z_up_n _ _ _ (by omega), upd_n _ _ (by omega), upd_n _ _ (by omega), upd_n _ _ (by omega)]; exact h4 j hj
  · rw [z_up_n _ _ _ (by omega), z_up_n _ _ _ (by omega), z_up_n _ _ _ (by omega), z_up_n _ _ _ (by omega), z_up_n _ _ _ (by omega), z_up_n _ _ _ (by omega), z_up_n _ _ _ (by omega), z_up_n _ _ _ (by omega), z_up_n _ _ _ (by omega), upd_n _ _ (by omega), upd_n _ _ (by omega), upd_n _ _ (by omega), upd_n _ _ (by omega), upd_n _ _ (by omega), upd_n _ _ (by omega), upd_n _ _ (by omega), upd_n _ _ (by omega), upd_n _ _ (by omega)]; exact h5 h hh
  · rw [z_up_n _ _ _ (by omega), z_up_n _ _ _ (by omega), upd_n _ _ (by omega), upd_n _ _ (by omega)]
    by_cases c : q = r
    · subst c; rw [z_up_kj, upd_s]
    · rw [z_up_jn _ _ c, upd_n _ _ (by omega)]; exact (h6 q (by omega)).1
  · rw [z_up_n _ _ _ (by omega), upd_n _ _ (by omega)]
    by_cases c : q = r
    · subst c; rw [z_up_kj, upd_s]
    · rw [z_up_jn _ _ c, z_up_n _ _ _ (by omega), upd_n _ _ (by omega), upd_n _ _ (by omega)]; exact (h6 q (by omega)).2
  · rw [z_up_n _ _ _ (by omega), z_up_n _ _ _ (by omega), z_up_n _ _ _ (by omega)]

set_option maxRecDepth 100000 in
set_option maxHeartbeats 4000000 in
theorem c_X7_clear (g : zG) (l : Launch) {M : zM} {ro n r i : Nat} {τ : Dy} (hro : ro ∈ zRoads) : zMet g l yX7_clear cX7_clear 1 none 0 0 0 [.ref ro] S0 M (zQv (fun M' => zRD M M' ro τ 0 0 0)) := by
  refine zMet.of (by decide) (Nat.le_of_ble_eq_true rfl) ?_
  refine z_aload_n dX7_clear_0 rfl ?_
  refine z_iconst (v := 0) dX7_clear_1 (by decide) ?_
  refine z_putI (j := 0) kX7 lf_X7_30 (by decide) rfl rfl (kX7.2.2.1 0 (by decide)) rfl rfl dX7_clear_2 (zRoad_k0 hro) (zRoad_s0 hro) ?_
  refine z_aload_n dX7_clear_5 rfl ?_
  refine z_iconst (v := 0) dX7_clear_6 (by decide) ?_
  refine z_putI (j := 1) kX7 lf_X7_34 (by decide) rfl rfl (kX7.2.2.1 1 (by decide)) rfl rfl dX7_clear_7 (zRoad_k0 hro) (zRoad_s0 hro) ?_
  refine z_aload_n dX7_clear_10 rfl ?_
  refine z_iconst (v := 0) dX7_clear_11 (by decide) ?_
  refine z_putI (j := 2) kX7 lf_X7_37 (by decide) rfl rfl (kX7.2.2.1 2 (by decide)) rfl rfl dX7_clear_12 (zRoad_k0 hro) (zRoad_s0 hro) ?_
  refine z_vret dX7_clear_15 zle ?_
  refine ⟨⟨?_, ?_, z_up_kj _ _ _ _, fun j hj => absurd hj (Nat.not_lt_zero _), fun j hj => absurd hj (Nat.not_lt_zero _), fun j hj => absurd hj (Nat.not_lt_zero _)⟩, fun k hk => ?_⟩
  · rw [z_up_jn _ _ (by omega), z_up_jn _ _ (by omega)]; exact z_up_kj _ _ _ _
  · rw [z_up_jn _ _ (by omega)]; exact z_up_kj _ _ _ _
  · rw [z_up_n _ _ _ (by omega), z_up_n _ _ _ (by omega), z_up_n _ _ _ (by omega)]

set_option maxRecDepth 100000 in
set_option maxHeartbeats 4000000 in
theorem c_X7_become (g : zG) (l : Launch) {M : zM} {ro ro2 n r i : Nat} {τ : Dy} (hro : ro ∈ zRoads) (hro2 : ro2 ∈ zRoads) (hne : ro ≠ ro2) (hs : n ≤ 8 ∧ r ≤ 4 ∧ i ≤ 6) (R : dRoad M ro2 τ n r i) : zMet g l yX7_become cX7_become 2 none 1 0 0 [.ref ro, .ref ro2] S0 M (zQv (fun M' => zRD M M' ro τ n r i)) := by
  refine zMet.of (by decide) (Nat.le_of_ble_eq_true rfl) ?_
  refine z_aload_n dX7_become_0 rfl ?_
  refine z_aload_n dX7_become_1 rfl ?_
  refine z_getI (j := 0) kX7 lf_X7_30 (by decide) rfl dX7_become_2 (zRoad_k0 hro2) (zRoad_s0 hro2) ?_
  refine z_putIE (j := 0) kX7 lf_X7_30 (by decide) rfl rfl (kX7.2.2.1 0 (by decide)) rfl rfl dX7_become_5 (zRoad_k0 hro) (zRoad_s0 hro) (fun M5 e5 => ?_)
  refine z_aload_n dX7_become_8 rfl ?_
  refine z_aload_n dX7_become_9 rfl ?_
  refine z_getI (j := 1) kX7 lf_X7_34 (by decide) rfl dX7_become_10 (zRoad_k0 hro2) (zRoad_s0 hro2) ?_
  refine z_putIE (j := 1) kX7 lf_X7_34 (by decide) rfl rfl (kX7.2.2.1 1 (by decide)) rfl rfl dX7_become_13 (zRoad_k0 hro) (zRoad_s0 hro) (fun M13 e13 => ?_)
  refine z_aload_n dX7_become_16 rfl ?_
  refine z_aload_n dX7_become_17 rfl ?_
  refine z_getI (j := 2) kX7 lf_X7_37 (by decide) rfl dX7_become_18 (zRoad_k0 hro2) (zRoad_s0 hro2) ?_
  refine z_putIE (j := 2) kX7 lf_X7_37 (by decide) rfl rfl (kX7.2.2.1 2 (by decide)) rfl rfl dX7_become_21 (zRoad_k0 hro) (zRoad_s0 hro) (fun M21 e21 => ?_)
  refine z_aload_n dX7_become_24 rfl ?_
  refine z_getR (j := 3) (r := (ro2 + 1)) kX7 lf_X7_9 (by decide) rfl dX7_become_25 (zRoad_k0 hro2) (zRoad_s0 hro2) (zRoad_r3 hro2) (zRoad_l1 hro2) ?_
  refine z_iconst (v := 0) dX7_become_28 (by decide) ?_
  refine z_aload_n dX7_become_29 rfl ?_
  refine z_getR (j := 3) (r := (ro + 1)) kX7 lf_X7_9 (by decide) rfl dX7_become_30 (zRoad_k0 hro) (zRoad_s0 hro) (zRoad_r3 hro) (zRoad_l1 hro) ?_
  refine z_iconst (v := 0) dX7_become_33 (by decide) ?_
  refine z_bipush (v := 6) dX7_become_34 (by decide) ?_
  refine z_copyE (a := 0) (b := 0) (m' := 6) lm_X7_40 w_an w_as w_ai (by decide) (Nat.le_of_ble_eq_true rfl) (zRoad_k1 hro2) (zRoad_s1 hro2) (zRoad_k1 hro) (zRoad_s1 hro) rfl rfl rfl (by decide) (by decide) (by decide) (by decide) dX7_become_36 (fun M36 e36 => ?_)
  refine z_aload_n dX7_become_39 rfl ?_
  refine z_getR (j := 4) (r := (ro2 + 2)) kX7 lf_X7_15 (by decide) rfl dX7_become_40 (zRoad_k0 hro2) (zRoad_s0 hro2) (zRoad_r4 hro2) (zRoad_l2 hro2) ?_
  refine z_iconst (v := 0) dX7_become_43 (by decide) ?_
  refine z_aload_n dX7_become_44 rfl ?_
  refine z_getR (j := 4) (r := (ro + 2)) kX7 lf_X7_15 (by decide) rfl dX7_become_45 (zRoad_k0 hro) (zRoad_s0 hro) (zRoad_r4 hro) (zRoad_l2 hro) ?_
  refine z_iconst (v := 0) dX7_become_48 (by decide) ?_
  refine z_bipush (v := 8) dX7_become_49 (by decide) ?_
  refine z_copyE (a := 0) (b := 0) (m' := 8) lm_X7_40 w_an w_as w_ai (by decide) (Nat.le_of_ble_eq_true rfl) (zRoad_k2 hro2) (zRoad_s2 hro2) (zRoad_k2 hro) (zRoad_s2 hro) rfl rfl rfl (by decide) (by decide) (by decide) (by decide) dX7_become_51 (fun M51 e51 => ?_)
  refine z_aload_n dX7_become_54 rfl ?_
  refine z_getR (j := 5) (r := (ro2 + 3)) kX7 lf_X7_18 (by decide) rfl dX7_become_55 (zRoad_k0 hro2) (zRoad_s0 hro2) (zRoad_r5 hro2) (zRoad_l3 hro2) ?_
  refine z_iconst (v := 0) dX7_become_58 (by decide) ?_
  refine z_aload_n dX7_become_59 rfl ?_
  refine z_getR (j := 5) (r := (ro + 3)) kX7 lf_X7_18 (by decide) rfl dX7_become_60 (zRoad_k0 hro) (zRoad_s0 hro) (zRoad_r5 hro) (zRoad_l3 hro) ?_
  refine z_iconst (v := 0) dX7_become_63 (by decide) ?_
  refine z_bipush (v := 8) dX7_become_64 (by decide) ?_
  refine z_copyE (a := 0) (b := 0) (m' := 8) lm_X7_40 w_an w_as w_ai (by decide) (Nat.le_of_ble_eq_true rfl) (zRoad_k3 hro2) (zRoad_s3 hro2) (zRoad_k3 hro) (zRoad_s3 hro) rfl rfl rfl (by decide) (by decide) (by decide) (by decide) dX7_become_66 (fun M66 e66 => ?_)
  refine z_aload_n dX7_become_69 rfl ?_
  refine z_getR (j := 6) (r := (ro2 + 4)) kX7 lf_X7_21 (by decide) rfl dX7_become_70 (zRoad_k0 hro2) (zRoad_s0 hro2) (zRoad_r6 hro2) (zRoad_l4 hro2) ?_
  refine z_iconst (v := 0) dX7_become_73 (by decide) ?_
  refine z_aload_n dX7_become_74 rfl ?_
  refine z_getR (j := 6) (r := (ro + 4)) kX7 lf_X7_21 (by decide) rfl dX7_become_75 (zRoad_k0 hro) (zRoad_s0 hro) (zRoad_r6 hro) (zRoad_l4 hro) ?_
  refine z_iconst (v := 0) dX7_become_78 (by decide) ?_
  refine z_bipush (v := 8) dX7_become_79 (by decide) ?_
  refine z_copyE (a := 0) (b := 0) (m' := 8) lm_X7_40 w_an w_as w_ai (by decide) (Nat.le_of_ble_eq_true rfl) (zRoad_k4 hro2) (zRoad_s4 hro2) (zRoad_k4 hro) (zRoad_s4 hro) rfl rfl rfl (by decide) (by decide) (by decide) (by decide) dX7_become_81 (fun M81 e81 => ?_)
  refine z_aload_n dX7_become_84 rfl ?_
  refine z_getR (j := 7) (r := (ro2 + 5)) kX7 lf_X7_24 (by decide) rfl dX7_become_85 (zRoad_k0 hro2) (zRoad_s0 hro2) (zRoad_r7 hro2) (zRoad_l5 hro2) ?_
  refine z_iconst (v := 0) dX7_become_88 (by decide) ?_
  refine z_aload_n dX7_become_89 rfl ?_
  refine z_getR (j := 7) (r := (ro + 5)) kX7 lf_X7_24 (by decide) rfl dX7_become_90 (zRoad_k0 hro) (zRoad_s0 hro) (zRoad_r7 hro) (zRoad_l5 hro) ?_
  refine z_iconst (v := 0) dX7_become_93 (by decide) ?_
  refine z_iconst (v := 4) dX7_become_94 (by decide) ?_
  refine z_copyE (a := 0) (b := 0) (m' := 4) lm_X7_40 w_an w_as w_ai (by decide) (Nat.le_of_ble_eq_true rfl) (zRoad_k5 hro2) (zRoad_s5 hro2) (zRoad_k5 hro) (zRoad_s5 hro) rfl rfl rfl (by decide) (by decide) (by decide) (by decide) dX7_become_95 (fun M95 e95 => ?_)
  refine z_aload_n dX7_become_98 rfl ?_
  refine z_getR (j := 8) (r := (ro2 + 6)) kX7 lf_X7_27 (by decide) rfl dX7_become_99 (zRoad_k0 hro2) (zRoad_s0 hro2) (zRoad_r8 hro2) (zRoad_l6 hro2) ?_
  refine z_iconst (v := 0) dX7_become_102 (by decide) ?_
  refine z_aload_n dX7_become_103 rfl ?_
  refine z_getR (j := 8) (r := (ro + 6)) kX7 lf_X7_27 (by decide) rfl dX7_become_104 (zRoad_k0 hro) (zRoad_s0 hro) (zRoad_r8 hro) (zRoad_l6 hro) ?_
  refine z_iconst (v := 0) dX7_become_107 (by decide) ?_
  refine z_iconst (v := 4) dX7_become_108 (by decide) ?_
  refine z_copyE (a := 0) (b := 0) (m' := 4) lm_X7_40 w_an w_as w_ai (by decide) (Nat.le_of_ble_eq_true rfl) (zRoad_k6 hro2) (zRoad_s6 hro2) (zRoad_k6 hro) (zRoad_s6 hro) rfl rfl rfl (by decide) (by decide) (by decide) (by decide) dX7_become_109 (fun M109 e109 => ?_)
  refine z_vret dX7_become_112 zle ?_
  exact zBecR hro hro2 hne hs.1 hs.2.1 hs.2.2 R e5 e13 e21 e36 e51 e66 e81 e95 e109

set_option maxRecDepth 100000 in
set_option maxHeartbeats 4000000 in
theorem c_X7_addInn (g : zG) (l : Launch) {M : zM} {ro n r i : Nat} {τ : Dy} (hro : ro ∈ zRoads) {m : Int32} (R : dRoad M ro τ n r i) (hi : i < 6) (n8 : n ≤ 8) (r4 : r ≤ 4) : zMet g l yX7_addInn cX7_addInn 2 none 0 0 0 [.ref ro, .int m] S0 M (zQv (fun M' => zRD M M' ro (pInn τ i m) n r (i + 1))) := by
  refine zMet.of (by decide) (Nat.le_of_ble_eq_true rfl) ?_
  refine z_aload_n dX7_addInn_0 rfl ?_
  refine z_getIV (j := 0) kX7 lf_X7_30 (by decide) rfl R.1 dX7_addInn_1 (zRoad_k0 hro) (zRoad_s0 hro) ?_
  refine z_bipush (v := 6) dX7_addInn_4 (by decide) ?_
  refine z_icmp_ge (tgt := 29) dX7_addInn_6 (by decide) (fun b6 => ?_) (fun b6 => ?_)
  · exact absurd ((nI_leI (a := 6) (by omega) (by omega)).mp b6) (by omega)
  · refine z_aload_n dX7_addInn_9 rfl ?_
    refine z_getR (j := 3) (r := (ro + 1)) kX7 lf_X7_9 (by decide) rfl dX7_addInn_10 (zRoad_k0 hro) (zRoad_s0 hro) (zRoad_r3 hro) (zRoad_l1 hro) ?_
    refine z_aload_n dX7_addInn_13 rfl ?_
    refine z_getIV (j := 0) kX7 lf_X7_30 (by decide) rfl R.1 dX7_addInn_14 (zRoad_k0 hro) (zRoad_s0 hro) ?_
    refine z_iload_n dX7_addInn_17 rfl ?_
    refine z_iastN (j := i) rfl (by omega) dX7_addInn_18 (zRoad_k1 hro) (zRoad_s1 hro) ?_
    refine z_aload_n dX7_addInn_19 rfl ?_
    refine z_dup dX7_addInn_20 rfl ?_
    refine z_getIV (j := 0) kX7 lf_X7_30 (by decide) rfl ((congrFun (z_up_n _ _ _ (by omega)) _).trans R.1) dX7_addInn_21 (zRoad_k0 hro) (zRoad_s0 hro) ?_
    refine z_iconst (v := 1) dX7_addInn_24 (by decide) ?_
    refine z_iaddN (a := i) (b := 1) rfl rfl dX7_addInn_25 ?_
    refine z_putI (j := 0) kX7 lf_X7_30 (by decide) rfl rfl (kX7.2.2.1 0 (by decide)) rfl rfl dX7_addInn_26 (zRoad_k0 hro) (zRoad_s0 hro) ?_
    refine z_vret dX7_addInn_29 zle ?_
    exact zRD.inn R hi n8 r4 rfl

set_option maxRecDepth 100000 in
set_option maxHeartbeats 4000000 in
theorem c_X7_addHour (g : zG) (l : Launch) {M : zM} {ro n r i : Nat} {τ : Dy} (hro : ro ∈ zRoads) {k x t : Int32} (R : dRoad M ro τ n r i) (hn : n < 8) (i6 : i ≤ 6) (r4 : r ≤ 4) : zMet g l yX7_addHour cX7_addHour 4 none 0 0 0 [.ref ro, .int k, .int x, .int t] S0 M (zQv (fun M' => zRD M M' ro (pHour τ n k x t) (n + 1) r i)) := by
  refine zMet.of (by decide) (Nat.le_of_ble_eq_true rfl) ?_
  refine z_aload_n dX7_addHour_0 rfl ?_
  refine z_getIV (j := 1) kX7 lf_X7_34 (by decide) rfl R.2.1 dX7_addHour_1 (zRoad_k0 hro) (zRoad_s0 hro) ?_
  refine z_bipush (v := 8) dX7_addHour_4 (by decide) ?_
  refine z_icmp_ge (tgt := 49) dX7_addHour_6 (by decide) (fun b6 => ?_) (fun b6 => ?_)
  · exact absurd ((nI_leI (a := 8) (by omega) (by omega)).mp b6) (by omega)
  · refine z_aload_n dX7_addHour_9 rfl ?_
    refine z_getR (j := 4) (r := (ro + 2)) kX7 lf_X7_15 (by decide) rfl dX7_addHour_10 (zRoad_k0 hro) (zRoad_s0 hro) (zRoad_r4 hro) (zRoad_l2 hro) ?_
    refine z_aload_n dX7_addHour_13 rfl ?_
    refine z_getIV (j := 1) kX7 lf_X7_34 (by decide) rfl R.2.1 dX7_addHour_14 (zRoad_k0 hro) (zRoad_s0 hro) ?_
    refine z_iload_n dX7_addHour_17 rfl ?_
    refine z_iastN (j := n) rfl (by omega) dX7_addHour_18 (zRoad_k2 hro) (zRoad_s2 hro) ?_
    refine z_aload_n dX7_addHour_19 rfl ?_
    refine z_getR (j := 5) (r := (ro + 3)) kX7 lf_X7_18 (by decide) rfl dX7_addHour_20 (zRoad_k0 hro) (zRoad_s0 hro) (zRoad_r5 hro) (zRoad_l3 hro) ?_
    refine z_aload_n dX7_addHour_23 rfl ?_
    refine z_getIV (j := 1) kX7 lf_X7_34 (by decide) rfl ((congrFun (z_up_n _ _ _ (by omega)) _).trans R.2.1) dX7_addHour_24 (zRoad_k0 hro) (zRoad_s0 hro) ?_
    refine z_iload_n dX7_addHour_27 rfl ?_
    refine z_iastN (j := n) rfl (by omega) dX7_addHour_28 (zRoad_k3 hro) (zRoad_s3 hro) ?_
    refine z_aload_n dX7_addHour_29 rfl ?_
    refine z_getR (j := 6) (r := (ro + 4)) kX7 lf_X7_21 (by decide) rfl dX7_addHour_30 (zRoad_k0 hro) (zRoad_s0 hro) (zRoad_r6 hro) (zRoad_l4 hro) ?_
    refine z_aload_n dX7_addHour_33 rfl ?_
    refine z_getIV (j := 1) kX7 lf_X7_34 (by decide) rfl ((congrFun ((z_up_n _ _ _ (by omega)).trans (z_up_n _ _ _ (by omega))) _).trans R.2.1) dX7_addHour_34 (zRoad_k0 hro) (zRoad_s0 hro) ?_
    refine z_iload_n dX7_addHour_37 rfl ?_
    refine z_iastN (j := n) rfl (by omega) dX7_addHour_38 (zRoad_k4 hro) (zRoad_s4 hro) ?_
    refine z_aload_n dX7_addHour_39 rfl ?_
    refine z_dup dX7_addHour_40 rfl ?_
    refine z_getIV (j := 1) kX7 lf_X7_34 (by decide) rfl ((congrFun ((z_up_n _ _ _ (by omega)).trans ((z_up_n _ _ _ (by omega)).trans (z_up_n _ _ _ (by omega)))) _).trans R.2.1) dX7_addHour_41 (zRoad_k0 hro) (zRoad_s0 hro) ?_
    refine z_iconst (v := 1) dX7_addHour_44 (by decide) ?_
    refine z_iaddN (a := n) (b := 1) rfl rfl dX7_addHour_45 ?_
    refine z_putI (j := 1) kX7 lf_X7_34 (by decide) rfl rfl (kX7.2.2.1 1 (by decide)) rfl rfl dX7_addHour_46 (zRoad_k0 hro) (zRoad_s0 hro) ?_
    refine z_vret dX7_addHour_49 zle ?_
    exact zRD.hour R hn i6 r4 rfl

set_option maxRecDepth 100000 in
set_option maxHeartbeats 4000000 in
theorem c_X7_addRider (g : zG) (l : Launch) {M : zM} {ro n r i : Nat} {τ : Dy} (hro : ro ∈ zRoads) {a c : Int32} (R : dRoad M ro τ n r i) (hr : r < 4) (n8 : n ≤ 8) (i6 : i ≤ 6) : zMet g l yX7_addRider cX7_addRider 3 none 0 0 0 [.ref ro, .int a, .int c] S0 M (zQv (fun M' => zRD M M' ro (pRider τ r a c) n (r + 1) i)) := by
  refine zMet.of (by decide) (Nat.le_of_ble_eq_true rfl) ?_
  refine z_aload_n dX7_addRider_0 rfl ?_
  refine z_getIV (j := 2) kX7 lf_X7_37 (by decide) rfl R.2.2.1 dX7_addRider_1 (zRoad_k0 hro) (zRoad_s0 hro) ?_
  refine z_iconst (v := 4) dX7_addRider_4 (by decide) ?_
  refine z_icmp_ge (tgt := 38) dX7_addRider_5 (by decide) (fun b5 => ?_) (fun b5 => ?_)
  · exact absurd ((nI_leI (a := 4) (by omega) (by omega)).mp b5) (by omega)
  · refine z_aload_n dX7_addRider_8 rfl ?_
    refine z_getR (j := 7) (r := (ro + 5)) kX7 lf_X7_24 (by decide) rfl dX7_addRider_9 (zRoad_k0 hro) (zRoad_s0 hro) (zRoad_r7 hro) (zRoad_l5 hro) ?_
    refine z_aload_n dX7_addRider_12 rfl ?_
    refine z_getIV (j := 2) kX7 lf_X7_37 (by decide) rfl R.2.2.1 dX7_addRider_13 (zRoad_k0 hro) (zRoad_s0 hro) ?_
    refine z_iload_n dX7_addRider_16 rfl ?_
    refine z_iastN (j := r) rfl (by omega) dX7_addRider_17 (zRoad_k5 hro) (zRoad_s5 hro) ?_
    refine z_aload_n dX7_addRider_18 rfl ?_
    refine z_getR (j := 8) (r := (ro + 6)) kX7 lf_X7_27 (by decide) rfl dX7_addRider_19 (zRoad_k0 hro) (zRoad_s0 hro) (zRoad_r8 hro) (zRoad_l6 hro) ?_
    refine z_aload_n dX7_addRider_22 rfl ?_
    refine z_getIV (j := 2) kX7 lf_X7_37 (by decide) rfl ((congrFun (z_up_n _ _ _ (by omega)) _).trans R.2.2.1) dX7_addRider_23 (zRoad_k0 hro) (zRoad_s0 hro) ?_
    refine z_iload_n dX7_addRider_26 rfl ?_
    refine z_iastN (j := r) rfl (by omega) dX7_addRider_27 (zRoad_k6 hro) (zRoad_s6 hro) ?_
    refine z_aload_n dX7_addRider_28 rfl ?_
    refine z_dup dX7_addRider_29 rfl ?_
    refine z_getIV (j := 2) kX7 lf_X7_37 (by decide) rfl ((congrFun ((z_up_n _ _ _ (by omega)).trans (z_up_n _ _ _ (by omega))) _).trans R.2.2.1) dX7_addRider_30 (zRoad_k0 hro) (zRoad_s0 hro) ?_
    refine z_iconst (v := 1) dX7_addRider_33 (by decide) ?_
    refine z_iaddN (a := r) (b := 1) rfl rfl dX7_addRider_34 ?_
    refine z_putI (j := 2) kX7 lf_X7_37 (by decide) rfl rfl (kX7.2.2.1 2 (by decide)) rfl rfl dX7_addRider_35 (zRoad_k0 hro) (zRoad_s0 hro) ?_
    refine z_vret dX7_addRider_38 zle ?_
    exact zRD.rider R hr n8 i6 rfl

