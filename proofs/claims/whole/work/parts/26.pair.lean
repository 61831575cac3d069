/-! ===== the class: Pairing ===== -/
abbrev pP : Type := Bool × Int32 × (Nat → Int32) × (Nat → Int32)
def pFold (f : Nat → pP → pP) : Nat → pP → pP
  | 0, p => p
  | h + 1, p => f h (pFold f h p)
def pGo (σ : Dy) (n : Nat) : Nat → Nat → Int32 → Int32 → pP → pP
  | 0, _, _, sum, p => if p.1 = true ∧ p.2.1 ≤ sum then p else (true, sum, va_cpy p.2.2.2 p.2.2.1 0 0 4, p.2.2.2)
  | k + 1, q, used, sum, p =>
    if p.1 = true ∧ p.2.1 ≤ sum then p
    else if dAt σ q then pGo σ n k (q + 1) used sum (p.1, p.2.1, p.2.2.1, upd p.2.2.2 q (-1))
    else pFold (fun h p => if dMay σ used q h then pGo σ n k (q + 1) (used ||| (1 <<< (nI h &&& 31))) (sum + kTakes (σ (3 + h)) (dMiles σ (σ (51 + q)) (σ (55 + q)))) (p.1, p.2.1, p.2.2.1, upd p.2.2.2 q (nI h)) else p) n p
def zPair (M : zM) (p : pP) : zM := fun k => if k = 106 then upd (upd (M 106) 2 p.2.1) 3 (if p.1 = true then 1 else 0) else if k = 107 then p.2.2.2 else if k = 108 then p.2.2.1 else M k
section ZPAIR
variable {M M2 : zM} {p : pP} {σ : Dy} {n r i : Nat}
theorem zPair_o {k : Nat} (h : k < 106 ∨ 108 < k) : zPair M p k = M k := by
  unfold zPair
  rw [if_neg (by omega), if_neg (by omega), if_neg (by omega)]
theorem zPair_t : zPair M p 107 = p.2.2.2 := rfl
theorem zPair_b : zPair M p 108 = p.2.2.1 := rfl
theorem zPair_f : zPair M p 106 3 = if p.1 = true then 1 else 0 := rfl
theorem zPair_l : zPair M p 106 2 = p.2.1 := rfl
theorem zPair_st {q : Nat} {x : Int32} : z_up (zPair M p) 107 q x = zPair M (p.1, p.2.1, p.2.2.1, upd p.2.2.2 q x) := by
  funext k
  unfold z_up
  by_cases h : k = 107
  · subst h; rw [if_pos rfl]; rfl
  · rw [if_neg h]
    unfold zPair
    rw [if_neg h, if_neg h]
theorem zPair_ac {s : Int32} : z_row (z_up (z_up (zPair M p) 106 3 1) 106 2 s) 108 (va_cpy (z_up (z_up (zPair M p) 106 3 1) 106 2 s 107) (z_up (z_up (zPair M p) 106 3 1) 106 2 s 108) 0 0 4) = zPair M (true, s, va_cpy p.2.2.2 p.2.2.1 0 0 4, p.2.2.2) := by
  funext k
  by_cases h8 : k = 108
  · subst h8; rw [z_row_s, z_up_n _ _ _ (by omega), z_up_n _ _ _ (by omega), z_up_n _ _ _ (by omega), z_up_n _ _ _ (by omega)]; rfl
  · rw [z_row_n _ _ h8]
    by_cases h6 : k = 106
    · subst h6
      rw [z_up_s, z_up_s]
      unfold zPair
      rw [if_pos rfl, if_pos rfl, if_pos rfl]
      funext j
      by_cases j2 : j = 2
      · subst j2; rw [upd_s, upd_n _ _ (by omega), upd_s]
      · rw [upd_n _ _ j2]
        by_cases j3 : j = 3
        · subst j3; rw [upd_s, upd_s]
        · rw [upd_n _ _ j3, upd_n _ _ j3, upd_n _ _ j2, upd_n _ _ j3, upd_n _ _ j2]
    · rw [z_up_n _ _ _ h6, z_up_n _ _ _ h6]
      unfold zPair
      rw [if_neg h6, if_neg h6]
      by_cases h7 : k = 107
      · rw [if_pos h7, if_pos h7]
      · rw [if_neg h7, if_neg h7, if_neg h8, if_neg h8]
theorem zPair_0 : z_up (z_up M 106 3 0) 106 2 0 = zPair M (false, 0, M 108, M 107) := by
  funext k
  unfold zPair
  by_cases h6 : k = 106
  · subst h6
    rw [if_pos rfl, z_up_s, z_up_s]
    funext j
    by_cases j2 : j = 2
    · subst j2; rw [upd_s, upd_n _ _ (by omega), upd_s]
    · rw [upd_n _ _ j2]
      by_cases j3 : j = 3
      · subst j3; rw [upd_s, upd_s]; rfl
      · rw [upd_n _ _ j3, upd_n _ _ j3, upd_n _ _ j2]
  · rw [if_neg h6, z_up_n _ _ _ h6, z_up_n _ _ _ h6]
    by_cases h7 : k = 107
    · subst h7; rfl
    · rw [if_neg h7]
      by_cases h8 : k = 108
      · subst h8; rfl
      · rw [if_neg h8]
theorem dRep.keep {d : Nat} (h : dRep M d σ n r i) (h1 : ∀ k, 1 ≤ k → k < 18 → M2 k = M k) (h2 : ∀ k, d ≤ k → k ≤ d + 6 → M2 k = M k) : dRep M2 d σ n r i := by
  obtain ⟨a1, a2, a3, a4, a5⟩ := h
  refine ⟨a1.keep h1 (fun _ _ => rfl) (fun _ _ => ⟨rfl, rfl⟩), ?_, ?_, fun h hh => ?_, fun q hq => ?_⟩
  · rw [h2 d (by omega) (by omega)]; exact a2
  · rw [h2 d (by omega) (by omega)]; exact a3
  · rw [h2 (d + 1) (by omega) (by omega), h2 (d + 2) (by omega) (by omega), h2 (d + 3) (by omega) (by omega)]; exact a4 h hh
  · rw [h2 (d + 4) (by omega) (by omega), h2 (d + 5) (by omega) (by omega), h2 (d + 6) (by omega) (by omega)]; exact a5 q hq
theorem zPair_R (h : dRep M 18 σ n r i) (p : pP) : zDR (zPair M p) (zPair M p) 18 σ n r i := ⟨h.keep (fun k _ _ => zPair_o (by omega)) (fun k _ _ => zPair_o (by omega)), fun _ _ => rfl⟩
end ZPAIR

set_option maxRecDepth 100000 in
set_option maxHeartbeats 4000000 in
theorem c_X4_accept (g : zG) (l : Launch) {M : zM} {p : pP} {s : Int32} : zMet g l yX4_accept cX4_accept 2 none 1 0 0 [.ref 106, .int s] S0 (zPair M p) (zQv (fun M' => M' = zPair M (true, s, va_cpy p.2.2.2 p.2.2.1 0 0 4, p.2.2.2))) := by
  refine zMet.of (by decide) (Nat.le_of_ble_eq_true rfl) ?_
  refine z_aload_n dX4_accept_0 rfl ?_
  refine z_iconst (v := 1) dX4_accept_1 (by decide) ?_
  refine z_putI (j := 3) kX4 lf_X4_18 (by decide) rfl rfl (kX4.2.2.1 3 (by decide)) rfl rfl dX4_accept_2 k0_106 s0_106 ?_
  refine z_aload_n dX4_accept_5 rfl ?_
  refine z_iload_n dX4_accept_6 rfl ?_
  refine z_putI (j := 2) kX4 lf_X4_22 (by decide) rfl rfl (kX4.2.2.1 2 (by decide)) rfl rfl dX4_accept_7 k0_106 s0_106 ?_
  refine z_aload_n dX4_accept_10 rfl ?_
  refine z_getR (j := 0) (r := 107) kX4 lf_X4_9 (by decide) rfl dX4_accept_11 k0_106 s0_106 r0_106_0 (by decide) ?_
  refine z_iconst (v := 0) dX4_accept_14 (by decide) ?_
  refine z_aload_n dX4_accept_15 rfl ?_
  refine z_getR (j := 1) (r := 108) kX4 lf_X4_15 (by decide) rfl dX4_accept_16 k0_106 s0_106 r0_106_1 (by decide) ?_
  refine z_iconst (v := 0) dX4_accept_19 (by decide) ?_
  refine z_iconst (v := 4) dX4_accept_20 (by decide) ?_
  refine z_copy (a := 0) (b := 0) (m' := 4) lm_X4_79 w_an w_as w_ai (by decide) (Nat.le_of_ble_eq_true rfl) k0_107 s0_107 k0_108 s0_108 rfl rfl rfl (by decide) (by decide) (by decide) (by decide) dX4_accept_21 ?_
  refine z_vret dX4_accept_24 zle ?_
  exact zPair_ac

set_option maxRecDepth 100000 in
set_option maxHeartbeats 4000000 in
theorem c_X4_pairFrom (g : zG) (l : Launch) {M : zM} {σ : Dy} {n r i : Nat} (R : dRep M 18 σ n r i) (ok : dOK σ n r i) : ∀ (k q : Nat) (used sum : Int32) (p : pP), q + k = r → zMet g l yX4_pairFrom cX4_pairFrom 9 none (k + 2) 0 0 [.ref 106, .ref 18, .int (nI q), .int used, .int sum] S0 (zPair M p) (zQv (fun M' => M' = zPair M (pGo σ n k q used sum p))) := by
  have n8 := ok.1.1
  have r4 := ok.1.2.1
  have i6 := ok.1.2.2.1
  intro k
  induction k with
  | zero =>
    intro q used sum p hq
    have Rp := zPair_R R p
    refine zMet.of (by decide) (Nat.le_of_ble_eq_true rfl) ?_
    refine z_aload_n dX4_pairFrom_0 rfl ?_
    refine z_getIV (j := 3) kX4 lf_X4_18 (by decide) rfl zPair_f dX4_pairFrom_1 k0_106 s0_106 ?_
    refine z_if_eq (tgt := 17) dX4_pairFrom_4 (by decide) (fun b4 => ?_) (fun b4 => ?_)
    · have hN : ¬ (p.1 = true ∧ p.2.1 ≤ sum) := fun z => by rw [z.1] at b4; exact absurd b4 (by decide)
      refine z_iload_n dX4_pairFrom_17 rfl ?_
      refine z_aload_n dX4_pairFrom_18 rfl ?_
      refine z_getR (j := 0) (r := 1) kX1 lf_X4_30 (by decide) rfl dX4_pairFrom_19 k0_18 s0_18 r0_18_0 (by decide) ?_
      refine z_getIV (j := 2) kX7 lf_X4_36 (by decide) rfl Rp.1.1.2.2.1 dX4_pairFrom_22 k0_1 s0_1 ?_
      refine z_icmp_ge (tgt := 33) dX4_pairFrom_25 (by decide) (fun b25 => ?_) (fun b25 => ?_)
      · refine z_aload_n dX4_pairFrom_33 rfl ?_
        refine z_iload dX4_pairFrom_34 rfl ?_
        refine z_vV1 (c_X4_accept g l) mw_X4_accept lm_X4_41 mi_X4_accept mv_X4_accept kX4 (by omega) (Nat.le_of_ble_eq_true rfl) zle k0_106 s0_106 dX4_pairFrom_36 (fun M36 q36 => ?_)
        obtain rfl := q36.symm
        refine z_vret dX4_pairFrom_39 zle ?_
        exact (congrArg (zPair M) (if_neg hN)).symm
      · exact absurd (nI_le (by omega) (by omega)) b25
    · have hf : p.1 = true := by
        rcases h : p.1 with _ | _
        · exact absurd (by rw [h]; rfl) b4
        · rfl
      refine z_iload dX4_pairFrom_7 rfl ?_
      refine z_aload_n dX4_pairFrom_9 rfl ?_
      refine z_getIV (j := 2) kX4 lf_X4_22 (by decide) rfl zPair_l dX4_pairFrom_10 k0_106 s0_106 ?_
      refine z_icmp_lt (tgt := 17) dX4_pairFrom_13 (by decide) (fun b13 => ?_) (fun b13 => ?_)
      · have hN : ¬ (p.1 = true ∧ p.2.1 ≤ sum) := fun z => absurd b13 (Int32.not_lt.mpr z.2)
        refine z_iload_n dX4_pairFrom_17 rfl ?_
        refine z_aload_n dX4_pairFrom_18 rfl ?_
        refine z_getR (j := 0) (r := 1) kX1 lf_X4_30 (by decide) rfl dX4_pairFrom_19 k0_18 s0_18 r0_18_0 (by decide) ?_
        refine z_getIV (j := 2) kX7 lf_X4_36 (by decide) rfl Rp.1.1.2.2.1 dX4_pairFrom_22 k0_1 s0_1 ?_
        refine z_icmp_ge (tgt := 33) dX4_pairFrom_25 (by decide) (fun b25 => ?_) (fun b25 => ?_)
        · refine z_aload_n dX4_pairFrom_33 rfl ?_
          refine z_iload dX4_pairFrom_34 rfl ?_
          refine z_vV1 (c_X4_accept g l) mw_X4_accept lm_X4_41 mi_X4_accept mv_X4_accept kX4 (by omega) (Nat.le_of_ble_eq_true rfl) zle k0_106 s0_106 dX4_pairFrom_36 (fun M36 q36 => ?_)
          obtain rfl := q36.symm
          refine z_vret dX4_pairFrom_39 zle ?_
          exact (congrArg (zPair M) (if_neg hN)).symm
        · exact absurd (nI_le (by omega) (by omega)) b25
      · refine z_vret dX4_pairFrom_16 zle ?_
        exact (congrArg (zPair M) (if_pos (c := p.1 = true ∧ p.2.1 ≤ sum) ⟨hf, Int32.not_lt.mp b13⟩)).symm
  | succ k ih =>
    intro q used sum p hq
    have hqr : q < r := by omega
    have Rp := zPair_R R p
    obtain ⟨⟨a, ha, ea⟩, ⟨t, ht, et⟩⟩ := ok.2.2.1 q hqr
    obtain ⟨c, hc, ec⟩ : zIn (dNext (nI a) (nI t)) i := dNext_in ⟨a, ha, rfl⟩ ⟨t, ht, rfl⟩ (by omega)
    refine zMet.of (by decide) (Nat.le_of_ble_eq_true rfl) ?_
    refine z_aload_n dX4_pairFrom_0 rfl ?_
    refine z_getIV (j := 3) kX4 lf_X4_18 (by decide) rfl zPair_f dX4_pairFrom_1 k0_106 s0_106 ?_
    refine z_if_eq (tgt := 17) dX4_pairFrom_4 (by decide) (fun b4 => ?_) (fun b4 => ?_)
    · have hN : ¬ (p.1 = true ∧ p.2.1 ≤ sum) := fun z => by rw [z.1] at b4; exact absurd b4 (by decide)
      refine z_iload_n dX4_pairFrom_17 rfl ?_
      refine z_aload_n dX4_pairFrom_18 rfl ?_
      refine z_getR (j := 0) (r := 1) kX1 lf_X4_30 (by decide) rfl dX4_pairFrom_19 k0_18 s0_18 r0_18_0 (by decide) ?_
      refine z_getIV (j := 2) kX7 lf_X4_36 (by decide) rfl Rp.1.1.2.2.1 dX4_pairFrom_22 k0_1 s0_1 ?_
      refine z_icmp_ge (tgt := 33) dX4_pairFrom_25 (by decide) (fun b25 => ?_) (fun b25 => ?_)
      · exact absurd ((nI_leI (by omega) (by omega)).mp b25) (by omega)
      · refine z_iload_n dX4_pairFrom_28 rfl ?_
        refine z_iconst (v := 4) dX4_pairFrom_29 (by decide) ?_
        refine z_icmp_lt (tgt := 40) dX4_pairFrom_30 (by decide) (fun b30 => ?_) (fun b30 => ?_)
        · refine z_aload_n dX4_pairFrom_40 rfl ?_
          refine z_iload_n dX4_pairFrom_41 rfl ?_
          refine z_iV1 (c_X1_isThere g l (by decide) Rp hqr ⟨n8, r4, i6⟩) mw_X1_isThere lm_X4_45 mi_X1_isThere mv_X1_isThere kX1 (by omega) (Nat.le_of_ble_eq_true rfl) zle k0_18 s0_18 dX4_pairFrom_42 (fun r42 M42 q42 => ?_)
          obtain ⟨qm42, qr42⟩ := q42
          obtain rfl := qm42.symm
          obtain ⟨c42, rfl⟩ | ⟨c42, rfl⟩ := qr42
          · refine z_if_eq (tgt := 67) dX4_pairFrom_45 (by decide) (fun b45 => ?_) (fun b45 => ?_)
            · exact absurd b45 (by decide)
            · refine z_aload_n dX4_pairFrom_48 rfl ?_
              refine z_getR (j := 0) (r := 107) kX4 lf_X4_9 (by decide) rfl dX4_pairFrom_49 k0_106 s0_106 r0_106_0 (by decide) ?_
              refine z_iload_n dX4_pairFrom_52 rfl ?_
              refine z_iconst (v := (-1)) dX4_pairFrom_53 (by decide) ?_
              refine z_iastV (j := q) rfl (by omega) zPair_st dX4_pairFrom_54 k0_107 s0_107 ?_
              refine z_aload_n dX4_pairFrom_55 rfl ?_
              refine z_aload_n dX4_pairFrom_56 rfl ?_
              refine z_iload_n dX4_pairFrom_57 rfl ?_
              refine z_iconst (v := 1) dX4_pairFrom_58 (by decide) ?_
              refine z_iaddN (a := q) (b := 1) rfl rfl dX4_pairFrom_59 ?_
              refine z_iload_n dX4_pairFrom_60 rfl ?_
              refine z_iload dX4_pairFrom_61 rfl ?_
              refine z_vS5 (ih (q + 1) used sum _ (by omega)) mw_X4_pairFrom lm_X4_26 ms_X4_pairFrom (by omega) (Nat.le_of_ble_eq_true rfl) zle dX4_pairFrom_63 (fun M63 q63 => ?_)
              obtain rfl := q63.symm
              refine z_vret dX4_pairFrom_66 zle ?_
              exact (congrArg (zPair M) ((if_neg hN).trans (if_pos c42))).symm
          · refine z_if_eq (tgt := 67) dX4_pairFrom_45 (by decide) (fun b45 => ?_) (fun b45 => ?_)
            · refine z_aload_n dX4_pairFrom_67 rfl ?_
              refine z_getR (j := 6) (r := 22) kX1 lf_X4_49 (by decide) rfl dX4_pairFrom_68 k0_18 s0_18 r0_18_6 (by decide) ?_
              refine z_iload_n dX4_pairFrom_71 rfl ?_
              refine z_ialdV (j := q) rfl (by omega) ((Rp.1.2.2.2.2 q (by omega)).1.trans ea) dX4_pairFrom_72 k0_22 s0_22 ?_
              refine z_istore dX4_pairFrom_73 (by decide) rfl rfl ?_
              refine z_aload_n dX4_pairFrom_75 rfl ?_
              refine z_getR (j := 0) (r := 1) kX1 lf_X4_30 (by decide) rfl dX4_pairFrom_76 k0_18 s0_18 r0_18_0 (by decide) ?_
              refine z_iload dX4_pairFrom_79 rfl ?_
              refine z_iload dX4_pairFrom_81 rfl ?_
              refine z_aload_n dX4_pairFrom_83 rfl ?_
              refine z_getR (j := 7) (r := 23) kX1 lf_X4_52 (by decide) rfl dX4_pairFrom_84 k0_18 s0_18 r0_18_7 (by decide) ?_
              refine z_iload_n dX4_pairFrom_87 rfl ?_
              refine z_ialdV (j := q) rfl (by omega) ((Rp.1.2.2.2.2 q (by omega)).2.1.trans et) dX4_pairFrom_88 k0_23 s0_23 ?_
              refine z_iS2 (c_X7_nextInn g l) mw_X7_nextInn lm_X4_55 ms_X7_nextInn (by omega) (Nat.le_of_ble_eq_true rfl) zle dX4_pairFrom_89 (fun r89 M89 q89 => ?_)
              obtain ⟨qr89, qm89⟩ := q89
              obtain rfl := qr89.symm
              obtain rfl := qm89.symm
              rw [ec]
              refine z_iV2 (c_X7_milesBetween g l (ro := 1) (by decide) i6 Rp.1.1.1 ha hc rfl) mw_X7_milesBetween lm_X4_59 mi_X7_milesBetween mv_X7_milesBetween kX7 (by omega) (Nat.le_of_ble_eq_true rfl) zle k0_1 s0_1 dX4_pairFrom_92 (fun r92 M92 q92 => ?_)
              obtain ⟨qr92, qm92⟩ := q92
              obtain rfl := qr92.symm
              obtain rfl := qm92.symm
              refine z_as (x' := dMiles σ (nI a) (nI t)) ((Rp.1.1.2.2.2.1 _ (by split <;> assumption)).trans (by unfold dMiles; rw [dMid (by omega) (by omega) (by omega) ec])) ?_
              refine z_istore dX4_pairFrom_95 (by decide) rfl rfl ?_
              refine z_iload_n dX4_pairFrom_97 rfl ?_
              refine z_aload_n dX4_pairFrom_98 rfl ?_
              refine z_getI (j := 5) kX1 lf_X4_62 (by decide) rfl dX4_pairFrom_99 k0_18 s0_18 ?_
              refine z_ior dX4_pairFrom_102 ?_
              refine z_istore dX4_pairFrom_103 (by decide) rfl rfl ?_
              refine z_iconst (v := 0) dX4_pairFrom_105 (by decide) ?_
              refine z_istore dX4_pairFrom_106 (by decide) rfl rfl ?_
              have hloop : ∀ (j h : Nat), h ≤ n → n - h < j → zA g l yX4_pairFrom cX4_pairFrom 9 none (k + 1 + 2) 0 0 (zQv (fun M' => M' = zPair M (pGo σ n (k + 1) q used sum p))) 108 0 0 S0 (zPair M (pFold (fun h p => if dMay σ used q h then pGo σ n k (q + 1) (used ||| (1 <<< (nI h &&& 31))) (sum + kTakes (σ (3 + h)) (dMiles σ (σ (51 + q)) (σ (55 + q)))) (p.1, p.2.1, p.2.2.1, upd p.2.2.2 q (nI h)) else p) h p)) [.ref 106, .ref 18, .int (nI q), .int used, .int sum, .int (nI a), .int (dMiles σ (nI a) (nI t)), .int (used ||| M 18 5), .int (nI h)] [] := by
                intro j
                induction j with
                | zero => intro h hh hj; exact absurd hj (Nat.not_lt_zero _)
                | succ j jh =>
                  intro h hh hj
                  have Rq := zPair_R R (pFold (fun h p => if dMay σ used q h then pGo σ n k (q + 1) (used ||| (1 <<< (nI h &&& 31))) (sum + kTakes (σ (3 + h)) (dMiles σ (σ (51 + q)) (σ (55 + q)))) (p.1, p.2.1, p.2.2.1, upd p.2.2.2 q (nI h)) else p) h p)
                  refine z_iload dX4_pairFrom_108 rfl ?_
                  refine z_aload_n dX4_pairFrom_110 rfl ?_
                  refine z_getR (j := 0) (r := 1) kX1 lf_X4_30 (by decide) rfl dX4_pairFrom_111 k0_18 s0_18 r0_18_0 (by decide) ?_
                  refine z_getIV (j := 1) kX7 lf_X4_65 (by decide) rfl Rq.1.1.2.1 dX4_pairFrom_114 k0_1 s0_1 ?_
                  refine z_icmp_ge (tgt := 188) dX4_pairFrom_117 (by decide) (fun b117 => ?_) (fun b117 => ?_)
                  · have e : n ≤ h := (nI_leI (by omega) (by omega)).mp b117
                    have e2 : h = n := by omega
                    subst e2
                    refine z_vret dX4_pairFrom_188 zle ?_
                    exact (congrArg (zPair M) ((if_neg hN).trans (if_neg c42))).symm
                  · have hn : h < n := by
                      rcases Nat.lt_or_ge h n with z | z
                      · exact z
                      · exact absurd (nI_le z (by omega)) b117
                    refine z_aload_n dX4_pairFrom_120 rfl ?_
                    refine z_getR (j := 2) (r := 19) kX1 lf_X4_68 (by decide) rfl dX4_pairFrom_121 k0_18 s0_18 r0_18_2 (by decide) ?_
                    refine z_iload dX4_pairFrom_124 rfl ?_
                    refine z_ialdV (j := h) rfl (by omega) (Rq.1.2.2.2.1 h (by omega)).1 dX4_pairFrom_126 k0_19 s0_19 ?_
                    refine z_iload dX4_pairFrom_127 rfl ?_
                    refine z_icmp_ne (tgt := 182) dX4_pairFrom_129 (by decide) (fun b129 => ?_) (fun b129 => ?_)
                    · refine z_iincN (k := h) dX4_pairFrom_182 rfl rfl (by decide) rfl rfl ?_
                      refine z_goto (tgt := 108) dX4_pairFrom_185 (by decide) ?_
                      have e9 : pFold (fun h p => if dMay σ used q h then pGo σ n k (q + 1) (used ||| (1 <<< (nI h &&& 31))) (sum + kTakes (σ (3 + h)) (dMiles σ (σ (51 + q)) (σ (55 + q)))) (p.1, p.2.1, p.2.2.1, upd p.2.2.2 q (nI h)) else p) (h + 1) p = (fun h p => if dMay σ used q h then pGo σ n k (q + 1) (used ||| (1 <<< (nI h &&& 31))) (sum + kTakes (σ (3 + h)) (dMiles σ (σ (51 + q)) (σ (55 + q)))) (p.1, p.2.1, p.2.2.1, upd p.2.2.2 q (nI h)) else p) h (pFold (fun h p => if dMay σ used q h then pGo σ n k (q + 1) (used ||| (1 <<< (nI h &&& 31))) (sum + kTakes (σ (3 + h)) (dMiles σ (σ (51 + q)) (σ (55 + q)))) (p.1, p.2.1, p.2.2.1, upd p.2.2.2 q (nI h)) else p) h p) := rfl
                      have h0 := jh (h + 1) (by omega) (by omega)
                      rw [e9] at h0
                      first
                        | (have e8 : (fun h p => if dMay σ used q h then pGo σ n k (q + 1) (used ||| (1 <<< (nI h &&& 31))) (sum + kTakes (σ (3 + h)) (dMiles σ (σ (51 + q)) (σ (55 + q)))) (p.1, p.2.1, p.2.2.1, upd p.2.2.2 q (nI h)) else p) h (pFold (fun h p => if dMay σ used q h then pGo σ n k (q + 1) (used ||| (1 <<< (nI h &&& 31))) (sum + kTakes (σ (3 + h)) (dMiles σ (σ (51 + q)) (σ (55 + q)))) (p.1, p.2.1, p.2.2.1, upd p.2.2.2 q (nI h)) else p) h p) = pGo σ n k (q + 1) (used ||| (1 <<< (nI h &&& 31))) (sum + kTakes (σ (3 + h)) (dMiles σ (σ (51 + q)) (σ (55 + q)))) ((pFold (fun h p => if dMay σ used q h then pGo σ n k (q + 1) (used ||| (1 <<< (nI h &&& 31))) (sum + kTakes (σ (3 + h)) (dMiles σ (σ (51 + q)) (σ (55 + q)))) (p.1, p.2.1, p.2.2.1, upd p.2.2.2 q (nI h)) else p) h p).1, (pFold (fun h p => if dMay σ used q h then pGo σ n k (q + 1) (used ||| (1 <<< (nI h &&& 31))) (sum + kTakes (σ (3 + h)) (dMiles σ (σ (51 + q)) (σ (55 + q)))) (p.1, p.2.1, p.2.2.1, upd p.2.2.2 q (nI h)) else p) h p).2.1, (pFold (fun h p => if dMay σ used q h then pGo σ n k (q + 1) (used ||| (1 <<< (nI h &&& 31))) (sum + kTakes (σ (3 + h)) (dMiles σ (σ (51 + q)) (σ (55 + q)))) (p.1, p.2.1, p.2.2.1, upd p.2.2.2 q (nI h)) else p) h p).2.2.1, upd (pFold (fun h p => if dMay σ used q h then pGo σ n k (q + 1) (used ||| (1 <<< (nI h &&& 31))) (sum + kTakes (σ (3 + h)) (dMiles σ (σ (51 + q)) (σ (55 + q)))) (p.1, p.2.1, p.2.2.1, upd p.2.2.2 q (nI h)) else p) h p).2.2.2 q (nI h)) := if_pos ⟨b129.trans ea.symm, (dBar ok R.2.2.1 hn used).mp b139⟩
                           rw [e8] at h0
                           exact h0)
                        | (have e8 : (fun h p => if dMay σ used q h then pGo σ n k (q + 1) (used ||| (1 <<< (nI h &&& 31))) (sum + kTakes (σ (3 + h)) (dMiles σ (σ (51 + q)) (σ (55 + q)))) (p.1, p.2.1, p.2.2.1, upd p.2.2.2 q (nI h)) else p) h (pFold (fun h p => if dMay σ used q h then pGo σ n k (q + 1) (used ||| (1 <<< (nI h &&& 31))) (sum + kTakes (σ (3 + h)) (dMiles σ (σ (51 + q)) (σ (55 + q)))) (p.1, p.2.1, p.2.2.1, upd p.2.2.2 q (nI h)) else p) h p) = pFold (fun h p => if dMay σ used q h then pGo σ n k (q + 1) (used ||| (1 <<< (nI h &&& 31))) (sum + kTakes (σ (3 + h)) (dMiles σ (σ (51 + q)) (σ (55 + q)))) (p.1, p.2.1, p.2.2.1, upd p.2.2.2 q (nI h)) else p) h p := if_neg (fun z => b129 (z.1.trans ea))
                           rw [e8] at h0
                           exact h0)
                        | (have e8 : (fun h p => if dMay σ used q h then pGo σ n k (q + 1) (used ||| (1 <<< (nI h &&& 31))) (sum + kTakes (σ (3 + h)) (dMiles σ (σ (51 + q)) (σ (55 + q)))) (p.1, p.2.1, p.2.2.1, upd p.2.2.2 q (nI h)) else p) h (pFold (fun h p => if dMay σ used q h then pGo σ n k (q + 1) (used ||| (1 <<< (nI h &&& 31))) (sum + kTakes (σ (3 + h)) (dMiles σ (σ (51 + q)) (σ (55 + q)))) (p.1, p.2.1, p.2.2.1, upd p.2.2.2 q (nI h)) else p) h p) = pFold (fun h p => if dMay σ used q h then pGo σ n k (q + 1) (used ||| (1 <<< (nI h &&& 31))) (sum + kTakes (σ (3 + h)) (dMiles σ (σ (51 + q)) (σ (55 + q)))) (p.1, p.2.1, p.2.2.1, upd p.2.2.2 q (nI h)) else p) h p := if_neg (fun z => b139 ((dBar ok R.2.2.1 hn used).mpr z.2))
                           rw [e8] at h0
                           exact h0)
                    · refine z_iload dX4_pairFrom_132 rfl ?_
                      refine z_iload dX4_pairFrom_134 rfl ?_
                      refine z_ishr dX4_pairFrom_136 ?_
                      refine z_iconst (v := 1) dX4_pairFrom_137 (by decide) ?_
                      refine z_iand dX4_pairFrom_138 ?_
                      refine z_if_ne (tgt := 182) dX4_pairFrom_139 (by decide) (fun b139 => ?_) (fun b139 => ?_)
                      · refine z_iincN (k := h) dX4_pairFrom_182 rfl rfl (by decide) rfl rfl ?_
                        refine z_goto (tgt := 108) dX4_pairFrom_185 (by decide) ?_
                        have e9 : pFold (fun h p => if dMay σ used q h then pGo σ n k (q + 1) (used ||| (1 <<< (nI h &&& 31))) (sum + kTakes (σ (3 + h)) (dMiles σ (σ (51 + q)) (σ (55 + q)))) (p.1, p.2.1, p.2.2.1, upd p.2.2.2 q (nI h)) else p) (h + 1) p = (fun h p => if dMay σ used q h then pGo σ n k (q + 1) (used ||| (1 <<< (nI h &&& 31))) (sum + kTakes (σ (3 + h)) (dMiles σ (σ (51 + q)) (σ (55 + q)))) (p.1, p.2.1, p.2.2.1, upd p.2.2.2 q (nI h)) else p) h (pFold (fun h p => if dMay σ used q h then pGo σ n k (q + 1) (used ||| (1 <<< (nI h &&& 31))) (sum + kTakes (σ (3 + h)) (dMiles σ (σ (51 + q)) (σ (55 + q)))) (p.1, p.2.1, p.2.2.1, upd p.2.2.2 q (nI h)) else p) h p) := rfl
                        have h0 := jh (h + 1) (by omega) (by omega)
                        rw [e9] at h0
                        first
                          | (have e8 : (fun h p => if dMay σ used q h then pGo σ n k (q + 1) (used ||| (1 <<< (nI h &&& 31))) (sum + kTakes (σ (3 + h)) (dMiles σ (σ (51 + q)) (σ (55 + q)))) (p.1, p.2.1, p.2.2.1, upd p.2.2.2 q (nI h)) else p) h (pFold (fun h p => if dMay σ used q h then pGo σ n k (q + 1) (used ||| (1 <<< (nI h &&& 31))) (sum + kTakes (σ (3 + h)) (dMiles σ (σ (51 + q)) (σ (55 + q)))) (p.1, p.2.1, p.2.2.1, upd p.2.2.2 q (nI h)) else p) h p) = pGo σ n k (q + 1) (used ||| (1 <<< (nI h &&& 31))) (sum + kTakes (σ (3 + h)) (dMiles σ (σ (51 + q)) (σ (55 + q)))) ((pFold (fun h p => if dMay σ used q h then pGo σ n k (q + 1) (used ||| (1 <<< (nI h &&& 31))) (sum + kTakes (σ (3 + h)) (dMiles σ (σ (51 + q)) (σ (55 + q)))) (p.1, p.2.1, p.2.2.1, upd p.2.2.2 q (nI h)) else p) h p).1, (pFold (fun h p => if dMay σ used q h then pGo σ n k (q + 1) (used ||| (1 <<< (nI h &&& 31))) (sum + kTakes (σ (3 + h)) (dMiles σ (σ (51 + q)) (σ (55 + q)))) (p.1, p.2.1, p.2.2.1, upd p.2.2.2 q (nI h)) else p) h p).2.1, (pFold (fun h p => if dMay σ used q h then pGo σ n k (q + 1) (used ||| (1 <<< (nI h &&& 31))) (sum + kTakes (σ (3 + h)) (dMiles σ (σ (51 + q)) (σ (55 + q)))) (p.1, p.2.1, p.2.2.1, upd p.2.2.2 q (nI h)) else p) h p).2.2.1, upd (pFold (fun h p => if dMay σ used q h then pGo σ n k (q + 1) (used ||| (1 <<< (nI h &&& 31))) (sum + kTakes (σ (3 + h)) (dMiles σ (σ (51 + q)) (σ (55 + q)))) (p.1, p.2.1, p.2.2.1, upd p.2.2.2 q (nI h)) else p) h p).2.2.2 q (nI h)) := if_pos ⟨b129.trans ea.symm, (dBar ok R.2.2.1 hn used).mp b139⟩
                             rw [e8] at h0
                             exact h0)
                          | (have e8 : (fun h p => if dMay σ used q h then pGo σ n k (q + 1) (used ||| (1 <<< (nI h &&& 31))) (sum + kTakes (σ (3 + h)) (dMiles σ (σ (51 + q)) (σ (55 + q)))) (p.1, p.2.1, p.2.2.1, upd p.2.2.2 q (nI h)) else p) h (pFold (fun h p => if dMay σ used q h then pGo σ n k (q + 1) (used ||| (1 <<< (nI h &&& 31))) (sum + kTakes (σ (3 + h)) (dMiles σ (σ (51 + q)) (σ (55 + q)))) (p.1, p.2.1, p.2.2.1, upd p.2.2.2 q (nI h)) else p) h p) = pFold (fun h p => if dMay σ used q h then pGo σ n k (q + 1) (used ||| (1 <<< (nI h &&& 31))) (sum + kTakes (σ (3 + h)) (dMiles σ (σ (51 + q)) (σ (55 + q)))) (p.1, p.2.1, p.2.2.1, upd p.2.2.2 q (nI h)) else p) h p := if_neg (fun z => b129 (z.1.trans ea))
                             rw [e8] at h0
                             exact h0)
                          | (have e8 : (fun h p => if dMay σ used q h then pGo σ n k (q + 1) (used ||| (1 <<< (nI h &&& 31))) (sum + kTakes (σ (3 + h)) (dMiles σ (σ (51 + q)) (σ (55 + q)))) (p.1, p.2.1, p.2.2.1, upd p.2.2.2 q (nI h)) else p) h (pFold (fun h p => if dMay σ used q h then pGo σ n k (q + 1) (used ||| (1 <<< (nI h &&& 31))) (sum + kTakes (σ (3 + h)) (dMiles σ (σ (51 + q)) (σ (55 + q)))) (p.1, p.2.1, p.2.2.1, upd p.2.2.2 q (nI h)) else p) h p) = pFold (fun h p => if dMay σ used q h then pGo σ n k (q + 1) (used ||| (1 <<< (nI h &&& 31))) (sum + kTakes (σ (3 + h)) (dMiles σ (σ (51 + q)) (σ (55 + q)))) (p.1, p.2.1, p.2.2.1, upd p.2.2.2 q (nI h)) else p) h p := if_neg (fun z => b139 ((dBar ok R.2.2.1 hn used).mpr z.2))
                             rw [e8] at h0
                             exact h0)
                      · refine z_aload_n dX4_pairFrom_142 rfl ?_
                        refine z_getR (j := 0) (r := 107) kX4 lf_X4_9 (by decide) rfl dX4_pairFrom_143 k0_106 s0_106 r0_106_0 (by decide) ?_
                        refine z_iload_n dX4_pairFrom_146 rfl ?_
                        refine z_iload dX4_pairFrom_147 rfl ?_
                        refine z_iastV (j := q) rfl (by omega) zPair_st dX4_pairFrom_149 k0_107 s0_107 ?_
                        refine z_aload_n dX4_pairFrom_150 rfl ?_
                        refine z_aload_n dX4_pairFrom_151 rfl ?_
                        refine z_iload_n dX4_pairFrom_152 rfl ?_
                        refine z_iconst (v := 1) dX4_pairFrom_153 (by decide) ?_
                        refine z_iaddN (a := q) (b := 1) rfl rfl dX4_pairFrom_154 ?_
                        refine z_iload_n dX4_pairFrom_155 rfl ?_
                        refine z_iconst (v := 1) dX4_pairFrom_156 (by decide) ?_
                        refine z_iload dX4_pairFrom_157 rfl ?_
                        refine z_ishl dX4_pairFrom_159 ?_
                        refine z_ior dX4_pairFrom_160 ?_
                        refine z_iload dX4_pairFrom_161 rfl ?_
                        refine z_aload_n dX4_pairFrom_163 rfl ?_
                        refine z_getR (j := 0) (r := 1) kX1 lf_X4_30 (by decide) rfl dX4_pairFrom_164 k0_18 s0_18 r0_18_0 (by decide) ?_
                        refine z_getR (j := 4) (r := 3) kX7 lf_X4_71 (by decide) rfl dX4_pairFrom_167 k0_1 s0_1 r0_1_4 (by decide) ?_
                        refine z_iload dX4_pairFrom_170 rfl ?_
                        refine z_ialdV (j := h) rfl (by omega) (Rq.1.1.2.2.2.2 h (by omega)).1 dX4_pairFrom_172 k0_3 s0_3 ?_
                        refine z_iload dX4_pairFrom_173 rfl ?_
                        refine z_iS2 (c_X2_takes g l) mw_X2_takes lm_X4_74 ms_X2_takes (by omega) (Nat.le_of_ble_eq_true rfl) zle dX4_pairFrom_175 (fun r175 M175 q175 => ?_)
                        obtain ⟨qr175, qm175⟩ := q175
                        obtain rfl := qr175.symm
                        obtain rfl := qm175.symm
                        refine z_as (x' := kTakes (σ (3 + h)) (dMiles σ (σ (51 + q)) (σ (55 + q)))) (by rw [ea, et]) ?_
                        refine z_iadd dX4_pairFrom_178 ?_
                        refine z_vS5 (ih (q + 1) _ _ _ (by omega)) mw_X4_pairFrom lm_X4_26 ms_X4_pairFrom (by omega) (Nat.le_of_ble_eq_true rfl) zle dX4_pairFrom_179 (fun M179 q179 => ?_)
                        obtain rfl := q179.symm
                        refine z_iincN (k := h) dX4_pairFrom_182 rfl rfl (by decide) rfl rfl ?_
                        refine z_goto (tgt := 108) dX4_pairFrom_185 (by decide) ?_
                        have e9 : pFold (fun h p => if dMay σ used q h then pGo σ n k (q + 1) (used ||| (1 <<< (nI h &&& 31))) (sum + kTakes (σ (3 + h)) (dMiles σ (σ (51 + q)) (σ (55 + q)))) (p.1, p.2.1, p.2.2.1, upd p.2.2.2 q (nI h)) else p) (h + 1) p = (fun h p => if dMay σ used q h then pGo σ n k (q + 1) (used ||| (1 <<< (nI h &&& 31))) (sum + kTakes (σ (3 + h)) (dMiles σ (σ (51 + q)) (σ (55 + q)))) (p.1, p.2.1, p.2.2.1, upd p.2.2.2 q (nI h)) else p) h (pFold (fun h p => if dMay σ used q h then pGo σ n k (q + 1) (used ||| (1 <<< (nI h &&& 31))) (sum + kTakes (σ (3 + h)) (dMiles σ (σ (51 + q)) (σ (55 + q)))) (p.1, p.2.1, p.2.2.1, upd p.2.2.2 q (nI h)) else p) h p) := rfl
                        have h0 := jh (h + 1) (by omega) (by omega)
                        rw [e9] at h0
                        first
                          | (have e8 : (fun h p => if dMay σ used q h then pGo σ n k (q + 1) (used ||| (1 <<< (nI h &&& 31))) (sum + kTakes (σ (3 + h)) (dMiles σ (σ (51 + q)) (σ (55 + q)))) (p.1, p.2.1, p.2.2.1, upd p.2.2.2 q (nI h)) else p) h (pFold (fun h p => if dMay σ used q h then pGo σ n k (q + 1) (used ||| (1 <<< (nI h &&& 31))) (sum + kTakes (σ (3 + h)) (dMiles σ (σ (51 + q)) (σ (55 + q)))) (p.1, p.2.1, p.2.2.1, upd p.2.2.2 q (nI h)) else p) h p) = pGo σ n k (q + 1) (used ||| (1 <<< (nI h &&& 31))) (sum + kTakes (σ (3 + h)) (dMiles σ (σ (51 + q)) (σ (55 + q)))) ((pFold (fun h p => if dMay σ used q h then pGo σ n k (q + 1) (used ||| (1 <<< (nI h &&& 31))) (sum + kTakes (σ (3 + h)) (dMiles σ (σ (51 + q)) (σ (55 + q)))) (p.1, p.2.1, p.2.2.1, upd p.2.2.2 q (nI h)) else p) h p).1, (pFold (fun h p => if dMay σ used q h then pGo σ n k (q + 1) (used ||| (1 <<< (nI h &&& 31))) (sum + kTakes (σ (3 + h)) (dMiles σ (σ (51 + q)) (σ (55 + q)))) (p.1, p.2.1, p.2.2.1, upd p.2.2.2 q (nI h)) else p) h p).2.1, (pFold (fun h p => if dMay σ used q h then pGo σ n k (q + 1) (used ||| (1 <<< (nI h &&& 31))) (sum + kTakes (σ (3 + h)) (dMiles σ (σ (51 + q)) (σ (55 + q)))) (p.1, p.2.1, p.2.2.1, upd p.2.2.2 q (nI h)) else p) h p).2.2.1, upd (pFold (fun h p => if dMay σ used q h then pGo σ n k (q + 1) (used ||| (1 <<< (nI h &&& 31))) (sum + kTakes (σ (3 + h)) (dMiles σ (σ (51 + q)) (σ (55 + q)))) (p.1, p.2.1, p.2.2.1, upd p.2.2.2 q (nI h)) else p) h p).2.2.2 q (nI h)) := if_pos ⟨b129.trans ea.symm, (dBar ok R.2.2.1 hn used).mp b139⟩
                             rw [e8] at h0
                             exact h0)
                          | (have e8 : (fun h p => if dMay σ used q h then pGo σ n k (q + 1) (used ||| (1 <<< (nI h &&& 31))) (sum + kTakes (σ (3 + h)) (dMiles σ (σ (51 + q)) (σ (55 + q)))) (p.1, p.2.1, p.2.2.1, upd p.2.2.2 q (nI h)) else p) h (pFold (fun h p => if dMay σ used q h then pGo σ n k (q + 1) (used ||| (1 <<< (nI h &&& 31))) (sum + kTakes (σ (3 + h)) (dMiles σ (σ (51 + q)) (σ (55 + q)))) (p.1, p.2.1, p.2.2.1, upd p.2.2.2 q (nI h)) else p) h p) = pFold (fun h p => if dMay σ used q h then pGo σ n k (q + 1) (used ||| (1 <<< (nI h &&& 31))) (sum + kTakes (σ (3 + h)) (dMiles σ (σ (51 + q)) (σ (55 + q)))) (p.1, p.2.1, p.2.2.1, upd p.2.2.2 q (nI h)) else p) h p := if_neg (fun z => b129 (z.1.trans ea))
                             rw [e8] at h0
                             exact h0)
                          | (have e8 : (fun h p => if dMay σ used q h then pGo σ n k (q + 1) (used ||| (1 <<< (nI h &&& 31))) (sum + kTakes (σ (3 + h)) (dMiles σ (σ (51 + q)) (σ (55 + q)))) (p.1, p.2.1, p.2.2.1, upd p.2.2.2 q (nI h)) else p) h (pFold (fun h p => if dMay σ used q h then pGo σ n k (q + 1) (used ||| (1 <<< (nI h &&& 31))) (sum + kTakes (σ (3 + h)) (dMiles σ (σ (51 + q)) (σ (55 + q)))) (p.1, p.2.1, p.2.2.1, upd p.2.2.2 q (nI h)) else p) h p) = pFold (fun h p => if dMay σ used q h then pGo σ n k (q + 1) (used ||| (1 <<< (nI h &&& 31))) (sum + kTakes (σ (3 + h)) (dMiles σ (σ (51 + q)) (σ (55 + q)))) (p.1, p.2.1, p.2.2.1, upd p.2.2.2 q (nI h)) else p) h p := if_neg (fun z => b139 ((dBar ok R.2.2.1 hn used).mpr z.2))
                             rw [e8] at h0
                             exact h0)
              exact hloop (n + 1) 0 (Nat.zero_le _) (by omega)
            · exact absurd b45 (by decide)
        · exact absurd (show nI q < nI 4 from nI_lt (by omega) (by omega)) b30
    · have hf : p.1 = true := by
        rcases h : p.1 with _ | _
        · exact absurd (by rw [h]; rfl) b4
        · rfl
      refine z_iload dX4_pairFrom_7 rfl ?_
      refine z_aload_n dX4_pairFrom_9 rfl ?_
      refine z_getIV (j := 2) kX4 lf_X4_22 (by decide) rfl zPair_l dX4_pairFrom_10 k0_106 s0_106 ?_
      refine z_icmp_lt (tgt := 17) dX4_pairFrom_13 (by decide) (fun b13 => ?_) (fun b13 => ?_)
      · have hN : ¬ (p.1 = true ∧ p.2.1 ≤ sum) := fun z => absurd b13 (Int32.not_lt.mpr z.2)
        refine z_iload_n dX4_pairFrom_17 rfl ?_
        refine z_aload_n dX4_pairFrom_18 rfl ?_
        refine z_getR (j := 0) (r := 1) kX1 lf_X4_30 (by decide) rfl dX4_pairFrom_19 k0_18 s0_18 r0_18_0 (by decide) ?_
        refine z_getIV (j := 2) kX7 lf_X4_36 (by decide) rfl Rp.1.1.2.2.1 dX4_pairFrom_22 k0_1 s0_1 ?_
        refine z_icmp_ge (tgt := 33) dX4_pairFrom_25 (by decide) (fun b25 => ?_) (fun b25 => ?_)
        · exact absurd ((nI_leI (by omega) (by omega)).mp b25) (by omega)
        · refine z_iload_n dX4_pairFrom_28 rfl ?_
          refine z_iconst (v := 4) dX4_pairFrom_29 (by decide) ?_
          refine z_icmp_lt (tgt := 40) dX4_pairFrom_30 (by decide) (fun b30 => ?_) (fun b30 => ?_)
          · refine z_aload_n dX4_pairFrom_40 rfl ?_
            refine z_iload_n dX4_pairFrom_41 rfl ?_
            refine z_iV1 (c_X1_isThere g l (by decide) Rp hqr ⟨n8, r4, i6⟩) mw_X1_isThere lm_X4_45 mi_X1_isThere mv_X1_isThere kX1 (by omega) (Nat.le_of_ble_eq_true rfl) zle k0_18 s0_18 dX4_pairFrom_42 (fun r42 M42 q42 => ?_)
            obtain ⟨qm42, qr42⟩ := q42
            obtain rfl := qm42.symm
            obtain ⟨c42, rfl⟩ | ⟨c42, rfl⟩ := qr42
            · refine z_if_eq (tgt := 67) dX4_pairFrom_45 (by decide) (fun b45 => ?_) (fun b45 => ?_)
              · exact absurd b45 (by decide)
              · refine z_aload_n dX4_pairFrom_48 rfl ?_
                refine z_getR (j := 0) (r := 107) kX4 lf_X4_9 (by decide) rfl dX4_pairFrom_49 k0_106 s0_106 r0_106_0 (by decide) ?_
                refine z_iload_n dX4_pairFrom_52 rfl ?_
                refine z_iconst (v := (-1)) dX4_pairFrom_53 (by decide) ?_
                refine z_iastV (j := q) rfl (by omega) zPair_st dX4_pairFrom_54 k0_107 s0_107 ?_
                refine z_aload_n dX4_pairFrom_55 rfl ?_
                refine z_aload_n dX4_pairFrom_56 rfl ?_
                refine z_iload_n dX4_pairFrom_57 rfl ?_
                refine z_iconst (v := 1) dX4_pairFrom_58 (by decide) ?_
                refine z_iaddN (a := q) (b := 1) rfl rfl dX4_pairFrom_59 ?_
                refine z_iload_n dX4_pairFrom_60 rfl ?_
                refine z_iload dX4_pairFrom_61 rfl ?_
                refine z_vS5 (ih (q + 1) used sum _ (by omega)) mw_X4_pairFrom lm_X4_26 ms_X4_pairFrom (by omega) (Nat.le_of_ble_eq_true rfl) zle dX4_pairFrom_63 (fun M63 q63 => ?_)
                obtain rfl := q63.symm
                refine z_vret dX4_pairFrom_66 zle ?_
                exact (congrArg (zPair M) ((if_neg hN).trans (if_pos c42))).symm
            · refine z_if_eq (tgt := 67) dX4_pairFrom_45 (by decide) (fun b45 => ?_) (fun b45 => ?_)
              · refine z_aload_n dX4_pairFrom_67 rfl ?_
                refine z_getR (j := 6) (r := 22) kX1 lf_X4_49 (by decide) rfl dX4_pairFrom_68 k0_18 s0_18 r0_18_6 (by decide) ?_
                refine z_iload_n dX4_pairFrom_71 rfl ?_
                refine z_ialdV (j := q) rfl (by omega) ((Rp.1.2.2.2.2 q (by omega)).1.trans ea) dX4_pairFrom_72 k0_22 s0_22 ?_
                refine z_istore dX4_pairFrom_73 (by decide) rfl rfl ?_
                refine z_aload_n dX4_pairFrom_75 rfl ?_
                refine z_getR (j := 0) (r := 1) kX1 lf_X4_30 (by decide) rfl dX4_pairFrom_76 k0_18 s0_18 r0_18_0 (by decide) ?_
                refine z_iload dX4_pairFrom_79 rfl ?_
                refine z_iload dX4_pairFrom_81 rfl ?_
                refine z_aload_n dX4_pairFrom_83 rfl ?_
                refine z_getR (j := 7) (r := 23) kX1 lf_X4_52 (by decide) rfl dX4_pairFrom_84 k0_18 s0_18 r0_18_7 (by decide) ?_
                refine z_iload_n dX4_pairFrom_87 rfl ?_
                refine z_ialdV (j := q) rfl (by omega) ((Rp.1.2.2.2.2 q (by omega)).2.1.trans et) dX4_pairFrom_88 k0_23 s0_23 ?_
                refine z_iS2 (c_X7_nextInn g l) mw_X7_nextInn lm_X4_55 ms_X7_nextInn (by omega) (Nat.le_of_ble_eq_true rfl) zle dX4_pairFrom_89 (fun r89 M89 q89 => ?_)
                obtain ⟨qr89, qm89⟩ := q89
                obtain rfl := qr89.symm
                obtain rfl := qm89.symm
                rw [ec]
                refine z_iV2 (c_X7_milesBetween g l (ro := 1) (by decide) i6 Rp.1.1.1 ha hc rfl) mw_X7_milesBetween lm_X4_59 mi_X7_milesBetween mv_X7_milesBetween kX7 (by omega) (Nat.le_of_ble_eq_true rfl) zle k0_1 s0_1 dX4_pairFrom_92 (fun r92 M92 q92 => ?_)
                obtain ⟨qr92, qm92⟩ := q92
                obtain rfl := qr92.symm
                obtain rfl := qm92.symm
                refine z_as (x' := dMiles σ (nI a) (nI t)) ((Rp.1.1.2.2.2.1 _ (by split <;> assumption)).trans (by unfold dMiles; rw [dMid (by omega) (by omega) (by omega) ec])) ?_
                refine z_istore dX4_pairFrom_95 (by decide) rfl rfl ?_
                refine z_iload_n dX4_pairFrom_97 rfl ?_
                refine z_aload_n dX4_pairFrom_98 rfl ?_
                refine z_getI (j := 5) kX1 lf_X4_62 (by decide) rfl dX4_pairFrom_99 k0_18 s0_18 ?_
                refine z_ior dX4_pairFrom_102 ?_
                refine z_istore dX4_pairFrom_103 (by decide) rfl rfl ?_
                refine z_iconst (v := 0) dX4_pairFrom_105 (by decide) ?_
                refine z_istore dX4_pairFrom_106 (by decide) rfl rfl ?_
                have hloop : ∀ (j h : Nat), h ≤ n → n - h < j → zA g l yX4_pairFrom cX4_pairFrom 9 none (k + 1 + 2) 0 0 (zQv (fun M' => M' = zPair M (pGo σ n (k + 1) q used sum p))) 108 0 0 S0 (zPair M (pFold (fun h p => if dMay σ used q h then pGo σ n k (q + 1) (used ||| (1 <<< (nI h &&& 31))) (sum + kTakes (σ (3 + h)) (dMiles σ (σ (51 + q)) (σ (55 + q)))) (p.1, p.2.1, p.2.2.1, upd p.2.2.2 q (nI h)) else p) h p)) [.ref 106, .ref 18, .int (nI q), .int used, .int sum, .int (nI a), .int (dMiles σ (nI a) (nI t)), .int (used ||| M 18 5), .int (nI h)] [] := by
                  intro j
                  induction j with
                  | zero => intro h hh hj; exact absurd hj (Nat.not_lt_zero _)
                  | succ j jh =>
                    intro h hh hj
                    have Rq := zPair_R R (pFold (fun h p => if dMay σ used q h then pGo σ n k (q + 1) (used ||| (1 <<< (nI h &&& 31))) (sum + kTakes (σ (3 + h)) (dMiles σ (σ (51 + q)) (σ (55 + q)))) (p.1, p.2.1, p.2.2.1, upd p.2.2.2 q (nI h)) else p) h p)
                    refine z_iload dX4_pairFrom_108 rfl ?_
                    refine z_aload_n dX4_pairFrom_110 rfl ?_
                    refine z_getR (j := 0) (r := 1) kX1 lf_X4_30 (by decide) rfl dX4_pairFrom_111 k0_18 s0_18 r0_18_0 (by decide) ?_
                    refine z_getIV (j := 1) kX7 lf_X4_65 (by decide) rfl Rq.1.1.2.1 dX4_pairFrom_114 k0_1 s0_1 ?_
                    refine z_icmp_ge (tgt := 188) dX4_pairFrom_117 (by decide) (fun b117 => ?_) (fun b117 => ?_)
                    · have e : n ≤ h := (nI_leI (by omega) (by omega)).mp b117
                      have e2 : h = n := by omega
                      subst e2
                      refine z_vret dX4_pairFrom_188 zle ?_
                      exact (congrArg (zPair M) ((if_neg hN).trans (if_neg c42))).symm
                    · have hn : h < n := by
                        rcases Nat.lt_or_ge h n with z | z
                        · exact z
                        · exact absurd (nI_le z (by omega)) b117
                      refine z_aload_n dX4_pairFrom_120 rfl ?_
                      refine z_getR (j := 2) (r := 19) kX1 lf_X4_68 (by decide) rfl dX4_pairFrom_121 k0_18 s0_18 r0_18_2 (by decide) ?_
                      refine z_iload dX4_pairFrom_124 rfl ?_
                      refine z_ialdV (j := h) rfl (by omega) (Rq.1.2.2.2.1 h (by omega)).1 dX4_pairFrom_126 k0_19 s0_19 ?_
                      refine z_iload dX4_pairFrom_127 rfl ?_
                      refine z_icmp_ne (tgt := 182) dX4_pairFrom_129 (by decide) (fun b129 => ?_) (fun b129 => ?_)
                      · refine z_iincN (k := h) dX4_pairFrom_182 rfl rfl (by decide) rfl rfl ?_
                        refine z_goto (tgt := 108) dX4_pairFrom_185 (by decide) ?_
                        have e9 : pFold (fun h p => if dMay σ used q h then pGo σ n k (q + 1) (used ||| (1 <<< (nI h &&& 31))) (sum + kTakes (σ (3 + h)) (dMiles σ (σ (51 + q)) (σ (55 + q)))) (p.1, p.2.1, p.2.2.1, upd p.2.2.2 q (nI h)) else p) (h + 1) p = (fun h p => if dMay σ used q h then pGo σ n k (q + 1) (used ||| (1 <<< (nI h &&& 31))) (sum + kTakes (σ (3 + h)) (dMiles σ (σ (51 + q)) (σ (55 + q)))) (p.1, p.2.1, p.2.2.1, upd p.2.2.2 q (nI h)) else p) h (pFold (fun h p => if dMay σ used q h then pGo σ n k (q + 1) (used ||| (1 <<< (nI h &&& 31))) (sum + kTakes (σ (3 + h)) (dMiles σ (σ (51 + q)) (σ (55 + q)))) (p.1, p.2.1, p.2.2.1, upd p.2.2.2 q (nI h)) else p) h p) := rfl
                        have h0 := jh (h + 1) (by omega) (by omega)
                        rw [e9] at h0
                        first
                          | (have e8 : (fun h p => if dMay σ used q h then pGo σ n k (q + 1) (used ||| (1 <<< (nI h &&& 31))) (sum + kTakes (σ (3 + h)) (dMiles σ (σ (51 + q)) (σ (55 + q)))) (p.1, p.2.1, p.2.2.1, upd p.2.2.2 q (nI h)) else p) h (pFold (fun h p => if dMay σ used q h then pGo σ n k (q + 1) (used ||| (1 <<< (nI h &&& 31))) (sum + kTakes (σ (3 + h)) (dMiles σ (σ (51 + q)) (σ (55 + q)))) (p.1, p.2.1, p.2.2.1, upd p.2.2.2 q (nI h)) else p) h p) = pGo σ n k (q + 1) (used ||| (1 <<< (nI h &&& 31))) (sum + kTakes (σ (3 + h)) (dMiles σ (σ (51 + q)) (σ (55 + q)))) ((pFold (fun h p => if dMay σ used q h then pGo σ n k (q + 1) (used ||| (1 <<< (nI h &&& 31))) (sum + kTakes (σ (3 + h)) (dMiles σ (σ (51 + q)) (σ (55 + q)))) (p.1, p.2.1, p.2.2.1, upd p.2.2.2 q (nI h)) else p) h p).1, (pFold (fun h p => if dMay σ used q h then pGo σ n k (q + 1) (used ||| (1 <<< (nI h &&& 31))) (sum + kTakes (σ (3 + h)) (dMiles σ (σ (51 + q)) (σ (55 + q)))) (p.1, p.2.1, p.2.2.1, upd p.2.2.2 q (nI h)) else p) h p).2.1, (pFold (fun h p => if dMay σ used q h then pGo σ n k (q + 1) (used ||| (1 <<< (nI h &&& 31))) (sum + kTakes (σ (3 + h)) (dMiles σ (σ (51 + q)) (σ (55 + q)))) (p.1, p.2.1, p.2.2.1, upd p.2.2.2 q (nI h)) else p) h p).2.2.1, upd (pFold (fun h p => if dMay σ used q h then pGo σ n k (q + 1) (used ||| (1 <<< (nI h &&& 31))) (sum + kTakes (σ (3 + h)) (dMiles σ (σ (51 + q)) (σ (55 + q)))) (p.1, p.2.1, p.2.2.1, upd p.2.2.2 q (nI h)) else p) h p).2.2.2 q (nI h)) := if_pos ⟨b129.trans ea.symm, (dBar ok R.2.2.1 hn used).mp b139⟩
                             rw [e8] at h0
                             exact h0)
                          | (have e8 : (fun h p => if dMay σ used q h then pGo σ n k (q + 1) (used ||| (1 <<< (nI h &&& 31))) (sum + kTakes (σ (3 + h)) (dMiles σ (σ (51 + q)) (σ (55 + q)))) (p.1, p.2.1, p.2.2.1, upd p.2.2.2 q (nI h)) else p) h (pFold (fun h p => if dMay σ used q h then pGo σ n k (q + 1) (used ||| (1 <<< (nI h &&& 31))) (sum + kTakes (σ (3 + h)) (dMiles σ (σ (51 + q)) (σ (55 + q)))) (p.1, p.2.1, p.2.2.1, upd p.2.2.2 q (nI h)) else p) h p) = pFold (fun h p => if dMay σ used q h then pGo σ n k (q + 1) (used ||| (1 <<< (nI h &&& 31))) (sum + kTakes (σ (3 + h)) (dMiles σ (σ (51 + q)) (σ (55 + q)))) (p.1, p.2.1, p.2.2.1, upd p.2.2.2 q (nI h)) else p) h p := if_neg (fun z => b129 (z.1.trans ea))
                             rw [e8] at h0
                             exact h0)
                          | (have e8 : (fun h p => if dMay σ used q h then pGo σ n k (q + 1) (used ||| (1 <<< (nI h &&& 31))) (sum + kTakes (σ (3 + h)) (dMiles σ (σ (51 + q)) (σ (55 + q)))) (p.1, p.2.1, p.2.2.1, upd p.2.2.2 q (nI h)) else p) h (pFold (fun h p => if dMay σ used q h then pGo σ n k (q + 1) (used ||| (1 <<< (nI h &&& 31))) (sum + kTakes (σ (3 + h)) (dMiles σ (σ (51 + q)) (σ (55 + q)))) (p.1, p.2.1, p.2.2.1, upd p.2.2.2 q (nI h)) else p) h p) = pFold (fun h p => if dMay σ used q h then pGo σ n k (q + 1) (used ||| (1 <<< (nI h &&& 31))) (sum + kTakes (σ (3 + h)) (dMiles σ (σ (51 + q)) (σ (55 + q)))) (p.1, p.2.1, p.2.2.1, upd p.2.2.2 q (nI h)) else p) h p := if_neg (fun z => b139 ((dBar ok R.2.2.1 hn used).mpr z.2))
                             rw [e8] at h0
                             exact h0)
                      · refine z_iload dX4_pairFrom_132 rfl ?_
                        refine z_iload dX4_pairFrom_134 rfl ?_
                        refine z_ishr dX4_pairFrom_136 ?_
                        refine z_iconst (v := 1) dX4_pairFrom_137 (by decide) ?_
                        refine z_iand dX4_pairFrom_138 ?_
                        refine z_if_ne (tgt := 182) dX4_pairFrom_139 (by decide) (fun b139 => ?_) (fun b139 => ?_)
                        · refine z_iincN (k := h) dX4_pairFrom_182 rfl rfl (by decide) rfl rfl ?_
                          refine z_goto (tgt := 108) dX4_pairFrom_185 (by decide) ?_
                          have e9 : pFold (fun h p => if dMay σ used q h then pGo σ n k (q + 1) (used ||| (1 <<< (nI h &&& 31))) (sum + kTakes (σ (3 + h)) (dMiles σ (σ (51 + q)) (σ (55 + q)))) (p.1, p.2.1, p.2.2.1, upd p.2.2.2 q (nI h)) else p) (h + 1) p = (fun h p => if dMay σ used q h then pGo σ n k (q + 1) (used ||| (1 <<< (nI h &&& 31))) (sum + kTakes (σ (3 + h)) (dMiles σ (σ (51 + q)) (σ (55 + q)))) (p.1, p.2.1, p.2.2.1, upd p.2.2.2 q (nI h)) else p) h (pFold (fun h p => if dMay σ used q h then pGo σ n k (q + 1) (used ||| (1 <<< (nI h &&& 31))) (sum + kTakes (σ (3 + h)) (dMiles σ (σ (51 + q)) (σ (55 + q)))) (p.1, p.2.1, p.2.2.1, upd p.2.2.2 q (nI h)) else p) h p) := rfl
                          have h0 := jh (h + 1) (by omega) (by omega)
                          rw [e9] at h0
                          first
                            | (have e8 : (fun h p => if dMay σ used q h then pGo σ n k (q + 1) (used ||| (1 <<< (nI h &&& 31))) (sum + kTakes (σ (3 + h)) (dMiles σ (σ (51 + q)) (σ (55 + q)))) (p.1, p.2.1, p.2.2.1, upd p.2.2.2 q (nI h)) else p) h (pFold (fun h p => if dMay σ used q h then pGo σ n k (q + 1) (used ||| (1 <<< (nI h &&& 31))) (sum + kTakes (σ (3 + h)) (dMiles σ (σ (51 + q)) (σ (55 + q)))) (p.1, p.2.1, p.2.2.1, upd p.2.2.2 q (nI h)) else p) h p) = pGo σ n k (q + 1) (used ||| (1 <<< (nI h &&& 31))) (sum + kTakes (σ (3 + h)) (dMiles σ (σ (51 + q)) (σ (55 + q)))) ((pFold (fun h p => if dMay σ used q h then pGo σ n k (q + 1) (used ||| (1 <<< (nI h &&& 31))) (sum + kTakes (σ (3 + h)) (dMiles σ (σ (51 + q)) (σ (55 + q)))) (p.1, p.2.1, p.2.2.1, upd p.2.2.2 q (nI h)) else p) h p).1, (pFold (fun h p => if dMay σ used q h then pGo σ n k (q + 1) (used ||| (1 <<< (nI h &&& 31))) (sum + kTakes (σ (3 + h)) (dMiles σ (σ (51 + q)) (σ (55 + q)))) (p.1, p.2.1, p.2.2.1, upd p.2.2.2 q (nI h)) else p) h p).2.1, (pFold (fun h p => if dMay σ used q h then pGo σ n k (q + 1) (used ||| (1 <<< (nI h &&& 31))) (sum + kTakes (σ (3 + h)) (dMiles σ (σ (51 + q)) (σ (55 + q)))) (p.1, p.2.1, p.2.2.1, upd p.2.2.2 q (nI h)) else p) h p).2.2.1, upd (pFold (fun h p => if dMay σ used q h then pGo σ n k (q + 1) (used ||| (1 <<< (nI h &&& 31))) (sum + kTakes (σ (3 + h)) (dMiles σ (σ (51 + q)) (σ (55 + q)))) (p.1, p.2.1, p.2.2.1, upd p.2.2.2 q (nI h)) else p) h p).2.2.2 q (nI h)) := if_pos ⟨b129.trans ea.symm, (dBar ok R.2.2.1 hn used).mp b139⟩
                               rw [e8] at h0
                               exact h0)
                            | (have e8 : (fun h p => if dMay σ used q h then pGo σ n k (q + 1) (used ||| (1 <<< (nI h &&& 31))) (sum + kTakes (σ (3 + h)) (dMiles σ (σ (51 + q)) (σ (55 + q)))) (p.1, p.2.1, p.2.2.1, upd p.2.2.2 q (nI h)) else p) h (pFold (fun h p => if dMay σ used q h then pGo σ n k (q + 1) (used ||| (1 <<< (nI h &&& 31))) (sum + kTakes (σ (3 + h)) (dMiles σ (σ (51 + q)) (σ (55 + q)))) (p.1, p.2.1, p.2.2.1, upd p.2.2.2 q (nI h)) else p) h p) = pFold (fun h p => if dMay σ used q h then pGo σ n k (q + 1) (used ||| (1 <<< (nI h &&& 31))) (sum + kTakes (σ (3 + h)) (dMiles σ (σ (51 + q)) (σ (55 + q)))) (p.1, p.2.1, p.2.2.1, upd p.2.2.2 q (nI h)) else p) h p := if_neg (fun z => b129 (z.1.trans ea))
                               rw [e8] at h0
                               exact h0)
                            | (have e8 : (fun h p => if dMay σ used q h then pGo σ n k (q + 1) (used ||| (1 <<< (nI h &&& 31))) (sum + kTakes (σ (3 + h)) (dMiles σ (σ (51 + q)) (σ (55 + q)))) (p.1, p.2.1, p.2.2.1, upd p.2.2.2 q (nI h)) else p) h (pFold (fun h p => if dMay σ used q h then pGo σ n k (q + 1) (used ||| (1 <<< (nI h &&& 31))) (sum + kTakes (σ (3 + h)) (dMiles σ (σ (51 + q)) (σ (55 + q)))) (p.1, p.2.1, p.2.2.1, upd p.2.2.2 q (nI h)) else p) h p) = pFold (fun h p => if dMay σ used q h then pGo σ n k (q + 1) (used ||| (1 <<< (nI h &&& 31))) (sum + kTakes (σ (3 + h)) (dMiles σ (σ (51 + q)) (σ (55 + q)))) (p.1, p.2.1, p.2.2.1, upd p.2.2.2 q (nI h)) else p) h p := if_neg (fun z => b139 ((dBar ok R.2.2.1 hn used).mpr z.2))
                               rw [e8] at h0
                               exact h0)
                        · refine z_aload_n dX4_pairFrom_142 rfl ?_
                          refine z_getR (j := 0) (r := 107) kX4 lf_X4_9 (by decide) rfl dX4_pairFrom_143 k0_106 s0_106 r0_106_0 (by decide) ?_
                          refine z_iload_n dX4_pairFrom_146 rfl ?_
                          refine z_iload dX4_pairFrom_147 rfl ?_
                          refine z_iastV (j := q) rfl (by omega) zPair_st dX4_pairFrom_149 k0_107 s0_107 ?_
                          refine z_aload_n dX4_pairFrom_150 rfl ?_
                          refine z_aload_n dX4_pairFrom_151 rfl ?_
                          refine z_iload_n dX4_pairFrom_152 rfl ?_
                          refine z_iconst (v := 1) dX4_pairFrom_153 (by decide) ?_
                          refine z_iaddN (a := q) (b := 1) rfl rfl dX4_pairFrom_154 ?_
                          refine z_iload_n dX4_pairFrom_155 rfl ?_
                          refine z_iconst (v := 1) dX4_pairFrom_156 (by decide) ?_
                          refine z_iload dX4_pairFrom_157 rfl ?_
                          refine z_ishl dX4_pairFrom_159 ?_
                          refine z_ior dX4_pairFrom_160 ?_
                          refine z_iload dX4_pairFrom_161 rfl ?_
                          refine z_aload_n dX4_pairFrom_163 rfl ?_
                          refine z_getR (j := 0) (r := 1) kX1 lf_X4_30 (by decide) rfl dX4_pairFrom_164 k0_18 s0_18 r0_18_0 (by decide) ?_
                          refine z_getR (j := 4) (r := 3) kX7 lf_X4_71 (by decide) rfl dX4_pairFrom_167 k0_1 s0_1 r0_1_4 (by decide) ?_
                          refine z_iload dX4_pairFrom_170 rfl ?_
                          refine z_ialdV (j := h) rfl (by omega) (Rq.1.1.2.2.2.2 h (by omega)).1 dX4_pairFrom_172 k0_3 s0_3 ?_
                          refine z_iload dX4_pairFrom_173 rfl ?_
                          refine z_iS2 (c_X2_takes g l) mw_X2_takes lm_X4_74 ms_X2_takes (by omega) (Nat.le_of_ble_eq_true rfl) zle dX4_pairFrom_175 (fun r175 M175 q175 => ?_)
                          obtain ⟨qr175, qm175⟩ := q175
                          obtain rfl := qr175.symm
                          obtain rfl := qm175.symm
                          refine z_as (x' := kTakes (σ (3 + h)) (dMiles σ (σ (51 + q)) (σ (55 + q)))) (by rw [ea, et]) ?_
                          refine z_iadd dX4_pairFrom_178 ?_
                          refine z_vS5 (ih (q + 1) _ _ _ (by omega)) mw_X4_pairFrom lm_X4_26 ms_X4_pairFrom (by omega) (Nat.le_of_ble_eq_true rfl) zle dX4_pairFrom_179 (fun M179 q179 => ?_)
                          obtain rfl := q179.symm
                          refine z_iincN (k := h) dX4_pairFrom_182 rfl rfl (by decide) rfl rfl ?_
                          refine z_goto (tgt := 108) dX4_pairFrom_185 (by decide) ?_
                          have e9 : pFold (fun h p => if dMay σ used q h then pGo σ n k (q + 1) (used ||| (1 <<< (nI h &&& 31))) (sum + kTakes (σ (3 + h)) (dMiles σ (σ (51 + q)) (σ (55 + q)))) (p.1, p.2.1, p.2.2.1, upd p.2.2.2 q (nI h)) else p) (h + 1) p = (fun h p => if dMay σ used q h then pGo σ n k (q + 1) (used ||| (1 <<< (nI h &&& 31))) (sum + kTakes (σ (3 + h)) (dMiles σ (σ (51 + q)) (σ (55 + q)))) (p.1, p.2.1, p.2.2.1, upd p.2.2.2 q (nI h)) else p) h (pFold (fun h p => if dMay σ used q h then pGo σ n k (q + 1) (used ||| (1 <<< (nI h &&& 31))) (sum + kTakes (σ (3 + h)) (dMiles σ (σ (51 + q)) (σ (55 + q)))) (p.1, p.2.1, p.2.2.1, upd p.2.2.2 q (nI h)) else p) h p) := rfl
                          have h0 := jh (h + 1) (by omega) (by omega)
                          rw [e9] at h0
                          first
                            | (have e8 : (fun h p => if dMay σ used q h then pGo σ n k (q + 1) (used ||| (1 <<< (nI h &&& 31))) (sum + kTakes (σ (3 + h)) (dMiles σ (σ (51 + q)) (σ (55 + q)))) (p.1, p.2.1, p.2.2.1, upd p.2.2.2 q (nI h)) else p) h (pFold (fun h p => if dMay σ used q h then pGo σ n k (q + 1) (used ||| (1 <<< (nI h &&& 31))) (sum + kTakes (σ (3 + h)) (dMiles σ (σ (51 + q)) (σ (55 + q)))) (p.1, p.2.1, p.2.2.1, upd p.2.2.2 q (nI h)) else p) h p) = pGo σ n k (q + 1) (used ||| (1 <<< (nI h &&& 31))) (sum + kTakes (σ (3 + h)) (dMiles σ (σ (51 + q)) (σ (55 + q)))) ((pFold (fun h p => if dMay σ used q h then pGo σ n k (q + 1) (used ||| (1 <<< (nI h &&& 31))) (sum + kTakes (σ (3 + h)) (dMiles σ (σ (51 + q)) (σ (55 + q)))) (p.1, p.2.1, p.2.2.1, upd p.2.2.2 q (nI h)) else p) h p).1, (pFold (fun h p => if dMay σ used q h then pGo σ n k (q + 1) (used ||| (1 <<< (nI h &&& 31))) (sum + kTakes (σ (3 + h)) (dMiles σ (σ (51 + q)) (σ (55 + q)))) (p.1, p.2.1, p.2.2.1, upd p.2.2.2 q (nI h)) else p) h p).2.1, (pFold (fun h p => if dMay σ used q h then pGo σ n k (q + 1) (used ||| (1 <<< (nI h &&& 31))) (sum + kTakes (σ (3 + h)) (dMiles σ (σ (51 + q)) (σ (55 + q)))) (p.1, p.2.1, p.2.2.1, upd p.2.2.2 q (nI h)) else p) h p).2.2.1, upd (pFold (fun h p => if dMay σ used q h then pGo σ n k (q + 1) (used ||| (1 <<< (nI h &&& 31))) (sum + kTakes (σ (3 + h)) (dMiles σ (σ (51 + q)) (σ (55 + q)))) (p.1, p.2.1, p.2.2.1, upd p.2.2.2 q (nI h)) else p) h p).2.2.2 q (nI h)) := if_pos ⟨b129.trans ea.symm, (dBar ok R.2.2.1 hn used).mp b139⟩
                               rw [e8] at h0
                               exact h0)
                            | (have e8 : (fun h p => if dMay σ used q h then pGo σ n k (q + 1) (used ||| (1 <<< (nI h &&& 31))) (sum + kTakes (σ (3 + h)) (dMiles σ (σ (51 + q)) (σ (55 + q)))) (p.1, p.2.1, p.2.2.1, upd p.2.2.2 q (nI h)) else p) h (pFold (fun h p => if dMay σ used q h then pGo σ n k (q + 1) (used ||| (1 <<< (nI h &&& 31))) (sum + kTakes (σ (3 + h)) (dMiles σ (σ (51 + q)) (σ (55 + q)))) (p.1, p.2.1, p.2.2.1, upd p.2.2.2 q (nI h)) else p) h p) = pFold (fun h p => if dMay σ used q h then pGo σ n k (q + 1) (used ||| (1 <<< (nI h &&& 31))) (sum + kTakes (σ (3 + h)) (dMiles σ (σ (51 + q)) (σ (55 + q)))) (p.1, p.2.1, p.2.2.1, upd p.2.2.2 q (nI h)) else p) h p := if_neg (fun z => b129 (z.1.trans ea))
                               rw [e8] at h0
                               exact h0)
                            | (have e8 : (fun h p => if dMay σ used q h then pGo σ n k (q + 1) (used ||| (1 <<< (nI h &&& 31))) (sum + kTakes (σ (3 + h)) (dMiles σ (σ (51 + q)) (σ (55 + q)))) (p.1, p.2.1, p.2.2.1, upd p.2.2.2 q (nI h)) else p) h (pFold (fun h p => if dMay σ used q h then pGo σ n k (q + 1) (used ||| (1 <<< (nI h &&& 31))) (sum + kTakes (σ (3 + h)) (dMiles σ (σ (51 + q)) (σ (55 + q)))) (p.1, p.2.1, p.2.2.1, upd p.2.2.2 q (nI h)) else p) h p) = pFold (fun h p => if dMay σ used q h then pGo σ n k (q + 1) (used ||| (1 <<< (nI h &&& 31))) (sum + kTakes (σ (3 + h)) (dMiles σ (σ (51 + q)) (σ (55 + q)))) (p.1, p.2.1, p.2.2.1, upd p.2.2.2 q (nI h)) else p) h p := if_neg (fun z => b139 ((dBar ok R.2.2.1 hn used).mpr z.2))
                               rw [e8] at h0
                               exact h0)
                exact hloop (n + 1) 0 (Nat.zero_le _) (by omega)
              · exact absurd b45 (by decide)
          · exact absurd (show nI q < nI 4 from nI_lt (by omega) (by omega)) b30
      · refine z_vret dX4_pairFrom_16 zle ?_
        exact (congrArg (zPair M) (if_pos (c := p.1 = true ∧ p.2.1 ≤ sum) ⟨hf, Int32.not_lt.mp b13⟩)).symm

set_option maxRecDepth 100000 in
set_option maxHeartbeats 4000000 in
theorem c_X4_pair (g : zG) (l : Launch) {M : zM} {σ : Dy} {n r i : Nat} (R : dRep M 18 σ n r i) (ok : dOK σ n r i) : zMet g l yX4_pair cX4_pair 2 none 7 0 0 [.ref 106, .ref 18] S0 M (zQv (fun M' => M' = zPair M (pGo σ n r 0 0 0 (false, 0, M 108, M 107)))) := by
  have r4 := ok.1.2.1
  refine zMet.of (by decide) (Nat.le_of_ble_eq_true rfl) ?_
  refine z_aload_n dX4_pair_0 rfl ?_
  refine z_iconst (v := 0) dX4_pair_1 (by decide) ?_
  refine z_putI (j := 3) kX4 lf_X4_18 (by decide) rfl rfl (kX4.2.2.1 3 (by decide)) rfl rfl dX4_pair_2 k0_106 s0_106 ?_
  refine z_aload_n dX4_pair_5 rfl ?_
  refine z_iconst (v := 0) dX4_pair_6 (by decide) ?_
  refine z_putIV (j := 2) kX4 lf_X4_22 (by decide) rfl rfl (kX4.2.2.1 2 (by decide)) rfl rfl zPair_0 dX4_pair_7 k0_106 s0_106 ?_
  refine z_aload_n dX4_pair_10 rfl ?_
  refine z_aload_n dX4_pair_11 rfl ?_
  refine z_iconst (v := 0) dX4_pair_12 (by decide) ?_
  refine z_iconst (v := 0) dX4_pair_13 (by decide) ?_
  refine z_iconst (v := 0) dX4_pair_14 (by decide) ?_
  refine z_vS5 (c_X4_pairFrom g l R ok r 0 0 0 _ (Nat.zero_add _)) mw_X4_pairFrom lm_X4_26 ms_X4_pairFrom (by omega) (Nat.le_of_ble_eq_true rfl) zle dX4_pair_15 (fun M15 q15 => ?_)
  obtain rfl := q15.symm
  exact z_vret dX4_pair_18 zle (rfl)

