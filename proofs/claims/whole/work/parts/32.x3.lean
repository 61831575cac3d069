/-! ===== the class's own methods: what is foretold, what was seen ===== -/
def aAhead (A : aSt) (x m w : Int32) : Int32 := aIx A.n x (fun h => if (m < 0 ∨ 60 < m) ∨ (w < 0 ∨ 2 < w) then -3 else if w = 0 then (dIter A.s A.n A.r A.i m.toNatClampNeg) (19 + h) else if w = 1 then (dIter A.s A.n A.r A.i m.toNatClampNeg) (27 + h) else (dIter A.s A.n A.r A.i m.toNatClampNeg) (35 + h)) (-2)
def aComes (A : aSt) (x w : Int32) : Int32 := aIx A.r x (fun q => if w < 0 ∨ 1 < w then -3 else if dCome A.s A.n A.r A.i q 60 = -1 ∨ w = 0 then dCome A.s A.n A.r A.i q 60 else (dIter A.s A.n A.r A.i (dCome A.s A.n A.r A.i q 60).toNatClampNeg) (59 + q)) (-2)
def aPair (A : aSt) (b t : Nat → Int32) : pP := pGo A.s A.n A.r 0 0 0 (false, 0, b, t)
def aMatch (A : aSt) (b t : Nat → Int32) (x : Int32) : Int32 := if ¬ x = -1 ∧ ¬ (0 ≤ x ∧ x < nI A.r) then -2 else if (aPair A b t).1 = true then (if x = -1 then (aPair A b t).2.1 else (aPair A b t).2.2.1 x.toNatClampNeg) else -1
def aSeen (A : aSt) : zM := fun k => if k = 110 then A.sm else if k = 111 then A.st else A.sd
def sSeen (A : aSt) (m t d : Int32) : aSt × Int32 := if (m < 1 ∨ 9 < m) ∨ (t < 0 ∨ 20 < t) ∨ (d < 0 ∨ 20 < d) then (A, -3) else if A.v = 6 then (A, -5) else (A.setSee (A.v + 1, upd A.sm A.v m, upd A.st A.v t, upd A.sd A.v d), nI (A.v + 1))
def sForget (A : aSt) : aSt × Int32 := (A.setSee (0, A.sm, A.st, A.sd), nI A.v)
def dFed (σ : Dy) (s : Int32) : Nat → Dy
  | 0 => σ
  | h + 1 => if (s >>> (nI h &&& 31)) &&& 1 = 0 then dFed σ s h else dEase (dFed σ s h) h ((dFed σ s h) (27 + h) - 3)
theorem dFed_ok {σ : Dy} {n r i : Nat} (ok : dOK σ n r i) (s : Int32) : ∀ h, h ≤ n → dOK (dFed σ s h) n r i
  | 0, _ => ok
  | h + 1, hh => by
    have ih := dFed_ok ok s h (by omega)
    unfold dFed
    split
    · exact ih
    · obtain ⟨-, -, -, ⟨t, ht, et⟩, -⟩ := ih.2.1 h (by omega)
      rw [et]
      exact dEase_ok (b := 3) ih (by omega) (by omega) (by omega)
theorem fFits_cg {M M2 : zM} {k : Int32} : ∀ u, (∀ j, j < u → M 110 j = M2 110 j ∧ M 111 j = M2 111 j ∧ M 112 j = M2 112 j) → fFits M k u = fFits M2 k u
  | 0, _ => rfl
  | u + 1, h => by
    obtain ⟨a, b, c⟩ := h u (by omega)
    show (fFits M k u && decide _) = (fFits M2 k u && decide _)
    rw [fFits_cg u (fun j hj => h j (by omega)), a, b, c]
theorem fKinds_cg {M M2 : zM} {u : Nat} (h : ∀ j, j < u → M 110 j = M2 110 j ∧ M 111 j = M2 111 j ∧ M 112 j = M2 112 j) : ∀ k, fKinds M u k = fKinds M2 u k
  | 0 => rfl
  | k + 1 => by
    unfold fKinds
    rw [fFits_cg u h, fKinds_cg h k]
theorem aSeen_cg {M : zM} {A : aSt} (C : RelC M A) : ∀ j, j < A.v → M 110 j = aSeen A 110 j ∧ M 111 j = aSeen A 111 j ∧ M 112 j = aSeen A 112 j := fun j hj => C.see.2 j hj
/-- the fewest oats, as the class looks for them: sets by size, then by number -/
def gFit (σ : Dy) (n r i q m : Nat) (z s : Nat) : Bool := decide (zBc (nI s) = nI z) && (decide (nI s &&& (dTirB σ n ^^^ -1) = 0) && decide (¬ dCome (dFed σ (nI s) n) n r i q m = -1))
def gSet (σ : Dy) (n r i q m z a k : Nat) : Int32 := frst (gFit σ n r i q m z) a k
def gSize (σ : Dy) (n r i q m : Nat) : Nat → Nat → Int32
  | _, 0 => -1
  | z, k + 1 => if gSet σ n r i q m z 0 (2 ^ n) = -1 then gSize σ n r i q m (z + 1) k else gSet σ n r i q m z 0 (2 ^ n)
def aFeed (A : aSt) (x m : Int32) : Int32 := aIx A.r x (fun q => if m < 1 ∨ 40 < m then -3 else gSize A.s A.n A.r A.i q m.toNatClampNeg 0 4) (-2)
theorem z_shn : ∀ n, n < 9 → (1 : Int32) <<< (nI n &&& 31) = nI (2 ^ n) := by decide +kernel
theorem z_pow : ∀ n, n < 9 → 2 ^ n ≤ 256 := by decide

set_option maxRecDepth 100000 in
set_option maxHeartbeats 4000000 in
theorem lp_passUntil2 (g : zG) (l : Launch) {M0 : zM} {d n r i q most : Nat} {σ : Dy} (hd : d ∈ zDays) (ok : dOK σ n r i) (hq : q < r) (hm : most ≤ 1000) : ∀ (k h : Nat) (M : zM), h ≤ most → most - h < k → zDR M0 M d (dIter σ n r i h) n r i → dCome σ n r i q most = dComeF σ n r i q h (most + 1 - h) → zA g l yX1_passUntilThere cX1_passUntilThere 4 (some .int) 4 0 0 (zQi (fun r' M' => r' = dCome σ n r i q most ∧ ∃ k, k ≤ most ∧ zDR M0 M' d (dIter σ n r i k) n r i ∧ (r' = nI k ∨ r' = -1))) 2 0 0 S0 M [.ref d, .int (nI q), .int (nI most), .int (nI h)] [] := by
  have n8 := ok.1.1
  have r4 := ok.1.2.1
  have i6 := ok.1.2.2.1
  intro k
  induction k with
  | zero => intro h M hh hk; exact absurd hk (Nat.not_lt_zero _)
  | succ k ih =>
    intro h M hh hk R w
    have okh := dIter_ok ok h
    refine z_iload_n dX1_passUntilThere_2 rfl ?_
    refine z_iload_n dX1_passUntilThere_3 rfl ?_
    refine z_icmp_ge (tgt := 27) dX1_passUntilThere_4 (by decide) (fun b4 => ?_) (fun b4 => ?_)
    · have e : most ≤ h := (nI_leI (by omega) (by omega)).mp b4
      have e2 : h = most := by omega
      subst e2
      refine z_aload_n dX1_passUntilThere_27 rfl ?_
      refine z_iload_n dX1_passUntilThere_28 rfl ?_
      refine z_iV1 (c_X1_isThere g l hd R hq ⟨n8, r4, i6⟩) mw_X1_isThere lm_X1_63 mi_X1_isThere mv_X1_isThere kX1 (by decide) (Nat.le_of_ble_eq_true rfl) zle (zDay_k0 hd) (zDay_s0 hd) dX1_passUntilThere_29 (fun r29 M29 q29 => ?_)
      obtain ⟨qm29, qr29⟩ := q29
      obtain rfl := qm29.symm
      obtain ⟨c29, rfl⟩ | ⟨c29, rfl⟩ := qr29
      · refine z_if_eq (tgt := 39) dX1_passUntilThere_32 (by decide) (fun b32 => ?_) (fun b32 => ?_)
        · exact absurd b32 (by decide)
        · refine z_iload_n dX1_passUntilThere_35 rfl ?_
          refine z_goto (tgt := 40) dX1_passUntilThere_36 (by decide) ?_
          refine z_iret dX1_passUntilThere_40 rfl zle ?_
          first
            | exact ⟨by rw [w, show h + 1 - h = 0 + 1 by omega, dComeF_s, if_pos c29], h, by omega, R, Or.inl rfl⟩
            | exact ⟨by rw [w, show h + 1 - h = 0 + 1 by omega, dComeF_s, if_neg c29]; rfl, h, by omega, R, Or.inr rfl⟩
      · refine z_if_eq (tgt := 39) dX1_passUntilThere_32 (by decide) (fun b32 => ?_) (fun b32 => ?_)
        · refine z_iconst (v := (-1)) dX1_passUntilThere_39 (by decide) ?_
          refine z_iret dX1_passUntilThere_40 rfl zle ?_
          first
            | exact ⟨by rw [w, show h + 1 - h = 0 + 1 by omega, dComeF_s, if_pos c29], h, by omega, R, Or.inl rfl⟩
            | exact ⟨by rw [w, show h + 1 - h = 0 + 1 by omega, dComeF_s, if_neg c29]; rfl, h, by omega, R, Or.inr rfl⟩
        · exact absurd b32 (by decide)
    · have hn : h < most := by
        rcases Nat.lt_or_ge h most with z | z
        · exact z
        · exact absurd (nI_le z (by omega)) b4
      refine z_aload_n dX1_passUntilThere_7 rfl ?_
      refine z_iload_n dX1_passUntilThere_8 rfl ?_
      refine z_iV1 (c_X1_isThere g l hd R hq ⟨n8, r4, i6⟩) mw_X1_isThere lm_X1_63 mi_X1_isThere mv_X1_isThere kX1 (by decide) (Nat.le_of_ble_eq_true rfl) zle (zDay_k0 hd) (zDay_s0 hd) dX1_passUntilThere_9 (fun r9 M9 q9 => ?_)
      obtain ⟨qm9, qr9⟩ := q9
      obtain rfl := qm9.symm
      obtain ⟨c9, rfl⟩ | ⟨c9, rfl⟩ := qr9
      · refine z_if_eq (tgt := 17) dX1_passUntilThere_12 (by decide) (fun b12 => ?_) (fun b12 => ?_)
        · exact absurd b12 (by decide)
        · refine z_iload_n dX1_passUntilThere_15 rfl ?_
          refine z_iret dX1_passUntilThere_16 rfl zle ?_
          exact ⟨by rw [w, show most + 1 - h = (most - h) + 1 by omega, dComeF_s, if_pos c9], h, by omega, R, Or.inl rfl⟩
      · refine z_if_eq (tgt := 17) dX1_passUntilThere_12 (by decide) (fun b12 => ?_) (fun b12 => ?_)
        · refine z_aload_n dX1_passUntilThere_17 rfl ?_
          refine z_vV0 (c_X1_passStage g l hd R okh) mw_X1_passStage lm_X1_127 mi_X1_passStage mv_X1_passStage kX1 (by decide) (Nat.le_of_ble_eq_true rfl) zle (zDay_k0 hd) (zDay_s0 hd) dX1_passUntilThere_18 (fun M18 q18 => ?_)
          refine z_iincN (k := h) dX1_passUntilThere_21 rfl rfl (by decide) rfl rfl ?_
          refine z_goto (tgt := 2) dX1_passUntilThere_24 (by decide) ?_
          exact ih (h + 1) _ (by omega) (by omega) q18 (by rw [w, show most + 1 - h = (most - h) + 1 by omega, dComeF_s, if_neg c9, show most + 1 - (h + 1) = most - h by omega])
        · exact absurd b12 (by decide)

set_option maxRecDepth 100000 in
set_option maxHeartbeats 4000000 in
theorem c_X1_passUntilThere2 (g : zG) (l : Launch) {M0 : zM} {d n r i q most : Nat} {σ : Dy} (hd : d ∈ zDays) (ok : dOK σ n r i) (hq : q < r) (hm : most ≤ 1000) {M : zM} (R : zDR M0 M d σ n r i) : zMet g l yX1_passUntilThere cX1_passUntilThere 4 (some .int) 4 0 0 [.ref d, .int (nI q), .int (nI most)] S0 M (zQi (fun r' M' => r' = dCome σ n r i q most ∧ ∃ k, k ≤ most ∧ zDR M0 M' d (dIter σ n r i k) n r i ∧ (r' = nI k ∨ r' = -1))) := by
  have n8 := ok.1.1
  have r4 := ok.1.2.1
  have i6 := ok.1.2.2.1
  refine zMet.of (by decide) (Nat.le_of_ble_eq_true rfl) ?_
  refine z_iconst (v := 0) dX1_passUntilThere_0 (by decide) ?_
  refine z_istore_n dX1_passUntilThere_1 (by decide) rfl rfl ?_
  exact lp_passUntil2 g l hd ok hq hm (most + 1) 0 _ (Nat.zero_le _) (by omega) R rfl

set_option maxRecDepth 100000 in
set_option maxHeartbeats 4000000 in
theorem lp_ahead (g : zG) (l : Launch) {M0 : zM} {n r i m x : Nat} {w : Int32} {σ : Dy} (ok : dOK σ n r i) (hm : m ≤ 1000) (hx : x < n) : ∀ (k h : Nat) (M : zM), h ≤ m → m - h < k → zDR M0 M 25 (dIter σ n r i h) n r i → zA g l yX11_ahead cX11_ahead 5 (some .int) 4 0 0 (zQi (fun r' M' => r' = (if w = 0 then (dIter σ n r i m) (19 + x) else if w = 1 then (dIter σ n r i m) (27 + x) else (dIter σ n r i m) (35 + x)) ∧ zDR M0 M' 25 (dIter σ n r i m) n r i)) 50 0 0 S0 M [.ref 0, .int (nI x), .int (nI m), .int w, .int (nI h)] [] := by
  have n8 := ok.1.1
  have r4 := ok.1.2.1
  have i6 := ok.1.2.2.1
  intro k
  induction k with
  | zero => intro h M hh hk; exact absurd hk (Nat.not_lt_zero _)
  | succ k ih =>
    intro h M hh hk R
    have okh := dIter_ok ok h
    refine z_iload dX11_ahead_50 rfl ?_
    refine z_iload_n dX11_ahead_52 rfl ?_
    refine z_icmp_ge (tgt := 69) dX11_ahead_53 (by decide) (fun b53 => ?_) (fun b53 => ?_)
    · have e : m ≤ h := (nI_leI (by omega) (by omega)).mp b53
      have e2 : h = m := by omega
      subst e2
      refine z_iload_n dX11_ahead_69 rfl ?_
      refine z_lsw2 (t0 := 96) (t1 := 106) (td := 116) dX11_ahead_70 (by decide) (by decide) (by decide) (fun b70 => ?_) (fun b70 => ?_) (fun b70 c70 => ?_)
      · refine z_aload_n dX11_ahead_96 rfl ?_
        refine z_getR (j := 4) (r := 25) kX11 lf_X11_41 (by decide) rfl dX11_ahead_97 k0_0 s0_0 r0_0_4 (by decide) ?_
        refine z_getR (j := 2) (r := 26) kX1 lf_X11_118 (by decide) rfl dX11_ahead_100 k0_25 s0_25 r0_25_2 (by decide) ?_
        refine z_iload_n dX11_ahead_103 rfl ?_
        refine z_ialdV (j := x) rfl (by omega) (R.1.2.2.2.1 x (by omega)).1 dX11_ahead_104 k0_26 s0_26 ?_
        refine z_iret dX11_ahead_105 rfl zle ?_
        exact ⟨(if_pos b70).symm, R⟩
      · refine z_aload_n dX11_ahead_106 rfl ?_
        refine z_getR (j := 4) (r := 25) kX11 lf_X11_41 (by decide) rfl dX11_ahead_107 k0_0 s0_0 r0_0_4 (by decide) ?_
        refine z_getR (j := 3) (r := 27) kX1 lf_X11_121 (by decide) rfl dX11_ahead_110 k0_25 s0_25 r0_25_3 (by decide) ?_
        refine z_iload_n dX11_ahead_113 rfl ?_
        refine z_ialdV (j := x) rfl (by omega) (R.1.2.2.2.1 x (by omega)).2.1 dX11_ahead_114 k0_27 s0_27 ?_
        refine z_iret dX11_ahead_115 rfl zle ?_
        exact ⟨((if_neg (by rw [b70]; decide)).trans (if_pos b70)).symm, R⟩
      · refine z_aload_n dX11_ahead_116 rfl ?_
        refine z_getR (j := 4) (r := 25) kX11 lf_X11_41 (by decide) rfl dX11_ahead_117 k0_0 s0_0 r0_0_4 (by decide) ?_
        refine z_iload_n dX11_ahead_120 rfl ?_
        refine z_iV1 (c_X1_isLame g l (by decide) R hx ⟨n8, r4, i6⟩) mw_X1_isLame lm_X11_124 mi_X1_isLame mv_X1_isLame kX1 (by decide) (Nat.le_of_ble_eq_true rfl) zle k0_25 s0_25 dX11_ahead_121 (fun r121 M121 q121 => ?_)
        obtain ⟨qm121, qr121⟩ := q121
        obtain rfl := qm121.symm
        obtain ⟨c121, rfl⟩ | ⟨c121, rfl⟩ := qr121
        · refine z_if_eq (tgt := 131) dX11_ahead_124 (by decide) (fun b124 => ?_) (fun b124 => ?_)
          · exact absurd b124 (by decide)
          · refine z_iconst (v := 1) dX11_ahead_127 (by decide) ?_
            refine z_goto (tgt := 132) dX11_ahead_128 (by decide) ?_
            refine z_iret dX11_ahead_132 rfl zle ?_
            first
              | exact ⟨(((if_neg b70).trans (if_neg c70)).trans c121).symm, R⟩
              | exact ⟨(((if_neg b70).trans (if_neg c70)).trans ((okh.2.1 x hx).2.2.2.2.resolve_right (fun z => c121 z.1))).symm, R⟩
        · refine z_if_eq (tgt := 131) dX11_ahead_124 (by decide) (fun b124 => ?_) (fun b124 => ?_)
          · refine z_iconst (v := 0) dX11_ahead_131 (by decide) ?_
            refine z_iret dX11_ahead_132 rfl zle ?_
            first
              | exact ⟨(((if_neg b70).trans (if_neg c70)).trans c121).symm, R⟩
              | exact ⟨(((if_neg b70).trans (if_neg c70)).trans ((okh.2.1 x hx).2.2.2.2.resolve_right (fun z => c121 z.1))).symm, R⟩
          · exact absurd b124 (by decide)
    · have hn : h < m := by
        rcases Nat.lt_or_ge h m with z | z
        · exact z
        · exact absurd (nI_le z (by omega)) b53
      refine z_aload_n dX11_ahead_56 rfl ?_
      refine z_getR (j := 4) (r := 25) kX11 lf_X11_41 (by decide) rfl dX11_ahead_57 k0_0 s0_0 r0_0_4 (by decide) ?_
      refine z_vV0 (c_X1_passStage g l (by decide) R okh) mw_X1_passStage lm_X11_165 mi_X1_passStage mv_X1_passStage kX1 (by decide) (Nat.le_of_ble_eq_true rfl) zle k0_25 s0_25 dX11_ahead_60 (fun M60 q60 => ?_)
      refine z_iincN (k := h) dX11_ahead_63 rfl rfl (by decide) rfl rfl ?_
      refine z_goto (tgt := 50) dX11_ahead_66 (by decide) ?_
      exact ih (h + 1) _ (by omega) (by omega) q60

set_option maxRecDepth 100000 in
set_option maxHeartbeats 4000000 in
theorem c_X11_ahead (g : zG) (l : Launch) {M : zM} {A : aSt} (ok : aOK A) (C : RelC M A) {x m w : Int32} : zMet g l yX11_ahead cX11_ahead 5 (some .int) 4 0 0 [.ref 0, .int x, .int m, .int w] S0 M (zQi (fun r' M' => zAns M A (aAhead A x m w) r' M')) := by
  have n8 : A.n ≤ 8 := ok.s.1.1
  have r4 : A.r ≤ 4 := ok.s.1.2.1
  have i6 : A.i ≤ 6 := ok.s.1.2.2.1
  have R : zDR M M 18 A.s A.n A.r A.i := ⟨C.day, fun _ _ => rfl⟩
  rcases zInD x (show A.n < 1000 by omega) with ⟨h, hh, rfl⟩ | hx
  · rcases zIdx m (a := 0) (c := 60) (by omega) (by omega) with ⟨u, hu1, hu2, rfl⟩ | hm
    · refine zMet.of (by decide) (Nat.le_of_ble_eq_true rfl) ?_
      refine z_aload_n dX11_ahead_0 rfl ?_
      refine z_getR (j := 0) (r := 1) kX11 lf_X11_10 (by decide) rfl dX11_ahead_1 k0_0 s0_0 r0_0_0 (by decide) ?_
      refine z_iload_n dX11_ahead_4 rfl ?_
      refine z_iV1 (c_X7_hasHour g l (by decide)) mw_X7_hasHour lm_X11_107 mi_X7_hasHour mv_X7_hasHour kX7 (by decide) (Nat.le_of_ble_eq_true rfl) zle k0_1 s0_1 dX11_ahead_5 (fun r5 M5 q5 => ?_)
      obtain ⟨qm5, qr5⟩ := q5
      obtain rfl := qm5.symm
      obtain ⟨c5, rfl⟩ | ⟨c5, rfl⟩ := qr5
      · refine z_if_ne (tgt := 14) dX11_ahead_8 (by decide) (fun b8 => ?_) (fun b8 => ?_)
        · refine z_iload_n dX11_ahead_14 rfl ?_
          refine z_if_lt (tgt := 33) dX11_ahead_15 (by decide) (fun b15 => ?_) (fun b15 => ?_)
          · exact absurd b15 (nI_pos (by omega))
          · refine z_iload_n dX11_ahead_18 rfl ?_
            refine z_bipush (v := 60) dX11_ahead_19 (by decide) ?_
            refine z_icmp_gt (tgt := 33) dX11_ahead_21 (by decide) (fun b21 => ?_) (fun b21 => ?_)
            · exact absurd ((nI_ltI (a := 60) (by omega) (by omega)).mp b21) (by omega)
            · refine z_iload_n dX11_ahead_24 rfl ?_
              refine z_if_lt (tgt := 33) dX11_ahead_25 (by decide) (fun b25 => ?_) (fun b25 => ?_)
              · refine z_bipush (v := (-3)) dX11_ahead_33 (by decide) ?_
                refine z_iret dX11_ahead_35 rfl zle ?_
                exact zAns.of C (by unfold aAhead; rw [aIx_in hh (by omega)]; exact (if_pos (Or.inr (by first | exact Or.inl b25 | exact Or.inr (Int32.not_le.mp b30)))).symm)
              · refine z_iload_n dX11_ahead_28 rfl ?_
                refine z_iconst (v := 2) dX11_ahead_29 (by decide) ?_
                refine z_icmp_le (tgt := 36) dX11_ahead_30 (by decide) (fun b30 => ?_) (fun b30 => ?_)
                · refine z_aload_n dX11_ahead_36 rfl ?_
                  refine z_getR (j := 4) (r := 25) kX11 lf_X11_41 (by decide) rfl dX11_ahead_37 k0_0 s0_0 r0_0_4 (by decide) ?_
                  refine z_aload_n dX11_ahead_40 rfl ?_
                  refine z_getR (j := 3) (r := 18) kX11 lf_X11_37 (by decide) rfl dX11_ahead_41 k0_0 s0_0 r0_0_3 (by decide) ?_
                  refine z_vV1 (c_X1_become g l (by decide) (by decide) (by decide) ⟨n8, r4⟩ C.day) mw_X1_become lm_X11_180 mi_X1_become mv_X1_become kX1 (by decide) (Nat.le_of_ble_eq_true rfl) zle k0_25 s0_25 dX11_ahead_44 (fun M44 q44 => ?_)
                  refine z_iconst (v := 0) dX11_ahead_47 (by decide) ?_
                  refine z_istore dX11_ahead_48 (by decide) rfl rfl ?_
                  have bb : ¬ ((nI u < 0 ∨ (60 : Int32) < nI u) ∨ (w < 0 ∨ 2 < w)) := fun z => z.elim (fun z2 => z2.elim b15 b21) (fun z2 => z2.elim b25 (Int32.not_lt.mpr b30))
                  refine (lp_ahead g l ok.s (by omega) hh (u + 1) 0 _ (Nat.zero_le _) (by omega) q44).weak (fun v S2 M2 q => ?_)
                  obtain ⟨qa, rr, qb, qc, qd⟩ := q
                  have C1 := C.fore (fun k a => qd.2 k (by omega))
                  exact ⟨qa, rr, qb, by rw [qc]; unfold aAhead; rw [aIx_in hh (by omega), if_neg bb, nI_clamp (by omega)], C1.1, C1.2⟩
                · refine z_bipush (v := (-3)) dX11_ahead_33 (by decide) ?_
                  refine z_iret dX11_ahead_35 rfl zle ?_
                  exact zAns.of C (by unfold aAhead; rw [aIx_in hh (by omega)]; exact (if_pos (Or.inr (by first | exact Or.inl b25 | exact Or.inr (Int32.not_le.mp b30)))).symm)
        · exact absurd b8 (by decide)
      · exact absurd (show 0 ≤ nI h ∧ nI h < M 1 1 by rw [C.road.2.1]; exact zInP hh (by omega)) c5
    · refine zMet.of (by decide) (Nat.le_of_ble_eq_true rfl) ?_
      refine z_aload_n dX11_ahead_0 rfl ?_
      refine z_getR (j := 0) (r := 1) kX11 lf_X11_10 (by decide) rfl dX11_ahead_1 k0_0 s0_0 r0_0_0 (by decide) ?_
      refine z_iload_n dX11_ahead_4 rfl ?_
      refine z_iV1 (c_X7_hasHour g l (by decide)) mw_X7_hasHour lm_X11_107 mi_X7_hasHour mv_X7_hasHour kX7 (by decide) (Nat.le_of_ble_eq_true rfl) zle k0_1 s0_1 dX11_ahead_5 (fun r5 M5 q5 => ?_)
      obtain ⟨qm5, qr5⟩ := q5
      obtain rfl := qm5.symm
      obtain ⟨c5, rfl⟩ | ⟨c5, rfl⟩ := qr5
      · refine z_if_ne (tgt := 14) dX11_ahead_8 (by decide) (fun b8 => ?_) (fun b8 => ?_)
        · refine z_iload_n dX11_ahead_14 rfl ?_
          refine z_if_lt (tgt := 33) dX11_ahead_15 (by decide) (fun b15 => ?_) (fun b15 => ?_)
          · refine z_bipush (v := (-3)) dX11_ahead_33 (by decide) ?_
            refine z_iret dX11_ahead_35 rfl zle ?_
            exact zAns.of C (by unfold aAhead; rw [aIx_in hh (by omega)]; exact (if_pos (Or.inl hm)).symm)
          · refine z_iload_n dX11_ahead_18 rfl ?_
            refine z_bipush (v := 60) dX11_ahead_19 (by decide) ?_
            refine z_icmp_gt (tgt := 33) dX11_ahead_21 (by decide) (fun b21 => ?_) (fun b21 => ?_)
            · refine z_bipush (v := (-3)) dX11_ahead_33 (by decide) ?_
              refine z_iret dX11_ahead_35 rfl zle ?_
              exact zAns.of C (by unfold aAhead; rw [aIx_in hh (by omega)]; exact (if_pos (Or.inl hm)).symm)
            · exact absurd (hm.elim (fun z => absurd z b15) (fun z => absurd z b21)) id
        · exact absurd b8 (by decide)
      · exact absurd (show 0 ≤ nI h ∧ nI h < M 1 1 by rw [C.road.2.1]; exact zInP hh (by omega)) c5
  · refine zMet.of (by decide) (Nat.le_of_ble_eq_true rfl) ?_
    refine z_aload_n dX11_ahead_0 rfl ?_
    refine z_getR (j := 0) (r := 1) kX11 lf_X11_10 (by decide) rfl dX11_ahead_1 k0_0 s0_0 r0_0_0 (by decide) ?_
    refine z_iload_n dX11_ahead_4 rfl ?_
    refine z_iV1 (c_X7_hasHour g l (by decide)) mw_X7_hasHour lm_X11_107 mi_X7_hasHour mv_X7_hasHour kX7 (by decide) (Nat.le_of_ble_eq_true rfl) zle k0_1 s0_1 dX11_ahead_5 (fun r5 M5 q5 => ?_)
    obtain ⟨qm5, qr5⟩ := q5
    obtain rfl := qm5.symm
    obtain ⟨c5, rfl⟩ | ⟨c5, rfl⟩ := qr5
    · exact absurd (show _ ∧ _ < nI A.n by rw [← C.road.2.1]; exact c5) hx
    · refine z_if_ne (tgt := 14) dX11_ahead_8 (by decide) (fun b8 => ?_) (fun b8 => ?_)
      · exact absurd b8 (by decide)
      · refine z_bipush (v := (-2)) dX11_ahead_11 (by decide) ?_
        refine z_iret dX11_ahead_13 rfl zle ?_
        exact zAns.of C (by unfold aAhead; rw [aIx_out hx])

set_option maxRecDepth 100000 in
set_option maxHeartbeats 4000000 in
theorem c_X11_comes (g : zG) (l : Launch) {M : zM} {A : aSt} (ok : aOK A) (C : RelC M A) {x w : Int32} : zMet g l yX11_comes cX11_comes 4 (some .int) 5 0 0 [.ref 0, .int x, .int w] S0 M (zQi (fun r' M' => zAns M A (aComes A x w) r' M')) := by
  have n8 : A.n ≤ 8 := ok.s.1.1
  have r4 : A.r ≤ 4 := ok.s.1.2.1
  have i6 : A.i ≤ 6 := ok.s.1.2.2.1
  have R : zDR M M 18 A.s A.n A.r A.i := ⟨C.day, fun _ _ => rfl⟩
  rcases zInD x (show A.r < 1000 by omega) with ⟨h, hh, rfl⟩ | hx
  · refine zMet.of (by decide) (Nat.le_of_ble_eq_true rfl) ?_
    refine z_aload_n dX11_comes_0 rfl ?_
    refine z_getR (j := 0) (r := 1) kX11 lf_X11_10 (by decide) rfl dX11_comes_1 k0_0 s0_0 r0_0_0 (by decide) ?_
    refine z_iload_n dX11_comes_4 rfl ?_
    refine z_iV1 (c_X7_hasRider g l (by decide)) mw_X7_hasRider lm_X11_130 mi_X7_hasRider mv_X7_hasRider kX7 (by decide) (Nat.le_of_ble_eq_true rfl) zle k0_1 s0_1 dX11_comes_5 (fun r5 M5 q5 => ?_)
    obtain ⟨qm5, qr5⟩ := q5
    obtain rfl := qm5.symm
    obtain ⟨c5, rfl⟩ | ⟨c5, rfl⟩ := qr5
    · refine z_if_ne (tgt := 14) dX11_comes_8 (by decide) (fun b8 => ?_) (fun b8 => ?_)
      · refine z_iload_n dX11_comes_14 rfl ?_
        refine z_if_lt (tgt := 23) dX11_comes_15 (by decide) (fun b15 => ?_) (fun b15 => ?_)
        · refine z_bipush (v := (-3)) dX11_comes_23 (by decide) ?_
          refine z_iret dX11_comes_25 rfl zle ?_
          exact zAns.of C (by unfold aComes; rw [aIx_in hh (by omega)]; exact (if_pos (by first | exact Or.inl b15 | exact Or.inr (Int32.not_le.mp b20))).symm)
        · refine z_iload_n dX11_comes_18 rfl ?_
          refine z_iconst (v := 1) dX11_comes_19 (by decide) ?_
          refine z_icmp_le (tgt := 26) dX11_comes_20 (by decide) (fun b20 => ?_) (fun b20 => ?_)
          · refine z_aload_n dX11_comes_26 rfl ?_
            refine z_getR (j := 4) (r := 25) kX11 lf_X11_41 (by decide) rfl dX11_comes_27 k0_0 s0_0 r0_0_4 (by decide) ?_
            refine z_aload_n dX11_comes_30 rfl ?_
            refine z_getR (j := 3) (r := 18) kX11 lf_X11_37 (by decide) rfl dX11_comes_31 k0_0 s0_0 r0_0_3 (by decide) ?_
            refine z_vV1 (c_X1_become g l (by decide) (by decide) (by decide) ⟨n8, r4⟩ C.day) mw_X1_become lm_X11_180 mi_X1_become mv_X1_become kX1 (by decide) (Nat.le_of_ble_eq_true rfl) zle k0_25 s0_25 dX11_comes_34 (fun M34 q34 => ?_)
            refine z_aload_n dX11_comes_37 rfl ?_
            refine z_getR (j := 4) (r := 25) kX11 lf_X11_41 (by decide) rfl dX11_comes_38 k0_0 s0_0 r0_0_4 (by decide) ?_
            refine z_iload_n dX11_comes_41 rfl ?_
            refine z_bipush (v := 60) dX11_comes_42 (by decide) ?_
            refine z_iV2 (c_X1_passUntilThere2 (most := 60) g l (by decide) ok.s hh (by omega) q34) mw_X1_passUntilThere lm_X11_189 mi_X1_passUntilThere mv_X1_passUntilThere kX1 (by decide) (Nat.le_of_ble_eq_true rfl) zle k0_25 s0_25 dX11_comes_44 (fun r44 M44 q44 => ?_)
            obtain ⟨qc, k, hk, qk, qr⟩ := q44
            have C1 := C.fore (fun k a => qk.2 k (by omega))
            have bb : ¬ (w < 0 ∨ 1 < w) := fun z2 => z2.elim b15 (Int32.not_lt.mpr b20)
            refine z_istore_n dX11_comes_47 (by decide) rfl rfl ?_
            refine z_iload_n dX11_comes_48 rfl ?_
            refine z_iconst (v := (-1)) dX11_comes_49 (by decide) ?_
            refine z_icmp_eq (tgt := 57) dX11_comes_50 (by decide) (fun b50 => ?_) (fun b50 => ?_)
            · refine z_iload_n dX11_comes_57 rfl ?_
              refine z_goto (tgt := 70) dX11_comes_58 (by decide) ?_
              refine z_iret dX11_comes_70 rfl zle ?_
              first
                | exact ⟨by rw [qc]; unfold aComes; rw [aIx_in hh (by omega), if_neg bb]; exact (if_pos (by first | exact Or.inr b54 | exact Or.inl (qc.symm.trans b50))).symm, C1.1, C1.2⟩
                | (have kk := qr.resolve_right b50
                   have k2 : (dCome A.s A.n A.r A.i h 60).toNatClampNeg = k := by rw [← qc, kk]; exact nI_clamp (by omega)
                   exact ⟨by unfold aComes; rw [aIx_in hh (by omega), if_neg bb, if_neg (fun z2 => z2.elim (fun z3 => b50 (qc.trans z3)) b54), k2], C1.1, C1.2⟩)
            · refine z_iload_n dX11_comes_53 rfl ?_
              refine z_if_ne (tgt := 61) dX11_comes_54 (by decide) (fun b54 => ?_) (fun b54 => ?_)
              · refine z_aload_n dX11_comes_61 rfl ?_
                refine z_getR (j := 4) (r := 25) kX11 lf_X11_41 (by decide) rfl dX11_comes_62 k0_0 s0_0 r0_0_4 (by decide) ?_
                refine z_getR (j := 8) (r := 31) kX1 lf_X11_139 (by decide) rfl dX11_comes_65 k0_25 s0_25 r0_25_8 (by decide) ?_
                refine z_iload_n dX11_comes_68 rfl ?_
                refine z_ialdV (j := h) rfl (by omega) (qk.1.2.2.2.2 h hh).2.2 dX11_comes_69 k0_31 s0_31 ?_
                refine z_iret dX11_comes_70 rfl zle ?_
                first
                  | exact ⟨by rw [qc]; unfold aComes; rw [aIx_in hh (by omega), if_neg bb]; exact (if_pos (by first | exact Or.inr b54 | exact Or.inl (qc.symm.trans b50))).symm, C1.1, C1.2⟩
                  | (have kk := qr.resolve_right b50
                     have k2 : (dCome A.s A.n A.r A.i h 60).toNatClampNeg = k := by rw [← qc, kk]; exact nI_clamp (by omega)
                     exact ⟨by unfold aComes; rw [aIx_in hh (by omega), if_neg bb, if_neg (fun z2 => z2.elim (fun z3 => b50 (qc.trans z3)) b54), k2], C1.1, C1.2⟩)
              · refine z_iload_n dX11_comes_57 rfl ?_
                refine z_goto (tgt := 70) dX11_comes_58 (by decide) ?_
                refine z_iret dX11_comes_70 rfl zle ?_
                first
                  | exact ⟨by rw [qc]; unfold aComes; rw [aIx_in hh (by omega), if_neg bb]; exact (if_pos (by first | exact Or.inr b54 | exact Or.inl (qc.symm.trans b50))).symm, C1.1, C1.2⟩
                  | (have kk := qr.resolve_right b50
                     have k2 : (dCome A.s A.n A.r A.i h 60).toNatClampNeg = k := by rw [← qc, kk]; exact nI_clamp (by omega)
                     exact ⟨by unfold aComes; rw [aIx_in hh (by omega), if_neg bb, if_neg (fun z2 => z2.elim (fun z3 => b50 (qc.trans z3)) b54), k2], C1.1, C1.2⟩)
          · refine z_bipush (v := (-3)) dX11_comes_23 (by decide) ?_
            refine z_iret dX11_comes_25 rfl zle ?_
            exact zAns.of C (by unfold aComes; rw [aIx_in hh (by omega)]; exact (if_pos (by first | exact Or.inl b15 | exact Or.inr (Int32.not_le.mp b20))).symm)
      · exact absurd b8 (by decide)
    · exact absurd (show 0 ≤ nI h ∧ nI h < M 1 2 by rw [C.road.2.2.1]; exact zInP hh (by omega)) c5
  · refine zMet.of (by decide) (Nat.le_of_ble_eq_true rfl) ?_
    refine z_aload_n dX11_comes_0 rfl ?_
    refine z_getR (j := 0) (r := 1) kX11 lf_X11_10 (by decide) rfl dX11_comes_1 k0_0 s0_0 r0_0_0 (by decide) ?_
    refine z_iload_n dX11_comes_4 rfl ?_
    refine z_iV1 (c_X7_hasRider g l (by decide)) mw_X7_hasRider lm_X11_130 mi_X7_hasRider mv_X7_hasRider kX7 (by decide) (Nat.le_of_ble_eq_true rfl) zle k0_1 s0_1 dX11_comes_5 (fun r5 M5 q5 => ?_)
    obtain ⟨qm5, qr5⟩ := q5
    obtain rfl := qm5.symm
    obtain ⟨c5, rfl⟩ | ⟨c5, rfl⟩ := qr5
    · exact absurd (show _ ∧ _ < nI A.r by rw [← C.road.2.2.1]; exact c5) hx
    · refine z_if_ne (tgt := 14) dX11_comes_8 (by decide) (fun b8 => ?_) (fun b8 => ?_)
      · exact absurd b8 (by decide)
      · refine z_bipush (v := (-2)) dX11_comes_11 (by decide) ?_
        refine z_iret dX11_comes_13 rfl zle ?_
        exact zAns.of C (by unfold aComes; rw [aIx_out hx])

set_option maxRecDepth 100000 in
set_option maxHeartbeats 4000000 in
theorem c_X11_match (g : zG) (l : Launch) {M : zM} {A : aSt} (ok : aOK A) (C : RelC M A) {x : Int32} : zMet g l yX11_match cX11_match 2 (some .int) 8 0 0 [.ref 0, .int x] S0 M (zQi (fun r' M' => zAns M A (aMatch A (M 108) (M 107) x) r' M')) := by
  have n8 : A.n ≤ 8 := ok.s.1.1
  have r4 : A.r ≤ 4 := ok.s.1.2.1
  have i6 : A.i ≤ 6 := ok.s.1.2.2.1
  have R : zDR M M 18 A.s A.n A.r A.i := ⟨C.day, fun _ _ => rfl⟩
  have hp1 : ∀ k, k < 106 ∨ 108 < k → zPair M (aPair A (M 108) (M 107)) k = M k := fun k a => zPair_o a
  have C1 : RelC (zPair M (aPair A (M 108) (M 107))) A := C.keep (fun k a => hp1 k (by omega))
  have F1 : ∀ k, 127 ≤ k → zPair M (aPair A (M 108) (M 107)) k = M k := fun k a => hp1 k (by omega)
  rcases zInD x (show A.r < 1000 by omega) with ⟨h, hh, rfl⟩ | hx
  · have hn1 : ¬ nI h = -1 := nI_nm1 (by omega)
    refine zMet.of (by decide) (Nat.le_of_ble_eq_true rfl) ?_
    refine z_iload_n dX11_match_0 rfl ?_
    refine z_iconst (v := (-1)) dX11_match_1 (by decide) ?_
    refine z_icmp_eq (tgt := 19) dX11_match_2 (by decide) (fun b2 => ?_) (fun b2 => ?_)
    · exact absurd b2 hn1
    · refine z_aload_n dX11_match_5 rfl ?_
      refine z_getR (j := 0) (r := 1) kX11 lf_X11_10 (by decide) rfl dX11_match_6 k0_0 s0_0 r0_0_0 (by decide) ?_
      refine z_iload_n dX11_match_9 rfl ?_
      refine z_iV1 (c_X7_hasRider g l (by decide)) mw_X7_hasRider lm_X11_130 mi_X7_hasRider mv_X7_hasRider kX7 (by decide) (Nat.le_of_ble_eq_true rfl) zle k0_1 s0_1 dX11_match_10 (fun r10 M10 q10 => ?_)
      obtain ⟨qm10, qr10⟩ := q10
      obtain rfl := qm10.symm
      obtain ⟨c10, rfl⟩ | ⟨c10, rfl⟩ := qr10
      · refine z_if_ne (tgt := 19) dX11_match_13 (by decide) (fun b13 => ?_) (fun b13 => ?_)
        · refine z_aload_n dX11_match_19 rfl ?_
          refine z_getR (j := 8) (r := 106) kX11 lf_X11_62 (by decide) rfl dX11_match_20 k0_0 s0_0 r0_0_8 (by decide) ?_
          refine z_aload_n dX11_match_23 rfl ?_
          refine z_getR (j := 3) (r := 18) kX11 lf_X11_37 (by decide) rfl dX11_match_24 k0_0 s0_0 r0_0_3 (by decide) ?_
          refine z_vV1 (c_X4_pair g l C.day ok.s) mw_X4_pair lm_X11_192 mi_X4_pair mv_X4_pair kX4 (by decide) (Nat.le_of_ble_eq_true rfl) zle k0_106 s0_106 dX11_match_27 (fun M27 q27 => ?_)
          obtain rfl := q27.symm
          refine z_aload_n dX11_match_30 rfl ?_
          refine z_getR (j := 8) (r := 106) kX11 lf_X11_62 (by decide) rfl dX11_match_31 k0_0 s0_0 r0_0_8 (by decide) ?_
          refine z_getIV (j := 3) kX4 lf_X11_195 (by decide) rfl zPair_f dX11_match_34 k0_106 s0_106 ?_
          refine z_if_ne (tgt := 42) dX11_match_37 (by decide) (fun b37 => ?_) (fun b37 => ?_)
          · have hf : (aPair A (M 108) (M 107)).1 = true := Classical.byContradiction (fun z => b37 (if_neg z))
            refine z_iload_n dX11_match_42 rfl ?_
            refine z_iconst (v := (-1)) dX11_match_43 (by decide) ?_
            refine z_icmp_ne (tgt := 57) dX11_match_44 (by decide) (fun b44 => ?_) (fun b44 => ?_)
            · refine z_aload_n dX11_match_57 rfl ?_
              refine z_getR (j := 8) (r := 106) kX11 lf_X11_62 (by decide) rfl dX11_match_58 k0_0 s0_0 r0_0_8 (by decide) ?_
              refine z_getR (j := 1) (r := 108) kX4 lf_X11_202 (by decide) rfl dX11_match_61 k0_106 s0_106 r0_106_1 (by decide) ?_
              refine z_iload_n dX11_match_64 rfl ?_
              refine z_ialdN (j := h) rfl (by omega) dX11_match_65 k0_108 s0_108 ?_
              refine z_iret dX11_match_66 rfl zle ?_
              exact ⟨by unfold aMatch; rw [if_neg (fun z => z.2 (zInP hh (by omega))), if_pos hf, if_neg hn1, nI_clamp (by omega)]; rfl, C1, F1⟩
            · exact absurd b44 hn1
          · have hf : ¬ (aPair A (M 108) (M 107)).1 = true := fun z => by rw [show (if (pGo A.s A.n A.r 0 0 0 (false, 0, M 108, M 107)).1 = true then (1 : Int32) else 0) = 1 from if_pos z] at b37; exact absurd b37 (by decide)
            refine z_iconst (v := (-1)) dX11_match_40 (by decide) ?_
            refine z_iret dX11_match_41 rfl zle ?_
            exact ⟨by unfold aMatch; rw [if_neg (fun z => z.2 (zInP hh (by omega))), if_neg hf], C1, F1⟩
        · exact absurd b13 (by decide)
      · exact absurd (show 0 ≤ nI h ∧ nI h < M 1 2 by rw [C.road.2.2.1]; exact zInP hh (by omega)) c10
  · by_cases hn1 : x = -1
    · refine zMet.of (by decide) (Nat.le_of_ble_eq_true rfl) ?_
      refine z_iload_n dX11_match_0 rfl ?_
      refine z_iconst (v := (-1)) dX11_match_1 (by decide) ?_
      refine z_icmp_eq (tgt := 19) dX11_match_2 (by decide) (fun b2 => ?_) (fun b2 => ?_)
      · refine z_aload_n dX11_match_19 rfl ?_
        refine z_getR (j := 8) (r := 106) kX11 lf_X11_62 (by decide) rfl dX11_match_20 k0_0 s0_0 r0_0_8 (by decide) ?_
        refine z_aload_n dX11_match_23 rfl ?_
        refine z_getR (j := 3) (r := 18) kX11 lf_X11_37 (by decide) rfl dX11_match_24 k0_0 s0_0 r0_0_3 (by decide) ?_
        refine z_vV1 (c_X4_pair g l C.day ok.s) mw_X4_pair lm_X11_192 mi_X4_pair mv_X4_pair kX4 (by decide) (Nat.le_of_ble_eq_true rfl) zle k0_106 s0_106 dX11_match_27 (fun M27 q27 => ?_)
        obtain rfl := q27.symm
        refine z_aload_n dX11_match_30 rfl ?_
        refine z_getR (j := 8) (r := 106) kX11 lf_X11_62 (by decide) rfl dX11_match_31 k0_0 s0_0 r0_0_8 (by decide) ?_
        refine z_getIV (j := 3) kX4 lf_X11_195 (by decide) rfl zPair_f dX11_match_34 k0_106 s0_106 ?_
        refine z_if_ne (tgt := 42) dX11_match_37 (by decide) (fun b37 => ?_) (fun b37 => ?_)
        · have hf : (aPair A (M 108) (M 107)).1 = true := Classical.byContradiction (fun z => b37 (if_neg z))
          refine z_iload_n dX11_match_42 rfl ?_
          refine z_iconst (v := (-1)) dX11_match_43 (by decide) ?_
          refine z_icmp_ne (tgt := 57) dX11_match_44 (by decide) (fun b44 => ?_) (fun b44 => ?_)
          · exact absurd hn1 b44
          · refine z_aload_n dX11_match_47 rfl ?_
            refine z_getR (j := 8) (r := 106) kX11 lf_X11_62 (by decide) rfl dX11_match_48 k0_0 s0_0 r0_0_8 (by decide) ?_
            refine z_getI (j := 2) kX4 lf_X11_199 (by decide) rfl dX11_match_51 k0_106 s0_106 ?_
            refine z_goto (tgt := 66) dX11_match_54 (by decide) ?_
            refine z_iret dX11_match_66 rfl zle ?_
            exact ⟨by unfold aMatch; rw [if_neg (fun z => z.1 hn1), if_pos hf, if_pos hn1]; rfl, C1, F1⟩
        · have hf : ¬ (aPair A (M 108) (M 107)).1 = true := fun z => by rw [show (if (pGo A.s A.n A.r 0 0 0 (false, 0, M 108, M 107)).1 = true then (1 : Int32) else 0) = 1 from if_pos z] at b37; exact absurd b37 (by decide)
          refine z_iconst (v := (-1)) dX11_match_40 (by decide) ?_
          refine z_iret dX11_match_41 rfl zle ?_
          exact ⟨by unfold aMatch; rw [if_neg (fun z => z.1 hn1), if_neg hf], C1, F1⟩
      · exact absurd hn1 b2
    · refine zMet.of (by decide) (Nat.le_of_ble_eq_true rfl) ?_
      refine z_iload_n dX11_match_0 rfl ?_
      refine z_iconst (v := (-1)) dX11_match_1 (by decide) ?_
      refine z_icmp_eq (tgt := 19) dX11_match_2 (by decide) (fun b2 => ?_) (fun b2 => ?_)
      · exact absurd b2 hn1
      · refine z_aload_n dX11_match_5 rfl ?_
        refine z_getR (j := 0) (r := 1) kX11 lf_X11_10 (by decide) rfl dX11_match_6 k0_0 s0_0 r0_0_0 (by decide) ?_
        refine z_iload_n dX11_match_9 rfl ?_
        refine z_iV1 (c_X7_hasRider g l (by decide)) mw_X7_hasRider lm_X11_130 mi_X7_hasRider mv_X7_hasRider kX7 (by decide) (Nat.le_of_ble_eq_true rfl) zle k0_1 s0_1 dX11_match_10 (fun r10 M10 q10 => ?_)
        obtain ⟨qm10, qr10⟩ := q10
        obtain rfl := qm10.symm
        obtain ⟨c10, rfl⟩ | ⟨c10, rfl⟩ := qr10
        · exact absurd (show _ ∧ _ < nI A.r by rw [← C.road.2.2.1]; exact c10) hx
        · refine z_if_ne (tgt := 19) dX11_match_13 (by decide) (fun b13 => ?_) (fun b13 => ?_)
          · exact absurd b13 (by decide)
          · refine z_bipush (v := (-2)) dX11_match_16 (by decide) ?_
            refine z_iret dX11_match_18 rfl zle ?_
            exact zAns.of C (by unfold aMatch; rw [if_pos ⟨hn1, hx⟩])

set_option maxRecDepth 100000 in
set_option maxHeartbeats 4000000 in
theorem c_X11_falls (g : zG) (l : Launch) {M : zM} {A : aSt} (ok : aOK A) (C : RelC M A) {x q m part : Int32} : zMet g l yX11_falls cX11_falls 5 (some .int) 2 0 0 [.ref 0, .int x, .int q, .int m, .int part] S0 M (zQi (fun r' M' => zAns M A (aFalls x q m part) r' M')) := by
  have n8 : A.n ≤ 8 := ok.s.1.1
  have r4 : A.r ≤ 4 := ok.s.1.2.1
  have i6 : A.i ≤ 6 := ok.s.1.2.2.1
  have R : zDR M M 18 A.s A.n A.r A.i := ⟨C.day, fun _ _ => rfl⟩
  refine zMet.of (by decide) (Nat.le_of_ble_eq_true rfl) ?_
  refine z_iload_n dX11_falls_0 rfl ?_
  refine z_if_lt (tgt := 41) dX11_falls_1 (by decide) (fun b1 => ?_) (fun b1 => ?_)
  · refine z_bipush (v := (-3)) dX11_falls_41 (by decide) ?_
    refine z_iret dX11_falls_43 rfl zle ?_
    have hb : (x < 0 ∨ 9 < x) ∨ (q < 0 ∨ 10 < q) ∨ (m < 0 ∨ 9 < m) ∨ (part < 0 ∨ 1 < part) := by
      first
        | exact Or.inl (Or.inl b1)
        | exact Or.inl (Or.inr b7)
        | exact Or.inr (Or.inl (Or.inl b11))
        | exact Or.inr (Or.inl (Or.inr b17))
        | exact Or.inr (Or.inr (Or.inl (Or.inl b21)))
        | exact Or.inr (Or.inr (Or.inl (Or.inr b27)))
        | exact Or.inr (Or.inr (Or.inr (Or.inl b32)))
        | exact Or.inr (Or.inr (Or.inr (Or.inr (Int32.not_le.mp b38))))
    exact zAns.of C (by unfold aFalls; rw [if_pos hb])
  · refine z_iload_n dX11_falls_4 rfl ?_
    refine z_bipush (v := 9) dX11_falls_5 (by decide) ?_
    refine z_icmp_gt (tgt := 41) dX11_falls_7 (by decide) (fun b7 => ?_) (fun b7 => ?_)
    · refine z_bipush (v := (-3)) dX11_falls_41 (by decide) ?_
      refine z_iret dX11_falls_43 rfl zle ?_
      have hb : (x < 0 ∨ 9 < x) ∨ (q < 0 ∨ 10 < q) ∨ (m < 0 ∨ 9 < m) ∨ (part < 0 ∨ 1 < part) := by
        first
          | exact Or.inl (Or.inl b1)
          | exact Or.inl (Or.inr b7)
          | exact Or.inr (Or.inl (Or.inl b11))
          | exact Or.inr (Or.inl (Or.inr b17))
          | exact Or.inr (Or.inr (Or.inl (Or.inl b21)))
          | exact Or.inr (Or.inr (Or.inl (Or.inr b27)))
          | exact Or.inr (Or.inr (Or.inr (Or.inl b32)))
          | exact Or.inr (Or.inr (Or.inr (Or.inr (Int32.not_le.mp b38))))
      exact zAns.of C (by unfold aFalls; rw [if_pos hb])
    · refine z_iload_n dX11_falls_10 rfl ?_
      refine z_if_lt (tgt := 41) dX11_falls_11 (by decide) (fun b11 => ?_) (fun b11 => ?_)
      · refine z_bipush (v := (-3)) dX11_falls_41 (by decide) ?_
        refine z_iret dX11_falls_43 rfl zle ?_
        have hb : (x < 0 ∨ 9 < x) ∨ (q < 0 ∨ 10 < q) ∨ (m < 0 ∨ 9 < m) ∨ (part < 0 ∨ 1 < part) := by
          first
            | exact Or.inl (Or.inl b1)
            | exact Or.inl (Or.inr b7)
            | exact Or.inr (Or.inl (Or.inl b11))
            | exact Or.inr (Or.inl (Or.inr b17))
            | exact Or.inr (Or.inr (Or.inl (Or.inl b21)))
            | exact Or.inr (Or.inr (Or.inl (Or.inr b27)))
            | exact Or.inr (Or.inr (Or.inr (Or.inl b32)))
            | exact Or.inr (Or.inr (Or.inr (Or.inr (Int32.not_le.mp b38))))
        exact zAns.of C (by unfold aFalls; rw [if_pos hb])
      · refine z_iload_n dX11_falls_14 rfl ?_
        refine z_bipush (v := 10) dX11_falls_15 (by decide) ?_
        refine z_icmp_gt (tgt := 41) dX11_falls_17 (by decide) (fun b17 => ?_) (fun b17 => ?_)
        · refine z_bipush (v := (-3)) dX11_falls_41 (by decide) ?_
          refine z_iret dX11_falls_43 rfl zle ?_
          have hb : (x < 0 ∨ 9 < x) ∨ (q < 0 ∨ 10 < q) ∨ (m < 0 ∨ 9 < m) ∨ (part < 0 ∨ 1 < part) := by
            first
              | exact Or.inl (Or.inl b1)
              | exact Or.inl (Or.inr b7)
              | exact Or.inr (Or.inl (Or.inl b11))
              | exact Or.inr (Or.inl (Or.inr b17))
              | exact Or.inr (Or.inr (Or.inl (Or.inl b21)))
              | exact Or.inr (Or.inr (Or.inl (Or.inr b27)))
              | exact Or.inr (Or.inr (Or.inr (Or.inl b32)))
              | exact Or.inr (Or.inr (Or.inr (Or.inr (Int32.not_le.mp b38))))
          exact zAns.of C (by unfold aFalls; rw [if_pos hb])
        · refine z_iload_n dX11_falls_20 rfl ?_
          refine z_if_lt (tgt := 41) dX11_falls_21 (by decide) (fun b21 => ?_) (fun b21 => ?_)
          · refine z_bipush (v := (-3)) dX11_falls_41 (by decide) ?_
            refine z_iret dX11_falls_43 rfl zle ?_
            have hb : (x < 0 ∨ 9 < x) ∨ (q < 0 ∨ 10 < q) ∨ (m < 0 ∨ 9 < m) ∨ (part < 0 ∨ 1 < part) := by
              first
                | exact Or.inl (Or.inl b1)
                | exact Or.inl (Or.inr b7)
                | exact Or.inr (Or.inl (Or.inl b11))
                | exact Or.inr (Or.inl (Or.inr b17))
                | exact Or.inr (Or.inr (Or.inl (Or.inl b21)))
                | exact Or.inr (Or.inr (Or.inl (Or.inr b27)))
                | exact Or.inr (Or.inr (Or.inr (Or.inl b32)))
                | exact Or.inr (Or.inr (Or.inr (Or.inr (Int32.not_le.mp b38))))
            exact zAns.of C (by unfold aFalls; rw [if_pos hb])
          · refine z_iload_n dX11_falls_24 rfl ?_
            refine z_bipush (v := 9) dX11_falls_25 (by decide) ?_
            refine z_icmp_gt (tgt := 41) dX11_falls_27 (by decide) (fun b27 => ?_) (fun b27 => ?_)
            · refine z_bipush (v := (-3)) dX11_falls_41 (by decide) ?_
              refine z_iret dX11_falls_43 rfl zle ?_
              have hb : (x < 0 ∨ 9 < x) ∨ (q < 0 ∨ 10 < q) ∨ (m < 0 ∨ 9 < m) ∨ (part < 0 ∨ 1 < part) := by
                first
                  | exact Or.inl (Or.inl b1)
                  | exact Or.inl (Or.inr b7)
                  | exact Or.inr (Or.inl (Or.inl b11))
                  | exact Or.inr (Or.inl (Or.inr b17))
                  | exact Or.inr (Or.inr (Or.inl (Or.inl b21)))
                  | exact Or.inr (Or.inr (Or.inl (Or.inr b27)))
                  | exact Or.inr (Or.inr (Or.inr (Or.inl b32)))
                  | exact Or.inr (Or.inr (Or.inr (Or.inr (Int32.not_le.mp b38))))
              exact zAns.of C (by unfold aFalls; rw [if_pos hb])
            · refine z_iload dX11_falls_30 rfl ?_
              refine z_if_lt (tgt := 41) dX11_falls_32 (by decide) (fun b32 => ?_) (fun b32 => ?_)
              · refine z_bipush (v := (-3)) dX11_falls_41 (by decide) ?_
                refine z_iret dX11_falls_43 rfl zle ?_
                have hb : (x < 0 ∨ 9 < x) ∨ (q < 0 ∨ 10 < q) ∨ (m < 0 ∨ 9 < m) ∨ (part < 0 ∨ 1 < part) := by
                  first
                    | exact Or.inl (Or.inl b1)
                    | exact Or.inl (Or.inr b7)
                    | exact Or.inr (Or.inl (Or.inl b11))
                    | exact Or.inr (Or.inl (Or.inr b17))
                    | exact Or.inr (Or.inr (Or.inl (Or.inl b21)))
                    | exact Or.inr (Or.inr (Or.inl (Or.inr b27)))
                    | exact Or.inr (Or.inr (Or.inr (Or.inl b32)))
                    | exact Or.inr (Or.inr (Or.inr (Or.inr (Int32.not_le.mp b38))))
                exact zAns.of C (by unfold aFalls; rw [if_pos hb])
              · refine z_iload dX11_falls_35 rfl ?_
                refine z_iconst (v := 1) dX11_falls_37 (by decide) ?_
                refine z_icmp_le (tgt := 44) dX11_falls_38 (by decide) (fun b38 => ?_) (fun b38 => ?_)
                · have hb : ¬ ((x < 0 ∨ 9 < x) ∨ (q < 0 ∨ 10 < q) ∨ (m < 0 ∨ 9 < m) ∨ (part < 0 ∨ 1 < part)) := fun z => z.elim (fun z => z.elim b1 b7) (fun z => z.elim (fun z => z.elim b11 b17) (fun z => z.elim (fun z => z.elim b21 b27) (fun z => z.elim b32 (Int32.not_lt.mpr b38))))
                  obtain ⟨u, hu1, hu2, rfl⟩ := (zIdx x (a := 0) (c := 9) (by omega) (by omega)).resolve_right (fun z => z.elim b1 b7)
                  obtain ⟨v, hv1, hv2, rfl⟩ := (zIdx m (a := 0) (c := 9) (by omega) (by omega)).resolve_right (fun z => z.elim b21 b27)
                  refine z_iload_n dX11_falls_44 rfl ?_
                  refine z_iload_n dX11_falls_45 rfl ?_
                  refine z_iload_n dX11_falls_46 rfl ?_
                  refine z_iload dX11_falls_47 rfl ?_
                  refine z_iS4 (c_X3_ofFalls g l (q := q) (part := part) (by omega : u < 10) (by omega : v < 10)) mw_X3_ofFalls lm_X11_227 ms_X3_ofFalls (by decide) (Nat.le_of_ble_eq_true rfl) zle dX11_falls_49 (fun r49 M49 q49 => ?_)
                  obtain ⟨qr49, qm49⟩ := q49
                  obtain rfl := qr49.symm
                  obtain rfl := qm49.symm
                  refine z_iret dX11_falls_52 rfl zle ?_
                  exact zAns.of C (by unfold aFalls; rw [if_neg hb, nI_clamp (by omega), nI_clamp (by omega)])
                · refine z_bipush (v := (-3)) dX11_falls_41 (by decide) ?_
                  refine z_iret dX11_falls_43 rfl zle ?_
                  have hb : (x < 0 ∨ 9 < x) ∨ (q < 0 ∨ 10 < q) ∨ (m < 0 ∨ 9 < m) ∨ (part < 0 ∨ 1 < part) := by
                    first
                      | exact Or.inl (Or.inl b1)
                      | exact Or.inl (Or.inr b7)
                      | exact Or.inr (Or.inl (Or.inl b11))
                      | exact Or.inr (Or.inl (Or.inr b17))
                      | exact Or.inr (Or.inr (Or.inl (Or.inl b21)))
                      | exact Or.inr (Or.inr (Or.inl (Or.inr b27)))
                      | exact Or.inr (Or.inr (Or.inr (Or.inl b32)))
                      | exact Or.inr (Or.inr (Or.inr (Or.inr (Int32.not_le.mp b38))))
                  exact zAns.of C (by unfold aFalls; rw [if_pos hb])

set_option maxRecDepth 100000 in
set_option maxHeartbeats 4000000 in
theorem c_X11_seen (g : zG) (l : Launch) {M : zM} {A : aSt} (ok : aOK A) (C : RelC M A) {m t d : Int32} : zMet g l yX11_seen cX11_seen 4 (some .int) 1 0 0 [.ref 0, .int m, .int t, .int d] S0 M (zQi (fun r' M' => zStp M (sSeen A m t d) r' M')) := by
  have n8 : A.n ≤ 8 := ok.s.1.1
  have r4 : A.r ≤ 4 := ok.s.1.2.1
  have i6 : A.i ≤ 6 := ok.s.1.2.2.1
  have R : zDR M M 18 A.s A.n A.r A.i := ⟨C.day, fun _ _ => rfl⟩
  have v6 := ok.v
  refine zMet.of (by decide) (Nat.le_of_ble_eq_true rfl) ?_
  refine z_iload_n dX11_seen_0 rfl ?_
  refine z_iconst (v := 1) dX11_seen_1 (by decide) ?_
  refine z_icmp_lt (tgt := 31) dX11_seen_2 (by decide) (fun b2 => ?_) (fun b2 => ?_)
  · refine z_bipush (v := (-3)) dX11_seen_31 (by decide) ?_
    refine z_iret dX11_seen_33 rfl zle ?_
    have hb : (m < 1 ∨ 9 < m) ∨ (t < 0 ∨ 20 < t) ∨ (d < 0 ∨ 20 < d) := by
      first
        | exact Or.inl (Or.inl b2)
        | exact Or.inl (Or.inr b8)
        | exact Or.inr (Or.inl (Or.inl b12))
        | exact Or.inr (Or.inl (Or.inr b18))
        | exact Or.inr (Or.inr (Or.inl b22))
        | exact Or.inr (Or.inr (Or.inr (Int32.not_le.mp b28)))
    exact zStp.of C (by unfold sSeen; rw [if_pos hb])
  · refine z_iload_n dX11_seen_5 rfl ?_
    refine z_bipush (v := 9) dX11_seen_6 (by decide) ?_
    refine z_icmp_gt (tgt := 31) dX11_seen_8 (by decide) (fun b8 => ?_) (fun b8 => ?_)
    · refine z_bipush (v := (-3)) dX11_seen_31 (by decide) ?_
      refine z_iret dX11_seen_33 rfl zle ?_
      have hb : (m < 1 ∨ 9 < m) ∨ (t < 0 ∨ 20 < t) ∨ (d < 0 ∨ 20 < d) := by
        first
          | exact Or.inl (Or.inl b2)
          | exact Or.inl (Or.inr b8)
          | exact Or.inr (Or.inl (Or.inl b12))
          | exact Or.inr (Or.inl (Or.inr b18))
          | exact Or.inr (Or.inr (Or.inl b22))
          | exact Or.inr (Or.inr (Or.inr (Int32.not_le.mp b28)))
      exact zStp.of C (by unfold sSeen; rw [if_pos hb])
    · refine z_iload_n dX11_seen_11 rfl ?_
      refine z_if_lt (tgt := 31) dX11_seen_12 (by decide) (fun b12 => ?_) (fun b12 => ?_)
      · refine z_bipush (v := (-3)) dX11_seen_31 (by decide) ?_
        refine z_iret dX11_seen_33 rfl zle ?_
        have hb : (m < 1 ∨ 9 < m) ∨ (t < 0 ∨ 20 < t) ∨ (d < 0 ∨ 20 < d) := by
          first
            | exact Or.inl (Or.inl b2)
            | exact Or.inl (Or.inr b8)
            | exact Or.inr (Or.inl (Or.inl b12))
            | exact Or.inr (Or.inl (Or.inr b18))
            | exact Or.inr (Or.inr (Or.inl b22))
            | exact Or.inr (Or.inr (Or.inr (Int32.not_le.mp b28)))
        exact zStp.of C (by unfold sSeen; rw [if_pos hb])
      · refine z_iload_n dX11_seen_15 rfl ?_
        refine z_bipush (v := 20) dX11_seen_16 (by decide) ?_
        refine z_icmp_gt (tgt := 31) dX11_seen_18 (by decide) (fun b18 => ?_) (fun b18 => ?_)
        · refine z_bipush (v := (-3)) dX11_seen_31 (by decide) ?_
          refine z_iret dX11_seen_33 rfl zle ?_
          have hb : (m < 1 ∨ 9 < m) ∨ (t < 0 ∨ 20 < t) ∨ (d < 0 ∨ 20 < d) := by
            first
              | exact Or.inl (Or.inl b2)
              | exact Or.inl (Or.inr b8)
              | exact Or.inr (Or.inl (Or.inl b12))
              | exact Or.inr (Or.inl (Or.inr b18))
              | exact Or.inr (Or.inr (Or.inl b22))
              | exact Or.inr (Or.inr (Or.inr (Int32.not_le.mp b28)))
          exact zStp.of C (by unfold sSeen; rw [if_pos hb])
        · refine z_iload_n dX11_seen_21 rfl ?_
          refine z_if_lt (tgt := 31) dX11_seen_22 (by decide) (fun b22 => ?_) (fun b22 => ?_)
          · refine z_bipush (v := (-3)) dX11_seen_31 (by decide) ?_
            refine z_iret dX11_seen_33 rfl zle ?_
            have hb : (m < 1 ∨ 9 < m) ∨ (t < 0 ∨ 20 < t) ∨ (d < 0 ∨ 20 < d) := by
              first
                | exact Or.inl (Or.inl b2)
                | exact Or.inl (Or.inr b8)
                | exact Or.inr (Or.inl (Or.inl b12))
                | exact Or.inr (Or.inl (Or.inr b18))
                | exact Or.inr (Or.inr (Or.inl b22))
                | exact Or.inr (Or.inr (Or.inr (Int32.not_le.mp b28)))
            exact zStp.of C (by unfold sSeen; rw [if_pos hb])
          · refine z_iload_n dX11_seen_25 rfl ?_
            refine z_bipush (v := 20) dX11_seen_26 (by decide) ?_
            refine z_icmp_le (tgt := 34) dX11_seen_28 (by decide) (fun b28 => ?_) (fun b28 => ?_)
            · have hb : ¬ ((m < 1 ∨ 9 < m) ∨ (t < 0 ∨ 20 < t) ∨ (d < 0 ∨ 20 < d)) := fun z => z.elim (fun z => z.elim b2 b8) (fun z => z.elim (fun z => z.elim b12 b18) (fun z => z.elim b22 (Int32.not_lt.mpr b28)))
              refine z_aload_n dX11_seen_34 rfl ?_
              refine z_getR (j := 9) (r := 109) kX11 lf_X11_69 (by decide) rfl dX11_seen_35 k0_0 s0_0 r0_0_9 (by decide) ?_
              refine z_getIV (j := 3) kX9 lf_X11_231 (by decide) rfl C.see.1 dX11_seen_38 k0_109 s0_109 ?_
              refine z_bipush (v := 6) dX11_seen_41 (by decide) ?_
              refine z_icmp_lt (tgt := 49) dX11_seen_43 (by decide) (fun b43 => ?_) (fun b43 => ?_)
              · have hL : A.v < 6 := (nI_ltI (b := 6) (by omega) (by omega)).mp b43
                refine z_aload_n dX11_seen_49 rfl ?_
                refine z_getR (j := 9) (r := 109) kX11 lf_X11_69 (by decide) rfl dX11_seen_50 k0_0 s0_0 r0_0_9 (by decide) ?_
                refine z_iload_n dX11_seen_53 rfl ?_
                refine z_iload_n dX11_seen_54 rfl ?_
                refine z_iload_n dX11_seen_55 rfl ?_
                refine z_vV3 (c_X9_append g l hL C.see.1) mw_X9_append lm_X11_232 mi_X9_append mv_X9_append kX9 (by decide) (Nat.le_of_ble_eq_true rfl) zle k0_109 s0_109 dX11_seen_56 (fun M56 q56 => ?_)
                obtain rfl := q56.symm
                refine z_aload_n dX11_seen_59 rfl ?_
                refine z_getR (j := 9) (r := 109) kX11 lf_X11_69 (by decide) rfl dX11_seen_60 k0_0 s0_0 r0_0_9 (by decide) ?_
                refine z_getIV (j := 3) kX9 lf_X11_231 (by decide) rfl (z_up_kj _ _ _ _) dX11_seen_63 k0_109 s0_109 ?_
                refine z_iret dX11_seen_66 rfl zle ?_
                have C1 := C.setSee (M' := z_up (z_up (z_up (z_up M 110 A.v m) 111 A.v t) 112 A.v d) 109 3 (nI (A.v + 1))) (x := (A.v + 1, upd A.sm A.v m, upd A.st A.v t, upd A.sd A.v d)) (z_up_kj _ _ _ _) (fun j hj => by
                  have hj2 : j < A.v + 1 := hj
                  have f1 : (z_up (z_up (z_up (z_up M 110 A.v m) 111 A.v t) 112 A.v d) 109 3 (nI (A.v + 1))) 110 j = upd (M 110) A.v m j := by rw [z_up_n _ _ _ (by omega), z_up_n _ _ _ (by omega), z_up_n _ _ _ (by omega), z_up_s]
                  have f2 : (z_up (z_up (z_up (z_up M 110 A.v m) 111 A.v t) 112 A.v d) 109 3 (nI (A.v + 1))) 111 j = upd (M 111) A.v t j := by rw [z_up_n _ _ _ (by omega), z_up_n _ _ _ (by omega), z_up_s, z_up_n _ _ _ (by omega)]
                  have f3 : (z_up (z_up (z_up (z_up M 110 A.v m) 111 A.v t) 112 A.v d) 109 3 (nI (A.v + 1))) 112 j = upd (M 112) A.v d j := by rw [z_up_n _ _ _ (by omega), z_up_s, z_up_n _ _ _ (by omega), z_up_n _ _ _ (by omega)]
                  rw [f1, f2, f3]
                  show _ = upd A.sm A.v m j ∧ _ = upd A.st A.v t j ∧ _ = upd A.sd A.v d j
                  by_cases e : j = A.v
                  · subst e; exact ⟨(upd_s _ _ _).trans (upd_s _ _ _).symm, (upd_s _ _ _).trans (upd_s _ _ _).symm, (upd_s _ _ _).trans (upd_s _ _ _).symm⟩
                  · obtain ⟨a1, a2, a3⟩ := C.see.2 j (by omega)
                    exact ⟨(upd_n _ _ e).trans (a1.trans (upd_n _ _ e).symm), (upd_n _ _ e).trans (a2.trans (upd_n _ _ e).symm), (upd_n _ _ e).trans (a3.trans (upd_n _ _ e).symm)⟩) (fun k a => by rw [z_up_n _ _ _ (by omega), z_up_n _ _ _ (by omega), z_up_n _ _ _ (by omega), z_up_n _ _ _ (by omega)])
                exact zStp.mk C1.1 C1.2 (by unfold sSeen; rw [if_neg hb, if_neg (by omega)]) rfl
              · have hL : A.v = 6 := by
                  have h1 : ¬ A.v < 6 := fun z => b43 ((nI_ltI (a := A.v) (b := 6) (by omega) (by omega)).mpr z)
                  omega
                refine z_bipush (v := (-5)) dX11_seen_46 (by decide) ?_
                refine z_iret dX11_seen_48 rfl zle ?_
                exact zStp.of C (by unfold sSeen; rw [if_neg hb, if_pos hL])
            · refine z_bipush (v := (-3)) dX11_seen_31 (by decide) ?_
              refine z_iret dX11_seen_33 rfl zle ?_
              have hb : (m < 1 ∨ 9 < m) ∨ (t < 0 ∨ 20 < t) ∨ (d < 0 ∨ 20 < d) := by
                first
                  | exact Or.inl (Or.inl b2)
                  | exact Or.inl (Or.inr b8)
                  | exact Or.inr (Or.inl (Or.inl b12))
                  | exact Or.inr (Or.inl (Or.inr b18))
                  | exact Or.inr (Or.inr (Or.inl b22))
                  | exact Or.inr (Or.inr (Or.inr (Int32.not_le.mp b28)))
              exact zStp.of C (by unfold sSeen; rw [if_pos hb])

set_option maxRecDepth 100000 in
set_option maxHeartbeats 4000000 in
theorem c_X11_forget (g : zG) (l : Launch) {M : zM} {A : aSt} (ok : aOK A) (C : RelC M A) : zMet g l yX11_forget cX11_forget 2 (some .int) 1 0 0 [.ref 0] S0 M (zQi (fun r' M' => zStp M (sForget A) r' M')) := by
  have n8 : A.n ≤ 8 := ok.s.1.1
  have r4 : A.r ≤ 4 := ok.s.1.2.1
  have i6 : A.i ≤ 6 := ok.s.1.2.2.1
  have R : zDR M M 18 A.s A.n A.r A.i := ⟨C.day, fun _ _ => rfl⟩
  refine zMet.of (by decide) (Nat.le_of_ble_eq_true rfl) ?_
  refine z_aload_n dX11_forget_0 rfl ?_
  refine z_getR (j := 9) (r := 109) kX11 lf_X11_69 (by decide) rfl dX11_forget_1 k0_0 s0_0 r0_0_9 (by decide) ?_
  refine z_getIV (j := 3) kX9 lf_X11_231 (by decide) rfl C.see.1 dX11_forget_4 k0_109 s0_109 ?_
  refine z_istore_n dX11_forget_7 (by decide) rfl rfl ?_
  refine z_aload_n dX11_forget_8 rfl ?_
  refine z_getR (j := 9) (r := 109) kX11 lf_X11_69 (by decide) rfl dX11_forget_9 k0_0 s0_0 r0_0_9 (by decide) ?_
  refine z_vV0 (c_X9_clear g l) mw_X9_clear lm_X11_235 mi_X9_clear mv_X9_clear kX9 (by decide) (Nat.le_of_ble_eq_true rfl) zle k0_109 s0_109 dX11_forget_12 (fun M12 q12 => ?_)
  obtain rfl := q12.symm
  refine z_iload_n dX11_forget_15 rfl ?_
  refine z_iret dX11_forget_16 rfl zle ?_
  have C1 := C.setSee (M' := z_up M 109 3 0) (x := (0, A.sm, A.st, A.sd)) (z_up_kj _ _ _ _) (fun j hj => absurd hj (Nat.not_lt_zero _)) (fun k a => by rw [z_up_n _ _ _ (by omega)])
  exact zStp.mk C1.1 C1.2 rfl rfl

set_option maxRecDepth 100000 in
set_option maxHeartbeats 4000000 in
theorem c_X11_kinds (g : zG) (l : Launch) {M : zM} {A : aSt} (ok : aOK A) (C : RelC M A) : zMet g l yX11_kinds cX11_kinds 1 (some .int) 3 0 0 [.ref 0] S0 M (zQi (fun r' M' => zAns M A (fKinds (aSeen A) A.v 5) r' M')) := by
  refine zMet.of (by decide) (Nat.le_of_ble_eq_true rfl) ?_
  refine z_aload_n dX11_kinds_0 rfl ?_
  refine z_getR (j := 9) (r := 109) kX11 lf_X11_69 (by decide) rfl dX11_kinds_1 k0_0 s0_0 r0_0_9 (by decide) ?_
  refine z_iV0 (c_X9_fittingKinds g l ok.v C.see.1) mw_X9_fittingKinds lm_X11_236 mi_X9_fittingKinds mv_X9_fittingKinds kX9 (by decide) (Nat.le_of_ble_eq_true rfl) zle k0_109 s0_109 dX11_kinds_4 (fun r4 M4 q4 => ?_)
  obtain ⟨qr4, qm4⟩ := q4
  obtain rfl := qr4.symm
  obtain rfl := qm4.symm
  refine z_iret dX11_kinds_7 rfl zle ?_
  exact zAns.of C (fKinds_cg (aSeen_cg C) 5)

set_option maxRecDepth 100000 in
set_option maxHeartbeats 4000000 in
theorem c_X11_ask (g : zG) (l : Launch) {M : zM} {A : aSt} (ok : aOK A) (C : RelC M A) : zMet g l yX11_ask cX11_ask 1 (some .int) 4 0 0 [.ref 0] S0 M (zQi (fun r' M' => zAns M A ((fAsk (fKinds (aSeen A) A.v 5) 9).1) r' M')) := by
  refine zMet.of (by decide) (Nat.le_of_ble_eq_true rfl) ?_
  refine z_aload_n dX11_ask_0 rfl ?_
  refine z_getR (j := 9) (r := 109) kX11 lf_X11_69 (by decide) rfl dX11_ask_1 k0_0 s0_0 r0_0_9 (by decide) ?_
  refine z_iV0 (c_X9_bestMiles g l ok.v C.see.1) mw_X9_bestMiles lm_X11_239 mi_X9_bestMiles mv_X9_bestMiles kX9 (by decide) (Nat.le_of_ble_eq_true rfl) zle k0_109 s0_109 dX11_ask_4 (fun r4 M4 q4 => ?_)
  obtain ⟨qr4, qm4⟩ := q4
  obtain rfl := qr4.symm
  obtain rfl := qm4.symm
  refine z_iret dX11_ask_7 rfl zle ?_
  exact zAns.of C (by rw [fKinds_cg (aSeen_cg C) 5])

set_option maxRecDepth 100000 in
set_option maxHeartbeats 4000000 in
theorem lp_comesFed (g : zG) (l : Launch) {M0 : zM} {n r i q m : Nat} {s : Int32} {σ : Dy} (ok : dOK σ n r i) (hm : m ≤ 1000) (hq : q < r) : ∀ (k h : Nat) (M : zM), h ≤ n → n - h < k → zDR M0 M 25 (dFed σ s h) n r i → zA g l yX11_comesFed cX11_comesFed 5 (some .boolean) 5 0 0 (zQi (fun r' M' => (∀ k, (k < 25 ∨ 31 < k) → M' k = M0 k) ∧ (((¬ dCome (dFed σ s n) n r i q m = -1) ∧ r' = 1) ∨ (¬ (¬ dCome (dFed σ s n) n r i q m = -1) ∧ r' = 0)))) 14 0 0 S0 M [.ref 0, .int (nI q), .int (nI m), .int s, .int (nI h)] [] := by
  have n8 := ok.1.1
  have r4 := ok.1.2.1
  have i6 := ok.1.2.2.1
  intro k
  induction k with
  | zero => intro h M hh hk; exact absurd hk (Nat.not_lt_zero _)
  | succ k ih =>
    intro h M hh hk R
    have okh := dFed_ok ok s h hh
    refine z_iload dX11_comesFed_14 rfl ?_
    refine z_aload_n dX11_comesFed_16 rfl ?_
    refine z_getR (j := 0) (r := 1) kX11 lf_X11_10 (by decide) rfl dX11_comesFed_17 k0_0 s0_0 r0_0_0 (by decide) ?_
    refine z_getIV (j := 1) kX7 lf_X11_213 (by decide) rfl R.1.1.2.1 dX11_comesFed_20 k0_1 s0_1 ?_
    refine z_icmp_ge (tgt := 50) dX11_comesFed_23 (by decide) (fun b23 => ?_) (fun b23 => ?_)
    · have e : n ≤ h := (nI_leI (by omega) (by omega)).mp b23
      have e2 : h = n := by omega
      subst e2
      refine z_aload_n dX11_comesFed_50 rfl ?_
      refine z_getR (j := 4) (r := 25) kX11 lf_X11_41 (by decide) rfl dX11_comesFed_51 k0_0 s0_0 r0_0_4 (by decide) ?_
      refine z_iload_n dX11_comesFed_54 rfl ?_
      refine z_iload_n dX11_comesFed_55 rfl ?_
      refine z_iV2 (c_X1_passUntilThere2 g l (by decide) okh hq hm R) mw_X1_passUntilThere lm_X11_189 mi_X1_passUntilThere mv_X1_passUntilThere kX1 (by decide) (Nat.le_of_ble_eq_true rfl) zle k0_25 s0_25 dX11_comesFed_56 (fun r56 M56 q56 => ?_)
      obtain ⟨qc, k, hk, qk, qr⟩ := q56
      refine z_iconst (v := (-1)) dX11_comesFed_59 (by decide) ?_
      refine z_icmp_eq (tgt := 67) dX11_comesFed_60 (by decide) (fun b60 => ?_) (fun b60 => ?_)
      · refine z_iconst (v := 0) dX11_comesFed_67 (by decide) ?_
        refine z_iret dX11_comesFed_68 rfl zle ?_
        first
          | exact ⟨fun k a => qk.2 k (by omega), Or.inl ⟨fun z => b60 (qc.trans z), rfl⟩⟩
          | exact ⟨fun k a => qk.2 k (by omega), Or.inr ⟨fun z => z (qc.symm.trans b60), rfl⟩⟩
      · refine z_iconst (v := 1) dX11_comesFed_63 (by decide) ?_
        refine z_goto (tgt := 68) dX11_comesFed_64 (by decide) ?_
        refine z_iret dX11_comesFed_68 rfl zle ?_
        first
          | exact ⟨fun k a => qk.2 k (by omega), Or.inl ⟨fun z => b60 (qc.trans z), rfl⟩⟩
          | exact ⟨fun k a => qk.2 k (by omega), Or.inr ⟨fun z => z (qc.symm.trans b60), rfl⟩⟩
    · have hn : h < n := by
        rcases Nat.lt_or_ge h n with z | z
        · exact z
        · exact absurd (nI_le z (by omega)) b23
      refine z_iload_n dX11_comesFed_26 rfl ?_
      refine z_iload dX11_comesFed_27 rfl ?_
      refine z_ishr dX11_comesFed_29 ?_
      refine z_iconst (v := 1) dX11_comesFed_30 (by decide) ?_
      refine z_iand dX11_comesFed_31 ?_
      refine z_if_eq (tgt := 44) dX11_comesFed_32 (by decide) (fun b32 => ?_) (fun b32 => ?_)
      · refine z_iincN (k := h) dX11_comesFed_44 rfl rfl (by decide) rfl rfl ?_
        refine z_goto (tgt := 14) dX11_comesFed_47 (by decide) ?_
        exact ih (h + 1) _ (by omega) (by omega) (by unfold dFed; first | (rw [if_pos b32]; exact R) | (rw [if_neg b32]; exact R))
      · refine z_aload_n dX11_comesFed_35 rfl ?_
        refine z_getR (j := 4) (r := 25) kX11 lf_X11_41 (by decide) rfl dX11_comesFed_36 k0_0 s0_0 r0_0_4 (by decide) ?_
        refine z_iload dX11_comesFed_39 rfl ?_
        refine z_vV1 (c_X1_giveOats g l (by decide) R hn ⟨n8, r4, i6⟩) mw_X1_giveOats lm_X11_168 mi_X1_giveOats mv_X1_giveOats kX1 (by decide) (Nat.le_of_ble_eq_true rfl) zle k0_25 s0_25 dX11_comesFed_41 (fun M41 q41 => ?_)
        refine z_iincN (k := h) dX11_comesFed_44 rfl rfl (by decide) rfl rfl ?_
        refine z_goto (tgt := 14) dX11_comesFed_47 (by decide) ?_
        exact ih (h + 1) _ (by omega) (by omega) (by unfold dFed; first | (rw [if_pos b32]; exact q41) | (rw [if_neg b32]; exact q41))

set_option maxRecDepth 100000 in
set_option maxHeartbeats 4000000 in
theorem c_X11_comesFed (g : zG) (l : Launch) {M M0 : zM} {n r i q m : Nat} {s : Int32} {σ : Dy} (R : zDR M0 M 18 σ n r i) (ok : dOK σ n r i) (hm : m ≤ 1000) (hq : q < r) : zMet g l yX11_comesFed cX11_comesFed 5 (some .boolean) 5 0 0 [.ref 0, .int (nI q), .int (nI m), .int s] S0 M (zQi (fun r' M' => (∀ k, (k < 25 ∨ 31 < k) → M' k = M k) ∧ (((¬ dCome (dFed σ s n) n r i q m = -1) ∧ r' = 1) ∨ (¬ (¬ dCome (dFed σ s n) n r i q m = -1) ∧ r' = 0)))) := by
  have n8 := ok.1.1
  have r4 := ok.1.2.1
  have i6 := ok.1.2.2.1
  refine zMet.of (by decide) (Nat.le_of_ble_eq_true rfl) ?_
  refine z_aload_n dX11_comesFed_0 rfl ?_
  refine z_getR (j := 4) (r := 25) kX11 lf_X11_41 (by decide) rfl dX11_comesFed_1 k0_0 s0_0 r0_0_4 (by decide) ?_
  refine z_aload_n dX11_comesFed_4 rfl ?_
  refine z_getR (j := 3) (r := 18) kX11 lf_X11_37 (by decide) rfl dX11_comesFed_5 k0_0 s0_0 r0_0_3 (by decide) ?_
  refine z_vV1 (c_X1_become g l (by decide) (by decide) (by decide) ⟨n8, r4⟩ R.1) mw_X1_become lm_X11_180 mi_X1_become mv_X1_become kX1 (by decide) (Nat.le_of_ble_eq_true rfl) zle k0_25 s0_25 dX11_comesFed_8 (fun M8 q8 => ?_)
  refine z_iconst (v := 0) dX11_comesFed_11 (by decide) ?_
  refine z_istore dX11_comesFed_12 (by decide) rfl rfl ?_
  exact lp_comesFed g l ok hm hq (n + 1) 0 _ (Nat.zero_le _) (by omega) q8

set_option maxRecDepth 100000 in
set_option maxHeartbeats 4000000 in
theorem lp_feedIn (g : zG) (l : Launch) {M0 : zM} {n r i q m : Nat} {σ : Dy} (R0 : dRep M0 18 σ n r i) (ok : dOK σ n r i) (hm : m ≤ 1000) (hq : q < r) {z p : Nat} (hp : p ≤ 256) (hz : z ≤ 3) (wz : gSet σ n r i q m z 0 p = -1 ∨ gSize σ n r i q m 0 4 = gSet σ n r i q m z 0 p) (Kz : ∀ M : zM, gSet σ n r i q m z 0 p = -1 → (∀ k, (k < 25 ∨ 31 < k) → M k = M0 k) → zA g l yX11_feed cX11_feed 7 (some .int) 6 0 0 (zQi (fun r' M' => r' = gSize σ n r i q m 0 4 ∧ ∀ k, (k < 25 ∨ 31 < k) → M' k = M0 k)) 105 0 0 S0 M [.ref 0, .int (nI q), .int (nI m), .int (dTirB σ n ^^^ (-1)), .int (nI p), .int (nI z), .int (nI p)] []) : ∀ (k h : Nat) (M : zM), h ≤ p → p - h < k → (∀ k, (k < 25 ∨ 31 < k) → M k = M0 k) → gSet σ n r i q m z 0 p = gSet σ n r i q m z h (p - h) → zA g l yX11_feed cX11_feed 7 (some .int) 6 0 0 (zQi (fun r' M' => r' = gSize σ n r i q m 0 4 ∧ ∀ k, (k < 25 ∨ 31 < k) → M' k = M0 k)) 61 0 0 S0 M [.ref 0, .int (nI q), .int (nI m), .int (dTirB σ n ^^^ (-1)), .int (nI p), .int (nI z), .int (nI h)] [] := by
  have n8 := ok.1.1
  have r4 := ok.1.2.1
  have i6 := ok.1.2.2.1
  intro k
  induction k with
  | zero => intro h M hh hk; exact absurd hk (Nat.not_lt_zero _)
  | succ k ih =>
    intro h M hh hk hM w
    have R : dRep M 18 σ n r i := R0.keep4 (fun k a b => hM k (by omega)) (fun k a b => hM k (by omega))
    refine z_iload dX11_feed_61 rfl ?_
    refine z_iload dX11_feed_63 rfl ?_
    refine z_icmp_ge (tgt := 105) dX11_feed_65 (by decide) (fun b65 => ?_) (fun b65 => ?_)
    · have e : p ≤ h := (nI_leI (by omega) (by omega)).mp b65
      have e2 : h = p := by omega
      subst e2
      exact Kz _ (by rw [w, Nat.sub_self]; rfl) hM
    · have hn : h < p := by
        rcases Nat.lt_or_ge h p with z | z
        · exact z
        · exact absurd (nI_le z (by omega)) b65
      refine z_iload dX11_feed_68 rfl ?_
      refine z_iS1 (c_J6_bitCount_0f7a4 g l) mw_J6_bitCount_0f7a4 lm_X11_216 ms_J6_bitCount_0f7a4 (by decide) (Nat.le_of_ble_eq_true rfl) zle dX11_feed_70 (fun r70 M70 q70 => ?_)
      obtain ⟨qr70, qm70⟩ := q70
      obtain rfl := qr70.symm
      obtain rfl := qm70.symm
      refine z_iload dX11_feed_73 rfl ?_
      refine z_icmp_ne (tgt := 99) dX11_feed_75 (by decide) (fun b75 => ?_) (fun b75 => ?_)
      · refine z_iincN (k := h) dX11_feed_99 rfl rfl (by decide) rfl rfl ?_
        refine z_goto (tgt := 61) dX11_feed_102 (by decide) ?_
        first
          | (have gf : gFit σ n r i q m z h = false := by unfold gFit; rw [decide_eq_false b75]; rfl
             exact ih (h + 1) _ (by omega) (by omega) hM (by rw [w, show p - h = (p - (h + 1)) + 1 by omega]; exact if_neg (by rw [gf]; decide)))
          | (have gf : gFit σ n r i q m z h = false := by unfold gFit; rw [decide_eq_false b82, Bool.false_and, Bool.and_false]
             exact ih (h + 1) _ (by omega) (by omega) hM (by rw [w, show p - h = (p - (h + 1)) + 1 by omega]; exact if_neg (by rw [gf]; decide)))
          | (have gf : gFit σ n r i q m z h = false := by unfold gFit; rw [decide_eq_false c90, Bool.and_false, Bool.and_false]
             exact ih (h + 1) _ (by omega) (by omega) hM2 (by rw [w, show p - h = (p - (h + 1)) + 1 by omega]; exact if_neg (by rw [gf]; decide)))
      · refine z_iload dX11_feed_78 rfl ?_
        refine z_iload_n dX11_feed_80 rfl ?_
        refine z_iand dX11_feed_81 ?_
        refine z_if_ne (tgt := 99) dX11_feed_82 (by decide) (fun b82 => ?_) (fun b82 => ?_)
        · refine z_iincN (k := h) dX11_feed_99 rfl rfl (by decide) rfl rfl ?_
          refine z_goto (tgt := 61) dX11_feed_102 (by decide) ?_
          first
            | (have gf : gFit σ n r i q m z h = false := by unfold gFit; rw [decide_eq_false b75]; rfl
               exact ih (h + 1) _ (by omega) (by omega) hM (by rw [w, show p - h = (p - (h + 1)) + 1 by omega]; exact if_neg (by rw [gf]; decide)))
            | (have gf : gFit σ n r i q m z h = false := by unfold gFit; rw [decide_eq_false b82, Bool.false_and, Bool.and_false]
               exact ih (h + 1) _ (by omega) (by omega) hM (by rw [w, show p - h = (p - (h + 1)) + 1 by omega]; exact if_neg (by rw [gf]; decide)))
            | (have gf : gFit σ n r i q m z h = false := by unfold gFit; rw [decide_eq_false c90, Bool.and_false, Bool.and_false]
               exact ih (h + 1) _ (by omega) (by omega) hM2 (by rw [w, show p - h = (p - (h + 1)) + 1 by omega]; exact if_neg (by rw [gf]; decide)))
        · refine z_aload_n dX11_feed_85 rfl ?_
          refine z_iload_n dX11_feed_86 rfl ?_
          refine z_iload_n dX11_feed_87 rfl ?_
          refine z_iload dX11_feed_88 rfl ?_
          refine z_iV3 (c_X11_comesFed (M0 := M) g l ⟨R, fun _ _ => rfl⟩ ok hm hq) mw_X11_comesFed lm_X11_221 mi_X11_comesFed mv_X11_comesFed kX11 (by decide) (Nat.le_of_ble_eq_true rfl) zle k0_0 s0_0 dX11_feed_90 (fun r90 M90 q90 => ?_)
          obtain ⟨qm, qr⟩ := q90
          rcases qr with ⟨c90, rfl⟩ | ⟨c90, rfl⟩
          · have hM2 := fun k a => (qm k a).trans (hM k a)
            refine z_if_eq (tgt := 99) dX11_feed_93 (by decide) (fun b93 => ?_) (fun b93 => ?_)
            · exact absurd b93 (by decide)
            · refine z_iload dX11_feed_96 rfl ?_
              refine z_iret dX11_feed_98 rfl zle ?_
              have gt : gFit σ n r i q m z h = true := by unfold gFit; rw [decide_eq_true b75, decide_eq_true b82, decide_eq_true c90]; rfl
              have e3 : gSet σ n r i q m z 0 p = nI h := by rw [w, show p - h = (p - h - 1) + 1 by omega]; exact if_pos gt
              exact ⟨(wz.elim (fun z2 => absurd (e3.symm.trans z2) (nI_nm1 (by omega))) (fun z2 => z2.trans e3)).symm, hM2⟩
          · have hM2 := fun k a => (qm k a).trans (hM k a)
            refine z_if_eq (tgt := 99) dX11_feed_93 (by decide) (fun b93 => ?_) (fun b93 => ?_)
            · refine z_iincN (k := h) dX11_feed_99 rfl rfl (by decide) rfl rfl ?_
              refine z_goto (tgt := 61) dX11_feed_102 (by decide) ?_
              first
                | (have gf : gFit σ n r i q m z h = false := by unfold gFit; rw [decide_eq_false b75]; rfl
                   exact ih (h + 1) _ (by omega) (by omega) hM (by rw [w, show p - h = (p - (h + 1)) + 1 by omega]; exact if_neg (by rw [gf]; decide)))
                | (have gf : gFit σ n r i q m z h = false := by unfold gFit; rw [decide_eq_false b82, Bool.false_and, Bool.and_false]
                   exact ih (h + 1) _ (by omega) (by omega) hM (by rw [w, show p - h = (p - (h + 1)) + 1 by omega]; exact if_neg (by rw [gf]; decide)))
                | (have gf : gFit σ n r i q m z h = false := by unfold gFit; rw [decide_eq_false c90, Bool.and_false, Bool.and_false]
                   exact ih (h + 1) _ (by omega) (by omega) hM2 (by rw [w, show p - h = (p - (h + 1)) + 1 by omega]; exact if_neg (by rw [gf]; decide)))
            · exact absurd b93 (by decide)

set_option maxRecDepth 100000 in
set_option maxHeartbeats 4000000 in
theorem lp_feed (g : zG) (l : Launch) {M0 : zM} {n r i q m : Nat} {σ : Dy} (R0 : dRep M0 18 σ n r i) (ok : dOK σ n r i) (hm : m ≤ 1000) (hq : q < r) : ∀ (k h : Nat) (M : zM), h ≤ 4 → 4 - h < k → (∀ k, (k < 25 ∨ 31 < k) → M k = M0 k) → gSize σ n r i q m 0 4 = gSize σ n r i q m h (4 - h) → zA g l yX11_feed cX11_feed 7 (some .int) 6 0 0 (zQi (fun r' M' => r' = gSize σ n r i q m 0 4 ∧ ∀ k, (k < 25 ∨ 31 < k) → M' k = M0 k)) 52 0 0 S0 M [.ref 0, .int (nI q), .int (nI m), .int (dTirB σ n ^^^ (-1)), .int (nI (2 ^ n)), .int (nI h), .null] [] := by
  have n8 := ok.1.1
  have r4 := ok.1.2.1
  have i6 := ok.1.2.2.1
  intro k
  induction k with
  | zero => intro h M hh hk; exact absurd hk (Nat.not_lt_zero _)
  | succ k ih =>
    intro h M hh hk hM w
    refine z_iload dX11_feed_52 rfl ?_
    refine z_iconst (v := 3) dX11_feed_54 (by decide) ?_
    refine z_icmp_gt (tgt := 111) dX11_feed_55 (by decide) (fun b55 => ?_) (fun b55 => ?_)
    · have e2 : h = 4 := by have := (nI_ltI (a := 3) (b := h) (by omega) (by omega)).mp b55; omega
      subst e2
      refine z_iconst (v := (-1)) dX11_feed_111 (by decide) ?_
      refine z_iret dX11_feed_112 rfl zle ?_
      exact ⟨by rw [w]; rfl, hM⟩
    · have hz : h ≤ 3 := by
        rcases Nat.lt_or_ge 3 h with z | z
        · exact absurd ((nI_ltI (a := 3) (b := h) (by omega) (by omega)).mpr z) b55
        · exact z
      have ws : gSet σ n r i q m h 0 (2 ^ n) = -1 ∨ gSize σ n r i q m h (4 - h) = gSet σ n r i q m h 0 (2 ^ n) := by
        by_cases c : gSet σ n r i q m h 0 (2 ^ n) = -1
        · exact Or.inl c
        · refine Or.inr ?_
          rw [show 4 - h = (3 - h) + 1 by omega]
          exact if_neg c
      refine z_iconst (v := 0) dX11_feed_58 (by decide) ?_
      refine z_istore dX11_feed_59 (by decide) rfl rfl ?_
      refine lp_feedIn g l R0 ok hm hq (p := 2 ^ n) (z := h) (z_pow n (by omega)) hz (by rw [w]; exact ws) (fun M2 hs hM2 => ?_) (2 ^ n + 1) 0 _ (Nat.zero_le _) (Nat.lt_succ_of_le (Nat.sub_le _ _)) hM rfl
      refine z_iincN (k := h) dX11_feed_105 rfl rfl (by decide) rfl rfl ?_
      refine z_goto (tgt := 52) dX11_feed_108 (by decide) ?_
      exact zA.sub (ih (h + 1) _ (by omega) (by omega) hM2 (by rw [w, show 4 - h = (4 - (h + 1)) + 1 by omega]; exact if_pos hs)) rfl ⟨Or.inr rfl, Or.inr rfl, Or.inr rfl, Or.inr rfl, Or.inr rfl, Or.inr rfl, Or.inl rfl, trivial⟩

set_option maxRecDepth 100000 in
set_option maxHeartbeats 4000000 in
theorem c_X11_feed (g : zG) (l : Launch) {M : zM} {A : aSt} (ok : aOK A) (C : RelC M A) {x m : Int32} : zMet g l yX11_feed cX11_feed 7 (some .int) 6 0 0 [.ref 0, .int x, .int m] S0 M (zQi (fun r' M' => zAns M A (aFeed A x m) r' M')) := by
  have n8 : A.n ≤ 8 := ok.s.1.1
  have r4 : A.r ≤ 4 := ok.s.1.2.1
  have i6 : A.i ≤ 6 := ok.s.1.2.2.1
  have R : zDR M M 18 A.s A.n A.r A.i := ⟨C.day, fun _ _ => rfl⟩
  rcases zInD x (show A.r < 1000 by omega) with ⟨h, hh, rfl⟩ | hx
  · refine zMet.of (by decide) (Nat.le_of_ble_eq_true rfl) ?_
    refine z_aload_n dX11_feed_0 rfl ?_
    refine z_getR (j := 0) (r := 1) kX11 lf_X11_10 (by decide) rfl dX11_feed_1 k0_0 s0_0 r0_0_0 (by decide) ?_
    refine z_iload_n dX11_feed_4 rfl ?_
    refine z_iV1 (c_X7_hasRider g l (by decide)) mw_X7_hasRider lm_X11_130 mi_X7_hasRider mv_X7_hasRider kX7 (by decide) (Nat.le_of_ble_eq_true rfl) zle k0_1 s0_1 dX11_feed_5 (fun r5 M5 q5 => ?_)
    obtain ⟨qm5, qr5⟩ := q5
    obtain rfl := qm5.symm
    obtain ⟨c5, rfl⟩ | ⟨c5, rfl⟩ := qr5
    · refine z_if_ne (tgt := 14) dX11_feed_8 (by decide) (fun b8 => ?_) (fun b8 => ?_)
      · refine z_iload_n dX11_feed_14 rfl ?_
        refine z_iconst (v := 1) dX11_feed_15 (by decide) ?_
        refine z_icmp_lt (tgt := 25) dX11_feed_16 (by decide) (fun b16 => ?_) (fun b16 => ?_)
        · refine z_bipush (v := (-3)) dX11_feed_25 (by decide) ?_
          refine z_iret dX11_feed_27 rfl zle ?_
          exact zAns.of C (by unfold aFeed; rw [aIx_in hh (by omega)]; exact (if_pos (by first | exact Or.inl b16 | exact Or.inr (Int32.not_le.mp b22))).symm)
        · refine z_iload_n dX11_feed_19 rfl ?_
          refine z_bipush (v := 40) dX11_feed_20 (by decide) ?_
          refine z_icmp_le (tgt := 28) dX11_feed_22 (by decide) (fun b22 => ?_) (fun b22 => ?_)
          · have bb : ¬ (m < 1 ∨ 40 < m) := fun z2 => z2.elim b16 (Int32.not_lt.mpr b22)
            obtain ⟨u, hu1, hu2, rfl⟩ := (zIdx m (a := 1) (c := 40) (by omega) (by omega)).resolve_right bb
            refine z_aload_n dX11_feed_28 rfl ?_
            refine z_getR (j := 3) (r := 18) kX11 lf_X11_37 (by decide) rfl dX11_feed_29 k0_0 s0_0 r0_0_3 (by decide) ?_
            refine z_iV0 (c_X1_tiredHours g l (by decide) R ok.s) mw_X1_tiredHours lm_X11_209 mi_X1_tiredHours mv_X1_tiredHours kX1 (by decide) (Nat.le_of_ble_eq_true rfl) zle k0_18 s0_18 dX11_feed_32 (fun r32 M32 q32 => ?_)
            obtain ⟨qr32, qm32⟩ := q32
            obtain rfl := qr32.symm
            obtain rfl := qm32.symm
            refine z_iconst (v := (-1)) dX11_feed_35 (by decide) ?_
            refine z_ixor dX11_feed_36 ?_
            refine z_istore_n dX11_feed_37 (by decide) rfl rfl ?_
            refine z_iconst (v := 1) dX11_feed_38 (by decide) ?_
            refine z_aload_n dX11_feed_39 rfl ?_
            refine z_getR (j := 0) (r := 1) kX11 lf_X11_10 (by decide) rfl dX11_feed_40 k0_0 s0_0 r0_0_0 (by decide) ?_
            refine z_getIV (j := 1) kX7 lf_X11_213 (by decide) rfl C.road.2.1 dX11_feed_43 k0_1 s0_1 ?_
            refine z_ishl dX11_feed_46 ?_
            rw [z_shn _ (by omega)]
            refine z_istore dX11_feed_47 (by decide) rfl rfl ?_
            refine z_iconst (v := 0) dX11_feed_49 (by decide) ?_
            refine z_istore dX11_feed_50 (by decide) rfl rfl ?_
            refine (lp_feed g l C.day ok.s (by omega) hh 5 0 _ (Nat.zero_le _) (by omega) (fun _ _ => rfl) rfl).weak (fun v S2 M2 q => ?_)
            obtain ⟨qa, rr, qb, qc, qd⟩ := q
            have C1 := C.fore qd
            exact ⟨qa, rr, qb, by rw [qc]; unfold aFeed; rw [aIx_in hh (by omega), if_neg bb, nI_clamp (by omega)], C1.1, C1.2⟩
          · refine z_bipush (v := (-3)) dX11_feed_25 (by decide) ?_
            refine z_iret dX11_feed_27 rfl zle ?_
            exact zAns.of C (by unfold aFeed; rw [aIx_in hh (by omega)]; exact (if_pos (by first | exact Or.inl b16 | exact Or.inr (Int32.not_le.mp b22))).symm)
      · exact absurd b8 (by decide)
    · exact absurd (show 0 ≤ nI h ∧ nI h < M 1 2 by rw [C.road.2.2.1]; exact zInP hh (by omega)) c5
  · refine zMet.of (by decide) (Nat.le_of_ble_eq_true rfl) ?_
    refine z_aload_n dX11_feed_0 rfl ?_
    refine z_getR (j := 0) (r := 1) kX11 lf_X11_10 (by decide) rfl dX11_feed_1 k0_0 s0_0 r0_0_0 (by decide) ?_
    refine z_iload_n dX11_feed_4 rfl ?_
    refine z_iV1 (c_X7_hasRider g l (by decide)) mw_X7_hasRider lm_X11_130 mi_X7_hasRider mv_X7_hasRider kX7 (by decide) (Nat.le_of_ble_eq_true rfl) zle k0_1 s0_1 dX11_feed_5 (fun r5 M5 q5 => ?_)
    obtain ⟨qm5, qr5⟩ := q5
    obtain rfl := qm5.symm
    obtain ⟨c5, rfl⟩ | ⟨c5, rfl⟩ := qr5
    · exact absurd (show _ ∧ _ < nI A.r by rw [← C.road.2.2.1]; exact c5) hx
    · refine z_if_ne (tgt := 14) dX11_feed_8 (by decide) (fun b8 => ?_) (fun b8 => ?_)
      · exact absurd b8 (by decide)
      · refine z_bipush (v := (-2)) dX11_feed_11 (by decide) ?_
        refine z_iret dX11_feed_13 rfl zle ?_
        exact zAns.of C (by unfold aFeed; rw [aIx_out hx])

