/-! ===== the class's own methods: reading ===== -/
def aIx {α : Type} (n : Nat) (x : Int32) (f : Nat → α) (d : α) : α := if 0 ≤ x ∧ x < nI n then f x.toNatClampNeg else d
theorem aIx_in {α : Type} {n h : Nat} {f : Nat → α} {d : α} (hh : h < n) (hn : n < 1000) : aIx n (nI h) f d = f h := by
  unfold aIx
  rw [if_pos ⟨Int32.not_lt.mp (nI_pos (by omega)), nI_lt hh (by omega)⟩, nI_clamp (by omega)]
theorem aIx_out {α : Type} {n : Nat} {x : Int32} {f : Nat → α} {d : α} (h : ¬ (0 ≤ x ∧ x < nI n)) : aIx n x f d = d := if_neg h
theorem zInD (x : Int32) {n : Nat} (hn : n < 1000) : (∃ h, h < n ∧ x = nI h) ∨ ¬ (0 ≤ x ∧ x < nI n) := by
  by_cases c : 0 ≤ x ∧ x < nI n
  · refine Or.inl ?_
    obtain ⟨a, rfl⟩ : ∃ a, x = nI a := nI_any x
    obtain ⟨c1, c2⟩ := c
    have h0 : (0 : Int) ≤ (nI a).toInt := by
      rw [Int32.le_iff_toInt_le] at c1
      exact c1
    refine ⟨(nI a).toInt.toNat, ?_, ?_⟩
    · rw [Int32.lt_iff_toInt_lt, nI_toInt (show n < 2147483648 by omega)] at c2
      omega
    · apply Int32.toInt_inj.mp
      have h1 : (nI a).toInt < 2147483648 := by
        rw [Int32.lt_iff_toInt_lt, nI_toInt (show n < 2147483648 by omega)] at c2
        omega
      have h2 := nI_toInt (show (nI a).toInt.toNat < 2147483648 by omega)
      rw [h2]
      omega
  · exact Or.inr c
theorem zInP {h n : Nat} (hh : h < n) (hn : n < 1000) : 0 ≤ nI h ∧ nI h < nI n := ⟨Int32.not_lt.mp (nI_pos (by omega)), nI_lt hh (by omega)⟩
/-- the answer is x, and nothing that counts changed -/
def zAns (M : zM) (A : aSt) (x : Int32) (r' : Int32) (M' : zM) : Prop := r' = x ∧ RelC M' A ∧ ∀ k, 127 ≤ k → M' k = M k
theorem zAns.of {M : zM} {A : aSt} {x y : Int32} (R : RelC M A) (e : y = x) : zAns M A x y M := ⟨e, R, fun _ _ => rfl⟩
def aHour (A : aSt) (x w : Int32) : Int32 := aIx A.n x (fun h => if w = 0 then A.s (3 + h) else if w = 1 then A.s (11 + h) else if w = 2 then A.s (19 + h) else if w = 3 then A.s (27 + h) else if w = 4 then A.s (35 + h) else if w = 5 then A.s (43 + h) else -3) (-2)
def aRider (A : aSt) (x w : Int32) : Int32 := aIx A.r x (fun q => if w = 0 then A.s (51 + q) else if w = 1 then A.s (55 + q) else if w = 2 then A.s (59 + q) else -3) (-2)
def aInn (A : aSt) (x : Int32) : Int32 := aIx A.i x (fun j => A.s (64 + j)) (-2)
abbrev aUnder (k x : Int32) : Prop := x = 0 ∨ (x = 1 ∧ (k = 0 ∨ k = 1 ∨ k = 2)) ∨ (x = 4 ∧ (k = 3 ∨ k = 4)) ∨ (¬ x = 0 ∧ ¬ x = 1 ∧ ¬ x = 4 ∧ k + 1 = x)
def aAs (A : aSt) (x w : Int32) : Int32 := aIx A.n x (fun h => if w < 0 ∨ 5 < w then -3 else if aUnder (A.s (3 + h)) w then kTakes (A.s (3 + h)) 5 else -4) (-2)
def aGiven (A : aSt) (x : Int32) : Int32 := aIx A.r x (fun q => if dAt A.s q then -1 else (dGiv A.s 0 q A.n).1) (-2)
def aFast (A : aSt) (x : Int32) : Int32 := aIx A.r x (fun q => dFast A.s A.n q) (-2)
def aFalls (x q m part : Int32) : Int32 := if (x < 0 ∨ 9 < x) ∨ (q < 0 ∨ 10 < q) ∨ (m < 0 ∨ 9 < m) ∨ (part < 0 ∨ 1 < part) then -3 else fOdds x.toNatClampNeg q m.toNatClampNeg part

set_option maxRecDepth 100000 in
set_option maxHeartbeats 4000000 in
theorem c_X11_hour (g : zG) (l : Launch) {M : zM} {A : aSt} (ok : aOK A) (C : RelC M A) {x w : Int32} : zMet g l yX11_hour cX11_hour 3 (some .int) 1 0 0 [.ref 0, .int x, .int w] S0 M (zQi (fun r' M' => zAns M A (aHour A x w) r' M')) := by
  have n8 : A.n ≤ 8 := ok.s.1.1
  have r4 : A.r ≤ 4 := ok.s.1.2.1
  have i6 : A.i ≤ 6 := ok.s.1.2.2.1
  have R : zDR M M 18 A.s A.n A.r A.i := ⟨C.day, fun _ _ => rfl⟩
  rcases zInD x (show A.n < 1000 by omega) with ⟨h, hh, rfl⟩ | hx
  · refine zMet.of (by decide) (Nat.le_of_ble_eq_true rfl) ?_
    refine z_aload_n dX11_hour_0 rfl ?_
    refine z_getR (j := 0) (r := 1) kX11 lf_X11_10 (by decide) rfl dX11_hour_1 k0_0 s0_0 r0_0_0 (by decide) ?_
    refine z_iload_n dX11_hour_4 rfl ?_
    refine z_iV1 (c_X7_hasHour g l (by decide)) mw_X7_hasHour lm_X11_107 mi_X7_hasHour mv_X7_hasHour kX7 (by decide) (Nat.le_of_ble_eq_true rfl) zle k0_1 s0_1 dX11_hour_5 (fun r5 M5 q5 => ?_)
    obtain ⟨qm5, qr5⟩ := q5
    obtain rfl := qm5.symm
    obtain ⟨c5, rfl⟩ | ⟨c5, rfl⟩ := qr5
    · refine z_if_ne (tgt := 14) dX11_hour_8 (by decide) (fun b8 => ?_) (fun b8 => ?_)
      · refine z_iload_n dX11_hour_14 rfl ?_
        refine z_tsw (b := 0) (n := 6) (tg := [52, 62, 72, 82, 92, 109]) (tgt := 119) dX11_hour_15 (by decide) (by decide) (by decide) (by decide) (by decide) (fun k15 hk15 s15 => ?_) (fun s15 => ?_)
        · match k15, hk15 with
          | 0, _ =>
            have s2 : w = 0 := s15
            refine z_aload_n dX11_hour_52 rfl ?_
            refine z_getR (j := 0) (r := 1) kX11 lf_X11_10 (by decide) rfl dX11_hour_53 k0_0 s0_0 r0_0_0 (by decide) ?_
            refine z_getR (j := 4) (r := 3) kX7 lf_X11_111 (by decide) rfl dX11_hour_56 k0_1 s0_1 r0_1_4 (by decide) ?_
            refine z_iload_n dX11_hour_59 rfl ?_
            refine z_ialdV (j := h) rfl (by omega) (R.1.1.2.2.2.2 h (by omega)).1 dX11_hour_60 k0_3 s0_3 ?_
            refine z_iret dX11_hour_61 rfl zle ?_
            exact zAns.of C (by unfold aHour; rw [aIx_in hh (by omega)]; rw [if_pos s2])
          | 1, _ =>
            have s2 : w = 1 := s15
            refine z_aload_n dX11_hour_62 rfl ?_
            refine z_getR (j := 0) (r := 1) kX11 lf_X11_10 (by decide) rfl dX11_hour_63 k0_0 s0_0 r0_0_0 (by decide) ?_
            refine z_getR (j := 5) (r := 4) kX7 lf_X11_115 (by decide) rfl dX11_hour_66 k0_1 s0_1 r0_1_5 (by decide) ?_
            refine z_iload_n dX11_hour_69 rfl ?_
            refine z_ialdV (j := h) rfl (by omega) (R.1.1.2.2.2.2 h (by omega)).2 dX11_hour_70 k0_4 s0_4 ?_
            refine z_iret dX11_hour_71 rfl zle ?_
            exact zAns.of C (by unfold aHour; rw [aIx_in hh (by omega)]; rw [if_neg (by rw [s2]; decide), if_pos s2])
          | 2, _ =>
            have s2 : w = 2 := s15
            refine z_aload_n dX11_hour_72 rfl ?_
            refine z_getR (j := 3) (r := 18) kX11 lf_X11_37 (by decide) rfl dX11_hour_73 k0_0 s0_0 r0_0_3 (by decide) ?_
            refine z_getR (j := 2) (r := 19) kX1 lf_X11_118 (by decide) rfl dX11_hour_76 k0_18 s0_18 r0_18_2 (by decide) ?_
            refine z_iload_n dX11_hour_79 rfl ?_
            refine z_ialdV (j := h) rfl (by omega) (R.1.2.2.2.1 h (by omega)).1 dX11_hour_80 k0_19 s0_19 ?_
            refine z_iret dX11_hour_81 rfl zle ?_
            exact zAns.of C (by unfold aHour; rw [aIx_in hh (by omega)]; rw [if_neg (by rw [s2]; decide), if_neg (by rw [s2]; decide), if_pos s2])
          | 3, _ =>
            have s2 : w = 3 := s15
            refine z_aload_n dX11_hour_82 rfl ?_
            refine z_getR (j := 3) (r := 18) kX11 lf_X11_37 (by decide) rfl dX11_hour_83 k0_0 s0_0 r0_0_3 (by decide) ?_
            refine z_getR (j := 3) (r := 20) kX1 lf_X11_121 (by decide) rfl dX11_hour_86 k0_18 s0_18 r0_18_3 (by decide) ?_
            refine z_iload_n dX11_hour_89 rfl ?_
            refine z_ialdV (j := h) rfl (by omega) (R.1.2.2.2.1 h (by omega)).2.1 dX11_hour_90 k0_20 s0_20 ?_
            refine z_iret dX11_hour_91 rfl zle ?_
            exact zAns.of C (by unfold aHour; rw [aIx_in hh (by omega)]; rw [if_neg (by rw [s2]; decide), if_neg (by rw [s2]; decide), if_neg (by rw [s2]; decide), if_pos s2])
          | 4, _ =>
            have s2 : w = 4 := s15
            refine z_aload_n dX11_hour_92 rfl ?_
            refine z_getR (j := 3) (r := 18) kX11 lf_X11_37 (by decide) rfl dX11_hour_93 k0_0 s0_0 r0_0_3 (by decide) ?_
            refine z_iload_n dX11_hour_96 rfl ?_
            refine z_iV1 (c_X1_isLame g l (by decide) R hh ⟨n8, r4, i6⟩) mw_X1_isLame lm_X11_124 mi_X1_isLame mv_X1_isLame kX1 (by decide) (Nat.le_of_ble_eq_true rfl) zle k0_18 s0_18 dX11_hour_97 (fun r97 M97 q97 => ?_)
            obtain ⟨qm97, qr97⟩ := q97
            obtain rfl := qm97.symm
            obtain ⟨c97, rfl⟩ | ⟨c97, rfl⟩ := qr97
            · refine z_if_eq (tgt := 107) dX11_hour_100 (by decide) (fun b100 => ?_) (fun b100 => ?_)
              · exact absurd b100 (by decide)
              · refine z_iconst (v := 1) dX11_hour_103 (by decide) ?_
                refine z_goto (tgt := 108) dX11_hour_104 (by decide) ?_
                refine z_iret dX11_hour_108 rfl zle ?_
                first
                  | exact zAns.of C (by unfold aHour; rw [aIx_in hh (by omega)]; rw [if_neg (by rw [s2]; decide), if_neg (by rw [s2]; decide), if_neg (by rw [s2]; decide), if_neg (by rw [s2]; decide), if_pos s2]; exact c97.symm)
                  | exact zAns.of C (by unfold aHour; rw [aIx_in hh (by omega)]; rw [if_neg (by rw [s2]; decide), if_neg (by rw [s2]; decide), if_neg (by rw [s2]; decide), if_neg (by rw [s2]; decide), if_pos s2]; exact ((ok.s.2.1 h hh).2.2.2.2.resolve_right (fun z => c97 z.1)).symm)
            · refine z_if_eq (tgt := 107) dX11_hour_100 (by decide) (fun b100 => ?_) (fun b100 => ?_)
              · refine z_iconst (v := 0) dX11_hour_107 (by decide) ?_
                refine z_iret dX11_hour_108 rfl zle ?_
                first
                  | exact zAns.of C (by unfold aHour; rw [aIx_in hh (by omega)]; rw [if_neg (by rw [s2]; decide), if_neg (by rw [s2]; decide), if_neg (by rw [s2]; decide), if_neg (by rw [s2]; decide), if_pos s2]; exact c97.symm)
                  | exact zAns.of C (by unfold aHour; rw [aIx_in hh (by omega)]; rw [if_neg (by rw [s2]; decide), if_neg (by rw [s2]; decide), if_neg (by rw [s2]; decide), if_neg (by rw [s2]; decide), if_pos s2]; exact ((ok.s.2.1 h hh).2.2.2.2.resolve_right (fun z => c97 z.1)).symm)
              · exact absurd b100 (by decide)
          | 5, _ =>
            have s2 : w = 5 := s15
            refine z_aload_n dX11_hour_109 rfl ?_
            refine z_getR (j := 3) (r := 18) kX11 lf_X11_37 (by decide) rfl dX11_hour_110 k0_0 s0_0 r0_0_3 (by decide) ?_
            refine z_getR (j := 4) (r := 21) kX1 lf_X11_127 (by decide) rfl dX11_hour_113 k0_18 s0_18 r0_18_4 (by decide) ?_
            refine z_iload_n dX11_hour_116 rfl ?_
            refine z_ialdV (j := h) rfl (by omega) (R.1.2.2.2.1 h (by omega)).2.2 dX11_hour_117 k0_21 s0_21 ?_
            refine z_iret dX11_hour_118 rfl zle ?_
            exact zAns.of C (by unfold aHour; rw [aIx_in hh (by omega)]; rw [if_neg (by rw [s2]; decide), if_neg (by rw [s2]; decide), if_neg (by rw [s2]; decide), if_neg (by rw [s2]; decide), if_neg (by rw [s2]; decide), if_pos s2])
          | k + 6, h => exact absurd h (by omega)
        · have n0 : ¬ w = 0 := s15 0 (by decide)
          have n1 : ¬ w = 1 := s15 1 (by decide)
          have n2 : ¬ w = 2 := s15 2 (by decide)
          have n3 : ¬ w = 3 := s15 3 (by decide)
          have n4 : ¬ w = 4 := s15 4 (by decide)
          have n5 : ¬ w = 5 := s15 5 (by decide)
          refine z_bipush (v := (-3)) dX11_hour_119 (by decide) ?_
          refine z_iret dX11_hour_121 rfl zle ?_
          exact zAns.of C (by unfold aHour; rw [aIx_in hh (by omega)]; rw [if_neg n0, if_neg n1, if_neg n2, if_neg n3, if_neg n4, if_neg n5])
      · exact absurd b8 (by decide)
    · exact absurd (show 0 ≤ nI h ∧ nI h < M 1 1 by rw [C.road.2.1]; exact zInP hh (by omega)) c5
  · refine zMet.of (by decide) (Nat.le_of_ble_eq_true rfl) ?_
    refine z_aload_n dX11_hour_0 rfl ?_
    refine z_getR (j := 0) (r := 1) kX11 lf_X11_10 (by decide) rfl dX11_hour_1 k0_0 s0_0 r0_0_0 (by decide) ?_
    refine z_iload_n dX11_hour_4 rfl ?_
    refine z_iV1 (c_X7_hasHour g l (by decide)) mw_X7_hasHour lm_X11_107 mi_X7_hasHour mv_X7_hasHour kX7 (by decide) (Nat.le_of_ble_eq_true rfl) zle k0_1 s0_1 dX11_hour_5 (fun r5 M5 q5 => ?_)
    obtain ⟨qm5, qr5⟩ := q5
    obtain rfl := qm5.symm
    obtain ⟨c5, rfl⟩ | ⟨c5, rfl⟩ := qr5
    · exact absurd (show _ ∧ _ < nI A.n by rw [← C.road.2.1]; exact c5) hx
    · refine z_if_ne (tgt := 14) dX11_hour_8 (by decide) (fun b8 => ?_) (fun b8 => ?_)
      · exact absurd b8 (by decide)
      · refine z_bipush (v := (-2)) dX11_hour_11 (by decide) ?_
        refine z_iret dX11_hour_13 rfl zle ?_
        exact zAns.of C (by unfold aHour; rw [aIx_out hx])

set_option maxRecDepth 100000 in
set_option maxHeartbeats 4000000 in
theorem c_X11_rider (g : zG) (l : Launch) {M : zM} {A : aSt} (ok : aOK A) (C : RelC M A) {x w : Int32} : zMet g l yX11_rider cX11_rider 3 (some .int) 1 0 0 [.ref 0, .int x, .int w] S0 M (zQi (fun r' M' => zAns M A (aRider A x w) r' M')) := by
  have n8 : A.n ≤ 8 := ok.s.1.1
  have r4 : A.r ≤ 4 := ok.s.1.2.1
  have i6 : A.i ≤ 6 := ok.s.1.2.2.1
  have R : zDR M M 18 A.s A.n A.r A.i := ⟨C.day, fun _ _ => rfl⟩
  rcases zInD x (show A.r < 1000 by omega) with ⟨h, hh, rfl⟩ | hx
  · refine zMet.of (by decide) (Nat.le_of_ble_eq_true rfl) ?_
    refine z_aload_n dX11_rider_0 rfl ?_
    refine z_getR (j := 0) (r := 1) kX11 lf_X11_10 (by decide) rfl dX11_rider_1 k0_0 s0_0 r0_0_0 (by decide) ?_
    refine z_iload_n dX11_rider_4 rfl ?_
    refine z_iV1 (c_X7_hasRider g l (by decide)) mw_X7_hasRider lm_X11_130 mi_X7_hasRider mv_X7_hasRider kX7 (by decide) (Nat.le_of_ble_eq_true rfl) zle k0_1 s0_1 dX11_rider_5 (fun r5 M5 q5 => ?_)
    obtain ⟨qm5, qr5⟩ := q5
    obtain rfl := qm5.symm
    obtain ⟨c5, rfl⟩ | ⟨c5, rfl⟩ := qr5
    · refine z_if_ne (tgt := 14) dX11_rider_8 (by decide) (fun b8 => ?_) (fun b8 => ?_)
      · refine z_iload_n dX11_rider_14 rfl ?_
        refine z_tsw (b := 0) (n := 3) (tg := [40, 50, 60]) (tgt := 70) dX11_rider_15 (by decide) (by decide) (by decide) (by decide) (by decide) (fun k15 hk15 s15 => ?_) (fun s15 => ?_)
        · match k15, hk15 with
          | 0, _ =>
            have s2 : w = 0 := s15
            refine z_aload_n dX11_rider_40 rfl ?_
            refine z_getR (j := 3) (r := 18) kX11 lf_X11_37 (by decide) rfl dX11_rider_41 k0_0 s0_0 r0_0_3 (by decide) ?_
            refine z_getR (j := 6) (r := 22) kX1 lf_X11_133 (by decide) rfl dX11_rider_44 k0_18 s0_18 r0_18_6 (by decide) ?_
            refine z_iload_n dX11_rider_47 rfl ?_
            refine z_ialdV (j := h) rfl (by omega) (R.1.2.2.2.2 h (by omega)).1 dX11_rider_48 k0_22 s0_22 ?_
            refine z_iret dX11_rider_49 rfl zle ?_
            exact zAns.of C (by unfold aRider; rw [aIx_in hh (by omega)]; rw [if_pos s2])
          | 1, _ =>
            have s2 : w = 1 := s15
            refine z_aload_n dX11_rider_50 rfl ?_
            refine z_getR (j := 3) (r := 18) kX11 lf_X11_37 (by decide) rfl dX11_rider_51 k0_0 s0_0 r0_0_3 (by decide) ?_
            refine z_getR (j := 7) (r := 23) kX1 lf_X11_136 (by decide) rfl dX11_rider_54 k0_18 s0_18 r0_18_7 (by decide) ?_
            refine z_iload_n dX11_rider_57 rfl ?_
            refine z_ialdV (j := h) rfl (by omega) (R.1.2.2.2.2 h (by omega)).2.1 dX11_rider_58 k0_23 s0_23 ?_
            refine z_iret dX11_rider_59 rfl zle ?_
            exact zAns.of C (by unfold aRider; rw [aIx_in hh (by omega)]; rw [if_neg (by rw [s2]; decide), if_pos s2])
          | 2, _ =>
            have s2 : w = 2 := s15
            refine z_aload_n dX11_rider_60 rfl ?_
            refine z_getR (j := 3) (r := 18) kX11 lf_X11_37 (by decide) rfl dX11_rider_61 k0_0 s0_0 r0_0_3 (by decide) ?_
            refine z_getR (j := 8) (r := 24) kX1 lf_X11_139 (by decide) rfl dX11_rider_64 k0_18 s0_18 r0_18_8 (by decide) ?_
            refine z_iload_n dX11_rider_67 rfl ?_
            refine z_ialdV (j := h) rfl (by omega) (R.1.2.2.2.2 h (by omega)).2.2 dX11_rider_68 k0_24 s0_24 ?_
            refine z_iret dX11_rider_69 rfl zle ?_
            exact zAns.of C (by unfold aRider; rw [aIx_in hh (by omega)]; rw [if_neg (by rw [s2]; decide), if_neg (by rw [s2]; decide), if_pos s2])
          | k + 3, h => exact absurd h (by omega)
        · have n0 : ¬ w = 0 := s15 0 (by decide)
          have n1 : ¬ w = 1 := s15 1 (by decide)
          have n2 : ¬ w = 2 := s15 2 (by decide)
          refine z_bipush (v := (-3)) dX11_rider_70 (by decide) ?_
          refine z_iret dX11_rider_72 rfl zle ?_
          exact zAns.of C (by unfold aRider; rw [aIx_in hh (by omega)]; rw [if_neg n0, if_neg n1, if_neg n2])
      · exact absurd b8 (by decide)
    · exact absurd (show 0 ≤ nI h ∧ nI h < M 1 2 by rw [C.road.2.2.1]; exact zInP hh (by omega)) c5
  · refine zMet.of (by decide) (Nat.le_of_ble_eq_true rfl) ?_
    refine z_aload_n dX11_rider_0 rfl ?_
    refine z_getR (j := 0) (r := 1) kX11 lf_X11_10 (by decide) rfl dX11_rider_1 k0_0 s0_0 r0_0_0 (by decide) ?_
    refine z_iload_n dX11_rider_4 rfl ?_
    refine z_iV1 (c_X7_hasRider g l (by decide)) mw_X7_hasRider lm_X11_130 mi_X7_hasRider mv_X7_hasRider kX7 (by decide) (Nat.le_of_ble_eq_true rfl) zle k0_1 s0_1 dX11_rider_5 (fun r5 M5 q5 => ?_)
    obtain ⟨qm5, qr5⟩ := q5
    obtain rfl := qm5.symm
    obtain ⟨c5, rfl⟩ | ⟨c5, rfl⟩ := qr5
    · exact absurd (show _ ∧ _ < nI A.r by rw [← C.road.2.2.1]; exact c5) hx
    · refine z_if_ne (tgt := 14) dX11_rider_8 (by decide) (fun b8 => ?_) (fun b8 => ?_)
      · exact absurd b8 (by decide)
      · refine z_bipush (v := (-2)) dX11_rider_11 (by decide) ?_
        refine z_iret dX11_rider_13 rfl zle ?_
        exact zAns.of C (by unfold aRider; rw [aIx_out hx])

set_option maxRecDepth 100000 in
set_option maxHeartbeats 4000000 in
theorem c_X11_inn (g : zG) (l : Launch) {M : zM} {A : aSt} (ok : aOK A) (C : RelC M A) {x : Int32} : zMet g l yX11_inn cX11_inn 2 (some .int) 1 0 0 [.ref 0, .int x] S0 M (zQi (fun r' M' => zAns M A (aInn A x) r' M')) := by
  have n8 : A.n ≤ 8 := ok.s.1.1
  have r4 : A.r ≤ 4 := ok.s.1.2.1
  have i6 : A.i ≤ 6 := ok.s.1.2.2.1
  have R : zDR M M 18 A.s A.n A.r A.i := ⟨C.day, fun _ _ => rfl⟩
  rcases zInD x (show A.i < 1000 by omega) with ⟨h, hh, rfl⟩ | hx
  · refine zMet.of (by decide) (Nat.le_of_ble_eq_true rfl) ?_
    refine z_aload_n dX11_inn_0 rfl ?_
    refine z_getR (j := 0) (r := 1) kX11 lf_X11_10 (by decide) rfl dX11_inn_1 k0_0 s0_0 r0_0_0 (by decide) ?_
    refine z_iload_n dX11_inn_4 rfl ?_
    refine z_iV1 (c_X7_hasInn g l (by decide)) mw_X7_hasInn lm_X11_142 mi_X7_hasInn mv_X7_hasInn kX7 (by decide) (Nat.le_of_ble_eq_true rfl) zle k0_1 s0_1 dX11_inn_5 (fun r5 M5 q5 => ?_)
    obtain ⟨qm5, qr5⟩ := q5
    obtain rfl := qm5.symm
    obtain ⟨c5, rfl⟩ | ⟨c5, rfl⟩ := qr5
    · refine z_if_eq (tgt := 23) dX11_inn_8 (by decide) (fun b8 => ?_) (fun b8 => ?_)
      · exact absurd b8 (by decide)
      · refine z_aload_n dX11_inn_11 rfl ?_
        refine z_getR (j := 0) (r := 1) kX11 lf_X11_10 (by decide) rfl dX11_inn_12 k0_0 s0_0 r0_0_0 (by decide) ?_
        refine z_getR (j := 3) (r := 2) kX7 lf_X11_145 (by decide) rfl dX11_inn_15 k0_1 s0_1 r0_1_3 (by decide) ?_
        refine z_iload_n dX11_inn_18 rfl ?_
        refine z_ialdV (j := h) rfl (by omega) (R.1.1.2.2.2.1 h (by omega)) dX11_inn_19 k0_2 s0_2 ?_
        refine z_goto (tgt := 25) dX11_inn_20 (by decide) ?_
        refine z_iret dX11_inn_25 rfl zle ?_
        exact zAns.of C (by unfold aInn; rw [aIx_in hh (by omega)])
    · exact absurd (show 0 ≤ nI h ∧ nI h < M 1 0 by rw [C.road.1]; exact zInP hh (by omega)) c5
  · refine zMet.of (by decide) (Nat.le_of_ble_eq_true rfl) ?_
    refine z_aload_n dX11_inn_0 rfl ?_
    refine z_getR (j := 0) (r := 1) kX11 lf_X11_10 (by decide) rfl dX11_inn_1 k0_0 s0_0 r0_0_0 (by decide) ?_
    refine z_iload_n dX11_inn_4 rfl ?_
    refine z_iV1 (c_X7_hasInn g l (by decide)) mw_X7_hasInn lm_X11_142 mi_X7_hasInn mv_X7_hasInn kX7 (by decide) (Nat.le_of_ble_eq_true rfl) zle k0_1 s0_1 dX11_inn_5 (fun r5 M5 q5 => ?_)
    obtain ⟨qm5, qr5⟩ := q5
    obtain rfl := qm5.symm
    obtain ⟨c5, rfl⟩ | ⟨c5, rfl⟩ := qr5
    · exact absurd (show _ ∧ _ < nI A.i by rw [← C.road.1]; exact c5) hx
    · refine z_if_eq (tgt := 23) dX11_inn_8 (by decide) (fun b8 => ?_) (fun b8 => ?_)
      · refine z_bipush (v := (-2)) dX11_inn_23 (by decide) ?_
        refine z_iret dX11_inn_25 rfl zle ?_
        exact zAns.of C (by unfold aInn; rw [aIx_out hx])
      · exact absurd b8 (by decide)

set_option maxRecDepth 100000 in
set_option maxHeartbeats 4000000 in
theorem c_X11_as (g : zG) (l : Launch) {M : zM} {A : aSt} (ok : aOK A) (C : RelC M A) {x w : Int32} : zMet g l yX11_as cX11_as 4 (some .int) 1 0 0 [.ref 0, .int x, .int w] S0 M (zQi (fun r' M' => zAns M A (aAs A x w) r' M')) := by
  have n8 : A.n ≤ 8 := ok.s.1.1
  have r4 : A.r ≤ 4 := ok.s.1.2.1
  have i6 : A.i ≤ 6 := ok.s.1.2.2.1
  have R : zDR M M 18 A.s A.n A.r A.i := ⟨C.day, fun _ _ => rfl⟩
  rcases zInD x (show A.n < 1000 by omega) with ⟨h, hh, rfl⟩ | hx
  · refine zMet.of (by decide) (Nat.le_of_ble_eq_true rfl) ?_
    refine z_aload_n dX11_as_0 rfl ?_
    refine z_getR (j := 0) (r := 1) kX11 lf_X11_10 (by decide) rfl dX11_as_1 k0_0 s0_0 r0_0_0 (by decide) ?_
    refine z_iload_n dX11_as_4 rfl ?_
    refine z_iV1 (c_X7_hasHour g l (by decide)) mw_X7_hasHour lm_X11_107 mi_X7_hasHour mv_X7_hasHour kX7 (by decide) (Nat.le_of_ble_eq_true rfl) zle k0_1 s0_1 dX11_as_5 (fun r5 M5 q5 => ?_)
    obtain ⟨qm5, qr5⟩ := q5
    obtain rfl := qm5.symm
    obtain ⟨c5, rfl⟩ | ⟨c5, rfl⟩ := qr5
    · refine z_if_ne (tgt := 14) dX11_as_8 (by decide) (fun b8 => ?_) (fun b8 => ?_)
      · refine z_iload_n dX11_as_14 rfl ?_
        refine z_if_lt (tgt := 23) dX11_as_15 (by decide) (fun b15 => ?_) (fun b15 => ?_)
        · refine z_bipush (v := (-3)) dX11_as_23 (by decide) ?_
          refine z_iret dX11_as_25 rfl zle ?_
          exact zAns.of C (by unfold aAs; rw [aIx_in hh (by omega)]; rw [if_pos (by first | exact Or.inl b15 | exact Or.inr (Int32.not_le.mp b20))])
        · refine z_iload_n dX11_as_18 rfl ?_
          refine z_iconst (v := 5) dX11_as_19 (by decide) ?_
          refine z_icmp_le (tgt := 26) dX11_as_20 (by decide) (fun b20 => ?_) (fun b20 => ?_)
          · refine z_aload_n dX11_as_26 rfl ?_
            refine z_getR (j := 0) (r := 1) kX11 lf_X11_10 (by decide) rfl dX11_as_27 k0_0 s0_0 r0_0_0 (by decide) ?_
            refine z_getR (j := 4) (r := 3) kX7 lf_X11_111 (by decide) rfl dX11_as_30 k0_1 s0_1 r0_1_4 (by decide) ?_
            refine z_iload_n dX11_as_33 rfl ?_
            refine z_ialdV (j := h) rfl (by omega) (R.1.1.2.2.2.2 h (by omega)).1 dX11_as_34 k0_3 s0_3 ?_
            refine z_istore_n dX11_as_35 (by decide) rfl rfl ?_
            refine z_iload_n dX11_as_36 rfl ?_
            refine z_iload_n dX11_as_37 rfl ?_
            refine z_iS2 (c_X2_isUnder g l) mw_X2_isUnder lm_X11_150 ms_X2_isUnder (by decide) (Nat.le_of_ble_eq_true rfl) zle dX11_as_38 (fun r38 M38 q38 => ?_)
            obtain ⟨qm38, qr38⟩ := q38
            obtain rfl := qm38.symm
            obtain ⟨c38, rfl⟩ | ⟨c38, rfl⟩ := qr38
            · refine z_if_eq (tgt := 52) dX11_as_41 (by decide) (fun b41 => ?_) (fun b41 => ?_)
              · exact absurd b41 (by decide)
              · refine z_iload_n dX11_as_44 rfl ?_
                refine z_iconst (v := 5) dX11_as_45 (by decide) ?_
                refine z_iS2 (c_X2_takes g l) mw_X2_takes lm_X11_154 ms_X2_takes (by decide) (Nat.le_of_ble_eq_true rfl) zle dX11_as_46 (fun r46 M46 q46 => ?_)
                obtain ⟨qr46, qm46⟩ := q46
                obtain rfl := qr46.symm
                obtain rfl := qm46.symm
                refine z_goto (tgt := 54) dX11_as_49 (by decide) ?_
                refine z_iret dX11_as_54 rfl zle ?_
                have hb : ¬ (w < 0 ∨ 5 < w) := fun z => z.elim b15 (Int32.not_lt.mpr b20)
                first
                  | exact zAns.of C (by unfold aAs; rw [aIx_in hh (by omega), if_neg hb]; exact (if_pos c38).symm)
                  | exact zAns.of C (by unfold aAs; rw [aIx_in hh (by omega), if_neg hb]; exact (if_neg c38).symm)
            · refine z_if_eq (tgt := 52) dX11_as_41 (by decide) (fun b41 => ?_) (fun b41 => ?_)
              · refine z_bipush (v := (-4)) dX11_as_52 (by decide) ?_
                refine z_iret dX11_as_54 rfl zle ?_
                have hb : ¬ (w < 0 ∨ 5 < w) := fun z => z.elim b15 (Int32.not_lt.mpr b20)
                first
                  | exact zAns.of C (by unfold aAs; rw [aIx_in hh (by omega), if_neg hb]; exact (if_pos c38).symm)
                  | exact zAns.of C (by unfold aAs; rw [aIx_in hh (by omega), if_neg hb]; exact (if_neg c38).symm)
              · exact absurd b41 (by decide)
          · refine z_bipush (v := (-3)) dX11_as_23 (by decide) ?_
            refine z_iret dX11_as_25 rfl zle ?_
            exact zAns.of C (by unfold aAs; rw [aIx_in hh (by omega)]; rw [if_pos (by first | exact Or.inl b15 | exact Or.inr (Int32.not_le.mp b20))])
      · exact absurd b8 (by decide)
    · exact absurd (show 0 ≤ nI h ∧ nI h < M 1 1 by rw [C.road.2.1]; exact zInP hh (by omega)) c5
  · refine zMet.of (by decide) (Nat.le_of_ble_eq_true rfl) ?_
    refine z_aload_n dX11_as_0 rfl ?_
    refine z_getR (j := 0) (r := 1) kX11 lf_X11_10 (by decide) rfl dX11_as_1 k0_0 s0_0 r0_0_0 (by decide) ?_
    refine z_iload_n dX11_as_4 rfl ?_
    refine z_iV1 (c_X7_hasHour g l (by decide)) mw_X7_hasHour lm_X11_107 mi_X7_hasHour mv_X7_hasHour kX7 (by decide) (Nat.le_of_ble_eq_true rfl) zle k0_1 s0_1 dX11_as_5 (fun r5 M5 q5 => ?_)
    obtain ⟨qm5, qr5⟩ := q5
    obtain rfl := qm5.symm
    obtain ⟨c5, rfl⟩ | ⟨c5, rfl⟩ := qr5
    · exact absurd (show _ ∧ _ < nI A.n by rw [← C.road.2.1]; exact c5) hx
    · refine z_if_ne (tgt := 14) dX11_as_8 (by decide) (fun b8 => ?_) (fun b8 => ?_)
      · exact absurd b8 (by decide)
      · refine z_bipush (v := (-2)) dX11_as_11 (by decide) ?_
        refine z_iret dX11_as_13 rfl zle ?_
        exact zAns.of C (by unfold aAs; rw [aIx_out hx])

set_option maxRecDepth 100000 in
set_option maxHeartbeats 4000000 in
theorem c_X11_given (g : zG) (l : Launch) {M : zM} {A : aSt} (ok : aOK A) (C : RelC M A) {x : Int32} : zMet g l yX11_given cX11_given 2 (some .int) 2 0 0 [.ref 0, .int x] S0 M (zQi (fun r' M' => zAns M A (aGiven A x) r' M')) := by
  have n8 : A.n ≤ 8 := ok.s.1.1
  have r4 : A.r ≤ 4 := ok.s.1.2.1
  have i6 : A.i ≤ 6 := ok.s.1.2.2.1
  have R : zDR M M 18 A.s A.n A.r A.i := ⟨C.day, fun _ _ => rfl⟩
  rcases zInD x (show A.r < 1000 by omega) with ⟨h, hh, rfl⟩ | hx
  · refine zMet.of (by decide) (Nat.le_of_ble_eq_true rfl) ?_
    refine z_aload_n dX11_given_0 rfl ?_
    refine z_getR (j := 0) (r := 1) kX11 lf_X11_10 (by decide) rfl dX11_given_1 k0_0 s0_0 r0_0_0 (by decide) ?_
    refine z_iload_n dX11_given_4 rfl ?_
    refine z_iV1 (c_X7_hasRider g l (by decide)) mw_X7_hasRider lm_X11_130 mi_X7_hasRider mv_X7_hasRider kX7 (by decide) (Nat.le_of_ble_eq_true rfl) zle k0_1 s0_1 dX11_given_5 (fun r5 M5 q5 => ?_)
    obtain ⟨qm5, qr5⟩ := q5
    obtain rfl := qm5.symm
    obtain ⟨c5, rfl⟩ | ⟨c5, rfl⟩ := qr5
    · refine z_if_ne (tgt := 14) dX11_given_8 (by decide) (fun b8 => ?_) (fun b8 => ?_)
      · refine z_aload_n dX11_given_14 rfl ?_
        refine z_getR (j := 3) (r := 18) kX11 lf_X11_37 (by decide) rfl dX11_given_15 k0_0 s0_0 r0_0_3 (by decide) ?_
        refine z_iload_n dX11_given_18 rfl ?_
        refine z_iV1 (c_X1_isThere g l (by decide) R hh ⟨n8, r4, i6⟩) mw_X1_isThere lm_X11_183 mi_X1_isThere mv_X1_isThere kX1 (by decide) (Nat.le_of_ble_eq_true rfl) zle k0_18 s0_18 dX11_given_19 (fun r19 M19 q19 => ?_)
        obtain ⟨qm19, qr19⟩ := q19
        obtain rfl := qm19.symm
        obtain ⟨c19, rfl⟩ | ⟨c19, rfl⟩ := qr19
        · refine z_if_eq (tgt := 29) dX11_given_22 (by decide) (fun b22 => ?_) (fun b22 => ?_)
          · exact absurd b22 (by decide)
          · refine z_iconst (v := (-1)) dX11_given_25 (by decide) ?_
            refine z_goto (tgt := 38) dX11_given_26 (by decide) ?_
            refine z_iret dX11_given_38 rfl zle ?_
            first
              | exact zAns.of C (by unfold aGiven; rw [aIx_in hh (by omega)]; exact (if_pos c19).symm)
              | exact zAns.of C (by unfold aGiven; rw [aIx_in hh (by omega)]; exact (if_neg c19).symm)
        · refine z_if_eq (tgt := 29) dX11_given_22 (by decide) (fun b22 => ?_) (fun b22 => ?_)
          · refine z_aload_n dX11_given_29 rfl ?_
            refine z_getR (j := 3) (r := 18) kX11 lf_X11_37 (by decide) rfl dX11_given_30 k0_0 s0_0 r0_0_3 (by decide) ?_
            refine z_iload_n dX11_given_33 rfl ?_
            refine z_iconst (v := 0) dX11_given_34 (by decide) ?_
            refine z_iV2 (c_X1_chooseHour g l (by decide) R ok.s hh) mw_X1_chooseHour lm_X11_186 mi_X1_chooseHour mv_X1_chooseHour kX1 (by decide) (Nat.le_of_ble_eq_true rfl) zle k0_18 s0_18 dX11_given_35 (fun r35 M35 q35 => ?_)
            obtain ⟨qr35, qm35⟩ := q35
            obtain rfl := qr35.symm
            obtain rfl := qm35.symm
            refine z_iret dX11_given_38 rfl zle ?_
            first
              | exact zAns.of C (by unfold aGiven; rw [aIx_in hh (by omega)]; exact (if_pos c19).symm)
              | exact zAns.of C (by unfold aGiven; rw [aIx_in hh (by omega)]; exact (if_neg c19).symm)
          · exact absurd b22 (by decide)
      · exact absurd b8 (by decide)
    · exact absurd (show 0 ≤ nI h ∧ nI h < M 1 2 by rw [C.road.2.2.1]; exact zInP hh (by omega)) c5
  · refine zMet.of (by decide) (Nat.le_of_ble_eq_true rfl) ?_
    refine z_aload_n dX11_given_0 rfl ?_
    refine z_getR (j := 0) (r := 1) kX11 lf_X11_10 (by decide) rfl dX11_given_1 k0_0 s0_0 r0_0_0 (by decide) ?_
    refine z_iload_n dX11_given_4 rfl ?_
    refine z_iV1 (c_X7_hasRider g l (by decide)) mw_X7_hasRider lm_X11_130 mi_X7_hasRider mv_X7_hasRider kX7 (by decide) (Nat.le_of_ble_eq_true rfl) zle k0_1 s0_1 dX11_given_5 (fun r5 M5 q5 => ?_)
    obtain ⟨qm5, qr5⟩ := q5
    obtain rfl := qm5.symm
    obtain ⟨c5, rfl⟩ | ⟨c5, rfl⟩ := qr5
    · exact absurd (show _ ∧ _ < nI A.r by rw [← C.road.2.2.1]; exact c5) hx
    · refine z_if_ne (tgt := 14) dX11_given_8 (by decide) (fun b8 => ?_) (fun b8 => ?_)
      · exact absurd b8 (by decide)
      · refine z_bipush (v := (-2)) dX11_given_11 (by decide) ?_
        refine z_iret dX11_given_13 rfl zle ?_
        exact zAns.of C (by unfold aGiven; rw [aIx_out hx])

set_option maxRecDepth 100000 in
set_option maxHeartbeats 4000000 in
theorem c_X11_fastest (g : zG) (l : Launch) {M : zM} {A : aSt} (ok : aOK A) (C : RelC M A) {x : Int32} : zMet g l yX11_fastest cX11_fastest 2 (some .int) 3 0 0 [.ref 0, .int x] S0 M (zQi (fun r' M' => zAns M A (aFast A x) r' M')) := by
  have n8 : A.n ≤ 8 := ok.s.1.1
  have r4 : A.r ≤ 4 := ok.s.1.2.1
  have i6 : A.i ≤ 6 := ok.s.1.2.2.1
  have R : zDR M M 18 A.s A.n A.r A.i := ⟨C.day, fun _ _ => rfl⟩
  rcases zInD x (show A.r < 1000 by omega) with ⟨h, hh, rfl⟩ | hx
  · refine zMet.of (by decide) (Nat.le_of_ble_eq_true rfl) ?_
    refine z_aload_n dX11_fastest_0 rfl ?_
    refine z_getR (j := 0) (r := 1) kX11 lf_X11_10 (by decide) rfl dX11_fastest_1 k0_0 s0_0 r0_0_0 (by decide) ?_
    refine z_iload_n dX11_fastest_4 rfl ?_
    refine z_iV1 (c_X7_hasRider g l (by decide)) mw_X7_hasRider lm_X11_130 mi_X7_hasRider mv_X7_hasRider kX7 (by decide) (Nat.le_of_ble_eq_true rfl) zle k0_1 s0_1 dX11_fastest_5 (fun r5 M5 q5 => ?_)
    obtain ⟨qm5, qr5⟩ := q5
    obtain rfl := qm5.symm
    obtain ⟨c5, rfl⟩ | ⟨c5, rfl⟩ := qr5
    · refine z_if_eq (tgt := 22) dX11_fastest_8 (by decide) (fun b8 => ?_) (fun b8 => ?_)
      · exact absurd b8 (by decide)
      · refine z_aload_n dX11_fastest_11 rfl ?_
        refine z_getR (j := 3) (r := 18) kX11 lf_X11_37 (by decide) rfl dX11_fastest_12 k0_0 s0_0 r0_0_3 (by decide) ?_
        refine z_iload_n dX11_fastest_15 rfl ?_
        refine z_iV1 (c_X1_fastestRide g l (by decide) R ok.s hh) mw_X1_fastestRide lm_X11_205 mi_X1_fastestRide mv_X1_fastestRide kX1 (by decide) (Nat.le_of_ble_eq_true rfl) zle k0_18 s0_18 dX11_fastest_16 (fun r16 M16 q16 => ?_)
        obtain ⟨qr16, qm16⟩ := q16
        obtain rfl := qr16.symm
        obtain rfl := qm16.symm
        refine z_goto (tgt := 24) dX11_fastest_19 (by decide) ?_
        refine z_iret dX11_fastest_24 rfl zle ?_
        exact zAns.of C (by unfold aFast; rw [aIx_in hh (by omega)])
    · exact absurd (show 0 ≤ nI h ∧ nI h < M 1 2 by rw [C.road.2.2.1]; exact zInP hh (by omega)) c5
  · refine zMet.of (by decide) (Nat.le_of_ble_eq_true rfl) ?_
    refine z_aload_n dX11_fastest_0 rfl ?_
    refine z_getR (j := 0) (r := 1) kX11 lf_X11_10 (by decide) rfl dX11_fastest_1 k0_0 s0_0 r0_0_0 (by decide) ?_
    refine z_iload_n dX11_fastest_4 rfl ?_
    refine z_iV1 (c_X7_hasRider g l (by decide)) mw_X7_hasRider lm_X11_130 mi_X7_hasRider mv_X7_hasRider kX7 (by decide) (Nat.le_of_ble_eq_true rfl) zle k0_1 s0_1 dX11_fastest_5 (fun r5 M5 q5 => ?_)
    obtain ⟨qm5, qr5⟩ := q5
    obtain rfl := qm5.symm
    obtain ⟨c5, rfl⟩ | ⟨c5, rfl⟩ := qr5
    · exact absurd (show _ ∧ _ < nI A.r by rw [← C.road.2.2.1]; exact c5) hx
    · refine z_if_eq (tgt := 22) dX11_fastest_8 (by decide) (fun b8 => ?_) (fun b8 => ?_)
      · refine z_bipush (v := (-2)) dX11_fastest_22 (by decide) ?_
        refine z_iret dX11_fastest_24 rfl zle ?_
        exact zAns.of C (by unfold aFast; rw [aIx_out hx])
      · exact absurd b8 (by decide)

