/-! ===== the class: the fastest ride, Past, Book, Shelf, Sightings, Odds ===== -/
theorem nI_mod8 : ∀ a, a < 100 → nI a - nI a / 8 * 8 = nI (a % 8) := by decide +kernel
theorem nI_min8 : ∀ a, a < 100 → (if (8 : Int32) < nI a then 8 else nI a) = nI (if a < 8 then a else 8) := by decide +kernel
theorem nI_min10 : ∀ a, a < 11 → (if (10 : Int32) < nI a then 10 else nI a) = nI a := by decide +kernel
theorem nI_ge99 {a : Nat} (h : 99999 ≤ a) (h2 : a < 9000000) : (99999 : Int32) ≤ nI a := show nI 99999 ≤ nI a from nI_le h (by omega)
theorem zPastAt {p : Nat} (h : p < 8) : ∃ e, e ∈ zDays ∧ S0.2.2 33 p = e + 1 ∧ e = 34 + 7 * p := ⟨34 + 7 * p, (by decide +kernel : ∀ p, p < 8 → 34 + 7 * p ∈ zDays) p h, (by decide +kernel : ∀ p, p < 8 → S0.2.2 33 p = 34 + 7 * p + 1) p h, rfl⟩
theorem zBookAt {b : Nat} (h : b < 4) : ∃ e, e ∈ zBooks ∧ S0.2.2 114 b = e + 1 ∧ e = 115 + 3 * b := ⟨115 + 3 * b, (by decide +kernel : ∀ p, p < 4 → 115 + 3 * p ∈ zBooks) b h, (by decide +kernel : ∀ p, p < 4 → S0.2.2 114 p = 115 + 3 * p + 1) b h, rfl⟩
def zLen (L : Int32) (n : Nat) : Prop := n ≤ 10 ∧ ∀ k, k ≤ 10 → (L ≤ nI k ↔ n ≤ k)
theorem zLen.of {n : Nat} (h : n ≤ 10) : zLen (nI n) n := ⟨h, fun k hk => ⟨fun z => (nI_leI (by omega) (by omega)).mp z, fun z => (nI_leI (by omega) (by omega)).mpr z⟩⟩
theorem zLen.no : zLen (-1) 0 := ⟨by omega, fun k hk => ⟨fun _ => Nat.zero_le _, fun _ => (by decide +kernel : ∀ k, k ≤ 10 → (-1 : Int32) ≤ nI k) k hk⟩⟩
def fFill (f : Nat → Int32) : Nat → Int32
  | 0 => 0
  | k + 1 => if f k = 3 then fFill f k else fFill f k + 1
def fTold (f v : Nat → Int32) : Nat → Int32
  | 0 => 0
  | k + 1 => if f k = 2 then fTold f v k ||| (1 <<< (v k &&& 31)) else fTold f v k
def fOwn (f v : Nat → Int32) : Nat → Int32
  | 0 => 0
  | k + 1 => if f k = 0 then fOwn f v k + v k else if f k = 1 then fOwn f v k + 1000 else fOwn f v k
def fOpen (M : zM) : Nat → Int32
  | 0 => 0
  | b + 1 => if M (115 + 3 * b) 2 = -1 then fOpen M b else fOpen M b + 1
def fAll (M : zM) (ln : Nat → Nat) (s : Int32) : Nat → Int32
  | 0 => 0
  | b + 1 => if (s >>> (nI b &&& 31)) &&& 1 = 0 then fAll M ln s b else fAll M ln s b ||| fTold (M (115 + 3 * b + 1)) (M (115 + 3 * b + 2)) (ln b)
def fWo (M : zM) (s : Int32) : Nat → Int32
  | 0 => s
  | b + 1 => if M (115 + 3 * b) 2 = -1 then fWo M s b &&& ((1 <<< (nI b &&& 31)) ^^^ (-1)) else fWo M s b
def zClo (M : zM) : Nat → zM
  | 0 => M
  | b + 1 => z_up (zClo M b) (115 + 3 * b) 2 (-1)
def fReach (M : zM) (ln : Nat → Nat) (s : Int32) : Nat → Int32
  | 0 => s
  | k + 1 => fReach M ln s k ||| fWo M (fAll M ln (fReach M ln s k) 4) 4
def fWeigh (M : zM) (ln : Nat → Nat) (s : Int32) : Nat → Int32
  | 0 => 1000000
  | b + 1 => if (s >>> (nI b &&& 31)) &&& 1 = 0 then fWeigh M ln s b else fWeigh M ln s b + fOwn (M (115 + 3 * b + 1)) (M (115 + 3 * b + 2)) (ln b)
def fFits (M : zM) (k : Int32) : Nat → Bool
  | 0 => true
  | j + 1 => fFits M k j && decide (kTakes k (M 110 j) = M 111 j ∧ kTires k (M 110 j) = M 112 j)
theorem fFits_le {M : zM} {k : Int32} {a : Nat} : ∀ b, a ≤ b → fFits M k b = true → fFits M k a = true
  | 0, h, z => by
    have : a = 0 := by omega
    subst this; exact z
  | b + 1, h, z => by
    by_cases e : a = b + 1
    · subst e; exact z
    · exact fFits_le b (by omega) (Bool.and_eq_true_iff.mp z).1
def fKinds (M : zM) (u : Nat) : Nat → Int32
  | 0 => 0
  | k + 1 => if fFits M (nI k) u = true then fKinds M u k ||| (1 <<< (nI k &&& 31)) else fKinds M u k
def fLike (s m k : Int32) : Nat → Int32
  | 0 => 0
  | o + 1 => if ¬ (s >>> (nI o &&& 31)) &&& 1 = 0 ∧ kTakes (nI o) m = kTakes k m ∧ kTires (nI o) m = kTires k m then fLike s m k o + 1 else fLike s m k o
def fPart (s m : Int32) : Nat → Int32
  | 0 => 0
  | k + 1 => if (s >>> (nI k &&& 31)) &&& 1 = 0 then fPart s m k else if fPart s m k < fLike s m (nI k) 5 then fLike s m (nI k) 5 else fPart s m k
def fAsk (s : Int32) : Nat → Int32 × Int32
  | 0 => (-1, zBc s)
  | m + 1 => if fPart s (nI (m + 1)) 5 < (fAsk s m).2 then (nI (m + 1), fPart s (nI (m + 1)) 5) else fAsk s m
def fPow (b : Int32) : Nat → Int64
  | 0 => 1
  | k + 1 => fPow b k * b.toInt64
def fWays (n : Int32) : Nat → Int64
  | 0 => 1
  | k + 1 => fWays n k * (n - nI k).toInt64 / (nI k + 1).toInt64

set_option maxRecDepth 100000 in
set_option maxHeartbeats 4000000 in
theorem lp_fastest (g : zG) (l : Launch) {M0 M : zM} {d n r i : Nat} {σ : Dy} {q : Nat} (hd : d ∈ zDays) (R : zDR M0 M d σ n r i) (ok : dOK σ n r i) (hq : q < r) {t : Nat} (ht : t < i) (et : σ (55 + q) = nI t) : ∀ (k h : Nat), h ≤ 6 → 6 - h < k → ∀ a s : Nat, a < i → s ≤ 18 * h → dFS σ n (nI t) 6 (σ (51 + q)) 0 = dFS σ n (nI t) (6 - h) (nI a) (nI s) → zA g l yX1_fastestRide cX1_fastestRide 7 (some .int) 2 0 0 (zQi (fun r' M' => r' = dFast σ n q ∧ M' = M)) 12 0 0 S0 M [.ref d, .int (nI q), .int (nI s), .int (nI a), .int (nI h), .null, .null] [] := by
  have n8 := ok.1.1
  have r4 := ok.1.2.1
  have i6 := ok.1.2.2.1
  intro k
  induction k with
  | zero => intro h hh hk; exact absurd hk (Nat.not_lt_zero _)
  | succ k ih =>
    intro h hh hk a s ha hs w
    refine z_iload dX1_fastestRide_12 rfl ?_
    refine z_bipush (v := 6) dX1_fastestRide_14 (by decide) ?_
    refine z_icmp_ge (tgt := 80) dX1_fastestRide_16 (by decide) (fun b16 => ?_) (fun b16 => ?_)
    · have e : 6 ≤ h := (nI_leI (by omega) (by omega)).mp b16
      have e2 : h = 6 := by omega
      subst e2
      refine z_iload_n dX1_fastestRide_80 rfl ?_
      refine z_iret dX1_fastestRide_81 rfl zle ?_
      first
        | (have hg : dFS σ n (nI t) 6 (σ (51 + q)) 0 = nI s := w
           exact ⟨by unfold dFast; rw [et, hg, if_neg (nI_nge (by omega))], rfl⟩)
        | (have hg : dFS σ n (nI t) 6 (σ (51 + q)) 0 = nI s := by rw [w, show 6 - h = (6 - (h + 1)) + 1 by omega]; exact if_pos b26
           exact ⟨by unfold dFast; rw [et, hg, if_neg (nI_nge (by omega))], rfl⟩)
    · have hn : h < 6 := by
        rcases Nat.lt_or_ge h 6 with z | z
        · exact z
        · exact absurd (nI_le z (by omega)) b16
      refine z_iload_n dX1_fastestRide_19 rfl ?_
      refine z_aload_n dX1_fastestRide_20 rfl ?_
      refine z_getR (j := 7) (r := (d + 5)) kX1 lf_X1_24 (by decide) rfl dX1_fastestRide_21 (zDay_k0 hd) (zDay_s0 hd) (zDay_r7 hd) (zDay_l5 hd) ?_
      refine z_iload_n dX1_fastestRide_24 rfl ?_
      refine z_ialdV (j := q) rfl (by omega) ((R.1.2.2.2.2 q (by omega)).2.1.trans et) dX1_fastestRide_25 (zDay_k5 hd) (zDay_s5 hd) ?_
      refine z_icmp_eq (tgt := 80) dX1_fastestRide_26 (by decide) (fun b26 => ?_) (fun b26 => ?_)
      · refine z_iload_n dX1_fastestRide_80 rfl ?_
        refine z_iret dX1_fastestRide_81 rfl zle ?_
        first
          | (have hg : dFS σ n (nI t) 6 (σ (51 + q)) 0 = nI s := w
             exact ⟨by unfold dFast; rw [et, hg, if_neg (nI_nge (by omega))], rfl⟩)
          | (have hg : dFS σ n (nI t) 6 (σ (51 + q)) 0 = nI s := by rw [w, show 6 - h = (6 - (h + 1)) + 1 by omega]; exact if_pos b26
             exact ⟨by unfold dFast; rw [et, hg, if_neg (nI_nge (by omega))], rfl⟩)
      · obtain ⟨c, hc, ec⟩ : zIn (dNext (nI a) (nI t)) i := dNext_in ⟨a, ha, rfl⟩ ⟨t, ht, rfl⟩ (by omega)
        obtain ⟨x, hx, hx2⟩ := dFA_nI ok (dMiles_in ok ⟨a, ha, rfl⟩ ⟨t, ht, rfl⟩) (nI a) n (Nat.le_refl _)
        have w2 : dFS σ n (nI t) 6 (σ (51 + q)) 0 = dFS σ n (nI t) (6 - (h + 1)) (nI c) (nI (s + x)) := by
          rw [w, show 6 - h = (6 - (h + 1)) + 1 by omega]
          show (if _ then _ else _) = _
          rw [if_neg b26, ec, hx, nI_adds]
        refine z_iload_n dX1_fastestRide_29 rfl ?_
        refine z_aload_n dX1_fastestRide_30 rfl ?_
        refine z_getR (j := 7) (r := (d + 5)) kX1 lf_X1_24 (by decide) rfl dX1_fastestRide_31 (zDay_k0 hd) (zDay_s0 hd) (zDay_r7 hd) (zDay_l5 hd) ?_
        refine z_iload_n dX1_fastestRide_34 rfl ?_
        refine z_ialdV (j := q) rfl (by omega) ((R.1.2.2.2.2 q (by omega)).2.1.trans et) dX1_fastestRide_35 (zDay_k5 hd) (zDay_s5 hd) ?_
        refine z_iS2 (c_X7_nextInn g l) mw_X7_nextInn lm_X1_108 ms_X7_nextInn (by decide) (Nat.le_of_ble_eq_true rfl) zle dX1_fastestRide_36 (fun r36 M36 q36 => ?_)
        obtain ⟨qr36, qm36⟩ := q36
        obtain rfl := qr36.symm
        obtain rfl := qm36.symm
        rw [ec]
        refine z_istore dX1_fastestRide_39 (by decide) rfl rfl ?_
        refine z_aload_n dX1_fastestRide_41 rfl ?_
        refine z_iload_n dX1_fastestRide_42 rfl ?_
        refine z_aload_n dX1_fastestRide_43 rfl ?_
        refine z_getR (j := 0) (r := 1) kX1 lf_X1_30 (by decide) rfl dX1_fastestRide_44 (zDay_k0 hd) (zDay_s0 hd) (zDay_r0 hd) (by decide) ?_
        refine z_iload_n dX1_fastestRide_47 rfl ?_
        refine z_iload dX1_fastestRide_48 rfl ?_
        refine z_iV2 (c_X7_milesBetween g l (ro := 1) (by decide) i6 R.1.1.1 ha hc rfl) mw_X7_milesBetween lm_X1_111 mi_X7_milesBetween mv_X7_milesBetween kX7 (by decide) (Nat.le_of_ble_eq_true rfl) zle k0_1 s0_1 dX1_fastestRide_50 (fun r50 M50 q50 => ?_)
        obtain ⟨qr50, qm50⟩ := q50
        obtain rfl := qr50.symm
        obtain rfl := qm50.symm
        refine z_as (x' := dMiles σ (nI a) (nI t)) ((R.1.1.2.2.2.1 _ (by split <;> assumption)).trans (by unfold dMiles; rw [dMid (by omega) (by omega) (by omega) ec])) ?_
        refine z_iV2 (c_X1_leastTaken g l hd R ok (dMiles_in ok ⟨a, ha, rfl⟩ ⟨t, ht, rfl⟩)) mw_X1_leastTaken lm_X1_130 mi_X1_leastTaken mv_X1_leastTaken kX1 (by decide) (Nat.le_of_ble_eq_true rfl) zle (zDay_k0 hd) (zDay_s0 hd) dX1_fastestRide_53 (fun r53 M53 q53 => ?_)
        obtain ⟨qr53, qm53⟩ := q53
        obtain rfl := qr53.symm
        obtain rfl := qm53.symm
        refine z_istore dX1_fastestRide_56 (by decide) rfl rfl ?_
        refine z_iload dX1_fastestRide_58 rfl ?_
        refine z_iconst (v := (-1)) dX1_fastestRide_60 (by decide) ?_
        refine z_icmp_ne (tgt := 66) dX1_fastestRide_61 (by decide) (fun b61 => ?_) (fun b61 => ?_)
        · refine z_iload_n dX1_fastestRide_66 rfl ?_
          refine z_iload dX1_fastestRide_67 rfl ?_
          refine z_iadd dX1_fastestRide_69 ?_
          refine z_istore_n dX1_fastestRide_70 (by decide) rfl rfl ?_
          refine z_iload dX1_fastestRide_71 rfl ?_
          refine z_istore_n dX1_fastestRide_73 (by decide) rfl rfl ?_
          refine z_iincN (k := h) dX1_fastestRide_74 rfl rfl (by decide) rfl rfl ?_
          refine z_goto (tgt := 12) dX1_fastestRide_77 (by decide) ?_
          have z2 : ¬ dFA σ (nI a) (dMiles σ (nI a) (nI t)) n = 99999 := fun z3 => b61 (by unfold dLT; rw [if_pos z3])
          have hx4 : x ≤ 18 := by
            rcases hx2 with z | z
            · exact z
            · rw [hx, z] at z2; exact absurd rfl z2
          refine zA.sub (ih (h + 1) (by omega) (by omega) c (s + x) hc (by omega) w2) rfl ⟨Or.inr rfl, Or.inr rfl, Or.inr (congrArg (fun z => some (Value.int z)) ?_), Or.inr rfl, Or.inr rfl, Or.inl rfl, Or.inl rfl, trivial⟩
          rw [show dLT σ (nI a) (dMiles σ (nI a) (nI t)) n = nI x by unfold dLT; rw [if_neg z2, hx]]
          exact nI_adds s x
        · refine z_iconst (v := (-1)) dX1_fastestRide_64 (by decide) ?_
          refine z_iret dX1_fastestRide_65 rfl zle ?_
          have hx3 : x = 99999 := by
            rcases hx2 with z | z
            · have z2 : ¬ dFA σ (nI a) (dMiles σ (nI a) (nI t)) n = 99999 := fun z3 => by
                rw [hx] at z3
                have := (nI_eq (b := 99999) (by omega) (by omega)).mp z3
                omega
              have z4 := b61
              unfold dLT at z4
              rw [if_neg z2, hx] at z4
              exact absurd z4 (nI_nm1 (by omega))
            · exact z
          obtain ⟨s', g1, g2, g3⟩ := dFS_ge ok ht (6 - (h + 1)) c (s + x) hc (by omega)
          refine ⟨?_, rfl⟩
          unfold dFast
          rw [et, w2, g1, if_pos (nI_ge99 (by omega) (by omega))]

set_option maxRecDepth 100000 in
set_option maxHeartbeats 4000000 in
theorem c_X1_fastestRide (g : zG) (l : Launch) {M0 M : zM} {d n r i : Nat} {σ : Dy} {q : Nat} (hd : d ∈ zDays) (R : zDR M0 M d σ n r i) (ok : dOK σ n r i) (hq : q < r) : zMet g l yX1_fastestRide cX1_fastestRide 7 (some .int) 2 0 0 [.ref d, .int (nI q)] S0 M (zQi (fun r' M' => r' = dFast σ n q ∧ M' = M)) := by
  have n8 := ok.1.1
  have r4 := ok.1.2.1
  have i6 := ok.1.2.2.1
  obtain ⟨⟨a, ha, ea⟩, ⟨t, ht, et⟩⟩ := ok.2.2.1 q hq
  refine zMet.of (by decide) (Nat.le_of_ble_eq_true rfl) ?_
  refine z_iconst (v := 0) dX1_fastestRide_0 (by decide) ?_
  refine z_istore_n dX1_fastestRide_1 (by decide) rfl rfl ?_
  refine z_aload_n dX1_fastestRide_2 rfl ?_
  refine z_getR (j := 6) (r := (d + 4)) kX1 lf_X1_21 (by decide) rfl dX1_fastestRide_3 (zDay_k0 hd) (zDay_s0 hd) (zDay_r6 hd) (zDay_l4 hd) ?_
  refine z_iload_n dX1_fastestRide_6 rfl ?_
  refine z_ialdV (j := q) rfl (by omega) ((R.1.2.2.2.2 q (by omega)).1.trans ea) dX1_fastestRide_7 (zDay_k4 hd) (zDay_s4 hd) ?_
  refine z_istore_n dX1_fastestRide_8 (by decide) rfl rfl ?_
  refine z_iconst (v := 0) dX1_fastestRide_9 (by decide) ?_
  refine z_istore dX1_fastestRide_10 (by decide) rfl rfl ?_
  exact lp_fastest g l hd R ok hq ht et 7 0 (Nat.zero_le _) (by omega) a 0 ha (Nat.zero_le _) (by rw [ea]; rfl)

set_option maxRecDepth 100000 in
set_option maxHeartbeats 4000000 in
theorem c_X6_remember (g : zG) (l : Launch) {M : zM} {n r i p u : Nat} {σ : Dy} (R : dRep M 18 σ n r i) (hs : n ≤ 8 ∧ r ≤ 4) (hp : p < 8) (hu : u ≤ 8) (h1 : M 32 1 = nI p) (h2 : M 32 2 = nI u) : zMet g l yX6_remember cX6_remember 2 none 2 0 0 [.ref 32, .ref 18] S0 M (zQv (fun M' => ∃ M1, zDR M M1 (34 + 7 * p) σ n r i ∧ M' = z_up (z_up M1 32 1 (nI ((p + 1) % 8))) 32 2 (nI (if u + 1 < 8 then u + 1 else 8)))) := by
  obtain ⟨e, he, he2, he3⟩ := zPastAt hp
  refine zMet.of (by decide) (Nat.le_of_ble_eq_true rfl) ?_
  refine z_aload_n dX6_remember_0 rfl ?_
  refine z_getR (j := 0) (r := 33) kX6 lf_X6_11 (by decide) rfl dX6_remember_1 k0_32 s0_32 r0_32_0 (by decide) ?_
  refine z_aload_n dX6_remember_4 rfl ?_
  refine z_getIV (j := 1) kX6 lf_X6_20 (by decide) rfl h1 dX6_remember_5 k0_32 s0_32 ?_
  refine z_aaldN (j := p) (r := e) rfl hp dX6_remember_8 k0_33 s0_33 (by decide) he2 (zDay_l0 he) ?_
  refine z_aload_n dX6_remember_9 rfl ?_
  refine z_vV1 (c_X1_become g l he (by decide) (by omega) hs R) mw_X1_become lm_X6_24 mi_X1_become mv_X1_become kX1 (by decide) (Nat.le_of_ble_eq_true rfl) zle (zDay_k0 he) (zDay_s0 he) dX6_remember_10 (fun M10 q10 => ?_)
  refine z_aload_n dX6_remember_13 rfl ?_
  refine z_aload_n dX6_remember_14 rfl ?_
  refine z_getIV (j := 1) kX6 lf_X6_20 (by decide) rfl ((congrFun (q10.2 32 (by omega)) 1).trans h1) dX6_remember_15 k0_32 s0_32 ?_
  refine z_iconst (v := 1) dX6_remember_18 (by decide) ?_
  refine z_iaddN (a := p) (b := 1) rfl rfl dX6_remember_19 ?_
  refine z_bipush (v := 8) dX6_remember_20 (by decide) ?_
  refine z_irem dX6_remember_22 (by decide) ?_
  rw [nI_mod8 _ (by omega)]
  refine z_putI (j := 1) kX6 lf_X6_20 (by decide) rfl rfl (kX6.2.2.1 1 (by decide)) rfl rfl dX6_remember_23 k0_32 s0_32 ?_
  refine z_aload_n dX6_remember_26 rfl ?_
  refine z_aload_n dX6_remember_27 rfl ?_
  refine z_getIV (j := 2) kX6 lf_X6_28 (by decide) rfl (((z_up_jn _ _ (by omega)).trans (congrFun (q10.2 32 (by omega)) 2)).trans h2) dX6_remember_28 k0_32 s0_32 ?_
  refine z_iconst (v := 1) dX6_remember_31 (by decide) ?_
  refine z_iaddN (a := u) (b := 1) rfl rfl dX6_remember_32 ?_
  refine z_bipush (v := 8) dX6_remember_33 (by decide) ?_
  refine z_min lm_X6_31 w_mins w_mi w_minc (by decide) (Nat.le_of_ble_eq_true rfl) (Nat.le_refl _) (Nat.le_refl _) dX6_remember_35 ?_
  refine z_as (x' := nI (if u + 1 < 8 then u + 1 else 8)) (nI_min8 _ (by omega)) ?_
  refine z_putI (j := 2) kX6 lf_X6_28 (by decide) rfl rfl (kX6.2.2.1 2 (by decide)) rfl rfl dX6_remember_38 k0_32 s0_32 ?_
  refine z_vret dX6_remember_41 zle ?_
  subst he3
  exact ⟨_, q10, rfl⟩

set_option maxRecDepth 100000 in
set_option maxHeartbeats 4000000 in
theorem c_X6_clear (g : zG) (l : Launch) {M : zM} : zMet g l yX6_clear cX6_clear 1 none 0 0 0 [.ref 32] S0 M (zQv (fun M' => M' = z_up M 32 2 0)) := by
  refine zMet.of (by decide) (Nat.le_of_ble_eq_true rfl) ?_
  refine z_aload_n dX6_clear_0 rfl ?_
  refine z_iconst (v := 0) dX6_clear_1 (by decide) ?_
  refine z_putI (j := 2) kX6 lf_X6_28 (by decide) rfl rfl (kX6.2.2.1 2 (by decide)) rfl rfl dX6_clear_2 k0_32 s0_32 ?_
  exact z_vret dX6_clear_5 zle (rfl)

set_option maxRecDepth 100000 in
set_option maxHeartbeats 4000000 in
theorem c_X6_restore (g : zG) (l : Launch) {M : zM} {n r i p u : Nat} {σ : Dy} (hp : p < 8) (hu : u < 8) (h1 : M 32 1 = nI p) (h2 : M 32 2 = nI (u + 1)) (R : dRep M (34 + 7 * ((p + 7) % 8)) σ n r i) (hs : n ≤ 8 ∧ r ≤ 4) : zMet g l yX6_restore cX6_restore 2 none 2 0 0 [.ref 32, .ref 18] S0 M (zQv (fun M' => zDR (z_up (z_up M 32 1 (nI ((p + 7) % 8))) 32 2 (nI u)) M' 18 σ n r i)) := by
  obtain ⟨e, he, he2, he3⟩ := zPastAt (p := (p + 7) % 8) (by omega)
  have R2 : dRep (z_up (z_up M 32 1 (nI ((p + 7) % 8))) 32 2 (nI u)) e σ n r i := by
    rw [he3]
    obtain ⟨a1, a2, a3, a4, a5⟩ := R
    refine ⟨a1.keep (fun k g1 g2 => by rw [z_up_n _ _ _ (by omega), z_up_n _ _ _ (by omega)]) (fun _ _ => rfl) (fun _ _ => ⟨rfl, rfl⟩), ?_, ?_, fun h hh => ?_, fun q hq => ?_⟩
    · rw [z_up_n _ _ _ (by omega), z_up_n _ _ _ (by omega)]; exact a2
    · rw [z_up_n _ _ _ (by omega), z_up_n _ _ _ (by omega)]; exact a3
    · rw [z_up_n _ _ _ (by omega), z_up_n _ _ _ (by omega), z_up_n _ _ _ (by omega), z_up_n _ _ _ (by omega), z_up_n _ _ _ (by omega), z_up_n _ _ _ (by omega)]; exact a4 h hh
    · rw [z_up_n _ _ _ (by omega), z_up_n _ _ _ (by omega), z_up_n _ _ _ (by omega), z_up_n _ _ _ (by omega), z_up_n _ _ _ (by omega), z_up_n _ _ _ (by omega)]; exact a5 q hq
  refine zMet.of (by decide) (Nat.le_of_ble_eq_true rfl) ?_
  refine z_aload_n dX6_restore_0 rfl ?_
  refine z_getIV (j := 2) kX6 lf_X6_28 (by decide) rfl h2 dX6_restore_1 k0_32 s0_32 ?_
  refine z_if_le (tgt := 46) dX6_restore_4 (by decide) (fun b4 => ?_) (fun b4 => ?_)
  · exact absurd ((nI_leI (b := 0) (by omega) (by omega)).mp b4) (by omega)
  · refine z_aload_n dX6_restore_7 rfl ?_
    refine z_aload_n dX6_restore_8 rfl ?_
    refine z_getIV (j := 1) kX6 lf_X6_20 (by decide) rfl h1 dX6_restore_9 k0_32 s0_32 ?_
    refine z_bipush (v := 8) dX6_restore_12 (by decide) ?_
    refine z_iaddN (a := p) (b := 8) rfl rfl dX6_restore_14 ?_
    refine z_iconst (v := 1) dX6_restore_15 (by decide) ?_
    refine z_isub dX6_restore_16 ?_
    refine z_as (x' := nI (p + 7)) (nI_pred (p + 7)) ?_
    refine z_bipush (v := 8) dX6_restore_17 (by decide) ?_
    refine z_irem dX6_restore_19 (by decide) ?_
    rw [nI_mod8 _ (by omega)]
    refine z_putI (j := 1) kX6 lf_X6_20 (by decide) rfl rfl (kX6.2.2.1 1 (by decide)) rfl rfl dX6_restore_20 k0_32 s0_32 ?_
    refine z_aload_n dX6_restore_23 rfl ?_
    refine z_dup dX6_restore_24 rfl ?_
    refine z_getIV (j := 2) kX6 lf_X6_28 (by decide) rfl ((z_up_jn _ _ (by omega)).trans h2) dX6_restore_25 k0_32 s0_32 ?_
    refine z_iconst (v := 1) dX6_restore_28 (by decide) ?_
    refine z_isub dX6_restore_29 ?_
    refine z_as (x' := nI u) (nI_pred u) ?_
    refine z_putI (j := 2) kX6 lf_X6_28 (by decide) rfl rfl (kX6.2.2.1 2 (by decide)) rfl rfl dX6_restore_30 k0_32 s0_32 ?_
    refine z_aload_n dX6_restore_33 rfl ?_
    refine z_aload_n dX6_restore_34 rfl ?_
    refine z_getR (j := 0) (r := 33) kX6 lf_X6_11 (by decide) rfl dX6_restore_35 k0_32 s0_32 r0_32_0 (by decide) ?_
    refine z_aload_n dX6_restore_38 rfl ?_
    refine z_getIV (j := 1) kX6 lf_X6_20 (by decide) rfl ((z_up_jn _ _ (by omega)).trans (z_up_kj _ _ _ _)) dX6_restore_39 k0_32 s0_32 ?_
    refine z_aaldN (j := ((p + 7) % 8)) (r := e) rfl (by omega) dX6_restore_42 k0_33 s0_33 (by decide) he2 (zDay_l0 he) ?_
    refine z_vV1 (c_X1_become g l (by decide) he (by omega) hs R2) mw_X1_become lm_X6_24 mi_X1_become mv_X1_become kX1 (by decide) (Nat.le_of_ble_eq_true rfl) zle k0_18 s0_18 dX6_restore_43 (fun M43 q43 => ?_)
    refine z_vret dX6_restore_46 zle ?_
    exact q43

set_option maxRecDepth 100000 in
set_option maxHeartbeats 4000000 in
theorem c_X0_close (g : zG) (l : Launch) {M : zM} {bk : Nat} (hbk : bk ∈ zBooks) : zMet g l yX0_close cX0_close 1 none 0 0 0 [.ref bk] S0 M (zQv (fun M' => M' = z_up M bk 2 (-1))) := by
  refine zMet.of (by decide) (Nat.le_of_ble_eq_true rfl) ?_
  refine z_aload_n dX0_close_0 rfl ?_
  refine z_iconst (v := (-1)) dX0_close_1 (by decide) ?_
  refine z_putI (j := 2) kX0 lf_X0_18 (by decide) rfl rfl (kX0.2.2.1 2 (by decide)) rfl rfl dX0_close_2 (zBook_k0 hbk) (zBook_s0 hbk) ?_
  exact z_vret dX0_close_5 zle (rfl)

set_option maxRecDepth 100000 in
set_option maxHeartbeats 4000000 in
theorem c_X0_isMissing (g : zG) (l : Launch) {M : zM} {bk : Nat} (hbk : bk ∈ zBooks) : zMet g l yX0_isMissing cX0_isMissing 1 (some .boolean) 0 0 0 [.ref bk] S0 M (zQi (fun r' M' => M' = M ∧ (((M bk 2 = -1) ∧ r' = 1) ∨ (¬ (M bk 2 = -1) ∧ r' = 0)))) := by
  refine zMet.of (by decide) (Nat.le_of_ble_eq_true rfl) ?_
  refine z_aload_n dX0_isMissing_0 rfl ?_
  refine z_getI (j := 2) kX0 lf_X0_18 (by decide) rfl dX0_isMissing_1 (zBook_k0 hbk) (zBook_s0 hbk) ?_
  refine z_iconst (v := (-1)) dX0_isMissing_4 (by decide) ?_
  refine z_icmp_ne (tgt := 12) dX0_isMissing_5 (by decide) (fun b5 => ?_) (fun b5 => ?_)
  · refine z_iconst (v := 0) dX0_isMissing_12 (by decide) ?_
    refine z_iret dX0_isMissing_13 rfl zle ?_
    first
      | exact ⟨rfl, Or.inl ⟨b5, rfl⟩⟩
      | exact ⟨rfl, Or.inr ⟨b5, rfl⟩⟩
  · refine z_iconst (v := 1) dX0_isMissing_8 (by decide) ?_
    refine z_goto (tgt := 13) dX0_isMissing_9 (by decide) ?_
    refine z_iret dX0_isMissing_13 rfl zle ?_
    first
      | exact ⟨rfl, Or.inl ⟨b5, rfl⟩⟩
      | exact ⟨rfl, Or.inr ⟨b5, rfl⟩⟩

set_option maxRecDepth 100000 in
set_option maxHeartbeats 4000000 in
theorem c_X0_hasLine (g : zG) (l : Launch) {M : zM} {bk : Nat} (hbk : bk ∈ zBooks) {x : Int32} : zMet g l yX0_hasLine cX0_hasLine 2 (some .boolean) 0 0 0 [.ref bk, .int x] S0 M (zQi (fun r' M' => M' = M ∧ (((0 ≤ x ∧ x < M bk 2) ∧ r' = 1) ∨ (¬ (0 ≤ x ∧ x < M bk 2) ∧ r' = 0)))) := by
  refine zMet.of (by decide) (Nat.le_of_ble_eq_true rfl) ?_
  refine z_iload_n dX0_hasLine_0 rfl ?_
  refine z_if_lt (tgt := 16) dX0_hasLine_1 (by decide) (fun b1 => ?_) (fun b1 => ?_)
  · refine z_iconst (v := 0) dX0_hasLine_16 (by decide) ?_
    refine z_iret dX0_hasLine_17 rfl zle ?_
    first
      | exact ⟨rfl, Or.inl ⟨⟨Int32.not_lt.mp b1, Int32.not_le.mp b9⟩, rfl⟩⟩
      | exact ⟨rfl, Or.inr ⟨fun z => absurd b9 (Int32.not_le.mpr z.2), rfl⟩⟩
      | exact ⟨rfl, Or.inr ⟨fun z => absurd b1 (Int32.not_lt.mpr z.1), rfl⟩⟩
  · refine z_iload_n dX0_hasLine_4 rfl ?_
    refine z_aload_n dX0_hasLine_5 rfl ?_
    refine z_getI (j := 2) kX0 lf_X0_18 (by decide) rfl dX0_hasLine_6 (zBook_k0 hbk) (zBook_s0 hbk) ?_
    refine z_icmp_ge (tgt := 16) dX0_hasLine_9 (by decide) (fun b9 => ?_) (fun b9 => ?_)
    · refine z_iconst (v := 0) dX0_hasLine_16 (by decide) ?_
      refine z_iret dX0_hasLine_17 rfl zle ?_
      first
        | exact ⟨rfl, Or.inl ⟨⟨Int32.not_lt.mp b1, Int32.not_le.mp b9⟩, rfl⟩⟩
        | exact ⟨rfl, Or.inr ⟨fun z => absurd b9 (Int32.not_le.mpr z.2), rfl⟩⟩
        | exact ⟨rfl, Or.inr ⟨fun z => absurd b1 (Int32.not_lt.mpr z.1), rfl⟩⟩
    · refine z_iconst (v := 1) dX0_hasLine_12 (by decide) ?_
      refine z_goto (tgt := 17) dX0_hasLine_13 (by decide) ?_
      refine z_iret dX0_hasLine_17 rfl zle ?_
      first
        | exact ⟨rfl, Or.inl ⟨⟨Int32.not_lt.mp b1, Int32.not_le.mp b9⟩, rfl⟩⟩
        | exact ⟨rfl, Or.inr ⟨fun z => absurd b9 (Int32.not_le.mpr z.2), rfl⟩⟩
        | exact ⟨rfl, Or.inr ⟨fun z => absurd b1 (Int32.not_lt.mpr z.1), rfl⟩⟩

set_option maxRecDepth 100000 in
set_option maxHeartbeats 4000000 in
theorem c_X0_hasLines (g : zG) (l : Launch) {M : zM} {bk : Nat} (hbk : bk ∈ zBooks) {x z : Int32} : zMet g l yX0_hasLines cX0_hasLines 3 (some .boolean) 0 0 0 [.ref bk, .int x, .int z] S0 M (zQi (fun r' M' => M' = M ∧ (((0 ≤ x ∧ 0 ≤ z ∧ x ≤ M bk 2 - z) ∧ r' = 1) ∨ (¬ (0 ≤ x ∧ 0 ≤ z ∧ x ≤ M bk 2 - z) ∧ r' = 0)))) := by
  refine zMet.of (by decide) (Nat.le_of_ble_eq_true rfl) ?_
  refine z_iload_n dX0_hasLines_0 rfl ?_
  refine z_if_lt (tgt := 22) dX0_hasLines_1 (by decide) (fun b1 => ?_) (fun b1 => ?_)
  · refine z_iconst (v := 0) dX0_hasLines_22 (by decide) ?_
    refine z_iret dX0_hasLines_23 rfl zle ?_
    first
      | exact ⟨rfl, Or.inl ⟨⟨Int32.not_lt.mp b1, Int32.not_lt.mp b5, Int32.not_lt.mp b15⟩, rfl⟩⟩
      | exact ⟨rfl, Or.inr ⟨fun z => absurd b15 (Int32.not_lt.mpr z.2.2), rfl⟩⟩
      | exact ⟨rfl, Or.inr ⟨fun z => absurd b5 (Int32.not_lt.mpr z.2.1), rfl⟩⟩
      | exact ⟨rfl, Or.inr ⟨fun z => absurd b1 (Int32.not_lt.mpr z.1), rfl⟩⟩
  · refine z_iload_n dX0_hasLines_4 rfl ?_
    refine z_if_lt (tgt := 22) dX0_hasLines_5 (by decide) (fun b5 => ?_) (fun b5 => ?_)
    · refine z_iconst (v := 0) dX0_hasLines_22 (by decide) ?_
      refine z_iret dX0_hasLines_23 rfl zle ?_
      first
        | exact ⟨rfl, Or.inl ⟨⟨Int32.not_lt.mp b1, Int32.not_lt.mp b5, Int32.not_lt.mp b15⟩, rfl⟩⟩
        | exact ⟨rfl, Or.inr ⟨fun z => absurd b15 (Int32.not_lt.mpr z.2.2), rfl⟩⟩
        | exact ⟨rfl, Or.inr ⟨fun z => absurd b5 (Int32.not_lt.mpr z.2.1), rfl⟩⟩
        | exact ⟨rfl, Or.inr ⟨fun z => absurd b1 (Int32.not_lt.mpr z.1), rfl⟩⟩
    · refine z_iload_n dX0_hasLines_8 rfl ?_
      refine z_aload_n dX0_hasLines_9 rfl ?_
      refine z_getI (j := 2) kX0 lf_X0_18 (by decide) rfl dX0_hasLines_10 (zBook_k0 hbk) (zBook_s0 hbk) ?_
      refine z_iload_n dX0_hasLines_13 rfl ?_
      refine z_isub dX0_hasLines_14 ?_
      refine z_icmp_gt (tgt := 22) dX0_hasLines_15 (by decide) (fun b15 => ?_) (fun b15 => ?_)
      · refine z_iconst (v := 0) dX0_hasLines_22 (by decide) ?_
        refine z_iret dX0_hasLines_23 rfl zle ?_
        first
          | exact ⟨rfl, Or.inl ⟨⟨Int32.not_lt.mp b1, Int32.not_lt.mp b5, Int32.not_lt.mp b15⟩, rfl⟩⟩
          | exact ⟨rfl, Or.inr ⟨fun z => absurd b15 (Int32.not_lt.mpr z.2.2), rfl⟩⟩
          | exact ⟨rfl, Or.inr ⟨fun z => absurd b5 (Int32.not_lt.mpr z.2.1), rfl⟩⟩
          | exact ⟨rfl, Or.inr ⟨fun z => absurd b1 (Int32.not_lt.mpr z.1), rfl⟩⟩
      · refine z_iconst (v := 1) dX0_hasLines_18 (by decide) ?_
        refine z_goto (tgt := 23) dX0_hasLines_19 (by decide) ?_
        refine z_iret dX0_hasLines_23 rfl zle ?_
        first
          | exact ⟨rfl, Or.inl ⟨⟨Int32.not_lt.mp b1, Int32.not_lt.mp b5, Int32.not_lt.mp b15⟩, rfl⟩⟩
          | exact ⟨rfl, Or.inr ⟨fun z => absurd b15 (Int32.not_lt.mpr z.2.2), rfl⟩⟩
          | exact ⟨rfl, Or.inr ⟨fun z => absurd b5 (Int32.not_lt.mpr z.2.1), rfl⟩⟩
          | exact ⟨rfl, Or.inr ⟨fun z => absurd b1 (Int32.not_lt.mpr z.1), rfl⟩⟩

set_option maxRecDepth 100000 in
set_option maxHeartbeats 4000000 in
theorem lp_filledLines (g : zG) (l : Launch) {M : zM} {bk n : Nat} (hbk : bk ∈ zBooks) (hL : zLen (M bk 2) n) : ∀ (k h : Nat), h ≤ n → n - h < k → zA g l yX0_filledLines cX0_filledLines 3 (some .int) 0 0 0 (zQi (fun r' M' => r' = fFill (M (bk + 1)) n ∧ M' = M)) 4 0 0 S0 M [.ref bk, .int (fFill (M (bk + 1)) h), .int (nI h)] [] := by
  intro k
  induction k with
  | zero => intro h hh hk; exact absurd hk (Nat.not_lt_zero _)
  | succ k ih =>
    intro h hh hk 
    refine z_iload_n dX0_filledLines_4 rfl ?_
    refine z_aload_n dX0_filledLines_5 rfl ?_
    refine z_getI (j := 2) kX0 lf_X0_18 (by decide) rfl dX0_filledLines_6 (zBook_k0 hbk) (zBook_s0 hbk) ?_
    refine z_icmp_ge (tgt := 31) dX0_filledLines_9 (by decide) (fun b9 => ?_) (fun b9 => ?_)
    · have e2 : h = n := by have := (hL.2 h (by have := hL.1; omega)).mp b9; omega
      subst e2
      refine z_iload_n dX0_filledLines_31 rfl ?_
      exact z_iret dX0_filledLines_32 rfl zle (⟨rfl, rfl⟩)
    · have hn : h < n := Nat.lt_of_not_le (fun z => b9 ((hL.2 h (by have := hL.1; omega)).mpr z))
      have h10 : h < 10 := by have := hL.1; omega
      refine z_aload_n dX0_filledLines_12 rfl ?_
      refine z_getR (j := 0) (r := (bk + 1)) kX0 lf_X0_9 (by decide) rfl dX0_filledLines_13 (zBook_k0 hbk) (zBook_s0 hbk) (zBook_r0 hbk) (zBook_l1 hbk) ?_
      refine z_iload_n dX0_filledLines_16 rfl ?_
      refine z_ialdN (j := h) rfl (by omega) dX0_filledLines_17 (zBook_k1 hbk) (zBook_s1 hbk) ?_
      refine z_iconst (v := 3) dX0_filledLines_18 (by decide) ?_
      refine z_icmp_eq (tgt := 25) dX0_filledLines_19 (by decide) (fun b19 => ?_) (fun b19 => ?_)
      · refine z_iincN (k := h) dX0_filledLines_25 rfl rfl (by decide) rfl rfl ?_
        refine z_goto (tgt := 4) dX0_filledLines_28 (by decide) ?_
        refine zA.sub (ih (h + 1) (by omega) (by omega)) rfl ⟨Or.inr rfl, Or.inr (congrArg (fun z => some (Value.int z)) ?_), Or.inr rfl, trivial⟩
        first | exact (if_pos b19).symm | exact (if_neg b19).symm
      · refine z_iinc dX0_filledLines_22 rfl rfl (by decide) rfl rfl ?_
        refine z_iincN (k := h) dX0_filledLines_25 rfl rfl (by decide) rfl rfl ?_
        refine z_goto (tgt := 4) dX0_filledLines_28 (by decide) ?_
        refine zA.sub (ih (h + 1) (by omega) (by omega)) rfl ⟨Or.inr rfl, Or.inr (congrArg (fun z => some (Value.int z)) ?_), Or.inr rfl, trivial⟩
        first | exact (if_pos b19).symm | exact (if_neg b19).symm

set_option maxRecDepth 100000 in
set_option maxHeartbeats 4000000 in
theorem c_X0_filledLines (g : zG) (l : Launch) {M : zM} {bk n : Nat} (hbk : bk ∈ zBooks) (hL : zLen (M bk 2) n) : zMet g l yX0_filledLines cX0_filledLines 3 (some .int) 0 0 0 [.ref bk] S0 M (zQi (fun r' M' => r' = fFill (M (bk + 1)) n ∧ M' = M)) := by
  refine zMet.of (by decide) (Nat.le_of_ble_eq_true rfl) ?_
  refine z_iconst (v := 0) dX0_filledLines_0 (by decide) ?_
  refine z_istore_n dX0_filledLines_1 (by decide) rfl rfl ?_
  refine z_iconst (v := 0) dX0_filledLines_2 (by decide) ?_
  refine z_istore_n dX0_filledLines_3 (by decide) rfl rfl ?_
  exact lp_filledLines g l hbk hL (n + 1) 0 (Nat.zero_le _) (by omega)

set_option maxRecDepth 100000 in
set_option maxHeartbeats 4000000 in
theorem lp_toldBooks (g : zG) (l : Launch) {M : zM} {bk n : Nat} (hbk : bk ∈ zBooks) (hL : zLen (M bk 2) n) : ∀ (k h : Nat), h ≤ n → n - h < k → zA g l yX0_toldBooks cX0_toldBooks 3 (some .int) 0 0 0 (zQi (fun r' M' => r' = fTold (M (bk + 1)) (M (bk + 2)) n ∧ M' = M)) 4 0 0 S0 M [.ref bk, .int (fTold (M (bk + 1)) (M (bk + 2)) h), .int (nI h)] [] := by
  intro k
  induction k with
  | zero => intro h hh hk; exact absurd hk (Nat.not_lt_zero _)
  | succ k ih =>
    intro h hh hk 
    refine z_iload_n dX0_toldBooks_4 rfl ?_
    refine z_aload_n dX0_toldBooks_5 rfl ?_
    refine z_getI (j := 2) kX0 lf_X0_18 (by decide) rfl dX0_toldBooks_6 (zBook_k0 hbk) (zBook_s0 hbk) ?_
    refine z_icmp_ge (tgt := 39) dX0_toldBooks_9 (by decide) (fun b9 => ?_) (fun b9 => ?_)
    · have e2 : h = n := by have := (hL.2 h (by have := hL.1; omega)).mp b9; omega
      subst e2
      refine z_iload_n dX0_toldBooks_39 rfl ?_
      exact z_iret dX0_toldBooks_40 rfl zle (⟨rfl, rfl⟩)
    · have hn : h < n := Nat.lt_of_not_le (fun z => b9 ((hL.2 h (by have := hL.1; omega)).mpr z))
      have h10 : h < 10 := by have := hL.1; omega
      refine z_aload_n dX0_toldBooks_12 rfl ?_
      refine z_getR (j := 0) (r := (bk + 1)) kX0 lf_X0_9 (by decide) rfl dX0_toldBooks_13 (zBook_k0 hbk) (zBook_s0 hbk) (zBook_r0 hbk) (zBook_l1 hbk) ?_
      refine z_iload_n dX0_toldBooks_16 rfl ?_
      refine z_ialdN (j := h) rfl (by omega) dX0_toldBooks_17 (zBook_k1 hbk) (zBook_s1 hbk) ?_
      refine z_iconst (v := 2) dX0_toldBooks_18 (by decide) ?_
      refine z_icmp_ne (tgt := 33) dX0_toldBooks_19 (by decide) (fun b19 => ?_) (fun b19 => ?_)
      · refine z_iincN (k := h) dX0_toldBooks_33 rfl rfl (by decide) rfl rfl ?_
        refine z_goto (tgt := 4) dX0_toldBooks_36 (by decide) ?_
        refine zA.sub (ih (h + 1) (by omega) (by omega)) rfl ⟨Or.inr rfl, Or.inr (congrArg (fun z => some (Value.int z)) ?_), Or.inr rfl, trivial⟩
        first | exact (if_pos (Classical.byContradiction b19)).symm | exact (if_neg b19).symm | exact (if_pos b19).symm
      · refine z_iload_n dX0_toldBooks_22 rfl ?_
        refine z_iconst (v := 1) dX0_toldBooks_23 (by decide) ?_
        refine z_aload_n dX0_toldBooks_24 rfl ?_
        refine z_getR (j := 1) (r := (bk + 2)) kX0 lf_X0_15 (by decide) rfl dX0_toldBooks_25 (zBook_k0 hbk) (zBook_s0 hbk) (zBook_r1 hbk) (zBook_l2 hbk) ?_
        refine z_iload_n dX0_toldBooks_28 rfl ?_
        refine z_ialdN (j := h) rfl (by omega) dX0_toldBooks_29 (zBook_k2 hbk) (zBook_s2 hbk) ?_
        refine z_ishl dX0_toldBooks_30 ?_
        refine z_ior dX0_toldBooks_31 ?_
        refine z_istore_n dX0_toldBooks_32 (by decide) rfl rfl ?_
        refine z_iincN (k := h) dX0_toldBooks_33 rfl rfl (by decide) rfl rfl ?_
        refine z_goto (tgt := 4) dX0_toldBooks_36 (by decide) ?_
        refine zA.sub (ih (h + 1) (by omega) (by omega)) rfl ⟨Or.inr rfl, Or.inr (congrArg (fun z => some (Value.int z)) ?_), Or.inr rfl, trivial⟩
        first | exact (if_pos (Classical.byContradiction b19)).symm | exact (if_neg b19).symm | exact (if_pos b19).symm

set_option maxRecDepth 100000 in
set_option maxHeartbeats 4000000 in
theorem c_X0_toldBooks (g : zG) (l : Launch) {M : zM} {bk n : Nat} (hbk : bk ∈ zBooks) (hL : zLen (M bk 2) n) : zMet g l yX0_toldBooks cX0_toldBooks 3 (some .int) 0 0 0 [.ref bk] S0 M (zQi (fun r' M' => r' = fTold (M (bk + 1)) (M (bk + 2)) n ∧ M' = M)) := by
  refine zMet.of (by decide) (Nat.le_of_ble_eq_true rfl) ?_
  refine z_iconst (v := 0) dX0_toldBooks_0 (by decide) ?_
  refine z_istore_n dX0_toldBooks_1 (by decide) rfl rfl ?_
  refine z_iconst (v := 0) dX0_toldBooks_2 (by decide) ?_
  refine z_istore_n dX0_toldBooks_3 (by decide) rfl rfl ?_
  exact lp_toldBooks g l hbk hL (n + 1) 0 (Nat.zero_le _) (by omega)

set_option maxRecDepth 100000 in
set_option maxHeartbeats 4000000 in
theorem lp_ownWeight (g : zG) (l : Launch) {M : zM} {bk n : Nat} (hbk : bk ∈ zBooks) (hL : zLen (M bk 2) n) : ∀ (k h : Nat), h ≤ n → n - h < k → zA g l yX0_ownWeight cX0_ownWeight 3 (some .int) 0 0 0 (zQi (fun r' M' => r' = fOwn (M (bk + 1)) (M (bk + 2)) n ∧ M' = M)) 4 0 0 S0 M [.ref bk, .int (fOwn (M (bk + 1)) (M (bk + 2)) h), .int (nI h)] [] := by
  intro k
  induction k with
  | zero => intro h hh hk; exact absurd hk (Nat.not_lt_zero _)
  | succ k ih =>
    intro h hh hk 
    refine z_iload_n dX0_ownWeight_4 rfl ?_
    refine z_aload_n dX0_ownWeight_5 rfl ?_
    refine z_getI (j := 2) kX0 lf_X0_18 (by decide) rfl dX0_ownWeight_6 (zBook_k0 hbk) (zBook_s0 hbk) ?_
    refine z_icmp_ge (tgt := 55) dX0_ownWeight_9 (by decide) (fun b9 => ?_) (fun b9 => ?_)
    · have e2 : h = n := by have := (hL.2 h (by have := hL.1; omega)).mp b9; omega
      subst e2
      refine z_iload_n dX0_ownWeight_55 rfl ?_
      exact z_iret dX0_ownWeight_56 rfl zle (⟨rfl, rfl⟩)
    · have hn : h < n := Nat.lt_of_not_le (fun z => b9 ((hL.2 h (by have := hL.1; omega)).mpr z))
      have h10 : h < 10 := by have := hL.1; omega
      refine z_aload_n dX0_ownWeight_12 rfl ?_
      refine z_getR (j := 0) (r := (bk + 1)) kX0 lf_X0_9 (by decide) rfl dX0_ownWeight_13 (zBook_k0 hbk) (zBook_s0 hbk) (zBook_r0 hbk) (zBook_l1 hbk) ?_
      refine z_iload_n dX0_ownWeight_16 rfl ?_
      refine z_ialdN (j := h) rfl (by omega) dX0_ownWeight_17 (zBook_k1 hbk) (zBook_s1 hbk) ?_
      refine z_if_ne (tgt := 33) dX0_ownWeight_18 (by decide) (fun b18 => ?_) (fun b18 => ?_)
      · refine z_aload_n dX0_ownWeight_33 rfl ?_
        refine z_getR (j := 0) (r := (bk + 1)) kX0 lf_X0_9 (by decide) rfl dX0_ownWeight_34 (zBook_k0 hbk) (zBook_s0 hbk) (zBook_r0 hbk) (zBook_l1 hbk) ?_
        refine z_iload_n dX0_ownWeight_37 rfl ?_
        refine z_ialdN (j := h) rfl (by omega) dX0_ownWeight_38 (zBook_k1 hbk) (zBook_s1 hbk) ?_
        refine z_iconst (v := 1) dX0_ownWeight_39 (by decide) ?_
        refine z_icmp_ne (tgt := 49) dX0_ownWeight_40 (by decide) (fun b40 => ?_) (fun b40 => ?_)
        · refine z_iincN (k := h) dX0_ownWeight_49 rfl rfl (by decide) rfl rfl ?_
          refine z_goto (tgt := 4) dX0_ownWeight_52 (by decide) ?_
          refine zA.sub (ih (h + 1) (by omega) (by omega)) rfl ⟨Or.inr rfl, Or.inr (congrArg (fun z => some (Value.int z)) ?_), Or.inr rfl, trivial⟩
          first | exact (if_pos b18).symm | exact ((if_neg b18).trans (if_pos b40)).symm | exact ((if_neg b18).trans (if_neg b40)).symm
        · refine z_iincW dX0_ownWeight_43 rfl rfl (by decide) rfl rfl ?_
          refine z_iincN (k := h) dX0_ownWeight_49 rfl rfl (by decide) rfl rfl ?_
          refine z_goto (tgt := 4) dX0_ownWeight_52 (by decide) ?_
          refine zA.sub (ih (h + 1) (by omega) (by omega)) rfl ⟨Or.inr rfl, Or.inr (congrArg (fun z => some (Value.int z)) ?_), Or.inr rfl, trivial⟩
          first | exact (if_pos b18).symm | exact ((if_neg b18).trans (if_pos b40)).symm | exact ((if_neg b18).trans (if_neg b40)).symm
      · refine z_iload_n dX0_ownWeight_21 rfl ?_
        refine z_aload_n dX0_ownWeight_22 rfl ?_
        refine z_getR (j := 1) (r := (bk + 2)) kX0 lf_X0_15 (by decide) rfl dX0_ownWeight_23 (zBook_k0 hbk) (zBook_s0 hbk) (zBook_r1 hbk) (zBook_l2 hbk) ?_
        refine z_iload_n dX0_ownWeight_26 rfl ?_
        refine z_ialdN (j := h) rfl (by omega) dX0_ownWeight_27 (zBook_k2 hbk) (zBook_s2 hbk) ?_
        refine z_iadd dX0_ownWeight_28 ?_
        refine z_istore_n dX0_ownWeight_29 (by decide) rfl rfl ?_
        refine z_goto (tgt := 49) dX0_ownWeight_30 (by decide) ?_
        refine z_iincN (k := h) dX0_ownWeight_49 rfl rfl (by decide) rfl rfl ?_
        refine z_goto (tgt := 4) dX0_ownWeight_52 (by decide) ?_
        refine zA.sub (ih (h + 1) (by omega) (by omega)) rfl ⟨Or.inr rfl, Or.inr (congrArg (fun z => some (Value.int z)) ?_), Or.inr rfl, trivial⟩
        first | exact (if_pos b18).symm | exact ((if_neg b18).trans (if_pos b40)).symm | exact ((if_neg b18).trans (if_neg b40)).symm

set_option maxRecDepth 100000 in
set_option maxHeartbeats 4000000 in
theorem c_X0_ownWeight (g : zG) (l : Launch) {M : zM} {bk n : Nat} (hbk : bk ∈ zBooks) (hL : zLen (M bk 2) n) : zMet g l yX0_ownWeight cX0_ownWeight 3 (some .int) 0 0 0 [.ref bk] S0 M (zQi (fun r' M' => r' = fOwn (M (bk + 1)) (M (bk + 2)) n ∧ M' = M)) := by
  refine zMet.of (by decide) (Nat.le_of_ble_eq_true rfl) ?_
  refine z_iconst (v := 0) dX0_ownWeight_0 (by decide) ?_
  refine z_istore_n dX0_ownWeight_1 (by decide) rfl rfl ?_
  refine z_iconst (v := 0) dX0_ownWeight_2 (by decide) ?_
  refine z_istore_n dX0_ownWeight_3 (by decide) rfl rfl ?_
  exact lp_ownWeight g l hbk hL (n + 1) 0 (Nat.zero_le _) (by omega)

set_option maxRecDepth 100000 in
set_option maxHeartbeats 4000000 in
theorem lp_open (g : zG) (l : Launch) {M0 : zM} {bk : Nat} {x : Int32} (hbk : bk ∈ zBooks) : ∀ (k h : Nat), h ≤ 10 → 10 - h < k → zA g l yX0_open cX0_open 3 none 1 0 0 (zQv (fun M' => M' = z_row M0 (bk + 1) (fun j => if j < 10 then 3 else M0 (bk + 1) j))) 12 0 0 S0 (z_row M0 (bk + 1) (fun j => if j < h then 3 else M0 (bk + 1) j)) [.ref bk, .int x, .int (nI h)] [] := by
  intro k
  induction k with
  | zero => intro h hh hk; exact absurd hk (Nat.not_lt_zero _)
  | succ k ih =>
    intro h hh hk 
    refine z_iload_n dX0_open_12 rfl ?_
    refine z_bipush (v := 10) dX0_open_13 (by decide) ?_
    refine z_icmp_ge (tgt := 31) dX0_open_15 (by decide) (fun b15 => ?_) (fun b15 => ?_)
    · have e : 10 ≤ h := (nI_leI (by omega) (by omega)).mp b15
      have e2 : h = 10 := by omega
      subst e2
      exact z_vret dX0_open_31 zle (rfl)
    · have hn : h < 10 := by
        rcases Nat.lt_or_ge h 10 with z | z
        · exact z
        · exact absurd (nI_le z (by omega)) b15
      refine z_aload_n dX0_open_18 rfl ?_
      refine z_getR (j := 0) (r := (bk + 1)) kX0 lf_X0_9 (by decide) rfl dX0_open_19 (zBook_k0 hbk) (zBook_s0 hbk) (zBook_r0 hbk) (zBook_l1 hbk) ?_
      refine z_iload_n dX0_open_22 rfl ?_
      refine z_iconst (v := 3) dX0_open_23 (by decide) ?_
      refine z_iastN (j := h) rfl (by omega) dX0_open_24 (zBook_k1 hbk) (zBook_s1 hbk) ?_
      refine z_iincN (k := h) dX0_open_25 rfl rfl (by decide) rfl rfl ?_
      refine z_goto (tgt := 12) dX0_open_28 (by decide) ?_
      refine zA.sub (ih (h + 1) (by omega) (by omega)) ?_ ⟨Or.inr rfl, Or.inr rfl, Or.inr rfl, trivial⟩
      funext k
      by_cases c : k = bk + 1
      · subst c
        rw [z_up_s, z_row_s, z_row_s]
        funext j
        by_cases c2 : j = h
        · subst c2; rw [upd_s, if_pos (by omega)]
        · rw [upd_n _ _ c2]
          by_cases c3 : j < h
          · rw [if_pos c3, if_pos (by omega)]
          · rw [if_neg c3, if_neg (by omega)]
      · rw [z_up_n _ _ _ c, z_row_n _ _ c, z_row_n _ _ c]

set_option maxRecDepth 100000 in
set_option maxHeartbeats 4000000 in
theorem c_X0_open (g : zG) (l : Launch) {M : zM} {bk n : Nat} (hbk : bk ∈ zBooks) (hn : n ≤ 10) : zMet g l yX0_open cX0_open 3 none 1 0 0 [.ref bk, .int (nI n)] S0 M (zQv (fun M' => M' = z_row (z_up M bk 2 (nI n)) (bk + 1) (fun j => if j < 10 then 3 else M (bk + 1) j))) := by
  refine zMet.of (by decide) (Nat.le_of_ble_eq_true rfl) ?_
  refine z_aload_n dX0_open_0 rfl ?_
  refine z_iload_n dX0_open_1 rfl ?_
  refine z_bipush (v := 10) dX0_open_2 (by decide) ?_
  refine z_min lm_X0_22 w_mins w_mi w_minc (by decide) (Nat.le_of_ble_eq_true rfl) (Nat.le_refl _) (Nat.le_refl _) dX0_open_4 ?_
  refine z_as (x' := nI n) (nI_min10 _ (by omega)) ?_
  refine z_putI (j := 2) kX0 lf_X0_18 (by decide) rfl rfl (kX0.2.2.1 2 (by decide)) rfl rfl dX0_open_7 (zBook_k0 hbk) (zBook_s0 hbk) ?_
  refine z_iconst (v := 0) dX0_open_10 (by decide) ?_
  refine z_istore_n dX0_open_11 (by decide) rfl rfl ?_
  have h0 := lp_open g l (M0 := z_up M bk 2 (nI n)) (x := nI n) hbk 11 0 (Nat.zero_le _) (by omega)
  rw [z_up_n M (k := bk) (k' := bk + 1) _ _ (by omega)] at h0
  refine zA.sub h0 ?_ ⟨Or.inr rfl, Or.inr rfl, Or.inr rfl, trivial⟩
  funext k
  by_cases c : k = bk + 1
  · subst c
    rw [z_row_s, z_up_n _ _ _ (by omega)]
    funext j
    rw [if_neg (by omega)]
  · rw [z_row_n _ _ c]

set_option maxRecDepth 100000 in
set_option maxHeartbeats 4000000 in
theorem c_X8_hasPlace (g : zG) (l : Launch) {M : zM} {x : Int32} : zMet g l yX8_hasPlace cX8_hasPlace 2 (some .boolean) 0 0 0 [.ref 113, .int x] S0 M (zQi (fun r' M' => M' = M ∧ (((0 ≤ x ∧ x < 4) ∧ r' = 1) ∨ (¬ (0 ≤ x ∧ x < 4) ∧ r' = 0)))) := by
  refine zMet.of (by decide) (Nat.le_of_ble_eq_true rfl) ?_
  refine z_iload_n dX8_hasPlace_0 rfl ?_
  refine z_if_lt (tgt := 13) dX8_hasPlace_1 (by decide) (fun b1 => ?_) (fun b1 => ?_)
  · refine z_iconst (v := 0) dX8_hasPlace_13 (by decide) ?_
    refine z_iret dX8_hasPlace_14 rfl zle ?_
    first
      | exact ⟨rfl, Or.inl ⟨⟨Int32.not_lt.mp b1, Int32.not_le.mp b6⟩, rfl⟩⟩
      | exact ⟨rfl, Or.inr ⟨fun z => absurd b6 (Int32.not_le.mpr z.2), rfl⟩⟩
      | exact ⟨rfl, Or.inr ⟨fun z => absurd b1 (Int32.not_lt.mpr z.1), rfl⟩⟩
  · refine z_iload_n dX8_hasPlace_4 rfl ?_
    refine z_iconst (v := 4) dX8_hasPlace_5 (by decide) ?_
    refine z_icmp_ge (tgt := 13) dX8_hasPlace_6 (by decide) (fun b6 => ?_) (fun b6 => ?_)
    · refine z_iconst (v := 0) dX8_hasPlace_13 (by decide) ?_
      refine z_iret dX8_hasPlace_14 rfl zle ?_
      first
        | exact ⟨rfl, Or.inl ⟨⟨Int32.not_lt.mp b1, Int32.not_le.mp b6⟩, rfl⟩⟩
        | exact ⟨rfl, Or.inr ⟨fun z => absurd b6 (Int32.not_le.mpr z.2), rfl⟩⟩
        | exact ⟨rfl, Or.inr ⟨fun z => absurd b1 (Int32.not_lt.mpr z.1), rfl⟩⟩
    · refine z_iconst (v := 1) dX8_hasPlace_9 (by decide) ?_
      refine z_goto (tgt := 14) dX8_hasPlace_10 (by decide) ?_
      refine z_iret dX8_hasPlace_14 rfl zle ?_
      first
        | exact ⟨rfl, Or.inl ⟨⟨Int32.not_lt.mp b1, Int32.not_le.mp b6⟩, rfl⟩⟩
        | exact ⟨rfl, Or.inr ⟨fun z => absurd b6 (Int32.not_le.mpr z.2), rfl⟩⟩
        | exact ⟨rfl, Or.inr ⟨fun z => absurd b1 (Int32.not_lt.mpr z.1), rfl⟩⟩

set_option maxRecDepth 100000 in
set_option maxHeartbeats 4000000 in
theorem lp_closeAll (g : zG) (l : Launch) {M0 : zM} : ∀ (k h : Nat), h ≤ 4 → 4 - h < k → zA g l yX8_closeAll cX8_closeAll 2 none 1 0 0 (zQv (fun M' => M' = zClo M0 4)) 2 0 0 S0 (zClo M0 h) [.ref 113, .int (nI h)] [] := by
  intro k
  induction k with
  | zero => intro h hh hk; exact absurd hk (Nat.not_lt_zero _)
  | succ k ih =>
    intro h hh hk 
    refine z_iload_n dX8_closeAll_2 rfl ?_
    refine z_iconst (v := 4) dX8_closeAll_3 (by decide) ?_
    refine z_icmp_ge (tgt := 22) dX8_closeAll_4 (by decide) (fun b4 => ?_) (fun b4 => ?_)
    · have e : 4 ≤ h := (nI_leI (by omega) (by omega)).mp b4
      have e2 : h = 4 := by omega
      subst e2
      exact z_vret dX8_closeAll_22 zle (rfl)
    · have hn : h < 4 := by
        rcases Nat.lt_or_ge h 4 with z | z
        · exact z
        · exact absurd (nI_le z (by omega)) b4
      refine z_aload_n dX8_closeAll_7 rfl ?_
      refine z_getR (j := 0) (r := 114) kX8 lf_X8_11 (by decide) rfl dX8_closeAll_8 k0_113 s0_113 r0_113_0 (by decide) ?_
      refine z_iload_n dX8_closeAll_11 rfl ?_
      obtain ⟨bk, hbk, ebk, ebk2⟩ := zBookAt hn
      refine z_aaldN (j := h) (r := bk) rfl hn dX8_closeAll_12 k0_114 s0_114 (by decide) ebk (zBook_l0 hbk) ?_
      refine z_vV0 (c_X0_close g l hbk) mw_X0_close lm_X8_18 mi_X0_close mv_X0_close kX0 (by decide) (Nat.le_of_ble_eq_true rfl) zle (zBook_k0 hbk) (zBook_s0 hbk) dX8_closeAll_13 (fun M13 q13 => ?_)
      obtain rfl := q13.symm
      refine z_iincN (k := h) dX8_closeAll_16 rfl rfl (by decide) rfl rfl ?_
      refine z_goto (tgt := 2) dX8_closeAll_19 (by decide) ?_
      subst ebk2
      exact ih (h + 1) (by omega) (by omega)

set_option maxRecDepth 100000 in
set_option maxHeartbeats 4000000 in
theorem c_X8_closeAll (g : zG) (l : Launch) {M : zM} : zMet g l yX8_closeAll cX8_closeAll 2 none 1 0 0 [.ref 113] S0 M (zQv (fun M' => M' = zClo M 4)) := by
  refine zMet.of (by decide) (Nat.le_of_ble_eq_true rfl) ?_
  refine z_iconst (v := 0) dX8_closeAll_0 (by decide) ?_
  refine z_istore_n dX8_closeAll_1 (by decide) rfl rfl ?_
  exact lp_closeAll g l 5 0 (Nat.zero_le _) (by omega)

set_option maxRecDepth 100000 in
set_option maxHeartbeats 4000000 in
theorem lp_openBooks (g : zG) (l : Launch) {M : zM} : ∀ (k h : Nat), h ≤ 4 → 4 - h < k → zA g l yX8_openBooks cX8_openBooks 3 (some .int) 1 0 0 (zQi (fun r' M' => r' = fOpen M 4 ∧ M' = M)) 4 0 0 S0 M [.ref 113, .int (fOpen M h), .int (nI h)] [] := by
  intro k
  induction k with
  | zero => intro h hh hk; exact absurd hk (Nat.not_lt_zero _)
  | succ k ih =>
    intro h hh hk 
    refine z_iload_n dX8_openBooks_4 rfl ?_
    refine z_iconst (v := 4) dX8_openBooks_5 (by decide) ?_
    refine z_icmp_ge (tgt := 30) dX8_openBooks_6 (by decide) (fun b6 => ?_) (fun b6 => ?_)
    · have e : 4 ≤ h := (nI_leI (by omega) (by omega)).mp b6
      have e2 : h = 4 := by omega
      subst e2
      refine z_iload_n dX8_openBooks_30 rfl ?_
      exact z_iret dX8_openBooks_31 rfl zle (⟨rfl, rfl⟩)
    · have hn : h < 4 := by
        rcases Nat.lt_or_ge h 4 with z | z
        · exact z
        · exact absurd (nI_le z (by omega)) b6
      refine z_aload_n dX8_openBooks_9 rfl ?_
      refine z_getR (j := 0) (r := 114) kX8 lf_X8_11 (by decide) rfl dX8_openBooks_10 k0_113 s0_113 r0_113_0 (by decide) ?_
      refine z_iload_n dX8_openBooks_13 rfl ?_
      obtain ⟨bk, hbk, ebk, ebk2⟩ := zBookAt hn
      refine z_aaldN (j := h) (r := bk) rfl hn dX8_openBooks_14 k0_114 s0_114 (by decide) ebk (zBook_l0 hbk) ?_
      refine z_iV0 (c_X0_isMissing g l hbk) mw_X0_isMissing lm_X8_21 mi_X0_isMissing mv_X0_isMissing kX0 (by decide) (Nat.le_of_ble_eq_true rfl) zle (zBook_k0 hbk) (zBook_s0 hbk) dX8_openBooks_15 (fun r15 M15 q15 => ?_)
      obtain ⟨qm15, qr15⟩ := q15
      obtain rfl := qm15.symm
      obtain ⟨c15, rfl⟩ | ⟨c15, rfl⟩ := qr15
      · refine z_if_ne (tgt := 24) dX8_openBooks_18 (by decide) (fun b18 => ?_) (fun b18 => ?_)
        · refine z_iincN (k := h) dX8_openBooks_24 rfl rfl (by decide) rfl rfl ?_
          refine z_goto (tgt := 4) dX8_openBooks_27 (by decide) ?_
          subst ebk2
          refine zA.sub (ih (h + 1) (by omega) (by omega)) rfl ⟨Or.inr rfl, Or.inr (congrArg (fun z => some (Value.int z)) ?_), Or.inr rfl, trivial⟩
          first | exact (if_pos c15).symm | exact (if_neg c15).symm
        · exact absurd b18 (by decide)
      · refine z_if_ne (tgt := 24) dX8_openBooks_18 (by decide) (fun b18 => ?_) (fun b18 => ?_)
        · exact absurd b18 (by decide)
        · refine z_iinc dX8_openBooks_21 rfl rfl (by decide) rfl rfl ?_
          refine z_iincN (k := h) dX8_openBooks_24 rfl rfl (by decide) rfl rfl ?_
          refine z_goto (tgt := 4) dX8_openBooks_27 (by decide) ?_
          subst ebk2
          refine zA.sub (ih (h + 1) (by omega) (by omega)) rfl ⟨Or.inr rfl, Or.inr (congrArg (fun z => some (Value.int z)) ?_), Or.inr rfl, trivial⟩
          first | exact (if_pos c15).symm | exact (if_neg c15).symm

set_option maxRecDepth 100000 in
set_option maxHeartbeats 4000000 in
theorem c_X8_openBooks (g : zG) (l : Launch) {M : zM} : zMet g l yX8_openBooks cX8_openBooks 3 (some .int) 1 0 0 [.ref 113] S0 M (zQi (fun r' M' => r' = fOpen M 4 ∧ M' = M)) := by
  refine zMet.of (by decide) (Nat.le_of_ble_eq_true rfl) ?_
  refine z_iconst (v := 0) dX8_openBooks_0 (by decide) ?_
  refine z_istore_n dX8_openBooks_1 (by decide) rfl rfl ?_
  refine z_iconst (v := 0) dX8_openBooks_2 (by decide) ?_
  refine z_istore_n dX8_openBooks_3 (by decide) rfl rfl ?_
  exact lp_openBooks g l 5 0 (Nat.zero_le _) (by omega)

set_option maxRecDepth 100000 in
set_option maxHeartbeats 4000000 in
theorem lp_withoutMissing (g : zG) (l : Launch) {M : zM} {s : Int32} : ∀ (k h : Nat), h ≤ 4 → 4 - h < k → zA g l yX8_withoutMissing cX8_withoutMissing 4 (some .int) 1 0 0 (zQi (fun r' M' => r' = fWo M s 4 ∧ M' = M)) 4 0 0 S0 M [.ref 113, .int s, .int (fWo M s h), .int (nI h)] [] := by
  intro k
  induction k with
  | zero => intro h hh hk; exact absurd hk (Nat.not_lt_zero _)
  | succ k ih =>
    intro h hh hk 
    refine z_iload_n dX8_withoutMissing_4 rfl ?_
    refine z_iconst (v := 4) dX8_withoutMissing_5 (by decide) ?_
    refine z_icmp_ge (tgt := 35) dX8_withoutMissing_6 (by decide) (fun b6 => ?_) (fun b6 => ?_)
    · have e : 4 ≤ h := (nI_leI (by omega) (by omega)).mp b6
      have e2 : h = 4 := by omega
      subst e2
      refine z_iload_n dX8_withoutMissing_35 rfl ?_
      exact z_iret dX8_withoutMissing_36 rfl zle (⟨rfl, rfl⟩)
    · have hn : h < 4 := by
        rcases Nat.lt_or_ge h 4 with z | z
        · exact z
        · exact absurd (nI_le z (by omega)) b6
      refine z_aload_n dX8_withoutMissing_9 rfl ?_
      refine z_getR (j := 0) (r := 114) kX8 lf_X8_11 (by decide) rfl dX8_withoutMissing_10 k0_113 s0_113 r0_113_0 (by decide) ?_
      refine z_iload_n dX8_withoutMissing_13 rfl ?_
      obtain ⟨bk, hbk, ebk, ebk2⟩ := zBookAt hn
      refine z_aaldN (j := h) (r := bk) rfl hn dX8_withoutMissing_14 k0_114 s0_114 (by decide) ebk (zBook_l0 hbk) ?_
      refine z_iV0 (c_X0_isMissing g l hbk) mw_X0_isMissing lm_X8_21 mi_X0_isMissing mv_X0_isMissing kX0 (by decide) (Nat.le_of_ble_eq_true rfl) zle (zBook_k0 hbk) (zBook_s0 hbk) dX8_withoutMissing_15 (fun r15 M15 q15 => ?_)
      obtain ⟨qm15, qr15⟩ := q15
      obtain rfl := qm15.symm
      obtain ⟨c15, rfl⟩ | ⟨c15, rfl⟩ := qr15
      · refine z_if_eq (tgt := 29) dX8_withoutMissing_18 (by decide) (fun b18 => ?_) (fun b18 => ?_)
        · exact absurd b18 (by decide)
        · refine z_iload_n dX8_withoutMissing_21 rfl ?_
          refine z_iconst (v := 1) dX8_withoutMissing_22 (by decide) ?_
          refine z_iload_n dX8_withoutMissing_23 rfl ?_
          refine z_ishl dX8_withoutMissing_24 ?_
          refine z_iconst (v := (-1)) dX8_withoutMissing_25 (by decide) ?_
          refine z_ixor dX8_withoutMissing_26 ?_
          refine z_iand dX8_withoutMissing_27 ?_
          refine z_istore_n dX8_withoutMissing_28 (by decide) rfl rfl ?_
          refine z_iincN (k := h) dX8_withoutMissing_29 rfl rfl (by decide) rfl rfl ?_
          refine z_goto (tgt := 4) dX8_withoutMissing_32 (by decide) ?_
          subst ebk2
          refine zA.sub (ih (h + 1) (by omega) (by omega)) rfl ⟨Or.inr rfl, Or.inr rfl, Or.inr (congrArg (fun z => some (Value.int z)) ?_), Or.inr rfl, trivial⟩
          first | exact (if_pos c15).symm | exact (if_neg c15).symm
      · refine z_if_eq (tgt := 29) dX8_withoutMissing_18 (by decide) (fun b18 => ?_) (fun b18 => ?_)
        · refine z_iincN (k := h) dX8_withoutMissing_29 rfl rfl (by decide) rfl rfl ?_
          refine z_goto (tgt := 4) dX8_withoutMissing_32 (by decide) ?_
          subst ebk2
          refine zA.sub (ih (h + 1) (by omega) (by omega)) rfl ⟨Or.inr rfl, Or.inr rfl, Or.inr (congrArg (fun z => some (Value.int z)) ?_), Or.inr rfl, trivial⟩
          first | exact (if_pos c15).symm | exact (if_neg c15).symm
        · exact absurd b18 (by decide)

set_option maxRecDepth 100000 in
set_option maxHeartbeats 4000000 in
theorem c_X8_withoutMissing (g : zG) (l : Launch) {M : zM} {s : Int32} : zMet g l yX8_withoutMissing cX8_withoutMissing 4 (some .int) 1 0 0 [.ref 113, .int s] S0 M (zQi (fun r' M' => r' = fWo M s 4 ∧ M' = M)) := by
  refine zMet.of (by decide) (Nat.le_of_ble_eq_true rfl) ?_
  refine z_iload_n dX8_withoutMissing_0 rfl ?_
  refine z_istore_n dX8_withoutMissing_1 (by decide) rfl rfl ?_
  refine z_iconst (v := 0) dX8_withoutMissing_2 (by decide) ?_
  refine z_istore_n dX8_withoutMissing_3 (by decide) rfl rfl ?_
  exact lp_withoutMissing g l 5 0 (Nat.zero_le _) (by omega)

set_option maxRecDepth 100000 in
set_option maxHeartbeats 4000000 in
theorem lp_toldByAll (g : zG) (l : Launch) {M : zM} {ln : Nat → Nat} {s : Int32} (hL : ∀ b, b < 4 → zLen (M (115 + 3 * b) 2) (ln b)) : ∀ (k h : Nat), h ≤ 4 → 4 - h < k → zA g l yX8_toldByAll cX8_toldByAll 4 (some .int) 2 0 0 (zQi (fun r' M' => r' = fWo M (fAll M ln s 4) 4 ∧ M' = M)) 4 0 0 S0 M [.ref 113, .int s, .int (fAll M ln s h), .int (nI h)] [] := by
  intro k
  induction k with
  | zero => intro h hh hk; exact absurd hk (Nat.not_lt_zero _)
  | succ k ih =>
    intro h hh hk 
    refine z_iload_n dX8_toldByAll_4 rfl ?_
    refine z_iconst (v := 4) dX8_toldByAll_5 (by decide) ?_
    refine z_icmp_ge (tgt := 35) dX8_toldByAll_6 (by decide) (fun b6 => ?_) (fun b6 => ?_)
    · have e : 4 ≤ h := (nI_leI (by omega) (by omega)).mp b6
      have e2 : h = 4 := by omega
      subst e2
      refine z_aload_n dX8_toldByAll_35 rfl ?_
      refine z_iload_n dX8_toldByAll_36 rfl ?_
      refine z_iV1 (c_X8_withoutMissing g l) mw_X8_withoutMissing lm_X8_33 mi_X8_withoutMissing mv_X8_withoutMissing kX8 (by decide) (Nat.le_of_ble_eq_true rfl) zle k0_113 s0_113 dX8_toldByAll_37 (fun r37 M37 q37 => ?_)
      obtain ⟨qr37, qm37⟩ := q37
      obtain rfl := qr37.symm
      obtain rfl := qm37.symm
      exact z_iret dX8_toldByAll_40 rfl zle (⟨rfl, rfl⟩)
    · have hn : h < 4 := by
        rcases Nat.lt_or_ge h 4 with z | z
        · exact z
        · exact absurd (nI_le z (by omega)) b6
      refine z_iload_n dX8_toldByAll_9 rfl ?_
      refine z_iload_n dX8_toldByAll_10 rfl ?_
      refine z_ishr dX8_toldByAll_11 ?_
      refine z_iconst (v := 1) dX8_toldByAll_12 (by decide) ?_
      refine z_iand dX8_toldByAll_13 ?_
      refine z_if_eq (tgt := 29) dX8_toldByAll_14 (by decide) (fun b14 => ?_) (fun b14 => ?_)
      · refine z_iincN (k := h) dX8_toldByAll_29 rfl rfl (by decide) rfl rfl ?_
        refine z_goto (tgt := 4) dX8_toldByAll_32 (by decide) ?_
        first
          | (subst ebk2
             refine zA.sub (ih (h + 1) (by omega) (by omega)) rfl ⟨Or.inr rfl, Or.inr rfl, Or.inr (congrArg (fun z => some (Value.int z)) (if_neg b14).symm), Or.inr rfl, trivial⟩)
          | exact zA.sub (ih (h + 1) (by omega) (by omega)) rfl ⟨Or.inr rfl, Or.inr rfl, Or.inr (congrArg (fun z => some (Value.int z)) (if_pos b14).symm), Or.inr rfl, trivial⟩
      · refine z_iload_n dX8_toldByAll_17 rfl ?_
        refine z_aload_n dX8_toldByAll_18 rfl ?_
        refine z_getR (j := 0) (r := 114) kX8 lf_X8_11 (by decide) rfl dX8_toldByAll_19 k0_113 s0_113 r0_113_0 (by decide) ?_
        refine z_iload_n dX8_toldByAll_22 rfl ?_
        obtain ⟨bk, hbk, ebk, ebk2⟩ := zBookAt hn
        refine z_aaldN (j := h) (r := bk) rfl hn dX8_toldByAll_23 k0_114 s0_114 (by decide) ebk (zBook_l0 hbk) ?_
        refine z_iV0 (c_X0_toldBooks g l hbk (n := ln h) (by rw [ebk2]; exact hL h hn)) mw_X0_toldBooks lm_X8_29 mi_X0_toldBooks mv_X0_toldBooks kX0 (by decide) (Nat.le_of_ble_eq_true rfl) zle (zBook_k0 hbk) (zBook_s0 hbk) dX8_toldByAll_24 (fun r24 M24 q24 => ?_)
        obtain ⟨qr24, qm24⟩ := q24
        obtain rfl := qr24.symm
        obtain rfl := qm24.symm
        refine z_ior dX8_toldByAll_27 ?_
        refine z_istore_n dX8_toldByAll_28 (by decide) rfl rfl ?_
        refine z_iincN (k := h) dX8_toldByAll_29 rfl rfl (by decide) rfl rfl ?_
        refine z_goto (tgt := 4) dX8_toldByAll_32 (by decide) ?_
        first
          | (subst ebk2
             refine zA.sub (ih (h + 1) (by omega) (by omega)) rfl ⟨Or.inr rfl, Or.inr rfl, Or.inr (congrArg (fun z => some (Value.int z)) (if_neg b14).symm), Or.inr rfl, trivial⟩)
          | exact zA.sub (ih (h + 1) (by omega) (by omega)) rfl ⟨Or.inr rfl, Or.inr rfl, Or.inr (congrArg (fun z => some (Value.int z)) (if_pos b14).symm), Or.inr rfl, trivial⟩

set_option maxRecDepth 100000 in
set_option maxHeartbeats 4000000 in
theorem c_X8_toldByAll (g : zG) (l : Launch) {M : zM} {ln : Nat → Nat} {s : Int32} (hL : ∀ b, b < 4 → zLen (M (115 + 3 * b) 2) (ln b)) : zMet g l yX8_toldByAll cX8_toldByAll 4 (some .int) 2 0 0 [.ref 113, .int s] S0 M (zQi (fun r' M' => r' = fWo M (fAll M ln s 4) 4 ∧ M' = M)) := by
  refine zMet.of (by decide) (Nat.le_of_ble_eq_true rfl) ?_
  refine z_iconst (v := 0) dX8_toldByAll_0 (by decide) ?_
  refine z_istore_n dX8_toldByAll_1 (by decide) rfl rfl ?_
  refine z_iconst (v := 0) dX8_toldByAll_2 (by decide) ?_
  refine z_istore_n dX8_toldByAll_3 (by decide) rfl rfl ?_
  exact lp_toldByAll g l hL 5 0 (Nat.zero_le _) (by omega)

set_option maxRecDepth 100000 in
set_option maxHeartbeats 4000000 in
theorem lp_reachFrom (g : zG) (l : Launch) {M : zM} {ln : Nat → Nat} {b s : Int32} (hL : ∀ b, b < 4 → zLen (M (115 + 3 * b) 2) (ln b)) : ∀ (k h : Nat), h ≤ 3 → 3 - h < k → zA g l yX8_reachFrom cX8_reachFrom 4 (some .int) 3 0 0 (zQi (fun r' M' => r' = fReach M ln s 3 ∧ M' = M)) 6 0 0 S0 M [.ref 113, .int b, .int (fReach M ln s h), .int (nI (h + 1))] [] := by
  intro k
  induction k with
  | zero => intro h hh hk; exact absurd hk (Nat.not_lt_zero _)
  | succ k ih =>
    intro h hh hk 
    refine z_iload_n dX8_reachFrom_6 rfl ?_
    refine z_iconst (v := 4) dX8_reachFrom_7 (by decide) ?_
    refine z_icmp_ge (tgt := 25) dX8_reachFrom_8 (by decide) (fun b8 => ?_) (fun b8 => ?_)
    · have e : 4 ≤ h + 1 := (nI_leI (a := 4) (by omega) (by omega)).mp b8
      have e2 : h = 3 := by omega
      subst e2
      refine z_iload_n dX8_reachFrom_25 rfl ?_
      exact z_iret dX8_reachFrom_26 rfl zle (⟨rfl, rfl⟩)
    · have hn : h < 3 := by
        rcases Nat.lt_or_ge h 3 with z | z
        · exact z
        · exact absurd ((nI_leI (a := 4) (by omega) (by omega)).mpr (by omega)) b8
      refine z_iload_n dX8_reachFrom_11 rfl ?_
      refine z_aload_n dX8_reachFrom_12 rfl ?_
      refine z_iload_n dX8_reachFrom_13 rfl ?_
      refine z_iV1 (c_X8_toldByAll g l hL) mw_X8_toldByAll lm_X8_25 mi_X8_toldByAll mv_X8_toldByAll kX8 (by decide) (Nat.le_of_ble_eq_true rfl) zle k0_113 s0_113 dX8_reachFrom_14 (fun r14 M14 q14 => ?_)
      obtain ⟨qr14, qm14⟩ := q14
      obtain rfl := qr14.symm
      obtain rfl := qm14.symm
      refine z_ior dX8_reachFrom_17 ?_
      refine z_istore_n dX8_reachFrom_18 (by decide) rfl rfl ?_
      refine z_iincN (k := (h + 1)) dX8_reachFrom_19 rfl rfl (by decide) rfl rfl ?_
      refine z_goto (tgt := 6) dX8_reachFrom_22 (by decide) ?_
      exact ih (h + 1) (by omega) (by omega)

set_option maxRecDepth 100000 in
set_option maxHeartbeats 4000000 in
theorem c_X8_reachFrom (g : zG) (l : Launch) {M : zM} {ln : Nat → Nat} {b : Int32} (hL : ∀ b, b < 4 → zLen (M (115 + 3 * b) 2) (ln b)) : zMet g l yX8_reachFrom cX8_reachFrom 4 (some .int) 3 0 0 [.ref 113, .int b] S0 M (zQi (fun r' M' => r' = fReach M ln (1 <<< (b &&& 31)) 3 ∧ M' = M)) := by
  refine zMet.of (by decide) (Nat.le_of_ble_eq_true rfl) ?_
  refine z_iconst (v := 1) dX8_reachFrom_0 (by decide) ?_
  refine z_iload_n dX8_reachFrom_1 rfl ?_
  refine z_ishl dX8_reachFrom_2 ?_
  refine z_istore_n dX8_reachFrom_3 (by decide) rfl rfl ?_
  refine z_iconst (v := 1) dX8_reachFrom_4 (by decide) ?_
  refine z_istore_n dX8_reachFrom_5 (by decide) rfl rfl ?_
  exact lp_reachFrom g l hL 4 0 (Nat.zero_le _) (by omega)

set_option maxRecDepth 100000 in
set_option maxHeartbeats 4000000 in
theorem lp_weightOf (g : zG) (l : Launch) {M : zM} {ln : Nat → Nat} {s : Int32} (hL : ∀ b, b < 4 → zLen (M (115 + 3 * b) 2) (ln b)) : ∀ (k h : Nat), h ≤ 4 → 4 - h < k → zA g l yX8_weightOf cX8_weightOf 4 (some .int) 1 0 0 (zQi (fun r' M' => r' = fWeigh M ln s 4 ∧ M' = M)) 5 0 0 S0 M [.ref 113, .int s, .int (fWeigh M ln s h), .int (nI h)] [] := by
  intro k
  induction k with
  | zero => intro h hh hk; exact absurd hk (Nat.not_lt_zero _)
  | succ k ih =>
    intro h hh hk 
    refine z_iload_n dX8_weightOf_5 rfl ?_
    refine z_iconst (v := 4) dX8_weightOf_6 (by decide) ?_
    refine z_icmp_ge (tgt := 36) dX8_weightOf_7 (by decide) (fun b7 => ?_) (fun b7 => ?_)
    · have e : 4 ≤ h := (nI_leI (by omega) (by omega)).mp b7
      have e2 : h = 4 := by omega
      subst e2
      refine z_iload_n dX8_weightOf_36 rfl ?_
      exact z_iret dX8_weightOf_37 rfl zle (⟨rfl, rfl⟩)
    · have hn : h < 4 := by
        rcases Nat.lt_or_ge h 4 with z | z
        · exact z
        · exact absurd (nI_le z (by omega)) b7
      refine z_iload_n dX8_weightOf_10 rfl ?_
      refine z_iload_n dX8_weightOf_11 rfl ?_
      refine z_ishr dX8_weightOf_12 ?_
      refine z_iconst (v := 1) dX8_weightOf_13 (by decide) ?_
      refine z_iand dX8_weightOf_14 ?_
      refine z_if_eq (tgt := 30) dX8_weightOf_15 (by decide) (fun b15 => ?_) (fun b15 => ?_)
      · refine z_iincN (k := h) dX8_weightOf_30 rfl rfl (by decide) rfl rfl ?_
        refine z_goto (tgt := 5) dX8_weightOf_33 (by decide) ?_
        first
          | (subst ebk2
             refine zA.sub (ih (h + 1) (by omega) (by omega)) rfl ⟨Or.inr rfl, Or.inr rfl, Or.inr (congrArg (fun z => some (Value.int z)) (if_neg b15).symm), Or.inr rfl, trivial⟩)
          | exact zA.sub (ih (h + 1) (by omega) (by omega)) rfl ⟨Or.inr rfl, Or.inr rfl, Or.inr (congrArg (fun z => some (Value.int z)) (if_pos b15).symm), Or.inr rfl, trivial⟩
      · refine z_iload_n dX8_weightOf_18 rfl ?_
        refine z_aload_n dX8_weightOf_19 rfl ?_
        refine z_getR (j := 0) (r := 114) kX8 lf_X8_11 (by decide) rfl dX8_weightOf_20 k0_113 s0_113 r0_113_0 (by decide) ?_
        refine z_iload_n dX8_weightOf_23 rfl ?_
        obtain ⟨bk, hbk, ebk, ebk2⟩ := zBookAt hn
        refine z_aaldN (j := h) (r := bk) rfl hn dX8_weightOf_24 k0_114 s0_114 (by decide) ebk (zBook_l0 hbk) ?_
        refine z_iV0 (c_X0_ownWeight g l hbk (n := ln h) (by rw [ebk2]; exact hL h hn)) mw_X0_ownWeight lm_X8_37 mi_X0_ownWeight mv_X0_ownWeight kX0 (by decide) (Nat.le_of_ble_eq_true rfl) zle (zBook_k0 hbk) (zBook_s0 hbk) dX8_weightOf_25 (fun r25 M25 q25 => ?_)
        obtain ⟨qr25, qm25⟩ := q25
        obtain rfl := qr25.symm
        obtain rfl := qm25.symm
        refine z_iadd dX8_weightOf_28 ?_
        refine z_istore_n dX8_weightOf_29 (by decide) rfl rfl ?_
        refine z_iincN (k := h) dX8_weightOf_30 rfl rfl (by decide) rfl rfl ?_
        refine z_goto (tgt := 5) dX8_weightOf_33 (by decide) ?_
        first
          | (subst ebk2
             refine zA.sub (ih (h + 1) (by omega) (by omega)) rfl ⟨Or.inr rfl, Or.inr rfl, Or.inr (congrArg (fun z => some (Value.int z)) (if_neg b15).symm), Or.inr rfl, trivial⟩)
          | exact zA.sub (ih (h + 1) (by omega) (by omega)) rfl ⟨Or.inr rfl, Or.inr rfl, Or.inr (congrArg (fun z => some (Value.int z)) (if_pos b15).symm), Or.inr rfl, trivial⟩

set_option maxRecDepth 100000 in
set_option maxHeartbeats 4000000 in
theorem c_X8_weightOf (g : zG) (l : Launch) {M : zM} {ln : Nat → Nat} {s : Int32} (hL : ∀ b, b < 4 → zLen (M (115 + 3 * b) 2) (ln b)) : zMet g l yX8_weightOf cX8_weightOf 4 (some .int) 1 0 0 [.ref 113, .int s] S0 M (zQi (fun r' M' => r' = fWeigh M ln s 4 ∧ M' = M)) := by
  refine zMet.of (by decide) (Nat.le_of_ble_eq_true rfl) ?_
  refine z_ldc lc_X8_36 dX8_weightOf_0 ?_
  refine z_istore_n dX8_weightOf_2 (by decide) rfl rfl ?_
  refine z_iconst (v := 0) dX8_weightOf_3 (by decide) ?_
  refine z_istore_n dX8_weightOf_4 (by decide) rfl rfl ?_
  exact lp_weightOf g l hL 5 0 (Nat.zero_le _) (by omega)

set_option maxRecDepth 100000 in
set_option maxHeartbeats 4000000 in
theorem c_X2_isUnder (g : zG) (l : Launch) {k x : Int32} {M : zM} : zMet g l yX2_isUnder cX2_isUnder 2 (some .boolean) 0 0 0 [.int k, .int x] S0 M (zQi (fun r' M' => M' = M ∧ (((x = 0 ∨ (x = 1 ∧ (k = 0 ∨ k = 1 ∨ k = 2)) ∨ (x = 4 ∧ (k = 3 ∨ k = 4)) ∨ (¬ x = 0 ∧ ¬ x = 1 ∧ ¬ x = 4 ∧ k + 1 = x)) ∧ r' = 1) ∨ (¬ (x = 0 ∨ (x = 1 ∧ (k = 0 ∨ k = 1 ∨ k = 2)) ∨ (x = 4 ∧ (k = 3 ∨ k = 4)) ∨ (¬ x = 0 ∧ ¬ x = 1 ∧ ¬ x = 4 ∧ k + 1 = x)) ∧ r' = 0)))) := by
  refine zMet.of (by decide) (Nat.le_of_ble_eq_true rfl) ?_
  refine z_iload_n dX2_isUnder_0 rfl ?_
  refine z_tsw (b := 0) (n := 5) (tg := [36, 38, 74, 74, 58]) (tgt := 74) dX2_isUnder_1 (by decide) (by decide) (by decide) (by decide) (by decide) (fun k1 hk1 s1 => ?_) (fun s1 => ?_)
  · match k1, hk1 with
    | 0, _ =>
      have s2 : x = 0 := s1
      refine z_iconst (v := 1) dX2_isUnder_36 (by decide) ?_
      refine z_iret dX2_isUnder_37 rfl zle ?_
      first
        | (clear s1; subst s2; simp_all; done)
        | (clear s1; simp_all; done)
    | 1, _ =>
      have s2 : x = 1 := s1
      refine z_iload_n dX2_isUnder_38 rfl ?_
      refine z_if_eq (tgt := 52) dX2_isUnder_39 (by decide) (fun b39 => ?_) (fun b39 => ?_)
      · refine z_iconst (v := 1) dX2_isUnder_52 (by decide) ?_
        refine z_goto (tgt := 57) dX2_isUnder_53 (by decide) ?_
        refine z_iret dX2_isUnder_57 rfl zle ?_
        first
          | (clear s1; subst s2; simp_all; done)
          | (clear s1; simp_all; done)
      · refine z_iload_n dX2_isUnder_42 rfl ?_
        refine z_iconst (v := 1) dX2_isUnder_43 (by decide) ?_
        refine z_icmp_eq (tgt := 52) dX2_isUnder_44 (by decide) (fun b44 => ?_) (fun b44 => ?_)
        · refine z_iconst (v := 1) dX2_isUnder_52 (by decide) ?_
          refine z_goto (tgt := 57) dX2_isUnder_53 (by decide) ?_
          refine z_iret dX2_isUnder_57 rfl zle ?_
          first
            | (clear s1; subst s2; simp_all; done)
            | (clear s1; simp_all; done)
        · refine z_iload_n dX2_isUnder_47 rfl ?_
          refine z_iconst (v := 2) dX2_isUnder_48 (by decide) ?_
          refine z_icmp_ne (tgt := 56) dX2_isUnder_49 (by decide) (fun b49 => ?_) (fun b49 => ?_)
          · refine z_iconst (v := 0) dX2_isUnder_56 (by decide) ?_
            refine z_iret dX2_isUnder_57 rfl zle ?_
            first
              | (clear s1; subst s2; simp_all; done)
              | (clear s1; simp_all; done)
          · refine z_iconst (v := 1) dX2_isUnder_52 (by decide) ?_
            refine z_goto (tgt := 57) dX2_isUnder_53 (by decide) ?_
            refine z_iret dX2_isUnder_57 rfl zle ?_
            first
              | (clear s1; subst s2; simp_all; done)
              | (clear s1; simp_all; done)
    | 2, _ =>
      have s2 : x = 2 := s1
      refine z_iload_n dX2_isUnder_74 rfl ?_
      refine z_iconst (v := 1) dX2_isUnder_75 (by decide) ?_
      refine z_iadd dX2_isUnder_76 ?_
      refine z_iload_n dX2_isUnder_77 rfl ?_
      refine z_icmp_ne (tgt := 85) dX2_isUnder_78 (by decide) (fun b78 => ?_) (fun b78 => ?_)
      · refine z_iconst (v := 0) dX2_isUnder_85 (by decide) ?_
        refine z_iret dX2_isUnder_86 rfl zle ?_
        first
          | (clear s1; subst s2; simp_all; done)
          | (clear s1; simp_all; done)
      · refine z_iconst (v := 1) dX2_isUnder_81 (by decide) ?_
        refine z_goto (tgt := 86) dX2_isUnder_82 (by decide) ?_
        refine z_iret dX2_isUnder_86 rfl zle ?_
        first
          | (clear s1; subst s2; simp_all; done)
          | (clear s1; simp_all; done)
    | 3, _ =>
      have s2 : x = 3 := s1
      refine z_iload_n dX2_isUnder_74 rfl ?_
      refine z_iconst (v := 1) dX2_isUnder_75 (by decide) ?_
      refine z_iadd dX2_isUnder_76 ?_
      refine z_iload_n dX2_isUnder_77 rfl ?_
      refine z_icmp_ne (tgt := 85) dX2_isUnder_78 (by decide) (fun b78 => ?_) (fun b78 => ?_)
      · refine z_iconst (v := 0) dX2_isUnder_85 (by decide) ?_
        refine z_iret dX2_isUnder_86 rfl zle ?_
        first
          | (clear s1; subst s2; simp_all; done)
          | (clear s1; simp_all; done)
      · refine z_iconst (v := 1) dX2_isUnder_81 (by decide) ?_
        refine z_goto (tgt := 86) dX2_isUnder_82 (by decide) ?_
        refine z_iret dX2_isUnder_86 rfl zle ?_
        first
          | (clear s1; subst s2; simp_all; done)
          | (clear s1; simp_all; done)
    | 4, _ =>
      have s2 : x = 4 := s1
      refine z_iload_n dX2_isUnder_58 rfl ?_
      refine z_iconst (v := 3) dX2_isUnder_59 (by decide) ?_
      refine z_icmp_eq (tgt := 68) dX2_isUnder_60 (by decide) (fun b60 => ?_) (fun b60 => ?_)
      · refine z_iconst (v := 1) dX2_isUnder_68 (by decide) ?_
        refine z_goto (tgt := 73) dX2_isUnder_69 (by decide) ?_
        refine z_iret dX2_isUnder_73 rfl zle ?_
        first
          | (clear s1; subst s2; simp_all; done)
          | (clear s1; simp_all; done)
      · refine z_iload_n dX2_isUnder_63 rfl ?_
        refine z_iconst (v := 4) dX2_isUnder_64 (by decide) ?_
        refine z_icmp_ne (tgt := 72) dX2_isUnder_65 (by decide) (fun b65 => ?_) (fun b65 => ?_)
        · refine z_iconst (v := 0) dX2_isUnder_72 (by decide) ?_
          refine z_iret dX2_isUnder_73 rfl zle ?_
          first
            | (clear s1; subst s2; simp_all; done)
            | (clear s1; simp_all; done)
        · refine z_iconst (v := 1) dX2_isUnder_68 (by decide) ?_
          refine z_goto (tgt := 73) dX2_isUnder_69 (by decide) ?_
          refine z_iret dX2_isUnder_73 rfl zle ?_
          first
            | (clear s1; subst s2; simp_all; done)
            | (clear s1; simp_all; done)
    | k + 5, h => exact absurd h (by omega)
  · have n0 : ¬ x = 0 := s1 0 (by decide)
    have n1 : ¬ x = 1 := s1 1 (by decide)
    have n2 : ¬ x = 2 := s1 2 (by decide)
    have n3 : ¬ x = 3 := s1 3 (by decide)
    have n4 : ¬ x = 4 := s1 4 (by decide)
    refine z_iload_n dX2_isUnder_74 rfl ?_
    refine z_iconst (v := 1) dX2_isUnder_75 (by decide) ?_
    refine z_iadd dX2_isUnder_76 ?_
    refine z_iload_n dX2_isUnder_77 rfl ?_
    refine z_icmp_ne (tgt := 85) dX2_isUnder_78 (by decide) (fun b78 => ?_) (fun b78 => ?_)
    · refine z_iconst (v := 0) dX2_isUnder_85 (by decide) ?_
      refine z_iret dX2_isUnder_86 rfl zle ?_
      first
        | (clear s1; subst s2; simp_all; done)
        | (clear s1; simp_all; done)
    · refine z_iconst (v := 1) dX2_isUnder_81 (by decide) ?_
      refine z_goto (tgt := 86) dX2_isUnder_82 (by decide) ?_
      refine z_iret dX2_isUnder_86 rfl zle ?_
      first
        | (clear s1; subst s2; simp_all; done)
        | (clear s1; simp_all; done)

set_option maxRecDepth 100000 in
set_option maxHeartbeats 4000000 in
theorem c_X9_clear (g : zG) (l : Launch) {M : zM} : zMet g l yX9_clear cX9_clear 1 none 0 0 0 [.ref 109] S0 M (zQv (fun M' => M' = z_up M 109 3 0)) := by
  refine zMet.of (by decide) (Nat.le_of_ble_eq_true rfl) ?_
  refine z_aload_n dX9_clear_0 rfl ?_
  refine z_iconst (v := 0) dX9_clear_1 (by decide) ?_
  refine z_putI (j := 3) kX9 lf_X9_21 (by decide) rfl rfl (kX9.2.2.1 3 (by decide)) rfl rfl dX9_clear_2 k0_109 s0_109 ?_
  exact z_vret dX9_clear_5 zle (rfl)

set_option maxRecDepth 100000 in
set_option maxHeartbeats 4000000 in
theorem c_X9_append (g : zG) (l : Launch) {M : zM} {u : Nat} {a b c : Int32} (hu : u < 6) (h1 : M 109 3 = nI u) : zMet g l yX9_append cX9_append 4 none 0 0 0 [.ref 109, .int a, .int b, .int c] S0 M (zQv (fun M' => M' = z_up (z_up (z_up (z_up M 110 u a) 111 u b) 112 u c) 109 3 (nI (u + 1)))) := by
  refine zMet.of (by decide) (Nat.le_of_ble_eq_true rfl) ?_
  refine z_aload_n dX9_append_0 rfl ?_
  refine z_getIV (j := 3) kX9 lf_X9_21 (by decide) rfl h1 dX9_append_1 k0_109 s0_109 ?_
  refine z_bipush (v := 6) dX9_append_4 (by decide) ?_
  refine z_icmp_ge (tgt := 49) dX9_append_6 (by decide) (fun b6 => ?_) (fun b6 => ?_)
  · exact absurd ((nI_leI (a := 6) (by omega) (by omega)).mp b6) (by omega)
  · refine z_aload_n dX9_append_9 rfl ?_
    refine z_getR (j := 0) (r := 110) kX9 lf_X9_11 (by decide) rfl dX9_append_10 k0_109 s0_109 r0_109_0 (by decide) ?_
    refine z_aload_n dX9_append_13 rfl ?_
    refine z_getIV (j := 3) kX9 lf_X9_21 (by decide) rfl h1 dX9_append_14 k0_109 s0_109 ?_
    refine z_iload_n dX9_append_17 rfl ?_
    refine z_iastN (j := u) rfl (by omega) dX9_append_18 k0_110 s0_110 ?_
    refine z_aload_n dX9_append_19 rfl ?_
    refine z_getR (j := 1) (r := 111) kX9 lf_X9_15 (by decide) rfl dX9_append_20 k0_109 s0_109 r0_109_1 (by decide) ?_
    refine z_aload_n dX9_append_23 rfl ?_
    refine z_getIV (j := 3) kX9 lf_X9_21 (by decide) rfl ((congrFun (z_up_n _ _ _ (by omega)) _).trans h1) dX9_append_24 k0_109 s0_109 ?_
    refine z_iload_n dX9_append_27 rfl ?_
    refine z_iastN (j := u) rfl (by omega) dX9_append_28 k0_111 s0_111 ?_
    refine z_aload_n dX9_append_29 rfl ?_
    refine z_getR (j := 2) (r := 112) kX9 lf_X9_18 (by decide) rfl dX9_append_30 k0_109 s0_109 r0_109_2 (by decide) ?_
    refine z_aload_n dX9_append_33 rfl ?_
    refine z_getIV (j := 3) kX9 lf_X9_21 (by decide) rfl ((congrFun ((z_up_n _ _ _ (by omega)).trans (z_up_n _ _ _ (by omega))) _).trans h1) dX9_append_34 k0_109 s0_109 ?_
    refine z_iload_n dX9_append_37 rfl ?_
    refine z_iastN (j := u) rfl (by omega) dX9_append_38 k0_112 s0_112 ?_
    refine z_aload_n dX9_append_39 rfl ?_
    refine z_dup dX9_append_40 rfl ?_
    refine z_getIV (j := 3) kX9 lf_X9_21 (by decide) rfl ((congrFun ((z_up_n _ _ _ (by omega)).trans ((z_up_n _ _ _ (by omega)).trans (z_up_n _ _ _ (by omega)))) _).trans h1) dX9_append_41 k0_109 s0_109 ?_
    refine z_iconst (v := 1) dX9_append_44 (by decide) ?_
    refine z_iaddN (a := u) (b := 1) rfl rfl dX9_append_45 ?_
    refine z_putI (j := 3) kX9 lf_X9_21 (by decide) rfl rfl (kX9.2.2.1 3 (by decide)) rfl rfl dX9_append_46 k0_109 s0_109 ?_
    exact z_vret dX9_append_49 zle (rfl)

set_option maxRecDepth 100000 in
set_option maxHeartbeats 4000000 in
theorem lp_fits (g : zG) (l : Launch) {M : zM} {u : Nat} {k0 : Int32} (hu : u ≤ 6) (h1 : M 109 3 = nI u) : ∀ (k h : Nat), h ≤ u → u - h < k → fFits M k0 h = true → zA g l yX9_fits cX9_fits 3 (some .boolean) 1 0 0 (zQi (fun r' M' => M' = M ∧ (((fFits M k0 u = true) ∧ r' = 1) ∨ (¬ (fFits M k0 u = true) ∧ r' = 0)))) 2 0 0 S0 M [.ref 109, .int k0, .int (nI h)] [] := by
  intro k
  induction k with
  | zero => intro h hh hk; exact absurd hk (Nat.not_lt_zero _)
  | succ k ih =>
    intro h hh hk w
    refine z_iload_n dX9_fits_2 rfl ?_
    refine z_aload_n dX9_fits_3 rfl ?_
    refine z_getIV (j := 3) kX9 lf_X9_21 (by decide) rfl h1 dX9_fits_4 k0_109 s0_109 ?_
    refine z_icmp_ge (tgt := 56) dX9_fits_7 (by decide) (fun b7 => ?_) (fun b7 => ?_)
    · have e : u ≤ h := (nI_leI (by omega) (by omega)).mp b7
      have e2 : h = u := by omega
      subst e2
      refine z_iconst (v := 1) dX9_fits_56 (by decide) ?_
      refine z_iret dX9_fits_57 rfl zle ?_
      exact ⟨rfl, Or.inl ⟨w, rfl⟩⟩
    · have hn : h < u := by
        rcases Nat.lt_or_ge h u with z | z
        · exact z
        · exact absurd (nI_le z (by omega)) b7
      refine z_iload_n dX9_fits_10 rfl ?_
      refine z_aload_n dX9_fits_11 rfl ?_
      refine z_getR (j := 0) (r := 110) kX9 lf_X9_11 (by decide) rfl dX9_fits_12 k0_109 s0_109 r0_109_0 (by decide) ?_
      refine z_iload_n dX9_fits_15 rfl ?_
      refine z_ialdN (j := h) rfl (by omega) dX9_fits_16 k0_110 s0_110 ?_
      refine z_iS2 (c_X2_takes g l) mw_X2_takes lm_X9_31 ms_X2_takes (by decide) (Nat.le_of_ble_eq_true rfl) zle dX9_fits_17 (fun r17 M17 q17 => ?_)
      obtain ⟨qr17, qm17⟩ := q17
      obtain rfl := qr17.symm
      obtain rfl := qm17.symm
      refine z_aload_n dX9_fits_20 rfl ?_
      refine z_getR (j := 1) (r := 111) kX9 lf_X9_15 (by decide) rfl dX9_fits_21 k0_109 s0_109 r0_109_1 (by decide) ?_
      refine z_iload_n dX9_fits_24 rfl ?_
      refine z_ialdN (j := h) rfl (by omega) dX9_fits_25 k0_111 s0_111 ?_
      refine z_icmp_ne (tgt := 48) dX9_fits_26 (by decide) (fun b26 => ?_) (fun b26 => ?_)
      · refine z_iconst (v := 0) dX9_fits_48 (by decide) ?_
        refine z_iret dX9_fits_49 rfl zle ?_
        have e9 : fFits M k0 (h + 1) = false := by
          show (fFits M k0 h && decide _) = false
          rw [decide_eq_false (fun z => by first | exact b26 z.1 | exact b45 z.2), Bool.and_false]
        exact ⟨rfl, Or.inr ⟨fun z => by rw [fFits_le u (show h + 1 ≤ u by omega) z] at e9; exact absurd e9 (by decide), rfl⟩⟩
      · refine z_iload_n dX9_fits_29 rfl ?_
        refine z_aload_n dX9_fits_30 rfl ?_
        refine z_getR (j := 0) (r := 110) kX9 lf_X9_11 (by decide) rfl dX9_fits_31 k0_109 s0_109 r0_109_0 (by decide) ?_
        refine z_iload_n dX9_fits_34 rfl ?_
        refine z_ialdN (j := h) rfl (by omega) dX9_fits_35 k0_110 s0_110 ?_
        refine z_iS2 (c_X2_tires g l) mw_X2_tires lm_X9_35 ms_X2_tires (by decide) (Nat.le_of_ble_eq_true rfl) zle dX9_fits_36 (fun r36 M36 q36 => ?_)
        obtain ⟨qr36, qm36⟩ := q36
        obtain rfl := qr36.symm
        obtain rfl := qm36.symm
        refine z_aload_n dX9_fits_39 rfl ?_
        refine z_getR (j := 2) (r := 112) kX9 lf_X9_18 (by decide) rfl dX9_fits_40 k0_109 s0_109 r0_109_2 (by decide) ?_
        refine z_iload_n dX9_fits_43 rfl ?_
        refine z_ialdN (j := h) rfl (by omega) dX9_fits_44 k0_112 s0_112 ?_
        refine z_icmp_eq (tgt := 50) dX9_fits_45 (by decide) (fun b45 => ?_) (fun b45 => ?_)
        · refine z_iincN (k := h) dX9_fits_50 rfl rfl (by decide) rfl rfl ?_
          refine z_goto (tgt := 2) dX9_fits_53 (by decide) ?_
          refine ih (h + 1) (by omega) (by omega) ?_
          show (fFits M k0 h && decide _) = true
          rw [w, decide_eq_true ⟨b26, b45⟩]
          rfl
        · refine z_iconst (v := 0) dX9_fits_48 (by decide) ?_
          refine z_iret dX9_fits_49 rfl zle ?_
          have e9 : fFits M k0 (h + 1) = false := by
            show (fFits M k0 h && decide _) = false
            rw [decide_eq_false (fun z => by first | exact b26 z.1 | exact b45 z.2), Bool.and_false]
          exact ⟨rfl, Or.inr ⟨fun z => by rw [fFits_le u (show h + 1 ≤ u by omega) z] at e9; exact absurd e9 (by decide), rfl⟩⟩

set_option maxRecDepth 100000 in
set_option maxHeartbeats 4000000 in
theorem c_X9_fits (g : zG) (l : Launch) {M : zM} {u : Nat} (hu : u ≤ 6) (h1 : M 109 3 = nI u) {k : Int32} : zMet g l yX9_fits cX9_fits 3 (some .boolean) 1 0 0 [.ref 109, .int k] S0 M (zQi (fun r' M' => M' = M ∧ (((fFits M k u = true) ∧ r' = 1) ∨ (¬ (fFits M k u = true) ∧ r' = 0)))) := by
  refine zMet.of (by decide) (Nat.le_of_ble_eq_true rfl) ?_
  refine z_iconst (v := 0) dX9_fits_0 (by decide) ?_
  refine z_istore_n dX9_fits_1 (by decide) rfl rfl ?_
  exact lp_fits g l hu h1 (u + 1) 0 (Nat.zero_le _) (by omega) rfl

set_option maxRecDepth 100000 in
set_option maxHeartbeats 4000000 in
theorem lp_fittingKinds (g : zG) (l : Launch) {M : zM} {u : Nat} (hu : u ≤ 6) (h1 : M 109 3 = nI u) : ∀ (k h : Nat), h ≤ 5 → 5 - h < k → zA g l yX9_fittingKinds cX9_fittingKinds 3 (some .int) 2 0 0 (zQi (fun r' M' => r' = fKinds M u 5 ∧ M' = M)) 4 0 0 S0 M [.ref 109, .int (fKinds M u h), .int (nI h)] [] := by
  intro k
  induction k with
  | zero => intro h hh hk; exact absurd hk (Nat.not_lt_zero _)
  | succ k ih =>
    intro h hh hk 
    refine z_iload_n dX9_fittingKinds_4 rfl ?_
    refine z_iconst (v := 5) dX9_fittingKinds_5 (by decide) ?_
    refine z_icmp_ge (tgt := 29) dX9_fittingKinds_6 (by decide) (fun b6 => ?_) (fun b6 => ?_)
    · have e : 5 ≤ h := (nI_leI (by omega) (by omega)).mp b6
      have e2 : h = 5 := by omega
      subst e2
      refine z_iload_n dX9_fittingKinds_29 rfl ?_
      exact z_iret dX9_fittingKinds_30 rfl zle (⟨rfl, rfl⟩)
    · have hn : h < 5 := by
        rcases Nat.lt_or_ge h 5 with z | z
        · exact z
        · exact absurd (nI_le z (by omega)) b6
      refine z_aload_n dX9_fittingKinds_9 rfl ?_
      refine z_iload_n dX9_fittingKinds_10 rfl ?_
      refine z_iV1 (c_X9_fits g l hu h1) mw_X9_fits lm_X9_27 mi_X9_fits mv_X9_fits kX9 (by decide) (Nat.le_of_ble_eq_true rfl) zle k0_109 s0_109 dX9_fittingKinds_11 (fun r11 M11 q11 => ?_)
      obtain ⟨qm11, qr11⟩ := q11
      obtain rfl := qm11.symm
      obtain ⟨c11, rfl⟩ | ⟨c11, rfl⟩ := qr11
      · refine z_if_eq (tgt := 23) dX9_fittingKinds_14 (by decide) (fun b14 => ?_) (fun b14 => ?_)
        · exact absurd b14 (by decide)
        · refine z_iload_n dX9_fittingKinds_17 rfl ?_
          refine z_iconst (v := 1) dX9_fittingKinds_18 (by decide) ?_
          refine z_iload_n dX9_fittingKinds_19 rfl ?_
          refine z_ishl dX9_fittingKinds_20 ?_
          refine z_ior dX9_fittingKinds_21 ?_
          refine z_istore_n dX9_fittingKinds_22 (by decide) rfl rfl ?_
          refine z_iincN (k := h) dX9_fittingKinds_23 rfl rfl (by decide) rfl rfl ?_
          refine z_goto (tgt := 4) dX9_fittingKinds_26 (by decide) ?_
          refine zA.sub (ih (h + 1) (by omega) (by omega)) rfl ⟨Or.inr rfl, Or.inr (congrArg (fun z => some (Value.int z)) ?_), Or.inr rfl, trivial⟩
          first | exact (if_pos c11).symm | exact (if_neg c11).symm
      · refine z_if_eq (tgt := 23) dX9_fittingKinds_14 (by decide) (fun b14 => ?_) (fun b14 => ?_)
        · refine z_iincN (k := h) dX9_fittingKinds_23 rfl rfl (by decide) rfl rfl ?_
          refine z_goto (tgt := 4) dX9_fittingKinds_26 (by decide) ?_
          refine zA.sub (ih (h + 1) (by omega) (by omega)) rfl ⟨Or.inr rfl, Or.inr (congrArg (fun z => some (Value.int z)) ?_), Or.inr rfl, trivial⟩
          first | exact (if_pos c11).symm | exact (if_neg c11).symm
        · exact absurd b14 (by decide)

set_option maxRecDepth 100000 in
set_option maxHeartbeats 4000000 in
theorem c_X9_fittingKinds (g : zG) (l : Launch) {M : zM} {u : Nat} (hu : u ≤ 6) (h1 : M 109 3 = nI u) : zMet g l yX9_fittingKinds cX9_fittingKinds 3 (some .int) 2 0 0 [.ref 109] S0 M (zQi (fun r' M' => r' = fKinds M u 5 ∧ M' = M)) := by
  refine zMet.of (by decide) (Nat.le_of_ble_eq_true rfl) ?_
  refine z_iconst (v := 0) dX9_fittingKinds_0 (by decide) ?_
  refine z_istore_n dX9_fittingKinds_1 (by decide) rfl rfl ?_
  refine z_iconst (v := 0) dX9_fittingKinds_2 (by decide) ?_
  refine z_istore_n dX9_fittingKinds_3 (by decide) rfl rfl ?_
  exact lp_fittingKinds g l hu h1 6 0 (Nat.zero_le _) (by omega)

set_option maxRecDepth 100000 in
set_option maxHeartbeats 4000000 in
theorem lp_likeKinds (g : zG) (l : Launch) {M : zM} {s m k0 : Int32} : ∀ (k h : Nat), h ≤ 5 → 5 - h < k → zA g l yX9_likeKinds cX9_likeKinds 5 (some .int) 1 0 0 (zQi (fun r' M' => r' = fLike s m k0 5 ∧ M' = M)) 5 0 0 S0 M [.int s, .int m, .int k0, .int (fLike s m k0 h), .int (nI h)] [] := by
  intro k
  induction k with
  | zero => intro h hh hk; exact absurd hk (Nat.not_lt_zero _)
  | succ k ih =>
    intro h hh hk 
    refine z_iload dX9_likeKinds_5 rfl ?_
    refine z_iconst (v := 5) dX9_likeKinds_7 (by decide) ?_
    refine z_icmp_ge (tgt := 57) dX9_likeKinds_8 (by decide) (fun b8 => ?_) (fun b8 => ?_)
    · have e : 5 ≤ h := (nI_leI (by omega) (by omega)).mp b8
      have e2 : h = 5 := by omega
      subst e2
      refine z_iload_n dX9_likeKinds_57 rfl ?_
      exact z_iret dX9_likeKinds_58 rfl zle (⟨rfl, rfl⟩)
    · have hn : h < 5 := by
        rcases Nat.lt_or_ge h 5 with z | z
        · exact z
        · exact absurd (nI_le z (by omega)) b8
      refine z_iload_n dX9_likeKinds_11 rfl ?_
      refine z_iload dX9_likeKinds_12 rfl ?_
      refine z_ishr dX9_likeKinds_14 ?_
      refine z_iconst (v := 1) dX9_likeKinds_15 (by decide) ?_
      refine z_iand dX9_likeKinds_16 ?_
      refine z_if_eq (tgt := 51) dX9_likeKinds_17 (by decide) (fun b17 => ?_) (fun b17 => ?_)
      · refine z_iincN (k := h) dX9_likeKinds_51 rfl rfl (by decide) rfl rfl ?_
        refine z_goto (tgt := 5) dX9_likeKinds_54 (by decide) ?_
        refine zA.sub (ih (h + 1) (by omega) (by omega)) rfl ⟨Or.inr rfl, Or.inr rfl, Or.inr rfl, Or.inr (congrArg (fun z => some (Value.int z)) ?_), Or.inr rfl, trivial⟩
        first
          | exact (if_pos ⟨b17, b31, b45⟩).symm
          | exact (if_neg (fun z => b45 z.2.2)).symm
          | exact (if_neg (fun z => b31 z.2.1)).symm
          | exact (if_neg (fun z => z.1 b17)).symm
      · refine z_iload dX9_likeKinds_20 rfl ?_
        refine z_iload_n dX9_likeKinds_22 rfl ?_
        refine z_iS2 (c_X2_takes g l) mw_X2_takes lm_X9_31 ms_X2_takes (by decide) (Nat.le_of_ble_eq_true rfl) zle dX9_likeKinds_23 (fun r23 M23 q23 => ?_)
        obtain ⟨qr23, qm23⟩ := q23
        obtain rfl := qr23.symm
        obtain rfl := qm23.symm
        refine z_iload_n dX9_likeKinds_26 rfl ?_
        refine z_iload_n dX9_likeKinds_27 rfl ?_
        refine z_iS2 (c_X2_takes g l) mw_X2_takes lm_X9_31 ms_X2_takes (by decide) (Nat.le_of_ble_eq_true rfl) zle dX9_likeKinds_28 (fun r28 M28 q28 => ?_)
        obtain ⟨qr28, qm28⟩ := q28
        obtain rfl := qr28.symm
        obtain rfl := qm28.symm
        refine z_icmp_ne (tgt := 51) dX9_likeKinds_31 (by decide) (fun b31 => ?_) (fun b31 => ?_)
        · refine z_iincN (k := h) dX9_likeKinds_51 rfl rfl (by decide) rfl rfl ?_
          refine z_goto (tgt := 5) dX9_likeKinds_54 (by decide) ?_
          refine zA.sub (ih (h + 1) (by omega) (by omega)) rfl ⟨Or.inr rfl, Or.inr rfl, Or.inr rfl, Or.inr (congrArg (fun z => some (Value.int z)) ?_), Or.inr rfl, trivial⟩
          first
            | exact (if_pos ⟨b17, b31, b45⟩).symm
            | exact (if_neg (fun z => b45 z.2.2)).symm
            | exact (if_neg (fun z => b31 z.2.1)).symm
            | exact (if_neg (fun z => z.1 b17)).symm
        · refine z_iload dX9_likeKinds_34 rfl ?_
          refine z_iload_n dX9_likeKinds_36 rfl ?_
          refine z_iS2 (c_X2_tires g l) mw_X2_tires lm_X9_35 ms_X2_tires (by decide) (Nat.le_of_ble_eq_true rfl) zle dX9_likeKinds_37 (fun r37 M37 q37 => ?_)
          obtain ⟨qr37, qm37⟩ := q37
          obtain rfl := qr37.symm
          obtain rfl := qm37.symm
          refine z_iload_n dX9_likeKinds_40 rfl ?_
          refine z_iload_n dX9_likeKinds_41 rfl ?_
          refine z_iS2 (c_X2_tires g l) mw_X2_tires lm_X9_35 ms_X2_tires (by decide) (Nat.le_of_ble_eq_true rfl) zle dX9_likeKinds_42 (fun r42 M42 q42 => ?_)
          obtain ⟨qr42, qm42⟩ := q42
          obtain rfl := qr42.symm
          obtain rfl := qm42.symm
          refine z_icmp_ne (tgt := 51) dX9_likeKinds_45 (by decide) (fun b45 => ?_) (fun b45 => ?_)
          · refine z_iincN (k := h) dX9_likeKinds_51 rfl rfl (by decide) rfl rfl ?_
            refine z_goto (tgt := 5) dX9_likeKinds_54 (by decide) ?_
            refine zA.sub (ih (h + 1) (by omega) (by omega)) rfl ⟨Or.inr rfl, Or.inr rfl, Or.inr rfl, Or.inr (congrArg (fun z => some (Value.int z)) ?_), Or.inr rfl, trivial⟩
            first
              | exact (if_pos ⟨b17, b31, b45⟩).symm
              | exact (if_neg (fun z => b45 z.2.2)).symm
              | exact (if_neg (fun z => b31 z.2.1)).symm
              | exact (if_neg (fun z => z.1 b17)).symm
          · refine z_iinc dX9_likeKinds_48 rfl rfl (by decide) rfl rfl ?_
            refine z_iincN (k := h) dX9_likeKinds_51 rfl rfl (by decide) rfl rfl ?_
            refine z_goto (tgt := 5) dX9_likeKinds_54 (by decide) ?_
            refine zA.sub (ih (h + 1) (by omega) (by omega)) rfl ⟨Or.inr rfl, Or.inr rfl, Or.inr rfl, Or.inr (congrArg (fun z => some (Value.int z)) ?_), Or.inr rfl, trivial⟩
            first
              | exact (if_pos ⟨b17, b31, b45⟩).symm
              | exact (if_neg (fun z => b45 z.2.2)).symm
              | exact (if_neg (fun z => b31 z.2.1)).symm
              | exact (if_neg (fun z => z.1 b17)).symm

set_option maxRecDepth 100000 in
set_option maxHeartbeats 4000000 in
theorem c_X9_likeKinds (g : zG) (l : Launch) {M : zM} {s m k0 : Int32} : zMet g l yX9_likeKinds cX9_likeKinds 5 (some .int) 1 0 0 [.int s, .int m, .int k0] S0 M (zQi (fun r' M' => r' = fLike s m k0 5 ∧ M' = M)) := by
  refine zMet.of (by decide) (Nat.le_of_ble_eq_true rfl) ?_
  refine z_iconst (v := 0) dX9_likeKinds_0 (by decide) ?_
  refine z_istore_n dX9_likeKinds_1 (by decide) rfl rfl ?_
  refine z_iconst (v := 0) dX9_likeKinds_2 (by decide) ?_
  refine z_istore dX9_likeKinds_3 (by decide) rfl rfl ?_
  exact lp_likeKinds g l 6 0 (Nat.zero_le _) (by omega)

set_option maxRecDepth 100000 in
set_option maxHeartbeats 4000000 in
theorem lp_greatestPart9 (g : zG) (l : Launch) {M : zM} {s m : Int32} : ∀ (k h : Nat), h ≤ 5 → 5 - h < k → zA g l yX9_greatestPart cX9_greatestPart 4 (some .int) 2 0 0 (zQi (fun r' M' => r' = fPart s m 5 ∧ M' = M)) 4 0 0 S0 M [.int s, .int m, .int (fPart s m h), .int (nI h)] [] := by
  intro k
  induction k with
  | zero => intro h hh hk; exact absurd hk (Nat.not_lt_zero _)
  | succ k ih =>
    intro h hh hk 
    refine z_iload_n dX9_greatestPart_4 rfl ?_
    refine z_iconst (v := 5) dX9_greatestPart_5 (by decide) ?_
    refine z_icmp_ge (tgt := 34) dX9_greatestPart_6 (by decide) (fun b6 => ?_) (fun b6 => ?_)
    · have e : 5 ≤ h := (nI_leI (by omega) (by omega)).mp b6
      have e2 : h = 5 := by omega
      subst e2
      refine z_iload_n dX9_greatestPart_34 rfl ?_
      exact z_iret dX9_greatestPart_35 rfl zle (⟨rfl, rfl⟩)
    · have hn : h < 5 := by
        rcases Nat.lt_or_ge h 5 with z | z
        · exact z
        · exact absurd (nI_le z (by omega)) b6
      refine z_iload_n dX9_greatestPart_9 rfl ?_
      refine z_iload_n dX9_greatestPart_10 rfl ?_
      refine z_ishr dX9_greatestPart_11 ?_
      refine z_iconst (v := 1) dX9_greatestPart_12 (by decide) ?_
      refine z_iand dX9_greatestPart_13 ?_
      refine z_if_eq (tgt := 28) dX9_greatestPart_14 (by decide) (fun b14 => ?_) (fun b14 => ?_)
      · refine z_iincN (k := h) dX9_greatestPart_28 rfl rfl (by decide) rfl rfl ?_
        refine z_goto (tgt := 4) dX9_greatestPart_31 (by decide) ?_
        refine zA.sub (ih (h + 1) (by omega) (by omega)) rfl ⟨Or.inr rfl, Or.inr rfl, Or.inr (congrArg (fun z => some (Value.int z)) ?_), Or.inr rfl, trivial⟩
        first
          | exact (if_pos b14).symm
          | exact (if_neg b14).symm
      · refine z_iload_n dX9_greatestPart_17 rfl ?_
        refine z_iload_n dX9_greatestPart_18 rfl ?_
        refine z_iload_n dX9_greatestPart_19 rfl ?_
        refine z_iload_n dX9_greatestPart_20 rfl ?_
        refine z_iS3 (c_X9_likeKinds g l) mw_X9_likeKinds lm_X9_51 ms_X9_likeKinds (by decide) (Nat.le_of_ble_eq_true rfl) zle dX9_greatestPart_21 (fun r21 M21 q21 => ?_)
        obtain ⟨qr21, qm21⟩ := q21
        obtain rfl := qr21.symm
        obtain rfl := qm21.symm
        refine z_max lm_X9_55 w_maxs w_mi w_maxc (by decide) (Nat.le_of_ble_eq_true rfl) (Nat.le_refl _) (Nat.le_refl _) dX9_greatestPart_24 ?_
        refine z_istore_n dX9_greatestPart_27 (by decide) rfl rfl ?_
        refine z_iincN (k := h) dX9_greatestPart_28 rfl rfl (by decide) rfl rfl ?_
        refine z_goto (tgt := 4) dX9_greatestPart_31 (by decide) ?_
        refine zA.sub (ih (h + 1) (by omega) (by omega)) rfl ⟨Or.inr rfl, Or.inr rfl, Or.inr (congrArg (fun z => some (Value.int z)) ?_), Or.inr rfl, trivial⟩
        first
          | exact (if_pos b14).symm
          | exact (if_neg b14).symm

set_option maxRecDepth 100000 in
set_option maxHeartbeats 4000000 in
theorem c_X9_greatestPart (g : zG) (l : Launch) {M : zM} {s m : Int32} : zMet g l yX9_greatestPart cX9_greatestPart 4 (some .int) 2 0 0 [.int s, .int m] S0 M (zQi (fun r' M' => r' = fPart s m 5 ∧ M' = M)) := by
  refine zMet.of (by decide) (Nat.le_of_ble_eq_true rfl) ?_
  refine z_iconst (v := 0) dX9_greatestPart_0 (by decide) ?_
  refine z_istore_n dX9_greatestPart_1 (by decide) rfl rfl ?_
  refine z_iconst (v := 0) dX9_greatestPart_2 (by decide) ?_
  refine z_istore_n dX9_greatestPart_3 (by decide) rfl rfl ?_
  exact lp_greatestPart9 g l 6 0 (Nat.zero_le _) (by omega)

set_option maxRecDepth 100000 in
set_option maxHeartbeats 4000000 in
theorem lp_bestMiles (g : zG) (l : Launch) {M : zM} {u : Nat} (hu : u ≤ 6) (h1 : M 109 3 = nI u) : ∀ (k h : Nat), h ≤ 9 → 9 - h < k → zA g l yX9_bestMiles cX9_bestMiles 6 (some .int) 3 0 0 (zQi (fun r' M' => r' = (fAsk (fKinds M u 5) 9).1 ∧ M' = M)) 15 0 0 S0 M [.ref 109, .int (fKinds M u 5), .int (fAsk (fKinds M u 5) h).1, .int (fAsk (fKinds M u 5) h).2, .int (nI (h + 1)), .null] [] := by
  intro k
  induction k with
  | zero => intro h hh hk; exact absurd hk (Nat.not_lt_zero _)
  | succ k ih =>
    intro h hh hk 
    refine z_iload dX9_bestMiles_15 rfl ?_
    refine z_bipush (v := 9) dX9_bestMiles_17 (by decide) ?_
    refine z_icmp_gt (tgt := 48) dX9_bestMiles_19 (by decide) (fun b19 => ?_) (fun b19 => ?_)
    · have e : 9 < h + 1 := (nI_ltI (a := 9) (by omega) (by omega)).mp b19
      have e2 : h = 9 := by omega
      subst e2
      refine z_iload_n dX9_bestMiles_48 rfl ?_
      exact z_iret dX9_bestMiles_49 rfl zle (⟨rfl, rfl⟩)
    · have hn : h < 9 := by
        rcases Nat.lt_or_ge h 9 with z | z
        · exact z
        · exact absurd ((nI_ltI (a := 9) (by omega) (by omega)).mpr (by omega)) b19
      refine z_iload_n dX9_bestMiles_22 rfl ?_
      refine z_iload dX9_bestMiles_23 rfl ?_
      refine z_iS2 (c_X9_greatestPart g l) mw_X9_greatestPart lm_X9_48 ms_X9_greatestPart (by decide) (Nat.le_of_ble_eq_true rfl) zle dX9_bestMiles_25 (fun r25 M25 q25 => ?_)
      obtain ⟨qr25, qm25⟩ := q25
      obtain rfl := qr25.symm
      obtain rfl := qm25.symm
      refine z_istore dX9_bestMiles_28 (by decide) rfl rfl ?_
      refine z_iload dX9_bestMiles_30 rfl ?_
      refine z_iload_n dX9_bestMiles_32 rfl ?_
      refine z_icmp_ge (tgt := 42) dX9_bestMiles_33 (by decide) (fun b33 => ?_) (fun b33 => ?_)
      · refine z_iincN (k := (h + 1)) dX9_bestMiles_42 rfl rfl (by decide) rfl rfl ?_
        refine z_goto (tgt := 15) dX9_bestMiles_45 (by decide) ?_
        first
          | (have e9 : fAsk (fKinds M u 5) (h + 1) = (nI (h + 1), fPart (fKinds M u 5) (nI (h + 1)) 5) := if_pos (Int32.not_le.mp b33)
             have h0 := ih (h + 1) (by omega) (by omega)
             rw [e9] at h0
             exact zA.sub h0 rfl ⟨Or.inr rfl, Or.inr rfl, Or.inr rfl, Or.inr rfl, Or.inr rfl, Or.inl rfl, trivial⟩)
          | (have e9 : fAsk (fKinds M u 5) (h + 1) = fAsk (fKinds M u 5) h := if_neg (Int32.not_lt.mpr b33)
             have h0 := ih (h + 1) (by omega) (by omega)
             rw [e9] at h0
             exact zA.sub h0 rfl ⟨Or.inr rfl, Or.inr rfl, Or.inr rfl, Or.inr rfl, Or.inr rfl, Or.inl rfl, trivial⟩)
      · refine z_iload dX9_bestMiles_36 rfl ?_
        refine z_istore_n dX9_bestMiles_38 (by decide) rfl rfl ?_
        refine z_iload dX9_bestMiles_39 rfl ?_
        refine z_istore_n dX9_bestMiles_41 (by decide) rfl rfl ?_
        refine z_iincN (k := (h + 1)) dX9_bestMiles_42 rfl rfl (by decide) rfl rfl ?_
        refine z_goto (tgt := 15) dX9_bestMiles_45 (by decide) ?_
        first
          | (have e9 : fAsk (fKinds M u 5) (h + 1) = (nI (h + 1), fPart (fKinds M u 5) (nI (h + 1)) 5) := if_pos (Int32.not_le.mp b33)
             have h0 := ih (h + 1) (by omega) (by omega)
             rw [e9] at h0
             exact zA.sub h0 rfl ⟨Or.inr rfl, Or.inr rfl, Or.inr rfl, Or.inr rfl, Or.inr rfl, Or.inl rfl, trivial⟩)
          | (have e9 : fAsk (fKinds M u 5) (h + 1) = fAsk (fKinds M u 5) h := if_neg (Int32.not_lt.mpr b33)
             have h0 := ih (h + 1) (by omega) (by omega)
             rw [e9] at h0
             exact zA.sub h0 rfl ⟨Or.inr rfl, Or.inr rfl, Or.inr rfl, Or.inr rfl, Or.inr rfl, Or.inl rfl, trivial⟩)

set_option maxRecDepth 100000 in
set_option maxHeartbeats 4000000 in
theorem c_X9_bestMiles (g : zG) (l : Launch) {M : zM} {u : Nat} (hu : u ≤ 6) (h1 : M 109 3 = nI u) : zMet g l yX9_bestMiles cX9_bestMiles 6 (some .int) 3 0 0 [.ref 109] S0 M (zQi (fun r' M' => r' = (fAsk (fKinds M u 5) 9).1 ∧ M' = M)) := by
  refine zMet.of (by decide) (Nat.le_of_ble_eq_true rfl) ?_
  refine z_aload_n dX9_bestMiles_0 rfl ?_
  refine z_iV0 (c_X9_fittingKinds g l hu h1) mw_X9_fittingKinds lm_X9_38 mi_X9_fittingKinds mv_X9_fittingKinds kX9 (by decide) (Nat.le_of_ble_eq_true rfl) zle k0_109 s0_109 dX9_bestMiles_1 (fun r1 M1 q1 => ?_)
  obtain ⟨qr1, qm1⟩ := q1
  obtain rfl := qr1.symm
  obtain rfl := qm1.symm
  refine z_istore_n dX9_bestMiles_4 (by decide) rfl rfl ?_
  refine z_iconst (v := (-1)) dX9_bestMiles_5 (by decide) ?_
  refine z_istore_n dX9_bestMiles_6 (by decide) rfl rfl ?_
  refine z_iload_n dX9_bestMiles_7 rfl ?_
  refine z_iS1 (c_J6_bitCount_0f7a4 g l) mw_J6_bitCount_0f7a4 lm_X9_42 ms_J6_bitCount_0f7a4 (by decide) (Nat.le_of_ble_eq_true rfl) zle dX9_bestMiles_8 (fun r8 M8 q8 => ?_)
  obtain ⟨qr8, qm8⟩ := q8
  obtain rfl := qr8.symm
  obtain rfl := qm8.symm
  refine z_istore_n dX9_bestMiles_11 (by decide) rfl rfl ?_
  refine z_iconst (v := 1) dX9_bestMiles_12 (by decide) ?_
  refine z_istore dX9_bestMiles_13 (by decide) rfl rfl ?_
  exact lp_bestMiles g l hu h1 10 0 (Nat.zero_le _) (by omega)

