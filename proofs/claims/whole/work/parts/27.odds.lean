/-! ===== the class: Odds ===== -/
def fAb (q : Int32) (a c : Nat) : Nat → Int64
  | 0 => 0
  | t + 1 => fAb q a c t + fWays (nI a) (c + t) * fPow q (c + t) * fPow (10 - q) (a - (c + t))
def fRed1 (d : Int64) (p : Int64 × Int64) : Int64 × Int64 := if lg_cmp (p.1 - p.1 / d * d) 0 = 0 ∧ lg_cmp (p.2 - p.2 / d * d) 0 = 0 then (p.1 / d, p.2 / d) else p
def fRed (p : Int64 × Int64) : Nat → Int64 × Int64
  | 0 => p
  | k + 1 => fRed1 5 (fRed1 2 (fRed p k))
def fOdds (a : Nat) (q : Int32) (c : Nat) (part : Int32) : Int32 :=
  if part = 0 then (fRed (fAb q a c (a + 1 - c), fPow 10 a) a).1.toInt32 else (fRed (fAb q a c (a + 1 - c), fPow 10 a) a).2.toInt32

theorem fWays_ne : ∀ {h : Nat}, h < 20 → ¬ (nI h + 1).toInt64 = 0 := fun {h} hh => (by decide +kernel : ∀ h, h < 20 → ¬ (nI h + 1).toInt64 = 0) h hh

set_option maxRecDepth 100000 in
set_option maxHeartbeats 4000000 in
theorem lp_power (g : zG) (l : Launch) {M : zM} {b : Int32} {w : Nat} (he : w < 100) : ∀ (k h : Nat), h ≤ w → w - h < k → zA g l yX3_power cX3_power 5 (some .long) 0 0 0 (zQl (fun r' M' => r' = fPow b w ∧ M' = M)) 5 0 0 S0 M [.int b, .int (nI w), .long (fPow b h), .null, .int (nI h)] [] := by
  intro k
  induction k with
  | zero => intro h hh hk; exact absurd hk (Nat.not_lt_zero _)
  | succ k ih =>
    intro h hh hk 
    refine z_iload dX3_power_5 rfl ?_
    refine z_iload_n dX3_power_7 rfl ?_
    refine z_icmp_ge (tgt := 22) dX3_power_8 (by decide) (fun b8 => ?_) (fun b8 => ?_)
    · have e : w ≤ h := (nI_leI (by omega) (by omega)).mp b8
      have e2 : h = w := by omega
      subst e2
      refine z_lload_n dX3_power_22 rfl ?_
      exact z_lret dX3_power_23 zle (⟨rfl, rfl⟩)
    · have hn : h < w := by
        rcases Nat.lt_or_ge h w with z | z
        · exact z
        · exact absurd (nI_le z (by omega)) b8
      refine z_lload_n dX3_power_11 rfl ?_
      refine z_iload_n dX3_power_12 rfl ?_
      refine z_i2l dX3_power_13 ?_
      refine z_lmul dX3_power_14 ?_
      refine z_lstore_n dX3_power_15 (by decide) rfl rfl ?_
      refine z_iincN (k := h) dX3_power_16 rfl rfl (by decide) rfl rfl ?_
      refine z_goto (tgt := 5) dX3_power_19 (by decide) ?_
      exact ih (h + 1) (by omega) (by omega)

set_option maxRecDepth 100000 in
set_option maxHeartbeats 4000000 in
theorem c_X3_power (g : zG) (l : Launch) {M : zM} {b : Int32} {w : Nat} (he : w < 100) : zMet g l yX3_power cX3_power 5 (some .long) 0 0 0 [.int b, .int (nI w)] S0 M (zQl (fun r' M' => r' = fPow b w ∧ M' = M)) := by
  refine zMet.of (by decide) (Nat.le_of_ble_eq_true rfl) ?_
  refine z_lconst (v := 1) dX3_power_0 (by decide) ?_
  refine z_lstore_n dX3_power_1 (by decide) rfl rfl ?_
  refine z_iconst (v := 0) dX3_power_2 (by decide) ?_
  refine z_istore dX3_power_3 (by decide) rfl rfl ?_
  exact lp_power g l he (w + 1) 0 (Nat.zero_le _) (by omega)

set_option maxRecDepth 100000 in
set_option maxHeartbeats 4000000 in
theorem lp_ways (g : zG) (l : Launch) {M : zM} {b : Int32} {w : Nat} (he : w < 11) : ∀ (k h : Nat), h ≤ w → w - h < k → zA g l yX3_ways cX3_ways 5 (some .long) 0 0 0 (zQl (fun r' M' => r' = fWays b w ∧ M' = M)) 5 0 0 S0 M [.int b, .int (nI w), .long (fWays b h), .null, .int (nI h)] [] := by
  intro k
  induction k with
  | zero => intro h hh hk; exact absurd hk (Nat.not_lt_zero _)
  | succ k ih =>
    intro h hh hk 
    refine z_iload dX3_ways_5 rfl ?_
    refine z_iload_n dX3_ways_7 rfl ?_
    refine z_icmp_ge (tgt := 31) dX3_ways_8 (by decide) (fun b8 => ?_) (fun b8 => ?_)
    · have e : w ≤ h := (nI_leI (by omega) (by omega)).mp b8
      have e2 : h = w := by omega
      subst e2
      refine z_lload_n dX3_ways_31 rfl ?_
      exact z_lret dX3_ways_32 zle (⟨rfl, rfl⟩)
    · have hn : h < w := by
        rcases Nat.lt_or_ge h w with z | z
        · exact z
        · exact absurd (nI_le z (by omega)) b8
      refine z_lload_n dX3_ways_11 rfl ?_
      refine z_iload_n dX3_ways_12 rfl ?_
      refine z_iload dX3_ways_13 rfl ?_
      refine z_isub dX3_ways_15 ?_
      refine z_i2l dX3_ways_16 ?_
      refine z_lmul dX3_ways_17 ?_
      refine z_iload dX3_ways_18 rfl ?_
      refine z_iconst (v := 1) dX3_ways_20 (by decide) ?_
      refine z_iadd dX3_ways_21 ?_
      refine z_i2l dX3_ways_22 ?_
      refine z_ldiv dX3_ways_23 (fWays_ne (by omega)) ?_
      refine z_lstore_n dX3_ways_24 (by decide) rfl rfl ?_
      refine z_iincN (k := h) dX3_ways_25 rfl rfl (by decide) rfl rfl ?_
      refine z_goto (tgt := 5) dX3_ways_28 (by decide) ?_
      exact ih (h + 1) (by omega) (by omega)

set_option maxRecDepth 100000 in
set_option maxHeartbeats 4000000 in
theorem c_X3_ways (g : zG) (l : Launch) {M : zM} {b : Int32} {w : Nat} (he : w < 11) : zMet g l yX3_ways cX3_ways 5 (some .long) 0 0 0 [.int b, .int (nI w)] S0 M (zQl (fun r' M' => r' = fWays b w ∧ M' = M)) := by
  refine zMet.of (by decide) (Nat.le_of_ble_eq_true rfl) ?_
  refine z_lconst (v := 1) dX3_ways_0 (by decide) ?_
  refine z_lstore_n dX3_ways_1 (by decide) rfl rfl ?_
  refine z_iconst (v := 0) dX3_ways_2 (by decide) ?_
  refine z_istore dX3_ways_3 (by decide) rfl rfl ?_
  exact lp_ways g l he (w + 1) 0 (Nat.zero_le _) (by omega)

set_option maxRecDepth 100000 in
set_option maxHeartbeats 4000000 in
theorem lp_red (g : zG) (l : Launch) {M : zM} {q part : Int32} {a c : Nat} (ha : a < 10) (hc : c < 10) : ∀ (k h : Nat), h ≤ a → a - h < k → zA g l yX3_ofFalls cX3_ofFalls 9 (some .int) 1 0 0 (zQi (fun r' M' => r' = fOdds a q c part ∧ M' = M)) 59 0 0 S0 M [.int (nI a), .int q, .int (nI c), .int part, .long (fRed (fAb q a c (a + 1 - c), fPow 10 a) h).1, .null, .long (fRed (fAb q a c (a + 1 - c), fPow 10 a) h).2, .null, .int (nI h)] [] := by
  intro k
  induction k with
  | zero => intro h hh hk; exact absurd hk (Nat.not_lt_zero _)
  | succ k ih =>
    intro h hh hk 
    refine z_iload dX3_ofFalls_59 rfl ?_
    refine z_iload_n dX3_ofFalls_61 rfl ?_
    refine z_icmp_ge (tgt := 147) dX3_ofFalls_62 (by decide) (fun b62 => ?_) (fun b62 => ?_)
    · have e : a ≤ h := (nI_leI (by omega) (by omega)).mp b62
      have e2 : h = a := by omega
      subst e2
      refine z_iload_n dX3_ofFalls_147 rfl ?_
      refine z_if_ne (tgt := 156) dX3_ofFalls_148 (by decide) (fun b148 => ?_) (fun b148 => ?_)
      · refine z_lload dX3_ofFalls_156 rfl ?_
        refine z_l2i dX3_ofFalls_158 ?_
        refine z_iret dX3_ofFalls_159 rfl zle ?_
        refine ⟨?_, rfl⟩
        unfold fOdds
        first
          | exact (if_pos b148).symm
          | exact (if_neg b148).symm
      · refine z_lload dX3_ofFalls_151 rfl ?_
        refine z_goto (tgt := 158) dX3_ofFalls_153 (by decide) ?_
        refine z_l2i dX3_ofFalls_158 ?_
        refine z_iret dX3_ofFalls_159 rfl zle ?_
        refine ⟨?_, rfl⟩
        unfold fOdds
        first
          | exact (if_pos b148).symm
          | exact (if_neg b148).symm
    · have hn : h < a := by
        rcases Nat.lt_or_ge h a with z | z
        · exact z
        · exact absurd (nI_le z (by omega)) b62
      refine z_lload dX3_ofFalls_65 rfl ?_
      refine z_ldc2 lc_X3_16 dX3_ofFalls_67 ?_
      refine z_lrem dX3_ofFalls_70 (by decide) ?_
      refine z_lconst (v := 0) dX3_ofFalls_71 (by decide) ?_
      refine z_lcmp dX3_ofFalls_72 ?_
      refine z_if_ne (tgt := 103) dX3_ofFalls_73 (by decide) (fun b73 => ?_) (fun b73 => ?_)
      · refine z_lload dX3_ofFalls_103 rfl ?_
        refine z_ldc2 lc_X3_18 dX3_ofFalls_105 ?_
        refine z_lrem dX3_ofFalls_108 (by decide) ?_
        refine z_lconst (v := 0) dX3_ofFalls_109 (by decide) ?_
        refine z_lcmp dX3_ofFalls_110 ?_
        refine z_if_ne (tgt := 141) dX3_ofFalls_111 (by decide) (fun b111 => ?_) (fun b111 => ?_)
        · refine z_iincN (k := h) dX3_ofFalls_141 rfl rfl (by decide) rfl rfl ?_
          refine z_goto (tgt := 59) dX3_ofFalls_144 (by decide) ?_
          have h0 := ih (h + 1) (by omega) (by omega)
          have e9 : fRed (fAb q a c (a + 1 - c), fPow 10 a) (h + 1) = fRed1 5 (fRed1 2 (fRed (fAb q a c (a + 1 - c), fPow 10 a) h)) := rfl
          rw [e9] at h0
          first
            | (have e2 : fRed1 2 (fRed (fAb q a c (a + 1 - c), fPow 10 a) h) = ((fRed (fAb q a c (a + 1 - c), fPow 10 a) h).1 / 2, (fRed (fAb q a c (a + 1 - c), fPow 10 a) h).2 / 2) := if_pos ⟨b73, b84⟩
               rw [e2] at h0
               first
               | (rw [show fRed1 5 ((fRed (fAb q a c (a + 1 - c), fPow 10 a) h).1 / 2, (fRed (fAb q a c (a + 1 - c), fPow 10 a) h).2 / 2) = ((fRed (fAb q a c (a + 1 - c), fPow 10 a) h).1 / 2 / 5, (fRed (fAb q a c (a + 1 - c), fPow 10 a) h).2 / 2 / 5) from if_pos ⟨b111, b122⟩] at h0; exact h0)
               | (rw [show fRed1 5 ((fRed (fAb q a c (a + 1 - c), fPow 10 a) h).1 / 2, (fRed (fAb q a c (a + 1 - c), fPow 10 a) h).2 / 2) = ((fRed (fAb q a c (a + 1 - c), fPow 10 a) h).1 / 2, (fRed (fAb q a c (a + 1 - c), fPow 10 a) h).2 / 2) from if_neg (fun z => b122 z.2)] at h0; exact h0)
               | (rw [show fRed1 5 ((fRed (fAb q a c (a + 1 - c), fPow 10 a) h).1 / 2, (fRed (fAb q a c (a + 1 - c), fPow 10 a) h).2 / 2) = ((fRed (fAb q a c (a + 1 - c), fPow 10 a) h).1 / 2, (fRed (fAb q a c (a + 1 - c), fPow 10 a) h).2 / 2) from if_neg (fun z => b111 z.1)] at h0; exact h0))
            | (have e2 : fRed1 2 (fRed (fAb q a c (a + 1 - c), fPow 10 a) h) = (fRed (fAb q a c (a + 1 - c), fPow 10 a) h) := if_neg (fun z => b84 z.2)
               rw [e2] at h0
               first
               | (rw [show fRed1 5 (fRed (fAb q a c (a + 1 - c), fPow 10 a) h) = ((fRed (fAb q a c (a + 1 - c), fPow 10 a) h).1 / 5, (fRed (fAb q a c (a + 1 - c), fPow 10 a) h).2 / 5) from if_pos ⟨b111, b122⟩] at h0; exact h0)
               | (rw [show fRed1 5 (fRed (fAb q a c (a + 1 - c), fPow 10 a) h) = (fRed (fAb q a c (a + 1 - c), fPow 10 a) h) from if_neg (fun z => b122 z.2)] at h0; exact h0)
               | (rw [show fRed1 5 (fRed (fAb q a c (a + 1 - c), fPow 10 a) h) = (fRed (fAb q a c (a + 1 - c), fPow 10 a) h) from if_neg (fun z => b111 z.1)] at h0; exact h0))
            | (have e2 : fRed1 2 (fRed (fAb q a c (a + 1 - c), fPow 10 a) h) = (fRed (fAb q a c (a + 1 - c), fPow 10 a) h) := if_neg (fun z => b73 z.1)
               rw [e2] at h0
               first
               | (rw [show fRed1 5 (fRed (fAb q a c (a + 1 - c), fPow 10 a) h) = ((fRed (fAb q a c (a + 1 - c), fPow 10 a) h).1 / 5, (fRed (fAb q a c (a + 1 - c), fPow 10 a) h).2 / 5) from if_pos ⟨b111, b122⟩] at h0; exact h0)
               | (rw [show fRed1 5 (fRed (fAb q a c (a + 1 - c), fPow 10 a) h) = (fRed (fAb q a c (a + 1 - c), fPow 10 a) h) from if_neg (fun z => b122 z.2)] at h0; exact h0)
               | (rw [show fRed1 5 (fRed (fAb q a c (a + 1 - c), fPow 10 a) h) = (fRed (fAb q a c (a + 1 - c), fPow 10 a) h) from if_neg (fun z => b111 z.1)] at h0; exact h0))
        · refine z_lload dX3_ofFalls_114 rfl ?_
          refine z_ldc2 lc_X3_18 dX3_ofFalls_116 ?_
          refine z_lrem dX3_ofFalls_119 (by decide) ?_
          refine z_lconst (v := 0) dX3_ofFalls_120 (by decide) ?_
          refine z_lcmp dX3_ofFalls_121 ?_
          refine z_if_ne (tgt := 141) dX3_ofFalls_122 (by decide) (fun b122 => ?_) (fun b122 => ?_)
          · refine z_iincN (k := h) dX3_ofFalls_141 rfl rfl (by decide) rfl rfl ?_
            refine z_goto (tgt := 59) dX3_ofFalls_144 (by decide) ?_
            have h0 := ih (h + 1) (by omega) (by omega)
            have e9 : fRed (fAb q a c (a + 1 - c), fPow 10 a) (h + 1) = fRed1 5 (fRed1 2 (fRed (fAb q a c (a + 1 - c), fPow 10 a) h)) := rfl
            rw [e9] at h0
            first
              | (have e2 : fRed1 2 (fRed (fAb q a c (a + 1 - c), fPow 10 a) h) = ((fRed (fAb q a c (a + 1 - c), fPow 10 a) h).1 / 2, (fRed (fAb q a c (a + 1 - c), fPow 10 a) h).2 / 2) := if_pos ⟨b73, b84⟩
                 rw [e2] at h0
                 first
                 | (rw [show fRed1 5 ((fRed (fAb q a c (a + 1 - c), fPow 10 a) h).1 / 2, (fRed (fAb q a c (a + 1 - c), fPow 10 a) h).2 / 2) = ((fRed (fAb q a c (a + 1 - c), fPow 10 a) h).1 / 2 / 5, (fRed (fAb q a c (a + 1 - c), fPow 10 a) h).2 / 2 / 5) from if_pos ⟨b111, b122⟩] at h0; exact h0)
                 | (rw [show fRed1 5 ((fRed (fAb q a c (a + 1 - c), fPow 10 a) h).1 / 2, (fRed (fAb q a c (a + 1 - c), fPow 10 a) h).2 / 2) = ((fRed (fAb q a c (a + 1 - c), fPow 10 a) h).1 / 2, (fRed (fAb q a c (a + 1 - c), fPow 10 a) h).2 / 2) from if_neg (fun z => b122 z.2)] at h0; exact h0)
                 | (rw [show fRed1 5 ((fRed (fAb q a c (a + 1 - c), fPow 10 a) h).1 / 2, (fRed (fAb q a c (a + 1 - c), fPow 10 a) h).2 / 2) = ((fRed (fAb q a c (a + 1 - c), fPow 10 a) h).1 / 2, (fRed (fAb q a c (a + 1 - c), fPow 10 a) h).2 / 2) from if_neg (fun z => b111 z.1)] at h0; exact h0))
              | (have e2 : fRed1 2 (fRed (fAb q a c (a + 1 - c), fPow 10 a) h) = (fRed (fAb q a c (a + 1 - c), fPow 10 a) h) := if_neg (fun z => b84 z.2)
                 rw [e2] at h0
                 first
                 | (rw [show fRed1 5 (fRed (fAb q a c (a + 1 - c), fPow 10 a) h) = ((fRed (fAb q a c (a + 1 - c), fPow 10 a) h).1 / 5, (fRed (fAb q a c (a + 1 - c), fPow 10 a) h).2 / 5) from if_pos ⟨b111, b122⟩] at h0; exact h0)
                 | (rw [show fRed1 5 (fRed (fAb q a c (a + 1 - c), fPow 10 a) h) = (fRed (fAb q a c (a + 1 - c), fPow 10 a) h) from if_neg (fun z => b122 z.2)] at h0; exact h0)
                 | (rw [show fRed1 5 (fRed (fAb q a c (a + 1 - c), fPow 10 a) h) = (fRed (fAb q a c (a + 1 - c), fPow 10 a) h) from if_neg (fun z => b111 z.1)] at h0; exact h0))
              | (have e2 : fRed1 2 (fRed (fAb q a c (a + 1 - c), fPow 10 a) h) = (fRed (fAb q a c (a + 1 - c), fPow 10 a) h) := if_neg (fun z => b73 z.1)
                 rw [e2] at h0
                 first
                 | (rw [show fRed1 5 (fRed (fAb q a c (a + 1 - c), fPow 10 a) h) = ((fRed (fAb q a c (a + 1 - c), fPow 10 a) h).1 / 5, (fRed (fAb q a c (a + 1 - c), fPow 10 a) h).2 / 5) from if_pos ⟨b111, b122⟩] at h0; exact h0)
                 | (rw [show fRed1 5 (fRed (fAb q a c (a + 1 - c), fPow 10 a) h) = (fRed (fAb q a c (a + 1 - c), fPow 10 a) h) from if_neg (fun z => b122 z.2)] at h0; exact h0)
                 | (rw [show fRed1 5 (fRed (fAb q a c (a + 1 - c), fPow 10 a) h) = (fRed (fAb q a c (a + 1 - c), fPow 10 a) h) from if_neg (fun z => b111 z.1)] at h0; exact h0))
          · refine z_lload dX3_ofFalls_125 rfl ?_
            refine z_ldc2 lc_X3_18 dX3_ofFalls_127 ?_
            refine z_ldiv dX3_ofFalls_130 (by decide) ?_
            refine z_lstore dX3_ofFalls_131 (by decide) rfl rfl ?_
            refine z_lload dX3_ofFalls_133 rfl ?_
            refine z_ldc2 lc_X3_18 dX3_ofFalls_135 ?_
            refine z_ldiv dX3_ofFalls_138 (by decide) ?_
            refine z_lstore dX3_ofFalls_139 (by decide) rfl rfl ?_
            refine z_iincN (k := h) dX3_ofFalls_141 rfl rfl (by decide) rfl rfl ?_
            refine z_goto (tgt := 59) dX3_ofFalls_144 (by decide) ?_
            have h0 := ih (h + 1) (by omega) (by omega)
            have e9 : fRed (fAb q a c (a + 1 - c), fPow 10 a) (h + 1) = fRed1 5 (fRed1 2 (fRed (fAb q a c (a + 1 - c), fPow 10 a) h)) := rfl
            rw [e9] at h0
            first
              | (have e2 : fRed1 2 (fRed (fAb q a c (a + 1 - c), fPow 10 a) h) = ((fRed (fAb q a c (a + 1 - c), fPow 10 a) h).1 / 2, (fRed (fAb q a c (a + 1 - c), fPow 10 a) h).2 / 2) := if_pos ⟨b73, b84⟩
                 rw [e2] at h0
                 first
                 | (rw [show fRed1 5 ((fRed (fAb q a c (a + 1 - c), fPow 10 a) h).1 / 2, (fRed (fAb q a c (a + 1 - c), fPow 10 a) h).2 / 2) = ((fRed (fAb q a c (a + 1 - c), fPow 10 a) h).1 / 2 / 5, (fRed (fAb q a c (a + 1 - c), fPow 10 a) h).2 / 2 / 5) from if_pos ⟨b111, b122⟩] at h0; exact h0)
                 | (rw [show fRed1 5 ((fRed (fAb q a c (a + 1 - c), fPow 10 a) h).1 / 2, (fRed (fAb q a c (a + 1 - c), fPow 10 a) h).2 / 2) = ((fRed (fAb q a c (a + 1 - c), fPow 10 a) h).1 / 2, (fRed (fAb q a c (a + 1 - c), fPow 10 a) h).2 / 2) from if_neg (fun z => b122 z.2)] at h0; exact h0)
                 | (rw [show fRed1 5 ((fRed (fAb q a c (a + 1 - c), fPow 10 a) h).1 / 2, (fRed (fAb q a c (a + 1 - c), fPow 10 a) h).2 / 2) = ((fRed (fAb q a c (a + 1 - c), fPow 10 a) h).1 / 2, (fRed (fAb q a c (a + 1 - c), fPow 10 a) h).2 / 2) from if_neg (fun z => b111 z.1)] at h0; exact h0))
              | (have e2 : fRed1 2 (fRed (fAb q a c (a + 1 - c), fPow 10 a) h) = (fRed (fAb q a c (a + 1 - c), fPow 10 a) h) := if_neg (fun z => b84 z.2)
                 rw [e2] at h0
                 first
                 | (rw [show fRed1 5 (fRed (fAb q a c (a + 1 - c), fPow 10 a) h) = ((fRed (fAb q a c (a + 1 - c), fPow 10 a) h).1 / 5, (fRed (fAb q a c (a + 1 - c), fPow 10 a) h).2 / 5) from if_pos ⟨b111, b122⟩] at h0; exact h0)
                 | (rw [show fRed1 5 (fRed (fAb q a c (a + 1 - c), fPow 10 a) h) = (fRed (fAb q a c (a + 1 - c), fPow 10 a) h) from if_neg (fun z => b122 z.2)] at h0; exact h0)
                 | (rw [show fRed1 5 (fRed (fAb q a c (a + 1 - c), fPow 10 a) h) = (fRed (fAb q a c (a + 1 - c), fPow 10 a) h) from if_neg (fun z => b111 z.1)] at h0; exact h0))
              | (have e2 : fRed1 2 (fRed (fAb q a c (a + 1 - c), fPow 10 a) h) = (fRed (fAb q a c (a + 1 - c), fPow 10 a) h) := if_neg (fun z => b73 z.1)
                 rw [e2] at h0
                 first
                 | (rw [show fRed1 5 (fRed (fAb q a c (a + 1 - c), fPow 10 a) h) = ((fRed (fAb q a c (a + 1 - c), fPow 10 a) h).1 / 5, (fRed (fAb q a c (a + 1 - c), fPow 10 a) h).2 / 5) from if_pos ⟨b111, b122⟩] at h0; exact h0)
                 | (rw [show fRed1 5 (fRed (fAb q a c (a + 1 - c), fPow 10 a) h) = (fRed (fAb q a c (a + 1 - c), fPow 10 a) h) from if_neg (fun z => b122 z.2)] at h0; exact h0)
                 | (rw [show fRed1 5 (fRed (fAb q a c (a + 1 - c), fPow 10 a) h) = (fRed (fAb q a c (a + 1 - c), fPow 10 a) h) from if_neg (fun z => b111 z.1)] at h0; exact h0))
      · refine z_lload dX3_ofFalls_76 rfl ?_
        refine z_ldc2 lc_X3_16 dX3_ofFalls_78 ?_
        refine z_lrem dX3_ofFalls_81 (by decide) ?_
        refine z_lconst (v := 0) dX3_ofFalls_82 (by decide) ?_
        refine z_lcmp dX3_ofFalls_83 ?_
        refine z_if_ne (tgt := 103) dX3_ofFalls_84 (by decide) (fun b84 => ?_) (fun b84 => ?_)
        · refine z_lload dX3_ofFalls_103 rfl ?_
          refine z_ldc2 lc_X3_18 dX3_ofFalls_105 ?_
          refine z_lrem dX3_ofFalls_108 (by decide) ?_
          refine z_lconst (v := 0) dX3_ofFalls_109 (by decide) ?_
          refine z_lcmp dX3_ofFalls_110 ?_
          refine z_if_ne (tgt := 141) dX3_ofFalls_111 (by decide) (fun b111 => ?_) (fun b111 => ?_)
          · refine z_iincN (k := h) dX3_ofFalls_141 rfl rfl (by decide) rfl rfl ?_
            refine z_goto (tgt := 59) dX3_ofFalls_144 (by decide) ?_
            have h0 := ih (h + 1) (by omega) (by omega)
            have e9 : fRed (fAb q a c (a + 1 - c), fPow 10 a) (h + 1) = fRed1 5 (fRed1 2 (fRed (fAb q a c (a + 1 - c), fPow 10 a) h)) := rfl
            rw [e9] at h0
            first
              | (have e2 : fRed1 2 (fRed (fAb q a c (a + 1 - c), fPow 10 a) h) = ((fRed (fAb q a c (a + 1 - c), fPow 10 a) h).1 / 2, (fRed (fAb q a c (a + 1 - c), fPow 10 a) h).2 / 2) := if_pos ⟨b73, b84⟩
                 rw [e2] at h0
                 first
                 | (rw [show fRed1 5 ((fRed (fAb q a c (a + 1 - c), fPow 10 a) h).1 / 2, (fRed (fAb q a c (a + 1 - c), fPow 10 a) h).2 / 2) = ((fRed (fAb q a c (a + 1 - c), fPow 10 a) h).1 / 2 / 5, (fRed (fAb q a c (a + 1 - c), fPow 10 a) h).2 / 2 / 5) from if_pos ⟨b111, b122⟩] at h0; exact h0)
                 | (rw [show fRed1 5 ((fRed (fAb q a c (a + 1 - c), fPow 10 a) h).1 / 2, (fRed (fAb q a c (a + 1 - c), fPow 10 a) h).2 / 2) = ((fRed (fAb q a c (a + 1 - c), fPow 10 a) h).1 / 2, (fRed (fAb q a c (a + 1 - c), fPow 10 a) h).2 / 2) from if_neg (fun z => b122 z.2)] at h0; exact h0)
                 | (rw [show fRed1 5 ((fRed (fAb q a c (a + 1 - c), fPow 10 a) h).1 / 2, (fRed (fAb q a c (a + 1 - c), fPow 10 a) h).2 / 2) = ((fRed (fAb q a c (a + 1 - c), fPow 10 a) h).1 / 2, (fRed (fAb q a c (a + 1 - c), fPow 10 a) h).2 / 2) from if_neg (fun z => b111 z.1)] at h0; exact h0))
              | (have e2 : fRed1 2 (fRed (fAb q a c (a + 1 - c), fPow 10 a) h) = (fRed (fAb q a c (a + 1 - c), fPow 10 a) h) := if_neg (fun z => b84 z.2)
                 rw [e2] at h0
                 first
                 | (rw [show fRed1 5 (fRed (fAb q a c (a + 1 - c), fPow 10 a) h) = ((fRed (fAb q a c (a + 1 - c), fPow 10 a) h).1 / 5, (fRed (fAb q a c (a + 1 - c), fPow 10 a) h).2 / 5) from if_pos ⟨b111, b122⟩] at h0; exact h0)
                 | (rw [show fRed1 5 (fRed (fAb q a c (a + 1 - c), fPow 10 a) h) = (fRed (fAb q a c (a + 1 - c), fPow 10 a) h) from if_neg (fun z => b122 z.2)] at h0; exact h0)
                 | (rw [show fRed1 5 (fRed (fAb q a c (a + 1 - c), fPow 10 a) h) = (fRed (fAb q a c (a + 1 - c), fPow 10 a) h) from if_neg (fun z => b111 z.1)] at h0; exact h0))
              | (have e2 : fRed1 2 (fRed (fAb q a c (a + 1 - c), fPow 10 a) h) = (fRed (fAb q a c (a + 1 - c), fPow 10 a) h) := if_neg (fun z => b73 z.1)
                 rw [e2] at h0
                 first
                 | (rw [show fRed1 5 (fRed (fAb q a c (a + 1 - c), fPow 10 a) h) = ((fRed (fAb q a c (a + 1 - c), fPow 10 a) h).1 / 5, (fRed (fAb q a c (a + 1 - c), fPow 10 a) h).2 / 5) from if_pos ⟨b111, b122⟩] at h0; exact h0)
                 | (rw [show fRed1 5 (fRed (fAb q a c (a + 1 - c), fPow 10 a) h) = (fRed (fAb q a c (a + 1 - c), fPow 10 a) h) from if_neg (fun z => b122 z.2)] at h0; exact h0)
                 | (rw [show fRed1 5 (fRed (fAb q a c (a + 1 - c), fPow 10 a) h) = (fRed (fAb q a c (a + 1 - c), fPow 10 a) h) from if_neg (fun z => b111 z.1)] at h0; exact h0))
          · refine z_lload dX3_ofFalls_114 rfl ?_
            refine z_ldc2 lc_X3_18 dX3_ofFalls_116 ?_
            refine z_lrem dX3_ofFalls_119 (by decide) ?_
            refine z_lconst (v := 0) dX3_ofFalls_120 (by decide) ?_
            refine z_lcmp dX3_ofFalls_121 ?_
            refine z_if_ne (tgt := 141) dX3_ofFalls_122 (by decide) (fun b122 => ?_) (fun b122 => ?_)
            · refine z_iincN (k := h) dX3_ofFalls_141 rfl rfl (by decide) rfl rfl ?_
              refine z_goto (tgt := 59) dX3_ofFalls_144 (by decide) ?_
              have h0 := ih (h + 1) (by omega) (by omega)
              have e9 : fRed (fAb q a c (a + 1 - c), fPow 10 a) (h + 1) = fRed1 5 (fRed1 2 (fRed (fAb q a c (a + 1 - c), fPow 10 a) h)) := rfl
              rw [e9] at h0
              first
                | (have e2 : fRed1 2 (fRed (fAb q a c (a + 1 - c), fPow 10 a) h) = ((fRed (fAb q a c (a + 1 - c), fPow 10 a) h).1 / 2, (fRed (fAb q a c (a + 1 - c), fPow 10 a) h).2 / 2) := if_pos ⟨b73, b84⟩
                   rw [e2] at h0
                   first
                   | (rw [show fRed1 5 ((fRed (fAb q a c (a + 1 - c), fPow 10 a) h).1 / 2, (fRed (fAb q a c (a + 1 - c), fPow 10 a) h).2 / 2) = ((fRed (fAb q a c (a + 1 - c), fPow 10 a) h).1 / 2 / 5, (fRed (fAb q a c (a + 1 - c), fPow 10 a) h).2 / 2 / 5) from if_pos ⟨b111, b122⟩] at h0; exact h0)
                   | (rw [show fRed1 5 ((fRed (fAb q a c (a + 1 - c), fPow 10 a) h).1 / 2, (fRed (fAb q a c (a + 1 - c), fPow 10 a) h).2 / 2) = ((fRed (fAb q a c (a + 1 - c), fPow 10 a) h).1 / 2, (fRed (fAb q a c (a + 1 - c), fPow 10 a) h).2 / 2) from if_neg (fun z => b122 z.2)] at h0; exact h0)
                   | (rw [show fRed1 5 ((fRed (fAb q a c (a + 1 - c), fPow 10 a) h).1 / 2, (fRed (fAb q a c (a + 1 - c), fPow 10 a) h).2 / 2) = ((fRed (fAb q a c (a + 1 - c), fPow 10 a) h).1 / 2, (fRed (fAb q a c (a + 1 - c), fPow 10 a) h).2 / 2) from if_neg (fun z => b111 z.1)] at h0; exact h0))
                | (have e2 : fRed1 2 (fRed (fAb q a c (a + 1 - c), fPow 10 a) h) = (fRed (fAb q a c (a + 1 - c), fPow 10 a) h) := if_neg (fun z => b84 z.2)
                   rw [e2] at h0
                   first
                   | (rw [show fRed1 5 (fRed (fAb q a c (a + 1 - c), fPow 10 a) h) = ((fRed (fAb q a c (a + 1 - c), fPow 10 a) h).1 / 5, (fRed (fAb q a c (a + 1 - c), fPow 10 a) h).2 / 5) from if_pos ⟨b111, b122⟩] at h0; exact h0)
                   | (rw [show fRed1 5 (fRed (fAb q a c (a + 1 - c), fPow 10 a) h) = (fRed (fAb q a c (a + 1 - c), fPow 10 a) h) from if_neg (fun z => b122 z.2)] at h0; exact h0)
                   | (rw [show fRed1 5 (fRed (fAb q a c (a + 1 - c), fPow 10 a) h) = (fRed (fAb q a c (a + 1 - c), fPow 10 a) h) from if_neg (fun z => b111 z.1)] at h0; exact h0))
                | (have e2 : fRed1 2 (fRed (fAb q a c (a + 1 - c), fPow 10 a) h) = (fRed (fAb q a c (a + 1 - c), fPow 10 a) h) := if_neg (fun z => b73 z.1)
                   rw [e2] at h0
                   first
                   | (rw [show fRed1 5 (fRed (fAb q a c (a + 1 - c), fPow 10 a) h) = ((fRed (fAb q a c (a + 1 - c), fPow 10 a) h).1 / 5, (fRed (fAb q a c (a + 1 - c), fPow 10 a) h).2 / 5) from if_pos ⟨b111, b122⟩] at h0; exact h0)
                   | (rw [show fRed1 5 (fRed (fAb q a c (a + 1 - c), fPow 10 a) h) = (fRed (fAb q a c (a + 1 - c), fPow 10 a) h) from if_neg (fun z => b122 z.2)] at h0; exact h0)
                   | (rw [show fRed1 5 (fRed (fAb q a c (a + 1 - c), fPow 10 a) h) = (fRed (fAb q a c (a + 1 - c), fPow 10 a) h) from if_neg (fun z => b111 z.1)] at h0; exact h0))
            · refine z_lload dX3_ofFalls_125 rfl ?_
              refine z_ldc2 lc_X3_18 dX3_ofFalls_127 ?_
              refine z_ldiv dX3_ofFalls_130 (by decide) ?_
              refine z_lstore dX3_ofFalls_131 (by decide) rfl rfl ?_
              refine z_lload dX3_ofFalls_133 rfl ?_
              refine z_ldc2 lc_X3_18 dX3_ofFalls_135 ?_
              refine z_ldiv dX3_ofFalls_138 (by decide) ?_
              refine z_lstore dX3_ofFalls_139 (by decide) rfl rfl ?_
              refine z_iincN (k := h) dX3_ofFalls_141 rfl rfl (by decide) rfl rfl ?_
              refine z_goto (tgt := 59) dX3_ofFalls_144 (by decide) ?_
              have h0 := ih (h + 1) (by omega) (by omega)
              have e9 : fRed (fAb q a c (a + 1 - c), fPow 10 a) (h + 1) = fRed1 5 (fRed1 2 (fRed (fAb q a c (a + 1 - c), fPow 10 a) h)) := rfl
              rw [e9] at h0
              first
                | (have e2 : fRed1 2 (fRed (fAb q a c (a + 1 - c), fPow 10 a) h) = ((fRed (fAb q a c (a + 1 - c), fPow 10 a) h).1 / 2, (fRed (fAb q a c (a + 1 - c), fPow 10 a) h).2 / 2) := if_pos ⟨b73, b84⟩
                   rw [e2] at h0
                   first
                   | (rw [show fRed1 5 ((fRed (fAb q a c (a + 1 - c), fPow 10 a) h).1 / 2, (fRed (fAb q a c (a + 1 - c), fPow 10 a) h).2 / 2) = ((fRed (fAb q a c (a + 1 - c), fPow 10 a) h).1 / 2 / 5, (fRed (fAb q a c (a + 1 - c), fPow 10 a) h).2 / 2 / 5) from if_pos ⟨b111, b122⟩] at h0; exact h0)
                   | (rw [show fRed1 5 ((fRed (fAb q a c (a + 1 - c), fPow 10 a) h).1 / 2, (fRed (fAb q a c (a + 1 - c), fPow 10 a) h).2 / 2) = ((fRed (fAb q a c (a + 1 - c), fPow 10 a) h).1 / 2, (fRed (fAb q a c (a + 1 - c), fPow 10 a) h).2 / 2) from if_neg (fun z => b122 z.2)] at h0; exact h0)
                   | (rw [show fRed1 5 ((fRed (fAb q a c (a + 1 - c), fPow 10 a) h).1 / 2, (fRed (fAb q a c (a + 1 - c), fPow 10 a) h).2 / 2) = ((fRed (fAb q a c (a + 1 - c), fPow 10 a) h).1 / 2, (fRed (fAb q a c (a + 1 - c), fPow 10 a) h).2 / 2) from if_neg (fun z => b111 z.1)] at h0; exact h0))
                | (have e2 : fRed1 2 (fRed (fAb q a c (a + 1 - c), fPow 10 a) h) = (fRed (fAb q a c (a + 1 - c), fPow 10 a) h) := if_neg (fun z => b84 z.2)
                   rw [e2] at h0
                   first
                   | (rw [show fRed1 5 (fRed (fAb q a c (a + 1 - c), fPow 10 a) h) = ((fRed (fAb q a c (a + 1 - c), fPow 10 a) h).1 / 5, (fRed (fAb q a c (a + 1 - c), fPow 10 a) h).2 / 5) from if_pos ⟨b111, b122⟩] at h0; exact h0)
                   | (rw [show fRed1 5 (fRed (fAb q a c (a + 1 - c), fPow 10 a) h) = (fRed (fAb q a c (a + 1 - c), fPow 10 a) h) from if_neg (fun z => b122 z.2)] at h0; exact h0)
                   | (rw [show fRed1 5 (fRed (fAb q a c (a + 1 - c), fPow 10 a) h) = (fRed (fAb q a c (a + 1 - c), fPow 10 a) h) from if_neg (fun z => b111 z.1)] at h0; exact h0))
                | (have e2 : fRed1 2 (fRed (fAb q a c (a + 1 - c), fPow 10 a) h) = (fRed (fAb q a c (a + 1 - c), fPow 10 a) h) := if_neg (fun z => b73 z.1)
                   rw [e2] at h0
                   first
                   | (rw [show fRed1 5 (fRed (fAb q a c (a + 1 - c), fPow 10 a) h) = ((fRed (fAb q a c (a + 1 - c), fPow 10 a) h).1 / 5, (fRed (fAb q a c (a + 1 - c), fPow 10 a) h).2 / 5) from if_pos ⟨b111, b122⟩] at h0; exact h0)
                   | (rw [show fRed1 5 (fRed (fAb q a c (a + 1 - c), fPow 10 a) h) = (fRed (fAb q a c (a + 1 - c), fPow 10 a) h) from if_neg (fun z => b122 z.2)] at h0; exact h0)
                   | (rw [show fRed1 5 (fRed (fAb q a c (a + 1 - c), fPow 10 a) h) = (fRed (fAb q a c (a + 1 - c), fPow 10 a) h) from if_neg (fun z => b111 z.1)] at h0; exact h0))
        · refine z_lload dX3_ofFalls_87 rfl ?_
          refine z_ldc2 lc_X3_16 dX3_ofFalls_89 ?_
          refine z_ldiv dX3_ofFalls_92 (by decide) ?_
          refine z_lstore dX3_ofFalls_93 (by decide) rfl rfl ?_
          refine z_lload dX3_ofFalls_95 rfl ?_
          refine z_ldc2 lc_X3_16 dX3_ofFalls_97 ?_
          refine z_ldiv dX3_ofFalls_100 (by decide) ?_
          refine z_lstore dX3_ofFalls_101 (by decide) rfl rfl ?_
          refine z_lload dX3_ofFalls_103 rfl ?_
          refine z_ldc2 lc_X3_18 dX3_ofFalls_105 ?_
          refine z_lrem dX3_ofFalls_108 (by decide) ?_
          refine z_lconst (v := 0) dX3_ofFalls_109 (by decide) ?_
          refine z_lcmp dX3_ofFalls_110 ?_
          refine z_if_ne (tgt := 141) dX3_ofFalls_111 (by decide) (fun b111 => ?_) (fun b111 => ?_)
          · refine z_iincN (k := h) dX3_ofFalls_141 rfl rfl (by decide) rfl rfl ?_
            refine z_goto (tgt := 59) dX3_ofFalls_144 (by decide) ?_
            have h0 := ih (h + 1) (by omega) (by omega)
            have e9 : fRed (fAb q a c (a + 1 - c), fPow 10 a) (h + 1) = fRed1 5 (fRed1 2 (fRed (fAb q a c (a + 1 - c), fPow 10 a) h)) := rfl
            rw [e9] at h0
            first
              | (have e2 : fRed1 2 (fRed (fAb q a c (a + 1 - c), fPow 10 a) h) = ((fRed (fAb q a c (a + 1 - c), fPow 10 a) h).1 / 2, (fRed (fAb q a c (a + 1 - c), fPow 10 a) h).2 / 2) := if_pos ⟨b73, b84⟩
                 rw [e2] at h0
                 first
                 | (rw [show fRed1 5 ((fRed (fAb q a c (a + 1 - c), fPow 10 a) h).1 / 2, (fRed (fAb q a c (a + 1 - c), fPow 10 a) h).2 / 2) = ((fRed (fAb q a c (a + 1 - c), fPow 10 a) h).1 / 2 / 5, (fRed (fAb q a c (a + 1 - c), fPow 10 a) h).2 / 2 / 5) from if_pos ⟨b111, b122⟩] at h0; exact h0)
                 | (rw [show fRed1 5 ((fRed (fAb q a c (a + 1 - c), fPow 10 a) h).1 / 2, (fRed (fAb q a c (a + 1 - c), fPow 10 a) h).2 / 2) = ((fRed (fAb q a c (a + 1 - c), fPow 10 a) h).1 / 2, (fRed (fAb q a c (a + 1 - c), fPow 10 a) h).2 / 2) from if_neg (fun z => b122 z.2)] at h0; exact h0)
                 | (rw [show fRed1 5 ((fRed (fAb q a c (a + 1 - c), fPow 10 a) h).1 / 2, (fRed (fAb q a c (a + 1 - c), fPow 10 a) h).2 / 2) = ((fRed (fAb q a c (a + 1 - c), fPow 10 a) h).1 / 2, (fRed (fAb q a c (a + 1 - c), fPow 10 a) h).2 / 2) from if_neg (fun z => b111 z.1)] at h0; exact h0))
              | (have e2 : fRed1 2 (fRed (fAb q a c (a + 1 - c), fPow 10 a) h) = (fRed (fAb q a c (a + 1 - c), fPow 10 a) h) := if_neg (fun z => b84 z.2)
                 rw [e2] at h0
                 first
                 | (rw [show fRed1 5 (fRed (fAb q a c (a + 1 - c), fPow 10 a) h) = ((fRed (fAb q a c (a + 1 - c), fPow 10 a) h).1 / 5, (fRed (fAb q a c (a + 1 - c), fPow 10 a) h).2 / 5) from if_pos ⟨b111, b122⟩] at h0; exact h0)
                 | (rw [show fRed1 5 (fRed (fAb q a c (a + 1 - c), fPow 10 a) h) = (fRed (fAb q a c (a + 1 - c), fPow 10 a) h) from if_neg (fun z => b122 z.2)] at h0; exact h0)
                 | (rw [show fRed1 5 (fRed (fAb q a c (a + 1 - c), fPow 10 a) h) = (fRed (fAb q a c (a + 1 - c), fPow 10 a) h) from if_neg (fun z => b111 z.1)] at h0; exact h0))
              | (have e2 : fRed1 2 (fRed (fAb q a c (a + 1 - c), fPow 10 a) h) = (fRed (fAb q a c (a + 1 - c), fPow 10 a) h) := if_neg (fun z => b73 z.1)
                 rw [e2] at h0
                 first
                 | (rw [show fRed1 5 (fRed (fAb q a c (a + 1 - c), fPow 10 a) h) = ((fRed (fAb q a c (a + 1 - c), fPow 10 a) h).1 / 5, (fRed (fAb q a c (a + 1 - c), fPow 10 a) h).2 / 5) from if_pos ⟨b111, b122⟩] at h0; exact h0)
                 | (rw [show fRed1 5 (fRed (fAb q a c (a + 1 - c), fPow 10 a) h) = (fRed (fAb q a c (a + 1 - c), fPow 10 a) h) from if_neg (fun z => b122 z.2)] at h0; exact h0)
                 | (rw [show fRed1 5 (fRed (fAb q a c (a + 1 - c), fPow 10 a) h) = (fRed (fAb q a c (a + 1 - c), fPow 10 a) h) from if_neg (fun z => b111 z.1)] at h0; exact h0))
          · refine z_lload dX3_ofFalls_114 rfl ?_
            refine z_ldc2 lc_X3_18 dX3_ofFalls_116 ?_
            refine z_lrem dX3_ofFalls_119 (by decide) ?_
            refine z_lconst (v := 0) dX3_ofFalls_120 (by decide) ?_
            refine z_lcmp dX3_ofFalls_121 ?_
            refine z_if_ne (tgt := 141) dX3_ofFalls_122 (by decide) (fun b122 => ?_) (fun b122 => ?_)
            · refine z_iincN (k := h) dX3_ofFalls_141 rfl rfl (by decide) rfl rfl ?_
              refine z_goto (tgt := 59) dX3_ofFalls_144 (by decide) ?_
              have h0 := ih (h + 1) (by omega) (by omega)
              have e9 : fRed (fAb q a c (a + 1 - c), fPow 10 a) (h + 1) = fRed1 5 (fRed1 2 (fRed (fAb q a c (a + 1 - c), fPow 10 a) h)) := rfl
              rw [e9] at h0
              first
                | (have e2 : fRed1 2 (fRed (fAb q a c (a + 1 - c), fPow 10 a) h) = ((fRed (fAb q a c (a + 1 - c), fPow 10 a) h).1 / 2, (fRed (fAb q a c (a + 1 - c), fPow 10 a) h).2 / 2) := if_pos ⟨b73, b84⟩
                   rw [e2] at h0
                   first
                   | (rw [show fRed1 5 ((fRed (fAb q a c (a + 1 - c), fPow 10 a) h).1 / 2, (fRed (fAb q a c (a + 1 - c), fPow 10 a) h).2 / 2) = ((fRed (fAb q a c (a + 1 - c), fPow 10 a) h).1 / 2 / 5, (fRed (fAb q a c (a + 1 - c), fPow 10 a) h).2 / 2 / 5) from if_pos ⟨b111, b122⟩] at h0; exact h0)
                   | (rw [show fRed1 5 ((fRed (fAb q a c (a + 1 - c), fPow 10 a) h).1 / 2, (fRed (fAb q a c (a + 1 - c), fPow 10 a) h).2 / 2) = ((fRed (fAb q a c (a + 1 - c), fPow 10 a) h).1 / 2, (fRed (fAb q a c (a + 1 - c), fPow 10 a) h).2 / 2) from if_neg (fun z => b122 z.2)] at h0; exact h0)
                   | (rw [show fRed1 5 ((fRed (fAb q a c (a + 1 - c), fPow 10 a) h).1 / 2, (fRed (fAb q a c (a + 1 - c), fPow 10 a) h).2 / 2) = ((fRed (fAb q a c (a + 1 - c), fPow 10 a) h).1 / 2, (fRed (fAb q a c (a + 1 - c), fPow 10 a) h).2 / 2) from if_neg (fun z => b111 z.1)] at h0; exact h0))
                | (have e2 : fRed1 2 (fRed (fAb q a c (a + 1 - c), fPow 10 a) h) = (fRed (fAb q a c (a + 1 - c), fPow 10 a) h) := if_neg (fun z => b84 z.2)
                   rw [e2] at h0
                   first
                   | (rw [show fRed1 5 (fRed (fAb q a c (a + 1 - c), fPow 10 a) h) = ((fRed (fAb q a c (a + 1 - c), fPow 10 a) h).1 / 5, (fRed (fAb q a c (a + 1 - c), fPow 10 a) h).2 / 5) from if_pos ⟨b111, b122⟩] at h0; exact h0)
                   | (rw [show fRed1 5 (fRed (fAb q a c (a + 1 - c), fPow 10 a) h) = (fRed (fAb q a c (a + 1 - c), fPow 10 a) h) from if_neg (fun z => b122 z.2)] at h0; exact h0)
                   | (rw [show fRed1 5 (fRed (fAb q a c (a + 1 - c), fPow 10 a) h) = (fRed (fAb q a c (a + 1 - c), fPow 10 a) h) from if_neg (fun z => b111 z.1)] at h0; exact h0))
                | (have e2 : fRed1 2 (fRed (fAb q a c (a + 1 - c), fPow 10 a) h) = (fRed (fAb q a c (a + 1 - c), fPow 10 a) h) := if_neg (fun z => b73 z.1)
                   rw [e2] at h0
                   first
                   | (rw [show fRed1 5 (fRed (fAb q a c (a + 1 - c), fPow 10 a) h) = ((fRed (fAb q a c (a + 1 - c), fPow 10 a) h).1 / 5, (fRed (fAb q a c (a + 1 - c), fPow 10 a) h).2 / 5) from if_pos ⟨b111, b122⟩] at h0; exact h0)
                   | (rw [show fRed1 5 (fRed (fAb q a c (a + 1 - c), fPow 10 a) h) = (fRed (fAb q a c (a + 1 - c), fPow 10 a) h) from if_neg (fun z => b122 z.2)] at h0; exact h0)
                   | (rw [show fRed1 5 (fRed (fAb q a c (a + 1 - c), fPow 10 a) h) = (fRed (fAb q a c (a + 1 - c), fPow 10 a) h) from if_neg (fun z => b111 z.1)] at h0; exact h0))
            · refine z_lload dX3_ofFalls_125 rfl ?_
              refine z_ldc2 lc_X3_18 dX3_ofFalls_127 ?_
              refine z_ldiv dX3_ofFalls_130 (by decide) ?_
              refine z_lstore dX3_ofFalls_131 (by decide) rfl rfl ?_
              refine z_lload dX3_ofFalls_133 rfl ?_
              refine z_ldc2 lc_X3_18 dX3_ofFalls_135 ?_
              refine z_ldiv dX3_ofFalls_138 (by decide) ?_
              refine z_lstore dX3_ofFalls_139 (by decide) rfl rfl ?_
              refine z_iincN (k := h) dX3_ofFalls_141 rfl rfl (by decide) rfl rfl ?_
              refine z_goto (tgt := 59) dX3_ofFalls_144 (by decide) ?_
              have h0 := ih (h + 1) (by omega) (by omega)
              have e9 : fRed (fAb q a c (a + 1 - c), fPow 10 a) (h + 1) = fRed1 5 (fRed1 2 (fRed (fAb q a c (a + 1 - c), fPow 10 a) h)) := rfl
              rw [e9] at h0
              first
                | (have e2 : fRed1 2 (fRed (fAb q a c (a + 1 - c), fPow 10 a) h) = ((fRed (fAb q a c (a + 1 - c), fPow 10 a) h).1 / 2, (fRed (fAb q a c (a + 1 - c), fPow 10 a) h).2 / 2) := if_pos ⟨b73, b84⟩
                   rw [e2] at h0
                   first
                   | (rw [show fRed1 5 ((fRed (fAb q a c (a + 1 - c), fPow 10 a) h).1 / 2, (fRed (fAb q a c (a + 1 - c), fPow 10 a) h).2 / 2) = ((fRed (fAb q a c (a + 1 - c), fPow 10 a) h).1 / 2 / 5, (fRed (fAb q a c (a + 1 - c), fPow 10 a) h).2 / 2 / 5) from if_pos ⟨b111, b122⟩] at h0; exact h0)
                   | (rw [show fRed1 5 ((fRed (fAb q a c (a + 1 - c), fPow 10 a) h).1 / 2, (fRed (fAb q a c (a + 1 - c), fPow 10 a) h).2 / 2) = ((fRed (fAb q a c (a + 1 - c), fPow 10 a) h).1 / 2, (fRed (fAb q a c (a + 1 - c), fPow 10 a) h).2 / 2) from if_neg (fun z => b122 z.2)] at h0; exact h0)
                   | (rw [show fRed1 5 ((fRed (fAb q a c (a + 1 - c), fPow 10 a) h).1 / 2, (fRed (fAb q a c (a + 1 - c), fPow 10 a) h).2 / 2) = ((fRed (fAb q a c (a + 1 - c), fPow 10 a) h).1 / 2, (fRed (fAb q a c (a + 1 - c), fPow 10 a) h).2 / 2) from if_neg (fun z => b111 z.1)] at h0; exact h0))
                | (have e2 : fRed1 2 (fRed (fAb q a c (a + 1 - c), fPow 10 a) h) = (fRed (fAb q a c (a + 1 - c), fPow 10 a) h) := if_neg (fun z => b84 z.2)
                   rw [e2] at h0
                   first
                   | (rw [show fRed1 5 (fRed (fAb q a c (a + 1 - c), fPow 10 a) h) = ((fRed (fAb q a c (a + 1 - c), fPow 10 a) h).1 / 5, (fRed (fAb q a c (a + 1 - c), fPow 10 a) h).2 / 5) from if_pos ⟨b111, b122⟩] at h0; exact h0)
                   | (rw [show fRed1 5 (fRed (fAb q a c (a + 1 - c), fPow 10 a) h) = (fRed (fAb q a c (a + 1 - c), fPow 10 a) h) from if_neg (fun z => b122 z.2)] at h0; exact h0)
                   | (rw [show fRed1 5 (fRed (fAb q a c (a + 1 - c), fPow 10 a) h) = (fRed (fAb q a c (a + 1 - c), fPow 10 a) h) from if_neg (fun z => b111 z.1)] at h0; exact h0))
                | (have e2 : fRed1 2 (fRed (fAb q a c (a + 1 - c), fPow 10 a) h) = (fRed (fAb q a c (a + 1 - c), fPow 10 a) h) := if_neg (fun z => b73 z.1)
                   rw [e2] at h0
                   first
                   | (rw [show fRed1 5 (fRed (fAb q a c (a + 1 - c), fPow 10 a) h) = ((fRed (fAb q a c (a + 1 - c), fPow 10 a) h).1 / 5, (fRed (fAb q a c (a + 1 - c), fPow 10 a) h).2 / 5) from if_pos ⟨b111, b122⟩] at h0; exact h0)
                   | (rw [show fRed1 5 (fRed (fAb q a c (a + 1 - c), fPow 10 a) h) = (fRed (fAb q a c (a + 1 - c), fPow 10 a) h) from if_neg (fun z => b122 z.2)] at h0; exact h0)
                   | (rw [show fRed1 5 (fRed (fAb q a c (a + 1 - c), fPow 10 a) h) = (fRed (fAb q a c (a + 1 - c), fPow 10 a) h) from if_neg (fun z => b111 z.1)] at h0; exact h0))

set_option maxRecDepth 100000 in
set_option maxHeartbeats 4000000 in
theorem lp_above (g : zG) (l : Launch) {M : zM} {q part : Int32} {a c : Nat} (ha : a < 10) (hc : c < 10) : ∀ (k h : Nat), h ≤ (a + 1 - c) → (a + 1 - c) - h < k → zA g l yX3_ofFalls cX3_ofFalls 9 (some .int) 1 0 0 (zQi (fun r' M' => r' = fOdds a q c part ∧ M' = M)) 6 0 0 S0 M [.int (nI a), .int q, .int (nI c), .int part, .long (fAb q a c h), .null, .int (nI (c + h)), .null, .null] [] := by
  intro k
  induction k with
  | zero => intro h hh hk; exact absurd hk (Nat.not_lt_zero _)
  | succ k ih =>
    intro h hh hk 
    refine z_iload dX3_ofFalls_6 rfl ?_
    refine z_iload_n dX3_ofFalls_8 rfl ?_
    refine z_icmp_gt (tgt := 48) dX3_ofFalls_9 (by decide) (fun b9 => ?_) (fun b9 => ?_)
    · have e : a < c + h := (nI_ltI (by omega) (by omega)).mp b9
      have e2 : h = a + 1 - c := by omega
      subst e2
      refine z_bipush (v := 10) dX3_ofFalls_48 (by decide) ?_
      refine z_iload_n dX3_ofFalls_50 rfl ?_
      refine z_lS2 (c_X3_power g l (by omega)) mw_X3_power lm_X3_13 ms_X3_power (by decide) (Nat.le_of_ble_eq_true rfl) zle dX3_ofFalls_51 (fun r51 M51 q51 => ?_)
      obtain ⟨qr51, qm51⟩ := q51
      obtain rfl := qr51.symm
      obtain rfl := qm51.symm
      refine z_lstore dX3_ofFalls_54 (by decide) rfl rfl ?_
      refine z_iconst (v := 0) dX3_ofFalls_56 (by decide) ?_
      refine z_istore dX3_ofFalls_57 (by decide) rfl rfl ?_
      exact lp_red g l ha hc (a + 1) 0 (Nat.zero_le _) (by omega)
    · have hn : c + h ≤ a := Nat.le_of_not_lt (fun z => b9 ((nI_ltI (by omega) (by omega)).mpr z))
      refine z_lload dX3_ofFalls_12 rfl ?_
      refine z_iload_n dX3_ofFalls_14 rfl ?_
      refine z_iload dX3_ofFalls_15 rfl ?_
      refine z_lS2 (c_X3_ways g l (by omega)) mw_X3_ways lm_X3_7 ms_X3_ways (by decide) (Nat.le_of_ble_eq_true rfl) zle dX3_ofFalls_17 (fun r17 M17 q17 => ?_)
      obtain ⟨qr17, qm17⟩ := q17
      obtain rfl := qr17.symm
      obtain rfl := qm17.symm
      refine z_iload_n dX3_ofFalls_20 rfl ?_
      refine z_iload dX3_ofFalls_21 rfl ?_
      refine z_lS2 (c_X3_power g l (by omega)) mw_X3_power lm_X3_13 ms_X3_power (by decide) (Nat.le_of_ble_eq_true rfl) zle dX3_ofFalls_23 (fun r23 M23 q23 => ?_)
      obtain ⟨qr23, qm23⟩ := q23
      obtain rfl := qr23.symm
      obtain rfl := qm23.symm
      refine z_lmul dX3_ofFalls_26 ?_
      refine z_bipush (v := 10) dX3_ofFalls_27 (by decide) ?_
      refine z_iload_n dX3_ofFalls_29 rfl ?_
      refine z_isub dX3_ofFalls_30 ?_
      refine z_iload_n dX3_ofFalls_31 rfl ?_
      refine z_iload dX3_ofFalls_32 rfl ?_
      refine z_isub dX3_ofFalls_34 ?_
      rw [nI_subs hn]
      refine z_lS2 (c_X3_power g l (by omega)) mw_X3_power lm_X3_13 ms_X3_power (by decide) (Nat.le_of_ble_eq_true rfl) zle dX3_ofFalls_35 (fun r35 M35 q35 => ?_)
      obtain ⟨qr35, qm35⟩ := q35
      obtain rfl := qr35.symm
      obtain rfl := qm35.symm
      refine z_lmul dX3_ofFalls_38 ?_
      refine z_ladd dX3_ofFalls_39 ?_
      refine z_lstore dX3_ofFalls_40 (by decide) rfl rfl ?_
      refine z_iincN (k := (c + h)) dX3_ofFalls_42 rfl rfl (by decide) rfl rfl ?_
      refine z_goto (tgt := 6) dX3_ofFalls_45 (by decide) ?_
      exact ih (h + 1) (by omega) (by omega)

set_option maxRecDepth 100000 in
set_option maxHeartbeats 4000000 in
theorem c_X3_ofFalls (g : zG) (l : Launch) {M : zM} {q part : Int32} {a c : Nat} (ha : a < 10) (hc : c < 10) : zMet g l yX3_ofFalls cX3_ofFalls 9 (some .int) 1 0 0 [.int (nI a), .int q, .int (nI c), .int part] S0 M (zQi (fun r' M' => r' = fOdds a q c part ∧ M' = M)) := by
  refine zMet.of (by decide) (Nat.le_of_ble_eq_true rfl) ?_
  refine z_lconst (v := 0) dX3_ofFalls_0 (by decide) ?_
  refine z_lstore dX3_ofFalls_1 (by decide) rfl rfl ?_
  refine z_iload_n dX3_ofFalls_3 rfl ?_
  refine z_istore dX3_ofFalls_4 (by decide) rfl rfl ?_
  exact lp_above g l ha hc (a + 1 - c + 1) 0 (Nat.zero_le _) (by omega)

