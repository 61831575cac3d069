/-! ===== the reference's own parser: tokens ===== -/
def pM (B : zM) (f b i n r : Nat) (c : Int32) (w nu : Nat → Int32) : zM := fun k => if k = 127 then (fun j => if j = 12 then nI f else if j = 13 then nI b else if j = 14 then nI i else if j = 15 then nI n else if j = 16 then nI r else if j = 17 then c else B 127 j) else if k = 128 then w else if k = 137 then nu else B k
section ZPM
variable {B : zM} {f b i n r x : Nat} {c v : Int32} {w nu : Nat → Int32} {q : Nat}
theorem pM_o {k : Nat} (h : k ≠ 127 ∧ k ≠ 128 ∧ k ≠ 137) : pM B f b i n r c w nu k = B k := by
  unfold pM
  rw [if_neg h.1, if_neg h.2.1, if_neg h.2.2]
theorem pM_7 {j : Nat} (h : j < 12 ∨ 17 < j) : pM B f b i n r c w nu 127 j = B 127 j := by
  show (if j = 12 then _ else _) = _
  rw [if_neg (by omega), if_neg (by omega), if_neg (by omega), if_neg (by omega), if_neg (by omega), if_neg (by omega)]
theorem pM_ext {M M2 : zM} (h7 : ∀ j, M 127 j = M2 127 j) (hk : ∀ k, k ≠ 127 → M k = M2 k) : M = M2 := by
  funext k
  by_cases e : k = 127
  · subst e; funext j; exact h7 j
  · exact hk k e
theorem pM_f {v : Int32} (hv : v = nI x) : z_up (pM B f b i n r c w nu) 127 12 v = pM B x b i n r c w nu := by
  subst hv
  refine pM_ext (fun j => ?_) (fun k e => ?_)
  · by_cases e : j = 12
    · subst e; rw [z_up_kj]; rfl
    · rw [z_up_jn _ _ e]
      show (if j = 12 then _ else _) = (if j = 12 then _ else _)
      repeat' split
      all_goals first | rfl | exact absurd ‹_› e
  · rw [z_up_n _ _ _ e]
    unfold pM
    rw [if_neg e, if_neg e]
theorem pM_b {v : Int32} (hv : v = nI x) : z_up (pM B f b i n r c w nu) 127 13 v = pM B f x i n r c w nu := by
  subst hv
  refine pM_ext (fun j => ?_) (fun k e => ?_)
  · by_cases e : j = 13
    · subst e; rw [z_up_kj]; rfl
    · rw [z_up_jn _ _ e]
      show (if j = 12 then _ else _) = (if j = 12 then _ else _)
      repeat' split
      all_goals first | rfl | exact absurd ‹_› e
  · rw [z_up_n _ _ _ e]
    unfold pM
    rw [if_neg e, if_neg e]
theorem pM_i {v : Int32} (hv : v = nI x) : z_up (pM B f b i n r c w nu) 127 14 v = pM B f b x n r c w nu := by
  subst hv
  refine pM_ext (fun j => ?_) (fun k e => ?_)
  · by_cases e : j = 14
    · subst e; rw [z_up_kj]; rfl
    · rw [z_up_jn _ _ e]
      show (if j = 12 then _ else _) = (if j = 12 then _ else _)
      repeat' split
      all_goals first | rfl | exact absurd ‹_› e
  · rw [z_up_n _ _ _ e]
    unfold pM
    rw [if_neg e, if_neg e]
theorem pM_n {v : Int32} (hv : v = nI x) : z_up (pM B f b i n r c w nu) 127 15 v = pM B f b i x r c w nu := by
  subst hv
  refine pM_ext (fun j => ?_) (fun k e => ?_)
  · by_cases e : j = 15
    · subst e; rw [z_up_kj]; rfl
    · rw [z_up_jn _ _ e]
      show (if j = 12 then _ else _) = (if j = 12 then _ else _)
      repeat' split
      all_goals first | rfl | exact absurd ‹_› e
  · rw [z_up_n _ _ _ e]
    unfold pM
    rw [if_neg e, if_neg e]
theorem pM_r {v : Int32} (hv : v = nI x) : z_up (pM B f b i n r c w nu) 127 16 v = pM B f b i n x c w nu := by
  subst hv
  refine pM_ext (fun j => ?_) (fun k e => ?_)
  · by_cases e : j = 16
    · subst e; rw [z_up_kj]; rfl
    · rw [z_up_jn _ _ e]
      show (if j = 12 then _ else _) = (if j = 12 then _ else _)
      repeat' split
      all_goals first | rfl | exact absurd ‹_› e
  · rw [z_up_n _ _ _ e]
    unfold pM
    rw [if_neg e, if_neg e]
theorem pM_c : z_up (pM B f b i n r c w nu) 127 17 v = pM B f b i n r v w nu := by
  refine pM_ext (fun j => ?_) (fun k e => ?_)
  · by_cases e : j = 17
    · subst e; rw [z_up_kj]; rfl
    · rw [z_up_jn _ _ e]
      show (if j = 12 then _ else _) = (if j = 12 then _ else _)
      repeat' split
      all_goals first | rfl | exact absurd ‹_› e
  · rw [z_up_n _ _ _ e]
    unfold pM
    rw [if_neg e, if_neg e]
theorem pM_18 : z_up (pM B f b i n r c w nu) 127 18 v = pM (z_up B 127 18 v) f b i n r c w nu := by
  refine pM_ext (fun j => ?_) (fun k e => ?_)
  · by_cases e : j = 18
    · subst e; rw [z_up_kj]; exact (z_up_kj B 127 18 v).symm
    · rw [z_up_jn _ _ e]
      show (if j = 12 then _ else _) = (if j = 12 then _ else _)
      repeat' split
      all_goals first | rfl | exact (z_up_jn _ _ e).symm
  · rw [z_up_n _ _ _ e]
    unfold pM
    rw [if_neg e, if_neg e, z_up_n _ _ _ e]
theorem pM_w : z_up (pM B f b i n r c w nu) 128 q v = pM B f b i n r c (upd w q v) nu := by
  funext k
  by_cases e : k = 128
  · subst e; rw [z_up_s]; rfl
  · rw [z_up_n _ _ _ e]
    unfold pM
    by_cases e2 : k = 127
    · rw [if_pos e2, if_pos e2]
    · rw [if_neg e2, if_neg e2, if_neg e, if_neg e]
theorem pM_u : z_up (pM B f b i n r c w nu) 137 q v = pM B f b i n r c w (upd nu q v) := by
  funext k
  by_cases e : k = 137
  · subst e; rw [z_up_s]; rfl
  · rw [z_up_n _ _ _ e]
    unfold pM
    by_cases e2 : k = 127
    · rw [if_pos e2, if_pos e2]
    · by_cases e3 : k = 128
      · rw [if_neg e2, if_neg e2, if_pos e3, if_pos e3]
      · rw [if_neg e2, if_neg e2, if_neg e3, if_neg e3, if_neg e, if_neg e]
theorem pM_self (M : zM) (hf : M 127 12 = nI f) (hb : M 127 13 = nI b) (hi : M 127 14 = nI i) (hn : M 127 15 = nI n) (hr : M 127 16 = nI r) : pM M f b i n r (M 127 17) (M 128) (M 137) = M := by
  refine pM_ext (fun j => ?_) (fun k e => ?_)
  · show (if j = 12 then _ else _) = _
    repeat' split
    all_goals first | rfl | (subst_vars; first | exact hf.symm | exact hb.symm | exact hi.symm | exact hn.symm | exact hr.symm | rfl)
  · unfold pM
    rw [if_neg e]
    by_cases e2 : k = 128
    · rw [if_pos e2, e2]
    · rw [if_neg e2]
      by_cases e3 : k = 137
      · rw [if_pos e3, e3]
      · rw [if_neg e3]
end ZPM
theorem tS_1 (c : Int32) : tS c = 1 ↔ (97 ≤ c ∧ c ≤ 122) := by
  unfold tS
  by_cases h : 97 ≤ c ∧ c ≤ 122
  · rw [if_pos h]; exact ⟨fun _ => h, fun _ => rfl⟩
  · rw [if_neg h]
    refine ⟨fun z => ?_, fun z => absurd z h⟩
    split at z <;> exact absurd z (by decide)
theorem tS_2 (c : Int32) : tS c = 2 ↔ (48 ≤ c ∧ c ≤ 57) := by
  unfold tS
  by_cases h : 97 ≤ c ∧ c ≤ 122
  · rw [if_pos h]
    refine ⟨fun z => absurd z (by decide), fun z => ?_⟩
    rw [Int32.le_iff_toInt_le, Int32.le_iff_toInt_le] at h z
    have e1 : (97 : Int32).toInt = 97 := by decide
    have e2 : (57 : Int32).toInt = 57 := by decide
    omega
  · rw [if_neg h]
    by_cases h2 : 48 ≤ c ∧ c ≤ 57
    · rw [if_pos h2]; exact ⟨fun _ => h2, fun _ => rfl⟩
    · rw [if_neg h2]; exact ⟨fun z => absurd z (by decide), fun z => absurd z h2⟩
theorem tB_1 {T : Nat → Int32} {len f : Nat} (hf : f < len) (h : tS (T f) = 1) : tB T len f = tRn T 1 (len - (f + 1)) (f + 1) := by
  unfold tB
  rw [if_pos hf, h, if_neg (by decide)]
theorem tB_2 {T : Nat → Int32} {len f : Nat} (hf : f < len) (h : tS (T f) = 2) : tB T len f = tRn T 2 (len - (f + 1)) (f + 1) := by
  unfold tB
  rw [if_pos hf, h, if_neg (by decide)]
theorem tB_3 {T : Nat → Int32} {len f : Nat} (hf : f < len) (h1 : ¬ tS (T f) = 1) (h2 : ¬ tS (T f) = 2) : tB T len f = f + 1 := by
  unfold tB
  have h3 : tS (T f) = 3 := by
    unfold tS at h1 h2 ⊢
    by_cases c : 97 ≤ T f ∧ T f ≤ 122
    · rw [if_pos c] at h1; exact absurd rfl h1
    · rw [if_neg c] at h1 h2 ⊢
      by_cases d : 48 ≤ T f ∧ T f ≤ 57
      · rw [if_pos d] at h2; exact absurd rfl h2
      · rw [if_neg d]
  rw [if_pos hf, if_pos h3]
theorem tB_0 {T : Nat → Int32} {len f : Nat} (hf : ¬ f < len) : tB T len f = f := if_neg hf

set_option maxRecDepth 100000 in
set_option maxHeartbeats 4000000 in
theorem lp_tok_letters (g : zG) (l : Launch) {B : zM} {T : Nat → Int32} {len f b0 i n r : Nat} {c : Int32} {w nu : Nat → Int32} (hl : len ≤ 200) (h4 : B 127 4 = nI len) (hT : ∀ j, j < len → B 130 j = T j) : ∀ (k x : Nat), x ≤ len → len - x < k → tRn T 1 (len - b0) b0 = tRn T 1 (len - x) x → zA g l yX12_nextToken cX12_nextToken 1 none 2 0 0 (zQv (fun M' => M' = (pM B f (tRn T 1 (len - b0) b0) i n r c w nu))) 100 0 0 S0 (pM B f x i n r c w nu) [.ref 127] [] := by
  intro k
  induction k with
  | zero => intro x hh hk; exact absurd hk (Nat.not_lt_zero _)
  | succ k ih =>
    intro x hh hk wx
    refine z_aload_n dX12_nextToken_100 rfl ?_
    refine z_getIV (j := 13) kX12 lf_X12_95 (by decide) rfl (rfl : _ = nI x) dX12_nextToken_101 k0_127 s0_127 ?_
    refine z_aload_n dX12_nextToken_104 rfl ?_
    refine z_getIV (j := 4) kX12 lf_X12_83 (by decide) rfl h4 dX12_nextToken_105 k0_127 s0_127 ?_
    refine z_icmp_ge (tgt := 204) dX12_nextToken_108 (by decide) (fun b108 => ?_) (fun b108 => ?_)
    · have e : len ≤ x := (nI_leI (by omega) (by omega)).mp b108
      have e2 : tRn T 1 (len - b0) b0 = x := by rw [wx, show len - x = 0 by omega]; rfl
      refine z_vret dX12_nextToken_204 zle ?_
      rw [e2]
    · have hn : x < len := Nat.lt_of_not_le (fun zz => b108 ((nI_leI (by omega) (by omega)).mpr zz))
      rw [show len - x = (len - (x + 1)) + 1 by omega] at wx
      refine z_aload_n dX12_nextToken_111 rfl ?_
      refine z_getR (j := 3) (r := 130) kX12 lf_X12_17 (by decide) rfl dX12_nextToken_112 k0_127 s0_127 r0_127_3 (by decide) ?_
      refine z_aload_n dX12_nextToken_115 rfl ?_
      refine z_getIV (j := 13) kX12 lf_X12_95 (by decide) rfl (rfl : _ = nI x) dX12_nextToken_116 k0_127 s0_127 ?_
      refine z_ialdV (j := x) rfl (by omega) (hT x (by omega)) dX12_nextToken_119 k0_130 s0_130 ?_
      refine z_iS1 (c_X12_isLetter g l) mw_X12_isLetter lm_X12_101 ms_X12_isLetter (by decide) (Nat.le_of_ble_eq_true rfl) zle dX12_nextToken_120 (fun r120 M120 q120 => ?_)
      obtain ⟨qm120, qr120⟩ := q120
      obtain rfl := qm120.symm
      obtain ⟨c120, rfl⟩ | ⟨c120, rfl⟩ := qr120
      · refine z_if_eq (tgt := 204) dX12_nextToken_123 (by decide) (fun b123 => ?_) (fun b123 => ?_)
        · exact absurd b123 (by decide)
        · refine z_aload_n dX12_nextToken_126 rfl ?_
          refine z_dup dX12_nextToken_127 rfl ?_
          refine z_getIV (j := 13) kX12 lf_X12_95 (by decide) rfl (rfl : _ = nI x) dX12_nextToken_128 k0_127 s0_127 ?_
          refine z_iconst (v := 1) dX12_nextToken_131 (by decide) ?_
          refine z_iaddN (a := x) (b := 1) rfl rfl dX12_nextToken_132 ?_
          refine z_putIV (j := 13) kX12 lf_X12_95 (by decide) rfl rfl (kX12.2.2.1 13 (by decide)) rfl rfl (pM_b rfl) dX12_nextToken_133 k0_127 s0_127 ?_
          refine z_goto (tgt := 100) dX12_nextToken_136 (by decide) ?_
          exact ih (x + 1) (by omega) (by omega) (by rw [wx]; exact if_pos ((tS_1 _).mpr c120))
      · have e2 : tRn T 1 (len - b0) b0 = x := by rw [wx]; exact if_neg (fun z => c120 ((tS_1 _).mp z))
        refine z_if_eq (tgt := 204) dX12_nextToken_123 (by decide) (fun b123 => ?_) (fun b123 => ?_)
        · refine z_vret dX12_nextToken_204 zle ?_
          rw [e2]
        · exact absurd b123 (by decide)

set_option maxRecDepth 100000 in
set_option maxHeartbeats 4000000 in
theorem lp_tok_digits (g : zG) (l : Launch) {B : zM} {T : Nat → Int32} {len f b0 i n r : Nat} {c : Int32} {w nu : Nat → Int32} (hl : len ≤ 200) (h4 : B 127 4 = nI len) (hT : ∀ j, j < len → B 130 j = T j) : ∀ (k x : Nat), x ≤ len → len - x < k → tRn T 2 (len - b0) b0 = tRn T 2 (len - x) x → zA g l yX12_nextToken cX12_nextToken 1 none 2 0 0 (zQv (fun M' => M' = (pM B f (tRn T 2 (len - b0) b0) i n r c w nu))) 165 0 0 S0 (pM B f x i n r c w nu) [.ref 127] [] := by
  intro k
  induction k with
  | zero => intro x hh hk; exact absurd hk (Nat.not_lt_zero _)
  | succ k ih =>
    intro x hh hk wx
    refine z_aload_n dX12_nextToken_165 rfl ?_
    refine z_getIV (j := 13) kX12 lf_X12_95 (by decide) rfl (rfl : _ = nI x) dX12_nextToken_166 k0_127 s0_127 ?_
    refine z_aload_n dX12_nextToken_169 rfl ?_
    refine z_getIV (j := 4) kX12 lf_X12_83 (by decide) rfl h4 dX12_nextToken_170 k0_127 s0_127 ?_
    refine z_icmp_ge (tgt := 204) dX12_nextToken_173 (by decide) (fun b173 => ?_) (fun b173 => ?_)
    · have e : len ≤ x := (nI_leI (by omega) (by omega)).mp b173
      have e2 : tRn T 2 (len - b0) b0 = x := by rw [wx, show len - x = 0 by omega]; rfl
      refine z_vret dX12_nextToken_204 zle ?_
      rw [e2]
    · have hn : x < len := Nat.lt_of_not_le (fun zz => b173 ((nI_leI (by omega) (by omega)).mpr zz))
      rw [show len - x = (len - (x + 1)) + 1 by omega] at wx
      refine z_aload_n dX12_nextToken_176 rfl ?_
      refine z_getR (j := 3) (r := 130) kX12 lf_X12_17 (by decide) rfl dX12_nextToken_177 k0_127 s0_127 r0_127_3 (by decide) ?_
      refine z_aload_n dX12_nextToken_180 rfl ?_
      refine z_getIV (j := 13) kX12 lf_X12_95 (by decide) rfl (rfl : _ = nI x) dX12_nextToken_181 k0_127 s0_127 ?_
      refine z_ialdV (j := x) rfl (by omega) (hT x (by omega)) dX12_nextToken_184 k0_130 s0_130 ?_
      refine z_iS1 (c_X12_isDigit g l) mw_X12_isDigit lm_X12_105 ms_X12_isDigit (by decide) (Nat.le_of_ble_eq_true rfl) zle dX12_nextToken_185 (fun r185 M185 q185 => ?_)
      obtain ⟨qm185, qr185⟩ := q185
      obtain rfl := qm185.symm
      obtain ⟨c185, rfl⟩ | ⟨c185, rfl⟩ := qr185
      · refine z_if_eq (tgt := 204) dX12_nextToken_188 (by decide) (fun b188 => ?_) (fun b188 => ?_)
        · exact absurd b188 (by decide)
        · refine z_aload_n dX12_nextToken_191 rfl ?_
          refine z_dup dX12_nextToken_192 rfl ?_
          refine z_getIV (j := 13) kX12 lf_X12_95 (by decide) rfl (rfl : _ = nI x) dX12_nextToken_193 k0_127 s0_127 ?_
          refine z_iconst (v := 1) dX12_nextToken_196 (by decide) ?_
          refine z_iaddN (a := x) (b := 1) rfl rfl dX12_nextToken_197 ?_
          refine z_putIV (j := 13) kX12 lf_X12_95 (by decide) rfl rfl (kX12.2.2.1 13 (by decide)) rfl rfl (pM_b rfl) dX12_nextToken_198 k0_127 s0_127 ?_
          refine z_goto (tgt := 165) dX12_nextToken_201 (by decide) ?_
          exact ih (x + 1) (by omega) (by omega) (by rw [wx]; exact if_pos ((tS_2 _).mpr c185))
      · have e2 : tRn T 2 (len - b0) b0 = x := by rw [wx]; exact if_neg (fun z => c185 ((tS_2 _).mp z))
        refine z_if_eq (tgt := 204) dX12_nextToken_188 (by decide) (fun b188 => ?_) (fun b188 => ?_)
        · refine z_vret dX12_nextToken_204 zle ?_
          rw [e2]
        · exact absurd b188 (by decide)

set_option maxRecDepth 100000 in
set_option maxHeartbeats 4000000 in
theorem lp_tokT (g : zG) (l : Launch) {B : zM} {T : Nat → Int32} {len p b0 i n r : Nat} {c : Int32} {w nu : Nat → Int32} (hl : len ≤ 200) (h4 : B 127 4 = nI len) (hT : ∀ j, j < len → B 130 j = T j) (hb : p ≤ len) (e3 : tF T len b0 = p) : zA g l yX12_nextToken cX12_nextToken 1 none 2 0 0 (zQv (fun M' => M' = (pM B (tF T len b0) (tB T len (tF T len b0)) i n r c w nu))) 46 0 0 S0 (pM B p b0 i n r c w nu) [.ref 127] [] := by
  by_cases hp : p < len
  · refine z_aload_n dX12_nextToken_46 rfl ?_
    refine z_aload_n dX12_nextToken_47 rfl ?_
    refine z_getIV (j := 12) kX12 lf_X12_98 (by decide) rfl (rfl : _ = nI p) dX12_nextToken_48 k0_127 s0_127 ?_
    refine z_aload_n dX12_nextToken_51 rfl ?_
    refine z_getIV (j := 4) kX12 lf_X12_83 (by decide) rfl h4 dX12_nextToken_52 k0_127 s0_127 ?_
    refine z_icmp_ge (tgt := 67) dX12_nextToken_55 (by decide) (fun b55 => ?_) (fun b55 => ?_)
    · exact absurd ((nI_leI (by omega) (by omega)).mp b55) (by omega)
    · refine z_aload_n dX12_nextToken_58 rfl ?_
      refine z_getIV (j := 12) kX12 lf_X12_98 (by decide) rfl (rfl : _ = nI p) dX12_nextToken_59 k0_127 s0_127 ?_
      refine z_iconst (v := 1) dX12_nextToken_62 (by decide) ?_
      refine z_iaddN (a := p) (b := 1) rfl rfl dX12_nextToken_63 ?_
      refine z_goto (tgt := 71) dX12_nextToken_64 (by decide) ?_
      refine z_putIV (j := 13) kX12 lf_X12_95 (by decide) rfl rfl (kX12.2.2.1 13 (by decide)) rfl rfl (pM_b rfl) dX12_nextToken_71 k0_127 s0_127 ?_
      refine z_aload_n dX12_nextToken_74 rfl ?_
      refine z_getIV (j := 12) kX12 lf_X12_98 (by decide) rfl (rfl : _ = nI p) dX12_nextToken_75 k0_127 s0_127 ?_
      refine z_aload_n dX12_nextToken_78 rfl ?_
      refine z_getIV (j := 4) kX12 lf_X12_83 (by decide) rfl h4 dX12_nextToken_79 k0_127 s0_127 ?_
      refine z_icmp_ge (tgt := 139) dX12_nextToken_82 (by decide) (fun b82 => ?_) (fun b82 => ?_)
      · exact absurd ((nI_leI (by omega) (by omega)).mp b82) (by omega)
      · refine z_aload_n dX12_nextToken_85 rfl ?_
        refine z_getR (j := 3) (r := 130) kX12 lf_X12_17 (by decide) rfl dX12_nextToken_86 k0_127 s0_127 r0_127_3 (by decide) ?_
        refine z_aload_n dX12_nextToken_89 rfl ?_
        refine z_getIV (j := 12) kX12 lf_X12_98 (by decide) rfl (rfl : _ = nI p) dX12_nextToken_90 k0_127 s0_127 ?_
        refine z_ialdV (j := p) rfl (by omega) (hT p (by omega)) dX12_nextToken_93 k0_130 s0_130 ?_
        refine z_iS1 (c_X12_isLetter g l) mw_X12_isLetter lm_X12_101 ms_X12_isLetter (by decide) (Nat.le_of_ble_eq_true rfl) zle dX12_nextToken_94 (fun r94 M94 q94 => ?_)
        obtain ⟨qm94, qr94⟩ := q94
        obtain rfl := qm94.symm
        obtain ⟨c94, rfl⟩ | ⟨c94, rfl⟩ := qr94
        · refine z_if_eq (tgt := 139) dX12_nextToken_97 (by decide) (fun b97 => ?_) (fun b97 => ?_)
          · exact absurd b97 (by decide)
          · have h0 := lp_tok_letters g l (B := B) (T := T) (len := len) (f := p) (b0 := p + 1) (i := i) (n := n) (r := r) (c := c) (w := w) (nu := nu) hl h4 hT (len + 1) (p + 1) (by omega) (by omega) rfl
            rw [e3, tB_1 hp ((tS_1 _).mpr c94)]
            exact h0
        · refine z_if_eq (tgt := 139) dX12_nextToken_97 (by decide) (fun b97 => ?_) (fun b97 => ?_)
          · refine z_aload_n dX12_nextToken_139 rfl ?_
            refine z_getIV (j := 12) kX12 lf_X12_98 (by decide) rfl (rfl : _ = nI p) dX12_nextToken_140 k0_127 s0_127 ?_
            refine z_aload_n dX12_nextToken_143 rfl ?_
            refine z_getIV (j := 4) kX12 lf_X12_83 (by decide) rfl h4 dX12_nextToken_144 k0_127 s0_127 ?_
            refine z_icmp_ge (tgt := 204) dX12_nextToken_147 (by decide) (fun b147 => ?_) (fun b147 => ?_)
            · exact absurd ((nI_leI (by omega) (by omega)).mp b147) (by omega)
            · refine z_aload_n dX12_nextToken_150 rfl ?_
              refine z_getR (j := 3) (r := 130) kX12 lf_X12_17 (by decide) rfl dX12_nextToken_151 k0_127 s0_127 r0_127_3 (by decide) ?_
              refine z_aload_n dX12_nextToken_154 rfl ?_
              refine z_getIV (j := 12) kX12 lf_X12_98 (by decide) rfl (rfl : _ = nI p) dX12_nextToken_155 k0_127 s0_127 ?_
              refine z_ialdV (j := p) rfl (by omega) (hT p (by omega)) dX12_nextToken_158 k0_130 s0_130 ?_
              refine z_iS1 (c_X12_isDigit g l) mw_X12_isDigit lm_X12_105 ms_X12_isDigit (by decide) (Nat.le_of_ble_eq_true rfl) zle dX12_nextToken_159 (fun r159 M159 q159 => ?_)
              obtain ⟨qm159, qr159⟩ := q159
              obtain rfl := qm159.symm
              obtain ⟨c159, rfl⟩ | ⟨c159, rfl⟩ := qr159
              · refine z_if_eq (tgt := 204) dX12_nextToken_162 (by decide) (fun b162 => ?_) (fun b162 => ?_)
                · exact absurd b162 (by decide)
                · have h0 := lp_tok_digits g l (B := B) (T := T) (len := len) (f := p) (b0 := p + 1) (i := i) (n := n) (r := r) (c := c) (w := w) (nu := nu) hl h4 hT (len + 1) (p + 1) (by omega) (by omega) rfl
                  rw [e3, tB_2 hp ((tS_2 _).mpr c159)]
                  exact h0
              · refine z_if_eq (tgt := 204) dX12_nextToken_162 (by decide) (fun b162 => ?_) (fun b162 => ?_)
                · refine z_vret dX12_nextToken_204 zle ?_
                  rw [e3, tB_3 hp (fun z => c94 ((tS_1 _).mp z)) (fun z => c159 ((tS_2 _).mp z))]
                · exact absurd b162 (by decide)
          · exact absurd b97 (by decide)
  · refine z_aload_n dX12_nextToken_46 rfl ?_
    refine z_aload_n dX12_nextToken_47 rfl ?_
    refine z_getIV (j := 12) kX12 lf_X12_98 (by decide) rfl (rfl : _ = nI p) dX12_nextToken_48 k0_127 s0_127 ?_
    refine z_aload_n dX12_nextToken_51 rfl ?_
    refine z_getIV (j := 4) kX12 lf_X12_83 (by decide) rfl h4 dX12_nextToken_52 k0_127 s0_127 ?_
    refine z_icmp_ge (tgt := 67) dX12_nextToken_55 (by decide) (fun b55 => ?_) (fun b55 => ?_)
    · refine z_aload_n dX12_nextToken_67 rfl ?_
      refine z_getIV (j := 12) kX12 lf_X12_98 (by decide) rfl (rfl : _ = nI p) dX12_nextToken_68 k0_127 s0_127 ?_
      refine z_putIV (j := 13) kX12 lf_X12_95 (by decide) rfl rfl (kX12.2.2.1 13 (by decide)) rfl rfl (pM_b rfl) dX12_nextToken_71 k0_127 s0_127 ?_
      refine z_aload_n dX12_nextToken_74 rfl ?_
      refine z_getIV (j := 12) kX12 lf_X12_98 (by decide) rfl (rfl : _ = nI p) dX12_nextToken_75 k0_127 s0_127 ?_
      refine z_aload_n dX12_nextToken_78 rfl ?_
      refine z_getIV (j := 4) kX12 lf_X12_83 (by decide) rfl h4 dX12_nextToken_79 k0_127 s0_127 ?_
      refine z_icmp_ge (tgt := 139) dX12_nextToken_82 (by decide) (fun b82 => ?_) (fun b82 => ?_)
      · refine z_aload_n dX12_nextToken_139 rfl ?_
        refine z_getIV (j := 12) kX12 lf_X12_98 (by decide) rfl (rfl : _ = nI p) dX12_nextToken_140 k0_127 s0_127 ?_
        refine z_aload_n dX12_nextToken_143 rfl ?_
        refine z_getIV (j := 4) kX12 lf_X12_83 (by decide) rfl h4 dX12_nextToken_144 k0_127 s0_127 ?_
        refine z_icmp_ge (tgt := 204) dX12_nextToken_147 (by decide) (fun b147 => ?_) (fun b147 => ?_)
        · refine z_vret dX12_nextToken_204 zle ?_
          rw [e3, tB_0 hp]
        · exact absurd ((nI_leI (by omega) (by omega)).mpr (by omega)) b147
      · exact absurd ((nI_leI (by omega) (by omega)).mpr (by omega)) b82
    · exact absurd ((nI_leI (by omega) (by omega)).mpr (by omega)) b55

set_option maxRecDepth 100000 in
set_option maxHeartbeats 4000000 in
theorem lp_tok (g : zG) (l : Launch) {B : zM} {T : Nat → Int32} {len b0 i n r : Nat} {c : Int32} {w nu : Nat → Int32} (hl : len ≤ 200) (h4 : B 127 4 = nI len) (hT : ∀ j, j < len → B 130 j = T j) : ∀ (k p : Nat), p ≤ len → len - p < k → tF T len b0 = tSk T (len - p) p → zA g l yX12_nextToken cX12_nextToken 1 none 2 0 0 (zQv (fun M' => M' = (pM B (tF T len b0) (tB T len (tF T len b0)) i n r c w nu))) 8 0 0 S0 (pM B p b0 i n r c w nu) [.ref 127] [] := by
  intro k
  induction k with
  | zero => intro p hh hk; exact absurd hk (Nat.not_lt_zero _)
  | succ k ih =>
    intro p hh hk wp
    refine z_aload_n dX12_nextToken_8 rfl ?_
    refine z_getIV (j := 12) kX12 lf_X12_98 (by decide) rfl (rfl : _ = nI p) dX12_nextToken_9 k0_127 s0_127 ?_
    refine z_aload_n dX12_nextToken_12 rfl ?_
    refine z_getIV (j := 4) kX12 lf_X12_83 (by decide) rfl h4 dX12_nextToken_13 k0_127 s0_127 ?_
    refine z_icmp_ge (tgt := 46) dX12_nextToken_16 (by decide) (fun b16 => ?_) (fun b16 => ?_)
    · have e : len ≤ p := (nI_leI (by omega) (by omega)).mp b16
      have e3 : tF T len b0 = p := by rw [wp, show len - p = 0 by omega]; rfl
      exact lp_tokT g l hl h4 hT (by omega) e3
    · have hn : p < len := Nat.lt_of_not_le (fun zz => b16 ((nI_leI (by omega) (by omega)).mpr zz))
      rw [show len - p = (len - (p + 1)) + 1 by omega] at wp
      refine z_aload_n dX12_nextToken_19 rfl ?_
      refine z_getR (j := 3) (r := 130) kX12 lf_X12_17 (by decide) rfl dX12_nextToken_20 k0_127 s0_127 r0_127_3 (by decide) ?_
      refine z_aload_n dX12_nextToken_23 rfl ?_
      refine z_getIV (j := 12) kX12 lf_X12_98 (by decide) rfl (rfl : _ = nI p) dX12_nextToken_24 k0_127 s0_127 ?_
      refine z_ialdV (j := p) rfl (by omega) (hT p (by omega)) dX12_nextToken_27 k0_130 s0_130 ?_
      refine z_bipush (v := 32) dX12_nextToken_28 (by decide) ?_
      refine z_icmp_ne (tgt := 46) dX12_nextToken_30 (by decide) (fun b30 => ?_) (fun b30 => ?_)
      · have e3 : tF T len b0 = p := wp.trans (if_neg b30)
        exact lp_tokT g l hl h4 hT (by omega) e3
      · refine z_aload_n dX12_nextToken_33 rfl ?_
        refine z_dup dX12_nextToken_34 rfl ?_
        refine z_getIV (j := 12) kX12 lf_X12_98 (by decide) rfl (rfl : _ = nI p) dX12_nextToken_35 k0_127 s0_127 ?_
        refine z_iconst (v := 1) dX12_nextToken_38 (by decide) ?_
        refine z_iaddN (a := p) (b := 1) rfl rfl dX12_nextToken_39 ?_
        refine z_putIV (j := 12) kX12 lf_X12_98 (by decide) rfl rfl (kX12.2.2.1 12 (by decide)) rfl rfl (pM_f rfl) dX12_nextToken_40 k0_127 s0_127 ?_
        refine z_goto (tgt := 8) dX12_nextToken_43 (by decide) ?_
        exact ih (p + 1) (by omega) (by omega) (wp.trans (if_pos b30))

set_option maxRecDepth 100000 in
set_option maxHeartbeats 4000000 in
theorem c_X12_nextToken (g : zG) (l : Launch) {B : zM} {T : Nat → Int32} {len f b i n r : Nat} {c : Int32} {w nu : Nat → Int32} (hl : len ≤ 200) (h4 : B 127 4 = nI len) (hT : ∀ j, j < len → B 130 j = T j) (hb : b ≤ len) : zMet g l yX12_nextToken cX12_nextToken 1 none 2 0 0 [.ref 127] S0 (pM B f b i n r c w nu) (zQv (fun M' => M' = (pM B (tF T len b) (tB T len (tF T len b)) i n r c w nu))) := by
  refine zMet.of (by decide) (Nat.le_of_ble_eq_true rfl) ?_
  refine z_aload_n dX12_nextToken_0 rfl ?_
  refine z_aload_n dX12_nextToken_1 rfl ?_
  refine z_getIV (j := 13) kX12 lf_X12_95 (by decide) rfl (rfl : _ = nI b) dX12_nextToken_2 k0_127 s0_127 ?_
  refine z_putIV (j := 12) kX12 lf_X12_98 (by decide) rfl rfl (kX12.2.2.1 12 (by decide)) rfl rfl (pM_f rfl) dX12_nextToken_5 k0_127 s0_127 ?_
  exact lp_tok g l hl h4 hT (len + 1) b hb (by omega) rfl

theorem wd_0 : ∀ j, j < 4 → S0i 140 j = (zConByt.getD 0 []).getD j 0 := by decide
set_option maxRecDepth 100000 in
set_option maxHeartbeats 4000000 in
theorem lp_isWord0 (g : zG) (l : Launch) {B : zM} {T : Nat → Int32} {len f i n r : Nat} {c : Int32} {w nu : Nat → Int32} (hl : len ≤ 200) (h4 : B 127 4 = nI len) (hT : ∀ j, j < len → B 130 j = T j) (hW : mWd B) (hf : f ≤ len) (hB : tB T len f ≤ len) : ∀ (k h : Nat), h ≤ 4 → 4 - h < k → ∀ v : Int32, ((v = 1 ∧ tB T len f = f + 4 ∧ ∀ j, j < h → T (f + j) = (zConByt.getD 0 []).getD j 0) ∨ (v = 0 ∧ ¬ tIs T len f 0)) → zA g l yX12_isWord cX12_isWord 4 (some .boolean) 0 0 0 (zQi (fun r' M' => M' = (pM B f (tB T len f) i n r c w nu) ∧ (((tIs T len f 0) ∧ r' = 1) ∨ (¬ (tIs T len f 0) ∧ r' = 0)))) 22 0 0 S0 (pM B f (tB T len f) i n r c w nu) [.ref 127, .ref 140, .int v, .int (nI h)] [] := by
  intro k
  induction k with
  | zero => intro h hh hk; exact absurd hk (Nat.not_lt_zero _)
  | succ k ih =>
    intro h hh hk v hv
    refine z_iload_n dX12_isWord_22 rfl ?_
    refine z_aload_n dX12_isWord_23 rfl ?_
    refine z_alen dX12_isWord_24 k0_140 s0_140 (by decide) ?_
    refine z_icmp_ge (tgt := 61) dX12_isWord_25 (by decide) (fun b25 => ?_) (fun b25 => ?_)
    · have e2 : h = 4 := by have := (nI_leI (a := 4) (b := h) (by omega) (by omega)).mp b25; omega
      subst e2
      refine z_iload_n dX12_isWord_61 rfl ?_
      refine z_iret dX12_isWord_62 (by rcases hv with ⟨rfl, -⟩ | ⟨rfl, -⟩ <;> rfl) zle ?_
      rcases hv with ⟨rfl, v2, v3⟩ | ⟨rfl, v2⟩
      · first
        | exact ⟨rfl, Or.inl ⟨⟨v2, v3⟩, rfl⟩⟩
        | exact absurd b29 (by decide)
      · exact ⟨rfl, Or.inr ⟨v2, rfl⟩⟩
    · have hn : h < 4 := Nat.lt_of_not_le (fun zz => b25 ((nI_leI (a := 4) (b := h) (by omega) (by omega)).mpr zz))
      refine z_iload_n dX12_isWord_28 rfl ?_
      refine z_if_eq (tgt := 61) dX12_isWord_29 (by decide) (fun b29 => ?_) (fun b29 => ?_)
      · refine z_iload_n dX12_isWord_61 rfl ?_
        refine z_iret dX12_isWord_62 (by rcases hv with ⟨rfl, -⟩ | ⟨rfl, -⟩ <;> rfl) zle ?_
        rcases hv with ⟨rfl, v2, v3⟩ | ⟨rfl, v2⟩
        · first
          | exact ⟨rfl, Or.inl ⟨⟨v2, v3⟩, rfl⟩⟩
          | exact absurd b29 (by decide)
        · exact ⟨rfl, Or.inr ⟨v2, rfl⟩⟩
      · obtain ⟨v1, v2, v3⟩ := hv.resolve_right (fun z => b29 z.1)
        refine z_aload_n dX12_isWord_32 rfl ?_
        refine z_getR (j := 3) (r := 130) kX12 lf_X12_17 (by decide) rfl dX12_isWord_33 k0_127 s0_127 r0_127_3 (by decide) ?_
        refine z_aload_n dX12_isWord_36 rfl ?_
        refine z_getIV (j := 12) kX12 lf_X12_98 (by decide) rfl (rfl : _ = nI f) dX12_isWord_37 k0_127 s0_127 ?_
        refine z_iload_n dX12_isWord_40 rfl ?_
        refine z_iaddN (a := f) (b := h) rfl rfl dX12_isWord_41 ?_
        refine z_ialdV (j := (f + h)) rfl (by omega) (hT (f + h) (by omega)) dX12_isWord_42 k0_130 s0_130 ?_
        refine z_aload_n dX12_isWord_43 rfl ?_
        refine z_iload_n dX12_isWord_44 rfl ?_
        refine z_ialdV (j := h) rfl (by omega) ((congrFun (hW 140 (by omega) (by omega)) h).trans (wd_0 h hn)) dX12_isWord_45 k0_140 s0_140 ?_
        refine z_icmp_ne (tgt := 53) dX12_isWord_46 (by decide) (fun b46 => ?_) (fun b46 => ?_)
        · refine z_iconst (v := 0) dX12_isWord_53 (by decide) ?_
          refine z_istore_n dX12_isWord_54 (by decide) rfl rfl ?_
          refine z_iincN (k := h) dX12_isWord_55 rfl rfl (by decide) rfl rfl ?_
          refine z_goto (tgt := 22) dX12_isWord_58 (by decide) ?_
          first
            | exact ih (h + 1) (by omega) (by omega) _ (Or.inl ⟨rfl, v2, fun j hj => by
                by_cases e : j = h
                · subst e; exact b46
                · exact v3 j (by omega)⟩)
            | exact ih (h + 1) (by omega) (by omega) _ (Or.inr ⟨rfl, fun z => b46 (z.2 h hn)⟩)
        · refine z_iconst (v := 1) dX12_isWord_49 (by decide) ?_
          refine z_goto (tgt := 54) dX12_isWord_50 (by decide) ?_
          refine z_istore_n dX12_isWord_54 (by decide) rfl rfl ?_
          refine z_iincN (k := h) dX12_isWord_55 rfl rfl (by decide) rfl rfl ?_
          refine z_goto (tgt := 22) dX12_isWord_58 (by decide) ?_
          first
            | exact ih (h + 1) (by omega) (by omega) _ (Or.inl ⟨rfl, v2, fun j hj => by
                by_cases e : j = h
                · subst e; exact b46
                · exact v3 j (by omega)⟩)
            | exact ih (h + 1) (by omega) (by omega) _ (Or.inr ⟨rfl, fun z => b46 (z.2 h hn)⟩)

set_option maxRecDepth 100000 in
set_option maxHeartbeats 4000000 in
theorem c_isWord0 (g : zG) (l : Launch) {B : zM} {T : Nat → Int32} {len f i n r : Nat} {c : Int32} {w nu : Nat → Int32} (hl : len ≤ 200) (h4 : B 127 4 = nI len) (hT : ∀ j, j < len → B 130 j = T j) (hW : mWd B) (hf : f ≤ len) : zMet g l yX12_isWord cX12_isWord 4 (some .boolean) 0 0 0 [.ref 127, .ref 140] S0 (pM B f (tB T len f) i n r c w nu) (zQi (fun r' M' => M' = (pM B f (tB T len f) i n r c w nu) ∧ (((tIs T len f 0) ∧ r' = 1) ∨ (¬ (tIs T len f 0) ∧ r' = 0)))) := by
  have hB := tB_r (T := T) hf
  refine zMet.of (by decide) (Nat.le_of_ble_eq_true rfl) ?_
  refine z_aload_n dX12_isWord_0 rfl ?_
  refine z_getIV (j := 13) kX12 lf_X12_95 (by decide) rfl (rfl : _ = nI (tB T len f)) dX12_isWord_1 k0_127 s0_127 ?_
  refine z_aload_n dX12_isWord_4 rfl ?_
  refine z_getIV (j := 12) kX12 lf_X12_98 (by decide) rfl (rfl : _ = nI f) dX12_isWord_5 k0_127 s0_127 ?_
  refine z_isub dX12_isWord_8 ?_
  rw [nI_subs hB.1]
  refine z_aload_n dX12_isWord_9 rfl ?_
  refine z_alen dX12_isWord_10 k0_140 s0_140 (by decide) ?_
  refine z_icmp_ne (tgt := 18) dX12_isWord_11 (by decide) (fun b11 => ?_) (fun b11 => ?_)
  · have nb : ¬ tIs T len f 0 := fun z => b11 (by have := z.1; rw [show tB T len f - f = 4 by rw [this]; exact Nat.add_sub_cancel_left _ _])
    refine z_iconst (v := 0) dX12_isWord_18 (by decide) ?_
    refine z_istore_n dX12_isWord_19 (by decide) rfl rfl ?_
    refine z_iconst (v := 0) dX12_isWord_20 (by decide) ?_
    refine z_istore_n dX12_isWord_21 (by decide) rfl rfl ?_
    first
      | exact lp_isWord0 g l hl h4 hT hW hf hB.2.1 5 0 (Nat.zero_le _) (by omega) _ (Or.inl ⟨rfl, yb, fun j hj => absurd hj (Nat.not_lt_zero _)⟩)
      | exact lp_isWord0 g l hl h4 hT hW hf hB.2.1 5 0 (Nat.zero_le _) (by omega) _ (Or.inr ⟨rfl, nb⟩)
  · have yb : tB T len f = f + 4 := by have := (nI_eq (b := 4) (by omega) (by omega)).mp b11; omega
    refine z_iconst (v := 1) dX12_isWord_14 (by decide) ?_
    refine z_goto (tgt := 19) dX12_isWord_15 (by decide) ?_
    refine z_istore_n dX12_isWord_19 (by decide) rfl rfl ?_
    refine z_iconst (v := 0) dX12_isWord_20 (by decide) ?_
    refine z_istore_n dX12_isWord_21 (by decide) rfl rfl ?_
    first
      | exact lp_isWord0 g l hl h4 hT hW hf hB.2.1 5 0 (Nat.zero_le _) (by omega) _ (Or.inl ⟨rfl, yb, fun j hj => absurd hj (Nat.not_lt_zero _)⟩)
      | exact lp_isWord0 g l hl h4 hT hW hf hB.2.1 5 0 (Nat.zero_le _) (by omega) _ (Or.inr ⟨rfl, nb⟩)

theorem wd_1 : ∀ j, j < 7 → S0i 141 j = (zConByt.getD 1 []).getD j 0 := by decide
set_option maxRecDepth 100000 in
set_option maxHeartbeats 4000000 in
theorem lp_isWord1 (g : zG) (l : Launch) {B : zM} {T : Nat → Int32} {len f i n r : Nat} {c : Int32} {w nu : Nat → Int32} (hl : len ≤ 200) (h4 : B 127 4 = nI len) (hT : ∀ j, j < len → B 130 j = T j) (hW : mWd B) (hf : f ≤ len) (hB : tB T len f ≤ len) : ∀ (k h : Nat), h ≤ 7 → 7 - h < k → ∀ v : Int32, ((v = 1 ∧ tB T len f = f + 7 ∧ ∀ j, j < h → T (f + j) = (zConByt.getD 1 []).getD j 0) ∨ (v = 0 ∧ ¬ tIs T len f 1)) → zA g l yX12_isWord cX12_isWord 4 (some .boolean) 0 0 0 (zQi (fun r' M' => M' = (pM B f (tB T len f) i n r c w nu) ∧ (((tIs T len f 1) ∧ r' = 1) ∨ (¬ (tIs T len f 1) ∧ r' = 0)))) 22 0 0 S0 (pM B f (tB T len f) i n r c w nu) [.ref 127, .ref 141, .int v, .int (nI h)] [] := by
  intro k
  induction k with
  | zero => intro h hh hk; exact absurd hk (Nat.not_lt_zero _)
  | succ k ih =>
    intro h hh hk v hv
    refine z_iload_n dX12_isWord_22 rfl ?_
    refine z_aload_n dX12_isWord_23 rfl ?_
    refine z_alen dX12_isWord_24 k0_141 s0_141 (by decide) ?_
    refine z_icmp_ge (tgt := 61) dX12_isWord_25 (by decide) (fun b25 => ?_) (fun b25 => ?_)
    · have e2 : h = 7 := by have := (nI_leI (a := 7) (b := h) (by omega) (by omega)).mp b25; omega
      subst e2
      refine z_iload_n dX12_isWord_61 rfl ?_
      refine z_iret dX12_isWord_62 (by rcases hv with ⟨rfl, -⟩ | ⟨rfl, -⟩ <;> rfl) zle ?_
      rcases hv with ⟨rfl, v2, v3⟩ | ⟨rfl, v2⟩
      · first
        | exact ⟨rfl, Or.inl ⟨⟨v2, v3⟩, rfl⟩⟩
        | exact absurd b29 (by decide)
      · exact ⟨rfl, Or.inr ⟨v2, rfl⟩⟩
    · have hn : h < 7 := Nat.lt_of_not_le (fun zz => b25 ((nI_leI (a := 7) (b := h) (by omega) (by omega)).mpr zz))
      refine z_iload_n dX12_isWord_28 rfl ?_
      refine z_if_eq (tgt := 61) dX12_isWord_29 (by decide) (fun b29 => ?_) (fun b29 => ?_)
      · refine z_iload_n dX12_isWord_61 rfl ?_
        refine z_iret dX12_isWord_62 (by rcases hv with ⟨rfl, -⟩ | ⟨rfl, -⟩ <;> rfl) zle ?_
        rcases hv with ⟨rfl, v2, v3⟩ | ⟨rfl, v2⟩
        · first
          | exact ⟨rfl, Or.inl ⟨⟨v2, v3⟩, rfl⟩⟩
          | exact absurd b29 (by decide)
        · exact ⟨rfl, Or.inr ⟨v2, rfl⟩⟩
      · obtain ⟨v1, v2, v3⟩ := hv.resolve_right (fun z => b29 z.1)
        refine z_aload_n dX12_isWord_32 rfl ?_
        refine z_getR (j := 3) (r := 130) kX12 lf_X12_17 (by decide) rfl dX12_isWord_33 k0_127 s0_127 r0_127_3 (by decide) ?_
        refine z_aload_n dX12_isWord_36 rfl ?_
        refine z_getIV (j := 12) kX12 lf_X12_98 (by decide) rfl (rfl : _ = nI f) dX12_isWord_37 k0_127 s0_127 ?_
        refine z_iload_n dX12_isWord_40 rfl ?_
        refine z_iaddN (a := f) (b := h) rfl rfl dX12_isWord_41 ?_
        refine z_ialdV (j := (f + h)) rfl (by omega) (hT (f + h) (by omega)) dX12_isWord_42 k0_130 s0_130 ?_
        refine z_aload_n dX12_isWord_43 rfl ?_
        refine z_iload_n dX12_isWord_44 rfl ?_
        refine z_ialdV (j := h) rfl (by omega) ((congrFun (hW 141 (by omega) (by omega)) h).trans (wd_1 h hn)) dX12_isWord_45 k0_141 s0_141 ?_
        refine z_icmp_ne (tgt := 53) dX12_isWord_46 (by decide) (fun b46 => ?_) (fun b46 => ?_)
        · refine z_iconst (v := 0) dX12_isWord_53 (by decide) ?_
          refine z_istore_n dX12_isWord_54 (by decide) rfl rfl ?_
          refine z_iincN (k := h) dX12_isWord_55 rfl rfl (by decide) rfl rfl ?_
          refine z_goto (tgt := 22) dX12_isWord_58 (by decide) ?_
          first
            | exact ih (h + 1) (by omega) (by omega) _ (Or.inl ⟨rfl, v2, fun j hj => by
                by_cases e : j = h
                · subst e; exact b46
                · exact v3 j (by omega)⟩)
            | exact ih (h + 1) (by omega) (by omega) _ (Or.inr ⟨rfl, fun z => b46 (z.2 h hn)⟩)
        · refine z_iconst (v := 1) dX12_isWord_49 (by decide) ?_
          refine z_goto (tgt := 54) dX12_isWord_50 (by decide) ?_
          refine z_istore_n dX12_isWord_54 (by decide) rfl rfl ?_
          refine z_iincN (k := h) dX12_isWord_55 rfl rfl (by decide) rfl rfl ?_
          refine z_goto (tgt := 22) dX12_isWord_58 (by decide) ?_
          first
            | exact ih (h + 1) (by omega) (by omega) _ (Or.inl ⟨rfl, v2, fun j hj => by
                by_cases e : j = h
                · subst e; exact b46
                · exact v3 j (by omega)⟩)
            | exact ih (h + 1) (by omega) (by omega) _ (Or.inr ⟨rfl, fun z => b46 (z.2 h hn)⟩)

set_option maxRecDepth 100000 in
set_option maxHeartbeats 4000000 in
theorem c_isWord1 (g : zG) (l : Launch) {B : zM} {T : Nat → Int32} {len f i n r : Nat} {c : Int32} {w nu : Nat → Int32} (hl : len ≤ 200) (h4 : B 127 4 = nI len) (hT : ∀ j, j < len → B 130 j = T j) (hW : mWd B) (hf : f ≤ len) : zMet g l yX12_isWord cX12_isWord 4 (some .boolean) 0 0 0 [.ref 127, .ref 141] S0 (pM B f (tB T len f) i n r c w nu) (zQi (fun r' M' => M' = (pM B f (tB T len f) i n r c w nu) ∧ (((tIs T len f 1) ∧ r' = 1) ∨ (¬ (tIs T len f 1) ∧ r' = 0)))) := by
  have hB := tB_r (T := T) hf
  refine zMet.of (by decide) (Nat.le_of_ble_eq_true rfl) ?_
  refine z_aload_n dX12_isWord_0 rfl ?_
  refine z_getIV (j := 13) kX12 lf_X12_95 (by decide) rfl (rfl : _ = nI (tB T len f)) dX12_isWord_1 k0_127 s0_127 ?_
  refine z_aload_n dX12_isWord_4 rfl ?_
  refine z_getIV (j := 12) kX12 lf_X12_98 (by decide) rfl (rfl : _ = nI f) dX12_isWord_5 k0_127 s0_127 ?_
  refine z_isub dX12_isWord_8 ?_
  rw [nI_subs hB.1]
  refine z_aload_n dX12_isWord_9 rfl ?_
  refine z_alen dX12_isWord_10 k0_141 s0_141 (by decide) ?_
  refine z_icmp_ne (tgt := 18) dX12_isWord_11 (by decide) (fun b11 => ?_) (fun b11 => ?_)
  · have nb : ¬ tIs T len f 1 := fun z => b11 (by have := z.1; rw [show tB T len f - f = 7 by rw [this]; exact Nat.add_sub_cancel_left _ _])
    refine z_iconst (v := 0) dX12_isWord_18 (by decide) ?_
    refine z_istore_n dX12_isWord_19 (by decide) rfl rfl ?_
    refine z_iconst (v := 0) dX12_isWord_20 (by decide) ?_
    refine z_istore_n dX12_isWord_21 (by decide) rfl rfl ?_
    first
      | exact lp_isWord1 g l hl h4 hT hW hf hB.2.1 8 0 (Nat.zero_le _) (by omega) _ (Or.inl ⟨rfl, yb, fun j hj => absurd hj (Nat.not_lt_zero _)⟩)
      | exact lp_isWord1 g l hl h4 hT hW hf hB.2.1 8 0 (Nat.zero_le _) (by omega) _ (Or.inr ⟨rfl, nb⟩)
  · have yb : tB T len f = f + 7 := by have := (nI_eq (b := 7) (by omega) (by omega)).mp b11; omega
    refine z_iconst (v := 1) dX12_isWord_14 (by decide) ?_
    refine z_goto (tgt := 19) dX12_isWord_15 (by decide) ?_
    refine z_istore_n dX12_isWord_19 (by decide) rfl rfl ?_
    refine z_iconst (v := 0) dX12_isWord_20 (by decide) ?_
    refine z_istore_n dX12_isWord_21 (by decide) rfl rfl ?_
    first
      | exact lp_isWord1 g l hl h4 hT hW hf hB.2.1 8 0 (Nat.zero_le _) (by omega) _ (Or.inl ⟨rfl, yb, fun j hj => absurd hj (Nat.not_lt_zero _)⟩)
      | exact lp_isWord1 g l hl h4 hT hW hf hB.2.1 8 0 (Nat.zero_le _) (by omega) _ (Or.inr ⟨rfl, nb⟩)

theorem wd_2 : ∀ j, j < 4 → S0i 142 j = (zConByt.getD 2 []).getD j 0 := by decide
set_option maxRecDepth 100000 in
set_option maxHeartbeats 4000000 in
theorem lp_isWord2 (g : zG) (l : Launch) {B : zM} {T : Nat → Int32} {len f i n r : Nat} {c : Int32} {w nu : Nat → Int32} (hl : len ≤ 200) (h4 : B 127 4 = nI len) (hT : ∀ j, j < len → B 130 j = T j) (hW : mWd B) (hf : f ≤ len) (hB : tB T len f ≤ len) : ∀ (k h : Nat), h ≤ 4 → 4 - h < k → ∀ v : Int32, ((v = 1 ∧ tB T len f = f + 4 ∧ ∀ j, j < h → T (f + j) = (zConByt.getD 2 []).getD j 0) ∨ (v = 0 ∧ ¬ tIs T len f 2)) → zA g l yX12_isWord cX12_isWord 4 (some .boolean) 0 0 0 (zQi (fun r' M' => M' = (pM B f (tB T len f) i n r c w nu) ∧ (((tIs T len f 2) ∧ r' = 1) ∨ (¬ (tIs T len f 2) ∧ r' = 0)))) 22 0 0 S0 (pM B f (tB T len f) i n r c w nu) [.ref 127, .ref 142, .int v, .int (nI h)] [] := by
  intro k
  induction k with
  | zero => intro h hh hk; exact absurd hk (Nat.not_lt_zero _)
  | succ k ih =>
    intro h hh hk v hv
    refine z_iload_n dX12_isWord_22 rfl ?_
    refine z_aload_n dX12_isWord_23 rfl ?_
    refine z_alen dX12_isWord_24 k0_142 s0_142 (by decide) ?_
    refine z_icmp_ge (tgt := 61) dX12_isWord_25 (by decide) (fun b25 => ?_) (fun b25 => ?_)
    · have e2 : h = 4 := by have := (nI_leI (a := 4) (b := h) (by omega) (by omega)).mp b25; omega
      subst e2
      refine z_iload_n dX12_isWord_61 rfl ?_
      refine z_iret dX12_isWord_62 (by rcases hv with ⟨rfl, -⟩ | ⟨rfl, -⟩ <;> rfl) zle ?_
      rcases hv with ⟨rfl, v2, v3⟩ | ⟨rfl, v2⟩
      · first
        | exact ⟨rfl, Or.inl ⟨⟨v2, v3⟩, rfl⟩⟩
        | exact absurd b29 (by decide)
      · exact ⟨rfl, Or.inr ⟨v2, rfl⟩⟩
    · have hn : h < 4 := Nat.lt_of_not_le (fun zz => b25 ((nI_leI (a := 4) (b := h) (by omega) (by omega)).mpr zz))
      refine z_iload_n dX12_isWord_28 rfl ?_
      refine z_if_eq (tgt := 61) dX12_isWord_29 (by decide) (fun b29 => ?_) (fun b29 => ?_)
      · refine z_iload_n dX12_isWord_61 rfl ?_
        refine z_iret dX12_isWord_62 (by rcases hv with ⟨rfl, -⟩ | ⟨rfl, -⟩ <;> rfl) zle ?_
        rcases hv with ⟨rfl, v2, v3⟩ | ⟨rfl, v2⟩
        · first
          | exact ⟨rfl, Or.inl ⟨⟨v2, v3⟩, rfl⟩⟩
          | exact absurd b29 (by decide)
        · exact ⟨rfl, Or.inr ⟨v2, rfl⟩⟩
      · obtain ⟨v1, v2, v3⟩ := hv.resolve_right (fun z => b29 z.1)
        refine z_aload_n dX12_isWord_32 rfl ?_
        refine z_getR (j := 3) (r := 130) kX12 lf_X12_17 (by decide) rfl dX12_isWord_33 k0_127 s0_127 r0_127_3 (by decide) ?_
        refine z_aload_n dX12_isWord_36 rfl ?_
        refine z_getIV (j := 12) kX12 lf_X12_98 (by decide) rfl (rfl : _ = nI f) dX12_isWord_37 k0_127 s0_127 ?_
        refine z_iload_n dX12_isWord_40 rfl ?_
        refine z_iaddN (a := f) (b := h) rfl rfl dX12_isWord_41 ?_
        refine z_ialdV (j := (f + h)) rfl (by omega) (hT (f + h) (by omega)) dX12_isWord_42 k0_130 s0_130 ?_
        refine z_aload_n dX12_isWord_43 rfl ?_
        refine z_iload_n dX12_isWord_44 rfl ?_
        refine z_ialdV (j := h) rfl (by omega) ((congrFun (hW 142 (by omega) (by omega)) h).trans (wd_2 h hn)) dX12_isWord_45 k0_142 s0_142 ?_
        refine z_icmp_ne (tgt := 53) dX12_isWord_46 (by decide) (fun b46 => ?_) (fun b46 => ?_)
        · refine z_iconst (v := 0) dX12_isWord_53 (by decide) ?_
          refine z_istore_n dX12_isWord_54 (by decide) rfl rfl ?_
          refine z_iincN (k := h) dX12_isWord_55 rfl rfl (by decide) rfl rfl ?_
          refine z_goto (tgt := 22) dX12_isWord_58 (by decide) ?_
          first
            | exact ih (h + 1) (by omega) (by omega) _ (Or.inl ⟨rfl, v2, fun j hj => by
                by_cases e : j = h
                · subst e; exact b46
                · exact v3 j (by omega)⟩)
            | exact ih (h + 1) (by omega) (by omega) _ (Or.inr ⟨rfl, fun z => b46 (z.2 h hn)⟩)
        · refine z_iconst (v := 1) dX12_isWord_49 (by decide) ?_
          refine z_goto (tgt := 54) dX12_isWord_50 (by decide) ?_
          refine z_istore_n dX12_isWord_54 (by decide) rfl rfl ?_
          refine z_iincN (k := h) dX12_isWord_55 rfl rfl (by decide) rfl rfl ?_
          refine z_goto (tgt := 22) dX12_isWord_58 (by decide) ?_
          first
            | exact ih (h + 1) (by omega) (by omega) _ (Or.inl ⟨rfl, v2, fun j hj => by
                by_cases e : j = h
                · subst e; exact b46
                · exact v3 j (by omega)⟩)
            | exact ih (h + 1) (by omega) (by omega) _ (Or.inr ⟨rfl, fun z => b46 (z.2 h hn)⟩)

set_option maxRecDepth 100000 in
set_option maxHeartbeats 4000000 in
theorem c_isWord2 (g : zG) (l : Launch) {B : zM} {T : Nat → Int32} {len f i n r : Nat} {c : Int32} {w nu : Nat → Int32} (hl : len ≤ 200) (h4 : B 127 4 = nI len) (hT : ∀ j, j < len → B 130 j = T j) (hW : mWd B) (hf : f ≤ len) : zMet g l yX12_isWord cX12_isWord 4 (some .boolean) 0 0 0 [.ref 127, .ref 142] S0 (pM B f (tB T len f) i n r c w nu) (zQi (fun r' M' => M' = (pM B f (tB T len f) i n r c w nu) ∧ (((tIs T len f 2) ∧ r' = 1) ∨ (¬ (tIs T len f 2) ∧ r' = 0)))) := by
  have hB := tB_r (T := T) hf
  refine zMet.of (by decide) (Nat.le_of_ble_eq_true rfl) ?_
  refine z_aload_n dX12_isWord_0 rfl ?_
  refine z_getIV (j := 13) kX12 lf_X12_95 (by decide) rfl (rfl : _ = nI (tB T len f)) dX12_isWord_1 k0_127 s0_127 ?_
  refine z_aload_n dX12_isWord_4 rfl ?_
  refine z_getIV (j := 12) kX12 lf_X12_98 (by decide) rfl (rfl : _ = nI f) dX12_isWord_5 k0_127 s0_127 ?_
  refine z_isub dX12_isWord_8 ?_
  rw [nI_subs hB.1]
  refine z_aload_n dX12_isWord_9 rfl ?_
  refine z_alen dX12_isWord_10 k0_142 s0_142 (by decide) ?_
  refine z_icmp_ne (tgt := 18) dX12_isWord_11 (by decide) (fun b11 => ?_) (fun b11 => ?_)
  · have nb : ¬ tIs T len f 2 := fun z => b11 (by have := z.1; rw [show tB T len f - f = 4 by rw [this]; exact Nat.add_sub_cancel_left _ _])
    refine z_iconst (v := 0) dX12_isWord_18 (by decide) ?_
    refine z_istore_n dX12_isWord_19 (by decide) rfl rfl ?_
    refine z_iconst (v := 0) dX12_isWord_20 (by decide) ?_
    refine z_istore_n dX12_isWord_21 (by decide) rfl rfl ?_
    first
      | exact lp_isWord2 g l hl h4 hT hW hf hB.2.1 5 0 (Nat.zero_le _) (by omega) _ (Or.inl ⟨rfl, yb, fun j hj => absurd hj (Nat.not_lt_zero _)⟩)
      | exact lp_isWord2 g l hl h4 hT hW hf hB.2.1 5 0 (Nat.zero_le _) (by omega) _ (Or.inr ⟨rfl, nb⟩)
  · have yb : tB T len f = f + 4 := by have := (nI_eq (b := 4) (by omega) (by omega)).mp b11; omega
    refine z_iconst (v := 1) dX12_isWord_14 (by decide) ?_
    refine z_goto (tgt := 19) dX12_isWord_15 (by decide) ?_
    refine z_istore_n dX12_isWord_19 (by decide) rfl rfl ?_
    refine z_iconst (v := 0) dX12_isWord_20 (by decide) ?_
    refine z_istore_n dX12_isWord_21 (by decide) rfl rfl ?_
    first
      | exact lp_isWord2 g l hl h4 hT hW hf hB.2.1 5 0 (Nat.zero_le _) (by omega) _ (Or.inl ⟨rfl, yb, fun j hj => absurd hj (Nat.not_lt_zero _)⟩)
      | exact lp_isWord2 g l hl h4 hT hW hf hB.2.1 5 0 (Nat.zero_le _) (by omega) _ (Or.inr ⟨rfl, nb⟩)

theorem wd_3 : ∀ j, j < 4 → S0i 143 j = (zConByt.getD 3 []).getD j 0 := by decide
set_option maxRecDepth 100000 in
set_option maxHeartbeats 4000000 in
theorem lp_isWord3 (g : zG) (l : Launch) {B : zM} {T : Nat → Int32} {len f i n r : Nat} {c : Int32} {w nu : Nat → Int32} (hl : len ≤ 200) (h4 : B 127 4 = nI len) (hT : ∀ j, j < len → B 130 j = T j) (hW : mWd B) (hf : f ≤ len) (hB : tB T len f ≤ len) : ∀ (k h : Nat), h ≤ 4 → 4 - h < k → ∀ v : Int32, ((v = 1 ∧ tB T len f = f + 4 ∧ ∀ j, j < h → T (f + j) = (zConByt.getD 3 []).getD j 0) ∨ (v = 0 ∧ ¬ tIs T len f 3)) → zA g l yX12_isWord cX12_isWord 4 (some .boolean) 0 0 0 (zQi (fun r' M' => M' = (pM B f (tB T len f) i n r c w nu) ∧ (((tIs T len f 3) ∧ r' = 1) ∨ (¬ (tIs T len f 3) ∧ r' = 0)))) 22 0 0 S0 (pM B f (tB T len f) i n r c w nu) [.ref 127, .ref 143, .int v, .int (nI h)] [] := by
  intro k
  induction k with
  | zero => intro h hh hk; exact absurd hk (Nat.not_lt_zero _)
  | succ k ih =>
    intro h hh hk v hv
    refine z_iload_n dX12_isWord_22 rfl ?_
    refine z_aload_n dX12_isWord_23 rfl ?_
    refine z_alen dX12_isWord_24 k0_143 s0_143 (by decide) ?_
    refine z_icmp_ge (tgt := 61) dX12_isWord_25 (by decide) (fun b25 => ?_) (fun b25 => ?_)
    · have e2 : h = 4 := by have := (nI_leI (a := 4) (b := h) (by omega) (by omega)).mp b25; omega
      subst e2
      refine z_iload_n dX12_isWord_61 rfl ?_
      refine z_iret dX12_isWord_62 (by rcases hv with ⟨rfl, -⟩ | ⟨rfl, -⟩ <;> rfl) zle ?_
      rcases hv with ⟨rfl, v2, v3⟩ | ⟨rfl, v2⟩
      · first
        | exact ⟨rfl, Or.inl ⟨⟨v2, v3⟩, rfl⟩⟩
        | exact absurd b29 (by decide)
      · exact ⟨rfl, Or.inr ⟨v2, rfl⟩⟩
    · have hn : h < 4 := Nat.lt_of_not_le (fun zz => b25 ((nI_leI (a := 4) (b := h) (by omega) (by omega)).mpr zz))
      refine z_iload_n dX12_isWord_28 rfl ?_
      refine z_if_eq (tgt := 61) dX12_isWord_29 (by decide) (fun b29 => ?_) (fun b29 => ?_)
      · refine z_iload_n dX12_isWord_61 rfl ?_
        refine z_iret dX12_isWord_62 (by rcases hv with ⟨rfl, -⟩ | ⟨rfl, -⟩ <;> rfl) zle ?_
        rcases hv with ⟨rfl, v2, v3⟩ | ⟨rfl, v2⟩
        · first
          | exact ⟨rfl, Or.inl ⟨⟨v2, v3⟩, rfl⟩⟩
          | exact absurd b29 (by decide)
        · exact ⟨rfl, Or.inr ⟨v2, rfl⟩⟩
      · obtain ⟨v1, v2, v3⟩ := hv.resolve_right (fun z => b29 z.1)
        refine z_aload_n dX12_isWord_32 rfl ?_
        refine z_getR (j := 3) (r := 130) kX12 lf_X12_17 (by decide) rfl dX12_isWord_33 k0_127 s0_127 r0_127_3 (by decide) ?_
        refine z_aload_n dX12_isWord_36 rfl ?_
        refine z_getIV (j := 12) kX12 lf_X12_98 (by decide) rfl (rfl : _ = nI f) dX12_isWord_37 k0_127 s0_127 ?_
        refine z_iload_n dX12_isWord_40 rfl ?_
        refine z_iaddN (a := f) (b := h) rfl rfl dX12_isWord_41 ?_
        refine z_ialdV (j := (f + h)) rfl (by omega) (hT (f + h) (by omega)) dX12_isWord_42 k0_130 s0_130 ?_
        refine z_aload_n dX12_isWord_43 rfl ?_
        refine z_iload_n dX12_isWord_44 rfl ?_
        refine z_ialdV (j := h) rfl (by omega) ((congrFun (hW 143 (by omega) (by omega)) h).trans (wd_3 h hn)) dX12_isWord_45 k0_143 s0_143 ?_
        refine z_icmp_ne (tgt := 53) dX12_isWord_46 (by decide) (fun b46 => ?_) (fun b46 => ?_)
        · refine z_iconst (v := 0) dX12_isWord_53 (by decide) ?_
          refine z_istore_n dX12_isWord_54 (by decide) rfl rfl ?_
          refine z_iincN (k := h) dX12_isWord_55 rfl rfl (by decide) rfl rfl ?_
          refine z_goto (tgt := 22) dX12_isWord_58 (by decide) ?_
          first
            | exact ih (h + 1) (by omega) (by omega) _ (Or.inl ⟨rfl, v2, fun j hj => by
                by_cases e : j = h
                · subst e; exact b46
                · exact v3 j (by omega)⟩)
            | exact ih (h + 1) (by omega) (by omega) _ (Or.inr ⟨rfl, fun z => b46 (z.2 h hn)⟩)
        · refine z_iconst (v := 1) dX12_isWord_49 (by decide) ?_
          refine z_goto (tgt := 54) dX12_isWord_50 (by decide) ?_
          refine z_istore_n dX12_isWord_54 (by decide) rfl rfl ?_
          refine z_iincN (k := h) dX12_isWord_55 rfl rfl (by decide) rfl rfl ?_
          refine z_goto (tgt := 22) dX12_isWord_58 (by decide) ?_
          first
            | exact ih (h + 1) (by omega) (by omega) _ (Or.inl ⟨rfl, v2, fun j hj => by
                by_cases e : j = h
                · subst e; exact b46
                · exact v3 j (by omega)⟩)
            | exact ih (h + 1) (by omega) (by omega) _ (Or.inr ⟨rfl, fun z => b46 (z.2 h hn)⟩)

set_option maxRecDepth 100000 in
set_option maxHeartbeats 4000000 in
theorem c_isWord3 (g : zG) (l : Launch) {B : zM} {T : Nat → Int32} {len f i n r : Nat} {c : Int32} {w nu : Nat → Int32} (hl : len ≤ 200) (h4 : B 127 4 = nI len) (hT : ∀ j, j < len → B 130 j = T j) (hW : mWd B) (hf : f ≤ len) : zMet g l yX12_isWord cX12_isWord 4 (some .boolean) 0 0 0 [.ref 127, .ref 143] S0 (pM B f (tB T len f) i n r c w nu) (zQi (fun r' M' => M' = (pM B f (tB T len f) i n r c w nu) ∧ (((tIs T len f 3) ∧ r' = 1) ∨ (¬ (tIs T len f 3) ∧ r' = 0)))) := by
  have hB := tB_r (T := T) hf
  refine zMet.of (by decide) (Nat.le_of_ble_eq_true rfl) ?_
  refine z_aload_n dX12_isWord_0 rfl ?_
  refine z_getIV (j := 13) kX12 lf_X12_95 (by decide) rfl (rfl : _ = nI (tB T len f)) dX12_isWord_1 k0_127 s0_127 ?_
  refine z_aload_n dX12_isWord_4 rfl ?_
  refine z_getIV (j := 12) kX12 lf_X12_98 (by decide) rfl (rfl : _ = nI f) dX12_isWord_5 k0_127 s0_127 ?_
  refine z_isub dX12_isWord_8 ?_
  rw [nI_subs hB.1]
  refine z_aload_n dX12_isWord_9 rfl ?_
  refine z_alen dX12_isWord_10 k0_143 s0_143 (by decide) ?_
  refine z_icmp_ne (tgt := 18) dX12_isWord_11 (by decide) (fun b11 => ?_) (fun b11 => ?_)
  · have nb : ¬ tIs T len f 3 := fun z => b11 (by have := z.1; rw [show tB T len f - f = 4 by rw [this]; exact Nat.add_sub_cancel_left _ _])
    refine z_iconst (v := 0) dX12_isWord_18 (by decide) ?_
    refine z_istore_n dX12_isWord_19 (by decide) rfl rfl ?_
    refine z_iconst (v := 0) dX12_isWord_20 (by decide) ?_
    refine z_istore_n dX12_isWord_21 (by decide) rfl rfl ?_
    first
      | exact lp_isWord3 g l hl h4 hT hW hf hB.2.1 5 0 (Nat.zero_le _) (by omega) _ (Or.inl ⟨rfl, yb, fun j hj => absurd hj (Nat.not_lt_zero _)⟩)
      | exact lp_isWord3 g l hl h4 hT hW hf hB.2.1 5 0 (Nat.zero_le _) (by omega) _ (Or.inr ⟨rfl, nb⟩)
  · have yb : tB T len f = f + 4 := by have := (nI_eq (b := 4) (by omega) (by omega)).mp b11; omega
    refine z_iconst (v := 1) dX12_isWord_14 (by decide) ?_
    refine z_goto (tgt := 19) dX12_isWord_15 (by decide) ?_
    refine z_istore_n dX12_isWord_19 (by decide) rfl rfl ?_
    refine z_iconst (v := 0) dX12_isWord_20 (by decide) ?_
    refine z_istore_n dX12_isWord_21 (by decide) rfl rfl ?_
    first
      | exact lp_isWord3 g l hl h4 hT hW hf hB.2.1 5 0 (Nat.zero_le _) (by omega) _ (Or.inl ⟨rfl, yb, fun j hj => absurd hj (Nat.not_lt_zero _)⟩)
      | exact lp_isWord3 g l hl h4 hT hW hf hB.2.1 5 0 (Nat.zero_le _) (by omega) _ (Or.inr ⟨rfl, nb⟩)

theorem wd_4 : ∀ j, j < 8 → S0i 144 j = (zConByt.getD 4 []).getD j 0 := by decide
set_option maxRecDepth 100000 in
set_option maxHeartbeats 4000000 in
theorem lp_isWord4 (g : zG) (l : Launch) {B : zM} {T : Nat → Int32} {len f i n r : Nat} {c : Int32} {w nu : Nat → Int32} (hl : len ≤ 200) (h4 : B 127 4 = nI len) (hT : ∀ j, j < len → B 130 j = T j) (hW : mWd B) (hf : f ≤ len) (hB : tB T len f ≤ len) : ∀ (k h : Nat), h ≤ 8 → 8 - h < k → ∀ v : Int32, ((v = 1 ∧ tB T len f = f + 8 ∧ ∀ j, j < h → T (f + j) = (zConByt.getD 4 []).getD j 0) ∨ (v = 0 ∧ ¬ tIs T len f 4)) → zA g l yX12_isWord cX12_isWord 4 (some .boolean) 0 0 0 (zQi (fun r' M' => M' = (pM B f (tB T len f) i n r c w nu) ∧ (((tIs T len f 4) ∧ r' = 1) ∨ (¬ (tIs T len f 4) ∧ r' = 0)))) 22 0 0 S0 (pM B f (tB T len f) i n r c w nu) [.ref 127, .ref 144, .int v, .int (nI h)] [] := by
  intro k
  induction k with
  | zero => intro h hh hk; exact absurd hk (Nat.not_lt_zero _)
  | succ k ih =>
    intro h hh hk v hv
    refine z_iload_n dX12_isWord_22 rfl ?_
    refine z_aload_n dX12_isWord_23 rfl ?_
    refine z_alen dX12_isWord_24 k0_144 s0_144 (by decide) ?_
    refine z_icmp_ge (tgt := 61) dX12_isWord_25 (by decide) (fun b25 => ?_) (fun b25 => ?_)
    · have e2 : h = 8 := by have := (nI_leI (a := 8) (b := h) (by omega) (by omega)).mp b25; omega
      subst e2
      refine z_iload_n dX12_isWord_61 rfl ?_
      refine z_iret dX12_isWord_62 (by rcases hv with ⟨rfl, -⟩ | ⟨rfl, -⟩ <;> rfl) zle ?_
      rcases hv with ⟨rfl, v2, v3⟩ | ⟨rfl, v2⟩
      · first
        | exact ⟨rfl, Or.inl ⟨⟨v2, v3⟩, rfl⟩⟩
        | exact absurd b29 (by decide)
      · exact ⟨rfl, Or.inr ⟨v2, rfl⟩⟩
    · have hn : h < 8 := Nat.lt_of_not_le (fun zz => b25 ((nI_leI (a := 8) (b := h) (by omega) (by omega)).mpr zz))
      refine z_iload_n dX12_isWord_28 rfl ?_
      refine z_if_eq (tgt := 61) dX12_isWord_29 (by decide) (fun b29 => ?_) (fun b29 => ?_)
      · refine z_iload_n dX12_isWord_61 rfl ?_
        refine z_iret dX12_isWord_62 (by rcases hv with ⟨rfl, -⟩ | ⟨rfl, -⟩ <;> rfl) zle ?_
        rcases hv with ⟨rfl, v2, v3⟩ | ⟨rfl, v2⟩
        · first
          | exact ⟨rfl, Or.inl ⟨⟨v2, v3⟩, rfl⟩⟩
          | exact absurd b29 (by decide)
        · exact ⟨rfl, Or.inr ⟨v2, rfl⟩⟩
      · obtain ⟨v1, v2, v3⟩ := hv.resolve_right (fun z => b29 z.1)
        refine z_aload_n dX12_isWord_32 rfl ?_
        refine z_getR (j := 3) (r := 130) kX12 lf_X12_17 (by decide) rfl dX12_isWord_33 k0_127 s0_127 r0_127_3 (by decide) ?_
        refine z_aload_n dX12_isWord_36 rfl ?_
        refine z_getIV (j := 12) kX12 lf_X12_98 (by decide) rfl (rfl : _ = nI f) dX12_isWord_37 k0_127 s0_127 ?_
        refine z_iload_n dX12_isWord_40 rfl ?_
        refine z_iaddN (a := f) (b := h) rfl rfl dX12_isWord_41 ?_
        refine z_ialdV (j := (f + h)) rfl (by omega) (hT (f + h) (by omega)) dX12_isWord_42 k0_130 s0_130 ?_
        refine z_aload_n dX12_isWord_43 rfl ?_
        refine z_iload_n dX12_isWord_44 rfl ?_
        refine z_ialdV (j := h) rfl (by omega) ((congrFun (hW 144 (by omega) (by omega)) h).trans (wd_4 h hn)) dX12_isWord_45 k0_144 s0_144 ?_
        refine z_icmp_ne (tgt := 53) dX12_isWord_46 (by decide) (fun b46 => ?_) (fun b46 => ?_)
        · refine z_iconst (v := 0) dX12_isWord_53 (by decide) ?_
          refine z_istore_n dX12_isWord_54 (by decide) rfl rfl ?_
          refine z_iincN (k := h) dX12_isWord_55 rfl rfl (by decide) rfl rfl ?_
          refine z_goto (tgt := 22) dX12_isWord_58 (by decide) ?_
          first
            | exact ih (h + 1) (by omega) (by omega) _ (Or.inl ⟨rfl, v2, fun j hj => by
                by_cases e : j = h
                · subst e; exact b46
                · exact v3 j (by omega)⟩)
            | exact ih (h + 1) (by omega) (by omega) _ (Or.inr ⟨rfl, fun z => b46 (z.2 h hn)⟩)
        · refine z_iconst (v := 1) dX12_isWord_49 (by decide) ?_
          refine z_goto (tgt := 54) dX12_isWord_50 (by decide) ?_
          refine z_istore_n dX12_isWord_54 (by decide) rfl rfl ?_
          refine z_iincN (k := h) dX12_isWord_55 rfl rfl (by decide) rfl rfl ?_
          refine z_goto (tgt := 22) dX12_isWord_58 (by decide) ?_
          first
            | exact ih (h + 1) (by omega) (by omega) _ (Or.inl ⟨rfl, v2, fun j hj => by
                by_cases e : j = h
                · subst e; exact b46
                · exact v3 j (by omega)⟩)
            | exact ih (h + 1) (by omega) (by omega) _ (Or.inr ⟨rfl, fun z => b46 (z.2 h hn)⟩)

set_option maxRecDepth 100000 in
set_option maxHeartbeats 4000000 in
theorem c_isWord4 (g : zG) (l : Launch) {B : zM} {T : Nat → Int32} {len f i n r : Nat} {c : Int32} {w nu : Nat → Int32} (hl : len ≤ 200) (h4 : B 127 4 = nI len) (hT : ∀ j, j < len → B 130 j = T j) (hW : mWd B) (hf : f ≤ len) : zMet g l yX12_isWord cX12_isWord 4 (some .boolean) 0 0 0 [.ref 127, .ref 144] S0 (pM B f (tB T len f) i n r c w nu) (zQi (fun r' M' => M' = (pM B f (tB T len f) i n r c w nu) ∧ (((tIs T len f 4) ∧ r' = 1) ∨ (¬ (tIs T len f 4) ∧ r' = 0)))) := by
  have hB := tB_r (T := T) hf
  refine zMet.of (by decide) (Nat.le_of_ble_eq_true rfl) ?_
  refine z_aload_n dX12_isWord_0 rfl ?_
  refine z_getIV (j := 13) kX12 lf_X12_95 (by decide) rfl (rfl : _ = nI (tB T len f)) dX12_isWord_1 k0_127 s0_127 ?_
  refine z_aload_n dX12_isWord_4 rfl ?_
  refine z_getIV (j := 12) kX12 lf_X12_98 (by decide) rfl (rfl : _ = nI f) dX12_isWord_5 k0_127 s0_127 ?_
  refine z_isub dX12_isWord_8 ?_
  rw [nI_subs hB.1]
  refine z_aload_n dX12_isWord_9 rfl ?_
  refine z_alen dX12_isWord_10 k0_144 s0_144 (by decide) ?_
  refine z_icmp_ne (tgt := 18) dX12_isWord_11 (by decide) (fun b11 => ?_) (fun b11 => ?_)
  · have nb : ¬ tIs T len f 4 := fun z => b11 (by have := z.1; rw [show tB T len f - f = 8 by rw [this]; exact Nat.add_sub_cancel_left _ _])
    refine z_iconst (v := 0) dX12_isWord_18 (by decide) ?_
    refine z_istore_n dX12_isWord_19 (by decide) rfl rfl ?_
    refine z_iconst (v := 0) dX12_isWord_20 (by decide) ?_
    refine z_istore_n dX12_isWord_21 (by decide) rfl rfl ?_
    first
      | exact lp_isWord4 g l hl h4 hT hW hf hB.2.1 9 0 (Nat.zero_le _) (by omega) _ (Or.inl ⟨rfl, yb, fun j hj => absurd hj (Nat.not_lt_zero _)⟩)
      | exact lp_isWord4 g l hl h4 hT hW hf hB.2.1 9 0 (Nat.zero_le _) (by omega) _ (Or.inr ⟨rfl, nb⟩)
  · have yb : tB T len f = f + 8 := by have := (nI_eq (b := 8) (by omega) (by omega)).mp b11; omega
    refine z_iconst (v := 1) dX12_isWord_14 (by decide) ?_
    refine z_goto (tgt := 19) dX12_isWord_15 (by decide) ?_
    refine z_istore_n dX12_isWord_19 (by decide) rfl rfl ?_
    refine z_iconst (v := 0) dX12_isWord_20 (by decide) ?_
    refine z_istore_n dX12_isWord_21 (by decide) rfl rfl ?_
    first
      | exact lp_isWord4 g l hl h4 hT hW hf hB.2.1 9 0 (Nat.zero_le _) (by omega) _ (Or.inl ⟨rfl, yb, fun j hj => absurd hj (Nat.not_lt_zero _)⟩)
      | exact lp_isWord4 g l hl h4 hT hW hf hB.2.1 9 0 (Nat.zero_le _) (by omega) _ (Or.inr ⟨rfl, nb⟩)

theorem wd_5 : ∀ j, j < 4 → S0i 138 j = (zConByt.getD 5 []).getD j 0 := by decide
set_option maxRecDepth 100000 in
set_option maxHeartbeats 4000000 in
theorem lp_isWord5 (g : zG) (l : Launch) {B : zM} {T : Nat → Int32} {len f i n r : Nat} {c : Int32} {w nu : Nat → Int32} (hl : len ≤ 200) (h4 : B 127 4 = nI len) (hT : ∀ j, j < len → B 130 j = T j) (hW : mWd B) (hf : f ≤ len) (hB : tB T len f ≤ len) : ∀ (k h : Nat), h ≤ 4 → 4 - h < k → ∀ v : Int32, ((v = 1 ∧ tB T len f = f + 4 ∧ ∀ j, j < h → T (f + j) = (zConByt.getD 5 []).getD j 0) ∨ (v = 0 ∧ ¬ tIs T len f 5)) → zA g l yX12_isWord cX12_isWord 4 (some .boolean) 0 0 0 (zQi (fun r' M' => M' = (pM B f (tB T len f) i n r c w nu) ∧ (((tIs T len f 5) ∧ r' = 1) ∨ (¬ (tIs T len f 5) ∧ r' = 0)))) 22 0 0 S0 (pM B f (tB T len f) i n r c w nu) [.ref 127, .ref 138, .int v, .int (nI h)] [] := by
  intro k
  induction k with
  | zero => intro h hh hk; exact absurd hk (Nat.not_lt_zero _)
  | succ k ih =>
    intro h hh hk v hv
    refine z_iload_n dX12_isWord_22 rfl ?_
    refine z_aload_n dX12_isWord_23 rfl ?_
    refine z_alen dX12_isWord_24 k0_138 s0_138 (by decide) ?_
    refine z_icmp_ge (tgt := 61) dX12_isWord_25 (by decide) (fun b25 => ?_) (fun b25 => ?_)
    · have e2 : h = 4 := by have := (nI_leI (a := 4) (b := h) (by omega) (by omega)).mp b25; omega
      subst e2
      refine z_iload_n dX12_isWord_61 rfl ?_
      refine z_iret dX12_isWord_62 (by rcases hv with ⟨rfl, -⟩ | ⟨rfl, -⟩ <;> rfl) zle ?_
      rcases hv with ⟨rfl, v2, v3⟩ | ⟨rfl, v2⟩
      · first
        | exact ⟨rfl, Or.inl ⟨⟨v2, v3⟩, rfl⟩⟩
        | exact absurd b29 (by decide)
      · exact ⟨rfl, Or.inr ⟨v2, rfl⟩⟩
    · have hn : h < 4 := Nat.lt_of_not_le (fun zz => b25 ((nI_leI (a := 4) (b := h) (by omega) (by omega)).mpr zz))
      refine z_iload_n dX12_isWord_28 rfl ?_
      refine z_if_eq (tgt := 61) dX12_isWord_29 (by decide) (fun b29 => ?_) (fun b29 => ?_)
      · refine z_iload_n dX12_isWord_61 rfl ?_
        refine z_iret dX12_isWord_62 (by rcases hv with ⟨rfl, -⟩ | ⟨rfl, -⟩ <;> rfl) zle ?_
        rcases hv with ⟨rfl, v2, v3⟩ | ⟨rfl, v2⟩
        · first
          | exact ⟨rfl, Or.inl ⟨⟨v2, v3⟩, rfl⟩⟩
          | exact absurd b29 (by decide)
        · exact ⟨rfl, Or.inr ⟨v2, rfl⟩⟩
      · obtain ⟨v1, v2, v3⟩ := hv.resolve_right (fun z => b29 z.1)
        refine z_aload_n dX12_isWord_32 rfl ?_
        refine z_getR (j := 3) (r := 130) kX12 lf_X12_17 (by decide) rfl dX12_isWord_33 k0_127 s0_127 r0_127_3 (by decide) ?_
        refine z_aload_n dX12_isWord_36 rfl ?_
        refine z_getIV (j := 12) kX12 lf_X12_98 (by decide) rfl (rfl : _ = nI f) dX12_isWord_37 k0_127 s0_127 ?_
        refine z_iload_n dX12_isWord_40 rfl ?_
        refine z_iaddN (a := f) (b := h) rfl rfl dX12_isWord_41 ?_
        refine z_ialdV (j := (f + h)) rfl (by omega) (hT (f + h) (by omega)) dX12_isWord_42 k0_130 s0_130 ?_
        refine z_aload_n dX12_isWord_43 rfl ?_
        refine z_iload_n dX12_isWord_44 rfl ?_
        refine z_ialdV (j := h) rfl (by omega) ((congrFun (hW 138 (by omega) (by omega)) h).trans (wd_5 h hn)) dX12_isWord_45 k0_138 s0_138 ?_
        refine z_icmp_ne (tgt := 53) dX12_isWord_46 (by decide) (fun b46 => ?_) (fun b46 => ?_)
        · refine z_iconst (v := 0) dX12_isWord_53 (by decide) ?_
          refine z_istore_n dX12_isWord_54 (by decide) rfl rfl ?_
          refine z_iincN (k := h) dX12_isWord_55 rfl rfl (by decide) rfl rfl ?_
          refine z_goto (tgt := 22) dX12_isWord_58 (by decide) ?_
          first
            | exact ih (h + 1) (by omega) (by omega) _ (Or.inl ⟨rfl, v2, fun j hj => by
                by_cases e : j = h
                · subst e; exact b46
                · exact v3 j (by omega)⟩)
            | exact ih (h + 1) (by omega) (by omega) _ (Or.inr ⟨rfl, fun z => b46 (z.2 h hn)⟩)
        · refine z_iconst (v := 1) dX12_isWord_49 (by decide) ?_
          refine z_goto (tgt := 54) dX12_isWord_50 (by decide) ?_
          refine z_istore_n dX12_isWord_54 (by decide) rfl rfl ?_
          refine z_iincN (k := h) dX12_isWord_55 rfl rfl (by decide) rfl rfl ?_
          refine z_goto (tgt := 22) dX12_isWord_58 (by decide) ?_
          first
            | exact ih (h + 1) (by omega) (by omega) _ (Or.inl ⟨rfl, v2, fun j hj => by
                by_cases e : j = h
                · subst e; exact b46
                · exact v3 j (by omega)⟩)
            | exact ih (h + 1) (by omega) (by omega) _ (Or.inr ⟨rfl, fun z => b46 (z.2 h hn)⟩)

set_option maxRecDepth 100000 in
set_option maxHeartbeats 4000000 in
theorem c_isWord5 (g : zG) (l : Launch) {B : zM} {T : Nat → Int32} {len f i n r : Nat} {c : Int32} {w nu : Nat → Int32} (hl : len ≤ 200) (h4 : B 127 4 = nI len) (hT : ∀ j, j < len → B 130 j = T j) (hW : mWd B) (hf : f ≤ len) : zMet g l yX12_isWord cX12_isWord 4 (some .boolean) 0 0 0 [.ref 127, .ref 138] S0 (pM B f (tB T len f) i n r c w nu) (zQi (fun r' M' => M' = (pM B f (tB T len f) i n r c w nu) ∧ (((tIs T len f 5) ∧ r' = 1) ∨ (¬ (tIs T len f 5) ∧ r' = 0)))) := by
  have hB := tB_r (T := T) hf
  refine zMet.of (by decide) (Nat.le_of_ble_eq_true rfl) ?_
  refine z_aload_n dX12_isWord_0 rfl ?_
  refine z_getIV (j := 13) kX12 lf_X12_95 (by decide) rfl (rfl : _ = nI (tB T len f)) dX12_isWord_1 k0_127 s0_127 ?_
  refine z_aload_n dX12_isWord_4 rfl ?_
  refine z_getIV (j := 12) kX12 lf_X12_98 (by decide) rfl (rfl : _ = nI f) dX12_isWord_5 k0_127 s0_127 ?_
  refine z_isub dX12_isWord_8 ?_
  rw [nI_subs hB.1]
  refine z_aload_n dX12_isWord_9 rfl ?_
  refine z_alen dX12_isWord_10 k0_138 s0_138 (by decide) ?_
  refine z_icmp_ne (tgt := 18) dX12_isWord_11 (by decide) (fun b11 => ?_) (fun b11 => ?_)
  · have nb : ¬ tIs T len f 5 := fun z => b11 (by have := z.1; rw [show tB T len f - f = 4 by rw [this]; exact Nat.add_sub_cancel_left _ _])
    refine z_iconst (v := 0) dX12_isWord_18 (by decide) ?_
    refine z_istore_n dX12_isWord_19 (by decide) rfl rfl ?_
    refine z_iconst (v := 0) dX12_isWord_20 (by decide) ?_
    refine z_istore_n dX12_isWord_21 (by decide) rfl rfl ?_
    first
      | exact lp_isWord5 g l hl h4 hT hW hf hB.2.1 5 0 (Nat.zero_le _) (by omega) _ (Or.inl ⟨rfl, yb, fun j hj => absurd hj (Nat.not_lt_zero _)⟩)
      | exact lp_isWord5 g l hl h4 hT hW hf hB.2.1 5 0 (Nat.zero_le _) (by omega) _ (Or.inr ⟨rfl, nb⟩)
  · have yb : tB T len f = f + 4 := by have := (nI_eq (b := 4) (by omega) (by omega)).mp b11; omega
    refine z_iconst (v := 1) dX12_isWord_14 (by decide) ?_
    refine z_goto (tgt := 19) dX12_isWord_15 (by decide) ?_
    refine z_istore_n dX12_isWord_19 (by decide) rfl rfl ?_
    refine z_iconst (v := 0) dX12_isWord_20 (by decide) ?_
    refine z_istore_n dX12_isWord_21 (by decide) rfl rfl ?_
    first
      | exact lp_isWord5 g l hl h4 hT hW hf hB.2.1 5 0 (Nat.zero_le _) (by omega) _ (Or.inl ⟨rfl, yb, fun j hj => absurd hj (Nat.not_lt_zero _)⟩)
      | exact lp_isWord5 g l hl h4 hT hW hf hB.2.1 5 0 (Nat.zero_le _) (by omega) _ (Or.inr ⟨rfl, nb⟩)

theorem wd_6 : ∀ j, j < 3 → S0i 139 j = (zConByt.getD 6 []).getD j 0 := by decide
set_option maxRecDepth 100000 in
set_option maxHeartbeats 4000000 in
theorem lp_isWord6 (g : zG) (l : Launch) {B : zM} {T : Nat → Int32} {len f i n r : Nat} {c : Int32} {w nu : Nat → Int32} (hl : len ≤ 200) (h4 : B 127 4 = nI len) (hT : ∀ j, j < len → B 130 j = T j) (hW : mWd B) (hf : f ≤ len) (hB : tB T len f ≤ len) : ∀ (k h : Nat), h ≤ 3 → 3 - h < k → ∀ v : Int32, ((v = 1 ∧ tB T len f = f + 3 ∧ ∀ j, j < h → T (f + j) = (zConByt.getD 6 []).getD j 0) ∨ (v = 0 ∧ ¬ tIs T len f 6)) → zA g l yX12_isWord cX12_isWord 4 (some .boolean) 0 0 0 (zQi (fun r' M' => M' = (pM B f (tB T len f) i n r c w nu) ∧ (((tIs T len f 6) ∧ r' = 1) ∨ (¬ (tIs T len f 6) ∧ r' = 0)))) 22 0 0 S0 (pM B f (tB T len f) i n r c w nu) [.ref 127, .ref 139, .int v, .int (nI h)] [] := by
  intro k
  induction k with
  | zero => intro h hh hk; exact absurd hk (Nat.not_lt_zero _)
  | succ k ih =>
    intro h hh hk v hv
    refine z_iload_n dX12_isWord_22 rfl ?_
    refine z_aload_n dX12_isWord_23 rfl ?_
    refine z_alen dX12_isWord_24 k0_139 s0_139 (by decide) ?_
    refine z_icmp_ge (tgt := 61) dX12_isWord_25 (by decide) (fun b25 => ?_) (fun b25 => ?_)
    · have e2 : h = 3 := by have := (nI_leI (a := 3) (b := h) (by omega) (by omega)).mp b25; omega
      subst e2
      refine z_iload_n dX12_isWord_61 rfl ?_
      refine z_iret dX12_isWord_62 (by rcases hv with ⟨rfl, -⟩ | ⟨rfl, -⟩ <;> rfl) zle ?_
      rcases hv with ⟨rfl, v2, v3⟩ | ⟨rfl, v2⟩
      · first
        | exact ⟨rfl, Or.inl ⟨⟨v2, v3⟩, rfl⟩⟩
        | exact absurd b29 (by decide)
      · exact ⟨rfl, Or.inr ⟨v2, rfl⟩⟩
    · have hn : h < 3 := Nat.lt_of_not_le (fun zz => b25 ((nI_leI (a := 3) (b := h) (by omega) (by omega)).mpr zz))
      refine z_iload_n dX12_isWord_28 rfl ?_
      refine z_if_eq (tgt := 61) dX12_isWord_29 (by decide) (fun b29 => ?_) (fun b29 => ?_)
      · refine z_iload_n dX12_isWord_61 rfl ?_
        refine z_iret dX12_isWord_62 (by rcases hv with ⟨rfl, -⟩ | ⟨rfl, -⟩ <;> rfl) zle ?_
        rcases hv with ⟨rfl, v2, v3⟩ | ⟨rfl, v2⟩
        · first
          | exact ⟨rfl, Or.inl ⟨⟨v2, v3⟩, rfl⟩⟩
          | exact absurd b29 (by decide)
        · exact ⟨rfl, Or.inr ⟨v2, rfl⟩⟩
      · obtain ⟨v1, v2, v3⟩ := hv.resolve_right (fun z => b29 z.1)
        refine z_aload_n dX12_isWord_32 rfl ?_
        refine z_getR (j := 3) (r := 130) kX12 lf_X12_17 (by decide) rfl dX12_isWord_33 k0_127 s0_127 r0_127_3 (by decide) ?_
        refine z_aload_n dX12_isWord_36 rfl ?_
        refine z_getIV (j := 12) kX12 lf_X12_98 (by decide) rfl (rfl : _ = nI f) dX12_isWord_37 k0_127 s0_127 ?_
        refine z_iload_n dX12_isWord_40 rfl ?_
        refine z_iaddN (a := f) (b := h) rfl rfl dX12_isWord_41 ?_
        refine z_ialdV (j := (f + h)) rfl (by omega) (hT (f + h) (by omega)) dX12_isWord_42 k0_130 s0_130 ?_
        refine z_aload_n dX12_isWord_43 rfl ?_
        refine z_iload_n dX12_isWord_44 rfl ?_
        refine z_ialdV (j := h) rfl (by omega) ((congrFun (hW 139 (by omega) (by omega)) h).trans (wd_6 h hn)) dX12_isWord_45 k0_139 s0_139 ?_
        refine z_icmp_ne (tgt := 53) dX12_isWord_46 (by decide) (fun b46 => ?_) (fun b46 => ?_)
        · refine z_iconst (v := 0) dX12_isWord_53 (by decide) ?_
          refine z_istore_n dX12_isWord_54 (by decide) rfl rfl ?_
          refine z_iincN (k := h) dX12_isWord_55 rfl rfl (by decide) rfl rfl ?_
          refine z_goto (tgt := 22) dX12_isWord_58 (by decide) ?_
          first
            | exact ih (h + 1) (by omega) (by omega) _ (Or.inl ⟨rfl, v2, fun j hj => by
                by_cases e : j = h
                · subst e; exact b46
                · exact v3 j (by omega)⟩)
            | exact ih (h + 1) (by omega) (by omega) _ (Or.inr ⟨rfl, fun z => b46 (z.2 h hn)⟩)
        · refine z_iconst (v := 1) dX12_isWord_49 (by decide) ?_
          refine z_goto (tgt := 54) dX12_isWord_50 (by decide) ?_
          refine z_istore_n dX12_isWord_54 (by decide) rfl rfl ?_
          refine z_iincN (k := h) dX12_isWord_55 rfl rfl (by decide) rfl rfl ?_
          refine z_goto (tgt := 22) dX12_isWord_58 (by decide) ?_
          first
            | exact ih (h + 1) (by omega) (by omega) _ (Or.inl ⟨rfl, v2, fun j hj => by
                by_cases e : j = h
                · subst e; exact b46
                · exact v3 j (by omega)⟩)
            | exact ih (h + 1) (by omega) (by omega) _ (Or.inr ⟨rfl, fun z => b46 (z.2 h hn)⟩)

set_option maxRecDepth 100000 in
set_option maxHeartbeats 4000000 in
theorem c_isWord6 (g : zG) (l : Launch) {B : zM} {T : Nat → Int32} {len f i n r : Nat} {c : Int32} {w nu : Nat → Int32} (hl : len ≤ 200) (h4 : B 127 4 = nI len) (hT : ∀ j, j < len → B 130 j = T j) (hW : mWd B) (hf : f ≤ len) : zMet g l yX12_isWord cX12_isWord 4 (some .boolean) 0 0 0 [.ref 127, .ref 139] S0 (pM B f (tB T len f) i n r c w nu) (zQi (fun r' M' => M' = (pM B f (tB T len f) i n r c w nu) ∧ (((tIs T len f 6) ∧ r' = 1) ∨ (¬ (tIs T len f 6) ∧ r' = 0)))) := by
  have hB := tB_r (T := T) hf
  refine zMet.of (by decide) (Nat.le_of_ble_eq_true rfl) ?_
  refine z_aload_n dX12_isWord_0 rfl ?_
  refine z_getIV (j := 13) kX12 lf_X12_95 (by decide) rfl (rfl : _ = nI (tB T len f)) dX12_isWord_1 k0_127 s0_127 ?_
  refine z_aload_n dX12_isWord_4 rfl ?_
  refine z_getIV (j := 12) kX12 lf_X12_98 (by decide) rfl (rfl : _ = nI f) dX12_isWord_5 k0_127 s0_127 ?_
  refine z_isub dX12_isWord_8 ?_
  rw [nI_subs hB.1]
  refine z_aload_n dX12_isWord_9 rfl ?_
  refine z_alen dX12_isWord_10 k0_139 s0_139 (by decide) ?_
  refine z_icmp_ne (tgt := 18) dX12_isWord_11 (by decide) (fun b11 => ?_) (fun b11 => ?_)
  · have nb : ¬ tIs T len f 6 := fun z => b11 (by have := z.1; rw [show tB T len f - f = 3 by rw [this]; exact Nat.add_sub_cancel_left _ _])
    refine z_iconst (v := 0) dX12_isWord_18 (by decide) ?_
    refine z_istore_n dX12_isWord_19 (by decide) rfl rfl ?_
    refine z_iconst (v := 0) dX12_isWord_20 (by decide) ?_
    refine z_istore_n dX12_isWord_21 (by decide) rfl rfl ?_
    first
      | exact lp_isWord6 g l hl h4 hT hW hf hB.2.1 4 0 (Nat.zero_le _) (by omega) _ (Or.inl ⟨rfl, yb, fun j hj => absurd hj (Nat.not_lt_zero _)⟩)
      | exact lp_isWord6 g l hl h4 hT hW hf hB.2.1 4 0 (Nat.zero_le _) (by omega) _ (Or.inr ⟨rfl, nb⟩)
  · have yb : tB T len f = f + 3 := by have := (nI_eq (b := 3) (by omega) (by omega)).mp b11; omega
    refine z_iconst (v := 1) dX12_isWord_14 (by decide) ?_
    refine z_goto (tgt := 19) dX12_isWord_15 (by decide) ?_
    refine z_istore_n dX12_isWord_19 (by decide) rfl rfl ?_
    refine z_iconst (v := 0) dX12_isWord_20 (by decide) ?_
    refine z_istore_n dX12_isWord_21 (by decide) rfl rfl ?_
    first
      | exact lp_isWord6 g l hl h4 hT hW hf hB.2.1 4 0 (Nat.zero_le _) (by omega) _ (Or.inl ⟨rfl, yb, fun j hj => absurd hj (Nat.not_lt_zero _)⟩)
      | exact lp_isWord6 g l hl h4 hT hW hf hB.2.1 4 0 (Nat.zero_le _) (by omega) _ (Or.inr ⟨rfl, nb⟩)

theorem wd_7 : ∀ j, j < 5 → S0i 145 j = (zConByt.getD 7 []).getD j 0 := by decide
set_option maxRecDepth 100000 in
set_option maxHeartbeats 4000000 in
theorem lp_isWord7 (g : zG) (l : Launch) {B : zM} {T : Nat → Int32} {len f i n r : Nat} {c : Int32} {w nu : Nat → Int32} (hl : len ≤ 200) (h4 : B 127 4 = nI len) (hT : ∀ j, j < len → B 130 j = T j) (hW : mWd B) (hf : f ≤ len) (hB : tB T len f ≤ len) : ∀ (k h : Nat), h ≤ 5 → 5 - h < k → ∀ v : Int32, ((v = 1 ∧ tB T len f = f + 5 ∧ ∀ j, j < h → T (f + j) = (zConByt.getD 7 []).getD j 0) ∨ (v = 0 ∧ ¬ tIs T len f 7)) → zA g l yX12_isWord cX12_isWord 4 (some .boolean) 0 0 0 (zQi (fun r' M' => M' = (pM B f (tB T len f) i n r c w nu) ∧ (((tIs T len f 7) ∧ r' = 1) ∨ (¬ (tIs T len f 7) ∧ r' = 0)))) 22 0 0 S0 (pM B f (tB T len f) i n r c w nu) [.ref 127, .ref 145, .int v, .int (nI h)] [] := by
  intro k
  induction k with
  | zero => intro h hh hk; exact absurd hk (Nat.not_lt_zero _)
  | succ k ih =>
    intro h hh hk v hv
    refine z_iload_n dX12_isWord_22 rfl ?_
    refine z_aload_n dX12_isWord_23 rfl ?_
    refine z_alen dX12_isWord_24 k0_145 s0_145 (by decide) ?_
    refine z_icmp_ge (tgt := 61) dX12_isWord_25 (by decide) (fun b25 => ?_) (fun b25 => ?_)
    · have e2 : h = 5 := by have := (nI_leI (a := 5) (b := h) (by omega) (by omega)).mp b25; omega
      subst e2
      refine z_iload_n dX12_isWord_61 rfl ?_
      refine z_iret dX12_isWord_62 (by rcases hv with ⟨rfl, -⟩ | ⟨rfl, -⟩ <;> rfl) zle ?_
      rcases hv with ⟨rfl, v2, v3⟩ | ⟨rfl, v2⟩
      · first
        | exact ⟨rfl, Or.inl ⟨⟨v2, v3⟩, rfl⟩⟩
        | exact absurd b29 (by decide)
      · exact ⟨rfl, Or.inr ⟨v2, rfl⟩⟩
    · have hn : h < 5 := Nat.lt_of_not_le (fun zz => b25 ((nI_leI (a := 5) (b := h) (by omega) (by omega)).mpr zz))
      refine z_iload_n dX12_isWord_28 rfl ?_
      refine z_if_eq (tgt := 61) dX12_isWord_29 (by decide) (fun b29 => ?_) (fun b29 => ?_)
      · refine z_iload_n dX12_isWord_61 rfl ?_
        refine z_iret dX12_isWord_62 (by rcases hv with ⟨rfl, -⟩ | ⟨rfl, -⟩ <;> rfl) zle ?_
        rcases hv with ⟨rfl, v2, v3⟩ | ⟨rfl, v2⟩
        · first
          | exact ⟨rfl, Or.inl ⟨⟨v2, v3⟩, rfl⟩⟩
          | exact absurd b29 (by decide)
        · exact ⟨rfl, Or.inr ⟨v2, rfl⟩⟩
      · obtain ⟨v1, v2, v3⟩ := hv.resolve_right (fun z => b29 z.1)
        refine z_aload_n dX12_isWord_32 rfl ?_
        refine z_getR (j := 3) (r := 130) kX12 lf_X12_17 (by decide) rfl dX12_isWord_33 k0_127 s0_127 r0_127_3 (by decide) ?_
        refine z_aload_n dX12_isWord_36 rfl ?_
        refine z_getIV (j := 12) kX12 lf_X12_98 (by decide) rfl (rfl : _ = nI f) dX12_isWord_37 k0_127 s0_127 ?_
        refine z_iload_n dX12_isWord_40 rfl ?_
        refine z_iaddN (a := f) (b := h) rfl rfl dX12_isWord_41 ?_
        refine z_ialdV (j := (f + h)) rfl (by omega) (hT (f + h) (by omega)) dX12_isWord_42 k0_130 s0_130 ?_
        refine z_aload_n dX12_isWord_43 rfl ?_
        refine z_iload_n dX12_isWord_44 rfl ?_
        refine z_ialdV (j := h) rfl (by omega) ((congrFun (hW 145 (by omega) (by omega)) h).trans (wd_7 h hn)) dX12_isWord_45 k0_145 s0_145 ?_
        refine z_icmp_ne (tgt := 53) dX12_isWord_46 (by decide) (fun b46 => ?_) (fun b46 => ?_)
        · refine z_iconst (v := 0) dX12_isWord_53 (by decide) ?_
          refine z_istore_n dX12_isWord_54 (by decide) rfl rfl ?_
          refine z_iincN (k := h) dX12_isWord_55 rfl rfl (by decide) rfl rfl ?_
          refine z_goto (tgt := 22) dX12_isWord_58 (by decide) ?_
          first
            | exact ih (h + 1) (by omega) (by omega) _ (Or.inl ⟨rfl, v2, fun j hj => by
                by_cases e : j = h
                · subst e; exact b46
                · exact v3 j (by omega)⟩)
            | exact ih (h + 1) (by omega) (by omega) _ (Or.inr ⟨rfl, fun z => b46 (z.2 h hn)⟩)
        · refine z_iconst (v := 1) dX12_isWord_49 (by decide) ?_
          refine z_goto (tgt := 54) dX12_isWord_50 (by decide) ?_
          refine z_istore_n dX12_isWord_54 (by decide) rfl rfl ?_
          refine z_iincN (k := h) dX12_isWord_55 rfl rfl (by decide) rfl rfl ?_
          refine z_goto (tgt := 22) dX12_isWord_58 (by decide) ?_
          first
            | exact ih (h + 1) (by omega) (by omega) _ (Or.inl ⟨rfl, v2, fun j hj => by
                by_cases e : j = h
                · subst e; exact b46
                · exact v3 j (by omega)⟩)
            | exact ih (h + 1) (by omega) (by omega) _ (Or.inr ⟨rfl, fun z => b46 (z.2 h hn)⟩)

set_option maxRecDepth 100000 in
set_option maxHeartbeats 4000000 in
theorem c_isWord7 (g : zG) (l : Launch) {B : zM} {T : Nat → Int32} {len f i n r : Nat} {c : Int32} {w nu : Nat → Int32} (hl : len ≤ 200) (h4 : B 127 4 = nI len) (hT : ∀ j, j < len → B 130 j = T j) (hW : mWd B) (hf : f ≤ len) : zMet g l yX12_isWord cX12_isWord 4 (some .boolean) 0 0 0 [.ref 127, .ref 145] S0 (pM B f (tB T len f) i n r c w nu) (zQi (fun r' M' => M' = (pM B f (tB T len f) i n r c w nu) ∧ (((tIs T len f 7) ∧ r' = 1) ∨ (¬ (tIs T len f 7) ∧ r' = 0)))) := by
  have hB := tB_r (T := T) hf
  refine zMet.of (by decide) (Nat.le_of_ble_eq_true rfl) ?_
  refine z_aload_n dX12_isWord_0 rfl ?_
  refine z_getIV (j := 13) kX12 lf_X12_95 (by decide) rfl (rfl : _ = nI (tB T len f)) dX12_isWord_1 k0_127 s0_127 ?_
  refine z_aload_n dX12_isWord_4 rfl ?_
  refine z_getIV (j := 12) kX12 lf_X12_98 (by decide) rfl (rfl : _ = nI f) dX12_isWord_5 k0_127 s0_127 ?_
  refine z_isub dX12_isWord_8 ?_
  rw [nI_subs hB.1]
  refine z_aload_n dX12_isWord_9 rfl ?_
  refine z_alen dX12_isWord_10 k0_145 s0_145 (by decide) ?_
  refine z_icmp_ne (tgt := 18) dX12_isWord_11 (by decide) (fun b11 => ?_) (fun b11 => ?_)
  · have nb : ¬ tIs T len f 7 := fun z => b11 (by have := z.1; rw [show tB T len f - f = 5 by rw [this]; exact Nat.add_sub_cancel_left _ _])
    refine z_iconst (v := 0) dX12_isWord_18 (by decide) ?_
    refine z_istore_n dX12_isWord_19 (by decide) rfl rfl ?_
    refine z_iconst (v := 0) dX12_isWord_20 (by decide) ?_
    refine z_istore_n dX12_isWord_21 (by decide) rfl rfl ?_
    first
      | exact lp_isWord7 g l hl h4 hT hW hf hB.2.1 6 0 (Nat.zero_le _) (by omega) _ (Or.inl ⟨rfl, yb, fun j hj => absurd hj (Nat.not_lt_zero _)⟩)
      | exact lp_isWord7 g l hl h4 hT hW hf hB.2.1 6 0 (Nat.zero_le _) (by omega) _ (Or.inr ⟨rfl, nb⟩)
  · have yb : tB T len f = f + 5 := by have := (nI_eq (b := 5) (by omega) (by omega)).mp b11; omega
    refine z_iconst (v := 1) dX12_isWord_14 (by decide) ?_
    refine z_goto (tgt := 19) dX12_isWord_15 (by decide) ?_
    refine z_istore_n dX12_isWord_19 (by decide) rfl rfl ?_
    refine z_iconst (v := 0) dX12_isWord_20 (by decide) ?_
    refine z_istore_n dX12_isWord_21 (by decide) rfl rfl ?_
    first
      | exact lp_isWord7 g l hl h4 hT hW hf hB.2.1 6 0 (Nat.zero_le _) (by omega) _ (Or.inl ⟨rfl, yb, fun j hj => absurd hj (Nat.not_lt_zero _)⟩)
      | exact lp_isWord7 g l hl h4 hT hW hf hB.2.1 6 0 (Nat.zero_le _) (by omega) _ (Or.inr ⟨rfl, nb⟩)

set_option maxRecDepth 100000 in
set_option maxHeartbeats 4000000 in
theorem c_X12_kindHere (g : zG) (l : Launch) {B : zM} {T : Nat → Int32} {len f i n r : Nat} {c : Int32} {w nu : Nat → Int32} (hl : len ≤ 200) (h4 : B 127 4 = nI len) (hT : ∀ j, j < len → B 130 j = T j) (hW : mWd B) (hf : f ≤ len) : zMet g l yX12_kindHere cX12_kindHere 1 (some .int) 1 0 0 [.ref 127] S0 (pM B f (tB T len f) i n r c w nu) (zQi (fun r' M' => r' = frst (fun j => decide (tIs T len f j)) 0 5 ∧ M' = (pM B f (tB T len f) i n r c w nu))) := by
  refine zMet.of (by decide) (Nat.le_of_ble_eq_true rfl) ?_
  refine z_aload_n dX12_kindHere_0 rfl ?_
  refine z_aload_n dX12_kindHere_1 rfl ?_
  refine z_getR (j := 22) (r := 140) kX12 lf_X12_47 (by decide) rfl dX12_kindHere_2 k0_127 s0_127 r0_127_22 (by decide) ?_
  refine z_iV1 (c_isWord0 g l hl h4 hT hW hf) mw_X12_isWord lm_X12_111 mi_X12_isWord mv_X12_isWord kX12 (by decide) (Nat.le_of_ble_eq_true rfl) zle k0_127 s0_127 dX12_kindHere_5 (fun r5 M5 q5 => ?_)
  obtain ⟨qm5, qr5⟩ := q5
  obtain rfl := qm5.symm
  obtain ⟨c5, rfl⟩ | ⟨c5, rfl⟩ := qr5
  · refine z_if_eq (tgt := 15) dX12_kindHere_8 (by decide) (fun b8 => ?_) (fun b8 => ?_)
    · exact absurd b8 (by decide)
    · refine z_iconst (v := 0) dX12_kindHere_11 (by decide) ?_
      refine z_goto (tgt := 76) dX12_kindHere_12 (by decide) ?_
      refine z_iret dX12_kindHere_76 rfl zle ?_
      refine ⟨?_, rfl⟩
      first
        | exact (if_pos (decide_eq_true c5) : frst (fun j => decide (tIs T len f j)) 0 5 = _).symm
        | exact ((if_neg (fun z => c5 (of_decide_eq_true (p := tIs T len f 0) z))).trans (if_pos (decide_eq_true c20)) : frst (fun j => decide (tIs T len f j)) 0 5 = _).symm
        | exact ((if_neg (fun z => c5 (of_decide_eq_true (p := tIs T len f 0) z))).trans ((if_neg (fun z => c20 (of_decide_eq_true (p := tIs T len f 1) z))).trans (if_pos (decide_eq_true c35))) : frst (fun j => decide (tIs T len f j)) 0 5 = _).symm
        | exact ((if_neg (fun z => c5 (of_decide_eq_true (p := tIs T len f 0) z))).trans ((if_neg (fun z => c20 (of_decide_eq_true (p := tIs T len f 1) z))).trans ((if_neg (fun z => c35 (of_decide_eq_true (p := tIs T len f 2) z))).trans (if_pos (decide_eq_true c50)))) : frst (fun j => decide (tIs T len f j)) 0 5 = _).symm
        | exact ((if_neg (fun z => c5 (of_decide_eq_true (p := tIs T len f 0) z))).trans ((if_neg (fun z => c20 (of_decide_eq_true (p := tIs T len f 1) z))).trans ((if_neg (fun z => c35 (of_decide_eq_true (p := tIs T len f 2) z))).trans ((if_neg (fun z => c50 (of_decide_eq_true (p := tIs T len f 3) z))).trans (if_pos (decide_eq_true c65))))) : frst (fun j => decide (tIs T len f j)) 0 5 = _).symm
        | exact ((if_neg (fun z => c5 (of_decide_eq_true (p := tIs T len f 0) z))).trans ((if_neg (fun z => c20 (of_decide_eq_true (p := tIs T len f 1) z))).trans ((if_neg (fun z => c35 (of_decide_eq_true (p := tIs T len f 2) z))).trans ((if_neg (fun z => c50 (of_decide_eq_true (p := tIs T len f 3) z))).trans ((if_neg (fun z => c65 (of_decide_eq_true (p := tIs T len f 4) z))).trans (rfl))))) : frst (fun j => decide (tIs T len f j)) 0 5 = _).symm
  · refine z_if_eq (tgt := 15) dX12_kindHere_8 (by decide) (fun b8 => ?_) (fun b8 => ?_)
    · refine z_aload_n dX12_kindHere_15 rfl ?_
      refine z_aload_n dX12_kindHere_16 rfl ?_
      refine z_getR (j := 23) (r := 141) kX12 lf_X12_50 (by decide) rfl dX12_kindHere_17 k0_127 s0_127 r0_127_23 (by decide) ?_
      refine z_iV1 (c_isWord1 g l hl h4 hT hW hf) mw_X12_isWord lm_X12_111 mi_X12_isWord mv_X12_isWord kX12 (by decide) (Nat.le_of_ble_eq_true rfl) zle k0_127 s0_127 dX12_kindHere_20 (fun r20 M20 q20 => ?_)
      obtain ⟨qm20, qr20⟩ := q20
      obtain rfl := qm20.symm
      obtain ⟨c20, rfl⟩ | ⟨c20, rfl⟩ := qr20
      · refine z_if_eq (tgt := 30) dX12_kindHere_23 (by decide) (fun b23 => ?_) (fun b23 => ?_)
        · exact absurd b23 (by decide)
        · refine z_iconst (v := 1) dX12_kindHere_26 (by decide) ?_
          refine z_goto (tgt := 76) dX12_kindHere_27 (by decide) ?_
          refine z_iret dX12_kindHere_76 rfl zle ?_
          refine ⟨?_, rfl⟩
          first
            | exact (if_pos (decide_eq_true c5) : frst (fun j => decide (tIs T len f j)) 0 5 = _).symm
            | exact ((if_neg (fun z => c5 (of_decide_eq_true (p := tIs T len f 0) z))).trans (if_pos (decide_eq_true c20)) : frst (fun j => decide (tIs T len f j)) 0 5 = _).symm
            | exact ((if_neg (fun z => c5 (of_decide_eq_true (p := tIs T len f 0) z))).trans ((if_neg (fun z => c20 (of_decide_eq_true (p := tIs T len f 1) z))).trans (if_pos (decide_eq_true c35))) : frst (fun j => decide (tIs T len f j)) 0 5 = _).symm
            | exact ((if_neg (fun z => c5 (of_decide_eq_true (p := tIs T len f 0) z))).trans ((if_neg (fun z => c20 (of_decide_eq_true (p := tIs T len f 1) z))).trans ((if_neg (fun z => c35 (of_decide_eq_true (p := tIs T len f 2) z))).trans (if_pos (decide_eq_true c50)))) : frst (fun j => decide (tIs T len f j)) 0 5 = _).symm
            | exact ((if_neg (fun z => c5 (of_decide_eq_true (p := tIs T len f 0) z))).trans ((if_neg (fun z => c20 (of_decide_eq_true (p := tIs T len f 1) z))).trans ((if_neg (fun z => c35 (of_decide_eq_true (p := tIs T len f 2) z))).trans ((if_neg (fun z => c50 (of_decide_eq_true (p := tIs T len f 3) z))).trans (if_pos (decide_eq_true c65))))) : frst (fun j => decide (tIs T len f j)) 0 5 = _).symm
            | exact ((if_neg (fun z => c5 (of_decide_eq_true (p := tIs T len f 0) z))).trans ((if_neg (fun z => c20 (of_decide_eq_true (p := tIs T len f 1) z))).trans ((if_neg (fun z => c35 (of_decide_eq_true (p := tIs T len f 2) z))).trans ((if_neg (fun z => c50 (of_decide_eq_true (p := tIs T len f 3) z))).trans ((if_neg (fun z => c65 (of_decide_eq_true (p := tIs T len f 4) z))).trans (rfl))))) : frst (fun j => decide (tIs T len f j)) 0 5 = _).symm
      · refine z_if_eq (tgt := 30) dX12_kindHere_23 (by decide) (fun b23 => ?_) (fun b23 => ?_)
        · refine z_aload_n dX12_kindHere_30 rfl ?_
          refine z_aload_n dX12_kindHere_31 rfl ?_
          refine z_getR (j := 24) (r := 142) kX12 lf_X12_53 (by decide) rfl dX12_kindHere_32 k0_127 s0_127 r0_127_24 (by decide) ?_
          refine z_iV1 (c_isWord2 g l hl h4 hT hW hf) mw_X12_isWord lm_X12_111 mi_X12_isWord mv_X12_isWord kX12 (by decide) (Nat.le_of_ble_eq_true rfl) zle k0_127 s0_127 dX12_kindHere_35 (fun r35 M35 q35 => ?_)
          obtain ⟨qm35, qr35⟩ := q35
          obtain rfl := qm35.symm
          obtain ⟨c35, rfl⟩ | ⟨c35, rfl⟩ := qr35
          · refine z_if_eq (tgt := 45) dX12_kindHere_38 (by decide) (fun b38 => ?_) (fun b38 => ?_)
            · exact absurd b38 (by decide)
            · refine z_iconst (v := 2) dX12_kindHere_41 (by decide) ?_
              refine z_goto (tgt := 76) dX12_kindHere_42 (by decide) ?_
              refine z_iret dX12_kindHere_76 rfl zle ?_
              refine ⟨?_, rfl⟩
              first
                | exact (if_pos (decide_eq_true c5) : frst (fun j => decide (tIs T len f j)) 0 5 = _).symm
                | exact ((if_neg (fun z => c5 (of_decide_eq_true (p := tIs T len f 0) z))).trans (if_pos (decide_eq_true c20)) : frst (fun j => decide (tIs T len f j)) 0 5 = _).symm
                | exact ((if_neg (fun z => c5 (of_decide_eq_true (p := tIs T len f 0) z))).trans ((if_neg (fun z => c20 (of_decide_eq_true (p := tIs T len f 1) z))).trans (if_pos (decide_eq_true c35))) : frst (fun j => decide (tIs T len f j)) 0 5 = _).symm
                | exact ((if_neg (fun z => c5 (of_decide_eq_true (p := tIs T len f 0) z))).trans ((if_neg (fun z => c20 (of_decide_eq_true (p := tIs T len f 1) z))).trans ((if_neg (fun z => c35 (of_decide_eq_true (p := tIs T len f 2) z))).trans (if_pos (decide_eq_true c50)))) : frst (fun j => decide (tIs T len f j)) 0 5 = _).symm
                | exact ((if_neg (fun z => c5 (of_decide_eq_true (p := tIs T len f 0) z))).trans ((if_neg (fun z => c20 (of_decide_eq_true (p := tIs T len f 1) z))).trans ((if_neg (fun z => c35 (of_decide_eq_true (p := tIs T len f 2) z))).trans ((if_neg (fun z => c50 (of_decide_eq_true (p := tIs T len f 3) z))).trans (if_pos (decide_eq_true c65))))) : frst (fun j => decide (tIs T len f j)) 0 5 = _).symm
                | exact ((if_neg (fun z => c5 (of_decide_eq_true (p := tIs T len f 0) z))).trans ((if_neg (fun z => c20 (of_decide_eq_true (p := tIs T len f 1) z))).trans ((if_neg (fun z => c35 (of_decide_eq_true (p := tIs T len f 2) z))).trans ((if_neg (fun z => c50 (of_decide_eq_true (p := tIs T len f 3) z))).trans ((if_neg (fun z => c65 (of_decide_eq_true (p := tIs T len f 4) z))).trans (rfl))))) : frst (fun j => decide (tIs T len f j)) 0 5 = _).symm
          · refine z_if_eq (tgt := 45) dX12_kindHere_38 (by decide) (fun b38 => ?_) (fun b38 => ?_)
            · refine z_aload_n dX12_kindHere_45 rfl ?_
              refine z_aload_n dX12_kindHere_46 rfl ?_
              refine z_getR (j := 25) (r := 143) kX12 lf_X12_56 (by decide) rfl dX12_kindHere_47 k0_127 s0_127 r0_127_25 (by decide) ?_
              refine z_iV1 (c_isWord3 g l hl h4 hT hW hf) mw_X12_isWord lm_X12_111 mi_X12_isWord mv_X12_isWord kX12 (by decide) (Nat.le_of_ble_eq_true rfl) zle k0_127 s0_127 dX12_kindHere_50 (fun r50 M50 q50 => ?_)
              obtain ⟨qm50, qr50⟩ := q50
              obtain rfl := qm50.symm
              obtain ⟨c50, rfl⟩ | ⟨c50, rfl⟩ := qr50
              · refine z_if_eq (tgt := 60) dX12_kindHere_53 (by decide) (fun b53 => ?_) (fun b53 => ?_)
                · exact absurd b53 (by decide)
                · refine z_iconst (v := 3) dX12_kindHere_56 (by decide) ?_
                  refine z_goto (tgt := 76) dX12_kindHere_57 (by decide) ?_
                  refine z_iret dX12_kindHere_76 rfl zle ?_
                  refine ⟨?_, rfl⟩
                  first
                    | exact (if_pos (decide_eq_true c5) : frst (fun j => decide (tIs T len f j)) 0 5 = _).symm
                    | exact ((if_neg (fun z => c5 (of_decide_eq_true (p := tIs T len f 0) z))).trans (if_pos (decide_eq_true c20)) : frst (fun j => decide (tIs T len f j)) 0 5 = _).symm
                    | exact ((if_neg (fun z => c5 (of_decide_eq_true (p := tIs T len f 0) z))).trans ((if_neg (fun z => c20 (of_decide_eq_true (p := tIs T len f 1) z))).trans (if_pos (decide_eq_true c35))) : frst (fun j => decide (tIs T len f j)) 0 5 = _).symm
                    | exact ((if_neg (fun z => c5 (of_decide_eq_true (p := tIs T len f 0) z))).trans ((if_neg (fun z => c20 (of_decide_eq_true (p := tIs T len f 1) z))).trans ((if_neg (fun z => c35 (of_decide_eq_true (p := tIs T len f 2) z))).trans (if_pos (decide_eq_true c50)))) : frst (fun j => decide (tIs T len f j)) 0 5 = _).symm
                    | exact ((if_neg (fun z => c5 (of_decide_eq_true (p := tIs T len f 0) z))).trans ((if_neg (fun z => c20 (of_decide_eq_true (p := tIs T len f 1) z))).trans ((if_neg (fun z => c35 (of_decide_eq_true (p := tIs T len f 2) z))).trans ((if_neg (fun z => c50 (of_decide_eq_true (p := tIs T len f 3) z))).trans (if_pos (decide_eq_true c65))))) : frst (fun j => decide (tIs T len f j)) 0 5 = _).symm
                    | exact ((if_neg (fun z => c5 (of_decide_eq_true (p := tIs T len f 0) z))).trans ((if_neg (fun z => c20 (of_decide_eq_true (p := tIs T len f 1) z))).trans ((if_neg (fun z => c35 (of_decide_eq_true (p := tIs T len f 2) z))).trans ((if_neg (fun z => c50 (of_decide_eq_true (p := tIs T len f 3) z))).trans ((if_neg (fun z => c65 (of_decide_eq_true (p := tIs T len f 4) z))).trans (rfl))))) : frst (fun j => decide (tIs T len f j)) 0 5 = _).symm
              · refine z_if_eq (tgt := 60) dX12_kindHere_53 (by decide) (fun b53 => ?_) (fun b53 => ?_)
                · refine z_aload_n dX12_kindHere_60 rfl ?_
                  refine z_aload_n dX12_kindHere_61 rfl ?_
                  refine z_getR (j := 26) (r := 144) kX12 lf_X12_59 (by decide) rfl dX12_kindHere_62 k0_127 s0_127 r0_127_26 (by decide) ?_
                  refine z_iV1 (c_isWord4 g l hl h4 hT hW hf) mw_X12_isWord lm_X12_111 mi_X12_isWord mv_X12_isWord kX12 (by decide) (Nat.le_of_ble_eq_true rfl) zle k0_127 s0_127 dX12_kindHere_65 (fun r65 M65 q65 => ?_)
                  obtain ⟨qm65, qr65⟩ := q65
                  obtain rfl := qm65.symm
                  obtain ⟨c65, rfl⟩ | ⟨c65, rfl⟩ := qr65
                  · refine z_if_eq (tgt := 75) dX12_kindHere_68 (by decide) (fun b68 => ?_) (fun b68 => ?_)
                    · exact absurd b68 (by decide)
                    · refine z_iconst (v := 4) dX12_kindHere_71 (by decide) ?_
                      refine z_goto (tgt := 76) dX12_kindHere_72 (by decide) ?_
                      refine z_iret dX12_kindHere_76 rfl zle ?_
                      refine ⟨?_, rfl⟩
                      first
                        | exact (if_pos (decide_eq_true c5) : frst (fun j => decide (tIs T len f j)) 0 5 = _).symm
                        | exact ((if_neg (fun z => c5 (of_decide_eq_true (p := tIs T len f 0) z))).trans (if_pos (decide_eq_true c20)) : frst (fun j => decide (tIs T len f j)) 0 5 = _).symm
                        | exact ((if_neg (fun z => c5 (of_decide_eq_true (p := tIs T len f 0) z))).trans ((if_neg (fun z => c20 (of_decide_eq_true (p := tIs T len f 1) z))).trans (if_pos (decide_eq_true c35))) : frst (fun j => decide (tIs T len f j)) 0 5 = _).symm
                        | exact ((if_neg (fun z => c5 (of_decide_eq_true (p := tIs T len f 0) z))).trans ((if_neg (fun z => c20 (of_decide_eq_true (p := tIs T len f 1) z))).trans ((if_neg (fun z => c35 (of_decide_eq_true (p := tIs T len f 2) z))).trans (if_pos (decide_eq_true c50)))) : frst (fun j => decide (tIs T len f j)) 0 5 = _).symm
                        | exact ((if_neg (fun z => c5 (of_decide_eq_true (p := tIs T len f 0) z))).trans ((if_neg (fun z => c20 (of_decide_eq_true (p := tIs T len f 1) z))).trans ((if_neg (fun z => c35 (of_decide_eq_true (p := tIs T len f 2) z))).trans ((if_neg (fun z => c50 (of_decide_eq_true (p := tIs T len f 3) z))).trans (if_pos (decide_eq_true c65))))) : frst (fun j => decide (tIs T len f j)) 0 5 = _).symm
                        | exact ((if_neg (fun z => c5 (of_decide_eq_true (p := tIs T len f 0) z))).trans ((if_neg (fun z => c20 (of_decide_eq_true (p := tIs T len f 1) z))).trans ((if_neg (fun z => c35 (of_decide_eq_true (p := tIs T len f 2) z))).trans ((if_neg (fun z => c50 (of_decide_eq_true (p := tIs T len f 3) z))).trans ((if_neg (fun z => c65 (of_decide_eq_true (p := tIs T len f 4) z))).trans (rfl))))) : frst (fun j => decide (tIs T len f j)) 0 5 = _).symm
                  · refine z_if_eq (tgt := 75) dX12_kindHere_68 (by decide) (fun b68 => ?_) (fun b68 => ?_)
                    · refine z_iconst (v := (-1)) dX12_kindHere_75 (by decide) ?_
                      refine z_iret dX12_kindHere_76 rfl zle ?_
                      refine ⟨?_, rfl⟩
                      first
                        | exact (if_pos (decide_eq_true c5) : frst (fun j => decide (tIs T len f j)) 0 5 = _).symm
                        | exact ((if_neg (fun z => c5 (of_decide_eq_true (p := tIs T len f 0) z))).trans (if_pos (decide_eq_true c20)) : frst (fun j => decide (tIs T len f j)) 0 5 = _).symm
                        | exact ((if_neg (fun z => c5 (of_decide_eq_true (p := tIs T len f 0) z))).trans ((if_neg (fun z => c20 (of_decide_eq_true (p := tIs T len f 1) z))).trans (if_pos (decide_eq_true c35))) : frst (fun j => decide (tIs T len f j)) 0 5 = _).symm
                        | exact ((if_neg (fun z => c5 (of_decide_eq_true (p := tIs T len f 0) z))).trans ((if_neg (fun z => c20 (of_decide_eq_true (p := tIs T len f 1) z))).trans ((if_neg (fun z => c35 (of_decide_eq_true (p := tIs T len f 2) z))).trans (if_pos (decide_eq_true c50)))) : frst (fun j => decide (tIs T len f j)) 0 5 = _).symm
                        | exact ((if_neg (fun z => c5 (of_decide_eq_true (p := tIs T len f 0) z))).trans ((if_neg (fun z => c20 (of_decide_eq_true (p := tIs T len f 1) z))).trans ((if_neg (fun z => c35 (of_decide_eq_true (p := tIs T len f 2) z))).trans ((if_neg (fun z => c50 (of_decide_eq_true (p := tIs T len f 3) z))).trans (if_pos (decide_eq_true c65))))) : frst (fun j => decide (tIs T len f j)) 0 5 = _).symm
                        | exact ((if_neg (fun z => c5 (of_decide_eq_true (p := tIs T len f 0) z))).trans ((if_neg (fun z => c20 (of_decide_eq_true (p := tIs T len f 1) z))).trans ((if_neg (fun z => c35 (of_decide_eq_true (p := tIs T len f 2) z))).trans ((if_neg (fun z => c50 (of_decide_eq_true (p := tIs T len f 3) z))).trans ((if_neg (fun z => c65 (of_decide_eq_true (p := tIs T len f 4) z))).trans (rfl))))) : frst (fun j => decide (tIs T len f j)) 0 5 = _).symm
                    · exact absurd b68 (by decide)
                · exact absurd b53 (by decide)
            · exact absurd b38 (by decide)
        · exact absurd b23 (by decide)
    · exact absurd b8 (by decide)

theorem pNum_y {T : Nat → Int32} {len f : Nat} {lo hi : Int32} (h1 : f < len) (h2 : 48 ≤ T f ∧ T f ≤ 57) (h3 : tB T len f = f + 1) (h4 : lo ≤ T f - 48 ∧ T f - 48 ≤ hi) : pNum T len f lo hi = (T f - 48, tNx T len f) ∧ ¬ T f - 48 = -1 := by
  have e : tDg T len f = T f - 48 := if_pos ⟨h1, (tS_2 _).mpr h2, h3⟩
  have ne : ¬ T f - 48 = -1 := fun z => by
    obtain ⟨a, ha, hb, ea⟩ := zIn_c (a := 48) (c := 57) (by omega) (by omega) h2.1 h2.2
    rw [ea, show (48 : Int32) = nI 48 from rfl, nI_subs ha] at z
    exact nI_nm1 (by omega) z
  refine ⟨?_, ne⟩
  unfold pNum
  rw [e, if_neg (fun z => z.elim ne (fun z => z.elim (Int32.not_lt.mpr h4.1) (Int32.not_lt.mpr h4.2)))]
theorem pNum_n {T : Nat → Int32} {len f : Nat} {lo hi : Int32} (h : ¬ (f < len ∧ (48 ≤ T f ∧ T f ≤ 57) ∧ tB T len f = f + 1 ∧ lo ≤ T f - 48 ∧ T f - 48 ≤ hi)) : pNum T len f lo hi = (-1, f) := by
  unfold pNum
  refine if_pos ?_
  by_cases c : f < len ∧ tS (T f) = 2 ∧ tB T len f = f + 1
  · have e : tDg T len f = T f - 48 := if_pos c
    rw [e]
    by_cases d : T f - 48 < lo
    · exact Or.inr (Or.inl d)
    · by_cases d2 : hi < T f - 48
      · exact Or.inr (Or.inr d2)
      · exact absurd ⟨c.1, (tS_2 _).mp c.2.1, c.2.2, Int32.not_lt.mp d, Int32.not_lt.mp d2⟩ h
  · exact Or.inl (if_neg c)
set_option maxRecDepth 100000 in
set_option maxHeartbeats 4000000 in
theorem c_X12_number (g : zG) (l : Launch) {B : zM} {T : Nat → Int32} {len f i n r k0 : Nat} {c lo hi : Int32} {w nu : Nat → Int32} (hl : len ≤ 200) (h4 : B 127 4 = nI len) (hT : ∀ j, j < len → B 130 j = T j) (hf : f ≤ len) (hk : k0 < 2) : zMet g l yX12_number cX12_number 5 (some .boolean) 3 0 0 [.ref 127, .int (nI k0), .int lo, .int hi] S0 (pM B f (tB T len f) i n r c w nu) (zQi (fun r' M' => ((¬ (pNum T len f lo hi).1 = -1) ∧ r' = 1 ∧ M' = (pM B (pNum T len f lo hi).2 (tB T len (pNum T len f lo hi).2) i n r c w (upd nu k0 (pNum T len f lo hi).1))) ∨ (¬ (¬ (pNum T len f lo hi).1 = -1) ∧ r' = 0 ∧ M' = (pM B (pNum T len f lo hi).2 (tB T len (pNum T len f lo hi).2) i n r c w nu)))) := by
  have hB := tB_r (T := T) hf
  refine zMet.of (by decide) (Nat.le_of_ble_eq_true rfl) ?_
  refine z_aload_n dX12_number_0 rfl ?_
  refine z_getIV (j := 12) kX12 lf_X12_98 (by decide) rfl (rfl : _ = nI f) dX12_number_1 k0_127 s0_127 ?_
  refine z_aload_n dX12_number_4 rfl ?_
  refine z_getIV (j := 4) kX12 lf_X12_83 (by decide) rfl h4 dX12_number_5 k0_127 s0_127 ?_
  refine z_icmp_ge (tgt := 66) dX12_number_8 (by decide) (fun b8 => ?_) (fun b8 => ?_)
  · have pe := pNum_n (T := T) (len := len) (f := f) (lo := lo) (hi := hi) (fun z => absurd ((nI_leI (by omega) (by omega)).mp b8) (Nat.not_le_of_lt z.1))
    refine z_iconst (v := 0) dX12_number_66 (by decide) ?_
    refine z_istore dX12_number_67 (by decide) rfl rfl ?_
    refine z_iload dX12_number_69 rfl ?_
    refine z_if_eq (tgt := 96) dX12_number_71 (by decide) (fun b71 => ?_) (fun b71 => ?_)
    · refine z_iload dX12_number_96 rfl ?_
      refine z_iret dX12_number_98 rfl zle ?_
      first
        | exact Or.inl ⟨by rw [pe]; exact pn, rfl, by rw [pe]; rfl⟩
        | exact Or.inr ⟨fun z => z (by rw [pe]), rfl, by rw [pe]⟩
    · exact absurd b71 (by decide)
  · have hp : f < len := Nat.lt_of_not_le (fun zz => b8 ((nI_leI (by omega) (by omega)).mpr zz))
    refine z_aload_n dX12_number_11 rfl ?_
    refine z_getR (j := 3) (r := 130) kX12 lf_X12_17 (by decide) rfl dX12_number_12 k0_127 s0_127 r0_127_3 (by decide) ?_
    refine z_aload_n dX12_number_15 rfl ?_
    refine z_getIV (j := 12) kX12 lf_X12_98 (by decide) rfl (rfl : _ = nI f) dX12_number_16 k0_127 s0_127 ?_
    refine z_ialdV (j := f) rfl (by omega) (hT f (by omega)) dX12_number_19 k0_130 s0_130 ?_
    refine z_iS1 (c_X12_isDigit g l) mw_X12_isDigit lm_X12_105 ms_X12_isDigit (by decide) (Nat.le_of_ble_eq_true rfl) zle dX12_number_20 (fun r20 M20 q20 => ?_)
    obtain ⟨qm20, qr20⟩ := q20
    obtain rfl := qm20.symm
    obtain ⟨c20, rfl⟩ | ⟨c20, rfl⟩ := qr20
    · refine z_if_eq (tgt := 66) dX12_number_23 (by decide) (fun b23 => ?_) (fun b23 => ?_)
      · exact absurd b23 (by decide)
      · refine z_aload_n dX12_number_26 rfl ?_
        refine z_getIV (j := 13) kX12 lf_X12_95 (by decide) rfl (rfl : _ = nI (tB T len f)) dX12_number_27 k0_127 s0_127 ?_
        refine z_aload_n dX12_number_30 rfl ?_
        refine z_getIV (j := 12) kX12 lf_X12_98 (by decide) rfl (rfl : _ = nI f) dX12_number_31 k0_127 s0_127 ?_
        refine z_isub dX12_number_34 ?_
        rw [nI_subs hB.1]
        refine z_iconst (v := 1) dX12_number_35 (by decide) ?_
        refine z_icmp_ne (tgt := 66) dX12_number_36 (by decide) (fun b36 => ?_) (fun b36 => ?_)
        · have pe := pNum_n (T := T) (len := len) (f := f) (lo := lo) (hi := hi) (fun z => b36 (by rw [show tB T len f - f = 1 by rw [z.2.2.1]; exact Nat.add_sub_cancel_left _ _]; rfl))
          refine z_iconst (v := 0) dX12_number_66 (by decide) ?_
          refine z_istore dX12_number_67 (by decide) rfl rfl ?_
          refine z_iload dX12_number_69 rfl ?_
          refine z_if_eq (tgt := 96) dX12_number_71 (by decide) (fun b71 => ?_) (fun b71 => ?_)
          · refine z_iload dX12_number_96 rfl ?_
            refine z_iret dX12_number_98 rfl zle ?_
            first
              | exact Or.inl ⟨by rw [pe]; exact pn, rfl, by rw [pe]; rfl⟩
              | exact Or.inr ⟨fun z => z (by rw [pe]), rfl, by rw [pe]⟩
          · exact absurd b71 (by decide)
        · have hb1 : tB T len f = f + 1 := by have := (nI_eq (b := 1) (by omega) (by omega)).mp b36; omega
          refine z_aload_n dX12_number_39 rfl ?_
          refine z_getR (j := 3) (r := 130) kX12 lf_X12_17 (by decide) rfl dX12_number_40 k0_127 s0_127 r0_127_3 (by decide) ?_
          refine z_aload_n dX12_number_43 rfl ?_
          refine z_getIV (j := 12) kX12 lf_X12_98 (by decide) rfl (rfl : _ = nI f) dX12_number_44 k0_127 s0_127 ?_
          refine z_ialdV (j := f) rfl (by omega) (hT f (by omega)) dX12_number_47 k0_130 s0_130 ?_
          refine z_bipush (v := 48) dX12_number_48 (by decide) ?_
          refine z_isub dX12_number_50 ?_
          refine z_i2l dX12_number_51 ?_
          refine z_iload_n dX12_number_52 rfl ?_
          refine z_i2l dX12_number_53 ?_
          refine z_iload_n dX12_number_54 rfl ?_
          refine z_i2l dX12_number_55 ?_
          refine z_iS3 (c_X12_in g l) mw_X12_in lm_X12_79 ms_X12_in (by decide) (Nat.le_of_ble_eq_true rfl) zle dX12_number_56 (fun r56 M56 q56 => ?_)
          obtain ⟨qm, qr⟩ := q56
          obtain rfl := qm.symm
          rcases qr with ⟨c56, rfl⟩ | ⟨c56, rfl⟩
          · obtain ⟨pe, pn⟩ := pNum_y hp c20 hb1 ((l_inn rfl rfl).mp c56)
            refine z_if_eq (tgt := 66) dX12_number_59 (by decide) (fun b59 => ?_) (fun b59 => ?_)
            · exact absurd b59 (by decide)
            · refine z_iconst (v := 1) dX12_number_62 (by decide) ?_
              refine z_goto (tgt := 67) dX12_number_63 (by decide) ?_
              refine z_istore dX12_number_67 (by decide) rfl rfl ?_
              refine z_iload dX12_number_69 rfl ?_
              refine z_if_eq (tgt := 96) dX12_number_71 (by decide) (fun b71 => ?_) (fun b71 => ?_)
              · exact absurd b71 (by decide)
              · refine z_aload_n dX12_number_74 rfl ?_
                refine z_getR (j := 19) (r := 137) kX12 lf_X12_38 (by decide) rfl dX12_number_75 k0_127 s0_127 r0_127_19 (by decide) ?_
                refine z_iload_n dX12_number_78 rfl ?_
                refine z_aload_n dX12_number_79 rfl ?_
                refine z_getR (j := 3) (r := 130) kX12 lf_X12_17 (by decide) rfl dX12_number_80 k0_127 s0_127 r0_127_3 (by decide) ?_
                refine z_aload_n dX12_number_83 rfl ?_
                refine z_getIV (j := 12) kX12 lf_X12_98 (by decide) rfl (rfl : _ = nI f) dX12_number_84 k0_127 s0_127 ?_
                refine z_ialdV (j := f) rfl (by omega) (hT f (by omega)) dX12_number_87 k0_130 s0_130 ?_
                refine z_bipush (v := 48) dX12_number_88 (by decide) ?_
                refine z_isub dX12_number_90 ?_
                refine z_iastV (j := k0) rfl (by omega) pM_u dX12_number_91 k0_137 s0_137 ?_
                refine z_aload_n dX12_number_92 rfl ?_
                refine z_vV0 (c_X12_nextToken g l hl h4 hT hB.2.1) mw_X12_nextToken lm_X12_108 mi_X12_nextToken mv_X12_nextToken kX12 (by decide) (Nat.le_of_ble_eq_true rfl) zle k0_127 s0_127 dX12_number_93 (fun M93 q93 => ?_)
                obtain rfl := q93.symm
                refine z_iload dX12_number_96 rfl ?_
                refine z_iret dX12_number_98 rfl zle ?_
                first
                  | exact Or.inl ⟨by rw [pe]; exact pn, rfl, by rw [pe]; rfl⟩
                  | exact Or.inr ⟨fun z => z (by rw [pe]), rfl, by rw [pe]⟩
          · have pe := pNum_n (T := T) (len := len) (f := f) (lo := lo) (hi := hi) (fun z => c56 ((l_inn rfl rfl).mpr z.2.2.2))
            refine z_if_eq (tgt := 66) dX12_number_59 (by decide) (fun b59 => ?_) (fun b59 => ?_)
            · refine z_iconst (v := 0) dX12_number_66 (by decide) ?_
              refine z_istore dX12_number_67 (by decide) rfl rfl ?_
              refine z_iload dX12_number_69 rfl ?_
              refine z_if_eq (tgt := 96) dX12_number_71 (by decide) (fun b71 => ?_) (fun b71 => ?_)
              · refine z_iload dX12_number_96 rfl ?_
                refine z_iret dX12_number_98 rfl zle ?_
                first
                  | exact Or.inl ⟨by rw [pe]; exact pn, rfl, by rw [pe]; rfl⟩
                  | exact Or.inr ⟨fun z => z (by rw [pe]), rfl, by rw [pe]⟩
              · exact absurd b71 (by decide)
            · exact absurd b59 (by decide)
    · have pe := pNum_n (T := T) (len := len) (f := f) (lo := lo) (hi := hi) (fun z => c20 z.2.1)
      refine z_if_eq (tgt := 66) dX12_number_23 (by decide) (fun b23 => ?_) (fun b23 => ?_)
      · refine z_iconst (v := 0) dX12_number_66 (by decide) ?_
        refine z_istore dX12_number_67 (by decide) rfl rfl ?_
        refine z_iload dX12_number_69 rfl ?_
        refine z_if_eq (tgt := 96) dX12_number_71 (by decide) (fun b71 => ?_) (fun b71 => ?_)
        · refine z_iload dX12_number_96 rfl ?_
          refine z_iret dX12_number_98 rfl zle ?_
          first
            | exact Or.inl ⟨by rw [pe]; exact pn, rfl, by rw [pe]; rfl⟩
            | exact Or.inr ⟨fun z => z (by rw [pe]), rfl, by rw [pe]⟩
        · exact absurd b71 (by decide)
      · exact absurd b23 (by decide)

