/-! ===== the class: Text ===== -/
def tS (c : Int32) : Int32 := if 97 ≤ c ∧ c ≤ 122 then 1 else if 48 ≤ c ∧ c ≤ 57 then 2 else 3
def tSk (T : Nat → Int32) : Nat → Nat → Nat
  | 0, p => p
  | k + 1, p => if T p = 32 then tSk T k (p + 1) else p
def tRn (T : Nat → Int32) (s : Int32) : Nat → Nat → Nat
  | 0, p => p
  | k + 1, p => if tS (T p) = s then tRn T s k (p + 1) else p
def tF (T : Nat → Int32) (len b : Nat) : Nat := tSk T (len - b) b
def tB (T : Nat → Int32) (len f : Nat) : Nat := if f < len then (if tS (T f) = 3 then f + 1 else tRn T (tS (T f)) (len - (f + 1)) (f + 1)) else f
def tSo (T : Nat → Int32) (len f : Nat) : Int32 := if f < len then tS (T f) else 0
theorem tSk_r (T : Nat → Int32) : ∀ k p, p ≤ tSk T k p ∧ tSk T k p ≤ p + k
  | 0, p => ⟨Nat.le_refl _, Nat.le_refl _⟩
  | k + 1, p => by
    unfold tSk
    split
    · have := tSk_r T k (p + 1); omega
    · omega
theorem tRn_r (T : Nat → Int32) (s : Int32) : ∀ k p, p ≤ tRn T s k p ∧ tRn T s k p ≤ p + k
  | 0, p => ⟨Nat.le_refl _, Nat.le_refl _⟩
  | k + 1, p => by
    unfold tRn
    split
    · have := tRn_r T s k (p + 1); omega
    · omega
theorem tF_r {T : Nat → Int32} {len b : Nat} (h : b ≤ len) : b ≤ tF T len b ∧ tF T len b ≤ len := by
  have := tSk_r T (len - b) b
  unfold tF
  omega
theorem tB_r {T : Nat → Int32} {len f : Nat} (h : f ≤ len) : f ≤ tB T len f ∧ tB T len f ≤ len ∧ (f < len → f < tB T len f) := by
  unfold tB
  split
  · split
    · omega
    · have := tRn_r T (tS (T f)) (len - (f + 1)) (f + 1); omega
  · omega
def tQ (M0 M : zM) (T : Nat → Int32) (len f b : Nat) (s : Int32) : Prop :=
  M 8 1 = nI b ∧ M 8 2 = nI len ∧ M 8 3 = nI f ∧ M 8 4 = s ∧ (∀ j, j < len → M 9 j = T j) ∧ ∀ k, k ≠ 8 → M k = M0 k
section ZTQ
variable {M0 M M2 : zM} {T : Nat → Int32} {len f b x : Nat} {s s2 : Int32}
theorem tQ.sb (R : tQ M0 M T len f b s) (e : M2 = z_up M 8 1 (nI x)) : tQ M0 M2 T len f x s := by
  subst e
  obtain ⟨h1, h2, h3, h4, h5, h6⟩ := R
  refine ⟨z_up_kj _ _ _ _, ?_, ?_, ?_, fun j hj => ?_, fun k hk => ?_⟩
  · rw [z_up_jn _ _ (by omega)]; exact h2
  · rw [z_up_jn _ _ (by omega)]; exact h3
  · rw [z_up_jn _ _ (by omega)]; exact h4
  · rw [z_up_n _ _ _ (by omega)]; exact h5 j hj
  · rw [z_up_n _ _ _ hk]; exact h6 k hk
theorem tQ.sf (R : tQ M0 M T len f b s) (e : M2 = z_up M 8 3 (nI x)) : tQ M0 M2 T len x b s := by
  subst e
  obtain ⟨h1, h2, h3, h4, h5, h6⟩ := R
  refine ⟨?_, ?_, z_up_kj _ _ _ _, ?_, fun j hj => ?_, fun k hk => ?_⟩
  · rw [z_up_jn _ _ (by omega)]; exact h1
  · rw [z_up_jn _ _ (by omega)]; exact h2
  · rw [z_up_jn _ _ (by omega)]; exact h4
  · rw [z_up_n _ _ _ (by omega)]; exact h5 j hj
  · rw [z_up_n _ _ _ hk]; exact h6 k hk
theorem tQ.ss (R : tQ M0 M T len f b s) (e : M2 = z_up M 8 4 s2) : tQ M0 M2 T len f b s2 := by
  subst e
  obtain ⟨h1, h2, h3, h4, h5, h6⟩ := R
  refine ⟨?_, ?_, ?_, z_up_kj _ _ _ _, fun j hj => ?_, fun k hk => ?_⟩
  · rw [z_up_jn _ _ (by omega)]; exact h1
  · rw [z_up_jn _ _ (by omega)]; exact h2
  · rw [z_up_jn _ _ (by omega)]; exact h3
  · rw [z_up_n _ _ _ (by omega)]; exact h5 j hj
  · rw [z_up_n _ _ _ hk]; exact h6 k hk
end ZTQ
abbrev tIs (T : Nat → Int32) (len f i : Nat) : Prop := tB T len f = f + zConLen.getD i 0 ∧ ∀ j, j < zConLen.getD i 0 → T (f + j) = (zConByt.getD i []).getD j 0
def tWord (T : Nat → Int32) (len f : Nat) : Int32 := frst (fun i => decide (tIs T len f i)) 0 8
def tDg (T : Nat → Int32) (len f : Nat) : Int32 := if f < len ∧ tS (T f) = 2 ∧ tB T len f = f + 1 then T f - 48 else -1
def tNx (T : Nat → Int32) (len f : Nat) : Nat := tF T len (tB T len f)
theorem tNx_r {T : Nat → Int32} {len f : Nat} (h : f ≤ len) : f ≤ tNx T len f ∧ tNx T len f ≤ len := by
  have h1 := tB_r (T := T) h
  have h2 := tF_r (T := T) h1.2.1
  unfold tNx
  omega
theorem zCon_let : ∀ i, i < 8 → 0 < zConLen.getD i 0 ∧ tS ((zConByt.getD i []).getD 0 0) = 1 := by decide +kernel
theorem tIs_so {T : Nat → Int32} {len f i : Nat} (hi : i < 8) (hf : f ≤ len) (h : tIs T len f i) : tSo T len f = 1 ∧ f < len := by
  obtain ⟨h1, h2⟩ := zCon_let i hi
  have h3 := tB_r (T := T) hf
  have h4 : f < len := by have := h.1; omega
  refine ⟨?_, h4⟩
  unfold tSo
  rw [if_pos h4]
  have := h.2 0 h1
  rw [Nat.add_zero] at this
  rw [this]
  exact h2
theorem nI_subs {a b : Nat} (h : b ≤ a) : nI a - nI b = nI (a - b) := by
  obtain ⟨c, rfl⟩ : ∃ c, a = b + c := ⟨a - b, by omega⟩
  rw [show b + c - b = c by omega, ← nI_adds, Int32.add_comm, Int32.add_sub_cancel]

set_option maxRecDepth 100000 in
set_option maxHeartbeats 4000000 in
theorem c_X10_sortOf (g : zG) (l : Launch) {c : Int32} {M : zM} : zMet g l yX10_sortOf cX10_sortOf 1 (some .int) 0 0 0 [.int c] S0 M (zQi (fun r' M' => r' = tS c ∧ M' = M)) := by
  refine zMet.of (by decide) (Nat.le_of_ble_eq_true rfl) ?_
  refine z_iload_n dX10_sortOf_0 rfl ?_
  refine z_bipush (v := 97) dX10_sortOf_1 (by decide) ?_
  refine z_icmp_lt (tgt := 14) dX10_sortOf_3 (by decide) (fun b3 => ?_) (fun b3 => ?_)
  · have n1 : ¬ (97 ≤ c ∧ c ≤ 122) := fun z => absurd b3 (Int32.not_lt.mpr z.1)
    refine z_iload_n dX10_sortOf_14 rfl ?_
    refine z_bipush (v := 48) dX10_sortOf_15 (by decide) ?_
    refine z_icmp_lt (tgt := 30) dX10_sortOf_17 (by decide) (fun b17 => ?_) (fun b17 => ?_)
    · have n2 : ¬ (48 ≤ c ∧ c ≤ 57) := fun z => absurd b17 (Int32.not_lt.mpr z.1)
      refine z_iconst (v := 3) dX10_sortOf_30 (by decide) ?_
      refine z_iret dX10_sortOf_31 rfl zle ?_
      first
        | exact ⟨(if_pos p1).symm, rfl⟩
        | exact ⟨((if_neg n1).trans (if_pos p2)).symm, rfl⟩
        | exact ⟨((if_neg n1).trans (if_neg n2)).symm, rfl⟩
    · refine z_iload_n dX10_sortOf_20 rfl ?_
      refine z_bipush (v := 57) dX10_sortOf_21 (by decide) ?_
      refine z_icmp_gt (tgt := 30) dX10_sortOf_23 (by decide) (fun b23 => ?_) (fun b23 => ?_)
      · have n2 : ¬ (48 ≤ c ∧ c ≤ 57) := fun z => absurd b23 (Int32.not_lt.mpr z.2)
        refine z_iconst (v := 3) dX10_sortOf_30 (by decide) ?_
        refine z_iret dX10_sortOf_31 rfl zle ?_
        first
          | exact ⟨(if_pos p1).symm, rfl⟩
          | exact ⟨((if_neg n1).trans (if_pos p2)).symm, rfl⟩
          | exact ⟨((if_neg n1).trans (if_neg n2)).symm, rfl⟩
      · have p2 : 48 ≤ c ∧ c ≤ 57 := ⟨Int32.not_lt.mp b17, Int32.not_lt.mp b23⟩
        refine z_iconst (v := 2) dX10_sortOf_26 (by decide) ?_
        refine z_goto (tgt := 31) dX10_sortOf_27 (by decide) ?_
        refine z_iret dX10_sortOf_31 rfl zle ?_
        first
          | exact ⟨(if_pos p1).symm, rfl⟩
          | exact ⟨((if_neg n1).trans (if_pos p2)).symm, rfl⟩
          | exact ⟨((if_neg n1).trans (if_neg n2)).symm, rfl⟩
  · refine z_iload_n dX10_sortOf_6 rfl ?_
    refine z_bipush (v := 122) dX10_sortOf_7 (by decide) ?_
    refine z_icmp_gt (tgt := 14) dX10_sortOf_9 (by decide) (fun b9 => ?_) (fun b9 => ?_)
    · have n1 : ¬ (97 ≤ c ∧ c ≤ 122) := fun z => absurd b9 (Int32.not_lt.mpr z.2)
      refine z_iload_n dX10_sortOf_14 rfl ?_
      refine z_bipush (v := 48) dX10_sortOf_15 (by decide) ?_
      refine z_icmp_lt (tgt := 30) dX10_sortOf_17 (by decide) (fun b17 => ?_) (fun b17 => ?_)
      · have n2 : ¬ (48 ≤ c ∧ c ≤ 57) := fun z => absurd b17 (Int32.not_lt.mpr z.1)
        refine z_iconst (v := 3) dX10_sortOf_30 (by decide) ?_
        refine z_iret dX10_sortOf_31 rfl zle ?_
        first
          | exact ⟨(if_pos p1).symm, rfl⟩
          | exact ⟨((if_neg n1).trans (if_pos p2)).symm, rfl⟩
          | exact ⟨((if_neg n1).trans (if_neg n2)).symm, rfl⟩
      · refine z_iload_n dX10_sortOf_20 rfl ?_
        refine z_bipush (v := 57) dX10_sortOf_21 (by decide) ?_
        refine z_icmp_gt (tgt := 30) dX10_sortOf_23 (by decide) (fun b23 => ?_) (fun b23 => ?_)
        · have n2 : ¬ (48 ≤ c ∧ c ≤ 57) := fun z => absurd b23 (Int32.not_lt.mpr z.2)
          refine z_iconst (v := 3) dX10_sortOf_30 (by decide) ?_
          refine z_iret dX10_sortOf_31 rfl zle ?_
          first
            | exact ⟨(if_pos p1).symm, rfl⟩
            | exact ⟨((if_neg n1).trans (if_pos p2)).symm, rfl⟩
            | exact ⟨((if_neg n1).trans (if_neg n2)).symm, rfl⟩
        · have p2 : 48 ≤ c ∧ c ≤ 57 := ⟨Int32.not_lt.mp b17, Int32.not_lt.mp b23⟩
          refine z_iconst (v := 2) dX10_sortOf_26 (by decide) ?_
          refine z_goto (tgt := 31) dX10_sortOf_27 (by decide) ?_
          refine z_iret dX10_sortOf_31 rfl zle ?_
          first
            | exact ⟨(if_pos p1).symm, rfl⟩
            | exact ⟨((if_neg n1).trans (if_pos p2)).symm, rfl⟩
            | exact ⟨((if_neg n1).trans (if_neg n2)).symm, rfl⟩
    · have p1 : 97 ≤ c ∧ c ≤ 122 := ⟨Int32.not_lt.mp b3, Int32.not_lt.mp b9⟩
      refine z_iconst (v := 1) dX10_sortOf_12 (by decide) ?_
      refine z_iret dX10_sortOf_13 rfl zle ?_
      first
        | exact ⟨(if_pos p1).symm, rfl⟩
        | exact ⟨((if_neg n1).trans (if_pos p2)).symm, rfl⟩
        | exact ⟨((if_neg n1).trans (if_neg n2)).symm, rfl⟩

set_option maxRecDepth 100000 in
set_option maxHeartbeats 4000000 in
theorem lp_tok2 (g : zG) (l : Launch) {M0 : zM} {T : Nat → Int32} {len f : Nat} {s : Int32} (hl : len ≤ 200) (hf : f < len) (hs : s = tS (T f)) : ∀ (k x : Nat) (M : zM), x ≤ len → len - x < k → tQ M0 M T len f x s → tB T len f = (if s = 3 then x else tRn T s (len - x) x) → zA g l yX10_nextToken cX10_nextToken 1 none 1 0 0 (zQv (fun M' => tQ M0 M' T len f (tB T len f) s)) 97 0 0 S0 M [.ref 8] [] := by
  intro k
  induction k with
  | zero => intro x M hh hk; exact absurd hk (Nat.not_lt_zero _)
  | succ k ih =>
    intro x M hh hk R w
    refine z_aload_n dX10_nextToken_97 rfl ?_
    refine z_getIV (j := 4) kX10 lf_X10_28 (by decide) rfl R.2.2.2.1 dX10_nextToken_98 k0_8 s0_8 ?_
    refine z_iconst (v := 3) dX10_nextToken_101 (by decide) ?_
    refine z_icmp_eq (tgt := 148) dX10_nextToken_102 (by decide) (fun b102 => ?_) (fun b102 => ?_)
    · rw [if_pos b102] at w
      rw [← w] at R
      refine z_vret dX10_nextToken_148 zle ?_
      first | exact R | (rw [← w] at R; exact R)
    · rw [if_neg b102] at w
      refine z_aload_n dX10_nextToken_105 rfl ?_
      refine z_getIV (j := 1) kX10 lf_X10_19 (by decide) rfl R.1 dX10_nextToken_106 k0_8 s0_8 ?_
      refine z_aload_n dX10_nextToken_109 rfl ?_
      refine z_getIV (j := 2) kX10 lf_X10_15 (by decide) rfl R.2.1 dX10_nextToken_110 k0_8 s0_8 ?_
      refine z_icmp_ge (tgt := 148) dX10_nextToken_113 (by decide) (fun b113 => ?_) (fun b113 => ?_)
      · have e : len ≤ x := (nI_leI (by omega) (by omega)).mp b113
        rw [show len - x = 0 by omega] at w
        rw [show tB T len f = x from w] 
        refine z_vret dX10_nextToken_148 zle ?_
        first | exact R | (rw [← w] at R; exact R)
      · have hn : x < len := by
          rcases Nat.lt_or_ge x len with z | z
          · exact z
          · exact absurd (nI_le z (by omega)) b113
        rw [show len - x = (len - (x + 1)) + 1 by omega] at w
        refine z_aload_n dX10_nextToken_116 rfl ?_
        refine z_getR (j := 0) (r := 9) kX10 lf_X10_9 (by decide) rfl dX10_nextToken_117 k0_8 s0_8 r0_8_0 (by decide) ?_
        refine z_aload_n dX10_nextToken_120 rfl ?_
        refine z_getIV (j := 1) kX10 lf_X10_19 (by decide) rfl R.1 dX10_nextToken_121 k0_8 s0_8 ?_
        refine z_ialdV (j := x) rfl (by omega) (R.2.2.2.2.1 x (by omega)) dX10_nextToken_124 k0_9 s0_9 ?_
        refine z_iS1 (c_X10_sortOf g l) mw_X10_sortOf lm_X10_31 ms_X10_sortOf (by decide) (Nat.le_of_ble_eq_true rfl) zle dX10_nextToken_125 (fun r125 M125 q125 => ?_)
        obtain ⟨qr125, qm125⟩ := q125
        obtain rfl := qr125.symm
        obtain rfl := qm125.symm
        refine z_aload_n dX10_nextToken_128 rfl ?_
        refine z_getIV (j := 4) kX10 lf_X10_28 (by decide) rfl R.2.2.2.1 dX10_nextToken_129 k0_8 s0_8 ?_
        refine z_icmp_ne (tgt := 148) dX10_nextToken_132 (by decide) (fun b132 => ?_) (fun b132 => ?_)
        · rw [show tB T len f = x from w.trans (if_neg b132)]
          refine z_vret dX10_nextToken_148 zle ?_
          first | exact R | (rw [← w] at R; exact R)
        · refine z_aload_n dX10_nextToken_135 rfl ?_
          refine z_dup dX10_nextToken_136 rfl ?_
          refine z_getIV (j := 1) kX10 lf_X10_19 (by decide) rfl R.1 dX10_nextToken_137 k0_8 s0_8 ?_
          refine z_iconst (v := 1) dX10_nextToken_140 (by decide) ?_
          refine z_iaddN (a := x) (b := 1) rfl rfl dX10_nextToken_141 ?_
          refine z_putIE (j := 1) kX10 lf_X10_19 (by decide) rfl rfl (kX10.2.2.1 1 (by decide)) rfl rfl dX10_nextToken_142 k0_8 s0_8 (fun M142 e142 => ?_)
          have R142 := R.sb (x := (x + 1)) e142
          refine z_goto (tgt := 97) dX10_nextToken_145 (by decide) ?_
          exact ih (x + 1) _ (by omega) (by omega) R142 (by rw [if_neg b102]; exact w.trans (if_pos b132))

set_option maxRecDepth 100000 in
set_option maxHeartbeats 4000000 in
theorem lp_tok1 (g : zG) (l : Launch) {M0 : zM} {T : Nat → Int32} {len b : Nat} {s : Int32} (hl : len ≤ 200) : ∀ (k p : Nat) (M : zM), p ≤ len → len - p < k → tQ M0 M T len p b s → tF T len b = tSk T (len - p) p → zA g l yX10_nextToken cX10_nextToken 1 none 1 0 0 (zQv (fun M' => tQ M0 M' T len (tF T len b) (tB T len (tF T len b)) (tSo T len (tF T len b)))) 8 0 0 S0 M [.ref 8] [] := by
  intro k
  induction k with
  | zero => intro p M hh hk; exact absurd hk (Nat.not_lt_zero _)
  | succ k ih =>
    intro p M hh hk R w
    refine z_aload_n dX10_nextToken_8 rfl ?_
    refine z_getIV (j := 3) kX10 lf_X10_25 (by decide) rfl R.2.2.1 dX10_nextToken_9 k0_8 s0_8 ?_
    refine z_aload_n dX10_nextToken_12 rfl ?_
    refine z_getIV (j := 2) kX10 lf_X10_15 (by decide) rfl R.2.1 dX10_nextToken_13 k0_8 s0_8 ?_
    refine z_icmp_ge (tgt := 46) dX10_nextToken_16 (by decide) (fun b16 => ?_) (fun b16 => ?_)
    · have e : len ≤ p := (nI_leI (by omega) (by omega)).mp b16
      have e3 : tF T len b = p := by rw [w, show len - p = 0 by omega]; rfl
      rw [e3]
      refine z_aload_n dX10_nextToken_46 rfl ?_
      refine z_aload_n dX10_nextToken_47 rfl ?_
      refine z_getIV (j := 3) kX10 lf_X10_25 (by decide) rfl R.2.2.1 dX10_nextToken_48 k0_8 s0_8 ?_
      refine z_putIE (j := 1) kX10 lf_X10_19 (by decide) rfl rfl (kX10.2.2.1 1 (by decide)) rfl rfl dX10_nextToken_51 k0_8 s0_8 (fun M51 e51 => ?_)
      have R51 := R.sb (x := p) e51
      refine z_aload_n dX10_nextToken_54 rfl ?_
      refine z_getIV (j := 3) kX10 lf_X10_25 (by decide) rfl R51.2.2.1 dX10_nextToken_55 k0_8 s0_8 ?_
      refine z_aload_n dX10_nextToken_58 rfl ?_
      refine z_getIV (j := 2) kX10 lf_X10_15 (by decide) rfl R51.2.1 dX10_nextToken_59 k0_8 s0_8 ?_
      refine z_icmp_lt (tgt := 71) dX10_nextToken_62 (by decide) (fun b62 => ?_) (fun b62 => ?_)
      · have hp : p < len := (nI_ltI (by omega) (by omega)).mp b62
        refine z_aload_n dX10_nextToken_71 rfl ?_
        refine z_aload_n dX10_nextToken_72 rfl ?_
        refine z_getR (j := 0) (r := 9) kX10 lf_X10_9 (by decide) rfl dX10_nextToken_73 k0_8 s0_8 r0_8_0 (by decide) ?_
        refine z_aload_n dX10_nextToken_76 rfl ?_
        refine z_getIV (j := 3) kX10 lf_X10_25 (by decide) rfl R51.2.2.1 dX10_nextToken_77 k0_8 s0_8 ?_
        refine z_ialdV (j := p) rfl (by omega) (R51.2.2.2.2.1 p (by omega)) dX10_nextToken_80 k0_9 s0_9 ?_
        refine z_iS1 (c_X10_sortOf g l) mw_X10_sortOf lm_X10_31 ms_X10_sortOf (by decide) (Nat.le_of_ble_eq_true rfl) zle dX10_nextToken_81 (fun r81 M81 q81 => ?_)
        obtain ⟨qr81, qm81⟩ := q81
        obtain rfl := qr81.symm
        obtain rfl := qm81.symm
        refine z_putIE (j := 4) kX10 lf_X10_28 (by decide) rfl rfl (kX10.2.2.1 4 (by decide)) rfl rfl dX10_nextToken_84 k0_8 s0_8 (fun M84 e84 => ?_)
        have R84 := R51.ss e84
        refine z_aload_n dX10_nextToken_87 rfl ?_
        refine z_dup dX10_nextToken_88 rfl ?_
        refine z_getIV (j := 1) kX10 lf_X10_19 (by decide) rfl R84.1 dX10_nextToken_89 k0_8 s0_8 ?_
        refine z_iconst (v := 1) dX10_nextToken_92 (by decide) ?_
        refine z_iaddN (a := p) (b := 1) rfl rfl dX10_nextToken_93 ?_
        refine z_putIE (j := 1) kX10 lf_X10_19 (by decide) rfl rfl (kX10.2.2.1 1 (by decide)) rfl rfl dX10_nextToken_94 k0_8 s0_8 (fun M94 e94 => ?_)
        have R94 := R84.sb (x := (p + 1)) e94
        have h0 := lp_tok2 g l (M0 := M0) hl hp rfl (len + 1) (p + 1) _ (by omega) (by omega) R94 (by unfold tB; rw [if_pos hp])
        rw [show tSo T len p = tS (T p) from if_pos hp]
        exact h0
      · have hp : ¬ p < len := fun z => b62 ((nI_ltI (by omega) (by omega)).mpr z)
        refine z_aload_n dX10_nextToken_65 rfl ?_
        refine z_iconst (v := 0) dX10_nextToken_66 (by decide) ?_
        refine z_putIE (j := 4) kX10 lf_X10_28 (by decide) rfl rfl (kX10.2.2.1 4 (by decide)) rfl rfl dX10_nextToken_67 k0_8 s0_8 (fun M67 e67 => ?_)
        have R67 := R51.ss e67
        refine z_vret dX10_nextToken_70 zle ?_
        unfold tB tSo
        rw [if_neg hp, if_neg hp]
        exact R67
    · have hn : p < len := by
        rcases Nat.lt_or_ge p len with z | z
        · exact z
        · exact absurd (nI_le z (by omega)) b16
      rw [show len - p = (len - (p + 1)) + 1 by omega] at w
      refine z_aload_n dX10_nextToken_19 rfl ?_
      refine z_getR (j := 0) (r := 9) kX10 lf_X10_9 (by decide) rfl dX10_nextToken_20 k0_8 s0_8 r0_8_0 (by decide) ?_
      refine z_aload_n dX10_nextToken_23 rfl ?_
      refine z_getIV (j := 3) kX10 lf_X10_25 (by decide) rfl R.2.2.1 dX10_nextToken_24 k0_8 s0_8 ?_
      refine z_ialdV (j := p) rfl (by omega) (R.2.2.2.2.1 p (by omega)) dX10_nextToken_27 k0_9 s0_9 ?_
      refine z_bipush (v := 32) dX10_nextToken_28 (by decide) ?_
      refine z_icmp_ne (tgt := 46) dX10_nextToken_30 (by decide) (fun b30 => ?_) (fun b30 => ?_)
      · have e3 : tF T len b = p := w.trans (if_neg b30)
        rw [e3]
        refine z_aload_n dX10_nextToken_46 rfl ?_
        refine z_aload_n dX10_nextToken_47 rfl ?_
        refine z_getIV (j := 3) kX10 lf_X10_25 (by decide) rfl R.2.2.1 dX10_nextToken_48 k0_8 s0_8 ?_
        refine z_putIE (j := 1) kX10 lf_X10_19 (by decide) rfl rfl (kX10.2.2.1 1 (by decide)) rfl rfl dX10_nextToken_51 k0_8 s0_8 (fun M51 e51 => ?_)
        have R51 := R.sb (x := p) e51
        refine z_aload_n dX10_nextToken_54 rfl ?_
        refine z_getIV (j := 3) kX10 lf_X10_25 (by decide) rfl R51.2.2.1 dX10_nextToken_55 k0_8 s0_8 ?_
        refine z_aload_n dX10_nextToken_58 rfl ?_
        refine z_getIV (j := 2) kX10 lf_X10_15 (by decide) rfl R51.2.1 dX10_nextToken_59 k0_8 s0_8 ?_
        refine z_icmp_lt (tgt := 71) dX10_nextToken_62 (by decide) (fun b62 => ?_) (fun b62 => ?_)
        · have hp : p < len := (nI_ltI (by omega) (by omega)).mp b62
          refine z_aload_n dX10_nextToken_71 rfl ?_
          refine z_aload_n dX10_nextToken_72 rfl ?_
          refine z_getR (j := 0) (r := 9) kX10 lf_X10_9 (by decide) rfl dX10_nextToken_73 k0_8 s0_8 r0_8_0 (by decide) ?_
          refine z_aload_n dX10_nextToken_76 rfl ?_
          refine z_getIV (j := 3) kX10 lf_X10_25 (by decide) rfl R51.2.2.1 dX10_nextToken_77 k0_8 s0_8 ?_
          refine z_ialdV (j := p) rfl (by omega) (R51.2.2.2.2.1 p (by omega)) dX10_nextToken_80 k0_9 s0_9 ?_
          refine z_iS1 (c_X10_sortOf g l) mw_X10_sortOf lm_X10_31 ms_X10_sortOf (by decide) (Nat.le_of_ble_eq_true rfl) zle dX10_nextToken_81 (fun r81 M81 q81 => ?_)
          obtain ⟨qr81, qm81⟩ := q81
          obtain rfl := qr81.symm
          obtain rfl := qm81.symm
          refine z_putIE (j := 4) kX10 lf_X10_28 (by decide) rfl rfl (kX10.2.2.1 4 (by decide)) rfl rfl dX10_nextToken_84 k0_8 s0_8 (fun M84 e84 => ?_)
          have R84 := R51.ss e84
          refine z_aload_n dX10_nextToken_87 rfl ?_
          refine z_dup dX10_nextToken_88 rfl ?_
          refine z_getIV (j := 1) kX10 lf_X10_19 (by decide) rfl R84.1 dX10_nextToken_89 k0_8 s0_8 ?_
          refine z_iconst (v := 1) dX10_nextToken_92 (by decide) ?_
          refine z_iaddN (a := p) (b := 1) rfl rfl dX10_nextToken_93 ?_
          refine z_putIE (j := 1) kX10 lf_X10_19 (by decide) rfl rfl (kX10.2.2.1 1 (by decide)) rfl rfl dX10_nextToken_94 k0_8 s0_8 (fun M94 e94 => ?_)
          have R94 := R84.sb (x := (p + 1)) e94
          have h0 := lp_tok2 g l (M0 := M0) hl hp rfl (len + 1) (p + 1) _ (by omega) (by omega) R94 (by unfold tB; rw [if_pos hp])
          rw [show tSo T len p = tS (T p) from if_pos hp]
          exact h0
        · have hp : ¬ p < len := fun z => b62 ((nI_ltI (by omega) (by omega)).mpr z)
          refine z_aload_n dX10_nextToken_65 rfl ?_
          refine z_iconst (v := 0) dX10_nextToken_66 (by decide) ?_
          refine z_putIE (j := 4) kX10 lf_X10_28 (by decide) rfl rfl (kX10.2.2.1 4 (by decide)) rfl rfl dX10_nextToken_67 k0_8 s0_8 (fun M67 e67 => ?_)
          have R67 := R51.ss e67
          refine z_vret dX10_nextToken_70 zle ?_
          unfold tB tSo
          rw [if_neg hp, if_neg hp]
          exact R67
      · refine z_aload_n dX10_nextToken_33 rfl ?_
        refine z_dup dX10_nextToken_34 rfl ?_
        refine z_getIV (j := 3) kX10 lf_X10_25 (by decide) rfl R.2.2.1 dX10_nextToken_35 k0_8 s0_8 ?_
        refine z_iconst (v := 1) dX10_nextToken_38 (by decide) ?_
        refine z_iaddN (a := p) (b := 1) rfl rfl dX10_nextToken_39 ?_
        refine z_putIE (j := 3) kX10 lf_X10_25 (by decide) rfl rfl (kX10.2.2.1 3 (by decide)) rfl rfl dX10_nextToken_40 k0_8 s0_8 (fun M40 e40 => ?_)
        have R40 := R.sf (x := (p + 1)) e40
        refine z_goto (tgt := 8) dX10_nextToken_43 (by decide) ?_
        exact ih (p + 1) _ (by omega) (by omega) R40 (w.trans (if_pos b30))

set_option maxRecDepth 100000 in
set_option maxHeartbeats 4000000 in
theorem c_X10_nextToken (g : zG) (l : Launch) {M0 M : zM} {T : Nat → Int32} {len f b : Nat} {s : Int32} (hl : len ≤ 200) (hb : b ≤ len) (R : tQ M0 M T len f b s) : zMet g l yX10_nextToken cX10_nextToken 1 none 1 0 0 [.ref 8] S0 M (zQv (fun M' => tQ M0 M' T len (tF T len b) (tB T len (tF T len b)) (tSo T len (tF T len b)))) := by
  refine zMet.of (by decide) (Nat.le_of_ble_eq_true rfl) ?_
  refine z_aload_n dX10_nextToken_0 rfl ?_
  refine z_aload_n dX10_nextToken_1 rfl ?_
  refine z_getIV (j := 1) kX10 lf_X10_19 (by decide) rfl R.1 dX10_nextToken_2 k0_8 s0_8 ?_
  refine z_putIE (j := 3) kX10 lf_X10_25 (by decide) rfl rfl (kX10.2.2.1 3 (by decide)) rfl rfl dX10_nextToken_5 k0_8 s0_8 (fun M5 e5 => ?_)
  have R5 := R.sf (x := b) e5
  exact lp_tok1 g l hl (len + 1) b _ hb (by omega) R5 rfl

set_option maxRecDepth 100000 in
set_option maxHeartbeats 4000000 in
theorem c_X10_firstToken (g : zG) (l : Launch) {M0 M : zM} {T : Nat → Int32} {len f b : Nat} {s : Int32} (hl : len ≤ 200) (R : tQ M0 M T len f b s) : zMet g l yX10_firstToken cX10_firstToken 1 none 2 0 0 [.ref 8] S0 M (zQv (fun M' => tQ M0 M' T len (tF T len 0) (tB T len (tF T len 0)) (tSo T len (tF T len 0)))) := by
  refine zMet.of (by decide) (Nat.le_of_ble_eq_true rfl) ?_
  refine z_aload_n dX10_firstToken_0 rfl ?_
  refine z_iconst (v := 0) dX10_firstToken_1 (by decide) ?_
  refine z_putIE (j := 1) kX10 lf_X10_19 (by decide) rfl rfl (kX10.2.2.1 1 (by decide)) rfl rfl dX10_firstToken_2 k0_8 s0_8 (fun M2 e2 => ?_)
  have R2 := R.sb (x := 0) e2
  refine z_aload_n dX10_firstToken_5 rfl ?_
  refine z_vV0 (c_X10_nextToken g l hl (Nat.zero_le _) R2) mw_X10_nextToken lm_X10_22 mi_X10_nextToken mv_X10_nextToken kX10 (by decide) (Nat.le_of_ble_eq_true rfl) zle k0_8 s0_8 dX10_firstToken_6 (fun M6 q6 => ?_)
  refine z_vret dX10_firstToken_9 zle ?_
  exact q6

set_option maxRecDepth 100000 in
set_option maxHeartbeats 4000000 in
theorem c_X10_isSemicolon (g : zG) (l : Launch) {M0 M : zM} {T : Nat → Int32} {len f : Nat} (hl : len ≤ 200) (hf : f ≤ len) (R : tQ M0 M T len f (tB T len f) (tSo T len f)) : zMet g l yX10_isSemicolon cX10_isSemicolon 1 (some .boolean) 0 0 0 [.ref 8] S0 M (zQi (fun r' M' => M' = M ∧ (((f < len ∧ T f = 59) ∧ r' = 1) ∨ (¬ (f < len ∧ T f = 59) ∧ r' = 0)))) := by
  have hB := tB_r (T := T) hf
  refine zMet.of (by decide) (Nat.le_of_ble_eq_true rfl) ?_
  refine z_aload_n dX10_isSemicolon_0 rfl ?_
  refine z_getIV (j := 4) kX10 lf_X10_28 (by decide) rfl R.2.2.2.1 dX10_isSemicolon_1 k0_8 s0_8 ?_
  refine z_iconst (v := 3) dX10_isSemicolon_4 (by decide) ?_
  refine z_icmp_ne (tgt := 37) dX10_isSemicolon_5 (by decide) (fun b5 => ?_) (fun b5 => ?_)
  · refine z_iconst (v := 0) dX10_isSemicolon_37 (by decide) ?_
    refine z_iret dX10_isSemicolon_38 rfl zle ?_
    first
      | exact ⟨rfl, Or.inl ⟨⟨hp, b30⟩, rfl⟩⟩
      | exact ⟨rfl, Or.inr ⟨fun z => b30 z.2, rfl⟩⟩
      | exact ⟨rfl, Or.inr ⟨fun z => hp z.1, rfl⟩⟩
      | exact ⟨rfl, Or.inr ⟨fun z => b5 (by unfold tSo; rw [if_pos z.1, z.2]; rfl), rfl⟩⟩
  · refine z_aload_n dX10_isSemicolon_8 rfl ?_
    refine z_getIV (j := 3) kX10 lf_X10_25 (by decide) rfl R.2.2.1 dX10_isSemicolon_9 k0_8 s0_8 ?_
    refine z_aload_n dX10_isSemicolon_12 rfl ?_
    refine z_getIV (j := 2) kX10 lf_X10_15 (by decide) rfl R.2.1 dX10_isSemicolon_13 k0_8 s0_8 ?_
    refine z_icmp_ge (tgt := 37) dX10_isSemicolon_16 (by decide) (fun b16 => ?_) (fun b16 => ?_)
    · have hp : ¬ f < len := fun z => absurd ((nI_leI (by omega) (by omega)).mp b16) (by omega)
      refine z_iconst (v := 0) dX10_isSemicolon_37 (by decide) ?_
      refine z_iret dX10_isSemicolon_38 rfl zle ?_
      first
        | exact ⟨rfl, Or.inl ⟨⟨hp, b30⟩, rfl⟩⟩
        | exact ⟨rfl, Or.inr ⟨fun z => b30 z.2, rfl⟩⟩
        | exact ⟨rfl, Or.inr ⟨fun z => hp z.1, rfl⟩⟩
        | exact ⟨rfl, Or.inr ⟨fun z => b5 (by unfold tSo; rw [if_pos z.1, z.2]; rfl), rfl⟩⟩
    · have hp : f < len := by
        rcases Nat.lt_or_ge f len with z | z
        · exact z
        · exact absurd (nI_le z (by omega)) b16
      refine z_aload_n dX10_isSemicolon_19 rfl ?_
      refine z_getR (j := 0) (r := 9) kX10 lf_X10_9 (by decide) rfl dX10_isSemicolon_20 k0_8 s0_8 r0_8_0 (by decide) ?_
      refine z_aload_n dX10_isSemicolon_23 rfl ?_
      refine z_getIV (j := 3) kX10 lf_X10_25 (by decide) rfl R.2.2.1 dX10_isSemicolon_24 k0_8 s0_8 ?_
      refine z_ialdV (j := f) rfl (by omega) (R.2.2.2.2.1 f (by omega)) dX10_isSemicolon_27 k0_9 s0_9 ?_
      refine z_bipush (v := 59) dX10_isSemicolon_28 (by decide) ?_
      refine z_icmp_ne (tgt := 37) dX10_isSemicolon_30 (by decide) (fun b30 => ?_) (fun b30 => ?_)
      · refine z_iconst (v := 0) dX10_isSemicolon_37 (by decide) ?_
        refine z_iret dX10_isSemicolon_38 rfl zle ?_
        first
          | exact ⟨rfl, Or.inl ⟨⟨hp, b30⟩, rfl⟩⟩
          | exact ⟨rfl, Or.inr ⟨fun z => b30 z.2, rfl⟩⟩
          | exact ⟨rfl, Or.inr ⟨fun z => hp z.1, rfl⟩⟩
          | exact ⟨rfl, Or.inr ⟨fun z => b5 (by unfold tSo; rw [if_pos z.1, z.2]; rfl), rfl⟩⟩
      · refine z_iconst (v := 1) dX10_isSemicolon_33 (by decide) ?_
        refine z_goto (tgt := 38) dX10_isSemicolon_34 (by decide) ?_
        refine z_iret dX10_isSemicolon_38 rfl zle ?_
        first
          | exact ⟨rfl, Or.inl ⟨⟨hp, b30⟩, rfl⟩⟩
          | exact ⟨rfl, Or.inr ⟨fun z => b30 z.2, rfl⟩⟩
          | exact ⟨rfl, Or.inr ⟨fun z => hp z.1, rfl⟩⟩
          | exact ⟨rfl, Or.inr ⟨fun z => b5 (by unfold tSo; rw [if_pos z.1, z.2]; rfl), rfl⟩⟩

set_option maxRecDepth 100000 in
set_option maxHeartbeats 4000000 in
theorem c_X10_digit (g : zG) (l : Launch) {M0 M : zM} {T : Nat → Int32} {len f : Nat} (hl : len ≤ 200) (hf : f ≤ len) (R : tQ M0 M T len f (tB T len f) (tSo T len f)) : zMet g l yX10_digit cX10_digit 1 (some .int) 0 0 0 [.ref 8] S0 M (zQi (fun r' M' => r' = tDg T len f ∧ M' = M)) := by
  have hB := tB_r (T := T) hf
  refine zMet.of (by decide) (Nat.le_of_ble_eq_true rfl) ?_
  refine z_aload_n dX10_digit_0 rfl ?_
  refine z_getIV (j := 4) kX10 lf_X10_28 (by decide) rfl R.2.2.2.1 dX10_digit_1 k0_8 s0_8 ?_
  refine z_iconst (v := 2) dX10_digit_4 (by decide) ?_
  refine z_icmp_ne (tgt := 47) dX10_digit_5 (by decide) (fun b5 => ?_) (fun b5 => ?_)
  · refine z_iconst (v := (-1)) dX10_digit_47 (by decide) ?_
    refine z_iret dX10_digit_48 rfl zle ?_
    refine ⟨?_, rfl⟩
    unfold tDg
    first
      | (rw [if_pos ⟨hp, by have z := b5; unfold tSo at z; rw [if_pos hp] at z; exact z, by have := (nI_eq (b := 1) (by omega) (by omega)).mp b18; omega⟩]; done)
      | (rw [if_neg (fun z => hp z.1)]; done)
      | (rw [if_neg (fun z => b18 (by rw [z.2.2, show f + 1 - f = 1 by omega]; rfl))]; done)
      | (rw [if_neg (fun z => b5 (by unfold tSo; rw [if_pos z.1]; exact z.2.1))]; done)
  · refine z_aload_n dX10_digit_8 rfl ?_
    refine z_getIV (j := 1) kX10 lf_X10_19 (by decide) rfl R.1 dX10_digit_9 k0_8 s0_8 ?_
    refine z_aload_n dX10_digit_12 rfl ?_
    refine z_getIV (j := 3) kX10 lf_X10_25 (by decide) rfl R.2.2.1 dX10_digit_13 k0_8 s0_8 ?_
    refine z_isub dX10_digit_16 ?_
    rw [nI_subs hB.1]
    refine z_iconst (v := 1) dX10_digit_17 (by decide) ?_
    refine z_icmp_ne (tgt := 47) dX10_digit_18 (by decide) (fun b18 => ?_) (fun b18 => ?_)
    · refine z_iconst (v := (-1)) dX10_digit_47 (by decide) ?_
      refine z_iret dX10_digit_48 rfl zle ?_
      refine ⟨?_, rfl⟩
      unfold tDg
      first
        | (rw [if_pos ⟨hp, by have z := b5; unfold tSo at z; rw [if_pos hp] at z; exact z, by have := (nI_eq (b := 1) (by omega) (by omega)).mp b18; omega⟩]; done)
        | (rw [if_neg (fun z => hp z.1)]; done)
        | (rw [if_neg (fun z => b18 (by rw [z.2.2, show f + 1 - f = 1 by omega]; rfl))]; done)
        | (rw [if_neg (fun z => b5 (by unfold tSo; rw [if_pos z.1]; exact z.2.1))]; done)
    · refine z_aload_n dX10_digit_21 rfl ?_
      refine z_getIV (j := 3) kX10 lf_X10_25 (by decide) rfl R.2.2.1 dX10_digit_22 k0_8 s0_8 ?_
      refine z_aload_n dX10_digit_25 rfl ?_
      refine z_getIV (j := 2) kX10 lf_X10_15 (by decide) rfl R.2.1 dX10_digit_26 k0_8 s0_8 ?_
      refine z_icmp_ge (tgt := 47) dX10_digit_29 (by decide) (fun b29 => ?_) (fun b29 => ?_)
      · have hp : ¬ f < len := fun z => absurd ((nI_leI (by omega) (by omega)).mp b29) (by omega)
        refine z_iconst (v := (-1)) dX10_digit_47 (by decide) ?_
        refine z_iret dX10_digit_48 rfl zle ?_
        refine ⟨?_, rfl⟩
        unfold tDg
        first
          | (rw [if_pos ⟨hp, by have z := b5; unfold tSo at z; rw [if_pos hp] at z; exact z, by have := (nI_eq (b := 1) (by omega) (by omega)).mp b18; omega⟩]; done)
          | (rw [if_neg (fun z => hp z.1)]; done)
          | (rw [if_neg (fun z => b18 (by rw [z.2.2, show f + 1 - f = 1 by omega]; rfl))]; done)
          | (rw [if_neg (fun z => b5 (by unfold tSo; rw [if_pos z.1]; exact z.2.1))]; done)
      · have hp : f < len := by
          rcases Nat.lt_or_ge f len with z | z
          · exact z
          · exact absurd (nI_le z (by omega)) b29
        refine z_aload_n dX10_digit_32 rfl ?_
        refine z_getR (j := 0) (r := 9) kX10 lf_X10_9 (by decide) rfl dX10_digit_33 k0_8 s0_8 r0_8_0 (by decide) ?_
        refine z_aload_n dX10_digit_36 rfl ?_
        refine z_getIV (j := 3) kX10 lf_X10_25 (by decide) rfl R.2.2.1 dX10_digit_37 k0_8 s0_8 ?_
        refine z_ialdV (j := f) rfl (by omega) (R.2.2.2.2.1 f (by omega)) dX10_digit_40 k0_9 s0_9 ?_
        refine z_bipush (v := 48) dX10_digit_41 (by decide) ?_
        refine z_isub dX10_digit_43 ?_
        refine z_goto (tgt := 48) dX10_digit_44 (by decide) ?_
        refine z_iret dX10_digit_48 rfl zle ?_
        refine ⟨?_, rfl⟩
        unfold tDg
        first
          | (rw [if_pos ⟨hp, by have z := b5; unfold tSo at z; rw [if_pos hp] at z; exact z, by have := (nI_eq (b := 1) (by omega) (by omega)).mp b18; omega⟩]; done)
          | (rw [if_neg (fun z => hp z.1)]; done)
          | (rw [if_neg (fun z => b18 (by rw [z.2.2, show f + 1 - f = 1 by omega]; rfl))]; done)
          | (rw [if_neg (fun z => b5 (by unfold tSo; rw [if_pos z.1]; exact z.2.1))]; done)

