/-! ===== the reference's own parser: reads, fault, road ===== -/
theorem wD_id {dv : Bool} {w0 : Nat → Int32} {τ : Dy} (h : ∀ j, j < 70 → w0 (70 + j) = τ j) : wD dv w0 τ = w0 := by
  unfold wD
  split
  · funext j
    unfold regU
    by_cases c : 70 ≤ j ∧ j < 70 + 70
    · rw [if_pos c, ← h (j - 70) (by omega), show 70 + (j - 70) = j by omega]
    · rw [if_neg c]
  · rfl
def rdP (B : zM) (T : Nat → Int32) (len : Nat) (dv : Bool) (w0 : Nat → Int32) (X : Bool × Nat × pSt) (r' : Int32) (M' : zM) : Prop :=
  (∃ nu', M' = pM B X.2.2.1 (tB T len X.2.2.1) X.2.2.2.2.2.2 X.2.2.2.2.1 X.2.2.2.2.2.1 (nI X.2.1) (wD dv w0 X.2.2.2.1) nu') ∧ r' = if X.1 = true then 1 else 0
theorem rdP.mk {B : zM} {T : Nat → Int32} {len : Nat} {dv : Bool} {w0 : Nat → Int32} {X : Bool × Nat × pSt} {ok : Bool} {c f i n r : Nat} {τ : Dy} {nu : Nat → Int32} {x : Int32} (e : X = (ok, c, (f, τ, n, r, i))) (hx : x = if ok = true then 1 else 0) : rdP B T len dv w0 X x (pM B f (tB T len f) i n r (nI c) (wD dv w0 τ) nu) := by
  rw [e, hx]
  exact ⟨⟨nu, rfl⟩, rfl⟩
set_option maxRecDepth 100000 in
set_option maxHeartbeats 4000000 in
theorem lp_reads (g : zG) (l : Launch) {B : zM} {T : Nat → Int32} {len : Nat} {w0 : Nat → Int32} {dv : Bool} {RUN : Bool × Nat × pSt} (hl : len ≤ 200) (h4 : B 127 4 = nI len) (hT : ∀ j, j < len → B 130 j = T j) (hW : mWd B) (h18 : B 127 18 = if dv = true then 1 else 0) : ∀ (k c f : Nat) (τ : Dy) (n r i : Nat) (nu : Nat → Int32), k + c = 21 → c ≤ 20 → f ≤ len → pInv τ n r i → RUN = pRun T len k c (f, τ, n, r, i) → zA g l yX12_reads cX12_reads 3 (some .boolean) 6 0 0 (zQi (fun r' M' => rdP B T len dv w0 RUN r' M')) 58 0 0 S0 (pM B (pClause T len f τ n r i).2.1 (tB T len (pClause T len f τ n r i).2.1) (pClause T len f τ n r i).2.2.2.2.2 (pClause T len f τ n r i).2.2.2.1 (pClause T len f τ n r i).2.2.2.2.1 (nI c) (wD dv w0 (pClause T len f τ n r i).2.2.1) nu) [.ref 127, .null, .int (if (pClause T len f τ n r i).1 = true then 1 else 0)] [] := by
  intro k
  induction k with
  | zero => intro c f τ n r i nu hk hc; exact absurd hk (by omega)
  | succ k ih =>
    intro c f τ n r i nu hk hc hf hI w
    have hY := pClause_ok (T := T) (len := len) (f := f) hI
    have hR := (pClause_r (T := T) (τ := τ) hf ⟨hI.1.1.1, hI.1.1.2.1, hI.1.1.2.2.1⟩).1
    have w1 : RUN = if (pClause T len f τ n r i).1 = false then (false, c, (pClause T len f τ n r i).2) else if len ≤ (pClause T len f τ n r i).2.1 then (true, c, (pClause T len f τ n r i).2) else if ¬ T (pClause T len f τ n r i).2.1 = 59 ∨ c = 20 then (false, c, (pClause T len f τ n r i).2) else pRun T len k (c + 1) (tNx T len (pClause T len f τ n r i).2.1, (pClause T len f τ n r i).2.2) := w
    clear w
    generalize pClause T len f τ n r i = Y at hY hR w1 ⊢
    obtain ⟨yo, yf, yt, yn, yr, yi⟩ := Y
    have hI2 : pInv yt yn yr yi := hY
    have hf2 : yf ≤ len := hR
    have hx := (tNx_r (T := T) hf2).2
    have hB := tB_r (T := T) hf2
    have w2 : RUN = if yo = false then (false, c, (yf, yt, yn, yr, yi)) else if len ≤ yf then (true, c, (yf, yt, yn, yr, yi)) else if ¬ T yf = 59 ∨ c = 20 then (false, c, (yf, yt, yn, yr, yi)) else pRun T len k (c + 1) (tNx T len yf, yt, yn, yr, yi) := w1
    show zA g l yX12_reads cX12_reads 3 (some .boolean) 6 0 0 _ 58 0 0 S0 (pM B yf (tB T len yf) yi yn yr (nI c) (wD dv w0 yt) nu) [.ref 127, .null, .int (if yo = true then 1 else 0)] []
    refine z_iload_n dX12_reads_58 rfl ?_
    refine z_if_eq (tgt := 128) dX12_reads_59 (by decide) (fun b59 => ?_) (fun b59 => ?_)
    · have hy : yo = false := Bool.eq_false_iff.mpr (fun z => by rw [if_pos z] at b59; exact absurd b59 (by decide))
      refine z_iload_n dX12_reads_128 rfl ?_
      refine z_iret dX12_reads_129 (by first | exact nb01 _ | rfl) zle ?_
      first
        | exact rdP.mk (w2.trans (if_pos hy)) (by rw [hy])
        | exact rdP.mk (w2.trans ((if_neg hy).trans (if_pos hlt))) (by rw [hy1])
    · have hy : ¬ yo = false := fun z => b59 (if_neg (by rw [z]; decide))
      have hy1 : yo = true := by cases yo; exact absurd rfl hy; rfl
      refine z_aload_n dX12_reads_62 rfl ?_
      refine z_getIV (j := 12) kX12 lf_X12_98 (by decide) rfl (rfl : _ = nI yf) dX12_reads_63 k0_127 s0_127 ?_
      refine z_aload_n dX12_reads_66 rfl ?_
      refine z_getIV (j := 4) kX12 lf_X12_83 (by decide) rfl h4 dX12_reads_67 k0_127 s0_127 ?_
      refine z_icmp_ge (tgt := 128) dX12_reads_70 (by decide) (fun b70 => ?_) (fun b70 => ?_)
      · have hlt : len ≤ yf := (nI_leI (by omega) (by omega)).mp b70
        refine z_iload_n dX12_reads_128 rfl ?_
        refine z_iret dX12_reads_129 (by first | exact nb01 _ | rfl) zle ?_
        first
          | exact rdP.mk (w2.trans (if_pos hy)) (by rw [hy])
          | exact rdP.mk (w2.trans ((if_neg hy).trans (if_pos hlt))) (by rw [hy1])
      · have hlt : ¬ len ≤ yf := fun z => b70 ((nI_leI (by omega) (by omega)).mpr z)
        refine z_aload_n dX12_reads_73 rfl ?_
        refine z_getIV (j := 17) kX12 lf_X12_149 (by decide) rfl (rfl : _ = nI c) dX12_reads_74 k0_127 s0_127 ?_
        refine z_bipush (v := 20) dX12_reads_77 (by decide) ?_
        refine z_icmp_ge (tgt := 100) dX12_reads_79 (by decide) (fun b79 => ?_) (fun b79 => ?_)
        · have h20 : c = 20 := by have := (nI_leI (a := 20) (b := c) (by omega) (by omega)).mp b79; omega
          refine z_iconst (v := 0) dX12_reads_100 (by decide) ?_
          refine z_istore_n dX12_reads_101 (by decide) rfl rfl ?_
          refine z_iload_n dX12_reads_102 rfl ?_
          refine z_if_eq (tgt := 58) dX12_reads_103 (by decide) (fun b103 => ?_) (fun b103 => ?_)
          · refine z_iload_n dX12_reads_58 rfl ?_
            refine z_if_eq (tgt := 128) dX12_reads_59 (by decide) (fun b59 => ?_) (fun b59 => ?_)
            · refine z_iload_n dX12_reads_128 rfl ?_
              refine z_iret dX12_reads_129 rfl zle ?_
              first
                | exact rdP.mk (w2.trans ((if_neg hy).trans ((if_neg hlt).trans (if_pos (Or.inl b93))))) rfl
                | exact rdP.mk (w2.trans ((if_neg hy).trans ((if_neg hlt).trans (if_pos (Or.inr h20))))) rfl
            · exact absurd b59 (by decide)
          · exact absurd b103 (by decide)
        · have h20 : ¬ c = 20 := fun z => b79 (by rw [z]; exact (nI_leI (a := 20) (b := 20) (by omega) (by omega)).mpr (Nat.le_refl _))
          refine z_aload_n dX12_reads_82 rfl ?_
          refine z_getR (j := 3) (r := 130) kX12 lf_X12_17 (by decide) rfl dX12_reads_83 k0_127 s0_127 r0_127_3 (by decide) ?_
          refine z_aload_n dX12_reads_86 rfl ?_
          refine z_getIV (j := 12) kX12 lf_X12_98 (by decide) rfl (rfl : _ = nI yf) dX12_reads_87 k0_127 s0_127 ?_
          refine z_ialdV (j := yf) rfl (by omega) (hT yf (by omega)) dX12_reads_90 k0_130 s0_130 ?_
          refine z_bipush (v := 59) dX12_reads_91 (by decide) ?_
          refine z_icmp_ne (tgt := 100) dX12_reads_93 (by decide) (fun b93 => ?_) (fun b93 => ?_)
          · refine z_iconst (v := 0) dX12_reads_100 (by decide) ?_
            refine z_istore_n dX12_reads_101 (by decide) rfl rfl ?_
            refine z_iload_n dX12_reads_102 rfl ?_
            refine z_if_eq (tgt := 58) dX12_reads_103 (by decide) (fun b103 => ?_) (fun b103 => ?_)
            · refine z_iload_n dX12_reads_58 rfl ?_
              refine z_if_eq (tgt := 128) dX12_reads_59 (by decide) (fun b59 => ?_) (fun b59 => ?_)
              · refine z_iload_n dX12_reads_128 rfl ?_
                refine z_iret dX12_reads_129 rfl zle ?_
                first
                  | exact rdP.mk (w2.trans ((if_neg hy).trans ((if_neg hlt).trans (if_pos (Or.inl b93))))) rfl
                  | exact rdP.mk (w2.trans ((if_neg hy).trans ((if_neg hlt).trans (if_pos (Or.inr h20))))) rfl
              · exact absurd b59 (by decide)
            · exact absurd b103 (by decide)
          · refine z_iconst (v := 1) dX12_reads_96 (by decide) ?_
            refine z_goto (tgt := 101) dX12_reads_97 (by decide) ?_
            refine z_istore_n dX12_reads_101 (by decide) rfl rfl ?_
            refine z_iload_n dX12_reads_102 rfl ?_
            refine z_if_eq (tgt := 58) dX12_reads_103 (by decide) (fun b103 => ?_) (fun b103 => ?_)
            · exact absurd b103 (by decide)
            · refine z_aload_n dX12_reads_106 rfl ?_
              refine z_vV0 (c_X12_nextToken g l hl h4 hT hB.2.1) mw_X12_nextToken lm_X12_108 mi_X12_nextToken mv_X12_nextToken kX12 (by decide) (Nat.le_of_ble_eq_true rfl) zle k0_127 s0_127 dX12_reads_107 (fun M107 q107 => ?_)
              obtain rfl := q107.symm
              refine z_aload_n dX12_reads_110 rfl ?_
              refine z_iV0 (c_X12_readsClause g l hl h4 hT hW hx h18 hI2) mw_X12_readsClause lm_X12_152 mi_X12_readsClause mv_X12_readsClause kX12 (by decide) (Nat.le_of_ble_eq_true rfl) zle k0_127 s0_127 dX12_reads_111 (fun r111 M111 q111 => ?_)
              obtain ⟨⟨nu2, qm⟩, qr⟩ := q111
              obtain rfl := qm.symm
              obtain rfl := qr.symm
              refine z_istore_n dX12_reads_114 (by decide) rfl rfl ?_
              refine z_aload_n dX12_reads_115 rfl ?_
              refine z_dup dX12_reads_116 rfl ?_
              refine z_getIV (j := 17) kX12 lf_X12_149 (by decide) rfl (rfl : _ = nI c) dX12_reads_117 k0_127 s0_127 ?_
              refine z_iconst (v := 1) dX12_reads_120 (by decide) ?_
              refine z_iaddN (a := c) (b := 1) rfl rfl dX12_reads_121 ?_
              refine z_putIV (j := 17) kX12 lf_X12_149 (by decide) rfl rfl (kX12.2.2.1 17 (by decide)) rfl rfl pM_c dX12_reads_122 k0_127 s0_127 ?_
              refine z_goto (tgt := 58) dX12_reads_125 (by decide) ?_
              exact ih (c + 1) (tNx T len yf) yt yn yr yi _ (by omega) (by omega) hx hI2 (w2.trans ((if_neg hy).trans ((if_neg hlt).trans (if_neg (fun z => z.elim (fun z => z b93) h20)))))

set_option maxRecDepth 100000 in
set_option maxHeartbeats 4000000 in
theorem c_X12_reads (g : zG) (l : Launch) {B0 : zM} {T : Nat → Int32} {len f0 b0 i0 n0 r0 n r i : Nat} {c0 : Int32} {w0 nu : Nat → Int32} {τ : Dy} {dv : Bool} (hl : len ≤ 200) (h4 : B0 127 4 = nI len) (hT : ∀ j, j < len → B0 130 j = T j) (hW : mWd B0) (hI : pInv τ n r i) (hw : ∀ j, j < 70 → w0 (70 + j) = τ j) : zMet g l yX12_reads cX12_reads 3 (some .boolean) 6 0 0 [.ref 127, .int (if dv = true then 1 else 0)] S0 (pM B0 f0 b0 i0 n0 r0 c0 w0 nu) (zQi (fun r' M' => rdP (z_up B0 127 18 (if dv = true then 1 else 0)) T len dv w0 (pRun T len 20 1 (tF T len 0, τ, n, r, i)) r' M')) := by
  obtain ⟨B, eB⟩ : ∃ B : zM, B = z_up B0 127 18 (if dv = true then 1 else 0) := ⟨_, rfl⟩
  rw [← eB]
  have h4b : B 127 4 = nI len := by rw [eB, z_up_jn _ _ (by omega)]; exact h4
  have hTb : ∀ j, j < len → B 130 j = T j := fun j hj => by rw [eB, z_up_n _ _ _ (by omega)]; exact hT j hj
  have hWb : mWd B := fun k a b => by rw [eB, z_up_n _ _ _ (by omega)]; exact hW k a b
  have h18 : B 127 18 = (if dv = true then 1 else 0) := by rw [eB, z_up_kj]
  have hf0 : tF T len 0 ≤ len := (tF_r (T := T) (Nat.zero_le len)).2
  have hc0 := c_X12_readsClause g l (f := tF T len 0) (c := 1) (nu := nu) (w0 := w0) (dv := dv) hl h4b hTb hWb hf0 h18 hI
  rw [wD_id hw] at hc0
  refine zMet.of (by decide) (Nat.le_of_ble_eq_true rfl) ?_
  refine z_aload_n dX12_reads_0 rfl ?_
  refine z_iload_n dX12_reads_1 rfl ?_
  refine z_putIV (j := 18) kX12 lf_X12_125 (by decide) rfl rfl (kX12.2.2.1 18 (by decide)) (nb01 _) (by cases dv <;> rfl) (pM_18.trans (congrArg (fun X => pM X f0 b0 i0 n0 r0 c0 w0 nu) eB.symm)) dX12_reads_2 k0_127 s0_127 ?_
  refine z_aload_n dX12_reads_5 rfl ?_
  refine z_iconst (v := 0) dX12_reads_6 (by decide) ?_
  refine z_putIV (j := 13) kX12 lf_X12_95 (by decide) rfl rfl (kX12.2.2.1 13 (by decide)) rfl rfl (pM_b rfl) dX12_reads_7 k0_127 s0_127 ?_
  refine z_aload_n dX12_reads_10 rfl ?_
  refine z_iconst (v := 1) dX12_reads_11 (by decide) ?_
  refine z_putIV (j := 17) kX12 lf_X12_149 (by decide) rfl rfl (kX12.2.2.1 17 (by decide)) rfl rfl pM_c dX12_reads_12 k0_127 s0_127 ?_
  refine z_aload_n dX12_reads_15 rfl ?_
  refine z_aload_n dX12_reads_16 rfl ?_
  refine z_getR (j := 0) (r := 128) kX12 lf_X12_7 (by decide) rfl dX12_reads_17 k0_127 s0_127 r0_127_0 (by decide) ?_
  refine z_sipush (v := 133) dX12_reads_20 (by decide) ?_
  refine z_ialdV (j := 133) rfl (by decide) ((hw 63 (by omega)).trans hI.1.1.2.2.2.2.2) dX12_reads_23 k0_128 s0_128 ?_
  refine z_putIV (j := 14) kX12 lf_X12_118 (by decide) rfl rfl (kX12.2.2.1 14 (by decide)) rfl rfl (pM_i rfl) dX12_reads_24 k0_127 s0_127 ?_
  refine z_aload_n dX12_reads_27 rfl ?_
  refine z_aload_n dX12_reads_28 rfl ?_
  refine z_getR (j := 0) (r := 128) kX12 lf_X12_7 (by decide) rfl dX12_reads_29 k0_127 s0_127 r0_127_0 (by decide) ?_
  refine z_bipush (v := 70) dX12_reads_32 (by decide) ?_
  refine z_ialdV (j := 70) rfl (by decide) ((hw 0 (by omega)).trans hI.1.1.2.2.2.1) dX12_reads_34 k0_128 s0_128 ?_
  refine z_putIV (j := 15) kX12 lf_X12_115 (by decide) rfl rfl (kX12.2.2.1 15 (by decide)) rfl rfl (pM_n rfl) dX12_reads_35 k0_127 s0_127 ?_
  refine z_aload_n dX12_reads_38 rfl ?_
  refine z_aload_n dX12_reads_39 rfl ?_
  refine z_getR (j := 0) (r := 128) kX12 lf_X12_7 (by decide) rfl dX12_reads_40 k0_127 s0_127 r0_127_0 (by decide) ?_
  refine z_bipush (v := 71) dX12_reads_43 (by decide) ?_
  refine z_ialdV (j := 71) rfl (by decide) ((hw 1 (by omega)).trans hI.1.1.2.2.2.2.1) dX12_reads_45 k0_128 s0_128 ?_
  refine z_putIV (j := 16) kX12 lf_X12_129 (by decide) rfl rfl (kX12.2.2.1 16 (by decide)) rfl rfl (pM_r rfl) dX12_reads_46 k0_127 s0_127 ?_
  refine z_aload_n dX12_reads_49 rfl ?_
  refine z_vV0 (c_X12_nextToken (b := 0) g l hl h4b hTb (Nat.zero_le _)) mw_X12_nextToken lm_X12_108 mi_X12_nextToken mv_X12_nextToken kX12 (by decide) (Nat.le_of_ble_eq_true rfl) zle k0_127 s0_127 dX12_reads_50 (fun M50 q50 => ?_)
  obtain rfl := q50.symm
  refine z_aload_n dX12_reads_53 rfl ?_
  refine z_iV0 hc0 mw_X12_readsClause lm_X12_152 mi_X12_readsClause mv_X12_readsClause kX12 (by decide) (Nat.le_of_ble_eq_true rfl) zle k0_127 s0_127 dX12_reads_54 (fun r54 M54 q54 => ?_)
  obtain ⟨⟨nu2, qm⟩, qr⟩ := q54
  obtain rfl := qm.symm
  obtain rfl := qr.symm
  refine z_istore_n dX12_reads_57 (by decide) rfl rfl ?_
  exact zA.sub (lp_reads g l hl h4b hTb hWb h18 20 1 (tF T len 0) τ n r i nu2 (by omega) (by omega) hf0 hI rfl) rfl ⟨Or.inr rfl, Or.inl rfl, Or.inr rfl, trivial⟩

theorem c_reads (g : zG) (l : Launch) {M : zM} {A : aSt} (ok : aOK A) (C : RelM M A) (dv : Bool) : zMet g l yX12_reads cX12_reads 3 (some .boolean) 6 0 0 [.ref 127, .int (if dv = true then 1 else 0)] S0 M (zQi (fun r' M' => rdP (z_up M 127 18 (if dv = true then 1 else 0)) A.T A.L dv (M 128) (aRun A) r' M')) := by
  obtain ⟨f0, hf⟩ := nI_any (M 127 12)
  obtain ⟨b0, hb⟩ := nI_any (M 127 13)
  obtain ⟨i0, hi⟩ := nI_any (M 127 14)
  obtain ⟨n0, hn⟩ := nI_any (M 127 15)
  obtain ⟨r0, hr⟩ := nI_any (M 127 16)
  have h := c_X12_reads g l (B0 := M) (T := A.T) (len := A.L) (f0 := f0) (b0 := b0) (i0 := i0) (n0 := n0) (r0 := r0) (c0 := M 127 17) (w0 := M 128) (nu := M 137) (τ := A.t) (n := A.n) (r := A.r) (i := A.i) (dv := dv) ok.L C.fl.2.1 C.text C.wd ⟨ok.t, ok.f, ok.f.2.1⟩ C.t
  rw [pM_self M hf hb hi hn hr] at h
  exact h
theorem RelM.rd {M M' : zM} {A : aSt} (C : RelM M A) (u8 : A.u ≤ 8) {T : Nat → Int32} {len : Nat} {x r' : Int32} {X : Bool × Nat × pSt} (h : rdP (z_up M 127 18 x) T len false (M 128) X r' M') : RelM M' A ∧ (∀ k, k < 127 → M' k = M k) ∧ M' 127 12 = nI X.2.2.1 ∧ r' = if X.1 = true then 1 else 0 := by
  obtain ⟨⟨nu, e⟩, er⟩ := h
  have ho : ∀ k, k ≠ 127 → k ≠ 137 → M' k = M k := fun k a b => by
    rw [e]
    by_cases c : k = 128
    · subst c; rfl
    · rw [pM_o ⟨a, c, b⟩, z_up_n _ _ _ a]
  have h7 : ∀ j, j = 1 ∨ j = 4 ∨ j = 5 → M' 127 j = M 127 j := fun j hj => by rw [e, pM_7 (by omega), z_up_jn _ _ (by omega)]
  exact ⟨C.keep (fun j _ => by rw [ho 128 (by omega) (by omega)]) h7 (fun k a => ho k (by omega) (by omega)) u8, fun k a => ho k (by omega) (by omega), by rw [e]; rfl, er⟩
set_option maxRecDepth 100000 in
set_option maxHeartbeats 4000000 in
theorem c_X12_fault (g : zG) (l : Launch) {M : zM} {A : aSt} (ok : aOK A) (C : RelM M A) : zMet g l yX12_fault cX12_fault 1 (some .int) 7 0 0 [.ref 127] S0 M (zQi (fun r' M' => zStpM M (sFault A) r' M')) := by
  have n8 : A.n ≤ 8 := ok.s.1.1
  have r4 : A.r ≤ 4 := ok.s.1.2.1
  have i6 : A.i ≤ 6 := ok.s.1.2.2.1
  have u8 : A.u ≤ 8 := ok.u
  refine zMet.of (by decide) (Nat.le_of_ble_eq_true rfl) ?_
  refine z_aload_n dX12_fault_0 rfl ?_
  refine z_iconst (v := 0) dX12_fault_1 (by decide) ?_
  refine z_iV1 (c_reads g l ok C false) mw_X12_reads lm_X12_155 mi_X12_reads mv_X12_reads kX12 (by decide) (Nat.le_of_ble_eq_true rfl) zle k0_127 s0_127 dX12_fault_2 (fun r2 M2 q2 => ?_)
  obtain ⟨C1, F1, f12, er⟩ := C.rd u8 q2
  obtain rfl := er.symm
  refine z_if_eq (tgt := 12) dX12_fault_5 (by decide) (fun b5 => ?_) (fun b5 => ?_)
  · have hr : ¬ (aRun A).1 = true := fun z => by rw [if_pos z] at b5; exact absurd b5 (by decide)
    refine z_aload_n dX12_fault_12 rfl ?_
    refine z_getIV (j := 12) kX12 lf_X12_98 (by decide) rfl f12 dX12_fault_13 k0_127 s0_127 ?_
    refine z_iret dX12_fault_16 rfl zle ?_
    first
      | exact zStpM.mk C1 F1 rfl (if_pos hr).symm
      | exact zStpM.mk C1 F1 rfl (if_neg hr).symm
  · have hr : (aRun A).1 = true := Classical.byContradiction (fun z => b5 (if_neg z))
    refine z_iconst (v := (-1)) dX12_fault_8 (by decide) ?_
    refine z_goto (tgt := 16) dX12_fault_9 (by decide) ?_
    refine z_iret dX12_fault_16 rfl zle ?_
    first
      | exact zStpM.mk C1 F1 rfl (if_pos hr).symm
      | exact zStpM.mk C1 F1 rfl (if_neg hr).symm

set_option maxRecDepth 100000 in
set_option maxHeartbeats 4000000 in
theorem lp_sizes (g : zG) (l : Launch) {M5 : zM} {x : Int32} (hx : M5 127 17 = x) : ∀ (k h : Nat), h ≤ 4 → 4 - h < k → zA g l yX12_road cX12_road 2 (some .int) 7 0 0 (zQi (fun r' M' => r' = x ∧ M' = (z_row M5 134 (fun j => if j < 4 then -1 else M5 134 j)))) 55 0 0 S0 (z_row M5 134 (fun j => if j < h then -1 else M5 134 j)) [.ref 127, .int (nI h)] [] := by
  intro k
  induction k with
  | zero => intro h hh hk; exact absurd hk (Nat.not_lt_zero _)
  | succ k ih =>
    intro h hh hk 
    refine z_iload_n dX12_road_55 rfl ?_
    refine z_iconst (v := 4) dX12_road_56 (by decide) ?_
    refine z_icmp_ge (tgt := 73) dX12_road_57 (by decide) (fun b57 => ?_) (fun b57 => ?_)
    · have e : 4 ≤ h := (nI_leI (by omega) (by omega)).mp b57
      have e2 : h = 4 := by omega
      subst e2
      refine z_aload_n dX12_road_73 rfl ?_
      refine z_getIV (j := 17) kX12 lf_X12_149 (by decide) rfl ((congrFun (z_row_n _ _ (by omega)) 17).trans hx) dX12_road_74 k0_127 s0_127 ?_
      exact z_iret dX12_road_77 rfl zle (⟨rfl, rfl⟩)
    · have hn : h < 4 := by
        rcases Nat.lt_or_ge h 4 with z | z
        · exact z
        · exact absurd (nI_le z (by omega)) b57
      refine z_aload_n dX12_road_60 rfl ?_
      refine z_getR (j := 9) (r := 134) kX12 lf_X12_29 (by decide) rfl dX12_road_61 k0_127 s0_127 r0_127_9 (by decide) ?_
      refine z_iload_n dX12_road_64 rfl ?_
      refine z_iconst (v := (-1)) dX12_road_65 (by decide) ?_
      refine z_iastN (j := h) rfl (by omega) dX12_road_66 k0_134 s0_134 ?_
      refine z_iincN (k := h) dX12_road_67 rfl rfl (by decide) rfl rfl ?_
      refine z_goto (tgt := 55) dX12_road_70 (by decide) ?_
      refine zA.sub (ih (h + 1) (by omega) (by omega)) ?_ ⟨Or.inr rfl, Or.inr rfl, trivial⟩
      funext k
      by_cases c : k = 134
      · subst c
        rw [z_up_s, z_row_s, z_row_s]
        funext j
        by_cases c2 : j = h
        · subst c2; rw [upd_s, if_pos (by omega)]
        · rw [upd_n _ _ c2]
          by_cases c3 : j < h
          · rw [if_pos c3, if_pos (by omega)]
          · rw [if_neg c3, if_neg (by omega)]
      · rw [z_up_n _ _ _ c, z_row_n _ _ c, z_row_n _ _ c]

theorem RelM.road {M M1 M2 M5 M' : zM} {A : aSt} (C1 : RelM M1 A) (F1 : ∀ k, k < 127 → M1 k = M k) {x r2 : Int32} (h2 : rdP (z_up M1 127 18 x) A.T A.L true (M1 128) (aRun A) r2 M2)
    (e5 : M5 = z_up (z_up (z_up (z_up (z_row (z_up M2 127 4 0) 128 (va_cpy (z_up M2 127 4 0 128) (z_up M2 127 4 0 128) 70 0 70)) 127 1 0) 129 0 0) 129 1 0) 127 5 0) (e' : M' = z_row M5 134 (fun j => if j < 4 then -1 else M5 134 j)) :
    RelM M' (aRoad A) ∧ (∀ k, k < 127 → M' k = M k) ∧ M5 127 17 = nI (aRun A).2.1 := by
  obtain ⟨⟨nu, e2⟩, -⟩ := h2
  have a2 : ∀ k, k ≠ 127 → k ≠ 128 → k ≠ 137 → M2 k = M1 k := fun k a b c => by rw [e2, pM_o ⟨a, b, c⟩, z_up_n _ _ _ a]
  have b2 : M2 128 = regU (M1 128) 70 (aRun A).2.2.2.1 := by rw [e2]; rfl
  have a5 : ∀ k, k ≠ 127 → k ≠ 128 → k ≠ 129 → M5 k = M2 k := fun k a b c => by rw [e5, z_up_n _ _ _ a, z_up_n _ _ _ c, z_up_n _ _ _ c, z_up_n _ _ _ a, z_row_n _ _ b, z_up_n _ _ _ a]
  have r5 : ∀ j, M5 128 j = if j < 70 then M2 128 (70 + j) else M2 128 j := fun j => by
    rw [e5, z_up_n _ _ _ (by omega), z_up_n _ _ _ (by omega), z_up_n _ _ _ (by omega), z_up_n _ _ _ (by omega), z_row_s, z_up_n _ _ _ (by omega)]
    unfold va_cpy
    by_cases c : j < 70
    · rw [if_pos (by omega), if_pos c, Nat.sub_zero]
    · rw [if_neg (by omega), if_neg c]
  have ak : ∀ k, k ≠ 127 → k ≠ 128 → k ≠ 129 → k ≠ 134 → k ≠ 137 → M' k = M1 k := fun k a b c d f => by rw [e', z_row_n _ _ d, a5 k a b c, a2 k a b f]
  have t1 : ∀ j, j < 70 → M2 128 (70 + j) = (aRun A).2.2.2.1 j := fun j hj => by rw [b2]; exact regU_in _ _ _ hj
  refine ⟨⟨fun j hj => ?_, fun j hj => ?_, fun k hk => absurd hk (Nat.not_lt_zero _), fun k _ z => absurd z (by show ¬ false = true; decide), ⟨?_, ?_, ?_⟩, fun k hk => ?_, fun j hj => absurd hj (Nat.not_lt_zero _), fun j hj => absurd hj (Nat.not_lt_zero _), fun b hb => ⟨?_, fun j hj => ?_⟩, fun k a b => ?_⟩, fun k a => (ak k (by omega) (by omega) (by omega) (by omega) (by omega)).trans (F1 k a), ?_⟩
  · rw [e', z_row_n _ _ (by omega), r5, if_pos hj]; exact t1 j hj
  · rw [e', z_row_n _ _ (by omega), r5, if_neg (by omega)]; exact t1 j hj
  · rw [e', z_row_n _ _ (by omega), e5, z_up_jn _ _ (by omega), z_up_n _ _ _ (by omega), z_up_n _ _ _ (by omega), z_up_kj]; rfl
  · rw [e', z_row_n _ _ (by omega), e5, z_up_jn _ _ (by omega), z_up_n _ _ _ (by omega), z_up_n _ _ _ (by omega), z_up_jn _ _ (by omega), z_row_n _ _ (by omega), z_up_kj]; rfl
  · rw [e', z_row_n _ _ (by omega), e5, z_up_kj]; rfl
  · rw [e', z_row_n _ _ (by omega), e5, z_up_n _ _ _ (by omega)]
    show _ = if false = true then (1 : Int32) else 0
    rw [if_neg (by decide)]
    by_cases c : k = 1
    · rw [c, z_up_kj]
    · rw [z_up_jn _ _ c, show k = 0 by omega, z_up_kj]
  · rw [e', z_row_s, if_pos hb]; rfl
  · rw [ak 135 (by omega) (by omega) (by omega) (by omega) (by omega), ak 136 (by omega) (by omega) (by omega) (by omega) (by omega)]
    exact (C1.book b hb).2 j hj
  · rw [ak k (by omega) (by omega) (by omega) (by omega) (by omega)]; exact C1.wd k a b
  · rw [e5, z_up_jn _ _ (by omega), z_up_n _ _ _ (by omega), z_up_n _ _ _ (by omega), z_up_jn _ _ (by omega), z_row_n _ _ (by omega), z_up_jn _ _ (by omega), e2]; rfl
set_option maxRecDepth 100000 in
set_option maxHeartbeats 4000000 in
theorem c_X12_road (g : zG) (l : Launch) {M : zM} {A : aSt} (ok : aOK A) (C : RelM M A) : zMet g l yX12_road cX12_road 2 (some .int) 7 0 0 [.ref 127] S0 M (zQi (fun r' M' => zStpM M (sRoad A) r' M')) := by
  have n8 : A.n ≤ 8 := ok.s.1.1
  have r4 : A.r ≤ 4 := ok.s.1.2.1
  have i6 : A.i ≤ 6 := ok.s.1.2.2.1
  have u8 : A.u ≤ 8 := ok.u
  refine zMet.of (by decide) (Nat.le_of_ble_eq_true rfl) ?_
  refine z_aload_n dX12_road_0 rfl ?_
  refine z_iconst (v := 0) dX12_road_1 (by decide) ?_
  refine z_iV1 (c_reads g l ok C false) mw_X12_reads lm_X12_155 mi_X12_reads mv_X12_reads kX12 (by decide) (Nat.le_of_ble_eq_true rfl) zle k0_127 s0_127 dX12_road_2 (fun r2 M2 q2 => ?_)
  obtain ⟨C1, F1, f12, er⟩ := C.rd u8 q2
  obtain rfl := er.symm
  refine z_if_ne (tgt := 11) dX12_road_5 (by decide) (fun b5 => ?_) (fun b5 => ?_)
  · have hr : (aRun A).1 = true := Classical.byContradiction (fun z => b5 (if_neg z))
    refine z_aload_n dX12_road_11 rfl ?_
    refine z_iconst (v := 1) dX12_road_12 (by decide) ?_
    refine z_iV1 (c_reads g l ok C1 true) mw_X12_reads lm_X12_155 mi_X12_reads mv_X12_reads kX12 (by decide) (Nat.le_of_ble_eq_true rfl) zle k0_127 s0_127 dX12_road_13 (fun r13 M13 q13 => ?_)
    refine z_pop dX12_road_16 rfl ?_
    refine z_aload_n dX12_road_17 rfl ?_
    refine z_iconst (v := 0) dX12_road_18 (by decide) ?_
    refine z_putI (j := 4) kX12 lf_X12_83 (by decide) rfl rfl (kX12.2.2.1 4 (by decide)) rfl rfl dX12_road_19 k0_127 s0_127 ?_
    refine z_aload_n dX12_road_22 rfl ?_
    refine z_bipush (v := 70) dX12_road_23 (by decide) ?_
    refine z_iconst (v := 0) dX12_road_25 (by decide) ?_
    refine z_vV2 (c_X12_copyRoad g l (a := 70) (c := 0) (by omega) (by omega) (by omega)) mw_X12_copyRoad lm_X12_159 mi_X12_copyRoad mv_X12_copyRoad kX12 (by decide) (Nat.le_of_ble_eq_true rfl) zle k0_127 s0_127 dX12_road_26 (fun M26 q26 => ?_)
    obtain rfl := q26.symm
    refine z_aload_n dX12_road_29 rfl ?_
    refine z_iconst (v := 0) dX12_road_30 (by decide) ?_
    refine z_putI (j := 1) kX12 lf_X12_163 (by decide) rfl rfl (kX12.2.2.1 1 (by decide)) rfl rfl dX12_road_31 k0_127 s0_127 ?_
    refine z_aload_n dX12_road_34 rfl ?_
    refine z_getR (j := 2) (r := 129) kX12 lf_X12_13 (by decide) rfl dX12_road_35 k0_127 s0_127 r0_127_2 (by decide) ?_
    refine z_iconst (v := 0) dX12_road_38 (by decide) ?_
    refine z_iconst (v := 0) dX12_road_39 (by decide) ?_
    refine z_zastN (j := 0) rfl (by decide) rfl dX12_road_40 k0_129 s0_129 ?_
    refine z_aload_n dX12_road_41 rfl ?_
    refine z_getR (j := 2) (r := 129) kX12 lf_X12_13 (by decide) rfl dX12_road_42 k0_127 s0_127 r0_127_2 (by decide) ?_
    refine z_iconst (v := 1) dX12_road_45 (by decide) ?_
    refine z_iconst (v := 0) dX12_road_46 (by decide) ?_
    refine z_zastN (j := 1) rfl (by decide) rfl dX12_road_47 k0_129 s0_129 ?_
    refine z_aload_n dX12_road_48 rfl ?_
    refine z_iconst (v := 0) dX12_road_49 (by decide) ?_
    refine z_putI (j := 5) kX12 lf_X12_166 (by decide) rfl rfl (kX12.2.2.1 5 (by decide)) rfl rfl dX12_road_50 k0_127 s0_127 ?_
    refine z_iconst (v := 0) dX12_road_53 (by decide) ?_
    refine z_istore_n dX12_road_54 (by decide) rfl rfl ?_
    have R := C1.road F1 q13 (M5 := (z_up (z_up (z_up (z_up (z_row (z_up M13 127 4 0) 128 (va_cpy (z_up M13 127 4 0 128) (z_up M13 127 4 0 128) 70 0 70)) 127 1 0) 129 0 0) 129 1 0) 127 5 0)) rfl (M' := z_row (z_up (z_up (z_up (z_up (z_row (z_up M13 127 4 0) 128 (va_cpy (z_up M13 127 4 0 128) (z_up M13 127 4 0 128) 70 0 70)) 127 1 0) 129 0 0) 129 1 0) 127 5 0) 134 (fun j => if j < 4 then -1 else (z_up (z_up (z_up (z_up (z_row (z_up M13 127 4 0) 128 (va_cpy (z_up M13 127 4 0 128) (z_up M13 127 4 0 128) 70 0 70)) 127 1 0) 129 0 0) 129 1 0) 127 5 0) 134 j)) rfl
    refine (zA.sub (lp_sizes g l (M5 := (z_up (z_up (z_up (z_up (z_row (z_up M13 127 4 0) 128 (va_cpy (z_up M13 127 4 0 128) (z_up M13 127 4 0 128) 70 0 70)) 127 1 0) 129 0 0) 129 1 0) 127 5 0)) R.2.2 5 0 (Nat.zero_le _) (by omega)) ?_ ⟨Or.inr rfl, Or.inr rfl, trivial⟩).weak (fun v S2 M' q => ?_)
    · funext k
      by_cases c : k = 134
      · subst c; rw [z_row_s]; funext j; exact (if_neg (Nat.not_lt_zero _)).symm
      · rw [z_row_n _ _ c]
    · obtain ⟨qa, rr, qb, qc, qd⟩ := q
      obtain rfl := qd.symm
      exact ⟨qa, rr, qb, zStpM.mk R.1 R.2.1 (by unfold sRoad; rw [if_pos hr]) qc⟩
  · have hr : ¬ (aRun A).1 = true := fun z => by rw [if_pos z] at b5; exact absurd b5 (by decide)
    refine z_bipush (v := (-4)) dX12_road_8 (by decide) ?_
    refine z_iret dX12_road_10 rfl zle ?_
    exact zStpM.mk C1 F1 (by unfold sRoad; rw [if_neg hr]) rfl

