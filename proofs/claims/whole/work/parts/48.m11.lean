/-! ===== the reference's own parser: clauses, fault, road ===== -/
def wD (dv : Bool) (w0 : Nat → Int32) (τ : Dy) : Nat → Int32 := if dv = true then regU w0 70 τ else w0
def mPR (B : zM) (T : Nat → Int32) (len : Nat) (c : Int32) (dv : Bool) (w0 : Nat → Int32) (X : Bool × pSt) (r' : Int32) (M' : zM) : Prop :=
  (∃ nu', M' = pM B X.2.1 (tB T len X.2.1) X.2.2.2.2.2 X.2.2.2.1 X.2.2.2.2.1 c (wD dv w0 X.2.2.1) nu') ∧ r' = if X.1 = true then 1 else 0
theorem mPR.mk {B : zM} {T : Nat → Int32} {len : Nat} {c : Int32} {dv : Bool} {w0 : Nat → Int32} {X : Bool × pSt} {ok : Bool} {f i n r : Nat} {τ : Dy} {nu w : Nat → Int32} {x : Int32} (e : X = (ok, (f, τ, n, r, i))) (hw : w = wD dv w0 τ) (hx : x = if ok = true then 1 else 0) : mPR B T len c dv w0 X x (pM B f (tB T len f) i n r c w nu) := by
  rw [e, hw, hx]
  exact ⟨⟨nu, rfl⟩, rfl⟩
section ZWD
variable {dv : Bool} {w0 : Nat → Int32} {τ : Dy} {n r i : Nat}
theorem wD_up (hd : dv = true) {a j : Nat} {x : Int32} (ha : a = 70 + j) (hj : j < 70) : upd (wD dv w0 τ) a x = wD dv w0 (upd τ j x) := by
  subst ha
  unfold wD
  rw [if_pos hd, if_pos hd]
  exact regU_up w0 70 τ hj x
theorem wD_at (hd : dv = true) {a j : Nat} (ha : a = 70 + j) (hj : j < 70) : wD dv w0 τ a = τ j := by
  subst ha
  unfold wD
  rw [if_pos hd]
  exact regU_in w0 70 τ hj
theorem wD_no (hd : ¬ dv = true) (τ' : Dy) : wD dv w0 τ = wD dv w0 τ' := by
  unfold wD
  rw [if_neg hd, if_neg hd]
end ZWD
theorem nb01 (b : Bool) : narrow .boolean (.int (if b = true then 1 else 0)) = .int (if b = true then 1 else 0) := by cases b <;> rfl

set_option maxRecDepth 100000 in
set_option maxHeartbeats 4000000 in
theorem c_X12_readsHour (g : zG) (l : Launch) {B : zM} {T : Nat → Int32} {len f i n r : Nat} {c : Int32} {w0 nu : Nat → Int32} {τ : Dy} {dv : Bool} (hl : len ≤ 200) (h4 : B 127 4 = nI len) (hT : ∀ j, j < len → B 130 j = T j) (hf : f ≤ len) (h18 : B 127 18 = if dv = true then 1 else 0) (hI : pInv τ n r i) {k : Int32} (hk : zIn k 5) : zMet g l yX12_readsHour cX12_readsHour 2 (some .boolean) 4 0 0 [.ref 127, .int k] S0 (pM B f (tB T len f) i n r c (wD dv w0 τ) nu) (zQi (fun r' M' => mPR B T len c dv w0 (if n = 8 then (false, (f, τ, n, r, i)) else pHourC T len (tNx T len f) τ n r i k) r' M')) := by
  have n8 := hI.1.1.1
  have r4 := hI.1.1.2.1
  have i6 := hI.1.1.2.2.1
  have hx := (tNx_r (T := T) hf).2
  have hB := tB_r (T := T) hf
  refine zMet.of (by decide) (Nat.le_of_ble_eq_true rfl) ?_
  refine z_aload_n dX12_readsHour_0 rfl ?_
  refine z_getIV (j := 15) kX12 lf_X12_115 (by decide) rfl (rfl : _ = nI n) dX12_readsHour_1 k0_127 s0_127 ?_
  refine z_bipush (v := 8) dX12_readsHour_4 (by decide) ?_
  refine z_icmp_ne (tgt := 11) dX12_readsHour_6 (by decide) (fun b6 => ?_) (fun b6 => ?_)
  · have hn : ¬ n = 8 := fun z => b6 (by rw [z]; rfl)
    refine z_aload_n dX12_readsHour_11 rfl ?_
    refine z_vV0 (c_X12_nextToken g l hl h4 hT hB.2.1) mw_X12_nextToken lm_X12_108 mi_X12_nextToken mv_X12_nextToken kX12 (by decide) (Nat.le_of_ble_eq_true rfl) zle k0_127 s0_127 dX12_readsHour_12 (fun M12 q12 => ?_)
    obtain rfl := q12.symm
    refine z_aload_n dX12_readsHour_15 rfl ?_
    refine z_iconst (v := 0) dX12_readsHour_16 (by decide) ?_
    refine z_iconst (v := 0) dX12_readsHour_17 (by decide) ?_
    refine z_aload_n dX12_readsHour_18 rfl ?_
    refine z_getIV (j := 14) kX12 lf_X12_118 (by decide) rfl (rfl : _ = nI i) dX12_readsHour_19 k0_127 s0_127 ?_
    refine z_iconst (v := 1) dX12_readsHour_22 (by decide) ?_
    refine z_isub dX12_readsHour_23 ?_
    refine z_iV3 (c_X12_number (f := (tNx T len f)) (k0 := 0) (lo := 0) (hi := (nI i - 1)) g l hl h4 hT hx (by omega)) mw_X12_number lm_X12_121 mi_X12_number mv_X12_number kX12 (by decide) (Nat.le_of_ble_eq_true rfl) zle k0_127 s0_127 dX12_readsHour_24 (fun r24 M24 q24 => ?_)
    rcases q24 with ⟨c24, rfl, qm24⟩ | ⟨c24, rfl, qm24⟩
    · obtain rfl := qm24.symm
      refine z_if_eq (tgt := 41) dX12_readsHour_27 (by decide) (fun b27 => ?_) (fun b27 => ?_)
      · exact absurd b27 (by decide)
      · refine z_aload_n dX12_readsHour_30 rfl ?_
        refine z_iconst (v := 1) dX12_readsHour_31 (by decide) ?_
        refine z_iconst (v := 0) dX12_readsHour_32 (by decide) ?_
        refine z_bipush (v := 9) dX12_readsHour_33 (by decide) ?_
        refine z_iV3 (c_X12_number (f := (pNum T len (tNx T len f) 0 (nI i - 1)).2) (k0 := 1) (lo := 0) (hi := 9) g l hl h4 hT (pNum_r hx) (by omega)) mw_X12_number lm_X12_121 mi_X12_number mv_X12_number kX12 (by decide) (Nat.le_of_ble_eq_true rfl) zle k0_127 s0_127 dX12_readsHour_35 (fun r35 M35 q35 => ?_)
        rcases q35 with ⟨c35, rfl, qm35⟩ | ⟨c35, rfl, qm35⟩
        · obtain rfl := qm35.symm
          refine z_if_ne (tgt := 43) dX12_readsHour_38 (by decide) (fun b38 => ?_) (fun b38 => ?_)
          · refine z_aload_n dX12_readsHour_43 rfl ?_
            refine z_getIV (j := 18) kX12 lf_X12_125 (by decide) rfl (pM_7 (by omega)) dX12_readsHour_44 k0_127 s0_127 ?_
            refine z_if_eq (tgt := 128) dX12_readsHour_47 (by decide) (fun b47 => ?_) (fun b47 => ?_)
            · have hd : ¬ dv = true := fun z => by rw [h18, if_pos z] at b47; exact absurd b47 (by decide)
              refine z_aload_n dX12_readsHour_128 rfl ?_
              refine z_dup dX12_readsHour_129 rfl ?_
              refine z_getIV (j := 15) kX12 lf_X12_115 (by decide) rfl (rfl : _ = nI n) dX12_readsHour_130 k0_127 s0_127 ?_
              refine z_iconst (v := 1) dX12_readsHour_133 (by decide) ?_
              refine z_iaddN (a := n) (b := 1) rfl rfl dX12_readsHour_134 ?_
              refine z_putIV (j := 15) kX12 lf_X12_115 (by decide) rfl rfl (kX12.2.2.1 15 (by decide)) rfl rfl (pM_n rfl) dX12_readsHour_135 k0_127 s0_127 ?_
              refine z_iconst (v := 1) dX12_readsHour_138 (by decide) ?_
              refine z_iret dX12_readsHour_139 rfl zle ?_
              have eX : (if n = 8 then (false, (f, τ, n, r, i)) else pHourC T len (tNx T len f) τ n r i k) = (true, ((pNum T len (pNum T len (tNx T len f) 0 (nI i - 1)).2 0 9).2, pHour τ n k (pNum T len (tNx T len f) 0 (nI i - 1)).1 (pNum T len (pNum T len (tNx T len f) 0 (nI i - 1)).2 0 9).1, n + 1, r, i)) := by
                rw [if_neg hn]
                unfold pHourC
                rw [if_neg c24, if_neg c35]
              first
                | exact mPR.mk eX (wD_no hd _) rfl
                | exact mPR.mk eX (by rw [wD_up hd (j := 3 + n) (by omega) (by omega), wD_up hd (j := 11 + n) (by omega) (by omega), wD_up hd (j := 19 + n) (by omega) (by omega), wD_up hd (j := 27 + n) (by omega) (by omega), wD_up hd (j := 0) rfl (by omega)]; rfl) rfl
            · have hd : dv = true := Classical.byContradiction (fun z => b47 (h18.trans (if_neg z)))
              refine z_aload_n dX12_readsHour_50 rfl ?_
              refine z_getR (j := 0) (r := 128) kX12 lf_X12_7 (by decide) rfl dX12_readsHour_51 k0_127 s0_127 r0_127_0 (by decide) ?_
              refine z_bipush (v := 73) dX12_readsHour_54 (by decide) ?_
              refine z_aload_n dX12_readsHour_56 rfl ?_
              refine z_getIV (j := 15) kX12 lf_X12_115 (by decide) rfl (rfl : _ = nI n) dX12_readsHour_57 k0_127 s0_127 ?_
              refine z_iaddN (a := 73) (b := n) rfl rfl dX12_readsHour_60 ?_
              refine z_iload_n dX12_readsHour_61 rfl ?_
              refine z_iastV (j := (73 + n)) rfl (by omega) pM_w dX12_readsHour_62 k0_128 s0_128 ?_
              refine z_aload_n dX12_readsHour_63 rfl ?_
              refine z_getR (j := 0) (r := 128) kX12 lf_X12_7 (by decide) rfl dX12_readsHour_64 k0_127 s0_127 r0_127_0 (by decide) ?_
              refine z_bipush (v := 81) dX12_readsHour_67 (by decide) ?_
              refine z_aload_n dX12_readsHour_69 rfl ?_
              refine z_getIV (j := 15) kX12 lf_X12_115 (by decide) rfl (rfl : _ = nI n) dX12_readsHour_70 k0_127 s0_127 ?_
              refine z_iaddN (a := 81) (b := n) rfl rfl dX12_readsHour_73 ?_
              refine z_aload_n dX12_readsHour_74 rfl ?_
              refine z_getR (j := 19) (r := 137) kX12 lf_X12_38 (by decide) rfl dX12_readsHour_75 k0_127 s0_127 r0_127_19 (by decide) ?_
              refine z_iconst (v := 0) dX12_readsHour_78 (by decide) ?_
              refine z_ialdV (j := 0) rfl (by decide) (rfl : _ = (pNum T len (tNx T len f) 0 (nI i - 1)).1) dX12_readsHour_79 k0_137 s0_137 ?_
              refine z_iastV (j := (81 + n)) rfl (by omega) pM_w dX12_readsHour_80 k0_128 s0_128 ?_
              refine z_aload_n dX12_readsHour_81 rfl ?_
              refine z_getR (j := 0) (r := 128) kX12 lf_X12_7 (by decide) rfl dX12_readsHour_82 k0_127 s0_127 r0_127_0 (by decide) ?_
              refine z_bipush (v := 89) dX12_readsHour_85 (by decide) ?_
              refine z_aload_n dX12_readsHour_87 rfl ?_
              refine z_getIV (j := 15) kX12 lf_X12_115 (by decide) rfl (rfl : _ = nI n) dX12_readsHour_88 k0_127 s0_127 ?_
              refine z_iaddN (a := 89) (b := n) rfl rfl dX12_readsHour_91 ?_
              refine z_aload_n dX12_readsHour_92 rfl ?_
              refine z_getR (j := 19) (r := 137) kX12 lf_X12_38 (by decide) rfl dX12_readsHour_93 k0_127 s0_127 r0_127_19 (by decide) ?_
              refine z_iconst (v := 0) dX12_readsHour_96 (by decide) ?_
              refine z_ialdV (j := 0) rfl (by decide) (rfl : _ = (pNum T len (tNx T len f) 0 (nI i - 1)).1) dX12_readsHour_97 k0_137 s0_137 ?_
              refine z_iastV (j := (89 + n)) rfl (by omega) pM_w dX12_readsHour_98 k0_128 s0_128 ?_
              refine z_aload_n dX12_readsHour_99 rfl ?_
              refine z_getR (j := 0) (r := 128) kX12 lf_X12_7 (by decide) rfl dX12_readsHour_100 k0_127 s0_127 r0_127_0 (by decide) ?_
              refine z_bipush (v := 97) dX12_readsHour_103 (by decide) ?_
              refine z_aload_n dX12_readsHour_105 rfl ?_
              refine z_getIV (j := 15) kX12 lf_X12_115 (by decide) rfl (rfl : _ = nI n) dX12_readsHour_106 k0_127 s0_127 ?_
              refine z_iaddN (a := 97) (b := n) rfl rfl dX12_readsHour_109 ?_
              refine z_aload_n dX12_readsHour_110 rfl ?_
              refine z_getR (j := 19) (r := 137) kX12 lf_X12_38 (by decide) rfl dX12_readsHour_111 k0_127 s0_127 r0_127_19 (by decide) ?_
              refine z_iconst (v := 1) dX12_readsHour_114 (by decide) ?_
              refine z_ialdV (j := 1) rfl (by decide) (rfl : _ = (pNum T len (pNum T len (tNx T len f) 0 (nI i - 1)).2 0 9).1) dX12_readsHour_115 k0_137 s0_137 ?_
              refine z_iastV (j := (97 + n)) rfl (by omega) pM_w dX12_readsHour_116 k0_128 s0_128 ?_
              refine z_aload_n dX12_readsHour_117 rfl ?_
              refine z_getR (j := 0) (r := 128) kX12 lf_X12_7 (by decide) rfl dX12_readsHour_118 k0_127 s0_127 r0_127_0 (by decide) ?_
              refine z_bipush (v := 70) dX12_readsHour_121 (by decide) ?_
              refine z_dup2 dX12_readsHour_123 rfl rfl ?_
              refine z_ialdV (j := 70) rfl (by decide) ((upd_n _ _ (by omega)).trans ((upd_n _ _ (by omega)).trans ((upd_n _ _ (by omega)).trans ((upd_n _ _ (by omega)).trans ((wD_at hd (j := 0) rfl (by omega)).trans hI.1.1.2.2.2.1))))) dX12_readsHour_124 k0_128 s0_128 ?_
              refine z_iconst (v := 1) dX12_readsHour_125 (by decide) ?_
              refine z_iaddN (a := n) (b := 1) rfl rfl dX12_readsHour_126 ?_
              refine z_iastV (j := 70) rfl (by decide) pM_w dX12_readsHour_127 k0_128 s0_128 ?_
              refine z_aload_n dX12_readsHour_128 rfl ?_
              refine z_dup dX12_readsHour_129 rfl ?_
              refine z_getIV (j := 15) kX12 lf_X12_115 (by decide) rfl (rfl : _ = nI n) dX12_readsHour_130 k0_127 s0_127 ?_
              refine z_iconst (v := 1) dX12_readsHour_133 (by decide) ?_
              refine z_iaddN (a := n) (b := 1) rfl rfl dX12_readsHour_134 ?_
              refine z_putIV (j := 15) kX12 lf_X12_115 (by decide) rfl rfl (kX12.2.2.1 15 (by decide)) rfl rfl (pM_n rfl) dX12_readsHour_135 k0_127 s0_127 ?_
              refine z_iconst (v := 1) dX12_readsHour_138 (by decide) ?_
              refine z_iret dX12_readsHour_139 rfl zle ?_
              have eX : (if n = 8 then (false, (f, τ, n, r, i)) else pHourC T len (tNx T len f) τ n r i k) = (true, ((pNum T len (pNum T len (tNx T len f) 0 (nI i - 1)).2 0 9).2, pHour τ n k (pNum T len (tNx T len f) 0 (nI i - 1)).1 (pNum T len (pNum T len (tNx T len f) 0 (nI i - 1)).2 0 9).1, n + 1, r, i)) := by
                rw [if_neg hn]
                unfold pHourC
                rw [if_neg c24, if_neg c35]
              first
                | exact mPR.mk eX (wD_no hd _) rfl
                | exact mPR.mk eX (by rw [wD_up hd (j := 3 + n) (by omega) (by omega), wD_up hd (j := 11 + n) (by omega) (by omega), wD_up hd (j := 19 + n) (by omega) (by omega), wD_up hd (j := 27 + n) (by omega) (by omega), wD_up hd (j := 0) rfl (by omega)]; rfl) rfl
          · exact absurd b38 (by decide)
        · obtain rfl := qm35.symm
          have d35 := Classical.byContradiction c35
          refine z_if_ne (tgt := 43) dX12_readsHour_38 (by decide) (fun b38 => ?_) (fun b38 => ?_)
          · exact absurd b38 (by decide)
          · refine z_iconst (v := 0) dX12_readsHour_41 (by decide) ?_
            refine z_iret dX12_readsHour_42 rfl zle ?_
            first
              | (have eX : (if n = 8 then (false, (f, τ, n, r, i)) else pHourC T len (tNx T len f) τ n r i k) = (false, ((pNum T len (pNum T len (tNx T len f) 0 (nI i - 1)).2 0 9).2, τ, n, r, i)) := by
                   rw [if_neg hn]
                   unfold pHourC
                   rw [if_neg c24, if_pos d35]
                 exact mPR.mk eX rfl rfl)
              | (have eX : (if n = 8 then (false, (f, τ, n, r, i)) else pHourC T len (tNx T len f) τ n r i k) = (false, ((pNum T len (tNx T len f) 0 (nI i - 1)).2, τ, n, r, i)) := by
                   rw [if_neg hn]
                   unfold pHourC
                   rw [if_pos d24]
                 exact mPR.mk eX rfl rfl)
    · obtain rfl := qm24.symm
      have d24 := Classical.byContradiction c24
      refine z_if_eq (tgt := 41) dX12_readsHour_27 (by decide) (fun b27 => ?_) (fun b27 => ?_)
      · refine z_iconst (v := 0) dX12_readsHour_41 (by decide) ?_
        refine z_iret dX12_readsHour_42 rfl zle ?_
        first
          | (have eX : (if n = 8 then (false, (f, τ, n, r, i)) else pHourC T len (tNx T len f) τ n r i k) = (false, ((pNum T len (pNum T len (tNx T len f) 0 (nI i - 1)).2 0 9).2, τ, n, r, i)) := by
               rw [if_neg hn]
               unfold pHourC
               rw [if_neg c24, if_pos d35]
             exact mPR.mk eX rfl rfl)
          | (have eX : (if n = 8 then (false, (f, τ, n, r, i)) else pHourC T len (tNx T len f) τ n r i k) = (false, ((pNum T len (tNx T len f) 0 (nI i - 1)).2, τ, n, r, i)) := by
               rw [if_neg hn]
               unfold pHourC
               rw [if_pos d24]
             exact mPR.mk eX rfl rfl)
      · exact absurd b27 (by decide)
  · have hn : n = 8 := (nI_eq (b := 8) (by omega) (by omega)).mp b6
    refine z_iconst (v := 0) dX12_readsHour_9 (by decide) ?_
    refine z_iret dX12_readsHour_10 rfl zle ?_
    exact mPR.mk (if_pos hn) rfl rfl

set_option maxRecDepth 100000 in
set_option maxHeartbeats 4000000 in
theorem c_X12_readsInn (g : zG) (l : Launch) {B : zM} {T : Nat → Int32} {len f i n r : Nat} {c : Int32} {w0 nu : Nat → Int32} {τ : Dy} {dv : Bool} (hl : len ≤ 200) (h4 : B 127 4 = nI len) (hT : ∀ j, j < len → B 130 j = T j) (hf : f ≤ len) (h18 : B 127 18 = if dv = true then 1 else 0) (hI : pInv τ n r i) : zMet g l yX12_readsInn cX12_readsInn 1 (some .boolean) 4 0 0 [.ref 127] S0 (pM B f (tB T len f) i n r c (wD dv w0 τ) nu) (zQi (fun r' M' => mPR B T len c dv w0 (if i = 6 then (false, (f, τ, n, r, i)) else pInnC T len (tNx T len f) τ n r i) r' M')) := by
  have n8 := hI.1.1.1
  have r4 := hI.1.1.2.1
  have i6 := hI.1.1.2.2.1
  have hx := (tNx_r (T := T) hf).2
  have hB := tB_r (T := T) hf
  refine zMet.of (by decide) (Nat.le_of_ble_eq_true rfl) ?_
  refine z_aload_n dX12_readsInn_0 rfl ?_
  refine z_getIV (j := 14) kX12 lf_X12_118 (by decide) rfl (rfl : _ = nI i) dX12_readsInn_1 k0_127 s0_127 ?_
  refine z_bipush (v := 6) dX12_readsInn_4 (by decide) ?_
  refine z_icmp_ne (tgt := 11) dX12_readsInn_6 (by decide) (fun b6 => ?_) (fun b6 => ?_)
  · have hn : ¬ i = 6 := fun z => b6 (by rw [z]; rfl)
    refine z_aload_n dX12_readsInn_11 rfl ?_
    refine z_vV0 (c_X12_nextToken g l hl h4 hT hB.2.1) mw_X12_nextToken lm_X12_108 mi_X12_nextToken mv_X12_nextToken kX12 (by decide) (Nat.le_of_ble_eq_true rfl) zle k0_127 s0_127 dX12_readsInn_12 (fun M12 q12 => ?_)
    obtain rfl := q12.symm
    refine z_aload_n dX12_readsInn_15 rfl ?_
    refine z_iconst (v := 0) dX12_readsInn_16 (by decide) ?_
    refine z_iconst (v := 1) dX12_readsInn_17 (by decide) ?_
    refine z_bipush (v := 9) dX12_readsInn_18 (by decide) ?_
    refine z_iV3 (c_X12_number (f := (tNx T len f)) (k0 := 0) (lo := 1) (hi := 9) g l hl h4 hT hx (by omega)) mw_X12_number lm_X12_121 mi_X12_number mv_X12_number kX12 (by decide) (Nat.le_of_ble_eq_true rfl) zle k0_127 s0_127 dX12_readsInn_20 (fun r20 M20 q20 => ?_)
    rcases q20 with ⟨c20, rfl, qm20⟩ | ⟨c20, rfl, qm20⟩
    · obtain rfl := qm20.symm
      refine z_if_ne (tgt := 28) dX12_readsInn_23 (by decide) (fun b23 => ?_) (fun b23 => ?_)
      · refine z_aload_n dX12_readsInn_28 rfl ?_
        refine z_getIV (j := 18) kX12 lf_X12_125 (by decide) rfl (pM_7 (by omega)) dX12_readsInn_29 k0_127 s0_127 ?_
        refine z_if_eq (tgt := 66) dX12_readsInn_32 (by decide) (fun b32 => ?_) (fun b32 => ?_)
        · have hd : ¬ dv = true := fun z => by rw [h18, if_pos z] at b32; exact absurd b32 (by decide)
          refine z_aload_n dX12_readsInn_66 rfl ?_
          refine z_dup dX12_readsInn_67 rfl ?_
          refine z_getIV (j := 14) kX12 lf_X12_118 (by decide) rfl (rfl : _ = nI i) dX12_readsInn_68 k0_127 s0_127 ?_
          refine z_iconst (v := 1) dX12_readsInn_71 (by decide) ?_
          refine z_iaddN (a := i) (b := 1) rfl rfl dX12_readsInn_72 ?_
          refine z_putIV (j := 14) kX12 lf_X12_118 (by decide) rfl rfl (kX12.2.2.1 14 (by decide)) rfl rfl (pM_i rfl) dX12_readsInn_73 k0_127 s0_127 ?_
          refine z_iconst (v := 1) dX12_readsInn_76 (by decide) ?_
          refine z_iret dX12_readsInn_77 rfl zle ?_
          have eX : (if i = 6 then (false, (f, τ, n, r, i)) else pInnC T len (tNx T len f) τ n r i) = (true, ((pNum T len (tNx T len f) 1 9).2, pInn τ i (pNum T len (tNx T len f) 1 9).1, n, r, i + 1)) := by
            rw [if_neg hn]
            unfold pInnC
            rw [if_neg c20]
          first
            | exact mPR.mk eX (wD_no hd _) rfl
            | exact mPR.mk eX (by rw [wD_up hd (j := 64 + i) (by omega) (by omega), wD_up hd (j := 63) rfl (by omega)]; rfl) rfl
        · have hd : dv = true := Classical.byContradiction (fun z => b32 (h18.trans (if_neg z)))
          refine z_aload_n dX12_readsInn_35 rfl ?_
          refine z_getR (j := 0) (r := 128) kX12 lf_X12_7 (by decide) rfl dX12_readsInn_36 k0_127 s0_127 r0_127_0 (by decide) ?_
          refine z_sipush (v := 134) dX12_readsInn_39 (by decide) ?_
          refine z_aload_n dX12_readsInn_42 rfl ?_
          refine z_getIV (j := 14) kX12 lf_X12_118 (by decide) rfl (rfl : _ = nI i) dX12_readsInn_43 k0_127 s0_127 ?_
          refine z_iaddN (a := 134) (b := i) rfl rfl dX12_readsInn_46 ?_
          refine z_aload_n dX12_readsInn_47 rfl ?_
          refine z_getR (j := 19) (r := 137) kX12 lf_X12_38 (by decide) rfl dX12_readsInn_48 k0_127 s0_127 r0_127_19 (by decide) ?_
          refine z_iconst (v := 0) dX12_readsInn_51 (by decide) ?_
          refine z_ialdV (j := 0) rfl (by decide) (rfl : _ = (pNum T len (tNx T len f) 1 9).1) dX12_readsInn_52 k0_137 s0_137 ?_
          refine z_iastV (j := (134 + i)) rfl (by omega) pM_w dX12_readsInn_53 k0_128 s0_128 ?_
          refine z_aload_n dX12_readsInn_54 rfl ?_
          refine z_getR (j := 0) (r := 128) kX12 lf_X12_7 (by decide) rfl dX12_readsInn_55 k0_127 s0_127 r0_127_0 (by decide) ?_
          refine z_sipush (v := 133) dX12_readsInn_58 (by decide) ?_
          refine z_dup2 dX12_readsInn_61 rfl rfl ?_
          refine z_ialdV (j := 133) rfl (by decide) ((upd_n _ _ (by omega)).trans ((wD_at hd (j := 63) rfl (by omega)).trans hI.1.1.2.2.2.2.2)) dX12_readsInn_62 k0_128 s0_128 ?_
          refine z_iconst (v := 1) dX12_readsInn_63 (by decide) ?_
          refine z_iaddN (a := i) (b := 1) rfl rfl dX12_readsInn_64 ?_
          refine z_iastV (j := 133) rfl (by decide) pM_w dX12_readsInn_65 k0_128 s0_128 ?_
          refine z_aload_n dX12_readsInn_66 rfl ?_
          refine z_dup dX12_readsInn_67 rfl ?_
          refine z_getIV (j := 14) kX12 lf_X12_118 (by decide) rfl (rfl : _ = nI i) dX12_readsInn_68 k0_127 s0_127 ?_
          refine z_iconst (v := 1) dX12_readsInn_71 (by decide) ?_
          refine z_iaddN (a := i) (b := 1) rfl rfl dX12_readsInn_72 ?_
          refine z_putIV (j := 14) kX12 lf_X12_118 (by decide) rfl rfl (kX12.2.2.1 14 (by decide)) rfl rfl (pM_i rfl) dX12_readsInn_73 k0_127 s0_127 ?_
          refine z_iconst (v := 1) dX12_readsInn_76 (by decide) ?_
          refine z_iret dX12_readsInn_77 rfl zle ?_
          have eX : (if i = 6 then (false, (f, τ, n, r, i)) else pInnC T len (tNx T len f) τ n r i) = (true, ((pNum T len (tNx T len f) 1 9).2, pInn τ i (pNum T len (tNx T len f) 1 9).1, n, r, i + 1)) := by
            rw [if_neg hn]
            unfold pInnC
            rw [if_neg c20]
          first
            | exact mPR.mk eX (wD_no hd _) rfl
            | exact mPR.mk eX (by rw [wD_up hd (j := 64 + i) (by omega) (by omega), wD_up hd (j := 63) rfl (by omega)]; rfl) rfl
      · exact absurd b23 (by decide)
    · obtain rfl := qm20.symm
      have d20 := Classical.byContradiction c20
      refine z_if_ne (tgt := 28) dX12_readsInn_23 (by decide) (fun b23 => ?_) (fun b23 => ?_)
      · exact absurd b23 (by decide)
      · refine z_iconst (v := 0) dX12_readsInn_26 (by decide) ?_
        refine z_iret dX12_readsInn_27 rfl zle ?_
        have eX : (if i = 6 then (false, (f, τ, n, r, i)) else pInnC T len (tNx T len f) τ n r i) = (false, ((pNum T len (tNx T len f) 1 9).2, τ, n, r, i)) := by
          rw [if_neg hn]
          unfold pInnC
          rw [if_pos d20]
        exact mPR.mk eX rfl rfl
  · have hn : i = 6 := (nI_eq (b := 6) (by omega) (by omega)).mp b6
    refine z_iconst (v := 0) dX12_readsInn_9 (by decide) ?_
    refine z_iret dX12_readsInn_10 rfl zle ?_
    exact mPR.mk (if_pos hn) rfl rfl

set_option maxRecDepth 100000 in
set_option maxHeartbeats 4000000 in
theorem c_X12_readsRider (g : zG) (l : Launch) {B : zM} {T : Nat → Int32} {len f i n r : Nat} {c : Int32} {w0 nu : Nat → Int32} {τ : Dy} {dv : Bool} (hl : len ≤ 200) (h4 : B 127 4 = nI len) (hT : ∀ j, j < len → B 130 j = T j) (hf : f ≤ len) (h18 : B 127 18 = if dv = true then 1 else 0) (hI : pInv τ n r i) : zMet g l yX12_readsRider cX12_readsRider 1 (some .boolean) 4 0 0 [.ref 127] S0 (pM B f (tB T len f) i n r c (wD dv w0 τ) nu) (zQi (fun r' M' => mPR B T len c dv w0 (if r = 4 then (false, (f, τ, n, r, i)) else pRiderC T len (tNx T len f) τ n r i) r' M')) := by
  have n8 := hI.1.1.1
  have r4 := hI.1.1.2.1
  have i6 := hI.1.1.2.2.1
  have hx := (tNx_r (T := T) hf).2
  have hB := tB_r (T := T) hf
  refine zMet.of (by decide) (Nat.le_of_ble_eq_true rfl) ?_
  refine z_aload_n dX12_readsRider_0 rfl ?_
  refine z_getIV (j := 16) kX12 lf_X12_129 (by decide) rfl (rfl : _ = nI r) dX12_readsRider_1 k0_127 s0_127 ?_
  refine z_iconst (v := 4) dX12_readsRider_4 (by decide) ?_
  refine z_icmp_ne (tgt := 10) dX12_readsRider_5 (by decide) (fun b5 => ?_) (fun b5 => ?_)
  · have hn : ¬ r = 4 := fun z => b5 (by rw [z]; rfl)
    refine z_aload_n dX12_readsRider_10 rfl ?_
    refine z_vV0 (c_X12_nextToken g l hl h4 hT hB.2.1) mw_X12_nextToken lm_X12_108 mi_X12_nextToken mv_X12_nextToken kX12 (by decide) (Nat.le_of_ble_eq_true rfl) zle k0_127 s0_127 dX12_readsRider_11 (fun M11 q11 => ?_)
    obtain rfl := q11.symm
    refine z_aload_n dX12_readsRider_14 rfl ?_
    refine z_iconst (v := 0) dX12_readsRider_15 (by decide) ?_
    refine z_iconst (v := 0) dX12_readsRider_16 (by decide) ?_
    refine z_aload_n dX12_readsRider_17 rfl ?_
    refine z_getIV (j := 14) kX12 lf_X12_118 (by decide) rfl (rfl : _ = nI i) dX12_readsRider_18 k0_127 s0_127 ?_
    refine z_iconst (v := 1) dX12_readsRider_21 (by decide) ?_
    refine z_isub dX12_readsRider_22 ?_
    refine z_iV3 (c_X12_number (f := (tNx T len f)) (k0 := 0) (lo := 0) (hi := (nI i - 1)) g l hl h4 hT hx (by omega)) mw_X12_number lm_X12_121 mi_X12_number mv_X12_number kX12 (by decide) (Nat.le_of_ble_eq_true rfl) zle k0_127 s0_127 dX12_readsRider_23 (fun r23 M23 q23 => ?_)
    rcases q23 with ⟨c23, rfl, qm23⟩ | ⟨c23, rfl, qm23⟩
    · obtain rfl := qm23.symm
      refine z_if_eq (tgt := 44) dX12_readsRider_26 (by decide) (fun b26 => ?_) (fun b26 => ?_)
      · exact absurd b26 (by decide)
      · refine z_aload_n dX12_readsRider_29 rfl ?_
        refine z_iconst (v := 1) dX12_readsRider_30 (by decide) ?_
        refine z_iconst (v := 0) dX12_readsRider_31 (by decide) ?_
        refine z_aload_n dX12_readsRider_32 rfl ?_
        refine z_getIV (j := 14) kX12 lf_X12_118 (by decide) rfl (rfl : _ = nI i) dX12_readsRider_33 k0_127 s0_127 ?_
        refine z_iconst (v := 1) dX12_readsRider_36 (by decide) ?_
        refine z_isub dX12_readsRider_37 ?_
        refine z_iV3 (c_X12_number (f := (pNum T len (tNx T len f) 0 (nI i - 1)).2) (k0 := 1) (lo := 0) (hi := (nI i - 1)) g l hl h4 hT (pNum_r hx) (by omega)) mw_X12_number lm_X12_121 mi_X12_number mv_X12_number kX12 (by decide) (Nat.le_of_ble_eq_true rfl) zle k0_127 s0_127 dX12_readsRider_38 (fun r38 M38 q38 => ?_)
        rcases q38 with ⟨c38, rfl, qm38⟩ | ⟨c38, rfl, qm38⟩
        · obtain rfl := qm38.symm
          refine z_if_ne (tgt := 46) dX12_readsRider_41 (by decide) (fun b41 => ?_) (fun b41 => ?_)
          · refine z_aload_n dX12_readsRider_46 rfl ?_
            refine z_getIV (j := 18) kX12 lf_X12_125 (by decide) rfl (pM_7 (by omega)) dX12_readsRider_47 k0_127 s0_127 ?_
            refine z_if_eq (tgt := 100) dX12_readsRider_50 (by decide) (fun b50 => ?_) (fun b50 => ?_)
            · have hd : ¬ dv = true := fun z => by rw [h18, if_pos z] at b50; exact absurd b50 (by decide)
              refine z_aload_n dX12_readsRider_100 rfl ?_
              refine z_dup dX12_readsRider_101 rfl ?_
              refine z_getIV (j := 16) kX12 lf_X12_129 (by decide) rfl (rfl : _ = nI r) dX12_readsRider_102 k0_127 s0_127 ?_
              refine z_iconst (v := 1) dX12_readsRider_105 (by decide) ?_
              refine z_iaddN (a := r) (b := 1) rfl rfl dX12_readsRider_106 ?_
              refine z_putIV (j := 16) kX12 lf_X12_129 (by decide) rfl rfl (kX12.2.2.1 16 (by decide)) rfl rfl (pM_r rfl) dX12_readsRider_107 k0_127 s0_127 ?_
              refine z_iconst (v := 1) dX12_readsRider_110 (by decide) ?_
              refine z_iret dX12_readsRider_111 rfl zle ?_
              have eX : (if r = 4 then (false, (f, τ, n, r, i)) else pRiderC T len (tNx T len f) τ n r i) = (true, ((pNum T len (pNum T len (tNx T len f) 0 (nI i - 1)).2 0 (nI i - 1)).2, pRider τ r (pNum T len (tNx T len f) 0 (nI i - 1)).1 (pNum T len (pNum T len (tNx T len f) 0 (nI i - 1)).2 0 (nI i - 1)).1, n, r + 1, i)) := by
                rw [if_neg hn]
                unfold pRiderC
                rw [if_neg c23, if_neg c38]
              first
                | exact mPR.mk eX (wD_no hd _) rfl
                | exact mPR.mk eX (by rw [wD_up hd (j := 51 + r) (by omega) (by omega), wD_up hd (j := 55 + r) (by omega) (by omega), wD_up hd (j := 1) rfl (by omega)]; rfl) rfl
            · have hd : dv = true := Classical.byContradiction (fun z => b50 (h18.trans (if_neg z)))
              refine z_aload_n dX12_readsRider_53 rfl ?_
              refine z_getR (j := 0) (r := 128) kX12 lf_X12_7 (by decide) rfl dX12_readsRider_54 k0_127 s0_127 r0_127_0 (by decide) ?_
              refine z_bipush (v := 121) dX12_readsRider_57 (by decide) ?_
              refine z_aload_n dX12_readsRider_59 rfl ?_
              refine z_getIV (j := 16) kX12 lf_X12_129 (by decide) rfl (rfl : _ = nI r) dX12_readsRider_60 k0_127 s0_127 ?_
              refine z_iaddN (a := 121) (b := r) rfl rfl dX12_readsRider_63 ?_
              refine z_aload_n dX12_readsRider_64 rfl ?_
              refine z_getR (j := 19) (r := 137) kX12 lf_X12_38 (by decide) rfl dX12_readsRider_65 k0_127 s0_127 r0_127_19 (by decide) ?_
              refine z_iconst (v := 0) dX12_readsRider_68 (by decide) ?_
              refine z_ialdV (j := 0) rfl (by decide) (rfl : _ = (pNum T len (tNx T len f) 0 (nI i - 1)).1) dX12_readsRider_69 k0_137 s0_137 ?_
              refine z_iastV (j := (121 + r)) rfl (by omega) pM_w dX12_readsRider_70 k0_128 s0_128 ?_
              refine z_aload_n dX12_readsRider_71 rfl ?_
              refine z_getR (j := 0) (r := 128) kX12 lf_X12_7 (by decide) rfl dX12_readsRider_72 k0_127 s0_127 r0_127_0 (by decide) ?_
              refine z_bipush (v := 125) dX12_readsRider_75 (by decide) ?_
              refine z_aload_n dX12_readsRider_77 rfl ?_
              refine z_getIV (j := 16) kX12 lf_X12_129 (by decide) rfl (rfl : _ = nI r) dX12_readsRider_78 k0_127 s0_127 ?_
              refine z_iaddN (a := 125) (b := r) rfl rfl dX12_readsRider_81 ?_
              refine z_aload_n dX12_readsRider_82 rfl ?_
              refine z_getR (j := 19) (r := 137) kX12 lf_X12_38 (by decide) rfl dX12_readsRider_83 k0_127 s0_127 r0_127_19 (by decide) ?_
              refine z_iconst (v := 1) dX12_readsRider_86 (by decide) ?_
              refine z_ialdV (j := 1) rfl (by decide) (rfl : _ = (pNum T len (pNum T len (tNx T len f) 0 (nI i - 1)).2 0 (nI i - 1)).1) dX12_readsRider_87 k0_137 s0_137 ?_
              refine z_iastV (j := (125 + r)) rfl (by omega) pM_w dX12_readsRider_88 k0_128 s0_128 ?_
              refine z_aload_n dX12_readsRider_89 rfl ?_
              refine z_getR (j := 0) (r := 128) kX12 lf_X12_7 (by decide) rfl dX12_readsRider_90 k0_127 s0_127 r0_127_0 (by decide) ?_
              refine z_bipush (v := 71) dX12_readsRider_93 (by decide) ?_
              refine z_dup2 dX12_readsRider_95 rfl rfl ?_
              refine z_ialdV (j := 71) rfl (by decide) ((upd_n _ _ (by omega)).trans ((upd_n _ _ (by omega)).trans ((wD_at hd (j := 1) rfl (by omega)).trans hI.1.1.2.2.2.2.1))) dX12_readsRider_96 k0_128 s0_128 ?_
              refine z_iconst (v := 1) dX12_readsRider_97 (by decide) ?_
              refine z_iaddN (a := r) (b := 1) rfl rfl dX12_readsRider_98 ?_
              refine z_iastV (j := 71) rfl (by decide) pM_w dX12_readsRider_99 k0_128 s0_128 ?_
              refine z_aload_n dX12_readsRider_100 rfl ?_
              refine z_dup dX12_readsRider_101 rfl ?_
              refine z_getIV (j := 16) kX12 lf_X12_129 (by decide) rfl (rfl : _ = nI r) dX12_readsRider_102 k0_127 s0_127 ?_
              refine z_iconst (v := 1) dX12_readsRider_105 (by decide) ?_
              refine z_iaddN (a := r) (b := 1) rfl rfl dX12_readsRider_106 ?_
              refine z_putIV (j := 16) kX12 lf_X12_129 (by decide) rfl rfl (kX12.2.2.1 16 (by decide)) rfl rfl (pM_r rfl) dX12_readsRider_107 k0_127 s0_127 ?_
              refine z_iconst (v := 1) dX12_readsRider_110 (by decide) ?_
              refine z_iret dX12_readsRider_111 rfl zle ?_
              have eX : (if r = 4 then (false, (f, τ, n, r, i)) else pRiderC T len (tNx T len f) τ n r i) = (true, ((pNum T len (pNum T len (tNx T len f) 0 (nI i - 1)).2 0 (nI i - 1)).2, pRider τ r (pNum T len (tNx T len f) 0 (nI i - 1)).1 (pNum T len (pNum T len (tNx T len f) 0 (nI i - 1)).2 0 (nI i - 1)).1, n, r + 1, i)) := by
                rw [if_neg hn]
                unfold pRiderC
                rw [if_neg c23, if_neg c38]
              first
                | exact mPR.mk eX (wD_no hd _) rfl
                | exact mPR.mk eX (by rw [wD_up hd (j := 51 + r) (by omega) (by omega), wD_up hd (j := 55 + r) (by omega) (by omega), wD_up hd (j := 1) rfl (by omega)]; rfl) rfl
          · exact absurd b41 (by decide)
        · obtain rfl := qm38.symm
          have d38 := Classical.byContradiction c38
          refine z_if_ne (tgt := 46) dX12_readsRider_41 (by decide) (fun b41 => ?_) (fun b41 => ?_)
          · exact absurd b41 (by decide)
          · refine z_iconst (v := 0) dX12_readsRider_44 (by decide) ?_
            refine z_iret dX12_readsRider_45 rfl zle ?_
            first
              | (have eX : (if r = 4 then (false, (f, τ, n, r, i)) else pRiderC T len (tNx T len f) τ n r i) = (false, ((pNum T len (pNum T len (tNx T len f) 0 (nI i - 1)).2 0 (nI i - 1)).2, τ, n, r, i)) := by
                   rw [if_neg hn]
                   unfold pRiderC
                   rw [if_neg c23, if_pos d38]
                 exact mPR.mk eX rfl rfl)
              | (have eX : (if r = 4 then (false, (f, τ, n, r, i)) else pRiderC T len (tNx T len f) τ n r i) = (false, ((pNum T len (tNx T len f) 0 (nI i - 1)).2, τ, n, r, i)) := by
                   rw [if_neg hn]
                   unfold pRiderC
                   rw [if_pos d23]
                 exact mPR.mk eX rfl rfl)
    · obtain rfl := qm23.symm
      have d23 := Classical.byContradiction c23
      refine z_if_eq (tgt := 44) dX12_readsRider_26 (by decide) (fun b26 => ?_) (fun b26 => ?_)
      · refine z_iconst (v := 0) dX12_readsRider_44 (by decide) ?_
        refine z_iret dX12_readsRider_45 rfl zle ?_
        first
          | (have eX : (if r = 4 then (false, (f, τ, n, r, i)) else pRiderC T len (tNx T len f) τ n r i) = (false, ((pNum T len (pNum T len (tNx T len f) 0 (nI i - 1)).2 0 (nI i - 1)).2, τ, n, r, i)) := by
               rw [if_neg hn]
               unfold pRiderC
               rw [if_neg c23, if_pos d38]
             exact mPR.mk eX rfl rfl)
          | (have eX : (if r = 4 then (false, (f, τ, n, r, i)) else pRiderC T len (tNx T len f) τ n r i) = (false, ((pNum T len (tNx T len f) 0 (nI i - 1)).2, τ, n, r, i)) := by
               rw [if_neg hn]
               unfold pRiderC
               rw [if_pos d23]
             exact mPR.mk eX rfl rfl)
      · exact absurd b26 (by decide)
  · have hn : r = 4 := (nI_eq (b := 4) (by omega) (by omega)).mp b5
    refine z_iconst (v := 0) dX12_readsRider_8 (by decide) ?_
    refine z_iret dX12_readsRider_9 rfl zle ?_
    exact mPR.mk (if_pos hn) rfl rfl

theorem pM_wc {B : zM} {f b i n r : Nat} {c : Int32} {w w' nu : Nat → Int32} (h : w = w') : pM B f b i n r c w nu = pM B f b i n r c w' nu := by rw [h]
theorem wD_road {dv : Bool} {w0 : Nat → Int32} {τ : Dy} (hd : dv = true) : (fun j => if 70 ≤ j ∧ j < 70 + 70 then 0 else wD dv w0 τ j) = wD dv w0 (pRoad τ) := by
  funext j
  unfold wD regU pRoad
  rw [if_pos hd, if_pos hd]
  by_cases c : 70 ≤ j ∧ j < 70 + 70
  · rw [if_pos c, if_pos c, if_pos (by omega)]
  · rw [if_neg c, if_neg c, if_neg c]
set_option maxRecDepth 100000 in
set_option maxHeartbeats 4000000 in
theorem lp_readsRoad (g : zG) (l : Launch) {B : zM} {T : Nat → Int32} {len f i n r : Nat} {c : Int32} {w0 nu : Nat → Int32} {τ : Dy} {dv : Bool} (hl : len ≤ 200) (h4 : B 127 4 = nI len) (hT : ∀ j, j < len → B 130 j = T j) (hf : f ≤ len) (h18 : B 127 18 = if dv = true then 1 else 0) (hI : pInv τ n r i) (hd : dv = true) : ∀ (k h : Nat), h ≤ 70 → 70 - h < k → zA g l yX12_readsRoad cX12_readsRoad 2 (some .boolean) 3 0 0 (zQi (fun r' M' => mPR B T len c dv w0 (true, (tNx T len f, pRoad τ, 0, 0, 0)) r' M')) 21 0 0 S0 (pM B (tNx T len f) (tB T len (tNx T len f)) 0 0 0 c (fun j => if 70 ≤ j ∧ j < 70 + h then 0 else wD dv w0 τ j) nu) [.ref 127, .int (nI h)] [] := by
  intro k
  induction k with
  | zero => intro h hh hk; exact absurd hk (Nat.not_lt_zero _)
  | succ k ih =>
    intro h hh hk 
    refine z_iload_n dX12_readsRoad_21 rfl ?_
    refine z_bipush (v := 70) dX12_readsRoad_22 (by decide) ?_
    refine z_icmp_ge (tgt := 50) dX12_readsRoad_24 (by decide) (fun b24 => ?_) (fun b24 => ?_)
    · have e : 70 ≤ h := (nI_leI (by omega) (by omega)).mp b24
      have e2 : h = 70 := by omega
      subst e2
      refine z_iconst (v := 1) dX12_readsRoad_50 (by decide) ?_
      refine z_iret dX12_readsRoad_51 rfl zle ?_
      first
        | exact mPR.mk rfl (wD_road hd) rfl
        | exact mPR.mk rfl ((congrArg _ rfl).trans (wD_road hd)) rfl
    · have hn : h < 70 := by
        rcases Nat.lt_or_ge h 70 with z | z
        · exact z
        · exact absurd (nI_le z (by omega)) b24
      refine z_aload_n dX12_readsRoad_27 rfl ?_
      refine z_getIV (j := 18) kX12 lf_X12_125 (by decide) rfl (pM_7 (by omega)) dX12_readsRoad_28 k0_127 s0_127 ?_
      refine z_if_eq (tgt := 50) dX12_readsRoad_31 (by decide) (fun b31 => ?_) (fun b31 => ?_)
      · exact absurd b31 (by rw [h18, if_pos hd]; decide)
      · refine z_aload_n dX12_readsRoad_34 rfl ?_
        refine z_getR (j := 0) (r := 128) kX12 lf_X12_7 (by decide) rfl dX12_readsRoad_35 k0_127 s0_127 r0_127_0 (by decide) ?_
        refine z_bipush (v := 70) dX12_readsRoad_38 (by decide) ?_
        refine z_iload_n dX12_readsRoad_40 rfl ?_
        refine z_iaddN (a := 70) (b := h) rfl rfl dX12_readsRoad_41 ?_
        refine z_iconst (v := 0) dX12_readsRoad_42 (by decide) ?_
        refine z_iastV (j := (70 + h)) rfl (by omega) pM_w dX12_readsRoad_43 k0_128 s0_128 ?_
        refine z_iincN (k := h) dX12_readsRoad_44 rfl rfl (by decide) rfl rfl ?_
        refine z_goto (tgt := 21) dX12_readsRoad_47 (by decide) ?_
        refine zA.sub (ih (h + 1) (by omega) (by omega)) (pM_wc ?_) ⟨Or.inr rfl, Or.inr rfl, trivial⟩
        funext j
        by_cases c2 : j = 70 + h
        · subst c2; rw [upd_s, if_pos (by omega)]
        · rw [upd_n _ _ c2]
          by_cases c3 : 70 ≤ j ∧ j < 70 + h
          · rw [if_pos c3, if_pos (by omega)]
          · rw [if_neg c3, if_neg (by omega)]

set_option maxRecDepth 100000 in
set_option maxHeartbeats 4000000 in
theorem c_X12_readsRoad (g : zG) (l : Launch) {B : zM} {T : Nat → Int32} {len f i n r : Nat} {c : Int32} {w0 nu : Nat → Int32} {τ : Dy} {dv : Bool} (hl : len ≤ 200) (h4 : B 127 4 = nI len) (hT : ∀ j, j < len → B 130 j = T j) (hf : f ≤ len) (h18 : B 127 18 = if dv = true then 1 else 0) (hI : pInv τ n r i) : zMet g l yX12_readsRoad cX12_readsRoad 2 (some .boolean) 3 0 0 [.ref 127] S0 (pM B f (tB T len f) i n r c (wD dv w0 τ) nu) (zQi (fun r' M' => mPR B T len c dv w0 (true, (tNx T len f, pRoad τ, 0, 0, 0)) r' M')) := by
  have n8 := hI.1.1.1
  have r4 := hI.1.1.2.1
  have i6 := hI.1.1.2.2.1
  have hx := (tNx_r (T := T) hf).2
  have hB := tB_r (T := T) hf
  refine zMet.of (by decide) (Nat.le_of_ble_eq_true rfl) ?_
  refine z_aload_n dX12_readsRoad_0 rfl ?_
  refine z_vV0 (c_X12_nextToken g l hl h4 hT hB.2.1) mw_X12_nextToken lm_X12_108 mi_X12_nextToken mv_X12_nextToken kX12 (by decide) (Nat.le_of_ble_eq_true rfl) zle k0_127 s0_127 dX12_readsRoad_1 (fun M1 q1 => ?_)
  obtain rfl := q1.symm
  refine z_aload_n dX12_readsRoad_4 rfl ?_
  refine z_iconst (v := 0) dX12_readsRoad_5 (by decide) ?_
  refine z_putIV (j := 14) kX12 lf_X12_118 (by decide) rfl rfl (kX12.2.2.1 14 (by decide)) rfl rfl (pM_i rfl) dX12_readsRoad_6 k0_127 s0_127 ?_
  refine z_aload_n dX12_readsRoad_9 rfl ?_
  refine z_iconst (v := 0) dX12_readsRoad_10 (by decide) ?_
  refine z_putIV (j := 15) kX12 lf_X12_115 (by decide) rfl rfl (kX12.2.2.1 15 (by decide)) rfl rfl (pM_n rfl) dX12_readsRoad_11 k0_127 s0_127 ?_
  refine z_aload_n dX12_readsRoad_14 rfl ?_
  refine z_iconst (v := 0) dX12_readsRoad_15 (by decide) ?_
  refine z_putIV (j := 16) kX12 lf_X12_129 (by decide) rfl rfl (kX12.2.2.1 16 (by decide)) rfl rfl (pM_r rfl) dX12_readsRoad_16 k0_127 s0_127 ?_
  refine z_iconst (v := 0) dX12_readsRoad_19 (by decide) ?_
  refine z_istore_n dX12_readsRoad_20 (by decide) rfl rfl ?_
  by_cases hd : dv = true
  · refine zA.sub (lp_readsRoad g l hl h4 hT hf h18 hI hd 71 0 (Nat.zero_le _) (by omega)) (pM_wc ?_) ⟨Or.inr rfl, Or.inr rfl, trivial⟩
    funext j
    exact (if_neg (by omega)).symm
  · refine z_iload_n dX12_readsRoad_21 rfl ?_
    refine z_bipush (v := 70) dX12_readsRoad_22 (by decide) ?_
    refine z_icmp_ge (tgt := 50) dX12_readsRoad_24 (by decide) (fun b24 => ?_) (fun b24 => ?_)
    · exact absurd b24 (by decide)
    · refine z_aload_n dX12_readsRoad_27 rfl ?_
      refine z_getIV (j := 18) kX12 lf_X12_125 (by decide) rfl (pM_7 (by omega)) dX12_readsRoad_28 k0_127 s0_127 ?_
      refine z_if_eq (tgt := 50) dX12_readsRoad_31 (by decide) (fun b31 => ?_) (fun b31 => ?_)
      · refine z_iconst (v := 1) dX12_readsRoad_50 (by decide) ?_
        refine z_iret dX12_readsRoad_51 rfl zle ?_
        exact mPR.mk rfl (wD_no hd _) rfl
      · exact absurd (h18.trans (if_neg hd)) b31

theorem frst_lt (p : Nat → Bool) : ∀ (k a : Nat), a + k < 1000 → ∀ j, frst p a k = nI j → j < 1000 → ∀ z, a ≤ z → z < j → p z = false
  | 0, a, _, j, h, hj, z, _, _ => absurd h.symm (nI_nm1 hj)
  | k + 1, a, ha, j, h, hj, z, h1, h2 => by
    unfold frst at h
    by_cases c : p a = true
    · rw [if_pos c] at h
      have : a = j := (nI_eq (by omega) (by omega)).mp h
      omega
    · rw [if_neg c] at h
      by_cases e : z = a
      · subst e; exact Bool.eq_false_iff.mpr c
      · exact frst_lt p k (a + 1) (by omega) j h hj z (by omega) h2
theorem frst_ext {p : Nat → Bool} (h : ¬ frst p 0 5 = -1) : frst p 0 8 = frst p 0 5 := by
  rcases frst_ran p 5 0 with e | ⟨j, -, hj, e, hp⟩
  · exact absurd e h
  · have hn := frst_lt p 5 0 (by omega) j e (by omega)
    have := frst_hit p 8 0 j (by omega) (fun z hz => by rw [Nat.zero_add]; exact hn z (by omega) hz) (by rw [Nat.zero_add]; exact hp)
    rw [Nat.zero_add] at this
    rw [this, e]
theorem cl_hour {T : Nat → Int32} {len f n r i : Nat} {τ : Dy} (hI : pInv τ n r i) {k : Int32} (e : tWord T len f = k) (hk : zIn k 5) : pClause T len f τ n r i = if n = 8 then (false, (f, τ, n, r, i)) else pHourC T len (tNx T len f) τ n r i k := by
  have n8 := hI.1.1.1
  obtain ⟨a, ha, rfl⟩ := hk
  have g : ∀ b : Nat, 5 ≤ b → b < 9 → ¬ nI a = nI b := fun b h1 h2 z => by have := (nI_eq (by omega) (by omega)).mp z; omega
  unfold pClause
  rw [e, if_neg (nI_nm1 (by omega))]
  by_cases c : n = 8
  · rw [if_pos c, if_pos (Or.inr (Or.inr ⟨g 5 (by omega) (by omega), g 6 (by omega) (by omega), g 7 (by omega) (by omega), by omega⟩))]
  · rw [if_neg c, if_neg (fun z => z.elim (fun z => g 6 (by omega) (by omega) z.1) (fun z => z.elim (fun z => g 7 (by omega) (by omega) z.1) (fun z => by have := z.2.2.2; omega))), if_neg (show ¬ nI a = 5 from g 5 (by omega) (by omega)), if_neg (show ¬ nI a = 6 from g 6 (by omega) (by omega)), if_neg (show ¬ nI a = 7 from g 7 (by omega) (by omega))]
theorem cl_road {T : Nat → Int32} {len f n r i : Nat} {τ : Dy} (e : tWord T len f = 5) : pClause T len f τ n r i = (true, (tNx T len f, pRoad τ, 0, 0, 0)) := by
  unfold pClause
  rw [e, if_neg (by decide), if_neg (fun z => z.elim (fun z => absurd z.1 (by decide)) (fun z => z.elim (fun z => absurd z.1 (by decide)) (fun z => z.1 rfl))), if_pos rfl]
theorem cl_inn {T : Nat → Int32} {len f n r i : Nat} {τ : Dy} (hI : pInv τ n r i) (e : tWord T len f = 6) : pClause T len f τ n r i = if i = 6 then (false, (f, τ, n, r, i)) else pInnC T len (tNx T len f) τ n r i := by
  have i6 := hI.1.1.2.2.1
  unfold pClause
  rw [e, if_neg (by decide)]
  by_cases c : i = 6
  · rw [if_pos c, if_pos (Or.inl ⟨rfl, by omega⟩)]
  · rw [if_neg c, if_neg (fun z => z.elim (fun z => by have := z.2; omega) (fun z => z.elim (fun z => absurd z.1 (by decide)) (fun z => z.2.1 rfl))), if_neg (by decide), if_pos rfl]
theorem cl_rider {T : Nat → Int32} {len f n r i : Nat} {τ : Dy} (hI : pInv τ n r i) (e : tWord T len f = 7) : pClause T len f τ n r i = if r = 4 then (false, (f, τ, n, r, i)) else pRiderC T len (tNx T len f) τ n r i := by
  have r4 := hI.1.1.2.1
  unfold pClause
  rw [e, if_neg (by decide)]
  by_cases c : r = 4
  · rw [if_pos c, if_pos (Or.inr (Or.inl ⟨rfl, by omega⟩))]
  · rw [if_neg c, if_neg (fun z => z.elim (fun z => absurd z.1 (by decide)) (fun z => z.elim (fun z => by have := z.2; omega) (fun z => z.2.2.1 rfl))), if_neg (by decide), if_neg (by decide), if_pos rfl]
theorem tw_from {T : Nat → Int32} {len f : Nat} (h5 : frst (fun j => decide (tIs T len f j)) 0 5 = -1) (j : Nat) (hj : j < 8) (h : tIs T len f j) (hn : ∀ z, 5 ≤ z → z < j → ¬ tIs T len f z) (h6 : 5 ≤ j) : tWord T len f = nI j := by
  have h0 := frst_none (fun j => decide (tIs T len f j)) 5 0 (by omega) h5
  have := frst_hit (fun j => decide (tIs T len f j)) 8 0 j hj (fun z hz => by
    rw [Nat.zero_add]
    by_cases c : z < 5
    · exact h0 z (by omega) (by omega)
    · exact decide_eq_false (hn z (by omega) hz)) (by rw [Nat.zero_add]; exact decide_eq_true h)
  rw [Nat.zero_add] at this
  exact this
theorem tw_none {T : Nat → Int32} {len f : Nat} (h5 : frst (fun j => decide (tIs T len f j)) 0 5 = -1) (hn : ∀ z, 5 ≤ z → z < 8 → ¬ tIs T len f z) : tWord T len f = -1 := by
  have h0 := frst_none (fun j => decide (tIs T len f j)) 5 0 (by omega) h5
  exact frst_nil (fun j => decide (tIs T len f j)) 8 0 (fun z hz => by
    rw [Nat.zero_add]
    by_cases c : z < 5
    · exact h0 z (by omega) (by omega)
    · exact decide_eq_false (hn z (by omega) hz))
set_option maxRecDepth 100000 in
set_option maxHeartbeats 4000000 in
theorem c_X12_readsClause (g : zG) (l : Launch) {B : zM} {T : Nat → Int32} {len f i n r : Nat} {c : Int32} {w0 nu : Nat → Int32} {τ : Dy} {dv : Bool} (hl : len ≤ 200) (h4 : B 127 4 = nI len) (hT : ∀ j, j < len → B 130 j = T j) (hW : mWd B) (hf : f ≤ len) (h18 : B 127 18 = if dv = true then 1 else 0) (hI : pInv τ n r i) : zMet g l yX12_readsClause cX12_readsClause 1 (some .boolean) 5 0 0 [.ref 127] S0 (pM B f (tB T len f) i n r c (wD dv w0 τ) nu) (zQi (fun r' M' => mPR B T len c dv w0 (pClause T len f τ n r i) r' M')) := by
  have n8 := hI.1.1.1
  have r4 := hI.1.1.2.1
  have i6 := hI.1.1.2.2.1
  have hx := (tNx_r (T := T) hf).2
  have hB := tB_r (T := T) hf
  refine zMet.of (by decide) (Nat.le_of_ble_eq_true rfl) ?_
  refine z_aload_n dX12_readsClause_0 rfl ?_
  refine z_iV0 (c_X12_kindHere g l hl h4 hT hW hf) mw_X12_kindHere lm_X12_132 mi_X12_kindHere mv_X12_kindHere kX12 (by decide) (Nat.le_of_ble_eq_true rfl) zle k0_127 s0_127 dX12_readsClause_1 (fun r1 M1 q1 => ?_)
  obtain ⟨qr1, qm1⟩ := q1
  obtain rfl := qr1.symm
  obtain rfl := qm1.symm
  refine z_iconst (v := (-1)) dX12_readsClause_4 (by decide) ?_
  refine z_icmp_eq (tgt := 17) dX12_readsClause_5 (by decide) (fun b5 => ?_) (fun b5 => ?_)
  · refine z_aload_n dX12_readsClause_17 rfl ?_
    refine z_aload_n dX12_readsClause_18 rfl ?_
    refine z_getR (j := 20) (r := 138) kX12 lf_X12_41 (by decide) rfl dX12_readsClause_19 k0_127 s0_127 r0_127_20 (by decide) ?_
    refine z_iV1 (c_isWord5 g l hl h4 hT hW hf) mw_X12_isWord lm_X12_111 mi_X12_isWord mv_X12_isWord kX12 (by decide) (Nat.le_of_ble_eq_true rfl) zle k0_127 s0_127 dX12_readsClause_22 (fun r22 M22 q22 => ?_)
    obtain ⟨qm22, qr22⟩ := q22
    obtain rfl := qm22.symm
    obtain ⟨c22, rfl⟩ | ⟨c22, rfl⟩ := qr22
    · refine z_if_eq (tgt := 35) dX12_readsClause_25 (by decide) (fun b25 => ?_) (fun b25 => ?_)
      · exact absurd b25 (by decide)
      · refine z_aload_n dX12_readsClause_28 rfl ?_
        refine z_iV0 (c_X12_readsRoad g l hl h4 hT hf h18 hI) mw_X12_readsRoad lm_X12_139 mi_X12_readsRoad mv_X12_readsRoad kX12 (by decide) (Nat.le_of_ble_eq_true rfl) zle k0_127 s0_127 dX12_readsClause_29 (fun r29 M29 q29 => ?_)
        refine z_goto (tgt := 76) dX12_readsClause_32 (by decide) ?_
        refine z_iret dX12_readsClause_76 (by first | rfl | (rw [q29.2]; exact nb01 _) | (rw [q47.2]; exact nb01 _)) zle ?_
        first
          | (rw [cl_road (tw_from b5 5 (by omega) c22 (fun z h1 h2 => absurd h1 (by omega)) (by omega))]; exact q29)
          | (rw [cl_inn hI (tw_from b5 6 (by omega) c40 (fun z h1 h2 => by rw [show z = 5 by omega]; exact c22) (by omega))]; exact q47)
          | (rw [cl_rider hI (tw_from b5 7 (by omega) c58 (fun z h1 h2 => by rcases (by omega : z = 5 ∨ z = 6) with e | e <;> rw [e] <;> assumption) (by omega))]; exact q66)
          | (have tw := tw_none b5 (fun z h1 h2 => by rcases (by omega : z = 5 ∨ z = 6 ∨ z = 7) with e | e | e <;> rw [e] <;> assumption)
             exact mPR.mk (if_pos tw) rfl rfl)
    · refine z_if_eq (tgt := 35) dX12_readsClause_25 (by decide) (fun b25 => ?_) (fun b25 => ?_)
      · refine z_aload_n dX12_readsClause_35 rfl ?_
        refine z_aload_n dX12_readsClause_36 rfl ?_
        refine z_getR (j := 21) (r := 139) kX12 lf_X12_44 (by decide) rfl dX12_readsClause_37 k0_127 s0_127 r0_127_21 (by decide) ?_
        refine z_iV1 (c_isWord6 g l hl h4 hT hW hf) mw_X12_isWord lm_X12_111 mi_X12_isWord mv_X12_isWord kX12 (by decide) (Nat.le_of_ble_eq_true rfl) zle k0_127 s0_127 dX12_readsClause_40 (fun r40 M40 q40 => ?_)
        obtain ⟨qm40, qr40⟩ := q40
        obtain rfl := qm40.symm
        obtain ⟨c40, rfl⟩ | ⟨c40, rfl⟩ := qr40
        · refine z_if_eq (tgt := 53) dX12_readsClause_43 (by decide) (fun b43 => ?_) (fun b43 => ?_)
          · exact absurd b43 (by decide)
          · refine z_aload_n dX12_readsClause_46 rfl ?_
            refine z_iV0 (c_X12_readsInn g l hl h4 hT hf h18 hI) mw_X12_readsInn lm_X12_143 mi_X12_readsInn mv_X12_readsInn kX12 (by decide) (Nat.le_of_ble_eq_true rfl) zle k0_127 s0_127 dX12_readsClause_47 (fun r47 M47 q47 => ?_)
            refine z_goto (tgt := 76) dX12_readsClause_50 (by decide) ?_
            refine z_iret dX12_readsClause_76 (by first | rfl | (rw [q29.2]; exact nb01 _) | (rw [q47.2]; exact nb01 _)) zle ?_
            first
              | (rw [cl_road (tw_from b5 5 (by omega) c22 (fun z h1 h2 => absurd h1 (by omega)) (by omega))]; exact q29)
              | (rw [cl_inn hI (tw_from b5 6 (by omega) c40 (fun z h1 h2 => by rw [show z = 5 by omega]; exact c22) (by omega))]; exact q47)
              | (rw [cl_rider hI (tw_from b5 7 (by omega) c58 (fun z h1 h2 => by rcases (by omega : z = 5 ∨ z = 6) with e | e <;> rw [e] <;> assumption) (by omega))]; exact q66)
              | (have tw := tw_none b5 (fun z h1 h2 => by rcases (by omega : z = 5 ∨ z = 6 ∨ z = 7) with e | e | e <;> rw [e] <;> assumption)
                 exact mPR.mk (if_pos tw) rfl rfl)
        · refine z_if_eq (tgt := 53) dX12_readsClause_43 (by decide) (fun b43 => ?_) (fun b43 => ?_)
          · refine z_aload_n dX12_readsClause_53 rfl ?_
            refine z_aload_n dX12_readsClause_54 rfl ?_
            refine z_getR (j := 27) (r := 145) kX12 lf_X12_62 (by decide) rfl dX12_readsClause_55 k0_127 s0_127 r0_127_27 (by decide) ?_
            refine z_iV1 (c_isWord7 g l hl h4 hT hW hf) mw_X12_isWord lm_X12_111 mi_X12_isWord mv_X12_isWord kX12 (by decide) (Nat.le_of_ble_eq_true rfl) zle k0_127 s0_127 dX12_readsClause_58 (fun r58 M58 q58 => ?_)
            obtain ⟨qm58, qr58⟩ := q58
            obtain rfl := qm58.symm
            obtain ⟨c58, rfl⟩ | ⟨c58, rfl⟩ := qr58
            · refine z_if_eq (tgt := 75) dX12_readsClause_61 (by decide) (fun b61 => ?_) (fun b61 => ?_)
              · exact absurd b61 (by decide)
              · refine z_aload_n dX12_readsClause_64 rfl ?_
                refine z_iV0 (c_X12_readsRider g l hl h4 hT hf h18 hI) mw_X12_readsRider lm_X12_146 mi_X12_readsRider mv_X12_readsRider kX12 (by decide) (Nat.le_of_ble_eq_true rfl) zle k0_127 s0_127 dX12_readsClause_65 (fun r65 M65 q65 => ?_)
                obtain ⟨q65a, q65b⟩ := q65
                rcases Bool.eq_false_or_eq_true (if r = 4 then ((false, (f, τ, n, r, i)) : Bool × pSt) else pRiderC T len (tNx T len f) τ n r i).1 with z65 | z65
                · have y65 : r65 = 1 := q65b.trans (if_pos z65)
                  rw [y65]
                  have q66 : mPR B T len c dv w0 (if r = 4 then (false, (f, τ, n, r, i)) else pRiderC T len (tNx T len f) τ n r i) 1 M65 := ⟨q65a, (if_pos z65).symm⟩
                  refine z_if_eq (tgt := 75) dX12_readsClause_68 (by decide) (fun b68 => ?_) (fun b68 => ?_)
                  · exact absurd b68 (by decide)
                  · refine z_iconst (v := 1) dX12_readsClause_71 (by decide) ?_
                    refine z_goto (tgt := 76) dX12_readsClause_72 (by decide) ?_
                    refine z_iret dX12_readsClause_76 (by first | rfl | (rw [q29.2]; exact nb01 _) | (rw [q47.2]; exact nb01 _)) zle ?_
                    first
                      | (rw [cl_road (tw_from b5 5 (by omega) c22 (fun z h1 h2 => absurd h1 (by omega)) (by omega))]; exact q29)
                      | (rw [cl_inn hI (tw_from b5 6 (by omega) c40 (fun z h1 h2 => by rw [show z = 5 by omega]; exact c22) (by omega))]; exact q47)
                      | (rw [cl_rider hI (tw_from b5 7 (by omega) c58 (fun z h1 h2 => by rcases (by omega : z = 5 ∨ z = 6) with e | e <;> rw [e] <;> assumption) (by omega))]; exact q66)
                      | (have tw := tw_none b5 (fun z h1 h2 => by rcases (by omega : z = 5 ∨ z = 6 ∨ z = 7) with e | e | e <;> rw [e] <;> assumption)
                         exact mPR.mk (if_pos tw) rfl rfl)
                · have y65 : r65 = 0 := q65b.trans (if_neg (by rw [z65]; decide))
                  rw [y65]
                  have q66 : mPR B T len c dv w0 (if r = 4 then (false, (f, τ, n, r, i)) else pRiderC T len (tNx T len f) τ n r i) 0 M65 := ⟨q65a, (if_neg (by rw [z65]; decide)).symm⟩
                  refine z_if_eq (tgt := 75) dX12_readsClause_68 (by decide) (fun b68 => ?_) (fun b68 => ?_)
                  · refine z_iconst (v := 0) dX12_readsClause_75 (by decide) ?_
                    refine z_iret dX12_readsClause_76 (by first | rfl | (rw [q29.2]; exact nb01 _) | (rw [q47.2]; exact nb01 _)) zle ?_
                    first
                      | (rw [cl_road (tw_from b5 5 (by omega) c22 (fun z h1 h2 => absurd h1 (by omega)) (by omega))]; exact q29)
                      | (rw [cl_inn hI (tw_from b5 6 (by omega) c40 (fun z h1 h2 => by rw [show z = 5 by omega]; exact c22) (by omega))]; exact q47)
                      | (rw [cl_rider hI (tw_from b5 7 (by omega) c58 (fun z h1 h2 => by rcases (by omega : z = 5 ∨ z = 6) with e | e <;> rw [e] <;> assumption) (by omega))]; exact q66)
                      | (have tw := tw_none b5 (fun z h1 h2 => by rcases (by omega : z = 5 ∨ z = 6 ∨ z = 7) with e | e | e <;> rw [e] <;> assumption)
                         exact mPR.mk (if_pos tw) rfl rfl)
                  · exact absurd b68 (by decide)
            · refine z_if_eq (tgt := 75) dX12_readsClause_61 (by decide) (fun b61 => ?_) (fun b61 => ?_)
              · refine z_iconst (v := 0) dX12_readsClause_75 (by decide) ?_
                refine z_iret dX12_readsClause_76 (by first | rfl | (rw [q29.2]; exact nb01 _) | (rw [q47.2]; exact nb01 _)) zle ?_
                first
                  | (rw [cl_road (tw_from b5 5 (by omega) c22 (fun z h1 h2 => absurd h1 (by omega)) (by omega))]; exact q29)
                  | (rw [cl_inn hI (tw_from b5 6 (by omega) c40 (fun z h1 h2 => by rw [show z = 5 by omega]; exact c22) (by omega))]; exact q47)
                  | (rw [cl_rider hI (tw_from b5 7 (by omega) c58 (fun z h1 h2 => by rcases (by omega : z = 5 ∨ z = 6) with e | e <;> rw [e] <;> assumption) (by omega))]; exact q66)
                  | (have tw := tw_none b5 (fun z h1 h2 => by rcases (by omega : z = 5 ∨ z = 6 ∨ z = 7) with e | e | e <;> rw [e] <;> assumption)
                     exact mPR.mk (if_pos tw) rfl rfl)
              · exact absurd b61 (by decide)
          · exact absurd b43 (by decide)
      · exact absurd b25 (by decide)
  · obtain ⟨kk, hkk, ek⟩ : zIn (frst (fun j => decide (tIs T len f j)) 0 5) 5 := by
      rcases frst_ran (fun j => decide (tIs T len f j)) 5 0 with e | ⟨j, -, hj, e, -⟩
      · exact absurd e b5
      · exact ⟨j, by omega, e⟩
    have tw : tWord T len f = frst (fun j => decide (tIs T len f j)) 0 5 := frst_ext b5
    refine z_aload_n dX12_readsClause_8 rfl ?_
    refine z_aload_n dX12_readsClause_9 rfl ?_
    refine z_iV0 (c_X12_kindHere g l hl h4 hT hW hf) mw_X12_kindHere lm_X12_132 mi_X12_kindHere mv_X12_kindHere kX12 (by decide) (Nat.le_of_ble_eq_true rfl) zle k0_127 s0_127 dX12_readsClause_10 (fun r10 M10 q10 => ?_)
    obtain ⟨qr10, qm10⟩ := q10
    obtain rfl := qr10.symm
    obtain rfl := qm10.symm
    refine z_iV1 (c_X12_readsHour g l hl h4 hT hf h18 hI ⟨kk, hkk, ek⟩) mw_X12_readsHour lm_X12_136 mi_X12_readsHour mv_X12_readsHour kX12 (by decide) (Nat.le_of_ble_eq_true rfl) zle k0_127 s0_127 dX12_readsClause_13 (fun r13 M13 q13 => ?_)
    refine z_iret dX12_readsClause_16 (by rw [q13.2]; exact nb01 _) zle ?_
    rw [cl_hour hI tw ⟨kk, hkk, ek⟩]
    exact q13

