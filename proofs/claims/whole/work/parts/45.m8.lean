/-! ===== the reference's own methods: match ===== -/
set_option maxRecDepth 100000 in
set_option maxHeartbeats 4000000 in
theorem lp_taken (g : zG) (l : Launch) {M : zM} {A : aSt} (ok : aOK A) (C : RelM M A) {e : Nat → Nat} (hl : ∀ j, j < 4 → M 146 j = nI (e j)) (he : ∀ j, j < A.r → e j ≤ A.n) : ∀ (k h : Nat), h ≤ A.r → A.r - h < k → zA g l yX12_takenByLine cX12_takenByLine 7 (some .int) 1 0 0 (zQi (fun r' M' => r' = nI (byL A.s A.n A.r e) ∧ M' = M)) 9 0 0 S0 M [.ref 127, .int (nI (tk A.s A.n e h).2.2), .int (tk A.s A.n e h).2.1, .int (if (tk A.s A.n e h).1 = true then 1 else 0), .int (nI h), .null, .null] [] := by
  have n8 : A.n ≤ 8 := ok.s.1.1
  have r4 : A.r ≤ 4 := ok.s.1.2.1
  have i6 : A.i ≤ 6 := ok.s.1.2.2.1
  have u8 : A.u ≤ 8 := ok.u
  intro k
  induction k with
  | zero => intro h hh hk; exact absurd hk (Nat.not_lt_zero _)
  | succ k ih =>
    intro h hh hk 
    refine z_iload dX12_takenByLine_9 rfl ?_
    refine z_aload_n dX12_takenByLine_11 rfl ?_
    refine z_getR (j := 0) (r := 128) kX12 lf_X12_7 (by decide) rfl dX12_takenByLine_12 k0_127 s0_127 r0_127_0 (by decide) ?_
    refine z_iconst (v := 1) dX12_takenByLine_15 (by decide) ?_
    refine z_ialdV (j := 1) rfl (by decide) ((C.s 1 (by omega)).trans ok.s.1.2.2.2.2.1) dX12_takenByLine_16 k0_128 s0_128 ?_
    refine z_icmp_ge (tgt := 190) dX12_takenByLine_17 (by decide) (fun b17 => ?_) (fun b17 => ?_)
    · have e : A.r ≤ h := (nI_leI (by omega) (by omega)).mp b17
      have e2 : h = A.r := by omega
      subst e2
      refine z_iload_n dX12_takenByLine_190 rfl ?_
      refine z_if_eq (tgt := 198) dX12_takenByLine_191 (by decide) (fun b191 => ?_) (fun b191 => ?_)
      · refine z_ldc lc_X12_184 dX12_takenByLine_198 ?_
        refine z_iret dX12_takenByLine_200 rfl zle ?_
        first
          | exact ⟨by unfold byL; rw [if_pos (Classical.byContradiction (fun z => b191 (if_neg z)))], rfl⟩
          | exact ⟨by unfold byL; rw [if_neg (fun z => by rw [if_pos z] at b191; exact absurd b191 (by decide))]; rfl, rfl⟩
      · refine z_iload_n dX12_takenByLine_194 rfl ?_
        refine z_goto (tgt := 200) dX12_takenByLine_195 (by decide) ?_
        refine z_iret dX12_takenByLine_200 rfl zle ?_
        first
          | exact ⟨by unfold byL; rw [if_pos (Classical.byContradiction (fun z => b191 (if_neg z)))], rfl⟩
          | exact ⟨by unfold byL; rw [if_neg (fun z => by rw [if_pos z] at b191; exact absurd b191 (by decide))]; rfl, rfl⟩
    · have hn : h < A.r := by
        rcases Nat.lt_or_ge h A.r with z | z
        · exact z
        · exact absurd (nI_le z (by omega)) b17
      
      refine z_aload_n dX12_takenByLine_20 rfl ?_
      refine z_getR (j := 30) (r := 146) kX12 lf_X12_65 (by decide) rfl dX12_takenByLine_21 k0_127 s0_127 r0_127_30 (by decide) ?_
      refine z_iload dX12_takenByLine_24 rfl ?_
      refine z_ialdV (j := h) rfl (by omega) (hl h (by omega)) dX12_takenByLine_26 k0_146 s0_146 ?_
      refine z_istore dX12_takenByLine_27 (by decide) rfl rfl ?_
      have hen := he h hn
      have e9 : tk A.s A.n e (h + 1) = ((tk A.s A.n e h).1 && decide (tkOK A.s A.n (tk A.s A.n e h).2.1 h (e h)), (if e h < A.n then (tk A.s A.n e h).2.1 ||| (1 <<< (nI (e h) &&& 31)) else (tk A.s A.n e h).2.1), if e h < A.n then (tk A.s A.n e h).2.2 + tkT A.s h (e h) else (tk A.s A.n e h).2.2) := rfl
      refine z_iload dX12_takenByLine_29 rfl ?_
      refine z_aload_n dX12_takenByLine_31 rfl ?_
      refine z_getR (j := 0) (r := 128) kX12 lf_X12_7 (by decide) rfl dX12_takenByLine_32 k0_127 s0_127 r0_127_0 (by decide) ?_
      refine z_iconst (v := 0) dX12_takenByLine_35 (by decide) ?_
      refine z_ialdV (j := 0) rfl (by decide) ((C.s 0 (by omega)).trans ok.s.1.2.2.2.1) dX12_takenByLine_36 k0_128 s0_128 ?_
      refine z_icmp_ge (tgt := 44) dX12_takenByLine_37 (by decide) (fun b37 => ?_) (fun b37 => ?_)
      · have hd : ¬ e h < A.n := Nat.not_lt_of_le ((nI_leI (by omega) (by omega)).mp b37)
        refine z_iconst (v := 0) dX12_takenByLine_44 (by decide) ?_
        refine z_istore dX12_takenByLine_45 (by decide) rfl rfl ?_
        refine z_iload_n dX12_takenByLine_47 rfl ?_
        refine z_if_eq (tgt := 117) dX12_takenByLine_48 (by decide) (fun b48 => ?_) (fun b48 => ?_)
        · have h1 : (tk A.s A.n e h).1 = false := Bool.eq_false_iff.mpr (fun z => by rw [if_pos z] at b48; exact absurd b48 (by decide))
          have hx : (tk A.s A.n e (h + 1)).1 = false := by
            rw [e9]
            show ((tk A.s A.n e h).1 && decide _) = false
            rw [h1]; rfl
          refine z_iconst (v := 0) dX12_takenByLine_117 (by decide) ?_
          refine z_istore_n dX12_takenByLine_118 (by decide) rfl rfl ?_
          refine z_iload_n dX12_takenByLine_119 rfl ?_
          refine z_iload dX12_takenByLine_120 rfl ?_
          refine z_if_eq (tgt := 132) dX12_takenByLine_122 (by decide) (fun b122 => ?_) (fun b122 => ?_)
          · refine z_iconst (v := 0) dX12_takenByLine_132 (by decide) ?_
            refine z_ior dX12_takenByLine_133 ?_
            refine z_istore_n dX12_takenByLine_134 (by decide) rfl rfl ?_
            refine z_iload_n dX12_takenByLine_135 rfl ?_
            refine z_iload dX12_takenByLine_136 rfl ?_
            refine z_if_eq (tgt := 181) dX12_takenByLine_138 (by decide) (fun b138 => ?_) (fun b138 => ?_)
            · refine z_iconst (v := 0) dX12_takenByLine_181 (by decide) ?_
              refine z_iadd dX12_takenByLine_182 ?_
              refine z_istore_n dX12_takenByLine_183 (by decide) rfl rfl ?_
              refine z_iincN (k := h) dX12_takenByLine_184 rfl rfl (by decide) rfl rfl ?_
              refine z_goto (tgt := 9) dX12_takenByLine_187 (by decide) ?_
              first
                | exact zA.sub (ih (h + 1) (by omega) (by omega)) rfl ⟨Or.inr rfl, Or.inr (congrArg (fun z => some (Value.int z)) (by rw [e9]; show _ = nI (if e h < A.n then (tk A.s A.n e h).2.2 + tkT A.s h (e h) else (tk A.s A.n e h).2.2); rw [if_pos hd, (tkT_in ok.s hn hd).2]; exact nI_adds _ _)), Or.inr (congrArg (fun z => some (Value.int z)) (by rw [e9]; exact ((if_pos hd).symm))), Or.inr (congrArg (fun z => some (Value.int z)) ((if_pos hx).symm)), Or.inr rfl, Or.inl rfl, Or.inl rfl, trivial⟩
                | exact zA.sub (ih (h + 1) (by omega) (by omega)) rfl ⟨Or.inr rfl, Or.inr (congrArg (fun z => some (Value.int z)) (by rw [e9]; show _ = nI (if e h < A.n then (tk A.s A.n e h).2.2 + tkT A.s h (e h) else (tk A.s A.n e h).2.2); rw [if_pos hd, (tkT_in ok.s hn hd).2]; exact nI_adds _ _)), Or.inr (congrArg (fun z => some (Value.int z)) (by rw [e9]; exact ((if_pos hd).symm))), Or.inr (congrArg (fun z => some (Value.int z)) ((if_neg (by rw [hx]; decide)).symm)), Or.inr rfl, Or.inl rfl, Or.inl rfl, trivial⟩
                | exact zA.sub (ih (h + 1) (by omega) (by omega)) rfl ⟨Or.inr rfl, Or.inr (congrArg (fun z => some (Value.int z)) (by rw [e9]; show _ = nI (if e h < A.n then (tk A.s A.n e h).2.2 + tkT A.s h (e h) else (tk A.s A.n e h).2.2); rw [if_neg hd]; exact Int32.add_zero _)), Or.inr (congrArg (fun z => some (Value.int z)) (by rw [e9]; exact (((Int32.or_zero).trans (if_neg hd).symm)))), Or.inr (congrArg (fun z => some (Value.int z)) ((if_pos hx).symm)), Or.inr rfl, Or.inl rfl, Or.inl rfl, trivial⟩
                | exact zA.sub (ih (h + 1) (by omega) (by omega)) rfl ⟨Or.inr rfl, Or.inr (congrArg (fun z => some (Value.int z)) (by rw [e9]; show _ = nI (if e h < A.n then (tk A.s A.n e h).2.2 + tkT A.s h (e h) else (tk A.s A.n e h).2.2); rw [if_neg hd]; exact Int32.add_zero _)), Or.inr (congrArg (fun z => some (Value.int z)) (by rw [e9]; exact (((Int32.or_zero).trans (if_neg hd).symm)))), Or.inr (congrArg (fun z => some (Value.int z)) ((if_neg (by rw [hx]; decide)).symm)), Or.inr rfl, Or.inl rfl, Or.inl rfl, trivial⟩
            · exact absurd b138 (by decide)
          · exact absurd b122 (by decide)
        · refine z_iload dX12_takenByLine_51 rfl ?_
          refine z_aload_n dX12_takenByLine_53 rfl ?_
          refine z_iload dX12_takenByLine_54 rfl ?_
          refine z_iV1 (c_X12_isRiding g l ok C hn) mw_X12_isRiding lm_X12_237 mi_X12_isRiding mv_X12_isRiding kX12 (by decide) (Nat.le_of_ble_eq_true rfl) zle k0_127 s0_127 dX12_takenByLine_56 (fun r56 M56 q56 => ?_)
          obtain ⟨qm56, qr56⟩ := q56
          obtain rfl := qm56.symm
          obtain ⟨c56, rfl⟩ | ⟨c56, rfl⟩ := qr56
          · 
            refine z_icmp_ne (tgt := 117) dX12_takenByLine_59 (by decide) (fun b59 => ?_) (fun b59 => ?_)
            · have h1 : (tk A.s A.n e h).1 = true := Classical.byContradiction (fun z => b48 (if_neg z))
              have hx : (tk A.s A.n e (h + 1)).1 = false := by
                rw [e9]
                show ((tk A.s A.n e h).1 && decide _) = false
                rw [decide_eq_false (show ¬ tkOK A.s A.n (tk A.s A.n e h).2.1 h (e h) from fun z => by first | exact c56 (fun w => absurd (z.1.mp hd) (fun w2 => w2 w)) | exact hd (z.1.mpr c56) | exact c56 (z.1.mp hd)), Bool.and_false]
              refine z_iconst (v := 0) dX12_takenByLine_117 (by decide) ?_
              refine z_istore_n dX12_takenByLine_118 (by decide) rfl rfl ?_
              refine z_iload_n dX12_takenByLine_119 rfl ?_
              refine z_iload dX12_takenByLine_120 rfl ?_
              refine z_if_eq (tgt := 132) dX12_takenByLine_122 (by decide) (fun b122 => ?_) (fun b122 => ?_)
              · refine z_iconst (v := 0) dX12_takenByLine_132 (by decide) ?_
                refine z_ior dX12_takenByLine_133 ?_
                refine z_istore_n dX12_takenByLine_134 (by decide) rfl rfl ?_
                refine z_iload_n dX12_takenByLine_135 rfl ?_
                refine z_iload dX12_takenByLine_136 rfl ?_
                refine z_if_eq (tgt := 181) dX12_takenByLine_138 (by decide) (fun b138 => ?_) (fun b138 => ?_)
                · refine z_iconst (v := 0) dX12_takenByLine_181 (by decide) ?_
                  refine z_iadd dX12_takenByLine_182 ?_
                  refine z_istore_n dX12_takenByLine_183 (by decide) rfl rfl ?_
                  refine z_iincN (k := h) dX12_takenByLine_184 rfl rfl (by decide) rfl rfl ?_
                  refine z_goto (tgt := 9) dX12_takenByLine_187 (by decide) ?_
                  first
                    | exact zA.sub (ih (h + 1) (by omega) (by omega)) rfl ⟨Or.inr rfl, Or.inr (congrArg (fun z => some (Value.int z)) (by rw [e9]; show _ = nI (if e h < A.n then (tk A.s A.n e h).2.2 + tkT A.s h (e h) else (tk A.s A.n e h).2.2); rw [if_pos hd, (tkT_in ok.s hn hd).2]; exact nI_adds _ _)), Or.inr (congrArg (fun z => some (Value.int z)) (by rw [e9]; exact ((if_pos hd).symm))), Or.inr (congrArg (fun z => some (Value.int z)) ((if_pos hx).symm)), Or.inr rfl, Or.inl rfl, Or.inl rfl, trivial⟩
                    | exact zA.sub (ih (h + 1) (by omega) (by omega)) rfl ⟨Or.inr rfl, Or.inr (congrArg (fun z => some (Value.int z)) (by rw [e9]; show _ = nI (if e h < A.n then (tk A.s A.n e h).2.2 + tkT A.s h (e h) else (tk A.s A.n e h).2.2); rw [if_pos hd, (tkT_in ok.s hn hd).2]; exact nI_adds _ _)), Or.inr (congrArg (fun z => some (Value.int z)) (by rw [e9]; exact ((if_pos hd).symm))), Or.inr (congrArg (fun z => some (Value.int z)) ((if_neg (by rw [hx]; decide)).symm)), Or.inr rfl, Or.inl rfl, Or.inl rfl, trivial⟩
                    | exact zA.sub (ih (h + 1) (by omega) (by omega)) rfl ⟨Or.inr rfl, Or.inr (congrArg (fun z => some (Value.int z)) (by rw [e9]; show _ = nI (if e h < A.n then (tk A.s A.n e h).2.2 + tkT A.s h (e h) else (tk A.s A.n e h).2.2); rw [if_neg hd]; exact Int32.add_zero _)), Or.inr (congrArg (fun z => some (Value.int z)) (by rw [e9]; exact (((Int32.or_zero).trans (if_neg hd).symm)))), Or.inr (congrArg (fun z => some (Value.int z)) ((if_pos hx).symm)), Or.inr rfl, Or.inl rfl, Or.inl rfl, trivial⟩
                    | exact zA.sub (ih (h + 1) (by omega) (by omega)) rfl ⟨Or.inr rfl, Or.inr (congrArg (fun z => some (Value.int z)) (by rw [e9]; show _ = nI (if e h < A.n then (tk A.s A.n e h).2.2 + tkT A.s h (e h) else (tk A.s A.n e h).2.2); rw [if_neg hd]; exact Int32.add_zero _)), Or.inr (congrArg (fun z => some (Value.int z)) (by rw [e9]; exact (((Int32.or_zero).trans (if_neg hd).symm)))), Or.inr (congrArg (fun z => some (Value.int z)) ((if_neg (by rw [hx]; decide)).symm)), Or.inr rfl, Or.inl rfl, Or.inl rfl, trivial⟩
                · exact absurd b138 (by decide)
              · exact absurd b122 (by decide)
            · exact absurd b59 (by decide)
          · 
            refine z_icmp_ne (tgt := 117) dX12_takenByLine_59 (by decide) (fun b59 => ?_) (fun b59 => ?_)
            · exact absurd b59 (by decide)
            · refine z_iload dX12_takenByLine_62 rfl ?_
              refine z_if_eq (tgt := 113) dX12_takenByLine_64 (by decide) (fun b64 => ?_) (fun b64 => ?_)
              · have h1 : (tk A.s A.n e h).1 = true := Classical.byContradiction (fun z => b48 (if_neg z))
                have hx : (tk A.s A.n e (h + 1)).1 = true := by
                  rw [e9]
                  show ((tk A.s A.n e h).1 && decide _) = true
                  rw [h1, decide_eq_true (show tkOK A.s A.n (tk A.s A.n e h).2.1 h (e h) from ⟨⟨fun w => absurd w hd, fun w => absurd w c56⟩, fun w => absurd w hd⟩)]
                  rfl
                refine z_iconst (v := 1) dX12_takenByLine_113 (by decide) ?_
                refine z_goto (tgt := 118) dX12_takenByLine_114 (by decide) ?_
                refine z_istore_n dX12_takenByLine_118 (by decide) rfl rfl ?_
                refine z_iload_n dX12_takenByLine_119 rfl ?_
                refine z_iload dX12_takenByLine_120 rfl ?_
                refine z_if_eq (tgt := 132) dX12_takenByLine_122 (by decide) (fun b122 => ?_) (fun b122 => ?_)
                · refine z_iconst (v := 0) dX12_takenByLine_132 (by decide) ?_
                  refine z_ior dX12_takenByLine_133 ?_
                  refine z_istore_n dX12_takenByLine_134 (by decide) rfl rfl ?_
                  refine z_iload_n dX12_takenByLine_135 rfl ?_
                  refine z_iload dX12_takenByLine_136 rfl ?_
                  refine z_if_eq (tgt := 181) dX12_takenByLine_138 (by decide) (fun b138 => ?_) (fun b138 => ?_)
                  · refine z_iconst (v := 0) dX12_takenByLine_181 (by decide) ?_
                    refine z_iadd dX12_takenByLine_182 ?_
                    refine z_istore_n dX12_takenByLine_183 (by decide) rfl rfl ?_
                    refine z_iincN (k := h) dX12_takenByLine_184 rfl rfl (by decide) rfl rfl ?_
                    refine z_goto (tgt := 9) dX12_takenByLine_187 (by decide) ?_
                    first
                      | exact zA.sub (ih (h + 1) (by omega) (by omega)) rfl ⟨Or.inr rfl, Or.inr (congrArg (fun z => some (Value.int z)) (by rw [e9]; show _ = nI (if e h < A.n then (tk A.s A.n e h).2.2 + tkT A.s h (e h) else (tk A.s A.n e h).2.2); rw [if_pos hd, (tkT_in ok.s hn hd).2]; exact nI_adds _ _)), Or.inr (congrArg (fun z => some (Value.int z)) (by rw [e9]; exact ((if_pos hd).symm))), Or.inr (congrArg (fun z => some (Value.int z)) ((if_pos hx).symm)), Or.inr rfl, Or.inl rfl, Or.inl rfl, trivial⟩
                      | exact zA.sub (ih (h + 1) (by omega) (by omega)) rfl ⟨Or.inr rfl, Or.inr (congrArg (fun z => some (Value.int z)) (by rw [e9]; show _ = nI (if e h < A.n then (tk A.s A.n e h).2.2 + tkT A.s h (e h) else (tk A.s A.n e h).2.2); rw [if_pos hd, (tkT_in ok.s hn hd).2]; exact nI_adds _ _)), Or.inr (congrArg (fun z => some (Value.int z)) (by rw [e9]; exact ((if_pos hd).symm))), Or.inr (congrArg (fun z => some (Value.int z)) ((if_neg (by rw [hx]; decide)).symm)), Or.inr rfl, Or.inl rfl, Or.inl rfl, trivial⟩
                      | exact zA.sub (ih (h + 1) (by omega) (by omega)) rfl ⟨Or.inr rfl, Or.inr (congrArg (fun z => some (Value.int z)) (by rw [e9]; show _ = nI (if e h < A.n then (tk A.s A.n e h).2.2 + tkT A.s h (e h) else (tk A.s A.n e h).2.2); rw [if_neg hd]; exact Int32.add_zero _)), Or.inr (congrArg (fun z => some (Value.int z)) (by rw [e9]; exact (((Int32.or_zero).trans (if_neg hd).symm)))), Or.inr (congrArg (fun z => some (Value.int z)) ((if_pos hx).symm)), Or.inr rfl, Or.inl rfl, Or.inl rfl, trivial⟩
                      | exact zA.sub (ih (h + 1) (by omega) (by omega)) rfl ⟨Or.inr rfl, Or.inr (congrArg (fun z => some (Value.int z)) (by rw [e9]; show _ = nI (if e h < A.n then (tk A.s A.n e h).2.2 + tkT A.s h (e h) else (tk A.s A.n e h).2.2); rw [if_neg hd]; exact Int32.add_zero _)), Or.inr (congrArg (fun z => some (Value.int z)) (by rw [e9]; exact (((Int32.or_zero).trans (if_neg hd).symm)))), Or.inr (congrArg (fun z => some (Value.int z)) ((if_neg (by rw [hx]; decide)).symm)), Or.inr rfl, Or.inl rfl, Or.inl rfl, trivial⟩
                  · exact absurd b138 (by decide)
                · exact absurd b122 (by decide)
              · exact absurd b64 (by decide)
      · have hd : e h < A.n := Nat.lt_of_not_le (fun z => b37 ((nI_leI (by omega) (by omega)).mpr z))
        refine z_iconst (v := 1) dX12_takenByLine_40 (by decide) ?_
        refine z_goto (tgt := 45) dX12_takenByLine_41 (by decide) ?_
        refine z_istore dX12_takenByLine_45 (by decide) rfl rfl ?_
        refine z_iload_n dX12_takenByLine_47 rfl ?_
        refine z_if_eq (tgt := 117) dX12_takenByLine_48 (by decide) (fun b48 => ?_) (fun b48 => ?_)
        · have h1 : (tk A.s A.n e h).1 = false := Bool.eq_false_iff.mpr (fun z => by rw [if_pos z] at b48; exact absurd b48 (by decide))
          have hx : (tk A.s A.n e (h + 1)).1 = false := by
            rw [e9]
            show ((tk A.s A.n e h).1 && decide _) = false
            rw [h1]; rfl
          refine z_iconst (v := 0) dX12_takenByLine_117 (by decide) ?_
          refine z_istore_n dX12_takenByLine_118 (by decide) rfl rfl ?_
          refine z_iload_n dX12_takenByLine_119 rfl ?_
          refine z_iload dX12_takenByLine_120 rfl ?_
          refine z_if_eq (tgt := 132) dX12_takenByLine_122 (by decide) (fun b122 => ?_) (fun b122 => ?_)
          · exact absurd b122 (by decide)
          · refine z_iconst (v := 1) dX12_takenByLine_125 (by decide) ?_
            refine z_iload dX12_takenByLine_126 rfl ?_
            refine z_ishl dX12_takenByLine_128 ?_
            refine z_goto (tgt := 133) dX12_takenByLine_129 (by decide) ?_
            refine z_ior dX12_takenByLine_133 ?_
            refine z_istore_n dX12_takenByLine_134 (by decide) rfl rfl ?_
            refine z_iload_n dX12_takenByLine_135 rfl ?_
            refine z_iload dX12_takenByLine_136 rfl ?_
            refine z_if_eq (tgt := 181) dX12_takenByLine_138 (by decide) (fun b138 => ?_) (fun b138 => ?_)
            · exact absurd b138 (by decide)
            · refine z_aload_n dX12_takenByLine_141 rfl ?_
              refine z_getR (j := 0) (r := 128) kX12 lf_X12_7 (by decide) rfl dX12_takenByLine_142 k0_127 s0_127 r0_127_0 (by decide) ?_
              refine z_iconst (v := 3) dX12_takenByLine_145 (by decide) ?_
              refine z_iload dX12_takenByLine_146 rfl ?_
              refine z_iaddN (a := 3) (b := (e h)) rfl rfl dX12_takenByLine_148 ?_
              refine z_ialdV (j := (3 + (e h))) rfl (by omega) (C.s (3 + (e h)) (by omega)) dX12_takenByLine_149 k0_128 s0_128 ?_
              refine z_aload_n dX12_takenByLine_150 rfl ?_
              refine z_iconst (v := 0) dX12_takenByLine_151 (by decide) ?_
              refine z_aload_n dX12_takenByLine_152 rfl ?_
              refine z_getR (j := 0) (r := 128) kX12 lf_X12_7 (by decide) rfl dX12_takenByLine_153 k0_127 s0_127 r0_127_0 (by decide) ?_
              refine z_bipush (v := 51) dX12_takenByLine_156 (by decide) ?_
              refine z_iload dX12_takenByLine_158 rfl ?_
              refine z_iaddN (a := 51) (b := h) rfl rfl dX12_takenByLine_160 ?_
              refine z_ialdV (j := (51 + h)) rfl (by omega) (C.s (51 + h) (by omega)) dX12_takenByLine_161 k0_128 s0_128 ?_
              refine z_aload_n dX12_takenByLine_162 rfl ?_
              refine z_getR (j := 0) (r := 128) kX12 lf_X12_7 (by decide) rfl dX12_takenByLine_163 k0_127 s0_127 r0_127_0 (by decide) ?_
              refine z_bipush (v := 55) dX12_takenByLine_166 (by decide) ?_
              refine z_iload dX12_takenByLine_168 rfl ?_
              refine z_iaddN (a := 55) (b := h) rfl rfl dX12_takenByLine_170 ?_
              refine z_ialdV (j := (55 + h)) rfl (by omega) (C.s (55 + h) (by omega)) dX12_takenByLine_171 k0_128 s0_128 ?_
              obtain ⟨⟨a, ha, ea⟩, ⟨t, ht, et⟩⟩ := ok.s.2.2.1 h hn
              rw [ea, et]
              refine z_iV3 (c_miles0 g l ok C ha ht) mw_X12_milesOn lm_X12_199 mi_X12_milesOn mv_X12_milesOn kX12 (by decide) (Nat.le_of_ble_eq_true rfl) zle k0_127 s0_127 dX12_takenByLine_172 (fun r172 M172 q172 => ?_)
              obtain ⟨qr172, qm172⟩ := q172
              obtain rfl := qr172.symm
              obtain rfl := qm172.symm
              rw [← ea, ← et]
              refine z_iS2 (c_X12_takes g l) mw_X12_takes lm_X12_180 ms_X12_takes (by decide) (Nat.le_of_ble_eq_true rfl) zle dX12_takenByLine_175 (fun r175 M175 q175 => ?_)
              obtain ⟨qr175, qm175⟩ := q175
              obtain rfl := qr175.symm
              obtain rfl := qm175.symm
              refine z_goto (tgt := 182) dX12_takenByLine_178 (by decide) ?_
              refine z_iadd dX12_takenByLine_182 ?_
              refine z_istore_n dX12_takenByLine_183 (by decide) rfl rfl ?_
              refine z_iincN (k := h) dX12_takenByLine_184 rfl rfl (by decide) rfl rfl ?_
              refine z_goto (tgt := 9) dX12_takenByLine_187 (by decide) ?_
              first
                | exact zA.sub (ih (h + 1) (by omega) (by omega)) rfl ⟨Or.inr rfl, Or.inr (congrArg (fun z => some (Value.int z)) (by rw [e9]; show _ = nI (if e h < A.n then (tk A.s A.n e h).2.2 + tkT A.s h (e h) else (tk A.s A.n e h).2.2); rw [if_pos hd, (tkT_in ok.s hn hd).2]; exact nI_adds _ _)), Or.inr (congrArg (fun z => some (Value.int z)) (by rw [e9]; exact ((if_pos hd).symm))), Or.inr (congrArg (fun z => some (Value.int z)) ((if_pos hx).symm)), Or.inr rfl, Or.inl rfl, Or.inl rfl, trivial⟩
                | exact zA.sub (ih (h + 1) (by omega) (by omega)) rfl ⟨Or.inr rfl, Or.inr (congrArg (fun z => some (Value.int z)) (by rw [e9]; show _ = nI (if e h < A.n then (tk A.s A.n e h).2.2 + tkT A.s h (e h) else (tk A.s A.n e h).2.2); rw [if_pos hd, (tkT_in ok.s hn hd).2]; exact nI_adds _ _)), Or.inr (congrArg (fun z => some (Value.int z)) (by rw [e9]; exact ((if_pos hd).symm))), Or.inr (congrArg (fun z => some (Value.int z)) ((if_neg (by rw [hx]; decide)).symm)), Or.inr rfl, Or.inl rfl, Or.inl rfl, trivial⟩
                | exact zA.sub (ih (h + 1) (by omega) (by omega)) rfl ⟨Or.inr rfl, Or.inr (congrArg (fun z => some (Value.int z)) (by rw [e9]; show _ = nI (if e h < A.n then (tk A.s A.n e h).2.2 + tkT A.s h (e h) else (tk A.s A.n e h).2.2); rw [if_neg hd]; exact Int32.add_zero _)), Or.inr (congrArg (fun z => some (Value.int z)) (by rw [e9]; exact (((Int32.or_zero).trans (if_neg hd).symm)))), Or.inr (congrArg (fun z => some (Value.int z)) ((if_pos hx).symm)), Or.inr rfl, Or.inl rfl, Or.inl rfl, trivial⟩
                | exact zA.sub (ih (h + 1) (by omega) (by omega)) rfl ⟨Or.inr rfl, Or.inr (congrArg (fun z => some (Value.int z)) (by rw [e9]; show _ = nI (if e h < A.n then (tk A.s A.n e h).2.2 + tkT A.s h (e h) else (tk A.s A.n e h).2.2); rw [if_neg hd]; exact Int32.add_zero _)), Or.inr (congrArg (fun z => some (Value.int z)) (by rw [e9]; exact (((Int32.or_zero).trans (if_neg hd).symm)))), Or.inr (congrArg (fun z => some (Value.int z)) ((if_neg (by rw [hx]; decide)).symm)), Or.inr rfl, Or.inl rfl, Or.inl rfl, trivial⟩
        · refine z_iload dX12_takenByLine_51 rfl ?_
          refine z_aload_n dX12_takenByLine_53 rfl ?_
          refine z_iload dX12_takenByLine_54 rfl ?_
          refine z_iV1 (c_X12_isRiding g l ok C hn) mw_X12_isRiding lm_X12_237 mi_X12_isRiding mv_X12_isRiding kX12 (by decide) (Nat.le_of_ble_eq_true rfl) zle k0_127 s0_127 dX12_takenByLine_56 (fun r56 M56 q56 => ?_)
          obtain ⟨qm56, qr56⟩ := q56
          obtain rfl := qm56.symm
          obtain ⟨c56, rfl⟩ | ⟨c56, rfl⟩ := qr56
          · 
            refine z_icmp_ne (tgt := 117) dX12_takenByLine_59 (by decide) (fun b59 => ?_) (fun b59 => ?_)
            · exact absurd b59 (by decide)
            · refine z_iload dX12_takenByLine_62 rfl ?_
              refine z_if_eq (tgt := 113) dX12_takenByLine_64 (by decide) (fun b64 => ?_) (fun b64 => ?_)
              · exact absurd b64 (by decide)
              · refine z_iload_n dX12_takenByLine_67 rfl ?_
                refine z_iload dX12_takenByLine_68 rfl ?_
                refine z_iS2 (c_X12_has g l) mw_X12_has lm_X12_188 ms_X12_has (by decide) (Nat.le_of_ble_eq_true rfl) zle dX12_takenByLine_70 (fun r70 M70 q70 => ?_)
                obtain ⟨qm70, qr70⟩ := q70
                obtain rfl := qm70.symm
                obtain ⟨c70, rfl⟩ | ⟨c70, rfl⟩ := qr70
                · have h1 : (tk A.s A.n e h).1 = true := Classical.byContradiction (fun z => b48 (if_neg z))
                  have hx : (tk A.s A.n e (h + 1)).1 = false := by
                    rw [e9]
                    show ((tk A.s A.n e h).1 && decide _) = false
                    rw [decide_eq_false (show ¬ tkOK A.s A.n (tk A.s A.n e h).2.1 h (e h) from fun z => (z.2 hd).1 c70), Bool.and_false]
                  refine z_if_ne (tgt := 117) dX12_takenByLine_73 (by decide) (fun b73 => ?_) (fun b73 => ?_)
                  · refine z_iconst (v := 0) dX12_takenByLine_117 (by decide) ?_
                    refine z_istore_n dX12_takenByLine_118 (by decide) rfl rfl ?_
                    refine z_iload_n dX12_takenByLine_119 rfl ?_
                    refine z_iload dX12_takenByLine_120 rfl ?_
                    refine z_if_eq (tgt := 132) dX12_takenByLine_122 (by decide) (fun b122 => ?_) (fun b122 => ?_)
                    · exact absurd b122 (by decide)
                    · refine z_iconst (v := 1) dX12_takenByLine_125 (by decide) ?_
                      refine z_iload dX12_takenByLine_126 rfl ?_
                      refine z_ishl dX12_takenByLine_128 ?_
                      refine z_goto (tgt := 133) dX12_takenByLine_129 (by decide) ?_
                      refine z_ior dX12_takenByLine_133 ?_
                      refine z_istore_n dX12_takenByLine_134 (by decide) rfl rfl ?_
                      refine z_iload_n dX12_takenByLine_135 rfl ?_
                      refine z_iload dX12_takenByLine_136 rfl ?_
                      refine z_if_eq (tgt := 181) dX12_takenByLine_138 (by decide) (fun b138 => ?_) (fun b138 => ?_)
                      · exact absurd b138 (by decide)
                      · refine z_aload_n dX12_takenByLine_141 rfl ?_
                        refine z_getR (j := 0) (r := 128) kX12 lf_X12_7 (by decide) rfl dX12_takenByLine_142 k0_127 s0_127 r0_127_0 (by decide) ?_
                        refine z_iconst (v := 3) dX12_takenByLine_145 (by decide) ?_
                        refine z_iload dX12_takenByLine_146 rfl ?_
                        refine z_iaddN (a := 3) (b := (e h)) rfl rfl dX12_takenByLine_148 ?_
                        refine z_ialdV (j := (3 + (e h))) rfl (by omega) (C.s (3 + (e h)) (by omega)) dX12_takenByLine_149 k0_128 s0_128 ?_
                        refine z_aload_n dX12_takenByLine_150 rfl ?_
                        refine z_iconst (v := 0) dX12_takenByLine_151 (by decide) ?_
                        refine z_aload_n dX12_takenByLine_152 rfl ?_
                        refine z_getR (j := 0) (r := 128) kX12 lf_X12_7 (by decide) rfl dX12_takenByLine_153 k0_127 s0_127 r0_127_0 (by decide) ?_
                        refine z_bipush (v := 51) dX12_takenByLine_156 (by decide) ?_
                        refine z_iload dX12_takenByLine_158 rfl ?_
                        refine z_iaddN (a := 51) (b := h) rfl rfl dX12_takenByLine_160 ?_
                        refine z_ialdV (j := (51 + h)) rfl (by omega) (C.s (51 + h) (by omega)) dX12_takenByLine_161 k0_128 s0_128 ?_
                        refine z_aload_n dX12_takenByLine_162 rfl ?_
                        refine z_getR (j := 0) (r := 128) kX12 lf_X12_7 (by decide) rfl dX12_takenByLine_163 k0_127 s0_127 r0_127_0 (by decide) ?_
                        refine z_bipush (v := 55) dX12_takenByLine_166 (by decide) ?_
                        refine z_iload dX12_takenByLine_168 rfl ?_
                        refine z_iaddN (a := 55) (b := h) rfl rfl dX12_takenByLine_170 ?_
                        refine z_ialdV (j := (55 + h)) rfl (by omega) (C.s (55 + h) (by omega)) dX12_takenByLine_171 k0_128 s0_128 ?_
                        obtain ⟨⟨a, ha, ea⟩, ⟨t, ht, et⟩⟩ := ok.s.2.2.1 h hn
                        rw [ea, et]
                        refine z_iV3 (c_miles0 g l ok C ha ht) mw_X12_milesOn lm_X12_199 mi_X12_milesOn mv_X12_milesOn kX12 (by decide) (Nat.le_of_ble_eq_true rfl) zle k0_127 s0_127 dX12_takenByLine_172 (fun r172 M172 q172 => ?_)
                        obtain ⟨qr172, qm172⟩ := q172
                        obtain rfl := qr172.symm
                        obtain rfl := qm172.symm
                        rw [← ea, ← et]
                        refine z_iS2 (c_X12_takes g l) mw_X12_takes lm_X12_180 ms_X12_takes (by decide) (Nat.le_of_ble_eq_true rfl) zle dX12_takenByLine_175 (fun r175 M175 q175 => ?_)
                        obtain ⟨qr175, qm175⟩ := q175
                        obtain rfl := qr175.symm
                        obtain rfl := qm175.symm
                        refine z_goto (tgt := 182) dX12_takenByLine_178 (by decide) ?_
                        refine z_iadd dX12_takenByLine_182 ?_
                        refine z_istore_n dX12_takenByLine_183 (by decide) rfl rfl ?_
                        refine z_iincN (k := h) dX12_takenByLine_184 rfl rfl (by decide) rfl rfl ?_
                        refine z_goto (tgt := 9) dX12_takenByLine_187 (by decide) ?_
                        first
                          | exact zA.sub (ih (h + 1) (by omega) (by omega)) rfl ⟨Or.inr rfl, Or.inr (congrArg (fun z => some (Value.int z)) (by rw [e9]; show _ = nI (if e h < A.n then (tk A.s A.n e h).2.2 + tkT A.s h (e h) else (tk A.s A.n e h).2.2); rw [if_pos hd, (tkT_in ok.s hn hd).2]; exact nI_adds _ _)), Or.inr (congrArg (fun z => some (Value.int z)) (by rw [e9]; exact ((if_pos hd).symm))), Or.inr (congrArg (fun z => some (Value.int z)) ((if_pos hx).symm)), Or.inr rfl, Or.inl rfl, Or.inl rfl, trivial⟩
                          | exact zA.sub (ih (h + 1) (by omega) (by omega)) rfl ⟨Or.inr rfl, Or.inr (congrArg (fun z => some (Value.int z)) (by rw [e9]; show _ = nI (if e h < A.n then (tk A.s A.n e h).2.2 + tkT A.s h (e h) else (tk A.s A.n e h).2.2); rw [if_pos hd, (tkT_in ok.s hn hd).2]; exact nI_adds _ _)), Or.inr (congrArg (fun z => some (Value.int z)) (by rw [e9]; exact ((if_pos hd).symm))), Or.inr (congrArg (fun z => some (Value.int z)) ((if_neg (by rw [hx]; decide)).symm)), Or.inr rfl, Or.inl rfl, Or.inl rfl, trivial⟩
                          | exact zA.sub (ih (h + 1) (by omega) (by omega)) rfl ⟨Or.inr rfl, Or.inr (congrArg (fun z => some (Value.int z)) (by rw [e9]; show _ = nI (if e h < A.n then (tk A.s A.n e h).2.2 + tkT A.s h (e h) else (tk A.s A.n e h).2.2); rw [if_neg hd]; exact Int32.add_zero _)), Or.inr (congrArg (fun z => some (Value.int z)) (by rw [e9]; exact (((Int32.or_zero).trans (if_neg hd).symm)))), Or.inr (congrArg (fun z => some (Value.int z)) ((if_pos hx).symm)), Or.inr rfl, Or.inl rfl, Or.inl rfl, trivial⟩
                          | exact zA.sub (ih (h + 1) (by omega) (by omega)) rfl ⟨Or.inr rfl, Or.inr (congrArg (fun z => some (Value.int z)) (by rw [e9]; show _ = nI (if e h < A.n then (tk A.s A.n e h).2.2 + tkT A.s h (e h) else (tk A.s A.n e h).2.2); rw [if_neg hd]; exact Int32.add_zero _)), Or.inr (congrArg (fun z => some (Value.int z)) (by rw [e9]; exact (((Int32.or_zero).trans (if_neg hd).symm)))), Or.inr (congrArg (fun z => some (Value.int z)) ((if_neg (by rw [hx]; decide)).symm)), Or.inr rfl, Or.inl rfl, Or.inl rfl, trivial⟩
                  · exact absurd b73 (by decide)
                · refine z_if_ne (tgt := 117) dX12_takenByLine_73 (by decide) (fun b73 => ?_) (fun b73 => ?_)
                  · exact absurd b73 (by decide)
                  · refine z_aload_n dX12_takenByLine_76 rfl ?_
                    refine z_getR (j := 0) (r := 128) kX12 lf_X12_7 (by decide) rfl dX12_takenByLine_77 k0_127 s0_127 r0_127_0 (by decide) ?_
                    refine z_bipush (v := 19) dX12_takenByLine_80 (by decide) ?_
                    refine z_iload dX12_takenByLine_82 rfl ?_
                    refine z_iaddN (a := 19) (b := (e h)) rfl rfl dX12_takenByLine_84 ?_
                    refine z_ialdV (j := (19 + (e h))) rfl (by omega) (C.s (19 + (e h)) (by omega)) dX12_takenByLine_85 k0_128 s0_128 ?_
                    refine z_aload_n dX12_takenByLine_86 rfl ?_
                    refine z_getR (j := 0) (r := 128) kX12 lf_X12_7 (by decide) rfl dX12_takenByLine_87 k0_127 s0_127 r0_127_0 (by decide) ?_
                    refine z_bipush (v := 51) dX12_takenByLine_90 (by decide) ?_
                    refine z_iload dX12_takenByLine_92 rfl ?_
                    refine z_iaddN (a := 51) (b := h) rfl rfl dX12_takenByLine_94 ?_
                    refine z_ialdV (j := (51 + h)) rfl (by omega) (C.s (51 + h) (by omega)) dX12_takenByLine_95 k0_128 s0_128 ?_
                    refine z_icmp_ne (tgt := 117) dX12_takenByLine_96 (by decide) (fun b96 => ?_) (fun b96 => ?_)
                    · have h1 : (tk A.s A.n e h).1 = true := Classical.byContradiction (fun z => b48 (if_neg z))
                      have hx : (tk A.s A.n e (h + 1)).1 = false := by
                        rw [e9]
                        show ((tk A.s A.n e h).1 && decide _) = false
                        rw [decide_eq_false (show ¬ tkOK A.s A.n (tk A.s A.n e h).2.1 h (e h) from fun z => b96 (z.2 hd).2.1), Bool.and_false]
                      refine z_iconst (v := 0) dX12_takenByLine_117 (by decide) ?_
                      refine z_istore_n dX12_takenByLine_118 (by decide) rfl rfl ?_
                      refine z_iload_n dX12_takenByLine_119 rfl ?_
                      refine z_iload dX12_takenByLine_120 rfl ?_
                      refine z_if_eq (tgt := 132) dX12_takenByLine_122 (by decide) (fun b122 => ?_) (fun b122 => ?_)
                      · exact absurd b122 (by decide)
                      · refine z_iconst (v := 1) dX12_takenByLine_125 (by decide) ?_
                        refine z_iload dX12_takenByLine_126 rfl ?_
                        refine z_ishl dX12_takenByLine_128 ?_
                        refine z_goto (tgt := 133) dX12_takenByLine_129 (by decide) ?_
                        refine z_ior dX12_takenByLine_133 ?_
                        refine z_istore_n dX12_takenByLine_134 (by decide) rfl rfl ?_
                        refine z_iload_n dX12_takenByLine_135 rfl ?_
                        refine z_iload dX12_takenByLine_136 rfl ?_
                        refine z_if_eq (tgt := 181) dX12_takenByLine_138 (by decide) (fun b138 => ?_) (fun b138 => ?_)
                        · exact absurd b138 (by decide)
                        · refine z_aload_n dX12_takenByLine_141 rfl ?_
                          refine z_getR (j := 0) (r := 128) kX12 lf_X12_7 (by decide) rfl dX12_takenByLine_142 k0_127 s0_127 r0_127_0 (by decide) ?_
                          refine z_iconst (v := 3) dX12_takenByLine_145 (by decide) ?_
                          refine z_iload dX12_takenByLine_146 rfl ?_
                          refine z_iaddN (a := 3) (b := (e h)) rfl rfl dX12_takenByLine_148 ?_
                          refine z_ialdV (j := (3 + (e h))) rfl (by omega) (C.s (3 + (e h)) (by omega)) dX12_takenByLine_149 k0_128 s0_128 ?_
                          refine z_aload_n dX12_takenByLine_150 rfl ?_
                          refine z_iconst (v := 0) dX12_takenByLine_151 (by decide) ?_
                          refine z_aload_n dX12_takenByLine_152 rfl ?_
                          refine z_getR (j := 0) (r := 128) kX12 lf_X12_7 (by decide) rfl dX12_takenByLine_153 k0_127 s0_127 r0_127_0 (by decide) ?_
                          refine z_bipush (v := 51) dX12_takenByLine_156 (by decide) ?_
                          refine z_iload dX12_takenByLine_158 rfl ?_
                          refine z_iaddN (a := 51) (b := h) rfl rfl dX12_takenByLine_160 ?_
                          refine z_ialdV (j := (51 + h)) rfl (by omega) (C.s (51 + h) (by omega)) dX12_takenByLine_161 k0_128 s0_128 ?_
                          refine z_aload_n dX12_takenByLine_162 rfl ?_
                          refine z_getR (j := 0) (r := 128) kX12 lf_X12_7 (by decide) rfl dX12_takenByLine_163 k0_127 s0_127 r0_127_0 (by decide) ?_
                          refine z_bipush (v := 55) dX12_takenByLine_166 (by decide) ?_
                          refine z_iload dX12_takenByLine_168 rfl ?_
                          refine z_iaddN (a := 55) (b := h) rfl rfl dX12_takenByLine_170 ?_
                          refine z_ialdV (j := (55 + h)) rfl (by omega) (C.s (55 + h) (by omega)) dX12_takenByLine_171 k0_128 s0_128 ?_
                          obtain ⟨⟨a, ha, ea⟩, ⟨t, ht, et⟩⟩ := ok.s.2.2.1 h hn
                          rw [ea, et]
                          refine z_iV3 (c_miles0 g l ok C ha ht) mw_X12_milesOn lm_X12_199 mi_X12_milesOn mv_X12_milesOn kX12 (by decide) (Nat.le_of_ble_eq_true rfl) zle k0_127 s0_127 dX12_takenByLine_172 (fun r172 M172 q172 => ?_)
                          obtain ⟨qr172, qm172⟩ := q172
                          obtain rfl := qr172.symm
                          obtain rfl := qm172.symm
                          rw [← ea, ← et]
                          refine z_iS2 (c_X12_takes g l) mw_X12_takes lm_X12_180 ms_X12_takes (by decide) (Nat.le_of_ble_eq_true rfl) zle dX12_takenByLine_175 (fun r175 M175 q175 => ?_)
                          obtain ⟨qr175, qm175⟩ := q175
                          obtain rfl := qr175.symm
                          obtain rfl := qm175.symm
                          refine z_goto (tgt := 182) dX12_takenByLine_178 (by decide) ?_
                          refine z_iadd dX12_takenByLine_182 ?_
                          refine z_istore_n dX12_takenByLine_183 (by decide) rfl rfl ?_
                          refine z_iincN (k := h) dX12_takenByLine_184 rfl rfl (by decide) rfl rfl ?_
                          refine z_goto (tgt := 9) dX12_takenByLine_187 (by decide) ?_
                          first
                            | exact zA.sub (ih (h + 1) (by omega) (by omega)) rfl ⟨Or.inr rfl, Or.inr (congrArg (fun z => some (Value.int z)) (by rw [e9]; show _ = nI (if e h < A.n then (tk A.s A.n e h).2.2 + tkT A.s h (e h) else (tk A.s A.n e h).2.2); rw [if_pos hd, (tkT_in ok.s hn hd).2]; exact nI_adds _ _)), Or.inr (congrArg (fun z => some (Value.int z)) (by rw [e9]; exact ((if_pos hd).symm))), Or.inr (congrArg (fun z => some (Value.int z)) ((if_pos hx).symm)), Or.inr rfl, Or.inl rfl, Or.inl rfl, trivial⟩
                            | exact zA.sub (ih (h + 1) (by omega) (by omega)) rfl ⟨Or.inr rfl, Or.inr (congrArg (fun z => some (Value.int z)) (by rw [e9]; show _ = nI (if e h < A.n then (tk A.s A.n e h).2.2 + tkT A.s h (e h) else (tk A.s A.n e h).2.2); rw [if_pos hd, (tkT_in ok.s hn hd).2]; exact nI_adds _ _)), Or.inr (congrArg (fun z => some (Value.int z)) (by rw [e9]; exact ((if_pos hd).symm))), Or.inr (congrArg (fun z => some (Value.int z)) ((if_neg (by rw [hx]; decide)).symm)), Or.inr rfl, Or.inl rfl, Or.inl rfl, trivial⟩
                            | exact zA.sub (ih (h + 1) (by omega) (by omega)) rfl ⟨Or.inr rfl, Or.inr (congrArg (fun z => some (Value.int z)) (by rw [e9]; show _ = nI (if e h < A.n then (tk A.s A.n e h).2.2 + tkT A.s h (e h) else (tk A.s A.n e h).2.2); rw [if_neg hd]; exact Int32.add_zero _)), Or.inr (congrArg (fun z => some (Value.int z)) (by rw [e9]; exact (((Int32.or_zero).trans (if_neg hd).symm)))), Or.inr (congrArg (fun z => some (Value.int z)) ((if_pos hx).symm)), Or.inr rfl, Or.inl rfl, Or.inl rfl, trivial⟩
                            | exact zA.sub (ih (h + 1) (by omega) (by omega)) rfl ⟨Or.inr rfl, Or.inr (congrArg (fun z => some (Value.int z)) (by rw [e9]; show _ = nI (if e h < A.n then (tk A.s A.n e h).2.2 + tkT A.s h (e h) else (tk A.s A.n e h).2.2); rw [if_neg hd]; exact Int32.add_zero _)), Or.inr (congrArg (fun z => some (Value.int z)) (by rw [e9]; exact (((Int32.or_zero).trans (if_neg hd).symm)))), Or.inr (congrArg (fun z => some (Value.int z)) ((if_neg (by rw [hx]; decide)).symm)), Or.inr rfl, Or.inl rfl, Or.inl rfl, trivial⟩
                    · refine z_aload_n dX12_takenByLine_99 rfl ?_
                      refine z_getR (j := 0) (r := 128) kX12 lf_X12_7 (by decide) rfl dX12_takenByLine_100 k0_127 s0_127 r0_127_0 (by decide) ?_
                      refine z_bipush (v := 35) dX12_takenByLine_103 (by decide) ?_
                      refine z_iload dX12_takenByLine_105 rfl ?_
                      refine z_iaddN (a := 35) (b := (e h)) rfl rfl dX12_takenByLine_107 ?_
                      refine z_ialdV (j := (35 + (e h))) rfl (by omega) (C.s (35 + (e h)) (by omega)) dX12_takenByLine_108 k0_128 s0_128 ?_
                      refine z_iconst (v := 1) dX12_takenByLine_109 (by decide) ?_
                      refine z_icmp_eq (tgt := 117) dX12_takenByLine_110 (by decide) (fun b110 => ?_) (fun b110 => ?_)
                      · have h1 : (tk A.s A.n e h).1 = true := Classical.byContradiction (fun z => b48 (if_neg z))
                        have hx : (tk A.s A.n e (h + 1)).1 = false := by
                          rw [e9]
                          show ((tk A.s A.n e h).1 && decide _) = false
                          rw [decide_eq_false (show ¬ tkOK A.s A.n (tk A.s A.n e h).2.1 h (e h) from fun z => (z.2 hd).2.2 b110), Bool.and_false]
                        refine z_iconst (v := 0) dX12_takenByLine_117 (by decide) ?_
                        refine z_istore_n dX12_takenByLine_118 (by decide) rfl rfl ?_
                        refine z_iload_n dX12_takenByLine_119 rfl ?_
                        refine z_iload dX12_takenByLine_120 rfl ?_
                        refine z_if_eq (tgt := 132) dX12_takenByLine_122 (by decide) (fun b122 => ?_) (fun b122 => ?_)
                        · exact absurd b122 (by decide)
                        · refine z_iconst (v := 1) dX12_takenByLine_125 (by decide) ?_
                          refine z_iload dX12_takenByLine_126 rfl ?_
                          refine z_ishl dX12_takenByLine_128 ?_
                          refine z_goto (tgt := 133) dX12_takenByLine_129 (by decide) ?_
                          refine z_ior dX12_takenByLine_133 ?_
                          refine z_istore_n dX12_takenByLine_134 (by decide) rfl rfl ?_
                          refine z_iload_n dX12_takenByLine_135 rfl ?_
                          refine z_iload dX12_takenByLine_136 rfl ?_
                          refine z_if_eq (tgt := 181) dX12_takenByLine_138 (by decide) (fun b138 => ?_) (fun b138 => ?_)
                          · exact absurd b138 (by decide)
                          · refine z_aload_n dX12_takenByLine_141 rfl ?_
                            refine z_getR (j := 0) (r := 128) kX12 lf_X12_7 (by decide) rfl dX12_takenByLine_142 k0_127 s0_127 r0_127_0 (by decide) ?_
                            refine z_iconst (v := 3) dX12_takenByLine_145 (by decide) ?_
                            refine z_iload dX12_takenByLine_146 rfl ?_
                            refine z_iaddN (a := 3) (b := (e h)) rfl rfl dX12_takenByLine_148 ?_
                            refine z_ialdV (j := (3 + (e h))) rfl (by omega) (C.s (3 + (e h)) (by omega)) dX12_takenByLine_149 k0_128 s0_128 ?_
                            refine z_aload_n dX12_takenByLine_150 rfl ?_
                            refine z_iconst (v := 0) dX12_takenByLine_151 (by decide) ?_
                            refine z_aload_n dX12_takenByLine_152 rfl ?_
                            refine z_getR (j := 0) (r := 128) kX12 lf_X12_7 (by decide) rfl dX12_takenByLine_153 k0_127 s0_127 r0_127_0 (by decide) ?_
                            refine z_bipush (v := 51) dX12_takenByLine_156 (by decide) ?_
                            refine z_iload dX12_takenByLine_158 rfl ?_
                            refine z_iaddN (a := 51) (b := h) rfl rfl dX12_takenByLine_160 ?_
                            refine z_ialdV (j := (51 + h)) rfl (by omega) (C.s (51 + h) (by omega)) dX12_takenByLine_161 k0_128 s0_128 ?_
                            refine z_aload_n dX12_takenByLine_162 rfl ?_
                            refine z_getR (j := 0) (r := 128) kX12 lf_X12_7 (by decide) rfl dX12_takenByLine_163 k0_127 s0_127 r0_127_0 (by decide) ?_
                            refine z_bipush (v := 55) dX12_takenByLine_166 (by decide) ?_
                            refine z_iload dX12_takenByLine_168 rfl ?_
                            refine z_iaddN (a := 55) (b := h) rfl rfl dX12_takenByLine_170 ?_
                            refine z_ialdV (j := (55 + h)) rfl (by omega) (C.s (55 + h) (by omega)) dX12_takenByLine_171 k0_128 s0_128 ?_
                            obtain ⟨⟨a, ha, ea⟩, ⟨t, ht, et⟩⟩ := ok.s.2.2.1 h hn
                            rw [ea, et]
                            refine z_iV3 (c_miles0 g l ok C ha ht) mw_X12_milesOn lm_X12_199 mi_X12_milesOn mv_X12_milesOn kX12 (by decide) (Nat.le_of_ble_eq_true rfl) zle k0_127 s0_127 dX12_takenByLine_172 (fun r172 M172 q172 => ?_)
                            obtain ⟨qr172, qm172⟩ := q172
                            obtain rfl := qr172.symm
                            obtain rfl := qm172.symm
                            rw [← ea, ← et]
                            refine z_iS2 (c_X12_takes g l) mw_X12_takes lm_X12_180 ms_X12_takes (by decide) (Nat.le_of_ble_eq_true rfl) zle dX12_takenByLine_175 (fun r175 M175 q175 => ?_)
                            obtain ⟨qr175, qm175⟩ := q175
                            obtain rfl := qr175.symm
                            obtain rfl := qm175.symm
                            refine z_goto (tgt := 182) dX12_takenByLine_178 (by decide) ?_
                            refine z_iadd dX12_takenByLine_182 ?_
                            refine z_istore_n dX12_takenByLine_183 (by decide) rfl rfl ?_
                            refine z_iincN (k := h) dX12_takenByLine_184 rfl rfl (by decide) rfl rfl ?_
                            refine z_goto (tgt := 9) dX12_takenByLine_187 (by decide) ?_
                            first
                              | exact zA.sub (ih (h + 1) (by omega) (by omega)) rfl ⟨Or.inr rfl, Or.inr (congrArg (fun z => some (Value.int z)) (by rw [e9]; show _ = nI (if e h < A.n then (tk A.s A.n e h).2.2 + tkT A.s h (e h) else (tk A.s A.n e h).2.2); rw [if_pos hd, (tkT_in ok.s hn hd).2]; exact nI_adds _ _)), Or.inr (congrArg (fun z => some (Value.int z)) (by rw [e9]; exact ((if_pos hd).symm))), Or.inr (congrArg (fun z => some (Value.int z)) ((if_pos hx).symm)), Or.inr rfl, Or.inl rfl, Or.inl rfl, trivial⟩
                              | exact zA.sub (ih (h + 1) (by omega) (by omega)) rfl ⟨Or.inr rfl, Or.inr (congrArg (fun z => some (Value.int z)) (by rw [e9]; show _ = nI (if e h < A.n then (tk A.s A.n e h).2.2 + tkT A.s h (e h) else (tk A.s A.n e h).2.2); rw [if_pos hd, (tkT_in ok.s hn hd).2]; exact nI_adds _ _)), Or.inr (congrArg (fun z => some (Value.int z)) (by rw [e9]; exact ((if_pos hd).symm))), Or.inr (congrArg (fun z => some (Value.int z)) ((if_neg (by rw [hx]; decide)).symm)), Or.inr rfl, Or.inl rfl, Or.inl rfl, trivial⟩
                              | exact zA.sub (ih (h + 1) (by omega) (by omega)) rfl ⟨Or.inr rfl, Or.inr (congrArg (fun z => some (Value.int z)) (by rw [e9]; show _ = nI (if e h < A.n then (tk A.s A.n e h).2.2 + tkT A.s h (e h) else (tk A.s A.n e h).2.2); rw [if_neg hd]; exact Int32.add_zero _)), Or.inr (congrArg (fun z => some (Value.int z)) (by rw [e9]; exact (((Int32.or_zero).trans (if_neg hd).symm)))), Or.inr (congrArg (fun z => some (Value.int z)) ((if_pos hx).symm)), Or.inr rfl, Or.inl rfl, Or.inl rfl, trivial⟩
                              | exact zA.sub (ih (h + 1) (by omega) (by omega)) rfl ⟨Or.inr rfl, Or.inr (congrArg (fun z => some (Value.int z)) (by rw [e9]; show _ = nI (if e h < A.n then (tk A.s A.n e h).2.2 + tkT A.s h (e h) else (tk A.s A.n e h).2.2); rw [if_neg hd]; exact Int32.add_zero _)), Or.inr (congrArg (fun z => some (Value.int z)) (by rw [e9]; exact (((Int32.or_zero).trans (if_neg hd).symm)))), Or.inr (congrArg (fun z => some (Value.int z)) ((if_neg (by rw [hx]; decide)).symm)), Or.inr rfl, Or.inl rfl, Or.inl rfl, trivial⟩
                      · have h1 : (tk A.s A.n e h).1 = true := Classical.byContradiction (fun z => b48 (if_neg z))
                        have hx : (tk A.s A.n e (h + 1)).1 = true := by
                          rw [e9]
                          show ((tk A.s A.n e h).1 && decide _) = true
                          rw [h1, decide_eq_true (show tkOK A.s A.n (tk A.s A.n e h).2.1 h (e h) from ⟨⟨fun _ => c56, fun _ => hd⟩, fun _ => ⟨c70, b96, b110⟩⟩)]
                          rfl
                        refine z_iconst (v := 1) dX12_takenByLine_113 (by decide) ?_
                        refine z_goto (tgt := 118) dX12_takenByLine_114 (by decide) ?_
                        refine z_istore_n dX12_takenByLine_118 (by decide) rfl rfl ?_
                        refine z_iload_n dX12_takenByLine_119 rfl ?_
                        refine z_iload dX12_takenByLine_120 rfl ?_
                        refine z_if_eq (tgt := 132) dX12_takenByLine_122 (by decide) (fun b122 => ?_) (fun b122 => ?_)
                        · exact absurd b122 (by decide)
                        · refine z_iconst (v := 1) dX12_takenByLine_125 (by decide) ?_
                          refine z_iload dX12_takenByLine_126 rfl ?_
                          refine z_ishl dX12_takenByLine_128 ?_
                          refine z_goto (tgt := 133) dX12_takenByLine_129 (by decide) ?_
                          refine z_ior dX12_takenByLine_133 ?_
                          refine z_istore_n dX12_takenByLine_134 (by decide) rfl rfl ?_
                          refine z_iload_n dX12_takenByLine_135 rfl ?_
                          refine z_iload dX12_takenByLine_136 rfl ?_
                          refine z_if_eq (tgt := 181) dX12_takenByLine_138 (by decide) (fun b138 => ?_) (fun b138 => ?_)
                          · exact absurd b138 (by decide)
                          · refine z_aload_n dX12_takenByLine_141 rfl ?_
                            refine z_getR (j := 0) (r := 128) kX12 lf_X12_7 (by decide) rfl dX12_takenByLine_142 k0_127 s0_127 r0_127_0 (by decide) ?_
                            refine z_iconst (v := 3) dX12_takenByLine_145 (by decide) ?_
                            refine z_iload dX12_takenByLine_146 rfl ?_
                            refine z_iaddN (a := 3) (b := (e h)) rfl rfl dX12_takenByLine_148 ?_
                            refine z_ialdV (j := (3 + (e h))) rfl (by omega) (C.s (3 + (e h)) (by omega)) dX12_takenByLine_149 k0_128 s0_128 ?_
                            refine z_aload_n dX12_takenByLine_150 rfl ?_
                            refine z_iconst (v := 0) dX12_takenByLine_151 (by decide) ?_
                            refine z_aload_n dX12_takenByLine_152 rfl ?_
                            refine z_getR (j := 0) (r := 128) kX12 lf_X12_7 (by decide) rfl dX12_takenByLine_153 k0_127 s0_127 r0_127_0 (by decide) ?_
                            refine z_bipush (v := 51) dX12_takenByLine_156 (by decide) ?_
                            refine z_iload dX12_takenByLine_158 rfl ?_
                            refine z_iaddN (a := 51) (b := h) rfl rfl dX12_takenByLine_160 ?_
                            refine z_ialdV (j := (51 + h)) rfl (by omega) (C.s (51 + h) (by omega)) dX12_takenByLine_161 k0_128 s0_128 ?_
                            refine z_aload_n dX12_takenByLine_162 rfl ?_
                            refine z_getR (j := 0) (r := 128) kX12 lf_X12_7 (by decide) rfl dX12_takenByLine_163 k0_127 s0_127 r0_127_0 (by decide) ?_
                            refine z_bipush (v := 55) dX12_takenByLine_166 (by decide) ?_
                            refine z_iload dX12_takenByLine_168 rfl ?_
                            refine z_iaddN (a := 55) (b := h) rfl rfl dX12_takenByLine_170 ?_
                            refine z_ialdV (j := (55 + h)) rfl (by omega) (C.s (55 + h) (by omega)) dX12_takenByLine_171 k0_128 s0_128 ?_
                            obtain ⟨⟨a, ha, ea⟩, ⟨t, ht, et⟩⟩ := ok.s.2.2.1 h hn
                            rw [ea, et]
                            refine z_iV3 (c_miles0 g l ok C ha ht) mw_X12_milesOn lm_X12_199 mi_X12_milesOn mv_X12_milesOn kX12 (by decide) (Nat.le_of_ble_eq_true rfl) zle k0_127 s0_127 dX12_takenByLine_172 (fun r172 M172 q172 => ?_)
                            obtain ⟨qr172, qm172⟩ := q172
                            obtain rfl := qr172.symm
                            obtain rfl := qm172.symm
                            rw [← ea, ← et]
                            refine z_iS2 (c_X12_takes g l) mw_X12_takes lm_X12_180 ms_X12_takes (by decide) (Nat.le_of_ble_eq_true rfl) zle dX12_takenByLine_175 (fun r175 M175 q175 => ?_)
                            obtain ⟨qr175, qm175⟩ := q175
                            obtain rfl := qr175.symm
                            obtain rfl := qm175.symm
                            refine z_goto (tgt := 182) dX12_takenByLine_178 (by decide) ?_
                            refine z_iadd dX12_takenByLine_182 ?_
                            refine z_istore_n dX12_takenByLine_183 (by decide) rfl rfl ?_
                            refine z_iincN (k := h) dX12_takenByLine_184 rfl rfl (by decide) rfl rfl ?_
                            refine z_goto (tgt := 9) dX12_takenByLine_187 (by decide) ?_
                            first
                              | exact zA.sub (ih (h + 1) (by omega) (by omega)) rfl ⟨Or.inr rfl, Or.inr (congrArg (fun z => some (Value.int z)) (by rw [e9]; show _ = nI (if e h < A.n then (tk A.s A.n e h).2.2 + tkT A.s h (e h) else (tk A.s A.n e h).2.2); rw [if_pos hd, (tkT_in ok.s hn hd).2]; exact nI_adds _ _)), Or.inr (congrArg (fun z => some (Value.int z)) (by rw [e9]; exact ((if_pos hd).symm))), Or.inr (congrArg (fun z => some (Value.int z)) ((if_pos hx).symm)), Or.inr rfl, Or.inl rfl, Or.inl rfl, trivial⟩
                              | exact zA.sub (ih (h + 1) (by omega) (by omega)) rfl ⟨Or.inr rfl, Or.inr (congrArg (fun z => some (Value.int z)) (by rw [e9]; show _ = nI (if e h < A.n then (tk A.s A.n e h).2.2 + tkT A.s h (e h) else (tk A.s A.n e h).2.2); rw [if_pos hd, (tkT_in ok.s hn hd).2]; exact nI_adds _ _)), Or.inr (congrArg (fun z => some (Value.int z)) (by rw [e9]; exact ((if_pos hd).symm))), Or.inr (congrArg (fun z => some (Value.int z)) ((if_neg (by rw [hx]; decide)).symm)), Or.inr rfl, Or.inl rfl, Or.inl rfl, trivial⟩
                              | exact zA.sub (ih (h + 1) (by omega) (by omega)) rfl ⟨Or.inr rfl, Or.inr (congrArg (fun z => some (Value.int z)) (by rw [e9]; show _ = nI (if e h < A.n then (tk A.s A.n e h).2.2 + tkT A.s h (e h) else (tk A.s A.n e h).2.2); rw [if_neg hd]; exact Int32.add_zero _)), Or.inr (congrArg (fun z => some (Value.int z)) (by rw [e9]; exact (((Int32.or_zero).trans (if_neg hd).symm)))), Or.inr (congrArg (fun z => some (Value.int z)) ((if_pos hx).symm)), Or.inr rfl, Or.inl rfl, Or.inl rfl, trivial⟩
                              | exact zA.sub (ih (h + 1) (by omega) (by omega)) rfl ⟨Or.inr rfl, Or.inr (congrArg (fun z => some (Value.int z)) (by rw [e9]; show _ = nI (if e h < A.n then (tk A.s A.n e h).2.2 + tkT A.s h (e h) else (tk A.s A.n e h).2.2); rw [if_neg hd]; exact Int32.add_zero _)), Or.inr (congrArg (fun z => some (Value.int z)) (by rw [e9]; exact (((Int32.or_zero).trans (if_neg hd).symm)))), Or.inr (congrArg (fun z => some (Value.int z)) ((if_neg (by rw [hx]; decide)).symm)), Or.inr rfl, Or.inl rfl, Or.inl rfl, trivial⟩
          · 
            refine z_icmp_ne (tgt := 117) dX12_takenByLine_59 (by decide) (fun b59 => ?_) (fun b59 => ?_)
            · have h1 : (tk A.s A.n e h).1 = true := Classical.byContradiction (fun z => b48 (if_neg z))
              have hx : (tk A.s A.n e (h + 1)).1 = false := by
                rw [e9]
                show ((tk A.s A.n e h).1 && decide _) = false
                rw [decide_eq_false (show ¬ tkOK A.s A.n (tk A.s A.n e h).2.1 h (e h) from fun z => by first | exact c56 (fun w => absurd (z.1.mp hd) (fun w2 => w2 w)) | exact hd (z.1.mpr c56) | exact c56 (z.1.mp hd)), Bool.and_false]
              refine z_iconst (v := 0) dX12_takenByLine_117 (by decide) ?_
              refine z_istore_n dX12_takenByLine_118 (by decide) rfl rfl ?_
              refine z_iload_n dX12_takenByLine_119 rfl ?_
              refine z_iload dX12_takenByLine_120 rfl ?_
              refine z_if_eq (tgt := 132) dX12_takenByLine_122 (by decide) (fun b122 => ?_) (fun b122 => ?_)
              · exact absurd b122 (by decide)
              · refine z_iconst (v := 1) dX12_takenByLine_125 (by decide) ?_
                refine z_iload dX12_takenByLine_126 rfl ?_
                refine z_ishl dX12_takenByLine_128 ?_
                refine z_goto (tgt := 133) dX12_takenByLine_129 (by decide) ?_
                refine z_ior dX12_takenByLine_133 ?_
                refine z_istore_n dX12_takenByLine_134 (by decide) rfl rfl ?_
                refine z_iload_n dX12_takenByLine_135 rfl ?_
                refine z_iload dX12_takenByLine_136 rfl ?_
                refine z_if_eq (tgt := 181) dX12_takenByLine_138 (by decide) (fun b138 => ?_) (fun b138 => ?_)
                · exact absurd b138 (by decide)
                · refine z_aload_n dX12_takenByLine_141 rfl ?_
                  refine z_getR (j := 0) (r := 128) kX12 lf_X12_7 (by decide) rfl dX12_takenByLine_142 k0_127 s0_127 r0_127_0 (by decide) ?_
                  refine z_iconst (v := 3) dX12_takenByLine_145 (by decide) ?_
                  refine z_iload dX12_takenByLine_146 rfl ?_
                  refine z_iaddN (a := 3) (b := (e h)) rfl rfl dX12_takenByLine_148 ?_
                  refine z_ialdV (j := (3 + (e h))) rfl (by omega) (C.s (3 + (e h)) (by omega)) dX12_takenByLine_149 k0_128 s0_128 ?_
                  refine z_aload_n dX12_takenByLine_150 rfl ?_
                  refine z_iconst (v := 0) dX12_takenByLine_151 (by decide) ?_
                  refine z_aload_n dX12_takenByLine_152 rfl ?_
                  refine z_getR (j := 0) (r := 128) kX12 lf_X12_7 (by decide) rfl dX12_takenByLine_153 k0_127 s0_127 r0_127_0 (by decide) ?_
                  refine z_bipush (v := 51) dX12_takenByLine_156 (by decide) ?_
                  refine z_iload dX12_takenByLine_158 rfl ?_
                  refine z_iaddN (a := 51) (b := h) rfl rfl dX12_takenByLine_160 ?_
                  refine z_ialdV (j := (51 + h)) rfl (by omega) (C.s (51 + h) (by omega)) dX12_takenByLine_161 k0_128 s0_128 ?_
                  refine z_aload_n dX12_takenByLine_162 rfl ?_
                  refine z_getR (j := 0) (r := 128) kX12 lf_X12_7 (by decide) rfl dX12_takenByLine_163 k0_127 s0_127 r0_127_0 (by decide) ?_
                  refine z_bipush (v := 55) dX12_takenByLine_166 (by decide) ?_
                  refine z_iload dX12_takenByLine_168 rfl ?_
                  refine z_iaddN (a := 55) (b := h) rfl rfl dX12_takenByLine_170 ?_
                  refine z_ialdV (j := (55 + h)) rfl (by omega) (C.s (55 + h) (by omega)) dX12_takenByLine_171 k0_128 s0_128 ?_
                  obtain ⟨⟨a, ha, ea⟩, ⟨t, ht, et⟩⟩ := ok.s.2.2.1 h hn
                  rw [ea, et]
                  refine z_iV3 (c_miles0 g l ok C ha ht) mw_X12_milesOn lm_X12_199 mi_X12_milesOn mv_X12_milesOn kX12 (by decide) (Nat.le_of_ble_eq_true rfl) zle k0_127 s0_127 dX12_takenByLine_172 (fun r172 M172 q172 => ?_)
                  obtain ⟨qr172, qm172⟩ := q172
                  obtain rfl := qr172.symm
                  obtain rfl := qm172.symm
                  rw [← ea, ← et]
                  refine z_iS2 (c_X12_takes g l) mw_X12_takes lm_X12_180 ms_X12_takes (by decide) (Nat.le_of_ble_eq_true rfl) zle dX12_takenByLine_175 (fun r175 M175 q175 => ?_)
                  obtain ⟨qr175, qm175⟩ := q175
                  obtain rfl := qr175.symm
                  obtain rfl := qm175.symm
                  refine z_goto (tgt := 182) dX12_takenByLine_178 (by decide) ?_
                  refine z_iadd dX12_takenByLine_182 ?_
                  refine z_istore_n dX12_takenByLine_183 (by decide) rfl rfl ?_
                  refine z_iincN (k := h) dX12_takenByLine_184 rfl rfl (by decide) rfl rfl ?_
                  refine z_goto (tgt := 9) dX12_takenByLine_187 (by decide) ?_
                  first
                    | exact zA.sub (ih (h + 1) (by omega) (by omega)) rfl ⟨Or.inr rfl, Or.inr (congrArg (fun z => some (Value.int z)) (by rw [e9]; show _ = nI (if e h < A.n then (tk A.s A.n e h).2.2 + tkT A.s h (e h) else (tk A.s A.n e h).2.2); rw [if_pos hd, (tkT_in ok.s hn hd).2]; exact nI_adds _ _)), Or.inr (congrArg (fun z => some (Value.int z)) (by rw [e9]; exact ((if_pos hd).symm))), Or.inr (congrArg (fun z => some (Value.int z)) ((if_pos hx).symm)), Or.inr rfl, Or.inl rfl, Or.inl rfl, trivial⟩
                    | exact zA.sub (ih (h + 1) (by omega) (by omega)) rfl ⟨Or.inr rfl, Or.inr (congrArg (fun z => some (Value.int z)) (by rw [e9]; show _ = nI (if e h < A.n then (tk A.s A.n e h).2.2 + tkT A.s h (e h) else (tk A.s A.n e h).2.2); rw [if_pos hd, (tkT_in ok.s hn hd).2]; exact nI_adds _ _)), Or.inr (congrArg (fun z => some (Value.int z)) (by rw [e9]; exact ((if_pos hd).symm))), Or.inr (congrArg (fun z => some (Value.int z)) ((if_neg (by rw [hx]; decide)).symm)), Or.inr rfl, Or.inl rfl, Or.inl rfl, trivial⟩
                    | exact zA.sub (ih (h + 1) (by omega) (by omega)) rfl ⟨Or.inr rfl, Or.inr (congrArg (fun z => some (Value.int z)) (by rw [e9]; show _ = nI (if e h < A.n then (tk A.s A.n e h).2.2 + tkT A.s h (e h) else (tk A.s A.n e h).2.2); rw [if_neg hd]; exact Int32.add_zero _)), Or.inr (congrArg (fun z => some (Value.int z)) (by rw [e9]; exact (((Int32.or_zero).trans (if_neg hd).symm)))), Or.inr (congrArg (fun z => some (Value.int z)) ((if_pos hx).symm)), Or.inr rfl, Or.inl rfl, Or.inl rfl, trivial⟩
                    | exact zA.sub (ih (h + 1) (by omega) (by omega)) rfl ⟨Or.inr rfl, Or.inr (congrArg (fun z => some (Value.int z)) (by rw [e9]; show _ = nI (if e h < A.n then (tk A.s A.n e h).2.2 + tkT A.s h (e h) else (tk A.s A.n e h).2.2); rw [if_neg hd]; exact Int32.add_zero _)), Or.inr (congrArg (fun z => some (Value.int z)) (by rw [e9]; exact (((Int32.or_zero).trans (if_neg hd).symm)))), Or.inr (congrArg (fun z => some (Value.int z)) ((if_neg (by rw [hx]; decide)).symm)), Or.inr rfl, Or.inl rfl, Or.inl rfl, trivial⟩
            · exact absurd b59 (by decide)

set_option maxRecDepth 100000 in
set_option maxHeartbeats 4000000 in
theorem c_X12_takenByLine (g : zG) (l : Launch) {M : zM} {A : aSt} (ok : aOK A) (C : RelM M A) {e : Nat → Nat} (hl : ∀ j, j < 4 → M 146 j = nI (e j)) (he : ∀ j, j < A.r → e j ≤ A.n) : zMet g l yX12_takenByLine cX12_takenByLine 7 (some .int) 1 0 0 [.ref 127] S0 M (zQi (fun r' M' => r' = nI (byL A.s A.n A.r e) ∧ M' = M)) := by
  refine zMet.of (by decide) (Nat.le_of_ble_eq_true rfl) ?_
  refine z_iconst (v := 0) dX12_takenByLine_0 (by decide) ?_
  refine z_istore_n dX12_takenByLine_1 (by decide) rfl rfl ?_
  refine z_iconst (v := 0) dX12_takenByLine_2 (by decide) ?_
  refine z_istore_n dX12_takenByLine_3 (by decide) rfl rfl ?_
  refine z_iconst (v := 1) dX12_takenByLine_4 (by decide) ?_
  refine z_istore_n dX12_takenByLine_5 (by decide) rfl rfl ?_
  refine z_iconst (v := 0) dX12_takenByLine_6 (by decide) ?_
  refine z_istore dX12_takenByLine_7 (by decide) rfl rfl ?_
  exact lp_taken g l ok C hl he (A.r + 1) 0 (Nat.zero_le _) (by omega)

set_option maxRecDepth 100000 in
set_option maxHeartbeats 4000000 in
theorem lp_next1 (g : zG) (l : Launch) {M0 : zM} {A : aSt} (ok : aOK A) (C : RelM M0 A) {e : Nat → Nat} (hl : ∀ j, j < 4 → M0 146 j = nI (e j)) {q : Nat} (hq : q < A.r) (h1 : e q < A.n) (h2 : ∀ j, q < j → j < A.r → e j = A.n) : ∀ (d : Nat), q + d < A.r → zA g l yX12_nextLine cX12_nextLine 2 (some .boolean) 0 0 0 (zQi (fun r' M' => r' = 1 ∧ M' = z_row M0 146 (fun j => if q + 1 ≤ j ∧ j < A.r then 0 else if j = q then nI (e q + 1) else M0 146 j))) 9 0 0 S0 (z_row M0 146 (fun j => if (q + d + 1) ≤ j ∧ j < A.r then 0 else M0 146 j)) [.ref 127, .int (nI (q + d))] [] := by
  have n8 : A.n ≤ 8 := ok.s.1.1
  have r4 : A.r ≤ 4 := ok.s.1.2.1
  have i6 : A.i ≤ 6 := ok.s.1.2.2.1
  have u8 : A.u ≤ 8 := ok.u
  intro d
  induction d with
  | zero =>
    intro hd
    refine z_iload_n dX12_nextLine_9 rfl ?_
    refine z_if_lt (tgt := 41) dX12_nextLine_10 (by decide) (fun b10 => ?_) (fun b10 => ?_)
    · exact absurd b10 (nI_pos (by omega))
    · refine z_aload_n dX12_nextLine_13 rfl ?_
      refine z_getR (j := 30) (r := 146) kX12 lf_X12_65 (by decide) rfl dX12_nextLine_14 k0_127 s0_127 r0_127_30 (by decide) ?_
      refine z_iload_n dX12_nextLine_17 rfl ?_
      refine z_ialdV (j := (q + 0)) rfl (by omega) ((congrFun (z_row_s _ _ _) _).trans ((if_neg (by omega)).trans (hl (q + 0) (by omega)))) dX12_nextLine_18 k0_146 s0_146 ?_
      refine z_aload_n dX12_nextLine_19 rfl ?_
      refine z_getR (j := 0) (r := 128) kX12 lf_X12_7 (by decide) rfl dX12_nextLine_20 k0_127 s0_127 r0_127_0 (by decide) ?_
      refine z_iconst (v := 0) dX12_nextLine_23 (by decide) ?_
      refine z_ialdV (j := 0) rfl (by decide) ((congrFun (z_row_n _ _ (by omega)) 0).trans ((C.s 0 (by omega)).trans ok.s.1.2.2.2.1)) dX12_nextLine_24 k0_128 s0_128 ?_
      refine z_icmp_ne (tgt := 41) dX12_nextLine_25 (by decide) (fun b25 => ?_) (fun b25 => ?_)
      · refine z_iload_n dX12_nextLine_41 rfl ?_
        refine z_if_lt (tgt := 55) dX12_nextLine_42 (by decide) (fun b42 => ?_) (fun b42 => ?_)
        · exact absurd b42 (nI_pos (by omega))
        · refine z_aload_n dX12_nextLine_45 rfl ?_
          refine z_getR (j := 30) (r := 146) kX12 lf_X12_65 (by decide) rfl dX12_nextLine_46 k0_127 s0_127 r0_127_30 (by decide) ?_
          refine z_iload_n dX12_nextLine_49 rfl ?_
          refine z_dup2 dX12_nextLine_50 rfl rfl ?_
          refine z_ialdV (j := (q + 0)) rfl (by omega) ((congrFun (z_row_s _ _ _) _).trans ((if_neg (by omega)).trans (hl (q + 0) (by omega)))) dX12_nextLine_51 k0_146 s0_146 ?_
          refine z_iconst (v := 1) dX12_nextLine_52 (by decide) ?_
          refine z_iaddN (a := (e (q + 0))) (b := 1) rfl rfl dX12_nextLine_53 ?_
          refine z_iastN (j := (q + 0)) rfl (by omega) dX12_nextLine_54 k0_146 s0_146 ?_
          refine z_iload_n dX12_nextLine_55 rfl ?_
          refine z_if_lt (tgt := 63) dX12_nextLine_56 (by decide) (fun b56 => ?_) (fun b56 => ?_)
          · exact absurd b56 (nI_pos (by omega))
          · refine z_iconst (v := 1) dX12_nextLine_59 (by decide) ?_
            refine z_goto (tgt := 64) dX12_nextLine_60 (by decide) ?_
            refine z_iret dX12_nextLine_64 rfl zle ?_
            refine ⟨rfl, ?_⟩
            funext k
            by_cases c : k = 146
            · subst c
              rw [z_up_s, z_row_s, z_row_s]
              funext j
              by_cases c2 : j = q
              · subst c2; rw [show j + 0 = j from rfl, upd_s, if_neg (by omega), if_pos rfl]
              · rw [show q + 0 = q from rfl, upd_n _ _ c2, if_neg c2]
            · rw [z_up_n _ _ _ c, z_row_n _ _ c, z_row_n _ _ c]
      · exact absurd (show e q = A.n from (nI_eq (a := e q) (b := A.n) (by omega) (by omega)).mp b25) (by omega)
  | succ d ih =>
    intro hd
    refine z_iload_n dX12_nextLine_9 rfl ?_
    refine z_if_lt (tgt := 41) dX12_nextLine_10 (by decide) (fun b10 => ?_) (fun b10 => ?_)
    · exact absurd b10 (nI_pos (by omega))
    · refine z_aload_n dX12_nextLine_13 rfl ?_
      refine z_getR (j := 30) (r := 146) kX12 lf_X12_65 (by decide) rfl dX12_nextLine_14 k0_127 s0_127 r0_127_30 (by decide) ?_
      refine z_iload_n dX12_nextLine_17 rfl ?_
      refine z_ialdV (j := (q + (d + 1))) rfl (by omega) ((congrFun (z_row_s _ _ _) _).trans ((if_neg (by omega)).trans (hl (q + (d + 1)) (by omega)))) dX12_nextLine_18 k0_146 s0_146 ?_
      refine z_aload_n dX12_nextLine_19 rfl ?_
      refine z_getR (j := 0) (r := 128) kX12 lf_X12_7 (by decide) rfl dX12_nextLine_20 k0_127 s0_127 r0_127_0 (by decide) ?_
      refine z_iconst (v := 0) dX12_nextLine_23 (by decide) ?_
      refine z_ialdV (j := 0) rfl (by decide) ((congrFun (z_row_n _ _ (by omega)) 0).trans ((C.s 0 (by omega)).trans ok.s.1.2.2.2.1)) dX12_nextLine_24 k0_128 s0_128 ?_
      refine z_icmp_ne (tgt := 41) dX12_nextLine_25 (by decide) (fun b25 => ?_) (fun b25 => ?_)
      · exact absurd (by rw [h2 (q + (d + 1)) (by omega) hd]) b25
      · refine z_aload_n dX12_nextLine_28 rfl ?_
        refine z_getR (j := 30) (r := 146) kX12 lf_X12_65 (by decide) rfl dX12_nextLine_29 k0_127 s0_127 r0_127_30 (by decide) ?_
        refine z_iload_n dX12_nextLine_32 rfl ?_
        refine z_iconst (v := 0) dX12_nextLine_33 (by decide) ?_
        refine z_iastN (j := (q + (d + 1))) rfl (by omega) dX12_nextLine_34 k0_146 s0_146 ?_
        refine z_iinc (v := nI (q + d)) dX12_nextLine_35 rfl (by rw [show q + (d + 1) = (q + d) + 1 by omega]; exact (nI_dec _).trans (nI_pred (q + d))) (by decide) rfl rfl ?_
        refine z_goto (tgt := 9) dX12_nextLine_38 (by decide) ?_
        refine zA.sub (ih (by omega)) ?_ ⟨Or.inr rfl, Or.inr rfl, trivial⟩
        exact (show z_up (z_row M0 146 (fun j => if (q + d + 1) + 1 ≤ j ∧ j < A.r then 0 else M0 146 j)) 146 (q + (d + 1)) 0 = (z_row M0 146 (fun j => if (q + d + 1) ≤ j ∧ j < A.r then 0 else M0 146 j)) from by
                  funext k
                  by_cases c : k = 146
                  · subst c
                    rw [z_up_s, z_row_s, z_row_s]
                    funext j
                    by_cases c2 : j = (q + (d + 1))
                    · subst c2; rw [upd_s, if_pos (by omega)]
                    · rw [upd_n _ _ c2]
                      by_cases c3 : (q + d + 1) + 1 ≤ j ∧ j < A.r
                      · rw [if_pos c3, if_pos (by omega)]
                      · rw [if_neg c3, if_neg (by omega)]
                  · rw [z_up_n _ _ _ c, z_row_n _ _ c, z_row_n _ _ c])

set_option maxRecDepth 100000 in
set_option maxHeartbeats 4000000 in
theorem lp_next0 (g : zG) (l : Launch) {M0 : zM} {A : aSt} (ok : aOK A) (C : RelM M0 A) {e : Nat → Nat} (hl : ∀ j, j < 4 → M0 146 j = nI (e j)) (h2 : ∀ j, j < A.r → e j = A.n) : ∀ (s : Nat), s < A.r → zA g l yX12_nextLine cX12_nextLine 2 (some .boolean) 0 0 0 (zQi (fun r' M' => r' = 0 ∧ M' = (z_row M0 146 (fun j => if 0 ≤ j ∧ j < A.r then 0 else M0 146 j)))) 9 0 0 S0 (z_row M0 146 (fun j => if (s + 1) ≤ j ∧ j < A.r then 0 else M0 146 j)) [.ref 127, .int (nI s)] [] := by
  have n8 : A.n ≤ 8 := ok.s.1.1
  have r4 : A.r ≤ 4 := ok.s.1.2.1
  have i6 : A.i ≤ 6 := ok.s.1.2.2.1
  have u8 : A.u ≤ 8 := ok.u
  intro s
  induction s with
  | zero =>
    intro hd
    refine z_iload_n dX12_nextLine_9 rfl ?_
    refine z_if_lt (tgt := 41) dX12_nextLine_10 (by decide) (fun b10 => ?_) (fun b10 => ?_)
    · exact absurd b10 (by decide)
    · refine z_aload_n dX12_nextLine_13 rfl ?_
      refine z_getR (j := 30) (r := 146) kX12 lf_X12_65 (by decide) rfl dX12_nextLine_14 k0_127 s0_127 r0_127_30 (by decide) ?_
      refine z_iload_n dX12_nextLine_17 rfl ?_
      refine z_ialdV (j := 0) rfl (by decide) ((congrFun (z_row_s _ _ _) _).trans ((if_neg (by omega)).trans (hl (0) (by omega)))) dX12_nextLine_18 k0_146 s0_146 ?_
      refine z_aload_n dX12_nextLine_19 rfl ?_
      refine z_getR (j := 0) (r := 128) kX12 lf_X12_7 (by decide) rfl dX12_nextLine_20 k0_127 s0_127 r0_127_0 (by decide) ?_
      refine z_iconst (v := 0) dX12_nextLine_23 (by decide) ?_
      refine z_ialdV (j := 0) rfl (by decide) ((congrFun (z_row_n _ _ (by omega)) 0).trans ((C.s 0 (by omega)).trans ok.s.1.2.2.2.1)) dX12_nextLine_24 k0_128 s0_128 ?_
      refine z_icmp_ne (tgt := 41) dX12_nextLine_25 (by decide) (fun b25 => ?_) (fun b25 => ?_)
      · exact absurd (by rw [h2 0 hd]) b25
      · refine z_aload_n dX12_nextLine_28 rfl ?_
        refine z_getR (j := 30) (r := 146) kX12 lf_X12_65 (by decide) rfl dX12_nextLine_29 k0_127 s0_127 r0_127_30 (by decide) ?_
        refine z_iload_n dX12_nextLine_32 rfl ?_
        refine z_iconst (v := 0) dX12_nextLine_33 (by decide) ?_
        refine z_iastN (j := 0) rfl (by decide) dX12_nextLine_34 k0_146 s0_146 ?_
        refine z_iinc (v := (-1)) dX12_nextLine_35 rfl (by decide) (by decide) rfl rfl ?_
        refine z_goto (tgt := 9) dX12_nextLine_38 (by decide) ?_
        refine z_iload_n dX12_nextLine_9 rfl ?_
        refine z_if_lt (tgt := 41) dX12_nextLine_10 (by decide) (fun b10 => ?_) (fun b10 => ?_)
        · refine z_iload_n dX12_nextLine_41 rfl ?_
          refine z_if_lt (tgt := 55) dX12_nextLine_42 (by decide) (fun b42 => ?_) (fun b42 => ?_)
          · refine z_iload_n dX12_nextLine_55 rfl ?_
            refine z_if_lt (tgt := 63) dX12_nextLine_56 (by decide) (fun b56 => ?_) (fun b56 => ?_)
            · refine z_iconst (v := 0) dX12_nextLine_63 (by decide) ?_
              refine z_iret dX12_nextLine_64 rfl zle ?_
              refine ⟨rfl, ?_⟩
              exact (show z_up (z_row M0 146 (fun j => if 0 + 1 ≤ j ∧ j < A.r then 0 else M0 146 j)) 146 0 0 = (z_row M0 146 (fun j => if 0 ≤ j ∧ j < A.r then 0 else M0 146 j)) from by
                        funext k
                        by_cases c : k = 146
                        · subst c
                          rw [z_up_s, z_row_s, z_row_s]
                          funext j
                          by_cases c2 : j = 0
                          · subst c2; rw [upd_s, if_pos (by omega)]
                          · rw [upd_n _ _ c2]
                            by_cases c3 : 0 + 1 ≤ j ∧ j < A.r
                            · rw [if_pos c3, if_pos (by omega)]
                            · rw [if_neg c3, if_neg (by omega)]
                        · rw [z_up_n _ _ _ c, z_row_n _ _ c, z_row_n _ _ c])
            · exact absurd b56 (by decide)
          · exact absurd b42 (by decide)
        · exact absurd b10 (by decide)
  | succ s ih =>
    intro hd
    refine z_iload_n dX12_nextLine_9 rfl ?_
    refine z_if_lt (tgt := 41) dX12_nextLine_10 (by decide) (fun b10 => ?_) (fun b10 => ?_)
    · exact absurd b10 (nI_pos (by omega))
    · refine z_aload_n dX12_nextLine_13 rfl ?_
      refine z_getR (j := 30) (r := 146) kX12 lf_X12_65 (by decide) rfl dX12_nextLine_14 k0_127 s0_127 r0_127_30 (by decide) ?_
      refine z_iload_n dX12_nextLine_17 rfl ?_
      refine z_ialdV (j := (s + 1)) rfl (by omega) ((congrFun (z_row_s _ _ _) _).trans ((if_neg (by omega)).trans (hl (s + 1) (by omega)))) dX12_nextLine_18 k0_146 s0_146 ?_
      refine z_aload_n dX12_nextLine_19 rfl ?_
      refine z_getR (j := 0) (r := 128) kX12 lf_X12_7 (by decide) rfl dX12_nextLine_20 k0_127 s0_127 r0_127_0 (by decide) ?_
      refine z_iconst (v := 0) dX12_nextLine_23 (by decide) ?_
      refine z_ialdV (j := 0) rfl (by decide) ((congrFun (z_row_n _ _ (by omega)) 0).trans ((C.s 0 (by omega)).trans ok.s.1.2.2.2.1)) dX12_nextLine_24 k0_128 s0_128 ?_
      refine z_icmp_ne (tgt := 41) dX12_nextLine_25 (by decide) (fun b25 => ?_) (fun b25 => ?_)
      · exact absurd (by rw [h2 (s + 1) hd]) b25
      · refine z_aload_n dX12_nextLine_28 rfl ?_
        refine z_getR (j := 30) (r := 146) kX12 lf_X12_65 (by decide) rfl dX12_nextLine_29 k0_127 s0_127 r0_127_30 (by decide) ?_
        refine z_iload_n dX12_nextLine_32 rfl ?_
        refine z_iconst (v := 0) dX12_nextLine_33 (by decide) ?_
        refine z_iastN (j := (s + 1)) rfl (by omega) dX12_nextLine_34 k0_146 s0_146 ?_
        refine z_iinc (v := nI s) dX12_nextLine_35 rfl ((nI_dec _).trans (nI_pred s)) (by decide) rfl rfl ?_
        refine z_goto (tgt := 9) dX12_nextLine_38 (by decide) ?_
        refine zA.sub (ih (by omega)) ?_ ⟨Or.inr rfl, Or.inr rfl, trivial⟩
        exact (show z_up (z_row M0 146 (fun j => if (s + 1) + 1 ≤ j ∧ j < A.r then 0 else M0 146 j)) 146 (s + 1) 0 = (z_row M0 146 (fun j => if (s + 1) ≤ j ∧ j < A.r then 0 else M0 146 j)) from by
                  funext k
                  by_cases c : k = 146
                  · subst c
                    rw [z_up_s, z_row_s, z_row_s]
                    funext j
                    by_cases c2 : j = (s + 1)
                    · subst c2; rw [upd_s, if_pos (by omega)]
                    · rw [upd_n _ _ c2]
                      by_cases c3 : (s + 1) + 1 ≤ j ∧ j < A.r
                      · rw [if_pos c3, if_pos (by omega)]
                      · rw [if_neg c3, if_neg (by omega)]
                  · rw [z_up_n _ _ _ c, z_row_n _ _ c, z_row_n _ _ c])

set_option maxRecDepth 100000 in
set_option maxHeartbeats 4000000 in
theorem c_X12_nextLine1 (g : zG) (l : Launch) {M0 : zM} {A : aSt} (ok : aOK A) (C : RelM M0 A) {e : Nat → Nat} (hl : ∀ j, j < 4 → M0 146 j = nI (e j)) {q : Nat} (hq : q < A.r) (h1 : e q < A.n) (h2 : ∀ j, q < j → j < A.r → e j = A.n) : zMet g l yX12_nextLine cX12_nextLine 2 (some .boolean) 0 0 0 [.ref 127] S0 M0 (zQi (fun r' M' => r' = 1 ∧ M' = z_row M0 146 (fun j => if q + 1 ≤ j ∧ j < A.r then 0 else if j = q then nI (e q + 1) else M0 146 j))) := by
  have n8 : A.n ≤ 8 := ok.s.1.1
  have r4 : A.r ≤ 4 := ok.s.1.2.1
  have i6 : A.i ≤ 6 := ok.s.1.2.2.1
  have u8 : A.u ≤ 8 := ok.u
  refine zMet.of (by decide) (Nat.le_of_ble_eq_true rfl) ?_
  refine z_aload_n dX12_nextLine_0 rfl ?_
  refine z_getR (j := 0) (r := 128) kX12 lf_X12_7 (by decide) rfl dX12_nextLine_1 k0_127 s0_127 r0_127_0 (by decide) ?_
  refine z_iconst (v := 1) dX12_nextLine_4 (by decide) ?_
  refine z_ialdV (j := 1) rfl (by decide) ((C.s 1 (by omega)).trans ok.s.1.2.2.2.2.1) dX12_nextLine_5 k0_128 s0_128 ?_
  refine z_iconst (v := 1) dX12_nextLine_6 (by decide) ?_
  refine z_isub dX12_nextLine_7 ?_
  refine z_as (x' := nI (A.r - 1)) ((nI_subs (b := 1) (by omega))) ?_
  refine z_istore_n dX12_nextLine_8 (by decide) rfl rfl ?_
  have h0 := lp_next1 g l ok C hl hq h1 h2 (A.r - 1 - q) (by omega)
  rw [show q + (A.r - 1 - q) = A.r - 1 by omega] at h0
  exact zA.sub h0 (show M0 = z_row M0 146 (fun j => if A.r - 1 + 1 ≤ j ∧ j < A.r then 0 else M0 146 j) from by
        funext k
        by_cases c : k = 146
        · subst c
          rw [z_row_s]
          funext j
          exact (if_neg (by omega)).symm
        · rw [z_row_n _ _ c]) ⟨Or.inr rfl, Or.inr rfl, trivial⟩

set_option maxRecDepth 100000 in
set_option maxHeartbeats 4000000 in
theorem c_X12_nextLine0 (g : zG) (l : Launch) {M0 : zM} {A : aSt} (ok : aOK A) (C : RelM M0 A) {e : Nat → Nat} (hl : ∀ j, j < 4 → M0 146 j = nI (e j)) (h2 : ∀ j, j < A.r → e j = A.n) : zMet g l yX12_nextLine cX12_nextLine 2 (some .boolean) 0 0 0 [.ref 127] S0 M0 (zQi (fun r' M' => r' = 0 ∧ M' = (z_row M0 146 (fun j => if 0 ≤ j ∧ j < A.r then 0 else M0 146 j)))) := by
  have n8 : A.n ≤ 8 := ok.s.1.1
  have r4 : A.r ≤ 4 := ok.s.1.2.1
  have i6 : A.i ≤ 6 := ok.s.1.2.2.1
  have u8 : A.u ≤ 8 := ok.u
  refine zMet.of (by decide) (Nat.le_of_ble_eq_true rfl) ?_
  refine z_aload_n dX12_nextLine_0 rfl ?_
  refine z_getR (j := 0) (r := 128) kX12 lf_X12_7 (by decide) rfl dX12_nextLine_1 k0_127 s0_127 r0_127_0 (by decide) ?_
  refine z_iconst (v := 1) dX12_nextLine_4 (by decide) ?_
  refine z_ialdV (j := 1) rfl (by decide) ((C.s 1 (by omega)).trans ok.s.1.2.2.2.2.1) dX12_nextLine_5 k0_128 s0_128 ?_
  refine z_iconst (v := 1) dX12_nextLine_6 (by decide) ?_
  refine z_isub dX12_nextLine_7 ?_
  refine z_istore_n dX12_nextLine_8 (by decide) rfl rfl ?_
  rcases Nat.eq_zero_or_pos A.r with hr | hr
  · refine zA.sub (lo' := [.ref 127, .int (-1)]) (M' := M0) ?_ rfl ⟨Or.inr rfl, Or.inr (congrArg (fun z => some (Value.int z)) (by rw [hr]; decide)), trivial⟩
    refine z_iload_n dX12_nextLine_9 rfl ?_
    refine z_if_lt (tgt := 41) dX12_nextLine_10 (by decide) (fun b10 => ?_) (fun b10 => ?_)
    · refine z_iload_n dX12_nextLine_41 rfl ?_
      refine z_if_lt (tgt := 55) dX12_nextLine_42 (by decide) (fun b42 => ?_) (fun b42 => ?_)
      · refine z_iload_n dX12_nextLine_55 rfl ?_
        refine z_if_lt (tgt := 63) dX12_nextLine_56 (by decide) (fun b56 => ?_) (fun b56 => ?_)
        · refine z_iconst (v := 0) dX12_nextLine_63 (by decide) ?_
          refine z_iret dX12_nextLine_64 rfl zle ?_
          refine ⟨rfl, ?_⟩
          funext k
          by_cases c : k = 146
          · subst c
            rw [z_row_s]
            funext j
            exact (if_neg (by omega)).symm
          · rw [z_row_n _ _ c]
        · exact absurd b56 (by decide)
      · exact absurd b42 (by decide)
    · exact absurd b10 (by decide)
  · have h0 := lp_next0 g l ok C hl h2 (A.r - 1) (by omega)
    refine zA.sub h0 (show M0 = z_row M0 146 (fun j => if A.r - 1 + 1 ≤ j ∧ j < A.r then 0 else M0 146 j) from by
          funext k
          by_cases c : k = 146
          · subst c
            rw [z_row_s]
            funext j
            exact (if_neg (by omega)).symm
          · rw [z_row_n _ _ c]) ⟨Or.inr rfl, Or.inr (congrArg (fun z => some (Value.int z)) (nI_subs (b := 1) (by omega))), trivial⟩

