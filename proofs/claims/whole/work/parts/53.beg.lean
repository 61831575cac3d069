/-! ===== where the law begins ===== -/
def aBeg : aSt := aSt.mk (0, 0, 0) (fun _ => 0) (0, fun _ _ => 0) (fun _ => false, fun _ _ => 0) (fun _ => 0) (0, fun _ => 0) (0, fun _ => 0, fun _ => 0, fun _ => 0) (fun _ => false, fun _ => 0, fun _ _ => 0, fun _ _ => 0)
theorem z_up_j0 (M : zM) (k j x : Nat) (v : Int32) {i : Nat} (h : i ≠ j) : z_up M k j v x i = M x i := by
  by_cases c : x = k
  · rw [c, z_up_s, upd_n _ _ h]
  · rw [z_up_n _ _ _ c]
theorem zI_far (k j : Nat) (h : 8 ≤ j) : zI47 k j = 0 := by
  have h0 : zI0 k j = 0 := rfl
  have h1 : zI1 k j = 0 := (z_up_j0 zI0 115 2 k (-1) (by omega)).trans h0
  have h2 : zI2 k j = 0 := (z_up_j0 zI1 118 2 k (-1) (by omega)).trans h1
  have h3 : zI3 k j = 0 := (z_up_j0 zI2 121 2 k (-1) (by omega)).trans h2
  have h4 : zI4 k j = 0 := (z_up_j0 zI3 124 2 k (-1) (by omega)).trans h3
  have h5 : zI5 k j = 0 := (z_up_j0 zI4 134 0 k (-1) (by omega)).trans h4
  have h6 : zI6 k j = 0 := (z_up_j0 zI5 134 1 k (-1) (by omega)).trans h5
  have h7 : zI7 k j = 0 := (z_up_j0 zI6 134 2 k (-1) (by omega)).trans h6
  have h8 : zI8 k j = 0 := (z_up_j0 zI7 134 3 k (-1) (by omega)).trans h7
  have h9 : zI9 k j = 0 := (z_up_j0 zI8 138 0 k 114 (by omega)).trans h8
  have h10 : zI10 k j = 0 := (z_up_j0 zI9 138 1 k 111 (by omega)).trans h9
  have h11 : zI11 k j = 0 := (z_up_j0 zI10 138 2 k 97 (by omega)).trans h10
  have h12 : zI12 k j = 0 := (z_up_j0 zI11 138 3 k 100 (by omega)).trans h11
  have h13 : zI13 k j = 0 := (z_up_j0 zI12 139 0 k 105 (by omega)).trans h12
  have h14 : zI14 k j = 0 := (z_up_j0 zI13 139 1 k 110 (by omega)).trans h13
  have h15 : zI15 k j = 0 := (z_up_j0 zI14 139 2 k 110 (by omega)).trans h14
  have h16 : zI16 k j = 0 := (z_up_j0 zI15 140 0 k 104 (by omega)).trans h15
  have h17 : zI17 k j = 0 := (z_up_j0 zI16 140 1 k 97 (by omega)).trans h16
  have h18 : zI18 k j = 0 := (z_up_j0 zI17 140 2 k 99 (by omega)).trans h17
  have h19 : zI19 k j = 0 := (z_up_j0 zI18 140 3 k 107 (by omega)).trans h18
  have h20 : zI20 k j = 0 := (z_up_j0 zI19 141 0 k 118 (by omega)).trans h19
  have h21 : zI21 k j = 0 := (z_up_j0 zI20 141 1 k 105 (by omega)).trans h20
  have h22 : zI22 k j = 0 := (z_up_j0 zI21 141 2 k 99 (by omega)).trans h21
  have h23 : zI23 k j = 0 := (z_up_j0 zI22 141 3 k 105 (by omega)).trans h22
  have h24 : zI24 k j = 0 := (z_up_j0 zI23 141 4 k 111 (by omega)).trans h23
  have h25 : zI25 k j = 0 := (z_up_j0 zI24 141 5 k 117 (by omega)).trans h24
  have h26 : zI26 k j = 0 := (z_up_j0 zI25 141 6 k 115 (by omega)).trans h25
  have h27 : zI27 k j = 0 := (z_up_j0 zI26 142 0 k 100 (by omega)).trans h26
  have h28 : zI28 k j = 0 := (z_up_j0 zI27 142 1 k 97 (by omega)).trans h27
  have h29 : zI29 k j = 0 := (z_up_j0 zI28 142 2 k 119 (by omega)).trans h28
  have h30 : zI30 k j = 0 := (z_up_j0 zI29 142 3 k 110 (by omega)).trans h29
  have h31 : zI31 k j = 0 := (z_up_j0 zI30 143 0 k 103 (by omega)).trans h30
  have h32 : zI32 k j = 0 := (z_up_j0 zI31 143 1 k 114 (by omega)).trans h31
  have h33 : zI33 k j = 0 := (z_up_j0 zI32 143 2 k 101 (by omega)).trans h32
  have h34 : zI34 k j = 0 := (z_up_j0 zI33 143 3 k 121 (by omega)).trans h33
  have h35 : zI35 k j = 0 := (z_up_j0 zI34 144 0 k 109 (by omega)).trans h34
  have h36 : zI36 k j = 0 := (z_up_j0 zI35 144 1 k 105 (by omega)).trans h35
  have h37 : zI37 k j = 0 := (z_up_j0 zI36 144 2 k 100 (by omega)).trans h36
  have h38 : zI38 k j = 0 := (z_up_j0 zI37 144 3 k 110 (by omega)).trans h37
  have h39 : zI39 k j = 0 := (z_up_j0 zI38 144 4 k 105 (by omega)).trans h38
  have h40 : zI40 k j = 0 := (z_up_j0 zI39 144 5 k 103 (by omega)).trans h39
  have h41 : zI41 k j = 0 := (z_up_j0 zI40 144 6 k 104 (by omega)).trans h40
  have h42 : zI42 k j = 0 := (z_up_j0 zI41 144 7 k 116 (by omega)).trans h41
  have h43 : zI43 k j = 0 := (z_up_j0 zI42 145 0 k 114 (by omega)).trans h42
  have h44 : zI44 k j = 0 := (z_up_j0 zI43 145 1 k 105 (by omega)).trans h43
  have h45 : zI45 k j = 0 := (z_up_j0 zI44 145 2 k 100 (by omega)).trans h44
  have h46 : zI46 k j = 0 := (z_up_j0 zI45 145 3 k 101 (by omega)).trans h45
  have h47 : zI47 k j = 0 := (z_up_j0 zI46 145 4 k 114 (by omega)).trans h46
  exact h47
theorem S0i_far (k j : Nat) (h : 8 ≤ j) : S0i k j = 0 := by
  have hs : ∀ (c : Prop) (_ : Decidable c) (f g : Nat → Int32), f j = 0 → g j = 0 → (if c then f else g) j = 0 := by
    intro c _ f g hf hg
    by_cases q : c
    · rw [if_pos q]; exact hf
    · rw [if_neg q]; exact hg
  unfold S0i
  refine hs _ _ _ _ ?_ (hs _ _ _ _ ?_ (hs _ _ _ _ ?_ (hs _ _ _ _ ?_ (hs _ _ _ _ ?_ (hs _ _ _ _ ?_ (hs _ _ _ _ ?_ (hs _ _ _ _ ?_ rfl)))))))
  all_goals
    try dsimp only
    repeat (rw [if_neg (by omega)])
theorem dOK_0 : dOK (fun _ => 0) 0 0 0 := ⟨⟨by omega, by omega, by omega, rfl, rfl, rfl⟩, fun h hh => absurd hh (Nat.not_lt_zero h), fun h hh => absurd hh (Nat.not_lt_zero h), fun h hh => absurd hh (Nat.not_lt_zero h)⟩
theorem aBeg_ok : aOK aBeg := by
  refine ⟨dOK_0, fun j hj => absurd hj (Nat.not_lt_zero j), fun k _ hk => ?_, dOK_0, ⟨rfl, fun _ _ => ⟨rfl, rfl⟩, fun _ _ => rfl, fun h hh => absurd hh (Nat.not_lt_zero h)⟩, Nat.zero_le _, Nat.zero_le _, Nat.zero_le _, fun b _ => ⟨Nat.zero_le _, fun _ => rfl⟩, fun b _ j _ => ⟨⟨0, by omega, rfl⟩, fun _ => ⟨0, by omega, rfl⟩⟩⟩
  exact absurd (show false = true from hk) (by decide)
theorem aBeg_told : dTold zI47 (fun _ => 0) 0 0 0 := ⟨by decide +kernel, by decide +kernel, by decide +kernel, fun j hj => absurd hj (Nat.not_lt_zero j), fun j hj => absurd hj (Nat.not_lt_zero j)⟩
theorem aBeg_day : dRep zI47 18 (fun _ => 0) 0 0 0 := by
  refine ⟨aBeg_told, by decide +kernel, fun k hk => ?_, fun j hj => absurd hj (Nat.not_lt_zero j), fun j hj => absurd hj (Nat.not_lt_zero j)⟩
  rw [show zI47 18 5 = 0 by decide +kernel, b_0, decide_eq_false (Nat.not_lt_zero k), Bool.false_and]
theorem aBeg_C : RelC zI47 aBeg := by
  refine ⟨⟨by decide +kernel, by decide +kernel, by decide +kernel, fun j hj => absurd hj (Nat.not_lt_zero j), fun j hj => absurd hj (Nat.not_lt_zero j), fun j hj => absurd hj (Nat.not_lt_zero j)⟩, aBeg_day, ⟨0, by omega, by decide +kernel, by decide +kernel, fun j hj => absurd hj (Nat.not_lt_zero j)⟩, fun k hk => ⟨?_, fun h => absurd (show false = true from h) (by decide)⟩, ⟨by decide +kernel, fun j hj => absurd hj (Nat.not_lt_zero j)⟩, ⟨by decide +kernel, fun j hj => absurd hj (Nat.not_lt_zero j)⟩, fun b hb => ⟨?_, fun j hj => ⟨?_, ?_⟩⟩⟩
  · show zI47 105 k = 0
    exact (by decide +kernel : ∀ k, k < 2 → zI47 105 k = 0) k hk
  · show zI47 (115 + 3 * b) 2 = -1
    exact (by decide +kernel : ∀ b, b < 4 → zI47 (115 + 3 * b) 2 = -1) b hb
  · show zI47 (115 + 3 * b + 1) j = 0
    exact (by decide +kernel : ∀ b, b < 4 → ∀ j, j < 10 → zI47 (115 + 3 * b + 1) j = 0) b hb j hj
  · show zI47 (115 + 3 * b + 2) j = 0
    exact (by decide +kernel : ∀ b, b < 4 → ∀ j, j < 10 → zI47 (115 + 3 * b + 2) j = 0) b hb j hj
theorem aBeg_M : RelM zI47 aBeg := by
  refine ⟨fun j hj => ?_, fun j hj => ?_, fun k hk => absurd hk (Nat.not_lt_zero k), fun k _ hk => absurd (show false = true from hk) (by decide), ⟨by decide +kernel, by decide +kernel, by decide +kernel⟩, fun k hk => ?_, fun j hj => absurd hj (Nat.not_lt_zero j), fun j hj => absurd hj (Nat.not_lt_zero j), fun b hb => ⟨?_, fun j hj => ⟨?_, ?_⟩⟩, fun k a b => ?_⟩
  · show zI47 128 j = 0
    exact (by decide +kernel : ∀ j, j < 70 → zI47 128 j = 0) j hj
  · show zI47 128 (70 + j) = 0
    exact (by decide +kernel : ∀ j, j < 70 → zI47 128 (70 + j) = 0) j hj
  · show zI47 129 k = 0
    exact (by decide +kernel : ∀ k, k < 2 → zI47 129 k = 0) k hk
  · show zI47 134 b = -1
    exact (by decide +kernel : ∀ b, b < 4 → zI47 134 b = -1) b hb
  · show zI47 135 (10 * b + j) = 0
    exact (by decide +kernel : ∀ b, b < 4 → ∀ j, j < 10 → zI47 135 (10 * b + j) = 0) b hb j hj
  · show zI47 136 (10 * b + j) = 0
    exact (by decide +kernel : ∀ b, b < 4 → ∀ j, j < 10 → zI47 136 (10 * b + j) = 0) b hb j hj
  · funext j
    by_cases c : j < 8
    · exact (by decide +kernel : ∀ k, k < 146 → 138 ≤ k → ∀ j, j < 8 → zI47 k j = S0i k j) k b a j c
    · rw [zI_far k j (by omega), S0i_far k j (by omega)]
theorem aBeg_inv : zInv zI47 aBeg := ⟨aBeg_ok, aBeg_C, aBeg_M⟩
section ZBEG
variable {Hy : zG → State → Prop} {g : zG} {l : Launch} {y : MethodName} {cc : ByteArray} {nL : Nat} {ret : Option FieldType} {d mc ms : Nat} {P : Option Value → zS → zM → Prop} {pc ks ns : Nat} {M : zM} {lo st : List Value}
variable {ci N index n : Nat} {es : List (Nat × Nat × Nat)} {C : String} {T : u_T} {t0 : Nat → FieldType}
theorem zbi_new (K : zCls ci C T N t0) (hcl : Cond.classLink y.cls index C ∈ zW) (hinst : Cond.instantiable C N ∈ zW) (hini : Cond.initialized C ∈ zW) (hdef : ∀ j, j < N → defaultValue (t0 j) = (if zIr ci j = true then .null else .int 0)) (hS : n < 1000) (hmc : ks + 1 ≤ mc) (hms : ns + N ≤ ms)
    (hdg : decode cc pc = .ok (.new index, 3)) (hq : S0.2.1 n = (ci, N)) (hz : es.all (fun e => e.1 != n) = true) (hM : M n = fun _ => 0) (kk : zB Hy g l y cc nL ret d mc ms P (pc + 3) (ks + 1) (ns + N) (zSt (n + 1) es) M lo (.ref n :: st)) : zB Hy g l y cc nL ret d mc ms P pc ks ns (zSt n es) M lo st := by
  refine zb_new K hcl hinst hini hdef hS hmc hms hdg ?_
  rw [sn_new hq hz]
  show zB Hy g l y cc nL ret d mc ms P (pc + 3) (ks + 1) (ns + N) (zSt (n + 1) es) (zMn n M) lo (.ref n :: st)
  rw [mn_z hM]
  exact kk
end ZBEG
set_option maxRecDepth 100000 in
set_option maxHeartbeats 4000000 in
theorem law_from (g : zG) (l : Launch) {L : Nat} {xs : Nat → Int32} (hL : L ≤ 384) : zB (zScr L xs) g l yL_law cL_law 4 ret 11 600000 7302250 (zQi (fun r' _ => r' = 1)) 0 0 0 (zSt 0 zE0) zI0 [.ref 2102, .null, .null, .null] [] := by
  refine zbi_new (n := 0) kX11 lk_L_7 wi_X11 wn_X11 dfX11 (by decide) (by decide) (by decide) dL_law_0 s0_0 (by decide) rfl ?_
  refine zb_dup dL_law_3 rfl ?_
  refine zb_callI [] (i_X11_0 g l) mw_X11_init lm_L_9 mi_X11_init rfl (by decide) (Nat.le_of_ble_eq_true rfl) (by decide) (by decide) dL_law_4 (fun v4 S4 M4 q4 => ?_) rfl
  obtain ⟨rfl, rfl, rfl⟩ := q4
  refine zb_astore_n dL_law_7 (by decide) rfl rfl ?_
  refine zbi_new (n := 127) kX12 lk_L_10 wi_X12 wn_X12 dfX12 (by decide) (by decide) (by decide) dL_law_8 s0_127 (by decide +kernel) rfl ?_
  refine zb_dup dL_law_11 rfl ?_
  refine zb_callI [] (i_X12_127 g l) mw_X12_init lm_L_12 mi_X12_init rfl (by decide) (Nat.le_of_ble_eq_true rfl) (by decide) (by decide) dL_law_12 (fun v12 S12 M12 q12 => ?_) rfl
  obtain ⟨rfl, rfl, rfl⟩ := q12
  refine zb_astore_n dL_law_15 (by decide) rfl rfl ?_
  refine zb_iconst (v := 0) dL_law_16 (by decide) ?_
  refine zb_istore_n dL_law_17 (by decide) rfl rfl ?_
  rw [S0_made]
  exact law_loop g l ⟨by decide, by decide⟩ hL (L + 7) 0 zI47 aBeg (Nat.zero_le _) (by omega) aBeg_inv
def zTm (i : Nat) : Term := .string (zKon.getD i ("", 0, "")).1 (zKon.getD i ("", 0, "")).2.1
def zFl0 : List Cond := flatC (Jvm.Cond.and given_1 narrow_1)
theorem tm_1 : ∀ i, i < 8 → Cond.exactly (zTm i) "java/lang/String" ∈ zFl0 := by decide +kernel
theorem tm_2 : ∀ i, i < 8 → Cond.eq (.field (zTm i) "java/lang/String" "coder" "B") (.int 0) ∈ zFl0 := by decide +kernel
theorem tm_3 : ∀ i, i < 8 → Cond.arrayOf (.field (zTm i) "java/lang/String" "value" "[B") .byte ∈ zFl0 := by decide +kernel
theorem tm_4 : ∀ i, i < 8 → Cond.eq (.length (.field (zTm i) "java/lang/String" "value" "[B")) (.int (Int32.ofNat (zConLen.getD i 0))) ∈ zFl0 := by decide +kernel
theorem tm_5 : ∀ i, i < 8 → ∀ j, j < zConLen.getD i 0 → Cond.eq (.elem (.field (zTm i) "java/lang/String" "value" "[B") (.int (Int32.ofNat j))) (.int ((zConByt.getD i []).getD j 0)) ∈ zFl0 := by decide +kernel
theorem tm_6 : ∀ i, i < 8 → ∀ j, j < 8 → i ≠ j → Cond.not (Cond.eq (zTm i) (zTm j)) ∈ zFl0 ∨ Cond.not (Cond.eq (zTm j) (zTm i)) ∈ zFl0 := by decide +kernel
theorem tm_7 : ∀ i, i < 8 → Cond.stringRef (zKon.getD i ("", 0, "")).1 (zKon.getD i ("", 0, "")).2.1 (zKon.getD i ("", 0, "")).2.2 ∈ tables_1 := by decide +kernel
theorem tm_8 : ∀ q ∈ zNe, Cond.methodLinkNest q.1 q.2.1 q.2.2.1 q.2.2.2 ∈ tables_1 := by decide +kernel
theorem tm_a : Cond.eq (.static "java/lang/String" "COMPACT_STRINGS" "Z") (.int 1) ∈ zFl0 := by decide +kernel
theorem tm_b : Cond.isRef (.static "jdk/internal/util/Preconditions" "SIOOBE_FORMATTER" "Ljava/util/function/BiFunction;") ∈ zFl0 := by decide +kernel
theorem tm_c : Cond.laysStatic "java/lang/String" "COMPACT_STRINGS" "Z" ∈ tables_1 := by decide +kernel
theorem tm_d : Cond.laysStatic "jdk/internal/util/Preconditions" "SIOOBE_FORMATTER" "Ljava/util/function/BiFunction;" ∈ tables_1 := by decide +kernel
theorem tm_e : Cond.initialized "java/lang/String" ∈ tables_1 := by decide +kernel
theorem tm_f : Cond.initialized "jdk/internal/util/Preconditions" ∈ tables_1 := by decide +kernel
theorem tm_g : Cond.arrayOver (.object "OstlerHours$Day") ∈ tables_1 := by decide +kernel
theorem tm_h : Cond.arrayOver (.object "OstlerHours$Book") ∈ tables_1 := by decide +kernel
theorem arr_nm {s : State} {args : Array Value} {ty : FieldType} (h : (Cond.arrayClass ty).before args s = true) (hty : ty = .int ∨ ty = .boolean) : ∃ cA : ClassId, ArrOfT s cA ty ∧ va_RA s cA ty := by
  obtain ⟨cA, kA, comp, h1, h2, h3⟩ := Cond.arrayClass_spec h
  refine ⟨cA, fun n z => ⟨(fun k e => by cases e), kA, h2, comp, h3⟩, ?_⟩
  rcases hty with rfl | rfl
  · exact h1
  · exact h1
theorem arr_ob {s : State} {C : String} (h : va_AO C s) : ∃ cA : ClassId, ArrOfT s cA (.object C) ∧ va_RA s cA (.object C) := by
  obtain ⟨comp, c, k, h1, h2, h3, h4, h5⟩ := Cond.arrayOver_spec h
  exact ⟨c, fun n z => ⟨(fun k e => by cases e), k, h3, comp, h4⟩, k, comp, h3, h4, h1, h5⟩
theorem cls_all {s : State} {args : Array Value} (hts : ∀ w ∈ zW, w.before args s = true) : ∃ (dC : Nat → ClassId) (dI : Nat → Nat → Nat), ∀ (k : Nat) (q : vw_C), vwCl[k]? = some q → u_Kn s q.1 q.2.1 q.2.2 (dC k) (dI k) := by
  have h0 : ∀ k : Nat, ∃ p : ClassId × (Nat → Nat), ∀ q : vw_C, vwCl[k]? = some q → u_Kn s q.1 q.2.1 q.2.2 p.1 p.2 := by
    intro k
    match k with
    | 0 =>
      obtain ⟨a, b, h⟩ := u_known (C := RX0) (T := TX0) (N := 3) (n := 3) hts kX0.2.1 (hts _ wi_X0)
      exact ⟨(a, b), fun q e => by cases e; exact h⟩
    | 1 =>
      obtain ⟨a, b, h⟩ := u_known (C := RX1) (T := TX1) (N := 9) (n := 9) hts kX1.2.1 (hts _ wi_X1)
      exact ⟨(a, b), fun q e => by cases e; exact h⟩
    | 2 =>
      obtain ⟨a, b, h⟩ := u_known (C := RX4) (T := TX4) (N := 4) (n := 4) hts kX4.2.1 (hts _ wi_X4)
      exact ⟨(a, b), fun q e => by cases e; exact h⟩
    | 3 =>
      obtain ⟨a, b, h⟩ := u_known (C := RX5) (T := TX5) (N := 3) (n := 3) hts kX5.2.1 (hts _ wi_X5)
      exact ⟨(a, b), fun q e => by cases e; exact h⟩
    | 4 =>
      obtain ⟨a, b, h⟩ := u_known (C := RX6) (T := TX6) (N := 3) (n := 3) hts kX6.2.1 (hts _ wi_X6)
      exact ⟨(a, b), fun q e => by cases e; exact h⟩
    | 5 =>
      obtain ⟨a, b, h⟩ := u_known (C := RX7) (T := TX7) (N := 9) (n := 9) hts kX7.2.1 (hts _ wi_X7)
      exact ⟨(a, b), fun q e => by cases e; exact h⟩
    | 6 =>
      obtain ⟨a, b, h⟩ := u_known (C := RX8) (T := TX8) (N := 1) (n := 1) hts kX8.2.1 (hts _ wi_X8)
      exact ⟨(a, b), fun q e => by cases e; exact h⟩
    | 7 =>
      obtain ⟨a, b, h⟩ := u_known (C := RX9) (T := TX9) (N := 4) (n := 4) hts kX9.2.1 (hts _ wi_X9)
      exact ⟨(a, b), fun q e => by cases e; exact h⟩
    | 8 =>
      obtain ⟨a, b, h⟩ := u_known (C := RX10) (T := TX10) (N := 5) (n := 5) hts kX10.2.1 (hts _ wi_X10)
      exact ⟨(a, b), fun q e => by cases e; exact h⟩
    | 9 =>
      obtain ⟨a, b, h⟩ := u_known (C := RX11) (T := TX11) (N := 11) (n := 11) hts kX11.2.1 (hts _ wi_X11)
      exact ⟨(a, b), fun q e => by cases e; exact h⟩
    | 10 =>
      obtain ⟨a, b, h⟩ := u_known (C := RX12) (T := TX12) (N := 34) (n := 34) hts kX12.2.1 (hts _ wi_X12)
      exact ⟨(a, b), fun q e => by cases e; exact h⟩
    | k + 11 =>
      obtain ⟨a, b, h⟩ := u_known (C := RX0) (T := TX0) (N := 3) (n := 3) hts kX0.2.1 (hts _ wi_X0)
      exact ⟨(a, b), fun q e => by simp at e⟩
  obtain ⟨f, hf⟩ := Classical.axiomOfChoice h0
  exact ⟨fun k => (f k).1, fun k => (f k).2, hf⟩
theorem beg_g {s : State} {b : Nat} (hts : ∀ w ∈ lw_tbl, w.before #[Value.ref b] s = true) (hgv : (Jvm.Cond.and given_1 narrow_1).before #[Value.ref b] s = true) : ∃ g : zG, g.1 = s.heap.size ∧ g.2.2.2.2.2 102 = b ∧ va_K (zD g) vwCl (zTy g) s ∧ zZ g s s.heap := by
  have hfl : ∀ w ∈ zFl0, w.before #[Value.ref b] s = true := flat_of_before _ hgv
  have ht1 : ∀ w ∈ tables_1, w.before #[Value.ref b] s = true := fun w hw => hts w (List.mem_append_right _ hw)
  have hA : ∀ a : Nat, a < s.heap.size → ¬ (fun q : Nat => s.heap.size ≤ q) a := fun a h => Nat.not_le.mpr h
  obtain ⟨adK, adV, hvS, hev⟩ := vk_Sof (N := 8) (tm := zTm) (len := zConLen) (byt := zConByt) (A := fun q : Nat => s.heap.size ≤ q) (by decide) (fun i hi => hfl _ (tm_1 i hi)) (fun i hi => hfl _ (tm_2 i hi)) (fun i hi => hfl _ (tm_3 i hi)) (fun i hi => hfl _ (tm_4 i hi)) (fun i hi j hj => hfl _ (tm_5 i hi j hj)) (fun i j hi hj e => (tm_6 i hi j hj e).imp (hfl _) (hfl _)) hA
  have hsio := va_Zqof (A := fun q : Nat => s.heap.size ≤ q) (ht1 _ tm_d) (ht1 _ tm_f) (hfl _ tm_b) hA
  obtain ⟨sio, hsio⟩ : ∃ t : Nat, va_Z "jdk/internal/util/Preconditions" "SIOOBE_FORMATTER" "Ljava/util/function/BiFunction;" .null (fun q : Nat => s.heap.size ≤ q) s s.heap ∨ va_Z "jdk/internal/util/Preconditions" "SIOOBE_FORMATTER" "Ljava/util/function/BiFunction;" (.ref t) (fun q : Nat => s.heap.size ≤ q) s s.heap := by
    rcases hsio with h | ⟨t, h⟩
    · exact ⟨0, Or.inl h⟩
    · exact ⟨t, Or.inr h⟩
  have hcs := va_Zof (A := fun q : Nat => s.heap.size ≤ q) (ht1 _ tm_c) (ht1 _ tm_e) (va_eqi (hfl _ tm_a)) hA
  obtain ⟨dC, dI, hKc⟩ := cls_all (s := s) (args := #[Value.ref b]) (fun w hw => hts w (zW_tbl hw))
  obtain ⟨aI, i1, i2⟩ := arr_nm (hts _ (zW_tbl w_arrI)) (Or.inl rfl)
  obtain ⟨aZ, b1, b2⟩ := arr_nm (hts _ (zW_tbl w_arrZ)) (Or.inr rfl)
  have hD : va_AO "OstlerHours$Day" s := va_AO.of (ht1 _ tm_g)
  have hB : va_AO "OstlerHours$Book" s := va_AO.of (ht1 _ tm_h)
  obtain ⟨aD, d1, d2⟩ := arr_ob hD
  obtain ⟨aB, e1, e2⟩ := arr_ob hB
  refine ⟨(s.heap.size, dC, dI, (fun k => if k = 20 then aI else if k = 21 then aZ else if k = 22 then aD else aB), adK, (fun k => if k = 101 then sio else if k = 102 then b else adV k)), rfl, rfl, ⟨hKc, fun k q h => ?_⟩, fun q hq => va_Nw.of rfl (ht1 _ (tm_8 q hq)), ⟨fun i hi => ?_, hvS.2⟩, fun i hi => vk_R.of (ht1 _ (tm_7 i hi)) (hev i hi), hcs, hsio, hD, hB⟩
  · match k, h with
    | 0, h => cases h; exact ⟨i1, i2⟩
    | 1, h => cases h; exact ⟨b1, b2⟩
    | 2, h => cases h; exact ⟨d1, d2⟩
    | 3, h => cases h; exact ⟨e1, e2⟩
    | k + 4, h => simp [zTy] at h
  · have h1 := hvS.1 i hi
    have h2 : (if i = 101 then sio else if i = 102 then b else adV i) = adV i := by rw [if_neg (by omega), if_neg (by omega)]
    show _ ∧ _ ∧ va_OF "java/lang/String" "value" "[B" (.ref (if i = 101 then sio else if i = 102 then b else adV i)) (adK i) _ s s.heap ∧ va_T .byte (if i = 101 then sio else if i = 102 then b else adV i) _ _ _ s s.heap
    rw [h2]
    exact h1
