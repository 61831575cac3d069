/-! ===== the reference's own methods: what changes the day; sightings ===== -/
def kpT (M : zM) (k : Nat) : zM := z_up (z_row M 128 (va_cpy (M 128) (M 128) 0 (140 + 70 * k) 70)) 127 1 (nI (k + 1))
def kpS (M : zM) : zM := z_up (z_row M 128 (va_cpy (M 128) (M 128) 210 140 490)) 127 1 (nI 7)
theorem kpT_o (M : zM) (k : Nat) {c : Nat} (h : c ≠ 128) (h2 : c ≠ 127) : kpT M k c = M c := by unfold kpT; rw [z_up_n _ _ _ h2, z_row_n _ _ h]
theorem kpS_o (M : zM) {c : Nat} (h : c ≠ 128) (h2 : c ≠ 127) : kpS M c = M c := by unfold kpS; rw [z_up_n _ _ _ h2, z_row_n _ _ h]
theorem kpT_7 (M : zM) (k : Nat) {j : Nat} (h : j ≠ 1) : kpT M k 127 j = M 127 j := by unfold kpT; rw [z_up_jn _ _ h, z_row_n _ _ (by omega)]
theorem kpS_7 (M : zM) {j : Nat} (h : j ≠ 1) : kpS M 127 j = M 127 j := by unfold kpS; rw [z_up_jn _ _ h, z_row_n _ _ (by omega)]
theorem kpT_r (M : zM) (k j : Nat) : kpT M k 128 j = if 140 + 70 * k ≤ j ∧ j < 140 + 70 * k + 70 then M 128 (j - (140 + 70 * k)) else M 128 j := by
  unfold kpT
  rw [z_up_n _ _ _ (by omega), z_row_s]
  unfold va_cpy
  rw [Nat.zero_add]
theorem kpS_r (M : zM) (j : Nat) : kpS M 128 j = if 140 ≤ j ∧ j < 630 then M 128 (j + 70) else M 128 j := by
  unfold kpS
  rw [z_up_n _ _ _ (by omega), z_row_s]
  unfold va_cpy
  by_cases c : 140 ≤ j ∧ j < 140 + 490
  · rw [if_pos c, if_pos (by omega), show 210 + (j - 140) = j + 70 by omega]
  · rw [if_neg c, if_neg (by omega)]
theorem RelM.push {M M' : zM} {A : aSt} (C : RelM M A) (ok : aOK A) (q : (A.u < 8 ∧ M' = kpT M A.u) ∨ (A.u = 8 ∧ M' = kpT (kpS M) 7)) : RelM M' (A.setPast (aPush A)) ∧ ∀ k, k < 127 → M' k = M k := by
  have u8 := ok.u
  rcases q with ⟨hu, rfl⟩ | ⟨hu, rfl⟩
  · have e : aPush A = (A.u + 1, fun j => if j = A.u then A.s else A.P j) := if_neg (by omega)
    rw [e]
    refine ⟨⟨fun j hj => ?_, fun j hj => ?_, fun k hk j hj => ?_, fun k hk z j hj => ?_, ⟨?_, ?_, ?_⟩, C.kb.keep (kpT_o _ _ (by omega) (by omega)), C.text.keep (kpT_o _ _ (by omega) (by omega)), C.see.keep (kpT_o _ _ (by omega) (by omega)) (kpT_o _ _ (by omega) (by omega)) (kpT_o _ _ (by omega) (by omega)), C.book.keep (kpT_o _ _ (by omega) (by omega)) (kpT_o _ _ (by omega) (by omega)) (kpT_o _ _ (by omega) (by omega)), C.wd.keep (fun k a b => kpT_o _ _ (by omega) (by omega))⟩, fun k a => kpT_o _ _ (by omega) (by omega)⟩
    · rw [kpT_r, if_neg (by omega)]; exact C.s j hj
    · rw [kpT_r, if_neg (by omega)]; exact C.t j hj
    · have hk2 : k < A.u + 1 := hk
      show _ = (if k = A.u then A.s else A.P k) j
      rw [kpT_r]
      by_cases c : k = A.u
      · rw [if_pos c, if_pos (by omega), c, show 140 + 70 * A.u + j - (140 + 70 * A.u) = j by omega]; exact C.s j hj
      · rw [if_neg c, if_neg (by omega)]; exact C.P k (by omega) j hj
    · rw [kpT_r, if_neg (by omega)]; exact C.K k hk z j hj
    · unfold kpT; rw [z_up_kj]; rfl
    · rw [kpT_7 _ _ (by omega)]; exact C.fl.2.1
    · rw [kpT_7 _ _ (by omega)]; exact C.fl.2.2
  · have e : aPush A = (8, fun j => if j = 7 then A.s else A.P (j + 1)) := if_pos hu
    rw [e]
    have o : ∀ c, c ≠ 128 → c ≠ 127 → kpT (kpS M) 7 c = M c := fun c h1 h2 => (kpT_o _ _ h1 h2).trans (kpS_o _ h1 h2)
    refine ⟨⟨fun j hj => ?_, fun j hj => ?_, fun k hk j hj => ?_, fun k hk z j hj => ?_, ⟨?_, ?_, ?_⟩, C.kb.keep (o _ (by omega) (by omega)), C.text.keep (o _ (by omega) (by omega)), C.see.keep (o _ (by omega) (by omega)) (o _ (by omega) (by omega)) (o _ (by omega) (by omega)), C.book.keep (o _ (by omega) (by omega)) (o _ (by omega) (by omega)) (o _ (by omega) (by omega)), C.wd.keep (fun k a b => o _ (by omega) (by omega))⟩, fun k a => o _ (by omega) (by omega)⟩
    · rw [kpT_r, if_neg (by omega), kpS_r, if_neg (by omega)]; exact C.s j hj
    · rw [kpT_r, if_neg (by omega), kpS_r, if_neg (by omega)]; exact C.t j hj
    · have hk2 : k < 8 := hk
      show _ = (if k = 7 then A.s else A.P (k + 1)) j
      rw [kpT_r]
      by_cases c : k = 7
      · rw [if_pos c, if_pos (by omega), c, show 140 + 70 * 7 + j - (140 + 70 * 7) = j by omega, kpS_r, if_neg (by omega)]; exact C.s j hj
      · rw [if_neg c, if_neg (by omega), kpS_r, if_pos (by omega), show 140 + 70 * k + j + 70 = 140 + 70 * (k + 1) + j by omega]; exact C.P (k + 1) (by omega) j hj
    · rw [kpT_r, if_neg (by omega), kpS_r, if_neg (by omega)]; exact C.K k hk z j hj
    · unfold kpT; rw [z_up_kj]; rfl
    · rw [kpT_7 _ _ (by omega), kpS_7 _ (by omega)]; exact C.fl.2.1
    · rw [kpT_7 _ _ (by omega), kpS_7 _ (by omega)]; exact C.fl.2.2
theorem le_one {x : Int32} (z : 0 ≤ x ∧ x < nI 2) : 0 ≤ x ∧ x ≤ 1 := by
  have h := (le_pred (n := 2) (by omega)).mpr z
  rw [show nI 2 - 1 = 1 by decide] at h
  exact h
section ZSETM
variable {M M' : zM} {A : aSt}
theorem RelM.setText (C : RelM M A) {x : Nat × (Nat → Int32)} (h1 : M' 127 4 = nI x.1) (h2 : ∀ j, j < x.1 → M' 130 j = x.2 j) (h7 : ∀ j, j ≠ 4 → M' 127 j = M 127 j) (hk : ∀ k, k ≠ 127 → k ≠ 130 → M' k = M k) : RelM M' (A.setText x) ∧ ∀ k, k < 127 → M' k = M k :=
  ⟨⟨fun j hj => by rw [hk 128 (by omega) (by omega)]; exact C.s j hj, fun j hj => by rw [hk 128 (by omega) (by omega)]; exact C.t j hj, fun k a j hj => by rw [hk 128 (by omega) (by omega)]; exact C.P k a j hj, fun k a z j hj => by rw [hk 128 (by omega) (by omega)]; exact C.K k a z j hj,
    ⟨(h7 1 (by omega)).trans C.fl.1, h1, (h7 5 (by omega)).trans C.fl.2.2⟩, C.kb.keep (hk _ (by omega) (by omega)), h2, C.see.keep (hk _ (by omega) (by omega)) (hk _ (by omega) (by omega)) (hk _ (by omega) (by omega)), C.book.keep (hk _ (by omega) (by omega)) (hk _ (by omega) (by omega)) (hk _ (by omega) (by omega)), C.wd.keep (fun k a b => hk _ (by omega) (by omega))⟩, fun k a => hk k (by omega) (by omega)⟩
theorem RelM.setSee (C : RelM M A) {x : Nat × (Nat → Int32) × (Nat → Int32) × (Nat → Int32)} (h1 : M' 127 5 = nI x.1) (h2 : ∀ j, j < x.1 → M' 131 j = x.2.1 j ∧ M' 132 j = x.2.2.1 j ∧ M' 133 j = x.2.2.2 j) (h7 : ∀ j, j ≠ 5 → M' 127 j = M 127 j) (hk : ∀ k, k ≠ 127 → (k < 131 ∨ 133 < k) → M' k = M k) : RelM M' (A.setSee x) ∧ ∀ k, k < 127 → M' k = M k :=
  ⟨⟨fun j hj => by rw [hk 128 (by omega) (by omega)]; exact C.s j hj, fun j hj => by rw [hk 128 (by omega) (by omega)]; exact C.t j hj, fun k a j hj => by rw [hk 128 (by omega) (by omega)]; exact C.P k a j hj, fun k a z j hj => by rw [hk 128 (by omega) (by omega)]; exact C.K k a z j hj,
    ⟨(h7 1 (by omega)).trans C.fl.1, (h7 4 (by omega)).trans C.fl.2.1, h1⟩, C.kb.keep (hk _ (by omega) (by omega)), C.text.keep (hk _ (by omega) (by omega)), h2, C.book.keep (hk _ (by omega) (by omega)) (hk _ (by omega) (by omega)) (hk _ (by omega) (by omega)), C.wd.keep (fun k a b => hk _ (by omega) (by omega))⟩, fun k a => hk k (by omega) (by omega)⟩
theorem RelM.setBook (C : RelM M A) {x : (Nat → Bool) × (Nat → Nat) × (Nat → Nat → Int32) × (Nat → Nat → Int32)} (h : mBook M' (A.setBook x)) (hk : ∀ k, (k < 134 ∨ (136 < k ∧ k < 148)) → M' k = M k) : RelM M' (A.setBook x) ∧ ∀ k, k < 127 → M' k = M k :=
  ⟨⟨fun j hj => by rw [hk 128 (by omega)]; exact C.s j hj, fun j hj => by rw [hk 128 (by omega)]; exact C.t j hj, fun k a j hj => by rw [hk 128 (by omega)]; exact C.P k a j hj, fun k a z j hj => by rw [hk 128 (by omega)]; exact C.K k a z j hj,
    C.fl.keep (by rw [hk 127 (by omega)]) (by rw [hk 127 (by omega)]) (by rw [hk 127 (by omega)]), C.kb.keep (hk _ (by omega)), C.text.keep (hk _ (by omega)), C.see.keep (hk _ (by omega)) (hk _ (by omega)) (hk _ (by omega)), h, C.wd.keep (fun k a b => hk _ (by omega))⟩, fun k a => hk k (by omega)⟩
theorem RelM.undo (C : RelM M A) {u : Nat} (hu : A.u = u + 1) (u8 : A.u ≤ 8) : RelM (z_row (z_up M 127 1 (nI u)) 128 (va_cpy (z_up M 127 1 (nI u) 128) (z_up M 127 1 (nI u) 128) (140 + 70 * u) 0 70)) ((A.setPast (u, A.P)).setS (A.P u)) ∧ ∀ k, k < 127 → z_row (z_up M 127 1 (nI u)) 128 (va_cpy (z_up M 127 1 (nI u) 128) (z_up M 127 1 (nI u) 128) (140 + 70 * u) 0 70) k = M k := by
  have o : ∀ c, c ≠ 128 → c ≠ 127 → z_row (z_up M 127 1 (nI u)) 128 (va_cpy (z_up M 127 1 (nI u) 128) (z_up M 127 1 (nI u) 128) (140 + 70 * u) 0 70) c = M c := fun c h1 h2 => by rw [z_row_n _ _ h1, z_up_n _ _ _ h2]
  have r : ∀ j, z_row (z_up M 127 1 (nI u)) 128 (va_cpy (z_up M 127 1 (nI u) 128) (z_up M 127 1 (nI u) 128) (140 + 70 * u) 0 70) 128 j = if j < 70 then M 128 (140 + 70 * u + j) else M 128 j := fun j => by
    rw [z_row_s, z_up_n _ _ _ (by omega)]
    unfold va_cpy
    by_cases c : j < 70
    · rw [if_pos (by omega), if_pos c, Nat.sub_zero]
    · rw [if_neg (by omega), if_neg c]
  refine ⟨⟨fun j hj => ?_, fun j hj => ?_, fun k hk j hj => ?_, fun k hk z j hj => ?_, ⟨?_, ?_, ?_⟩, C.kb.keep (o _ (by omega) (by omega)), C.text.keep (o _ (by omega) (by omega)), C.see.keep (o _ (by omega) (by omega)) (o _ (by omega) (by omega)) (o _ (by omega) (by omega)), C.book.keep (o _ (by omega) (by omega)) (o _ (by omega) (by omega)) (o _ (by omega) (by omega)), C.wd.keep (fun k a b => o _ (by omega) (by omega))⟩, fun k a => o _ (by omega) (by omega)⟩
  · rw [r, if_pos hj]; exact C.P u (by omega) j hj
  · rw [r, if_neg (by omega)]; exact C.t j hj
  · have hk2 : k < u := hk
    rw [r, if_neg (by omega)]; exact C.P k (by omega) j hj
  · rw [r, if_neg (by omega)]; exact C.K k hk z j hj
  · rw [z_row_n _ _ (by omega), z_up_kj]; rfl
  · rw [z_row_n _ _ (by omega), z_up_jn _ _ (by omega)]; exact C.fl.2.1
  · rw [z_row_n _ _ (by omega), z_up_jn _ _ (by omega)]; exact C.fl.2.2
theorem RelM.keepD (C : RelM M A) {h : Nat} (hh : h < 2) (u8 : A.u ≤ 8) (e : M' = z_up (z_row M 128 (va_cpy (M 128) (M 128) 0 (700 + 70 * h) 70)) 129 h 1) : RelM M' (A.setKept (fun j => if j = h then true else A.kb j, fun j => if j = h then A.s else A.K j)) ∧ ∀ k, k < 127 → M' k = M k := by
  have o : ∀ c, c ≠ 128 → c ≠ 129 → M' c = M c := fun c h1 h2 => by rw [e, z_up_n _ _ _ h2, z_row_n _ _ h1]
  have r : ∀ j, M' 128 j = if 700 + 70 * h ≤ j ∧ j < 700 + 70 * h + 70 then M 128 (j - (700 + 70 * h)) else M 128 j := fun j => by
    rw [e, z_up_n _ _ _ (by omega), z_row_s]
    unfold va_cpy
    rw [Nat.zero_add]
  refine ⟨⟨fun j hj => ?_, fun j hj => ?_, fun k hk j hj => ?_, fun k hk z j hj => ?_, C.fl.keep (by rw [o 127 (by omega) (by omega)]) (by rw [o 127 (by omega) (by omega)]) (by rw [o 127 (by omega) (by omega)]), fun k hk => ?_, C.text.keep (o _ (by omega) (by omega)), C.see.keep (o _ (by omega) (by omega)) (o _ (by omega) (by omega)) (o _ (by omega) (by omega)), C.book.keep (o _ (by omega) (by omega)) (o _ (by omega) (by omega)) (o _ (by omega) (by omega)), C.wd.keep (fun k a b => o _ (by omega) (by omega))⟩, fun k a => o _ (by omega) (by omega)⟩
  · rw [r, if_neg (by omega)]; exact C.s j hj
  · rw [r, if_neg (by omega)]; exact C.t j hj
  · have hk2 : k < A.u := hk
    rw [r, if_neg (by omega)]; exact C.P k hk j hj
  · show _ = (if k = h then A.s else A.K k) j
    have z2 : (if k = h then true else A.kb k) = true := z
    rw [r]
    by_cases c : k = h
    · rw [if_pos c, if_pos (by omega), c, show 700 + 70 * h + j - (700 + 70 * h) = j by omega]; exact C.s j hj
    · rw [if_neg c] at z2
      rw [if_neg c, if_neg (by omega)]; exact C.K k hk z2 j hj
  · show _ = if (if k = h then true else A.kb k) = true then (1 : Int32) else 0
    rw [e]
    by_cases c : k = h
    · rw [if_pos c, c, z_up_kj, if_pos rfl]
    · rw [if_neg c, z_up_jn _ _ c, z_row_n _ _ (by omega)]; exact C.kb k hk
theorem RelM.backD (C : RelM M A) {h : Nat} (hh : h < 2) (hb : A.kb h = true) (u8 : A.u ≤ 8) (e : M' = z_up (z_row M 128 (va_cpy (M 128) (M 128) (700 + 70 * h) 0 70)) 127 1 0) : RelM M' ((A.setS (A.K h)).setPast (0, A.P)) ∧ ∀ k, k < 127 → M' k = M k := by
  have o : ∀ c, c ≠ 128 → c ≠ 127 → M' c = M c := fun c h1 h2 => by rw [e, z_up_n _ _ _ h2, z_row_n _ _ h1]
  have o7 : ∀ j, j ≠ 1 → M' 127 j = M 127 j := fun j hj => by rw [e, z_up_jn _ _ hj, z_row_n _ _ (by omega)]
  have r : ∀ j, M' 128 j = if j < 70 then M 128 (700 + 70 * h + j) else M 128 j := fun j => by
    rw [e, z_up_n _ _ _ (by omega), z_row_s]
    unfold va_cpy
    by_cases c : j < 70
    · rw [if_pos (by omega), if_pos c, Nat.sub_zero]
    · rw [if_neg (by omega), if_neg c]
  refine ⟨⟨fun j hj => ?_, fun j hj => ?_, fun k hk j hj => absurd hk (Nat.not_lt_zero _), fun k hk z j hj => ?_, ⟨?_, (o7 4 (by omega)).trans C.fl.2.1, (o7 5 (by omega)).trans C.fl.2.2⟩, C.kb.keep (o _ (by omega) (by omega)), C.text.keep (o _ (by omega) (by omega)), C.see.keep (o _ (by omega) (by omega)) (o _ (by omega) (by omega)) (o _ (by omega) (by omega)), C.book.keep (o _ (by omega) (by omega)) (o _ (by omega) (by omega)) (o _ (by omega) (by omega)), C.wd.keep (fun k a b => o _ (by omega) (by omega))⟩, fun k a => o _ (by omega) (by omega)⟩
  · rw [r, if_pos hj]; exact C.K h hh hb j hj
  · rw [r, if_neg (by omega)]; exact C.t j hj
  · rw [r, if_neg (by omega)]; exact C.K k hk z j hj
  · rw [e, z_up_kj]; rfl
end ZSETM

set_option maxRecDepth 100000 in
set_option maxHeartbeats 4000000 in
theorem lp_kpT (g : zG) (l : Launch) {M : zM} {u : Nat} (hu : u < 8) (h1 : M 127 1 = nI u) : zA g l yX12_keepPast cX12_keepPast 2 none 1 0 0 (zQv (fun M' => M' = kpT M u)) 54 0 0 S0 M [.ref 127, .null] [] := by
  refine z_aload_n dX12_keepPast_54 rfl ?_
  refine z_iconst (v := 0) dX12_keepPast_55 (by decide) ?_
  refine z_sipush (v := 140) dX12_keepPast_56 (by decide) ?_
  refine z_bipush (v := 70) dX12_keepPast_59 (by decide) ?_
  refine z_aload_n dX12_keepPast_61 rfl ?_
  refine z_getIV (j := 1) kX12 lf_X12_163 (by decide) rfl h1 dX12_keepPast_62 k0_127 s0_127 ?_
  refine z_imulN (a := 70) (b := u) rfl rfl dX12_keepPast_65 ?_
  refine z_iaddN (a := 140) (b := (70 * u)) rfl rfl dX12_keepPast_66 ?_
  refine z_vV2 (c_X12_copyRoad g l (a := 0) (c := 140 + 70 * u) (by omega) (by omega) (by omega)) mw_X12_copyRoad lm_X12_159 mi_X12_copyRoad mv_X12_copyRoad kX12 (by decide) (Nat.le_of_ble_eq_true rfl) zle k0_127 s0_127 dX12_keepPast_67 (fun M67 q67 => ?_)
  obtain rfl := q67.symm
  refine z_aload_n dX12_keepPast_70 rfl ?_
  refine z_dup dX12_keepPast_71 rfl ?_
  refine z_getIV (j := 1) kX12 lf_X12_163 (by decide) rfl ((congrFun (z_row_n _ _ (by omega)) 1).trans h1) dX12_keepPast_72 k0_127 s0_127 ?_
  refine z_iconst (v := 1) dX12_keepPast_75 (by decide) ?_
  refine z_iaddN (a := u) (b := 1) rfl rfl dX12_keepPast_76 ?_
  refine z_putI (j := 1) kX12 lf_X12_163 (by decide) rfl rfl (kX12.2.2.1 1 (by decide)) rfl rfl dX12_keepPast_77 k0_127 s0_127 ?_
  exact z_vret dX12_keepPast_80 zle (rfl)

set_option maxRecDepth 100000 in
set_option maxHeartbeats 4000000 in
theorem lp_kpS (g : zG) (l : Launch) {M0 : zM} (h1 : M0 127 1 = nI 8) : ∀ (k h : Nat), h ≤ 490 → 490 - h < k → zA g l yX12_keepPast cX12_keepPast 2 none 1 0 0 (zQv (fun M' => M' = kpT (kpS M0) 7)) 11 0 0 S0 (z_row M0 128 (va_cpy (M0 128) (M0 128) 210 140 h)) [.ref 127, .int (nI h)] [] := by
  intro k
  induction k with
  | zero => intro h hh hk; exact absurd hk (Nat.not_lt_zero _)
  | succ k ih =>
    intro h hh hk 
    refine z_iload_n dX12_keepPast_11 rfl ?_
    refine z_sipush (v := 490) dX12_keepPast_12 (by decide) ?_
    refine z_icmp_ge (tgt := 44) dX12_keepPast_15 (by decide) (fun b15 => ?_) (fun b15 => ?_)
    · have e : 490 ≤ h := (nI_leI (by omega) (by omega)).mp b15
      have e2 : h = 490 := by omega
      subst e2
      refine z_aload_n dX12_keepPast_44 rfl ?_
      refine z_dup dX12_keepPast_45 rfl ?_
      refine z_getIV (j := 1) kX12 lf_X12_163 (by decide) rfl ((congrFun (z_row_n _ _ (by omega)) 1).trans h1) dX12_keepPast_46 k0_127 s0_127 ?_
      refine z_iconst (v := 1) dX12_keepPast_49 (by decide) ?_
      refine z_isub dX12_keepPast_50 ?_
      refine z_as (x' := nI 7) (by decide) ?_
      refine z_putI (j := 1) kX12 lf_X12_163 (by decide) rfl rfl (kX12.2.2.1 1 (by decide)) rfl rfl dX12_keepPast_51 k0_127 s0_127 ?_
      exact zA.sub (lp_kpT g l (M := kpS M0) (u := 7) (by omega) (z_up_kj _ _ _ _)) rfl ⟨Or.inr rfl, Or.inl rfl, trivial⟩
    · have hn : h < 490 := by
        rcases Nat.lt_or_ge h 490 with z | z
        · exact z
        · exact absurd (nI_le z (by omega)) b15
      refine z_aload_n dX12_keepPast_18 rfl ?_
      refine z_getR (j := 0) (r := 128) kX12 lf_X12_7 (by decide) rfl dX12_keepPast_19 k0_127 s0_127 r0_127_0 (by decide) ?_
      refine z_sipush (v := 140) dX12_keepPast_22 (by decide) ?_
      refine z_iload_n dX12_keepPast_25 rfl ?_
      refine z_iaddN (a := 140) (b := h) rfl rfl dX12_keepPast_26 ?_
      refine z_aload_n dX12_keepPast_27 rfl ?_
      refine z_getR (j := 0) (r := 128) kX12 lf_X12_7 (by decide) rfl dX12_keepPast_28 k0_127 s0_127 r0_127_0 (by decide) ?_
      refine z_sipush (v := 210) dX12_keepPast_31 (by decide) ?_
      refine z_iload_n dX12_keepPast_34 rfl ?_
      refine z_iaddN (a := 210) (b := h) rfl rfl dX12_keepPast_35 ?_
      refine z_ialdN (j := (210 + h)) rfl (by omega) dX12_keepPast_36 k0_128 s0_128 ?_
      refine z_iastN (j := (140 + h)) rfl (by omega) dX12_keepPast_37 k0_128 s0_128 ?_
      refine z_iincN (k := h) dX12_keepPast_38 rfl rfl (by decide) rfl rfl ?_
      refine z_goto (tgt := 11) dX12_keepPast_41 (by decide) ?_
      refine zA.sub (ih (h + 1) (by omega) (by omega)) ?_ ⟨Or.inr rfl, Or.inr rfl, trivial⟩
      funext k
      by_cases e : k = 128
      · subst e
        rw [z_up_s, z_row_s, z_row_s]
        funext j
        have e1 : va_cpy (M0 128) (M0 128) 210 140 h (210 + h) = M0 128 (210 + h) := if_neg (by omega)
        rw [e1]
        by_cases e2 : j = 140 + h
        · subst e2
          rw [upd_s]
          unfold va_cpy
          rw [if_pos (by omega), show 140 + h - 140 = h by omega]
        · rw [upd_n _ _ e2]
          unfold va_cpy
          by_cases e3 : 140 ≤ j ∧ j < 140 + h
          · rw [if_pos e3, if_pos (by omega)]
          · rw [if_neg e3, if_neg (by omega)]
      · rw [z_up_n _ _ _ e, z_row_n _ _ e, z_row_n _ _ e]

set_option maxRecDepth 100000 in
set_option maxHeartbeats 4000000 in
theorem c_X12_keepPast (g : zG) (l : Launch) {M : zM} {A : aSt} (ok : aOK A) (C : RelM M A) : zMet g l yX12_keepPast cX12_keepPast 2 none 1 0 0 [.ref 127] S0 M (zQv (fun M' => RelM M' (A.setPast (aPush A)) ∧ ∀ k, k < 127 → M' k = M k)) := by
  have n8 : A.n ≤ 8 := ok.s.1.1
  have r4 : A.r ≤ 4 := ok.s.1.2.1
  have i6 : A.i ≤ 6 := ok.s.1.2.2.1
  have u8 : A.u ≤ 8 := ok.u
  refine zMet.of (by decide) (Nat.le_of_ble_eq_true rfl) ?_
  refine z_aload_n dX12_keepPast_0 rfl ?_
  refine z_getIV (j := 1) kX12 lf_X12_163 (by decide) rfl C.fl.1 dX12_keepPast_1 k0_127 s0_127 ?_
  refine z_bipush (v := 8) dX12_keepPast_4 (by decide) ?_
  refine z_icmp_ne (tgt := 54) dX12_keepPast_6 (by decide) (fun b6 => ?_) (fun b6 => ?_)
  · have hu : A.u < 8 := by
      have : A.u ≠ 8 := fun z => b6 (by rw [z]; rfl)
      omega
    refine (lp_kpT g l hu C.fl.1).weak (fun v S2 M2 q => ⟨q.1, q.2.1, C.push ok (Or.inl ⟨hu, q.2.2⟩)⟩)
  · have hu : A.u = 8 := (nI_eq (b := 8) (by omega) (by omega)).mp b6
    refine z_iconst (v := 0) dX12_keepPast_9 (by decide) ?_
    refine z_istore_n dX12_keepPast_10 (by decide) rfl rfl ?_
    refine (zA.sub (lp_kpS g l (M0 := M) (C.fl.1.trans (by rw [hu])) 491 0 (Nat.zero_le _) (by omega)) ?_ ⟨Or.inr rfl, Or.inr rfl, trivial⟩).weak (fun v S2 M2 q => ⟨q.1, q.2.1, C.push ok (Or.inr ⟨hu, q.2.2⟩)⟩)
    funext k
    by_cases e : k = 128
    · subst e
      rw [z_row_s]
      funext j
      exact (if_neg (by omega)).symm
    · rw [z_row_n _ _ e]

section ZO0
variable {M : zM} {A : aSt}
theorem c_oat0 (g : zG) (l : Launch) (C : RelM M A) {h : Nat} (h8 : h < 8) : zMet g l yX12_oat cX12_oat 4 none 0 0 0 [.ref 127, .int (nI 0), .int (nI h)] S0 M (zQv (fun M' => M' = zMd M 0 (dEase A.s h (A.s (27 + h) - 3)) (M 127 28) (M 127 29))) := by
  have h0 := c_X12_oat g l (M := M) (b := 0) (σ := A.s) (rid := M 127 28) (led := M 127 29) (h := h) (by omega) h8
  rw [C.self] at h0
  exact h0
end ZO0
set_option maxRecDepth 100000 in
set_option maxHeartbeats 4000000 in
theorem c_X12_write (g : zG) (l : Launch) {M : zM} {A : aSt} (ok : aOK A) (C : RelM M A) {c : Int32} : zMet g l yX12_write cX12_write 2 (some .int) 1 0 0 [.ref 127, .int c] S0 M (zQi (fun r' M' => zStpM M (sWrite A c) r' M')) := by
  have n8 : A.n ≤ 8 := ok.s.1.1
  have r4 : A.r ≤ 4 := ok.s.1.2.1
  have i6 : A.i ≤ 6 := ok.s.1.2.2.1
  have u8 : A.u ≤ 8 := ok.u
  refine zMet.of (by decide) (Nat.le_of_ble_eq_true rfl) ?_
  refine z_iload_n dX12_write_0 rfl ?_
  refine z_i2l dX12_write_1 ?_
  refine z_lconst (v := 0) dX12_write_2 (by decide) ?_
  refine z_ldc2 lc_X12_77 dX12_write_3 ?_
  refine z_iS3 (c_X12_in g l) mw_X12_in lm_X12_79 ms_X12_in (by decide) (Nat.le_of_ble_eq_true rfl) zle dX12_write_6 (fun r6 M6 q6 => ?_)
  obtain ⟨qm, qr⟩ := q6
  obtain rfl := qm.symm
  rcases qr with ⟨c6, rfl⟩ | ⟨c6, rfl⟩
  · have d6 := (l_inn (a := 0) (z := 255) (by decide) (by decide)).mp c6
    refine z_if_ne (tgt := 15) dX12_write_9 (by decide) (fun b9 => ?_) (fun b9 => ?_)
    · have bb : ¬ (c < 0 ∨ 255 < c) := fun z => z.elim (Int32.not_lt.mpr d6.1) (Int32.not_lt.mpr d6.2)
      have hL := ok.L
      refine z_aload_n dX12_write_15 rfl ?_
      refine z_getIV (j := 4) kX12 lf_X12_83 (by decide) rfl C.fl.2.1 dX12_write_16 k0_127 s0_127 ?_
      refine z_sipush (v := 200) dX12_write_19 (by decide) ?_
      refine z_icmp_ne (tgt := 28) dX12_write_22 (by decide) (fun b22 => ?_) (fun b22 => ?_)
      · have hL2 : A.L < 200 := by
          have : A.L ≠ 200 := fun z => b22 (by rw [z]; rfl)
          omega
        refine z_aload_n dX12_write_28 rfl ?_
        refine z_getR (j := 3) (r := 130) kX12 lf_X12_17 (by decide) rfl dX12_write_29 k0_127 s0_127 r0_127_3 (by decide) ?_
        refine z_aload_n dX12_write_32 rfl ?_
        refine z_getIV (j := 4) kX12 lf_X12_83 (by decide) rfl C.fl.2.1 dX12_write_33 k0_127 s0_127 ?_
        refine z_iload_n dX12_write_36 rfl ?_
        refine z_iastN (j := A.L) rfl hL2 dX12_write_37 k0_130 s0_130 ?_
        refine z_aload_n dX12_write_38 rfl ?_
        refine z_dup dX12_write_39 rfl ?_
        refine z_getIV (j := 4) kX12 lf_X12_83 (by decide) rfl ((congrFun (z_up_n _ _ _ (by omega)) 4).trans C.fl.2.1) dX12_write_40 k0_127 s0_127 ?_
        refine z_iconst (v := 1) dX12_write_43 (by decide) ?_
        refine z_iaddN (a := A.L) (b := 1) rfl rfl dX12_write_44 ?_
        refine z_putI (j := 4) kX12 lf_X12_83 (by decide) rfl rfl (kX12.2.2.1 4 (by decide)) rfl rfl dX12_write_45 k0_127 s0_127 ?_
        refine z_aload_n dX12_write_48 rfl ?_
        refine z_getIV (j := 4) kX12 lf_X12_83 (by decide) rfl (z_up_kj _ _ _ _) dX12_write_49 k0_127 s0_127 ?_
        refine z_iret dX12_write_52 rfl zle ?_
        have C1 := C.setText (M' := (z_up (z_up M 130 A.L c) 127 4 (nI (A.L + 1)))) (x := (A.L + 1, upd A.T A.L c)) (z_up_kj _ _ _ _) (fun j hj => by
          rw [z_up_n _ _ _ (by omega)]
          by_cases e : j = A.L
          · rw [e, z_up_kj]; exact (upd_s _ _ _).symm
          · rw [z_up_jn _ _ e]; exact (C.text j (by have : j < A.L + 1 := hj; omega)).trans (upd_n _ _ e).symm) (fun j hj => by rw [z_up_jn _ _ hj, z_up_n _ _ _ (by omega)]) (fun k a b => by rw [z_up_n _ _ _ a, z_up_n _ _ _ b])
        exact zStpM.mk C1.1 C1.2 (by unfold sWrite; rw [if_neg bb, if_neg (by omega)]) rfl
      · have hL2 : A.L = 200 := (nI_eq (b := 200) (by omega) (by omega)).mp b22
        refine z_bipush (v := (-5)) dX12_write_25 (by decide) ?_
        refine z_iret dX12_write_27 rfl zle ?_
        exact zStpM.of C (by unfold sWrite; rw [if_neg bb, if_pos hL2])
    · exact absurd b9 (by decide)
  · have d6 := fun z => c6 ((l_inn (a := 0) (z := 255) (by decide) (by decide)).mpr z)
    refine z_if_ne (tgt := 15) dX12_write_9 (by decide) (fun b9 => ?_) (fun b9 => ?_)
    · exact absurd b9 (by decide)
    · refine z_bipush (v := (-3)) dX12_write_12 (by decide) ?_
      refine z_iret dX12_write_14 rfl zle ?_
      exact zStpM.of C (by unfold sWrite; exact if_pos (by by_cases z : c < 0; exact Or.inl z; exact Or.inr (Int32.not_le.mp (fun z2 => d6 ⟨Int32.not_lt.mp z, z2⟩))))

set_option maxRecDepth 100000 in
set_option maxHeartbeats 4000000 in
theorem c_X12_erase (g : zG) (l : Launch) {M : zM} {A : aSt} (ok : aOK A) (C : RelM M A) : zMet g l yX12_erase cX12_erase 2 (some .int) 0 0 0 [.ref 127] S0 M (zQi (fun r' M' => zStpM M (sErase A) r' M')) := by
  have n8 : A.n ≤ 8 := ok.s.1.1
  have r4 : A.r ≤ 4 := ok.s.1.2.1
  have i6 : A.i ≤ 6 := ok.s.1.2.2.1
  have u8 : A.u ≤ 8 := ok.u
  refine zMet.of (by decide) (Nat.le_of_ble_eq_true rfl) ?_
  refine z_aload_n dX12_erase_0 rfl ?_
  refine z_getIV (j := 4) kX12 lf_X12_83 (by decide) rfl C.fl.2.1 dX12_erase_1 k0_127 s0_127 ?_
  refine z_istore_n dX12_erase_4 (by decide) rfl rfl ?_
  refine z_aload_n dX12_erase_5 rfl ?_
  refine z_iconst (v := 0) dX12_erase_6 (by decide) ?_
  refine z_putI (j := 4) kX12 lf_X12_83 (by decide) rfl rfl (kX12.2.2.1 4 (by decide)) rfl rfl dX12_erase_7 k0_127 s0_127 ?_
  refine z_iload_n dX12_erase_10 rfl ?_
  refine z_iret dX12_erase_11 rfl zle ?_
  have C1 := C.setText (M' := z_up M 127 4 0) (x := (0, A.T)) (z_up_kj _ _ _ _) (fun j hj => absurd hj (Nat.not_lt_zero _)) (fun j hj => by rw [z_up_jn _ _ hj]) (fun k a b => by rw [z_up_n _ _ _ a])
  exact zStpM.mk C1.1 C1.2 rfl rfl

set_option maxRecDepth 100000 in
set_option maxHeartbeats 4000000 in
theorem lp_stage2 (g : zG) (l : Launch) {M0 : zM} {n r i m : Nat} {σ : Dy} (ok : dOK σ n r i) (hm : m ≤ 1000) : ∀ (k h : Nat), h ≤ m → m - h < k → ∀ rid led : Int32, zA g l yX12_stage cX12_stage 3 (some .int) 4 0 0 (zQi (fun r' M' => r' = (dIter σ n r i m) 2 ∧ ∃ rid led, M' = zMd M0 0 (dIter σ n r i m) rid led)) 38 0 0 S0 (zMd M0 0 (dIter σ n r i h) rid led) [.ref 127, .int (nI m), .int (nI h)] [] := by
  have n8 := ok.1.1
  have r4 := ok.1.2.1
  have i6 := ok.1.2.2.1
  intro k
  induction k with
  | zero => intro h hh hk; exact absurd hk (Nat.not_lt_zero _)
  | succ k ih =>
    intro h hh hk rid led
    have okh := dIter_ok ok h
    refine z_iload_n dX12_stage_38 rfl ?_
    refine z_iload_n dX12_stage_39 rfl ?_
    refine z_icmp_ge (tgt := 54) dX12_stage_40 (by decide) (fun b40 => ?_) (fun b40 => ?_)
    · have e : m ≤ h := (nI_leI (by omega) (by omega)).mp b40
      have e2 : h = m := by omega
      subst e2
      refine z_aload_n dX12_stage_54 rfl ?_
      refine z_getR (j := 0) (r := 128) kX12 lf_X12_7 (by decide) rfl dX12_stage_55 k0_127 s0_127 r0_127_0 (by decide) ?_
      refine z_iconst (v := 2) dX12_stage_58 (by decide) ?_
      refine z_ialdV (j := 2) rfl (by decide) (zMd_g0 (b := 0) 2 (by omega)) dX12_stage_59 k0_128 s0_128 ?_
      refine z_iret dX12_stage_60 rfl zle ?_
      exact ⟨rfl, _, _, rfl⟩
    · have hn : h < m := by
        rcases Nat.lt_or_ge h m with z | z
        · exact z
        · exact absurd (nI_le z (by omega)) b40
      refine z_aload_n dX12_stage_43 rfl ?_
      refine z_iconst (v := 0) dX12_stage_44 (by decide) ?_
      refine z_vV1 (c_X12_passes (b := 0) g l (by omega) okh) mw_X12_passes lm_X12_231 mi_X12_passes mv_X12_passes kX12 (by decide) (Nat.le_of_ble_eq_true rfl) zle k0_127 s0_127 dX12_stage_45 (fun M45 q45 => ?_)
      obtain rfl := q45.symm
      refine z_iincN (k := h) dX12_stage_48 rfl rfl (by decide) rfl rfl ?_
      refine z_goto (tgt := 38) dX12_stage_51 (by decide) ?_
      exact ih (h + 1) (by omega) (by omega) _ _

set_option maxRecDepth 100000 in
set_option maxHeartbeats 4000000 in
theorem c_X12_stage (g : zG) (l : Launch) {M : zM} {A : aSt} (ok : aOK A) (C : RelM M A) {x : Int32} : zMet g l yX12_stage cX12_stage 3 (some .int) 4 0 0 [.ref 127, .int x] S0 M (zQi (fun r' M' => zStpM M (sStage A x) r' M')) := by
  have n8 : A.n ≤ 8 := ok.s.1.1
  have r4 : A.r ≤ 4 := ok.s.1.2.1
  have i6 : A.i ≤ 6 := ok.s.1.2.2.1
  have u8 : A.u ≤ 8 := ok.u
  refine zMet.of (by decide) (Nat.le_of_ble_eq_true rfl) ?_
  refine z_iload_n dX12_stage_0 rfl ?_
  refine z_i2l dX12_stage_1 ?_
  refine z_lconst (v := 1) dX12_stage_2 (by decide) ?_
  refine z_ldc2 lc_X12_226 dX12_stage_3 ?_
  refine z_iS3 (c_X12_in g l) mw_X12_in lm_X12_79 ms_X12_in (by decide) (Nat.le_of_ble_eq_true rfl) zle dX12_stage_6 (fun r6 M6 q6 => ?_)
  obtain ⟨qm, qr⟩ := q6
  obtain rfl := qm.symm
  rcases qr with ⟨c6, rfl⟩ | ⟨c6, rfl⟩
  · have d6 := (l_inn (a := 1) (z := 12) (by decide) (by decide)).mp c6
    refine z_if_ne (tgt := 15) dX12_stage_9 (by decide) (fun b9 => ?_) (fun b9 => ?_)
    · have bb : ¬ (x < 1 ∨ 12 < x) := fun z => z.elim (Int32.not_lt.mpr d6.1) (Int32.not_lt.mpr d6.2)
      obtain ⟨m, hm1, hm2, rfl⟩ := (zIdx x (a := 1) (c := 12) (by omega) (by omega)).resolve_right bb
      refine z_aload_n dX12_stage_15 rfl ?_
      refine z_getR (j := 0) (r := 128) kX12 lf_X12_7 (by decide) rfl dX12_stage_16 k0_127 s0_127 r0_127_0 (by decide) ?_
      refine z_iconst (v := 2) dX12_stage_19 (by decide) ?_
      refine z_ialdV (j := 2) rfl (by decide) (C.s 2 (by omega)) dX12_stage_20 k0_128 s0_128 ?_
      refine z_iload_n dX12_stage_21 rfl ?_
      refine z_iadd dX12_stage_22 ?_
      refine z_sipush (v := 999) dX12_stage_23 (by decide) ?_
      refine z_icmp_le (tgt := 32) dX12_stage_26 (by decide) (fun b26 => ?_) (fun b26 => ?_)
      · refine z_aload_n dX12_stage_32 rfl ?_
        refine z_vV0 (c_X12_keepPast g l ok C) mw_X12_keepPast lm_X12_228 mi_X12_keepPast mv_X12_keepPast kX12 (by decide) (Nat.le_of_ble_eq_true rfl) zle k0_127 s0_127 dX12_stage_33 (fun M33 q33 => ?_)
        obtain ⟨C1, F1⟩ := q33
        refine z_iconst (v := 0) dX12_stage_36 (by decide) ?_
        refine z_istore_n dX12_stage_37 (by decide) rfl rfl ?_
        refine (zA.sub (lp_stage2 g l (M0 := M33) ok.s (by omega) (m + 1) 0 (Nat.zero_le _) (by omega) (M33 127 28) (M33 127 29)) C1.self.symm ⟨Or.inr rfl, Or.inr rfl, Or.inr rfl, trivial⟩).weak (fun v S2 M2 q => ?_)
        obtain ⟨qa, rr, qb, qc, rid, led, qd⟩ := q
        have C2 := C1.day (σ := dIter A.s A.n A.r A.i m) (rid := rid) (led := led) ok.push.u
        rw [← qd] at C2
        exact ⟨qa, rr, qb, zStpM.mk C2.1 (fun k a => (C2.2 k a).trans (F1 k a)) (by unfold sStage; rw [if_neg bb, if_neg (Int32.not_lt.mpr b26), nI_clamp (by omega)]) qc⟩
      · refine z_bipush (v := (-5)) dX12_stage_29 (by decide) ?_
        refine z_iret dX12_stage_31 rfl zle ?_
        exact zStpM.of C (by unfold sStage; rw [if_neg bb, if_pos (Int32.not_le.mp b26)])
    · exact absurd b9 (by decide)
  · have d6 := fun z => c6 ((l_inn (a := 1) (z := 12) (by decide) (by decide)).mpr z)
    refine z_if_ne (tgt := 15) dX12_stage_9 (by decide) (fun b9 => ?_) (fun b9 => ?_)
    · exact absurd b9 (by decide)
    · refine z_bipush (v := (-3)) dX12_stage_12 (by decide) ?_
      refine z_iret dX12_stage_14 rfl zle ?_
      exact zStpM.of C (by unfold sStage; exact if_pos (by by_cases z : x < 1; exact Or.inl z; exact Or.inr (Int32.not_le.mp (fun z2 => d6 ⟨Int32.not_lt.mp z, z2⟩))))

set_option maxRecDepth 100000 in
set_option maxHeartbeats 4000000 in
theorem c_X12_oats (g : zG) (l : Launch) {M : zM} {A : aSt} (ok : aOK A) (C : RelM M A) {x : Int32} : zMet g l yX12_oats cX12_oats 2 (some .int) 2 0 0 [.ref 127, .int x] S0 M (zQi (fun r' M' => zStpM M (sOats A x) r' M')) := by
  have n8 : A.n ≤ 8 := ok.s.1.1
  have r4 : A.r ≤ 4 := ok.s.1.2.1
  have i6 : A.i ≤ 6 := ok.s.1.2.2.1
  have u8 : A.u ≤ 8 := ok.u
  rcases zInD x (show A.n < 1000 by omega) with ⟨h, hh, rfl⟩ | hx
  · refine zMet.of (by decide) (Nat.le_of_ble_eq_true rfl) ?_
    refine z_aload_n dX12_oats_0 rfl ?_
    refine z_iload_n dX12_oats_1 rfl ?_
    refine z_iV1 (c_X12_isHour g l ok C) mw_X12_isHour lm_X12_169 mi_X12_isHour mv_X12_isHour kX12 (by decide) (Nat.le_of_ble_eq_true rfl) zle k0_127 s0_127 dX12_oats_2 (fun r2 M2 q2 => ?_)
    obtain ⟨qm2, qr2⟩ := q2
    obtain rfl := qm2.symm
    obtain ⟨c2, rfl⟩ | ⟨c2, rfl⟩ := qr2
    · refine z_if_ne (tgt := 11) dX12_oats_5 (by decide) (fun b5 => ?_) (fun b5 => ?_)
      · refine z_aload_n dX12_oats_11 rfl ?_
        refine z_getR (j := 0) (r := 128) kX12 lf_X12_7 (by decide) rfl dX12_oats_12 k0_127 s0_127 r0_127_0 (by decide) ?_
        refine z_bipush (v := 27) dX12_oats_15 (by decide) ?_
        refine z_iload_n dX12_oats_17 rfl ?_
        refine z_iaddN (a := 27) (b := h) rfl rfl dX12_oats_18 ?_
        refine z_ialdV (j := (27 + h)) rfl (by omega) (C.s (27 + h) (by omega)) dX12_oats_19 k0_128 s0_128 ?_
        refine z_if_ne (tgt := 26) dX12_oats_20 (by decide) (fun b20 => ?_) (fun b20 => ?_)
        · refine z_aload_n dX12_oats_26 rfl ?_
          refine z_vV0 (c_X12_keepPast g l ok C) mw_X12_keepPast lm_X12_228 mi_X12_keepPast mv_X12_keepPast kX12 (by decide) (Nat.le_of_ble_eq_true rfl) zle k0_127 s0_127 dX12_oats_27 (fun M27 q27 => ?_)
          obtain ⟨C1, F1⟩ := q27
          refine z_aload_n dX12_oats_30 rfl ?_
          refine z_iconst (v := 0) dX12_oats_31 (by decide) ?_
          refine z_iload_n dX12_oats_32 rfl ?_
          refine z_vV2 (c_oat0 g l C1 (h := h) (by omega)) mw_X12_oat lm_X12_234 mi_X12_oat mv_X12_oat kX12 (by decide) (Nat.le_of_ble_eq_true rfl) zle k0_127 s0_127 dX12_oats_33 (fun M33 q33 => ?_)
          obtain rfl := q33.symm
          refine z_aload_n dX12_oats_36 rfl ?_
          refine z_getR (j := 0) (r := 128) kX12 lf_X12_7 (by decide) rfl dX12_oats_37 k0_127 s0_127 r0_127_0 (by decide) ?_
          refine z_bipush (v := 27) dX12_oats_40 (by decide) ?_
          refine z_iload_n dX12_oats_42 rfl ?_
          refine z_iaddN (a := 27) (b := h) rfl rfl dX12_oats_43 ?_
          refine z_ialdV (j := (27 + h)) rfl (by omega) (zMd_g (b := 0) 27 h (by omega)) dX12_oats_44 k0_128 s0_128 ?_
          refine z_iret dX12_oats_45 rfl zle ?_
          have C2 := C1.day (σ := dEase A.s h (A.s (27 + h) - 3)) (rid := M27 127 28) (led := M27 127 29) ok.push.u
          exact zStpM.mk C2.1 (fun k a => (C2.2 k a).trans (F1 k a)) (by unfold sOats; rw [aIx_in hh (by omega)]; exact if_neg b20) rfl
        · refine z_bipush (v := (-4)) dX12_oats_23 (by decide) ?_
          refine z_iret dX12_oats_25 rfl zle ?_
          exact zStpM.of C (by unfold sOats; rw [aIx_in hh (by omega)]; exact if_pos b20)
      · exact absurd b5 (by decide)
    · exact absurd (zInP hh (by omega)) c2
  · refine zMet.of (by decide) (Nat.le_of_ble_eq_true rfl) ?_
    refine z_aload_n dX12_oats_0 rfl ?_
    refine z_iload_n dX12_oats_1 rfl ?_
    refine z_iV1 (c_X12_isHour g l ok C) mw_X12_isHour lm_X12_169 mi_X12_isHour mv_X12_isHour kX12 (by decide) (Nat.le_of_ble_eq_true rfl) zle k0_127 s0_127 dX12_oats_2 (fun r2 M2 q2 => ?_)
    obtain ⟨qm2, qr2⟩ := q2
    obtain rfl := qm2.symm
    obtain ⟨c2, rfl⟩ | ⟨c2, rfl⟩ := qr2
    · exact absurd c2 hx
    · refine z_if_ne (tgt := 11) dX12_oats_5 (by decide) (fun b5 => ?_) (fun b5 => ?_)
      · exact absurd b5 (by decide)
      · refine z_bipush (v := (-2)) dX12_oats_8 (by decide) ?_
        refine z_iret dX12_oats_10 rfl zle ?_
        exact zStpM.of C (by unfold sOats; rw [aIx_out hx])

set_option maxRecDepth 100000 in
set_option maxHeartbeats 4000000 in
theorem c_X12_shoe (g : zG) (l : Launch) {M : zM} {A : aSt} (ok : aOK A) (C : RelM M A) {x : Int32} : zMet g l yX12_shoe cX12_shoe 3 (some .int) 2 0 0 [.ref 127, .int x] S0 M (zQi (fun r' M' => zStpM M (sShoe A x) r' M')) := by
  have n8 : A.n ≤ 8 := ok.s.1.1
  have r4 : A.r ≤ 4 := ok.s.1.2.1
  have i6 : A.i ≤ 6 := ok.s.1.2.2.1
  have u8 : A.u ≤ 8 := ok.u
  rcases zInD x (show A.n < 1000 by omega) with ⟨h, hh, rfl⟩ | hx
  · refine zMet.of (by decide) (Nat.le_of_ble_eq_true rfl) ?_
    refine z_aload_n dX12_shoe_0 rfl ?_
    refine z_iload_n dX12_shoe_1 rfl ?_
    refine z_iV1 (c_X12_isHour g l ok C) mw_X12_isHour lm_X12_169 mi_X12_isHour mv_X12_isHour kX12 (by decide) (Nat.le_of_ble_eq_true rfl) zle k0_127 s0_127 dX12_shoe_2 (fun r2 M2 q2 => ?_)
    obtain ⟨qm2, qr2⟩ := q2
    obtain rfl := qm2.symm
    obtain ⟨c2, rfl⟩ | ⟨c2, rfl⟩ := qr2
    · refine z_if_ne (tgt := 11) dX12_shoe_5 (by decide) (fun b5 => ?_) (fun b5 => ?_)
      · refine z_aload_n dX12_shoe_11 rfl ?_
        refine z_getR (j := 0) (r := 128) kX12 lf_X12_7 (by decide) rfl dX12_shoe_12 k0_127 s0_127 r0_127_0 (by decide) ?_
        refine z_bipush (v := 35) dX12_shoe_15 (by decide) ?_
        refine z_iload_n dX12_shoe_17 rfl ?_
        refine z_iaddN (a := 35) (b := h) rfl rfl dX12_shoe_18 ?_
        refine z_ialdV (j := (35 + h)) rfl (by omega) (C.s (35 + h) (by omega)) dX12_shoe_19 k0_128 s0_128 ?_
        refine z_if_ne (tgt := 26) dX12_shoe_20 (by decide) (fun b20 => ?_) (fun b20 => ?_)
        · refine z_aload_n dX12_shoe_26 rfl ?_
          refine z_vV0 (c_X12_keepPast g l ok C) mw_X12_keepPast lm_X12_228 mi_X12_keepPast mv_X12_keepPast kX12 (by decide) (Nat.le_of_ble_eq_true rfl) zle k0_127 s0_127 dX12_shoe_27 (fun M27 q27 => ?_)
          obtain ⟨C1, F1⟩ := q27
          refine z_aload_n dX12_shoe_30 rfl ?_
          refine z_getR (j := 0) (r := 128) kX12 lf_X12_7 (by decide) rfl dX12_shoe_31 k0_127 s0_127 r0_127_0 (by decide) ?_
          refine z_bipush (v := 27) dX12_shoe_34 (by decide) ?_
          refine z_iload_n dX12_shoe_36 rfl ?_
          refine z_iaddN (a := 27) (b := h) rfl rfl dX12_shoe_37 ?_
          refine z_ialdV (j := (27 + h)) rfl (by omega) (C1.s (27 + h) (by omega)) dX12_shoe_38 k0_128 s0_128 ?_
          refine z_istore_n dX12_shoe_39 (by decide) rfl rfl ?_
          refine z_aload_n dX12_shoe_40 rfl ?_
          refine z_getR (j := 0) (r := 128) kX12 lf_X12_7 (by decide) rfl dX12_shoe_41 k0_127 s0_127 r0_127_0 (by decide) ?_
          refine z_bipush (v := 35) dX12_shoe_44 (by decide) ?_
          refine z_iload_n dX12_shoe_46 rfl ?_
          refine z_iaddN (a := 35) (b := h) rfl rfl dX12_shoe_47 ?_
          refine z_iconst (v := 0) dX12_shoe_48 (by decide) ?_
          refine z_iastN (j := (35 + h)) rfl (by omega) dX12_shoe_49 k0_128 s0_128 ?_
          refine z_aload_n dX12_shoe_50 rfl ?_
          refine z_getR (j := 0) (r := 128) kX12 lf_X12_7 (by decide) rfl dX12_shoe_51 k0_127 s0_127 r0_127_0 (by decide) ?_
          refine z_bipush (v := 27) dX12_shoe_54 (by decide) ?_
          refine z_iload_n dX12_shoe_56 rfl ?_
          refine z_iaddN (a := 27) (b := h) rfl rfl dX12_shoe_57 ?_
          refine z_iconst (v := 5) dX12_shoe_58 (by decide) ?_
          refine z_iastN (j := (27 + h)) rfl (by omega) dX12_shoe_59 k0_128 s0_128 ?_
          refine z_iload_n dX12_shoe_60 rfl ?_
          refine z_iret dX12_shoe_61 rfl zle ?_
          have C2 := (C1.setRow (q := 35 + h) (x := 0) (by omega) ok.push.u).setRow (q := 27 + h) (x := 5) (by omega) ok.push.u
          exact zStpM.mk C2 (fun k a => by rw [z_up_n _ _ _ (by omega), z_up_n _ _ _ (by omega)]; exact F1 k a) (by unfold sShoe; rw [aIx_in hh (by omega)]; exact if_neg b20) rfl
        · refine z_bipush (v := (-4)) dX12_shoe_23 (by decide) ?_
          refine z_iret dX12_shoe_25 rfl zle ?_
          exact zStpM.of C (by unfold sShoe; rw [aIx_in hh (by omega)]; exact if_pos b20)
      · exact absurd b5 (by decide)
    · exact absurd (zInP hh (by omega)) c2
  · refine zMet.of (by decide) (Nat.le_of_ble_eq_true rfl) ?_
    refine z_aload_n dX12_shoe_0 rfl ?_
    refine z_iload_n dX12_shoe_1 rfl ?_
    refine z_iV1 (c_X12_isHour g l ok C) mw_X12_isHour lm_X12_169 mi_X12_isHour mv_X12_isHour kX12 (by decide) (Nat.le_of_ble_eq_true rfl) zle k0_127 s0_127 dX12_shoe_2 (fun r2 M2 q2 => ?_)
    obtain ⟨qm2, qr2⟩ := q2
    obtain rfl := qm2.symm
    obtain ⟨c2, rfl⟩ | ⟨c2, rfl⟩ := qr2
    · exact absurd c2 hx
    · refine z_if_ne (tgt := 11) dX12_shoe_5 (by decide) (fun b5 => ?_) (fun b5 => ?_)
      · exact absurd b5 (by decide)
      · refine z_bipush (v := (-2)) dX12_shoe_8 (by decide) ?_
        refine z_iret dX12_shoe_10 rfl zle ?_
        exact zStpM.of C (by unfold sShoe; rw [aIx_out hx])

set_option maxRecDepth 100000 in
set_option maxHeartbeats 4000000 in
theorem c_X12_lead (g : zG) (l : Launch) {M : zM} {A : aSt} (ok : aOK A) (C : RelM M A) {x z : Int32} : zMet g l yX12_lead cX12_lead 4 (some .int) 2 0 0 [.ref 127, .int x, .int z] S0 M (zQi (fun r' M' => zStpM M (sLead A x z) r' M')) := by
  have n8 : A.n ≤ 8 := ok.s.1.1
  have r4 : A.r ≤ 4 := ok.s.1.2.1
  have i6 : A.i ≤ 6 := ok.s.1.2.2.1
  have u8 : A.u ≤ 8 := ok.u
  rcases zInD x (show A.n < 1000 by omega) with ⟨h, hh, rfl⟩ | hx
  · rcases zInD z (show A.i < 1000 by omega) with ⟨j, hj, rfl⟩ | hy
    · refine zMet.of (by decide) (Nat.le_of_ble_eq_true rfl) ?_
      refine z_aload_n dX12_lead_0 rfl ?_
      refine z_iload_n dX12_lead_1 rfl ?_
      refine z_iV1 (c_X12_isHour g l ok C) mw_X12_isHour lm_X12_169 mi_X12_isHour mv_X12_isHour kX12 (by decide) (Nat.le_of_ble_eq_true rfl) zle k0_127 s0_127 dX12_lead_2 (fun r2 M2 q2 => ?_)
      obtain ⟨qm2, qr2⟩ := q2
      obtain rfl := qm2.symm
      obtain ⟨c2, rfl⟩ | ⟨c2, rfl⟩ := qr2
      · refine z_if_eq (tgt := 16) dX12_lead_5 (by decide) (fun b5 => ?_) (fun b5 => ?_)
        · exact absurd b5 (by decide)
        · refine z_aload_n dX12_lead_8 rfl ?_
          refine z_iload_n dX12_lead_9 rfl ?_
          refine z_iV1 (c_X12_isInn g l ok C) mw_X12_isInn lm_X12_175 mi_X12_isInn mv_X12_isInn kX12 (by decide) (Nat.le_of_ble_eq_true rfl) zle k0_127 s0_127 dX12_lead_10 (fun r10 M10 q10 => ?_)
          obtain ⟨qm10, qr10⟩ := q10
          obtain rfl := qm10.symm
          obtain ⟨c10, rfl⟩ | ⟨c10, rfl⟩ := qr10
          · refine z_if_ne (tgt := 19) dX12_lead_13 (by decide) (fun b13 => ?_) (fun b13 => ?_)
            · refine z_aload_n dX12_lead_19 rfl ?_
              refine z_getR (j := 0) (r := 128) kX12 lf_X12_7 (by decide) rfl dX12_lead_20 k0_127 s0_127 r0_127_0 (by decide) ?_
              refine z_bipush (v := 19) dX12_lead_23 (by decide) ?_
              refine z_iload_n dX12_lead_25 rfl ?_
              refine z_iaddN (a := 19) (b := h) rfl rfl dX12_lead_26 ?_
              refine z_ialdV (j := (19 + h)) rfl (by omega) (C.s (19 + h) (by omega)) dX12_lead_27 k0_128 s0_128 ?_
              refine z_istore_n dX12_lead_28 (by decide) rfl rfl ?_
              refine z_iload_n dX12_lead_29 rfl ?_
              refine z_iload_n dX12_lead_30 rfl ?_
              refine z_icmp_ne (tgt := 37) dX12_lead_31 (by decide) (fun b31 => ?_) (fun b31 => ?_)
              · refine z_aload_n dX12_lead_37 rfl ?_
                refine z_vV0 (c_X12_keepPast g l ok C) mw_X12_keepPast lm_X12_228 mi_X12_keepPast mv_X12_keepPast kX12 (by decide) (Nat.le_of_ble_eq_true rfl) zle k0_127 s0_127 dX12_lead_38 (fun M38 q38 => ?_)
                obtain ⟨C1, F1⟩ := q38
                refine z_aload_n dX12_lead_41 rfl ?_
                refine z_getR (j := 0) (r := 128) kX12 lf_X12_7 (by decide) rfl dX12_lead_42 k0_127 s0_127 r0_127_0 (by decide) ?_
                refine z_bipush (v := 19) dX12_lead_45 (by decide) ?_
                refine z_iload_n dX12_lead_47 rfl ?_
                refine z_iaddN (a := 19) (b := h) rfl rfl dX12_lead_48 ?_
                refine z_iload_n dX12_lead_49 rfl ?_
                refine z_iastN (j := (19 + h)) rfl (by omega) dX12_lead_50 k0_128 s0_128 ?_
                refine z_iload_n dX12_lead_51 rfl ?_
                refine z_iret dX12_lead_52 rfl zle ?_
                have C2 := C1.setRow (q := 19 + h) (x := nI j) (by omega) ok.push.u
                exact zStpM.mk C2 (fun k a => by rw [z_up_n _ _ _ (by omega)]; exact F1 k a) (by unfold sLead; rw [aIx_in hh (by omega), aIx_in hj (by omega)]; exact if_neg b31) rfl
              · refine z_bipush (v := (-4)) dX12_lead_34 (by decide) ?_
                refine z_iret dX12_lead_36 rfl zle ?_
                exact zStpM.of C (by unfold sLead; rw [aIx_in hh (by omega), aIx_in hj (by omega)]; exact if_pos b31)
            · exact absurd b13 (by decide)
          · exact absurd (zInP hj (by omega)) c10
      · exact absurd (zInP hh (by omega)) c2
    · refine zMet.of (by decide) (Nat.le_of_ble_eq_true rfl) ?_
      refine z_aload_n dX12_lead_0 rfl ?_
      refine z_iload_n dX12_lead_1 rfl ?_
      refine z_iV1 (c_X12_isHour g l ok C) mw_X12_isHour lm_X12_169 mi_X12_isHour mv_X12_isHour kX12 (by decide) (Nat.le_of_ble_eq_true rfl) zle k0_127 s0_127 dX12_lead_2 (fun r2 M2 q2 => ?_)
      obtain ⟨qm2, qr2⟩ := q2
      obtain rfl := qm2.symm
      obtain ⟨c2, rfl⟩ | ⟨c2, rfl⟩ := qr2
      · refine z_if_eq (tgt := 16) dX12_lead_5 (by decide) (fun b5 => ?_) (fun b5 => ?_)
        · exact absurd b5 (by decide)
        · refine z_aload_n dX12_lead_8 rfl ?_
          refine z_iload_n dX12_lead_9 rfl ?_
          refine z_iV1 (c_X12_isInn g l ok C) mw_X12_isInn lm_X12_175 mi_X12_isInn mv_X12_isInn kX12 (by decide) (Nat.le_of_ble_eq_true rfl) zle k0_127 s0_127 dX12_lead_10 (fun r10 M10 q10 => ?_)
          obtain ⟨qm10, qr10⟩ := q10
          obtain rfl := qm10.symm
          obtain ⟨c10, rfl⟩ | ⟨c10, rfl⟩ := qr10
          · exact absurd c10 hy
          · refine z_if_ne (tgt := 19) dX12_lead_13 (by decide) (fun b13 => ?_) (fun b13 => ?_)
            · exact absurd b13 (by decide)
            · refine z_bipush (v := (-2)) dX12_lead_16 (by decide) ?_
              refine z_iret dX12_lead_18 rfl zle ?_
              exact zStpM.of C (by unfold sLead; rw [aIx_in hh (by omega), aIx_out hy])
      · exact absurd (zInP hh (by omega)) c2
  · refine zMet.of (by decide) (Nat.le_of_ble_eq_true rfl) ?_
    refine z_aload_n dX12_lead_0 rfl ?_
    refine z_iload_n dX12_lead_1 rfl ?_
    refine z_iV1 (c_X12_isHour g l ok C) mw_X12_isHour lm_X12_169 mi_X12_isHour mv_X12_isHour kX12 (by decide) (Nat.le_of_ble_eq_true rfl) zle k0_127 s0_127 dX12_lead_2 (fun r2 M2 q2 => ?_)
    obtain ⟨qm2, qr2⟩ := q2
    obtain rfl := qm2.symm
    obtain ⟨c2, rfl⟩ | ⟨c2, rfl⟩ := qr2
    · exact absurd c2 hx
    · refine z_if_eq (tgt := 16) dX12_lead_5 (by decide) (fun b5 => ?_) (fun b5 => ?_)
      · refine z_bipush (v := (-2)) dX12_lead_16 (by decide) ?_
        refine z_iret dX12_lead_18 rfl zle ?_
        exact zStpM.of C (by unfold sLead; rw [aIx_out hx])
      · exact absurd b5 (by decide)

set_option maxRecDepth 100000 in
set_option maxHeartbeats 4000000 in
theorem c_X12_turn (g : zG) (l : Launch) {M : zM} {A : aSt} (ok : aOK A) (C : RelM M A) {x z : Int32} : zMet g l yX12_turn cX12_turn 4 (some .int) 2 0 0 [.ref 127, .int x, .int z] S0 M (zQi (fun r' M' => zStpM M (sTurn A x z) r' M')) := by
  have n8 : A.n ≤ 8 := ok.s.1.1
  have r4 : A.r ≤ 4 := ok.s.1.2.1
  have i6 : A.i ≤ 6 := ok.s.1.2.2.1
  have u8 : A.u ≤ 8 := ok.u
  rcases zInD x (show A.r < 1000 by omega) with ⟨h, hh, rfl⟩ | hx
  · rcases zInD z (show A.i < 1000 by omega) with ⟨j, hj, rfl⟩ | hy
    · refine zMet.of (by decide) (Nat.le_of_ble_eq_true rfl) ?_
      refine z_aload_n dX12_turn_0 rfl ?_
      refine z_iload_n dX12_turn_1 rfl ?_
      refine z_iV1 (c_X12_isRider g l ok C) mw_X12_isRider lm_X12_172 mi_X12_isRider mv_X12_isRider kX12 (by decide) (Nat.le_of_ble_eq_true rfl) zle k0_127 s0_127 dX12_turn_2 (fun r2 M2 q2 => ?_)
      obtain ⟨qm2, qr2⟩ := q2
      obtain rfl := qm2.symm
      obtain ⟨c2, rfl⟩ | ⟨c2, rfl⟩ := qr2
      · refine z_if_eq (tgt := 16) dX12_turn_5 (by decide) (fun b5 => ?_) (fun b5 => ?_)
        · exact absurd b5 (by decide)
        · refine z_aload_n dX12_turn_8 rfl ?_
          refine z_iload_n dX12_turn_9 rfl ?_
          refine z_iV1 (c_X12_isInn g l ok C) mw_X12_isInn lm_X12_175 mi_X12_isInn mv_X12_isInn kX12 (by decide) (Nat.le_of_ble_eq_true rfl) zle k0_127 s0_127 dX12_turn_10 (fun r10 M10 q10 => ?_)
          obtain ⟨qm10, qr10⟩ := q10
          obtain rfl := qm10.symm
          obtain ⟨c10, rfl⟩ | ⟨c10, rfl⟩ := qr10
          · refine z_if_ne (tgt := 19) dX12_turn_13 (by decide) (fun b13 => ?_) (fun b13 => ?_)
            · refine z_aload_n dX12_turn_19 rfl ?_
              refine z_getR (j := 0) (r := 128) kX12 lf_X12_7 (by decide) rfl dX12_turn_20 k0_127 s0_127 r0_127_0 (by decide) ?_
              refine z_bipush (v := 55) dX12_turn_23 (by decide) ?_
              refine z_iload_n dX12_turn_25 rfl ?_
              refine z_iaddN (a := 55) (b := h) rfl rfl dX12_turn_26 ?_
              refine z_ialdV (j := (55 + h)) rfl (by omega) (C.s (55 + h) (by omega)) dX12_turn_27 k0_128 s0_128 ?_
              refine z_istore_n dX12_turn_28 (by decide) rfl rfl ?_
              refine z_iload_n dX12_turn_29 rfl ?_
              refine z_iload_n dX12_turn_30 rfl ?_
              refine z_icmp_ne (tgt := 37) dX12_turn_31 (by decide) (fun b31 => ?_) (fun b31 => ?_)
              · refine z_aload_n dX12_turn_37 rfl ?_
                refine z_vV0 (c_X12_keepPast g l ok C) mw_X12_keepPast lm_X12_228 mi_X12_keepPast mv_X12_keepPast kX12 (by decide) (Nat.le_of_ble_eq_true rfl) zle k0_127 s0_127 dX12_turn_38 (fun M38 q38 => ?_)
                obtain ⟨C1, F1⟩ := q38
                refine z_aload_n dX12_turn_41 rfl ?_
                refine z_getR (j := 0) (r := 128) kX12 lf_X12_7 (by decide) rfl dX12_turn_42 k0_127 s0_127 r0_127_0 (by decide) ?_
                refine z_bipush (v := 55) dX12_turn_45 (by decide) ?_
                refine z_iload_n dX12_turn_47 rfl ?_
                refine z_iaddN (a := 55) (b := h) rfl rfl dX12_turn_48 ?_
                refine z_iload_n dX12_turn_49 rfl ?_
                refine z_iastN (j := (55 + h)) rfl (by omega) dX12_turn_50 k0_128 s0_128 ?_
                refine z_iload_n dX12_turn_51 rfl ?_
                refine z_iret dX12_turn_52 rfl zle ?_
                have C2 := C1.setRow (q := 55 + h) (x := nI j) (by omega) ok.push.u
                exact zStpM.mk C2 (fun k a => by rw [z_up_n _ _ _ (by omega)]; exact F1 k a) (by unfold sTurn; rw [aIx_in hh (by omega), aIx_in hj (by omega)]; exact if_neg b31) rfl
              · refine z_bipush (v := (-4)) dX12_turn_34 (by decide) ?_
                refine z_iret dX12_turn_36 rfl zle ?_
                exact zStpM.of C (by unfold sTurn; rw [aIx_in hh (by omega), aIx_in hj (by omega)]; exact if_pos b31)
            · exact absurd b13 (by decide)
          · exact absurd (zInP hj (by omega)) c10
      · exact absurd (zInP hh (by omega)) c2
    · refine zMet.of (by decide) (Nat.le_of_ble_eq_true rfl) ?_
      refine z_aload_n dX12_turn_0 rfl ?_
      refine z_iload_n dX12_turn_1 rfl ?_
      refine z_iV1 (c_X12_isRider g l ok C) mw_X12_isRider lm_X12_172 mi_X12_isRider mv_X12_isRider kX12 (by decide) (Nat.le_of_ble_eq_true rfl) zle k0_127 s0_127 dX12_turn_2 (fun r2 M2 q2 => ?_)
      obtain ⟨qm2, qr2⟩ := q2
      obtain rfl := qm2.symm
      obtain ⟨c2, rfl⟩ | ⟨c2, rfl⟩ := qr2
      · refine z_if_eq (tgt := 16) dX12_turn_5 (by decide) (fun b5 => ?_) (fun b5 => ?_)
        · exact absurd b5 (by decide)
        · refine z_aload_n dX12_turn_8 rfl ?_
          refine z_iload_n dX12_turn_9 rfl ?_
          refine z_iV1 (c_X12_isInn g l ok C) mw_X12_isInn lm_X12_175 mi_X12_isInn mv_X12_isInn kX12 (by decide) (Nat.le_of_ble_eq_true rfl) zle k0_127 s0_127 dX12_turn_10 (fun r10 M10 q10 => ?_)
          obtain ⟨qm10, qr10⟩ := q10
          obtain rfl := qm10.symm
          obtain ⟨c10, rfl⟩ | ⟨c10, rfl⟩ := qr10
          · exact absurd c10 hy
          · refine z_if_ne (tgt := 19) dX12_turn_13 (by decide) (fun b13 => ?_) (fun b13 => ?_)
            · exact absurd b13 (by decide)
            · refine z_bipush (v := (-2)) dX12_turn_16 (by decide) ?_
              refine z_iret dX12_turn_18 rfl zle ?_
              exact zStpM.of C (by unfold sTurn; rw [aIx_in hh (by omega), aIx_out hy])
      · exact absurd (zInP hh (by omega)) c2
  · refine zMet.of (by decide) (Nat.le_of_ble_eq_true rfl) ?_
    refine z_aload_n dX12_turn_0 rfl ?_
    refine z_iload_n dX12_turn_1 rfl ?_
    refine z_iV1 (c_X12_isRider g l ok C) mw_X12_isRider lm_X12_172 mi_X12_isRider mv_X12_isRider kX12 (by decide) (Nat.le_of_ble_eq_true rfl) zle k0_127 s0_127 dX12_turn_2 (fun r2 M2 q2 => ?_)
    obtain ⟨qm2, qr2⟩ := q2
    obtain rfl := qm2.symm
    obtain ⟨c2, rfl⟩ | ⟨c2, rfl⟩ := qr2
    · exact absurd c2 hx
    · refine z_if_eq (tgt := 16) dX12_turn_5 (by decide) (fun b5 => ?_) (fun b5 => ?_)
      · refine z_bipush (v := (-2)) dX12_turn_16 (by decide) ?_
        refine z_iret dX12_turn_18 rfl zle ?_
        exact zStpM.of C (by unfold sTurn; rw [aIx_out hx])
      · exact absurd b5 (by decide)

set_option maxRecDepth 100000 in
set_option maxHeartbeats 4000000 in
theorem c_X12_undo (g : zG) (l : Launch) {M : zM} {A : aSt} (ok : aOK A) (C : RelM M A) : zMet g l yX12_undo cX12_undo 1 (some .int) 1 0 0 [.ref 127] S0 M (zQi (fun r' M' => zStpM M (sUndo A) r' M')) := by
  have n8 : A.n ≤ 8 := ok.s.1.1
  have r4 : A.r ≤ 4 := ok.s.1.2.1
  have i6 : A.i ≤ 6 := ok.s.1.2.2.1
  have u8 : A.u ≤ 8 := ok.u
  rcases Nat.eq_zero_or_pos A.u with hu | hu
  · refine zMet.of (by decide) (Nat.le_of_ble_eq_true rfl) ?_
    refine z_aload_n dX12_undo_0 rfl ?_
    refine z_getIV (j := 1) kX12 lf_X12_163 (by decide) rfl C.fl.1 dX12_undo_1 k0_127 s0_127 ?_
    refine z_if_ne (tgt := 10) dX12_undo_4 (by decide) (fun b4 => ?_) (fun b4 => ?_)
    · exact absurd (by rw [hu]; rfl) b4
    · refine z_bipush (v := (-4)) dX12_undo_7 (by decide) ?_
      refine z_iret dX12_undo_9 rfl zle ?_
      exact zStpM.of C (by unfold sUndo; rw [if_pos hu])
  · obtain ⟨u, eu⟩ : ∃ u, A.u = u + 1 := ⟨A.u - 1, by omega⟩
    have C0 := C.fl.1
    rw [eu] at C0
    refine zMet.of (by decide) (Nat.le_of_ble_eq_true rfl) ?_
    refine z_aload_n dX12_undo_0 rfl ?_
    refine z_getIV (j := 1) kX12 lf_X12_163 (by decide) rfl C0 dX12_undo_1 k0_127 s0_127 ?_
    refine z_if_ne (tgt := 10) dX12_undo_4 (by decide) (fun b4 => ?_) (fun b4 => ?_)
    · refine z_aload_n dX12_undo_10 rfl ?_
      refine z_dup dX12_undo_11 rfl ?_
      refine z_getIV (j := 1) kX12 lf_X12_163 (by decide) rfl C0 dX12_undo_12 k0_127 s0_127 ?_
      refine z_iconst (v := 1) dX12_undo_15 (by decide) ?_
      refine z_isub dX12_undo_16 ?_
      refine z_as (x' := nI u) (nI_pred u) ?_
      refine z_putI (j := 1) kX12 lf_X12_163 (by decide) rfl rfl (kX12.2.2.1 1 (by decide)) rfl rfl dX12_undo_17 k0_127 s0_127 ?_
      refine z_aload_n dX12_undo_20 rfl ?_
      refine z_sipush (v := 140) dX12_undo_21 (by decide) ?_
      refine z_bipush (v := 70) dX12_undo_24 (by decide) ?_
      refine z_aload_n dX12_undo_26 rfl ?_
      refine z_getIV (j := 1) kX12 lf_X12_163 (by decide) rfl (z_up_kj _ _ _ _) dX12_undo_27 k0_127 s0_127 ?_
      refine z_imulN (a := 70) (b := u) rfl rfl dX12_undo_30 ?_
      refine z_iaddN (a := 140) (b := (70 * u)) rfl rfl dX12_undo_31 ?_
      refine z_iconst (v := 0) dX12_undo_32 (by decide) ?_
      refine z_vV2 (c_X12_copyRoad g l (a := 140 + 70 * u) (c := 0) (by omega) (by omega) (by omega)) mw_X12_copyRoad lm_X12_159 mi_X12_copyRoad mv_X12_copyRoad kX12 (by decide) (Nat.le_of_ble_eq_true rfl) zle k0_127 s0_127 dX12_undo_33 (fun M33 q33 => ?_)
      obtain rfl := q33.symm
      refine z_aload_n dX12_undo_36 rfl ?_
      refine z_getIV (j := 1) kX12 lf_X12_163 (by decide) rfl ((congrFun (z_row_n _ _ (by omega)) 1).trans (z_up_kj _ _ _ _)) dX12_undo_37 k0_127 s0_127 ?_
      refine z_iret dX12_undo_40 rfl zle ?_
      have C1 := C.undo eu u8
      exact zStpM.mk C1.1 C1.2 (by unfold sUndo; rw [if_neg (by omega), eu]; rfl) rfl
    · exact absurd ((nI_eq (b := 0) (by omega) (by omega)).mp b4) (by omega)

set_option maxRecDepth 100000 in
set_option maxHeartbeats 4000000 in
theorem c_X12_keep (g : zG) (l : Launch) {M : zM} {A : aSt} (ok : aOK A) (C : RelM M A) {x : Int32} : zMet g l yX12_keep cX12_keep 2 (some .int) 1 0 0 [.ref 127, .int x] S0 M (zQi (fun r' M' => zStpM M (sKeep A x) r' M')) := by
  have n8 : A.n ≤ 8 := ok.s.1.1
  have r4 : A.r ≤ 4 := ok.s.1.2.1
  have i6 : A.i ≤ 6 := ok.s.1.2.2.1
  have u8 : A.u ≤ 8 := ok.u
  refine zMet.of (by decide) (Nat.le_of_ble_eq_true rfl) ?_
  refine z_iload_n dX12_keep_0 rfl ?_
  refine z_i2l dX12_keep_1 ?_
  refine z_lconst (v := 0) dX12_keep_2 (by decide) ?_
  refine z_lconst (v := 1) dX12_keep_3 (by decide) ?_
  refine z_iS3 (c_X12_in g l) mw_X12_in lm_X12_79 ms_X12_in (by decide) (Nat.le_of_ble_eq_true rfl) zle dX12_keep_4 (fun r4 M4 q4 => ?_)
  obtain ⟨qm, qr⟩ := q4
  obtain rfl := qm.symm
  rcases qr with ⟨c4, rfl⟩ | ⟨c4, rfl⟩
  · have d4 := (l_inn (a := 0) (z := 1) (by decide) (by decide)).mp c4
    refine z_if_ne (tgt := 13) dX12_keep_7 (by decide) (fun b7 => ?_) (fun b7 => ?_)
    · obtain ⟨h, -, hh, rfl⟩ := (zIdx x (a := 0) (c := 1) (by omega) (by omega)).resolve_right (fun z => z.elim (Int32.not_lt.mpr d4.1) (Int32.not_lt.mpr d4.2))
      refine z_aload_n dX12_keep_13 rfl ?_
      refine z_iconst (v := 0) dX12_keep_14 (by decide) ?_
      refine z_sipush (v := 700) dX12_keep_15 (by decide) ?_
      refine z_bipush (v := 70) dX12_keep_18 (by decide) ?_
      refine z_iload_n dX12_keep_20 rfl ?_
      refine z_imulN (a := 70) (b := h) rfl rfl dX12_keep_21 ?_
      refine z_iaddN (a := 700) (b := (70 * h)) rfl rfl dX12_keep_22 ?_
      refine z_vV2 (c_X12_copyRoad g l (a := 0) (c := 700 + 70 * h) (by omega) (by omega) (by omega)) mw_X12_copyRoad lm_X12_159 mi_X12_copyRoad mv_X12_copyRoad kX12 (by decide) (Nat.le_of_ble_eq_true rfl) zle k0_127 s0_127 dX12_keep_23 (fun M23 q23 => ?_)
      obtain rfl := q23.symm
      refine z_aload_n dX12_keep_26 rfl ?_
      refine z_getR (j := 2) (r := 129) kX12 lf_X12_13 (by decide) rfl dX12_keep_27 k0_127 s0_127 r0_127_2 (by decide) ?_
      refine z_iload_n dX12_keep_30 rfl ?_
      refine z_iconst (v := 1) dX12_keep_31 (by decide) ?_
      refine z_zastN (j := h) rfl (by omega) rfl dX12_keep_32 k0_129 s0_129 ?_
      refine z_aload_n dX12_keep_33 rfl ?_
      refine z_getR (j := 0) (r := 128) kX12 lf_X12_7 (by decide) rfl dX12_keep_34 k0_127 s0_127 r0_127_0 (by decide) ?_
      refine z_iconst (v := 2) dX12_keep_37 (by decide) ?_
      refine z_ialdV (j := 2) rfl (by decide) (((congrFun (z_up_n _ _ _ (by omega)) 2).trans ((congrFun (z_row_s _ _ _) 2).trans (if_neg (by omega)))).trans (C.s 2 (by omega))) dX12_keep_38 k0_128 s0_128 ?_
      refine z_iret dX12_keep_39 rfl zle ?_
      have C1 := C.keepD (h := h) (by omega) u8 rfl
      exact zStpM.mk C1.1 C1.2 (by unfold sKeep; rw [aIx_in (n := 2) (by omega) (by omega)]) rfl
    · exact absurd b7 (by decide)
  · have d4 := fun z => c4 ((l_inn (a := 0) (z := 1) (by decide) (by decide)).mpr z)
    refine z_if_ne (tgt := 13) dX12_keep_7 (by decide) (fun b7 => ?_) (fun b7 => ?_)
    · exact absurd b7 (by decide)
    · refine z_bipush (v := (-2)) dX12_keep_10 (by decide) ?_
      refine z_iret dX12_keep_12 rfl zle ?_
      exact zStpM.of C (by unfold sKeep; rw [aIx_out (fun z => d4 (le_one z))])

set_option maxRecDepth 100000 in
set_option maxHeartbeats 4000000 in
theorem c_X12_back (g : zG) (l : Launch) {M : zM} {A : aSt} (ok : aOK A) (C : RelM M A) {x : Int32} : zMet g l yX12_back cX12_back 2 (some .int) 1 0 0 [.ref 127, .int x] S0 M (zQi (fun r' M' => zStpM M (sBack A x) r' M')) := by
  have n8 : A.n ≤ 8 := ok.s.1.1
  have r4 : A.r ≤ 4 := ok.s.1.2.1
  have i6 : A.i ≤ 6 := ok.s.1.2.2.1
  have u8 : A.u ≤ 8 := ok.u
  refine zMet.of (by decide) (Nat.le_of_ble_eq_true rfl) ?_
  refine z_iload_n dX12_back_0 rfl ?_
  refine z_i2l dX12_back_1 ?_
  refine z_lconst (v := 0) dX12_back_2 (by decide) ?_
  refine z_lconst (v := 1) dX12_back_3 (by decide) ?_
  refine z_iS3 (c_X12_in g l) mw_X12_in lm_X12_79 ms_X12_in (by decide) (Nat.le_of_ble_eq_true rfl) zle dX12_back_4 (fun r4 M4 q4 => ?_)
  obtain ⟨qm, qr⟩ := q4
  obtain rfl := qm.symm
  rcases qr with ⟨c4, rfl⟩ | ⟨c4, rfl⟩
  · have d4 := (l_inn (a := 0) (z := 1) (by decide) (by decide)).mp c4
    refine z_if_ne (tgt := 13) dX12_back_7 (by decide) (fun b7 => ?_) (fun b7 => ?_)
    · obtain ⟨h, -, hh, rfl⟩ := (zIdx x (a := 0) (c := 1) (by omega) (by omega)).resolve_right (fun z => z.elim (Int32.not_lt.mpr d4.1) (Int32.not_lt.mpr d4.2))
      refine z_aload_n dX12_back_13 rfl ?_
      refine z_getR (j := 2) (r := 129) kX12 lf_X12_13 (by decide) rfl dX12_back_14 k0_127 s0_127 r0_127_2 (by decide) ?_
      refine z_iload_n dX12_back_17 rfl ?_
      refine z_zaldV (j := h) rfl (by omega) (C.kb h (by omega)) dX12_back_18 k0_129 s0_129 ?_
      refine z_if_ne (tgt := 25) dX12_back_19 (by decide) (fun b19 => ?_) (fun b19 => ?_)
      · have hb : A.kb h = true := Classical.byContradiction (fun z => b19 (if_neg z))
        refine z_aload_n dX12_back_25 rfl ?_
        refine z_sipush (v := 700) dX12_back_26 (by decide) ?_
        refine z_bipush (v := 70) dX12_back_29 (by decide) ?_
        refine z_iload_n dX12_back_31 rfl ?_
        refine z_imulN (a := 70) (b := h) rfl rfl dX12_back_32 ?_
        refine z_iaddN (a := 700) (b := (70 * h)) rfl rfl dX12_back_33 ?_
        refine z_iconst (v := 0) dX12_back_34 (by decide) ?_
        refine z_vV2 (c_X12_copyRoad g l (a := 700 + 70 * h) (c := 0) (by omega) (by omega) (by omega)) mw_X12_copyRoad lm_X12_159 mi_X12_copyRoad mv_X12_copyRoad kX12 (by decide) (Nat.le_of_ble_eq_true rfl) zle k0_127 s0_127 dX12_back_35 (fun M35 q35 => ?_)
        obtain rfl := q35.symm
        refine z_aload_n dX12_back_38 rfl ?_
        refine z_iconst (v := 0) dX12_back_39 (by decide) ?_
        refine z_putI (j := 1) kX12 lf_X12_163 (by decide) rfl rfl (kX12.2.2.1 1 (by decide)) rfl rfl dX12_back_40 k0_127 s0_127 ?_
        refine z_aload_n dX12_back_43 rfl ?_
        refine z_getR (j := 0) (r := 128) kX12 lf_X12_7 (by decide) rfl dX12_back_44 k0_127 s0_127 r0_127_0 (by decide) ?_
        refine z_iconst (v := 2) dX12_back_47 (by decide) ?_
        refine z_ialdV (j := 2) rfl (by decide) (((congrFun (z_up_n _ _ _ (by omega)) 2).trans ((congrFun (z_row_s _ _ _) 2).trans (if_pos (by omega)))).trans (C.K h (by omega) hb 2 (by omega))) dX12_back_48 k0_128 s0_128 ?_
        refine z_iret dX12_back_49 rfl zle ?_
        have C1 := C.backD (h := h) (by omega) hb u8 rfl
        exact zStpM.mk C1.1 C1.2 (by unfold sBack; rw [aIx_in (n := 2) (by omega) (by omega), if_pos hb]) rfl
      · have hb : ¬ A.kb h = true := fun z => by rw [if_pos z] at b19; exact absurd b19 (by decide)
        refine z_bipush (v := (-4)) dX12_back_22 (by decide) ?_
        refine z_iret dX12_back_24 rfl zle ?_
        exact zStpM.of C (by unfold sBack; rw [aIx_in (n := 2) (by omega) (by omega), if_neg hb])
    · exact absurd b7 (by decide)
  · have d4 := fun z => c4 ((l_inn (a := 0) (z := 1) (by decide) (by decide)).mpr z)
    refine z_if_ne (tgt := 13) dX12_back_7 (by decide) (fun b7 => ?_) (fun b7 => ?_)
    · exact absurd b7 (by decide)
    · refine z_bipush (v := (-2)) dX12_back_10 (by decide) ?_
      refine z_iret dX12_back_12 rfl zle ?_
      exact zStpM.of C (by unfold sBack; rw [aIx_out (fun z => d4 (le_one z))])

set_option maxRecDepth 100000 in
set_option maxHeartbeats 4000000 in
theorem c_X12_seen (g : zG) (l : Launch) {M : zM} {A : aSt} (ok : aOK A) (C : RelM M A) {m t d : Int32} : zMet g l yX12_seen cX12_seen 4 (some .int) 1 0 0 [.ref 127, .int m, .int t, .int d] S0 M (zQi (fun r' M' => zStpM M (sSeen A m t d) r' M')) := by
  have n8 : A.n ≤ 8 := ok.s.1.1
  have r4 : A.r ≤ 4 := ok.s.1.2.1
  have i6 : A.i ≤ 6 := ok.s.1.2.2.1
  have u8 : A.u ≤ 8 := ok.u
  have v6 := ok.v
  refine zMet.of (by decide) (Nat.le_of_ble_eq_true rfl) ?_
  refine z_iload_n dX12_seen_0 rfl ?_
  refine z_i2l dX12_seen_1 ?_
  refine z_lconst (v := 1) dX12_seen_2 (by decide) ?_
  refine z_ldc2 lc_X12_264 dX12_seen_3 ?_
  refine z_iS3 (c_X12_in g l) mw_X12_in lm_X12_79 ms_X12_in (by decide) (Nat.le_of_ble_eq_true rfl) zle dX12_seen_6 (fun r6 M6 q6 => ?_)
  obtain ⟨qm, qr⟩ := q6
  obtain rfl := qm.symm
  rcases qr with ⟨c6, rfl⟩ | ⟨c6, rfl⟩
  · have d6 := (l_inn (a := 1) (z := 9) (by decide) (by decide)).mp c6
    refine z_if_eq (tgt := 36) dX12_seen_9 (by decide) (fun b9 => ?_) (fun b9 => ?_)
    · exact absurd b9 (by decide)
    · refine z_iload_n dX12_seen_12 rfl ?_
      refine z_i2l dX12_seen_13 ?_
      refine z_lconst (v := 0) dX12_seen_14 (by decide) ?_
      refine z_ldc2 lc_X12_268 dX12_seen_15 ?_
      refine z_iS3 (c_X12_in g l) mw_X12_in lm_X12_79 ms_X12_in (by decide) (Nat.le_of_ble_eq_true rfl) zle dX12_seen_18 (fun r18 M18 q18 => ?_)
      obtain ⟨qm, qr⟩ := q18
      obtain rfl := qm.symm
      rcases qr with ⟨c18, rfl⟩ | ⟨c18, rfl⟩
      · have d18 := (l_inn (a := 0) (z := 20) (by decide) (by decide)).mp c18
        refine z_if_eq (tgt := 36) dX12_seen_21 (by decide) (fun b21 => ?_) (fun b21 => ?_)
        · exact absurd b21 (by decide)
        · refine z_iload_n dX12_seen_24 rfl ?_
          refine z_i2l dX12_seen_25 ?_
          refine z_lconst (v := 0) dX12_seen_26 (by decide) ?_
          refine z_ldc2 lc_X12_268 dX12_seen_27 ?_
          refine z_iS3 (c_X12_in g l) mw_X12_in lm_X12_79 ms_X12_in (by decide) (Nat.le_of_ble_eq_true rfl) zle dX12_seen_30 (fun r30 M30 q30 => ?_)
          obtain ⟨qm, qr⟩ := q30
          obtain rfl := qm.symm
          rcases qr with ⟨c30, rfl⟩ | ⟨c30, rfl⟩
          · have d30 := (l_inn (a := 0) (z := 20) (by decide) (by decide)).mp c30
            refine z_if_ne (tgt := 39) dX12_seen_33 (by decide) (fun b33 => ?_) (fun b33 => ?_)
            · have hb : ¬ ((m < 1 ∨ 9 < m) ∨ (t < 0 ∨ 20 < t) ∨ (d < 0 ∨ 20 < d)) := fun z => z.elim (fun z => z.elim (Int32.not_lt.mpr d6.1) (Int32.not_lt.mpr d6.2)) (fun z => z.elim (fun z => z.elim (Int32.not_lt.mpr d18.1) (Int32.not_lt.mpr d18.2)) (fun z => z.elim (Int32.not_lt.mpr d30.1) (Int32.not_lt.mpr d30.2)))
              refine z_aload_n dX12_seen_39 rfl ?_
              refine z_getIV (j := 5) kX12 lf_X12_166 (by decide) rfl C.fl.2.2 dX12_seen_40 k0_127 s0_127 ?_
              refine z_bipush (v := 6) dX12_seen_43 (by decide) ?_
              refine z_icmp_ne (tgt := 51) dX12_seen_45 (by decide) (fun b45 => ?_) (fun b45 => ?_)
              · have hL : A.v < 6 := by
                  have : A.v ≠ 6 := fun z => b45 (by rw [z]; rfl)
                  omega
                refine z_aload_n dX12_seen_51 rfl ?_
                refine z_getR (j := 6) (r := 131) kX12 lf_X12_20 (by decide) rfl dX12_seen_52 k0_127 s0_127 r0_127_6 (by decide) ?_
                refine z_aload_n dX12_seen_55 rfl ?_
                refine z_getIV (j := 5) kX12 lf_X12_166 (by decide) rfl C.fl.2.2 dX12_seen_56 k0_127 s0_127 ?_
                refine z_iload_n dX12_seen_59 rfl ?_
                refine z_iastN (j := A.v) rfl hL dX12_seen_60 k0_131 s0_131 ?_
                refine z_aload_n dX12_seen_61 rfl ?_
                refine z_getR (j := 7) (r := 132) kX12 lf_X12_23 (by decide) rfl dX12_seen_62 k0_127 s0_127 r0_127_7 (by decide) ?_
                refine z_aload_n dX12_seen_65 rfl ?_
                refine z_getIV (j := 5) kX12 lf_X12_166 (by decide) rfl ((congrFun ((z_up_n _ _ _ (by omega))) 5).trans C.fl.2.2) dX12_seen_66 k0_127 s0_127 ?_
                refine z_iload_n dX12_seen_69 rfl ?_
                refine z_iastN (j := A.v) rfl hL dX12_seen_70 k0_132 s0_132 ?_
                refine z_aload_n dX12_seen_71 rfl ?_
                refine z_getR (j := 8) (r := 133) kX12 lf_X12_26 (by decide) rfl dX12_seen_72 k0_127 s0_127 r0_127_8 (by decide) ?_
                refine z_aload_n dX12_seen_75 rfl ?_
                refine z_getIV (j := 5) kX12 lf_X12_166 (by decide) rfl ((congrFun (((z_up_n _ _ _ (by omega)).trans (z_up_n _ _ _ (by omega)))) 5).trans C.fl.2.2) dX12_seen_76 k0_127 s0_127 ?_
                refine z_iload_n dX12_seen_79 rfl ?_
                refine z_iastN (j := A.v) rfl hL dX12_seen_80 k0_133 s0_133 ?_
                refine z_aload_n dX12_seen_81 rfl ?_
                refine z_dup dX12_seen_82 rfl ?_
                refine z_getIV (j := 5) kX12 lf_X12_166 (by decide) rfl ((congrFun (((z_up_n _ _ _ (by omega)).trans ((z_up_n _ _ _ (by omega)).trans (z_up_n _ _ _ (by omega))))) 5).trans C.fl.2.2) dX12_seen_83 k0_127 s0_127 ?_
                refine z_iconst (v := 1) dX12_seen_86 (by decide) ?_
                refine z_iaddN (a := A.v) (b := 1) rfl rfl dX12_seen_87 ?_
                refine z_putI (j := 5) kX12 lf_X12_166 (by decide) rfl rfl (kX12.2.2.1 5 (by decide)) rfl rfl dX12_seen_88 k0_127 s0_127 ?_
                refine z_aload_n dX12_seen_91 rfl ?_
                refine z_getIV (j := 5) kX12 lf_X12_166 (by decide) rfl (z_up_kj _ _ _ _) dX12_seen_92 k0_127 s0_127 ?_
                refine z_iret dX12_seen_95 rfl zle ?_
                have C1 := C.setSee (M' := (z_up (z_up (z_up (z_up M 131 A.v m) 132 A.v t) 133 A.v d) 127 5 (nI (A.v + 1)))) (x := (A.v + 1, upd A.sm A.v m, upd A.st A.v t, upd A.sd A.v d)) (z_up_kj _ _ _ _) (fun j hj => by
                  have hj2 : j < A.v + 1 := hj
                  have f1 : (z_up (z_up (z_up (z_up M 131 A.v m) 132 A.v t) 133 A.v d) 127 5 (nI (A.v + 1))) 131 j = upd (M 131) A.v m j := by rw [z_up_n _ _ _ (by omega), z_up_n _ _ _ (by omega), z_up_n _ _ _ (by omega), z_up_s]
                  have f2 : (z_up (z_up (z_up (z_up M 131 A.v m) 132 A.v t) 133 A.v d) 127 5 (nI (A.v + 1))) 132 j = upd (M 132) A.v t j := by rw [z_up_n _ _ _ (by omega), z_up_n _ _ _ (by omega), z_up_s, z_up_n _ _ _ (by omega)]
                  have f3 : (z_up (z_up (z_up (z_up M 131 A.v m) 132 A.v t) 133 A.v d) 127 5 (nI (A.v + 1))) 133 j = upd (M 133) A.v d j := by rw [z_up_n _ _ _ (by omega), z_up_s, z_up_n _ _ _ (by omega), z_up_n _ _ _ (by omega)]
                  rw [f1, f2, f3]
                  show _ = upd A.sm A.v m j ∧ _ = upd A.st A.v t j ∧ _ = upd A.sd A.v d j
                  by_cases e : j = A.v
                  · subst e; exact ⟨(upd_s _ _ _).trans (upd_s _ _ _).symm, (upd_s _ _ _).trans (upd_s _ _ _).symm, (upd_s _ _ _).trans (upd_s _ _ _).symm⟩
                  · obtain ⟨a1, a2, a3⟩ := C.see j (by omega)
                    exact ⟨(upd_n _ _ e).trans (a1.trans (upd_n _ _ e).symm), (upd_n _ _ e).trans (a2.trans (upd_n _ _ e).symm), (upd_n _ _ e).trans (a3.trans (upd_n _ _ e).symm)⟩) (fun j hj => by rw [z_up_jn _ _ hj, z_up_n _ _ _ (by omega), z_up_n _ _ _ (by omega), z_up_n _ _ _ (by omega)]) (fun k a b => by rw [z_up_n _ _ _ (by omega), z_up_n _ _ _ (by omega), z_up_n _ _ _ (by omega), z_up_n _ _ _ (by omega)])
                exact zStpM.mk C1.1 C1.2 (by unfold sSeen; rw [if_neg hb, if_neg (by omega)]) rfl
              · have hL : A.v = 6 := (nI_eq (b := 6) (by omega) (by omega)).mp b45
                refine z_bipush (v := (-5)) dX12_seen_48 (by decide) ?_
                refine z_iret dX12_seen_50 rfl zle ?_
                exact zStpM.of C (by unfold sSeen; rw [if_neg hb, if_pos hL])
            · exact absurd b33 (by decide)
          · have d30 := fun z => c30 ((l_inn (a := 0) (z := 20) (by decide) (by decide)).mpr z)
            refine z_if_ne (tgt := 39) dX12_seen_33 (by decide) (fun b33 => ?_) (fun b33 => ?_)
            · exact absurd b33 (by decide)
            · refine z_bipush (v := (-3)) dX12_seen_36 (by decide) ?_
              refine z_iret dX12_seen_38 rfl zle ?_
              have hb : (m < 1 ∨ 9 < m) ∨ (t < 0 ∨ 20 < t) ∨ (d < 0 ∨ 20 < d) := by
                first
                | exact Or.inr (Or.inr (by by_cases z : d < 0; exact Or.inl z; exact Or.inr (Int32.not_le.mp (fun z2 => d30 ⟨Int32.not_lt.mp z, z2⟩))))
                | exact Or.inr (Or.inl (by by_cases z : t < 0; exact Or.inl z; exact Or.inr (Int32.not_le.mp (fun z2 => d18 ⟨Int32.not_lt.mp z, z2⟩))))
                | exact Or.inl (by by_cases z : m < 1; exact Or.inl z; exact Or.inr (Int32.not_le.mp (fun z2 => d6 ⟨Int32.not_lt.mp z, z2⟩)))
              exact zStpM.of C (by unfold sSeen; rw [if_pos hb])
      · have d18 := fun z => c18 ((l_inn (a := 0) (z := 20) (by decide) (by decide)).mpr z)
        refine z_if_eq (tgt := 36) dX12_seen_21 (by decide) (fun b21 => ?_) (fun b21 => ?_)
        · refine z_bipush (v := (-3)) dX12_seen_36 (by decide) ?_
          refine z_iret dX12_seen_38 rfl zle ?_
          have hb : (m < 1 ∨ 9 < m) ∨ (t < 0 ∨ 20 < t) ∨ (d < 0 ∨ 20 < d) := by
            first
            | exact Or.inr (Or.inr (by by_cases z : d < 0; exact Or.inl z; exact Or.inr (Int32.not_le.mp (fun z2 => d30 ⟨Int32.not_lt.mp z, z2⟩))))
            | exact Or.inr (Or.inl (by by_cases z : t < 0; exact Or.inl z; exact Or.inr (Int32.not_le.mp (fun z2 => d18 ⟨Int32.not_lt.mp z, z2⟩))))
            | exact Or.inl (by by_cases z : m < 1; exact Or.inl z; exact Or.inr (Int32.not_le.mp (fun z2 => d6 ⟨Int32.not_lt.mp z, z2⟩)))
          exact zStpM.of C (by unfold sSeen; rw [if_pos hb])
        · exact absurd b21 (by decide)
  · have d6 := fun z => c6 ((l_inn (a := 1) (z := 9) (by decide) (by decide)).mpr z)
    refine z_if_eq (tgt := 36) dX12_seen_9 (by decide) (fun b9 => ?_) (fun b9 => ?_)
    · refine z_bipush (v := (-3)) dX12_seen_36 (by decide) ?_
      refine z_iret dX12_seen_38 rfl zle ?_
      have hb : (m < 1 ∨ 9 < m) ∨ (t < 0 ∨ 20 < t) ∨ (d < 0 ∨ 20 < d) := by
        first
        | exact Or.inr (Or.inr (by by_cases z : d < 0; exact Or.inl z; exact Or.inr (Int32.not_le.mp (fun z2 => d30 ⟨Int32.not_lt.mp z, z2⟩))))
        | exact Or.inr (Or.inl (by by_cases z : t < 0; exact Or.inl z; exact Or.inr (Int32.not_le.mp (fun z2 => d18 ⟨Int32.not_lt.mp z, z2⟩))))
        | exact Or.inl (by by_cases z : m < 1; exact Or.inl z; exact Or.inr (Int32.not_le.mp (fun z2 => d6 ⟨Int32.not_lt.mp z, z2⟩)))
      exact zStpM.of C (by unfold sSeen; rw [if_pos hb])
    · exact absurd b9 (by decide)

set_option maxRecDepth 100000 in
set_option maxHeartbeats 4000000 in
theorem c_X12_forget (g : zG) (l : Launch) {M : zM} {A : aSt} (ok : aOK A) (C : RelM M A) : zMet g l yX12_forget cX12_forget 2 (some .int) 0 0 0 [.ref 127] S0 M (zQi (fun r' M' => zStpM M (sForget A) r' M')) := by
  have n8 : A.n ≤ 8 := ok.s.1.1
  have r4 : A.r ≤ 4 := ok.s.1.2.1
  have i6 : A.i ≤ 6 := ok.s.1.2.2.1
  have u8 : A.u ≤ 8 := ok.u
  refine zMet.of (by decide) (Nat.le_of_ble_eq_true rfl) ?_
  refine z_aload_n dX12_forget_0 rfl ?_
  refine z_getIV (j := 5) kX12 lf_X12_166 (by decide) rfl C.fl.2.2 dX12_forget_1 k0_127 s0_127 ?_
  refine z_istore_n dX12_forget_4 (by decide) rfl rfl ?_
  refine z_aload_n dX12_forget_5 rfl ?_
  refine z_iconst (v := 0) dX12_forget_6 (by decide) ?_
  refine z_putI (j := 5) kX12 lf_X12_166 (by decide) rfl rfl (kX12.2.2.1 5 (by decide)) rfl rfl dX12_forget_7 k0_127 s0_127 ?_
  refine z_iload_n dX12_forget_10 rfl ?_
  refine z_iret dX12_forget_11 rfl zle ?_
  have C1 := C.setSee (M' := z_up M 127 5 0) (x := (0, A.sm, A.st, A.sd)) (z_up_kj _ _ _ _) (fun j hj => absurd hj (Nat.not_lt_zero _)) (fun j hj => by rw [z_up_jn _ _ hj]) (fun k a b => by rw [z_up_n _ _ _ a])
  exact zStpM.mk C1.1 C1.2 rfl rfl

