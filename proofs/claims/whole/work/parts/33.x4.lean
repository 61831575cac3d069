/-! ===== the class's own methods: books, and what is counted ===== -/
def aSt.putB (A : aSt) (b : Nat) (o : Bool) (n : Nat) (f v : Nat → Int32) : aSt := A.setBook (fun x => if x = b then o else A.bo x, fun x => if x = b then n else A.ln x, fun x => if x = b then f else A.so x, fun x => if x = b then v else A.va x)
theorem RelC.putB {M M' : zM} {A : aSt} (C : RelC M A) {b : Nat} (hb : b < 4) {o : Bool} {n : Nat} {f v : Nat → Int32} (h0 : M' (115 + 3 * b) 2 = if o = true then nI n else -1) (h1 : ∀ j, j < 10 → M' (115 + 3 * b + 1) j = f j ∧ M' (115 + 3 * b + 2) j = v j) (hk : ∀ k, (k < 115 + 3 * b ∨ 115 + 3 * b + 2 < k) → M' k = M k) :
    RelC M' (A.putB b o n f v) ∧ ∀ k, 127 ≤ k → M' k = M k := by
  refine C.setBook (fun x hx => ?_) (fun k a => hk k (by omega))
  by_cases e : x = b
  · subst e
    refine ⟨?_, fun j hj => ?_⟩
    · rw [h0]
      show _ = if (if x = x then o else A.bo x) = true then nI (if x = x then n else A.ln x) else -1
      rw [if_pos rfl, if_pos rfl]
    · show _ = (if x = x then f else A.so x) j ∧ _ = (if x = x then v else A.va x) j
      rw [if_pos rfl, if_pos rfl]
      exact h1 j hj
  · obtain ⟨g0, g1⟩ := C.book x hx
    refine ⟨?_, fun j hj => ?_⟩
    · rw [hk _ (by omega), g0]
      show bSz A x = if (if x = b then o else A.bo x) = true then nI (if x = b then n else A.ln x) else -1
      rw [if_neg e, if_neg e]; rfl
    · show _ = (if x = b then f else A.so x) j ∧ _ = (if x = b then v else A.va x) j
      rw [if_neg e, if_neg e, hk _ (by omega), hk _ (by omega)]
      exact g1 j hj
theorem aOK.putB {A : aSt} (h : aOK A) {b : Nat} {o : Bool} {n : Nat} {f v : Nat → Int32} (hn : n ≤ 10 ∧ (o = false → n = 0)) (hf : ∀ j, j < 10 → zIn (f j) 4 ∧ (f j = 2 → zIn (v j) 4)) : aOK (A.putB b o n f v) := by
  refine ⟨h.1, h.2.1, h.2.2.1, h.2.2.2.1, h.2.2.2.2.1, h.2.2.2.2.2.1, h.2.2.2.2.2.2.1, h.2.2.2.2.2.2.2.1, fun x hx => ?_, fun x hx j hj => ?_⟩
  · show (if x = b then n else A.ln x) ≤ 10 ∧ ((if x = b then o else A.bo x) = false → (if x = b then n else A.ln x) = 0)
    by_cases e : x = b
    · rw [if_pos e, if_pos e]; exact hn
    · rw [if_neg e, if_neg e]; exact h.ln x hx
  · show zIn ((if x = b then f else A.so x) j) 4 ∧ ((if x = b then f else A.so x) j = 2 → zIn ((if x = b then v else A.va x) j) 4)
    by_cases e : x = b
    · rw [if_pos e, if_pos e]; exact hf j hj
    · rw [if_neg e, if_neg e]; exact h.so x hx j hj
theorem bSz_m {A : aSt} {b : Nat} (h : A.ln b ≤ 10) : bSz A b = -1 ↔ ¬ A.bo b = true := by
  unfold bSz
  by_cases c : A.bo b = true
  · rw [if_pos c]; exact ⟨fun z => absurd z (nI_nm1 (by omega)), fun z => absurd c z⟩
  · rw [if_neg c]; exact ⟨fun _ => c, fun _ => rfl⟩
theorem bSz_len {A : aSt} {b : Nat} (h : A.ln b ≤ 10 ∧ (A.bo b = false → A.ln b = 0)) : zLen (bSz A b) (A.ln b) := by
  unfold bSz
  by_cases c : A.bo b = true
  · rw [if_pos c]; exact zLen.of h.1
  · rw [if_neg c, h.2 (Bool.eq_false_iff.mpr c)]; exact zLen.no
def aBk (A : aSt) : zM := fun k => if (k - 115) % 3 = 0 then (fun _ => bSz A ((k - 115) / 3)) else if (k - 115) % 3 = 1 then A.so ((k - 115) / 3) else A.va ((k - 115) / 3)
theorem aBk_0 (A : aSt) (b j : Nat) : aBk A (115 + 3 * b) j = bSz A b := by
  unfold aBk
  rw [if_pos (by omega), show (115 + 3 * b - 115) / 3 = b by omega]
theorem aBk_1 (A : aSt) (b : Nat) : aBk A (115 + 3 * b + 1) = A.so b := by
  unfold aBk
  rw [if_neg (by omega), if_pos (by omega), show (115 + 3 * b + 1 - 115) / 3 = b by omega]
theorem aBk_2 (A : aSt) (b : Nat) : aBk A (115 + 3 * b + 2) = A.va b := by
  unfold aBk
  rw [if_neg (by omega), if_neg (by omega), show (115 + 3 * b + 2 - 115) / 3 = b by omega]
theorem fFill_cg {f f2 : Nat → Int32} : ∀ k, (∀ j, j < k → f j = f2 j) → fFill f k = fFill f2 k
  | 0, _ => rfl
  | k + 1, h => by
    unfold fFill
    rw [h k (by omega), fFill_cg k (fun j hj => h j (by omega))]
theorem fTold_cg {f f2 v v2 : Nat → Int32} : ∀ k, (∀ j, j < k → f j = f2 j ∧ v j = v2 j) → fTold f v k = fTold f2 v2 k
  | 0, _ => rfl
  | k + 1, h => by
    unfold fTold
    rw [(h k (by omega)).1, (h k (by omega)).2, fTold_cg k (fun j hj => h j (by omega))]
theorem fOwn_cg {f f2 v v2 : Nat → Int32} : ∀ k, (∀ j, j < k → f j = f2 j ∧ v j = v2 j) → fOwn f v k = fOwn f2 v2 k
  | 0, _ => rfl
  | k + 1, h => by
    unfold fOwn
    rw [(h k (by omega)).1, (h k (by omega)).2, fOwn_cg k (fun j hj => h j (by omega))]
section ZCG
variable {M M2 : zM} {ln : Nat → Nat}
theorem fOpen_cg (H : ∀ b, b < 4 → M (115 + 3 * b) 2 = M2 (115 + 3 * b) 2 ∧ ∀ j, j < ln b → M (115 + 3 * b + 1) j = M2 (115 + 3 * b + 1) j ∧ M (115 + 3 * b + 2) j = M2 (115 + 3 * b + 2) j) : ∀ b, b ≤ 4 → fOpen M b = fOpen M2 b
  | 0, _ => rfl
  | b + 1, h => by
    unfold fOpen
    rw [(H b (by omega)).1, fOpen_cg H b (by omega)]
theorem fWo_cg (H : ∀ b, b < 4 → M (115 + 3 * b) 2 = M2 (115 + 3 * b) 2 ∧ ∀ j, j < ln b → M (115 + 3 * b + 1) j = M2 (115 + 3 * b + 1) j ∧ M (115 + 3 * b + 2) j = M2 (115 + 3 * b + 2) j) (s : Int32) : ∀ b, b ≤ 4 → fWo M s b = fWo M2 s b
  | 0, _ => rfl
  | b + 1, h => by
    unfold fWo
    rw [(H b (by omega)).1, fWo_cg H s b (by omega)]
theorem fAll_cg (H : ∀ b, b < 4 → M (115 + 3 * b) 2 = M2 (115 + 3 * b) 2 ∧ ∀ j, j < ln b → M (115 + 3 * b + 1) j = M2 (115 + 3 * b + 1) j ∧ M (115 + 3 * b + 2) j = M2 (115 + 3 * b + 2) j) (s : Int32) : ∀ b, b ≤ 4 → fAll M ln s b = fAll M2 ln s b
  | 0, _ => rfl
  | b + 1, h => by
    unfold fAll
    rw [fAll_cg H s b (by omega), fTold_cg (ln b) (H b (by omega)).2]
theorem fReach_cg (H : ∀ b, b < 4 → M (115 + 3 * b) 2 = M2 (115 + 3 * b) 2 ∧ ∀ j, j < ln b → M (115 + 3 * b + 1) j = M2 (115 + 3 * b + 1) j ∧ M (115 + 3 * b + 2) j = M2 (115 + 3 * b + 2) j) (s : Int32) : ∀ k, fReach M ln s k = fReach M2 ln s k
  | 0 => rfl
  | k + 1 => by
    unfold fReach
    rw [fReach_cg H s k, fAll_cg H _ 4 (by omega), fWo_cg H _ 4 (by omega)]
theorem fWeigh_cg (H : ∀ b, b < 4 → M (115 + 3 * b) 2 = M2 (115 + 3 * b) 2 ∧ ∀ j, j < ln b → M (115 + 3 * b + 1) j = M2 (115 + 3 * b + 1) j ∧ M (115 + 3 * b + 2) j = M2 (115 + 3 * b + 2) j) (s : Int32) : ∀ b, b ≤ 4 → fWeigh M ln s b = fWeigh M2 ln s b
  | 0, _ => rfl
  | b + 1, h => by
    unfold fWeigh
    rw [fWeigh_cg H s b (by omega), fOwn_cg (ln b) (H b (by omega)).2]
end ZCG
theorem aBk_cg {M : zM} {A : aSt} (ok : aOK A) (C : RelC M A) : ∀ b, b < 4 → M (115 + 3 * b) 2 = aBk A (115 + 3 * b) 2 ∧ ∀ j, j < A.ln b → M (115 + 3 * b + 1) j = aBk A (115 + 3 * b + 1) j ∧ M (115 + 3 * b + 2) j = aBk A (115 + 3 * b + 2) j := fun b hb => by
  obtain ⟨g0, g1⟩ := C.book b hb
  rw [aBk_0, aBk_1, aBk_2]
  exact ⟨g0, fun j hj => g1 j (by have := (ok.ln b hb).1; omega)⟩
theorem aBk_len {M : zM} {A : aSt} (ok : aOK A) (C : RelC M A) : ∀ b, b < 4 → zLen (M (115 + 3 * b) 2) (A.ln b) := fun b hb => by
  rw [(C.book b hb).1]
  exact bSz_len (ok.ln b hb)
def sBook (A : aSt) (x m : Int32) : aSt × Int32 := aIx 4 x (fun b => if 10 < m then (A, -3) else if m < 0 then (A, -15) else (A.putB b true m.toNatClampNeg (fun _ => 3) (A.va b), m)) (A, -2)
def sEnter (A : aSt) (x y w v : Int32) : aSt × Int32 := if (¬ (0 ≤ x ∧ x < 4)) ∨ (w = 1 ∧ ¬ (0 ≤ v ∧ v < nI A.n)) ∨ (w = 2 ∧ ¬ (0 ≤ v ∧ v < 4)) then (A, -2) else if (w < 0 ∨ 3 < w) ∨ (w = 0 ∧ (v < -9999 ∨ 9999 < v)) then (A, -3) else
  aIx 4 x (fun b => if A.bo b = true then aIx (A.ln b) y (fun j => (A.putB b true (A.ln b) (upd (A.so b) j w) (upd (A.va b) j v), 1)) (A, -12) else (A, -11)) (A, -2)
def aRead (A : aSt) (x y w : Int32) : Int32 := aIx 4 x (fun b => if w < 0 ∨ 2 < w then -3 else if A.bo b = true then aIx (A.ln b) y (fun j => if A.so b j = 3 then -13 else if A.so b j = w then (if w = 0 then A.va b j + 50000 else A.va b j) else -14) (-12) else -11) (-2)
def aReach (A : aSt) (b : Nat) : Int32 := fReach (aBk A) A.ln (1 <<< (nI b &&& 31)) 3
def aWeigh (A : aSt) (x w : Int32) : Int32 := aIx 4 x (fun b => if w < 0 ∨ 1 < w then -3 else if A.bo b = true then (if w = 0 then fWeigh (aBk A) A.ln (aReach A b) 4 else zBc (aReach A b)) else -11) (-2)
def sDrop (A : aSt) (x : Int32) : aSt × Int32 := aIx 4 x (fun b => if A.bo b = true then (A.putB b false 0 (A.so b) (A.va b), fFill (A.so b) (A.ln b)) else (A, -11)) (A, -2)
def sCopy (A : aSt) (x y t z m : Int32) : aSt × Int32 := aIx 4 x (fun b => aIx 4 t (fun c => if A.bo b = true ∧ A.bo c = true then
    (if (0 ≤ y ∧ 0 ≤ m ∧ y ≤ nI (A.ln b) - m) ∧ (0 ≤ z ∧ 0 ≤ m ∧ z ≤ nI (A.ln c) - m) then (A.putB c true (A.ln c) (va_cpy (A.so b) (A.so c) y.toNatClampNeg z.toNatClampNeg m.toNatClampNeg) (va_cpy (A.va b) (A.va c) y.toNatClampNeg z.toNatClampNeg m.toNatClampNeg), m) else (A, -12)) else (A, -11)) (A, -2)) (A, -2)
def dLamB (σ : Dy) : Nat → Int32
  | 0 => 0
  | h + 1 => dLamB σ h ||| (σ (35 + h) <<< (nI h &&& 31))
theorem dLamB_bt {σ : Dy} {n r i : Nat} (ok : dOK σ n r i) : ∀ h, h ≤ n → ∀ k, k < 32 → bt (dLamB σ h) k = (decide (k < h) && decide (σ (35 + k) = 1))
  | 0, _, k, _ => by rw [show dLamB σ 0 = 0 from rfl, b_0]; simp
  | h + 1, hh, k, hk => by
    have n8 := ok.1.1
    show bt (dLamB σ h ||| _) k = _
    rw [b_or, dLamB_bt ok h (by omega) k hk, b_shl h (by omega) _ hk]
    rcases (ok.2.1 h (by omega)).2.2.2.2 with e | ⟨e, -⟩
    · rw [e, b_0, Bool.and_false, Bool.or_false]
      by_cases c : k = h
      · subst c; rw [e]; simp
      · rw [show decide (k < h + 1) = decide (k < h) from decide_eq_decide.mpr (by omega)]
    · rw [e]
      by_cases c : k = h
      · subst c; rw [Nat.sub_self, bt_1 0 (by omega), e]; simp
      · by_cases c2 : h ≤ k
        · rw [bt_1 (k - h) (by omega), decide_eq_false (show ¬ k - h = 0 by omega), Bool.and_false, Bool.or_false, show decide (k < h + 1) = decide (k < h) from decide_eq_decide.mpr (by omega)]
        · rw [decide_eq_false c2, Bool.false_and, Bool.or_false, show decide (k < h + 1) = decide (k < h) from decide_eq_decide.mpr (by omega)]
theorem dLam_eq {σ : Dy} {n r i : Nat} {L : Int32} (ok : dOK σ n r i) (h : dLam L σ n) : L = dLamB σ n := b_ext (fun k hk => by rw [h k hk, dLamB_bt ok n (Nat.le_refl _) k hk])
def aCount (A : aSt) (x : Int32) : Int32 := if x = 0 then nI A.i else if x = 1 then nI A.n else if x = 2 then nI A.r else if x = 3 then A.s 2 else if x = 4 then dLamB A.s A.n else if x = 5 then dThere A.s A.r else if x = 6 then dClk A.s A.r else if x = 7 then nI A.v else if x = 8 then fOpen (aBk A) 4 else if x = 9 then nI A.u else if x = 10 then nI A.L else -3

set_option maxRecDepth 100000 in
set_option maxHeartbeats 4000000 in
theorem c_X11_book (g : zG) (l : Launch) {M : zM} {A : aSt} (ok : aOK A) (C : RelC M A) {x m : Int32} : zMet g l yX11_book cX11_book 3 (some .int) 2 0 0 [.ref 0, .int x, .int m] S0 M (zQi (fun r' M' => zStp M (sBook A x m) r' M')) := by
  have n8 : A.n ≤ 8 := ok.s.1.1
  have r4 : A.r ≤ 4 := ok.s.1.2.1
  have i6 : A.i ≤ 6 := ok.s.1.2.2.1
  have R : zDR M M 18 A.s A.n A.r A.i := ⟨C.day, fun _ _ => rfl⟩
  rcases zInD x (show 4 < 1000 by omega) with ⟨h, hh, rfl⟩ | hx
  · obtain ⟨bk, hbk, ebk, ebk2⟩ := zBookAt hh
    have hB := C.book h hh
    have hln := ok.ln h hh
    rw [← ebk2] at hB
    refine zMet.of (by decide) (Nat.le_of_ble_eq_true rfl) ?_
    refine z_aload_n dX11_book_0 rfl ?_
    refine z_getR (j := 10) (r := 113) kX11 lf_X11_76 (by decide) rfl dX11_book_1 k0_0 s0_0 r0_0_10 (by decide) ?_
    refine z_iload_n dX11_book_4 rfl ?_
    refine z_iV1 (c_X8_hasPlace g l) mw_X8_hasPlace lm_X11_242 mi_X8_hasPlace mv_X8_hasPlace kX8 (by decide) (Nat.le_of_ble_eq_true rfl) zle k0_113 s0_113 dX11_book_5 (fun r5 M5 q5 => ?_)
    obtain ⟨qm5, qr5⟩ := q5
    obtain rfl := qm5.symm
    obtain ⟨c5, rfl⟩ | ⟨c5, rfl⟩ := qr5
    · refine z_if_ne (tgt := 14) dX11_book_8 (by decide) (fun b8 => ?_) (fun b8 => ?_)
      · refine z_iload_n dX11_book_14 rfl ?_
        refine z_bipush (v := 10) dX11_book_15 (by decide) ?_
        refine z_icmp_le (tgt := 23) dX11_book_17 (by decide) (fun b17 => ?_) (fun b17 => ?_)
        · refine z_iload_n dX11_book_23 rfl ?_
          refine z_if_ge (tgt := 30) dX11_book_24 (by decide) (fun b24 => ?_) (fun b24 => ?_)
          · obtain ⟨u, hu1, hu2, rfl⟩ := (zIdx m (a := 0) (c := 10) (by omega) (by omega)).resolve_right (fun z => z.elim (Int32.not_lt.mpr b24) (Int32.not_lt.mpr b17))
            refine z_aload_n dX11_book_30 rfl ?_
            refine z_getR (j := 10) (r := 113) kX11 lf_X11_76 (by decide) rfl dX11_book_31 k0_0 s0_0 r0_0_10 (by decide) ?_
            refine z_getR (j := 0) (r := 114) kX8 lf_X11_245 (by decide) rfl dX11_book_34 k0_113 s0_113 r0_113_0 (by decide) ?_
            refine z_iload_n dX11_book_37 rfl ?_
            refine z_aaldN (j := h) (r := bk) rfl hh dX11_book_38 k0_114 s0_114 (by decide) ebk (zBook_l0 hbk) ?_
            refine z_iload_n dX11_book_39 rfl ?_
            refine z_vV1 (c_X0_open g l hbk (by omega)) mw_X0_open lm_X11_249 mi_X0_open mv_X0_open kX0 (by decide) (Nat.le_of_ble_eq_true rfl) zle (zBook_k0 hbk) (zBook_s0 hbk) dX11_book_40 (fun M40 q40 => ?_)
            obtain rfl := q40.symm
            refine z_iload_n dX11_book_43 rfl ?_
            refine z_iret dX11_book_44 rfl zle ?_
            have C1 := C.putB (M' := z_row (z_up M bk 2 (nI u)) (bk + 1) (fun j => if j < 10 then 3 else M (bk + 1) j)) hh (o := true) (n := u) (f := fun _ => 3) (v := A.va h) (by rw [← ebk2, z_row_n _ _ (by omega), z_up_kj]; rfl) (fun j hj => by rw [← ebk2, z_row_s, z_row_n _ _ (by omega), z_up_n _ _ _ (by omega)]; exact ⟨if_pos hj, (hB.2 j hj).2⟩) (fun k a => by rw [z_row_n _ _ (by omega), z_up_n _ _ _ (by omega)])
            exact zStp.mk C1.1 C1.2 (by unfold sBook; rw [aIx_in hh (by omega), if_neg (Int32.not_lt.mpr b17), if_neg (Int32.not_lt.mpr b24), nI_clamp (by omega)]) rfl
          · refine z_bipush (v := (-15)) dX11_book_27 (by decide) ?_
            refine z_iret dX11_book_29 rfl zle ?_
            exact zStp.of C (by unfold sBook; rw [aIx_in hh (by omega)]; exact (if_neg (Int32.not_lt.mpr b17)).trans (if_pos (Int32.not_le.mp b24)))
        · refine z_bipush (v := (-3)) dX11_book_20 (by decide) ?_
          refine z_iret dX11_book_22 rfl zle ?_
          exact zStp.of C (by unfold sBook; rw [aIx_in hh (by omega)]; exact if_pos (Int32.not_le.mp b17))
      · exact absurd b8 (by decide)
    · exact absurd (zInP (n := 4) hh (by omega)) c5
  · refine zMet.of (by decide) (Nat.le_of_ble_eq_true rfl) ?_
    refine z_aload_n dX11_book_0 rfl ?_
    refine z_getR (j := 10) (r := 113) kX11 lf_X11_76 (by decide) rfl dX11_book_1 k0_0 s0_0 r0_0_10 (by decide) ?_
    refine z_iload_n dX11_book_4 rfl ?_
    refine z_iV1 (c_X8_hasPlace g l) mw_X8_hasPlace lm_X11_242 mi_X8_hasPlace mv_X8_hasPlace kX8 (by decide) (Nat.le_of_ble_eq_true rfl) zle k0_113 s0_113 dX11_book_5 (fun r5 M5 q5 => ?_)
    obtain ⟨qm5, qr5⟩ := q5
    obtain rfl := qm5.symm
    obtain ⟨c5, rfl⟩ | ⟨c5, rfl⟩ := qr5
    · exact absurd c5 hx
    · refine z_if_ne (tgt := 14) dX11_book_8 (by decide) (fun b8 => ?_) (fun b8 => ?_)
      · exact absurd b8 (by decide)
      · refine z_bipush (v := (-2)) dX11_book_11 (by decide) ?_
        refine z_iret dX11_book_13 rfl zle ?_
        exact zStp.of C (by unfold sBook; rw [aIx_out hx])

set_option maxRecDepth 100000 in
set_option maxHeartbeats 4000000 in
theorem c_X11_enter (g : zG) (l : Launch) {M : zM} {A : aSt} (ok : aOK A) (C : RelC M A) {x y w v : Int32} : zMet g l yX11_enter cX11_enter 6 (some .int) 1 0 0 [.ref 0, .int x, .int y, .int w, .int v] S0 M (zQi (fun r' M' => zStp M (sEnter A x y w v) r' M')) := by
  have n8 : A.n ≤ 8 := ok.s.1.1
  have r4 : A.r ≤ 4 := ok.s.1.2.1
  have i6 : A.i ≤ 6 := ok.s.1.2.2.1
  have R : zDR M M 18 A.s A.n A.r A.i := ⟨C.day, fun _ _ => rfl⟩
  rcases zInD x (show 4 < 1000 by omega) with ⟨h, hh, rfl⟩ | hx
  · obtain ⟨bk, hbk, ebk, ebk2⟩ := zBookAt hh
    have hB := C.book h hh
    have hln := ok.ln h hh
    rw [← ebk2] at hB
    refine zMet.of (by decide) (Nat.le_of_ble_eq_true rfl) ?_
    refine z_aload_n dX11_enter_0 rfl ?_
    refine z_getR (j := 10) (r := 113) kX11 lf_X11_76 (by decide) rfl dX11_enter_1 k0_0 s0_0 r0_0_10 (by decide) ?_
    refine z_iload_n dX11_enter_4 rfl ?_
    refine z_iV1 (c_X8_hasPlace g l) mw_X8_hasPlace lm_X11_242 mi_X8_hasPlace mv_X8_hasPlace kX8 (by decide) (Nat.le_of_ble_eq_true rfl) zle k0_113 s0_113 dX11_enter_5 (fun r5 M5 q5 => ?_)
    obtain ⟨qm5, qr5⟩ := q5
    obtain rfl := qm5.symm
    obtain ⟨c5, rfl⟩ | ⟨c5, rfl⟩ := qr5
    · refine z_if_eq (tgt := 45) dX11_enter_8 (by decide) (fun b8 => ?_) (fun b8 => ?_)
      · exact absurd b8 (by decide)
      · refine z_iload_n dX11_enter_11 rfl ?_
        refine z_iconst (v := 1) dX11_enter_12 (by decide) ?_
        refine z_icmp_ne (tgt := 28) dX11_enter_13 (by decide) (fun b13 => ?_) (fun b13 => ?_)
        · refine z_iload_n dX11_enter_28 rfl ?_
          refine z_iconst (v := 2) dX11_enter_29 (by decide) ?_
          refine z_icmp_ne (tgt := 48) dX11_enter_30 (by decide) (fun b30 => ?_) (fun b30 => ?_)
          · have n1 : ¬ ((¬ (0 ≤ nI h ∧ nI h < 4)) ∨ (w = 1 ∧ ¬ (0 ≤ v ∧ v < nI A.n)) ∨ (w = 2 ∧ ¬ (0 ≤ v ∧ v < 4))) := fun z => z.elim (fun a => a (zInP (n := 4) hh (by omega))) (fun z => z.elim (fun a => by first | exact absurd a.1 b13 | exact a.2 ⟨c22.1, by rw [← C.road.2.1]; exact c22.2⟩) (fun a => by first | exact absurd a.1 b30 | exact a.2 c39))
            refine z_iload_n dX11_enter_48 rfl ?_
            refine z_if_lt (tgt := 77) dX11_enter_49 (by decide) (fun b49 => ?_) (fun b49 => ?_)
            · refine z_bipush (v := (-3)) dX11_enter_77 (by decide) ?_
              refine z_iret dX11_enter_79 rfl zle ?_
              exact zStp.of C ((if_neg n1).trans (if_pos (by first | exact Or.inl (Or.inl b49) | exact Or.inl (Or.inr b54) | exact Or.inr ⟨b58, Or.inl b66⟩ | exact Or.inr ⟨b58, Or.inr (Int32.not_le.mp b74)⟩)))
            · refine z_iload_n dX11_enter_52 rfl ?_
              refine z_iconst (v := 3) dX11_enter_53 (by decide) ?_
              refine z_icmp_gt (tgt := 77) dX11_enter_54 (by decide) (fun b54 => ?_) (fun b54 => ?_)
              · refine z_bipush (v := (-3)) dX11_enter_77 (by decide) ?_
                refine z_iret dX11_enter_79 rfl zle ?_
                exact zStp.of C ((if_neg n1).trans (if_pos (by first | exact Or.inl (Or.inl b49) | exact Or.inl (Or.inr b54) | exact Or.inr ⟨b58, Or.inl b66⟩ | exact Or.inr ⟨b58, Or.inr (Int32.not_le.mp b74)⟩)))
              · refine z_iload_n dX11_enter_57 rfl ?_
                refine z_if_ne (tgt := 80) dX11_enter_58 (by decide) (fun b58 => ?_) (fun b58 => ?_)
                · have n2 : ¬ ((w < 0 ∨ 3 < w) ∨ (w = 0 ∧ (v < -9999 ∨ 9999 < v))) := fun z => z.elim (fun z => z.elim b49 b54) (fun z => by first | exact absurd z.1 b58 | exact z.2.elim b66 (Int32.not_lt.mpr b74))
                  refine z_aload_n dX11_enter_80 rfl ?_
                  refine z_getR (j := 10) (r := 113) kX11 lf_X11_76 (by decide) rfl dX11_enter_81 k0_0 s0_0 r0_0_10 (by decide) ?_
                  refine z_getR (j := 0) (r := 114) kX8 lf_X11_245 (by decide) rfl dX11_enter_84 k0_113 s0_113 r0_113_0 (by decide) ?_
                  refine z_iload_n dX11_enter_87 rfl ?_
                  refine z_aaldN (j := h) (r := bk) rfl hh dX11_enter_88 k0_114 s0_114 (by decide) ebk (zBook_l0 hbk) ?_
                  refine z_astore dX11_enter_89 (by decide) rfl rfl ?_
                  refine z_aload dX11_enter_91 rfl ?_
                  refine z_iV0 (c_X0_isMissing g l hbk) mw_X0_isMissing lm_X11_254 mi_X0_isMissing mv_X0_isMissing kX0 (by decide) (Nat.le_of_ble_eq_true rfl) zle (zBook_k0 hbk) (zBook_s0 hbk) dX11_enter_93 (fun r93 M93 q93 => ?_)
                  obtain ⟨qm93, qr93⟩ := q93
                  obtain rfl := qm93.symm
                  obtain ⟨c93, rfl⟩ | ⟨c93, rfl⟩ := qr93
                  · have hb : ¬ A.bo h = true := (bSz_m hln.1).mp (hB.1.symm.trans c93)
                    refine z_if_eq (tgt := 102) dX11_enter_96 (by decide) (fun b96 => ?_) (fun b96 => ?_)
                    · exact absurd b96 (by decide)
                    · refine z_bipush (v := (-11)) dX11_enter_99 (by decide) ?_
                      refine z_iret dX11_enter_101 rfl zle ?_
                      exact zStp.of C (by unfold sEnter; rw [if_neg n1, if_neg n2, aIx_in hh (by omega), if_neg hb])
                  · have hb : A.bo h = true := Classical.byContradiction (fun z => c93 (hB.1.trans ((bSz_m hln.1).mpr z)))
                    have hl : M bk 2 = nI (A.ln h) := hB.1.trans (if_pos hb)
                    refine z_if_eq (tgt := 102) dX11_enter_96 (by decide) (fun b96 => ?_) (fun b96 => ?_)
                    · refine z_aload dX11_enter_102 rfl ?_
                      refine z_iload_n dX11_enter_104 rfl ?_
                      refine z_iV1 (c_X0_hasLine g l hbk) mw_X0_hasLine lm_X11_258 mi_X0_hasLine mv_X0_hasLine kX0 (by decide) (Nat.le_of_ble_eq_true rfl) zle (zBook_k0 hbk) (zBook_s0 hbk) dX11_enter_105 (fun r105 M105 q105 => ?_)
                      obtain ⟨qm105, qr105⟩ := q105
                      obtain rfl := qm105.symm
                      obtain ⟨c105, rfl⟩ | ⟨c105, rfl⟩ := qr105
                      · rw [hl] at c105
                        obtain ⟨j, hj, rfl⟩ := (zInD y (n := A.ln h) (by omega)).resolve_right (fun z => z c105)
                        have hj10 : j < 10 := by omega
                        refine z_if_ne (tgt := 114) dX11_enter_108 (by decide) (fun b108 => ?_) (fun b108 => ?_)
                        · refine z_aload dX11_enter_114 rfl ?_
                          refine z_getR (j := 0) (r := (bk + 1)) kX0 lf_X11_261 (by decide) rfl dX11_enter_116 (zBook_k0 hbk) (zBook_s0 hbk) (zBook_r0 hbk) (zBook_l1 hbk) ?_
                          refine z_iload_n dX11_enter_119 rfl ?_
                          refine z_iload_n dX11_enter_120 rfl ?_
                          refine z_iastN (j := j) rfl hj10 dX11_enter_121 (zBook_k1 hbk) (zBook_s1 hbk) ?_
                          refine z_aload dX11_enter_122 rfl ?_
                          refine z_getR (j := 1) (r := (bk + 2)) kX0 lf_X11_264 (by decide) rfl dX11_enter_124 (zBook_k0 hbk) (zBook_s0 hbk) (zBook_r1 hbk) (zBook_l2 hbk) ?_
                          refine z_iload_n dX11_enter_127 rfl ?_
                          refine z_iload dX11_enter_128 rfl ?_
                          refine z_iastN (j := j) rfl hj10 dX11_enter_130 (zBook_k2 hbk) (zBook_s2 hbk) ?_
                          refine z_iconst (v := 1) dX11_enter_131 (by decide) ?_
                          refine z_iret dX11_enter_132 rfl zle ?_
                          have C1 := C.putB (M' := z_up (z_up M (bk + 1) j w) (bk + 2) j v) hh (o := true) (n := A.ln h) (f := upd (A.so h) j w) (v := upd (A.va h) j v) (by rw [← ebk2, z_up_n _ _ _ (by omega), z_up_n _ _ _ (by omega)]; exact hl) (fun k hk => by
                            rw [← ebk2, z_up_s, z_up_n _ _ _ (by omega), z_up_s, z_up_n _ _ _ (by omega)]
                            by_cases e : k = j
                            · rw [e]; exact ⟨(upd_s _ _ _).trans (upd_s _ _ _).symm, (upd_s _ _ _).trans (upd_s _ _ _).symm⟩
                            · exact ⟨(upd_n _ _ e).trans ((hB.2 k hk).1.trans (upd_n _ _ e).symm), (upd_n _ _ e).trans ((hB.2 k hk).2.trans (upd_n _ _ e).symm)⟩) (fun k a => by rw [z_up_n _ _ _ (by omega), z_up_n _ _ _ (by omega)])
                          exact zStp.mk C1.1 C1.2 (by unfold sEnter; rw [if_neg n1, if_neg n2, aIx_in hh (by omega), if_pos hb, aIx_in hj (by omega)]) rfl
                        · exact absurd b108 (by decide)
                      · have hy : ¬ (0 ≤ y ∧ y < nI (A.ln h)) := by rw [← hl]; exact c105
                        refine z_if_ne (tgt := 114) dX11_enter_108 (by decide) (fun b108 => ?_) (fun b108 => ?_)
                        · exact absurd b108 (by decide)
                        · refine z_bipush (v := (-12)) dX11_enter_111 (by decide) ?_
                          refine z_iret dX11_enter_113 rfl zle ?_
                          exact zStp.of C (by unfold sEnter; rw [if_neg n1, if_neg n2, aIx_in hh (by omega), if_pos hb, aIx_out hy])
                    · exact absurd b96 (by decide)
                · refine z_iload dX11_enter_61 rfl ?_
                  refine z_sipush (v := (-9999)) dX11_enter_63 (by decide) ?_
                  refine z_icmp_lt (tgt := 77) dX11_enter_66 (by decide) (fun b66 => ?_) (fun b66 => ?_)
                  · refine z_bipush (v := (-3)) dX11_enter_77 (by decide) ?_
                    refine z_iret dX11_enter_79 rfl zle ?_
                    exact zStp.of C ((if_neg n1).trans (if_pos (by first | exact Or.inl (Or.inl b49) | exact Or.inl (Or.inr b54) | exact Or.inr ⟨b58, Or.inl b66⟩ | exact Or.inr ⟨b58, Or.inr (Int32.not_le.mp b74)⟩)))
                  · refine z_iload dX11_enter_69 rfl ?_
                    refine z_sipush (v := 9999) dX11_enter_71 (by decide) ?_
                    refine z_icmp_le (tgt := 80) dX11_enter_74 (by decide) (fun b74 => ?_) (fun b74 => ?_)
                    · have n2 : ¬ ((w < 0 ∨ 3 < w) ∨ (w = 0 ∧ (v < -9999 ∨ 9999 < v))) := fun z => z.elim (fun z => z.elim b49 b54) (fun z => by first | exact absurd z.1 b58 | exact z.2.elim b66 (Int32.not_lt.mpr b74))
                      refine z_aload_n dX11_enter_80 rfl ?_
                      refine z_getR (j := 10) (r := 113) kX11 lf_X11_76 (by decide) rfl dX11_enter_81 k0_0 s0_0 r0_0_10 (by decide) ?_
                      refine z_getR (j := 0) (r := 114) kX8 lf_X11_245 (by decide) rfl dX11_enter_84 k0_113 s0_113 r0_113_0 (by decide) ?_
                      refine z_iload_n dX11_enter_87 rfl ?_
                      refine z_aaldN (j := h) (r := bk) rfl hh dX11_enter_88 k0_114 s0_114 (by decide) ebk (zBook_l0 hbk) ?_
                      refine z_astore dX11_enter_89 (by decide) rfl rfl ?_
                      refine z_aload dX11_enter_91 rfl ?_
                      refine z_iV0 (c_X0_isMissing g l hbk) mw_X0_isMissing lm_X11_254 mi_X0_isMissing mv_X0_isMissing kX0 (by decide) (Nat.le_of_ble_eq_true rfl) zle (zBook_k0 hbk) (zBook_s0 hbk) dX11_enter_93 (fun r93 M93 q93 => ?_)
                      obtain ⟨qm93, qr93⟩ := q93
                      obtain rfl := qm93.symm
                      obtain ⟨c93, rfl⟩ | ⟨c93, rfl⟩ := qr93
                      · have hb : ¬ A.bo h = true := (bSz_m hln.1).mp (hB.1.symm.trans c93)
                        refine z_if_eq (tgt := 102) dX11_enter_96 (by decide) (fun b96 => ?_) (fun b96 => ?_)
                        · exact absurd b96 (by decide)
                        · refine z_bipush (v := (-11)) dX11_enter_99 (by decide) ?_
                          refine z_iret dX11_enter_101 rfl zle ?_
                          exact zStp.of C (by unfold sEnter; rw [if_neg n1, if_neg n2, aIx_in hh (by omega), if_neg hb])
                      · have hb : A.bo h = true := Classical.byContradiction (fun z => c93 (hB.1.trans ((bSz_m hln.1).mpr z)))
                        have hl : M bk 2 = nI (A.ln h) := hB.1.trans (if_pos hb)
                        refine z_if_eq (tgt := 102) dX11_enter_96 (by decide) (fun b96 => ?_) (fun b96 => ?_)
                        · refine z_aload dX11_enter_102 rfl ?_
                          refine z_iload_n dX11_enter_104 rfl ?_
                          refine z_iV1 (c_X0_hasLine g l hbk) mw_X0_hasLine lm_X11_258 mi_X0_hasLine mv_X0_hasLine kX0 (by decide) (Nat.le_of_ble_eq_true rfl) zle (zBook_k0 hbk) (zBook_s0 hbk) dX11_enter_105 (fun r105 M105 q105 => ?_)
                          obtain ⟨qm105, qr105⟩ := q105
                          obtain rfl := qm105.symm
                          obtain ⟨c105, rfl⟩ | ⟨c105, rfl⟩ := qr105
                          · rw [hl] at c105
                            obtain ⟨j, hj, rfl⟩ := (zInD y (n := A.ln h) (by omega)).resolve_right (fun z => z c105)
                            have hj10 : j < 10 := by omega
                            refine z_if_ne (tgt := 114) dX11_enter_108 (by decide) (fun b108 => ?_) (fun b108 => ?_)
                            · refine z_aload dX11_enter_114 rfl ?_
                              refine z_getR (j := 0) (r := (bk + 1)) kX0 lf_X11_261 (by decide) rfl dX11_enter_116 (zBook_k0 hbk) (zBook_s0 hbk) (zBook_r0 hbk) (zBook_l1 hbk) ?_
                              refine z_iload_n dX11_enter_119 rfl ?_
                              refine z_iload_n dX11_enter_120 rfl ?_
                              refine z_iastN (j := j) rfl hj10 dX11_enter_121 (zBook_k1 hbk) (zBook_s1 hbk) ?_
                              refine z_aload dX11_enter_122 rfl ?_
                              refine z_getR (j := 1) (r := (bk + 2)) kX0 lf_X11_264 (by decide) rfl dX11_enter_124 (zBook_k0 hbk) (zBook_s0 hbk) (zBook_r1 hbk) (zBook_l2 hbk) ?_
                              refine z_iload_n dX11_enter_127 rfl ?_
                              refine z_iload dX11_enter_128 rfl ?_
                              refine z_iastN (j := j) rfl hj10 dX11_enter_130 (zBook_k2 hbk) (zBook_s2 hbk) ?_
                              refine z_iconst (v := 1) dX11_enter_131 (by decide) ?_
                              refine z_iret dX11_enter_132 rfl zle ?_
                              have C1 := C.putB (M' := z_up (z_up M (bk + 1) j w) (bk + 2) j v) hh (o := true) (n := A.ln h) (f := upd (A.so h) j w) (v := upd (A.va h) j v) (by rw [← ebk2, z_up_n _ _ _ (by omega), z_up_n _ _ _ (by omega)]; exact hl) (fun k hk => by
                                rw [← ebk2, z_up_s, z_up_n _ _ _ (by omega), z_up_s, z_up_n _ _ _ (by omega)]
                                by_cases e : k = j
                                · rw [e]; exact ⟨(upd_s _ _ _).trans (upd_s _ _ _).symm, (upd_s _ _ _).trans (upd_s _ _ _).symm⟩
                                · exact ⟨(upd_n _ _ e).trans ((hB.2 k hk).1.trans (upd_n _ _ e).symm), (upd_n _ _ e).trans ((hB.2 k hk).2.trans (upd_n _ _ e).symm)⟩) (fun k a => by rw [z_up_n _ _ _ (by omega), z_up_n _ _ _ (by omega)])
                              exact zStp.mk C1.1 C1.2 (by unfold sEnter; rw [if_neg n1, if_neg n2, aIx_in hh (by omega), if_pos hb, aIx_in hj (by omega)]) rfl
                            · exact absurd b108 (by decide)
                          · have hy : ¬ (0 ≤ y ∧ y < nI (A.ln h)) := by rw [← hl]; exact c105
                            refine z_if_ne (tgt := 114) dX11_enter_108 (by decide) (fun b108 => ?_) (fun b108 => ?_)
                            · exact absurd b108 (by decide)
                            · refine z_bipush (v := (-12)) dX11_enter_111 (by decide) ?_
                              refine z_iret dX11_enter_113 rfl zle ?_
                              exact zStp.of C (by unfold sEnter; rw [if_neg n1, if_neg n2, aIx_in hh (by omega), if_pos hb, aIx_out hy])
                        · exact absurd b96 (by decide)
                    · refine z_bipush (v := (-3)) dX11_enter_77 (by decide) ?_
                      refine z_iret dX11_enter_79 rfl zle ?_
                      exact zStp.of C ((if_neg n1).trans (if_pos (by first | exact Or.inl (Or.inl b49) | exact Or.inl (Or.inr b54) | exact Or.inr ⟨b58, Or.inl b66⟩ | exact Or.inr ⟨b58, Or.inr (Int32.not_le.mp b74)⟩)))
          · refine z_aload_n dX11_enter_33 rfl ?_
            refine z_getR (j := 10) (r := 113) kX11 lf_X11_76 (by decide) rfl dX11_enter_34 k0_0 s0_0 r0_0_10 (by decide) ?_
            refine z_iload dX11_enter_37 rfl ?_
            refine z_iV1 (c_X8_hasPlace g l) mw_X8_hasPlace lm_X11_242 mi_X8_hasPlace mv_X8_hasPlace kX8 (by decide) (Nat.le_of_ble_eq_true rfl) zle k0_113 s0_113 dX11_enter_39 (fun r39 M39 q39 => ?_)
            obtain ⟨qm39, qr39⟩ := q39
            obtain rfl := qm39.symm
            obtain ⟨c39, rfl⟩ | ⟨c39, rfl⟩ := qr39
            · refine z_if_ne (tgt := 48) dX11_enter_42 (by decide) (fun b42 => ?_) (fun b42 => ?_)
              · have n1 : ¬ ((¬ (0 ≤ nI h ∧ nI h < 4)) ∨ (w = 1 ∧ ¬ (0 ≤ v ∧ v < nI A.n)) ∨ (w = 2 ∧ ¬ (0 ≤ v ∧ v < 4))) := fun z => z.elim (fun a => a (zInP (n := 4) hh (by omega))) (fun z => z.elim (fun a => by first | exact absurd a.1 b13 | exact a.2 ⟨c22.1, by rw [← C.road.2.1]; exact c22.2⟩) (fun a => by first | exact absurd a.1 b30 | exact a.2 c39))
                refine z_iload_n dX11_enter_48 rfl ?_
                refine z_if_lt (tgt := 77) dX11_enter_49 (by decide) (fun b49 => ?_) (fun b49 => ?_)
                · refine z_bipush (v := (-3)) dX11_enter_77 (by decide) ?_
                  refine z_iret dX11_enter_79 rfl zle ?_
                  exact zStp.of C ((if_neg n1).trans (if_pos (by first | exact Or.inl (Or.inl b49) | exact Or.inl (Or.inr b54) | exact Or.inr ⟨b58, Or.inl b66⟩ | exact Or.inr ⟨b58, Or.inr (Int32.not_le.mp b74)⟩)))
                · refine z_iload_n dX11_enter_52 rfl ?_
                  refine z_iconst (v := 3) dX11_enter_53 (by decide) ?_
                  refine z_icmp_gt (tgt := 77) dX11_enter_54 (by decide) (fun b54 => ?_) (fun b54 => ?_)
                  · refine z_bipush (v := (-3)) dX11_enter_77 (by decide) ?_
                    refine z_iret dX11_enter_79 rfl zle ?_
                    exact zStp.of C ((if_neg n1).trans (if_pos (by first | exact Or.inl (Or.inl b49) | exact Or.inl (Or.inr b54) | exact Or.inr ⟨b58, Or.inl b66⟩ | exact Or.inr ⟨b58, Or.inr (Int32.not_le.mp b74)⟩)))
                  · refine z_iload_n dX11_enter_57 rfl ?_
                    refine z_if_ne (tgt := 80) dX11_enter_58 (by decide) (fun b58 => ?_) (fun b58 => ?_)
                    · have n2 : ¬ ((w < 0 ∨ 3 < w) ∨ (w = 0 ∧ (v < -9999 ∨ 9999 < v))) := fun z => z.elim (fun z => z.elim b49 b54) (fun z => by first | exact absurd z.1 b58 | exact z.2.elim b66 (Int32.not_lt.mpr b74))
                      refine z_aload_n dX11_enter_80 rfl ?_
                      refine z_getR (j := 10) (r := 113) kX11 lf_X11_76 (by decide) rfl dX11_enter_81 k0_0 s0_0 r0_0_10 (by decide) ?_
                      refine z_getR (j := 0) (r := 114) kX8 lf_X11_245 (by decide) rfl dX11_enter_84 k0_113 s0_113 r0_113_0 (by decide) ?_
                      refine z_iload_n dX11_enter_87 rfl ?_
                      refine z_aaldN (j := h) (r := bk) rfl hh dX11_enter_88 k0_114 s0_114 (by decide) ebk (zBook_l0 hbk) ?_
                      refine z_astore dX11_enter_89 (by decide) rfl rfl ?_
                      refine z_aload dX11_enter_91 rfl ?_
                      refine z_iV0 (c_X0_isMissing g l hbk) mw_X0_isMissing lm_X11_254 mi_X0_isMissing mv_X0_isMissing kX0 (by decide) (Nat.le_of_ble_eq_true rfl) zle (zBook_k0 hbk) (zBook_s0 hbk) dX11_enter_93 (fun r93 M93 q93 => ?_)
                      obtain ⟨qm93, qr93⟩ := q93
                      obtain rfl := qm93.symm
                      obtain ⟨c93, rfl⟩ | ⟨c93, rfl⟩ := qr93
                      · have hb : ¬ A.bo h = true := (bSz_m hln.1).mp (hB.1.symm.trans c93)
                        refine z_if_eq (tgt := 102) dX11_enter_96 (by decide) (fun b96 => ?_) (fun b96 => ?_)
                        · exact absurd b96 (by decide)
                        · refine z_bipush (v := (-11)) dX11_enter_99 (by decide) ?_
                          refine z_iret dX11_enter_101 rfl zle ?_
                          exact zStp.of C (by unfold sEnter; rw [if_neg n1, if_neg n2, aIx_in hh (by omega), if_neg hb])
                      · have hb : A.bo h = true := Classical.byContradiction (fun z => c93 (hB.1.trans ((bSz_m hln.1).mpr z)))
                        have hl : M bk 2 = nI (A.ln h) := hB.1.trans (if_pos hb)
                        refine z_if_eq (tgt := 102) dX11_enter_96 (by decide) (fun b96 => ?_) (fun b96 => ?_)
                        · refine z_aload dX11_enter_102 rfl ?_
                          refine z_iload_n dX11_enter_104 rfl ?_
                          refine z_iV1 (c_X0_hasLine g l hbk) mw_X0_hasLine lm_X11_258 mi_X0_hasLine mv_X0_hasLine kX0 (by decide) (Nat.le_of_ble_eq_true rfl) zle (zBook_k0 hbk) (zBook_s0 hbk) dX11_enter_105 (fun r105 M105 q105 => ?_)
                          obtain ⟨qm105, qr105⟩ := q105
                          obtain rfl := qm105.symm
                          obtain ⟨c105, rfl⟩ | ⟨c105, rfl⟩ := qr105
                          · rw [hl] at c105
                            obtain ⟨j, hj, rfl⟩ := (zInD y (n := A.ln h) (by omega)).resolve_right (fun z => z c105)
                            have hj10 : j < 10 := by omega
                            refine z_if_ne (tgt := 114) dX11_enter_108 (by decide) (fun b108 => ?_) (fun b108 => ?_)
                            · refine z_aload dX11_enter_114 rfl ?_
                              refine z_getR (j := 0) (r := (bk + 1)) kX0 lf_X11_261 (by decide) rfl dX11_enter_116 (zBook_k0 hbk) (zBook_s0 hbk) (zBook_r0 hbk) (zBook_l1 hbk) ?_
                              refine z_iload_n dX11_enter_119 rfl ?_
                              refine z_iload_n dX11_enter_120 rfl ?_
                              refine z_iastN (j := j) rfl hj10 dX11_enter_121 (zBook_k1 hbk) (zBook_s1 hbk) ?_
                              refine z_aload dX11_enter_122 rfl ?_
                              refine z_getR (j := 1) (r := (bk + 2)) kX0 lf_X11_264 (by decide) rfl dX11_enter_124 (zBook_k0 hbk) (zBook_s0 hbk) (zBook_r1 hbk) (zBook_l2 hbk) ?_
                              refine z_iload_n dX11_enter_127 rfl ?_
                              refine z_iload dX11_enter_128 rfl ?_
                              refine z_iastN (j := j) rfl hj10 dX11_enter_130 (zBook_k2 hbk) (zBook_s2 hbk) ?_
                              refine z_iconst (v := 1) dX11_enter_131 (by decide) ?_
                              refine z_iret dX11_enter_132 rfl zle ?_
                              have C1 := C.putB (M' := z_up (z_up M (bk + 1) j w) (bk + 2) j v) hh (o := true) (n := A.ln h) (f := upd (A.so h) j w) (v := upd (A.va h) j v) (by rw [← ebk2, z_up_n _ _ _ (by omega), z_up_n _ _ _ (by omega)]; exact hl) (fun k hk => by
                                rw [← ebk2, z_up_s, z_up_n _ _ _ (by omega), z_up_s, z_up_n _ _ _ (by omega)]
                                by_cases e : k = j
                                · rw [e]; exact ⟨(upd_s _ _ _).trans (upd_s _ _ _).symm, (upd_s _ _ _).trans (upd_s _ _ _).symm⟩
                                · exact ⟨(upd_n _ _ e).trans ((hB.2 k hk).1.trans (upd_n _ _ e).symm), (upd_n _ _ e).trans ((hB.2 k hk).2.trans (upd_n _ _ e).symm)⟩) (fun k a => by rw [z_up_n _ _ _ (by omega), z_up_n _ _ _ (by omega)])
                              exact zStp.mk C1.1 C1.2 (by unfold sEnter; rw [if_neg n1, if_neg n2, aIx_in hh (by omega), if_pos hb, aIx_in hj (by omega)]) rfl
                            · exact absurd b108 (by decide)
                          · have hy : ¬ (0 ≤ y ∧ y < nI (A.ln h)) := by rw [← hl]; exact c105
                            refine z_if_ne (tgt := 114) dX11_enter_108 (by decide) (fun b108 => ?_) (fun b108 => ?_)
                            · exact absurd b108 (by decide)
                            · refine z_bipush (v := (-12)) dX11_enter_111 (by decide) ?_
                              refine z_iret dX11_enter_113 rfl zle ?_
                              exact zStp.of C (by unfold sEnter; rw [if_neg n1, if_neg n2, aIx_in hh (by omega), if_pos hb, aIx_out hy])
                        · exact absurd b96 (by decide)
                    · refine z_iload dX11_enter_61 rfl ?_
                      refine z_sipush (v := (-9999)) dX11_enter_63 (by decide) ?_
                      refine z_icmp_lt (tgt := 77) dX11_enter_66 (by decide) (fun b66 => ?_) (fun b66 => ?_)
                      · refine z_bipush (v := (-3)) dX11_enter_77 (by decide) ?_
                        refine z_iret dX11_enter_79 rfl zle ?_
                        exact zStp.of C ((if_neg n1).trans (if_pos (by first | exact Or.inl (Or.inl b49) | exact Or.inl (Or.inr b54) | exact Or.inr ⟨b58, Or.inl b66⟩ | exact Or.inr ⟨b58, Or.inr (Int32.not_le.mp b74)⟩)))
                      · refine z_iload dX11_enter_69 rfl ?_
                        refine z_sipush (v := 9999) dX11_enter_71 (by decide) ?_
                        refine z_icmp_le (tgt := 80) dX11_enter_74 (by decide) (fun b74 => ?_) (fun b74 => ?_)
                        · have n2 : ¬ ((w < 0 ∨ 3 < w) ∨ (w = 0 ∧ (v < -9999 ∨ 9999 < v))) := fun z => z.elim (fun z => z.elim b49 b54) (fun z => by first | exact absurd z.1 b58 | exact z.2.elim b66 (Int32.not_lt.mpr b74))
                          refine z_aload_n dX11_enter_80 rfl ?_
                          refine z_getR (j := 10) (r := 113) kX11 lf_X11_76 (by decide) rfl dX11_enter_81 k0_0 s0_0 r0_0_10 (by decide) ?_
                          refine z_getR (j := 0) (r := 114) kX8 lf_X11_245 (by decide) rfl dX11_enter_84 k0_113 s0_113 r0_113_0 (by decide) ?_
                          refine z_iload_n dX11_enter_87 rfl ?_
                          refine z_aaldN (j := h) (r := bk) rfl hh dX11_enter_88 k0_114 s0_114 (by decide) ebk (zBook_l0 hbk) ?_
                          refine z_astore dX11_enter_89 (by decide) rfl rfl ?_
                          refine z_aload dX11_enter_91 rfl ?_
                          refine z_iV0 (c_X0_isMissing g l hbk) mw_X0_isMissing lm_X11_254 mi_X0_isMissing mv_X0_isMissing kX0 (by decide) (Nat.le_of_ble_eq_true rfl) zle (zBook_k0 hbk) (zBook_s0 hbk) dX11_enter_93 (fun r93 M93 q93 => ?_)
                          obtain ⟨qm93, qr93⟩ := q93
                          obtain rfl := qm93.symm
                          obtain ⟨c93, rfl⟩ | ⟨c93, rfl⟩ := qr93
                          · have hb : ¬ A.bo h = true := (bSz_m hln.1).mp (hB.1.symm.trans c93)
                            refine z_if_eq (tgt := 102) dX11_enter_96 (by decide) (fun b96 => ?_) (fun b96 => ?_)
                            · exact absurd b96 (by decide)
                            · refine z_bipush (v := (-11)) dX11_enter_99 (by decide) ?_
                              refine z_iret dX11_enter_101 rfl zle ?_
                              exact zStp.of C (by unfold sEnter; rw [if_neg n1, if_neg n2, aIx_in hh (by omega), if_neg hb])
                          · have hb : A.bo h = true := Classical.byContradiction (fun z => c93 (hB.1.trans ((bSz_m hln.1).mpr z)))
                            have hl : M bk 2 = nI (A.ln h) := hB.1.trans (if_pos hb)
                            refine z_if_eq (tgt := 102) dX11_enter_96 (by decide) (fun b96 => ?_) (fun b96 => ?_)
                            · refine z_aload dX11_enter_102 rfl ?_
                              refine z_iload_n dX11_enter_104 rfl ?_
                              refine z_iV1 (c_X0_hasLine g l hbk) mw_X0_hasLine lm_X11_258 mi_X0_hasLine mv_X0_hasLine kX0 (by decide) (Nat.le_of_ble_eq_true rfl) zle (zBook_k0 hbk) (zBook_s0 hbk) dX11_enter_105 (fun r105 M105 q105 => ?_)
                              obtain ⟨qm105, qr105⟩ := q105
                              obtain rfl := qm105.symm
                              obtain ⟨c105, rfl⟩ | ⟨c105, rfl⟩ := qr105
                              · rw [hl] at c105
                                obtain ⟨j, hj, rfl⟩ := (zInD y (n := A.ln h) (by omega)).resolve_right (fun z => z c105)
                                have hj10 : j < 10 := by omega
                                refine z_if_ne (tgt := 114) dX11_enter_108 (by decide) (fun b108 => ?_) (fun b108 => ?_)
                                · refine z_aload dX11_enter_114 rfl ?_
                                  refine z_getR (j := 0) (r := (bk + 1)) kX0 lf_X11_261 (by decide) rfl dX11_enter_116 (zBook_k0 hbk) (zBook_s0 hbk) (zBook_r0 hbk) (zBook_l1 hbk) ?_
                                  refine z_iload_n dX11_enter_119 rfl ?_
                                  refine z_iload_n dX11_enter_120 rfl ?_
                                  refine z_iastN (j := j) rfl hj10 dX11_enter_121 (zBook_k1 hbk) (zBook_s1 hbk) ?_
                                  refine z_aload dX11_enter_122 rfl ?_
                                  refine z_getR (j := 1) (r := (bk + 2)) kX0 lf_X11_264 (by decide) rfl dX11_enter_124 (zBook_k0 hbk) (zBook_s0 hbk) (zBook_r1 hbk) (zBook_l2 hbk) ?_
                                  refine z_iload_n dX11_enter_127 rfl ?_
                                  refine z_iload dX11_enter_128 rfl ?_
                                  refine z_iastN (j := j) rfl hj10 dX11_enter_130 (zBook_k2 hbk) (zBook_s2 hbk) ?_
                                  refine z_iconst (v := 1) dX11_enter_131 (by decide) ?_
                                  refine z_iret dX11_enter_132 rfl zle ?_
                                  have C1 := C.putB (M' := z_up (z_up M (bk + 1) j w) (bk + 2) j v) hh (o := true) (n := A.ln h) (f := upd (A.so h) j w) (v := upd (A.va h) j v) (by rw [← ebk2, z_up_n _ _ _ (by omega), z_up_n _ _ _ (by omega)]; exact hl) (fun k hk => by
                                    rw [← ebk2, z_up_s, z_up_n _ _ _ (by omega), z_up_s, z_up_n _ _ _ (by omega)]
                                    by_cases e : k = j
                                    · rw [e]; exact ⟨(upd_s _ _ _).trans (upd_s _ _ _).symm, (upd_s _ _ _).trans (upd_s _ _ _).symm⟩
                                    · exact ⟨(upd_n _ _ e).trans ((hB.2 k hk).1.trans (upd_n _ _ e).symm), (upd_n _ _ e).trans ((hB.2 k hk).2.trans (upd_n _ _ e).symm)⟩) (fun k a => by rw [z_up_n _ _ _ (by omega), z_up_n _ _ _ (by omega)])
                                  exact zStp.mk C1.1 C1.2 (by unfold sEnter; rw [if_neg n1, if_neg n2, aIx_in hh (by omega), if_pos hb, aIx_in hj (by omega)]) rfl
                                · exact absurd b108 (by decide)
                              · have hy : ¬ (0 ≤ y ∧ y < nI (A.ln h)) := by rw [← hl]; exact c105
                                refine z_if_ne (tgt := 114) dX11_enter_108 (by decide) (fun b108 => ?_) (fun b108 => ?_)
                                · exact absurd b108 (by decide)
                                · refine z_bipush (v := (-12)) dX11_enter_111 (by decide) ?_
                                  refine z_iret dX11_enter_113 rfl zle ?_
                                  exact zStp.of C (by unfold sEnter; rw [if_neg n1, if_neg n2, aIx_in hh (by omega), if_pos hb, aIx_out hy])
                            · exact absurd b96 (by decide)
                        · refine z_bipush (v := (-3)) dX11_enter_77 (by decide) ?_
                          refine z_iret dX11_enter_79 rfl zle ?_
                          exact zStp.of C ((if_neg n1).trans (if_pos (by first | exact Or.inl (Or.inl b49) | exact Or.inl (Or.inr b54) | exact Or.inr ⟨b58, Or.inl b66⟩ | exact Or.inr ⟨b58, Or.inr (Int32.not_le.mp b74)⟩)))
              · exact absurd b42 (by decide)
            · refine z_if_ne (tgt := 48) dX11_enter_42 (by decide) (fun b42 => ?_) (fun b42 => ?_)
              · exact absurd b42 (by decide)
              · refine z_bipush (v := (-2)) dX11_enter_45 (by decide) ?_
                refine z_iret dX11_enter_47 rfl zle ?_
                exact zStp.of C (if_pos (by first | exact Or.inr (Or.inr ⟨b30, c39⟩) | exact Or.inr (Or.inl ⟨b13, fun z => c22 ⟨z.1, by rw [C.road.2.1]; exact z.2⟩⟩)))
        · refine z_aload_n dX11_enter_16 rfl ?_
          refine z_getR (j := 0) (r := 1) kX11 lf_X11_10 (by decide) rfl dX11_enter_17 k0_0 s0_0 r0_0_0 (by decide) ?_
          refine z_iload dX11_enter_20 rfl ?_
          refine z_iV1 (c_X7_hasHour g l (by decide)) mw_X7_hasHour lm_X11_107 mi_X7_hasHour mv_X7_hasHour kX7 (by decide) (Nat.le_of_ble_eq_true rfl) zle k0_1 s0_1 dX11_enter_22 (fun r22 M22 q22 => ?_)
          obtain ⟨qm22, qr22⟩ := q22
          obtain rfl := qm22.symm
          obtain ⟨c22, rfl⟩ | ⟨c22, rfl⟩ := qr22
          · refine z_if_eq (tgt := 45) dX11_enter_25 (by decide) (fun b25 => ?_) (fun b25 => ?_)
            · exact absurd b25 (by decide)
            · refine z_iload_n dX11_enter_28 rfl ?_
              refine z_iconst (v := 2) dX11_enter_29 (by decide) ?_
              refine z_icmp_ne (tgt := 48) dX11_enter_30 (by decide) (fun b30 => ?_) (fun b30 => ?_)
              · have n1 : ¬ ((¬ (0 ≤ nI h ∧ nI h < 4)) ∨ (w = 1 ∧ ¬ (0 ≤ v ∧ v < nI A.n)) ∨ (w = 2 ∧ ¬ (0 ≤ v ∧ v < 4))) := fun z => z.elim (fun a => a (zInP (n := 4) hh (by omega))) (fun z => z.elim (fun a => by first | exact absurd a.1 b13 | exact a.2 ⟨c22.1, by rw [← C.road.2.1]; exact c22.2⟩) (fun a => by first | exact absurd a.1 b30 | exact a.2 c39))
                refine z_iload_n dX11_enter_48 rfl ?_
                refine z_if_lt (tgt := 77) dX11_enter_49 (by decide) (fun b49 => ?_) (fun b49 => ?_)
                · refine z_bipush (v := (-3)) dX11_enter_77 (by decide) ?_
                  refine z_iret dX11_enter_79 rfl zle ?_
                  exact zStp.of C ((if_neg n1).trans (if_pos (by first | exact Or.inl (Or.inl b49) | exact Or.inl (Or.inr b54) | exact Or.inr ⟨b58, Or.inl b66⟩ | exact Or.inr ⟨b58, Or.inr (Int32.not_le.mp b74)⟩)))
                · refine z_iload_n dX11_enter_52 rfl ?_
                  refine z_iconst (v := 3) dX11_enter_53 (by decide) ?_
                  refine z_icmp_gt (tgt := 77) dX11_enter_54 (by decide) (fun b54 => ?_) (fun b54 => ?_)
                  · refine z_bipush (v := (-3)) dX11_enter_77 (by decide) ?_
                    refine z_iret dX11_enter_79 rfl zle ?_
                    exact zStp.of C ((if_neg n1).trans (if_pos (by first | exact Or.inl (Or.inl b49) | exact Or.inl (Or.inr b54) | exact Or.inr ⟨b58, Or.inl b66⟩ | exact Or.inr ⟨b58, Or.inr (Int32.not_le.mp b74)⟩)))
                  · refine z_iload_n dX11_enter_57 rfl ?_
                    refine z_if_ne (tgt := 80) dX11_enter_58 (by decide) (fun b58 => ?_) (fun b58 => ?_)
                    · have n2 : ¬ ((w < 0 ∨ 3 < w) ∨ (w = 0 ∧ (v < -9999 ∨ 9999 < v))) := fun z => z.elim (fun z => z.elim b49 b54) (fun z => by first | exact absurd z.1 b58 | exact z.2.elim b66 (Int32.not_lt.mpr b74))
                      refine z_aload_n dX11_enter_80 rfl ?_
                      refine z_getR (j := 10) (r := 113) kX11 lf_X11_76 (by decide) rfl dX11_enter_81 k0_0 s0_0 r0_0_10 (by decide) ?_
                      refine z_getR (j := 0) (r := 114) kX8 lf_X11_245 (by decide) rfl dX11_enter_84 k0_113 s0_113 r0_113_0 (by decide) ?_
                      refine z_iload_n dX11_enter_87 rfl ?_
                      refine z_aaldN (j := h) (r := bk) rfl hh dX11_enter_88 k0_114 s0_114 (by decide) ebk (zBook_l0 hbk) ?_
                      refine z_astore dX11_enter_89 (by decide) rfl rfl ?_
                      refine z_aload dX11_enter_91 rfl ?_
                      refine z_iV0 (c_X0_isMissing g l hbk) mw_X0_isMissing lm_X11_254 mi_X0_isMissing mv_X0_isMissing kX0 (by decide) (Nat.le_of_ble_eq_true rfl) zle (zBook_k0 hbk) (zBook_s0 hbk) dX11_enter_93 (fun r93 M93 q93 => ?_)
                      obtain ⟨qm93, qr93⟩ := q93
                      obtain rfl := qm93.symm
                      obtain ⟨c93, rfl⟩ | ⟨c93, rfl⟩ := qr93
                      · have hb : ¬ A.bo h = true := (bSz_m hln.1).mp (hB.1.symm.trans c93)
                        refine z_if_eq (tgt := 102) dX11_enter_96 (by decide) (fun b96 => ?_) (fun b96 => ?_)
                        · exact absurd b96 (by decide)
                        · refine z_bipush (v := (-11)) dX11_enter_99 (by decide) ?_
                          refine z_iret dX11_enter_101 rfl zle ?_
                          exact zStp.of C (by unfold sEnter; rw [if_neg n1, if_neg n2, aIx_in hh (by omega), if_neg hb])
                      · have hb : A.bo h = true := Classical.byContradiction (fun z => c93 (hB.1.trans ((bSz_m hln.1).mpr z)))
                        have hl : M bk 2 = nI (A.ln h) := hB.1.trans (if_pos hb)
                        refine z_if_eq (tgt := 102) dX11_enter_96 (by decide) (fun b96 => ?_) (fun b96 => ?_)
                        · refine z_aload dX11_enter_102 rfl ?_
                          refine z_iload_n dX11_enter_104 rfl ?_
                          refine z_iV1 (c_X0_hasLine g l hbk) mw_X0_hasLine lm_X11_258 mi_X0_hasLine mv_X0_hasLine kX0 (by decide) (Nat.le_of_ble_eq_true rfl) zle (zBook_k0 hbk) (zBook_s0 hbk) dX11_enter_105 (fun r105 M105 q105 => ?_)
                          obtain ⟨qm105, qr105⟩ := q105
                          obtain rfl := qm105.symm
                          obtain ⟨c105, rfl⟩ | ⟨c105, rfl⟩ := qr105
                          · rw [hl] at c105
                            obtain ⟨j, hj, rfl⟩ := (zInD y (n := A.ln h) (by omega)).resolve_right (fun z => z c105)
                            have hj10 : j < 10 := by omega
                            refine z_if_ne (tgt := 114) dX11_enter_108 (by decide) (fun b108 => ?_) (fun b108 => ?_)
                            · refine z_aload dX11_enter_114 rfl ?_
                              refine z_getR (j := 0) (r := (bk + 1)) kX0 lf_X11_261 (by decide) rfl dX11_enter_116 (zBook_k0 hbk) (zBook_s0 hbk) (zBook_r0 hbk) (zBook_l1 hbk) ?_
                              refine z_iload_n dX11_enter_119 rfl ?_
                              refine z_iload_n dX11_enter_120 rfl ?_
                              refine z_iastN (j := j) rfl hj10 dX11_enter_121 (zBook_k1 hbk) (zBook_s1 hbk) ?_
                              refine z_aload dX11_enter_122 rfl ?_
                              refine z_getR (j := 1) (r := (bk + 2)) kX0 lf_X11_264 (by decide) rfl dX11_enter_124 (zBook_k0 hbk) (zBook_s0 hbk) (zBook_r1 hbk) (zBook_l2 hbk) ?_
                              refine z_iload_n dX11_enter_127 rfl ?_
                              refine z_iload dX11_enter_128 rfl ?_
                              refine z_iastN (j := j) rfl hj10 dX11_enter_130 (zBook_k2 hbk) (zBook_s2 hbk) ?_
                              refine z_iconst (v := 1) dX11_enter_131 (by decide) ?_
                              refine z_iret dX11_enter_132 rfl zle ?_
                              have C1 := C.putB (M' := z_up (z_up M (bk + 1) j w) (bk + 2) j v) hh (o := true) (n := A.ln h) (f := upd (A.so h) j w) (v := upd (A.va h) j v) (by rw [← ebk2, z_up_n _ _ _ (by omega), z_up_n _ _ _ (by omega)]; exact hl) (fun k hk => by
                                rw [← ebk2, z_up_s, z_up_n _ _ _ (by omega), z_up_s, z_up_n _ _ _ (by omega)]
                                by_cases e : k = j
                                · rw [e]; exact ⟨(upd_s _ _ _).trans (upd_s _ _ _).symm, (upd_s _ _ _).trans (upd_s _ _ _).symm⟩
                                · exact ⟨(upd_n _ _ e).trans ((hB.2 k hk).1.trans (upd_n _ _ e).symm), (upd_n _ _ e).trans ((hB.2 k hk).2.trans (upd_n _ _ e).symm)⟩) (fun k a => by rw [z_up_n _ _ _ (by omega), z_up_n _ _ _ (by omega)])
                              exact zStp.mk C1.1 C1.2 (by unfold sEnter; rw [if_neg n1, if_neg n2, aIx_in hh (by omega), if_pos hb, aIx_in hj (by omega)]) rfl
                            · exact absurd b108 (by decide)
                          · have hy : ¬ (0 ≤ y ∧ y < nI (A.ln h)) := by rw [← hl]; exact c105
                            refine z_if_ne (tgt := 114) dX11_enter_108 (by decide) (fun b108 => ?_) (fun b108 => ?_)
                            · exact absurd b108 (by decide)
                            · refine z_bipush (v := (-12)) dX11_enter_111 (by decide) ?_
                              refine z_iret dX11_enter_113 rfl zle ?_
                              exact zStp.of C (by unfold sEnter; rw [if_neg n1, if_neg n2, aIx_in hh (by omega), if_pos hb, aIx_out hy])
                        · exact absurd b96 (by decide)
                    · refine z_iload dX11_enter_61 rfl ?_
                      refine z_sipush (v := (-9999)) dX11_enter_63 (by decide) ?_
                      refine z_icmp_lt (tgt := 77) dX11_enter_66 (by decide) (fun b66 => ?_) (fun b66 => ?_)
                      · refine z_bipush (v := (-3)) dX11_enter_77 (by decide) ?_
                        refine z_iret dX11_enter_79 rfl zle ?_
                        exact zStp.of C ((if_neg n1).trans (if_pos (by first | exact Or.inl (Or.inl b49) | exact Or.inl (Or.inr b54) | exact Or.inr ⟨b58, Or.inl b66⟩ | exact Or.inr ⟨b58, Or.inr (Int32.not_le.mp b74)⟩)))
                      · refine z_iload dX11_enter_69 rfl ?_
                        refine z_sipush (v := 9999) dX11_enter_71 (by decide) ?_
                        refine z_icmp_le (tgt := 80) dX11_enter_74 (by decide) (fun b74 => ?_) (fun b74 => ?_)
                        · have n2 : ¬ ((w < 0 ∨ 3 < w) ∨ (w = 0 ∧ (v < -9999 ∨ 9999 < v))) := fun z => z.elim (fun z => z.elim b49 b54) (fun z => by first | exact absurd z.1 b58 | exact z.2.elim b66 (Int32.not_lt.mpr b74))
                          refine z_aload_n dX11_enter_80 rfl ?_
                          refine z_getR (j := 10) (r := 113) kX11 lf_X11_76 (by decide) rfl dX11_enter_81 k0_0 s0_0 r0_0_10 (by decide) ?_
                          refine z_getR (j := 0) (r := 114) kX8 lf_X11_245 (by decide) rfl dX11_enter_84 k0_113 s0_113 r0_113_0 (by decide) ?_
                          refine z_iload_n dX11_enter_87 rfl ?_
                          refine z_aaldN (j := h) (r := bk) rfl hh dX11_enter_88 k0_114 s0_114 (by decide) ebk (zBook_l0 hbk) ?_
                          refine z_astore dX11_enter_89 (by decide) rfl rfl ?_
                          refine z_aload dX11_enter_91 rfl ?_
                          refine z_iV0 (c_X0_isMissing g l hbk) mw_X0_isMissing lm_X11_254 mi_X0_isMissing mv_X0_isMissing kX0 (by decide) (Nat.le_of_ble_eq_true rfl) zle (zBook_k0 hbk) (zBook_s0 hbk) dX11_enter_93 (fun r93 M93 q93 => ?_)
                          obtain ⟨qm93, qr93⟩ := q93
                          obtain rfl := qm93.symm
                          obtain ⟨c93, rfl⟩ | ⟨c93, rfl⟩ := qr93
                          · have hb : ¬ A.bo h = true := (bSz_m hln.1).mp (hB.1.symm.trans c93)
                            refine z_if_eq (tgt := 102) dX11_enter_96 (by decide) (fun b96 => ?_) (fun b96 => ?_)
                            · exact absurd b96 (by decide)
                            · refine z_bipush (v := (-11)) dX11_enter_99 (by decide) ?_
                              refine z_iret dX11_enter_101 rfl zle ?_
                              exact zStp.of C (by unfold sEnter; rw [if_neg n1, if_neg n2, aIx_in hh (by omega), if_neg hb])
                          · have hb : A.bo h = true := Classical.byContradiction (fun z => c93 (hB.1.trans ((bSz_m hln.1).mpr z)))
                            have hl : M bk 2 = nI (A.ln h) := hB.1.trans (if_pos hb)
                            refine z_if_eq (tgt := 102) dX11_enter_96 (by decide) (fun b96 => ?_) (fun b96 => ?_)
                            · refine z_aload dX11_enter_102 rfl ?_
                              refine z_iload_n dX11_enter_104 rfl ?_
                              refine z_iV1 (c_X0_hasLine g l hbk) mw_X0_hasLine lm_X11_258 mi_X0_hasLine mv_X0_hasLine kX0 (by decide) (Nat.le_of_ble_eq_true rfl) zle (zBook_k0 hbk) (zBook_s0 hbk) dX11_enter_105 (fun r105 M105 q105 => ?_)
                              obtain ⟨qm105, qr105⟩ := q105
                              obtain rfl := qm105.symm
                              obtain ⟨c105, rfl⟩ | ⟨c105, rfl⟩ := qr105
                              · rw [hl] at c105
                                obtain ⟨j, hj, rfl⟩ := (zInD y (n := A.ln h) (by omega)).resolve_right (fun z => z c105)
                                have hj10 : j < 10 := by omega
                                refine z_if_ne (tgt := 114) dX11_enter_108 (by decide) (fun b108 => ?_) (fun b108 => ?_)
                                · refine z_aload dX11_enter_114 rfl ?_
                                  refine z_getR (j := 0) (r := (bk + 1)) kX0 lf_X11_261 (by decide) rfl dX11_enter_116 (zBook_k0 hbk) (zBook_s0 hbk) (zBook_r0 hbk) (zBook_l1 hbk) ?_
                                  refine z_iload_n dX11_enter_119 rfl ?_
                                  refine z_iload_n dX11_enter_120 rfl ?_
                                  refine z_iastN (j := j) rfl hj10 dX11_enter_121 (zBook_k1 hbk) (zBook_s1 hbk) ?_
                                  refine z_aload dX11_enter_122 rfl ?_
                                  refine z_getR (j := 1) (r := (bk + 2)) kX0 lf_X11_264 (by decide) rfl dX11_enter_124 (zBook_k0 hbk) (zBook_s0 hbk) (zBook_r1 hbk) (zBook_l2 hbk) ?_
                                  refine z_iload_n dX11_enter_127 rfl ?_
                                  refine z_iload dX11_enter_128 rfl ?_
                                  refine z_iastN (j := j) rfl hj10 dX11_enter_130 (zBook_k2 hbk) (zBook_s2 hbk) ?_
                                  refine z_iconst (v := 1) dX11_enter_131 (by decide) ?_
                                  refine z_iret dX11_enter_132 rfl zle ?_
                                  have C1 := C.putB (M' := z_up (z_up M (bk + 1) j w) (bk + 2) j v) hh (o := true) (n := A.ln h) (f := upd (A.so h) j w) (v := upd (A.va h) j v) (by rw [← ebk2, z_up_n _ _ _ (by omega), z_up_n _ _ _ (by omega)]; exact hl) (fun k hk => by
                                    rw [← ebk2, z_up_s, z_up_n _ _ _ (by omega), z_up_s, z_up_n _ _ _ (by omega)]
                                    by_cases e : k = j
                                    · rw [e]; exact ⟨(upd_s _ _ _).trans (upd_s _ _ _).symm, (upd_s _ _ _).trans (upd_s _ _ _).symm⟩
                                    · exact ⟨(upd_n _ _ e).trans ((hB.2 k hk).1.trans (upd_n _ _ e).symm), (upd_n _ _ e).trans ((hB.2 k hk).2.trans (upd_n _ _ e).symm)⟩) (fun k a => by rw [z_up_n _ _ _ (by omega), z_up_n _ _ _ (by omega)])
                                  exact zStp.mk C1.1 C1.2 (by unfold sEnter; rw [if_neg n1, if_neg n2, aIx_in hh (by omega), if_pos hb, aIx_in hj (by omega)]) rfl
                                · exact absurd b108 (by decide)
                              · have hy : ¬ (0 ≤ y ∧ y < nI (A.ln h)) := by rw [← hl]; exact c105
                                refine z_if_ne (tgt := 114) dX11_enter_108 (by decide) (fun b108 => ?_) (fun b108 => ?_)
                                · exact absurd b108 (by decide)
                                · refine z_bipush (v := (-12)) dX11_enter_111 (by decide) ?_
                                  refine z_iret dX11_enter_113 rfl zle ?_
                                  exact zStp.of C (by unfold sEnter; rw [if_neg n1, if_neg n2, aIx_in hh (by omega), if_pos hb, aIx_out hy])
                            · exact absurd b96 (by decide)
                        · refine z_bipush (v := (-3)) dX11_enter_77 (by decide) ?_
                          refine z_iret dX11_enter_79 rfl zle ?_
                          exact zStp.of C ((if_neg n1).trans (if_pos (by first | exact Or.inl (Or.inl b49) | exact Or.inl (Or.inr b54) | exact Or.inr ⟨b58, Or.inl b66⟩ | exact Or.inr ⟨b58, Or.inr (Int32.not_le.mp b74)⟩)))
              · refine z_aload_n dX11_enter_33 rfl ?_
                refine z_getR (j := 10) (r := 113) kX11 lf_X11_76 (by decide) rfl dX11_enter_34 k0_0 s0_0 r0_0_10 (by decide) ?_
                refine z_iload dX11_enter_37 rfl ?_
                refine z_iV1 (c_X8_hasPlace g l) mw_X8_hasPlace lm_X11_242 mi_X8_hasPlace mv_X8_hasPlace kX8 (by decide) (Nat.le_of_ble_eq_true rfl) zle k0_113 s0_113 dX11_enter_39 (fun r39 M39 q39 => ?_)
                obtain ⟨qm39, qr39⟩ := q39
                obtain rfl := qm39.symm
                obtain ⟨c39, rfl⟩ | ⟨c39, rfl⟩ := qr39
                · refine z_if_ne (tgt := 48) dX11_enter_42 (by decide) (fun b42 => ?_) (fun b42 => ?_)
                  · have n1 : ¬ ((¬ (0 ≤ nI h ∧ nI h < 4)) ∨ (w = 1 ∧ ¬ (0 ≤ v ∧ v < nI A.n)) ∨ (w = 2 ∧ ¬ (0 ≤ v ∧ v < 4))) := fun z => z.elim (fun a => a (zInP (n := 4) hh (by omega))) (fun z => z.elim (fun a => by first | exact absurd a.1 b13 | exact a.2 ⟨c22.1, by rw [← C.road.2.1]; exact c22.2⟩) (fun a => by first | exact absurd a.1 b30 | exact a.2 c39))
                    refine z_iload_n dX11_enter_48 rfl ?_
                    refine z_if_lt (tgt := 77) dX11_enter_49 (by decide) (fun b49 => ?_) (fun b49 => ?_)
                    · refine z_bipush (v := (-3)) dX11_enter_77 (by decide) ?_
                      refine z_iret dX11_enter_79 rfl zle ?_
                      exact zStp.of C ((if_neg n1).trans (if_pos (by first | exact Or.inl (Or.inl b49) | exact Or.inl (Or.inr b54) | exact Or.inr ⟨b58, Or.inl b66⟩ | exact Or.inr ⟨b58, Or.inr (Int32.not_le.mp b74)⟩)))
                    · refine z_iload_n dX11_enter_52 rfl ?_
                      refine z_iconst (v := 3) dX11_enter_53 (by decide) ?_
                      refine z_icmp_gt (tgt := 77) dX11_enter_54 (by decide) (fun b54 => ?_) (fun b54 => ?_)
                      · refine z_bipush (v := (-3)) dX11_enter_77 (by decide) ?_
                        refine z_iret dX11_enter_79 rfl zle ?_
                        exact zStp.of C ((if_neg n1).trans (if_pos (by first | exact Or.inl (Or.inl b49) | exact Or.inl (Or.inr b54) | exact Or.inr ⟨b58, Or.inl b66⟩ | exact Or.inr ⟨b58, Or.inr (Int32.not_le.mp b74)⟩)))
                      · refine z_iload_n dX11_enter_57 rfl ?_
                        refine z_if_ne (tgt := 80) dX11_enter_58 (by decide) (fun b58 => ?_) (fun b58 => ?_)
                        · have n2 : ¬ ((w < 0 ∨ 3 < w) ∨ (w = 0 ∧ (v < -9999 ∨ 9999 < v))) := fun z => z.elim (fun z => z.elim b49 b54) (fun z => by first | exact absurd z.1 b58 | exact z.2.elim b66 (Int32.not_lt.mpr b74))
                          refine z_aload_n dX11_enter_80 rfl ?_
                          refine z_getR (j := 10) (r := 113) kX11 lf_X11_76 (by decide) rfl dX11_enter_81 k0_0 s0_0 r0_0_10 (by decide) ?_
                          refine z_getR (j := 0) (r := 114) kX8 lf_X11_245 (by decide) rfl dX11_enter_84 k0_113 s0_113 r0_113_0 (by decide) ?_
                          refine z_iload_n dX11_enter_87 rfl ?_
                          refine z_aaldN (j := h) (r := bk) rfl hh dX11_enter_88 k0_114 s0_114 (by decide) ebk (zBook_l0 hbk) ?_
                          refine z_astore dX11_enter_89 (by decide) rfl rfl ?_
                          refine z_aload dX11_enter_91 rfl ?_
                          refine z_iV0 (c_X0_isMissing g l hbk) mw_X0_isMissing lm_X11_254 mi_X0_isMissing mv_X0_isMissing kX0 (by decide) (Nat.le_of_ble_eq_true rfl) zle (zBook_k0 hbk) (zBook_s0 hbk) dX11_enter_93 (fun r93 M93 q93 => ?_)
                          obtain ⟨qm93, qr93⟩ := q93
                          obtain rfl := qm93.symm
                          obtain ⟨c93, rfl⟩ | ⟨c93, rfl⟩ := qr93
                          · have hb : ¬ A.bo h = true := (bSz_m hln.1).mp (hB.1.symm.trans c93)
                            refine z_if_eq (tgt := 102) dX11_enter_96 (by decide) (fun b96 => ?_) (fun b96 => ?_)
                            · exact absurd b96 (by decide)
                            · refine z_bipush (v := (-11)) dX11_enter_99 (by decide) ?_
                              refine z_iret dX11_enter_101 rfl zle ?_
                              exact zStp.of C (by unfold sEnter; rw [if_neg n1, if_neg n2, aIx_in hh (by omega), if_neg hb])
                          · have hb : A.bo h = true := Classical.byContradiction (fun z => c93 (hB.1.trans ((bSz_m hln.1).mpr z)))
                            have hl : M bk 2 = nI (A.ln h) := hB.1.trans (if_pos hb)
                            refine z_if_eq (tgt := 102) dX11_enter_96 (by decide) (fun b96 => ?_) (fun b96 => ?_)
                            · refine z_aload dX11_enter_102 rfl ?_
                              refine z_iload_n dX11_enter_104 rfl ?_
                              refine z_iV1 (c_X0_hasLine g l hbk) mw_X0_hasLine lm_X11_258 mi_X0_hasLine mv_X0_hasLine kX0 (by decide) (Nat.le_of_ble_eq_true rfl) zle (zBook_k0 hbk) (zBook_s0 hbk) dX11_enter_105 (fun r105 M105 q105 => ?_)
                              obtain ⟨qm105, qr105⟩ := q105
                              obtain rfl := qm105.symm
                              obtain ⟨c105, rfl⟩ | ⟨c105, rfl⟩ := qr105
                              · rw [hl] at c105
                                obtain ⟨j, hj, rfl⟩ := (zInD y (n := A.ln h) (by omega)).resolve_right (fun z => z c105)
                                have hj10 : j < 10 := by omega
                                refine z_if_ne (tgt := 114) dX11_enter_108 (by decide) (fun b108 => ?_) (fun b108 => ?_)
                                · refine z_aload dX11_enter_114 rfl ?_
                                  refine z_getR (j := 0) (r := (bk + 1)) kX0 lf_X11_261 (by decide) rfl dX11_enter_116 (zBook_k0 hbk) (zBook_s0 hbk) (zBook_r0 hbk) (zBook_l1 hbk) ?_
                                  refine z_iload_n dX11_enter_119 rfl ?_
                                  refine z_iload_n dX11_enter_120 rfl ?_
                                  refine z_iastN (j := j) rfl hj10 dX11_enter_121 (zBook_k1 hbk) (zBook_s1 hbk) ?_
                                  refine z_aload dX11_enter_122 rfl ?_
                                  refine z_getR (j := 1) (r := (bk + 2)) kX0 lf_X11_264 (by decide) rfl dX11_enter_124 (zBook_k0 hbk) (zBook_s0 hbk) (zBook_r1 hbk) (zBook_l2 hbk) ?_
                                  refine z_iload_n dX11_enter_127 rfl ?_
                                  refine z_iload dX11_enter_128 rfl ?_
                                  refine z_iastN (j := j) rfl hj10 dX11_enter_130 (zBook_k2 hbk) (zBook_s2 hbk) ?_
                                  refine z_iconst (v := 1) dX11_enter_131 (by decide) ?_
                                  refine z_iret dX11_enter_132 rfl zle ?_
                                  have C1 := C.putB (M' := z_up (z_up M (bk + 1) j w) (bk + 2) j v) hh (o := true) (n := A.ln h) (f := upd (A.so h) j w) (v := upd (A.va h) j v) (by rw [← ebk2, z_up_n _ _ _ (by omega), z_up_n _ _ _ (by omega)]; exact hl) (fun k hk => by
                                    rw [← ebk2, z_up_s, z_up_n _ _ _ (by omega), z_up_s, z_up_n _ _ _ (by omega)]
                                    by_cases e : k = j
                                    · rw [e]; exact ⟨(upd_s _ _ _).trans (upd_s _ _ _).symm, (upd_s _ _ _).trans (upd_s _ _ _).symm⟩
                                    · exact ⟨(upd_n _ _ e).trans ((hB.2 k hk).1.trans (upd_n _ _ e).symm), (upd_n _ _ e).trans ((hB.2 k hk).2.trans (upd_n _ _ e).symm)⟩) (fun k a => by rw [z_up_n _ _ _ (by omega), z_up_n _ _ _ (by omega)])
                                  exact zStp.mk C1.1 C1.2 (by unfold sEnter; rw [if_neg n1, if_neg n2, aIx_in hh (by omega), if_pos hb, aIx_in hj (by omega)]) rfl
                                · exact absurd b108 (by decide)
                              · have hy : ¬ (0 ≤ y ∧ y < nI (A.ln h)) := by rw [← hl]; exact c105
                                refine z_if_ne (tgt := 114) dX11_enter_108 (by decide) (fun b108 => ?_) (fun b108 => ?_)
                                · exact absurd b108 (by decide)
                                · refine z_bipush (v := (-12)) dX11_enter_111 (by decide) ?_
                                  refine z_iret dX11_enter_113 rfl zle ?_
                                  exact zStp.of C (by unfold sEnter; rw [if_neg n1, if_neg n2, aIx_in hh (by omega), if_pos hb, aIx_out hy])
                            · exact absurd b96 (by decide)
                        · refine z_iload dX11_enter_61 rfl ?_
                          refine z_sipush (v := (-9999)) dX11_enter_63 (by decide) ?_
                          refine z_icmp_lt (tgt := 77) dX11_enter_66 (by decide) (fun b66 => ?_) (fun b66 => ?_)
                          · refine z_bipush (v := (-3)) dX11_enter_77 (by decide) ?_
                            refine z_iret dX11_enter_79 rfl zle ?_
                            exact zStp.of C ((if_neg n1).trans (if_pos (by first | exact Or.inl (Or.inl b49) | exact Or.inl (Or.inr b54) | exact Or.inr ⟨b58, Or.inl b66⟩ | exact Or.inr ⟨b58, Or.inr (Int32.not_le.mp b74)⟩)))
                          · refine z_iload dX11_enter_69 rfl ?_
                            refine z_sipush (v := 9999) dX11_enter_71 (by decide) ?_
                            refine z_icmp_le (tgt := 80) dX11_enter_74 (by decide) (fun b74 => ?_) (fun b74 => ?_)
                            · have n2 : ¬ ((w < 0 ∨ 3 < w) ∨ (w = 0 ∧ (v < -9999 ∨ 9999 < v))) := fun z => z.elim (fun z => z.elim b49 b54) (fun z => by first | exact absurd z.1 b58 | exact z.2.elim b66 (Int32.not_lt.mpr b74))
                              refine z_aload_n dX11_enter_80 rfl ?_
                              refine z_getR (j := 10) (r := 113) kX11 lf_X11_76 (by decide) rfl dX11_enter_81 k0_0 s0_0 r0_0_10 (by decide) ?_
                              refine z_getR (j := 0) (r := 114) kX8 lf_X11_245 (by decide) rfl dX11_enter_84 k0_113 s0_113 r0_113_0 (by decide) ?_
                              refine z_iload_n dX11_enter_87 rfl ?_
                              refine z_aaldN (j := h) (r := bk) rfl hh dX11_enter_88 k0_114 s0_114 (by decide) ebk (zBook_l0 hbk) ?_
                              refine z_astore dX11_enter_89 (by decide) rfl rfl ?_
                              refine z_aload dX11_enter_91 rfl ?_
                              refine z_iV0 (c_X0_isMissing g l hbk) mw_X0_isMissing lm_X11_254 mi_X0_isMissing mv_X0_isMissing kX0 (by decide) (Nat.le_of_ble_eq_true rfl) zle (zBook_k0 hbk) (zBook_s0 hbk) dX11_enter_93 (fun r93 M93 q93 => ?_)
                              obtain ⟨qm93, qr93⟩ := q93
                              obtain rfl := qm93.symm
                              obtain ⟨c93, rfl⟩ | ⟨c93, rfl⟩ := qr93
                              · have hb : ¬ A.bo h = true := (bSz_m hln.1).mp (hB.1.symm.trans c93)
                                refine z_if_eq (tgt := 102) dX11_enter_96 (by decide) (fun b96 => ?_) (fun b96 => ?_)
                                · exact absurd b96 (by decide)
                                · refine z_bipush (v := (-11)) dX11_enter_99 (by decide) ?_
                                  refine z_iret dX11_enter_101 rfl zle ?_
                                  exact zStp.of C (by unfold sEnter; rw [if_neg n1, if_neg n2, aIx_in hh (by omega), if_neg hb])
                              · have hb : A.bo h = true := Classical.byContradiction (fun z => c93 (hB.1.trans ((bSz_m hln.1).mpr z)))
                                have hl : M bk 2 = nI (A.ln h) := hB.1.trans (if_pos hb)
                                refine z_if_eq (tgt := 102) dX11_enter_96 (by decide) (fun b96 => ?_) (fun b96 => ?_)
                                · refine z_aload dX11_enter_102 rfl ?_
                                  refine z_iload_n dX11_enter_104 rfl ?_
                                  refine z_iV1 (c_X0_hasLine g l hbk) mw_X0_hasLine lm_X11_258 mi_X0_hasLine mv_X0_hasLine kX0 (by decide) (Nat.le_of_ble_eq_true rfl) zle (zBook_k0 hbk) (zBook_s0 hbk) dX11_enter_105 (fun r105 M105 q105 => ?_)
                                  obtain ⟨qm105, qr105⟩ := q105
                                  obtain rfl := qm105.symm
                                  obtain ⟨c105, rfl⟩ | ⟨c105, rfl⟩ := qr105
                                  · rw [hl] at c105
                                    obtain ⟨j, hj, rfl⟩ := (zInD y (n := A.ln h) (by omega)).resolve_right (fun z => z c105)
                                    have hj10 : j < 10 := by omega
                                    refine z_if_ne (tgt := 114) dX11_enter_108 (by decide) (fun b108 => ?_) (fun b108 => ?_)
                                    · refine z_aload dX11_enter_114 rfl ?_
                                      refine z_getR (j := 0) (r := (bk + 1)) kX0 lf_X11_261 (by decide) rfl dX11_enter_116 (zBook_k0 hbk) (zBook_s0 hbk) (zBook_r0 hbk) (zBook_l1 hbk) ?_
                                      refine z_iload_n dX11_enter_119 rfl ?_
                                      refine z_iload_n dX11_enter_120 rfl ?_
                                      refine z_iastN (j := j) rfl hj10 dX11_enter_121 (zBook_k1 hbk) (zBook_s1 hbk) ?_
                                      refine z_aload dX11_enter_122 rfl ?_
                                      refine z_getR (j := 1) (r := (bk + 2)) kX0 lf_X11_264 (by decide) rfl dX11_enter_124 (zBook_k0 hbk) (zBook_s0 hbk) (zBook_r1 hbk) (zBook_l2 hbk) ?_
                                      refine z_iload_n dX11_enter_127 rfl ?_
                                      refine z_iload dX11_enter_128 rfl ?_
                                      refine z_iastN (j := j) rfl hj10 dX11_enter_130 (zBook_k2 hbk) (zBook_s2 hbk) ?_
                                      refine z_iconst (v := 1) dX11_enter_131 (by decide) ?_
                                      refine z_iret dX11_enter_132 rfl zle ?_
                                      have C1 := C.putB (M' := z_up (z_up M (bk + 1) j w) (bk + 2) j v) hh (o := true) (n := A.ln h) (f := upd (A.so h) j w) (v := upd (A.va h) j v) (by rw [← ebk2, z_up_n _ _ _ (by omega), z_up_n _ _ _ (by omega)]; exact hl) (fun k hk => by
                                        rw [← ebk2, z_up_s, z_up_n _ _ _ (by omega), z_up_s, z_up_n _ _ _ (by omega)]
                                        by_cases e : k = j
                                        · rw [e]; exact ⟨(upd_s _ _ _).trans (upd_s _ _ _).symm, (upd_s _ _ _).trans (upd_s _ _ _).symm⟩
                                        · exact ⟨(upd_n _ _ e).trans ((hB.2 k hk).1.trans (upd_n _ _ e).symm), (upd_n _ _ e).trans ((hB.2 k hk).2.trans (upd_n _ _ e).symm)⟩) (fun k a => by rw [z_up_n _ _ _ (by omega), z_up_n _ _ _ (by omega)])
                                      exact zStp.mk C1.1 C1.2 (by unfold sEnter; rw [if_neg n1, if_neg n2, aIx_in hh (by omega), if_pos hb, aIx_in hj (by omega)]) rfl
                                    · exact absurd b108 (by decide)
                                  · have hy : ¬ (0 ≤ y ∧ y < nI (A.ln h)) := by rw [← hl]; exact c105
                                    refine z_if_ne (tgt := 114) dX11_enter_108 (by decide) (fun b108 => ?_) (fun b108 => ?_)
                                    · exact absurd b108 (by decide)
                                    · refine z_bipush (v := (-12)) dX11_enter_111 (by decide) ?_
                                      refine z_iret dX11_enter_113 rfl zle ?_
                                      exact zStp.of C (by unfold sEnter; rw [if_neg n1, if_neg n2, aIx_in hh (by omega), if_pos hb, aIx_out hy])
                                · exact absurd b96 (by decide)
                            · refine z_bipush (v := (-3)) dX11_enter_77 (by decide) ?_
                              refine z_iret dX11_enter_79 rfl zle ?_
                              exact zStp.of C ((if_neg n1).trans (if_pos (by first | exact Or.inl (Or.inl b49) | exact Or.inl (Or.inr b54) | exact Or.inr ⟨b58, Or.inl b66⟩ | exact Or.inr ⟨b58, Or.inr (Int32.not_le.mp b74)⟩)))
                  · exact absurd b42 (by decide)
                · refine z_if_ne (tgt := 48) dX11_enter_42 (by decide) (fun b42 => ?_) (fun b42 => ?_)
                  · exact absurd b42 (by decide)
                  · refine z_bipush (v := (-2)) dX11_enter_45 (by decide) ?_
                    refine z_iret dX11_enter_47 rfl zle ?_
                    exact zStp.of C (if_pos (by first | exact Or.inr (Or.inr ⟨b30, c39⟩) | exact Or.inr (Or.inl ⟨b13, fun z => c22 ⟨z.1, by rw [C.road.2.1]; exact z.2⟩⟩)))
          · refine z_if_eq (tgt := 45) dX11_enter_25 (by decide) (fun b25 => ?_) (fun b25 => ?_)
            · refine z_bipush (v := (-2)) dX11_enter_45 (by decide) ?_
              refine z_iret dX11_enter_47 rfl zle ?_
              exact zStp.of C (if_pos (by first | exact Or.inr (Or.inr ⟨b30, c39⟩) | exact Or.inr (Or.inl ⟨b13, fun z => c22 ⟨z.1, by rw [C.road.2.1]; exact z.2⟩⟩)))
            · exact absurd b25 (by decide)
    · exact absurd (zInP (n := 4) hh (by omega)) c5
  · refine zMet.of (by decide) (Nat.le_of_ble_eq_true rfl) ?_
    refine z_aload_n dX11_enter_0 rfl ?_
    refine z_getR (j := 10) (r := 113) kX11 lf_X11_76 (by decide) rfl dX11_enter_1 k0_0 s0_0 r0_0_10 (by decide) ?_
    refine z_iload_n dX11_enter_4 rfl ?_
    refine z_iV1 (c_X8_hasPlace g l) mw_X8_hasPlace lm_X11_242 mi_X8_hasPlace mv_X8_hasPlace kX8 (by decide) (Nat.le_of_ble_eq_true rfl) zle k0_113 s0_113 dX11_enter_5 (fun r5 M5 q5 => ?_)
    obtain ⟨qm5, qr5⟩ := q5
    obtain rfl := qm5.symm
    obtain ⟨c5, rfl⟩ | ⟨c5, rfl⟩ := qr5
    · exact absurd c5 hx
    · refine z_if_eq (tgt := 45) dX11_enter_8 (by decide) (fun b8 => ?_) (fun b8 => ?_)
      · refine z_bipush (v := (-2)) dX11_enter_45 (by decide) ?_
        refine z_iret dX11_enter_47 rfl zle ?_
        exact zStp.of C (if_pos (Or.inl hx))
      · exact absurd b8 (by decide)

set_option maxRecDepth 100000 in
set_option maxHeartbeats 4000000 in
theorem c_X11_read (g : zG) (l : Launch) {M : zM} {A : aSt} (ok : aOK A) (C : RelC M A) {x y w : Int32} : zMet g l yX11_read cX11_read 5 (some .int) 1 0 0 [.ref 0, .int x, .int y, .int w] S0 M (zQi (fun r' M' => zAns M A (aRead A x y w) r' M')) := by
  have n8 : A.n ≤ 8 := ok.s.1.1
  have r4 : A.r ≤ 4 := ok.s.1.2.1
  have i6 : A.i ≤ 6 := ok.s.1.2.2.1
  have R : zDR M M 18 A.s A.n A.r A.i := ⟨C.day, fun _ _ => rfl⟩
  rcases zInD x (show 4 < 1000 by omega) with ⟨h, hh, rfl⟩ | hx
  · obtain ⟨bk, hbk, ebk, ebk2⟩ := zBookAt hh
    have hB := C.book h hh
    have hln := ok.ln h hh
    rw [← ebk2] at hB
    refine zMet.of (by decide) (Nat.le_of_ble_eq_true rfl) ?_
    refine z_aload_n dX11_read_0 rfl ?_
    refine z_getR (j := 10) (r := 113) kX11 lf_X11_76 (by decide) rfl dX11_read_1 k0_0 s0_0 r0_0_10 (by decide) ?_
    refine z_iload_n dX11_read_4 rfl ?_
    refine z_iV1 (c_X8_hasPlace g l) mw_X8_hasPlace lm_X11_242 mi_X8_hasPlace mv_X8_hasPlace kX8 (by decide) (Nat.le_of_ble_eq_true rfl) zle k0_113 s0_113 dX11_read_5 (fun r5 M5 q5 => ?_)
    obtain ⟨qm5, qr5⟩ := q5
    obtain rfl := qm5.symm
    obtain ⟨c5, rfl⟩ | ⟨c5, rfl⟩ := qr5
    · refine z_if_ne (tgt := 14) dX11_read_8 (by decide) (fun b8 => ?_) (fun b8 => ?_)
      · refine z_iload_n dX11_read_14 rfl ?_
        refine z_if_lt (tgt := 23) dX11_read_15 (by decide) (fun b15 => ?_) (fun b15 => ?_)
        · refine z_bipush (v := (-3)) dX11_read_23 (by decide) ?_
          refine z_iret dX11_read_25 rfl zle ?_
          exact zAns.of C (by unfold aRead; rw [aIx_in hh (by omega)]; exact (if_pos (by first | exact Or.inl b15 | exact Or.inr (Int32.not_le.mp b20))).symm)
        · refine z_iload_n dX11_read_18 rfl ?_
          refine z_iconst (v := 2) dX11_read_19 (by decide) ?_
          refine z_icmp_le (tgt := 26) dX11_read_20 (by decide) (fun b20 => ?_) (fun b20 => ?_)
          · have bb : ¬ (w < 0 ∨ 2 < w) := fun z => z.elim b15 (Int32.not_lt.mpr b20)
            refine z_aload_n dX11_read_26 rfl ?_
            refine z_getR (j := 10) (r := 113) kX11 lf_X11_76 (by decide) rfl dX11_read_27 k0_0 s0_0 r0_0_10 (by decide) ?_
            refine z_getR (j := 0) (r := 114) kX8 lf_X11_245 (by decide) rfl dX11_read_30 k0_113 s0_113 r0_113_0 (by decide) ?_
            refine z_iload_n dX11_read_33 rfl ?_
            refine z_aaldN (j := h) (r := bk) rfl hh dX11_read_34 k0_114 s0_114 (by decide) ebk (zBook_l0 hbk) ?_
            refine z_astore dX11_read_35 (by decide) rfl rfl ?_
            refine z_aload dX11_read_37 rfl ?_
            refine z_iV0 (c_X0_isMissing g l hbk) mw_X0_isMissing lm_X11_254 mi_X0_isMissing mv_X0_isMissing kX0 (by decide) (Nat.le_of_ble_eq_true rfl) zle (zBook_k0 hbk) (zBook_s0 hbk) dX11_read_39 (fun r39 M39 q39 => ?_)
            obtain ⟨qm39, qr39⟩ := q39
            obtain rfl := qm39.symm
            obtain ⟨c39, rfl⟩ | ⟨c39, rfl⟩ := qr39
            · have hb : ¬ A.bo h = true := (bSz_m hln.1).mp (hB.1.symm.trans c39)
              refine z_if_eq (tgt := 48) dX11_read_42 (by decide) (fun b42 => ?_) (fun b42 => ?_)
              · exact absurd b42 (by decide)
              · refine z_bipush (v := (-11)) dX11_read_45 (by decide) ?_
                refine z_iret dX11_read_47 rfl zle ?_
                exact zAns.of C (by unfold aRead; rw [aIx_in hh (by omega), if_neg bb, if_neg hb])
            · have hb : A.bo h = true := Classical.byContradiction (fun z => c39 (hB.1.trans ((bSz_m hln.1).mpr z)))
              have hl : M bk 2 = nI (A.ln h) := hB.1.trans (if_pos hb)
              refine z_if_eq (tgt := 48) dX11_read_42 (by decide) (fun b42 => ?_) (fun b42 => ?_)
              · refine z_aload dX11_read_48 rfl ?_
                refine z_iload_n dX11_read_50 rfl ?_
                refine z_iV1 (c_X0_hasLine g l hbk) mw_X0_hasLine lm_X11_258 mi_X0_hasLine mv_X0_hasLine kX0 (by decide) (Nat.le_of_ble_eq_true rfl) zle (zBook_k0 hbk) (zBook_s0 hbk) dX11_read_51 (fun r51 M51 q51 => ?_)
                obtain ⟨qm51, qr51⟩ := q51
                obtain rfl := qm51.symm
                obtain ⟨c51, rfl⟩ | ⟨c51, rfl⟩ := qr51
                · rw [hl] at c51
                  obtain ⟨j, hj, rfl⟩ := (zInD y (n := A.ln h) (by omega)).resolve_right (fun z => z c51)
                  have hj10 : j < 10 := by omega
                  refine z_if_ne (tgt := 60) dX11_read_54 (by decide) (fun b54 => ?_) (fun b54 => ?_)
                  · refine z_aload dX11_read_60 rfl ?_
                    refine z_getR (j := 0) (r := (bk + 1)) kX0 lf_X11_261 (by decide) rfl dX11_read_62 (zBook_k0 hbk) (zBook_s0 hbk) (zBook_r0 hbk) (zBook_l1 hbk) ?_
                    refine z_iload_n dX11_read_65 rfl ?_
                    refine z_ialdV (j := j) rfl hj10 (hB.2 j hj10).1 dX11_read_66 (zBook_k1 hbk) (zBook_s1 hbk) ?_
                    refine z_iconst (v := 3) dX11_read_67 (by decide) ?_
                    refine z_icmp_ne (tgt := 74) dX11_read_68 (by decide) (fun b68 => ?_) (fun b68 => ?_)
                    · refine z_aload dX11_read_74 rfl ?_
                      refine z_getR (j := 0) (r := (bk + 1)) kX0 lf_X11_261 (by decide) rfl dX11_read_76 (zBook_k0 hbk) (zBook_s0 hbk) (zBook_r0 hbk) (zBook_l1 hbk) ?_
                      refine z_iload_n dX11_read_79 rfl ?_
                      refine z_ialdV (j := j) rfl hj10 (hB.2 j hj10).1 dX11_read_80 (zBook_k1 hbk) (zBook_s1 hbk) ?_
                      refine z_iload_n dX11_read_81 rfl ?_
                      refine z_icmp_eq (tgt := 88) dX11_read_82 (by decide) (fun b82 => ?_) (fun b82 => ?_)
                      · refine z_iload_n dX11_read_88 rfl ?_
                        refine z_if_ne (tgt := 106) dX11_read_89 (by decide) (fun b89 => ?_) (fun b89 => ?_)
                        · refine z_aload dX11_read_106 rfl ?_
                          refine z_getR (j := 1) (r := (bk + 2)) kX0 lf_X11_264 (by decide) rfl dX11_read_108 (zBook_k0 hbk) (zBook_s0 hbk) (zBook_r1 hbk) (zBook_l2 hbk) ?_
                          refine z_iload_n dX11_read_111 rfl ?_
                          refine z_ialdV (j := j) rfl hj10 (hB.2 j hj10).2 dX11_read_112 (zBook_k2 hbk) (zBook_s2 hbk) ?_
                          refine z_iret dX11_read_113 rfl zle ?_
                          first
                            | exact zAns.of C (by unfold aRead; rw [aIx_in hh (by omega), if_neg bb, if_pos hb, aIx_in hj (by omega)]; exact ((if_neg b68).trans ((if_pos b82).trans (if_pos b89))).symm)
                            | exact zAns.of C (by unfold aRead; rw [aIx_in hh (by omega), if_neg bb, if_pos hb, aIx_in hj (by omega)]; exact ((if_neg b68).trans ((if_pos b82).trans (if_neg b89))).symm)
                        · refine z_aload dX11_read_92 rfl ?_
                          refine z_getR (j := 1) (r := (bk + 2)) kX0 lf_X11_264 (by decide) rfl dX11_read_94 (zBook_k0 hbk) (zBook_s0 hbk) (zBook_r1 hbk) (zBook_l2 hbk) ?_
                          refine z_iload_n dX11_read_97 rfl ?_
                          refine z_ialdV (j := j) rfl hj10 (hB.2 j hj10).2 dX11_read_98 (zBook_k2 hbk) (zBook_s2 hbk) ?_
                          refine z_ldcw lc_X11_267 dX11_read_99 ?_
                          refine z_iadd dX11_read_102 ?_
                          refine z_goto (tgt := 113) dX11_read_103 (by decide) ?_
                          refine z_iret dX11_read_113 rfl zle ?_
                          first
                            | exact zAns.of C (by unfold aRead; rw [aIx_in hh (by omega), if_neg bb, if_pos hb, aIx_in hj (by omega)]; exact ((if_neg b68).trans ((if_pos b82).trans (if_pos b89))).symm)
                            | exact zAns.of C (by unfold aRead; rw [aIx_in hh (by omega), if_neg bb, if_pos hb, aIx_in hj (by omega)]; exact ((if_neg b68).trans ((if_pos b82).trans (if_neg b89))).symm)
                      · refine z_bipush (v := (-14)) dX11_read_85 (by decide) ?_
                        refine z_iret dX11_read_87 rfl zle ?_
                        exact zAns.of C (by unfold aRead; rw [aIx_in hh (by omega), if_neg bb, if_pos hb, aIx_in hj (by omega)]; exact ((if_neg b68).trans (if_neg b82)).symm)
                    · refine z_bipush (v := (-13)) dX11_read_71 (by decide) ?_
                      refine z_iret dX11_read_73 rfl zle ?_
                      exact zAns.of C (by unfold aRead; rw [aIx_in hh (by omega), if_neg bb, if_pos hb, aIx_in hj (by omega)]; exact (if_pos b68).symm)
                  · exact absurd b54 (by decide)
                · have hy : ¬ (0 ≤ y ∧ y < nI (A.ln h)) := by rw [← hl]; exact c51
                  refine z_if_ne (tgt := 60) dX11_read_54 (by decide) (fun b54 => ?_) (fun b54 => ?_)
                  · exact absurd b54 (by decide)
                  · refine z_bipush (v := (-12)) dX11_read_57 (by decide) ?_
                    refine z_iret dX11_read_59 rfl zle ?_
                    exact zAns.of C (by unfold aRead; rw [aIx_in hh (by omega), if_neg bb, if_pos hb, aIx_out hy])
              · exact absurd b42 (by decide)
          · refine z_bipush (v := (-3)) dX11_read_23 (by decide) ?_
            refine z_iret dX11_read_25 rfl zle ?_
            exact zAns.of C (by unfold aRead; rw [aIx_in hh (by omega)]; exact (if_pos (by first | exact Or.inl b15 | exact Or.inr (Int32.not_le.mp b20))).symm)
      · exact absurd b8 (by decide)
    · exact absurd (zInP (n := 4) hh (by omega)) c5
  · refine zMet.of (by decide) (Nat.le_of_ble_eq_true rfl) ?_
    refine z_aload_n dX11_read_0 rfl ?_
    refine z_getR (j := 10) (r := 113) kX11 lf_X11_76 (by decide) rfl dX11_read_1 k0_0 s0_0 r0_0_10 (by decide) ?_
    refine z_iload_n dX11_read_4 rfl ?_
    refine z_iV1 (c_X8_hasPlace g l) mw_X8_hasPlace lm_X11_242 mi_X8_hasPlace mv_X8_hasPlace kX8 (by decide) (Nat.le_of_ble_eq_true rfl) zle k0_113 s0_113 dX11_read_5 (fun r5 M5 q5 => ?_)
    obtain ⟨qm5, qr5⟩ := q5
    obtain rfl := qm5.symm
    obtain ⟨c5, rfl⟩ | ⟨c5, rfl⟩ := qr5
    · exact absurd c5 hx
    · refine z_if_ne (tgt := 14) dX11_read_8 (by decide) (fun b8 => ?_) (fun b8 => ?_)
      · exact absurd b8 (by decide)
      · refine z_bipush (v := (-2)) dX11_read_11 (by decide) ?_
        refine z_iret dX11_read_13 rfl zle ?_
        exact zAns.of C (by unfold aRead; rw [aIx_out hx])

set_option maxRecDepth 100000 in
set_option maxHeartbeats 4000000 in
theorem c_X11_weigh (g : zG) (l : Launch) {M : zM} {A : aSt} (ok : aOK A) (C : RelC M A) {x w : Int32} : zMet g l yX11_weigh cX11_weigh 4 (some .int) 4 0 0 [.ref 0, .int x, .int w] S0 M (zQi (fun r' M' => zAns M A (aWeigh A x w) r' M')) := by
  have n8 : A.n ≤ 8 := ok.s.1.1
  have r4 : A.r ≤ 4 := ok.s.1.2.1
  have i6 : A.i ≤ 6 := ok.s.1.2.2.1
  have R : zDR M M 18 A.s A.n A.r A.i := ⟨C.day, fun _ _ => rfl⟩
  rcases zInD x (show 4 < 1000 by omega) with ⟨h, hh, rfl⟩ | hx
  · obtain ⟨bk, hbk, ebk, ebk2⟩ := zBookAt hh
    have hB := C.book h hh
    have hln := ok.ln h hh
    rw [← ebk2] at hB
    refine zMet.of (by decide) (Nat.le_of_ble_eq_true rfl) ?_
    refine z_aload_n dX11_weigh_0 rfl ?_
    refine z_getR (j := 10) (r := 113) kX11 lf_X11_76 (by decide) rfl dX11_weigh_1 k0_0 s0_0 r0_0_10 (by decide) ?_
    refine z_iload_n dX11_weigh_4 rfl ?_
    refine z_iV1 (c_X8_hasPlace g l) mw_X8_hasPlace lm_X11_242 mi_X8_hasPlace mv_X8_hasPlace kX8 (by decide) (Nat.le_of_ble_eq_true rfl) zle k0_113 s0_113 dX11_weigh_5 (fun r5 M5 q5 => ?_)
    obtain ⟨qm5, qr5⟩ := q5
    obtain rfl := qm5.symm
    obtain ⟨c5, rfl⟩ | ⟨c5, rfl⟩ := qr5
    · refine z_if_ne (tgt := 14) dX11_weigh_8 (by decide) (fun b8 => ?_) (fun b8 => ?_)
      · refine z_iload_n dX11_weigh_14 rfl ?_
        refine z_if_lt (tgt := 23) dX11_weigh_15 (by decide) (fun b15 => ?_) (fun b15 => ?_)
        · refine z_bipush (v := (-3)) dX11_weigh_23 (by decide) ?_
          refine z_iret dX11_weigh_25 rfl zle ?_
          exact zAns.of C (by unfold aWeigh; rw [aIx_in hh (by omega)]; exact (if_pos (by first | exact Or.inl b15 | exact Or.inr (Int32.not_le.mp b20))).symm)
        · refine z_iload_n dX11_weigh_18 rfl ?_
          refine z_iconst (v := 1) dX11_weigh_19 (by decide) ?_
          refine z_icmp_le (tgt := 26) dX11_weigh_20 (by decide) (fun b20 => ?_) (fun b20 => ?_)
          · have bb : ¬ (w < 0 ∨ 1 < w) := fun z => z.elim b15 (Int32.not_lt.mpr b20)
            refine z_aload_n dX11_weigh_26 rfl ?_
            refine z_getR (j := 10) (r := 113) kX11 lf_X11_76 (by decide) rfl dX11_weigh_27 k0_0 s0_0 r0_0_10 (by decide) ?_
            refine z_getR (j := 0) (r := 114) kX8 lf_X11_245 (by decide) rfl dX11_weigh_30 k0_113 s0_113 r0_113_0 (by decide) ?_
            refine z_iload_n dX11_weigh_33 rfl ?_
            refine z_aaldN (j := h) (r := bk) rfl hh dX11_weigh_34 k0_114 s0_114 (by decide) ebk (zBook_l0 hbk) ?_
            refine z_iV0 (c_X0_isMissing g l hbk) mw_X0_isMissing lm_X11_254 mi_X0_isMissing mv_X0_isMissing kX0 (by decide) (Nat.le_of_ble_eq_true rfl) zle (zBook_k0 hbk) (zBook_s0 hbk) dX11_weigh_35 (fun r35 M35 q35 => ?_)
            obtain ⟨qm35, qr35⟩ := q35
            obtain rfl := qm35.symm
            obtain ⟨c35, rfl⟩ | ⟨c35, rfl⟩ := qr35
            · have hb : ¬ A.bo h = true := (bSz_m hln.1).mp (hB.1.symm.trans c35)
              refine z_if_eq (tgt := 44) dX11_weigh_38 (by decide) (fun b38 => ?_) (fun b38 => ?_)
              · exact absurd b38 (by decide)
              · refine z_bipush (v := (-11)) dX11_weigh_41 (by decide) ?_
                refine z_iret dX11_weigh_43 rfl zle ?_
                exact zAns.of C (by unfold aWeigh; rw [aIx_in hh (by omega), if_neg bb, if_neg hb])
            · have hb : A.bo h = true := Classical.byContradiction (fun z => c35 (hB.1.trans ((bSz_m hln.1).mpr z)))
              have hl : M bk 2 = nI (A.ln h) := hB.1.trans (if_pos hb)
              refine z_if_eq (tgt := 44) dX11_weigh_38 (by decide) (fun b38 => ?_) (fun b38 => ?_)
              · refine z_aload_n dX11_weigh_44 rfl ?_
                refine z_getR (j := 10) (r := 113) kX11 lf_X11_76 (by decide) rfl dX11_weigh_45 k0_0 s0_0 r0_0_10 (by decide) ?_
                refine z_iload_n dX11_weigh_48 rfl ?_
                refine z_iV1 (c_X8_reachFrom g l (aBk_len ok C)) mw_X8_reachFrom lm_X11_268 mi_X8_reachFrom mv_X8_reachFrom kX8 (by decide) (Nat.le_of_ble_eq_true rfl) zle k0_113 s0_113 dX11_weigh_49 (fun r49 M49 q49 => ?_)
                obtain ⟨qr49, qm49⟩ := q49
                obtain rfl := qr49.symm
                obtain rfl := qm49.symm
                refine z_istore_n dX11_weigh_52 (by decide) rfl rfl ?_
                refine z_iload_n dX11_weigh_53 rfl ?_
                refine z_if_ne (tgt := 68) dX11_weigh_54 (by decide) (fun b54 => ?_) (fun b54 => ?_)
                · refine z_iload_n dX11_weigh_68 rfl ?_
                  refine z_iS1 (c_J6_bitCount_0f7a4 g l) mw_J6_bitCount_0f7a4 lm_X11_216 ms_J6_bitCount_0f7a4 (by decide) (Nat.le_of_ble_eq_true rfl) zle dX11_weigh_69 (fun r69 M69 q69 => ?_)
                  obtain ⟨qr69, qm69⟩ := q69
                  obtain rfl := qr69.symm
                  obtain rfl := qm69.symm
                  refine z_iret dX11_weigh_72 rfl zle ?_
                  have hr := fReach_cg (aBk_cg ok C) (1 <<< (nI h &&& 31)) 3
                  first
                    | exact zAns.of C (by unfold aWeigh aReach; rw [aIx_in hh (by omega), if_neg bb, if_pos hb, if_pos b54, hr]; exact fWeigh_cg (aBk_cg ok C) _ 4 (Nat.le_refl _))
                    | exact zAns.of C (by unfold aWeigh aReach; rw [aIx_in hh (by omega), if_neg bb, if_pos hb, if_neg b54, hr])
                · refine z_aload_n dX11_weigh_57 rfl ?_
                  refine z_getR (j := 10) (r := 113) kX11 lf_X11_76 (by decide) rfl dX11_weigh_58 k0_0 s0_0 r0_0_10 (by decide) ?_
                  refine z_iload_n dX11_weigh_61 rfl ?_
                  refine z_iV1 (c_X8_weightOf g l (aBk_len ok C)) mw_X8_weightOf lm_X11_271 mi_X8_weightOf mv_X8_weightOf kX8 (by decide) (Nat.le_of_ble_eq_true rfl) zle k0_113 s0_113 dX11_weigh_62 (fun r62 M62 q62 => ?_)
                  obtain ⟨qr62, qm62⟩ := q62
                  obtain rfl := qr62.symm
                  obtain rfl := qm62.symm
                  refine z_goto (tgt := 72) dX11_weigh_65 (by decide) ?_
                  refine z_iret dX11_weigh_72 rfl zle ?_
                  have hr := fReach_cg (aBk_cg ok C) (1 <<< (nI h &&& 31)) 3
                  first
                    | exact zAns.of C (by unfold aWeigh aReach; rw [aIx_in hh (by omega), if_neg bb, if_pos hb, if_pos b54, hr]; exact fWeigh_cg (aBk_cg ok C) _ 4 (Nat.le_refl _))
                    | exact zAns.of C (by unfold aWeigh aReach; rw [aIx_in hh (by omega), if_neg bb, if_pos hb, if_neg b54, hr])
              · exact absurd b38 (by decide)
          · refine z_bipush (v := (-3)) dX11_weigh_23 (by decide) ?_
            refine z_iret dX11_weigh_25 rfl zle ?_
            exact zAns.of C (by unfold aWeigh; rw [aIx_in hh (by omega)]; exact (if_pos (by first | exact Or.inl b15 | exact Or.inr (Int32.not_le.mp b20))).symm)
      · exact absurd b8 (by decide)
    · exact absurd (zInP (n := 4) hh (by omega)) c5
  · refine zMet.of (by decide) (Nat.le_of_ble_eq_true rfl) ?_
    refine z_aload_n dX11_weigh_0 rfl ?_
    refine z_getR (j := 10) (r := 113) kX11 lf_X11_76 (by decide) rfl dX11_weigh_1 k0_0 s0_0 r0_0_10 (by decide) ?_
    refine z_iload_n dX11_weigh_4 rfl ?_
    refine z_iV1 (c_X8_hasPlace g l) mw_X8_hasPlace lm_X11_242 mi_X8_hasPlace mv_X8_hasPlace kX8 (by decide) (Nat.le_of_ble_eq_true rfl) zle k0_113 s0_113 dX11_weigh_5 (fun r5 M5 q5 => ?_)
    obtain ⟨qm5, qr5⟩ := q5
    obtain rfl := qm5.symm
    obtain ⟨c5, rfl⟩ | ⟨c5, rfl⟩ := qr5
    · exact absurd c5 hx
    · refine z_if_ne (tgt := 14) dX11_weigh_8 (by decide) (fun b8 => ?_) (fun b8 => ?_)
      · exact absurd b8 (by decide)
      · refine z_bipush (v := (-2)) dX11_weigh_11 (by decide) ?_
        refine z_iret dX11_weigh_13 rfl zle ?_
        exact zAns.of C (by unfold aWeigh; rw [aIx_out hx])

set_option maxRecDepth 100000 in
set_option maxHeartbeats 4000000 in
theorem c_X11_drop (g : zG) (l : Launch) {M : zM} {A : aSt} (ok : aOK A) (C : RelC M A) {x : Int32} : zMet g l yX11_drop cX11_drop 4 (some .int) 1 0 0 [.ref 0, .int x] S0 M (zQi (fun r' M' => zStp M (sDrop A x) r' M')) := by
  have n8 : A.n ≤ 8 := ok.s.1.1
  have r4 : A.r ≤ 4 := ok.s.1.2.1
  have i6 : A.i ≤ 6 := ok.s.1.2.2.1
  have R : zDR M M 18 A.s A.n A.r A.i := ⟨C.day, fun _ _ => rfl⟩
  rcases zInD x (show 4 < 1000 by omega) with ⟨h, hh, rfl⟩ | hx
  · obtain ⟨bk, hbk, ebk, ebk2⟩ := zBookAt hh
    have hB := C.book h hh
    have hln := ok.ln h hh
    rw [← ebk2] at hB
    refine zMet.of (by decide) (Nat.le_of_ble_eq_true rfl) ?_
    refine z_aload_n dX11_drop_0 rfl ?_
    refine z_getR (j := 10) (r := 113) kX11 lf_X11_76 (by decide) rfl dX11_drop_1 k0_0 s0_0 r0_0_10 (by decide) ?_
    refine z_iload_n dX11_drop_4 rfl ?_
    refine z_iV1 (c_X8_hasPlace g l) mw_X8_hasPlace lm_X11_242 mi_X8_hasPlace mv_X8_hasPlace kX8 (by decide) (Nat.le_of_ble_eq_true rfl) zle k0_113 s0_113 dX11_drop_5 (fun r5 M5 q5 => ?_)
    obtain ⟨qm5, qr5⟩ := q5
    obtain rfl := qm5.symm
    obtain ⟨c5, rfl⟩ | ⟨c5, rfl⟩ := qr5
    · refine z_if_ne (tgt := 14) dX11_drop_8 (by decide) (fun b8 => ?_) (fun b8 => ?_)
      · refine z_aload_n dX11_drop_14 rfl ?_
        refine z_getR (j := 10) (r := 113) kX11 lf_X11_76 (by decide) rfl dX11_drop_15 k0_0 s0_0 r0_0_10 (by decide) ?_
        refine z_getR (j := 0) (r := 114) kX8 lf_X11_245 (by decide) rfl dX11_drop_18 k0_113 s0_113 r0_113_0 (by decide) ?_
        refine z_iload_n dX11_drop_21 rfl ?_
        refine z_aaldN (j := h) (r := bk) rfl hh dX11_drop_22 k0_114 s0_114 (by decide) ebk (zBook_l0 hbk) ?_
        refine z_astore_n dX11_drop_23 (by decide) rfl rfl ?_
        refine z_aload_n dX11_drop_24 rfl ?_
        refine z_iV0 (c_X0_isMissing g l hbk) mw_X0_isMissing lm_X11_254 mi_X0_isMissing mv_X0_isMissing kX0 (by decide) (Nat.le_of_ble_eq_true rfl) zle (zBook_k0 hbk) (zBook_s0 hbk) dX11_drop_25 (fun r25 M25 q25 => ?_)
        obtain ⟨qm25, qr25⟩ := q25
        obtain rfl := qm25.symm
        obtain ⟨c25, rfl⟩ | ⟨c25, rfl⟩ := qr25
        · have hb : ¬ A.bo h = true := (bSz_m hln.1).mp (hB.1.symm.trans c25)
          refine z_if_eq (tgt := 34) dX11_drop_28 (by decide) (fun b28 => ?_) (fun b28 => ?_)
          · exact absurd b28 (by decide)
          · refine z_bipush (v := (-11)) dX11_drop_31 (by decide) ?_
            refine z_iret dX11_drop_33 rfl zle ?_
            exact zStp.of C (by unfold sDrop; rw [aIx_in hh (by omega), if_neg hb])
        · have hb : A.bo h = true := Classical.byContradiction (fun z => c25 (hB.1.trans ((bSz_m hln.1).mpr z)))
          have hl : M bk 2 = nI (A.ln h) := hB.1.trans (if_pos hb)
          refine z_if_eq (tgt := 34) dX11_drop_28 (by decide) (fun b28 => ?_) (fun b28 => ?_)
          · refine z_aload_n dX11_drop_34 rfl ?_
            refine z_iV0 (c_X0_filledLines g l hbk (n := A.ln h) (by rw [hl]; exact zLen.of hln.1)) mw_X0_filledLines lm_X11_283 mi_X0_filledLines mv_X0_filledLines kX0 (by decide) (Nat.le_of_ble_eq_true rfl) zle (zBook_k0 hbk) (zBook_s0 hbk) dX11_drop_35 (fun r35 M35 q35 => ?_)
            obtain ⟨qr35, qm35⟩ := q35
            obtain rfl := qr35.symm
            obtain rfl := qm35.symm
            refine z_istore_n dX11_drop_38 (by decide) rfl rfl ?_
            refine z_aload_n dX11_drop_39 rfl ?_
            refine z_vV0 (c_X0_close g l hbk) mw_X0_close lm_X11_286 mi_X0_close mv_X0_close kX0 (by decide) (Nat.le_of_ble_eq_true rfl) zle (zBook_k0 hbk) (zBook_s0 hbk) dX11_drop_40 (fun M40 q40 => ?_)
            obtain rfl := q40.symm
            refine z_iload_n dX11_drop_43 rfl ?_
            refine z_iret dX11_drop_44 rfl zle ?_
            have C1 := C.putB (M' := z_up M bk 2 (-1)) hh (o := false) (n := 0) (f := A.so h) (v := A.va h) (by rw [← ebk2, z_up_kj]; rfl) (fun j hj => by rw [← ebk2, z_up_n _ _ _ (by omega), z_up_n _ _ _ (by omega)]; exact hB.2 j hj) (fun k a => by rw [z_up_n _ _ _ (by omega)])
            exact zStp.mk C1.1 C1.2 (by unfold sDrop; rw [aIx_in hh (by omega), if_pos hb]) (fFill_cg _ (fun j hj => (hB.2 j (by omega)).1))
          · exact absurd b28 (by decide)
      · exact absurd b8 (by decide)
    · exact absurd (zInP (n := 4) hh (by omega)) c5
  · refine zMet.of (by decide) (Nat.le_of_ble_eq_true rfl) ?_
    refine z_aload_n dX11_drop_0 rfl ?_
    refine z_getR (j := 10) (r := 113) kX11 lf_X11_76 (by decide) rfl dX11_drop_1 k0_0 s0_0 r0_0_10 (by decide) ?_
    refine z_iload_n dX11_drop_4 rfl ?_
    refine z_iV1 (c_X8_hasPlace g l) mw_X8_hasPlace lm_X11_242 mi_X8_hasPlace mv_X8_hasPlace kX8 (by decide) (Nat.le_of_ble_eq_true rfl) zle k0_113 s0_113 dX11_drop_5 (fun r5 M5 q5 => ?_)
    obtain ⟨qm5, qr5⟩ := q5
    obtain rfl := qm5.symm
    obtain ⟨c5, rfl⟩ | ⟨c5, rfl⟩ := qr5
    · exact absurd c5 hx
    · refine z_if_ne (tgt := 14) dX11_drop_8 (by decide) (fun b8 => ?_) (fun b8 => ?_)
      · exact absurd b8 (by decide)
      · refine z_bipush (v := (-2)) dX11_drop_11 (by decide) ?_
        refine z_iret dX11_drop_13 rfl zle ?_
        exact zStp.of C (by unfold sDrop; rw [aIx_out hx])

set_option maxRecDepth 100000 in
set_option maxHeartbeats 4000000 in
theorem c_X11_count (g : zG) (l : Launch) {M : zM} {A : aSt} (ok : aOK A) (C : RelC M A) {x : Int32} : zMet g l yX11_count cX11_count 2 (some .int) 2 0 0 [.ref 0, .int x] S0 M (zQi (fun r' M' => zAns M A (aCount A x) r' M')) := by
  have n8 : A.n ≤ 8 := ok.s.1.1
  have r4 : A.r ≤ 4 := ok.s.1.2.1
  have i6 : A.i ≤ 6 := ok.s.1.2.2.1
  have R : zDR M M 18 A.s A.n A.r A.i := ⟨C.day, fun _ _ => rfl⟩
  obtain ⟨p, hp, hu1, hu2, hu3⟩ := C.past
  refine zMet.of (by decide) (Nat.le_of_ble_eq_true rfl) ?_
  refine z_iload_n dX11_count_0 rfl ?_
  refine z_tsw (b := 0) (n := 11) (tg := [60, 68, 76, 84, 92, 100, 108, 116, 124, 132, 140]) (tgt := 148) dX11_count_1 (by decide) (by decide) (by decide) (by decide) (by decide) (fun k1 hk1 s1 => ?_) (fun s1 => ?_)
  · match k1, hk1 with
    | 0, _ =>
      have s2 : x = 0 := s1
      refine z_aload_n dX11_count_60 rfl ?_
      refine z_getR (j := 0) (r := 1) kX11 lf_X11_10 (by decide) rfl dX11_count_61 k0_0 s0_0 r0_0_0 (by decide) ?_
      refine z_getIV (j := 0) kX7 lf_X11_289 (by decide) rfl C.road.1 dX11_count_64 k0_1 s0_1 ?_
      refine z_iret dX11_count_67 rfl zle ?_
      exact zAns.of C (by unfold aCount; rw [if_pos s2])
    | 1, _ =>
      have s2 : x = 1 := s1
      refine z_aload_n dX11_count_68 rfl ?_
      refine z_getR (j := 0) (r := 1) kX11 lf_X11_10 (by decide) rfl dX11_count_69 k0_0 s0_0 r0_0_0 (by decide) ?_
      refine z_getIV (j := 1) kX7 lf_X11_213 (by decide) rfl C.road.2.1 dX11_count_72 k0_1 s0_1 ?_
      refine z_iret dX11_count_75 rfl zle ?_
      exact zAns.of C (by unfold aCount; rw [if_neg (by rw [s2]; decide), if_pos s2])
    | 2, _ =>
      have s2 : x = 2 := s1
      refine z_aload_n dX11_count_76 rfl ?_
      refine z_getR (j := 0) (r := 1) kX11 lf_X11_10 (by decide) rfl dX11_count_77 k0_0 s0_0 r0_0_0 (by decide) ?_
      refine z_getIV (j := 2) kX7 lf_X11_292 (by decide) rfl C.road.2.2.1 dX11_count_80 k0_1 s0_1 ?_
      refine z_iret dX11_count_83 rfl zle ?_
      exact zAns.of C (by unfold aCount; rw [if_neg (by rw [s2]; decide), if_neg (by rw [s2]; decide), if_pos s2])
    | 3, _ =>
      have s2 : x = 3 := s1
      refine z_aload_n dX11_count_84 rfl ?_
      refine z_getR (j := 3) (r := 18) kX11 lf_X11_37 (by decide) rfl dX11_count_85 k0_0 s0_0 r0_0_3 (by decide) ?_
      refine z_getIV (j := 1) kX1 lf_X11_158 (by decide) rfl C.day.2.1 dX11_count_88 k0_18 s0_18 ?_
      refine z_iret dX11_count_91 rfl zle ?_
      exact zAns.of C (by unfold aCount; rw [if_neg (by rw [s2]; decide), if_neg (by rw [s2]; decide), if_neg (by rw [s2]; decide), if_pos s2])
    | 4, _ =>
      have s2 : x = 4 := s1
      refine z_aload_n dX11_count_92 rfl ?_
      refine z_getR (j := 3) (r := 18) kX11 lf_X11_37 (by decide) rfl dX11_count_93 k0_0 s0_0 r0_0_3 (by decide) ?_
      refine z_getI (j := 5) kX1 lf_X11_295 (by decide) rfl dX11_count_96 k0_18 s0_18 ?_
      refine z_iret dX11_count_99 rfl zle ?_
      exact zAns.of C (by unfold aCount; rw [if_neg (by rw [s2]; decide), if_neg (by rw [s2]; decide), if_neg (by rw [s2]; decide), if_neg (by rw [s2]; decide), if_pos s2]; exact dLam_eq ok.s C.day.2.2.1)
    | 5, _ =>
      have s2 : x = 5 := s1
      refine z_aload_n dX11_count_100 rfl ?_
      refine z_getR (j := 3) (r := 18) kX11 lf_X11_37 (by decide) rfl dX11_count_101 k0_0 s0_0 r0_0_3 (by decide) ?_
      refine z_iV0 (c_X1_ridersThere g l (by decide) R ok.s) mw_X1_ridersThere lm_X11_298 mi_X1_ridersThere mv_X1_ridersThere kX1 (by decide) (Nat.le_of_ble_eq_true rfl) zle k0_18 s0_18 dX11_count_104 (fun r104 M104 q104 => ?_)
      obtain ⟨qr104, qm104⟩ := q104
      obtain rfl := qr104.symm
      obtain rfl := qm104.symm
      refine z_iret dX11_count_107 rfl zle ?_
      exact zAns.of C (by unfold aCount; rw [if_neg (by rw [s2]; decide), if_neg (by rw [s2]; decide), if_neg (by rw [s2]; decide), if_neg (by rw [s2]; decide), if_neg (by rw [s2]; decide), if_pos s2])
    | 6, _ =>
      have s2 : x = 6 := s1
      refine z_aload_n dX11_count_108 rfl ?_
      refine z_getR (j := 3) (r := 18) kX11 lf_X11_37 (by decide) rfl dX11_count_109 k0_0 s0_0 r0_0_3 (by decide) ?_
      refine z_iV0 (c_X1_allClocks g l (by decide) R ok.s) mw_X1_allClocks lm_X11_301 mi_X1_allClocks mv_X1_allClocks kX1 (by decide) (Nat.le_of_ble_eq_true rfl) zle k0_18 s0_18 dX11_count_112 (fun r112 M112 q112 => ?_)
      obtain ⟨qr112, qm112⟩ := q112
      obtain rfl := qr112.symm
      obtain rfl := qm112.symm
      refine z_iret dX11_count_115 rfl zle ?_
      exact zAns.of C (by unfold aCount; rw [if_neg (by rw [s2]; decide), if_neg (by rw [s2]; decide), if_neg (by rw [s2]; decide), if_neg (by rw [s2]; decide), if_neg (by rw [s2]; decide), if_neg (by rw [s2]; decide), if_pos s2])
    | 7, _ =>
      have s2 : x = 7 := s1
      refine z_aload_n dX11_count_116 rfl ?_
      refine z_getR (j := 9) (r := 109) kX11 lf_X11_69 (by decide) rfl dX11_count_117 k0_0 s0_0 r0_0_9 (by decide) ?_
      refine z_getIV (j := 3) kX9 lf_X11_231 (by decide) rfl C.see.1 dX11_count_120 k0_109 s0_109 ?_
      refine z_iret dX11_count_123 rfl zle ?_
      exact zAns.of C (by unfold aCount; rw [if_neg (by rw [s2]; decide), if_neg (by rw [s2]; decide), if_neg (by rw [s2]; decide), if_neg (by rw [s2]; decide), if_neg (by rw [s2]; decide), if_neg (by rw [s2]; decide), if_neg (by rw [s2]; decide), if_pos s2])
    | 8, _ =>
      have s2 : x = 8 := s1
      refine z_aload_n dX11_count_124 rfl ?_
      refine z_getR (j := 10) (r := 113) kX11 lf_X11_76 (by decide) rfl dX11_count_125 k0_0 s0_0 r0_0_10 (by decide) ?_
      refine z_iV0 (c_X8_openBooks g l) mw_X8_openBooks lm_X11_304 mi_X8_openBooks mv_X8_openBooks kX8 (by decide) (Nat.le_of_ble_eq_true rfl) zle k0_113 s0_113 dX11_count_128 (fun r128 M128 q128 => ?_)
      obtain ⟨qr128, qm128⟩ := q128
      obtain rfl := qr128.symm
      obtain rfl := qm128.symm
      refine z_iret dX11_count_131 rfl zle ?_
      exact zAns.of C (by unfold aCount; rw [if_neg (by rw [s2]; decide), if_neg (by rw [s2]; decide), if_neg (by rw [s2]; decide), if_neg (by rw [s2]; decide), if_neg (by rw [s2]; decide), if_neg (by rw [s2]; decide), if_neg (by rw [s2]; decide), if_neg (by rw [s2]; decide), if_pos s2]; exact fOpen_cg (aBk_cg ok C) 4 (Nat.le_refl _))
    | 9, _ =>
      have s2 : x = 9 := s1
      refine z_aload_n dX11_count_132 rfl ?_
      refine z_getR (j := 5) (r := 32) kX11 lf_X11_47 (by decide) rfl dX11_count_133 k0_0 s0_0 r0_0_5 (by decide) ?_
      refine z_getIV (j := 2) kX6 lf_X11_174 (by decide) rfl hu2 dX11_count_136 k0_32 s0_32 ?_
      refine z_iret dX11_count_139 rfl zle ?_
      exact zAns.of C (by unfold aCount; rw [if_neg (by rw [s2]; decide), if_neg (by rw [s2]; decide), if_neg (by rw [s2]; decide), if_neg (by rw [s2]; decide), if_neg (by rw [s2]; decide), if_neg (by rw [s2]; decide), if_neg (by rw [s2]; decide), if_neg (by rw [s2]; decide), if_neg (by rw [s2]; decide), if_pos s2])
    | 10, _ =>
      have s2 : x = 10 := s1
      refine z_aload_n dX11_count_140 rfl ?_
      refine z_getR (j := 1) (r := 8) kX11 lf_X11_19 (by decide) rfl dX11_count_141 k0_0 s0_0 r0_0_1 (by decide) ?_
      refine z_getIV (j := 2) kX10 lf_X11_80 (by decide) rfl C.text.1 dX11_count_144 k0_8 s0_8 ?_
      refine z_iret dX11_count_147 rfl zle ?_
      exact zAns.of C (by unfold aCount; rw [if_neg (by rw [s2]; decide), if_neg (by rw [s2]; decide), if_neg (by rw [s2]; decide), if_neg (by rw [s2]; decide), if_neg (by rw [s2]; decide), if_neg (by rw [s2]; decide), if_neg (by rw [s2]; decide), if_neg (by rw [s2]; decide), if_neg (by rw [s2]; decide), if_neg (by rw [s2]; decide), if_pos s2])
    | k + 11, h => exact absurd h (by omega)
  · have n0 : ¬ x = 0 := s1 0 (by decide)
    have n1 : ¬ x = 1 := s1 1 (by decide)
    have n2 : ¬ x = 2 := s1 2 (by decide)
    have n3 : ¬ x = 3 := s1 3 (by decide)
    have n4 : ¬ x = 4 := s1 4 (by decide)
    have n5 : ¬ x = 5 := s1 5 (by decide)
    have n6 : ¬ x = 6 := s1 6 (by decide)
    have n7 : ¬ x = 7 := s1 7 (by decide)
    have n8 : ¬ x = 8 := s1 8 (by decide)
    have n9 : ¬ x = 9 := s1 9 (by decide)
    have n10 : ¬ x = 10 := s1 10 (by decide)
    refine z_bipush (v := (-3)) dX11_count_148 (by decide) ?_
    refine z_iret dX11_count_150 rfl zle ?_
    exact zAns.of C (by unfold aCount; rw [if_neg n0, if_neg n1, if_neg n2, if_neg n3, if_neg n4, if_neg n5, if_neg n6, if_neg n7, if_neg n8, if_neg n9, if_neg n10])

