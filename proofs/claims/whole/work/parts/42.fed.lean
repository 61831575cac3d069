/-! ===== the fewest oats: both searches find the same set ===== -/
def pbn : Nat → Nat → Nat
  | 0, _ => 0
  | k + 1, x => pbn k x + (if x.testBit k = true then 1 else 0)
theorem pb_f : ∀ a, a < 256 → fBits (nI a) 8 = nI (pbn 8 a) := by decide +kernel
theorem pbn_le (x : Nat) : ∀ k, pbn k x ≤ k
  | 0 => Nat.le_refl _
  | k + 1 => by
    have := pbn_le x k
    unfold pbn
    split <;> omega
theorem pbn_mono {x z : Nat} : ∀ k, (∀ i, i < k → z.testBit i = true → x.testBit i = true) → pbn k z ≤ pbn k x
  | 0, _ => Nat.le_refl _
  | k + 1, h => by
    have ih := pbn_mono k (fun i hi => h i (by omega))
    have hk := h k (by omega)
    unfold pbn
    by_cases c : z.testBit k = true
    · rw [if_pos c, if_pos (hk c)]; omega
    · rw [if_neg c]; omega
theorem pbn_lt {x z : Nat} : ∀ k, (∀ i, i < k → z.testBit i = true → x.testBit i = true) → (∃ i, i < k ∧ x.testBit i = true ∧ ¬ z.testBit i = true) → pbn k z < pbn k x
  | 0, _, h => by obtain ⟨i, hi, -⟩ := h; exact absurd hi (Nat.not_lt_zero _)
  | k + 1, h, e => by
    obtain ⟨i, hi, e1, e2⟩ := e
    have hk := h k (by omega)
    unfold pbn
    by_cases c : i = k
    · subst c
      rw [if_neg e2, if_pos e1]
      have := pbn_mono i (fun j hj => h j (by omega))
      omega
    · have ih := pbn_lt k (fun j hj => h j (by omega)) ⟨i, by omega, e1, e2⟩
      by_cases c : z.testBit k = true
      · rw [if_pos c, if_pos (hk c)]; omega
      · rw [if_neg c]; omega
def gW (σ : Dy) (n r i q m s : Nat) : Bool := decide (¬ dCome (dFed σ (nI s) n) n r i q m = -1)
def rS (W : Nat → Bool) : Nat → Nat × Nat
  | 0 => (0, 4)
  | s + 1 => if pbn 8 s < (rS W s).2 ∧ W s = true then (s + 1, pbn 8 s) else rS W s
def toB (b : Nat) : Int32 := if b = 0 then -1 else nI (b - 1)
theorem rS_c (W : Nat → Bool) : ∀ p, ((rS W p).1 = 0 ∧ (rS W p).2 = 4 ∧ ∀ s, s < p → W s = true → 4 ≤ pbn 8 s) ∨ (∃ t, t < p ∧ (rS W p).1 = t + 1 ∧ W t = true ∧ (rS W p).2 = pbn 8 t ∧ pbn 8 t < 4 ∧ (∀ s, s < p → W s = true → pbn 8 t ≤ pbn 8 s) ∧ ∀ s, s < t → W s = true → pbn 8 t < pbn 8 s)
  | 0 => Or.inl ⟨rfl, rfl, fun s h => absurd h (Nat.not_lt_zero _)⟩
  | p + 1 => by
    have ih := rS_c W p
    unfold rS
    by_cases c : pbn 8 p < (rS W p).2 ∧ W p = true
    · rw [if_pos c]
      refine Or.inr ⟨p, by omega, rfl, c.2, rfl, ?_⟩
      rcases ih with ⟨-, e2, e3⟩ | ⟨t, h1, -, h3, h4, h5, h6, -⟩
      · rw [e2] at c
        refine ⟨c.1, fun s hs w => ?_, fun s hs w => ?_⟩
        · by_cases e : s = p
          · subst e; exact Nat.le_refl _
          · have := e3 s (by omega) w; omega
        · have := e3 s (by omega) w; omega
      · rw [h4] at c
        refine ⟨by omega, fun s hs w => ?_, fun s hs w => ?_⟩
        · by_cases e : s = p
          · subst e; exact Nat.le_refl _
          · have := h6 s (by omega) w; omega
        · have := h6 s (by omega) w; omega
    · rw [if_neg c]
      rcases ih with ⟨e1, e2, e3⟩ | ⟨t, h1, h2, h3, h4, h5, h6, h7⟩
      · refine Or.inl ⟨e1, e2, fun s hs w => ?_⟩
        by_cases e : s = p
        · subst e; rw [e2] at c; exact Nat.le_of_not_lt (fun z => c ⟨z, w⟩)
        · exact e3 s (by omega) w
      · refine Or.inr ⟨t, by omega, h2, h3, h4, h5, fun s hs w => ?_, h7⟩
        by_cases e : s = p
        · subst e; rw [h4] at c; exact Nat.le_of_not_lt (fun z => c ⟨z, w⟩)
        · exact h6 s (by omega) w
theorem dTirB_bt (σ : Dy) : ∀ k, k ≤ 8 → ∀ i, i < 32 → bt (dTirB σ k) i = (decide (i < k) && decide (0 < σ (27 + i)))
  | 0, _, i, _ => by rw [show dTirB σ 0 = 0 from rfl, b_0]; simp
  | k + 1, h, i, hi => by
    have ih := dTirB_bt σ k (by omega) i hi
    show bt (if 0 < σ (27 + k) then _ else _) i = _
    by_cases c : 0 < σ (27 + k)
    · rw [if_pos c, b_or, ih, bt_sh (by omega) hi]
      by_cases e : i = k
      · subst e; rw [decide_eq_true c]; simp
      · rw [decide_eq_false e, Bool.or_false, show decide (i < k + 1) = decide (i < k) from decide_eq_decide.mpr (by omega)]
    · rw [if_neg c, ih]
      by_cases e : i = k
      · subst e; rw [decide_eq_false c]; simp
      · rw [show decide (i < k + 1) = decide (i < k) from decide_eq_decide.mpr (by omega)]
section ZFED
variable {σ : Dy} {n r i : Nat}
theorem dFed_o (s : Int32) : ∀ h j, h ≤ j → j < 8 → dFed σ s h (27 + j) = σ (27 + j) ∧ dFed σ s h (35 + j) = σ (35 + j)
  | 0, _, _, _ => ⟨rfl, rfl⟩
  | h + 1, j, hj, h8 => by
    have ih := dFed_o s h j (by omega) h8
    show (if _ then _ else _ : Dy) (27 + j) = _ ∧ (if _ then _ else _ : Dy) (35 + j) = _
    split
    · exact ih
    · unfold dEase
      rw [upd_n _ _ (by omega), upd_n _ _ (by omega), upd_n _ _ (by omega), upd_n _ _ (by omega)]
      exact ih
theorem dFed_idle (ok : dOK σ n r i) {s z : Int32} (hz : ∀ h, h < n → bt z h = (bt s h && decide (0 < σ (27 + h)))) : ∀ h, h ≤ n → dFed σ z h = dFed σ s h
  | 0, _ => rfl
  | h + 1, hh => by
    have ih := dFed_idle ok hz h (by omega)
    have n8 := ok.1.1
    have e := hz h (by omega)
    show (if (z >>> (nI h &&& 31)) &&& 1 = 0 then dFed σ z h else _) = (if (s >>> (nI h &&& 31)) &&& 1 = 0 then dFed σ s h else _)
    cases c : bt s h
    · rw [c, Bool.false_and] at e
      rw [if_pos ((z_b0 (by omega)).mpr e), if_pos ((z_b0 (by omega)).mpr c), ih]
    · rw [c, Bool.true_and] at e
      rw [if_neg (show ¬ (s >>> (nI h &&& 31)) &&& 1 = 0 from fun w => by rw [(z_b0 (by omega)).mp w] at c; exact absurd c (by decide))]
      by_cases d : 0 < σ (27 + h)
      · rw [decide_eq_true d] at e
        rw [if_neg (show ¬ (z >>> (nI h &&& 31)) &&& 1 = 0 from fun w => by rw [(z_b0 (by omega)).mp w] at e; exact absurd e (by decide)), ih]
      · rw [decide_eq_false d] at e
        rw [if_pos ((z_b0 (by omega)).mpr e), ih]
        obtain ⟨o1, o2⟩ := dFed_o (σ := σ) s h h (Nat.le_refl _) (by omega)
        obtain ⟨-, -, -, ⟨t, ht, et⟩, hl⟩ := ok.2.1 h (by omega)
        have t0 : σ (27 + h) = 0 := by
          rw [et] at d ⊢
          have : ¬ 0 < t := fun w => d ((nI_ltI (a := 0) (by omega) (by omega)).mpr w)
          rw [show t = 0 by omega]; rfl
        have l0 : σ (35 + h) = 0 := hl.resolve_right (fun w => w.2 t0)
        unfold dEase
        rw [o1, t0, if_pos (show (0 : Int32) - 3 < 0 by decide), if_neg (show ¬ (0 : Int32) < 0 - 3 by decide), upd_id (f := dFed σ s h) (by rw [o1, t0]), upd_id (f := dFed σ s h) (by rw [o2, l0])]
theorem fed_less (ok : dOK σ n r i) {q m s : Nat} (hs : s < 2 ^ n) (hw : gW σ n r i q m s = true) (hi : ¬ nI s &&& (dTirB σ n ^^^ (-1)) = 0) : ∃ z, z < 2 ^ n ∧ gW σ n r i q m z = true ∧ pbn 8 z < pbn 8 s := by
  have n8 := ok.1.1
  have p8 := z_pow n (by omega)
  have tb : ∀ j, j < 32 → n ≤ j → s.testBit j = false := fun j _ hn => Nat.testBit_lt_two_pow (Nat.lt_of_lt_of_le hs (Nat.pow_le_pow_right (by omega) hn))
  have hx : ∀ j, j < 32 → bt (nI s &&& dTirB σ n) j = (s.testBit j && decide (0 < σ (27 + j))) := fun j hj => by
    rw [b_and, bt_n hj, dTirB_bt σ n n8 j hj]
    by_cases c : j < n
    · rw [decide_eq_true c, Bool.true_and]
    · rw [tb j hj (by omega)]; rfl
  obtain ⟨z, hz, ez⟩ := small_of_bt (x := nI s &&& dTirB σ n) (k := n) (fun j h1 h2 => by rw [hx j h2, tb j h2 h1]; rfl)
  have hb : ∀ j, j < 32 → z.testBit j = (s.testBit j && decide (0 < σ (27 + j))) := fun j hj => by rw [← bt_n hj, ← ez]; exact hx j hj
  refine ⟨z, hz, ?_, pbn_lt 8 (fun j hj w => ?_) ?_⟩
  · unfold gW at hw ⊢
    rw [dFed_idle ok (s := nI s) (z := nI z) (fun h hh => by rw [bt_n (by omega), bt_n (by omega)]; exact hb h (by omega)) n (Nat.le_refl _)]
    exact hw
  · rw [hb j (by omega)] at w
    exact (Bool.and_eq_true_iff.mp w).1
  · refine Classical.byContradiction (fun hc => hi ?_)
    refine b_ext (fun j hj => ?_)
    rw [b_and, b_xor, b_m1 j hj, bt_n hj, b_0, dTirB_bt σ n n8 j hj]
    by_cases c : j < n
    · rw [decide_eq_true c, Bool.true_and]
      cases e : s.testBit j
      · rfl
      · cases d : decide (0 < σ (27 + j))
        · exact absurd ⟨j, by omega, e, by rw [hb j hj, e, d]; decide⟩ hc
        · rfl
    · rw [tb j hj (by omega)]; rfl
theorem gFit_iff {q m z s : Nat} (hs : s < 256) (hz : z < 1000) : gFit σ n r i q m z s = true ↔ (pbn 8 s = z ∧ nI s &&& (dTirB σ n ^^^ (-1)) = 0 ∧ gW σ n r i q m s = true) := by
  unfold gFit gW
  rw [← fBits_bc s hs, pb_f s hs, Bool.and_eq_true_iff, Bool.and_eq_true_iff, decide_eq_true_iff, decide_eq_true_iff]
  have := pbn_le s 8
  rw [nI_eq (by omega) (by omega)]
theorem feed_eq (ok : dOK σ n r i) (q m : Nat) : gSize σ n r i q m 0 4 = toB (rS (gW σ n r i q m) (2 ^ n)).1 := by
  have n8 := ok.1.1
  have p8 := z_pow n (by omega)
  have no : ∀ z, z < 1000 → (∀ s, s < 2 ^ n → gW σ n r i q m s = true → pbn 8 s ≠ z) → gSet σ n r i q m z 0 (2 ^ n) = -1 := fun z hz h =>
    frst_nil _ (2 ^ n) 0 (fun s hs => by
      rw [Nat.zero_add]
      refine Bool.eq_false_iff.mpr (fun w => ?_)
      obtain ⟨w1, -, w3⟩ := (gFit_iff (by omega) hz).mp w
      exact h s hs w3 w1)
  have step : ∀ z k, gSet σ n r i q m z 0 (2 ^ n) = -1 → gSize σ n r i q m z (k + 1) = gSize σ n r i q m (z + 1) k := fun z k h => if_pos h
  rcases rS_c (gW σ n r i q m) (2 ^ n) with ⟨e1, -, e3⟩ | ⟨t, h1, h2, h3, -, h5, h6, h7⟩
  · rw [e1, step 0 3 (no 0 (by omega) (fun s hs w => by have := e3 s hs w; omega)), step 1 2 (no 1 (by omega) (fun s hs w => by have := e3 s hs w; omega)), step 2 1 (no 2 (by omega) (fun s hs w => by have := e3 s hs w; omega)), step 3 0 (no 3 (by omega) (fun s hs w => by have := e3 s hs w; omega))]
    rfl
  · have fit : gSet σ n r i q m (pbn 8 t) 0 (2 ^ n) = nI t := by
      have := frst_hit (gFit σ n r i q m (pbn 8 t)) (2 ^ n) 0 t h1 (fun s hs => by
        rw [Nat.zero_add]
        refine Bool.eq_false_iff.mpr (fun w => ?_)
        obtain ⟨w1, -, w3⟩ := (gFit_iff (by omega) (by omega)).mp w
        have := h7 s hs w3
        omega) (by
        rw [Nat.zero_add]
        refine (gFit_iff (by omega) (by omega)).mpr ⟨rfl, Classical.byContradiction (fun c => ?_), h3⟩
        obtain ⟨z, hz, z1, z2⟩ := fed_less ok h1 h3 c
        have := h6 z hz z1
        omega)
      rw [Nat.zero_add] at this
      exact this
    have hne : ¬ nI t = -1 := nI_nm1 (by omega)
    have got : ∀ k, gSize σ n r i q m (pbn 8 t) (k + 1) = nI t := fun k => by
      show (if gSet σ n r i q m (pbn 8 t) 0 (2 ^ n) = -1 then _ else gSet σ n r i q m (pbn 8 t) 0 (2 ^ n)) = _
      rw [fit, if_neg hne]
    have fin : toB (rS (gW σ n r i q m) (2 ^ n)).1 = nI t := by rw [h2]; exact (if_neg (by omega)).trans (congrArg nI (by omega))
    rw [fin]
    have n0 : ∀ z, z < pbn 8 t → gSet σ n r i q m z 0 (2 ^ n) = -1 := fun z hz => no z (by omega) (fun s hs w => by have := h6 s hs w; omega)
    rcases (by omega : pbn 8 t = 0 ∨ pbn 8 t = 1 ∨ pbn 8 t = 2 ∨ pbn 8 t = 3) with e | e | e | e
    · have := got 3; rw [e] at this; exact this
    · rw [step 0 3 (n0 0 (by omega))]; have := got 2; rw [e] at this; exact this
    · rw [step 0 3 (n0 0 (by omega)), step 1 2 (n0 1 (by omega))]; have := got 1; rw [e] at this; exact this
    · rw [step 0 3 (n0 0 (by omega)), step 1 2 (n0 1 (by omega)), step 2 1 (n0 2 (by omega))]; have := got 0; rw [e] at this; exact this
end ZFED
