/-! ===== the reference's memory while a day goes on: one region of its row, and who was ridden, who was led ===== -/
def regU (w : Nat → Int32) (b : Nat) (σ : Dy) : Nat → Int32 := fun i => if b ≤ i ∧ i < b + 70 then σ (i - b) else w i
def zMd (M : zM) (b : Nat) (σ : Dy) (rid led : Int32) : zM := fun k => if k = 128 then regU (M 128) b σ else if k = 127 then upd (upd (M 127) 28 rid) 29 led else M k
theorem zMd_128 (M : zM) (b : Nat) (σ : Dy) (rid led : Int32) : zMd M b σ rid led 128 = regU (M 128) b σ := rfl
theorem zMd_127 (M : zM) (b : Nat) (σ : Dy) (rid led : Int32) : zMd M b σ rid led 127 = upd (upd (M 127) 28 rid) 29 led := rfl
theorem zMd_o (M : zM) (b : Nat) (σ : Dy) (rid led : Int32) {k : Nat} (h1 : k ≠ 128) (h2 : k ≠ 127) : zMd M b σ rid led k = M k := by simp [zMd, h1, h2]
theorem regU_in (w : Nat → Int32) (b : Nat) (σ : Dy) {j : Nat} (h : j < 70) : regU w b σ (b + j) = σ j := by
  unfold regU
  rw [if_pos (by omega), Nat.add_sub_cancel_left]
theorem regU_out (w : Nat → Int32) (b : Nat) (σ : Dy) {i : Nat} (h : i < b ∨ b + 70 ≤ i) : regU w b σ i = w i := if_neg (by omega)
theorem regU_up (w : Nat → Int32) (b : Nat) (σ : Dy) {j : Nat} (h : j < 70) (x : Int32) : upd (regU w b σ) (b + j) x = regU w b (upd σ j x) := by
  funext i
  unfold upd regU
  by_cases e : i = b + j
  · subst e
    rw [if_pos rfl, if_pos (by omega)]
    show x = if b + j - b = j then x else σ (b + j - b)
    rw [if_pos (by omega)]
  · rw [if_neg e]
    by_cases c : b ≤ i ∧ i < b + 70
    · rw [if_pos c, if_pos c]
      show σ (i - b) = if i - b = j then x else σ (i - b)
      rw [if_neg (by omega)]
    · rw [if_neg c, if_neg c]
theorem regU_id (w : Nat → Int32) (b : Nat) : regU w b (fun i => w (b + i)) = w := by
  funext i
  unfold regU
  by_cases c : b ≤ i ∧ i < b + 70
  · rw [if_pos c]
    show w (b + (i - b)) = w i
    rw [Nat.add_sub_cancel' c.1]
  · rw [if_neg c]
theorem zMd_g {M : zM} {b : Nat} {σ : Dy} {rid led : Int32} (a h : Nat) (hj : a + h < 70) : zMd M b σ rid led 128 (b + a + h) = σ (a + h) := by
  rw [zMd_128, Nat.add_assoc, regU_in _ _ _ hj]
theorem zMd_g0 {M : zM} {b : Nat} {σ : Dy} {rid led : Int32} (a : Nat) (hj : a < 70) : zMd M b σ rid led 128 (b + a) = σ a := by
  rw [zMd_128, regU_in _ _ _ hj]
theorem zMd_s {M : zM} {b : Nat} {σ : Dy} {rid led x : Int32} (a h : Nat) (hj : a + h < 70) : z_up (zMd M b σ rid led) 128 (b + a + h) x = zMd M b (upd σ (a + h) x) rid led := by
  funext k
  by_cases e : k = 128
  · subst e
    rw [z_up_s, zMd_128, zMd_128, Nat.add_assoc, regU_up _ _ _ hj]
  · rw [z_up_n _ _ _ e]
    simp [zMd, e]
theorem zMd_s0 {M : zM} {b : Nat} {σ : Dy} {rid led x : Int32} (a : Nat) (hj : a < 70) : z_up (zMd M b σ rid led) 128 (b + a) x = zMd M b (upd σ a x) rid led := by
  funext k
  by_cases e : k = 128
  · subst e
    rw [z_up_s, zMd_128, zMd_128, regU_up _ _ _ hj]
  · rw [z_up_n _ _ _ e]
    simp [zMd, e]
theorem zMd_rid {M : zM} {b : Nat} {σ : Dy} {rid led : Int32} : zMd M b σ rid led 127 28 = rid := rfl
theorem zMd_led {M : zM} {b : Nat} {σ : Dy} {rid led : Int32} : zMd M b σ rid led 127 29 = led := rfl
theorem zMd_sr {M : zM} {b : Nat} {σ : Dy} {rid led x : Int32} : z_up (zMd M b σ rid led) 127 28 x = zMd M b σ x led := by
  funext k
  by_cases e : k = 127
  · subst e
    rw [z_up_s, zMd_127, zMd_127]
    funext j
    unfold upd
    by_cases e1 : j = 28
    · subst e1; rfl
    · by_cases e2 : j = 29
      · subst e2; rfl
      · simp [e1, e2]
  · rw [z_up_n _ _ _ e]
    simp [zMd, e]
theorem zMd_sl {M : zM} {b : Nat} {σ : Dy} {rid led x : Int32} : z_up (zMd M b σ rid led) 127 29 x = zMd M b σ rid x := by
  funext k
  by_cases e : k = 127
  · subst e
    rw [z_up_s, zMd_127, zMd_127]
    funext j
    unfold upd
    by_cases e2 : j = 29
    · subst e2; rfl
    · simp [e2]
  · rw [z_up_n _ _ _ e]
    simp [zMd, e]
theorem zMd_id (M : zM) (b : Nat) : zMd M b (fun i => M 128 (b + i)) (M 127 28) (M 127 29) = M := by
  funext k
  by_cases e : k = 128
  · subst e
    rw [zMd_128, regU_id]
  · by_cases e2 : k = 127
    · subst e2
      rw [zMd_127]
      funext j
      unfold upd
      by_cases e3 : j = 29
      · subst e3; rfl
      · by_cases e4 : j = 28
        · subst e4; rfl
        · simp [e3, e4]
    · exact zMd_o _ _ _ _ _ e e2
theorem upd_tw (f : Nat → Int32) (k : Nat) (x z : Int32) : upd (upd f k x) k z = upd f k z := by
  funext j
  unfold upd
  by_cases e : j = k
  · rw [if_pos e, if_pos e]
  · rw [if_neg e, if_neg e, if_neg e]
theorem lg_lt (x z : Int64) : lg_cmp x z < 0 ↔ x < z := by
  unfold lg_cmp
  by_cases h : x > z
  · rw [if_pos h]
    exact ⟨fun q => absurd q (by decide), fun q => absurd (Int64.lt_trans h q) Int64.lt_irrefl⟩
  · rw [if_neg h]
    by_cases e : x = z
    · subst e
      rw [if_pos rfl]
      exact ⟨fun q => absurd q (by decide), fun q => absurd q Int64.lt_irrefl⟩
    · rw [if_neg e]
      refine ⟨fun _ => ?_, fun _ => by decide⟩
      have h1 : ¬ z < x := h
      rw [Int64.lt_iff_toInt_lt] at h1 ⊢
      have h2 : x.toInt ≠ z.toInt := fun q => e (Int64.toInt_inj.mp q)
      omega
theorem lg_gt (x z : Int64) : 0 < lg_cmp x z ↔ z < x := by
  unfold lg_cmp
  by_cases h : x > z
  · rw [if_pos h]
    exact ⟨fun _ => h, fun _ => by decide⟩
  · rw [if_neg h]
    refine ⟨fun q => ?_, fun q => absurd q h⟩
    by_cases e : x = z
    · rw [if_pos e] at q; exact absurd q (by decide)
    · rw [if_neg e] at q; exact absurd q (by decide)
theorem lg_le32 (x z : Int32) : x.toInt64 ≤ z.toInt64 ↔ x ≤ z := by
  rw [Int64.le_iff_toInt_le, Int32.le_iff_toInt_le, Int32.toInt_toInt64, Int32.toInt_toInt64]
theorem nI_nm1 {j : Nat} (h : j < 1000) : ¬ nI j = -1 := fun e => absurd (show nI j < 0 by rw [e]; decide) (nI_pos (by omega))
theorem dMiles_rid {σ : Dy} {h : Nat} (h8 : h < 8) (x f t : Int32) : dMiles (upd σ (43 + h) x) f t = dMiles σ f t := by
  unfold dMiles
  rw [upd_n _ _ (by omega)]
theorem dGo_eq {σ : Dy} {q h : Nat} (h8 : h < 8) (q4 : q < 4) : dGo (dRid σ h) q h = upd (upd (upd (dRid σ h) (51 + q) (dNext (σ (51 + q)) (σ (55 + q)))) (19 + h) (dNext (σ (51 + q)) (σ (55 + q)))) (59 + q) (σ (59 + q) + kTakes (σ (3 + h)) (dMiles σ (σ (51 + q)) (σ (55 + q)))) := by
  have e1 : dRid σ h (51 + q) = σ (51 + q) := upd_n _ _ (by omega)
  have e2 : dRid σ h (55 + q) = σ (55 + q) := upd_n _ _ (by omega)
  have e3 : dRid σ h (59 + q) = σ (59 + q) := upd_n _ _ (by omega)
  have e4 : dRid σ h (3 + h) = σ (3 + h) := upd_n _ _ (by omega)
  have e5 : ∀ f t, dMiles (dRid σ h) f t = dMiles σ f t := fun f t => dMiles_rid h8 _ f t
  unfold dGo
  rw [e1, e2, e3, e4, e5]
theorem dThrows_iff {σ : Dy} {h : Nat} (h8 : h < 8) : dThrows (dRid σ h) h ↔ σ (3 + h) = 1 ∧ (σ (43 + h) + 1) - (σ (43 + h) + 1) / 3 * 3 = 0 := by
  have e4 : dRid σ h (3 + h) = σ (3 + h) := upd_n _ _ (by omega)
  have e5 : dRid σ h (43 + h) = σ (43 + h) + 1 := upd_s _ _ _
  unfold dThrows
  rw [e4, e5]
theorem nI_dec (x : Int32) : x + Int32.ofInt (-1) = x - 1 := by
  rw [Int32.sub_eq_add_neg]
  rfl
