/-! ===== pure facts that tie the class's ways to the days ===== -/
theorem nI_max {a c : Nat} (ha : a < 1000) (hc : c < 1000) : (if nI a < nI c then nI c else nI a) = nI (if a < c then c else a) := by
  by_cases h : a < c
  · rw [if_pos h, if_pos ((nI_ltI (by omega) (by omega)).mpr h)]
  · rw [if_neg h, if_neg (fun q => h ((nI_ltI (by omega) (by omega)).mp q))]
theorem dNext_cmp (f t : Int32) : f + (if t < f then -1 else if t = f then 0 else 1) = dNext f t := by
  unfold dNext
  by_cases h : t < f
  · rw [if_pos h, if_neg (fun q => Int32.lt_irrefl (Int32.lt_trans h q)), if_pos h, Int32.sub_eq_add_neg]
  · rw [if_neg h]
    by_cases e : t = f
    · subst e
      rw [if_pos rfl, if_neg h, if_neg h, Int32.add_zero]
    · rw [if_neg e, if_pos]
      rw [Int32.lt_iff_toInt_lt] at h ⊢
      have h2 : t.toInt ≠ f.toInt := fun q => e (Int32.toInt_inj.mp q)
      omega
theorem dMid {a t c : Nat} (ha : a < 900) (ht : t < 900) (hc : c < 1000) (e : dNext (nI a) (nI t) = nI c) : (if a < c then c else a) = (if nI a < nI t then nI a + 1 else nI a).toNatClampNeg := by
  unfold dNext at e
  by_cases h : a < t
  · have h1 : nI a < nI t := (nI_ltI (by omega) (by omega)).mpr h
    rw [if_pos h1, nI_1] at e
    have h2 : a + 1 = c := (nI_eq (by omega) (by omega)).mp e
    rw [if_pos h1, nI_1, nI_clamp (by omega), if_pos (by omega), h2]
  · have h1 : ¬ nI a < nI t := fun q => h ((nI_ltI (by omega) (by omega)).mp q)
    rw [if_neg h1] at e
    rw [if_neg h1, nI_clamp (by omega)]
    by_cases g : t < a
    · rw [if_pos ((nI_ltI (by omega) (by omega)).mpr g)] at e
      obtain ⟨x, rfl⟩ : ∃ x, a = x + 1 := ⟨a - 1, by omega⟩
      rw [nI_pred] at e
      have h2 : x = c := (nI_eq (by omega) (by omega)).mp e
      rw [if_neg (by omega)]
    · rw [if_neg (fun q => g ((nI_ltI (by omega) (by omega)).mp q))] at e
      have h2 : a = c := (nI_eq (by omega) (by omega)).mp e
      rw [if_neg (by omega)]
/-! choosing by rank -/
def dRk (σ : Dy) (j : Nat) : Int32 := if σ (3 + j) = 4 then σ (27 + j) + 11 else σ (27 + j)
def dRkI (σ : Dy) (rid : Int32) (q h : Nat) (ρ : Int32) : Prop :=
  ((dGiv σ rid q h).1 = -1 ∧ (dGiv σ rid q h).2 = 99999) ∨ ∃ j, j < h ∧ (dGiv σ rid q h).1 = nI j ∧ (dGiv σ rid q h).2 = dBy σ j ∧ ρ = dRk σ j
section ZRANK
variable {σ : Dy} {rid : Int32} {n r i q h : Nat} {ρ : Int32}
theorem dRk_nI (ok : dOK σ n r i) (hh : h < n) : ∃ t, t < 11 ∧ σ (27 + h) = nI t ∧ ((σ (3 + h) = 4 ∧ dRk σ h = nI (t + 11) ∧ dBy σ h = nI (t + 100)) ∨ (¬ σ (3 + h) = 4 ∧ dRk σ h = nI t ∧ dBy σ h = nI t)) := by
  obtain ⟨-, -, -, ⟨t, ht, et⟩, -⟩ := ok.2.1 h hh
  refine ⟨t, ht, et, ?_⟩
  unfold dRk dBy
  rw [et]
  by_cases c : σ (3 + h) = 4
  · exact Or.inl ⟨c, by rw [if_pos c]; exact nI_add t 11, by rw [if_pos c]; exact nI_add t 100⟩
  · exact Or.inr ⟨c, by rw [if_neg c], by rw [if_neg c, Int32.add_zero]⟩
theorem dRk_lt (ok : dOK σ n r i) {j : Nat} (hh : h < n) (hj : j < n) : dRk σ h < dRk σ j ↔ dBy σ h < dBy σ j := by
  obtain ⟨t, ht, -, e⟩ := dRk_nI ok hh
  obtain ⟨u, hu, -, f⟩ := dRk_nI ok hj
  rcases e with ⟨-, e1, e2⟩ | ⟨-, e1, e2⟩ <;> rcases f with ⟨-, f1, f2⟩ | ⟨-, f1, f2⟩ <;> (rw [e1, e2, f1, f2] <;> first | exact Iff.rfl | (rw [nI_ltI (by omega) (by omega), nI_ltI (by omega) (by omega)]; try omega))
theorem dBy_much (ok : dOK σ n r i) (hh : h < n) : dBy σ h < 99999 := by
  obtain ⟨t, ht, -, e⟩ := dRk_nI ok hh
  rcases e with ⟨-, -, e2⟩ | ⟨-, -, e2⟩ <;> rw [e2] <;> exact (nI_ltI (b := 99999) (by omega) (by omega)).mpr (by omega)
theorem dGiv_no (c : ¬ dMay σ rid q h) : dGiv σ rid q (h + 1) = dGiv σ rid q h := if_neg (fun z => c z.1)
theorem dRkI.no (I : dRkI σ rid q h ρ) (e : dGiv σ rid q (h + 1) = dGiv σ rid q h) : dRkI σ rid q (h + 1) ρ := by
  unfold dRkI
  rw [e]
  rcases I with I | ⟨j, h1, h2⟩
  · exact Or.inl I
  · exact Or.inr ⟨j, by omega, h2⟩
theorem dRkI.got (e : dGiv σ rid q (h + 1) = (nI h, dBy σ h)) : dRkI σ rid q (h + 1) (dRk σ h) := by
  unfold dRkI
  rw [e]
  exact Or.inr ⟨h, by omega, rfl, rfl, rfl⟩
theorem dRkI.first (ok : dOK σ n r i) (hh : h < n) (c : dMay σ rid q h) (I : dRkI σ rid q h ρ) (e : (dGiv σ rid q h).1 = -1) : dGiv σ rid q (h + 1) = (nI h, dBy σ h) := by
  refine if_pos ⟨c, ?_⟩
  rcases I with ⟨-, I⟩ | ⟨j, h1, h2, -⟩
  · rw [I]; exact dBy_much ok hh
  · rw [h2] at e; exact absurd e (nI_nm1 (by have := ok.1.1; omega))
theorem dRkI.less (ok : dOK σ n r i) (hh : h < n) (c : dMay σ rid q h) (I : dRkI σ rid q h ρ) (e : ¬ (dGiv σ rid q h).1 = -1) : (dRk σ h < ρ → dGiv σ rid q (h + 1) = (nI h, dBy σ h)) ∧ (¬ dRk σ h < ρ → dGiv σ rid q (h + 1) = dGiv σ rid q h) := by
  rcases I with ⟨I, -⟩ | ⟨j, h1, h2, h3, h4⟩
  · exact absurd I e
  · have h5 := dRk_lt ok hh (show j < n by omega)
    rw [h4]
    exact ⟨fun z => if_pos ⟨c, by rw [h3]; exact h5.mp z⟩, fun z => if_neg (fun w => z (h5.mpr (by rw [← h3]; exact w.2)))⟩
theorem dBar {L : Int32} (ok : dOK σ n r i) (hL : dLam L σ n) (hh : h < n) (s : Int32) : ((s ||| L) >>> (nI h &&& 31)) &&& 1 = 0 ↔ σ (35 + h) = 0 ∧ ¬ hasB s (nI h) := by
  have n8 := ok.1.1
  rw [z_b0 (by omega), b_or, hL.is hh n8, z_b1 (by omega)]
  obtain ⟨-, -, -, -, hl⟩ := ok.2.1 h hh
  rcases hl with e | ⟨e, -⟩
  · rw [e]; simp
  · rw [e]; simp
end ZRANK
theorem z_910 (x : Int32) : ¬ x < 10 ↔ 9 < x := by
  rw [Int32.lt_iff_toInt_lt, Int32.lt_iff_toInt_lt]
  show ¬ x.toInt < 10 ↔ 9 < x.toInt
  omega
theorem upd_id {f : Nat → Int32} {k : Nat} {x : Int32} (h : x = f k) : upd f k x = f := by
  funext j
  unfold upd
  by_cases e : j = k
  · rw [if_pos e, e, h]
  · rw [if_neg e]
theorem dEase_cls (σ : Dy) (h : Nat) (x : Int32) : (if (if 0 < x then x else 0) = 0 then upd (upd σ (27 + h) (if 0 < x then x else 0)) (35 + h) 0 else upd σ (27 + h) (if 0 < x then x else 0)) = dEase σ h x := by
  unfold dEase
  by_cases c : 0 < x
  · have c2 : ¬ x < 0 := fun q => Int32.lt_irrefl (Int32.lt_trans c q)
    have c3 : ¬ x = 0 := fun q => by rw [q] at c; exact Int32.lt_irrefl c
    rw [if_pos c, if_neg c3, if_neg c2, if_pos c]
    exact (upd_id (by rw [upd_n _ _ (by omega)])).symm
  · rw [if_neg c, if_pos rfl, if_neg c]
    by_cases c2 : x < 0
    · rw [if_pos c2]
    · rw [if_neg c2]
      have e : x = 0 := by
        rw [Int32.lt_iff_toInt_lt] at c c2
        apply Int32.toInt_inj.mp
        show x.toInt = 0
        have c' : ¬ (0 : Int) < x.toInt := c
        have c2' : ¬ x.toInt < 0 := c2
        omega
      rw [e]
