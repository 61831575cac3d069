/-! ===== a day stays a day ===== -/
theorem kTires_in : ∀ k, k < 5 → ∀ m, m < 10 → ∃ j, j < 19 ∧ kTires (nI k) (nI m) = nI j := by decide +kernel
theorem kTakes_in : ∀ k, k < 5 → ∀ m, m < 10 → ∃ j, j < 19 ∧ kTakes (nI k) (nI m) = nI j := by decide +kernel
theorem kRests_in : ∀ k, k < 5 → ∃ j, j < 4 ∧ kRests (nI k) = nI j := by decide +kernel
theorem zIn.lt {x : Int32} {n m : Nat} (h : zIn x n) (hnm : n ≤ m) : zIn x m := by
  obtain ⟨j, h1, h2⟩ := h
  exact ⟨j, by omega, h2⟩
theorem zIn.clamp {x : Int32} {n : Nat} (h : zIn x n) (hn : n ≤ 1000) : x.toNatClampNeg < n ∧ x = nI x.toNatClampNeg := by
  obtain ⟨j, h1, rfl⟩ := h
  rw [nI_clamp (by omega)]
  exact ⟨h1, rfl⟩
theorem dNext_in {f t : Int32} {i : Nat} (hf : zIn f i) (ht : zIn t i) (hi : i ≤ 1000) : zIn (dNext f t) i := by
  obtain ⟨a, ha, rfl⟩ := hf
  obtain ⟨b, hb, rfl⟩ := ht
  unfold dNext
  by_cases h : a < b
  · rw [if_pos ((nI_ltI (by omega) (by omega)).mpr h), nI_1]
    exact ⟨a + 1, by omega, rfl⟩
  · rw [if_neg (fun q => h ((nI_ltI (by omega) (by omega)).mp q))]
    by_cases h2 : b < a
    · rw [if_pos ((nI_ltI (by omega) (by omega)).mpr h2)]
      obtain ⟨c, rfl⟩ : ∃ c, a = c + 1 := ⟨a - 1, by omega⟩
      rw [nI_pred]
      exact ⟨c, by omega, rfl⟩
    · rw [if_neg (fun q => h2 ((nI_ltI (by omega) (by omega)).mp q))]
      exact ⟨a, ha, rfl⟩
theorem dFar_in {f t : Int32} {i : Nat} (hf : zIn f i) (ht : zIn t i) (hi : i ≤ 1000) : zIn (if f < t then f + 1 else f) i := by
  obtain ⟨a, ha, rfl⟩ := hf
  obtain ⟨b, hb, rfl⟩ := ht
  by_cases h : a < b
  · rw [if_pos ((nI_ltI (by omega) (by omega)).mpr h), nI_1]
    exact ⟨a + 1, by omega, rfl⟩
  · rw [if_neg (fun q => h ((nI_ltI (by omega) (by omega)).mp q))]
    exact ⟨a, ha, rfl⟩
theorem dMiles_in {σ : Dy} {n r i : Nat} (ok : dOK σ n r i) {f t : Int32} (hf : zIn f i) (ht : zIn t i) : zIn1 (dMiles σ f t) := by
  have h := (dFar_in hf ht (by have := ok.1.2.2.1; omega)).clamp (by have := ok.1.2.2.1; omega)
  exact ok.2.2.2 _ h.1
theorem dTire_ok {σ : Dy} {n r i h : Nat} {x : Int32} (ok : dOK σ n r i) (hh : h < n) (hx : zIn x 19) : dOK (dTire σ h x) n r i := by
  have h8 : h < 8 := by have := ok.1.1; omega
  obtain ⟨-, -, -, ⟨t, ht, et⟩, hl⟩ := ok.2.1 h hh
  obtain ⟨y, hy, rfl⟩ := hx
  unfold dTire
  rw [et, nI_add]
  by_cases c : 9 < t + y
  · rw [if_pos (show (9 : Int32) < nI (t + y) from (nI_ltI (a := 9) (by omega) (by omega)).mpr c)]
    exact ok.tl h h8 ⟨10, by omega, rfl⟩ (Or.inr ⟨rfl, by decide⟩)
  · rw [if_neg (show ¬ (9 : Int32) < nI (t + y) from fun q => c ((nI_ltI (a := 9) (by omega) (by omega)).mp q))]
    refine ok.tired h h8 ⟨t + y, by omega, rfl⟩ ?_
    rcases hl with hl | ⟨-, hl⟩
    · exact Or.inl hl
    · refine Or.inr (nI_ne0 ?_ (by omega))
      rcases Nat.eq_zero_or_pos t with rfl | q
      · exact absurd et hl
      · omega
theorem dRid_ok {σ : Dy} {n r i h : Nat} (ok : dOK σ n r i) (hh : h < n) : dOK (dRid σ h) n r i := ok.ridden h (by have := ok.1.1; omega) _
theorem dGo_ok {σ : Dy} {n r i q h : Nat} (ok : dOK σ n r i) (hq : q < r) (hh : h < n) : dOK (dGo σ q h) n r i := by
  have h8 : h < 8 := by have := ok.1.1; omega
  have q4 : q < 4 := by have := ok.1.2.1; omega
  have hn : zIn (dNext (σ (51 + q)) (σ (55 + q))) i := dNext_in (ok.2.2.1 q hq).1 (ok.2.2.1 q hq).2 (by have := ok.1.2.2.1; omega)
  exact ((ok.where q q4 hn).at h h8 hn).clock q q4 _
theorem dRideH_ok {σ : Dy} {n r i q h : Nat} (ok : dOK σ n r i) (hq : q < r) (hh : h < n) : dOK (dRideH σ q h) n r i := by
  have h8 : h < 8 := by have := ok.1.1; omega
  have q4 : q < 4 := by have := ok.1.2.1; omega
  unfold dRideH
  split
  · exact dTire_ok ((dRid_ok ok hh).clock q q4 _) hh ⟨1, by omega, rfl⟩
  · refine dTire_ok (dGo_ok (dRid_ok ok hh) hq hh) hh ?_
    obtain ⟨⟨k, hk, ek⟩, -⟩ := ok.2.1 h hh
    obtain ⟨m, hm1, hm2, em⟩ := dMiles_in ok (ok.2.2.1 q hq).1 (ok.2.2.1 q hq).2
    rw [ek, em]
    exact kTires_in k hk m (by omega)
/-- who is given, and who is not -/
theorem dGiv_ran (σ : Dy) (rid : Int32) (r : Nat) : ∀ k, k < 1000 → (dGiv σ rid r k).1 = -1 ∨ ∃ j, j < k ∧ (dGiv σ rid r k).1 = nI j ∧ σ (19 + j) = σ (51 + r) ∧ σ (35 + j) = 0 ∧ ¬ hasB rid (nI j)
  | 0, _ => Or.inl rfl
  | k + 1, h => by
    show (dGivS σ rid r k (dGiv σ rid r k)).1 = -1 ∨ ∃ j, j < k + 1 ∧ (dGivS σ rid r k (dGiv σ rid r k)).1 = nI j ∧ _
    unfold dGivS
    split
    · rename_i c
      exact Or.inr ⟨k, by omega, rfl, c.1⟩
    · rcases dGiv_ran σ rid r k (by omega) with q | ⟨j, h1, h2⟩
      · exact Or.inl q
      · exact Or.inr ⟨j, by omega, h2⟩
theorem dRide_ok {σ : Dy} {rid : Int32} {n r i q : Nat} (ok : dOK σ n r i) (hq : q < r) : dOK (dRide σ rid q n).1 n r i := by
  have n8 := ok.1.1
  have q4 : q < 4 := by have := ok.1.2.1; omega
  unfold dRide
  split
  · exact ok.clock q q4 _
  · rename_i c
    rcases dGiv_ran σ rid q n (by omega) with e | ⟨j, h1, h2, -⟩
    · exact absurd e c
    · show dOK (dRideH σ q _) n r i
      rw [h2, nI_clamp (by omega)]
      exact dRideH_ok ok hq h1
theorem dRides_ok {σ : Dy} {n r i : Nat} (ok : dOK σ n r i) : ∀ k, k ≤ r → dOK (dRides σ n k).1 n r i
  | 0, _ => ok
  | k + 1, h => by
    unfold dRides
    split
    · exact dRides_ok ok k (by omega)
    · exact dRide_ok (dRides_ok ok k (by omega)) (by omega)
theorem frst_ran (p : Nat → Bool) : ∀ (k a : Nat), frst p a k = -1 ∨ ∃ j, a ≤ j ∧ j < a + k ∧ frst p a k = nI j ∧ p j = true
  | 0, a => Or.inl rfl
  | k + 1, a => by
    unfold frst
    split
    · rename_i c
      exact Or.inr ⟨a, by omega, by omega, rfl, c⟩
    · rcases frst_ran p k (a + 1) with q | ⟨j, h1, h2, h3⟩
      · exact Or.inl q
      · exact Or.inr ⟨j, by omega, by omega, h3⟩
theorem frst_none (p : Nat → Bool) : ∀ (k a : Nat), a + k < 1000 → frst p a k = -1 → ∀ j, a ≤ j → j < a + k → p j = false
  | 0, a, _, _, j, h1, h2 => by omega
  | k + 1, a, hk, h, j, h1, h2 => by
    unfold frst at h
    split at h
    · exact absurd h (by
        intro e
        have : ¬ nI a < 0 := nI_pos (by omega)
        rw [e] at this
        exact this (by decide))
    · rename_i c
      by_cases e : j = a
      · subst e; simpa using c
      · exact frst_none p k (a + 1) (by omega) h j (by omega) (by omega)
theorem dWho_ran (σ : Dy) (bar : Int32) (i n : Nat) : dWho σ bar i 0 n = -1 ∨ ∃ j, j < n ∧ dWho σ bar i 0 n = nI j ∧ dLeadOk σ bar i j := by
  rcases frst_ran (fun h => decide (dLeadOk σ bar i h)) n 0 with q | ⟨j, -, h2, h3, h4⟩
  · exact Or.inl q
  · exact Or.inr ⟨j, by omega, h3, of_decide_eq_true h4⟩
theorem dLead_ok {σ : Dy} {rid led : Int32} {n r i q : Nat} (ok : dOK σ n r i) (hq : q < i) : dOK (dLead σ rid led q n).1 n r i := by
  have n8 := ok.1.1
  have i6 := ok.1.2.2.1
  unfold dLead
  split
  · exact ok
  · rename_i c
    rcases dWho_ran σ (rid ||| led) q n with e | ⟨j, h1, h2, -⟩
    · exact absurd e c
    · show dOK (upd _ _ _) n r i
      rw [h2, nI_clamp (by omega)]
      exact ok.at j (by omega) (dNext_in ⟨q, hq, rfl⟩ (ok.2.1 j h1).2.1 (by omega))
theorem dLeads_ok {σ : Dy} {rid : Int32} {n r i : Nat} (ok : dOK σ n r i) : ∀ k, k ≤ i → dOK (dLeads σ rid n k).1 n r i
  | 0, _ => ok
  | k + 1, h => dLead_ok (dLeads_ok ok k (by omega)) (by omega)
theorem dEase_ok {σ : Dy} {n r i h : Nat} {a b : Nat} (ok : dOK σ n r i) (hh : h < n) (ha : a ≤ 10) (hb : b ≤ 10) : dOK (dEase σ h (nI a - nI b)) n r i := by
  have h8 : h < 8 := by have := ok.1.1; omega
  obtain ⟨-, -, -, -, hl⟩ := ok.2.1 h hh
  unfold dEase
  by_cases c : b < a
  · rw [pk_sub (by omega), if_neg (show ¬ nI (a - b) < 0 from nI_pos (by omega)), if_pos (show (0 : Int32) < nI (a - b) from (nI_ltI (a := 0) (by omega) (by omega)).mpr (by omega))]
    refine ok.tl h h8 ⟨a - b, by omega, rfl⟩ ?_
    rcases hl with hl | ⟨hl, -⟩
    · exact Or.inl hl
    · exact Or.inr ⟨hl, nI_ne0 (by omega) (by omega)⟩
  · by_cases e : a = b
    · subst e
      rw [pk_sub (by omega), Nat.sub_self]
      rw [if_neg (show ¬ (0 : Int32) < nI 0 by decide)]
      exact ok.tl h h8 ⟨0, by omega, by decide⟩ (Or.inl rfl)
    · have hneg : nI a - nI b < 0 := pk_sneg (by omega) (by omega)
      rw [if_pos hneg, if_neg (fun q => Int32.lt_irrefl (Int32.lt_trans hneg q))]
      exact ok.tl h h8 ⟨0, by omega, by decide⟩ (Or.inl rfl)
theorem dLeft_in {σ : Dy} {n r i h : Nat} (ok : dOK σ n r i) (hh : h < n) : ∃ a b : Nat, a ≤ 10 ∧ b ≤ 3 ∧ dLeft σ h = nI a - nI b := by
  obtain ⟨⟨k, hk, ek⟩, -, -, ⟨t, ht, et⟩, hl⟩ := ok.2.1 h hh
  unfold dLeft
  rw [et, ek]
  by_cases c : σ (35 + h) = 1
  · rw [if_pos c]
    exact ⟨t, 1, by omega, by omega, rfl⟩
  · rw [if_neg c]
    obtain ⟨j, hj, ej⟩ := kRests_in k hk
    rw [ej]
    exact ⟨t, j, by omega, by omega, rfl⟩
theorem dRests_ok {σ : Dy} {rid : Int32} {n r i : Nat} (ok : dOK σ n r i) : ∀ k, k ≤ n → dOK (dRests σ rid k) n r i
  | 0, _ => ok
  | k + 1, h => by
    unfold dRests
    split
    · exact dRests_ok ok k (by omega)
    · obtain ⟨a, b, ha, hb, e⟩ := dLeft_in (dRests_ok (rid := rid) ok k (by omega)) (show k < n by omega)
      rw [e]
      exact dEase_ok (dRests_ok ok k (by omega)) (by omega) ha (by omega)
theorem dPass_ok {σ : Dy} {n r i : Nat} (ok : dOK σ n r i) : dOK (dPass σ n r i) n r i :=
  (dRests_ok (dLeads_ok (dRides_ok ok r (Nat.le_refl _)) i (Nat.le_refl _)) n (Nat.le_refl _)).stage _
