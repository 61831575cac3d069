/-! ===== the abstract state of the whole, and how the class's cells hold it ===== -/
def aSt : Type := (Nat × Nat × Nat) × Dy × (Nat × (Nat → Dy)) × ((Nat → Bool) × (Nat → Dy)) × Dy × (Nat × (Nat → Int32)) × (Nat × (Nat → Int32) × (Nat → Int32) × (Nat → Int32)) × ((Nat → Bool) × (Nat → Nat) × (Nat → Nat → Int32) × (Nat → Nat → Int32))
def aSt.mk (nri : Nat × Nat × Nat) (s : Dy) (past : Nat × (Nat → Dy)) (kept : (Nat → Bool) × (Nat → Dy)) (t : Dy) (text : Nat × (Nat → Int32)) (see : Nat × (Nat → Int32) × (Nat → Int32) × (Nat → Int32)) (book : (Nat → Bool) × (Nat → Nat) × (Nat → Nat → Int32) × (Nat → Nat → Int32)) : aSt := (nri, s, past, kept, t, text, see, book)
def aSt.nri (A : aSt) : Nat × Nat × Nat := A.1
def aSt.n (A : aSt) : Nat := A.1.1
def aSt.r (A : aSt) : Nat := A.1.2.1
def aSt.i (A : aSt) : Nat := A.1.2.2
def aSt.s (A : aSt) : Dy := A.2.1
def aSt.past (A : aSt) : Nat × (Nat → Dy) := A.2.2.1
def aSt.u (A : aSt) : Nat := A.2.2.1.1
def aSt.P (A : aSt) : Nat → Dy := A.2.2.1.2
def aSt.kept (A : aSt) : (Nat → Bool) × (Nat → Dy) := A.2.2.2.1
def aSt.kb (A : aSt) : Nat → Bool := A.2.2.2.1.1
def aSt.K (A : aSt) : Nat → Dy := A.2.2.2.1.2
def aSt.t (A : aSt) : Dy := A.2.2.2.2.1
def aSt.text (A : aSt) : Nat × (Nat → Int32) := A.2.2.2.2.2.1
def aSt.L (A : aSt) : Nat := A.2.2.2.2.2.1.1
def aSt.T (A : aSt) : Nat → Int32 := A.2.2.2.2.2.1.2
def aSt.see (A : aSt) : Nat × (Nat → Int32) × (Nat → Int32) × (Nat → Int32) := A.2.2.2.2.2.2.1
def aSt.v (A : aSt) : Nat := A.2.2.2.2.2.2.1.1
def aSt.sm (A : aSt) : Nat → Int32 := A.2.2.2.2.2.2.1.2.1
def aSt.st (A : aSt) : Nat → Int32 := A.2.2.2.2.2.2.1.2.2.1
def aSt.sd (A : aSt) : Nat → Int32 := A.2.2.2.2.2.2.1.2.2.2
def aSt.book (A : aSt) : (Nat → Bool) × (Nat → Nat) × (Nat → Nat → Int32) × (Nat → Nat → Int32) := A.2.2.2.2.2.2.2
def aSt.bo (A : aSt) : Nat → Bool := A.2.2.2.2.2.2.2.1
def aSt.ln (A : aSt) : Nat → Nat := A.2.2.2.2.2.2.2.2.1
def aSt.so (A : aSt) : Nat → Nat → Int32 := A.2.2.2.2.2.2.2.2.2.1
def aSt.va (A : aSt) : Nat → Nat → Int32 := A.2.2.2.2.2.2.2.2.2.2
def aSt.setS (A : aSt) (σ : Dy) : aSt := aSt.mk A.nri σ A.past A.kept A.t A.text A.see A.book
def aSt.setPast (A : aSt) (p : Nat × (Nat → Dy)) : aSt := aSt.mk A.nri A.s p A.kept A.t A.text A.see A.book
def aSt.setKept (A : aSt) (k : (Nat → Bool) × (Nat → Dy)) : aSt := aSt.mk A.nri A.s A.past k A.t A.text A.see A.book
def aSt.setText (A : aSt) (x : Nat × (Nat → Int32)) : aSt := aSt.mk A.nri A.s A.past A.kept A.t x A.see A.book
def aSt.setSee (A : aSt) (x : Nat × (Nat → Int32) × (Nat → Int32) × (Nat → Int32)) : aSt := aSt.mk A.nri A.s A.past A.kept A.t A.text x A.book
def aSt.setBook (A : aSt) (x : (Nat → Bool) × (Nat → Nat) × (Nat → Nat → Int32) × (Nat → Nat → Int32)) : aSt := aSt.mk A.nri A.s A.past A.kept A.t A.text A.see x
/-- a row as texts tell it: the day that begins -/
def dFresh (τ : Dy) (n : Nat) : Prop := τ 2 = 0 ∧ (∀ h, h < 8 → τ (35 + h) = 0 ∧ τ (43 + h) = 0) ∧ (∀ q, q < 4 → τ (59 + q) = 0) ∧ (∀ h, h < n → τ (19 + h) = τ (11 + h))
def aOK (A : aSt) : Prop :=
  dOK A.s A.n A.r A.i ∧ (∀ j, j < A.u → dOK (A.P j) A.n A.r A.i) ∧ (∀ k, k < 2 → A.kb k = true → dOK (A.K k) A.n A.r A.i) ∧ dOK A.t A.n A.r A.i ∧ dFresh A.t A.n ∧
  A.u ≤ 8 ∧ A.L ≤ 200 ∧ A.v ≤ 6 ∧ (∀ b, b < 4 → A.ln b ≤ 10 ∧ (A.bo b = false → A.ln b = 0)) ∧ (∀ b, b < 4 → ∀ j, j < 10 → zIn (A.so b j) 4 ∧ (A.so b j = 2 → zIn (A.va b j) 4))
section ZAOK
variable {A : aSt}
theorem aOK.s (h : aOK A) : dOK A.s A.n A.r A.i := h.1
theorem aOK.P (h : aOK A) : ∀ j, j < A.u → dOK (A.P j) A.n A.r A.i := h.2.1
theorem aOK.K (h : aOK A) : ∀ k, k < 2 → A.kb k = true → dOK (A.K k) A.n A.r A.i := h.2.2.1
theorem aOK.t (h : aOK A) : dOK A.t A.n A.r A.i := h.2.2.2.1
theorem aOK.f (h : aOK A) : dFresh A.t A.n := h.2.2.2.2.1
theorem aOK.u (h : aOK A) : A.u ≤ 8 := h.2.2.2.2.2.1
theorem aOK.L (h : aOK A) : A.L ≤ 200 := h.2.2.2.2.2.2.1
theorem aOK.v (h : aOK A) : A.v ≤ 6 := h.2.2.2.2.2.2.2.1
theorem aOK.ln (h : aOK A) : ∀ b, b < 4 → A.ln b ≤ 10 ∧ (A.bo b = false → A.ln b = 0) := h.2.2.2.2.2.2.2.2.1
theorem aOK.so (h : aOK A) : ∀ b, b < 4 → ∀ j, j < 10 → zIn (A.so b j) 4 ∧ (A.so b j = 2 → zIn (A.va b j) 4) := h.2.2.2.2.2.2.2.2.2
end ZAOK
def bSz (A : aSt) (b : Nat) : Int32 := if A.bo b = true then nI (A.ln b) else -1
def cRoad (M : zM) (A : aSt) : Prop := dRoad M 1 A.t A.n A.r A.i
def cDay (M : zM) (A : aSt) : Prop := dRep M 18 A.s A.n A.r A.i
def cPast (M : zM) (A : aSt) : Prop := ∃ p, p < 8 ∧ M 32 1 = nI p ∧ M 32 2 = nI A.u ∧ ∀ j, j < A.u → dRep M (34 + 7 * ((p + 8 - A.u + j) % 8)) (A.P j) A.n A.r A.i
def cKept (M : zM) (A : aSt) : Prop := ∀ k, k < 2 → (M 105 k = if A.kb k = true then 1 else 0) ∧ (A.kb k = true → dRep M (91 + 7 * k) (A.K k) A.n A.r A.i)
def cText (M : zM) (A : aSt) : Prop := M 8 2 = nI A.L ∧ ∀ j, j < A.L → M 9 j = A.T j
def cSee (M : zM) (A : aSt) : Prop := M 109 3 = nI A.v ∧ ∀ j, j < A.v → M 110 j = A.sm j ∧ M 111 j = A.st j ∧ M 112 j = A.sd j
def cBook (M : zM) (A : aSt) : Prop := ∀ b, b < 4 → M (115 + 3 * b) 2 = bSz A b ∧ ∀ j, j < 10 → M (115 + 3 * b + 1) j = A.so b j ∧ M (115 + 3 * b + 2) j = A.va b j
def RelC (M : zM) (A : aSt) : Prop := cRoad M A ∧ cDay M A ∧ cPast M A ∧ cKept M A ∧ cText M A ∧ cSee M A ∧ cBook M A
section ZREL
variable {M : zM} {A : aSt}
theorem RelC.road (h : RelC M A) : cRoad M A := h.1
theorem RelC.day (h : RelC M A) : cDay M A := h.2.1
theorem RelC.past (h : RelC M A) : cPast M A := h.2.2.1
theorem RelC.kept (h : RelC M A) : cKept M A := h.2.2.2.1
theorem RelC.text (h : RelC M A) : cText M A := h.2.2.2.2.1
theorem RelC.see (h : RelC M A) : cSee M A := h.2.2.2.2.2.1
theorem RelC.book (h : RelC M A) : cBook M A := h.2.2.2.2.2.2
end ZREL
section ZSTATE
variable {M M2 : zM} {A : aSt}
theorem cRoad.keep (h : cRoad M A) (hk : ∀ k, 1 ≤ k → k < 8 → M2 k = M k) : cRoad M2 A := dRoad.keep h (fun k a b => hk k a (by omega))
theorem cDay.keep (h : cDay M A) (hk : ∀ k, (1 ≤ k ∧ k < 18) ∨ (18 ≤ k ∧ k < 25) → M2 k = M k) : cDay M2 A := dRep.keep h (fun k a b => hk k (Or.inl ⟨a, b⟩)) (fun k a b => hk k (Or.inr ⟨a, by omega⟩))
theorem dTold.keep4 {σ : Dy} {n r i : Nat} (h : dTold M σ n r i) (hM : ∀ k, 1 ≤ k → k < 8 → M2 k = M k) : dTold M2 σ n r i := by
  obtain ⟨h1, h2, h3, h4, h5⟩ := h
  refine ⟨?_, ?_, ?_, fun j q => ?_, fun k q => ?_⟩
  · rw [hM 1 (by omega) (by omega)]; exact h1
  · rw [hM 1 (by omega) (by omega)]; exact h2
  · rw [hM 1 (by omega) (by omega)]; exact h3
  · rw [hM 2 (by omega) (by omega)]; exact h4 j q
  · rw [hM 3 (by omega) (by omega), hM 4 (by omega) (by omega)]; exact h5 k q
theorem dRep.keep4 {σ : Dy} {n r i d : Nat} (h : dRep M d σ n r i) (h1 : ∀ k, 1 ≤ k → k < 8 → M2 k = M k) (h2 : ∀ k, d ≤ k → k ≤ d + 6 → M2 k = M k) : dRep M2 d σ n r i := by
  obtain ⟨a1, a2, a3, a4, a5⟩ := h
  refine ⟨a1.keep4 h1, ?_, ?_, fun h hh => ?_, fun q hq => ?_⟩
  · rw [h2 d (by omega) (by omega)]; exact a2
  · rw [h2 d (by omega) (by omega)]; exact a3
  · rw [h2 (d + 1) (by omega) (by omega), h2 (d + 2) (by omega) (by omega), h2 (d + 3) (by omega) (by omega)]; exact a4 h hh
  · rw [h2 (d + 4) (by omega) (by omega), h2 (d + 5) (by omega) (by omega), h2 (d + 6) (by omega) (by omega)]; exact a5 q hq
theorem cDay.keep4 (h : cDay M A) (hk : ∀ k, (1 ≤ k ∧ k < 8) ∨ (18 ≤ k ∧ k < 25) → M2 k = M k) : cDay M2 A := dRep.keep4 h (fun k a b => hk k (Or.inl ⟨a, b⟩)) (fun k a b => hk k (Or.inr ⟨a, by omega⟩))
theorem cPast.keep (h : cPast M A) (hk : ∀ k, (1 ≤ k ∧ k < 8) ∨ (32 ≤ k ∧ k < 90) → M2 k = M k) : cPast M2 A := by
  obtain ⟨p, h1, h2, h3, h4⟩ := h
  refine ⟨p, h1, ?_, ?_, fun j hj => (h4 j hj).keep4 (fun k a b => hk k (Or.inl ⟨a, b⟩)) (fun k a b => hk k (Or.inr ⟨by omega, by omega⟩))⟩
  · rw [hk 32 (by omega)]; exact h2
  · rw [hk 32 (by omega)]; exact h3
theorem cKept.keep (h : cKept M A) (hk : ∀ k, (1 ≤ k ∧ k < 8) ∨ (91 ≤ k ∧ k < 106) → M2 k = M k) : cKept M2 A := fun k hk2 => by
  obtain ⟨h1, h2⟩ := h k hk2
  refine ⟨?_, fun z => (h2 z).keep4 (fun k a b => hk k (Or.inl ⟨a, b⟩)) (fun k a b => hk k (Or.inr ⟨by omega, by omega⟩))⟩
  rw [hk 105 (by omega)]; exact h1
theorem cText.keep (h : cText M A) (hk : ∀ k, k = 8 ∨ k = 9 → M2 k = M k) : cText M2 A := by
  unfold cText
  rw [hk 8 (by omega), hk 9 (by omega)]
  exact h
theorem cSee.keep (h : cSee M A) (hk : ∀ k, 109 ≤ k ∧ k < 113 → M2 k = M k) : cSee M2 A := by
  unfold cSee
  rw [hk 109 (by omega), hk 110 (by omega), hk 111 (by omega), hk 112 (by omega)]
  exact h
theorem cBook.keep (h : cBook M A) (hk : ∀ k, 115 ≤ k ∧ k < 127 → M2 k = M k) : cBook M2 A := fun b hb => by
  rw [hk (115 + 3 * b) (by omega), hk (115 + 3 * b + 1) (by omega), hk (115 + 3 * b + 2) (by omega)]
  exact h b hb
/-- what is not looked at may change -/
theorem RelC.keep (h : RelC M A) (hk : ∀ k, (1 ≤ k ∧ k < 10) ∨ (18 ≤ k ∧ k < 25) ∨ (32 ≤ k ∧ k < 90) ∨ (91 ≤ k ∧ k < 106) ∨ (109 ≤ k ∧ k < 127) → M2 k = M k) : RelC M2 A :=
  ⟨h.road.keep (fun k a b => hk k (by omega)), h.day.keep4 (fun k a => hk k (by omega)), h.past.keep (fun k a => hk k (by omega)), h.kept.keep (fun k a => hk k (by omega)), h.text.keep (fun k a => hk k (by omega)), h.see.keep (fun k a => hk k (by omega)), h.book.keep (fun k a => hk k (by omega))⟩
end ZSTATE
