/-! ===== steps of the whole: what each call does to the abstract state ===== -/
def aPush (A : aSt) : Nat × (Nat → Dy) := if A.u = 8 then (8, fun j => if j = 7 then A.s else A.P (j + 1)) else (A.u + 1, fun j => if j = A.u then A.s else A.P j)
def zStp (M : zM) (res : aSt × Int32) (r' : Int32) (M' : zM) : Prop := r' = res.2 ∧ RelC M' res.1 ∧ ∀ k, 127 ≤ k → M' k = M k
section ZSTEP
variable {M M' : zM} {A : aSt} {σ : Dy}
theorem zStp.of {res : aSt × Int32} {x : Int32} (R : RelC M A) (e : res = (A, x)) : zStp M res x M := by
  rw [e]
  exact ⟨rfl, R, fun _ _ => rfl⟩
theorem zStp.mk {res : aSt × Int32} {x y : Int32} {A' : aSt} (R : RelC M' A') (hf : ∀ k, 127 ≤ k → M' k = M k) (e : res = (A', y)) (hx : x = y) : zStp M res x M' := by
  rw [e, hx]
  exact ⟨rfl, R, hf⟩
theorem RelC.setS (C : RelC M A) (R : zDR M M' 18 σ A.n A.r A.i) : RelC M' (A.setS σ) ∧ ∀ k, 127 ≤ k → M' k = M k := by
  have hk : ∀ k, (k < 18 ∨ 24 < k) → M' k = M k := fun k a => R.2 k (by omega)
  refine ⟨⟨C.road.keep (fun k a b => hk k (by omega)), R.1, C.past.keep (fun k a => ?_), C.kept.keep (fun k a => ?_), C.text.keep (fun k a => hk k (by omega)), C.see.keep (fun k a => hk k (by omega)), C.book.keep (fun k a => hk k (by omega))⟩, fun k a => hk k (by omega)⟩
  · exact hk k (by omega)
  · exact hk k (by omega)
theorem RelC.push (C : RelC M A) (ok : aOK A) {p : Nat} (hp : p < 8) (h3 : ∀ j, j < A.u → dRep M (34 + 7 * ((p + 8 - A.u + j) % 8)) (A.P j) A.n A.r A.i)
    (q : ∃ M1, zDR M M1 (34 + 7 * p) A.s A.n A.r A.i ∧ M' = z_up (z_up M1 32 1 (nI ((p + 1) % 8))) 32 2 (nI (if A.u + 1 < 8 then A.u + 1 else 8))) :
    RelC M' (A.setPast (aPush A)) ∧ ∀ k, 127 ≤ k → M' k = M k := by
  obtain ⟨M1, R, e⟩ := q
  have hk : ∀ k, k ≠ 32 → (k < 34 + 7 * p ∨ 34 + 7 * p + 6 < k) → M' k = M k := fun k a b => by
    rw [e, z_up_n _ _ _ (by omega), z_up_n _ _ _ (by omega)]; exact R.2 k b
  have hd : dRep M' (34 + 7 * p) A.s A.n A.r A.i := R.1.keep4 (fun k a b => by rw [e, z_up_n _ _ _ (by omega), z_up_n _ _ _ (by omega)]) (fun k a b => by rw [e, z_up_n _ _ _ (by omega), z_up_n _ _ _ (by omega)])
  have ho : ∀ x, x < 8 → x ≠ p → ∀ τ, dRep M (34 + 7 * x) τ A.n A.r A.i → dRep M' (34 + 7 * x) τ A.n A.r A.i := fun x hx hxp τ hτ => hτ.keep4 (fun k a b => hk k (by omega) (by omega)) (fun k a b => hk k (by omega) (by omega))
  have u8 : A.u ≤ 8 := ok.u
  have hP : cPast M' (A.setPast (aPush A)) := by
    refine ⟨(p + 1) % 8, by omega, ?_, ?_, fun j hj => ?_⟩
    · rw [e, z_up_jn _ _ (by omega), z_up_kj]
    · rw [e, z_up_kj]
      show nI _ = nI (aPush A).1
      unfold aPush
      by_cases c : A.u = 8
      · rw [if_pos c, c]; rfl
      · rw [if_neg c]
        by_cases c2 : A.u + 1 < 8
        · rw [if_pos c2]
        · rw [if_neg c2, show A.u + 1 = 8 by omega]
    · have hj2 : j < (aPush A).1 := hj
      show dRep M' (34 + 7 * (((p + 1) % 8 + 8 - (aPush A).1 + j) % 8)) ((aPush A).2 j) A.n A.r A.i
      unfold aPush at hj2 ⊢
      by_cases c : A.u = 8
      · rw [if_pos c] at hj2 ⊢
        show dRep M' (34 + 7 * (((p + 1) % 8 + 8 - 8 + j) % 8)) (if j = 7 then A.s else A.P (j + 1)) A.n A.r A.i
        have hj3 : j < 8 := hj2
        by_cases c2 : j = 7
        · rw [if_pos c2, show ((p + 1) % 8 + 8 - 8 + j) % 8 = p by omega]; exact hd
        · rw [if_neg c2, show ((p + 1) % 8 + 8 - 8 + j) % 8 = (p + 8 - A.u + (j + 1)) % 8 by omega]
          exact ho _ (by omega) (by omega) _ (h3 (j + 1) (by omega))
      · rw [if_neg c] at hj2 ⊢
        show dRep M' (34 + 7 * (((p + 1) % 8 + 8 - (A.u + 1) + j) % 8)) (if j = A.u then A.s else A.P j) A.n A.r A.i
        have hj3 : j < A.u + 1 := hj2
        by_cases c2 : j = A.u
        · rw [if_pos c2, show ((p + 1) % 8 + 8 - (A.u + 1) + j) % 8 = p by omega]; exact hd
        · rw [if_neg c2, show ((p + 1) % 8 + 8 - (A.u + 1) + j) % 8 = (p + 8 - A.u + j) % 8 by omega]
          exact ho _ (by omega) (by omega) _ (h3 j (by omega))
  exact ⟨⟨C.road.keep (fun k a b => hk k (by omega) (by omega)), C.day.keep4 (fun k a => hk k (by omega) (by omega)), hP, C.kept.keep (fun k a => hk k (by omega) (by omega)), C.text.keep (fun k a => hk k (by omega) (by omega)), C.see.keep (fun k a => hk k (by omega) (by omega)), C.book.keep (fun k a => hk k (by omega) (by omega))⟩, fun k a => hk k (by omega) (by omega)⟩
theorem aOK.setS (h : aOK A) (ok : dOK σ A.n A.r A.i) : aOK (A.setS σ) := ⟨ok, h.2⟩
theorem aOK.push (h : aOK A) : aOK (A.setPast (aPush A)) := by
  have u8 := h.u
  refine ⟨h.s, fun j hj => ?_, h.2.2.1, h.2.2.2.1, h.2.2.2.2.1, ?_, h.2.2.2.2.2.2⟩
  · have hj2 : j < (aPush A).1 := hj
    show dOK ((aPush A).2 j) A.n A.r A.i
    unfold aPush at hj2 ⊢
    by_cases c : A.u = 8
    · rw [if_pos c] at hj2 ⊢
      show dOK (if j = 7 then A.s else A.P (j + 1)) A.n A.r A.i
      have hj3 : j < 8 := hj2
      split
      · exact h.s
      · exact h.P _ (by omega)
    · rw [if_neg c] at hj2 ⊢
      show dOK (if j = A.u then A.s else A.P j) A.n A.r A.i
      have hj3 : j < A.u + 1 := hj2
      split
      · exact h.s
      · exact h.P _ (by omega)
  · show (aPush A).1 ≤ 8
    unfold aPush
    split
    · exact Nat.le_refl _
    · show A.u + 1 ≤ 8
      omega
theorem RelC.setText (C : RelC M A) {x : Nat × (Nat → Int32)} (h1 : M' 8 2 = nI x.1) (h2 : ∀ j, j < x.1 → M' 9 j = x.2 j) (hk : ∀ k, k ≠ 8 → k ≠ 9 → M' k = M k) : RelC M' (A.setText x) ∧ ∀ k, 127 ≤ k → M' k = M k :=
  ⟨⟨C.road.keep (fun k a b => hk k (by omega) (by omega)), C.day.keep4 (fun k a => hk k (by omega) (by omega)), C.past.keep (fun k a => hk k (by omega) (by omega)), C.kept.keep (fun k a => hk k (by omega) (by omega)), ⟨h1, h2⟩, C.see.keep (fun k a => hk k (by omega) (by omega)), C.book.keep (fun k a => hk k (by omega) (by omega))⟩, fun k a => hk k (by omega) (by omega)⟩
theorem RelC.setSee (C : RelC M A) {x : Nat × (Nat → Int32) × (Nat → Int32) × (Nat → Int32)} (h1 : M' 109 3 = nI x.1) (h2 : ∀ j, j < x.1 → M' 110 j = x.2.1 j ∧ M' 111 j = x.2.2.1 j ∧ M' 112 j = x.2.2.2 j) (hk : ∀ k, (k < 109 ∨ 112 < k) → M' k = M k) : RelC M' (A.setSee x) ∧ ∀ k, 127 ≤ k → M' k = M k :=
  ⟨⟨C.road.keep (fun k a b => hk k (by omega)), C.day.keep4 (fun k a => hk k (by omega)), C.past.keep (fun k a => hk k (by omega)), C.kept.keep (fun k a => hk k (by omega)), C.text.keep (fun k a => hk k (by omega)), ⟨h1, h2⟩, C.book.keep (fun k a => hk k (by omega))⟩, fun k a => hk k (by omega)⟩
theorem RelC.setBook (C : RelC M A) {x : (Nat → Bool) × (Nat → Nat) × (Nat → Nat → Int32) × (Nat → Nat → Int32)} (h : cBook M' (A.setBook x)) (hk : ∀ k, (k < 115 ∨ 126 < k) → M' k = M k) : RelC M' (A.setBook x) ∧ ∀ k, 127 ≤ k → M' k = M k :=
  ⟨⟨C.road.keep (fun k a b => hk k (by omega)), C.day.keep4 (fun k a => hk k (by omega)), C.past.keep (fun k a => hk k (by omega)), C.kept.keep (fun k a => hk k (by omega)), C.text.keep (fun k a => hk k (by omega)), C.see.keep (fun k a => hk k (by omega)), h⟩, fun k a => hk k (by omega)⟩
theorem RelC.setPast (C : RelC M A) {x : Nat × (Nat → Dy)} (h : cPast M' (A.setPast x)) (hk : ∀ k, (k < 32 ∨ 89 < k) → M' k = M k) : RelC M' (A.setPast x) ∧ ∀ k, 127 ≤ k → M' k = M k :=
  ⟨⟨C.road.keep (fun k a b => hk k (by omega)), C.day.keep4 (fun k a => hk k (by omega)), h, C.kept.keep (fun k a => hk k (by omega)), C.text.keep (fun k a => hk k (by omega)), C.see.keep (fun k a => hk k (by omega)), C.book.keep (fun k a => hk k (by omega))⟩, fun k a => hk k (by omega)⟩
theorem RelC.clear (C : RelC M A) (f : Nat → Dy) (e : M' = z_up M 32 2 0) : RelC M' (A.setPast (0, f)) ∧ ∀ k, 127 ≤ k → M' k = M k := by
  obtain ⟨p, hp, h1, h2, h3⟩ := C.past
  refine C.setPast ⟨p, hp, ?_, ?_, fun j hj => absurd hj (Nat.not_lt_zero _)⟩ (fun k a => by rw [e, z_up_n _ _ _ (by omega)])
  · rw [e, z_up_jn _ _ (by omega)]; exact h1
  · rw [e, z_up_kj]; rfl
theorem RelC.setKept (C : RelC M A) {x : (Nat → Bool) × (Nat → Dy)} (h : cKept M' (A.setKept x)) (hk : ∀ k, (k < 91 ∨ 105 < k) → M' k = M k) : RelC M' (A.setKept x) ∧ ∀ k, 127 ≤ k → M' k = M k :=
  ⟨⟨C.road.keep (fun k a b => hk k (by omega)), C.day.keep4 (fun k a => hk k (by omega)), C.past.keep (fun k a => hk k (by omega)), h, C.text.keep (fun k a => hk k (by omega)), C.see.keep (fun k a => hk k (by omega)), C.book.keep (fun k a => hk k (by omega))⟩, fun k a => hk k (by omega)⟩
/-- a day of the class that is not in the relation may change: cells 25 .. 31 -/
theorem RelC.fore (C : RelC M A) (hk : ∀ k, (k < 25 ∨ 31 < k) → M' k = M k) : RelC M' A ∧ ∀ k, 127 ≤ k → M' k = M k := ⟨C.keep (fun k a => hk k (by omega)), fun k a => hk k (by omega)⟩
/-- undone -/
theorem RelC.undo (C : RelC M A) {p u : Nat} (hp : p < 8) (hu : A.u = u + 1) (u8 : A.u ≤ 8) (h3 : ∀ j, j < A.u → dRep M (34 + 7 * ((p + 8 - A.u + j) % 8)) (A.P j) A.n A.r A.i)
    (R : zDR (z_up (z_up M 32 1 (nI ((p + 7) % 8))) 32 2 (nI u)) M' 18 (A.P u) A.n A.r A.i) : RelC M' ((A.setPast (u, A.P)).setS (A.P u)) ∧ ∀ k, 127 ≤ k → M' k = M k := by
  have C1 := C.setPast (M' := z_up (z_up M 32 1 (nI ((p + 7) % 8))) 32 2 (nI u)) (x := (u, A.P)) ⟨(p + 7) % 8, by omega, by rw [z_up_jn _ _ (by omega), z_up_kj], by rw [z_up_kj]; rfl, fun j hj => ?_⟩ (fun k a => by rw [z_up_n _ _ _ (by omega), z_up_n _ _ _ (by omega)])
  · have C2 := C1.1.setS (σ := A.P u) R
    exact ⟨C2.1, fun k a => (C2.2 k a).trans (C1.2 k a)⟩
  · have hj2 : j < u := hj
    show dRep _ (34 + 7 * (((p + 7) % 8 + 8 - u + j) % 8)) (A.P j) A.n A.r A.i
    rw [show ((p + 7) % 8 + 8 - u + j) % 8 = (p + 8 - A.u + j) % 8 by omega]
    exact (h3 j (by omega)).keep4 (fun k a b => by rw [z_up_n _ _ _ (by omega), z_up_n _ _ _ (by omega)]) (fun k a b => by rw [z_up_n _ _ _ (by omega), z_up_n _ _ _ (by omega)])
theorem aOK.setText (h : aOK A) {x : Nat × (Nat → Int32)} (hx : x.1 ≤ 200) : aOK (A.setText x) := ⟨h.1, h.2.1, h.2.2.1, h.2.2.2.1, h.2.2.2.2.1, h.2.2.2.2.2.1, hx, h.2.2.2.2.2.2.2⟩
theorem aOK.setSee (h : aOK A) {x : Nat × (Nat → Int32) × (Nat → Int32) × (Nat → Int32)} (hx : x.1 ≤ 6) : aOK (A.setSee x) := ⟨h.1, h.2.1, h.2.2.1, h.2.2.2.1, h.2.2.2.2.1, h.2.2.2.2.2.1, h.2.2.2.2.2.2.1, hx, h.2.2.2.2.2.2.2.2⟩
theorem aOK.setPast (h : aOK A) {x : Nat} (hx : x ≤ A.u) : aOK (A.setPast (x, A.P)) := ⟨h.1, fun j hj => h.P j (Nat.lt_of_lt_of_le hj hx), h.2.2.1, h.2.2.2.1, h.2.2.2.2.1, Nat.le_trans hx h.u, h.2.2.2.2.2.2⟩
theorem aOK.setKept (h : aOK A) {x : (Nat → Bool) × (Nat → Dy)} (hx : ∀ k, k < 2 → x.1 k = true → dOK (x.2 k) A.n A.r A.i) : aOK (A.setKept x) := ⟨h.1, h.2.1, hx, h.2.2.2⟩
end ZSTEP
