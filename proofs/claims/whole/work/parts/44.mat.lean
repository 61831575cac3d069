/-! ===== MATCH: the odometer's first least line is what the search with cuts finds ===== -/
abbrev tkOK (σ : Dy) (n : Nat) (gv : Int32) (q d : Nat) : Prop := (d < n ↔ ¬ dAt σ q) ∧ (d < n → ¬ hasB gv (nI d) ∧ σ (19 + d) = σ (51 + q) ∧ ¬ σ (35 + d) = 1)
def tkT (σ : Dy) (q d : Nat) : Nat := (kTakes (σ (3 + d)) (dMiles σ (σ (51 + q)) (σ (55 + q)))).toNatClampNeg
def tk (σ : Dy) (n : Nat) (e : Nat → Nat) : Nat → Bool × Int32 × Nat
  | 0 => (true, 0, 0)
  | q + 1 => ((tk σ n e q).1 && decide (tkOK σ n (tk σ n e q).2.1 q (e q)), (if e q < n then (tk σ n e q).2.1 ||| (1 <<< (nI (e q) &&& 31)) else (tk σ n e q).2.1), if e q < n then (tk σ n e q).2.2 + tkT σ q (e q) else (tk σ n e q).2.2)
def byL (σ : Dy) (n r : Nat) (e : Nat → Nat) : Nat := if (tk σ n e r).1 = true then (tk σ n e r).2.2 else 99999
abbrev mSt : Type := Nat × (Nat → Nat)
def mStep (σ : Dy) (n r : Nat) (e : Nat → Nat) (st : mSt) : mSt := if byL σ n r e < st.1 then (byL σ n r e, e) else st
def mFold (f : Nat → mSt → mSt) : Nat → mSt → mSt
  | 0, p => p
  | h + 1, p => f h (mFold f h p)
def setL (e : Nat → Nat) (q h : Nat) : Nat → Nat := fun j => if j = q then h else e j
def mGo (σ : Dy) (n r : Nat) : Nat → Nat → (Nat → Nat) → mSt → mSt
  | 0, _, e, st => mStep σ n r e st
  | k + 1, q, e, st => mFold (fun h st => mGo σ n r k (q + 1) (setL e q h) st) (n + 1) st
def cvN (n d : Nat) : Int32 := if d = n then -1 else nI d
theorem mFold_id {f : Nat → mSt → mSt} {st : mSt} : ∀ k, (∀ h, h < k → f h st = st) → mFold f k st = st
  | 0, _ => rfl
  | k + 1, h => by
    show f k (mFold f k st) = st
    rw [mFold_id k (fun j hj => h j (by omega)), h k (by omega)]
section ZMAT
variable {σ : Dy} {n r i : Nat}
theorem tk_cg {e e' : Nat → Nat} : ∀ q, (∀ j, j < q → e j = e' j) → tk σ n e q = tk σ n e' q
  | 0, _ => rfl
  | q + 1, h => by
    unfold tk
    rw [tk_cg q (fun j hj => h j (by omega)), h q (by omega)]
theorem tk_set (e : Nat → Nat) (q h : Nat) : tk σ n (setL e q h) q = tk σ n e q := tk_cg q (fun j hj => if_neg (by omega))
theorem byL_cg {e e' : Nat → Nat} (h : ∀ j, j < r → e j = e' j) : byL σ n r e = byL σ n r e' := by
  unfold byL
  rw [tk_cg r h]
theorem tk_s (e : Nat → Nat) (q h : Nat) : tk σ n (setL e q h) (q + 1) = ((tk σ n e q).1 && decide (tkOK σ n (tk σ n e q).2.1 q h), (if h < n then (tk σ n e q).2.1 ||| (1 <<< (nI h &&& 31)) else (tk σ n e q).2.1), if h < n then (tk σ n e q).2.2 + tkT σ q h else (tk σ n e q).2.2) := by
  show ((tk σ n (setL e q h) q).1 && _, _, _) = _
  rw [tk_set, show setL e q h q = h from if_pos rfl]
/-- what cannot be less changes nothing -/
theorem mGo_id : ∀ k q, q + k = r → ∀ (e : Nat → Nat) (st : mSt), st.1 ≤ 99999 → ((tk σ n e q).1 = false ∨ st.1 ≤ (tk σ n e q).2.2) → mGo σ n r k q e st = st
  | 0, q, hq, e, st, h1, h2 => by
    have hq2 : q = r := by omega
    subst hq2
    refine if_neg ?_
    unfold byL
    rcases h2 with h2 | h2
    · rw [h2, if_neg (by decide)]; omega
    · split <;> omega
  | k + 1, q, hq, e, st, h1, h2 => mFold_id (n + 1) (fun h _ => mGo_id k (q + 1) (by omega) (setL e q h) st h1 (by
      rw [tk_s]
      rcases h2 with h2 | h2
      · exact Or.inl (by rw [h2]; rfl)
      · refine Or.inr ?_
        show st.1 ≤ if h < n then _ else _
        split <;> omega))
def matI (n r : Nat) (p : pP) (st : mSt) : Prop := (p.1 = false ∧ st.1 = 99999) ∨ (p.1 = true ∧ st.1 ≤ 72 ∧ p.2.1 = nI st.1 ∧ ∀ j, j < r → p.2.2.1 j = cvN n (st.2 j))
theorem matI.le {p : pP} {st : mSt} (h : matI n r p st) : st.1 ≤ 99999 := by
  rcases h with ⟨-, e⟩ | ⟨-, e, -⟩ <;> omega
theorem tkT_in (ok : dOK σ n r i) {q d : Nat} (hq : q < r) (hd : d < n) : tkT σ q d ≤ 18 ∧ kTakes (σ (3 + d)) (dMiles σ (σ (51 + q)) (σ (55 + q))) = nI (tkT σ q d) := by
  obtain ⟨t, ht, e⟩ := kTk_in (ok.2.1 d hd).1 (dMiles_in ok (ok.2.2.1 q hq).1 (ok.2.2.1 q hq).2)
  unfold tkT
  rw [e, nI_clamp (by omega)]
  exact ⟨ht, rfl⟩
theorem go_eq (ok : dOK σ n r i) : ∀ k q, q + k = r → ∀ (used : Int32) (S : Nat) (p : pP) (e : Nat → Nat) (st : mSt), tk σ n e q = (true, used, S) → S ≤ 18 * q → (∀ j, j < q → p.2.2.2 j = cvN n (e j)) → matI n r p st →
    matI n r (pGo σ n k q used (nI S) p) (mGo σ n r k q e st) ∧ ∀ j, j < q → (pGo σ n k q used (nI S) p).2.2.2 j = p.2.2.2 j
  | 0, q, hq, used, S, p, e, st, ht, hS, hl, hI => by
    have hq2 : q = r := by omega
    subst hq2
    have r4 := ok.1.2.1
    by_cases c : p.1 = true ∧ p.2.1 ≤ nI S
    · rw [show pGo σ n 0 q used (nI S) p = p from if_pos c]
      rcases hI with ⟨h1, -⟩ | ⟨h1, h2, h3, h4⟩
      · rw [h1] at c; exact absurd c.1 (by decide)
      · have hle : st.1 ≤ S := (nI_leI (by omega) (by omega)).mp (by rw [← h3]; exact c.2)
        rw [mGo_id 0 q (by omega) e st (by omega) (Or.inr (by rw [ht]; exact hle))]
        exact ⟨Or.inr ⟨h1, h2, h3, h4⟩, fun _ _ => rfl⟩
    · rw [show pGo σ n 0 q used (nI S) p = (true, nI S, va_cpy p.2.2.2 p.2.2.1 0 0 4, p.2.2.2) from if_neg c]
      have hlt : S < st.1 := by
        rcases hI with ⟨-, h2⟩ | ⟨h1, h2, h3, -⟩
        · omega
        · exact Nat.lt_of_not_le (fun z => c ⟨h1, by rw [h3]; exact (nI_leI (by omega) (by omega)).mpr z⟩)
      have hb : byL σ n q e = S := by unfold byL; rw [ht]; rfl
      rw [show mGo σ n q 0 q e st = (S, e) by show mStep σ n q e st = _; unfold mStep; rw [hb, if_pos hlt]]
      refine ⟨Or.inr ⟨rfl, by show S ≤ 72; omega, rfl, fun j hj => ?_⟩, fun _ _ => rfl⟩
      show va_cpy p.2.2.2 p.2.2.1 0 0 4 j = cvN n (e j)
      unfold va_cpy
      rw [if_pos (by omega), Nat.zero_add, Nat.sub_zero]
      exact hl j hj
  | k + 1, q, hq, used, S, p, e, st, ht, hS, hl, hI => by
    have hle := hI.le
    have n8 := ok.1.1
    have r4 := ok.1.2.1
    by_cases c : p.1 = true ∧ p.2.1 ≤ nI S
    · rw [show pGo σ n (k + 1) q used (nI S) p = p from if_pos c]
      rcases hI with ⟨h1, -⟩ | ⟨h1, h2, h3, h4⟩
      · rw [h1] at c; exact absurd c.1 (by decide)
      · have hle : st.1 ≤ S := (nI_leI (by omega) (by omega)).mp (by rw [← h3]; exact c.2)
        rw [mGo_id (k + 1) q (by omega) e st (by omega) (Or.inr (by rw [ht]; exact hle))]
        exact ⟨Or.inr ⟨h1, h2, h3, h4⟩, fun _ _ => rfl⟩
    · have bad : ∀ (h : Nat) (st' : mSt), st'.1 ≤ 99999 → ¬ tkOK σ n used q h → mGo σ n r k (q + 1) (setL e q h) st' = st' := fun h st' h1 h2 =>
        mGo_id k (q + 1) (by omega) _ st' h1 (Or.inl (by rw [tk_s, ht]; show (true && decide _) = false; rw [decide_eq_false h2]; rfl))
      have hu : ∀ (h : Nat) (x : Int32), (∀ j, j < q + 1 → upd p.2.2.2 q x j = cvN n (setL e q h j)) ↔ (x = cvN n h) := fun h x => ⟨fun w => by
          have := w q (by omega)
          rw [upd_s, show setL e q h q = h from if_pos rfl] at this
          exact this, fun w j hj => by
          by_cases d : j = q
          · rw [d, upd_s, show setL e q h q = h from if_pos rfl]; exact w
          · rw [upd_n _ _ d, show setL e q h j = e j from if_neg d]; exact hl j (by omega)⟩
      by_cases a : dAt σ q
      · have e1 : pGo σ n (k + 1) q used (nI S) p = pGo σ n k (q + 1) used (nI S) (p.1, p.2.1, p.2.2.1, upd p.2.2.2 q (-1)) := (if_neg c).trans (if_pos a)
        have e2 : mGo σ n r (k + 1) q e st = mGo σ n r k (q + 1) (setL e q n) st := by
          show mGo σ n r k (q + 1) (setL e q n) (mFold _ n st) = _
          rw [mFold_id n (fun h hh => bad h st hle (fun z => (z.1.mp hh) a))]
        rw [e1, e2]
        have ht2 : tk σ n (setL e q n) (q + 1) = (true, used, S) := by
          rw [tk_s, ht, if_neg (Nat.lt_irrefl _), if_neg (Nat.lt_irrefl _)]
          show (true && decide (tkOK σ n used q n), used, S) = _
          rw [decide_eq_true (show tkOK σ n used q n from ⟨⟨fun z => absurd z (Nat.lt_irrefl _), fun z => absurd a z⟩, fun z => absurd z (Nat.lt_irrefl _)⟩)]
          rfl
        have ih := go_eq ok k (q + 1) (by omega) used S (p.1, p.2.1, p.2.2.1, upd p.2.2.2 q (-1)) (setL e q n) st ht2 (by omega) ((hu n (-1)).mpr (if_pos rfl).symm) hI
        exact ⟨ih.1, fun j hj => (ih.2 j (by omega)).trans (upd_n _ _ (by omega))⟩
      · have e1 : pGo σ n (k + 1) q used (nI S) p = pFold (fun h p => if dMay σ used q h then pGo σ n k (q + 1) (used ||| (1 <<< (nI h &&& 31))) (nI S + kTakes (σ (3 + h)) (dMiles σ (σ (51 + q)) (σ (55 + q)))) (p.1, p.2.1, p.2.2.1, upd p.2.2.2 q (nI h)) else p) n p := (if_neg c).trans (if_neg a)
        rw [e1]
        have fold : ∀ h, h ≤ n → matI n r (pFold (fun h p => if dMay σ used q h then pGo σ n k (q + 1) (used ||| (1 <<< (nI h &&& 31))) (nI S + kTakes (σ (3 + h)) (dMiles σ (σ (51 + q)) (σ (55 + q)))) (p.1, p.2.1, p.2.2.1, upd p.2.2.2 q (nI h)) else p) h p) (mFold (fun h st => mGo σ n r k (q + 1) (setL e q h) st) h st) ∧
            ∀ j, j < q → (pFold (fun h p => if dMay σ used q h then pGo σ n k (q + 1) (used ||| (1 <<< (nI h &&& 31))) (nI S + kTakes (σ (3 + h)) (dMiles σ (σ (51 + q)) (σ (55 + q)))) (p.1, p.2.1, p.2.2.1, upd p.2.2.2 q (nI h)) else p) h p).2.2.2 j = p.2.2.2 j := by
          intro h
          induction h with
          | zero => intro _; exact ⟨hI, fun _ _ => rfl⟩
          | succ h ih =>
            intro hh
            obtain ⟨i1, i2⟩ := ih (by omega)
            generalize hP : pFold (fun h p => if dMay σ used q h then pGo σ n k (q + 1) (used ||| (1 <<< (nI h &&& 31))) (nI S + kTakes (σ (3 + h)) (dMiles σ (σ (51 + q)) (σ (55 + q)))) (p.1, p.2.1, p.2.2.1, upd p.2.2.2 q (nI h)) else p) h p = P at i1 i2
            generalize hT : mFold (fun h st => mGo σ n r k (q + 1) (setL e q h) st) h st = T at i1
            have s1 : pFold (fun h p => if dMay σ used q h then pGo σ n k (q + 1) (used ||| (1 <<< (nI h &&& 31))) (nI S + kTakes (σ (3 + h)) (dMiles σ (σ (51 + q)) (σ (55 + q)))) (p.1, p.2.1, p.2.2.1, upd p.2.2.2 q (nI h)) else p) (h + 1) p = if dMay σ used q h then pGo σ n k (q + 1) (used ||| (1 <<< (nI h &&& 31))) (nI S + kTakes (σ (3 + h)) (dMiles σ (σ (51 + q)) (σ (55 + q)))) (P.1, P.2.1, P.2.2.1, upd P.2.2.2 q (nI h)) else P := by rw [← hP]; rfl
            have s2 : mFold (fun h st => mGo σ n r k (q + 1) (setL e q h) st) (h + 1) st = mGo σ n r k (q + 1) (setL e q h) T := by rw [← hT]; rfl
            rw [s1, s2]
            have lam := (ok.2.1 h (by omega)).2.2.2.2
            by_cases m : dMay σ used q h
            · rw [if_pos m]
              obtain ⟨t1, t2⟩ := tkT_in ok (q := q) (d := h) (by omega) (by omega)
              rw [t2, nI_adds]
              have okk : tkOK σ n used q h := ⟨⟨fun _ => a, fun _ => by omega⟩, fun _ => ⟨m.2.2, m.1, fun z => by rw [m.2.1] at z; exact absurd z (by decide)⟩⟩
              have ht2 : tk σ n (setL e q h) (q + 1) = (true, used ||| (1 <<< (nI h &&& 31)), S + tkT σ q h) := by
                rw [tk_s, ht, if_pos (show h < n by omega), if_pos (show h < n by omega)]
                show (true && decide (tkOK σ n used q h), _, _) = _
                rw [decide_eq_true okk]
                rfl
              have hl2 : ∀ j, j < q + 1 → upd P.2.2.2 q (nI h) j = cvN n (setL e q h j) := fun j hj => by
                by_cases d : j = q
                · rw [d, upd_s, show setL e q h q = h from if_pos rfl]; exact (if_neg (by omega)).symm
                · rw [upd_n _ _ d, show setL e q h j = e j from if_neg d, i2 j (by omega)]; exact hl j (by omega)
              have ih2 := go_eq ok k (q + 1) (by omega) (used ||| (1 <<< (nI h &&& 31))) (S + tkT σ q h) (P.1, P.2.1, P.2.2.1, upd P.2.2.2 q (nI h)) (setL e q h) T ht2 (by omega) hl2 i1
              exact ⟨ih2.1, fun j hj => ((ih2.2 j (by omega)).trans (upd_n _ _ (by omega))).trans (i2 j hj)⟩
            · rw [if_neg m, bad h T i1.le (fun z => m ⟨(z.2 (by omega)).2.1, lam.resolve_right (fun w => (z.2 (by omega)).2.2 w.1), (z.2 (by omega)).1⟩)]
              exact ⟨i1, i2⟩
        obtain ⟨f1, f2⟩ := fold n (Nat.le_refl _)
        have e2 : mGo σ n r (k + 1) q e st = mFold (fun h st => mGo σ n r k (q + 1) (setL e q h) st) n st := by
          show mGo σ n r k (q + 1) (setL e q n) (mFold _ n st) = _
          exact bad n _ f1.le (fun z => absurd (z.1.mpr a) (Nat.lt_irrefl _))
        rw [e2]
        exact ⟨f1, f2⟩
def mTop (A : aSt) : mSt := mGo A.s A.n A.r A.r 0 (fun _ => 0) (99999, fun _ => 0)
def aMatchM (A : aSt) (x : Int32) : Int32 := if ¬ x = -1 ∧ ¬ (0 ≤ x ∧ x < nI A.r) then -2 else if (mTop A).1 = 99999 then -1 else if x = -1 then nI (mTop A).1 else cvN A.n ((mTop A).2 x.toNatClampNeg)
theorem match_eq {A : aSt} (ok : aOK A) (b t : Nat → Int32) (x : Int32) : aMatch A b t x = aMatchM A x := by
  have h := (go_eq ok.s A.r 0 (by omega) 0 0 (false, 0, b, t) (fun _ => 0) (99999, fun _ => 0) rfl (Nat.le_refl _) (fun j hj => absurd hj (Nat.not_lt_zero _)) (Or.inl ⟨rfl, rfl⟩)).1
  have h2 : matI A.n A.r (aPair A b t) (mTop A) := h
  unfold aMatch aMatchM
  by_cases c : ¬ x = -1 ∧ ¬ (0 ≤ x ∧ x < nI A.r)
  · rw [if_pos c, if_pos c]
  · rw [if_neg c, if_neg c]
    rcases h2 with ⟨e1, e2⟩ | ⟨e1, e2, e3, e4⟩
    · rw [if_neg (by rw [e1]; decide), if_pos e2]
    · rw [if_pos e1, if_neg (show ¬ (mTop A).1 = 99999 by omega)]
      by_cases d : x = -1
      · rw [if_pos d, if_pos d, e3]
      · rw [if_neg d, if_neg d]
        have r4 : A.r ≤ 4 := ok.s.1.2.1
        obtain ⟨q, hq, rfl⟩ := (zInD x (n := A.r) (by omega)).resolve_right (fun z => c ⟨d, z⟩)
        rw [nI_clamp (by omega)]
        exact e4 q hq
theorem mStep_in {e : Nat → Nat} {st : mSt} (h : st.1 ≤ 99999) : (mStep σ n r e st).1 ≤ 99999 := by
  unfold mStep
  split
  · rename_i c
    show byL σ n r e ≤ 99999
    omega
  · exact h
theorem mGo_in : ∀ k q (e : Nat → Nat) (st : mSt), st.1 ≤ 99999 → (mGo σ n r k q e st).1 ≤ 99999
  | 0, _, _, _, h => mStep_in h
  | k + 1, q, e, st, h => by
    have : ∀ m, (mFold (fun h st => mGo σ n r k (q + 1) (setL e q h) st) m st).1 ≤ 99999 := by
      intro m
      induction m with
      | zero => exact h
      | succ m ih => exact mGo_in k (q + 1) _ _ ih
    exact this (n + 1)
theorem mFold_in {k q : Nat} {e : Nat → Nat} {st : mSt} (h : st.1 ≤ 99999) : ∀ m, (mFold (fun h st => mGo σ n r k (q + 1) (setL e q h) st) m st).1 ≤ 99999
  | 0 => h
  | m + 1 => mGo_in k (q + 1) _ _ (mFold_in h m)
end ZMAT
