/-! ===== the class: the rest of Day ===== -/
section ZCOPYE
variable {g : zG} {l : Launch} {y : MethodName} {cc : ByteArray} {nL : Nat} {ret : Option FieldType} {d mc ms : Nat} {P : Option Value → zS → zM → Prop} {pc ks ns : Nat} {S : zS} {M : zM} {lo st : List Value}
theorem z_copyE {k0 k1 n0 n1 a b m' : Nat} {sp dp len : Int32} {index : Nat} (hl : Cond.methodLink y.cls index arraycopyName ∈ zW) (hnx : Cond.native arraycopyName ∈ zW) (hsx : Cond.static arraycopyName ∈ zW) (hix : Cond.initialized "java/lang/System" ∈ zW) (hd : 1 ≤ d) (hst : (st.map fun v => v.category).sum ≤ 8)
    (hk0 : k0 < S.1) (hs0 : S.2.1 k0 = (20, n0)) (hk1 : k1 < S.1) (hs1 : S.2.1 k1 = (20, n1)) (h1 : sp = nI a) (h2 : dp = nI b) (h3 : len = nI m') (h4 : a + m' ≤ n0) (h5 : b + m' ≤ n1) (hn0 : n0 < 1000) (hn1 : n1 < 1000) (hdg : decode cc pc = .ok (.invokestatic index, 3))
    (kk : ∀ M2 : zM, M2 = z_row M k1 (va_cpy (M k0) (M k1) a b m') → zA g l y cc nL ret d mc ms P (pc + 3) ks ns S M2 lo st) : zA g l y cc nL ret d mc ms P pc ks ns S M lo (.int len :: .int dp :: .ref k1 :: .int sp :: .ref k0 :: st) :=
  z_copy hl hnx hsx hix hd hst hk0 hs0 hk1 hs1 h1 h2 h3 h4 h5 hn0 hn1 hdg (kk _ rfl)
end ZCOPYE
def dThere (σ : Dy) : Nat → Int32
  | 0 => 0
  | q + 1 => if σ (51 + q) = σ (55 + q) then dThere σ q ||| (1 <<< (nI q &&& 31)) else dThere σ q
def dClk (σ : Dy) : Nat → Int32
  | 0 => 0
  | q + 1 => dClk σ q + σ (59 + q)
def dTirB (σ : Dy) : Nat → Int32
  | 0 => 0
  | h + 1 => if 0 < σ (27 + h) then dTirB σ h ||| (1 <<< (nI h &&& 31)) else dTirB σ h
def dIter (σ : Dy) (n r i : Nat) : Nat → Dy
  | 0 => σ
  | k + 1 => dPass (dIter σ n r i k) n r i
abbrev dAt (σ : Dy) (q : Nat) : Prop := σ (51 + q) = σ (55 + q)
def dComeF (σ : Dy) (n r i q a k : Nat) : Int32 := frst (fun k => decide (dAt (dIter σ n r i k) q)) a k
def dCome (σ : Dy) (n r i q most : Nat) : Int32 := dComeF σ n r i q 0 (most + 1)
abbrev dCan (σ : Dy) (inn m : Int32) (h : Nat) : Prop := σ (19 + h) = inn ∧ σ (35 + h) = 0 ∧ σ (27 + h) + kTires (σ (3 + h)) m < 10
def dFA (σ : Dy) (inn m : Int32) : Nat → Int32
  | 0 => 99999
  | h + 1 => if dCan σ inn m h ∧ kTakes (σ (3 + h)) m < dFA σ inn m h then kTakes (σ (3 + h)) m else dFA σ inn m h
def dLT (σ : Dy) (inn m : Int32) (h : Nat) : Int32 := if dFA σ inn m h = 99999 then -1 else dFA σ inn m h
def dFS (σ : Dy) (n : Nat) (t : Int32) : Nat → Int32 → Int32 → Int32
  | 0, _, s => s
  | k + 1, a, s => if a = t then s else dFS σ n t k (dNext a t) (s + dFA σ a (dMiles σ a t) n)
def dFast (σ : Dy) (n q : Nat) : Int32 := if 99999 ≤ dFS σ n (σ (55 + q)) 6 (σ (51 + q)) 0 then -1 else dFS σ n (σ (55 + q)) 6 (σ (51 + q)) 0
theorem dIter_ok {σ : Dy} {n r i : Nat} (ok : dOK σ n r i) : ∀ k, dOK (dIter σ n r i k) n r i
  | 0 => ok
  | k + 1 => dPass_ok (dIter_ok ok k)
theorem dComeF_s {σ : Dy} {n r i q a k : Nat} : dComeF σ n r i q a (k + 1) = if dAt (dIter σ n r i a) q then nI a else dComeF σ n r i q (a + 1) k := by
  show frst _ a (k + 1) = _
  unfold frst
  by_cases c : dAt (dIter σ n r i a) q
  · rw [if_pos (decide_eq_true c), if_pos c]
  · rw [if_neg (by simpa using c), if_neg c]; rfl
theorem kTakes_nI : ∀ k, k < 5 → ∀ m, m < 10 → ∃ x, x ≤ 18 ∧ kTakes (nI k) (nI m) = nI x := by
  have h : ∀ k, k < 5 → ∀ m, m < 10 → kTakes (nI k) (nI m) = nI (if k = 2 then m / 2 + 1 else if k = 3 ∨ k = 4 then 2 * m else m) := by decide +kernel
  intro k hk m hm
  refine ⟨_, ?_, h k hk m hm⟩
  repeat' split
  all_goals omega
theorem kTk_in {k x : Int32} (hk : zIn k 5) (hx : zIn1 x) : ∃ t, t ≤ 18 ∧ kTakes k x = nI t := by
  obtain ⟨a, ha, rfl⟩ := hk
  obtain ⟨m, h1, h2, rfl⟩ := hx
  exact kTakes_nI a ha m (by omega)
theorem dFA_nI {σ : Dy} {n r i : Nat} (ok : dOK σ n r i) {m : Int32} (hm : zIn1 m) (inn : Int32) : ∀ h, h ≤ n → ∃ x, dFA σ inn m h = nI x ∧ (x ≤ 18 ∨ x = 99999)
  | 0, _ => ⟨99999, rfl, Or.inr rfl⟩
  | h + 1, hh => by
    unfold dFA
    split
    · obtain ⟨t, ht, e⟩ := kTk_in (ok.2.1 h (by omega)).1 hm
      exact ⟨t, e, Or.inl ht⟩
    · exact dFA_nI ok hm inn h (by omega)
section ZLT
variable {σ : Dy} {n r i h : Nat} {inn m : Int32}
theorem dLT_no (c : ¬ dCan σ inn m h) : dLT σ inn m (h + 1) = dLT σ inn m h := by
  have e : dFA σ inn m (h + 1) = dFA σ inn m h := if_neg (fun z => c z.1)
  unfold dLT
  rw [e]
theorem dLT_new (ok : dOK σ n r i) (hm : zIn1 m) (hh : h < n) (c : dCan σ inn m h) (e : dLT σ inn m h = -1) : dLT σ inn m (h + 1) = kTakes (σ (3 + h)) m := by
  obtain ⟨t, ht, et⟩ := kTk_in (ok.2.1 h (by omega)).1 hm
  have e1 : dFA σ inn m h = 99999 := by
    unfold dLT at e
    by_cases z : dFA σ inn m h = 99999
    · exact z
    · rw [if_neg z] at e
      obtain ⟨x, hx, h2⟩ := dFA_nI ok hm inn h (by omega)
      rw [hx] at e
      rcases h2 with h2 | h2
      · exact absurd e (nI_nm1 (by omega))
      · rw [h2] at e; exact absurd e (by decide)
  have e2 : dFA σ inn m (h + 1) = kTakes (σ (3 + h)) m := by
    refine if_pos ⟨c, ?_⟩
    rw [e1, et]
    exact (nI_ltI (b := 99999) (by omega) (by omega)).mpr (by omega)
  unfold dLT
  rw [e2, if_neg]
  rw [et]
  intro z
  have := (nI_eq (b := 99999) (by omega) (by omega)).mp z
  omega
theorem dLT_min (ok : dOK σ n r i) (hm : zIn1 m) (hh : h < n) (c : dCan σ inn m h) (e : ¬ dLT σ inn m h = -1) : dLT σ inn m (h + 1) = if kTakes (σ (3 + h)) m < dLT σ inn m h then kTakes (σ (3 + h)) m else dLT σ inn m h := by
  obtain ⟨t, ht, et⟩ := kTk_in (ok.2.1 h (by omega)).1 hm
  have e1 : ¬ dFA σ inn m h = 99999 := fun z => e (by unfold dLT; rw [if_pos z])
  have e2 : dLT σ inn m h = dFA σ inn m h := by unfold dLT; rw [if_neg e1]
  rw [e2]
  have e3 : dFA σ inn m (h + 1) = if kTakes (σ (3 + h)) m < dFA σ inn m h then kTakes (σ (3 + h)) m else dFA σ inn m h := by
    show (if _ ∧ _ then _ else _) = _
    by_cases z : kTakes (σ (3 + h)) m < dFA σ inn m h
    · rw [if_pos ⟨c, z⟩, if_pos z]
    · rw [if_neg (fun w => z w.2), if_neg z]
  unfold dLT
  rw [e3]
  by_cases z : kTakes (σ (3 + h)) m < dFA σ inn m h
  · rw [if_pos z, if_neg]
    rw [et]
    intro z
    have := (nI_eq (b := 99999) (by omega) (by omega)).mp z
    omega
  · rw [if_neg z, if_neg e1]
end ZLT
/-! a day becomes another -/
theorem zBec {M M5 M13 M28 M43 M58 M72 M86 M100 : zM} {d e n r i : Nat} {σ : Dy} (hd : d ∈ zDays) (he : e ∈ zDays) (hne : d ≠ e) (n8 : n ≤ 8) (r4 : r ≤ 4) (R : dRep M e σ n r i)
    (e5 : M5 = z_up M d 1 (M e 1)) (e13 : M13 = z_up M5 d 5 (M5 e 5)) (e28 : M28 = z_row M13 (d + 1) (va_cpy (M13 (e + 1)) (M13 (d + 1)) 0 0 8)) (e43 : M43 = z_row M28 (d + 2) (va_cpy (M28 (e + 2)) (M28 (d + 2)) 0 0 8))
    (e58 : M58 = z_row M43 (d + 3) (va_cpy (M43 (e + 3)) (M43 (d + 3)) 0 0 8)) (e72 : M72 = z_row M58 (d + 4) (va_cpy (M58 (e + 4)) (M58 (d + 4)) 0 0 4)) (e86 : M86 = z_row M72 (d + 5) (va_cpy (M72 (e + 5)) (M72 (d + 5)) 0 0 4))
    (e100 : M100 = z_row M86 (d + 6) (va_cpy (M86 (e + 6)) (M86 (d + 6)) 0 0 4)) : zDR M M100 d σ n r i := by
  have h18 := zDay_18 hd
  have hsep : d + 6 < e ∨ e + 6 < d := (by decide +kernel : ∀ d ∈ zDays, ∀ e ∈ zDays, d ≠ e → d + 6 < e ∨ e + 6 < d) d hd e he hne
  have hfr : ∀ k, (k < d ∨ d + 6 < k) → M100 k = M k := by
    intro k hk
    rw [e100, z_row_n _ _ (by omega), e86, z_row_n _ _ (by omega), e72, z_row_n _ _ (by omega), e58, z_row_n _ _ (by omega), e43, z_row_n _ _ (by omega), e28, z_row_n _ _ (by omega), e13, z_up_n _ _ _ (by omega), e5, z_up_n _ _ _ (by omega)]
  obtain ⟨hT, h1, h2, h3, h4⟩ := R
  have c5 : ∀ k, k ≠ d → M5 k = M k := fun k hk => by rw [e5, z_up_n _ _ _ hk]
  have c13 : ∀ k, k ≠ d → M13 k = M k := fun k hk => by rw [e13, z_up_n _ _ _ hk, c5 k hk]
  have c28 : ∀ k, k ≠ d → k ≠ d + 1 → M28 k = M k := fun k hk h => by rw [e28, z_row_n _ _ h, c13 k hk]
  have c43 : ∀ k, k ≠ d → k ≠ d + 1 → k ≠ d + 2 → M43 k = M k := fun k hk h h' => by rw [e43, z_row_n _ _ h', c28 k hk h]
  have c58 : ∀ k, (k < d ∨ d + 3 < k) → M58 k = M k := fun k hk => by rw [e58, z_row_n _ _ (by omega), c43 k (by omega) (by omega) (by omega)]
  have c72 : ∀ k, (k < d ∨ d + 4 < k) → M72 k = M k := fun k hk => by rw [e72, z_row_n _ _ (by omega), c58 k (by omega)]
  have c86 : ∀ k, (k < d ∨ d + 5 < k) → M86 k = M k := fun k hk => by rw [e86, z_row_n _ _ (by omega), c72 k (by omega)]
  have hd0 : M100 d = upd (upd (M d) 1 (M e 1)) 5 (M e 5) := by
    rw [e100, z_row_n _ _ (by omega), e86, z_row_n _ _ (by omega), e72, z_row_n _ _ (by omega), e58, z_row_n _ _ (by omega), e43, z_row_n _ _ (by omega), e28, z_row_n _ _ (by omega), e13, z_up_s, c5 e (by omega), e5, z_up_s]
  refine ⟨⟨hT.keep (fun k a1 a2 => hfr k (by omega)) (fun _ _ => rfl) (fun _ _ => ⟨rfl, rfl⟩), ?_, ?_, fun h hh => ⟨?_, ?_, ?_⟩, fun q hq => ⟨?_, ?_, ?_⟩⟩, hfr⟩
  · rw [hd0, upd_n _ _ (by omega), upd_s]; exact h1
  · rw [hd0, upd_s]; exact h2
  · rw [e100, z_row_n _ _ (by omega), e86, z_row_n _ _ (by omega), e72, z_row_n _ _ (by omega), e58, z_row_n _ _ (by omega), e43, z_row_n _ _ (by omega), e28, z_row_s, sb_cpy0 (by omega), c13 _ (by omega)]; exact (h3 h hh).1
  · rw [e100, z_row_n _ _ (by omega), e86, z_row_n _ _ (by omega), e72, z_row_n _ _ (by omega), e58, z_row_n _ _ (by omega), e43, z_row_s, sb_cpy0 (by omega), c28 _ (by omega) (by omega)]; exact (h3 h hh).2.1
  · rw [e100, z_row_n _ _ (by omega), e86, z_row_n _ _ (by omega), e72, z_row_n _ _ (by omega), e58, z_row_s, sb_cpy0 (by omega), c43 _ (by omega) (by omega) (by omega)]; exact (h3 h hh).2.2
  · rw [e100, z_row_n _ _ (by omega), e86, z_row_n _ _ (by omega), e72, z_row_s, sb_cpy0 (by omega), c58 _ (by omega)]; exact (h4 q hq).1
  · rw [e100, z_row_n _ _ (by omega), e86, z_row_s, sb_cpy0 (by omega), c72 _ (by omega)]; exact (h4 q hq).2.1
  · rw [e100, z_row_s, sb_cpy0 (by omega), c86 _ (by omega)]; exact (h4 q hq).2.2
/-! a day begins as it was told -/
def dTold2 (M : zM) (τ : Dy) (n r i : Nat) : Prop :=
  dTold M τ n r i ∧ (∀ h, h < n → M 5 h = τ (27 + h)) ∧ (∀ q, q < r → M 6 q = τ (51 + q) ∧ M 7 q = τ (55 + q)) ∧
  τ 2 = 0 ∧ (∀ h, h < n → τ (19 + h) = τ (11 + h) ∧ τ (35 + h) = 0 ∧ τ (43 + h) = 0) ∧ (∀ q, q < r → τ (59 + q) = 0)
def dBg (M0 M : zM) (d : Nat) (τ : Dy) (h q : Nat) : Prop :=
  (∀ k, (k < d ∨ d + 6 < k) → M k = M0 k) ∧ M d 1 = 0 ∧ M d 5 = 0 ∧ (∀ x, x < h → M (d + 1) x = τ (19 + x) ∧ M (d + 2) x = τ (27 + x) ∧ M (d + 3) x = τ (43 + x)) ∧ (∀ x, x < q → M (d + 4) x = τ (51 + x) ∧ M (d + 5) x = τ (55 + x) ∧ M (d + 6) x = τ (59 + x))
theorem dBg.hour {M0 M M2 : zM} {d h q : Nat} {τ : Dy} {a b c : Int32} (B : dBg M0 M d τ h q) (e : M2 = z_up (z_up (z_up M (d + 1) h a) (d + 2) h b) (d + 3) h c) (ha : a = τ (19 + h)) (hb : b = τ (27 + h)) (hc : c = τ (43 + h)) : dBg M0 M2 d τ (h + 1) q := by
  subst e
  obtain ⟨b1, b2, b3, b4, b5⟩ := B
  refine ⟨fun k hk => ?_, ?_, ?_, fun x hx => ⟨?_, ?_, ?_⟩, fun x hx => ?_⟩
  · rw [z_up_n _ _ _ (by omega), z_up_n _ _ _ (by omega), z_up_n _ _ _ (by omega)]; exact b1 k hk
  · rw [z_up_n _ _ _ (by omega), z_up_n _ _ _ (by omega), z_up_n _ _ _ (by omega)]; exact b2
  · rw [z_up_n _ _ _ (by omega), z_up_n _ _ _ (by omega), z_up_n _ _ _ (by omega)]; exact b3
  · rw [z_up_n _ _ _ (by omega), z_up_n _ _ _ (by omega)]
    by_cases c : x = h
    · subst c; rw [z_up_kj]; exact ha
    · rw [z_up_jn _ _ c]; exact (b4 x (by omega)).1
  · rw [z_up_n _ _ _ (by omega)]
    by_cases c : x = h
    · subst c; rw [z_up_kj]; exact hb
    · rw [z_up_jn _ _ c, z_up_n _ _ _ (by omega)]; exact (b4 x (by omega)).2.1
  · by_cases c : x = h
    · subst c; rw [z_up_kj]; exact hc
    · rw [z_up_jn _ _ c, z_up_n _ _ _ (by omega), z_up_n _ _ _ (by omega)]; exact (b4 x (by omega)).2.2
  · rw [z_up_n _ _ _ (by omega), z_up_n _ _ _ (by omega), z_up_n _ _ _ (by omega), z_up_n _ _ _ (by omega), z_up_n _ _ _ (by omega), z_up_n _ _ _ (by omega), z_up_n _ _ _ (by omega), z_up_n _ _ _ (by omega), z_up_n _ _ _ (by omega)]; exact b5 x hx
theorem dBg.rider {M0 M M2 : zM} {d h q : Nat} {τ : Dy} {a b c : Int32} (B : dBg M0 M d τ h q) (e : M2 = z_up (z_up (z_up M (d + 4) q a) (d + 5) q b) (d + 6) q c) (ha : a = τ (51 + q)) (hb : b = τ (55 + q)) (hc : c = τ (59 + q)) : dBg M0 M2 d τ h (q + 1) := by
  subst e
  obtain ⟨b1, b2, b3, b4, b5⟩ := B
  refine ⟨fun k hk => ?_, ?_, ?_, fun x hx => ?_, fun x hx => ⟨?_, ?_, ?_⟩⟩
  · rw [z_up_n _ _ _ (by omega), z_up_n _ _ _ (by omega), z_up_n _ _ _ (by omega)]; exact b1 k hk
  · rw [z_up_n _ _ _ (by omega), z_up_n _ _ _ (by omega), z_up_n _ _ _ (by omega)]; exact b2
  · rw [z_up_n _ _ _ (by omega), z_up_n _ _ _ (by omega), z_up_n _ _ _ (by omega)]; exact b3
  · rw [z_up_n _ _ _ (by omega), z_up_n _ _ _ (by omega), z_up_n _ _ _ (by omega), z_up_n _ _ _ (by omega), z_up_n _ _ _ (by omega), z_up_n _ _ _ (by omega), z_up_n _ _ _ (by omega), z_up_n _ _ _ (by omega), z_up_n _ _ _ (by omega)]; exact b4 x hx
  · rw [z_up_n _ _ _ (by omega), z_up_n _ _ _ (by omega)]
    by_cases c : x = q
    · subst c; rw [z_up_kj]; exact ha
    · rw [z_up_jn _ _ c]; exact (b5 x (by omega)).1
  · rw [z_up_n _ _ _ (by omega)]
    by_cases c : x = q
    · subst c; rw [z_up_kj]; exact hb
    · rw [z_up_jn _ _ c, z_up_n _ _ _ (by omega)]; exact (b5 x (by omega)).2.1
  · by_cases c : x = q
    · subst c; rw [z_up_kj]; exact hc
    · rw [z_up_jn _ _ c, z_up_n _ _ _ (by omega), z_up_n _ _ _ (by omega)]; exact (b5 x (by omega)).2.2
theorem dBg.is {M0 M : zM} {d n r i : Nat} {τ : Dy} (hd : d ∈ zDays) (T : dTold2 M0 τ n r i) (B : dBg M0 M d τ n r) : zDR M0 M d τ n r i := by
  have h18 := zDay_18 hd
  obtain ⟨b1, b2, b3, b4, b5⟩ := B
  refine ⟨⟨T.1.keep (fun k a1 a2 => b1 k (by omega)) (fun _ _ => rfl) (fun _ _ => ⟨rfl, rfl⟩), ?_, ?_, b4, b5⟩, b1⟩
  · rw [b2]; exact T.2.2.2.1.symm
  · intro k hk
    rw [b3, b_0]
    by_cases c : k < n
    · rw [(T.2.2.2.2.1 k c).2.1]; simp
    · simp [c]
/-! the fastest ride -/
theorem nI_adds (a b : Nat) : nI a + nI b = nI (a + b) := nI_add a b
theorem dFS_ge {σ : Dy} {n r i : Nat} (ok : dOK σ n r i) {t : Nat} (ht : t < i) : ∀ (k a s : Nat), a < i → s + 100000 * k ≤ 900000 → ∃ s', dFS σ n (nI t) k (nI a) (nI s) = nI s' ∧ s ≤ s' ∧ s' ≤ s + 100000 * k
  | 0, a, s, _, _ => ⟨s, rfl, Nat.le_refl _, by omega⟩
  | k + 1, a, s, ha, hs => by
    unfold dFS
    split
    · exact ⟨s, rfl, Nat.le_refl _, by omega⟩
    · obtain ⟨c, hc, ec⟩ : zIn (dNext (nI a) (nI t)) i := dNext_in ⟨a, ha, rfl⟩ ⟨t, ht, rfl⟩ (by have := ok.1.2.2.1; omega)
      obtain ⟨x, hx, hx2⟩ := dFA_nI ok (dMiles_in ok ⟨a, ha, rfl⟩ ⟨t, ht, rfl⟩) (nI a) n (Nat.le_refl _)
      rw [ec, hx, nI_adds]
      obtain ⟨s', e1, e2, e3⟩ := dFS_ge ok ht k c (s + x) hc (by omega)
      exact ⟨s', e1, by omega, by omega⟩
theorem nI_nge {a : Nat} (h : a ≤ 900) : ¬ (99999 : Int32) ≤ nI a := fun z => by
  have := (nI_leI (a := 99999) (b := a) (by omega) (by omega)).mp z
  omega

set_option maxRecDepth 100000 in
set_option maxHeartbeats 4000000 in
theorem lp_ridersThere (g : zG) (l : Launch) {M0 M : zM} {d n r i : Nat} {σ : Dy} (hd : d ∈ zDays) (R : zDR M0 M d σ n r i) (ok : dOK σ n r i) : ∀ (k h : Nat), h ≤ r → r - h < k → zA g l yX1_ridersThere cX1_ridersThere 3 (some .int) 1 0 0 (zQi (fun r' M' => r' = dThere σ r ∧ M' = M)) 4 0 0 S0 M [.ref d, .int (dThere σ h), .int (nI h)] [] := by
  have n8 := ok.1.1
  have r4 := ok.1.2.1
  have i6 := ok.1.2.2.1
  intro k
  induction k with
  | zero => intro h hh hk; exact absurd hk (Nat.not_lt_zero _)
  | succ k ih =>
    intro h hh hk 
    refine z_iload_n dX1_ridersThere_4 rfl ?_
    refine z_aload_n dX1_ridersThere_5 rfl ?_
    refine z_getR (j := 0) (r := 1) kX1 lf_X1_30 (by decide) rfl dX1_ridersThere_6 (zDay_k0 hd) (zDay_s0 hd) (zDay_r0 hd) (by decide) ?_
    refine z_getIV (j := 2) kX7 lf_X1_50 (by decide) rfl R.1.1.2.2.1 dX1_ridersThere_9 k0_1 s0_1 ?_
    refine z_icmp_ge (tgt := 35) dX1_ridersThere_12 (by decide) (fun b12 => ?_) (fun b12 => ?_)
    · have e : r ≤ h := (nI_leI (by omega) (by omega)).mp b12
      have e2 : h = r := by omega
      subst e2
      refine z_iload_n dX1_ridersThere_35 rfl ?_
      exact z_iret dX1_ridersThere_36 rfl zle (⟨rfl, rfl⟩)
    · have hn : h < r := by
        rcases Nat.lt_or_ge h r with z | z
        · exact z
        · exact absurd (nI_le z (by omega)) b12
      refine z_aload_n dX1_ridersThere_15 rfl ?_
      refine z_iload_n dX1_ridersThere_16 rfl ?_
      refine z_iV1 (c_X1_isThere g l hd R hn ⟨n8, r4, i6⟩) mw_X1_isThere lm_X1_63 mi_X1_isThere mv_X1_isThere kX1 (by decide) (Nat.le_of_ble_eq_true rfl) zle (zDay_k0 hd) (zDay_s0 hd) dX1_ridersThere_17 (fun r17 M17 q17 => ?_)
      obtain ⟨rfl, ⟨c17, rfl⟩ | ⟨c17, rfl⟩⟩ := q17
      · refine z_if_eq (tgt := 29) dX1_ridersThere_20 (by decide) (fun b20 => ?_) (fun b20 => ?_)
        · exact absurd b20 (by decide)
        · refine z_iload_n dX1_ridersThere_23 rfl ?_
          refine z_iconst (v := 1) dX1_ridersThere_24 (by decide) ?_
          refine z_iload_n dX1_ridersThere_25 rfl ?_
          refine z_ishl dX1_ridersThere_26 ?_
          refine z_ior dX1_ridersThere_27 ?_
          refine z_istore_n dX1_ridersThere_28 (by decide) rfl rfl ?_
          refine z_iincN (k := h) dX1_ridersThere_29 rfl rfl (by decide) rfl rfl ?_
          refine z_goto (tgt := 4) dX1_ridersThere_32 (by decide) ?_
          refine zA.sub (ih (h + 1) (by omega) (by omega)) rfl ⟨Or.inr rfl, Or.inr (congrArg (fun z => some (Value.int z)) ?_), Or.inr rfl, trivial⟩
          first | exact (if_pos c17).symm | exact (if_neg c17).symm
      · refine z_if_eq (tgt := 29) dX1_ridersThere_20 (by decide) (fun b20 => ?_) (fun b20 => ?_)
        · refine z_iincN (k := h) dX1_ridersThere_29 rfl rfl (by decide) rfl rfl ?_
          refine z_goto (tgt := 4) dX1_ridersThere_32 (by decide) ?_
          refine zA.sub (ih (h + 1) (by omega) (by omega)) rfl ⟨Or.inr rfl, Or.inr (congrArg (fun z => some (Value.int z)) ?_), Or.inr rfl, trivial⟩
          first | exact (if_pos c17).symm | exact (if_neg c17).symm
        · exact absurd b20 (by decide)

set_option maxRecDepth 100000 in
set_option maxHeartbeats 4000000 in
theorem c_X1_ridersThere (g : zG) (l : Launch) {M0 M : zM} {d n r i : Nat} {σ : Dy} (hd : d ∈ zDays) (R : zDR M0 M d σ n r i) (ok : dOK σ n r i) : zMet g l yX1_ridersThere cX1_ridersThere 3 (some .int) 1 0 0 [.ref d] S0 M (zQi (fun r' M' => r' = dThere σ r ∧ M' = M)) := by
  have n8 := ok.1.1
  have r4 := ok.1.2.1
  have i6 := ok.1.2.2.1
  refine zMet.of (by decide) (Nat.le_of_ble_eq_true rfl) ?_
  refine z_iconst (v := 0) dX1_ridersThere_0 (by decide) ?_
  refine z_istore_n dX1_ridersThere_1 (by decide) rfl rfl ?_
  refine z_iconst (v := 0) dX1_ridersThere_2 (by decide) ?_
  refine z_istore_n dX1_ridersThere_3 (by decide) rfl rfl ?_
  exact lp_ridersThere g l hd R ok (r + 1) 0 (Nat.zero_le _) (by omega)

set_option maxRecDepth 100000 in
set_option maxHeartbeats 4000000 in
theorem lp_allClocks (g : zG) (l : Launch) {M0 M : zM} {d n r i : Nat} {σ : Dy} (hd : d ∈ zDays) (R : zDR M0 M d σ n r i) (ok : dOK σ n r i) : ∀ (k h : Nat), h ≤ r → r - h < k → zA g l yX1_allClocks cX1_allClocks 3 (some .int) 0 0 0 (zQi (fun r' M' => r' = dClk σ r ∧ M' = M)) 4 0 0 S0 M [.ref d, .int (dClk σ h), .int (nI h)] [] := by
  have n8 := ok.1.1
  have r4 := ok.1.2.1
  have i6 := ok.1.2.2.1
  intro k
  induction k with
  | zero => intro h hh hk; exact absurd hk (Nat.not_lt_zero _)
  | succ k ih =>
    intro h hh hk 
    refine z_iload_n dX1_allClocks_4 rfl ?_
    refine z_aload_n dX1_allClocks_5 rfl ?_
    refine z_getR (j := 0) (r := 1) kX1 lf_X1_30 (by decide) rfl dX1_allClocks_6 (zDay_k0 hd) (zDay_s0 hd) (zDay_r0 hd) (by decide) ?_
    refine z_getIV (j := 2) kX7 lf_X1_50 (by decide) rfl R.1.1.2.2.1 dX1_allClocks_9 k0_1 s0_1 ?_
    refine z_icmp_ge (tgt := 30) dX1_allClocks_12 (by decide) (fun b12 => ?_) (fun b12 => ?_)
    · have e : r ≤ h := (nI_leI (by omega) (by omega)).mp b12
      have e2 : h = r := by omega
      subst e2
      refine z_iload_n dX1_allClocks_30 rfl ?_
      exact z_iret dX1_allClocks_31 rfl zle (⟨rfl, rfl⟩)
    · have hn : h < r := by
        rcases Nat.lt_or_ge h r with z | z
        · exact z
        · exact absurd (nI_le z (by omega)) b12
      refine z_iload_n dX1_allClocks_15 rfl ?_
      refine z_aload_n dX1_allClocks_16 rfl ?_
      refine z_getR (j := 8) (r := (d + 6)) kX1 lf_X1_27 (by decide) rfl dX1_allClocks_17 (zDay_k0 hd) (zDay_s0 hd) (zDay_r8 hd) (zDay_l6 hd) ?_
      refine z_iload_n dX1_allClocks_20 rfl ?_
      refine z_ialdV (j := h) rfl (by omega) (R.1.2.2.2.2 h (by omega)).2.2 dX1_allClocks_21 (zDay_k6 hd) (zDay_s6 hd) ?_
      refine z_iadd dX1_allClocks_22 ?_
      refine z_istore_n dX1_allClocks_23 (by decide) rfl rfl ?_
      refine z_iincN (k := h) dX1_allClocks_24 rfl rfl (by decide) rfl rfl ?_
      refine z_goto (tgt := 4) dX1_allClocks_27 (by decide) ?_
      refine zA.sub (ih (h + 1) (by omega) (by omega)) rfl ⟨Or.inr rfl, Or.inr (congrArg (fun z => some (Value.int z)) ?_), Or.inr rfl, trivial⟩
      rfl

set_option maxRecDepth 100000 in
set_option maxHeartbeats 4000000 in
theorem c_X1_allClocks (g : zG) (l : Launch) {M0 M : zM} {d n r i : Nat} {σ : Dy} (hd : d ∈ zDays) (R : zDR M0 M d σ n r i) (ok : dOK σ n r i) : zMet g l yX1_allClocks cX1_allClocks 3 (some .int) 0 0 0 [.ref d] S0 M (zQi (fun r' M' => r' = dClk σ r ∧ M' = M)) := by
  have n8 := ok.1.1
  have r4 := ok.1.2.1
  have i6 := ok.1.2.2.1
  refine zMet.of (by decide) (Nat.le_of_ble_eq_true rfl) ?_
  refine z_iconst (v := 0) dX1_allClocks_0 (by decide) ?_
  refine z_istore_n dX1_allClocks_1 (by decide) rfl rfl ?_
  refine z_iconst (v := 0) dX1_allClocks_2 (by decide) ?_
  refine z_istore_n dX1_allClocks_3 (by decide) rfl rfl ?_
  exact lp_allClocks g l hd R ok (r + 1) 0 (Nat.zero_le _) (by omega)

set_option maxRecDepth 100000 in
set_option maxHeartbeats 4000000 in
theorem lp_tiredHours (g : zG) (l : Launch) {M0 M : zM} {d n r i : Nat} {σ : Dy} (hd : d ∈ zDays) (R : zDR M0 M d σ n r i) (ok : dOK σ n r i) : ∀ (k h : Nat), h ≤ n → n - h < k → zA g l yX1_tiredHours cX1_tiredHours 3 (some .int) 0 0 0 (zQi (fun r' M' => r' = dTirB σ n ∧ M' = M)) 4 0 0 S0 M [.ref d, .int (dTirB σ h), .int (nI h)] [] := by
  have n8 := ok.1.1
  have r4 := ok.1.2.1
  have i6 := ok.1.2.2.1
  intro k
  induction k with
  | zero => intro h hh hk; exact absurd hk (Nat.not_lt_zero _)
  | succ k ih =>
    intro h hh hk 
    refine z_iload_n dX1_tiredHours_4 rfl ?_
    refine z_aload_n dX1_tiredHours_5 rfl ?_
    refine z_getR (j := 0) (r := 1) kX1 lf_X1_30 (by decide) rfl dX1_tiredHours_6 (zDay_k0 hd) (zDay_s0 hd) (zDay_r0 hd) (by decide) ?_
    refine z_getIV (j := 1) kX7 lf_X1_41 (by decide) rfl R.1.1.2.1 dX1_tiredHours_9 k0_1 s0_1 ?_
    refine z_icmp_ge (tgt := 36) dX1_tiredHours_12 (by decide) (fun b12 => ?_) (fun b12 => ?_)
    · have e : n ≤ h := (nI_leI (by omega) (by omega)).mp b12
      have e2 : h = n := by omega
      subst e2
      refine z_iload_n dX1_tiredHours_36 rfl ?_
      exact z_iret dX1_tiredHours_37 rfl zle (⟨rfl, rfl⟩)
    · have hn : h < n := by
        rcases Nat.lt_or_ge h n with z | z
        · exact z
        · exact absurd (nI_le z (by omega)) b12
      refine z_aload_n dX1_tiredHours_15 rfl ?_
      refine z_getR (j := 3) (r := (d + 2)) kX1 lf_X1_15 (by decide) rfl dX1_tiredHours_16 (zDay_k0 hd) (zDay_s0 hd) (zDay_r3 hd) (zDay_l2 hd) ?_
      refine z_iload_n dX1_tiredHours_19 rfl ?_
      refine z_ialdV (j := h) rfl (by omega) (R.1.2.2.2.1 h (by omega)).2.1 dX1_tiredHours_20 (zDay_k2 hd) (zDay_s2 hd) ?_
      refine z_if_le (tgt := 30) dX1_tiredHours_21 (by decide) (fun b21 => ?_) (fun b21 => ?_)
      · refine z_iincN (k := h) dX1_tiredHours_30 rfl rfl (by decide) rfl rfl ?_
        refine z_goto (tgt := 4) dX1_tiredHours_33 (by decide) ?_
        refine zA.sub (ih (h + 1) (by omega) (by omega)) rfl ⟨Or.inr rfl, Or.inr (congrArg (fun z => some (Value.int z)) ?_), Or.inr rfl, trivial⟩
        first | exact (if_pos (Int32.not_le.mp b21)).symm | exact (if_neg (Int32.not_lt.mpr b21)).symm
      · refine z_iload_n dX1_tiredHours_24 rfl ?_
        refine z_iconst (v := 1) dX1_tiredHours_25 (by decide) ?_
        refine z_iload_n dX1_tiredHours_26 rfl ?_
        refine z_ishl dX1_tiredHours_27 ?_
        refine z_ior dX1_tiredHours_28 ?_
        refine z_istore_n dX1_tiredHours_29 (by decide) rfl rfl ?_
        refine z_iincN (k := h) dX1_tiredHours_30 rfl rfl (by decide) rfl rfl ?_
        refine z_goto (tgt := 4) dX1_tiredHours_33 (by decide) ?_
        refine zA.sub (ih (h + 1) (by omega) (by omega)) rfl ⟨Or.inr rfl, Or.inr (congrArg (fun z => some (Value.int z)) ?_), Or.inr rfl, trivial⟩
        first | exact (if_pos (Int32.not_le.mp b21)).symm | exact (if_neg (Int32.not_lt.mpr b21)).symm

set_option maxRecDepth 100000 in
set_option maxHeartbeats 4000000 in
theorem c_X1_tiredHours (g : zG) (l : Launch) {M0 M : zM} {d n r i : Nat} {σ : Dy} (hd : d ∈ zDays) (R : zDR M0 M d σ n r i) (ok : dOK σ n r i) : zMet g l yX1_tiredHours cX1_tiredHours 3 (some .int) 0 0 0 [.ref d] S0 M (zQi (fun r' M' => r' = dTirB σ n ∧ M' = M)) := by
  have n8 := ok.1.1
  have r4 := ok.1.2.1
  have i6 := ok.1.2.2.1
  refine zMet.of (by decide) (Nat.le_of_ble_eq_true rfl) ?_
  refine z_iconst (v := 0) dX1_tiredHours_0 (by decide) ?_
  refine z_istore_n dX1_tiredHours_1 (by decide) rfl rfl ?_
  refine z_iconst (v := 0) dX1_tiredHours_2 (by decide) ?_
  refine z_istore_n dX1_tiredHours_3 (by decide) rfl rfl ?_
  exact lp_tiredHours g l hd R ok (n + 1) 0 (Nat.zero_le _) (by omega)

set_option maxRecDepth 100000 in
set_option maxHeartbeats 4000000 in
theorem lp_passUntil (g : zG) (l : Launch) {M0 : zM} {d n r i q most : Nat} {σ : Dy} (hd : d ∈ zDays) (ok : dOK σ n r i) (hq : q < r) (hm : most ≤ 1000) : ∀ (k h : Nat) (M : zM), h ≤ most → most - h < k → zDR M0 M d (dIter σ n r i h) n r i → dCome σ n r i q most = dComeF σ n r i q h (most + 1 - h) → zA g l yX1_passUntilThere cX1_passUntilThere 4 (some .int) 4 0 0 (zQi (fun r' M' => r' = dCome σ n r i q most ∧ ∃ k, zDR M0 M' d (dIter σ n r i k) n r i ∧ (r' = nI k ∨ r' = -1))) 2 0 0 S0 M [.ref d, .int (nI q), .int (nI most), .int (nI h)] [] := by
  have n8 := ok.1.1
  have r4 := ok.1.2.1
  have i6 := ok.1.2.2.1
  intro k
  induction k with
  | zero => intro h M hh hk; exact absurd hk (Nat.not_lt_zero _)
  | succ k ih =>
    intro h M hh hk R w
    have okh := dIter_ok ok h
    refine z_iload_n dX1_passUntilThere_2 rfl ?_
    refine z_iload_n dX1_passUntilThere_3 rfl ?_
    refine z_icmp_ge (tgt := 27) dX1_passUntilThere_4 (by decide) (fun b4 => ?_) (fun b4 => ?_)
    · have e : most ≤ h := (nI_leI (by omega) (by omega)).mp b4
      have e2 : h = most := by omega
      subst e2
      refine z_aload_n dX1_passUntilThere_27 rfl ?_
      refine z_iload_n dX1_passUntilThere_28 rfl ?_
      refine z_iV1 (c_X1_isThere g l hd R hq ⟨n8, r4, i6⟩) mw_X1_isThere lm_X1_63 mi_X1_isThere mv_X1_isThere kX1 (by decide) (Nat.le_of_ble_eq_true rfl) zle (zDay_k0 hd) (zDay_s0 hd) dX1_passUntilThere_29 (fun r29 M29 q29 => ?_)
      obtain ⟨rfl, ⟨c29, rfl⟩ | ⟨c29, rfl⟩⟩ := q29
      · refine z_if_eq (tgt := 39) dX1_passUntilThere_32 (by decide) (fun b32 => ?_) (fun b32 => ?_)
        · exact absurd b32 (by decide)
        · refine z_iload_n dX1_passUntilThere_35 rfl ?_
          refine z_goto (tgt := 40) dX1_passUntilThere_36 (by decide) ?_
          refine z_iret dX1_passUntilThere_40 rfl zle ?_
          first
            | exact ⟨by rw [w, show h + 1 - h = 0 + 1 by omega, dComeF_s, if_pos c29], h, R, Or.inl rfl⟩
            | exact ⟨by rw [w, show h + 1 - h = 0 + 1 by omega, dComeF_s, if_neg c29]; rfl, h, R, Or.inr rfl⟩
      · refine z_if_eq (tgt := 39) dX1_passUntilThere_32 (by decide) (fun b32 => ?_) (fun b32 => ?_)
        · refine z_iconst (v := (-1)) dX1_passUntilThere_39 (by decide) ?_
          refine z_iret dX1_passUntilThere_40 rfl zle ?_
          first
            | exact ⟨by rw [w, show h + 1 - h = 0 + 1 by omega, dComeF_s, if_pos c29], h, R, Or.inl rfl⟩
            | exact ⟨by rw [w, show h + 1 - h = 0 + 1 by omega, dComeF_s, if_neg c29]; rfl, h, R, Or.inr rfl⟩
        · exact absurd b32 (by decide)
    · have hn : h < most := by
        rcases Nat.lt_or_ge h most with z | z
        · exact z
        · exact absurd (nI_le z (by omega)) b4
      refine z_aload_n dX1_passUntilThere_7 rfl ?_
      refine z_iload_n dX1_passUntilThere_8 rfl ?_
      refine z_iV1 (c_X1_isThere g l hd R hq ⟨n8, r4, i6⟩) mw_X1_isThere lm_X1_63 mi_X1_isThere mv_X1_isThere kX1 (by decide) (Nat.le_of_ble_eq_true rfl) zle (zDay_k0 hd) (zDay_s0 hd) dX1_passUntilThere_9 (fun r9 M9 q9 => ?_)
      obtain ⟨rfl, ⟨c9, rfl⟩ | ⟨c9, rfl⟩⟩ := q9
      · refine z_if_eq (tgt := 17) dX1_passUntilThere_12 (by decide) (fun b12 => ?_) (fun b12 => ?_)
        · exact absurd b12 (by decide)
        · refine z_iload_n dX1_passUntilThere_15 rfl ?_
          refine z_iret dX1_passUntilThere_16 rfl zle ?_
          exact ⟨by rw [w, show most + 1 - h = (most - h) + 1 by omega, dComeF_s, if_pos c9], h, R, Or.inl rfl⟩
      · refine z_if_eq (tgt := 17) dX1_passUntilThere_12 (by decide) (fun b12 => ?_) (fun b12 => ?_)
        · refine z_aload_n dX1_passUntilThere_17 rfl ?_
          refine z_vV0 (c_X1_passStage g l hd R okh) mw_X1_passStage lm_X1_127 mi_X1_passStage mv_X1_passStage kX1 (by decide) (Nat.le_of_ble_eq_true rfl) zle (zDay_k0 hd) (zDay_s0 hd) dX1_passUntilThere_18 (fun M18 q18 => ?_)
          refine z_iincN (k := h) dX1_passUntilThere_21 rfl rfl (by decide) rfl rfl ?_
          refine z_goto (tgt := 2) dX1_passUntilThere_24 (by decide) ?_
          exact ih (h + 1) _ (by omega) (by omega) q18 (by rw [w, show most + 1 - h = (most - h) + 1 by omega, dComeF_s, if_neg c9, show most + 1 - (h + 1) = most - h by omega])
        · exact absurd b12 (by decide)

set_option maxRecDepth 100000 in
set_option maxHeartbeats 4000000 in
theorem c_X1_passUntilThere (g : zG) (l : Launch) {M0 : zM} {d n r i q most : Nat} {σ : Dy} (hd : d ∈ zDays) (ok : dOK σ n r i) (hq : q < r) (hm : most ≤ 1000) {M : zM} (R : zDR M0 M d σ n r i) : zMet g l yX1_passUntilThere cX1_passUntilThere 4 (some .int) 4 0 0 [.ref d, .int (nI q), .int (nI most)] S0 M (zQi (fun r' M' => r' = dCome σ n r i q most ∧ ∃ k, zDR M0 M' d (dIter σ n r i k) n r i ∧ (r' = nI k ∨ r' = -1))) := by
  have n8 := ok.1.1
  have r4 := ok.1.2.1
  have i6 := ok.1.2.2.1
  refine zMet.of (by decide) (Nat.le_of_ble_eq_true rfl) ?_
  refine z_iconst (v := 0) dX1_passUntilThere_0 (by decide) ?_
  refine z_istore_n dX1_passUntilThere_1 (by decide) rfl rfl ?_
  exact lp_passUntil g l hd ok hq hm (most + 1) 0 _ (Nat.zero_le _) (by omega) R rfl

set_option maxRecDepth 100000 in
set_option maxHeartbeats 4000000 in
theorem lp_leastTaken (g : zG) (l : Launch) {M0 M : zM} {d n r i : Nat} {σ : Dy} {inn m : Int32} (hd : d ∈ zDays) (R : zDR M0 M d σ n r i) (ok : dOK σ n r i) (hm : zIn1 m) : ∀ (k h : Nat), h ≤ n → n - h < k → zA g l yX1_leastTaken cX1_leastTaken 7 (some .int) 1 0 0 (zQi (fun r' M' => r' = dLT σ inn m n ∧ M' = M)) 5 0 0 S0 M [.ref d, .int inn, .int m, .int (dLT σ inn m h), .int (nI h), .null, .null] [] := by
  have n8 := ok.1.1
  have r4 := ok.1.2.1
  have i6 := ok.1.2.2.1
  intro k
  induction k with
  | zero => intro h hh hk; exact absurd hk (Nat.not_lt_zero _)
  | succ k ih =>
    intro h hh hk 
    refine z_iload dX1_leastTaken_5 rfl ?_
    refine z_aload_n dX1_leastTaken_7 rfl ?_
    refine z_getR (j := 0) (r := 1) kX1 lf_X1_30 (by decide) rfl dX1_leastTaken_8 (zDay_k0 hd) (zDay_s0 hd) (zDay_r0 hd) (by decide) ?_
    refine z_getIV (j := 1) kX7 lf_X1_41 (by decide) rfl R.1.1.2.1 dX1_leastTaken_11 k0_1 s0_1 ?_
    refine z_icmp_ge (tgt := 99) dX1_leastTaken_14 (by decide) (fun b14 => ?_) (fun b14 => ?_)
    · have e : n ≤ h := (nI_leI (by omega) (by omega)).mp b14
      have e2 : h = n := by omega
      subst e2
      refine z_iload_n dX1_leastTaken_99 rfl ?_
      exact z_iret dX1_leastTaken_100 rfl zle (⟨rfl, rfl⟩)
    · have hn : h < n := by
        rcases Nat.lt_or_ge h n with z | z
        · exact z
        · exact absurd (nI_le z (by omega)) b14
      refine z_aload_n dX1_leastTaken_17 rfl ?_
      refine z_getR (j := 0) (r := 1) kX1 lf_X1_30 (by decide) rfl dX1_leastTaken_18 (zDay_k0 hd) (zDay_s0 hd) (zDay_r0 hd) (by decide) ?_
      refine z_getR (j := 4) (r := 3) kX7 lf_X1_77 (by decide) rfl dX1_leastTaken_21 k0_1 s0_1 r0_1_4 (by decide) ?_
      refine z_iload dX1_leastTaken_24 rfl ?_
      refine z_ialdV (j := h) rfl (by omega) (R.1.1.2.2.2.2 h (by omega)).1 dX1_leastTaken_26 k0_3 s0_3 ?_
      refine z_istore dX1_leastTaken_27 (by decide) rfl rfl ?_
      refine z_aload_n dX1_leastTaken_29 rfl ?_
      refine z_getR (j := 2) (r := (d + 1)) kX1 lf_X1_11 (by decide) rfl dX1_leastTaken_30 (zDay_k0 hd) (zDay_s0 hd) (zDay_r2 hd) (zDay_l1 hd) ?_
      refine z_iload dX1_leastTaken_33 rfl ?_
      refine z_ialdV (j := h) rfl (by omega) (R.1.2.2.2.1 h (by omega)).1 dX1_leastTaken_35 (zDay_k1 hd) (zDay_s1 hd) ?_
      refine z_iload_n dX1_leastTaken_36 rfl ?_
      refine z_icmp_ne (tgt := 93) dX1_leastTaken_37 (by decide) (fun b37 => ?_) (fun b37 => ?_)
      · refine z_iincN (k := h) dX1_leastTaken_93 rfl rfl (by decide) rfl rfl ?_
        refine z_goto (tgt := 5) dX1_leastTaken_96 (by decide) ?_
        refine zA.sub (ih (h + 1) (by omega) (by omega)) rfl ⟨Or.inr rfl, Or.inr rfl, Or.inr rfl, Or.inr (congrArg (fun z => some (Value.int z)) ?_), Or.inr rfl, Or.inl rfl, Or.inl rfl, trivial⟩
        first
          | exact (dLT_no (fun z => b37 z.1)).symm
          | exact (dLT_no (fun z => by rw [z.2.1] at c43; exact absurd c43 (by decide))).symm
          | exact (dLT_no (fun z => absurd z.2.2 (Int32.not_lt.mpr b65))).symm
          | (have cn : dCan σ inn m h := ⟨b37, by rcases (ok.2.1 h hn).2.2.2.2 with z | z; exact z; exact absurd z.1 c43, Int32.not_le.mp b65⟩
             first
             | exact (dLT_new ok hm hn cn b78).symm
             | exact (dLT_min ok hm hn cn b78).symm)
      · refine z_aload_n dX1_leastTaken_40 rfl ?_
        refine z_iload dX1_leastTaken_41 rfl ?_
        refine z_iV1 (c_X1_isLame g l hd R hn ⟨n8, r4, i6⟩) mw_X1_isLame lm_X1_120 mi_X1_isLame mv_X1_isLame kX1 (by decide) (Nat.le_of_ble_eq_true rfl) zle (zDay_k0 hd) (zDay_s0 hd) dX1_leastTaken_43 (fun r43 M43 q43 => ?_)
        obtain ⟨rfl, ⟨c43, rfl⟩ | ⟨c43, rfl⟩⟩ := q43
        · refine z_if_ne (tgt := 93) dX1_leastTaken_46 (by decide) (fun b46 => ?_) (fun b46 => ?_)
          · refine z_iincN (k := h) dX1_leastTaken_93 rfl rfl (by decide) rfl rfl ?_
            refine z_goto (tgt := 5) dX1_leastTaken_96 (by decide) ?_
            refine zA.sub (ih (h + 1) (by omega) (by omega)) rfl ⟨Or.inr rfl, Or.inr rfl, Or.inr rfl, Or.inr (congrArg (fun z => some (Value.int z)) ?_), Or.inr rfl, Or.inl rfl, Or.inl rfl, trivial⟩
            first
              | exact (dLT_no (fun z => b37 z.1)).symm
              | exact (dLT_no (fun z => by rw [z.2.1] at c43; exact absurd c43 (by decide))).symm
              | exact (dLT_no (fun z => absurd z.2.2 (Int32.not_lt.mpr b65))).symm
              | (have cn : dCan σ inn m h := ⟨b37, by rcases (ok.2.1 h hn).2.2.2.2 with z | z; exact z; exact absurd z.1 c43, Int32.not_le.mp b65⟩
                 first
                 | exact (dLT_new ok hm hn cn b78).symm
                 | exact (dLT_min ok hm hn cn b78).symm)
          · exact absurd b46 (by decide)
        · refine z_if_ne (tgt := 93) dX1_leastTaken_46 (by decide) (fun b46 => ?_) (fun b46 => ?_)
          · exact absurd b46 (by decide)
          · refine z_aload_n dX1_leastTaken_49 rfl ?_
            refine z_getR (j := 3) (r := (d + 2)) kX1 lf_X1_15 (by decide) rfl dX1_leastTaken_50 (zDay_k0 hd) (zDay_s0 hd) (zDay_r3 hd) (zDay_l2 hd) ?_
            refine z_iload dX1_leastTaken_53 rfl ?_
            refine z_ialdV (j := h) rfl (by omega) (R.1.2.2.2.1 h (by omega)).2.1 dX1_leastTaken_55 (zDay_k2 hd) (zDay_s2 hd) ?_
            refine z_iload dX1_leastTaken_56 rfl ?_
            refine z_iload_n dX1_leastTaken_58 rfl ?_
            refine z_iS2 (c_X2_tires g l) mw_X2_tires lm_X1_117 ms_X2_tires (by decide) (Nat.le_of_ble_eq_true rfl) zle dX1_leastTaken_59 (fun r59 M59 q59 => ?_)
            obtain ⟨rfl, rfl⟩ := q59
            refine z_iadd dX1_leastTaken_62 ?_
            refine z_bipush (v := 10) dX1_leastTaken_63 (by decide) ?_
            refine z_icmp_ge (tgt := 93) dX1_leastTaken_65 (by decide) (fun b65 => ?_) (fun b65 => ?_)
            · refine z_iincN (k := h) dX1_leastTaken_93 rfl rfl (by decide) rfl rfl ?_
              refine z_goto (tgt := 5) dX1_leastTaken_96 (by decide) ?_
              refine zA.sub (ih (h + 1) (by omega) (by omega)) rfl ⟨Or.inr rfl, Or.inr rfl, Or.inr rfl, Or.inr (congrArg (fun z => some (Value.int z)) ?_), Or.inr rfl, Or.inl rfl, Or.inl rfl, trivial⟩
              first
                | exact (dLT_no (fun z => b37 z.1)).symm
                | exact (dLT_no (fun z => by rw [z.2.1] at c43; exact absurd c43 (by decide))).symm
                | exact (dLT_no (fun z => absurd z.2.2 (Int32.not_lt.mpr b65))).symm
                | (have cn : dCan σ inn m h := ⟨b37, by rcases (ok.2.1 h hn).2.2.2.2 with z | z; exact z; exact absurd z.1 c43, Int32.not_le.mp b65⟩
                   first
                   | exact (dLT_new ok hm hn cn b78).symm
                   | exact (dLT_min ok hm hn cn b78).symm)
            · refine z_iload dX1_leastTaken_68 rfl ?_
              refine z_iload_n dX1_leastTaken_70 rfl ?_
              refine z_iS2 (c_X2_takes g l) mw_X2_takes lm_X1_114 ms_X2_takes (by decide) (Nat.le_of_ble_eq_true rfl) zle dX1_leastTaken_71 (fun r71 M71 q71 => ?_)
              obtain ⟨rfl, rfl⟩ := q71
              refine z_istore dX1_leastTaken_74 (by decide) rfl rfl ?_
              refine z_iload_n dX1_leastTaken_76 rfl ?_
              refine z_iconst (v := (-1)) dX1_leastTaken_77 (by decide) ?_
              refine z_icmp_ne (tgt := 86) dX1_leastTaken_78 (by decide) (fun b78 => ?_) (fun b78 => ?_)
              · refine z_iload_n dX1_leastTaken_86 rfl ?_
                refine z_iload dX1_leastTaken_87 rfl ?_
                refine z_min lm_X1_133 w_mins w_mi w_minc (by decide) (Nat.le_of_ble_eq_true rfl) (Nat.le_refl _) (Nat.le_refl _) dX1_leastTaken_89 ?_
                refine z_istore_n dX1_leastTaken_92 (by decide) rfl rfl ?_
                refine z_iincN (k := h) dX1_leastTaken_93 rfl rfl (by decide) rfl rfl ?_
                refine z_goto (tgt := 5) dX1_leastTaken_96 (by decide) ?_
                refine zA.sub (ih (h + 1) (by omega) (by omega)) rfl ⟨Or.inr rfl, Or.inr rfl, Or.inr rfl, Or.inr (congrArg (fun z => some (Value.int z)) ?_), Or.inr rfl, Or.inl rfl, Or.inl rfl, trivial⟩
                first
                  | exact (dLT_no (fun z => b37 z.1)).symm
                  | exact (dLT_no (fun z => by rw [z.2.1] at c43; exact absurd c43 (by decide))).symm
                  | exact (dLT_no (fun z => absurd z.2.2 (Int32.not_lt.mpr b65))).symm
                  | (have cn : dCan σ inn m h := ⟨b37, by rcases (ok.2.1 h hn).2.2.2.2 with z | z; exact z; exact absurd z.1 c43, Int32.not_le.mp b65⟩
                     first
                     | exact (dLT_new ok hm hn cn b78).symm
                     | exact (dLT_min ok hm hn cn b78).symm)
              · refine z_iload dX1_leastTaken_81 rfl ?_
                refine z_goto (tgt := 92) dX1_leastTaken_83 (by decide) ?_
                refine z_istore_n dX1_leastTaken_92 (by decide) rfl rfl ?_
                refine z_iincN (k := h) dX1_leastTaken_93 rfl rfl (by decide) rfl rfl ?_
                refine z_goto (tgt := 5) dX1_leastTaken_96 (by decide) ?_
                refine zA.sub (ih (h + 1) (by omega) (by omega)) rfl ⟨Or.inr rfl, Or.inr rfl, Or.inr rfl, Or.inr (congrArg (fun z => some (Value.int z)) ?_), Or.inr rfl, Or.inl rfl, Or.inl rfl, trivial⟩
                first
                  | exact (dLT_no (fun z => b37 z.1)).symm
                  | exact (dLT_no (fun z => by rw [z.2.1] at c43; exact absurd c43 (by decide))).symm
                  | exact (dLT_no (fun z => absurd z.2.2 (Int32.not_lt.mpr b65))).symm
                  | (have cn : dCan σ inn m h := ⟨b37, by rcases (ok.2.1 h hn).2.2.2.2 with z | z; exact z; exact absurd z.1 c43, Int32.not_le.mp b65⟩
                     first
                     | exact (dLT_new ok hm hn cn b78).symm
                     | exact (dLT_min ok hm hn cn b78).symm)

set_option maxRecDepth 100000 in
set_option maxHeartbeats 4000000 in
theorem c_X1_leastTaken (g : zG) (l : Launch) {M0 M : zM} {d n r i : Nat} {σ : Dy} {inn m : Int32} (hd : d ∈ zDays) (R : zDR M0 M d σ n r i) (ok : dOK σ n r i) (hm : zIn1 m) : zMet g l yX1_leastTaken cX1_leastTaken 7 (some .int) 1 0 0 [.ref d, .int inn, .int m] S0 M (zQi (fun r' M' => r' = dLT σ inn m n ∧ M' = M)) := by
  have n8 := ok.1.1
  have r4 := ok.1.2.1
  have i6 := ok.1.2.2.1
  refine zMet.of (by decide) (Nat.le_of_ble_eq_true rfl) ?_
  refine z_iconst (v := (-1)) dX1_leastTaken_0 (by decide) ?_
  refine z_istore_n dX1_leastTaken_1 (by decide) rfl rfl ?_
  refine z_iconst (v := 0) dX1_leastTaken_2 (by decide) ?_
  refine z_istore dX1_leastTaken_3 (by decide) rfl rfl ?_
  exact lp_leastTaken g l hd R ok hm (n + 1) 0 (Nat.zero_le _) (by omega)

set_option maxRecDepth 100000 in
set_option maxHeartbeats 4000000 in
theorem c_X1_become (g : zG) (l : Launch) {M : zM} {d e n r i : Nat} {σ : Dy} (hd : d ∈ zDays) (he : e ∈ zDays) (hne : d ≠ e) (hs : n ≤ 8 ∧ r ≤ 4) (R : dRep M e σ n r i) : zMet g l yX1_become cX1_become 2 none 1 0 0 [.ref d, .ref e] S0 M (zQv (fun M' => zDR M M' d σ n r i)) := by
  refine zMet.of (by decide) (Nat.le_of_ble_eq_true rfl) ?_
  refine z_aload_n dX1_become_0 rfl ?_
  refine z_aload_n dX1_become_1 rfl ?_
  refine z_getI (j := 1) kX1 lf_X1_34 (by decide) rfl dX1_become_2 (zDay_k0 he) (zDay_s0 he) ?_
  refine z_putIE (j := 1) kX1 lf_X1_34 (by decide) rfl rfl (kX1.2.2.1 1 (by decide)) rfl rfl dX1_become_5 (zDay_k0 hd) (zDay_s0 hd) (fun M5 e5 => ?_)
  refine z_aload_n dX1_become_8 rfl ?_
  refine z_aload_n dX1_become_9 rfl ?_
  refine z_getI (j := 5) kX1 lf_X1_38 (by decide) rfl dX1_become_10 (zDay_k0 he) (zDay_s0 he) ?_
  refine z_putIE (j := 5) kX1 lf_X1_38 (by decide) rfl rfl (kX1.2.2.1 5 (by decide)) rfl rfl dX1_become_13 (zDay_k0 hd) (zDay_s0 hd) (fun M13 e13 => ?_)
  refine z_aload_n dX1_become_16 rfl ?_
  refine z_getR (j := 2) (r := (e + 1)) kX1 lf_X1_11 (by decide) rfl dX1_become_17 (zDay_k0 he) (zDay_s0 he) (zDay_r2 he) (zDay_l1 he) ?_
  refine z_iconst (v := 0) dX1_become_20 (by decide) ?_
  refine z_aload_n dX1_become_21 rfl ?_
  refine z_getR (j := 2) (r := (d + 1)) kX1 lf_X1_11 (by decide) rfl dX1_become_22 (zDay_k0 hd) (zDay_s0 hd) (zDay_r2 hd) (zDay_l1 hd) ?_
  refine z_iconst (v := 0) dX1_become_25 (by decide) ?_
  refine z_bipush (v := 8) dX1_become_26 (by decide) ?_
  refine z_copyE (a := 0) (b := 0) (m' := 8) lm_X1_57 w_an w_as w_ai (by decide) (Nat.le_of_ble_eq_true rfl) (zDay_k1 he) (zDay_s1 he) (zDay_k1 hd) (zDay_s1 hd) rfl rfl rfl (by decide) (by decide) (by decide) (by decide) dX1_become_28 (fun M28 e28 => ?_)
  refine z_aload_n dX1_become_31 rfl ?_
  refine z_getR (j := 3) (r := (e + 2)) kX1 lf_X1_15 (by decide) rfl dX1_become_32 (zDay_k0 he) (zDay_s0 he) (zDay_r3 he) (zDay_l2 he) ?_
  refine z_iconst (v := 0) dX1_become_35 (by decide) ?_
  refine z_aload_n dX1_become_36 rfl ?_
  refine z_getR (j := 3) (r := (d + 2)) kX1 lf_X1_15 (by decide) rfl dX1_become_37 (zDay_k0 hd) (zDay_s0 hd) (zDay_r3 hd) (zDay_l2 hd) ?_
  refine z_iconst (v := 0) dX1_become_40 (by decide) ?_
  refine z_bipush (v := 8) dX1_become_41 (by decide) ?_
  refine z_copyE (a := 0) (b := 0) (m' := 8) lm_X1_57 w_an w_as w_ai (by decide) (Nat.le_of_ble_eq_true rfl) (zDay_k2 he) (zDay_s2 he) (zDay_k2 hd) (zDay_s2 hd) rfl rfl rfl (by decide) (by decide) (by decide) (by decide) dX1_become_43 (fun M43 e43 => ?_)
  refine z_aload_n dX1_become_46 rfl ?_
  refine z_getR (j := 4) (r := (e + 3)) kX1 lf_X1_18 (by decide) rfl dX1_become_47 (zDay_k0 he) (zDay_s0 he) (zDay_r4 he) (zDay_l3 he) ?_
  refine z_iconst (v := 0) dX1_become_50 (by decide) ?_
  refine z_aload_n dX1_become_51 rfl ?_
  refine z_getR (j := 4) (r := (d + 3)) kX1 lf_X1_18 (by decide) rfl dX1_become_52 (zDay_k0 hd) (zDay_s0 hd) (zDay_r4 hd) (zDay_l3 hd) ?_
  refine z_iconst (v := 0) dX1_become_55 (by decide) ?_
  refine z_bipush (v := 8) dX1_become_56 (by decide) ?_
  refine z_copyE (a := 0) (b := 0) (m' := 8) lm_X1_57 w_an w_as w_ai (by decide) (Nat.le_of_ble_eq_true rfl) (zDay_k3 he) (zDay_s3 he) (zDay_k3 hd) (zDay_s3 hd) rfl rfl rfl (by decide) (by decide) (by decide) (by decide) dX1_become_58 (fun M58 e58 => ?_)
  refine z_aload_n dX1_become_61 rfl ?_
  refine z_getR (j := 6) (r := (e + 4)) kX1 lf_X1_21 (by decide) rfl dX1_become_62 (zDay_k0 he) (zDay_s0 he) (zDay_r6 he) (zDay_l4 he) ?_
  refine z_iconst (v := 0) dX1_become_65 (by decide) ?_
  refine z_aload_n dX1_become_66 rfl ?_
  refine z_getR (j := 6) (r := (d + 4)) kX1 lf_X1_21 (by decide) rfl dX1_become_67 (zDay_k0 hd) (zDay_s0 hd) (zDay_r6 hd) (zDay_l4 hd) ?_
  refine z_iconst (v := 0) dX1_become_70 (by decide) ?_
  refine z_iconst (v := 4) dX1_become_71 (by decide) ?_
  refine z_copyE (a := 0) (b := 0) (m' := 4) lm_X1_57 w_an w_as w_ai (by decide) (Nat.le_of_ble_eq_true rfl) (zDay_k4 he) (zDay_s4 he) (zDay_k4 hd) (zDay_s4 hd) rfl rfl rfl (by decide) (by decide) (by decide) (by decide) dX1_become_72 (fun M72 e72 => ?_)
  refine z_aload_n dX1_become_75 rfl ?_
  refine z_getR (j := 7) (r := (e + 5)) kX1 lf_X1_24 (by decide) rfl dX1_become_76 (zDay_k0 he) (zDay_s0 he) (zDay_r7 he) (zDay_l5 he) ?_
  refine z_iconst (v := 0) dX1_become_79 (by decide) ?_
  refine z_aload_n dX1_become_80 rfl ?_
  refine z_getR (j := 7) (r := (d + 5)) kX1 lf_X1_24 (by decide) rfl dX1_become_81 (zDay_k0 hd) (zDay_s0 hd) (zDay_r7 hd) (zDay_l5 hd) ?_
  refine z_iconst (v := 0) dX1_become_84 (by decide) ?_
  refine z_iconst (v := 4) dX1_become_85 (by decide) ?_
  refine z_copyE (a := 0) (b := 0) (m' := 4) lm_X1_57 w_an w_as w_ai (by decide) (Nat.le_of_ble_eq_true rfl) (zDay_k5 he) (zDay_s5 he) (zDay_k5 hd) (zDay_s5 hd) rfl rfl rfl (by decide) (by decide) (by decide) (by decide) dX1_become_86 (fun M86 e86 => ?_)
  refine z_aload_n dX1_become_89 rfl ?_
  refine z_getR (j := 8) (r := (e + 6)) kX1 lf_X1_27 (by decide) rfl dX1_become_90 (zDay_k0 he) (zDay_s0 he) (zDay_r8 he) (zDay_l6 he) ?_
  refine z_iconst (v := 0) dX1_become_93 (by decide) ?_
  refine z_aload_n dX1_become_94 rfl ?_
  refine z_getR (j := 8) (r := (d + 6)) kX1 lf_X1_27 (by decide) rfl dX1_become_95 (zDay_k0 hd) (zDay_s0 hd) (zDay_r8 hd) (zDay_l6 hd) ?_
  refine z_iconst (v := 0) dX1_become_98 (by decide) ?_
  refine z_iconst (v := 4) dX1_become_99 (by decide) ?_
  refine z_copyE (a := 0) (b := 0) (m' := 4) lm_X1_57 w_an w_as w_ai (by decide) (Nat.le_of_ble_eq_true rfl) (zDay_k6 he) (zDay_s6 he) (zDay_k6 hd) (zDay_s6 hd) rfl rfl rfl (by decide) (by decide) (by decide) (by decide) dX1_become_100 (fun M100 e100 => ?_)
  refine z_vret dX1_become_103 zle ?_
  exact zBec hd he hne hs.1 hs.2 R e5 e13 e28 e43 e58 e72 e86 e100

set_option maxRecDepth 100000 in
set_option maxHeartbeats 4000000 in
theorem lp_begin2 (g : zG) (l : Launch) {M0 : zM} {d n r i : Nat} {τ : Dy} (hd : d ∈ zDays) (T : dTold2 M0 τ n r i) (hs : n ≤ 8 ∧ r ≤ 4) : ∀ (k h : Nat) (M : zM), h ≤ r → r - h < k → dBg M0 M d τ n h → zA g l yX1_begin cX1_begin 2 none 0 0 0 (zQv (fun M' => zDR M0 M' d τ n r i)) 68 0 0 S0 M [.ref d, .int (nI h)] [] := by
  have h18 := zDay_18 hd
  have n8 := hs.1
  have r4 := hs.2
  intro k
  induction k with
  | zero => intro h M hh hk; exact absurd hk (Nat.not_lt_zero _)
  | succ k ih =>
    intro h M hh hk B
    refine z_iload_n dX1_begin_68 rfl ?_
    refine z_aload_n dX1_begin_69 rfl ?_
    refine z_getR (j := 0) (r := 1) kX1 lf_X1_30 (by decide) rfl dX1_begin_70 (zDay_k0 hd) (zDay_s0 hd) (zDay_r0 hd) (by decide) ?_
    refine z_getIV (j := 2) kX7 lf_X1_50 (by decide) rfl ((congrFun (B.1 1 (by omega)) 2).trans T.1.2.2.1) dX1_begin_73 k0_1 s0_1 ?_
    refine z_icmp_ge (tgt := 122) dX1_begin_76 (by decide) (fun b76 => ?_) (fun b76 => ?_)
    · have e : r ≤ h := (nI_leI (by omega) (by omega)).mp b76
      have e2 : h = r := by omega
      subst e2
      refine z_vret dX1_begin_122 zle ?_
      exact dBg.is hd T B
    · have hn : h < r := by
        rcases Nat.lt_or_ge h r with z | z
        · exact z
        · exact absurd (nI_le z (by omega)) b76
      refine z_aload_n dX1_begin_79 rfl ?_
      refine z_getR (j := 6) (r := (d + 4)) kX1 lf_X1_21 (by decide) rfl dX1_begin_80 (zDay_k0 hd) (zDay_s0 hd) (zDay_r6 hd) (zDay_l4 hd) ?_
      refine z_iload_n dX1_begin_83 rfl ?_
      refine z_aload_n dX1_begin_84 rfl ?_
      refine z_getR (j := 0) (r := 1) kX1 lf_X1_30 (by decide) rfl dX1_begin_85 (zDay_k0 hd) (zDay_s0 hd) (zDay_r0 hd) (by decide) ?_
      refine z_getR (j := 7) (r := 6) kX7 lf_X1_53 (by decide) rfl dX1_begin_88 k0_1 s0_1 r0_1_7 (by decide) ?_
      refine z_iload_n dX1_begin_91 rfl ?_
      refine z_ialdN (j := h) rfl (by omega) dX1_begin_92 k0_6 s0_6 ?_
      refine z_iastN (j := h) rfl (by omega) dX1_begin_93 (zDay_k4 hd) (zDay_s4 hd) ?_
      refine z_aload_n dX1_begin_94 rfl ?_
      refine z_getR (j := 7) (r := (d + 5)) kX1 lf_X1_24 (by decide) rfl dX1_begin_95 (zDay_k0 hd) (zDay_s0 hd) (zDay_r7 hd) (zDay_l5 hd) ?_
      refine z_iload_n dX1_begin_98 rfl ?_
      refine z_aload_n dX1_begin_99 rfl ?_
      refine z_getR (j := 0) (r := 1) kX1 lf_X1_30 (by decide) rfl dX1_begin_100 (zDay_k0 hd) (zDay_s0 hd) (zDay_r0 hd) (by decide) ?_
      refine z_getR (j := 8) (r := 7) kX7 lf_X1_56 (by decide) rfl dX1_begin_103 k0_1 s0_1 r0_1_8 (by decide) ?_
      refine z_iload_n dX1_begin_106 rfl ?_
      refine z_ialdN (j := h) rfl (by omega) dX1_begin_107 k0_7 s0_7 ?_
      refine z_iastN (j := h) rfl (by omega) dX1_begin_108 (zDay_k5 hd) (zDay_s5 hd) ?_
      refine z_aload_n dX1_begin_109 rfl ?_
      refine z_getR (j := 8) (r := (d + 6)) kX1 lf_X1_27 (by decide) rfl dX1_begin_110 (zDay_k0 hd) (zDay_s0 hd) (zDay_r8 hd) (zDay_l6 hd) ?_
      refine z_iload_n dX1_begin_113 rfl ?_
      refine z_iconst (v := 0) dX1_begin_114 (by decide) ?_
      refine z_iastN (j := h) rfl (by omega) dX1_begin_115 (zDay_k6 hd) (zDay_s6 hd) ?_
      refine z_iincN (k := h) dX1_begin_116 rfl rfl (by decide) rfl rfl ?_
      refine z_goto (tgt := 68) dX1_begin_119 (by decide) ?_
      exact ih (h + 1) _ (by omega) (by omega) (B.rider rfl (by rw [B.1 6 (by omega)]; exact (T.2.2.1 h hn).1) (by rw [z_up_n _ _ _ (by omega), B.1 7 (by omega)]; exact (T.2.2.1 h hn).2) (T.2.2.2.2.2 h hn).symm)

set_option maxRecDepth 100000 in
set_option maxHeartbeats 4000000 in
theorem lp_begin1 (g : zG) (l : Launch) {M0 : zM} {d n r i : Nat} {τ : Dy} (hd : d ∈ zDays) (T : dTold2 M0 τ n r i) (hs : n ≤ 8 ∧ r ≤ 4) : ∀ (k h : Nat) (M : zM), h ≤ n → n - h < k → dBg M0 M d τ h 0 → zA g l yX1_begin cX1_begin 2 none 0 0 0 (zQv (fun M' => zDR M0 M' d τ n r i)) 12 0 0 S0 M [.ref d, .int (nI h)] [] := by
  have h18 := zDay_18 hd
  have n8 := hs.1
  have r4 := hs.2
  intro k
  induction k with
  | zero => intro h M hh hk; exact absurd hk (Nat.not_lt_zero _)
  | succ k ih =>
    intro h M hh hk B
    refine z_iload_n dX1_begin_12 rfl ?_
    refine z_aload_n dX1_begin_13 rfl ?_
    refine z_getR (j := 0) (r := 1) kX1 lf_X1_30 (by decide) rfl dX1_begin_14 (zDay_k0 hd) (zDay_s0 hd) (zDay_r0 hd) (by decide) ?_
    refine z_getIV (j := 1) kX7 lf_X1_41 (by decide) rfl ((congrFun (B.1 1 (by omega)) 1).trans T.1.2.1) dX1_begin_17 k0_1 s0_1 ?_
    refine z_icmp_ge (tgt := 66) dX1_begin_20 (by decide) (fun b20 => ?_) (fun b20 => ?_)
    · have e : n ≤ h := (nI_leI (by omega) (by omega)).mp b20
      have e2 : h = n := by omega
      subst e2
      refine z_iconst (v := 0) dX1_begin_66 (by decide) ?_
      refine z_istore_n dX1_begin_67 (by decide) rfl rfl ?_
      exact lp_begin2 g l hd T hs (r + 1) 0 _ (Nat.zero_le _) (by omega) B
    · have hn : h < n := by
        rcases Nat.lt_or_ge h n with z | z
        · exact z
        · exact absurd (nI_le z (by omega)) b20
      refine z_aload_n dX1_begin_23 rfl ?_
      refine z_getR (j := 2) (r := (d + 1)) kX1 lf_X1_11 (by decide) rfl dX1_begin_24 (zDay_k0 hd) (zDay_s0 hd) (zDay_r2 hd) (zDay_l1 hd) ?_
      refine z_iload_n dX1_begin_27 rfl ?_
      refine z_aload_n dX1_begin_28 rfl ?_
      refine z_getR (j := 0) (r := 1) kX1 lf_X1_30 (by decide) rfl dX1_begin_29 (zDay_k0 hd) (zDay_s0 hd) (zDay_r0 hd) (by decide) ?_
      refine z_getR (j := 5) (r := 4) kX7 lf_X1_46 (by decide) rfl dX1_begin_32 k0_1 s0_1 r0_1_5 (by decide) ?_
      refine z_iload_n dX1_begin_35 rfl ?_
      refine z_ialdN (j := h) rfl (by omega) dX1_begin_36 k0_4 s0_4 ?_
      refine z_iastN (j := h) rfl (by omega) dX1_begin_37 (zDay_k1 hd) (zDay_s1 hd) ?_
      refine z_aload_n dX1_begin_38 rfl ?_
      refine z_getR (j := 3) (r := (d + 2)) kX1 lf_X1_15 (by decide) rfl dX1_begin_39 (zDay_k0 hd) (zDay_s0 hd) (zDay_r3 hd) (zDay_l2 hd) ?_
      refine z_iload_n dX1_begin_42 rfl ?_
      refine z_aload_n dX1_begin_43 rfl ?_
      refine z_getR (j := 0) (r := 1) kX1 lf_X1_30 (by decide) rfl dX1_begin_44 (zDay_k0 hd) (zDay_s0 hd) (zDay_r0 hd) (by decide) ?_
      refine z_getR (j := 6) (r := 5) kX7 lf_X1_49 (by decide) rfl dX1_begin_47 k0_1 s0_1 r0_1_6 (by decide) ?_
      refine z_iload_n dX1_begin_50 rfl ?_
      refine z_ialdN (j := h) rfl (by omega) dX1_begin_51 k0_5 s0_5 ?_
      refine z_iastN (j := h) rfl (by omega) dX1_begin_52 (zDay_k2 hd) (zDay_s2 hd) ?_
      refine z_aload_n dX1_begin_53 rfl ?_
      refine z_getR (j := 4) (r := (d + 3)) kX1 lf_X1_18 (by decide) rfl dX1_begin_54 (zDay_k0 hd) (zDay_s0 hd) (zDay_r4 hd) (zDay_l3 hd) ?_
      refine z_iload_n dX1_begin_57 rfl ?_
      refine z_iconst (v := 0) dX1_begin_58 (by decide) ?_
      refine z_iastN (j := h) rfl (by omega) dX1_begin_59 (zDay_k3 hd) (zDay_s3 hd) ?_
      refine z_iincN (k := h) dX1_begin_60 rfl rfl (by decide) rfl rfl ?_
      refine z_goto (tgt := 12) dX1_begin_63 (by decide) ?_
      exact ih (h + 1) _ (by omega) (by omega) (B.hour rfl (by rw [B.1 4 (by omega), (T.2.2.2.2.1 h hn).1]; exact (T.1.2.2.2.2 h hn).2) (by rw [z_up_n _ _ _ (by omega), B.1 5 (by omega)]; exact T.2.1 h hn) (T.2.2.2.2.1 h hn).2.2.symm)

set_option maxRecDepth 100000 in
set_option maxHeartbeats 4000000 in
theorem c_X1_begin (g : zG) (l : Launch) {M0 : zM} {d n r i : Nat} {τ : Dy} (hd : d ∈ zDays) (T : dTold2 M0 τ n r i) (hs : n ≤ 8 ∧ r ≤ 4) : zMet g l yX1_begin cX1_begin 2 none 0 0 0 [.ref d] S0 M0 (zQv (fun M' => zDR M0 M' d τ n r i)) := by
  refine zMet.of (by decide) (Nat.le_of_ble_eq_true rfl) ?_
  refine z_aload_n dX1_begin_0 rfl ?_
  refine z_iconst (v := 0) dX1_begin_1 (by decide) ?_
  refine z_putI (j := 1) kX1 lf_X1_34 (by decide) rfl rfl (kX1.2.2.1 1 (by decide)) rfl rfl dX1_begin_2 (zDay_k0 hd) (zDay_s0 hd) ?_
  refine z_aload_n dX1_begin_5 rfl ?_
  refine z_iconst (v := 0) dX1_begin_6 (by decide) ?_
  refine z_putI (j := 5) kX1 lf_X1_38 (by decide) rfl rfl (kX1.2.2.1 5 (by decide)) rfl rfl dX1_begin_7 (zDay_k0 hd) (zDay_s0 hd) ?_
  refine z_iconst (v := 0) dX1_begin_10 (by decide) ?_
  refine z_istore_n dX1_begin_11 (by decide) rfl rfl ?_
  exact lp_begin1 g l hd T hs (n + 1) 0 _ (Nat.zero_le _) (by omega) ⟨fun k hk => by rw [z_up_n _ _ _ (by omega), z_up_n _ _ _ (by omega)], by rw [z_up_jn _ _ (by omega), z_up_kj], z_up_kj _ _ _ _, fun x hx => absurd hx (Nat.not_lt_zero _), fun x hx => absurd hx (Nat.not_lt_zero _)⟩

