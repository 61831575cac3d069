/-! ===== the closure that weigh goes through: the class's rounds and the reference's end at the same ===== -/
def itG (G : Int32 → Int32) (s : Int32) : Nat → Int32
  | 0 => s
  | k + 1 => G (itG G s k)
def sub4 (s t : Int32) : Prop := ∀ i, i < 4 → bt s i = true → bt t i = true
def four (s : Int32) : Prop := ∀ i, 4 ≤ i → i < 32 → bt s i = false
def pc4 (a : Nat) : Nat := a % 2 + a / 2 % 2 + a / 4 % 2 + a / 8 % 2
theorem pc4_lt : ∀ a, a < 16 → ∀ b, b < 16 → nI a &&& nI b = nI a → a ≠ b → pc4 a < pc4 b := by decide +kernel
theorem pc4_le : ∀ a, a < 16 → pc4 a ≤ 4 := by decide
theorem pc4_pos : ∀ a, a < 16 → a ≠ 0 → 1 ≤ pc4 a := by decide
theorem four_eq {s t : Int32} (hs : four s) (ht : four t) (h : sub4 s t) (h2 : sub4 t s) : s = t := b_ext (fun i hi => by
  by_cases c : i < 4
  · have h1 := h i c
    have h3 := h2 i c
    cases e : bt s i <;> cases f : bt t i
    · rfl
    · rw [h3 f] at e; exact absurd e (by decide)
    · rw [h1 e] at f; exact absurd f (by decide)
    · rfl
  · rw [hs i (by omega) hi, ht i (by omega) hi])
theorem four_lt {s t : Int32} (hs : four s) (ht : four t) (h : sub4 s t) (hne : s ≠ t) : ∃ a b : Nat, a < 16 ∧ b < 16 ∧ s = nI a ∧ t = nI b ∧ pc4 a < pc4 b := by
  obtain ⟨a, ha, ea⟩ := small_of_bt hs
  obtain ⟨b, hb, eb⟩ := small_of_bt ht
  refine ⟨a, b, ha, hb, ea, eb, pc4_lt a ha b hb ?_ (fun z => hne (by rw [ea, eb, z]))⟩
  rw [← ea, ← eb]
  refine b_ext (fun i hi => ?_)
  rw [b_and]
  by_cases c : i < 4
  · cases e : bt s i
    · rfl
    · rw [h i c e]; rfl
  · rw [hs i (by omega) hi]; rfl
theorem it_four {G : Int32 → Int32} (h4 : ∀ s, four s → four (G s)) {s : Int32} (hs : four s) : ∀ k, four (itG G s k)
  | 0 => hs
  | k + 1 => h4 _ (it_four h4 hs k)
theorem it_fix {G : Int32 → Int32} {s : Int32} {k : Nat} (h : itG G s k = itG G s (k + 1)) : ∀ j, itG G s (k + j) = itG G s k
  | 0 => rfl
  | j + 1 => by
    show G (itG G s (k + j)) = _
    rw [it_fix h j]
    exact h.symm
theorem it_stop {G : Int32 → Int32} (h4 : ∀ s, four s → four (G s)) (hG : ∀ s, four s → sub4 s (G s)) {s : Int32} (hs : four s) (h0 : s ≠ 0) : ∃ k, k ≤ 3 ∧ itG G s k = itG G s (k + 1) := by
  refine Classical.byContradiction (fun hc => ?_)
  have hn : ∀ k, k ≤ 3 → itG G s k ≠ itG G s (k + 1) := fun k hk z => hc ⟨k, hk, z⟩
  have st : ∀ k, k ≤ 3 → ∃ a b : Nat, a < 16 ∧ b < 16 ∧ itG G s k = nI a ∧ itG G s (k + 1) = nI b ∧ pc4 a < pc4 b := fun k hk =>
    four_lt (it_four h4 hs k) (it_four h4 hs (k + 1)) (hG _ (it_four h4 hs k)) (hn k hk)
  obtain ⟨a0, b0, x0, y0, e0, f0, g0⟩ := st 0 (by omega)
  obtain ⟨a1, b1, x1, y1, e1, f1, g1⟩ := st 1 (by omega)
  obtain ⟨a2, b2, x2, y2, e2, f2, g2⟩ := st 2 (by omega)
  obtain ⟨a3, b3, x3, y3, e3, f3, g3⟩ := st 3 (by omega)
  have q1 : b0 = a1 := (nI_eq (by omega) (by omega)).mp (f0.symm.trans e1)
  have q2 : b1 = a2 := (nI_eq (by omega) (by omega)).mp (f1.symm.trans e2)
  have q3 : b2 = a3 := (nI_eq (by omega) (by omega)).mp (f2.symm.trans e3)
  have p0 : 1 ≤ pc4 a0 := pc4_pos a0 x0 (fun z => h0 (by rw [z] at e0; exact e0))
  have p4 := pc4_le b3 y3
  subst q1 q2 q3
  omega
def gT (A : aSt) (o i : Nat) : Nat → Bool
  | 0 => false
  | k + 1 => gT A o i k || (decide (A.so o k = 2) && decide (A.va o k = nI i))
def gA (A : aSt) (s : Int32) (i : Nat) : Nat → Bool
  | 0 => false
  | o + 1 => gA A s i o || (bt s o && gT A o i (A.ln o))
section ZCLO
variable {A : aSt}
theorem gT_told (ok : aOK A) {o : Nat} (ho : o < 4) {i : Nat} (hi : i < 32) : ∀ k, k ≤ 10 → bt (fTold (A.so o) (A.va o) k) i = gT A o i k
  | 0, _ => b_0 i
  | k + 1, hk => by
    have ih := gT_told ok ho hi k (by omega)
    show bt (if A.so o k = 2 then _ else _) i = (gT A o i k || _)
    by_cases c : A.so o k = 2
    · obtain ⟨v, hv, ev⟩ := (ok.so o ho k (by omega)).2 c
      rw [if_pos c, b_or, ih, ev, bt_sh (by omega) hi, decide_eq_true c, Bool.true_and]
      congr 1
      exact decide_eq_decide.mpr ⟨fun z => by rw [z], fun z => ((nI_eq (by omega) (by omega)).mp z).symm⟩
    · rw [if_neg c, ih, decide_eq_false c, Bool.false_and, Bool.or_false]
theorem gT_m (ok : aOK A) {o : Nat} (ho : o < 4) {i : Nat} (hi : i < 32) : ∀ k, k ≤ 10 → bt (mTold A o k) i = (gT A o i k && A.bo i)
  | 0, _ => by rw [show mTold A o 0 = 0 from rfl, b_0]; rfl
  | k + 1, hk => by
    have ih := gT_m ok ho hi k (by omega)
    show bt (mTold A o k ||| _) i = ((gT A o i k || _) && A.bo i)
    rw [b_or, ih]
    by_cases c : A.so o k = 2
    · obtain ⟨v, hv, ev⟩ := (ok.so o ho k (by omega)).2 c
      rw [ev, nI_clamp (by omega), decide_eq_true c, Bool.true_and]
      by_cases e : i = v
      · subst e
        rw [decide_eq_true rfl, Bool.or_true, Bool.true_and]
        by_cases d : A.bo i = true
        · rw [if_pos ⟨c, d⟩, bt_sh (by omega) hi, decide_eq_true rfl, d, Bool.or_true]
        · rw [if_neg (fun z => d z.2), b_0, Bool.or_false, Bool.eq_false_iff.mpr d, Bool.and_false]
      · rw [decide_eq_false (fun z => e ((nI_eq (by omega) (by omega)).mp z).symm), Bool.or_false]
        split
        · rw [bt_sh (by omega) hi, decide_eq_false e, Bool.or_false]
        · rw [b_0, Bool.or_false]
    · rw [if_neg (fun z => c z.1), b_0, Bool.or_false, decide_eq_false c, Bool.false_and, Bool.or_false]
theorem gT_hi (ok : aOK A) {o : Nat} (ho : o < 4) {i : Nat} (h4 : 4 ≤ i) (hi : i < 32) : ∀ k, k ≤ 10 → gT A o i k = false
  | 0, _ => rfl
  | k + 1, hk => by
    show (gT A o i k || _) = false
    rw [gT_hi ok ho h4 hi k (by omega), Bool.false_or]
    by_cases c : A.so o k = 2
    · obtain ⟨v, hv, ev⟩ := (ok.so o ho k (by omega)).2 c
      rw [ev, (decide_eq_false (fun z => by have := (nI_eq (by omega) (by omega)).mp z; omega) : decide (nI v = nI i) = false), Bool.and_false]
    · rw [decide_eq_false c, Bool.false_and]
theorem gA_all (ok : aOK A) (s : Int32) {i : Nat} (hi : i < 32) : ∀ o, o ≤ 4 → bt (fAll (aBk A) A.ln s o) i = gA A s i o
  | 0, _ => b_0 i
  | o + 1, h => by
    show bt (if _ then _ else _) i = (gA A s i o || _)
    rw [aBk_1, aBk_2]
    cases e : bt s o
    · rw [if_pos ((z_b0 (by omega)).mpr e), gA_all ok s hi o (by omega), Bool.false_and, Bool.or_false]
    · rw [if_neg (fun z => by rw [(z_b0 (by omega)).mp z] at e; exact absurd e (by decide)), b_or, gA_all ok s hi o (by omega), gT_told ok (by omega) hi _ (ok.ln o (by omega)).1, Bool.true_and]
theorem fWo_bt (ok : aOK A) (s : Int32) {i : Nat} (hi : i < 32) : ∀ b, b ≤ 4 → bt (fWo (aBk A) s b) i = (bt s i && (decide (b ≤ i) || A.bo i))
  | 0, _ => by rw [decide_eq_true (Nat.zero_le _), Bool.true_or, Bool.and_true]; rfl
  | b + 1, h => by
    show bt (if aBk A (115 + 3 * b) 2 = -1 then _ else _) i = _
    rw [aBk_0]
    have ih := fWo_bt ok s hi b (by omega)
    have hl := (ok.ln b (by omega)).1
    by_cases c : A.bo b = true
    · rw [if_neg (fun z => (bSz_m hl).mp z c), ih]
      by_cases e : i = b
      · subst e; rw [c, Bool.or_true, Bool.or_true]
      · rw [show decide (b + 1 ≤ i) = decide (b ≤ i) from decide_eq_decide.mpr (by omega)]
    · rw [if_pos ((bSz_m hl).mpr c), b_and, b_xor, bt_sh (by omega) hi, b_m1 i hi, ih]
      by_cases e : i = b
      · subst e
        rw [decide_eq_true rfl, decide_eq_false (show ¬ i + 1 ≤ i by omega), Bool.eq_false_iff.mpr c]
        simp
      · rw [decide_eq_false e, show decide (b + 1 ≤ i) = decide (b ≤ i) from decide_eq_decide.mpr (by omega)]
        simp
def gF (A : aSt) (s : Int32) : Int32 := s ||| fWo (aBk A) (fAll (aBk A) A.ln s 4) 4
theorem fReach_it (A : aSt) (s : Int32) : ∀ k, fReach (aBk A) A.ln s k = itG (gF A) s k
  | 0 => rfl
  | k + 1 => by
    show fReach (aBk A) A.ln s k ||| _ = gF A (itG (gF A) s k)
    rw [fReach_it A s k]; rfl
theorem mRea_it (A : aSt) (s : Int32) : ∀ k, mRea A s k = itG (fun t => mRnd A t 4) s k
  | 0 => rfl
  | k + 1 => by
    show mRnd A (mRea A s k) 4 = mRnd A (itG _ s k) 4
    rw [mRea_it A s k]
theorem gF_bt (ok : aOK A) (s : Int32) {i : Nat} (hi : i < 4) : bt (gF A s) i = (bt s i || (gA A s i 4 && A.bo i)) := by
  unfold gF
  rw [b_or, fWo_bt ok _ (by omega) 4 (by omega), gA_all ok s (by omega) 4 (by omega), decide_eq_false (by omega), Bool.false_or]
theorem gA_hi (ok : aOK A) (s : Int32) {i : Nat} (h4 : 4 ≤ i) (hi : i < 32) : ∀ o, o ≤ 4 → gA A s i o = false
  | 0, _ => rfl
  | o + 1, h => by
    show (gA A s i o || _) = false
    rw [gA_hi ok s h4 hi o (by omega), gT_hi ok (by omega) h4 hi _ (ok.ln o (by omega)).1, Bool.and_false]; rfl
theorem gF_four (ok : aOK A) (s : Int32) (h : four s) : four (gF A s) := fun i h4 hi => by
  unfold gF
  rw [b_or, fWo_bt ok _ hi 4 (by omega), gA_all ok s hi 4 (by omega), gA_hi ok s h4 hi 4 (by omega), h i h4 hi]; rfl
theorem gF_sub (ok : aOK A) (s : Int32) : sub4 s (gF A s) := fun i hi h => by rw [gF_bt ok s hi, h]; rfl
theorem gA_of (s : Int32) {o i : Nat} (h1 : bt s o = true) (h2 : gT A o i (A.ln o) = true) : ∀ k, o < k → gA A s i k = true
  | 0, h => absurd h (Nat.not_lt_zero _)
  | k + 1, h => by
    show (gA A s i k || _) = true
    by_cases e : o = k
    · subst e; rw [h1, h2]; simp
    · rw [gA_of s h1 h2 k (by omega)]; rfl
theorem gA_ex (s : Int32) {i : Nat} : ∀ k, gA A s i k = true → ∃ o, o < k ∧ bt s o = true ∧ gT A o i (A.ln o) = true
  | 0, h => absurd h (by show ¬ false = true; decide)
  | k + 1, h => by
    have h2 : (gA A s i k || (bt s k && gT A k i (A.ln k))) = true := h
    rcases (Bool.or_eq_true _ _).mp h2 with z | z
    · obtain ⟨o, ho, g⟩ := gA_ex s k z
      exact ⟨o, by omega, g⟩
    · have z2 := Bool.and_eq_true_iff.mp z
      exact ⟨k, by omega, z2⟩
def closd (A : aSt) (T : Int32) : Prop := ∀ o, o < 4 → ∀ i, i < 4 → bt T o = true → gT A o i (A.ln o) = true → A.bo i = true → bt T i = true
theorem gF_in (ok : aOK A) {s T : Int32} (h : sub4 s T) (hc : closd A T) : sub4 (gF A s) T := fun i hi z => by
  rw [gF_bt ok s hi] at z
  rcases (Bool.or_eq_true _ _).mp z with z | z
  · exact h i hi z
  · obtain ⟨z1, z2⟩ := Bool.and_eq_true_iff.mp z
    obtain ⟨o, ho, g1, g2⟩ := gA_ex s 4 z1
    exact hc o ho i hi (h o ho g1) g2 z2
theorem gF_closd (ok : aOK A) {s : Int32} (h : gF A s = s) : closd A s := fun o ho i hi z1 z2 z3 => by
  rw [← h, gF_bt ok s hi, gA_of s z1 z2 4 ho, z3]; simp
theorem mRnd_bt (ok : aOK A) (s : Int32) {o i : Nat} (ho : o < 4) (hi : i < 32) : bt (mRnd A s (o + 1)) i = (bt (mRnd A s o) i || (bt (mRnd A s o) o && (gT A o i (A.ln o) && A.bo i))) := by
  show bt (mRnd A s o ||| _) i = _
  rw [b_or]
  cases e : bt (mRnd A s o) o
  · rw [if_neg (fun z => by rw [(z_b1 (by omega)).mp z] at e; exact absurd e (by decide)), b_0, Bool.false_and]
  · rw [if_pos ((z_b1 (by omega)).mpr e), gT_m ok ho hi _ (ok.ln o ho).1, Bool.true_and]
theorem mRnd_sub (ok : aOK A) (s : Int32) : ∀ o, o ≤ 4 → sub4 s (mRnd A s o)
  | 0, _ => fun _ _ h => h
  | o + 1, h => fun i hi z => by rw [mRnd_bt ok s (by omega) (by omega), mRnd_sub ok s o (by omega) i hi z]; rfl
theorem mRnd_up (ok : aOK A) (s : Int32) (a : Nat) : ∀ k, a + k ≤ 4 → sub4 (mRnd A s a) (mRnd A s (a + k))
  | 0, _ => fun _ _ h => h
  | k + 1, h => fun i hi z => by
    show bt (mRnd A s (a + k + 1)) i = true
    rw [mRnd_bt ok s (by omega) (by omega), mRnd_up ok s a k (by omega) i hi z]; rfl
theorem mRnd_four (ok : aOK A) (s : Int32) (hs : four s) : ∀ o, o ≤ 4 → four (mRnd A s o)
  | 0, _ => hs
  | o + 1, h => fun i h4 hi => by rw [mRnd_bt ok s (by omega) hi, mRnd_four ok s hs o (by omega) i h4 hi, gT_hi ok (by omega) h4 hi _ (ok.ln o (by omega)).1]; simp
theorem mRnd_in (ok : aOK A) {s T : Int32} (h : sub4 s T) (hc : closd A T) : ∀ o, o ≤ 4 → sub4 (mRnd A s o) T
  | 0, _ => h
  | o + 1, ho => fun i hi z => by
    have ih := mRnd_in ok h hc o (by omega)
    rw [mRnd_bt ok s (by omega) (by omega)] at z
    rcases (Bool.or_eq_true _ _).mp z with z | z
    · exact ih i hi z
    · obtain ⟨z1, z2⟩ := Bool.and_eq_true_iff.mp z
      obtain ⟨z3, z4⟩ := Bool.and_eq_true_iff.mp z2
      exact hc o (by omega) i hi (ih o (by omega) z1) z3 z4
theorem mRnd_closd (ok : aOK A) {s : Int32} (h : mRnd A s 4 = s) : closd A s := fun o ho i hi z1 z2 z3 => by
  have e1 : bt (mRnd A s o) o = true := mRnd_sub ok s o (by omega) o ho z1
  have e2 : bt (mRnd A s (o + 1)) i = true := by rw [mRnd_bt ok s ho (by omega), e1, z2, z3]; simp
  have e3 := mRnd_up ok s (o + 1) (4 - (o + 1)) (by omega) i hi e2
  rw [show o + 1 + (4 - (o + 1)) = 4 by omega, h] at e3
  exact e3
theorem it_in {G : Int32 → Int32} {s T : Int32} (hG : ∀ t, sub4 t T → sub4 (G t) T) (h : sub4 s T) : ∀ k, sub4 (itG G s k) T
  | 0 => h
  | k + 1 => hG _ (it_in hG h k)
theorem it_sub {G : Int32 → Int32} {s : Int32} (hG : ∀ t, sub4 t (G t)) : ∀ k, sub4 s (itG G s k)
  | 0 => fun _ _ h => h
  | k + 1 => fun i hi h => hG _ i hi (it_sub hG k i hi h)
/-- both ways end at the same set -/
theorem reach_eq (ok : aOK A) {b : Nat} (hb : b < 4) : fReach (aBk A) A.ln (1 <<< (nI b &&& 31)) 3 = mRea A (1 <<< (nI b &&& 31)) 4 ∧ four (mRea A (1 <<< (nI b &&& 31)) 4) := by
  rw [fReach_it, mRea_it]
  have hs : four (1 <<< (nI b &&& 31)) := fun i h4 hi => by rw [bt_sh (by omega) hi, decide_eq_false (by omega)]
  have h0 : (1 : Int32) <<< (nI b &&& 31) ≠ 0 := fun z => by
    have := congrArg (fun t => bt t b) z
    rw [show bt (1 <<< (nI b &&& 31)) b = true by rw [bt_sh (by omega) (by omega), decide_eq_true rfl], b_0] at this
    exact absurd this (by decide)
  have c4 := it_four (G := gF A) (fun s h => gF_four ok s h) hs 3
  have r4 := it_four (G := fun t => mRnd A t 4) (fun s h => mRnd_four ok s h 4 (Nat.le_refl _)) hs 4
  obtain ⟨k, hk, e⟩ := it_stop (G := gF A) (fun s h => gF_four ok s h) (fun s _ => gF_sub ok s) hs h0
  obtain ⟨j, hj, f⟩ := it_stop (G := fun t => mRnd A t 4) (fun s h => mRnd_four ok s h 4 (Nat.le_refl _)) (fun s _ => mRnd_sub ok s 4 (Nat.le_refl _)) hs h0
  have e3 : itG (gF A) (1 <<< (nI b &&& 31)) 3 = itG (gF A) (1 <<< (nI b &&& 31)) k := by have := it_fix e (3 - k); rw [show k + (3 - k) = 3 by omega] at this; exact this
  have f3 : itG (fun t => mRnd A t 4) (1 <<< (nI b &&& 31)) 4 = itG (fun t => mRnd A t 4) (1 <<< (nI b &&& 31)) j := by have := it_fix f (4 - j); rw [show j + (4 - j) = 4 by omega] at this; exact this
  have k1 : closd A (itG (gF A) (1 <<< (nI b &&& 31)) 3) := by rw [e3]; exact gF_closd ok e.symm
  have k2 : closd A (itG (fun t => mRnd A t 4) (1 <<< (nI b &&& 31)) 4) := by rw [f3]; exact mRnd_closd ok f.symm
  refine ⟨four_eq c4 r4 ?_ ?_, r4⟩
  · exact it_in (fun t ht => gF_in ok ht k2) (it_sub (fun t => mRnd_sub ok t 4 (Nat.le_refl _)) 4) 3
  · exact it_in (fun t ht => mRnd_in ok ht k1 4 (Nat.le_refl _)) (it_sub (fun t => gF_sub ok t) 3) 4
theorem mSum_f (A : aSt) (s : Int32) : ∀ o, o ≤ 4 → mSum A s o = fWeigh (aBk A) A.ln s o
  | 0, _ => rfl
  | o + 1, h => by
    show mSum A s o + _ = (if _ then _ else _)
    rw [mSum_f A s o (by omega), aBk_1, aBk_2]
    by_cases c : hasB s (nI o)
    · rw [if_pos c, if_neg ((hasB_iff (by omega)).mp c)]
    · rw [if_neg c, if_pos (Classical.byContradiction (fun z => c ((hasB_iff (by omega)).mpr z))), Int32.add_zero]
theorem weigh_eq (ok : aOK A) (x w : Int32) : aWeighM A x w = aWeigh A x w := by
  unfold aWeighM aWeigh
  by_cases hx : 0 ≤ x ∧ x < nI 4
  · obtain ⟨b, hb, rfl⟩ := (zInD x (n := 4) (by omega)).resolve_right (fun z => z hx)
    rw [aIx_in hb (by omega), aIx_in hb (by omega)]
    obtain ⟨e, f⟩ := reach_eq ok hb
    obtain ⟨a, ha, ea⟩ := small_of_bt f
    unfold aReach
    rw [e, mSum_f A _ 4 (by omega), ea, fBits_bc a (by omega)]
  · rw [aIx_out hx, aIx_out hx]
end ZCLO
