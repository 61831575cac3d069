/-! ===== a Day of the class (cell d, its rows d + 1 .. d + 6; what texts told: cells 1 .. 5) holds the day σ ===== -/
def dTold (M : zM) (σ : Dy) (n r i : Nat) : Prop :=
  M 1 0 = nI i ∧ M 1 1 = nI n ∧ M 1 2 = nI r ∧ (∀ j, j < i → M 2 j = σ (64 + j)) ∧ (∀ h, h < n → M 3 h = σ (3 + h) ∧ M 4 h = σ (11 + h))
def dLam (L : Int32) (σ : Dy) (n : Nat) : Prop := ∀ k, k < 32 → bt L k = (decide (k < n) && decide (σ (35 + k) = 1))
def dRep (M : zM) (d : Nat) (σ : Dy) (n r i : Nat) : Prop :=
  dTold M σ n r i ∧ M d 1 = σ 2 ∧ dLam (M d 5) σ n ∧ (∀ h, h < n → M (d + 1) h = σ (19 + h) ∧ M (d + 2) h = σ (27 + h) ∧ M (d + 3) h = σ (43 + h)) ∧
  (∀ q, q < r → M (d + 4) q = σ (51 + q) ∧ M (d + 5) q = σ (55 + q) ∧ M (d + 6) q = σ (59 + q))
/-- and nothing else changed since M0 -/
def zDR (M0 M : zM) (d : Nat) (σ : Dy) (n r i : Nat) : Prop := dRep M d σ n r i ∧ ∀ k, (k < d ∨ d + 6 < k) → M k = M0 k
theorem z_up_kj (M : zM) (k j : Nat) (x : Int32) : z_up M k j x k j = x := by rw [z_up_s, upd_s]
theorem z_up_jn (M : zM) {k j j' : Nat} (x : Int32) (h : j' ≠ j) : z_up M k j x k j' = M k j' := by rw [z_up_s, upd_n _ _ h]
section ZREP
variable {M0 M M2 : zM} {d n r i : Nat} {σ : Dy}
theorem dTold.keep (h : dTold M σ n r i) {σ' : Dy} (hM : ∀ k, 1 ≤ k → k < 18 → M2 k = M k) (hj : ∀ j, j < i → σ' (64 + j) = σ (64 + j)) (hh : ∀ h, h < n → σ' (3 + h) = σ (3 + h) ∧ σ' (11 + h) = σ (11 + h)) : dTold M2 σ' n r i := by
  obtain ⟨h1, h2, h3, h4, h5⟩ := h
  refine ⟨?_, ?_, ?_, fun j q => ?_, fun k q => ?_⟩
  · rw [hM 1 (by omega) (by omega)]; exact h1
  · rw [hM 1 (by omega) (by omega)]; exact h2
  · rw [hM 1 (by omega) (by omega)]; exact h3
  · rw [hM 2 (by omega) (by omega), hj j q]; exact h4 j q
  · rw [hM 3 (by omega) (by omega), hM 4 (by omega) (by omega), (hh k q).1, (hh k q).2]; exact h5 k q
theorem zDay_18 (hd : d ∈ zDays) : 18 ≤ d := (by decide +kernel : ∀ d ∈ zDays, 18 ≤ d) d hd
/-- one number of a row is written -/
theorem zDR.row (R : zDR M0 M d σ n r i) (hd : d ∈ zDays) (c b q : Nat) (x : Int32) (e : M2 = z_up M (d + c) q x) (hn : n ≤ 8) (hr : r ≤ 4)
    (hc : (c = 1 ∧ b = 19 ∧ q < 8) ∨ (c = 2 ∧ b = 27 ∧ q < 8) ∨ (c = 3 ∧ b = 43 ∧ q < 8) ∨ (c = 4 ∧ b = 51 ∧ q < 4) ∨ (c = 5 ∧ b = 55 ∧ q < 4) ∨ (c = 6 ∧ b = 59 ∧ q < 4)) (hi : i ≤ 6) : zDR M0 M2 d (upd σ (b + q) x) n r i := by
  subst e
  have h18 := zDay_18 hd
  obtain ⟨⟨hT, h1, h2, h3, h4⟩, hF⟩ := R
  refine ⟨⟨hT.keep (fun k g1 g2 => z_up_n _ _ _ (by omega)) (fun j g => upd_n _ _ (by omega)) (fun h g => ⟨upd_n _ _ (by omega), upd_n _ _ (by omega)⟩), ?_, ?_, fun h g => ?_, fun p g => ?_⟩, fun k g => ?_⟩
  · rw [z_up_n _ _ _ (by omega), upd_n _ _ (by omega)]; exact h1
  · intro k g
    rw [z_up_n _ _ _ (by omega), h2 k g]
    by_cases hk : k < n
    · rw [upd_n _ _ (by omega)]
    · simp [hk]
  · obtain ⟨a1, a2, a3⟩ := h3 h g
    refine ⟨?_, ?_, ?_⟩
    · by_cases e1 : c = 1
      · subst e1
        by_cases e2 : h = q
        · subst e2; rw [z_up_kj, show 19 + h = b + h by omega, upd_s]
        · rw [z_up_jn _ _ e2, upd_n _ _ (by omega)]; exact a1
      · rw [z_up_n _ _ _ (by omega), upd_n _ _ (by omega)]; exact a1
    · by_cases e1 : c = 2
      · subst e1
        by_cases e2 : h = q
        · subst e2; rw [z_up_kj, show 27 + h = b + h by omega, upd_s]
        · rw [z_up_jn _ _ e2, upd_n _ _ (by omega)]; exact a2
      · rw [z_up_n _ _ _ (by omega), upd_n _ _ (by omega)]; exact a2
    · by_cases e1 : c = 3
      · subst e1
        by_cases e2 : h = q
        · subst e2; rw [z_up_kj, show 43 + h = b + h by omega, upd_s]
        · rw [z_up_jn _ _ e2, upd_n _ _ (by omega)]; exact a3
      · rw [z_up_n _ _ _ (by omega), upd_n _ _ (by omega)]; exact a3
  · obtain ⟨a1, a2, a3⟩ := h4 p g
    refine ⟨?_, ?_, ?_⟩
    · by_cases e1 : c = 4
      · subst e1
        by_cases e2 : p = q
        · subst e2; rw [z_up_kj, show 51 + p = b + p by omega, upd_s]
        · rw [z_up_jn _ _ e2, upd_n _ _ (by omega)]; exact a1
      · rw [z_up_n _ _ _ (by omega), upd_n _ _ (by omega)]; exact a1
    · by_cases e1 : c = 5
      · subst e1
        by_cases e2 : p = q
        · subst e2; rw [z_up_kj, show 55 + p = b + p by omega, upd_s]
        · rw [z_up_jn _ _ e2, upd_n _ _ (by omega)]; exact a2
      · rw [z_up_n _ _ _ (by omega), upd_n _ _ (by omega)]; exact a2
    · by_cases e1 : c = 6
      · subst e1
        by_cases e2 : p = q
        · subst e2; rw [z_up_kj, show 59 + p = b + p by omega, upd_s]
        · rw [z_up_jn _ _ e2, upd_n _ _ (by omega)]; exact a3
      · rw [z_up_n _ _ _ (by omega), upd_n _ _ (by omega)]; exact a3
  · rw [z_up_n _ _ _ (by omega)]; exact hF k g
theorem zDR.number (R : zDR M0 M d σ n r i) (hd : d ∈ zDays) (x : Int32) (e : M2 = z_up M d 1 x) (hn : n ≤ 8) (hr : r ≤ 4) : zDR M0 M2 d (upd σ 2 x) n r i := by
  subst e
  have h18 := zDay_18 hd
  obtain ⟨⟨hT, h1, h2, h3, h4⟩, hF⟩ := R
  refine ⟨⟨hT.keep (fun k g1 g2 => z_up_n _ _ _ (by omega)) (fun j g => upd_n _ _ (by omega)) (fun h g => ⟨upd_n _ _ (by omega), upd_n _ _ (by omega)⟩), ?_, ?_, fun h g => ?_, fun p g => ?_⟩, fun k g => ?_⟩
  · rw [z_up_kj, upd_s]
  · intro k g
    rw [z_up_jn _ _ (by omega), h2 k g, upd_n _ _ (by omega)]
  · rw [z_up_n _ _ _ (by omega), z_up_n _ _ _ (by omega), z_up_n _ _ _ (by omega), upd_n _ _ (by omega), upd_n _ _ (by omega), upd_n _ _ (by omega)]; exact h3 h g
  · rw [z_up_n _ _ _ (by omega), z_up_n _ _ _ (by omega), z_up_n _ _ _ (by omega), upd_n _ _ (by omega), upd_n _ _ (by omega), upd_n _ _ (by omega)]; exact h4 p g
  · rw [z_up_n _ _ _ (by omega)]; exact hF k g
theorem zDR.lame (R : zDR M0 M d σ n r i) (hd : d ∈ zDays) (q : Nat) (x L : Int32) (e : M2 = z_up M d 5 L) (hn : n ≤ 8) (hr : r ≤ 4) (hq : q < n) (hL : dLam L (upd σ (35 + q) x) n) : zDR M0 M2 d (upd σ (35 + q) x) n r i := by
  subst e
  have h18 := zDay_18 hd
  obtain ⟨⟨hT, h1, h2, h3, h4⟩, hF⟩ := R
  refine ⟨⟨hT.keep (fun k g1 g2 => z_up_n _ _ _ (by omega)) (fun j g => upd_n _ _ (by omega)) (fun h g => ⟨upd_n _ _ (by omega), upd_n _ _ (by omega)⟩), ?_, ?_, fun h g => ?_, fun p g => ?_⟩, fun k g => ?_⟩
  · rw [z_up_jn _ _ (by omega), upd_n _ _ (by omega)]; exact h1
  · rw [z_up_kj]; exact hL
  · rw [z_up_n _ _ _ (by omega), z_up_n _ _ _ (by omega), z_up_n _ _ _ (by omega), upd_n _ _ (by omega), upd_n _ _ (by omega), upd_n _ _ (by omega)]; exact h3 h g
  · rw [z_up_n _ _ _ (by omega), z_up_n _ _ _ (by omega), z_up_n _ _ _ (by omega), upd_n _ _ (by omega), upd_n _ _ (by omega), upd_n _ _ (by omega)]; exact h4 p g
  · rw [z_up_n _ _ _ (by omega)]; exact hF k g
theorem dLam.set {L : Int32} (h : dLam L σ n) {q : Nat} (hq : q < n) (hn : n ≤ 8) : dLam (L ||| (1 <<< (nI q &&& 31))) (upd σ (35 + q) 1) n := by
  intro k hk
  rw [b_or, bt_sh (by omega) hk, h k hk]
  by_cases e : k = q
  · subst e
    simp [upd_s, hq]
  · rw [upd_n _ _ (by omega)]
    simp [e]
theorem dLam.clr {L : Int32} (h : dLam L σ n) {q : Nat} (hq : q < n) (hn : n ≤ 8) : dLam (L &&& ((1 <<< (nI q &&& 31)) ^^^ (-1))) (upd σ (35 + q) 0) n := by
  intro k hk
  rw [b_and, b_xor, bt_sh (by omega) hk, b_m1 k hk, h k hk]
  by_cases e : k = q
  · subst e
    simp [upd_s]
  · rw [upd_n _ _ (by omega)]
    simp [e]
theorem dLam.is {L : Int32} (h : dLam L σ n) {q : Nat} (hq : q < n) (hn : n ≤ 8) : bt L q = decide (σ (35 + q) = 1) := by
  rw [h q (by omega)]
  simp [hq]
end ZREP
