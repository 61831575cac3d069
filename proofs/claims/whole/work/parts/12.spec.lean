/-! ===== WHAT A DAY DOES, over one row of 70 numbers (the reference's own layout: 0 hours, 1 riders, 2 stage, 3 kind, 11 home, 19 at, 27 tired, 35 lame, 43 ridden, 51 where, 55 to, 59 clock, 63 inns, 64 miles) ===== -/
abbrev Dy : Type := Nat → Int32
def kTakes (k m : Int32) : Int32 := if k = 2 then m / 2 + 1 else if k = 3 ∨ k = 4 then 2 * m else m
def kTires (k m : Int32) : Int32 := if k = 2 then 2 * m else if k = 3 then 0 else if k = 4 then 1 else m
def kRests (k : Int32) : Int32 := if k = 1 then 3 else if k = 3 ∨ k = 4 then 1 else 2
abbrev hasB (s k : Int32) : Prop := (s >>> (k &&& 31)) &&& 1 = 1
def dBy (σ : Dy) (h : Nat) : Int32 := σ (27 + h) + (if σ (3 + h) = 4 then 100 else 0)
abbrev dMay (σ : Dy) (rid : Int32) (r h : Nat) : Prop := σ (19 + h) = σ (51 + r) ∧ σ (35 + h) = 0 ∧ ¬ hasB rid (nI h)
def dGivS (σ : Dy) (rid : Int32) (r h : Nat) (p : Int32 × Int32) : Int32 × Int32 := if dMay σ rid r h ∧ dBy σ h < p.2 then (nI h, dBy σ h) else p
def dGiv (σ : Dy) (rid : Int32) (r : Nat) : Nat → Int32 × Int32
  | 0 => (-1, 99999)
  | h + 1 => dGivS σ rid r h (dGiv σ rid r h)
def dTire (σ : Dy) (h : Nat) (x : Int32) : Dy := if 9 < σ (27 + h) + x then upd (upd σ (27 + h) 10) (35 + h) 1 else upd σ (27 + h) (σ (27 + h) + x)
def dMiles (σ : Dy) (f t : Int32) : Int32 := σ (64 + (if f < t then f + 1 else f).toNatClampNeg)
def dNext (f t : Int32) : Int32 := if f < t then f + 1 else if t < f then f - 1 else f
def dRid (σ : Dy) (h : Nat) : Dy := upd σ (43 + h) (σ (43 + h) + 1)
def dGo (σ : Dy) (r h : Nat) : Dy :=
  upd (upd (upd σ (51 + r) (dNext (σ (51 + r)) (σ (55 + r)))) (19 + h) (dNext (σ (51 + r)) (σ (55 + r)))) (59 + r) (σ (59 + r) + kTakes (σ (3 + h)) (dMiles σ (σ (51 + r)) (σ (55 + r))))
abbrev dThrows (σ : Dy) (h : Nat) : Prop := σ (3 + h) = 1 ∧ σ (43 + h) - σ (43 + h) / 3 * 3 = 0
def dRideH (σ : Dy) (r h : Nat) : Dy :=
  if dThrows (dRid σ h) h then dTire (upd (dRid σ h) (59 + r) (σ (59 + r) + 2)) h 1
  else dTire (dGo (dRid σ h) r h) h (kTires (σ (3 + h)) (dMiles σ (σ (51 + r)) (σ (55 + r))))
def dRide (σ : Dy) (rid : Int32) (r n : Nat) : Dy × Int32 :=
  if (dGiv σ rid r n).1 = -1 then (upd σ (59 + r) (σ (59 + r) + 1), rid)
  else (dRideH σ r (dGiv σ rid r n).1.toNatClampNeg, rid ||| (1 <<< ((dGiv σ rid r n).1 &&& 31)))
def dRides (σ : Dy) (n : Nat) : Nat → Dy × Int32
  | 0 => (σ, 0)
  | r + 1 => if (dRides σ n r).1 (51 + r) = (dRides σ n r).1 (55 + r) then dRides σ n r else dRide (dRides σ n r).1 (dRides σ n r).2 r n
def frst (p : Nat → Bool) : Nat → Nat → Int32
  | _, 0 => -1
  | i, k + 1 => if p i = true then nI i else frst p (i + 1) k
abbrev dLeadOk (σ : Dy) (bar : Int32) (i h : Nat) : Prop := σ (19 + h) = nI i ∧ ¬ σ (11 + h) = nI i ∧ σ (35 + h) = 0 ∧ ¬ hasB bar (nI h)
def dWho (σ : Dy) (bar : Int32) (i a k : Nat) : Int32 := frst (fun h => decide (dLeadOk σ bar i h)) a k
def dLead (σ : Dy) (rid led : Int32) (i n : Nat) : Dy × Int32 :=
  if dWho σ (rid ||| led) i 0 n = -1 then (σ, led)
  else (upd σ (19 + (dWho σ (rid ||| led) i 0 n).toNatClampNeg) (dNext (nI i) (σ (11 + (dWho σ (rid ||| led) i 0 n).toNatClampNeg))), led ||| (1 <<< (dWho σ (rid ||| led) i 0 n &&& 31)))
def dLeads (σ : Dy) (rid : Int32) (n : Nat) : Nat → Dy × Int32
  | 0 => (σ, 0)
  | i + 1 => dLead (dLeads σ rid n i).1 rid (dLeads σ rid n i).2 i n
def dLeft (σ : Dy) (h : Nat) : Int32 := σ (27 + h) - (if σ (35 + h) = 1 then 1 else kRests (σ (3 + h)))
def dEase (σ : Dy) (h : Nat) (x : Int32) : Dy := upd (upd σ (27 + h) (if x < 0 then 0 else x)) (35 + h) (if 0 < x then σ (35 + h) else 0)
def dRests (σ : Dy) (rid : Int32) : Nat → Dy
  | 0 => σ
  | h + 1 => if hasB rid (nI h) then dRests σ rid h else dEase (dRests σ rid h) h (dLeft (dRests σ rid h) h)
def dEnd (σ : Dy) : Dy := upd σ 2 (σ 2 + 1)
def dPass (σ : Dy) (n r i : Nat) : Dy := dEnd (dRests (dLeads (dRides σ n r).1 (dRides σ n r).2 n i).1 (dRides σ n r).2 n)
def dPassRid (σ : Dy) (n r : Nat) : Int32 := (dRides σ n r).2
def dPassLed (σ : Dy) (n r i : Nat) : Int32 := (dLeads (dRides σ n r).1 (dRides σ n r).2 n i).2
/-! what holds of a day -/
def zIn (x : Int32) (n : Nat) : Prop := ∃ j : Nat, j < n ∧ x = nI j
def zIn1 (x : Int32) : Prop := ∃ m : Nat, 1 ≤ m ∧ m ≤ 9 ∧ x = nI m
def dOK (σ : Dy) (n r i : Nat) : Prop :=
  (n ≤ 8 ∧ r ≤ 4 ∧ i ≤ 6 ∧ σ 0 = nI n ∧ σ 1 = nI r ∧ σ 63 = nI i) ∧
  (∀ h, h < n → zIn (σ (3 + h)) 5 ∧ zIn (σ (11 + h)) i ∧ zIn (σ (19 + h)) i ∧ zIn (σ (27 + h)) 11 ∧ (σ (35 + h) = 0 ∨ (σ (35 + h) = 1 ∧ ¬ σ (27 + h) = 0))) ∧
  (∀ q, q < r → zIn (σ (51 + q)) i ∧ zIn (σ (55 + q)) i) ∧ (∀ j, j < i → zIn1 (σ (64 + j)))
theorem upd_s (f : Nat → Int32) (k : Nat) (x : Int32) : upd f k x k = x := if_pos rfl
theorem upd_n (f : Nat → Int32) {k j : Nat} (x : Int32) (h : j ≠ k) : upd f k x j = f j := if_neg h
theorem dOK.clock {σ : Dy} {n r i : Nat} (h : dOK σ n r i) (q : Nat) (hq : q < 4) (x : Int32) : dOK (upd σ (59 + q) x) n r i := by
  obtain ⟨⟨h1, h2, h3, h4, h5, h6⟩, h7, h8, h9⟩ := h
  refine ⟨⟨h1, h2, h3, ?_, ?_, ?_⟩, fun k hk => ?_, fun k hk => ?_, fun k hk => ?_⟩
  · rw [upd_n _ _ (by omega)]; exact h4
  · rw [upd_n _ _ (by omega)]; exact h5
  · rw [upd_n _ _ (by omega)]; exact h6
  · rw [upd_n _ _ (by omega), upd_n _ _ (by omega), upd_n _ _ (by omega), upd_n _ _ (by omega), upd_n _ _ (by omega)]; exact h7 k hk
  · rw [upd_n _ _ (by omega), upd_n _ _ (by omega)]; exact h8 k hk
  · rw [upd_n _ _ (by omega)]; exact h9 k hk
theorem dOK.ridden {σ : Dy} {n r i : Nat} (h : dOK σ n r i) (q : Nat) (hq : q < 8) (x : Int32) : dOK (upd σ (43 + q) x) n r i := by
  obtain ⟨⟨h1, h2, h3, h4, h5, h6⟩, h7, h8, h9⟩ := h
  refine ⟨⟨h1, h2, h3, ?_, ?_, ?_⟩, fun k hk => ?_, fun k hk => ?_, fun k hk => ?_⟩
  · rw [upd_n _ _ (by omega)]; exact h4
  · rw [upd_n _ _ (by omega)]; exact h5
  · rw [upd_n _ _ (by omega)]; exact h6
  · rw [upd_n _ _ (by omega), upd_n _ _ (by omega), upd_n _ _ (by omega), upd_n _ _ (by omega), upd_n _ _ (by omega)]; exact h7 k hk
  · rw [upd_n _ _ (by omega), upd_n _ _ (by omega)]; exact h8 k hk
  · rw [upd_n _ _ (by omega)]; exact h9 k hk
theorem dOK.stage {σ : Dy} {n r i : Nat} (h : dOK σ n r i) (x : Int32) : dOK (upd σ 2 x) n r i := by
  obtain ⟨⟨h1, h2, h3, h4, h5, h6⟩, h7, h8, h9⟩ := h
  refine ⟨⟨h1, h2, h3, ?_, ?_, ?_⟩, fun k hk => ?_, fun k hk => ?_, fun k hk => ?_⟩
  · rw [upd_n _ _ (by omega)]; exact h4
  · rw [upd_n _ _ (by omega)]; exact h5
  · rw [upd_n _ _ (by omega)]; exact h6
  · rw [upd_n _ _ (by omega), upd_n _ _ (by omega), upd_n _ _ (by omega), upd_n _ _ (by omega), upd_n _ _ (by omega)]; exact h7 k hk
  · rw [upd_n _ _ (by omega), upd_n _ _ (by omega)]; exact h8 k hk
  · rw [upd_n _ _ (by omega)]; exact h9 k hk
theorem dOK.at {σ : Dy} {n r i : Nat} (h : dOK σ n r i) (q : Nat) (hq : q < 8) {x : Int32} (hx : zIn x i) : dOK (upd σ (19 + q) x) n r i := by
  obtain ⟨⟨h1, h2, h3, h4, h5, h6⟩, h7, h8, h9⟩ := h
  refine ⟨⟨h1, h2, h3, ?_, ?_, ?_⟩, fun k hk => ?_, fun k hk => ?_, fun k hk => ?_⟩
  · rw [upd_n _ _ (by omega)]; exact h4
  · rw [upd_n _ _ (by omega)]; exact h5
  · rw [upd_n _ _ (by omega)]; exact h6
  · obtain ⟨g1, g2, g3, g4⟩ := h7 k hk
    rw [upd_n _ _ (show 3 + k ≠ 19 + q by omega), upd_n _ _ (show 11 + k ≠ 19 + q by omega), upd_n _ _ (show 27 + k ≠ 19 + q by omega), upd_n _ _ (show 35 + k ≠ 19 + q by omega)]
    refine ⟨g1, g2, ?_, g4⟩
    by_cases e : k = q
    · subst e; rw [upd_s]; exact hx
    · rw [upd_n _ _ (by omega)]; exact g3
  · rw [upd_n _ _ (by omega), upd_n _ _ (by omega)]; exact h8 k hk
  · rw [upd_n _ _ (by omega)]; exact h9 k hk
theorem dOK.where {σ : Dy} {n r i : Nat} (h : dOK σ n r i) (q : Nat) (hq : q < 4) {x : Int32} (hx : zIn x i) : dOK (upd σ (51 + q) x) n r i := by
  obtain ⟨⟨h1, h2, h3, h4, h5, h6⟩, h7, h8, h9⟩ := h
  refine ⟨⟨h1, h2, h3, ?_, ?_, ?_⟩, fun k hk => ?_, fun k hk => ?_, fun k hk => ?_⟩
  · rw [upd_n _ _ (by omega)]; exact h4
  · rw [upd_n _ _ (by omega)]; exact h5
  · rw [upd_n _ _ (by omega)]; exact h6
  · rw [upd_n _ _ (by omega), upd_n _ _ (by omega), upd_n _ _ (by omega), upd_n _ _ (by omega), upd_n _ _ (by omega)]; exact h7 k hk
  · rw [upd_n _ _ (show 55 + k ≠ 51 + q by omega)]
    refine ⟨?_, (h8 k hk).2⟩
    by_cases e : k = q
    · subst e; rw [upd_s]; exact hx
    · rw [upd_n _ _ (by omega)]; exact (h8 k hk).1
  · rw [upd_n _ _ (by omega)]; exact h9 k hk
theorem dOK.to {σ : Dy} {n r i : Nat} (h : dOK σ n r i) (q : Nat) (hq : q < 4) {x : Int32} (hx : zIn x i) : dOK (upd σ (55 + q) x) n r i := by
  obtain ⟨⟨h1, h2, h3, h4, h5, h6⟩, h7, h8, h9⟩ := h
  refine ⟨⟨h1, h2, h3, ?_, ?_, ?_⟩, fun k hk => ?_, fun k hk => ?_, fun k hk => ?_⟩
  · rw [upd_n _ _ (by omega)]; exact h4
  · rw [upd_n _ _ (by omega)]; exact h5
  · rw [upd_n _ _ (by omega)]; exact h6
  · rw [upd_n _ _ (by omega), upd_n _ _ (by omega), upd_n _ _ (by omega), upd_n _ _ (by omega), upd_n _ _ (by omega)]; exact h7 k hk
  · rw [upd_n _ _ (show 51 + k ≠ 55 + q by omega)]
    refine ⟨(h8 k hk).1, ?_⟩
    by_cases e : k = q
    · subst e; rw [upd_s]; exact hx
    · rw [upd_n _ _ (by omega)]; exact (h8 k hk).2
  · rw [upd_n _ _ (by omega)]; exact h9 k hk
theorem dOK.tl {σ : Dy} {n r i : Nat} (h : dOK σ n r i) (q : Nat) (hq : q < 8) {x z : Int32} (hx : zIn x 11) (hz : z = 0 ∨ (z = 1 ∧ ¬ x = 0)) : dOK (upd (upd σ (27 + q) x) (35 + q) z) n r i := by
  obtain ⟨⟨h1, h2, h3, h4, h5, h6⟩, h7, h8, h9⟩ := h
  refine ⟨⟨h1, h2, h3, ?_, ?_, ?_⟩, fun k hk => ?_, fun k hk => ?_, fun k hk => ?_⟩
  · rw [upd_n _ _ (by omega), upd_n _ _ (by omega)]; exact h4
  · rw [upd_n _ _ (by omega), upd_n _ _ (by omega)]; exact h5
  · rw [upd_n _ _ (by omega), upd_n _ _ (by omega)]; exact h6
  · obtain ⟨g1, g2, g3, g4, g5⟩ := h7 k hk
    rw [upd_n _ _ (show 3 + k ≠ 35 + q by omega), upd_n _ _ (show 3 + k ≠ 27 + q by omega), upd_n _ _ (show 11 + k ≠ 35 + q by omega), upd_n _ _ (show 11 + k ≠ 27 + q by omega), upd_n _ _ (show 19 + k ≠ 35 + q by omega), upd_n _ _ (show 19 + k ≠ 27 + q by omega), upd_n _ _ (show 27 + k ≠ 35 + q by omega)]
    refine ⟨g1, g2, g3, ?_⟩
    by_cases e : k = q
    · subst e; rw [upd_s, upd_s]; exact ⟨hx, hz⟩
    · rw [upd_n _ _ (show 27 + k ≠ 27 + q by omega), upd_n _ _ (show 35 + k ≠ 35 + q by omega), upd_n _ _ (show 35 + k ≠ 27 + q by omega)]; exact ⟨g4, g5⟩
  · rw [upd_n _ _ (by omega), upd_n _ _ (by omega), upd_n _ _ (by omega), upd_n _ _ (by omega)]; exact h8 k hk
  · rw [upd_n _ _ (by omega), upd_n _ _ (by omega)]; exact h9 k hk
theorem dOK.tired {σ : Dy} {n r i : Nat} (h : dOK σ n r i) (q : Nat) (hq : q < 8) {x : Int32} (hx : zIn x 11) (hz : σ (35 + q) = 0 ∨ ¬ x = 0) : dOK (upd σ (27 + q) x) n r i := by
  obtain ⟨⟨h1, h2, h3, h4, h5, h6⟩, h7, h8, h9⟩ := h
  refine ⟨⟨h1, h2, h3, ?_, ?_, ?_⟩, fun k hk => ?_, fun k hk => ?_, fun k hk => ?_⟩
  · rw [upd_n _ _ (by omega)]; exact h4
  · rw [upd_n _ _ (by omega)]; exact h5
  · rw [upd_n _ _ (by omega)]; exact h6
  · obtain ⟨g1, g2, g3, g4, g5⟩ := h7 k hk
    rw [upd_n _ _ (show 3 + k ≠ 27 + q by omega), upd_n _ _ (show 11 + k ≠ 27 + q by omega), upd_n _ _ (show 19 + k ≠ 27 + q by omega), upd_n _ _ (show 35 + k ≠ 27 + q by omega)]
    refine ⟨g1, g2, g3, ?_⟩
    by_cases e : k = q
    · subst e; rw [upd_s]; exact ⟨hx, g5.imp id fun a => ⟨a.1, hz.resolve_left (by rw [a.1]; decide)⟩⟩
    · rw [upd_n _ _ (show 27 + k ≠ 27 + q by omega)]; exact ⟨g4, g5⟩
  · rw [upd_n _ _ (by omega), upd_n _ _ (by omega)]; exact h8 k hk
  · rw [upd_n _ _ (by omega)]; exact h9 k hk
