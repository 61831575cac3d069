/-! ===== THE FLAT WORLD: shapes (how many cells, their kinds, what refers to what) and the numbers in them ===== -/
def zW : List Cond := lw_tbl.filter goodWord
theorem zW_of {i : Nat} {w : Cond} (h : lw_tbl[i]? = some w) (hg : goodWord w = true) : w ∈ zW := List.mem_filter.mpr ⟨List.mem_of_getElem? h, hg⟩
theorem zW_tbl {w : Cond} (h : w ∈ zW) : w ∈ lw_tbl := (List.mem_filter.mp h).1
theorem zW_good {ws : List Cond} (h : ∀ w ∈ ws, w ∈ zW) : GoodIn zW ws := fun w hw => ⟨h w hw, good_of_word (List.mem_filter.mp (h w hw)).2⟩
/-- how many cells; of each its kind (a class's place in vwCl, or 20 int[], 21 boolean[], 22 Day[], 23 Book[]) and size; what its places refer to (0 nothing, k + 1 cell k) -/
abbrev zS : Type := Nat × (Nat → Nat × Nat) × (Nat → Nat → Nat)
/-- the numbers -/
abbrev zM : Type := Nat → Nat → Int32
/-- the base, the classes' numbers, their fields' slots, the arrays' classes, the text constants' addresses and their rows' -/
abbrev zG : Type := Nat × (Nat → ClassId) × (Nat → Nat → Nat) × (Nat → ClassId) × (Nat → Nat) × (Nat → Nat)
def z_up (M : zM) (k j : Nat) (x : Int32) : zM := fun k' => if k' = k then upd (M k) j x else M k'
theorem z_up_s (M : zM) (k j : Nat) (x : Int32) : z_up M k j x k = upd (M k) j x := if_pos rfl
theorem z_up_n (M : zM) {k k' : Nat} (j : Nat) (x : Int32) (h : k' ≠ k) : z_up M k j x k' = M k' := if_neg h
def zD (g : zG) : va_G := (g.2.1, g.2.2.1)
def zcA (g : zG) : Nat → ClassId := g.2.2.2.1
def zTy (g : zG) : List (ClassId × FieldType) := [(zcA g 20, .int), (zcA g 21, .boolean), (zcA g 22, .object "OstlerHours$Day"), (zcA g 23, .object "OstlerHours$Book")]
def zA0 (g : zG) : Nat → Prop := fun q => g.1 ≤ q
/-- which fields are references -/
def zIrT : List (List Bool) := [[true, true, false], [true, false, true, true, true, false, true, true, true], [true, true, false, false], [true, true, false], [true, false, false], [false, false, false, true, true, true, true, true, true], [true], [true, true, true, false], [true, false, false, false, false], [true, true, true, true, true, true, true, true, true, true, true], [true, false, true, true, false, false, true, true, true, true, true, true, false, false, false, false, false, false, false, true, true, true, true, true, true, true, true, true, false, false, true, true, true, true]]
def zIr (ci j : Nat) : Bool := (zIrT.getD ci []).getD j false
def zrf (g : zG) (x : Nat) : Option Nat := if x = 0 then none else some (g.1 + (x - 1))
def zFv (g : zG) (S : zS) (M : zM) (k ci j : Nat) : Value := if zIr ci j = true then va_rf (zrf g (S.2.2 k j)) else .int (M k j)
def zCell (g : zG) (S : zS) (M : zM) (k : Nat) : va_E :=
  if (S.2.1 k).1 = 20 ∨ (S.2.1 k).1 = 21 then .inl (zcA g (S.2.1 k).1, (S.2.1 k).2, .inl (M k))
  else if (S.2.1 k).1 = 22 ∨ (S.2.1 k).1 = 23 then .inl (zcA g (S.2.1 k).1, (S.2.1 k).2, .inr (.inr (.inr (.inr (fun i => zrf g (S.2.2 k i))))))
  else .inr ((S.2.1 k).1, (List.range (S.2.1 k).2).map (zFv g S M k (S.2.1 k).1))
def zWs (g : zG) (S : zS) (M : zM) : va_W := (List.range S.1).map (fun k => (g.1 + k, zCell g S M k))
theorem zWs_get {g : zG} {S : zS} {M : zM} {k : Nat} (h : k < S.1) : (zWs g S M)[k]? = some (g.1 + k, zCell g S M k) := by
  simp [zWs, List.getElem?_map, List.getElem?_range h]
theorem zWs_out {g : zG} {S : zS} {M : zM} {k : Nat} {q : Nat × va_E} (h : (zWs g S M)[k]? = some q) : k < S.1 ∧ q = (g.1 + k, zCell g S M k) := by
  have h1 : k < S.1 := by
    have := (List.getElem?_eq_some_iff.mp h).1
    simpa [zWs] using this
  rw [zWs_get h1] at h
  exact ⟨h1, (Option.some.inj h).symm⟩
theorem zWs_D (g : zG) (S : zS) (M : zM) : va_D (zA0 g) (zWs g S M) := by
  refine ⟨fun i j p q hi hj h => ?_, fun k q hk => ?_⟩
  · obtain ⟨-, rfl⟩ := zWs_out hi
    obtain ⟨-, rfl⟩ := zWs_out hj
    have h' : g.1 + i = g.1 + j := h
    omega
  · obtain ⟨-, rfl⟩ := zWs_out hk
    exact Nat.le_add_right _ _
theorem z_list_set {α : Type} (f : Nat → α) (N j : Nat) (v : α) : ((List.range N).map f).set j v = (List.range N).map (fun i => if i = j then v else f i) := by
  apply List.ext_getElem?
  intro i
  rw [List.getElem?_set]
  by_cases hi : i < N
  · by_cases hj : j = i
    · subst hj
      simp [hi, List.getElem?_range hi]
    · simp [hj, List.getElem?_range hi, Ne.symm hj]
  · by_cases hj : j = i
    · subst hj
      simp [hi]
    · simp [hj, hi]
theorem zWs_set {g : zG} {S S' : zS} {M M' : zM} {k : Nat} {c : va_E} (hn : S'.1 = S.1) (hc : zCell g S' M' k = c) (ho : ∀ i, i ≠ k → zCell g S' M' i = zCell g S M i) : (zWs g S M).set k (g.1 + k, c) = zWs g S' M' := by
  rw [zWs, z_list_set, zWs, hn]
  refine List.map_congr_left fun i _ => ?_
  by_cases h : i = k
  · subst h
    rw [if_pos rfl, hc]
  · rw [if_neg h, ho i h]
theorem zWs_push {g : zG} {S S' : zS} {M M' : zM} {c : va_E} (hn : S'.1 = S.1 + 1) (hc : zCell g S' M' S.1 = c) (ho : ∀ i, i < S.1 → zCell g S' M' i = zCell g S M i) : zWs g S M ++ [(g.1 + S.1, c)] = zWs g S' M' := by
  rw [zWs, zWs, hn, List.range_succ, List.map_append]
  congr 1
  · refine List.map_congr_left fun i hi => ?_
    rw [ho i (List.mem_range.mp hi)]
  · simp [hc]
/-- the text constants: where each stands -/
def zKon : List (String × Nat × String) := [("OstlerHours$Parser", 71, "hack"), ("OstlerHours$Parser", 79, "vicious"), ("OstlerHours$Parser", 81, "dawn"), ("OstlerHours$Parser", 83, "grey"), ("OstlerHours$Parser", 85, "midnight"), ("OstlerHours$Parser", 87, "road"), ("OstlerHours$Parser", 89, "inn"), ("OstlerHours$Parser", 91, "rider")]
def zad (g : zG) (k : Nat) : Nat := if k < 1000 then g.1 + k else if k < 2000 then g.2.2.2.2.1 (k - 1000) else g.2.2.2.2.2 (k - 2000)
def z_v (g : zG) : Value → Value
  | .ref k => .ref (zad g k)
  | v => v
theorem z_v_cat (g : zG) (v : Value) : (z_v g v).category = v.category := by cases v <;> rfl
theorem z_v_nn (g : zG) {v : Value} (h : v ≠ .null) : z_v g v ≠ .null := by cases v <;> simp_all [z_v]
theorem zad_k (g : zG) {i : Nat} (h : i < 8) : zad g (1000 + i) = g.2.2.2.2.1 i := by
  unfold zad
  rw [if_neg (by omega), if_pos (by omega), Nat.add_sub_cancel_left]
theorem zad_v (g : zG) {i : Nat} : zad g (2000 + i) = g.2.2.2.2.2 i := by
  unfold zad
  rw [if_neg (by omega), if_neg (by omega), Nat.add_sub_cancel_left]
theorem zad_lo (g : zG) {k : Nat} (h : k < 1000) : zad g k = g.1 + k := if_pos h
/-! the locals: a list by place; null: nothing known there -/
def zL (g : zG) (nL : Nat) (lo : List Value) (ls : Array Slot) : Prop := ls.size = nL ∧ lv_wf ls ∧ ∀ (i : Nat) (v : Value), lo[i]? = some v → v ≠ .null → ls[i]? = some (.val (z_v g v))
def zTo (g : zG) (lo : List Value) : List (Nat × Value) := (List.range lo.length).filterMap (fun i => match lo[i]? with
  | some Value.null => none
  | some v => some (i, z_v g v)
  | none => none)
theorem zTo_in {g : zG} {lo : List Value} {i : Nat} {v : Value} (h : lo[i]? = some v) (hv : v ≠ .null) : (i, z_v g v) ∈ zTo g lo := by
  refine List.mem_filterMap.mpr ⟨i, List.mem_range.mpr (List.getElem?_eq_some_iff.mp h).1, ?_⟩
  rw [h]
  cases v <;> first | rfl | exact absurd rfl hv
theorem zTo_out {g : zG} {lo : List Value} {q : Nat × Value} (h : q ∈ zTo g lo) : ∃ v, lo[q.1]? = some v ∧ v ≠ .null ∧ q.2 = z_v g v := by
  obtain ⟨i, hi, he⟩ := List.mem_filterMap.mp h
  cases hl : lo[i]? with
  | none => rw [hl] at he; cases he
  | some v =>
    rw [hl] at he
    cases v <;> first | (cases he; done) | (obtain rfl := Option.some.inj he; exact ⟨_, hl, by simp, rfl⟩)
theorem zL.has {g : zG} {nL : Nat} {lo : List Value} {ls : Array Slot} (h : zL g nL lo ls) : lv_has ls nL (zTo g lo) :=
  ⟨h.1, h.2.1, fun q hq => by
    obtain ⟨v, h1, h2, h3⟩ := zTo_out hq
    rw [h3]
    exact h.2.2 q.1 v h1 h2⟩
theorem zL.hasC {g : zG} {nL : Nat} {lo : List Value} {ls : Array Slot} (h : zL g nL lo ls) {i : Nat} {v : Value} (hl : lo[i]? = some v) (hv : v ≠ .null) : lv_has ls nL ((i, z_v g v) :: zTo g lo) :=
  ⟨h.1, h.2.1, fun q hq => by
    rcases List.mem_cons.mp hq with rfl | hq
    · exact h.2.2 i v hl hv
    · exact h.has.2.2 q hq⟩
theorem zL.at {g : zG} {nL : Nat} {lo : List Value} {ls : Array Slot} (h : zL g nL lo ls) {i : Nat} {v : Value} (hl : lo[i]? = some v) (hv : v ≠ .null) : ls[i]? = some (.val (z_v g v)) := h.2.2 i v hl hv
/-- no long stands right ahead of place i -/
def zPv (lo : List Value) (i : Nat) : Bool := match i with
  | 0 => true
  | j + 1 => match lo[j]? with
    | some (.long _) => false
    | some (.double _) => false
    | _ => true
theorem zPv_use {lo : List Value} {i j : Nat} (h : zPv lo i = true) (hj : j + 1 = i) {v : Value} (hv : lo[j]? = some v) : ¬ v.category = 2 := by
  subst hj
  simp only [zPv, hv] at h
  cases v <;> simp_all [Value.category]
theorem zL_set1 {g : zG} {nL i : Nat} {lo : List Value} {L : List (Nat × Value)} {ls' : Array Slot} {v : Value} (hsub : ∀ q ∈ zTo g lo, q ∈ L) (hp : zPv lo i = true)
    (h : lv_has ls' nL ((i, z_v g v) :: L.filter (fun q => !(q.1 == i) && !(q.1 + 1 == i && q.2.category == 2)))) : zL g nL (lo.set i v) ls' := by
  refine ⟨h.1, h.2.1, fun j w hj hw => ?_⟩
  rw [List.getElem?_set] at hj
  by_cases hij : i = j
  · subst hij
    rw [if_pos rfl] at hj
    split at hj
    · cases hj
      exact h.2.2 _ List.mem_cons_self
    · cases hj
  · rw [if_neg hij] at hj
    refine h.2.2 (j, z_v g w) (List.mem_cons_of_mem _ (List.mem_filter.mpr ⟨hsub _ (zTo_in hj hw), ?_⟩))
    have h1 : ¬ j = i := fun e => hij e.symm
    by_cases h2 : j + 1 = i
    · have h3 := zPv_use hp h2 hj
      simp [h1, z_v_cat, h3]
    · simp [h1, h2]
theorem zL_set2 {g : zG} {nL i : Nat} {lo : List Value} {L : List (Nat × Value)} {ls' : Array Slot} {v : Value} (hsub : ∀ q ∈ zTo g lo, q ∈ L) (hp : zPv lo i = true)
    (h : lv_has ls' nL ((i, z_v g v) :: L.filter (fun q => !(q.1 == i) && (!(q.1 == i + 1) && !(q.1 + 1 == i && q.2.category == 2))))) : zL g nL ((lo.set i v).set (i + 1) .null) ls' := by
  refine ⟨h.1, h.2.1, fun j w hj hw => ?_⟩
  rw [List.getElem?_set] at hj
  by_cases hi1 : i + 1 = j
  · rw [if_pos hi1] at hj
    split at hj
    · cases hj
      exact absurd rfl hw
    · cases hj
  · rw [if_neg hi1, List.getElem?_set] at hj
    by_cases hij : i = j
    · subst hij
      rw [if_pos rfl] at hj
      split at hj
      · cases hj
        exact h.2.2 _ List.mem_cons_self
      · cases hj
    · rw [if_neg hij] at hj
      refine h.2.2 (j, z_v g w) (List.mem_cons_of_mem _ (List.mem_filter.mpr ⟨hsub _ (zTo_in hj hw), ?_⟩))
      have h1 : ¬ j = i := fun e => hij e.symm
      have h1' : ¬ j = i + 1 := fun e => hi1 e.symm
      by_cases h2 : j + 1 = i
      · have h3 := zPv_use hp h2 hj
        simp [h1, h1', z_v_cat, h3]
      · simp [h1, h1', h2]
