/-! ===== fields, arrays, new objects ===== -/
theorem zFv_congr {g : zG} {S S' : zS} {M M' : zM} {k : Nat} (h : M' k = M k) (hr : S'.2.2 k = S.2.2 k) (ci j : Nat) : zFv g S' M' k ci j = zFv g S M k ci j := by
  unfold zFv
  rw [h, hr]
theorem zCell_congr {g : zG} {S S' : zS} {M M' : zM} {k : Nat} (h : M' k = M k) (hs : S'.2.1 k = S.2.1 k) (hr : S'.2.2 k = S.2.2 k) : zCell g S' M' k = zCell g S M k := by
  have e : zFv g S' M' k = zFv g S M k := by
    funext ci j
    exact zFv_congr h hr ci j
  unfold zCell
  rw [hs, e, h, hr]
theorem zCell_o {g : zG} {S : zS} {M : zM} {k ci N : Nat} (hs : S.2.1 k = (ci, N)) (hci : ci < 20) : zCell g S M k = .inr (ci, (List.range N).map (zFv g S M k ci)) := by
  have h1 : ¬ (ci = 20 ∨ ci = 21) := by omega
  have h2 : ¬ (ci = 22 ∨ ci = 23) := by omega
  unfold zCell
  rw [hs]
  simp only [h1, h2, if_false]
theorem zCell_n {g : zG} {S : zS} {M : zM} {k q n : Nat} (hs : S.2.1 k = (q, n)) (hq : q = 20 ∨ q = 21) : zCell g S M k = .inl (zcA g q, n, .inl (M k)) := by
  unfold zCell
  rw [hs]
  simp only [hq, if_true]
theorem zCell_q {g : zG} {S : zS} {M : zM} {k q n : Nat} (hs : S.2.1 k = (q, n)) (hq : q = 22 ∨ q = 23) : zCell g S M k = .inl (zcA g q, n, .inr (.inr (.inr (.inr (fun i => zrf g (S.2.2 k i)))))) := by
  have h1 : ¬ (q = 20 ∨ q = 21) := by omega
  unfold zCell
  rw [hs]
  simp only [h1, hq, if_false, if_true]
/-- a class: its place in vwCl, its fields' words, their types, their names apart -/
def zCls (ci : Nat) (C : String) (T : u_T) (N : Nat) (t0 : Nat → FieldType) : Prop :=
  vwCl[ci]? = some (C, T, N) ∧ (∀ w ∈ u_ws C T N, w ∈ zW) ∧ (∀ k, k < N → parseFieldDescriptor (T k).2.2.1 = some (t0 k)) ∧ (∀ a, a < N → ∀ b, b < N → a ≠ b → (T a).2.1 ≠ (T b).2.1)
theorem zCls.lt {ci : Nat} {C : String} {T : u_T} {N : Nat} {t0 : Nat → FieldType} (h : zCls ci C T N t0) : ci < 20 := by
  have := (List.getElem?_eq_some_iff.mp h.1).1
  have h2 : vwCl.length = 11 := rfl
  omega
theorem z_at {g : zG} {S : zS} {M : zM} {k : Nat} {e : va_E} (hk : k < S.1) (h : zCell g S M k = e) : (zWs g S M)[k]? = some (g.1 + k, e) := by rw [zWs_get hk, h]
theorem z_fld {g : zG} {S : zS} {M : zM} {k ci N j : Nat} (hj : j < N) : ((List.range N).map (zFv g S M k ci))[j]? = some (zFv g S M k ci j) := by
  simp [List.getElem?_map, List.getElem?_range hj]
/-- the world after a number is written into an object -/
theorem z_setO {g : zG} {S : zS} {M : zM} {k ci N j : Nat} {x : Int32} (hs : S.2.1 k = (ci, N)) (hci : ci < 20) (hir : zIr ci j = false) :
    (zWs g S M).set k (g.1 + k, .inr (ci, ((List.range N).map (zFv g S M k ci)).set j (.int x))) = zWs g S (z_up M k j x) := by
  refine zWs_set rfl ?_ fun i hi => zCell_congr (z_up_n M j x hi) rfl rfl
  rw [zCell_o hs hci, z_list_set]
  congr 2
  refine List.map_congr_left fun i _ => ?_
  by_cases h : i = j
  · subst h
    rw [if_pos rfl]
    simp [zFv, hir, z_up_s, upd]
  · rw [if_neg h]
    simp [zFv, z_up_s, upd, h]
def z_upR (S : zS) (k j r : Nat) : zS := (S.1, S.2.1, fun k' => if k' = k then (fun j' => if j' = j then r else S.2.2 k j') else S.2.2 k')
theorem z_setR {g : zG} {S : zS} {M : zM} {k ci N j r : Nat} (hs : S.2.1 k = (ci, N)) (hci : ci < 20) (hir : zIr ci j = true) :
    (zWs g S M).set k (g.1 + k, .inr (ci, ((List.range N).map (zFv g S M k ci)).set j (.ref (g.1 + r)))) = zWs g (z_upR S k j (r + 1)) M := by
  refine zWs_set rfl ?_ fun i hi => zCell_congr rfl rfl (by simp [z_upR, hi])
  rw [zCell_o (S := z_upR S k j (r + 1)) hs hci, z_list_set]
  congr 2
  refine List.map_congr_left fun i _ => ?_
  by_cases h : i = j
  · subst h
    rw [if_pos rfl]
    simp [zFv, hir, z_upR, zrf, va_rf]
  · rw [if_neg h]
    simp [zFv, z_upR, h]
theorem z_setA {g : zG} {S : zS} {M : zM} {k q n j : Nat} {x : Int32} (hs : S.2.1 k = (q, n)) (hq : q = 20 ∨ q = 21) :
    (zWs g S M).set k (g.1 + k, .inl (zcA g q, n, .inl (upd (M k) j x))) = zWs g S (z_up M k j x) := by
  refine zWs_set rfl ?_ fun i hi => zCell_congr (z_up_n M j x hi) rfl rfl
  rw [zCell_n hs hq, z_up_s]
def z_row (M : zM) (k : Nat) (f : Nat → Int32) : zM := fun k' => if k' = k then f else M k'
theorem z_row_s (M : zM) (k : Nat) (f : Nat → Int32) : z_row M k f k = f := if_pos rfl
theorem z_row_n (M : zM) {k k' : Nat} (f : Nat → Int32) (h : k' ≠ k) : z_row M k f k' = M k' := if_neg h
theorem z_setF {g : zG} {S : zS} {M : zM} {k q n : Nat} {f : Nat → Int32} (hs : S.2.1 k = (q, n)) (hq : q = 20 ∨ q = 21) :
    (zWs g S M).set k (g.1 + k, .inl (zcA g q, n, .inl f)) = zWs g S (z_row M k f) := by
  refine zWs_set rfl ?_ fun i hi => zCell_congr (z_row_n M f hi) rfl rfl
  rw [zCell_n hs hq, z_row_s]
theorem z_setQ {g : zG} {S : zS} {M : zM} {k q n j r : Nat} (hs : S.2.1 k = (q, n)) (hq : q = 22 ∨ q = 23) :
    (zWs g S M).set k (g.1 + k, .inl (zcA g q, n, .inr (.inr (.inr (.inr (va_up (fun i => zrf g (S.2.2 k i)) j (some (g.1 + r)))))))) = zWs g (z_upR S k j (r + 1)) M := by
  refine zWs_set rfl ?_ fun i hi => zCell_congr rfl rfl (by simp [z_upR, hi])
  rw [zCell_q (S := z_upR S k j (r + 1)) hs hq]
  congr 7
  funext i
  by_cases h : i = j
  · subst h
    simp [va_up, z_upR, zrf]
  · simp [va_up, z_upR, h]
/-- a new cell -/
def zSn (S : zS) (q : Nat × Nat) : zS := (S.1 + 1, fun i => if i = S.1 then q else S.2.1 i, fun i => if i = S.1 then (fun _ => 0) else S.2.2 i)
def zMn (n : Nat) (M : zM) : zM := fun i => if i = n then (fun _ => 0) else M i
theorem z_pushO {g : zG} {S : zS} {M : zM} {ci N : Nat} (hci : ci < 20) : zWs g S M ++ [(g.1 + S.1, .inr (ci, (List.range N).map (fun j => if zIr ci j = true then .null else .int 0)))] = zWs g (zSn S (ci, N)) (zMn S.1 M) := by
  refine zWs_push rfl ?_ fun i hi => zCell_congr (by simp [zMn, Nat.ne_of_lt hi]) (by simp [zSn, Nat.ne_of_lt hi]) (by simp [zSn, Nat.ne_of_lt hi])
  rw [zCell_o (S := zSn S (ci, N)) (ci := ci) (N := N) (by simp [zSn]) hci]
  congr 2
  refine List.map_congr_left fun i _ => ?_
  simp [zFv, zSn, zMn, zrf, va_rf]
theorem z_pushA {g : zG} {S : zS} {M : zM} {q n : Nat} (hq : q = 20 ∨ q = 21) : zWs g S M ++ [(g.1 + S.1, .inl (zcA g q, n, .inl (fun _ => 0)))] = zWs g (zSn S (q, n)) (zMn S.1 M) := by
  refine zWs_push rfl ?_ fun i hi => zCell_congr (by simp [zMn, Nat.ne_of_lt hi]) (by simp [zSn, Nat.ne_of_lt hi]) (by simp [zSn, Nat.ne_of_lt hi])
  rw [zCell_n (S := zSn S (q, n)) (q := q) (n := n) (by simp [zSn]) hq]
  simp [zMn]
theorem z_pushQ {g : zG} {S : zS} {M : zM} {q n : Nat} (hq : q = 22 ∨ q = 23) : zWs g S M ++ [(g.1 + S.1, .inl (zcA g q, n, .inr (.inr (.inr (.inr (fun _ => none))))))] = zWs g (zSn S (q, n)) (zMn S.1 M) := by
  refine zWs_push rfl ?_ fun i hi => zCell_congr (by simp [zMn, Nat.ne_of_lt hi]) (by simp [zSn, Nat.ne_of_lt hi]) (by simp [zSn, Nat.ne_of_lt hi])
  rw [zCell_q (S := zSn S (q, n)) (q := q) (n := n) (by simp [zSn]) hq]
  simp [zSn, zrf]
section ZHEAP
variable {g : zG} {l : Launch} {y : MethodName} {cc : ByteArray} {nL : Nat} {ret : Option FieldType} {d mc ms : Nat} {P : Option Value → zS → zM → Prop} {pc ks ns : Nat} {S : zS} {M : zM} {lo st : List Value}
variable {ci N k j index : Nat} {C : String} {T : u_T} {t0 : Nat → FieldType}
theorem z_stk {g : zG} {k : Nat} {st : List Value} (h : k < 1000) : (Value.ref k :: st).map (z_v g) = .ref (g.1 + k) :: st.map (z_v g) := by
  show Value.ref (zad g k) :: _ = _
  rw [zad_lo g h]
theorem z_getI (K : zCls ci C T N t0) (hl : Cond.fieldLink y.cls index (T j).1 (T j).2.1 (T j).2.2.1 ∈ zW) (hj : j < N) (hir : zIr ci j = false) (hdg : decode cc pc = .ok (.getfield index, 3)) (hk : k < S.1) (hs : S.2.1 k = (ci, N))
    (kk : zA g l y cc nL ret d mc ms P (pc + 3) ks ns S M lo (.int (M k j) :: st)) : zA g l y cc nL ret d mc ms P pc ks ns S M lo (.ref k :: st) := by
  intro p e R s m args below meth c H locs ls Q X hR hL hE
  rw [z_stk (Nat.lt_of_lt_of_le hk hR.2.2.1)]
  refine va_get (ref := (T j).1) (v := .int (M k j)) X.1 X.2.1 (Ts := zW) X.2.2.2.2.1 K.2.1 X.2.2.2.1 X.2.2.2.2.2.2.2.2.2.2.2.2.1 hR.1 k (z_at hk (zCell_o hs K.lt)) K.1 j hj (X.2.2.2.2.1 _ hl) (fun x h => h) ?_ hdg (kk p e R s m args below meth c H locs ls Q X hR hL hE)
  rw [z_fld hj]
  simp [zFv, hir]
theorem z_getR {r : Nat} (K : zCls ci C T N t0) (hl : Cond.fieldLink y.cls index (T j).1 (T j).2.1 (T j).2.2.1 ∈ zW) (hj : j < N) (hir : zIr ci j = true) (hdg : decode cc pc = .ok (.getfield index, 3)) (hk : k < S.1) (hs : S.2.1 k = (ci, N)) (hr : S.2.2 k j = r + 1) (hr2 : r < 1000)
    (kk : zA g l y cc nL ret d mc ms P (pc + 3) ks ns S M lo (.ref r :: st)) : zA g l y cc nL ret d mc ms P pc ks ns S M lo (.ref k :: st) := by
  intro p e R s m args below meth c H locs ls Q X hR hL hE
  rw [z_stk (Nat.lt_of_lt_of_le hk hR.2.2.1)]
  have kk' := kk p e R s m args below meth c H locs ls Q X hR hL hE
  rw [z_stk hr2] at kk'
  refine va_get (ref := (T j).1) (v := .ref (g.1 + r)) X.1 X.2.1 (Ts := zW) X.2.2.2.2.1 K.2.1 X.2.2.2.1 X.2.2.2.2.2.2.2.2.2.2.2.2.1 hR.1 k (z_at hk (zCell_o hs K.lt)) K.1 j hj (X.2.2.2.2.1 _ hl) (fun x h => h) ?_ hdg kk'
  rw [z_fld hj]
  simp [zFv, hir, hr, zrf, va_rf]
theorem z_putI {x : Int32} {ty : FieldType} (K : zCls ci C T N t0) (hl : Cond.fieldLink y.cls index (T j).1 (T j).2.1 (T j).2.2.1 ∈ zW) (hj : j < N) (hir : zIr ci j = false) (hfin : (T j).2.2.2 = false) (hd : parseFieldDescriptor (T j).2.2.1 = some ty) (hn : narrow ty (.int x) = .int x) (hfit : fits ty (.int x) = true)
    (hdg : decode cc pc = .ok (.putfield index, 3)) (hk : k < S.1) (hs : S.2.1 k = (ci, N))
    (kk : zA g l y cc nL ret d mc ms P (pc + 3) ks ns S (z_up M k j x) lo st) : zA g l y cc nL ret d mc ms P pc ks ns S M lo (.int x :: .ref k :: st) := by
  intro p e R s m args below meth c H locs ls Q X hR hL hE
  show W p l e R s m args below meth c H locs ks ns Q (F0 m pc ls (.int x :: (Value.ref k :: st).map (z_v g)))
  rw [z_stk (Nat.lt_of_lt_of_le hk hR.2.2.1)]
  have hK := X.2.2.2.2.2.2.2.2.2.2.2.2.1
  have hts := X.2.2.2.2.1
  have hap := va_apart (own := y.cls) hts K.2.1 t0 K.2.2.1 K.2.2.2 hK K.1
  have he := z_at (g := g) (M := M) hk (zCell_o hs K.lt)
  obtain ⟨r, h1, cell, q1, q2, q3, q4⟩ := hR.1 k _ he
  have hr : r = (C, T, N) := Option.some.inj (h1.symm.trans K.1)
  subst hr
  obtain ⟨hS, hfc, kC, hkC, hkind⟩ := hK.1 ci _ K.1
  obtain ⟨cf, kf, fi, f, hi, hsl⟩ := hS j hj
  have hlay := hts _ (K.2.1 _ (u_in_lay hj))
  unfold u_lay at hlay
  rw [if_neg (by rw [hfin]; decide)] at hlay
  have hst := (u_facts hfc hkC (u_lays hts K.2.1 hj) hi).1
  have h6 := u_store hfc hkC hkind hlay hi hd hn hfit
  refine W.putK X.1 X.2.1 (f := f) ⟨X.2.2.2.1, hts _ hl, ⟨_, _, _, hi⟩, hst⟩ (by rw [q2]; exact h6) q1 q3 (by rw [hsl]; exact k2_hasslot (q4 j hj)) rfl rfl hdg fun H' e1 e2 e3 => ?_
  rw [hsl] at e1 ⊢
  have hP1 := hR.1.set (zWs_D g S M) he (e := .inr (ci, ((List.range N).map (zFv g S M k ci)).set j (.int x))) ⟨_, K.1, t_OB.to (V := updV (vp_V _) j (.int x)) ⟨_, e1, q2, q3, t_set q4 hap hj _⟩ (fun i _ => vp_updV_set (by simpa using hj) _ i)⟩ e3
  rw [z_setO hs K.lt hir] at hP1
  exact kk p e R s m args below meth c H' _ ls Q X ⟨hP1, e2.trans hR.2.1, hR.2.2.1, hR.2.2.2.put e2 e3 (Nat.le_add_right _ _)⟩ hL hE
theorem z_putF {r : Nat} {ty : FieldType} (K : zCls ci C T N t0) (hl : Cond.fieldLink y.cls index (T j).1 (T j).2.1 (T j).2.2.1 ∈ zW) (hj : j < N) (hir : zIr ci j = true) (hfin : (T j).2.2.2 = true) (hinit : y.name = "<init>") (hdecl : (T j).1 = y.cls) (hd : parseFieldDescriptor (T j).2.2.1 = some ty) (hn : ∀ a : Nat, narrow ty (.ref a) = .ref a) (hfit : ∀ a : Nat, fits ty (.ref a) = true)
    (hdg : decode cc pc = .ok (.putfield index, 3)) (hk : k < S.1) (hs : S.2.1 k = (ci, N)) (hr2 : r < 1000)
    (kk : zA g l y cc nL ret d mc ms P (pc + 3) ks ns (z_upR S k j (r + 1)) M lo st) : zA g l y cc nL ret d mc ms P pc ks ns S M lo (.ref r :: .ref k :: st) := by
  intro p e R s m args below meth c H locs ls Q X hR hL hE
  rw [z_stk hr2, z_stk (Nat.lt_of_lt_of_le hk hR.2.2.1)]
  have hK := X.2.2.2.2.2.2.2.2.2.2.2.2.1
  have hts := X.2.2.2.2.1
  have hap := va_apart (own := y.cls) hts K.2.1 t0 K.2.2.1 K.2.2.2 hK K.1
  have he := z_at (g := g) (M := M) hk (zCell_o hs K.lt)
  obtain ⟨r', h1, cell, q1, q2, q3, q4⟩ := hR.1 k _ he
  have hr : r' = (C, T, N) := Option.some.inj (h1.symm.trans K.1)
  subst hr
  obtain ⟨hS, hfc, kC, hkC, hkind⟩ := hK.1 ci _ K.1
  obtain ⟨cf, kf, fi, f, hi, hsl⟩ := hS j hj
  have hlay := hts _ (K.2.1 _ (u_in_lay hj))
  unfold u_lay at hlay
  rw [if_pos hfin] at hlay
  have hst := (u_facts hfc hkC (u_lays hts K.2.1 hj) hi).1
  have hcf : m.cls = cf := by
    obtain ⟨_, _, c', _, _, _, -, -, hf', -, -, -, hown2, -⟩ := Cond.laysFinal_spec hlay
    have e1 : c' = cf := by have := hi.symm.trans hf'; simp at this; exact this.1.symm
    rw [hdecl] at hown2
    rw [← e1]; exact Option.some.inj (X.2.2.2.1.symm.trans hown2)
  have h6 := u_fits hfc hkC hkind (Or.inr hlay) hi hd (hn (g.1 + r)) (hfit (g.1 + r))
  refine W.putFinK X.1 X.2.1 X.2.2.2.1 (hts _ hl) hi hst hcf (X.2.2.2.2.2.2.1.trans hinit) (by rw [q2]; exact h6) q1 q3 (by rw [hsl]; exact k2_hasslot (q4 j hj)) rfl rfl hdg fun H' e1 e2 e3 => ?_
  rw [hsl] at e1 ⊢
  have hP1 := hR.1.set (zWs_D g S M) he (e := .inr (ci, ((List.range N).map (zFv g S M k ci)).set j (.ref (g.1 + r)))) ⟨_, K.1, t_OB.to (V := updV (vp_V _) j (.ref (g.1 + r))) ⟨_, e1, q2, q3, t_set q4 hap hj _⟩ (fun i _ => vp_updV_set (by simpa using hj) _ i)⟩ e3
  rw [z_setR hs K.lt hir] at hP1
  exact kk p e R s m args below meth c H' _ ls Q X ⟨hP1, e2.trans hR.2.1, hR.2.2.1, hR.2.2.2.put e2 e3 (Nat.le_add_right _ _)⟩ hL hE
theorem z_stk2 {g : zG} {k : Nat} {i : Int32} {st : List Value} (h : k < 1000) : (Value.int i :: .ref k :: st).map (z_v g) = .int i :: .ref (g.1 + k) :: st.map (z_v g) := by
  show Value.int i :: Value.ref (zad g k) :: _ = _
  rw [zad_lo g h]
theorem z_stk3 {g : zG} {k : Nat} {i x : Int32} {st : List Value} (h : k < 1000) : (Value.int x :: .int i :: .ref k :: st).map (z_v g) = .int x :: .int i :: .ref (g.1 + k) :: st.map (z_v g) := by
  show Value.int x :: Value.int i :: Value.ref (zad g k) :: _ = _
  rw [zad_lo g h]
theorem z_iald {n : Nat} {i : Int32} (hdg : decode cc pc = .ok (.iaload, 1)) (hk : k < S.1) (hs : S.2.1 k = (20, n)) (hin : vp_in i n) (kk : zA g l y cc nL ret d mc ms P (pc + 1) ks ns S M lo (.int (M k i.toNatClampNeg) :: st)) : zA g l y cc nL ret d mc ms P pc ks ns S M lo (.int i :: .ref k :: st) := by
  intro p e R s m args below meth c H locs ls Q X hR hL hE
  rw [z_stk2 (Nat.lt_of_lt_of_le hk hR.2.2.1)]
  exact va_iald X.1 X.2.1 X.2.2.2.2.2.2.2.2.2.2.2.2.1 hR.1 k 0 (z_at hk (zCell_n hs (Or.inl rfl))) rfl hin hdg (kk p e R s m args below meth c H locs ls Q X hR hL hE)
theorem z_zald {n : Nat} {i : Int32} (hdg : decode cc pc = .ok (.baload, 1)) (hk : k < S.1) (hs : S.2.1 k = (21, n)) (hin : vp_in i n) (kk : zA g l y cc nL ret d mc ms P (pc + 1) ks ns S M lo (.int (M k i.toNatClampNeg) :: st)) : zA g l y cc nL ret d mc ms P pc ks ns S M lo (.int i :: .ref k :: st) := by
  intro p e R s m args below meth c H locs ls Q X hR hL hE
  rw [z_stk2 (Nat.lt_of_lt_of_le hk hR.2.2.1)]
  exact va_zald X.1 X.2.1 X.2.2.2.2.2.2.2.2.2.2.2.2.1 hR.1 k 1 (z_at hk (zCell_n hs (Or.inr rfl))) rfl hin hdg (kk p e R s m args below meth c H locs ls Q X hR hL hE)
theorem z_aald {n q r : Nat} {i : Int32} (hdg : decode cc pc = .ok (.aaload, 1)) (hk : k < S.1) (hs : S.2.1 k = (q, n)) (hq : q = 22 ∨ q = 23) (hin : vp_in i n) (hr : S.2.2 k i.toNatClampNeg = r + 1) (hr2 : r < 1000) (kk : zA g l y cc nL ret d mc ms P (pc + 1) ks ns S M lo (.ref r :: st)) : zA g l y cc nL ret d mc ms P pc ks ns S M lo (.int i :: .ref k :: st) := by
  intro p e R s m args below meth c H locs ls Q X hR hL hE
  rw [z_stk2 (Nat.lt_of_lt_of_le hk hR.2.2.1)]
  have kk' := kk p e R s m args below meth c H locs ls Q X hR hL hE
  rw [z_stk hr2] at kk'
  have hv : va_rf (zrf g (S.2.2 k i.toNatClampNeg)) = .ref (g.1 + r) := by rw [hr]; simp [zrf, va_rf]
  rcases hq with rfl | rfl
  · exact va_aldq X.1 X.2.1 X.2.2.2.2.2.2.2.2.2.2.2.2.1 hR.1 k 2 (z_at hk (zCell_q hs (Or.inl rfl))) rfl hin hdg (by rw [hv]; exact kk')
  · exact va_aldq X.1 X.2.1 X.2.2.2.2.2.2.2.2.2.2.2.2.1 hR.1 k 3 (z_at hk (zCell_q hs (Or.inr rfl))) rfl hin hdg (by rw [hv]; exact kk')
theorem z_alen {n q : Nat} (hdg : decode cc pc = .ok (.arraylength, 1)) (hk : k < S.1) (hs : S.2.1 k = (q, n)) (hq : 20 ≤ q ∧ q < 24) (kk : zA g l y cc nL ret d mc ms P (pc + 1) ks ns S M lo (.int (nI n) :: st)) : zA g l y cc nL ret d mc ms P pc ks ns S M lo (.ref k :: st) := by
  intro p e R s m args below meth c H locs ls Q X hR hL hE
  rw [z_stk (Nat.lt_of_lt_of_le hk hR.2.2.1)]
  have kk' := kk p e R s m args below meth c H locs ls Q X hR hL hE
  have hK := X.2.2.2.2.2.2.2.2.2.2.2.2.1
  rcases (show q = 20 ∨ q = 21 ∨ q = 22 ∨ q = 23 by omega) with rfl | rfl | rfl | rfl
  · exact va_alen X.1 X.2.1 hK hR.1 k 0 (z_at hk (zCell_n hs (Or.inl rfl))) rfl rfl hdg kk'
  · exact va_alen X.1 X.2.1 hK hR.1 k 1 (z_at hk (zCell_n hs (Or.inr rfl))) rfl rfl hdg kk'
  · exact va_alen X.1 X.2.1 hK hR.1 k 2 (z_at hk (zCell_q hs (Or.inl rfl))) rfl rfl hdg kk'
  · exact va_alen X.1 X.2.1 hK hR.1 k 3 (z_at hk (zCell_q hs (Or.inr rfl))) rfl rfl hdg kk'
theorem z_iast {n : Nat} {i x : Int32} (hdg : decode cc pc = .ok (.iastore, 1)) (hk : k < S.1) (hs : S.2.1 k = (20, n)) (hin : vp_in i n) (kk : zA g l y cc nL ret d mc ms P (pc + 1) ks ns S (z_up M k i.toNatClampNeg x) lo st) : zA g l y cc nL ret d mc ms P pc ks ns S M lo (.int x :: .int i :: .ref k :: st) := by
  intro p e R s m args below meth c H locs ls Q X hR hL hE
  rw [z_stk3 (Nat.lt_of_lt_of_le hk hR.2.2.1)]
  have he := z_at (g := g) (M := M) hk (zCell_n hs (Or.inl rfl))
  have hK := X.2.2.2.2.2.2.2.2.2.2.2.2.1
  refine W.iast X.1 X.2.1 (hR.1 k _ he) ((hK.2 0 _ rfl).1 n (fun j => .int (M k j))) (fun q => by cases q) (by show ¬ (i < 0 ∨ (arrV _ _ _).slots.size ≤ _); rw [arrV_size]; exact hin) rfl rfl hdg fun H1 e1 z1 oq => ?_
  have hP1 := hR.1.set (zWs_D g S M) he (e := .inl (zcA g 20, n, .inl (upd (M k) i.toNatClampNeg x))) (H1 := H1) (by
    show H1[g.1 + k]? = some (vp_cell _ _)
    rw [e1]
    rw [vp_cell_i, vp_cell_i, arrV_store]
    congr 2
    funext q
    by_cases hq : q = i.toNatClampNeg
    · subst hq
      simp [updV, upd]
    · simp [updV, upd, hq]) oq
  rw [z_setA hs (Or.inl rfl)] at hP1
  exact kk p e R s m args below meth c H1 _ ls Q X ⟨hP1, z1.trans hR.2.1, hR.2.2.1, hR.2.2.2.put z1 oq (Nat.le_add_right _ _)⟩ hL hE
theorem z_zast {n : Nat} {i x : Int32} (hdg : decode cc pc = .ok (.bastore, 1)) (hk : k < S.1) (hs : S.2.1 k = (21, n)) (hin : vp_in i n) (hx : narrow .boolean (.int x) = .int x) (kk : zA g l y cc nL ret d mc ms P (pc + 1) ks ns S (z_up M k i.toNatClampNeg x) lo st) : zA g l y cc nL ret d mc ms P pc ks ns S M lo (.int x :: .int i :: .ref k :: st) := by
  intro p e R s m args below meth c H locs ls Q X hR hL hE
  rw [z_stk3 (Nat.lt_of_lt_of_le hk hR.2.2.1)]
  have he := z_at (g := g) (M := M) hk (zCell_n hs (Or.inr rfl))
  have hK := X.2.2.2.2.2.2.2.2.2.2.2.2.1
  refine W.zast X.1 X.2.1 (hR.1 k _ he) ((hK.2 1 _ rfl).1 n (fun j => .int (M k j))) (fun q => by cases q) (by show ¬ (i < 0 ∨ (arrV _ _ _).slots.size ≤ _); rw [arrV_size]; exact hin) rfl rfl hdg fun H1 e1 z1 oq => ?_
  rw [hx] at e1
  have hP1 := hR.1.set (zWs_D g S M) he (e := .inl (zcA g 21, n, .inl (upd (M k) i.toNatClampNeg x))) (H1 := H1) (by
    show H1[g.1 + k]? = some (vp_cell _ _)
    rw [e1]
    rw [vp_cell_i, vp_cell_i, arrV_store]
    congr 2
    funext q
    by_cases hq : q = i.toNatClampNeg
    · subst hq
      simp [updV, upd]
    · simp [updV, upd, hq]) oq
  rw [z_setA hs (Or.inr rfl)] at hP1
  exact kk p e R s m args below meth c H1 _ ls Q X ⟨hP1, z1.trans hR.2.1, hR.2.2.1, hR.2.2.2.put z1 oq (Nat.le_add_right _ _)⟩ hL hE
theorem z_aast {n q r cr Nr : Nat} {Cr : String} {Tr : u_T} {tr : Nat → FieldType} {i : Int32} (Kr : zCls cr Cr Tr Nr tr) (hdg : decode cc pc = .ok (.aastore, 1)) (hk : k < S.1) (hs : S.2.1 k = (q, n)) (hq : q = 22 ∧ Cr = "OstlerHours$Day" ∨ q = 23 ∧ Cr = "OstlerHours$Book") (hin : vp_in i n) (hr : r < S.1) (hsr : S.2.1 r = (cr, Nr))
    (kk : zA g l y cc nL ret d mc ms P (pc + 1) ks ns (z_upR S k i.toNatClampNeg (r + 1)) M lo st) : zA g l y cc nL ret d mc ms P pc ks ns S M lo (.ref r :: .int i :: .ref k :: st) := by
  intro p e R s m args below meth c H locs ls Q X hR hL hE
  have hr2 : r < 1000 := Nat.lt_of_lt_of_le hr hR.2.2.1
  rw [z_stk hr2, z_stk2 (Nat.lt_of_lt_of_le hk hR.2.2.1)]
  have hK := X.2.2.2.2.2.2.2.2.2.2.2.2.1
  have hq' : q = 22 ∨ q = 23 := hq.elim (fun h => Or.inl h.1) (fun h => Or.inr h.1)
  have he := z_at (g := g) (M := M) hk (zCell_q hs hq')
  have hv := z_at (g := g) (M := M) hr (zCell_o hsr Kr.lt)
  have ht : ∃ t0 : Nat, (zTy g)[t0]? = some (zcA g q, .object Cr) := by
    rcases hq with ⟨rfl, rfl⟩ | ⟨rfl, rfl⟩
    · exact ⟨2, rfl⟩
    · exact ⟨3, rfl⟩
  obtain ⟨ti, ht⟩ := ht
  have hlt : i.toNatClampNeg < n := Nat.not_le.mp fun q => hin (Or.inr q)
  have h0 : ¬ i < 0 := fun q => hin (Or.inl q)
  obtain ⟨r', hr', cellV, g1, g2, g3, -⟩ := hR.1 r _ hv
  have hcls := (hK.1 cr _ Kr.1).2
  obtain ⟨kA, comp, k1, k2, k3, -⟩ := (hK.2 ti _ ht).2
  have hcomp : comp = (zD g).1 cr := Option.some.inj (k3.symm.trans hcls.1)
  subst hcomp
  obtain ⟨kC, hkC, -⟩ := hcls.2
  refine W.aast X.1 X.2.1 (hR.1 k _ he) (fun q h => by cases h) (fun h => by cases h) k1 k2 rfl hkC ⟨h0, by show _ < (arrV _ _ _).slots.size; rw [arrV_size]; exact hlt⟩ g1 (fun q h => by rw [g3] at h; cases h) (by rw [g2]; exact hkC) (by rw [g2]; exact va_assign hcls) rfl rfl hdg fun H1 e1 z1 oq => ?_
  have hP1 := hR.1.set (zWs_D g S M) he (e := .inl (zcA g q, n, .inr (.inr (.inr (.inr (va_up (fun i => zrf g (S.2.2 k i)) i.toNatClampNeg (some (g.1 + r)))))))) (H1 := H1) (by
    show H1[g.1 + k]? = some (vp_cell _ _)
    rw [e1]
    rw [vp_cell_q, vp_cell_q, arrV_store]
    congr 2
    funext q
    by_cases hq : q = i.toNatClampNeg
    · subst hq
      simp [updV, va_up, va_rf]
    · simp [updV, va_up, hq]) oq
  rw [z_setQ hs hq'] at hP1
  exact kk p e R s m args below meth c H1 _ ls Q X ⟨hP1, z1.trans hR.2.1, hR.2.2.1, hR.2.2.2.put z1 oq (Nat.le_add_right _ _)⟩ hL hE
theorem z_new (K : zCls ci C T N t0) (hcl : Cond.classLink y.cls index C ∈ zW) (hinst : Cond.instantiable C N ∈ zW) (hini : Cond.initialized C ∈ zW) (hdef : ∀ j, j < N → defaultValue (t0 j) = (if zIr ci j = true then .null else .int 0)) (hS : S.1 < 1000) (hmc : ks + 1 ≤ mc) (hms : ns + N ≤ ms)
    (hdg : decode cc pc = .ok (.new index, 3)) (kk : zA g l y cc nL ret d mc ms P (pc + 3) (ks + 1) (ns + N) (zSn S (ci, N)) (zMn S.1 M) lo (.ref S.1 :: st)) : zA g l y cc nL ret d mc ms P pc ks ns S M lo st := by
  intro p e R s m args below meth c H locs ls Q X hR hL hE
  have hK := X.2.2.2.2.2.2.2.2.2.2.2.2.1
  have hts := X.2.2.2.2.1
  have hKn := hK.1 ci _ K.1
  refine W.newcK X.1 X.2.1 X.2.2.2.1 (hts _ hcl) (hts _ hinst) (hts _ hini) rfl hdg (Nat.le_trans hmc X.2.2.2.2.2.2.2.2.2.2.1) (Nat.le_trans hms X.2.2.2.2.2.2.2.2.2.2.2.1) hKn.2.1 hR.2.1 fun H1 kC hkC e1 z1 o1 => ?_
  have hk : ∀ (k : Nat) (x : Nat × va_E), (zWs g S M)[k]? = some x → H1[x.1]? = H[x.1]? := fun k x hx => o1 x.1 (by have := (hR.1 k x hx).lt; rw [hR.2.1] at this; exact this)
  have hP1 : va_P (zD g) vwCl (zWs g S M ++ [(g.1 + S.1, .inr (ci, (List.range N).map (fun j => if zIr ci j = true then .null else .int 0)))]) H1 := (hR.1.kept hk).app (fun k x hx => by
    have hz : k < 1 := (List.getElem?_eq_some_iff.mp hx).1
    rw [show k = 0 by omega] at hx
    cases hx
    refine ⟨_, K.1, (u_born t0 hts K.2.1 hKn hkC e1 K.2.2.1).to fun j hj => ?_⟩
    rw [hdef j hj]
    simp [vp_V, List.getD_eq_getElem?_getD, List.getElem?_map, List.getElem?_range hj])
  rw [z_pushO K.lt] at hP1
  have hE' := kk p e R s m args below meth c H1 locs ls Q X ⟨hP1, z1.trans (by show g.1 + S.1 + 1 = g.1 + (S.1 + 1); omega), (by show S.1 + 1 ≤ 1000; omega), ⟨Nat.le_trans hR.2.2.2.1 (by rw [z1, hR.2.1]; omega), fun x h1 h2 => (o1 x (by have := hR.2.2.2.1; rw [hR.2.1] at this; omega)).trans (hR.2.2.2.2.1 x h1 h2), hR.2.2.2.2.2⟩⟩ hL hE
  rw [z_stk hS] at hE'
  exact hE'
theorem z_newa {atype : ArrayType} {n : Int32} {q n' : Nat} (hq : q = 20 ∧ newarray.typeOf atype = .int ∨ q = 21 ∧ newarray.typeOf atype = .boolean) (harr : Cond.arrayClass (newarray.typeOf atype) ∈ zW) (hn : n = nI n') (hn2 : n' < 1000) (hS : S.1 < 1000) (hmc : ks + 1 ≤ mc) (hms : ns + n' ≤ ms)
    (hdg : decode cc pc = .ok (.newarray atype, 2)) (kk : zA g l y cc nL ret d mc ms P (pc + 2) (ks + 1) (ns + n') (zSn S (q, n')) (zMn S.1 M) lo (.ref S.1 :: st)) : zA g l y cc nL ret d mc ms P pc ks ns S M lo (.int n :: st) := by
  intro p e R s m args below meth c H locs ls Q X hR hL hE
  have hK := X.2.2.2.2.2.2.2.2.2.2.2.2.1
  have hts := X.2.2.2.2.1
  subst hn
  refine va_newaK X.1 X.2.1 (hts _ harr) (N := n') rfl hdg rfl (nI_pos (by omega)) (nI_clamp (by omega)) ?_ (Nat.le_trans hmc X.2.2.2.2.2.2.2.2.2.2.1) (Nat.le_trans hms X.2.2.2.2.2.2.2.2.2.2.2.1) hR.2.1 fun H1 cA e1 z1 o1 hAr hNm => ?_
  · rcases hq with ⟨-, h⟩ | ⟨-, h⟩ <;> rw [h] <;> simp only [componentBytes] <;> omega
  have hk : ∀ (k : Nat) (x : Nat × va_E), (zWs g S M)[k]? = some x → H1[x.1]? = H[x.1]? := fun k x hx => o1 x.1 (by have := (hR.1 k x hx).lt; rw [hR.2.1] at this; exact this)
  have hcA : cA = zcA g q := by
    rcases hq with ⟨rfl, h⟩ | ⟨rfl, h⟩ <;> rw [h] at hNm
    · exact Option.some.inj (hNm.symm.trans (hK.2 0 _ rfl).2)
    · exact Option.some.inj (hNm.symm.trans (hK.2 1 _ rfl).2)
  have hP1 : va_P (zD g) vwCl (zWs g S M ++ [(g.1 + S.1, .inl (zcA g q, n', .inl (fun _ => 0)))]) H1 := (hR.1.kept hk).app (fun k x hx => by
    have hz : k < 1 := (List.getElem?_eq_some_iff.mp hx).1
    rw [show k = 0 by omega] at hx
    cases hx
    show H1[g.1 + S.1]? = some (vp_cell _ _)
    rw [e1, vp_cell_i, hcA]
    rcases hq with ⟨-, h⟩ | ⟨-, h⟩ <;> rw [h] <;> rfl)
  rw [z_pushA (hq.elim (fun h => Or.inl h.1) (fun h => Or.inr h.1))] at hP1
  have hE' := kk p e R s m args below meth c H1 locs ls Q X ⟨hP1, z1.trans (by show g.1 + S.1 + 1 = g.1 + (S.1 + 1); omega), (by show S.1 + 1 ≤ 1000; omega), ⟨Nat.le_trans hR.2.2.2.1 (by rw [z1, hR.2.1]; omega), fun x h1 h2 => (o1 x (by have := hR.2.2.2.1; rw [hR.2.1] at this; omega)).trans (hR.2.2.2.2.1 x h1 h2), hR.2.2.2.2.2⟩⟩ hL hE
  rw [z_stk hS] at hE'
  exact hE'
theorem z_anew {n : Int32} {q n' : Nat} {Cq : String} (hq : q = 22 ∧ Cq = "OstlerHours$Day" ∨ q = 23 ∧ Cq = "OstlerHours$Book") (hcl : Cond.classLink y.cls index Cq ∈ zW) (hn : n = nI n') (hn2 : n' < 1000) (hS : S.1 < 1000) (hmc : ks + 1 ≤ mc) (hms : ns + n' ≤ ms)
    (hdg : decode cc pc = .ok (.anewarray index, 3)) (kk : zA g l y cc nL ret d mc ms P (pc + 3) (ks + 1) (ns + n') (zSn S (q, n')) (zMn S.1 M) lo (.ref S.1 :: st)) : zA g l y cc nL ret d mc ms P pc ks ns S M lo (.int n :: st) := by
  intro p e R s m args below meth c H locs ls Q X hR hL hE
  have hK := X.2.2.2.2.2.2.2.2.2.2.2.2.1
  have hts := X.2.2.2.2.1
  subst hn
  have hov : va_AO Cq s := by
    rcases hq with ⟨-, rfl⟩ | ⟨-, rfl⟩
    · exact X.2.2.2.2.2.2.2.2.2.2.2.2.2.1.2.2.2.2.2.1
    · exact X.2.2.2.2.2.2.2.2.2.2.2.2.2.1.2.2.2.2.2.2
  refine W.anew X.1 X.2.1 X.2.2.2.1 (hts _ hcl) (va_AO.use hov) rfl hdg rfl (nI_pos (by omega)) (by rw [nI_clamp (by omega)]; omega) (Nat.le_trans hmc X.2.2.2.2.2.2.2.2.2.2.1) (by rw [nI_clamp (by omega)]; exact Nat.le_trans hms X.2.2.2.2.2.2.2.2.2.2.2.1) fun cA kA comp f1 f2 f3 f4 => ?_
  rw [nI_clamp (by omega)]
  generalize hH1 : H.push ({ cls := cA, slots := Array.replicate n' .null, vm := .none } : Cell) = H1
  have z1 : H1.size = H.size + 1 := by rw [← hH1, Array.size_push]
  have e1 : H1[H.size]? = some (arrV cA n' (fun _ => .null)) := by rw [← hH1, Array.getElem?_push_size, ← arrV_new]
  have o1 : ∀ q : Nat, q < H.size → H1[q]? = H[q]? := fun q hq => by rw [← hH1, Array.getElem?_push, if_neg (Nat.ne_of_lt hq)]
  have hk : ∀ (k : Nat) (x : Nat × va_E), (zWs g S M)[k]? = some x → H1[x.1]? = H[x.1]? := fun k x hx => o1 x.1 ((hR.1 k x hx).lt)
  have hcA : cA = zcA g q := by
    rcases hq with ⟨rfl, rfl⟩ | ⟨rfl, rfl⟩
    · obtain ⟨_, _, _, _, _, hh⟩ := (hK.2 2 _ rfl).2
      exact Option.some.inj (f1.symm.trans hh)
    · obtain ⟨_, _, _, _, _, hh⟩ := (hK.2 3 _ rfl).2
      exact Option.some.inj (f1.symm.trans hh)
  have hP1 : va_P (zD g) vwCl (zWs g S M ++ [(g.1 + S.1, .inl (zcA g q, n', .inr (.inr (.inr (.inr (fun _ => none))))))]) H1 := (hR.1.kept hk).app (fun k x hx => by
    have hz : k < 1 := (List.getElem?_eq_some_iff.mp hx).1
    rw [show k = 0 by omega] at hx
    cases hx
    show H1[g.1 + S.1]? = some (vp_cell _ _)
    rw [← hR.2.1, e1, vp_cell_q, hcA]
    rfl)
  rw [z_pushQ (hq.elim (fun h => Or.inl h.1) (fun h => Or.inr h.1))] at hP1
  have hE' := kk p e R s m args below meth c H1 locs ls Q X ⟨hP1, z1.trans (by rw [hR.2.1]; show g.1 + S.1 + 1 = g.1 + (S.1 + 1); omega), (by show S.1 + 1 ≤ 1000; omega), ⟨Nat.le_trans hR.2.2.2.1 (by rw [z1]; omega), fun x h1 h2 => (o1 x (Nat.lt_of_lt_of_le h1 hR.2.2.2.1)).trans (hR.2.2.2.2.1 x h1 h2), hR.2.2.2.2.2⟩⟩ hL hE
  rw [z_stk hS, ← hR.2.1] at hE'
  exact hE'
end ZHEAP
