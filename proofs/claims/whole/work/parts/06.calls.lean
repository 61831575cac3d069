/-! ===== methods and calls ===== -/
def zRm (d mc ms : Nat) : Room := { frames := d, cells := mc, slots := ms, locals := 100 * d }
def zI (g : zG) (S : zS) (M : zM) (U : State) : Prop :=
  va_P (zD g) vwCl (zWs g S M) U.heap ∧ U.heap.size = g.1 + S.1 ∧ S.1 ≤ 1000 ∧ va_K (zD g) vwCl (zTy g) U ∧ zZ g U U.heap
def zQ (g : zG) (P : Option Value → zS → zM → Prop) : Array Value → State → Outcome → State → Prop := fun _ st o t =>
  (∃ (v : Option Value) (S' : zS) (M' : zM), o = .returned (v.map (z_v g)) ∧ P v S' M' ∧ va_P (zD g) vwCl (zWs g S' M') t.heap ∧ t.heap.size = g.1 + S'.1 ∧ S'.1 ≤ 1000) ∧ va_F (zA0 g) st t
def zMet (g : zG) (l : Launch) (y : MethodName) (cc : ByteArray) (nL : Nat) (ret : Option FieldType) (d mc ms : Nat) (av : List Value) (S : zS) (M : zM) (P : Option Value → zS → zM → Prop) : Prop :=
  Met l y (Cond.code y cc nL ret :: zW) (zRm d mc ms) (fun a U => a = (av.map (z_v g)).toArray ∧ zI g S M U) (zQ g P) mc ms (zA0 g)
def zFl : List Value → List Value
  | [] => []
  | v :: t => if v.category = 2 then v :: .null :: zFl t else v :: zFl t
theorem zFl_in {g : zG} : ∀ (av : List Value) (n i : Nat) (v : Value), (zFl av)[i]? = some v → v ≠ .null → (n + i, z_v g v) ∈ lv_args n (av.map (z_v g))
  | [], n, i, v, h, _ => by simp [zFl] at h
  | w :: t, n, i, v, h, hv => by
    show _ ∈ (n, z_v g w) :: lv_args (if (z_v g w).category = 2 then n + 2 else n + 1) (t.map (z_v g))
    rw [z_v_cat]
    by_cases hc : w.category = 2
    · rw [zFl, if_pos hc] at h
      rw [if_pos hc]
      match i, h with
      | 0, h => cases h; exact List.mem_cons_self
      | 1, h => cases h; exact absurd rfl hv
      | i + 2, h =>
        have := zFl_in (g := g) t (n + 2) i v h hv
        rw [show n + (i + 2) = n + 2 + i by omega]
        exact List.mem_cons_of_mem _ this
    · rw [zFl, if_neg hc] at h
      rw [if_neg hc]
      match i, h with
      | 0, h => cases h; exact List.mem_cons_self
      | i + 1, h =>
        have := zFl_in (g := g) t (n + 1) i v h hv
        rw [show n + (i + 1) = n + 1 + i by omega]
        exact List.mem_cons_of_mem _ this
theorem zFl_len : ∀ (g : zG) (av : List Value), (lg_sl (av.map (z_v g))).length = (zFl av).length
  | _, [] => rfl
  | g, w :: t => by
    have ih := zFl_len g t
    have e : lg_sl ((w :: t).map (z_v g)) = (if (z_v g w).category = 2 then [Slot.val (z_v g w), .second] else [Slot.val (z_v g w)]) ++ lg_sl (t.map (z_v g)) := rfl
    rw [e, z_v_cat, zFl]
    by_cases hc : w.category = 2
    · simp [hc, ih]
    · simp [hc, ih]
def zLo (nL : Nat) (av : List Value) : List Value := zFl av ++ List.replicate (nL - (zFl av).length) .null
theorem zMet.of {g : zG} {l : Launch} {y : MethodName} {cc : ByteArray} {nL : Nat} {ret : Option FieldType} {d mc ms : Nat} {av : List Value} {S : zS} {M : zM} {P : Option Value → zS → zM → Prop} (hy : plainName y.cls = true) (hlen : (zFl av).length ≤ nL)
    (h : zA g l y cc nL ret d mc ms P 0 0 0 S M (zLo nL av) []) : zMet g l y cc nL ret d mc ms av S M P := by
  refine Met.ofW (cc := cc) (maxL := nL) (ret := ret) hy rfl ?_
  intro p e s m args below meth c s₁ B hml hv
  obtain ⟨rfl, hP, hsz, hS1, hK, hZ⟩ := hv
  have hts : ∀ w ∈ Cond.code y cc nL ret :: zW, w.before (av.map (z_v g)).toArray s = true := atoms_spec (ws := Cond.code y cc nL ret :: zW) B.pre
  have hl := lv_entry (av.map (z_v g)) (n := nL) (by rw [zFl_len]; exact hlen)
  rw [lg_entry_eq]
  generalize (lg_sl (av.map (z_v g)) ++ List.replicate (nL - (lg_sl (av.map (z_v g))).length) Slot.unset).toArray = ls at hl ⊢
  refine h p e _ s m _ below meth c s.heap [] ls _ ⟨B.exec, B.bytes, hml, findClass_of_methodNamed B.named, fun w hw => hts w (List.mem_cons_of_mem _ hw), B.returns, (name_of_methodNamed B.named B.method).1, B.notSynchronized, Nat.le_refl _, Nat.le_refl _, Nat.le_refl _, Nat.le_refl _, hK, hZ, by rw [hsz]; exact Nat.le_add_right _ _⟩ ⟨hP, hsz, hS1, va_S.rf⟩ ⟨hl.1, hl.2.1, fun i v h1 h2 => ?_⟩ ?_
  · unfold zLo at h1
    by_cases hi : i < (zFl av).length
    · rw [List.getElem?_append_left hi] at h1
      have := zFl_in (g := g) av 0 i v h1 h2
      rw [Nat.zero_add] at this
      exact hl.2.2 _ this
    · rw [List.getElem?_append_right (by omega), List.getElem?_replicate] at h1
      split at h1
      · cases h1
        exact absurd rfl h2
      · cases h1
  · intro v S' M' H' locs' ls' pc' hPv hR' hEnd
    have hq : ∀ (o : Outcome) (t : State), o = .returned (v.map (z_v g)) → t.heap = H' → zQ g P (av.map (z_v g)).toArray s o t := fun o t ho ht =>
      ⟨⟨v, S', M', ho, hPv, by rw [ht]; exact hR'.1, by rw [ht]; exact hR'.2.1, hR'.2.2.1⟩, hR'.2.2.2.F ht⟩
    rcases hEnd with ⟨hr, rfl, hd⟩ | ⟨ty, x, hr, rfl, hn, hd⟩ | ⟨x, hr, rfl, hd⟩
    · exact W.vret B.exec B.bytes (B.returns.trans hr) (fun t ht _ => hq _ t rfl ht) hR'.2.2.2.2.2 hd B.notSynchronized
    · exact W.zret B.exec B.bytes (B.returns.trans hr) hn (fun t ht _ => hq _ t rfl ht) hR'.2.2.2.2.2 hd B.notSynchronized
    · exact W.lret B.exec B.bytes (B.returns.trans hr) (fun t ht _ => hq _ t rfl ht) hR'.2.2.2.2.2 hd B.notSynchronized
/-- a method's own words -/
def zCW (y : MethodName) (cc : ByteArray) (nL : Nat) (ret : Option FieldType) (n : Nat) : Prop :=
  Cond.code y cc nL ret ∈ zW ∧ Cond.initialized y.cls ∈ zW ∧ (y.cls ≠ "java/lang/invoke/MethodHandle" ∧ y.cls ≠ "java/lang/invoke/VarHandle" ∧ (parseMethodDescriptor y.desc).map (fun d => d.parameters.length) = some n) ∧ nL ≤ 80
section ZCALLS
variable {g : zG} {l : Launch} {y : MethodName} {cc : ByteArray} {nL : Nat} {ret : Option FieldType} {d mc ms : Nat} {P : Option Value → zS → zM → Prop} {pc ks ns : Nat} {S : zS} {M : zM} {lo st : List Value}
variable {y' : MethodName} {cc' : ByteArray} {nL' : Nat} {ret' : Option FieldType} {d' mc' ms' index n : Nat} {P' : Option Value → zS → zM → Prop}
theorem z_blind {g : zG} {S : zS} {M : zM} {av : List Value} : FrameBlind (fun a U => a = (av.map (z_v g)).toArray ∧ zI g S M U) :=
  fun a U q mk h => ⟨h.1, h.2.1, h.2.2.1, h.2.2.2.1, va_K.moved (u := U) (U := U.calling q mk a) (Vm.Alike.refl U.vm) h.2.2.2.2.1, (zZ.same (s := U) (U := U.calling q mk a) rfl h.2.2.2.2.2)⟩
theorem z_ready {p : Program} {R : Room} {s : State} {m : MethodId} {args : Array Value} {meth : Method} {c : Code} {H : Heap} {locs : List Loc} (X : zX g y cc nL ret d mc ms p R s m args meth c) (hR : zR g S M s H locs) {U : State} (hU : U.heap = H) (hW : s.WarmedH U.vm) : zI g S M U := by
  have hK := X.2.2.2.2.2.2.2.2.2.2.2.2.1
  have hZ := X.2.2.2.2.2.2.2.2.2.2.2.2.2.1
  subst hU
  exact ⟨hR.1, hR.2.1, hR.2.2.1, va_K.moved hW.alike hK, hZ.moved hW (fun a h1 h2 => hR.2.2.2.2.1 a h1 h2)⟩
theorem z_cb {p : Program} {R : Room} {s : State} {m : MethodId} {args : Array Value} {meth : Method} {c : Code} (X : zX g y cc nL ret d mc ms p R s m args meth c) (hw : zCW y' cc' nL' ret' n) (hl : Cond.methodLink y.cls index y' ∈ zW) (hd : d' + 1 ≤ d) :
    CallB R s args y.cls index y' cc' nL' ret' (Cond.code y' cc' nL' ret' :: zW) (zRm d' mc' ms') mc' ms' n := by
  have hts := X.2.2.2.2.1
  have h1 : d ≤ R.frames := X.2.2.2.2.2.2.2.2.1
  have h2 : 100 * d ≤ R.locals := X.2.2.2.2.2.2.2.2.2.1
  have h3 := hw.2.2.2
  refine callB_of n hts (zW_good fun w hq => ?_) rfl rfl rfl (hts _ hw.2.1) (hts _ hl) hw.2.2.1 ⟨?_, ?_⟩
  · rcases List.mem_cons.mp hq with rfl | h
    · exact hw.1
    · exact h
  · show d' + 1 ≤ R.frames
    omega
  · show 8 + (nL' + 11) + 100 * d' ≤ R.locals
    omega
/-- behind a call -/
theorem z_after {p : Program} {e : Env} {R : Room} {s : State} {m : MethodId} {args : Array Value} {below : List Frame} {meth : Method} {c : Code} {H : Heap} {locs : List Loc} {ls : Array Slot} {Q : State → Prop} {rest st0 : List Value} {a : Array Value} (hR : zR g S M s H locs)
    (hr : va_Run p l e R s m args below meth c H locs ks ns mc' ms' (F0 m pc ls st0) rest (zQ g P' a) (zA0 g))
    (kk : ∀ (v : Option Value) (S' : zS) (M' : zM) (H1 : Heap) (locs1 : List Loc), P' v S' M' → zR g S' M' s H1 locs1 → W p l e R s m args below meth c H1 locs1 (ks + mc') (ns + ms') Q (F0 m (pc + 3) ls (v.toList.map (z_v g) ++ rest))) :
    W p l e R s m args below meth c H locs ks ns Q (F0 m pc ls st0) := by
  intro T hT X
  obtain ⟨v, st₀, t, T', L, h0, X', hL, e1, e2, ⟨⟨v', S', M', hv, hp, hP1, hsz, hS1⟩, hz, hk⟩, st⟩ := hr T hT X
  have hv' : v = v'.map (z_v g) := Outcome.returned.inj hv
  rw [h0] at hz hk
  have hS := hR.2.2.2
  obtain ⟨t2, a1, b1⟩ := kk v' S' M' T'.heap (locs ++ L) hp ⟨by rw [e1]; exact hP1, by rw [e1]; exact hsz, hS1, Nat.le_trans hS.1 (by rw [e1]; exact hz), fun q h1 h2 => by rw [e1, hk q (Nat.lt_of_lt_of_le h1 hS.1) h2]; exact hS.2.1 q h1 h2, fun q hq => by
      rcases List.mem_append.mp hq with h | h
      · exact hS.2.2 q h
      · exact hL q h⟩ T' rfl X'
  refine ⟨t2, st t2 ?_, b1⟩
  have e3 : v.toList = v'.toList.map (z_v g) := by rw [hv']; cases v' <;> rfl
  rw [e3]
  exact a1
theorem z_room {m : MethodId} {ls : Array Slot} {rest st : List Value} (h : (st.map fun v => v.category).sum ≤ 8) : 2 * (F0 m pc ls rest).monitorRoom + ((st.map (z_v g)).map fun v => v.category).sum ≤ 8 := by
  have e : ((st.map (z_v g)).map fun v => v.category) = st.map fun v => v.category := by
    rw [List.map_map]
    exact List.map_congr_left fun v _ => z_v_cat g v
  exact lv_room (by rw [e]; exact h)
theorem z_callV {b ci N : Nat} {T : u_T} {t0 : Nat → FieldType} (As : List Value) (hM : zMet g l y' cc' nL' ret' d' mc' ms' (.ref b :: As) S M P') (hw : zCW y' cc' nL' ret' As.length) (hl : Cond.methodLink y.cls index y' ∈ zW) (hin : Cond.instanceMethod y' ∈ zW) (hse : Cond.selects y'.cls y' y' ∈ zW) (K : zCls ci y'.cls T N t0)
    (hd : d' + 1 ≤ d) (hst : (st.map fun v => v.category).sum ≤ 8) (hk : b < S.1) (hs : S.2.1 b = (ci, N)) (hmc : ks + mc' ≤ mc) (hms : ns + ms' ≤ ms) (hdg : decode cc pc = .ok (.invokevirtual index, 3))
    (kk : ∀ (v : Option Value) (S' : zS) (M' : zM), P' v S' M' → zA g l y cc nL ret d mc ms P (pc + 3) (ks + mc') (ns + ms') S' M' lo (v.toList ++ st)) {st2 : List Value} (he : As.reverse ++ .ref b :: st = st2) :
    zA g l y cc nL ret d mc ms P pc ks ns S M lo st2 := by
  subst he
  intro p e R s m args below meth c H locs ls Q X hR hL hE
  have hb2 : b < 1000 := Nat.lt_of_lt_of_le hk hR.2.2.1
  have hts := X.2.2.2.2.1
  refine z_after hR (va_runV (C := y'.cls) (As := As.map (z_v g)) (b := zad g b) (rest := st.map (z_v g)) ⟨X.1, X.2.1, X.2.2.1, X.2.2.2.1, hts⟩ hM ⟨z_cb X hw hl hd, hts _ hin, hts _ hse⟩ ⟨z_blind, ?_, fun U hU hW => ⟨rfl, z_ready X hR hU hW⟩⟩ rfl (by simp) hL.1 (by simp [z_v]) (z_room hst) hdg ⟨Nat.le_trans hmc X.2.2.2.2.2.2.2.2.2.2.1, Nat.le_trans hms X.2.2.2.2.2.2.2.2.2.2.2.1⟩) fun v S' M' H1 locs1 hp hR1 => ?_
  · rw [zad_lo g hb2]
    exact va_recv X.2.2.2.2.2.2.2.2.2.2.2.2.1 hR.1 K.1 (z_at hk (zCell_o hs K.lt))
  · have := kk v S' M' hp p e R s m args below meth c H1 locs1 ls Q X hR1 hL hE
    rw [List.map_append] at this
    exact this
theorem z_callS (As : List Value) (hM : zMet g l y' cc' nL' ret' d' mc' ms' As S M P') (hw : zCW y' cc' nL' ret' As.length) (hl : Cond.methodLink y.cls index y' ∈ zW) (hin : Cond.static y' ∈ zW)
    (hd : d' + 1 ≤ d) (hst : (st.map fun v => v.category).sum ≤ 8) (hmc : ks + mc' ≤ mc) (hms : ns + ms' ≤ ms) (hdg : decode cc pc = .ok (.invokestatic index, 3))
    (kk : ∀ (v : Option Value) (S' : zS) (M' : zM), P' v S' M' → zA g l y cc nL ret d mc ms P (pc + 3) (ks + mc') (ns + ms') S' M' lo (v.toList ++ st)) {st2 : List Value} (he : As.reverse ++ st = st2) :
    zA g l y cc nL ret d mc ms P pc ks ns S M lo st2 := by
  subst he
  intro p e R s m args below meth c H locs ls Q X hR hL hE
  have hts := X.2.2.2.2.1
  refine z_after hR (va_runS (As := As.map (z_v g)) (rest := st.map (z_v g)) ⟨X.1, X.2.1, X.2.2.1, X.2.2.2.1, hts⟩ hM ⟨z_cb X hw hl hd, hts _ hin⟩ ⟨z_blind, fun U hU hW => ⟨rfl, z_ready X hR hU hW⟩⟩ rfl (by simp) hL.1 (by simp [z_v]) (z_room hst) hdg ⟨Nat.le_trans hmc X.2.2.2.2.2.2.2.2.2.2.1, Nat.le_trans hms X.2.2.2.2.2.2.2.2.2.2.2.1⟩) fun v S' M' H1 locs1 hp hR1 => ?_
  have := kk v S' M' hp p e R s m args below meth c H1 locs1 ls Q X hR1 hL hE
  rw [List.map_append] at this
  exact this
theorem z_callI {b : Nat} (As : List Value) (hM : zMet g l y' cc' nL' none d' mc' ms' (.ref b :: As) S M P') (hw : zCW y' cc' nL' none As.length) (hl : Cond.methodLink y.cls index y' ∈ zW) (hin : Cond.instanceMethod y' ∈ zW) (hy1 : y'.name = "<init>")
    (hd : d' + 1 ≤ d) (hst : (st.map fun v => v.category).sum ≤ 8) (hmc : ks + mc' ≤ mc) (hms : ns + ms' ≤ ms) (hdg : decode cc pc = .ok (.invokespecial index, 3))
    (kk : ∀ (v : Option Value) (S' : zS) (M' : zM), P' v S' M' → zA g l y cc nL ret d mc ms P (pc + 3) (ks + mc') (ns + ms') S' M' lo (v.toList ++ st)) {st2 : List Value} (he : As.reverse ++ .ref b :: st = st2) :
    zA g l y cc nL ret d mc ms P pc ks ns S M lo st2 := by
  subst he
  intro p e R s m args below meth c H locs ls Q X hR hL hE
  have hts := X.2.2.2.2.1
  refine z_after hR (va_runI (As := As.map (z_v g)) (b := zad g b) (rest := st.map (z_v g)) ⟨X.1, X.2.1, X.2.2.1, X.2.2.2.1, hts⟩ hM ⟨z_cb X hw hl hd, hy1, hts _ hin⟩ ⟨z_blind, fun U hU hW => ⟨rfl, z_ready X hR hU hW⟩⟩ rfl (by simp) hL.1 (by simp [z_v]) (z_room hst) hdg ⟨Nat.le_trans hmc X.2.2.2.2.2.2.2.2.2.2.1, Nat.le_trans hms X.2.2.2.2.2.2.2.2.2.2.2.1⟩) fun v S' M' H1 locs1 hp hR1 => ?_
  have := kk v S' M' hp p e R s m args below meth c H1 locs1 ls Q X hR1 hL hE
  rw [List.map_append] at this
  exact this
theorem z_callIN {b : Nat} {host : String} (As : List Value) (hM : zMet g l y' cc' nL' none d' mc' ms' (.ref b :: As) S M P') (hw : zCW y' cc' nL' none As.length) (hl : (y.cls, index, y', host) ∈ zNe) (hin : Cond.instanceMethod y' ∈ zW) (hy1 : y'.name = "<init>")
    (hd : d' + 1 ≤ d) (hst : (st.map fun v => v.category).sum ≤ 8) (hmc : ks + mc' ≤ mc) (hms : ns + ms' ≤ ms) (hdg : decode cc pc = .ok (.invokespecial index, 3))
    (kk : ∀ (v : Option Value) (S' : zS) (M' : zM), P' v S' M' → zA g l y cc nL ret d mc ms P (pc + 3) (ks + mc') (ns + ms') S' M' lo (v.toList ++ st)) {st2 : List Value} (he : As.reverse ++ .ref b :: st = st2) :
    zA g l y cc nL ret d mc ms P pc ks ns S M lo st2 := by
  subst he
  intro p e R s m args below meth c H locs ls Q X hR hL hE
  have hts := X.2.2.2.2.1
  have h1 : d ≤ R.frames := X.2.2.2.2.2.2.2.2.1
  have h2 : 100 * d ≤ R.locals := X.2.2.2.2.2.2.2.2.2.1
  have h3 := hw.2.2.2
  have hcn : va_CN R s args y.cls index y' host cc' nL' none (Cond.code y' cc' nL' none :: zW) (zRm d' mc' ms') mc' ms' As.length := by
    refine va_cnB As.length hts (zW_good fun w hq => ?_) rfl rfl rfl (X.2.2.2.2.2.2.2.2.2.2.2.2.2.1.1 _ hl) (hts _ hw.2.1) hw.2.2.1 ⟨?_, ?_⟩
    · rcases List.mem_cons.mp hq with rfl | h
      · exact hw.1
      · exact h
    · show d' + 1 ≤ R.frames
      omega
    · show 8 + (nL' + 11) + 100 * d' ≤ R.locals
      omega
  refine z_after hR (va_runIN (host := host) (As := As.map (z_v g)) (b := zad g b) (rest := st.map (z_v g)) ⟨X.1, X.2.1, X.2.2.1, X.2.2.2.1, hts⟩ hM ⟨hcn, hy1, hts _ hin⟩ ⟨z_blind, fun U hU hW => ⟨rfl, z_ready X hR hU hW⟩⟩ rfl (by simp) hL.1 (by simp [z_v]) (z_room hst) hdg ⟨Nat.le_trans hmc X.2.2.2.2.2.2.2.2.2.2.1, Nat.le_trans hms X.2.2.2.2.2.2.2.2.2.2.2.1⟩) fun v S' M' H1 locs1 hp hR1 => ?_
  have := kk v S' M' hp p e R s m args below meth c H1 locs1 ls Q X hR1 hL hE
  rw [List.map_append] at this
  exact this
theorem z_objInit {b : Nat} (hl : Cond.methodLink y.cls index Lib.objectInit ∈ zW) (hin : Cond.instanceMethod Lib.objectInit ∈ zW) (hco : Cond.code Lib.objectInit ⟨#[0xb1]⟩ 1 none ∈ zW) (hd : 1 ≤ d) (hst : (st.map fun v => v.category).sum ≤ 8) (hdg : decode cc pc = .ok (.invokespecial index, 3))
    (kk : zA g l y cc nL ret d mc ms P (pc + 3) ks ns S M lo st) : zA g l y cc nL ret d mc ms P pc ks ns S M lo (.ref b :: st) := by
  intro p e R s m args below meth c H locs ls Q X hR hL hE
  have hts := X.2.2.2.2.1
  have h1 : d ≤ R.frames := X.2.2.2.2.2.2.2.2.1
  have h2 : 100 * d ≤ R.locals := X.2.2.2.2.2.2.2.2.2.1
  have h3 := z_room (g := g) (pc := pc) (m := m) (ls := ls) (rest := (Value.ref b :: st).map (z_v g)) hst
  exact W.objInit X.1 X.2.1 X.2.2.2.1 (hts _ hl) (hts _ hin) (hts _ hco) rfl (hL.1.trans X.2.2.1.symm) (a := zad g b) (rest := st.map (z_v g)) rfl hdg (by omega) (by omega) (kk p e R s m args below meth c H locs ls Q X hR hL hE)
theorem z_catsum {g : zG} {st : List Value} (h : (st.map fun v => v.category).sum ≤ 8) : ((st.map (z_v g)).map fun v => v.category).sum ≤ 8 := by
  have e : ((st.map (z_v g)).map fun v => v.category) = st.map fun v => v.category := by
    rw [List.map_map]
    exact List.map_congr_left fun v _ => z_v_cat g v
  rw [e]
  exact h
theorem z_max {x z : Int32} (hl : Cond.methodLink y.cls index Lib.Math.max.name ∈ zW) (hsx : Cond.static Lib.Math.max.name ∈ zW) (hix : Cond.initialized "java/lang/Math" ∈ zW) (hcx : Cond.code Lib.Math.max.name Lib.Math.max.code 2 (some .int) ∈ zW) (hd : 1 ≤ d) (hst : (st.map fun v => v.category).sum ≤ 8) (hk : ks ≤ mc) (hn : ns ≤ ms) (hdg : decode cc pc = .ok (.invokestatic index, 3))
    (kk : zA g l y cc nL ret d mc ms P (pc + 3) ks ns S M lo (.int (if x < z then z else x) :: st)) : zA g l y cc nL ret d mc ms P pc ks ns S M lo (.int z :: .int x :: st) := by
  intro p e R s m args below meth c H locs ls Q X hR hL hE
  have hts := X.2.2.2.2.1
  have h1 : d ≤ R.frames := X.2.2.2.2.2.2.2.2.1
  have h2 : 100 * d ≤ R.locals := X.2.2.2.2.2.2.2.2.2.1
  have h3 := z_catsum (g := g) hst
  exact va_mmax X.1 X.2.1 (X.2.2.1.trans hL.1.symm) X.2.2.2.1 (hts _ hl) (hts _ hsx) (hts _ hix) (hts _ hcx) (by omega) (by omega) (Nat.le_trans hk X.2.2.2.2.2.2.2.2.2.2.1) (Nat.le_trans hn X.2.2.2.2.2.2.2.2.2.2.2.1) hdg (kk p e R s m args below meth c H locs ls Q X hR hL hE)
theorem z_min {x z : Int32} (hl : Cond.methodLink y.cls index Lib.Math.min.name ∈ zW) (hsx : Cond.static Lib.Math.min.name ∈ zW) (hix : Cond.initialized "java/lang/Math" ∈ zW) (hcx : Cond.code Lib.Math.min.name Lib.Math.min.code 2 (some .int) ∈ zW) (hd : 1 ≤ d) (hst : (st.map fun v => v.category).sum ≤ 8) (hk : ks ≤ mc) (hn : ns ≤ ms) (hdg : decode cc pc = .ok (.invokestatic index, 3))
    (kk : zA g l y cc nL ret d mc ms P (pc + 3) ks ns S M lo (.int (if z < x then z else x) :: st)) : zA g l y cc nL ret d mc ms P pc ks ns S M lo (.int z :: .int x :: st) := by
  intro p e R s m args below meth c H locs ls Q X hR hL hE
  have hts := X.2.2.2.2.1
  have h1 : d ≤ R.frames := X.2.2.2.2.2.2.2.2.1
  have h2 : 100 * d ≤ R.locals := X.2.2.2.2.2.2.2.2.2.1
  have h3 := z_catsum (g := g) hst
  exact va_mmin X.1 X.2.1 (X.2.2.1.trans hL.1.symm) X.2.2.2.1 (hts _ hl) (hts _ hsx) (hts _ hix) (hts _ hcx) (by omega) (by omega) (Nat.le_trans hk X.2.2.2.2.2.2.2.2.2.2.1) (Nat.le_trans hn X.2.2.2.2.2.2.2.2.2.2.2.1) hdg (kk p e R s m args below meth c H locs ls Q X hR hL hE)
/-- System.arraycopy of numbers: as if all was taken ahead -/
theorem z_copy {k0 k1 n0 n1 a b m' : Nat} {sp dp len : Int32} (hl : Cond.methodLink y.cls index arraycopyName ∈ zW) (hnx : Cond.native arraycopyName ∈ zW) (hsx : Cond.static arraycopyName ∈ zW) (hix : Cond.initialized "java/lang/System" ∈ zW) (hd : 1 ≤ d) (hst : (st.map fun v => v.category).sum ≤ 8)
    (hk0 : k0 < S.1) (hs0 : S.2.1 k0 = (20, n0)) (hk1 : k1 < S.1) (hs1 : S.2.1 k1 = (20, n1)) (h1 : sp = nI a) (h2 : dp = nI b) (h3 : len = nI m') (h4 : a + m' ≤ n0) (h5 : b + m' ≤ n1) (hn0 : n0 < 1000) (hn1 : n1 < 1000) (hdg : decode cc pc = .ok (.invokestatic index, 3))
    (kk : zA g l y cc nL ret d mc ms P (pc + 3) ks ns S (z_row M k1 (va_cpy (M k0) (M k1) a b m')) lo st) : zA g l y cc nL ret d mc ms P pc ks ns S M lo (.int len :: .int dp :: .ref k1 :: .int sp :: .ref k0 :: st) := by
  subst h1; subst h2; subst h3
  intro p e R s m args below meth c H locs ls Q X hR hL hE
  have hts := X.2.2.2.2.1
  have g1 : d ≤ R.frames := X.2.2.2.2.2.2.2.2.1
  have g2 : 100 * d ≤ R.locals := X.2.2.2.2.2.2.2.2.2.1
  have g3 := z_catsum (g := g) hst
  have hK := X.2.2.2.2.2.2.2.2.2.2.2.2.1
  have hstk : (Value.int (nI m') :: .int (nI b) :: .ref k1 :: .int (nI a) :: .ref k0 :: st).map (z_v g) = .int (nI m') :: .int (nI b) :: .ref (g.1 + k1) :: .int (nI a) :: .ref (g.1 + k0) :: st.map (z_v g) := by
    show Value.int (nI m') :: .int (nI b) :: Value.ref (zad g k1) :: .int (nI a) :: Value.ref (zad g k0) :: _ = _
    rw [zad_lo g (Nat.lt_of_lt_of_le hk1 hR.2.2.1), zad_lo g (Nat.lt_of_lt_of_le hk0 hR.2.2.1)]
  rw [hstk]
  have he0 := z_at (g := g) (M := M) hk0 (zCell_n hs0 (Or.inl rfl))
  have he1 := z_at (g := g) (M := M) hk1 (zCell_n hs1 (Or.inl rfl))
  have ca : (nI a).toNatClampNeg = a := nI_clamp (by omega)
  have cb : (nI b).toNatClampNeg = b := nI_clamp (by omega)
  have cm : (nI m').toNatClampNeg = m' := nI_clamp (by omega)
  have ta : (nI a).toInt = (a : Int) := nI_toInt (by omega)
  have tb : (nI b).toInt = (b : Int) := nI_toInt (by omega)
  have tm : (nI m').toInt = (m' : Int) := nI_toInt (by omega)
  have hc0 : H[g.1 + k0]? = some (vp_cell (zcA g 20) (n0, .inl (M k0))) := hR.1 k0 _ he0
  have hc1 : H[g.1 + k1]? = some (vp_cell (zcA g 20) (n1, .inl (M k1))) := hR.1 k1 _ he1
  obtain ⟨-, q0, hq0, m0, hm0⟩ := (hK.2 0 _ rfl).1 n0 (fun j => .int (M k0 j))
  obtain ⟨-, q1, hq1, m1, hm1⟩ := (hK.2 0 _ rfl).1 n1 (fun j => .int (M k1 j))
  intro T hT XT
  obtain ⟨vm', X', step⟩ := XT.arraycopy X.1 X.2.2.2.1 (hts _ hl) (hts _ hnx) (hts _ hsx) (hts _ hix) (src := g.1 + k0) (dst := g.1 + k1) (cs := vp_cell (zcA g 20) (n0, .inl (M k0))) (cd := vp_cell (zcA g 20) (n1, .inl (M k1))) (srcPos := nI a) (destPos := nI b) (n := nI m') (by rw [hT]; exact hc0) (by rw [hT]; exact hc1)
    (fun _ h => by cases h) (fun _ h => by cases h) (fun h => by cases h) (fun h => by cases h) hq0 hq1 hm0 hm1 (by rfl) (nI_pos (by omega)) (nI_pos (by omega)) (nI_pos (by omega))
    (by rw [ta, tm]; show ¬ _ > ((arrV (zcA g 20) n0 (fun j => .int (M k0 j))).slots.size : Int); rw [arrV_size]; omega)
    (by rw [tb, tm]; show ¬ _ > ((arrV (zcA g 20) n1 (fun j => .int (M k1 j))).slots.size : Int); rw [arrV_size]; omega)
    (fun vm₁ _ i hi => by
      rw [cm] at hi
      have ee : (vp_cell (zcA g 20) (n0, .inl (M k0))).slots.getD ((nI a).toNatClampNeg + i) .null = .int (M k0 (a + i)) := by
        show (arrV (zcA g 20) n0 (fun j => .int (M k0 j))).slots.getD _ _ = _
        rw [ca, Array.getD_eq_getD_getElem?, arrV_read _ _ (by omega)]
        rfl
      exact ⟨by rw [ee]; rfl, by rw [ee]; exact trivial⟩)
    (g := F0 m pc ls (.int (nI m') :: .int (nI b) :: .ref (g.1 + k1) :: .int (nI a) :: .ref (g.1 + k0) :: st.map (z_v g))) rfl (by rw [X.2.2.1]; exact hL.1) (rest := st.map (z_v g)) rfl (by rw [X.2.1]; exact hdg) (by omega) (by
      have hnf : nativeFrameWords "java/lang/System" "arraycopy" 5 = 7 := by decide +kernel
      rw [hnf]
      show 2 * 0 + _ + _ ≤ _
      omega)
  have e1 : copied (vp_cell (zcA g 20) (n0, .inl (M k0))) (vp_cell (zcA g 20) (n1, .inl (M k1))) (nI a) (nI b) (nI m') = vp_cell (zcA g 20) (n1, .inl (va_cpy (M k0) (M k1) a b m')) := by
    have := va_copied (sp := (nI a).toNatClampNeg) (dp := (nI b).toNatClampNeg) (n := (nI m').toNatClampNeg) (fun z => Value.int z) (zcA g 20) (zcA g 20) (n0 := n0) (n1 := n1) (M k0) (M k1) (by rw [ca, cm]; exact h4)
    refine Eq.trans this ?_
    rw [ca, cb, cm]
    rfl
  rw [e1] at X' step
  have hlt : g.1 + k1 < H.size := (Array.getElem?_eq_some_iff.mp hc1).1
  have oq : ∀ q : Nat, q ≠ g.1 + k1 → (H.setIfInBounds (g.1 + k1) (vp_cell (zcA g 20) (n1, .inl (va_cpy (M k0) (M k1) a b m'))))[q]? = H[q]? := fun q hq => by simp [Array.getElem?_setIfInBounds, Ne.symm hq]
  have hP1 := hR.1.set (zWs_D g S M) he1 (e := .inl (zcA g 20, n1, .inl (va_cpy (M k0) (M k1) a b m'))) (H1 := H.setIfInBounds (g.1 + k1) (vp_cell (zcA g 20) (n1, .inl (va_cpy (M k0) (M k1) a b m')))) (show (H.setIfInBounds (g.1 + k1) _)[g.1 + k1]? = some _ by simp [Array.getElem?_setIfInBounds, hlt]) oq
  rw [z_setF hs1 (Or.inl rfl)] at hP1
  obtain ⟨t, a1, b1⟩ := kk p e R s m args below meth c _ _ ls Q X ⟨hP1, by rw [Array.size_setIfInBounds]; exact hR.2.1, hR.2.2.1, by rw [Array.size_setIfInBounds]; exact hR.2.2.2.1, fun q f1 f2 => by
      rw [oq q (fun ee => f2 (by rw [ee]; exact Nat.le_add_right _ _))]
      exact hR.2.2.2.2.1 q f1 f2, fun q hq => by
      rcases List.mem_append.mp hq with h | h
      · exact hR.2.2.2.2.2 q h
      · obtain ⟨z, -, hz⟩ := List.mem_map.mp h
        rw [← hz]
        exact Nat.le_add_right _ _⟩ hL hE _ (by rw [← hT]; rfl) X'
  exact ⟨t, step t a1, b1⟩
end ZCALLS
