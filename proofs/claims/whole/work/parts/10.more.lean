/-! ===== rows for numbers that are known by place; switches; the JDK's own small methods ===== -/
section ZMORE
variable {g : zG} {l : Launch} {y : MethodName} {cc : ByteArray} {nL : Nat} {ret : Option FieldType} {d mc ms : Nat} {P : Option Value → zS → zM → Prop} {pc ks ns : Nat} {S : zS} {M : zM} {lo st : List Value}
theorem z_iaddN {a b : Nat} {x z : Int32} (hx : x = nI a) (hz : z = nI b) (hdg : decode cc pc = .ok (.iadd, 1)) (k : zA g l y cc nL ret d mc ms P (pc + 1) ks ns S M lo (.int (nI (a + b)) :: st)) : zA g l y cc nL ret d mc ms P pc ks ns S M lo (.int z :: .int x :: st) := by
  refine z_iadd hdg ?_
  rw [hx, hz, nI_add]
  exact k
theorem z_imulN {a b : Nat} {x z : Int32} (hx : x = nI a) (hz : z = nI b) (hdg : decode cc pc = .ok (.imul, 1)) (k : zA g l y cc nL ret d mc ms P (pc + 1) ks ns S M lo (.int (nI (a * b)) :: st)) : zA g l y cc nL ret d mc ms P pc ks ns S M lo (.int z :: .int x :: st) := by
  refine z_imul hdg ?_
  rw [hx, hz, pk_mul]
  exact k
theorem z_iincN {i k : Nat} {x : Int32} {lo' : List Value} (hdg : decode cc pc = .ok (.iinc i 1, 3)) (hl : lo[i]? = some (.int x)) (hx : x = nI k) (hn : i < nL) (hp : zPv lo i = true) (hlo : lo.set i (.int (nI (k + 1))) = lo') (kk : zA g l y cc nL ret d mc ms P (pc + 3) ks ns S M lo' st) : zA g l y cc nL ret d mc ms P pc ks ns S M lo st :=
  z_iinc hdg hl (by rw [hx]; exact nI_1 k) hn hp hlo kk
theorem z_tsw {dflt lw hi : Int} {offs : Array Int} {len : Nat} {x : Int32} {n b tgt : Nat} {tg : List Nat} (hdg : decode cc pc = .ok (.tableswitch dflt lw hi offs, len)) (hl : lw = (b : Int)) (hh : hi + 1 = (b : Int) + n) (hb : b + n < 1000) (ht : ∀ k, k < n → (offs[k]?).map (fun o => (pc : Int) + o) = some ((tg.getD k 0 : Nat) : Int)) (hd : (pc : Int) + dflt = (tgt : Int))
    (kin : ∀ k, k < n → x = nI (b + k) → zA g l y cc nL ret d mc ms P (tg.getD k 0) ks ns S M lo st) (kout : (∀ k, k < n → ¬ x = nI (b + k)) → zA g l y cc nL ret d mc ms P tgt ks ns S M lo st) : zA g l y cc nL ret d mc ms P pc ks ns S M lo (.int x :: st) := by
  subst hl
  by_cases h1 : x.toInt < (b : Int)
  · refine z_tableOut hdg (Or.inl h1) hd (kout fun k hk e => ?_)
    rw [e, nI_toInt (by omega)] at h1
    omega
  · by_cases h2 : hi < x.toInt
    · refine z_tableOut hdg (Or.inr h2) hd (kout fun k hk e => ?_)
      rw [e, nI_toInt (by omega)] at h2
      omega
    · have hk : (x.toInt - (b : Int)).toNat < n := by omega
      have hx : x = nI (b + (x.toInt - (b : Int)).toNat) := by
        apply Int32.toInt_inj.mp
        rw [nI_toInt (by omega)]
        omega
      have ht1 := ht _ hk
      cases ho : offs[(x.toInt - (b : Int)).toNat]? with
      | none => rw [ho] at ht1; cases ht1
      | some off =>
        rw [ho] at ht1
        exact z_tableIn hdg h1 h2 ho (Option.some.inj ht1) (kin _ hk hx)
theorem z_lsw2 {o0 o1 od : Int} {len t0 t1 td : Nat} {x : Int32} (hdg : decode cc pc = .ok (.lookupswitch od #[(0, o0), (1, o1)], len)) (h0 : (pc : Int) + o0 = (t0 : Int)) (h1 : (pc : Int) + o1 = (t1 : Int)) (hd : (pc : Int) + od = (td : Int))
    (k0 : x = 0 → zA g l y cc nL ret d mc ms P t0 ks ns S M lo st) (k1 : x = 1 → zA g l y cc nL ret d mc ms P t1 ks ns S M lo st) (kd : ¬ x = 0 → ¬ x = 1 → zA g l y cc nL ret d mc ms P td ks ns S M lo st) : zA g l y cc nL ret d mc ms P pc ks ns S M lo (.int x :: st) := by
  by_cases e0 : x = 0
  · exact z_lookup (tgt := t0) hdg (by rfl) (by subst e0; rfl) h0 (k0 e0)
  · by_cases e1 : x = 1
    · exact z_lookup (tgt := t1) hdg (by rfl) (by subst e1; rfl) h1 (k1 e1)
    · refine z_lookup (tgt := td) hdg (by rfl) ?_ hd (kd e0 e1)
      show Op.lookupswitch.offset [(0, o0), (1, o1)] od x.toInt = od
      rw [lv_osw (k := 0) (a := 0) e0 (by decide), lv_osw (k := 1) (a := 1) e1 (by decide)]
      rfl
theorem z_ialdV {k n j : Nat} {i v : Int32} (hi : i = nI j) (hj : j < n) (hv : M k j = v) (hdg : decode cc pc = .ok (.iaload, 1)) (hk : k < S.1) (hs : S.2.1 k = (20, n)) (kk : zA g l y cc nL ret d mc ms P (pc + 1) ks ns S M lo (.int v :: st)) (hn : n ≤ 1000 := by decide) : zA g l y cc nL ret d mc ms P pc ks ns S M lo (.int i :: .ref k :: st) :=
  z_ialdN hi hj hdg hk hs (by rw [hv]; exact kk) hn
theorem z_zaldV {k n j : Nat} {i v : Int32} (hi : i = nI j) (hj : j < n) (hv : M k j = v) (hdg : decode cc pc = .ok (.baload, 1)) (hk : k < S.1) (hs : S.2.1 k = (21, n)) (kk : zA g l y cc nL ret d mc ms P (pc + 1) ks ns S M lo (.int v :: st)) (hn : n ≤ 1000 := by decide) : zA g l y cc nL ret d mc ms P pc ks ns S M lo (.int i :: .ref k :: st) :=
  z_zaldN hi hj hdg hk hs (by rw [hv]; exact kk) hn
theorem z_iastV {k n j : Nat} {i x : Int32} {M2 : zM} (hi : i = nI j) (hj : j < n) (hv : z_up M k j x = M2) (hdg : decode cc pc = .ok (.iastore, 1)) (hk : k < S.1) (hs : S.2.1 k = (20, n)) (kk : zA g l y cc nL ret d mc ms P (pc + 1) ks ns S M2 lo st) (hn : n ≤ 1000 := by decide) : zA g l y cc nL ret d mc ms P pc ks ns S M lo (.int x :: .int i :: .ref k :: st) :=
  z_iastN hi hj hdg hk hs (by rw [hv]; exact kk) hn
theorem z_zastV {k n j : Nat} {i x : Int32} {M2 : zM} (hi : i = nI j) (hj : j < n) (hv : z_up M k j x = M2) (hx : narrow .boolean (.int x) = .int x) (hdg : decode cc pc = .ok (.bastore, 1)) (hk : k < S.1) (hs : S.2.1 k = (21, n)) (kk : zA g l y cc nL ret d mc ms P (pc + 1) ks ns S M2 lo st) (hn : n ≤ 1000 := by decide) : zA g l y cc nL ret d mc ms P pc ks ns S M lo (.int x :: .int i :: .ref k :: st) :=
  z_zastN hi hj hx hdg hk hs (by rw [hv]; exact kk) hn
variable {ci N k j index : Nat} {C : String} {T : u_T} {t0 : Nat → FieldType}
theorem z_getIV {v : Int32} (K : zCls ci C T N t0) (hl : Cond.fieldLink y.cls index (T j).1 (T j).2.1 (T j).2.2.1 ∈ zW) (hj : j < N) (hir : zIr ci j = false) (hv : M k j = v) (hdg : decode cc pc = .ok (.getfield index, 3)) (hk : k < S.1) (hs : S.2.1 k = (ci, N))
    (kk : zA g l y cc nL ret d mc ms P (pc + 3) ks ns S M lo (.int v :: st)) : zA g l y cc nL ret d mc ms P pc ks ns S M lo (.ref k :: st) :=
  z_getI K hl hj hir hdg hk hs (by rw [hv]; exact kk)
theorem z_putIV {x : Int32} {ty : FieldType} {M2 : zM} (K : zCls ci C T N t0) (hl : Cond.fieldLink y.cls index (T j).1 (T j).2.1 (T j).2.2.1 ∈ zW) (hj : j < N) (hir : zIr ci j = false) (hfin : (T j).2.2.2 = false) (hd : parseFieldDescriptor (T j).2.2.1 = some ty) (hn : narrow ty (.int x) = .int x) (hfit : fits ty (.int x) = true) (hv : z_up M k j x = M2)
    (hdg : decode cc pc = .ok (.putfield index, 3)) (hk : k < S.1) (hs : S.2.1 k = (ci, N))
    (kk : zA g l y cc nL ret d mc ms P (pc + 3) ks ns S M2 lo st) : zA g l y cc nL ret d mc ms P pc ks ns S M lo (.int x :: .ref k :: st) :=
  z_putI K hl hj hir hfin hd hn hfit hdg hk hs (by rw [hv]; exact kk)
theorem z_iastE {k n j : Nat} {i x : Int32} (hi : i = nI j) (hj : j < n) (hdg : decode cc pc = .ok (.iastore, 1)) (hk : k < S.1) (hs : S.2.1 k = (20, n)) (kk : ∀ M2 : zM, M2 = z_up M k j x → zA g l y cc nL ret d mc ms P (pc + 1) ks ns S M2 lo st) (hn : n ≤ 1000 := by decide) : zA g l y cc nL ret d mc ms P pc ks ns S M lo (.int x :: .int i :: .ref k :: st) :=
  z_iastN hi hj hdg hk hs (kk _ rfl) hn
theorem z_zastE {k n j : Nat} {i x : Int32} (hi : i = nI j) (hj : j < n) (hx : narrow .boolean (.int x) = .int x) (hdg : decode cc pc = .ok (.bastore, 1)) (hk : k < S.1) (hs : S.2.1 k = (21, n)) (kk : ∀ M2 : zM, M2 = z_up M k j x → zA g l y cc nL ret d mc ms P (pc + 1) ks ns S M2 lo st) (hn : n ≤ 1000 := by decide) : zA g l y cc nL ret d mc ms P pc ks ns S M lo (.int x :: .int i :: .ref k :: st) :=
  z_zastN hi hj hx hdg hk hs (kk _ rfl) hn
theorem z_putIE {ci N k j index : Nat} {C : String} {T : u_T} {t0 : Nat → FieldType} {x : Int32} {ty : FieldType} (K : zCls ci C T N t0) (hl : Cond.fieldLink y.cls index (T j).1 (T j).2.1 (T j).2.2.1 ∈ zW) (hj : j < N) (hir : zIr ci j = false) (hfin : (T j).2.2.2 = false) (hd : parseFieldDescriptor (T j).2.2.1 = some ty) (hn : narrow ty (.int x) = .int x) (hfit : fits ty (.int x) = true)
    (hdg : decode cc pc = .ok (.putfield index, 3)) (hk : k < S.1) (hs : S.2.1 k = (ci, N))
    (kk : ∀ M2 : zM, M2 = z_up M k j x → zA g l y cc nL ret d mc ms P (pc + 3) ks ns S M2 lo st) : zA g l y cc nL ret d mc ms P pc ks ns S M lo (.int x :: .ref k :: st) :=
  z_putI K hl hj hir hfin hd hn hfit hdg hk hs (kk _ rfl)
theorem z_as {x x' : Int32} (e : x = x') (k : zA g l y cc nL ret d mc ms P pc ks ns S M lo (.int x' :: st)) : zA g l y cc nL ret d mc ms P pc ks ns S M lo (.int x :: st) := by
  rw [e]
  exact k
/-- fewer locals known: place by place -/
def zSub : List Value → List Value → Prop
  | [], _ => True
  | v :: t, lo => (v = .null ∨ lo.head? = some v) ∧ zSub t lo.tail
theorem zSub_at : ∀ (lo' lo : List Value), zSub lo' lo → ∀ (i : Nat) (v : Value), lo'[i]? = some v → v ≠ .null → lo[i]? = some v
  | [], _, _, i, v, h, _ => by simp at h
  | w :: t, lo, hs, 0, v, h, hv => by
    cases h
    rcases hs.1 with e | e
    · exact absurd e hv
    · cases lo with
      | nil => cases e
      | cons a b => exact e
  | w :: t, lo, hs, i + 1, v, h, hv => by
    have := zSub_at t lo.tail hs.2 i v h hv
    cases lo with
    | nil => simp at this
    | cons a b => exact this
theorem zA.sub {M' : zM} {lo' : List Value} (h : zA g l y cc nL ret d mc ms P pc ks ns S M' lo' st) (hM : M = M') (hs : zSub lo' lo) : zA g l y cc nL ret d mc ms P pc ks ns S M lo st := by
  subst hM
  exact h.locs (zSub_at lo' lo hs)
end ZMORE
