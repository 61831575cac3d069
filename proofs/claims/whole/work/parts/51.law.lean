/-! ===== the law: the judgement with the script at hand; its rows, made by text out of those of the judgement without ===== -/
def zXB (g : zG) (y : MethodName) (cc : ByteArray) (nL : Nat) (ret : Option FieldType) (d mc ms : Nat) (p : Program) (R : Room) (s : State) (m : MethodId) (args : Array Value) (meth : Method) (c : Code) : Prop :=
  p.tables.exec = Jvm.exec ∧ c.code = cc ∧ c.maxLocals = nL ∧ s.vm.findClass y.cls = some m.cls ∧ (∀ w ∈ zW, w.before args s = true) ∧ meth.sig.returnType = ret ∧ True ∧ meth.locks = false ∧
  d ≤ R.frames ∧ 100 * d ≤ R.locals ∧ mc ≤ R.cells ∧ ms ≤ R.slots ∧ va_K (zD g) vwCl (zTy g) s ∧ zZ g s s.heap ∧ g.1 ≤ s.heap.size
def zB (Hy : zG → State → Prop) (g : zG) (l : Launch) (y : MethodName) (cc : ByteArray) (nL : Nat) (ret : Option FieldType) (d mc ms : Nat) (P : Option Value → zS → zM → Prop) (pc ks ns : Nat) (S : zS) (M : zM) (lo st : List Value) : Prop :=
  ∀ (p : Program) (e : Env) (R : Room) (s : State) (m : MethodId) (args : Array Value) (below : List Frame) (meth : Method) (c : Code) (H : Heap) (locs : List Loc) (ls : Array Slot) (Q : State → Prop),
    Hy g s → zXB g y cc nL ret d mc ms p R s m args meth c → zR g S M s H locs → zL g nL lo ls →
    (∀ (v : Option Value) (S' : zS) (M' : zM) (H' : Heap) (locs' : List Loc) (ls' : Array Slot) (pc' : Nat), P v S' M' → zR g S' M' s H' locs' → zEnd cc ret pc' v → W p l e R s m args below meth c H' locs' mc ms Q (F0 m pc' ls' (v.toList.map (z_v g)))) →
    W p l e R s m args below meth c H locs ks ns Q (F0 m pc ls (st.map (z_v g)))
section ZB
variable {Hy : zG → State → Prop}
section ZB1
variable {Hy : zG → State → Prop}
variable {g : zG} {l : Launch} {y : MethodName} {cc : ByteArray} {nL : Nat} {ret : Option FieldType} {d mc ms : Nat} {P : Option Value → zS → zM → Prop} {pc ks ns : Nat} {S : zS} {M : zM} {lo st : List Value}
variable {y' : MethodName} {cc' : ByteArray} {nL' : Nat} {ret' : Option FieldType} {d' mc' ms' index n : Nat} {P' : Option Value → zS → zM → Prop}
theorem zb_ready {p : Program} {R : Room} {s : State} {m : MethodId} {args : Array Value} {meth : Method} {c : Code} {H : Heap} {locs : List Loc} (X : zXB g y cc nL ret d mc ms p R s m args meth c) (hR : zR g S M s H locs) {U : State} (hU : U.heap = H) (hW : s.WarmedH U.vm) : zI g S M U := by
  have hK := X.2.2.2.2.2.2.2.2.2.2.2.2.1
  have hZ := X.2.2.2.2.2.2.2.2.2.2.2.2.2.1
  subst hU
  exact ⟨hR.1, hR.2.1, hR.2.2.1, va_K.moved hW.alike hK, hZ.moved hW (fun a h1 h2 => hR.2.2.2.2.1 a h1 h2)⟩
end ZB1
section ZB1
variable {Hy : zG → State → Prop}
variable {g : zG} {l : Launch} {y : MethodName} {cc : ByteArray} {nL : Nat} {ret : Option FieldType} {d mc ms : Nat} {P : Option Value → zS → zM → Prop} {pc ks ns : Nat} {S : zS} {M : zM} {lo st : List Value}
variable {y' : MethodName} {cc' : ByteArray} {nL' : Nat} {ret' : Option FieldType} {d' mc' ms' index n : Nat} {P' : Option Value → zS → zM → Prop}
theorem zb_cb {p : Program} {R : Room} {s : State} {m : MethodId} {args : Array Value} {meth : Method} {c : Code} (X : zXB g y cc nL ret d mc ms p R s m args meth c) (hw : zCW y' cc' nL' ret' n) (hl : Cond.methodLink y.cls index y' ∈ zW) (hd : d' + 1 ≤ d) :
    CallB R s args y.cls index y' cc' nL' ret' (Cond.code y' cc' nL' ret' :: zW) (zRm d' mc' ms') mc' ms' n := by
  have hts := X.2.2.2.2.1
  have h1 : d ≤ R.frames := X.2.2.2.2.2.2.2.2.1
  have h2 : 100 * d ≤ R.locals := X.2.2.2.2.2.2.2.2.2.1
  have h3 := hw.2.2.2
  refine callB_of n hts (zW_good fun w hq => ?_) rfl rfl rfl (hts _ hw.2.1) (hts _ hl) hw.2.2.1 ⟨?_, ?_⟩
  · rcases List.mem_cons.mp hq with rfl | h
    · exact hw.1
    · exact h
  · show d' + 1 ≤ R.frames
    omega
  · show 8 + (nL' + 11) + 100 * d' ≤ R.locals
    omega
end ZB1
section ZB1
variable {Hy : zG → State → Prop}
variable {g : zG} {l : Launch} {y : MethodName} {cc : ByteArray} {nL : Nat} {ret : Option FieldType} {d mc ms : Nat} {P : Option Value → zS → zM → Prop} {pc ks ns : Nat} {S : zS} {M : zM} {lo st : List Value}
theorem zb_iconst {n : Int} {v : Int32} (hdg : decode cc pc = .ok (.iconst n, 1)) (hv : Int32.ofInt n = v) (k : zB Hy g l y cc nL ret d mc ms P (pc + 1) ks ns S M lo (.int v :: st)) : zB Hy g l y cc nL ret d mc ms P pc ks ns S M lo st :=
  fun p e R s m args below meth c H locs ls Q hYS X hR hL hE => lv_iconst X.1 X.2.1 hdg hv (k p e R s m args below meth c H locs ls Q hYS X hR hL hE)
end ZB1
section ZB1
variable {Hy : zG → State → Prop}
variable {g : zG} {l : Launch} {y : MethodName} {cc : ByteArray} {nL : Nat} {ret : Option FieldType} {d mc ms : Nat} {P : Option Value → zS → zM → Prop} {pc ks ns : Nat} {S : zS} {M : zM} {lo st : List Value}
theorem zb_bipush {n : Int} {v : Int32} (hdg : decode cc pc = .ok (.bipush n, 2)) (hv : (Int8.ofInt n).toInt32 = v) (k : zB Hy g l y cc nL ret d mc ms P (pc + 2) ks ns S M lo (.int v :: st)) : zB Hy g l y cc nL ret d mc ms P pc ks ns S M lo st :=
  fun p e R s m args below meth c H locs ls Q hYS X hR hL hE => lv_bipush X.1 X.2.1 hdg hv (k p e R s m args below meth c H locs ls Q hYS X hR hL hE)
end ZB1
section ZB1
variable {Hy : zG → State → Prop}
variable {g : zG} {l : Launch} {y : MethodName} {cc : ByteArray} {nL : Nat} {ret : Option FieldType} {d mc ms : Nat} {P : Option Value → zS → zM → Prop} {pc ks ns : Nat} {S : zS} {M : zM} {lo st : List Value}
theorem zb_iload_n {k : Fin 4} {x : Int32} (hdg : decode cc pc = .ok (.iload_n k, 1)) (hl : lo[(k : Nat)]? = some (.int x)) (kk : zB Hy g l y cc nL ret d mc ms P (pc + 1) ks ns S M lo (.int x :: st)) : zB Hy g l y cc nL ret d mc ms P pc ks ns S M lo st :=
  fun p e R s m args below meth c H locs ls Q hYS X hR hL hE => lv_iload_n X.1 X.2.1 hdg rfl (hL.at hl (by simp)) (kk p e R s m args below meth c H locs ls Q hYS X hR hL hE)
end ZB1
section ZB1
variable {Hy : zG → State → Prop}
variable {g : zG} {l : Launch} {y : MethodName} {cc : ByteArray} {nL : Nat} {ret : Option FieldType} {d mc ms : Nat} {P : Option Value → zS → zM → Prop} {pc ks ns : Nat} {S : zS} {M : zM} {lo st : List Value}
theorem zb_aload_n {k : Fin 4} {x : Nat} (hdg : decode cc pc = .ok (.aload_n k, 1)) (hl : lo[(k : Nat)]? = some (.ref x)) (kk : zB Hy g l y cc nL ret d mc ms P (pc + 1) ks ns S M lo (.ref x :: st)) : zB Hy g l y cc nL ret d mc ms P pc ks ns S M lo st :=
  fun p e R s m args below meth c H locs ls Q hYS X hR hL hE => lv_aload_n X.1 X.2.1 hdg rfl (hL.at hl (by simp)) (kk p e R s m args below meth c H locs ls Q hYS X hR hL hE)
end ZB1
section ZB1
variable {Hy : zG → State → Prop}
variable {g : zG} {l : Launch} {y : MethodName} {cc : ByteArray} {nL : Nat} {ret : Option FieldType} {d mc ms : Nat} {P : Option Value → zS → zM → Prop} {pc ks ns : Nat} {S : zS} {M : zM} {lo st : List Value}
theorem zb_istore_n {k : Fin 4} {x : Int32} {lo' : List Value} (hdg : decode cc pc = .ok (.istore_n k, 1)) (hn : (k : Nat) < nL) (hp : zPv lo k = true) (hlo : lo.set k (.int x) = lo') (kk : zB Hy g l y cc nL ret d mc ms P (pc + 1) ks ns S M lo' st) : zB Hy g l y cc nL ret d mc ms P pc ks ns S M lo (.int x :: st) :=
  fun p e R s m args below meth c H locs ls Q hYS X hR hL hE => lv_istore_n X.1 X.2.1 hdg rfl hL.has hn rfl (fun ls' h' => kk p e R s m args below meth c H locs ls' Q hYS X hR (hlo ▸ zL_set1 (fun _ h => h) hp h') hE)
end ZB1
section ZB1
variable {Hy : zG → State → Prop}
variable {g : zG} {l : Launch} {y : MethodName} {cc : ByteArray} {nL : Nat} {ret : Option FieldType} {d mc ms : Nat} {P : Option Value → zS → zM → Prop} {pc ks ns : Nat} {S : zS} {M : zM} {lo st : List Value}
theorem zb_astore_n {k : Fin 4} {x : Nat} {lo' : List Value} (hdg : decode cc pc = .ok (.astore_n k, 1)) (hn : (k : Nat) < nL) (hp : zPv lo k = true) (hlo : lo.set k (.ref x) = lo') (kk : zB Hy g l y cc nL ret d mc ms P (pc + 1) ks ns S M lo' st) : zB Hy g l y cc nL ret d mc ms P pc ks ns S M lo (.ref x :: st) :=
  fun p e R s m args below meth c H locs ls Q hYS X hR hL hE => lv_astore_n X.1 X.2.1 hdg rfl hL.has hn rfl (fun ls' h' => kk p e R s m args below meth c H locs ls' Q hYS X hR (hlo ▸ zL_set1 (v := .ref x) (fun _ h => h) hp h') hE)
end ZB1
section ZB1
variable {Hy : zG → State → Prop}
variable {g : zG} {l : Launch} {y : MethodName} {cc : ByteArray} {nL : Nat} {ret : Option FieldType} {d mc ms : Nat} {P : Option Value → zS → zM → Prop} {pc ks ns : Nat} {S : zS} {M : zM} {lo st : List Value}
theorem zb_iinc {i : Nat} {n : Int} {x v : Int32} {lo' : List Value} (hdg : decode cc pc = .ok (.iinc i n, 3)) (hl : lo[i]? = some (.int x)) (hv : x + Int32.ofInt n = v) (hn : i < nL) (hp : zPv lo i = true) (hlo : lo.set i (.int v) = lo') (kk : zB Hy g l y cc nL ret d mc ms P (pc + 3) ks ns S M lo' st) : zB Hy g l y cc nL ret d mc ms P pc ks ns S M lo st :=
  fun p e R s m args below meth c H locs ls Q hYS X hR hL hE => lv_iinc X.1 X.2.1 (k := 0) (x := x) hdg (hL.hasC hl (by simp)) rfl hv hn rfl (fun ls' h' => kk p e R s m args below meth c H locs ls' Q hYS X hR (hlo ▸ zL_set1 (fun _ h => List.mem_cons_of_mem _ h) hp h') hE)
end ZB1
section ZB1
variable {Hy : zG → State → Prop}
variable {g : zG} {l : Launch} {y : MethodName} {cc : ByteArray} {nL : Nat} {ret : Option FieldType} {d mc ms : Nat} {P : Option Value → zS → zM → Prop} {pc ks ns : Nat} {S : zS} {M : zM} {lo st : List Value}
theorem zb_iadd {x z : Int32} (hdg : decode cc pc = .ok (.iadd, 1))  (k : zB Hy g l y cc nL ret d mc ms P (pc + 1) ks ns S M lo (.int (x + z) :: st)) : zB Hy g l y cc nL ret d mc ms P pc ks ns S M lo (.int z :: .int x :: st) :=
  fun p e R s m args below meth c H locs ls Q hYS X hR hL hE => lv_iadd X.1 X.2.1 hdg  (k p e R s m args below meth c H locs ls Q hYS X hR hL hE)
end ZB1
section ZB1
variable {Hy : zG → State → Prop}
variable {g : zG} {l : Launch} {y : MethodName} {cc : ByteArray} {nL : Nat} {ret : Option FieldType} {d mc ms : Nat} {P : Option Value → zS → zM → Prop} {pc ks ns : Nat} {S : zS} {M : zM} {lo st : List Value}
theorem zb_isub {x z : Int32} (hdg : decode cc pc = .ok (.isub, 1))  (k : zB Hy g l y cc nL ret d mc ms P (pc + 1) ks ns S M lo (.int (x - z) :: st)) : zB Hy g l y cc nL ret d mc ms P pc ks ns S M lo (.int z :: .int x :: st) :=
  fun p e R s m args below meth c H locs ls Q hYS X hR hL hE => lv_isub X.1 X.2.1 hdg  (k p e R s m args below meth c H locs ls Q hYS X hR hL hE)
end ZB1
section ZB1
variable {Hy : zG → State → Prop}
variable {g : zG} {l : Launch} {y : MethodName} {cc : ByteArray} {nL : Nat} {ret : Option FieldType} {d mc ms : Nat} {P : Option Value → zS → zM → Prop} {pc ks ns : Nat} {S : zS} {M : zM} {lo st : List Value}
theorem zb_iand {x z : Int32} (hdg : decode cc pc = .ok (.iand, 1))  (k : zB Hy g l y cc nL ret d mc ms P (pc + 1) ks ns S M lo (.int (x &&& z) :: st)) : zB Hy g l y cc nL ret d mc ms P pc ks ns S M lo (.int z :: .int x :: st) :=
  fun p e R s m args below meth c H locs ls Q hYS X hR hL hE => lv_iand X.1 X.2.1 hdg  (k p e R s m args below meth c H locs ls Q hYS X hR hL hE)
end ZB1
section ZB1
variable {Hy : zG → State → Prop}
variable {g : zG} {l : Launch} {y : MethodName} {cc : ByteArray} {nL : Nat} {ret : Option FieldType} {d mc ms : Nat} {P : Option Value → zS → zM → Prop} {pc ks ns : Nat} {S : zS} {M : zM} {lo st : List Value}
theorem zb_dup {v : Value} (hdg : decode cc pc = .ok (.dup, 1)) (hv : v.category = 1) (k : zB Hy g l y cc nL ret d mc ms P (pc + 1) ks ns S M lo (v :: v :: st)) : zB Hy g l y cc nL ret d mc ms P pc ks ns S M lo (v :: st) :=
  fun p e R s m args below meth c H locs ls Q hYS X hR hL hE => lv_dup X.1 X.2.1 hdg ((z_v_cat g v).trans hv) (k p e R s m args below meth c H locs ls Q hYS X hR hL hE)
end ZB1
section ZB1
variable {Hy : zG → State → Prop}
variable {g : zG} {l : Launch} {y : MethodName} {cc : ByteArray} {nL : Nat} {ret : Option FieldType} {d mc ms : Nat} {P : Option Value → zS → zM → Prop} {pc ks ns : Nat} {S : zS} {M : zM} {lo st : List Value}
theorem zb_icmp_eq {x z : Int32} {off : Int} {tgt : Nat} (hdg : decode cc pc = .ok (.if_icmp .eq off, 3)) (ht : (pc : Int) + off = (tgt : Int)) (kt : x = z → zB Hy g l y cc nL ret d mc ms P tgt ks ns S M lo st) (kf : ¬ x = z → zB Hy g l y cc nL ret d mc ms P (pc + 3) ks ns S M lo st) : zB Hy g l y cc nL ret d mc ms P pc ks ns S M lo (.int z :: .int x :: st) :=
  fun p e R s m args below meth c H locs ls Q hYS X hR hL hE => lv_icmp_eq X.1 X.2.1 hdg ht (fun q => kt q p e R s m args below meth c H locs ls Q hYS X hR hL hE) (fun q => kf q p e R s m args below meth c H locs ls Q hYS X hR hL hE)
end ZB1
section ZB1
variable {Hy : zG → State → Prop}
variable {g : zG} {l : Launch} {y : MethodName} {cc : ByteArray} {nL : Nat} {ret : Option FieldType} {d mc ms : Nat} {P : Option Value → zS → zM → Prop} {pc ks ns : Nat} {S : zS} {M : zM} {lo st : List Value}
theorem zb_icmp_gt {x z : Int32} {off : Int} {tgt : Nat} (hdg : decode cc pc = .ok (.if_icmp .gt off, 3)) (ht : (pc : Int) + off = (tgt : Int)) (kt : z < x → zB Hy g l y cc nL ret d mc ms P tgt ks ns S M lo st) (kf : ¬ z < x → zB Hy g l y cc nL ret d mc ms P (pc + 3) ks ns S M lo st) : zB Hy g l y cc nL ret d mc ms P pc ks ns S M lo (.int z :: .int x :: st) :=
  fun p e R s m args below meth c H locs ls Q hYS X hR hL hE => lv_icmp_gt X.1 X.2.1 hdg ht (fun q => kt q p e R s m args below meth c H locs ls Q hYS X hR hL hE) (fun q => kf q p e R s m args below meth c H locs ls Q hYS X hR hL hE)
end ZB1
section ZB1
variable {Hy : zG → State → Prop}
variable {g : zG} {l : Launch} {y : MethodName} {cc : ByteArray} {nL : Nat} {ret : Option FieldType} {d mc ms : Nat} {P : Option Value → zS → zM → Prop} {pc ks ns : Nat} {S : zS} {M : zM} {lo st : List Value}
theorem zb_goto {off : Int} {tgt : Nat} (hdg : decode cc pc = .ok (.goto off, 3)) (ht : (pc : Int) + off = (tgt : Int)) (k : zB Hy g l y cc nL ret d mc ms P tgt ks ns S M lo st) : zB Hy g l y cc nL ret d mc ms P pc ks ns S M lo st :=
  fun p e R s m args below meth c H locs ls Q hYS X hR hL hE => lv_goto X.1 X.2.1 hdg ht (k p e R s m args below meth c H locs ls Q hYS X hR hL hE)
end ZB1
section ZB1
variable {Hy : zG → State → Prop}
variable {g : zG} {l : Launch} {y : MethodName} {cc : ByteArray} {nL : Nat} {ret : Option FieldType} {d mc ms : Nat} {P : Option Value → zS → zM → Prop} {pc ks ns : Nat} {S : zS} {M : zM} {lo st : List Value}
theorem zb_tableIn {dflt lw hi : Int} {offs : Array Int} {len : Nat} {x : Int32} {off : Int} {tgt : Nat} (hdg : decode cc pc = .ok (.tableswitch dflt lw hi offs, len)) (h1 : ¬ x.toInt < lw) (h2 : ¬ hi < x.toInt) (ho : offs[(x.toInt - lw).toNat]? = some off) (ht : (pc : Int) + off = (tgt : Int)) (k : zB Hy g l y cc nL ret d mc ms P tgt ks ns S M lo st) : zB Hy g l y cc nL ret d mc ms P pc ks ns S M lo (.int x :: st) :=
  fun p e R s m args below meth c H locs ls Q hYS X hR hL hE => lv_tableIn X.1 X.2.1 hdg h1 h2 ho ht (k p e R s m args below meth c H locs ls Q hYS X hR hL hE)
end ZB1
section ZB1
variable {Hy : zG → State → Prop}
variable {g : zG} {l : Launch} {y : MethodName} {cc : ByteArray} {nL : Nat} {ret : Option FieldType} {d mc ms : Nat} {P : Option Value → zS → zM → Prop} {pc ks ns : Nat} {S : zS} {M : zM} {lo st : List Value}
theorem zb_tableOut {dflt lw hi : Int} {offs : Array Int} {len : Nat} {x : Int32} {tgt : Nat} (hdg : decode cc pc = .ok (.tableswitch dflt lw hi offs, len)) (h : x.toInt < lw ∨ hi < x.toInt) (ht : (pc : Int) + dflt = (tgt : Int)) (k : zB Hy g l y cc nL ret d mc ms P tgt ks ns S M lo st) : zB Hy g l y cc nL ret d mc ms P pc ks ns S M lo (.int x :: st) :=
  fun p e R s m args below meth c H locs ls Q hYS X hR hL hE => lv_tableOut X.1 X.2.1 hdg h ht (k p e R s m args below meth c H locs ls Q hYS X hR hL hE)
end ZB1
section ZB1
variable {Hy : zG → State → Prop}
variable {g : zG} {l : Launch} {y : MethodName} {cc : ByteArray} {nL : Nat} {ret : Option FieldType} {d mc ms : Nat} {P : Option Value → zS → zM → Prop} {pc ks ns : Nat} {S : zS} {M : zM} {lo st : List Value}
theorem zb_ireturn {ty : FieldType} {x : Int32} (hdg : decode cc pc = .ok (.ireturn, 1)) (hr : ret = some ty) (hn : narrow ty (.int x) = .int x) (hk : ks ≤ mc) (hs : ns ≤ ms) (h : P (some (.int x)) S M) : zB Hy g l y cc nL ret d mc ms P pc ks ns S M lo [.int x] :=
  fun p e R s m args below meth c H locs ls Q hYS X hR hL hE => W.widen hk hs (hE (some (.int x)) S M H locs ls pc h hR (Or.inr (Or.inl ⟨ty, x, hr, rfl, hn, hdg⟩)))
end ZB1
section ZB1
variable {Hy : zG → State → Prop}
variable {g : zG} {l : Launch} {y : MethodName} {cc : ByteArray} {nL : Nat} {ret : Option FieldType} {d mc ms : Nat} {P : Option Value → zS → zM → Prop} {pc ks ns : Nat} {S : zS} {M : zM} {lo st : List Value}
variable {ci N k j index : Nat} {C : String} {T : u_T} {t0 : Nat → FieldType}
theorem zb_new (K : zCls ci C T N t0) (hcl : Cond.classLink y.cls index C ∈ zW) (hinst : Cond.instantiable C N ∈ zW) (hini : Cond.initialized C ∈ zW) (hdef : ∀ j, j < N → defaultValue (t0 j) = (if zIr ci j = true then .null else .int 0)) (hS : S.1 < 1000) (hmc : ks + 1 ≤ mc) (hms : ns + N ≤ ms)
    (hdg : decode cc pc = .ok (.new index, 3)) (kk : zB Hy g l y cc nL ret d mc ms P (pc + 3) (ks + 1) (ns + N) (zSn S (ci, N)) (zMn S.1 M) lo (.ref S.1 :: st)) : zB Hy g l y cc nL ret d mc ms P pc ks ns S M lo st := by
  intro p e R s m args below meth c H locs ls Q hYS X hR hL hE
  have hK := X.2.2.2.2.2.2.2.2.2.2.2.2.1
  have hts := X.2.2.2.2.1
  have hKn := hK.1 ci _ K.1
  refine W.newcK X.1 X.2.1 X.2.2.2.1 (hts _ hcl) (hts _ hinst) (hts _ hini) rfl hdg (Nat.le_trans hmc X.2.2.2.2.2.2.2.2.2.2.1) (Nat.le_trans hms X.2.2.2.2.2.2.2.2.2.2.2.1) hKn.2.1 hR.2.1 fun H1 kC hkC e1 z1 o1 => ?_
  have hk : ∀ (k : Nat) (x : Nat × va_E), (zWs g S M)[k]? = some x → H1[x.1]? = H[x.1]? := fun k x hx => o1 x.1 (by have := (hR.1 k x hx).lt; rw [hR.2.1] at this; exact this)
  have hP1 : va_P (zD g) vwCl (zWs g S M ++ [(g.1 + S.1, .inr (ci, (List.range N).map (fun j => if zIr ci j = true then .null else .int 0)))]) H1 := (hR.1.kept hk).app (fun k x hx => by
    have hz : k < 1 := (List.getElem?_eq_some_iff.mp hx).1
    rw [show k = 0 by omega] at hx
    cases hx
    refine ⟨_, K.1, (u_born t0 hts K.2.1 hKn hkC e1 K.2.2.1).to fun j hj => ?_⟩
    rw [hdef j hj]
    simp [vp_V, List.getD_eq_getElem?_getD, List.getElem?_map, List.getElem?_range hj])
  rw [z_pushO K.lt] at hP1
  have hE' := kk p e R s m args below meth c H1 locs ls Q hYS X ⟨hP1, z1.trans (by show g.1 + S.1 + 1 = g.1 + (S.1 + 1); omega), (by show S.1 + 1 ≤ 1000; omega), ⟨Nat.le_trans hR.2.2.2.1 (by rw [z1, hR.2.1]; omega), fun x h1 h2 => (o1 x (by have := hR.2.2.2.1; rw [hR.2.1] at this; omega)).trans (hR.2.2.2.2.1 x h1 h2), hR.2.2.2.2.2⟩⟩ hL hE
  rw [z_stk hS] at hE'
  exact hE'
end ZB1
section ZB1
variable {Hy : zG → State → Prop}
variable {g : zG} {l : Launch} {y : MethodName} {cc : ByteArray} {nL : Nat} {ret : Option FieldType} {d mc ms : Nat} {P : Option Value → zS → zM → Prop} {pc ks ns : Nat} {S : zS} {M : zM} {lo st : List Value}
variable {y' : MethodName} {cc' : ByteArray} {nL' : Nat} {ret' : Option FieldType} {d' mc' ms' index n : Nat} {P' : Option Value → zS → zM → Prop}
theorem zb_callV {b ci N : Nat} {T : u_T} {t0 : Nat → FieldType} (As : List Value) (hM : zMet g l y' cc' nL' ret' d' mc' ms' (.ref b :: As) S M P') (hw : zCW y' cc' nL' ret' As.length) (hl : Cond.methodLink y.cls index y' ∈ zW) (hin : Cond.instanceMethod y' ∈ zW) (hse : Cond.selects y'.cls y' y' ∈ zW) (K : zCls ci y'.cls T N t0)
    (hd : d' + 1 ≤ d) (hst : (st.map fun v => v.category).sum ≤ 8) (hk : b < S.1) (hs : S.2.1 b = (ci, N)) (hmc : ks + mc' ≤ mc) (hms : ns + ms' ≤ ms) (hdg : decode cc pc = .ok (.invokevirtual index, 3))
    (kk : ∀ (v : Option Value) (S' : zS) (M' : zM), P' v S' M' → zB Hy g l y cc nL ret d mc ms P (pc + 3) (ks + mc') (ns + ms') S' M' lo (v.toList ++ st)) {st2 : List Value} (he : As.reverse ++ .ref b :: st = st2) :
    zB Hy g l y cc nL ret d mc ms P pc ks ns S M lo st2 := by
  subst he
  intro p e R s m args below meth c H locs ls Q hYS X hR hL hE
  have hb2 : b < 1000 := Nat.lt_of_lt_of_le hk hR.2.2.1
  have hts := X.2.2.2.2.1
  refine z_after hR (va_runV (C := y'.cls) (As := As.map (z_v g)) (b := zad g b) (rest := st.map (z_v g)) ⟨X.1, X.2.1, X.2.2.1, X.2.2.2.1, hts⟩ hM ⟨zb_cb X hw hl hd, hts _ hin, hts _ hse⟩ ⟨z_blind, ?_, fun U hU hW => ⟨rfl, zb_ready X hR hU hW⟩⟩ rfl (by simp) hL.1 (by simp [z_v]) (z_room hst) hdg ⟨Nat.le_trans hmc X.2.2.2.2.2.2.2.2.2.2.1, Nat.le_trans hms X.2.2.2.2.2.2.2.2.2.2.2.1⟩) fun v S' M' H1 locs1 hp hR1 => ?_
  · rw [zad_lo g hb2]
    exact va_recv X.2.2.2.2.2.2.2.2.2.2.2.2.1 hR.1 K.1 (z_at hk (zCell_o hs K.lt))
  · have := kk v S' M' hp p e R s m args below meth c H1 locs1 ls Q hYS X hR1 hL hE
    rw [List.map_append] at this
    exact this
end ZB1
section ZB1
variable {Hy : zG → State → Prop}
variable {g : zG} {l : Launch} {y : MethodName} {cc : ByteArray} {nL : Nat} {ret : Option FieldType} {d mc ms : Nat} {P : Option Value → zS → zM → Prop} {pc ks ns : Nat} {S : zS} {M : zM} {lo st : List Value}
variable {y' : MethodName} {cc' : ByteArray} {nL' : Nat} {ret' : Option FieldType} {d' mc' ms' index n : Nat} {P' : Option Value → zS → zM → Prop}
theorem zb_callI {b : Nat} (As : List Value) (hM : zMet g l y' cc' nL' none d' mc' ms' (.ref b :: As) S M P') (hw : zCW y' cc' nL' none As.length) (hl : Cond.methodLink y.cls index y' ∈ zW) (hin : Cond.instanceMethod y' ∈ zW) (hy1 : y'.name = "<init>")
    (hd : d' + 1 ≤ d) (hst : (st.map fun v => v.category).sum ≤ 8) (hmc : ks + mc' ≤ mc) (hms : ns + ms' ≤ ms) (hdg : decode cc pc = .ok (.invokespecial index, 3))
    (kk : ∀ (v : Option Value) (S' : zS) (M' : zM), P' v S' M' → zB Hy g l y cc nL ret d mc ms P (pc + 3) (ks + mc') (ns + ms') S' M' lo (v.toList ++ st)) {st2 : List Value} (he : As.reverse ++ .ref b :: st = st2) :
    zB Hy g l y cc nL ret d mc ms P pc ks ns S M lo st2 := by
  subst he
  intro p e R s m args below meth c H locs ls Q hYS X hR hL hE
  have hts := X.2.2.2.2.1
  refine z_after hR (va_runI (As := As.map (z_v g)) (b := zad g b) (rest := st.map (z_v g)) ⟨X.1, X.2.1, X.2.2.1, X.2.2.2.1, hts⟩ hM ⟨zb_cb X hw hl hd, hy1, hts _ hin⟩ ⟨z_blind, fun U hU hW => ⟨rfl, zb_ready X hR hU hW⟩⟩ rfl (by simp) hL.1 (by simp [z_v]) (z_room hst) hdg ⟨Nat.le_trans hmc X.2.2.2.2.2.2.2.2.2.2.1, Nat.le_trans hms X.2.2.2.2.2.2.2.2.2.2.2.1⟩) fun v S' M' H1 locs1 hp hR1 => ?_
  have := kk v S' M' hp p e R s m args below meth c H1 locs1 ls Q hYS X hR1 hL hE
  rw [List.map_append] at this
  exact this
end ZB1
section ZB1
variable {Hy : zG → State → Prop}
variable {g : zG} {l : Launch} {y : MethodName} {cc : ByteArray} {nL : Nat} {ret : Option FieldType} {d mc ms : Nat} {P : Option Value → zS → zM → Prop} {pc ks ns : Nat} {S : zS} {M : zM} {lo st : List Value}
theorem zb_iaddN {a b : Nat} {x z : Int32} (hx : x = nI a) (hz : z = nI b) (hdg : decode cc pc = .ok (.iadd, 1)) (k : zB Hy g l y cc nL ret d mc ms P (pc + 1) ks ns S M lo (.int (nI (a + b)) :: st)) : zB Hy g l y cc nL ret d mc ms P pc ks ns S M lo (.int z :: .int x :: st) := by
  refine zb_iadd hdg ?_
  rw [hx, hz, nI_add]
  exact k
end ZB1
section ZB1
variable {Hy : zG → State → Prop}
variable {g : zG} {l : Launch} {y : MethodName} {cc : ByteArray} {nL : Nat} {ret : Option FieldType} {d mc ms : Nat} {P : Option Value → zS → zM → Prop} {pc ks ns : Nat} {S : zS} {M : zM} {lo st : List Value}
theorem zb_tsw {dflt lw hi : Int} {offs : Array Int} {len : Nat} {x : Int32} {n b tgt : Nat} {tg : List Nat} (hdg : decode cc pc = .ok (.tableswitch dflt lw hi offs, len)) (hl : lw = (b : Int)) (hh : hi + 1 = (b : Int) + n) (hb : b + n < 1000) (ht : ∀ k, k < n → (offs[k]?).map (fun o => (pc : Int) + o) = some ((tg.getD k 0 : Nat) : Int)) (hd : (pc : Int) + dflt = (tgt : Int))
    (kin : ∀ k, k < n → x = nI (b + k) → zB Hy g l y cc nL ret d mc ms P (tg.getD k 0) ks ns S M lo st) (kout : (∀ k, k < n → ¬ x = nI (b + k)) → zB Hy g l y cc nL ret d mc ms P tgt ks ns S M lo st) : zB Hy g l y cc nL ret d mc ms P pc ks ns S M lo (.int x :: st) := by
  subst hl
  by_cases h1 : x.toInt < (b : Int)
  · refine zb_tableOut hdg (Or.inl h1) hd (kout fun k hk e => ?_)
    rw [e, nI_toInt (by omega)] at h1
    omega
  · by_cases h2 : hi < x.toInt
    · refine zb_tableOut hdg (Or.inr h2) hd (kout fun k hk e => ?_)
      rw [e, nI_toInt (by omega)] at h2
      omega
    · have hk : (x.toInt - (b : Int)).toNat < n := by omega
      have hx : x = nI (b + (x.toInt - (b : Int)).toNat) := by
        apply Int32.toInt_inj.mp
        rw [nI_toInt (by omega)]
        omega
      have ht1 := ht _ hk
      cases ho : offs[(x.toInt - (b : Int)).toNat]? with
      | none => rw [ho] at ht1; cases ht1
      | some off =>
        rw [ho] at ht1
        exact zb_tableIn hdg h1 h2 ho (Option.some.inj ht1) (kin _ hk hx)
end ZB1
section ZB1
variable {Hy : zG → State → Prop}
variable {g : zG} {l : Launch} {y : MethodName} {cc : ByteArray} {nL : Nat} {ret : Option FieldType} {d mc ms : Nat} {P : Option Value → zS → zM → Prop} {pc ks ns : Nat} {S : zS} {M : zM} {lo st : List Value}
variable {y' : MethodName} {cc' : ByteArray} {nL' : Nat} {ret' : Option FieldType} {d' index : Nat} {ci N b : Nat} {T : u_T} {t0 : Nat → FieldType}
theorem zb_iV0 {Q : Int32 → zM → Prop} (hM : zMet g l y' cc' nL' ret' d' 0 0 [.ref b] S0 M (zQi Q)) (hw : zCW y' cc' nL' ret' 0) (hl : Cond.methodLink y.cls index y' ∈ zW) (hin : Cond.instanceMethod y' ∈ zW) (hse : Cond.selects y'.cls y' y' ∈ zW) (K : zCls ci y'.cls T N t0) (hd : d' + 1 ≤ d) (hst : (st.map fun v => v.category).sum ≤ 8) (hm : ks ≤ mc ∧ ns ≤ ms) (hk : b < S0.1) (hs : S0.2.1 b = (ci, N)) (hdg : decode cc pc = .ok (.invokevirtual index, 3)) (kk : ∀ (r : Int32) (M' : zM), Q r M' → zB Hy g l y cc nL ret d mc ms P (pc + 3) ks ns S0 M' lo (.int r :: st)) : zB Hy g l y cc nL ret d mc ms P pc ks ns S0 M lo (.ref b :: st) :=
  zb_callV [] hM hw hl hin hse K hd hst hk hs hm.1 hm.2 hdg (fun v S' M' q => by
  obtain ⟨rfl, r, rfl, h⟩ := q
  exact kk r M' h) rfl
end ZB1
section ZB1
variable {Hy : zG → State → Prop}
variable {g : zG} {l : Launch} {y : MethodName} {cc : ByteArray} {nL : Nat} {ret : Option FieldType} {d mc ms : Nat} {P : Option Value → zS → zM → Prop} {pc ks ns : Nat} {S : zS} {M : zM} {lo st : List Value}
variable {y' : MethodName} {cc' : ByteArray} {nL' : Nat} {ret' : Option FieldType} {d' index : Nat} {ci N b : Nat} {T : u_T} {t0 : Nat → FieldType}
theorem zb_iV1 {v0 : Value} {Q : Int32 → zM → Prop} (hM : zMet g l y' cc' nL' ret' d' 0 0 [.ref b, v0] S0 M (zQi Q)) (hw : zCW y' cc' nL' ret' 1) (hl : Cond.methodLink y.cls index y' ∈ zW) (hin : Cond.instanceMethod y' ∈ zW) (hse : Cond.selects y'.cls y' y' ∈ zW) (K : zCls ci y'.cls T N t0) (hd : d' + 1 ≤ d) (hst : (st.map fun v => v.category).sum ≤ 8) (hm : ks ≤ mc ∧ ns ≤ ms) (hk : b < S0.1) (hs : S0.2.1 b = (ci, N)) (hdg : decode cc pc = .ok (.invokevirtual index, 3)) (kk : ∀ (r : Int32) (M' : zM), Q r M' → zB Hy g l y cc nL ret d mc ms P (pc + 3) ks ns S0 M' lo (.int r :: st)) : zB Hy g l y cc nL ret d mc ms P pc ks ns S0 M lo (v0 :: .ref b :: st) :=
  zb_callV [v0] hM hw hl hin hse K hd hst hk hs hm.1 hm.2 hdg (fun v S' M' q => by
  obtain ⟨rfl, r, rfl, h⟩ := q
  exact kk r M' h) rfl
end ZB1
section ZB1
variable {Hy : zG → State → Prop}
variable {g : zG} {l : Launch} {y : MethodName} {cc : ByteArray} {nL : Nat} {ret : Option FieldType} {d mc ms : Nat} {P : Option Value → zS → zM → Prop} {pc ks ns : Nat} {S : zS} {M : zM} {lo st : List Value}
variable {y' : MethodName} {cc' : ByteArray} {nL' : Nat} {ret' : Option FieldType} {d' index : Nat} {ci N b : Nat} {T : u_T} {t0 : Nat → FieldType}
theorem zb_iV2 {v0 v1 : Value} {Q : Int32 → zM → Prop} (hM : zMet g l y' cc' nL' ret' d' 0 0 [.ref b, v0, v1] S0 M (zQi Q)) (hw : zCW y' cc' nL' ret' 2) (hl : Cond.methodLink y.cls index y' ∈ zW) (hin : Cond.instanceMethod y' ∈ zW) (hse : Cond.selects y'.cls y' y' ∈ zW) (K : zCls ci y'.cls T N t0) (hd : d' + 1 ≤ d) (hst : (st.map fun v => v.category).sum ≤ 8) (hm : ks ≤ mc ∧ ns ≤ ms) (hk : b < S0.1) (hs : S0.2.1 b = (ci, N)) (hdg : decode cc pc = .ok (.invokevirtual index, 3)) (kk : ∀ (r : Int32) (M' : zM), Q r M' → zB Hy g l y cc nL ret d mc ms P (pc + 3) ks ns S0 M' lo (.int r :: st)) : zB Hy g l y cc nL ret d mc ms P pc ks ns S0 M lo (v1 :: v0 :: .ref b :: st) :=
  zb_callV [v0, v1] hM hw hl hin hse K hd hst hk hs hm.1 hm.2 hdg (fun v S' M' q => by
  obtain ⟨rfl, r, rfl, h⟩ := q
  exact kk r M' h) rfl
end ZB1
section ZB1
variable {Hy : zG → State → Prop}
variable {g : zG} {l : Launch} {y : MethodName} {cc : ByteArray} {nL : Nat} {ret : Option FieldType} {d mc ms : Nat} {P : Option Value → zS → zM → Prop} {pc ks ns : Nat} {S : zS} {M : zM} {lo st : List Value}
variable {y' : MethodName} {cc' : ByteArray} {nL' : Nat} {ret' : Option FieldType} {d' index : Nat} {ci N b : Nat} {T : u_T} {t0 : Nat → FieldType}
theorem zb_iV3 {v0 v1 v2 : Value} {Q : Int32 → zM → Prop} (hM : zMet g l y' cc' nL' ret' d' 0 0 [.ref b, v0, v1, v2] S0 M (zQi Q)) (hw : zCW y' cc' nL' ret' 3) (hl : Cond.methodLink y.cls index y' ∈ zW) (hin : Cond.instanceMethod y' ∈ zW) (hse : Cond.selects y'.cls y' y' ∈ zW) (K : zCls ci y'.cls T N t0) (hd : d' + 1 ≤ d) (hst : (st.map fun v => v.category).sum ≤ 8) (hm : ks ≤ mc ∧ ns ≤ ms) (hk : b < S0.1) (hs : S0.2.1 b = (ci, N)) (hdg : decode cc pc = .ok (.invokevirtual index, 3)) (kk : ∀ (r : Int32) (M' : zM), Q r M' → zB Hy g l y cc nL ret d mc ms P (pc + 3) ks ns S0 M' lo (.int r :: st)) : zB Hy g l y cc nL ret d mc ms P pc ks ns S0 M lo (v2 :: v1 :: v0 :: .ref b :: st) :=
  zb_callV [v0, v1, v2] hM hw hl hin hse K hd hst hk hs hm.1 hm.2 hdg (fun v S' M' q => by
  obtain ⟨rfl, r, rfl, h⟩ := q
  exact kk r M' h) rfl
end ZB1
section ZB1
variable {Hy : zG → State → Prop}
variable {g : zG} {l : Launch} {y : MethodName} {cc : ByteArray} {nL : Nat} {ret : Option FieldType} {d mc ms : Nat} {P : Option Value → zS → zM → Prop} {pc ks ns : Nat} {S : zS} {M : zM} {lo st : List Value}
variable {y' : MethodName} {cc' : ByteArray} {nL' : Nat} {ret' : Option FieldType} {d' index : Nat} {ci N b : Nat} {T : u_T} {t0 : Nat → FieldType}
theorem zb_iV4 {v0 v1 v2 v3 : Value} {Q : Int32 → zM → Prop} (hM : zMet g l y' cc' nL' ret' d' 0 0 [.ref b, v0, v1, v2, v3] S0 M (zQi Q)) (hw : zCW y' cc' nL' ret' 4) (hl : Cond.methodLink y.cls index y' ∈ zW) (hin : Cond.instanceMethod y' ∈ zW) (hse : Cond.selects y'.cls y' y' ∈ zW) (K : zCls ci y'.cls T N t0) (hd : d' + 1 ≤ d) (hst : (st.map fun v => v.category).sum ≤ 8) (hm : ks ≤ mc ∧ ns ≤ ms) (hk : b < S0.1) (hs : S0.2.1 b = (ci, N)) (hdg : decode cc pc = .ok (.invokevirtual index, 3)) (kk : ∀ (r : Int32) (M' : zM), Q r M' → zB Hy g l y cc nL ret d mc ms P (pc + 3) ks ns S0 M' lo (.int r :: st)) : zB Hy g l y cc nL ret d mc ms P pc ks ns S0 M lo (v3 :: v2 :: v1 :: v0 :: .ref b :: st) :=
  zb_callV [v0, v1, v2, v3] hM hw hl hin hse K hd hst hk hs hm.1 hm.2 hdg (fun v S' M' q => by
  obtain ⟨rfl, r, rfl, h⟩ := q
  exact kk r M' h) rfl
end ZB1
section ZB1
variable {Hy : zG → State → Prop}
variable {g : zG} {l : Launch} {y : MethodName} {cc : ByteArray} {nL : Nat} {ret : Option FieldType} {d mc ms : Nat} {P : Option Value → zS → zM → Prop} {pc ks ns : Nat} {S : zS} {M : zM} {lo st : List Value}
variable {y' : MethodName} {cc' : ByteArray} {nL' : Nat} {ret' : Option FieldType} {d' index : Nat} {ci N b : Nat} {T : u_T} {t0 : Nat → FieldType}
theorem zb_iV5 {v0 v1 v2 v3 v4 : Value} {Q : Int32 → zM → Prop} (hM : zMet g l y' cc' nL' ret' d' 0 0 [.ref b, v0, v1, v2, v3, v4] S0 M (zQi Q)) (hw : zCW y' cc' nL' ret' 5) (hl : Cond.methodLink y.cls index y' ∈ zW) (hin : Cond.instanceMethod y' ∈ zW) (hse : Cond.selects y'.cls y' y' ∈ zW) (K : zCls ci y'.cls T N t0) (hd : d' + 1 ≤ d) (hst : (st.map fun v => v.category).sum ≤ 8) (hm : ks ≤ mc ∧ ns ≤ ms) (hk : b < S0.1) (hs : S0.2.1 b = (ci, N)) (hdg : decode cc pc = .ok (.invokevirtual index, 3)) (kk : ∀ (r : Int32) (M' : zM), Q r M' → zB Hy g l y cc nL ret d mc ms P (pc + 3) ks ns S0 M' lo (.int r :: st)) : zB Hy g l y cc nL ret d mc ms P pc ks ns S0 M lo (v4 :: v3 :: v2 :: v1 :: v0 :: .ref b :: st) :=
  zb_callV [v0, v1, v2, v3, v4] hM hw hl hin hse K hd hst hk hs hm.1 hm.2 hdg (fun v S' M' q => by
  obtain ⟨rfl, r, rfl, h⟩ := q
  exact kk r M' h) rfl
end ZB1
theorem zB.sub {g : zG} {l : Launch} {y : MethodName} {cc : ByteArray} {nL : Nat} {ret : Option FieldType} {d mc ms : Nat} {P : Option Value → zS → zM → Prop} {pc ks ns : Nat} {S : zS} {M M' : zM} {lo lo' st : List Value} (h : zB Hy g l y cc nL ret d mc ms P pc ks ns S M' lo' st) (hM : M = M') (hs : zSub lo' lo) : zB Hy g l y cc nL ret d mc ms P pc ks ns S M lo st := by
  subst hM
  exact fun p e R s m args below meth c H locs ls Q hS X hR hL hE => h p e R s m args below meth c H locs ls Q hS X hR ⟨hL.1, hL.2.1, fun i v h1 h2 => hL.2.2 i v (zSub_at lo' lo hs i v h1 h2) h2⟩ hE
end ZB
/-- the script lies where it lay, below all that was made since -/
def zScr (L : Nat) (xs : Nat → Int32) (g : zG) (s : State) : Prop := va_X (g.2.2.2.2.2 102) L xs s s.heap ∧ g.2.2.2.2.2 102 < s.heap.size ∧ g.2.2.2.2.2 102 < g.1
section ZSCR
variable {g : zG} {l : Launch} {y : MethodName} {cc : ByteArray} {nL : Nat} {ret : Option FieldType} {d mc ms : Nat} {P : Option Value → zS → zM → Prop} {pc ks ns : Nat} {S : zS} {M : zM} {lo st : List Value} {L : Nat} {xs : Nat → Int32}
theorem zb_slen (hdg : decode cc pc = .ok (.arraylength, 1)) (kk : zB (zScr L xs) g l y cc nL ret d mc ms P (pc + 1) ks ns S M lo (.int (nI L) :: st)) : zB (zScr L xs) g l y cc nL ret d mc ms P pc ks ns S M lo (.ref 2102 :: st) := by
  intro p e R s m args below meth c H locs ls Q hS X hR hL hE
  have e2 : (Value.ref 2102 :: st).map (z_v g) = .ref (g.2.2.2.2.2 102) :: st.map (z_v g) := by
    show Value.ref (zad g (2000 + 102)) :: _ = _
    rw [zad_v g]
  rw [e2]
  exact va_slen X.1 X.2.1 hS.1 hS.2.1 (show ¬ g.1 ≤ _ by have := hS.2.2; omega) hR.2.2.2 hdg (kk p e R s m args below meth c H locs ls Q hS X hR hL hE)
theorem zb_sld {i : Int32} {j : Nat} (hi : i = nI j) (hj : j < L) (hL2 : L ≤ 384) (hdg : decode cc pc = .ok (.iaload, 1)) (kk : zB (zScr L xs) g l y cc nL ret d mc ms P (pc + 1) ks ns S M lo (.int (xs j) :: st)) : zB (zScr L xs) g l y cc nL ret d mc ms P pc ks ns S M lo (.int i :: .ref 2102 :: st) := by
  intro p e R s m args below meth c H locs ls Q hS X hR hL hE
  have e2 : (Value.int i :: Value.ref 2102 :: st).map (z_v g) = .int i :: .ref (g.2.2.2.2.2 102) :: st.map (z_v g) := by
    show Value.int i :: Value.ref (zad g (2000 + 102)) :: _ = _
    rw [zad_v g]
  rw [e2]
  have hin : vp_in i L := by rw [hi]; exact vp_in_nI hj (by omega)
  have hk := kk p e R s m args below meth c H locs ls Q hS X hR hL hE
  refine va_sld X.1 X.2.1 hS.1 hS.2.1 (show ¬ g.1 ≤ _ by have := hS.2.2; omega) hR.2.2.2 hin hdg ?_
  rw [hi, nI_clamp (by omega)]
  exact hk
end ZSCR
theorem zAND : ∀ x : Int32, 0 ≤ x &&& 63 ∧ x &&& 63 ≤ 63 := fun x => by
  have h : ∃ a, a < 2 ^ 6 ∧ x &&& 63 = nI a := small_of_bt (fun i h1 h2 => by
    rw [b_and, show bt 63 i = decide (i < 6) from (by decide +kernel : ∀ i, i < 32 → bt 63 i = decide (i < 6)) i h2, decide_eq_false (by omega), Bool.and_false])
  obtain ⟨a, ha, e⟩ := h
  rw [e]
  exact ⟨Int32.not_lt.mp (nI_pos (by omega)), (nI_leI (b := 63) (by omega) (by omega)).mpr (by omega)⟩
set_option maxRecDepth 100000 in
set_option maxHeartbeats 4000000 in
theorem law_write (g : zG) (l : Launch) {L : Nat} {xs : Nat → Int32} {ks ns mc ms : Nat} (hm : ks ≤ mc ∧ ns ≤ ms) (hL : L ≤ 384) {h : Nat} (hh : h + 6 ≤ L) {M : zM} {A : aSt} (I : zInv M A) (again : ∀ (M2 : zM) (A2 : aSt), zInv M2 A2 → zB (zScr L xs) g l yL_law cL_law 4 ret 11 mc ms (zQi (fun r' _ => r' = 1)) 1146 ks ns S0 M2 [.ref 2102, .ref 0, .ref 127, .int (nI h)] []) : zB (zScr L xs) g l yL_law cL_law 4 ret 11 mc ms (zQi (fun r' _ => r' = 1)) 184 ks ns S0 M [.ref 2102, .ref 0, .ref 127, .int (nI h)] [] := by
  refine zb_aload_n dL_law_184 rfl ?_
  refine zb_aload_n dL_law_185 rfl ?_
  refine zb_iload_n dL_law_186 rfl ?_
  refine zb_iconst (v := 1) dL_law_187 (by decide) ?_
  refine zb_iaddN (a := h) (b := 1) rfl rfl dL_law_188 ?_
  refine zb_sld (j := h + 1) rfl (by omega) hL dL_law_189 ?_
  refine zb_iV1 (c_X11_write g l I.1 I.2.1) mw_X11_write lm_L_13 mi_X11_write mv_X11_write kX11 (by decide) (Nat.le_of_ble_eq_true rfl) hm k0_0 s0_0 dL_law_190 (fun r1 M1 q1 => ?_)
  refine zb_aload_n dL_law_193 rfl ?_
  refine zb_aload_n dL_law_194 rfl ?_
  refine zb_iload_n dL_law_195 rfl ?_
  refine zb_iconst (v := 1) dL_law_196 (by decide) ?_
  refine zb_iaddN (a := h) (b := 1) rfl rfl dL_law_197 ?_
  refine zb_sld (j := h + 1) rfl (by omega) hL dL_law_198 ?_
  have D1 : RelM M1 A := I.2.2.far q1.2.2 I.1.u
  refine zb_iV1 (c_X12_write g l I.1 D1) mw_X12_write lm_L_17 mi_X12_write mv_X12_write kX12 (by decide) (Nat.le_of_ble_eq_true rfl) hm k0_127 s0_127 dL_law_199 (fun r2 M2 q2 => ?_)
  obtain ⟨e1, e2⟩ := both_s (sWrite_ok I.1 _) q1 q2
  refine zb_icmp_eq (tgt := 1146) dL_law_202 (by decide) (fun _ => ?_) (fun b => absurd e1 b)
  exact again _ _ e2

set_option maxRecDepth 100000 in
set_option maxHeartbeats 4000000 in
theorem law_erase (g : zG) (l : Launch) {L : Nat} {xs : Nat → Int32} {ks ns mc ms : Nat} (hm : ks ≤ mc ∧ ns ≤ ms) (hL : L ≤ 384) {h : Nat} (hh : h + 6 ≤ L) {M : zM} {A : aSt} (I : zInv M A) (again : ∀ (M2 : zM) (A2 : aSt), zInv M2 A2 → zB (zScr L xs) g l yL_law cL_law 4 ret 11 mc ms (zQi (fun r' _ => r' = 1)) 1146 ks ns S0 M2 [.ref 2102, .ref 0, .ref 127, .int (nI h)] []) : zB (zScr L xs) g l yL_law cL_law 4 ret 11 mc ms (zQi (fun r' _ => r' = 1)) 207 ks ns S0 M [.ref 2102, .ref 0, .ref 127, .int (nI h)] [] := by
  refine zb_aload_n dL_law_207 rfl ?_
  refine zb_iV0 (c_X11_erase g l I.1 I.2.1) mw_X11_erase lm_L_18 mi_X11_erase mv_X11_erase kX11 (by decide) (Nat.le_of_ble_eq_true rfl) hm k0_0 s0_0 dL_law_208 (fun r1 M1 q1 => ?_)
  refine zb_aload_n dL_law_211 rfl ?_
  have D1 : RelM M1 A := I.2.2.far q1.2.2 I.1.u
  refine zb_iV0 (c_X12_erase g l I.1 D1) mw_X12_erase lm_L_22 mi_X12_erase mv_X12_erase kX12 (by decide) (Nat.le_of_ble_eq_true rfl) hm k0_127 s0_127 dL_law_212 (fun r2 M2 q2 => ?_)
  obtain ⟨e1, e2⟩ := both_s (sErase_ok I.1) q1 q2
  refine zb_icmp_eq (tgt := 1146) dL_law_215 (by decide) (fun _ => ?_) (fun b => absurd e1 b)
  exact again _ _ e2

set_option maxRecDepth 100000 in
set_option maxHeartbeats 4000000 in
theorem law_fault (g : zG) (l : Launch) {L : Nat} {xs : Nat → Int32} {ks ns mc ms : Nat} (hm : ks ≤ mc ∧ ns ≤ ms) (hL : L ≤ 384) {h : Nat} (hh : h + 6 ≤ L) {M : zM} {A : aSt} (I : zInv M A) (again : ∀ (M2 : zM) (A2 : aSt), zInv M2 A2 → zB (zScr L xs) g l yL_law cL_law 4 ret 11 mc ms (zQi (fun r' _ => r' = 1)) 1146 ks ns S0 M2 [.ref 2102, .ref 0, .ref 127, .int (nI h)] []) : zB (zScr L xs) g l yL_law cL_law 4 ret 11 mc ms (zQi (fun r' _ => r' = 1)) 220 ks ns S0 M [.ref 2102, .ref 0, .ref 127, .int (nI h)] [] := by
  refine zb_aload_n dL_law_220 rfl ?_
  refine zb_iV0 (c_X11_fault g l I.1 I.2.1) mw_X11_fault lm_L_23 mi_X11_fault mv_X11_fault kX11 (by decide) (Nat.le_of_ble_eq_true rfl) hm k0_0 s0_0 dL_law_221 (fun r1 M1 q1 => ?_)
  refine zb_aload_n dL_law_224 rfl ?_
  have D1 : RelM M1 A := I.2.2.far q1.2.2 I.1.u
  refine zb_iV0 (c_X12_fault g l I.1 D1) mw_X12_fault lm_L_26 mi_X12_fault mv_X12_fault kX12 (by decide) (Nat.le_of_ble_eq_true rfl) hm k0_127 s0_127 dL_law_225 (fun r2 M2 q2 => ?_)
  obtain ⟨e1, e2⟩ := both_s (sFault_ok I.1) q1 q2
  refine zb_icmp_eq (tgt := 1146) dL_law_228 (by decide) (fun _ => ?_) (fun b => absurd e1 b)
  exact again _ _ e2

set_option maxRecDepth 100000 in
set_option maxHeartbeats 4000000 in
theorem law_road (g : zG) (l : Launch) {L : Nat} {xs : Nat → Int32} {ks ns mc ms : Nat} (hm : ks ≤ mc ∧ ns ≤ ms) (hL : L ≤ 384) {h : Nat} (hh : h + 6 ≤ L) {M : zM} {A : aSt} (I : zInv M A) (again : ∀ (M2 : zM) (A2 : aSt), zInv M2 A2 → zB (zScr L xs) g l yL_law cL_law 4 ret 11 mc ms (zQi (fun r' _ => r' = 1)) 1146 ks ns S0 M2 [.ref 2102, .ref 0, .ref 127, .int (nI h)] []) : zB (zScr L xs) g l yL_law cL_law 4 ret 11 mc ms (zQi (fun r' _ => r' = 1)) 233 ks ns S0 M [.ref 2102, .ref 0, .ref 127, .int (nI h)] [] := by
  refine zb_aload_n dL_law_233 rfl ?_
  refine zb_iV0 (c_X11_road g l I.1 I.2.1) mw_X11_road lm_L_27 mi_X11_road mv_X11_road kX11 (by decide) (Nat.le_of_ble_eq_true rfl) hm k0_0 s0_0 dL_law_234 (fun r1 M1 q1 => ?_)
  refine zb_aload_n dL_law_237 rfl ?_
  have D1 : RelM M1 A := I.2.2.far q1.2.2 I.1.u
  refine zb_iV0 (c_X12_road g l I.1 D1) mw_X12_road lm_L_30 mi_X12_road mv_X12_road kX12 (by decide) (Nat.le_of_ble_eq_true rfl) hm k0_127 s0_127 dL_law_238 (fun r2 M2 q2 => ?_)
  obtain ⟨e1, e2⟩ := both_s (sRoad_ok I.1) q1 q2
  refine zb_icmp_eq (tgt := 1146) dL_law_241 (by decide) (fun _ => ?_) (fun b => absurd e1 b)
  exact again _ _ e2

set_option maxRecDepth 100000 in
set_option maxHeartbeats 4000000 in
theorem law_hour (g : zG) (l : Launch) {L : Nat} {xs : Nat → Int32} {ks ns mc ms : Nat} (hm : ks ≤ mc ∧ ns ≤ ms) (hL : L ≤ 384) {h : Nat} (hh : h + 6 ≤ L) {M : zM} {A : aSt} (I : zInv M A) (again : ∀ (M2 : zM) (A2 : aSt), zInv M2 A2 → zB (zScr L xs) g l yL_law cL_law 4 ret 11 mc ms (zQi (fun r' _ => r' = 1)) 1146 ks ns S0 M2 [.ref 2102, .ref 0, .ref 127, .int (nI h)] []) : zB (zScr L xs) g l yL_law cL_law 4 ret 11 mc ms (zQi (fun r' _ => r' = 1)) 246 ks ns S0 M [.ref 2102, .ref 0, .ref 127, .int (nI h)] [] := by
  refine zb_aload_n dL_law_246 rfl ?_
  refine zb_aload_n dL_law_247 rfl ?_
  refine zb_iload_n dL_law_248 rfl ?_
  refine zb_iconst (v := 1) dL_law_249 (by decide) ?_
  refine zb_iaddN (a := h) (b := 1) rfl rfl dL_law_250 ?_
  refine zb_sld (j := h + 1) rfl (by omega) hL dL_law_251 ?_
  refine zb_aload_n dL_law_252 rfl ?_
  refine zb_iload_n dL_law_253 rfl ?_
  refine zb_iconst (v := 2) dL_law_254 (by decide) ?_
  refine zb_iaddN (a := h) (b := 2) rfl rfl dL_law_255 ?_
  refine zb_sld (j := h + 2) rfl (by omega) hL dL_law_256 ?_
  refine zb_iV2 (c_X11_hour g l I.1 I.2.1) mw_X11_hour lm_L_31 mi_X11_hour mv_X11_hour kX11 (by decide) (Nat.le_of_ble_eq_true rfl) hm k0_0 s0_0 dL_law_257 (fun r1 M1 q1 => ?_)
  refine zb_aload_n dL_law_260 rfl ?_
  refine zb_aload_n dL_law_261 rfl ?_
  refine zb_iload_n dL_law_262 rfl ?_
  refine zb_iconst (v := 1) dL_law_263 (by decide) ?_
  refine zb_iaddN (a := h) (b := 1) rfl rfl dL_law_264 ?_
  refine zb_sld (j := h + 1) rfl (by omega) hL dL_law_265 ?_
  refine zb_aload_n dL_law_266 rfl ?_
  refine zb_iload_n dL_law_267 rfl ?_
  refine zb_iconst (v := 2) dL_law_268 (by decide) ?_
  refine zb_iaddN (a := h) (b := 2) rfl rfl dL_law_269 ?_
  refine zb_sld (j := h + 2) rfl (by omega) hL dL_law_270 ?_
  have D1 : RelM M1 A := I.2.2.far q1.2.2 I.1.u
  refine zb_iV2 (c_X12_hour g l I.1 D1) mw_X12_hour lm_L_35 mi_X12_hour mv_X12_hour kX12 (by decide) (Nat.le_of_ble_eq_true rfl) hm k0_127 s0_127 dL_law_271 (fun r2 M2 q2 => ?_)
  obtain ⟨e1, e2⟩ := both_a I.1 q1 q2
  refine zb_icmp_eq (tgt := 1146) dL_law_274 (by decide) (fun _ => ?_) (fun b => absurd e1 b)
  exact again _ _ e2

set_option maxRecDepth 100000 in
set_option maxHeartbeats 4000000 in
theorem law_rider (g : zG) (l : Launch) {L : Nat} {xs : Nat → Int32} {ks ns mc ms : Nat} (hm : ks ≤ mc ∧ ns ≤ ms) (hL : L ≤ 384) {h : Nat} (hh : h + 6 ≤ L) {M : zM} {A : aSt} (I : zInv M A) (again : ∀ (M2 : zM) (A2 : aSt), zInv M2 A2 → zB (zScr L xs) g l yL_law cL_law 4 ret 11 mc ms (zQi (fun r' _ => r' = 1)) 1146 ks ns S0 M2 [.ref 2102, .ref 0, .ref 127, .int (nI h)] []) : zB (zScr L xs) g l yL_law cL_law 4 ret 11 mc ms (zQi (fun r' _ => r' = 1)) 279 ks ns S0 M [.ref 2102, .ref 0, .ref 127, .int (nI h)] [] := by
  refine zb_aload_n dL_law_279 rfl ?_
  refine zb_aload_n dL_law_280 rfl ?_
  refine zb_iload_n dL_law_281 rfl ?_
  refine zb_iconst (v := 1) dL_law_282 (by decide) ?_
  refine zb_iaddN (a := h) (b := 1) rfl rfl dL_law_283 ?_
  refine zb_sld (j := h + 1) rfl (by omega) hL dL_law_284 ?_
  refine zb_aload_n dL_law_285 rfl ?_
  refine zb_iload_n dL_law_286 rfl ?_
  refine zb_iconst (v := 2) dL_law_287 (by decide) ?_
  refine zb_iaddN (a := h) (b := 2) rfl rfl dL_law_288 ?_
  refine zb_sld (j := h + 2) rfl (by omega) hL dL_law_289 ?_
  refine zb_iV2 (c_X11_rider g l I.1 I.2.1) mw_X11_rider lm_L_36 mi_X11_rider mv_X11_rider kX11 (by decide) (Nat.le_of_ble_eq_true rfl) hm k0_0 s0_0 dL_law_290 (fun r1 M1 q1 => ?_)
  refine zb_aload_n dL_law_293 rfl ?_
  refine zb_aload_n dL_law_294 rfl ?_
  refine zb_iload_n dL_law_295 rfl ?_
  refine zb_iconst (v := 1) dL_law_296 (by decide) ?_
  refine zb_iaddN (a := h) (b := 1) rfl rfl dL_law_297 ?_
  refine zb_sld (j := h + 1) rfl (by omega) hL dL_law_298 ?_
  refine zb_aload_n dL_law_299 rfl ?_
  refine zb_iload_n dL_law_300 rfl ?_
  refine zb_iconst (v := 2) dL_law_301 (by decide) ?_
  refine zb_iaddN (a := h) (b := 2) rfl rfl dL_law_302 ?_
  refine zb_sld (j := h + 2) rfl (by omega) hL dL_law_303 ?_
  have D1 : RelM M1 A := I.2.2.far q1.2.2 I.1.u
  refine zb_iV2 (c_X12_rider g l I.1 D1) mw_X12_rider lm_L_39 mi_X12_rider mv_X12_rider kX12 (by decide) (Nat.le_of_ble_eq_true rfl) hm k0_127 s0_127 dL_law_304 (fun r2 M2 q2 => ?_)
  obtain ⟨e1, e2⟩ := both_a I.1 q1 q2
  refine zb_icmp_eq (tgt := 1146) dL_law_307 (by decide) (fun _ => ?_) (fun b => absurd e1 b)
  exact again _ _ e2

set_option maxRecDepth 100000 in
set_option maxHeartbeats 4000000 in
theorem law_inn (g : zG) (l : Launch) {L : Nat} {xs : Nat → Int32} {ks ns mc ms : Nat} (hm : ks ≤ mc ∧ ns ≤ ms) (hL : L ≤ 384) {h : Nat} (hh : h + 6 ≤ L) {M : zM} {A : aSt} (I : zInv M A) (again : ∀ (M2 : zM) (A2 : aSt), zInv M2 A2 → zB (zScr L xs) g l yL_law cL_law 4 ret 11 mc ms (zQi (fun r' _ => r' = 1)) 1146 ks ns S0 M2 [.ref 2102, .ref 0, .ref 127, .int (nI h)] []) : zB (zScr L xs) g l yL_law cL_law 4 ret 11 mc ms (zQi (fun r' _ => r' = 1)) 312 ks ns S0 M [.ref 2102, .ref 0, .ref 127, .int (nI h)] [] := by
  refine zb_aload_n dL_law_312 rfl ?_
  refine zb_aload_n dL_law_313 rfl ?_
  refine zb_iload_n dL_law_314 rfl ?_
  refine zb_iconst (v := 1) dL_law_315 (by decide) ?_
  refine zb_iaddN (a := h) (b := 1) rfl rfl dL_law_316 ?_
  refine zb_sld (j := h + 1) rfl (by omega) hL dL_law_317 ?_
  refine zb_iV1 (c_X11_inn g l I.1 I.2.1) mw_X11_inn lm_L_40 mi_X11_inn mv_X11_inn kX11 (by decide) (Nat.le_of_ble_eq_true rfl) hm k0_0 s0_0 dL_law_318 (fun r1 M1 q1 => ?_)
  refine zb_aload_n dL_law_321 rfl ?_
  refine zb_aload_n dL_law_322 rfl ?_
  refine zb_iload_n dL_law_323 rfl ?_
  refine zb_iconst (v := 1) dL_law_324 (by decide) ?_
  refine zb_iaddN (a := h) (b := 1) rfl rfl dL_law_325 ?_
  refine zb_sld (j := h + 1) rfl (by omega) hL dL_law_326 ?_
  have D1 : RelM M1 A := I.2.2.far q1.2.2 I.1.u
  refine zb_iV1 (c_X12_inn g l I.1 D1) mw_X12_inn lm_L_43 mi_X12_inn mv_X12_inn kX12 (by decide) (Nat.le_of_ble_eq_true rfl) hm k0_127 s0_127 dL_law_327 (fun r2 M2 q2 => ?_)
  obtain ⟨e1, e2⟩ := both_a I.1 q1 q2
  refine zb_icmp_eq (tgt := 1146) dL_law_330 (by decide) (fun _ => ?_) (fun b => absurd e1 b)
  exact again _ _ e2

set_option maxRecDepth 100000 in
set_option maxHeartbeats 4000000 in
theorem law_as (g : zG) (l : Launch) {L : Nat} {xs : Nat → Int32} {ks ns mc ms : Nat} (hm : ks ≤ mc ∧ ns ≤ ms) (hL : L ≤ 384) {h : Nat} (hh : h + 6 ≤ L) {M : zM} {A : aSt} (I : zInv M A) (again : ∀ (M2 : zM) (A2 : aSt), zInv M2 A2 → zB (zScr L xs) g l yL_law cL_law 4 ret 11 mc ms (zQi (fun r' _ => r' = 1)) 1146 ks ns S0 M2 [.ref 2102, .ref 0, .ref 127, .int (nI h)] []) : zB (zScr L xs) g l yL_law cL_law 4 ret 11 mc ms (zQi (fun r' _ => r' = 1)) 335 ks ns S0 M [.ref 2102, .ref 0, .ref 127, .int (nI h)] [] := by
  refine zb_aload_n dL_law_335 rfl ?_
  refine zb_aload_n dL_law_336 rfl ?_
  refine zb_iload_n dL_law_337 rfl ?_
  refine zb_iconst (v := 1) dL_law_338 (by decide) ?_
  refine zb_iaddN (a := h) (b := 1) rfl rfl dL_law_339 ?_
  refine zb_sld (j := h + 1) rfl (by omega) hL dL_law_340 ?_
  refine zb_aload_n dL_law_341 rfl ?_
  refine zb_iload_n dL_law_342 rfl ?_
  refine zb_iconst (v := 2) dL_law_343 (by decide) ?_
  refine zb_iaddN (a := h) (b := 2) rfl rfl dL_law_344 ?_
  refine zb_sld (j := h + 2) rfl (by omega) hL dL_law_345 ?_
  refine zb_iV2 (c_X11_as g l I.1 I.2.1) mw_X11_as lm_L_44 mi_X11_as mv_X11_as kX11 (by decide) (Nat.le_of_ble_eq_true rfl) hm k0_0 s0_0 dL_law_346 (fun r1 M1 q1 => ?_)
  refine zb_aload_n dL_law_349 rfl ?_
  refine zb_aload_n dL_law_350 rfl ?_
  refine zb_iload_n dL_law_351 rfl ?_
  refine zb_iconst (v := 1) dL_law_352 (by decide) ?_
  refine zb_iaddN (a := h) (b := 1) rfl rfl dL_law_353 ?_
  refine zb_sld (j := h + 1) rfl (by omega) hL dL_law_354 ?_
  refine zb_aload_n dL_law_355 rfl ?_
  refine zb_iload_n dL_law_356 rfl ?_
  refine zb_iconst (v := 2) dL_law_357 (by decide) ?_
  refine zb_iaddN (a := h) (b := 2) rfl rfl dL_law_358 ?_
  refine zb_sld (j := h + 2) rfl (by omega) hL dL_law_359 ?_
  have D1 : RelM M1 A := I.2.2.far q1.2.2 I.1.u
  refine zb_iV2 (c_X12_as g l I.1 D1) mw_X12_as lm_L_47 mi_X12_as mv_X12_as kX12 (by decide) (Nat.le_of_ble_eq_true rfl) hm k0_127 s0_127 dL_law_360 (fun r2 M2 q2 => ?_)
  obtain ⟨e1, e2⟩ := both_a I.1 q1 q2
  refine zb_icmp_eq (tgt := 1146) dL_law_363 (by decide) (fun _ => ?_) (fun b => absurd e1 b)
  exact again _ _ e2

set_option maxRecDepth 100000 in
set_option maxHeartbeats 4000000 in
theorem law_stage (g : zG) (l : Launch) {L : Nat} {xs : Nat → Int32} {ks ns mc ms : Nat} (hm : ks ≤ mc ∧ ns ≤ ms) (hL : L ≤ 384) {h : Nat} (hh : h + 6 ≤ L) {M : zM} {A : aSt} (I : zInv M A) (again : ∀ (M2 : zM) (A2 : aSt), zInv M2 A2 → zB (zScr L xs) g l yL_law cL_law 4 ret 11 mc ms (zQi (fun r' _ => r' = 1)) 1146 ks ns S0 M2 [.ref 2102, .ref 0, .ref 127, .int (nI h)] []) : zB (zScr L xs) g l yL_law cL_law 4 ret 11 mc ms (zQi (fun r' _ => r' = 1)) 368 ks ns S0 M [.ref 2102, .ref 0, .ref 127, .int (nI h)] [] := by
  refine zb_aload_n dL_law_368 rfl ?_
  refine zb_aload_n dL_law_369 rfl ?_
  refine zb_iload_n dL_law_370 rfl ?_
  refine zb_iconst (v := 1) dL_law_371 (by decide) ?_
  refine zb_iaddN (a := h) (b := 1) rfl rfl dL_law_372 ?_
  refine zb_sld (j := h + 1) rfl (by omega) hL dL_law_373 ?_
  refine zb_iV1 (c_X11_stage g l I.1 I.2.1) mw_X11_stage lm_L_48 mi_X11_stage mv_X11_stage kX11 (by decide) (Nat.le_of_ble_eq_true rfl) hm k0_0 s0_0 dL_law_374 (fun r1 M1 q1 => ?_)
  refine zb_aload_n dL_law_377 rfl ?_
  refine zb_aload_n dL_law_378 rfl ?_
  refine zb_iload_n dL_law_379 rfl ?_
  refine zb_iconst (v := 1) dL_law_380 (by decide) ?_
  refine zb_iaddN (a := h) (b := 1) rfl rfl dL_law_381 ?_
  refine zb_sld (j := h + 1) rfl (by omega) hL dL_law_382 ?_
  have D1 : RelM M1 A := I.2.2.far q1.2.2 I.1.u
  refine zb_iV1 (c_X12_stage g l I.1 D1) mw_X12_stage lm_L_51 mi_X12_stage mv_X12_stage kX12 (by decide) (Nat.le_of_ble_eq_true rfl) hm k0_127 s0_127 dL_law_383 (fun r2 M2 q2 => ?_)
  obtain ⟨e1, e2⟩ := both_s (sStage_ok I.1 _) q1 q2
  refine zb_icmp_eq (tgt := 1146) dL_law_386 (by decide) (fun _ => ?_) (fun b => absurd e1 b)
  exact again _ _ e2

set_option maxRecDepth 100000 in
set_option maxHeartbeats 4000000 in
theorem law_oats (g : zG) (l : Launch) {L : Nat} {xs : Nat → Int32} {ks ns mc ms : Nat} (hm : ks ≤ mc ∧ ns ≤ ms) (hL : L ≤ 384) {h : Nat} (hh : h + 6 ≤ L) {M : zM} {A : aSt} (I : zInv M A) (again : ∀ (M2 : zM) (A2 : aSt), zInv M2 A2 → zB (zScr L xs) g l yL_law cL_law 4 ret 11 mc ms (zQi (fun r' _ => r' = 1)) 1146 ks ns S0 M2 [.ref 2102, .ref 0, .ref 127, .int (nI h)] []) : zB (zScr L xs) g l yL_law cL_law 4 ret 11 mc ms (zQi (fun r' _ => r' = 1)) 391 ks ns S0 M [.ref 2102, .ref 0, .ref 127, .int (nI h)] [] := by
  refine zb_aload_n dL_law_391 rfl ?_
  refine zb_aload_n dL_law_392 rfl ?_
  refine zb_iload_n dL_law_393 rfl ?_
  refine zb_iconst (v := 1) dL_law_394 (by decide) ?_
  refine zb_iaddN (a := h) (b := 1) rfl rfl dL_law_395 ?_
  refine zb_sld (j := h + 1) rfl (by omega) hL dL_law_396 ?_
  refine zb_iV1 (c_X11_oats g l I.1 I.2.1) mw_X11_oats lm_L_52 mi_X11_oats mv_X11_oats kX11 (by decide) (Nat.le_of_ble_eq_true rfl) hm k0_0 s0_0 dL_law_397 (fun r1 M1 q1 => ?_)
  refine zb_aload_n dL_law_400 rfl ?_
  refine zb_aload_n dL_law_401 rfl ?_
  refine zb_iload_n dL_law_402 rfl ?_
  refine zb_iconst (v := 1) dL_law_403 (by decide) ?_
  refine zb_iaddN (a := h) (b := 1) rfl rfl dL_law_404 ?_
  refine zb_sld (j := h + 1) rfl (by omega) hL dL_law_405 ?_
  have D1 : RelM M1 A := I.2.2.far q1.2.2 I.1.u
  refine zb_iV1 (c_X12_oats g l I.1 D1) mw_X12_oats lm_L_55 mi_X12_oats mv_X12_oats kX12 (by decide) (Nat.le_of_ble_eq_true rfl) hm k0_127 s0_127 dL_law_406 (fun r2 M2 q2 => ?_)
  obtain ⟨e1, e2⟩ := both_s (sOats_ok I.1 _) q1 q2
  refine zb_icmp_eq (tgt := 1146) dL_law_409 (by decide) (fun _ => ?_) (fun b => absurd e1 b)
  exact again _ _ e2

set_option maxRecDepth 100000 in
set_option maxHeartbeats 4000000 in
theorem law_shoe (g : zG) (l : Launch) {L : Nat} {xs : Nat → Int32} {ks ns mc ms : Nat} (hm : ks ≤ mc ∧ ns ≤ ms) (hL : L ≤ 384) {h : Nat} (hh : h + 6 ≤ L) {M : zM} {A : aSt} (I : zInv M A) (again : ∀ (M2 : zM) (A2 : aSt), zInv M2 A2 → zB (zScr L xs) g l yL_law cL_law 4 ret 11 mc ms (zQi (fun r' _ => r' = 1)) 1146 ks ns S0 M2 [.ref 2102, .ref 0, .ref 127, .int (nI h)] []) : zB (zScr L xs) g l yL_law cL_law 4 ret 11 mc ms (zQi (fun r' _ => r' = 1)) 414 ks ns S0 M [.ref 2102, .ref 0, .ref 127, .int (nI h)] [] := by
  refine zb_aload_n dL_law_414 rfl ?_
  refine zb_aload_n dL_law_415 rfl ?_
  refine zb_iload_n dL_law_416 rfl ?_
  refine zb_iconst (v := 1) dL_law_417 (by decide) ?_
  refine zb_iaddN (a := h) (b := 1) rfl rfl dL_law_418 ?_
  refine zb_sld (j := h + 1) rfl (by omega) hL dL_law_419 ?_
  refine zb_iV1 (c_X11_shoe g l I.1 I.2.1) mw_X11_shoe lm_L_56 mi_X11_shoe mv_X11_shoe kX11 (by decide) (Nat.le_of_ble_eq_true rfl) hm k0_0 s0_0 dL_law_420 (fun r1 M1 q1 => ?_)
  refine zb_aload_n dL_law_423 rfl ?_
  refine zb_aload_n dL_law_424 rfl ?_
  refine zb_iload_n dL_law_425 rfl ?_
  refine zb_iconst (v := 1) dL_law_426 (by decide) ?_
  refine zb_iaddN (a := h) (b := 1) rfl rfl dL_law_427 ?_
  refine zb_sld (j := h + 1) rfl (by omega) hL dL_law_428 ?_
  have D1 : RelM M1 A := I.2.2.far q1.2.2 I.1.u
  refine zb_iV1 (c_X12_shoe g l I.1 D1) mw_X12_shoe lm_L_59 mi_X12_shoe mv_X12_shoe kX12 (by decide) (Nat.le_of_ble_eq_true rfl) hm k0_127 s0_127 dL_law_429 (fun r2 M2 q2 => ?_)
  obtain ⟨e1, e2⟩ := both_s (sShoe_ok I.1 _) q1 q2
  refine zb_icmp_eq (tgt := 1146) dL_law_432 (by decide) (fun _ => ?_) (fun b => absurd e1 b)
  exact again _ _ e2

set_option maxRecDepth 100000 in
set_option maxHeartbeats 4000000 in
theorem law_lead (g : zG) (l : Launch) {L : Nat} {xs : Nat → Int32} {ks ns mc ms : Nat} (hm : ks ≤ mc ∧ ns ≤ ms) (hL : L ≤ 384) {h : Nat} (hh : h + 6 ≤ L) {M : zM} {A : aSt} (I : zInv M A) (again : ∀ (M2 : zM) (A2 : aSt), zInv M2 A2 → zB (zScr L xs) g l yL_law cL_law 4 ret 11 mc ms (zQi (fun r' _ => r' = 1)) 1146 ks ns S0 M2 [.ref 2102, .ref 0, .ref 127, .int (nI h)] []) : zB (zScr L xs) g l yL_law cL_law 4 ret 11 mc ms (zQi (fun r' _ => r' = 1)) 437 ks ns S0 M [.ref 2102, .ref 0, .ref 127, .int (nI h)] [] := by
  refine zb_aload_n dL_law_437 rfl ?_
  refine zb_aload_n dL_law_438 rfl ?_
  refine zb_iload_n dL_law_439 rfl ?_
  refine zb_iconst (v := 1) dL_law_440 (by decide) ?_
  refine zb_iaddN (a := h) (b := 1) rfl rfl dL_law_441 ?_
  refine zb_sld (j := h + 1) rfl (by omega) hL dL_law_442 ?_
  refine zb_aload_n dL_law_443 rfl ?_
  refine zb_iload_n dL_law_444 rfl ?_
  refine zb_iconst (v := 2) dL_law_445 (by decide) ?_
  refine zb_iaddN (a := h) (b := 2) rfl rfl dL_law_446 ?_
  refine zb_sld (j := h + 2) rfl (by omega) hL dL_law_447 ?_
  refine zb_iV2 (c_X11_lead g l I.1 I.2.1) mw_X11_lead lm_L_60 mi_X11_lead mv_X11_lead kX11 (by decide) (Nat.le_of_ble_eq_true rfl) hm k0_0 s0_0 dL_law_448 (fun r1 M1 q1 => ?_)
  refine zb_aload_n dL_law_451 rfl ?_
  refine zb_aload_n dL_law_452 rfl ?_
  refine zb_iload_n dL_law_453 rfl ?_
  refine zb_iconst (v := 1) dL_law_454 (by decide) ?_
  refine zb_iaddN (a := h) (b := 1) rfl rfl dL_law_455 ?_
  refine zb_sld (j := h + 1) rfl (by omega) hL dL_law_456 ?_
  refine zb_aload_n dL_law_457 rfl ?_
  refine zb_iload_n dL_law_458 rfl ?_
  refine zb_iconst (v := 2) dL_law_459 (by decide) ?_
  refine zb_iaddN (a := h) (b := 2) rfl rfl dL_law_460 ?_
  refine zb_sld (j := h + 2) rfl (by omega) hL dL_law_461 ?_
  have D1 : RelM M1 A := I.2.2.far q1.2.2 I.1.u
  refine zb_iV2 (c_X12_lead g l I.1 D1) mw_X12_lead lm_L_63 mi_X12_lead mv_X12_lead kX12 (by decide) (Nat.le_of_ble_eq_true rfl) hm k0_127 s0_127 dL_law_462 (fun r2 M2 q2 => ?_)
  obtain ⟨e1, e2⟩ := both_s (sLead_ok I.1 _ _) q1 q2
  refine zb_icmp_eq (tgt := 1146) dL_law_465 (by decide) (fun _ => ?_) (fun b => absurd e1 b)
  exact again _ _ e2

set_option maxRecDepth 100000 in
set_option maxHeartbeats 4000000 in
theorem law_turn (g : zG) (l : Launch) {L : Nat} {xs : Nat → Int32} {ks ns mc ms : Nat} (hm : ks ≤ mc ∧ ns ≤ ms) (hL : L ≤ 384) {h : Nat} (hh : h + 6 ≤ L) {M : zM} {A : aSt} (I : zInv M A) (again : ∀ (M2 : zM) (A2 : aSt), zInv M2 A2 → zB (zScr L xs) g l yL_law cL_law 4 ret 11 mc ms (zQi (fun r' _ => r' = 1)) 1146 ks ns S0 M2 [.ref 2102, .ref 0, .ref 127, .int (nI h)] []) : zB (zScr L xs) g l yL_law cL_law 4 ret 11 mc ms (zQi (fun r' _ => r' = 1)) 470 ks ns S0 M [.ref 2102, .ref 0, .ref 127, .int (nI h)] [] := by
  refine zb_aload_n dL_law_470 rfl ?_
  refine zb_aload_n dL_law_471 rfl ?_
  refine zb_iload_n dL_law_472 rfl ?_
  refine zb_iconst (v := 1) dL_law_473 (by decide) ?_
  refine zb_iaddN (a := h) (b := 1) rfl rfl dL_law_474 ?_
  refine zb_sld (j := h + 1) rfl (by omega) hL dL_law_475 ?_
  refine zb_aload_n dL_law_476 rfl ?_
  refine zb_iload_n dL_law_477 rfl ?_
  refine zb_iconst (v := 2) dL_law_478 (by decide) ?_
  refine zb_iaddN (a := h) (b := 2) rfl rfl dL_law_479 ?_
  refine zb_sld (j := h + 2) rfl (by omega) hL dL_law_480 ?_
  refine zb_iV2 (c_X11_turn g l I.1 I.2.1) mw_X11_turn lm_L_64 mi_X11_turn mv_X11_turn kX11 (by decide) (Nat.le_of_ble_eq_true rfl) hm k0_0 s0_0 dL_law_481 (fun r1 M1 q1 => ?_)
  refine zb_aload_n dL_law_484 rfl ?_
  refine zb_aload_n dL_law_485 rfl ?_
  refine zb_iload_n dL_law_486 rfl ?_
  refine zb_iconst (v := 1) dL_law_487 (by decide) ?_
  refine zb_iaddN (a := h) (b := 1) rfl rfl dL_law_488 ?_
  refine zb_sld (j := h + 1) rfl (by omega) hL dL_law_489 ?_
  refine zb_aload_n dL_law_490 rfl ?_
  refine zb_iload_n dL_law_491 rfl ?_
  refine zb_iconst (v := 2) dL_law_492 (by decide) ?_
  refine zb_iaddN (a := h) (b := 2) rfl rfl dL_law_493 ?_
  refine zb_sld (j := h + 2) rfl (by omega) hL dL_law_494 ?_
  have D1 : RelM M1 A := I.2.2.far q1.2.2 I.1.u
  refine zb_iV2 (c_X12_turn g l I.1 D1) mw_X12_turn lm_L_67 mi_X12_turn mv_X12_turn kX12 (by decide) (Nat.le_of_ble_eq_true rfl) hm k0_127 s0_127 dL_law_495 (fun r2 M2 q2 => ?_)
  obtain ⟨e1, e2⟩ := both_s (sTurn_ok I.1 _ _) q1 q2
  refine zb_icmp_eq (tgt := 1146) dL_law_498 (by decide) (fun _ => ?_) (fun b => absurd e1 b)
  exact again _ _ e2

set_option maxRecDepth 100000 in
set_option maxHeartbeats 4000000 in
theorem law_undo (g : zG) (l : Launch) {L : Nat} {xs : Nat → Int32} {ks ns mc ms : Nat} (hm : ks ≤ mc ∧ ns ≤ ms) (hL : L ≤ 384) {h : Nat} (hh : h + 6 ≤ L) {M : zM} {A : aSt} (I : zInv M A) (again : ∀ (M2 : zM) (A2 : aSt), zInv M2 A2 → zB (zScr L xs) g l yL_law cL_law 4 ret 11 mc ms (zQi (fun r' _ => r' = 1)) 1146 ks ns S0 M2 [.ref 2102, .ref 0, .ref 127, .int (nI h)] []) : zB (zScr L xs) g l yL_law cL_law 4 ret 11 mc ms (zQi (fun r' _ => r' = 1)) 503 ks ns S0 M [.ref 2102, .ref 0, .ref 127, .int (nI h)] [] := by
  refine zb_aload_n dL_law_503 rfl ?_
  refine zb_iV0 (c_X11_undo g l I.1 I.2.1) mw_X11_undo lm_L_68 mi_X11_undo mv_X11_undo kX11 (by decide) (Nat.le_of_ble_eq_true rfl) hm k0_0 s0_0 dL_law_504 (fun r1 M1 q1 => ?_)
  refine zb_aload_n dL_law_507 rfl ?_
  have D1 : RelM M1 A := I.2.2.far q1.2.2 I.1.u
  refine zb_iV0 (c_X12_undo g l I.1 D1) mw_X12_undo lm_L_71 mi_X12_undo mv_X12_undo kX12 (by decide) (Nat.le_of_ble_eq_true rfl) hm k0_127 s0_127 dL_law_508 (fun r2 M2 q2 => ?_)
  obtain ⟨e1, e2⟩ := both_s (sUndo_ok I.1) q1 q2
  refine zb_icmp_eq (tgt := 1146) dL_law_511 (by decide) (fun _ => ?_) (fun b => absurd e1 b)
  exact again _ _ e2

set_option maxRecDepth 100000 in
set_option maxHeartbeats 4000000 in
theorem law_keep (g : zG) (l : Launch) {L : Nat} {xs : Nat → Int32} {ks ns mc ms : Nat} (hm : ks ≤ mc ∧ ns ≤ ms) (hL : L ≤ 384) {h : Nat} (hh : h + 6 ≤ L) {M : zM} {A : aSt} (I : zInv M A) (again : ∀ (M2 : zM) (A2 : aSt), zInv M2 A2 → zB (zScr L xs) g l yL_law cL_law 4 ret 11 mc ms (zQi (fun r' _ => r' = 1)) 1146 ks ns S0 M2 [.ref 2102, .ref 0, .ref 127, .int (nI h)] []) : zB (zScr L xs) g l yL_law cL_law 4 ret 11 mc ms (zQi (fun r' _ => r' = 1)) 516 ks ns S0 M [.ref 2102, .ref 0, .ref 127, .int (nI h)] [] := by
  refine zb_aload_n dL_law_516 rfl ?_
  refine zb_aload_n dL_law_517 rfl ?_
  refine zb_iload_n dL_law_518 rfl ?_
  refine zb_iconst (v := 1) dL_law_519 (by decide) ?_
  refine zb_iaddN (a := h) (b := 1) rfl rfl dL_law_520 ?_
  refine zb_sld (j := h + 1) rfl (by omega) hL dL_law_521 ?_
  refine zb_iV1 (c_X11_keep g l I.1 I.2.1) mw_X11_keep lm_L_72 mi_X11_keep mv_X11_keep kX11 (by decide) (Nat.le_of_ble_eq_true rfl) hm k0_0 s0_0 dL_law_522 (fun r1 M1 q1 => ?_)
  refine zb_aload_n dL_law_525 rfl ?_
  refine zb_aload_n dL_law_526 rfl ?_
  refine zb_iload_n dL_law_527 rfl ?_
  refine zb_iconst (v := 1) dL_law_528 (by decide) ?_
  refine zb_iaddN (a := h) (b := 1) rfl rfl dL_law_529 ?_
  refine zb_sld (j := h + 1) rfl (by omega) hL dL_law_530 ?_
  have D1 : RelM M1 A := I.2.2.far q1.2.2 I.1.u
  refine zb_iV1 (c_X12_keep g l I.1 D1) mw_X12_keep lm_L_75 mi_X12_keep mv_X12_keep kX12 (by decide) (Nat.le_of_ble_eq_true rfl) hm k0_127 s0_127 dL_law_531 (fun r2 M2 q2 => ?_)
  obtain ⟨e1, e2⟩ := both_s (sKeep_ok I.1 _) q1 q2
  refine zb_icmp_eq (tgt := 1146) dL_law_534 (by decide) (fun _ => ?_) (fun b => absurd e1 b)
  exact again _ _ e2

set_option maxRecDepth 100000 in
set_option maxHeartbeats 4000000 in
theorem law_back (g : zG) (l : Launch) {L : Nat} {xs : Nat → Int32} {ks ns mc ms : Nat} (hm : ks ≤ mc ∧ ns ≤ ms) (hL : L ≤ 384) {h : Nat} (hh : h + 6 ≤ L) {M : zM} {A : aSt} (I : zInv M A) (again : ∀ (M2 : zM) (A2 : aSt), zInv M2 A2 → zB (zScr L xs) g l yL_law cL_law 4 ret 11 mc ms (zQi (fun r' _ => r' = 1)) 1146 ks ns S0 M2 [.ref 2102, .ref 0, .ref 127, .int (nI h)] []) : zB (zScr L xs) g l yL_law cL_law 4 ret 11 mc ms (zQi (fun r' _ => r' = 1)) 539 ks ns S0 M [.ref 2102, .ref 0, .ref 127, .int (nI h)] [] := by
  refine zb_aload_n dL_law_539 rfl ?_
  refine zb_aload_n dL_law_540 rfl ?_
  refine zb_iload_n dL_law_541 rfl ?_
  refine zb_iconst (v := 1) dL_law_542 (by decide) ?_
  refine zb_iaddN (a := h) (b := 1) rfl rfl dL_law_543 ?_
  refine zb_sld (j := h + 1) rfl (by omega) hL dL_law_544 ?_
  refine zb_iV1 (c_X11_back g l I.1 I.2.1) mw_X11_back lm_L_76 mi_X11_back mv_X11_back kX11 (by decide) (Nat.le_of_ble_eq_true rfl) hm k0_0 s0_0 dL_law_545 (fun r1 M1 q1 => ?_)
  refine zb_aload_n dL_law_548 rfl ?_
  refine zb_aload_n dL_law_549 rfl ?_
  refine zb_iload_n dL_law_550 rfl ?_
  refine zb_iconst (v := 1) dL_law_551 (by decide) ?_
  refine zb_iaddN (a := h) (b := 1) rfl rfl dL_law_552 ?_
  refine zb_sld (j := h + 1) rfl (by omega) hL dL_law_553 ?_
  have D1 : RelM M1 A := I.2.2.far q1.2.2 I.1.u
  refine zb_iV1 (c_X12_back g l I.1 D1) mw_X12_back lm_L_79 mi_X12_back mv_X12_back kX12 (by decide) (Nat.le_of_ble_eq_true rfl) hm k0_127 s0_127 dL_law_554 (fun r2 M2 q2 => ?_)
  obtain ⟨e1, e2⟩ := both_s (sBack_ok I.1 _) q1 q2
  refine zb_icmp_eq (tgt := 1146) dL_law_557 (by decide) (fun _ => ?_) (fun b => absurd e1 b)
  exact again _ _ e2

set_option maxRecDepth 100000 in
set_option maxHeartbeats 4000000 in
theorem law_given (g : zG) (l : Launch) {L : Nat} {xs : Nat → Int32} {ks ns mc ms : Nat} (hm : ks ≤ mc ∧ ns ≤ ms) (hL : L ≤ 384) {h : Nat} (hh : h + 6 ≤ L) {M : zM} {A : aSt} (I : zInv M A) (again : ∀ (M2 : zM) (A2 : aSt), zInv M2 A2 → zB (zScr L xs) g l yL_law cL_law 4 ret 11 mc ms (zQi (fun r' _ => r' = 1)) 1146 ks ns S0 M2 [.ref 2102, .ref 0, .ref 127, .int (nI h)] []) : zB (zScr L xs) g l yL_law cL_law 4 ret 11 mc ms (zQi (fun r' _ => r' = 1)) 562 ks ns S0 M [.ref 2102, .ref 0, .ref 127, .int (nI h)] [] := by
  refine zb_aload_n dL_law_562 rfl ?_
  refine zb_aload_n dL_law_563 rfl ?_
  refine zb_iload_n dL_law_564 rfl ?_
  refine zb_iconst (v := 1) dL_law_565 (by decide) ?_
  refine zb_iaddN (a := h) (b := 1) rfl rfl dL_law_566 ?_
  refine zb_sld (j := h + 1) rfl (by omega) hL dL_law_567 ?_
  refine zb_iV1 (c_X11_given g l I.1 I.2.1) mw_X11_given lm_L_80 mi_X11_given mv_X11_given kX11 (by decide) (Nat.le_of_ble_eq_true rfl) hm k0_0 s0_0 dL_law_568 (fun r1 M1 q1 => ?_)
  refine zb_aload_n dL_law_571 rfl ?_
  refine zb_aload_n dL_law_572 rfl ?_
  refine zb_iload_n dL_law_573 rfl ?_
  refine zb_iconst (v := 1) dL_law_574 (by decide) ?_
  refine zb_iaddN (a := h) (b := 1) rfl rfl dL_law_575 ?_
  refine zb_sld (j := h + 1) rfl (by omega) hL dL_law_576 ?_
  have D1 : RelM M1 A := I.2.2.far q1.2.2 I.1.u
  refine zb_iV1 (c_X12_given g l I.1 D1) mw_X12_given lm_L_83 mi_X12_given mv_X12_given kX12 (by decide) (Nat.le_of_ble_eq_true rfl) hm k0_127 s0_127 dL_law_577 (fun r2 M2 q2 => ?_)
  obtain ⟨e1, e2⟩ := both_a I.1 q1 q2
  refine zb_icmp_eq (tgt := 1146) dL_law_580 (by decide) (fun _ => ?_) (fun b => absurd e1 b)
  exact again _ _ e2

set_option maxRecDepth 100000 in
set_option maxHeartbeats 4000000 in
theorem law_ahead (g : zG) (l : Launch) {L : Nat} {xs : Nat → Int32} {ks ns mc ms : Nat} (hm : ks ≤ mc ∧ ns ≤ ms) (hL : L ≤ 384) {h : Nat} (hh : h + 6 ≤ L) {M : zM} {A : aSt} (I : zInv M A) (again : ∀ (M2 : zM) (A2 : aSt), zInv M2 A2 → zB (zScr L xs) g l yL_law cL_law 4 ret 11 mc ms (zQi (fun r' _ => r' = 1)) 1146 ks ns S0 M2 [.ref 2102, .ref 0, .ref 127, .int (nI h)] []) : zB (zScr L xs) g l yL_law cL_law 4 ret 11 mc ms (zQi (fun r' _ => r' = 1)) 585 ks ns S0 M [.ref 2102, .ref 0, .ref 127, .int (nI h)] [] := by
  refine zb_aload_n dL_law_585 rfl ?_
  refine zb_aload_n dL_law_586 rfl ?_
  refine zb_iload_n dL_law_587 rfl ?_
  refine zb_iconst (v := 1) dL_law_588 (by decide) ?_
  refine zb_iaddN (a := h) (b := 1) rfl rfl dL_law_589 ?_
  refine zb_sld (j := h + 1) rfl (by omega) hL dL_law_590 ?_
  refine zb_aload_n dL_law_591 rfl ?_
  refine zb_iload_n dL_law_592 rfl ?_
  refine zb_iconst (v := 2) dL_law_593 (by decide) ?_
  refine zb_iaddN (a := h) (b := 2) rfl rfl dL_law_594 ?_
  refine zb_sld (j := h + 2) rfl (by omega) hL dL_law_595 ?_
  refine zb_aload_n dL_law_596 rfl ?_
  refine zb_iload_n dL_law_597 rfl ?_
  refine zb_iconst (v := 3) dL_law_598 (by decide) ?_
  refine zb_iaddN (a := h) (b := 3) rfl rfl dL_law_599 ?_
  refine zb_sld (j := h + 3) rfl (by omega) hL dL_law_600 ?_
  refine zb_iV3 (c_X11_ahead g l I.1 I.2.1) mw_X11_ahead lm_L_84 mi_X11_ahead mv_X11_ahead kX11 (by decide) (Nat.le_of_ble_eq_true rfl) hm k0_0 s0_0 dL_law_601 (fun r1 M1 q1 => ?_)
  refine zb_aload_n dL_law_604 rfl ?_
  refine zb_aload_n dL_law_605 rfl ?_
  refine zb_iload_n dL_law_606 rfl ?_
  refine zb_iconst (v := 1) dL_law_607 (by decide) ?_
  refine zb_iaddN (a := h) (b := 1) rfl rfl dL_law_608 ?_
  refine zb_sld (j := h + 1) rfl (by omega) hL dL_law_609 ?_
  refine zb_aload_n dL_law_610 rfl ?_
  refine zb_iload_n dL_law_611 rfl ?_
  refine zb_iconst (v := 2) dL_law_612 (by decide) ?_
  refine zb_iaddN (a := h) (b := 2) rfl rfl dL_law_613 ?_
  refine zb_sld (j := h + 2) rfl (by omega) hL dL_law_614 ?_
  refine zb_aload_n dL_law_615 rfl ?_
  refine zb_iload_n dL_law_616 rfl ?_
  refine zb_iconst (v := 3) dL_law_617 (by decide) ?_
  refine zb_iaddN (a := h) (b := 3) rfl rfl dL_law_618 ?_
  refine zb_sld (j := h + 3) rfl (by omega) hL dL_law_619 ?_
  have D1 : RelM M1 A := I.2.2.far q1.2.2 I.1.u
  refine zb_iV3 (c_X12_ahead g l I.1 D1) mw_X12_ahead lm_L_88 mi_X12_ahead mv_X12_ahead kX12 (by decide) (Nat.le_of_ble_eq_true rfl) hm k0_127 s0_127 dL_law_620 (fun r2 M2 q2 => ?_)
  obtain ⟨e1, e2⟩ := both_a I.1 q1 q2
  refine zb_icmp_eq (tgt := 1146) dL_law_623 (by decide) (fun _ => ?_) (fun b => absurd e1 b)
  exact again _ _ e2

set_option maxRecDepth 100000 in
set_option maxHeartbeats 4000000 in
theorem law_comes (g : zG) (l : Launch) {L : Nat} {xs : Nat → Int32} {ks ns mc ms : Nat} (hm : ks ≤ mc ∧ ns ≤ ms) (hL : L ≤ 384) {h : Nat} (hh : h + 6 ≤ L) {M : zM} {A : aSt} (I : zInv M A) (again : ∀ (M2 : zM) (A2 : aSt), zInv M2 A2 → zB (zScr L xs) g l yL_law cL_law 4 ret 11 mc ms (zQi (fun r' _ => r' = 1)) 1146 ks ns S0 M2 [.ref 2102, .ref 0, .ref 127, .int (nI h)] []) : zB (zScr L xs) g l yL_law cL_law 4 ret 11 mc ms (zQi (fun r' _ => r' = 1)) 628 ks ns S0 M [.ref 2102, .ref 0, .ref 127, .int (nI h)] [] := by
  refine zb_aload_n dL_law_628 rfl ?_
  refine zb_aload_n dL_law_629 rfl ?_
  refine zb_iload_n dL_law_630 rfl ?_
  refine zb_iconst (v := 1) dL_law_631 (by decide) ?_
  refine zb_iaddN (a := h) (b := 1) rfl rfl dL_law_632 ?_
  refine zb_sld (j := h + 1) rfl (by omega) hL dL_law_633 ?_
  refine zb_aload_n dL_law_634 rfl ?_
  refine zb_iload_n dL_law_635 rfl ?_
  refine zb_iconst (v := 2) dL_law_636 (by decide) ?_
  refine zb_iaddN (a := h) (b := 2) rfl rfl dL_law_637 ?_
  refine zb_sld (j := h + 2) rfl (by omega) hL dL_law_638 ?_
  refine zb_iV2 (c_X11_comes g l I.1 I.2.1) mw_X11_comes lm_L_89 mi_X11_comes mv_X11_comes kX11 (by decide) (Nat.le_of_ble_eq_true rfl) hm k0_0 s0_0 dL_law_639 (fun r1 M1 q1 => ?_)
  refine zb_aload_n dL_law_642 rfl ?_
  refine zb_aload_n dL_law_643 rfl ?_
  refine zb_iload_n dL_law_644 rfl ?_
  refine zb_iconst (v := 1) dL_law_645 (by decide) ?_
  refine zb_iaddN (a := h) (b := 1) rfl rfl dL_law_646 ?_
  refine zb_sld (j := h + 1) rfl (by omega) hL dL_law_647 ?_
  refine zb_aload_n dL_law_648 rfl ?_
  refine zb_iload_n dL_law_649 rfl ?_
  refine zb_iconst (v := 2) dL_law_650 (by decide) ?_
  refine zb_iaddN (a := h) (b := 2) rfl rfl dL_law_651 ?_
  refine zb_sld (j := h + 2) rfl (by omega) hL dL_law_652 ?_
  have D1 : RelM M1 A := I.2.2.far q1.2.2 I.1.u
  refine zb_iV2 (c_X12_comes g l I.1 D1) mw_X12_comes lm_L_92 mi_X12_comes mv_X12_comes kX12 (by decide) (Nat.le_of_ble_eq_true rfl) hm k0_127 s0_127 dL_law_653 (fun r2 M2 q2 => ?_)
  obtain ⟨e1, e2⟩ := both_a I.1 q1 q2
  refine zb_icmp_eq (tgt := 1146) dL_law_656 (by decide) (fun _ => ?_) (fun b => absurd e1 b)
  exact again _ _ e2

set_option maxRecDepth 100000 in
set_option maxHeartbeats 4000000 in
theorem law_match (g : zG) (l : Launch) {L : Nat} {xs : Nat → Int32} {ks ns mc ms : Nat} (hm : ks ≤ mc ∧ ns ≤ ms) (hL : L ≤ 384) {h : Nat} (hh : h + 6 ≤ L) {M : zM} {A : aSt} (I : zInv M A) (again : ∀ (M2 : zM) (A2 : aSt), zInv M2 A2 → zB (zScr L xs) g l yL_law cL_law 4 ret 11 mc ms (zQi (fun r' _ => r' = 1)) 1146 ks ns S0 M2 [.ref 2102, .ref 0, .ref 127, .int (nI h)] []) : zB (zScr L xs) g l yL_law cL_law 4 ret 11 mc ms (zQi (fun r' _ => r' = 1)) 661 ks ns S0 M [.ref 2102, .ref 0, .ref 127, .int (nI h)] [] := by
  refine zb_aload_n dL_law_661 rfl ?_
  refine zb_aload_n dL_law_662 rfl ?_
  refine zb_iload_n dL_law_663 rfl ?_
  refine zb_iconst (v := 1) dL_law_664 (by decide) ?_
  refine zb_iaddN (a := h) (b := 1) rfl rfl dL_law_665 ?_
  refine zb_sld (j := h + 1) rfl (by omega) hL dL_law_666 ?_
  refine zb_iV1 (c_X11_match g l I.1 I.2.1) mw_X11_match lm_L_93 mi_X11_match mv_X11_match kX11 (by decide) (Nat.le_of_ble_eq_true rfl) hm k0_0 s0_0 dL_law_667 (fun r1 M1 q1 => ?_)
  refine zb_aload_n dL_law_670 rfl ?_
  refine zb_aload_n dL_law_671 rfl ?_
  refine zb_iload_n dL_law_672 rfl ?_
  refine zb_iconst (v := 1) dL_law_673 (by decide) ?_
  refine zb_iaddN (a := h) (b := 1) rfl rfl dL_law_674 ?_
  refine zb_sld (j := h + 1) rfl (by omega) hL dL_law_675 ?_
  have D1 : RelM M1 A := I.2.2.far q1.2.2 I.1.u
  refine zb_iV1 (c_X12_match g l I.1 D1) mw_X12_match lm_L_96 mi_X12_match mv_X12_match kX12 (by decide) (Nat.le_of_ble_eq_true rfl) hm k0_127 s0_127 dL_law_676 (fun r2 M2 q2 => ?_)
  rw [match_eq I.1] at q1
  obtain ⟨e1, e2⟩ := both_a I.1 q1 q2
  refine zb_icmp_eq (tgt := 1146) dL_law_679 (by decide) (fun _ => ?_) (fun b => absurd e1 b)
  exact again _ _ e2

set_option maxRecDepth 100000 in
set_option maxHeartbeats 4000000 in
theorem law_fastest (g : zG) (l : Launch) {L : Nat} {xs : Nat → Int32} {ks ns mc ms : Nat} (hm : ks ≤ mc ∧ ns ≤ ms) (hL : L ≤ 384) {h : Nat} (hh : h + 6 ≤ L) {M : zM} {A : aSt} (I : zInv M A) (again : ∀ (M2 : zM) (A2 : aSt), zInv M2 A2 → zB (zScr L xs) g l yL_law cL_law 4 ret 11 mc ms (zQi (fun r' _ => r' = 1)) 1146 ks ns S0 M2 [.ref 2102, .ref 0, .ref 127, .int (nI h)] []) : zB (zScr L xs) g l yL_law cL_law 4 ret 11 mc ms (zQi (fun r' _ => r' = 1)) 684 ks ns S0 M [.ref 2102, .ref 0, .ref 127, .int (nI h)] [] := by
  refine zb_aload_n dL_law_684 rfl ?_
  refine zb_aload_n dL_law_685 rfl ?_
  refine zb_iload_n dL_law_686 rfl ?_
  refine zb_iconst (v := 1) dL_law_687 (by decide) ?_
  refine zb_iaddN (a := h) (b := 1) rfl rfl dL_law_688 ?_
  refine zb_sld (j := h + 1) rfl (by omega) hL dL_law_689 ?_
  refine zb_iV1 (c_X11_fastest g l I.1 I.2.1) mw_X11_fastest lm_L_97 mi_X11_fastest mv_X11_fastest kX11 (by decide) (Nat.le_of_ble_eq_true rfl) hm k0_0 s0_0 dL_law_690 (fun r1 M1 q1 => ?_)
  refine zb_aload_n dL_law_693 rfl ?_
  refine zb_aload_n dL_law_694 rfl ?_
  refine zb_iload_n dL_law_695 rfl ?_
  refine zb_iconst (v := 1) dL_law_696 (by decide) ?_
  refine zb_iaddN (a := h) (b := 1) rfl rfl dL_law_697 ?_
  refine zb_sld (j := h + 1) rfl (by omega) hL dL_law_698 ?_
  have D1 : RelM M1 A := I.2.2.far q1.2.2 I.1.u
  refine zb_iV1 (c_X12_fastest g l I.1 D1) mw_X12_fastest lm_L_100 mi_X12_fastest mv_X12_fastest kX12 (by decide) (Nat.le_of_ble_eq_true rfl) hm k0_127 s0_127 dL_law_699 (fun r2 M2 q2 => ?_)
  obtain ⟨e1, e2⟩ := both_a I.1 q1 q2
  refine zb_icmp_eq (tgt := 1146) dL_law_702 (by decide) (fun _ => ?_) (fun b => absurd e1 b)
  exact again _ _ e2

set_option maxRecDepth 100000 in
set_option maxHeartbeats 4000000 in
theorem law_feed (g : zG) (l : Launch) {L : Nat} {xs : Nat → Int32} {ks ns mc ms : Nat} (hm : ks ≤ mc ∧ ns ≤ ms) (hL : L ≤ 384) {h : Nat} (hh : h + 6 ≤ L) {M : zM} {A : aSt} (I : zInv M A) (again : ∀ (M2 : zM) (A2 : aSt), zInv M2 A2 → zB (zScr L xs) g l yL_law cL_law 4 ret 11 mc ms (zQi (fun r' _ => r' = 1)) 1146 ks ns S0 M2 [.ref 2102, .ref 0, .ref 127, .int (nI h)] []) : zB (zScr L xs) g l yL_law cL_law 4 ret 11 mc ms (zQi (fun r' _ => r' = 1)) 707 ks ns S0 M [.ref 2102, .ref 0, .ref 127, .int (nI h)] [] := by
  refine zb_aload_n dL_law_707 rfl ?_
  refine zb_aload_n dL_law_708 rfl ?_
  refine zb_iload_n dL_law_709 rfl ?_
  refine zb_iconst (v := 1) dL_law_710 (by decide) ?_
  refine zb_iaddN (a := h) (b := 1) rfl rfl dL_law_711 ?_
  refine zb_sld (j := h + 1) rfl (by omega) hL dL_law_712 ?_
  refine zb_aload_n dL_law_713 rfl ?_
  refine zb_iload_n dL_law_714 rfl ?_
  refine zb_iconst (v := 2) dL_law_715 (by decide) ?_
  refine zb_iaddN (a := h) (b := 2) rfl rfl dL_law_716 ?_
  refine zb_sld (j := h + 2) rfl (by omega) hL dL_law_717 ?_
  refine zb_iV2 (c_X11_feed g l I.1 I.2.1) mw_X11_feed lm_L_101 mi_X11_feed mv_X11_feed kX11 (by decide) (Nat.le_of_ble_eq_true rfl) hm k0_0 s0_0 dL_law_718 (fun r1 M1 q1 => ?_)
  refine zb_aload_n dL_law_721 rfl ?_
  refine zb_aload_n dL_law_722 rfl ?_
  refine zb_iload_n dL_law_723 rfl ?_
  refine zb_iconst (v := 1) dL_law_724 (by decide) ?_
  refine zb_iaddN (a := h) (b := 1) rfl rfl dL_law_725 ?_
  refine zb_sld (j := h + 1) rfl (by omega) hL dL_law_726 ?_
  refine zb_aload_n dL_law_727 rfl ?_
  refine zb_iload_n dL_law_728 rfl ?_
  refine zb_iconst (v := 2) dL_law_729 (by decide) ?_
  refine zb_iaddN (a := h) (b := 2) rfl rfl dL_law_730 ?_
  refine zb_sld (j := h + 2) rfl (by omega) hL dL_law_731 ?_
  have D1 : RelM M1 A := I.2.2.far q1.2.2 I.1.u
  refine zb_iV2 (c_X12_feed g l I.1 D1) mw_X12_feed lm_L_104 mi_X12_feed mv_X12_feed kX12 (by decide) (Nat.le_of_ble_eq_true rfl) hm k0_127 s0_127 dL_law_732 (fun r2 M2 q2 => ?_)
  obtain ⟨e1, e2⟩ := both_a I.1 q1 q2
  refine zb_icmp_eq (tgt := 1146) dL_law_735 (by decide) (fun _ => ?_) (fun b => absurd e1 b)
  exact again _ _ e2

set_option maxRecDepth 100000 in
set_option maxHeartbeats 4000000 in
theorem law_falls (g : zG) (l : Launch) {L : Nat} {xs : Nat → Int32} {ks ns mc ms : Nat} (hm : ks ≤ mc ∧ ns ≤ ms) (hL : L ≤ 384) {h : Nat} (hh : h + 6 ≤ L) {M : zM} {A : aSt} (I : zInv M A) (again : ∀ (M2 : zM) (A2 : aSt), zInv M2 A2 → zB (zScr L xs) g l yL_law cL_law 4 ret 11 mc ms (zQi (fun r' _ => r' = 1)) 1146 ks ns S0 M2 [.ref 2102, .ref 0, .ref 127, .int (nI h)] []) : zB (zScr L xs) g l yL_law cL_law 4 ret 11 mc ms (zQi (fun r' _ => r' = 1)) 740 ks ns S0 M [.ref 2102, .ref 0, .ref 127, .int (nI h)] [] := by
  refine zb_aload_n dL_law_740 rfl ?_
  refine zb_aload_n dL_law_741 rfl ?_
  refine zb_iload_n dL_law_742 rfl ?_
  refine zb_iconst (v := 1) dL_law_743 (by decide) ?_
  refine zb_iaddN (a := h) (b := 1) rfl rfl dL_law_744 ?_
  refine zb_sld (j := h + 1) rfl (by omega) hL dL_law_745 ?_
  refine zb_aload_n dL_law_746 rfl ?_
  refine zb_iload_n dL_law_747 rfl ?_
  refine zb_iconst (v := 2) dL_law_748 (by decide) ?_
  refine zb_iaddN (a := h) (b := 2) rfl rfl dL_law_749 ?_
  refine zb_sld (j := h + 2) rfl (by omega) hL dL_law_750 ?_
  refine zb_aload_n dL_law_751 rfl ?_
  refine zb_iload_n dL_law_752 rfl ?_
  refine zb_iconst (v := 3) dL_law_753 (by decide) ?_
  refine zb_iaddN (a := h) (b := 3) rfl rfl dL_law_754 ?_
  refine zb_sld (j := h + 3) rfl (by omega) hL dL_law_755 ?_
  refine zb_aload_n dL_law_756 rfl ?_
  refine zb_iload_n dL_law_757 rfl ?_
  refine zb_iconst (v := 4) dL_law_758 (by decide) ?_
  refine zb_iaddN (a := h) (b := 4) rfl rfl dL_law_759 ?_
  refine zb_sld (j := h + 4) rfl (by omega) hL dL_law_760 ?_
  refine zb_iV4 (c_X11_falls g l I.1 I.2.1) mw_X11_falls lm_L_105 mi_X11_falls mv_X11_falls kX11 (by decide) (Nat.le_of_ble_eq_true rfl) hm k0_0 s0_0 dL_law_761 (fun r1 M1 q1 => ?_)
  refine zb_aload_n dL_law_764 rfl ?_
  refine zb_aload_n dL_law_765 rfl ?_
  refine zb_iload_n dL_law_766 rfl ?_
  refine zb_iconst (v := 1) dL_law_767 (by decide) ?_
  refine zb_iaddN (a := h) (b := 1) rfl rfl dL_law_768 ?_
  refine zb_sld (j := h + 1) rfl (by omega) hL dL_law_769 ?_
  refine zb_aload_n dL_law_770 rfl ?_
  refine zb_iload_n dL_law_771 rfl ?_
  refine zb_iconst (v := 2) dL_law_772 (by decide) ?_
  refine zb_iaddN (a := h) (b := 2) rfl rfl dL_law_773 ?_
  refine zb_sld (j := h + 2) rfl (by omega) hL dL_law_774 ?_
  refine zb_aload_n dL_law_775 rfl ?_
  refine zb_iload_n dL_law_776 rfl ?_
  refine zb_iconst (v := 3) dL_law_777 (by decide) ?_
  refine zb_iaddN (a := h) (b := 3) rfl rfl dL_law_778 ?_
  refine zb_sld (j := h + 3) rfl (by omega) hL dL_law_779 ?_
  refine zb_aload_n dL_law_780 rfl ?_
  refine zb_iload_n dL_law_781 rfl ?_
  refine zb_iconst (v := 4) dL_law_782 (by decide) ?_
  refine zb_iaddN (a := h) (b := 4) rfl rfl dL_law_783 ?_
  refine zb_sld (j := h + 4) rfl (by omega) hL dL_law_784 ?_
  have D1 : RelM M1 A := I.2.2.far q1.2.2 I.1.u
  refine zb_iV4 (c_X12_falls g l I.1 D1) mw_X12_falls lm_L_109 mi_X12_falls mv_X12_falls kX12 (by decide) (Nat.le_of_ble_eq_true rfl) hm k0_127 s0_127 dL_law_785 (fun r2 M2 q2 => ?_)
  obtain ⟨e1, e2⟩ := both_a I.1 q1 q2
  refine zb_icmp_eq (tgt := 1146) dL_law_788 (by decide) (fun _ => ?_) (fun b => absurd e1 b)
  exact again _ _ e2

set_option maxRecDepth 100000 in
set_option maxHeartbeats 4000000 in
theorem law_seen (g : zG) (l : Launch) {L : Nat} {xs : Nat → Int32} {ks ns mc ms : Nat} (hm : ks ≤ mc ∧ ns ≤ ms) (hL : L ≤ 384) {h : Nat} (hh : h + 6 ≤ L) {M : zM} {A : aSt} (I : zInv M A) (again : ∀ (M2 : zM) (A2 : aSt), zInv M2 A2 → zB (zScr L xs) g l yL_law cL_law 4 ret 11 mc ms (zQi (fun r' _ => r' = 1)) 1146 ks ns S0 M2 [.ref 2102, .ref 0, .ref 127, .int (nI h)] []) : zB (zScr L xs) g l yL_law cL_law 4 ret 11 mc ms (zQi (fun r' _ => r' = 1)) 793 ks ns S0 M [.ref 2102, .ref 0, .ref 127, .int (nI h)] [] := by
  refine zb_aload_n dL_law_793 rfl ?_
  refine zb_aload_n dL_law_794 rfl ?_
  refine zb_iload_n dL_law_795 rfl ?_
  refine zb_iconst (v := 1) dL_law_796 (by decide) ?_
  refine zb_iaddN (a := h) (b := 1) rfl rfl dL_law_797 ?_
  refine zb_sld (j := h + 1) rfl (by omega) hL dL_law_798 ?_
  refine zb_aload_n dL_law_799 rfl ?_
  refine zb_iload_n dL_law_800 rfl ?_
  refine zb_iconst (v := 2) dL_law_801 (by decide) ?_
  refine zb_iaddN (a := h) (b := 2) rfl rfl dL_law_802 ?_
  refine zb_sld (j := h + 2) rfl (by omega) hL dL_law_803 ?_
  refine zb_aload_n dL_law_804 rfl ?_
  refine zb_iload_n dL_law_805 rfl ?_
  refine zb_iconst (v := 3) dL_law_806 (by decide) ?_
  refine zb_iaddN (a := h) (b := 3) rfl rfl dL_law_807 ?_
  refine zb_sld (j := h + 3) rfl (by omega) hL dL_law_808 ?_
  refine zb_iV3 (c_X11_seen g l I.1 I.2.1) mw_X11_seen lm_L_110 mi_X11_seen mv_X11_seen kX11 (by decide) (Nat.le_of_ble_eq_true rfl) hm k0_0 s0_0 dL_law_809 (fun r1 M1 q1 => ?_)
  refine zb_aload_n dL_law_812 rfl ?_
  refine zb_aload_n dL_law_813 rfl ?_
  refine zb_iload_n dL_law_814 rfl ?_
  refine zb_iconst (v := 1) dL_law_815 (by decide) ?_
  refine zb_iaddN (a := h) (b := 1) rfl rfl dL_law_816 ?_
  refine zb_sld (j := h + 1) rfl (by omega) hL dL_law_817 ?_
  refine zb_aload_n dL_law_818 rfl ?_
  refine zb_iload_n dL_law_819 rfl ?_
  refine zb_iconst (v := 2) dL_law_820 (by decide) ?_
  refine zb_iaddN (a := h) (b := 2) rfl rfl dL_law_821 ?_
  refine zb_sld (j := h + 2) rfl (by omega) hL dL_law_822 ?_
  refine zb_aload_n dL_law_823 rfl ?_
  refine zb_iload_n dL_law_824 rfl ?_
  refine zb_iconst (v := 3) dL_law_825 (by decide) ?_
  refine zb_iaddN (a := h) (b := 3) rfl rfl dL_law_826 ?_
  refine zb_sld (j := h + 3) rfl (by omega) hL dL_law_827 ?_
  have D1 : RelM M1 A := I.2.2.far q1.2.2 I.1.u
  refine zb_iV3 (c_X12_seen g l I.1 D1) mw_X12_seen lm_L_113 mi_X12_seen mv_X12_seen kX12 (by decide) (Nat.le_of_ble_eq_true rfl) hm k0_127 s0_127 dL_law_828 (fun r2 M2 q2 => ?_)
  obtain ⟨e1, e2⟩ := both_s (sSeen_ok I.1 _ _ _) q1 q2
  refine zb_icmp_eq (tgt := 1146) dL_law_831 (by decide) (fun _ => ?_) (fun b => absurd e1 b)
  exact again _ _ e2

set_option maxRecDepth 100000 in
set_option maxHeartbeats 4000000 in
theorem law_forget (g : zG) (l : Launch) {L : Nat} {xs : Nat → Int32} {ks ns mc ms : Nat} (hm : ks ≤ mc ∧ ns ≤ ms) (hL : L ≤ 384) {h : Nat} (hh : h + 6 ≤ L) {M : zM} {A : aSt} (I : zInv M A) (again : ∀ (M2 : zM) (A2 : aSt), zInv M2 A2 → zB (zScr L xs) g l yL_law cL_law 4 ret 11 mc ms (zQi (fun r' _ => r' = 1)) 1146 ks ns S0 M2 [.ref 2102, .ref 0, .ref 127, .int (nI h)] []) : zB (zScr L xs) g l yL_law cL_law 4 ret 11 mc ms (zQi (fun r' _ => r' = 1)) 836 ks ns S0 M [.ref 2102, .ref 0, .ref 127, .int (nI h)] [] := by
  refine zb_aload_n dL_law_836 rfl ?_
  refine zb_iV0 (c_X11_forget g l I.1 I.2.1) mw_X11_forget lm_L_114 mi_X11_forget mv_X11_forget kX11 (by decide) (Nat.le_of_ble_eq_true rfl) hm k0_0 s0_0 dL_law_837 (fun r1 M1 q1 => ?_)
  refine zb_aload_n dL_law_840 rfl ?_
  have D1 : RelM M1 A := I.2.2.far q1.2.2 I.1.u
  refine zb_iV0 (c_X12_forget g l I.1 D1) mw_X12_forget lm_L_117 mi_X12_forget mv_X12_forget kX12 (by decide) (Nat.le_of_ble_eq_true rfl) hm k0_127 s0_127 dL_law_841 (fun r2 M2 q2 => ?_)
  obtain ⟨e1, e2⟩ := both_s (sForget_ok I.1) q1 q2
  refine zb_icmp_eq (tgt := 1146) dL_law_844 (by decide) (fun _ => ?_) (fun b => absurd e1 b)
  exact again _ _ e2

set_option maxRecDepth 100000 in
set_option maxHeartbeats 4000000 in
theorem law_kinds (g : zG) (l : Launch) {L : Nat} {xs : Nat → Int32} {ks ns mc ms : Nat} (hm : ks ≤ mc ∧ ns ≤ ms) (hL : L ≤ 384) {h : Nat} (hh : h + 6 ≤ L) {M : zM} {A : aSt} (I : zInv M A) (again : ∀ (M2 : zM) (A2 : aSt), zInv M2 A2 → zB (zScr L xs) g l yL_law cL_law 4 ret 11 mc ms (zQi (fun r' _ => r' = 1)) 1146 ks ns S0 M2 [.ref 2102, .ref 0, .ref 127, .int (nI h)] []) : zB (zScr L xs) g l yL_law cL_law 4 ret 11 mc ms (zQi (fun r' _ => r' = 1)) 849 ks ns S0 M [.ref 2102, .ref 0, .ref 127, .int (nI h)] [] := by
  refine zb_aload_n dL_law_849 rfl ?_
  refine zb_iV0 (c_X11_kinds g l I.1 I.2.1) mw_X11_kinds lm_L_118 mi_X11_kinds mv_X11_kinds kX11 (by decide) (Nat.le_of_ble_eq_true rfl) hm k0_0 s0_0 dL_law_850 (fun r1 M1 q1 => ?_)
  refine zb_aload_n dL_law_853 rfl ?_
  have D1 : RelM M1 A := I.2.2.far q1.2.2 I.1.u
  refine zb_iV0 (c_X12_kinds g l I.1 D1) mw_X12_kinds lm_L_121 mi_X12_kinds mv_X12_kinds kX12 (by decide) (Nat.le_of_ble_eq_true rfl) hm k0_127 s0_127 dL_law_854 (fun r2 M2 q2 => ?_)
  have q3 : zAnsM M1 A (fKinds (aSeen A) A.v 5) r2 M2 := ⟨q2.1, by rw [q2.2]; exact D1, fun k a => by rw [q2.2]⟩
  obtain ⟨e1, e2⟩ := both_a I.1 q1 q3
  refine zb_icmp_eq (tgt := 1146) dL_law_857 (by decide) (fun _ => ?_) (fun b => absurd e1 b)
  exact again _ _ e2

set_option maxRecDepth 100000 in
set_option maxHeartbeats 4000000 in
theorem law_ask (g : zG) (l : Launch) {L : Nat} {xs : Nat → Int32} {ks ns mc ms : Nat} (hm : ks ≤ mc ∧ ns ≤ ms) (hL : L ≤ 384) {h : Nat} (hh : h + 6 ≤ L) {M : zM} {A : aSt} (I : zInv M A) (again : ∀ (M2 : zM) (A2 : aSt), zInv M2 A2 → zB (zScr L xs) g l yL_law cL_law 4 ret 11 mc ms (zQi (fun r' _ => r' = 1)) 1146 ks ns S0 M2 [.ref 2102, .ref 0, .ref 127, .int (nI h)] []) : zB (zScr L xs) g l yL_law cL_law 4 ret 11 mc ms (zQi (fun r' _ => r' = 1)) 862 ks ns S0 M [.ref 2102, .ref 0, .ref 127, .int (nI h)] [] := by
  refine zb_aload_n dL_law_862 rfl ?_
  refine zb_iV0 (c_X11_ask g l I.1 I.2.1) mw_X11_ask lm_L_122 mi_X11_ask mv_X11_ask kX11 (by decide) (Nat.le_of_ble_eq_true rfl) hm k0_0 s0_0 dL_law_863 (fun r1 M1 q1 => ?_)
  refine zb_aload_n dL_law_866 rfl ?_
  have D1 : RelM M1 A := I.2.2.far q1.2.2 I.1.u
  refine zb_iV0 (c_X12_ask g l I.1 D1) mw_X12_ask lm_L_125 mi_X12_ask mv_X12_ask kX12 (by decide) (Nat.le_of_ble_eq_true rfl) hm k0_127 s0_127 dL_law_867 (fun r2 M2 q2 => ?_)
  have q3 : zAnsM M1 A ((fAsk (fKinds (aSeen A) A.v 5) 9).1) r2 M2 := ⟨q2.1, by rw [q2.2]; exact D1, fun k a => by rw [q2.2]⟩
  obtain ⟨e1, e2⟩ := both_a I.1 q1 q3
  refine zb_icmp_eq (tgt := 1146) dL_law_870 (by decide) (fun _ => ?_) (fun b => absurd e1 b)
  exact again _ _ e2

set_option maxRecDepth 100000 in
set_option maxHeartbeats 4000000 in
theorem law_book (g : zG) (l : Launch) {L : Nat} {xs : Nat → Int32} {ks ns mc ms : Nat} (hm : ks ≤ mc ∧ ns ≤ ms) (hL : L ≤ 384) {h : Nat} (hh : h + 6 ≤ L) {M : zM} {A : aSt} (I : zInv M A) (again : ∀ (M2 : zM) (A2 : aSt), zInv M2 A2 → zB (zScr L xs) g l yL_law cL_law 4 ret 11 mc ms (zQi (fun r' _ => r' = 1)) 1146 ks ns S0 M2 [.ref 2102, .ref 0, .ref 127, .int (nI h)] []) : zB (zScr L xs) g l yL_law cL_law 4 ret 11 mc ms (zQi (fun r' _ => r' = 1)) 875 ks ns S0 M [.ref 2102, .ref 0, .ref 127, .int (nI h)] [] := by
  refine zb_aload_n dL_law_875 rfl ?_
  refine zb_aload_n dL_law_876 rfl ?_
  refine zb_iload_n dL_law_877 rfl ?_
  refine zb_iconst (v := 1) dL_law_878 (by decide) ?_
  refine zb_iaddN (a := h) (b := 1) rfl rfl dL_law_879 ?_
  refine zb_sld (j := h + 1) rfl (by omega) hL dL_law_880 ?_
  refine zb_aload_n dL_law_881 rfl ?_
  refine zb_iload_n dL_law_882 rfl ?_
  refine zb_iconst (v := 2) dL_law_883 (by decide) ?_
  refine zb_iaddN (a := h) (b := 2) rfl rfl dL_law_884 ?_
  refine zb_sld (j := h + 2) rfl (by omega) hL dL_law_885 ?_
  refine zb_iV2 (c_X11_book g l I.1 I.2.1) mw_X11_book lm_L_126 mi_X11_book mv_X11_book kX11 (by decide) (Nat.le_of_ble_eq_true rfl) hm k0_0 s0_0 dL_law_886 (fun r1 M1 q1 => ?_)
  refine zb_aload_n dL_law_889 rfl ?_
  refine zb_aload_n dL_law_890 rfl ?_
  refine zb_iload_n dL_law_891 rfl ?_
  refine zb_iconst (v := 1) dL_law_892 (by decide) ?_
  refine zb_iaddN (a := h) (b := 1) rfl rfl dL_law_893 ?_
  refine zb_sld (j := h + 1) rfl (by omega) hL dL_law_894 ?_
  refine zb_aload_n dL_law_895 rfl ?_
  refine zb_iload_n dL_law_896 rfl ?_
  refine zb_iconst (v := 2) dL_law_897 (by decide) ?_
  refine zb_iaddN (a := h) (b := 2) rfl rfl dL_law_898 ?_
  refine zb_sld (j := h + 2) rfl (by omega) hL dL_law_899 ?_
  have D1 : RelM M1 A := I.2.2.far q1.2.2 I.1.u
  refine zb_iV2 (c_X12_book g l I.1 D1) mw_X12_book lm_L_129 mi_X12_book mv_X12_book kX12 (by decide) (Nat.le_of_ble_eq_true rfl) hm k0_127 s0_127 dL_law_900 (fun r2 M2 q2 => ?_)
  obtain ⟨e1, e2⟩ := both_s (sBook_ok I.1 _ _) q1 q2
  refine zb_icmp_eq (tgt := 1146) dL_law_903 (by decide) (fun _ => ?_) (fun b => absurd e1 b)
  exact again _ _ e2

set_option maxRecDepth 100000 in
set_option maxHeartbeats 4000000 in
theorem law_enter (g : zG) (l : Launch) {L : Nat} {xs : Nat → Int32} {ks ns mc ms : Nat} (hm : ks ≤ mc ∧ ns ≤ ms) (hL : L ≤ 384) {h : Nat} (hh : h + 6 ≤ L) {M : zM} {A : aSt} (I : zInv M A) (again : ∀ (M2 : zM) (A2 : aSt), zInv M2 A2 → zB (zScr L xs) g l yL_law cL_law 4 ret 11 mc ms (zQi (fun r' _ => r' = 1)) 1146 ks ns S0 M2 [.ref 2102, .ref 0, .ref 127, .int (nI h)] []) : zB (zScr L xs) g l yL_law cL_law 4 ret 11 mc ms (zQi (fun r' _ => r' = 1)) 908 ks ns S0 M [.ref 2102, .ref 0, .ref 127, .int (nI h)] [] := by
  refine zb_aload_n dL_law_908 rfl ?_
  refine zb_aload_n dL_law_909 rfl ?_
  refine zb_iload_n dL_law_910 rfl ?_
  refine zb_iconst (v := 1) dL_law_911 (by decide) ?_
  refine zb_iaddN (a := h) (b := 1) rfl rfl dL_law_912 ?_
  refine zb_sld (j := h + 1) rfl (by omega) hL dL_law_913 ?_
  refine zb_aload_n dL_law_914 rfl ?_
  refine zb_iload_n dL_law_915 rfl ?_
  refine zb_iconst (v := 2) dL_law_916 (by decide) ?_
  refine zb_iaddN (a := h) (b := 2) rfl rfl dL_law_917 ?_
  refine zb_sld (j := h + 2) rfl (by omega) hL dL_law_918 ?_
  refine zb_aload_n dL_law_919 rfl ?_
  refine zb_iload_n dL_law_920 rfl ?_
  refine zb_iconst (v := 3) dL_law_921 (by decide) ?_
  refine zb_iaddN (a := h) (b := 3) rfl rfl dL_law_922 ?_
  refine zb_sld (j := h + 3) rfl (by omega) hL dL_law_923 ?_
  refine zb_aload_n dL_law_924 rfl ?_
  refine zb_iload_n dL_law_925 rfl ?_
  refine zb_iconst (v := 4) dL_law_926 (by decide) ?_
  refine zb_iaddN (a := h) (b := 4) rfl rfl dL_law_927 ?_
  refine zb_sld (j := h + 4) rfl (by omega) hL dL_law_928 ?_
  refine zb_iV4 (c_X11_enter g l I.1 I.2.1) mw_X11_enter lm_L_130 mi_X11_enter mv_X11_enter kX11 (by decide) (Nat.le_of_ble_eq_true rfl) hm k0_0 s0_0 dL_law_929 (fun r1 M1 q1 => ?_)
  refine zb_aload_n dL_law_932 rfl ?_
  refine zb_aload_n dL_law_933 rfl ?_
  refine zb_iload_n dL_law_934 rfl ?_
  refine zb_iconst (v := 1) dL_law_935 (by decide) ?_
  refine zb_iaddN (a := h) (b := 1) rfl rfl dL_law_936 ?_
  refine zb_sld (j := h + 1) rfl (by omega) hL dL_law_937 ?_
  refine zb_aload_n dL_law_938 rfl ?_
  refine zb_iload_n dL_law_939 rfl ?_
  refine zb_iconst (v := 2) dL_law_940 (by decide) ?_
  refine zb_iaddN (a := h) (b := 2) rfl rfl dL_law_941 ?_
  refine zb_sld (j := h + 2) rfl (by omega) hL dL_law_942 ?_
  refine zb_aload_n dL_law_943 rfl ?_
  refine zb_iload_n dL_law_944 rfl ?_
  refine zb_iconst (v := 3) dL_law_945 (by decide) ?_
  refine zb_iaddN (a := h) (b := 3) rfl rfl dL_law_946 ?_
  refine zb_sld (j := h + 3) rfl (by omega) hL dL_law_947 ?_
  refine zb_aload_n dL_law_948 rfl ?_
  refine zb_iload_n dL_law_949 rfl ?_
  refine zb_iconst (v := 4) dL_law_950 (by decide) ?_
  refine zb_iaddN (a := h) (b := 4) rfl rfl dL_law_951 ?_
  refine zb_sld (j := h + 4) rfl (by omega) hL dL_law_952 ?_
  have D1 : RelM M1 A := I.2.2.far q1.2.2 I.1.u
  refine zb_iV4 (c_X12_enter g l I.1 D1) mw_X12_enter lm_L_133 mi_X12_enter mv_X12_enter kX12 (by decide) (Nat.le_of_ble_eq_true rfl) hm k0_127 s0_127 dL_law_953 (fun r2 M2 q2 => ?_)
  obtain ⟨e1, e2⟩ := both_s (sEnter_ok I.1 _ _ _ _) q1 q2
  refine zb_icmp_eq (tgt := 1146) dL_law_956 (by decide) (fun _ => ?_) (fun b => absurd e1 b)
  exact again _ _ e2

set_option maxRecDepth 100000 in
set_option maxHeartbeats 4000000 in
theorem law_read (g : zG) (l : Launch) {L : Nat} {xs : Nat → Int32} {ks ns mc ms : Nat} (hm : ks ≤ mc ∧ ns ≤ ms) (hL : L ≤ 384) {h : Nat} (hh : h + 6 ≤ L) {M : zM} {A : aSt} (I : zInv M A) (again : ∀ (M2 : zM) (A2 : aSt), zInv M2 A2 → zB (zScr L xs) g l yL_law cL_law 4 ret 11 mc ms (zQi (fun r' _ => r' = 1)) 1146 ks ns S0 M2 [.ref 2102, .ref 0, .ref 127, .int (nI h)] []) : zB (zScr L xs) g l yL_law cL_law 4 ret 11 mc ms (zQi (fun r' _ => r' = 1)) 961 ks ns S0 M [.ref 2102, .ref 0, .ref 127, .int (nI h)] [] := by
  refine zb_aload_n dL_law_961 rfl ?_
  refine zb_aload_n dL_law_962 rfl ?_
  refine zb_iload_n dL_law_963 rfl ?_
  refine zb_iconst (v := 1) dL_law_964 (by decide) ?_
  refine zb_iaddN (a := h) (b := 1) rfl rfl dL_law_965 ?_
  refine zb_sld (j := h + 1) rfl (by omega) hL dL_law_966 ?_
  refine zb_aload_n dL_law_967 rfl ?_
  refine zb_iload_n dL_law_968 rfl ?_
  refine zb_iconst (v := 2) dL_law_969 (by decide) ?_
  refine zb_iaddN (a := h) (b := 2) rfl rfl dL_law_970 ?_
  refine zb_sld (j := h + 2) rfl (by omega) hL dL_law_971 ?_
  refine zb_aload_n dL_law_972 rfl ?_
  refine zb_iload_n dL_law_973 rfl ?_
  refine zb_iconst (v := 3) dL_law_974 (by decide) ?_
  refine zb_iaddN (a := h) (b := 3) rfl rfl dL_law_975 ?_
  refine zb_sld (j := h + 3) rfl (by omega) hL dL_law_976 ?_
  refine zb_iV3 (c_X11_read g l I.1 I.2.1) mw_X11_read lm_L_134 mi_X11_read mv_X11_read kX11 (by decide) (Nat.le_of_ble_eq_true rfl) hm k0_0 s0_0 dL_law_977 (fun r1 M1 q1 => ?_)
  refine zb_aload_n dL_law_980 rfl ?_
  refine zb_aload_n dL_law_981 rfl ?_
  refine zb_iload_n dL_law_982 rfl ?_
  refine zb_iconst (v := 1) dL_law_983 (by decide) ?_
  refine zb_iaddN (a := h) (b := 1) rfl rfl dL_law_984 ?_
  refine zb_sld (j := h + 1) rfl (by omega) hL dL_law_985 ?_
  refine zb_aload_n dL_law_986 rfl ?_
  refine zb_iload_n dL_law_987 rfl ?_
  refine zb_iconst (v := 2) dL_law_988 (by decide) ?_
  refine zb_iaddN (a := h) (b := 2) rfl rfl dL_law_989 ?_
  refine zb_sld (j := h + 2) rfl (by omega) hL dL_law_990 ?_
  refine zb_aload_n dL_law_991 rfl ?_
  refine zb_iload_n dL_law_992 rfl ?_
  refine zb_iconst (v := 3) dL_law_993 (by decide) ?_
  refine zb_iaddN (a := h) (b := 3) rfl rfl dL_law_994 ?_
  refine zb_sld (j := h + 3) rfl (by omega) hL dL_law_995 ?_
  have D1 : RelM M1 A := I.2.2.far q1.2.2 I.1.u
  refine zb_iV3 (c_X12_read g l I.1 D1) mw_X12_read lm_L_137 mi_X12_read mv_X12_read kX12 (by decide) (Nat.le_of_ble_eq_true rfl) hm k0_127 s0_127 dL_law_996 (fun r2 M2 q2 => ?_)
  obtain ⟨e1, e2⟩ := both_a I.1 q1 q2
  refine zb_icmp_eq (tgt := 1146) dL_law_999 (by decide) (fun _ => ?_) (fun b => absurd e1 b)
  exact again _ _ e2

set_option maxRecDepth 100000 in
set_option maxHeartbeats 4000000 in
theorem law_weigh (g : zG) (l : Launch) {L : Nat} {xs : Nat → Int32} {ks ns mc ms : Nat} (hm : ks ≤ mc ∧ ns ≤ ms) (hL : L ≤ 384) {h : Nat} (hh : h + 6 ≤ L) {M : zM} {A : aSt} (I : zInv M A) (again : ∀ (M2 : zM) (A2 : aSt), zInv M2 A2 → zB (zScr L xs) g l yL_law cL_law 4 ret 11 mc ms (zQi (fun r' _ => r' = 1)) 1146 ks ns S0 M2 [.ref 2102, .ref 0, .ref 127, .int (nI h)] []) : zB (zScr L xs) g l yL_law cL_law 4 ret 11 mc ms (zQi (fun r' _ => r' = 1)) 1004 ks ns S0 M [.ref 2102, .ref 0, .ref 127, .int (nI h)] [] := by
  refine zb_aload_n dL_law_1004 rfl ?_
  refine zb_aload_n dL_law_1005 rfl ?_
  refine zb_iload_n dL_law_1006 rfl ?_
  refine zb_iconst (v := 1) dL_law_1007 (by decide) ?_
  refine zb_iaddN (a := h) (b := 1) rfl rfl dL_law_1008 ?_
  refine zb_sld (j := h + 1) rfl (by omega) hL dL_law_1009 ?_
  refine zb_aload_n dL_law_1010 rfl ?_
  refine zb_iload_n dL_law_1011 rfl ?_
  refine zb_iconst (v := 2) dL_law_1012 (by decide) ?_
  refine zb_iaddN (a := h) (b := 2) rfl rfl dL_law_1013 ?_
  refine zb_sld (j := h + 2) rfl (by omega) hL dL_law_1014 ?_
  refine zb_iV2 (c_X11_weigh g l I.1 I.2.1) mw_X11_weigh lm_L_138 mi_X11_weigh mv_X11_weigh kX11 (by decide) (Nat.le_of_ble_eq_true rfl) hm k0_0 s0_0 dL_law_1015 (fun r1 M1 q1 => ?_)
  refine zb_aload_n dL_law_1018 rfl ?_
  refine zb_aload_n dL_law_1019 rfl ?_
  refine zb_iload_n dL_law_1020 rfl ?_
  refine zb_iconst (v := 1) dL_law_1021 (by decide) ?_
  refine zb_iaddN (a := h) (b := 1) rfl rfl dL_law_1022 ?_
  refine zb_sld (j := h + 1) rfl (by omega) hL dL_law_1023 ?_
  refine zb_aload_n dL_law_1024 rfl ?_
  refine zb_iload_n dL_law_1025 rfl ?_
  refine zb_iconst (v := 2) dL_law_1026 (by decide) ?_
  refine zb_iaddN (a := h) (b := 2) rfl rfl dL_law_1027 ?_
  refine zb_sld (j := h + 2) rfl (by omega) hL dL_law_1028 ?_
  have D1 : RelM M1 A := I.2.2.far q1.2.2 I.1.u
  refine zb_iV2 (c_X12_weigh g l I.1 D1) mw_X12_weigh lm_L_141 mi_X12_weigh mv_X12_weigh kX12 (by decide) (Nat.le_of_ble_eq_true rfl) hm k0_127 s0_127 dL_law_1029 (fun r2 M2 q2 => ?_)
  obtain ⟨e1, e2⟩ := both_a I.1 q1 q2
  refine zb_icmp_eq (tgt := 1146) dL_law_1032 (by decide) (fun _ => ?_) (fun b => absurd e1 b)
  exact again _ _ e2

set_option maxRecDepth 100000 in
set_option maxHeartbeats 4000000 in
theorem law_copy (g : zG) (l : Launch) {L : Nat} {xs : Nat → Int32} {ks ns mc ms : Nat} (hm : ks ≤ mc ∧ ns ≤ ms) (hL : L ≤ 384) {h : Nat} (hh : h + 6 ≤ L) {M : zM} {A : aSt} (I : zInv M A) (again : ∀ (M2 : zM) (A2 : aSt), zInv M2 A2 → zB (zScr L xs) g l yL_law cL_law 4 ret 11 mc ms (zQi (fun r' _ => r' = 1)) 1146 ks ns S0 M2 [.ref 2102, .ref 0, .ref 127, .int (nI h)] []) : zB (zScr L xs) g l yL_law cL_law 4 ret 11 mc ms (zQi (fun r' _ => r' = 1)) 1037 ks ns S0 M [.ref 2102, .ref 0, .ref 127, .int (nI h)] [] := by
  refine zb_aload_n dL_law_1037 rfl ?_
  refine zb_aload_n dL_law_1038 rfl ?_
  refine zb_iload_n dL_law_1039 rfl ?_
  refine zb_iconst (v := 1) dL_law_1040 (by decide) ?_
  refine zb_iaddN (a := h) (b := 1) rfl rfl dL_law_1041 ?_
  refine zb_sld (j := h + 1) rfl (by omega) hL dL_law_1042 ?_
  refine zb_aload_n dL_law_1043 rfl ?_
  refine zb_iload_n dL_law_1044 rfl ?_
  refine zb_iconst (v := 2) dL_law_1045 (by decide) ?_
  refine zb_iaddN (a := h) (b := 2) rfl rfl dL_law_1046 ?_
  refine zb_sld (j := h + 2) rfl (by omega) hL dL_law_1047 ?_
  refine zb_aload_n dL_law_1048 rfl ?_
  refine zb_iload_n dL_law_1049 rfl ?_
  refine zb_iconst (v := 3) dL_law_1050 (by decide) ?_
  refine zb_iaddN (a := h) (b := 3) rfl rfl dL_law_1051 ?_
  refine zb_sld (j := h + 3) rfl (by omega) hL dL_law_1052 ?_
  refine zb_aload_n dL_law_1053 rfl ?_
  refine zb_iload_n dL_law_1054 rfl ?_
  refine zb_iconst (v := 4) dL_law_1055 (by decide) ?_
  refine zb_iaddN (a := h) (b := 4) rfl rfl dL_law_1056 ?_
  refine zb_sld (j := h + 4) rfl (by omega) hL dL_law_1057 ?_
  refine zb_aload_n dL_law_1058 rfl ?_
  refine zb_iload_n dL_law_1059 rfl ?_
  refine zb_iconst (v := 5) dL_law_1060 (by decide) ?_
  refine zb_iaddN (a := h) (b := 5) rfl rfl dL_law_1061 ?_
  refine zb_sld (j := h + 5) rfl (by omega) hL dL_law_1062 ?_
  refine zb_iV5 (c_X11_copy g l I.1 I.2.1) mw_X11_copy lm_L_142 mi_X11_copy mv_X11_copy kX11 (by decide) (Nat.le_of_ble_eq_true rfl) hm k0_0 s0_0 dL_law_1063 (fun r1 M1 q1 => ?_)
  refine zb_aload_n dL_law_1066 rfl ?_
  refine zb_aload_n dL_law_1067 rfl ?_
  refine zb_iload_n dL_law_1068 rfl ?_
  refine zb_iconst (v := 1) dL_law_1069 (by decide) ?_
  refine zb_iaddN (a := h) (b := 1) rfl rfl dL_law_1070 ?_
  refine zb_sld (j := h + 1) rfl (by omega) hL dL_law_1071 ?_
  refine zb_aload_n dL_law_1072 rfl ?_
  refine zb_iload_n dL_law_1073 rfl ?_
  refine zb_iconst (v := 2) dL_law_1074 (by decide) ?_
  refine zb_iaddN (a := h) (b := 2) rfl rfl dL_law_1075 ?_
  refine zb_sld (j := h + 2) rfl (by omega) hL dL_law_1076 ?_
  refine zb_aload_n dL_law_1077 rfl ?_
  refine zb_iload_n dL_law_1078 rfl ?_
  refine zb_iconst (v := 3) dL_law_1079 (by decide) ?_
  refine zb_iaddN (a := h) (b := 3) rfl rfl dL_law_1080 ?_
  refine zb_sld (j := h + 3) rfl (by omega) hL dL_law_1081 ?_
  refine zb_aload_n dL_law_1082 rfl ?_
  refine zb_iload_n dL_law_1083 rfl ?_
  refine zb_iconst (v := 4) dL_law_1084 (by decide) ?_
  refine zb_iaddN (a := h) (b := 4) rfl rfl dL_law_1085 ?_
  refine zb_sld (j := h + 4) rfl (by omega) hL dL_law_1086 ?_
  refine zb_aload_n dL_law_1087 rfl ?_
  refine zb_iload_n dL_law_1088 rfl ?_
  refine zb_iconst (v := 5) dL_law_1089 (by decide) ?_
  refine zb_iaddN (a := h) (b := 5) rfl rfl dL_law_1090 ?_
  refine zb_sld (j := h + 5) rfl (by omega) hL dL_law_1091 ?_
  have D1 : RelM M1 A := I.2.2.far q1.2.2 I.1.u
  refine zb_iV5 (c_X12_copy g l I.1 D1) mw_X12_copy lm_L_146 mi_X12_copy mv_X12_copy kX12 (by decide) (Nat.le_of_ble_eq_true rfl) hm k0_127 s0_127 dL_law_1092 (fun r2 M2 q2 => ?_)
  obtain ⟨e1, e2⟩ := both_s (sCopy_ok I.1 _ _ _ _ _) q1 q2
  refine zb_icmp_eq (tgt := 1146) dL_law_1095 (by decide) (fun _ => ?_) (fun b => absurd e1 b)
  exact again _ _ e2

set_option maxRecDepth 100000 in
set_option maxHeartbeats 4000000 in
theorem law_drop (g : zG) (l : Launch) {L : Nat} {xs : Nat → Int32} {ks ns mc ms : Nat} (hm : ks ≤ mc ∧ ns ≤ ms) (hL : L ≤ 384) {h : Nat} (hh : h + 6 ≤ L) {M : zM} {A : aSt} (I : zInv M A) (again : ∀ (M2 : zM) (A2 : aSt), zInv M2 A2 → zB (zScr L xs) g l yL_law cL_law 4 ret 11 mc ms (zQi (fun r' _ => r' = 1)) 1146 ks ns S0 M2 [.ref 2102, .ref 0, .ref 127, .int (nI h)] []) : zB (zScr L xs) g l yL_law cL_law 4 ret 11 mc ms (zQi (fun r' _ => r' = 1)) 1100 ks ns S0 M [.ref 2102, .ref 0, .ref 127, .int (nI h)] [] := by
  refine zb_aload_n dL_law_1100 rfl ?_
  refine zb_aload_n dL_law_1101 rfl ?_
  refine zb_iload_n dL_law_1102 rfl ?_
  refine zb_iconst (v := 1) dL_law_1103 (by decide) ?_
  refine zb_iaddN (a := h) (b := 1) rfl rfl dL_law_1104 ?_
  refine zb_sld (j := h + 1) rfl (by omega) hL dL_law_1105 ?_
  refine zb_iV1 (c_X11_drop g l I.1 I.2.1) mw_X11_drop lm_L_147 mi_X11_drop mv_X11_drop kX11 (by decide) (Nat.le_of_ble_eq_true rfl) hm k0_0 s0_0 dL_law_1106 (fun r1 M1 q1 => ?_)
  refine zb_aload_n dL_law_1109 rfl ?_
  refine zb_aload_n dL_law_1110 rfl ?_
  refine zb_iload_n dL_law_1111 rfl ?_
  refine zb_iconst (v := 1) dL_law_1112 (by decide) ?_
  refine zb_iaddN (a := h) (b := 1) rfl rfl dL_law_1113 ?_
  refine zb_sld (j := h + 1) rfl (by omega) hL dL_law_1114 ?_
  have D1 : RelM M1 A := I.2.2.far q1.2.2 I.1.u
  refine zb_iV1 (c_X12_drop g l I.1 D1) mw_X12_drop lm_L_150 mi_X12_drop mv_X12_drop kX12 (by decide) (Nat.le_of_ble_eq_true rfl) hm k0_127 s0_127 dL_law_1115 (fun r2 M2 q2 => ?_)
  obtain ⟨e1, e2⟩ := both_s (sDrop_ok I.1 _) q1 q2
  refine zb_icmp_eq (tgt := 1146) dL_law_1118 (by decide) (fun _ => ?_) (fun b => absurd e1 b)
  exact again _ _ e2

set_option maxRecDepth 100000 in
set_option maxHeartbeats 4000000 in
theorem law_count (g : zG) (l : Launch) {L : Nat} {xs : Nat → Int32} {ks ns mc ms : Nat} (hm : ks ≤ mc ∧ ns ≤ ms) (hL : L ≤ 384) {h : Nat} (hh : h + 6 ≤ L) {M : zM} {A : aSt} (I : zInv M A) (again : ∀ (M2 : zM) (A2 : aSt), zInv M2 A2 → zB (zScr L xs) g l yL_law cL_law 4 ret 11 mc ms (zQi (fun r' _ => r' = 1)) 1146 ks ns S0 M2 [.ref 2102, .ref 0, .ref 127, .int (nI h)] []) : zB (zScr L xs) g l yL_law cL_law 4 ret 11 mc ms (zQi (fun r' _ => r' = 1)) 1123 ks ns S0 M [.ref 2102, .ref 0, .ref 127, .int (nI h)] [] := by
  refine zb_aload_n dL_law_1123 rfl ?_
  refine zb_aload_n dL_law_1124 rfl ?_
  refine zb_iload_n dL_law_1125 rfl ?_
  refine zb_iconst (v := 1) dL_law_1126 (by decide) ?_
  refine zb_iaddN (a := h) (b := 1) rfl rfl dL_law_1127 ?_
  refine zb_sld (j := h + 1) rfl (by omega) hL dL_law_1128 ?_
  refine zb_iV1 (c_X11_count g l I.1 I.2.1) mw_X11_count lm_L_151 mi_X11_count mv_X11_count kX11 (by decide) (Nat.le_of_ble_eq_true rfl) hm k0_0 s0_0 dL_law_1129 (fun r1 M1 q1 => ?_)
  refine zb_aload_n dL_law_1132 rfl ?_
  refine zb_aload_n dL_law_1133 rfl ?_
  refine zb_iload_n dL_law_1134 rfl ?_
  refine zb_iconst (v := 1) dL_law_1135 (by decide) ?_
  refine zb_iaddN (a := h) (b := 1) rfl rfl dL_law_1136 ?_
  refine zb_sld (j := h + 1) rfl (by omega) hL dL_law_1137 ?_
  have D1 : RelM M1 A := I.2.2.far q1.2.2 I.1.u
  refine zb_iV1 (c_X12_count g l I.1 D1) mw_X12_count lm_L_154 mi_X12_count mv_X12_count kX12 (by decide) (Nat.le_of_ble_eq_true rfl) hm k0_127 s0_127 dL_law_1138 (fun r2 M2 q2 => ?_)
  obtain ⟨e1, e2⟩ := both_a I.1 q1 q2
  refine zb_icmp_eq (tgt := 1146) dL_law_1141 (by decide) (fun _ => ?_) (fun b => absurd e1 b)
  exact again _ _ e2

theorem law_lt {L h : Nat} (hL : L ≤ 384) (hh : h ≤ L + 6) (b : ¬ nI L - 6 < nI h) : h + 6 ≤ L := by
  rcases Nat.lt_or_ge L 6 with c | c
  · refine absurd ?_ b
    rw [Int32.lt_iff_toInt_lt, nI_toInt (show h < 2147483648 by omega), Int32.toInt_sub, nI_toInt (show L < 2147483648 by omega), show (6 : Int32).toInt = 6 by decide, Int.bmod_def]
    split <;> omega
  · rw [show (6 : Int32) = nI 6 from rfl, nI_subs c] at b
    have h2 : ¬ L - 6 < h := fun z => b ((nI_ltI (a := L - 6) (b := h) (by omega) (by omega)).mpr z)
    omega
set_option maxRecDepth 100000 in
set_option maxHeartbeats 4000000 in
theorem law_loop (g : zG) (l : Launch) {L : Nat} {xs : Nat → Int32} {ks ns mc ms : Nat} (hm : ks ≤ mc ∧ ns ≤ ms) (hL : L ≤ 384) : ∀ (k h : Nat) (M : zM) (A : aSt), h ≤ L + 6 → L + 6 - h < k → zInv M A → zB (zScr L xs) g l yL_law cL_law 4 ret 11 mc ms (zQi (fun r' _ => r' = 1)) 18 ks ns S0 M [.ref 2102, .ref 0, .ref 127, .int (nI h)] [] := by
  intro k
  induction k with
  | zero => intro h M A hh hk; exact absurd hk (Nat.not_lt_zero _)
  | succ k ih =>
    intro h M A hh hk I
    refine zb_iload_n dL_law_18 rfl ?_
    refine zb_aload_n dL_law_19 rfl ?_
    refine zb_slen dL_law_20 ?_
    refine zb_bipush (v := 6) dL_law_21 (by decide) ?_
    refine zb_isub dL_law_23 ?_
    refine zb_icmp_gt (tgt := 1152) dL_law_24 (by decide) (fun b24 => ?_) (fun b24 => ?_)
    · refine zb_iconst (v := 1) dL_law_1152 (by decide) ?_
      exact zb_ireturn dL_law_1153 rfl rfl hm.1 hm.2 ⟨rfl, 1, rfl, rfl⟩
    · have hn : h + 6 ≤ L := law_lt hL hh b24
      have again : ∀ (M2 : zM) (A2 : aSt), zInv M2 A2 → zB (zScr L xs) g l yL_law cL_law 4 ret 11 mc ms (zQi (fun r' _ => r' = 1)) 1146 ks ns S0 M2 [.ref 2102, .ref 0, .ref 127, .int (nI h)] [] := fun M2 A2 I2 => by
        refine zb_iinc (v := nI (h + 6)) dL_law_1146 rfl (nI_add h 6) (by decide) rfl rfl ?_
        refine zb_goto (tgt := 18) dL_law_1149 (by decide) ?_
        exact ih (h + 6) M2 A2 (by omega) (by omega) I2
      refine zb_aload_n dL_law_27 rfl ?_
      refine zb_iload_n dL_law_28 rfl ?_
      refine zb_sld (j := h) rfl (by omega) hL dL_law_29 ?_
      refine zb_bipush (v := 63) dL_law_30 (by decide) ?_
      refine zb_iand dL_law_32 ?_
      refine zb_tsw (b := 0) (n := 34) (tg := [184, 207, 220, 233, 246, 279, 312, 335, 368, 391, 414, 437, 470, 503, 516, 539, 562, 585, 628, 661, 684, 707, 740, 793, 836, 849, 862, 875, 908, 961, 1004, 1037, 1100, 1123]) (tgt := 1146) dL_law_33 (by decide) (by decide) (by decide) (by decide) (by decide) (fun k33 hk33 s33 => ?_) (fun s33 => ?_)
      · match k33, hk33 with
        | 0, _ => exact law_write g l hm hL hn I again
        | 1, _ => exact law_erase g l hm hL hn I again
        | 2, _ => exact law_fault g l hm hL hn I again
        | 3, _ => exact law_road g l hm hL hn I again
        | 4, _ => exact law_hour g l hm hL hn I again
        | 5, _ => exact law_rider g l hm hL hn I again
        | 6, _ => exact law_inn g l hm hL hn I again
        | 7, _ => exact law_as g l hm hL hn I again
        | 8, _ => exact law_stage g l hm hL hn I again
        | 9, _ => exact law_oats g l hm hL hn I again
        | 10, _ => exact law_shoe g l hm hL hn I again
        | 11, _ => exact law_lead g l hm hL hn I again
        | 12, _ => exact law_turn g l hm hL hn I again
        | 13, _ => exact law_undo g l hm hL hn I again
        | 14, _ => exact law_keep g l hm hL hn I again
        | 15, _ => exact law_back g l hm hL hn I again
        | 16, _ => exact law_given g l hm hL hn I again
        | 17, _ => exact law_ahead g l hm hL hn I again
        | 18, _ => exact law_comes g l hm hL hn I again
        | 19, _ => exact law_match g l hm hL hn I again
        | 20, _ => exact law_fastest g l hm hL hn I again
        | 21, _ => exact law_feed g l hm hL hn I again
        | 22, _ => exact law_falls g l hm hL hn I again
        | 23, _ => exact law_seen g l hm hL hn I again
        | 24, _ => exact law_forget g l hm hL hn I again
        | 25, _ => exact law_kinds g l hm hL hn I again
        | 26, _ => exact law_ask g l hm hL hn I again
        | 27, _ => exact law_book g l hm hL hn I again
        | 28, _ => exact law_enter g l hm hL hn I again
        | 29, _ => exact law_read g l hm hL hn I again
        | 30, _ => exact law_weigh g l hm hL hn I again
        | 31, _ => exact law_copy g l hm hL hn I again
        | 32, _ => exact law_drop g l hm hL hn I again
        | 33, _ => exact law_count g l hm hL hn I again
        | k + 34, h34 => exact absurd h34 (by omega)
      · exact again M A I

