/-! ===== the constructors, each at its own place in the growing world ===== -/
def zEv : List (Nat × Nat × Nat) → Nat → Nat → Nat
  | [], _, _ => 0
  | e :: es, k, j => if k = e.1 then (if j = e.2.1 then e.2.2 else zEv es k j) else zEv es k j
abbrev zSt (n : Nat) (es : List (Nat × Nat × Nat)) : zS := (n, S0.2.1, zEv es)
def zQc (S : zS) (M : zM) : Option Value → zS → zM → Prop := fun v S' M' => v = none ∧ S' = S ∧ M' = M
theorem zEv_no : ∀ (es : List (Nat × Nat × Nat)) (k : Nat), es.all (fun e => e.1 != k) = true → zEv es k = fun _ => 0
  | [], _, _ => rfl
  | e :: es, k, h => by
    rw [List.all_cons, Bool.and_eq_true] at h
    have h1 : ¬ k = e.1 := fun z => by
      have h2 := h.1
      rw [z] at h2
      simp at h2
    funext j
    show (if k = e.1 then _ else zEv es k j) = 0
    rw [if_neg h1, zEv_no es k h.2]
theorem sn_new {n : Nat} {es : List (Nat × Nat × Nat)} {q : Nat × Nat} (hq : S0.2.1 n = q) (hz : es.all (fun e => e.1 != n) = true) : zSn (zSt n es) q = zSt (n + 1) es := by
  unfold zSn zSt
  refine Prod.ext rfl (Prod.ext ?_ ?_)
  · funext i
    show (if i = n then q else S0.2.1 i) = S0.2.1 i
    by_cases c : i = n
    · rw [if_pos c, c, hq]
    · rw [if_neg c]
  · funext i
    show (if i = n then (fun _ => 0) else zEv es i) = zEv es i
    by_cases c : i = n
    · rw [if_pos c, c, zEv_no es n hz]
    · rw [if_neg c]
theorem up_zEv (n : Nat) (es : List (Nat × Nat × Nat)) (k j x : Nat) : z_upR (zSt n es) k j x = zSt n ((k, j, x) :: es) := by
  unfold z_upR zSt
  refine Prod.ext rfl (Prod.ext rfl ?_)
  funext k' 
  show (if k' = k then _ else _) = _
  by_cases c : k' = k
  · rw [if_pos c]
    funext j'
    show (if j' = j then x else zEv es k j') = (if k' = k then (if j' = j then x else zEv es k' j') else zEv es k' j')
    rw [if_pos c, c]
  · rw [if_neg c]
    funext j'
    show zEv es k' j' = (if k' = k then (if j' = j then x else zEv es k' j') else zEv es k' j')
    rw [if_neg c]
theorem mn_z {n : Nat} {M : zM} (h : M n = fun _ => 0) : zMn n M = M := by
  funext i
  unfold zMn
  by_cases c : i = n
  · rw [if_pos c, c, h]
  · rw [if_neg c]
section ZINIT
variable {g : zG} {l : Launch} {y : MethodName} {cc : ByteArray} {nL : Nat} {ret : Option FieldType} {d mc ms : Nat} {P : Option Value → zS → zM → Prop} {pc ks ns : Nat} {M : zM} {lo st : List Value}
variable {ci N k j index n : Nat} {es : List (Nat × Nat × Nat)} {C : String} {T : u_T} {t0 : Nat → FieldType}
theorem zi_new (K : zCls ci C T N t0) (hcl : Cond.classLink y.cls index C ∈ zW) (hinst : Cond.instantiable C N ∈ zW) (hini : Cond.initialized C ∈ zW) (hdef : ∀ j, j < N → defaultValue (t0 j) = (if zIr ci j = true then .null else .int 0)) (hS : n < 1000) (hmc : ks + 1 ≤ mc) (hms : ns + N ≤ ms)
    (hdg : decode cc pc = .ok (.new index, 3)) (hq : S0.2.1 n = (ci, N)) (hz : es.all (fun e => e.1 != n) = true) (hM : M n = fun _ => 0) (kk : zA g l y cc nL ret d mc ms P (pc + 3) (ks + 1) (ns + N) (zSt (n + 1) es) M lo (.ref n :: st)) : zA g l y cc nL ret d mc ms P pc ks ns (zSt n es) M lo st := by
  refine z_new K hcl hinst hini hdef hS hmc hms hdg ?_
  rw [sn_new hq hz]
  show zA g l y cc nL ret d mc ms P (pc + 3) (ks + 1) (ns + N) (zSt (n + 1) es) (zMn n M) lo (.ref n :: st)
  rw [mn_z hM]
  exact kk
theorem zi_newa {atype : ArrayType} {x : Int32} {q n' : Nat} (hq0 : q = 20 ∧ newarray.typeOf atype = .int ∨ q = 21 ∧ newarray.typeOf atype = .boolean) (harr : Cond.arrayClass (newarray.typeOf atype) ∈ zW) (hn : x = nI n') (hn2 : n' < 1000) (hS : n < 1000) (hmc : ks + 1 ≤ mc) (hms : ns + n' ≤ ms)
    (hdg : decode cc pc = .ok (.newarray atype, 2)) (hq : S0.2.1 n = (q, n')) (hz : es.all (fun e => e.1 != n) = true) (hM : M n = fun _ => 0) (kk : zA g l y cc nL ret d mc ms P (pc + 2) (ks + 1) (ns + n') (zSt (n + 1) es) M lo (.ref n :: st)) : zA g l y cc nL ret d mc ms P pc ks ns (zSt n es) M lo (.int x :: st) := by
  refine z_newa hq0 harr hn hn2 hS hmc hms hdg ?_
  rw [sn_new hq hz]
  show zA g l y cc nL ret d mc ms P (pc + 2) (ks + 1) (ns + n') (zSt (n + 1) es) (zMn n M) lo (.ref n :: st)
  rw [mn_z hM]
  exact kk
theorem zi_anew {x : Int32} {q n' : Nat} {Cq : String} (hq0 : q = 22 ∧ Cq = "OstlerHours$Day" ∨ q = 23 ∧ Cq = "OstlerHours$Book") (hcl : Cond.classLink y.cls index Cq ∈ zW) (hn : x = nI n') (hn2 : n' < 1000) (hS : n < 1000) (hmc : ks + 1 ≤ mc) (hms : ns + n' ≤ ms)
    (hdg : decode cc pc = .ok (.anewarray index, 3)) (hq : S0.2.1 n = (q, n')) (hz : es.all (fun e => e.1 != n) = true) (hM : M n = fun _ => 0) (kk : zA g l y cc nL ret d mc ms P (pc + 3) (ks + 1) (ns + n') (zSt (n + 1) es) M lo (.ref n :: st)) : zA g l y cc nL ret d mc ms P pc ks ns (zSt n es) M lo (.int x :: st) := by
  refine z_anew hq0 hcl hn hn2 hS hmc hms hdg ?_
  rw [sn_new hq hz]
  show zA g l y cc nL ret d mc ms P (pc + 3) (ks + 1) (ns + n') (zSt (n + 1) es) (zMn n M) lo (.ref n :: st)
  rw [mn_z hM]
  exact kk
theorem zi_putF {r : Nat} {ty : FieldType} (K : zCls ci C T N t0) (hl : Cond.fieldLink y.cls index (T j).1 (T j).2.1 (T j).2.2.1 ∈ zW) (hj : j < N) (hir : zIr ci j = true) (hfin : (T j).2.2.2 = true) (hinit : y.name = "<init>") (hdecl : (T j).1 = y.cls) (hd : parseFieldDescriptor (T j).2.2.1 = some ty) (hn : ∀ a : Nat, narrow ty (.ref a) = .ref a) (hfit : ∀ a : Nat, fits ty (.ref a) = true)
    (hdg : decode cc pc = .ok (.putfield index, 3)) (hk : k < n) (hs : S0.2.1 k = (ci, N)) (hr2 : r < 1000)
    (kk : zA g l y cc nL ret d mc ms P (pc + 3) ks ns (zSt n ((k, j, r + 1) :: es)) M lo st) : zA g l y cc nL ret d mc ms P pc ks ns (zSt n es) M lo (.ref r :: .ref k :: st) := by
  refine z_putF K hl hj hir hfin hinit hdecl hd hn hfit hdg hk hs hr2 ?_
  rw [up_zEv]
  exact kk
theorem zi_aast {m q r cr Nr : Nat} {Cr : String} {Tr : u_T} {tr : Nat → FieldType} {i : Int32} (Kr : zCls cr Cr Tr Nr tr) (hdg : decode cc pc = .ok (.aastore, 1)) (hk : k < n) (hs : S0.2.1 k = (q, m)) (hq : q = 22 ∧ Cr = "OstlerHours$Day" ∨ q = 23 ∧ Cr = "OstlerHours$Book") (hi : i = nI j) (hj : j < m) (hj2 : m ≤ 1000) (hr : r < n) (hsr : S0.2.1 r = (cr, Nr))
    (kk : zA g l y cc nL ret d mc ms P (pc + 1) ks ns (zSt n ((k, j, r + 1) :: es)) M lo st) : zA g l y cc nL ret d mc ms P pc ks ns (zSt n es) M lo (.ref r :: .int i :: .ref k :: st) := by
  subst hi
  refine z_aast Kr hdg hk hs hq (vp_in_nI hj (by omega)) hr hsr ?_
  rw [nI_clamp (by omega), up_zEv]
  exact kk
end ZINIT

theorem dfX0 : ∀ j, j < 3 → defaultValue (tyX0 j) = (if zIr 0 j = true then .null else .int 0) := fun j hj => match j, hj with
  | 0, _ => rfl
  | 1, _ => rfl
  | 2, _ => rfl
  | j + 3, h => absurd h (by omega)
theorem dfX1 : ∀ j, j < 9 → defaultValue (tyX1 j) = (if zIr 1 j = true then .null else .int 0) := fun j hj => match j, hj with
  | 0, _ => rfl
  | 1, _ => rfl
  | 2, _ => rfl
  | 3, _ => rfl
  | 4, _ => rfl
  | 5, _ => rfl
  | 6, _ => rfl
  | 7, _ => rfl
  | 8, _ => rfl
  | j + 9, h => absurd h (by omega)
theorem dfX4 : ∀ j, j < 4 → defaultValue (tyX4 j) = (if zIr 2 j = true then .null else .int 0) := fun j hj => match j, hj with
  | 0, _ => rfl
  | 1, _ => rfl
  | 2, _ => rfl
  | 3, _ => rfl
  | j + 4, h => absurd h (by omega)
theorem dfX5 : ∀ j, j < 3 → defaultValue (tyX5 j) = (if zIr 3 j = true then .null else .int 0) := fun j hj => match j, hj with
  | 0, _ => rfl
  | 1, _ => rfl
  | 2, _ => rfl
  | j + 3, h => absurd h (by omega)
theorem dfX6 : ∀ j, j < 3 → defaultValue (tyX6 j) = (if zIr 4 j = true then .null else .int 0) := fun j hj => match j, hj with
  | 0, _ => rfl
  | 1, _ => rfl
  | 2, _ => rfl
  | j + 3, h => absurd h (by omega)
theorem dfX7 : ∀ j, j < 9 → defaultValue (tyX7 j) = (if zIr 5 j = true then .null else .int 0) := fun j hj => match j, hj with
  | 0, _ => rfl
  | 1, _ => rfl
  | 2, _ => rfl
  | 3, _ => rfl
  | 4, _ => rfl
  | 5, _ => rfl
  | 6, _ => rfl
  | 7, _ => rfl
  | 8, _ => rfl
  | j + 9, h => absurd h (by omega)
theorem dfX8 : ∀ j, j < 1 → defaultValue (tyX8 j) = (if zIr 6 j = true then .null else .int 0) := fun j hj => match j, hj with
  | 0, _ => rfl
  | j + 1, h => absurd h (by omega)
theorem dfX9 : ∀ j, j < 4 → defaultValue (tyX9 j) = (if zIr 7 j = true then .null else .int 0) := fun j hj => match j, hj with
  | 0, _ => rfl
  | 1, _ => rfl
  | 2, _ => rfl
  | 3, _ => rfl
  | j + 4, h => absurd h (by omega)
theorem dfX10 : ∀ j, j < 5 → defaultValue (tyX10 j) = (if zIr 8 j = true then .null else .int 0) := fun j hj => match j, hj with
  | 0, _ => rfl
  | 1, _ => rfl
  | 2, _ => rfl
  | 3, _ => rfl
  | 4, _ => rfl
  | j + 5, h => absurd h (by omega)
theorem dfX11 : ∀ j, j < 11 → defaultValue (tyX11 j) = (if zIr 9 j = true then .null else .int 0) := fun j hj => match j, hj with
  | 0, _ => rfl
  | 1, _ => rfl
  | 2, _ => rfl
  | 3, _ => rfl
  | 4, _ => rfl
  | 5, _ => rfl
  | 6, _ => rfl
  | 7, _ => rfl
  | 8, _ => rfl
  | 9, _ => rfl
  | 10, _ => rfl
  | j + 11, h => absurd h (by omega)
theorem dfX12 : ∀ j, j < 34 → defaultValue (tyX12 j) = (if zIr 10 j = true then .null else .int 0) := fun j hj => match j, hj with
  | 0, _ => rfl
  | 1, _ => rfl
  | 2, _ => rfl
  | 3, _ => rfl
  | 4, _ => rfl
  | 5, _ => rfl
  | 6, _ => rfl
  | 7, _ => rfl
  | 8, _ => rfl
  | 9, _ => rfl
  | 10, _ => rfl
  | 11, _ => rfl
  | 12, _ => rfl
  | 13, _ => rfl
  | 14, _ => rfl
  | 15, _ => rfl
  | 16, _ => rfl
  | 17, _ => rfl
  | 18, _ => rfl
  | 19, _ => rfl
  | 20, _ => rfl
  | 21, _ => rfl
  | 22, _ => rfl
  | 23, _ => rfl
  | 24, _ => rfl
  | 25, _ => rfl
  | 26, _ => rfl
  | 27, _ => rfl
  | 28, _ => rfl
  | 29, _ => rfl
  | 30, _ => rfl
  | 31, _ => rfl
  | 32, _ => rfl
  | 33, _ => rfl
  | j + 34, h => absurd h (by omega)
def zE0 : List (Nat × Nat × Nat) := []
def zE1 : List (Nat × Nat × Nat) := (1, 3, 3) :: zE0
def zE2 : List (Nat × Nat × Nat) := (1, 4, 4) :: zE1
def zE3 : List (Nat × Nat × Nat) := (1, 5, 5) :: zE2
def zE4 : List (Nat × Nat × Nat) := (1, 6, 6) :: zE3
def zE5 : List (Nat × Nat × Nat) := (1, 7, 7) :: zE4
def zE6 : List (Nat × Nat × Nat) := (1, 8, 8) :: zE5
def zE7 : List (Nat × Nat × Nat) := (0, 0, 2) :: zE6
def zE8 : List (Nat × Nat × Nat) := (8, 0, 10) :: zE7
def zE9 : List (Nat × Nat × Nat) := (0, 1, 9) :: zE8
def zE10 : List (Nat × Nat × Nat) := (11, 3, 13) :: zE9
def zE11 : List (Nat × Nat × Nat) := (11, 4, 14) :: zE10
def zE12 : List (Nat × Nat × Nat) := (11, 5, 15) :: zE11
def zE13 : List (Nat × Nat × Nat) := (11, 6, 16) :: zE12
def zE14 : List (Nat × Nat × Nat) := (11, 7, 17) :: zE13
def zE15 : List (Nat × Nat × Nat) := (11, 8, 18) :: zE14
def zE16 : List (Nat × Nat × Nat) := (10, 1, 12) :: zE15
def zE17 : List (Nat × Nat × Nat) := (10, 0, 9) :: zE16
def zE18 : List (Nat × Nat × Nat) := (0, 2, 11) :: zE17
def zE19 : List (Nat × Nat × Nat) := (18, 2, 20) :: zE18
def zE20 : List (Nat × Nat × Nat) := (18, 3, 21) :: zE19
def zE21 : List (Nat × Nat × Nat) := (18, 4, 22) :: zE20
def zE22 : List (Nat × Nat × Nat) := (18, 6, 23) :: zE21
def zE23 : List (Nat × Nat × Nat) := (18, 7, 24) :: zE22
def zE24 : List (Nat × Nat × Nat) := (18, 8, 25) :: zE23
def zE25 : List (Nat × Nat × Nat) := (18, 0, 2) :: zE24
def zE26 : List (Nat × Nat × Nat) := (0, 3, 19) :: zE25
def zE27 : List (Nat × Nat × Nat) := (25, 2, 27) :: zE26
def zE28 : List (Nat × Nat × Nat) := (25, 3, 28) :: zE27
def zE29 : List (Nat × Nat × Nat) := (25, 4, 29) :: zE28
def zE30 : List (Nat × Nat × Nat) := (25, 6, 30) :: zE29
def zE31 : List (Nat × Nat × Nat) := (25, 7, 31) :: zE30
def zE32 : List (Nat × Nat × Nat) := (25, 8, 32) :: zE31
def zE33 : List (Nat × Nat × Nat) := (25, 0, 2) :: zE32
def zE34 : List (Nat × Nat × Nat) := (0, 4, 26) :: zE33
def zE35 : List (Nat × Nat × Nat) := (32, 0, 34) :: zE34
def zE36 : List (Nat × Nat × Nat) := (34, 2, 36) :: zE35
def zE37 : List (Nat × Nat × Nat) := (34, 3, 37) :: zE36
def zE38 : List (Nat × Nat × Nat) := (34, 4, 38) :: zE37
def zE39 : List (Nat × Nat × Nat) := (34, 6, 39) :: zE38
def zE40 : List (Nat × Nat × Nat) := (34, 7, 40) :: zE39
def zE41 : List (Nat × Nat × Nat) := (34, 8, 41) :: zE40
def zE42 : List (Nat × Nat × Nat) := (34, 0, 2) :: zE41
def zE43 : List (Nat × Nat × Nat) := (33, 0, 35) :: zE42
def zE44 : List (Nat × Nat × Nat) := (41, 2, 43) :: zE43
def zE45 : List (Nat × Nat × Nat) := (41, 3, 44) :: zE44
def zE46 : List (Nat × Nat × Nat) := (41, 4, 45) :: zE45
def zE47 : List (Nat × Nat × Nat) := (41, 6, 46) :: zE46
def zE48 : List (Nat × Nat × Nat) := (41, 7, 47) :: zE47
def zE49 : List (Nat × Nat × Nat) := (41, 8, 48) :: zE48
def zE50 : List (Nat × Nat × Nat) := (41, 0, 2) :: zE49
def zE51 : List (Nat × Nat × Nat) := (33, 1, 42) :: zE50
def zE52 : List (Nat × Nat × Nat) := (48, 2, 50) :: zE51
def zE53 : List (Nat × Nat × Nat) := (48, 3, 51) :: zE52
def zE54 : List (Nat × Nat × Nat) := (48, 4, 52) :: zE53
def zE55 : List (Nat × Nat × Nat) := (48, 6, 53) :: zE54
def zE56 : List (Nat × Nat × Nat) := (48, 7, 54) :: zE55
def zE57 : List (Nat × Nat × Nat) := (48, 8, 55) :: zE56
def zE58 : List (Nat × Nat × Nat) := (48, 0, 2) :: zE57
def zE59 : List (Nat × Nat × Nat) := (33, 2, 49) :: zE58
def zE60 : List (Nat × Nat × Nat) := (55, 2, 57) :: zE59
def zE61 : List (Nat × Nat × Nat) := (55, 3, 58) :: zE60
def zE62 : List (Nat × Nat × Nat) := (55, 4, 59) :: zE61
def zE63 : List (Nat × Nat × Nat) := (55, 6, 60) :: zE62
def zE64 : List (Nat × Nat × Nat) := (55, 7, 61) :: zE63
def zE65 : List (Nat × Nat × Nat) := (55, 8, 62) :: zE64
def zE66 : List (Nat × Nat × Nat) := (55, 0, 2) :: zE65
def zE67 : List (Nat × Nat × Nat) := (33, 3, 56) :: zE66
def zE68 : List (Nat × Nat × Nat) := (62, 2, 64) :: zE67
def zE69 : List (Nat × Nat × Nat) := (62, 3, 65) :: zE68
def zE70 : List (Nat × Nat × Nat) := (62, 4, 66) :: zE69
def zE71 : List (Nat × Nat × Nat) := (62, 6, 67) :: zE70
def zE72 : List (Nat × Nat × Nat) := (62, 7, 68) :: zE71
def zE73 : List (Nat × Nat × Nat) := (62, 8, 69) :: zE72
def zE74 : List (Nat × Nat × Nat) := (62, 0, 2) :: zE73
def zE75 : List (Nat × Nat × Nat) := (33, 4, 63) :: zE74
def zE76 : List (Nat × Nat × Nat) := (69, 2, 71) :: zE75
def zE77 : List (Nat × Nat × Nat) := (69, 3, 72) :: zE76
def zE78 : List (Nat × Nat × Nat) := (69, 4, 73) :: zE77
def zE79 : List (Nat × Nat × Nat) := (69, 6, 74) :: zE78
def zE80 : List (Nat × Nat × Nat) := (69, 7, 75) :: zE79
def zE81 : List (Nat × Nat × Nat) := (69, 8, 76) :: zE80
def zE82 : List (Nat × Nat × Nat) := (69, 0, 2) :: zE81
def zE83 : List (Nat × Nat × Nat) := (33, 5, 70) :: zE82
def zE84 : List (Nat × Nat × Nat) := (76, 2, 78) :: zE83
def zE85 : List (Nat × Nat × Nat) := (76, 3, 79) :: zE84
def zE86 : List (Nat × Nat × Nat) := (76, 4, 80) :: zE85
def zE87 : List (Nat × Nat × Nat) := (76, 6, 81) :: zE86
def zE88 : List (Nat × Nat × Nat) := (76, 7, 82) :: zE87
def zE89 : List (Nat × Nat × Nat) := (76, 8, 83) :: zE88
def zE90 : List (Nat × Nat × Nat) := (76, 0, 2) :: zE89
def zE91 : List (Nat × Nat × Nat) := (33, 6, 77) :: zE90
def zE92 : List (Nat × Nat × Nat) := (83, 2, 85) :: zE91
def zE93 : List (Nat × Nat × Nat) := (83, 3, 86) :: zE92
def zE94 : List (Nat × Nat × Nat) := (83, 4, 87) :: zE93
def zE95 : List (Nat × Nat × Nat) := (83, 6, 88) :: zE94
def zE96 : List (Nat × Nat × Nat) := (83, 7, 89) :: zE95
def zE97 : List (Nat × Nat × Nat) := (83, 8, 90) :: zE96
def zE98 : List (Nat × Nat × Nat) := (83, 0, 2) :: zE97
def zE99 : List (Nat × Nat × Nat) := (33, 7, 84) :: zE98
def zE100 : List (Nat × Nat × Nat) := (0, 5, 33) :: zE99
def zE101 : List (Nat × Nat × Nat) := (0, 6, 91) :: zE100
def zE102 : List (Nat × Nat × Nat) := (91, 2, 93) :: zE101
def zE103 : List (Nat × Nat × Nat) := (91, 3, 94) :: zE102
def zE104 : List (Nat × Nat × Nat) := (91, 4, 95) :: zE103
def zE105 : List (Nat × Nat × Nat) := (91, 6, 96) :: zE104
def zE106 : List (Nat × Nat × Nat) := (91, 7, 97) :: zE105
def zE107 : List (Nat × Nat × Nat) := (91, 8, 98) :: zE106
def zE108 : List (Nat × Nat × Nat) := (91, 0, 2) :: zE107
def zE109 : List (Nat × Nat × Nat) := (90, 0, 92) :: zE108
def zE110 : List (Nat × Nat × Nat) := (98, 2, 100) :: zE109
def zE111 : List (Nat × Nat × Nat) := (98, 3, 101) :: zE110
def zE112 : List (Nat × Nat × Nat) := (98, 4, 102) :: zE111
def zE113 : List (Nat × Nat × Nat) := (98, 6, 103) :: zE112
def zE114 : List (Nat × Nat × Nat) := (98, 7, 104) :: zE113
def zE115 : List (Nat × Nat × Nat) := (98, 8, 105) :: zE114
def zE116 : List (Nat × Nat × Nat) := (98, 0, 2) :: zE115
def zE117 : List (Nat × Nat × Nat) := (90, 1, 99) :: zE116
def zE118 : List (Nat × Nat × Nat) := (0, 7, 106) :: zE117
def zE119 : List (Nat × Nat × Nat) := (106, 0, 108) :: zE118
def zE120 : List (Nat × Nat × Nat) := (106, 1, 109) :: zE119
def zE121 : List (Nat × Nat × Nat) := (0, 8, 107) :: zE120
def zE122 : List (Nat × Nat × Nat) := (109, 0, 111) :: zE121
def zE123 : List (Nat × Nat × Nat) := (109, 1, 112) :: zE122
def zE124 : List (Nat × Nat × Nat) := (109, 2, 113) :: zE123
def zE125 : List (Nat × Nat × Nat) := (0, 9, 110) :: zE124
def zE126 : List (Nat × Nat × Nat) := (113, 0, 115) :: zE125
def zE127 : List (Nat × Nat × Nat) := (115, 0, 117) :: zE126
def zE128 : List (Nat × Nat × Nat) := (115, 1, 118) :: zE127
def zE129 : List (Nat × Nat × Nat) := (114, 0, 116) :: zE128
def zE130 : List (Nat × Nat × Nat) := (118, 0, 120) :: zE129
def zE131 : List (Nat × Nat × Nat) := (118, 1, 121) :: zE130
def zE132 : List (Nat × Nat × Nat) := (114, 1, 119) :: zE131
def zE133 : List (Nat × Nat × Nat) := (121, 0, 123) :: zE132
def zE134 : List (Nat × Nat × Nat) := (121, 1, 124) :: zE133
def zE135 : List (Nat × Nat × Nat) := (114, 2, 122) :: zE134
def zE136 : List (Nat × Nat × Nat) := (124, 0, 126) :: zE135
def zE137 : List (Nat × Nat × Nat) := (124, 1, 127) :: zE136
def zE138 : List (Nat × Nat × Nat) := (114, 3, 125) :: zE137
def zE139 : List (Nat × Nat × Nat) := (0, 10, 114) :: zE138
def zE140 : List (Nat × Nat × Nat) := (127, 0, 129) :: zE139
def zE141 : List (Nat × Nat × Nat) := (127, 2, 130) :: zE140
def zE142 : List (Nat × Nat × Nat) := (127, 3, 131) :: zE141
def zE143 : List (Nat × Nat × Nat) := (127, 6, 132) :: zE142
def zE144 : List (Nat × Nat × Nat) := (127, 7, 133) :: zE143
def zE145 : List (Nat × Nat × Nat) := (127, 8, 134) :: zE144
def zE146 : List (Nat × Nat × Nat) := (127, 9, 135) :: zE145
def zE147 : List (Nat × Nat × Nat) := (127, 10, 136) :: zE146
def zE148 : List (Nat × Nat × Nat) := (127, 11, 137) :: zE147
def zE149 : List (Nat × Nat × Nat) := (127, 19, 138) :: zE148
def zE150 : List (Nat × Nat × Nat) := (127, 20, 139) :: zE149
def zE151 : List (Nat × Nat × Nat) := (127, 21, 140) :: zE150
def zE152 : List (Nat × Nat × Nat) := (127, 22, 141) :: zE151
def zE153 : List (Nat × Nat × Nat) := (127, 23, 142) :: zE152
def zE154 : List (Nat × Nat × Nat) := (127, 24, 143) :: zE153
def zE155 : List (Nat × Nat × Nat) := (127, 25, 144) :: zE154
def zE156 : List (Nat × Nat × Nat) := (127, 26, 145) :: zE155
def zE157 : List (Nat × Nat × Nat) := (127, 27, 146) :: zE156
def zE158 : List (Nat × Nat × Nat) := (127, 30, 147) :: zE157
def zE159 : List (Nat × Nat × Nat) := (127, 31, 148) :: zE158
def zE160 : List (Nat × Nat × Nat) := (127, 32, 149) :: zE159
def zE161 : List (Nat × Nat × Nat) := (127, 33, 150) :: zE160
def zI0 : zM := fun _ _ => 0
def zI1 : zM := z_up zI0 115 2 (-1)
def zI2 : zM := z_up zI1 118 2 (-1)
def zI3 : zM := z_up zI2 121 2 (-1)
def zI4 : zM := z_up zI3 124 2 (-1)
def zI5 : zM := z_up zI4 134 0 (-1)
def zI6 : zM := z_up zI5 134 1 (-1)
def zI7 : zM := z_up zI6 134 2 (-1)
def zI8 : zM := z_up zI7 134 3 (-1)
def zI9 : zM := z_up zI8 138 0 114
def zI10 : zM := z_up zI9 138 1 111
def zI11 : zM := z_up zI10 138 2 97
def zI12 : zM := z_up zI11 138 3 100
def zI13 : zM := z_up zI12 139 0 105
def zI14 : zM := z_up zI13 139 1 110
def zI15 : zM := z_up zI14 139 2 110
def zI16 : zM := z_up zI15 140 0 104
def zI17 : zM := z_up zI16 140 1 97
def zI18 : zM := z_up zI17 140 2 99
def zI19 : zM := z_up zI18 140 3 107
def zI20 : zM := z_up zI19 141 0 118
def zI21 : zM := z_up zI20 141 1 105
def zI22 : zM := z_up zI21 141 2 99
def zI23 : zM := z_up zI22 141 3 105
def zI24 : zM := z_up zI23 141 4 111
def zI25 : zM := z_up zI24 141 5 117
def zI26 : zM := z_up zI25 141 6 115
def zI27 : zM := z_up zI26 142 0 100
def zI28 : zM := z_up zI27 142 1 97
def zI29 : zM := z_up zI28 142 2 119
def zI30 : zM := z_up zI29 142 3 110
def zI31 : zM := z_up zI30 143 0 103
def zI32 : zM := z_up zI31 143 1 114
def zI33 : zM := z_up zI32 143 2 101
def zI34 : zM := z_up zI33 143 3 121
def zI35 : zM := z_up zI34 144 0 109
def zI36 : zM := z_up zI35 144 1 105
def zI37 : zM := z_up zI36 144 2 100
def zI38 : zM := z_up zI37 144 3 110
def zI39 : zM := z_up zI38 144 4 105
def zI40 : zM := z_up zI39 144 5 103
def zI41 : zM := z_up zI40 144 6 104
def zI42 : zM := z_up zI41 144 7 116
def zI43 : zM := z_up zI42 145 0 114
def zI44 : zM := z_up zI43 145 1 105
def zI45 : zM := z_up zI44 145 2 100
def zI46 : zM := z_up zI45 145 3 101
def zI47 : zM := z_up zI46 145 4 114
set_option maxRecDepth 100000 in
set_option maxHeartbeats 4000000 in
theorem i_X7_init_1 (g : zG) (l : Launch) : zMet g l yX7_init cX7_init 1 none 1 6 38 [.ref 1] (zSt 2 zE0) zI0 (zQc (zSt 8 zE6) zI0) := by
  refine zMet.of (by decide) (Nat.le_of_ble_eq_true rfl) ?_
  refine z_aload_n dX7_init_0 rfl ?_
  refine z_objInit lm_X7_3 w_oi w_oc (by decide) (Nat.le_of_ble_eq_true rfl) dX7_init_1 ?_
  refine z_aload_n dX7_init_4 rfl ?_
  refine z_bipush (v := 6) dX7_init_5 (by decide) ?_
  refine zi_newa (atype := .int) (n := 2) (q := 20) (n' := 6) (Or.inl ⟨rfl, rfl⟩) w_arrI rfl (by decide) (by decide) (by decide) (by decide) dX7_init_7 s0_2 (by decide +kernel) rfl ?_
  refine zi_putF (n := 3) (j := 3) kX7 lf_X7_9 (by decide) rfl rfl rfl rfl (kX7.2.2.1 3 (by decide)) (fun _ => rfl) (fun _ => rfl) dX7_init_9 (show 1 < 3 by decide) s0_1 (by decide) ?_
  refine z_aload_n dX7_init_12 rfl ?_
  refine z_bipush (v := 8) dX7_init_13 (by decide) ?_
  refine zi_newa (atype := .int) (n := 3) (q := 20) (n' := 8) (Or.inl ⟨rfl, rfl⟩) w_arrI rfl (by decide) (by decide) (by decide) (by decide) dX7_init_15 s0_3 (by decide +kernel) rfl ?_
  refine zi_putF (n := 4) (j := 4) kX7 lf_X7_15 (by decide) rfl rfl rfl rfl (kX7.2.2.1 4 (by decide)) (fun _ => rfl) (fun _ => rfl) dX7_init_17 (show 1 < 4 by decide) s0_1 (by decide) ?_
  refine z_aload_n dX7_init_20 rfl ?_
  refine z_bipush (v := 8) dX7_init_21 (by decide) ?_
  refine zi_newa (atype := .int) (n := 4) (q := 20) (n' := 8) (Or.inl ⟨rfl, rfl⟩) w_arrI rfl (by decide) (by decide) (by decide) (by decide) dX7_init_23 s0_4 (by decide +kernel) rfl ?_
  refine zi_putF (n := 5) (j := 5) kX7 lf_X7_18 (by decide) rfl rfl rfl rfl (kX7.2.2.1 5 (by decide)) (fun _ => rfl) (fun _ => rfl) dX7_init_25 (show 1 < 5 by decide) s0_1 (by decide) ?_
  refine z_aload_n dX7_init_28 rfl ?_
  refine z_bipush (v := 8) dX7_init_29 (by decide) ?_
  refine zi_newa (atype := .int) (n := 5) (q := 20) (n' := 8) (Or.inl ⟨rfl, rfl⟩) w_arrI rfl (by decide) (by decide) (by decide) (by decide) dX7_init_31 s0_5 (by decide +kernel) rfl ?_
  refine zi_putF (n := 6) (j := 6) kX7 lf_X7_21 (by decide) rfl rfl rfl rfl (kX7.2.2.1 6 (by decide)) (fun _ => rfl) (fun _ => rfl) dX7_init_33 (show 1 < 6 by decide) s0_1 (by decide) ?_
  refine z_aload_n dX7_init_36 rfl ?_
  refine z_iconst (v := 4) dX7_init_37 (by decide) ?_
  refine zi_newa (atype := .int) (n := 6) (q := 20) (n' := 4) (Or.inl ⟨rfl, rfl⟩) w_arrI rfl (by decide) (by decide) (by decide) (by decide) dX7_init_38 s0_6 (by decide +kernel) rfl ?_
  refine zi_putF (n := 7) (j := 7) kX7 lf_X7_24 (by decide) rfl rfl rfl rfl (kX7.2.2.1 7 (by decide)) (fun _ => rfl) (fun _ => rfl) dX7_init_40 (show 1 < 7 by decide) s0_1 (by decide) ?_
  refine z_aload_n dX7_init_43 rfl ?_
  refine z_iconst (v := 4) dX7_init_44 (by decide) ?_
  refine zi_newa (atype := .int) (n := 7) (q := 20) (n' := 4) (Or.inl ⟨rfl, rfl⟩) w_arrI rfl (by decide) (by decide) (by decide) (by decide) dX7_init_45 s0_7 (by decide +kernel) rfl ?_
  refine zi_putF (n := 8) (j := 8) kX7 lf_X7_27 (by decide) rfl rfl rfl rfl (kX7.2.2.1 8 (by decide)) (fun _ => rfl) (fun _ => rfl) dX7_init_47 (show 1 < 8 by decide) s0_1 (by decide) ?_
  exact z_return dX7_init_50 rfl (by decide) (by decide) ⟨rfl, rfl, rfl⟩

set_option maxRecDepth 100000 in
set_option maxHeartbeats 4000000 in
theorem i_X10_init_8 (g : zG) (l : Launch) : zMet g l yX10_init cX10_init 1 none 1 1 200 [.ref 8] (zSt 9 zE7) zI0 (zQc (zSt 10 zE8) zI0) := by
  refine zMet.of (by decide) (Nat.le_of_ble_eq_true rfl) ?_
  refine z_aload_n dX10_init_0 rfl ?_
  refine z_objInit lm_X10_3 w_oi w_oc (by decide) (Nat.le_of_ble_eq_true rfl) dX10_init_1 ?_
  refine z_aload_n dX10_init_4 rfl ?_
  refine z_sipush (v := 200) dX10_init_5 (by decide) ?_
  refine zi_newa (atype := .int) (n := 9) (q := 20) (n' := 200) (Or.inl ⟨rfl, rfl⟩) w_arrI rfl (by decide) (by decide) (by decide) (by decide) dX10_init_8 s0_9 (by decide +kernel) rfl ?_
  refine zi_putF (n := 10) (j := 0) kX10 lf_X10_9 (by decide) rfl rfl rfl rfl (kX10.2.2.1 0 (by decide)) (fun _ => rfl) (fun _ => rfl) dX10_init_10 (show 8 < 10 by decide) s0_8 (by decide) ?_
  exact z_return dX10_init_13 rfl (by decide) (by decide) ⟨rfl, rfl, rfl⟩

set_option maxRecDepth 100000 in
set_option maxHeartbeats 4000000 in
theorem i_X7_init_11 (g : zG) (l : Launch) : zMet g l yX7_init cX7_init 1 none 1 6 38 [.ref 11] (zSt 12 zE9) zI0 (zQc (zSt 18 zE15) zI0) := by
  refine zMet.of (by decide) (Nat.le_of_ble_eq_true rfl) ?_
  refine z_aload_n dX7_init_0 rfl ?_
  refine z_objInit lm_X7_3 w_oi w_oc (by decide) (Nat.le_of_ble_eq_true rfl) dX7_init_1 ?_
  refine z_aload_n dX7_init_4 rfl ?_
  refine z_bipush (v := 6) dX7_init_5 (by decide) ?_
  refine zi_newa (atype := .int) (n := 12) (q := 20) (n' := 6) (Or.inl ⟨rfl, rfl⟩) w_arrI rfl (by decide) (by decide) (by decide) (by decide) dX7_init_7 s0_12 (by decide +kernel) rfl ?_
  refine zi_putF (n := 13) (j := 3) kX7 lf_X7_9 (by decide) rfl rfl rfl rfl (kX7.2.2.1 3 (by decide)) (fun _ => rfl) (fun _ => rfl) dX7_init_9 (show 11 < 13 by decide) s0_11 (by decide) ?_
  refine z_aload_n dX7_init_12 rfl ?_
  refine z_bipush (v := 8) dX7_init_13 (by decide) ?_
  refine zi_newa (atype := .int) (n := 13) (q := 20) (n' := 8) (Or.inl ⟨rfl, rfl⟩) w_arrI rfl (by decide) (by decide) (by decide) (by decide) dX7_init_15 s0_13 (by decide +kernel) rfl ?_
  refine zi_putF (n := 14) (j := 4) kX7 lf_X7_15 (by decide) rfl rfl rfl rfl (kX7.2.2.1 4 (by decide)) (fun _ => rfl) (fun _ => rfl) dX7_init_17 (show 11 < 14 by decide) s0_11 (by decide) ?_
  refine z_aload_n dX7_init_20 rfl ?_
  refine z_bipush (v := 8) dX7_init_21 (by decide) ?_
  refine zi_newa (atype := .int) (n := 14) (q := 20) (n' := 8) (Or.inl ⟨rfl, rfl⟩) w_arrI rfl (by decide) (by decide) (by decide) (by decide) dX7_init_23 s0_14 (by decide +kernel) rfl ?_
  refine zi_putF (n := 15) (j := 5) kX7 lf_X7_18 (by decide) rfl rfl rfl rfl (kX7.2.2.1 5 (by decide)) (fun _ => rfl) (fun _ => rfl) dX7_init_25 (show 11 < 15 by decide) s0_11 (by decide) ?_
  refine z_aload_n dX7_init_28 rfl ?_
  refine z_bipush (v := 8) dX7_init_29 (by decide) ?_
  refine zi_newa (atype := .int) (n := 15) (q := 20) (n' := 8) (Or.inl ⟨rfl, rfl⟩) w_arrI rfl (by decide) (by decide) (by decide) (by decide) dX7_init_31 s0_15 (by decide +kernel) rfl ?_
  refine zi_putF (n := 16) (j := 6) kX7 lf_X7_21 (by decide) rfl rfl rfl rfl (kX7.2.2.1 6 (by decide)) (fun _ => rfl) (fun _ => rfl) dX7_init_33 (show 11 < 16 by decide) s0_11 (by decide) ?_
  refine z_aload_n dX7_init_36 rfl ?_
  refine z_iconst (v := 4) dX7_init_37 (by decide) ?_
  refine zi_newa (atype := .int) (n := 16) (q := 20) (n' := 4) (Or.inl ⟨rfl, rfl⟩) w_arrI rfl (by decide) (by decide) (by decide) (by decide) dX7_init_38 s0_16 (by decide +kernel) rfl ?_
  refine zi_putF (n := 17) (j := 7) kX7 lf_X7_24 (by decide) rfl rfl rfl rfl (kX7.2.2.1 7 (by decide)) (fun _ => rfl) (fun _ => rfl) dX7_init_40 (show 11 < 17 by decide) s0_11 (by decide) ?_
  refine z_aload_n dX7_init_43 rfl ?_
  refine z_iconst (v := 4) dX7_init_44 (by decide) ?_
  refine zi_newa (atype := .int) (n := 17) (q := 20) (n' := 4) (Or.inl ⟨rfl, rfl⟩) w_arrI rfl (by decide) (by decide) (by decide) (by decide) dX7_init_45 s0_17 (by decide +kernel) rfl ?_
  refine zi_putF (n := 18) (j := 8) kX7 lf_X7_27 (by decide) rfl rfl rfl rfl (kX7.2.2.1 8 (by decide)) (fun _ => rfl) (fun _ => rfl) dX7_init_47 (show 11 < 18 by decide) s0_11 (by decide) ?_
  exact z_return dX7_init_50 rfl (by decide) (by decide) ⟨rfl, rfl, rfl⟩

set_option maxRecDepth 100000 in
set_option maxHeartbeats 4000000 in
theorem i_X5_init_10 (g : zG) (l : Launch) : zMet g l yX5_init cX5_init 2 none 2 7 47 [.ref 10, .ref 8] (zSt 11 zE9) zI0 (zQc (zSt 18 zE17) zI0) := by
  refine zMet.of (by decide) (Nat.le_of_ble_eq_true rfl) ?_
  refine z_aload_n dX5_init_0 rfl ?_
  refine z_objInit lm_X5_3 w_oi w_oc (by decide) (Nat.le_of_ble_eq_true rfl) dX5_init_1 ?_
  refine z_aload_n dX5_init_4 rfl ?_
  refine zi_new (n := 11) kX7 lk_X5_9 wi_X7 wn_X7 dfX7 (by decide) (by decide) (by decide) dX5_init_5 s0_11 (by decide +kernel) rfl ?_
  refine z_dup dX5_init_8 rfl ?_
  refine z_callIN (host := RX11) [] (i_X7_init_11 g l) mw_X7_init (List.mem_of_getElem? (l := zNe) (i := 4) rfl) mi_X7_init rfl (by decide) (Nat.le_of_ble_eq_true rfl) (by decide) (by decide) dX5_init_9 (fun v9 S9 M9 q9 => ?_) rfl
  obtain ⟨rfl, rfl, rfl⟩ := q9
  refine zi_putF (n := 18) (j := 1) kX5 lf_X5_12 (by decide) rfl rfl rfl rfl (kX5.2.2.1 1 (by decide)) (fun _ => rfl) (fun _ => rfl) dX5_init_12 (show 10 < 18 by decide) s0_10 (by decide) ?_
  refine z_aload_n dX5_init_15 rfl ?_
  refine z_aload_n dX5_init_16 rfl ?_
  refine zi_putF (n := 18) (j := 0) kX5 lf_X5_18 (by decide) rfl rfl rfl rfl (kX5.2.2.1 0 (by decide)) (fun _ => rfl) (fun _ => rfl) dX5_init_17 (show 10 < 18 by decide) s0_10 (by decide) ?_
  exact z_return dX5_init_20 rfl (by decide) (by decide) ⟨rfl, rfl, rfl⟩

set_option maxRecDepth 100000 in
set_option maxHeartbeats 4000000 in
theorem i_X1_init_18 (g : zG) (l : Launch) : zMet g l yX1_init cX1_init 2 none 1 6 36 [.ref 18, .ref 1] (zSt 19 zE18) zI0 (zQc (zSt 25 zE25) zI0) := by
  refine zMet.of (by decide) (Nat.le_of_ble_eq_true rfl) ?_
  refine z_aload_n dX1_init_0 rfl ?_
  refine z_objInit lm_X1_5 w_oi w_oc (by decide) (Nat.le_of_ble_eq_true rfl) dX1_init_1 ?_
  refine z_aload_n dX1_init_4 rfl ?_
  refine z_bipush (v := 8) dX1_init_5 (by decide) ?_
  refine zi_newa (atype := .int) (n := 19) (q := 20) (n' := 8) (Or.inl ⟨rfl, rfl⟩) w_arrI rfl (by decide) (by decide) (by decide) (by decide) dX1_init_7 s0_19 (by decide +kernel) rfl ?_
  refine zi_putF (n := 20) (j := 2) kX1 lf_X1_11 (by decide) rfl rfl rfl rfl (kX1.2.2.1 2 (by decide)) (fun _ => rfl) (fun _ => rfl) dX1_init_9 (show 18 < 20 by decide) s0_18 (by decide) ?_
  refine z_aload_n dX1_init_12 rfl ?_
  refine z_bipush (v := 8) dX1_init_13 (by decide) ?_
  refine zi_newa (atype := .int) (n := 20) (q := 20) (n' := 8) (Or.inl ⟨rfl, rfl⟩) w_arrI rfl (by decide) (by decide) (by decide) (by decide) dX1_init_15 s0_20 (by decide +kernel) rfl ?_
  refine zi_putF (n := 21) (j := 3) kX1 lf_X1_15 (by decide) rfl rfl rfl rfl (kX1.2.2.1 3 (by decide)) (fun _ => rfl) (fun _ => rfl) dX1_init_17 (show 18 < 21 by decide) s0_18 (by decide) ?_
  refine z_aload_n dX1_init_20 rfl ?_
  refine z_bipush (v := 8) dX1_init_21 (by decide) ?_
  refine zi_newa (atype := .int) (n := 21) (q := 20) (n' := 8) (Or.inl ⟨rfl, rfl⟩) w_arrI rfl (by decide) (by decide) (by decide) (by decide) dX1_init_23 s0_21 (by decide +kernel) rfl ?_
  refine zi_putF (n := 22) (j := 4) kX1 lf_X1_18 (by decide) rfl rfl rfl rfl (kX1.2.2.1 4 (by decide)) (fun _ => rfl) (fun _ => rfl) dX1_init_25 (show 18 < 22 by decide) s0_18 (by decide) ?_
  refine z_aload_n dX1_init_28 rfl ?_
  refine z_iconst (v := 4) dX1_init_29 (by decide) ?_
  refine zi_newa (atype := .int) (n := 22) (q := 20) (n' := 4) (Or.inl ⟨rfl, rfl⟩) w_arrI rfl (by decide) (by decide) (by decide) (by decide) dX1_init_30 s0_22 (by decide +kernel) rfl ?_
  refine zi_putF (n := 23) (j := 6) kX1 lf_X1_21 (by decide) rfl rfl rfl rfl (kX1.2.2.1 6 (by decide)) (fun _ => rfl) (fun _ => rfl) dX1_init_32 (show 18 < 23 by decide) s0_18 (by decide) ?_
  refine z_aload_n dX1_init_35 rfl ?_
  refine z_iconst (v := 4) dX1_init_36 (by decide) ?_
  refine zi_newa (atype := .int) (n := 23) (q := 20) (n' := 4) (Or.inl ⟨rfl, rfl⟩) w_arrI rfl (by decide) (by decide) (by decide) (by decide) dX1_init_37 s0_23 (by decide +kernel) rfl ?_
  refine zi_putF (n := 24) (j := 7) kX1 lf_X1_24 (by decide) rfl rfl rfl rfl (kX1.2.2.1 7 (by decide)) (fun _ => rfl) (fun _ => rfl) dX1_init_39 (show 18 < 24 by decide) s0_18 (by decide) ?_
  refine z_aload_n dX1_init_42 rfl ?_
  refine z_iconst (v := 4) dX1_init_43 (by decide) ?_
  refine zi_newa (atype := .int) (n := 24) (q := 20) (n' := 4) (Or.inl ⟨rfl, rfl⟩) w_arrI rfl (by decide) (by decide) (by decide) (by decide) dX1_init_44 s0_24 (by decide +kernel) rfl ?_
  refine zi_putF (n := 25) (j := 8) kX1 lf_X1_27 (by decide) rfl rfl rfl rfl (kX1.2.2.1 8 (by decide)) (fun _ => rfl) (fun _ => rfl) dX1_init_46 (show 18 < 25 by decide) s0_18 (by decide) ?_
  refine z_aload_n dX1_init_49 rfl ?_
  refine z_aload_n dX1_init_50 rfl ?_
  refine zi_putF (n := 25) (j := 0) kX1 lf_X1_30 (by decide) rfl rfl rfl rfl (kX1.2.2.1 0 (by decide)) (fun _ => rfl) (fun _ => rfl) dX1_init_51 (show 18 < 25 by decide) s0_18 (by decide) ?_
  exact z_return dX1_init_54 rfl (by decide) (by decide) ⟨rfl, rfl, rfl⟩

set_option maxRecDepth 100000 in
set_option maxHeartbeats 4000000 in
theorem i_X1_init_25 (g : zG) (l : Launch) : zMet g l yX1_init cX1_init 2 none 1 6 36 [.ref 25, .ref 1] (zSt 26 zE26) zI0 (zQc (zSt 32 zE33) zI0) := by
  refine zMet.of (by decide) (Nat.le_of_ble_eq_true rfl) ?_
  refine z_aload_n dX1_init_0 rfl ?_
  refine z_objInit lm_X1_5 w_oi w_oc (by decide) (Nat.le_of_ble_eq_true rfl) dX1_init_1 ?_
  refine z_aload_n dX1_init_4 rfl ?_
  refine z_bipush (v := 8) dX1_init_5 (by decide) ?_
  refine zi_newa (atype := .int) (n := 26) (q := 20) (n' := 8) (Or.inl ⟨rfl, rfl⟩) w_arrI rfl (by decide) (by decide) (by decide) (by decide) dX1_init_7 s0_26 (by decide +kernel) rfl ?_
  refine zi_putF (n := 27) (j := 2) kX1 lf_X1_11 (by decide) rfl rfl rfl rfl (kX1.2.2.1 2 (by decide)) (fun _ => rfl) (fun _ => rfl) dX1_init_9 (show 25 < 27 by decide) s0_25 (by decide) ?_
  refine z_aload_n dX1_init_12 rfl ?_
  refine z_bipush (v := 8) dX1_init_13 (by decide) ?_
  refine zi_newa (atype := .int) (n := 27) (q := 20) (n' := 8) (Or.inl ⟨rfl, rfl⟩) w_arrI rfl (by decide) (by decide) (by decide) (by decide) dX1_init_15 s0_27 (by decide +kernel) rfl ?_
  refine zi_putF (n := 28) (j := 3) kX1 lf_X1_15 (by decide) rfl rfl rfl rfl (kX1.2.2.1 3 (by decide)) (fun _ => rfl) (fun _ => rfl) dX1_init_17 (show 25 < 28 by decide) s0_25 (by decide) ?_
  refine z_aload_n dX1_init_20 rfl ?_
  refine z_bipush (v := 8) dX1_init_21 (by decide) ?_
  refine zi_newa (atype := .int) (n := 28) (q := 20) (n' := 8) (Or.inl ⟨rfl, rfl⟩) w_arrI rfl (by decide) (by decide) (by decide) (by decide) dX1_init_23 s0_28 (by decide +kernel) rfl ?_
  refine zi_putF (n := 29) (j := 4) kX1 lf_X1_18 (by decide) rfl rfl rfl rfl (kX1.2.2.1 4 (by decide)) (fun _ => rfl) (fun _ => rfl) dX1_init_25 (show 25 < 29 by decide) s0_25 (by decide) ?_
  refine z_aload_n dX1_init_28 rfl ?_
  refine z_iconst (v := 4) dX1_init_29 (by decide) ?_
  refine zi_newa (atype := .int) (n := 29) (q := 20) (n' := 4) (Or.inl ⟨rfl, rfl⟩) w_arrI rfl (by decide) (by decide) (by decide) (by decide) dX1_init_30 s0_29 (by decide +kernel) rfl ?_
  refine zi_putF (n := 30) (j := 6) kX1 lf_X1_21 (by decide) rfl rfl rfl rfl (kX1.2.2.1 6 (by decide)) (fun _ => rfl) (fun _ => rfl) dX1_init_32 (show 25 < 30 by decide) s0_25 (by decide) ?_
  refine z_aload_n dX1_init_35 rfl ?_
  refine z_iconst (v := 4) dX1_init_36 (by decide) ?_
  refine zi_newa (atype := .int) (n := 30) (q := 20) (n' := 4) (Or.inl ⟨rfl, rfl⟩) w_arrI rfl (by decide) (by decide) (by decide) (by decide) dX1_init_37 s0_30 (by decide +kernel) rfl ?_
  refine zi_putF (n := 31) (j := 7) kX1 lf_X1_24 (by decide) rfl rfl rfl rfl (kX1.2.2.1 7 (by decide)) (fun _ => rfl) (fun _ => rfl) dX1_init_39 (show 25 < 31 by decide) s0_25 (by decide) ?_
  refine z_aload_n dX1_init_42 rfl ?_
  refine z_iconst (v := 4) dX1_init_43 (by decide) ?_
  refine zi_newa (atype := .int) (n := 31) (q := 20) (n' := 4) (Or.inl ⟨rfl, rfl⟩) w_arrI rfl (by decide) (by decide) (by decide) (by decide) dX1_init_44 s0_31 (by decide +kernel) rfl ?_
  refine zi_putF (n := 32) (j := 8) kX1 lf_X1_27 (by decide) rfl rfl rfl rfl (kX1.2.2.1 8 (by decide)) (fun _ => rfl) (fun _ => rfl) dX1_init_46 (show 25 < 32 by decide) s0_25 (by decide) ?_
  refine z_aload_n dX1_init_49 rfl ?_
  refine z_aload_n dX1_init_50 rfl ?_
  refine zi_putF (n := 32) (j := 0) kX1 lf_X1_30 (by decide) rfl rfl rfl rfl (kX1.2.2.1 0 (by decide)) (fun _ => rfl) (fun _ => rfl) dX1_init_51 (show 25 < 32 by decide) s0_25 (by decide) ?_
  exact z_return dX1_init_54 rfl (by decide) (by decide) ⟨rfl, rfl, rfl⟩

set_option maxRecDepth 100000 in
set_option maxHeartbeats 4000000 in
theorem i_X1_init_34 (g : zG) (l : Launch) : zMet g l yX1_init cX1_init 2 none 1 6 36 [.ref 34, .ref 1] (zSt 35 zE35) zI0 (zQc (zSt 41 zE42) zI0) := by
  refine zMet.of (by decide) (Nat.le_of_ble_eq_true rfl) ?_
  refine z_aload_n dX1_init_0 rfl ?_
  refine z_objInit lm_X1_5 w_oi w_oc (by decide) (Nat.le_of_ble_eq_true rfl) dX1_init_1 ?_
  refine z_aload_n dX1_init_4 rfl ?_
  refine z_bipush (v := 8) dX1_init_5 (by decide) ?_
  refine zi_newa (atype := .int) (n := 35) (q := 20) (n' := 8) (Or.inl ⟨rfl, rfl⟩) w_arrI rfl (by decide) (by decide) (by decide) (by decide) dX1_init_7 s0_35 (by decide +kernel) rfl ?_
  refine zi_putF (n := 36) (j := 2) kX1 lf_X1_11 (by decide) rfl rfl rfl rfl (kX1.2.2.1 2 (by decide)) (fun _ => rfl) (fun _ => rfl) dX1_init_9 (show 34 < 36 by decide) s0_34 (by decide) ?_
  refine z_aload_n dX1_init_12 rfl ?_
  refine z_bipush (v := 8) dX1_init_13 (by decide) ?_
  refine zi_newa (atype := .int) (n := 36) (q := 20) (n' := 8) (Or.inl ⟨rfl, rfl⟩) w_arrI rfl (by decide) (by decide) (by decide) (by decide) dX1_init_15 s0_36 (by decide +kernel) rfl ?_
  refine zi_putF (n := 37) (j := 3) kX1 lf_X1_15 (by decide) rfl rfl rfl rfl (kX1.2.2.1 3 (by decide)) (fun _ => rfl) (fun _ => rfl) dX1_init_17 (show 34 < 37 by decide) s0_34 (by decide) ?_
  refine z_aload_n dX1_init_20 rfl ?_
  refine z_bipush (v := 8) dX1_init_21 (by decide) ?_
  refine zi_newa (atype := .int) (n := 37) (q := 20) (n' := 8) (Or.inl ⟨rfl, rfl⟩) w_arrI rfl (by decide) (by decide) (by decide) (by decide) dX1_init_23 s0_37 (by decide +kernel) rfl ?_
  refine zi_putF (n := 38) (j := 4) kX1 lf_X1_18 (by decide) rfl rfl rfl rfl (kX1.2.2.1 4 (by decide)) (fun _ => rfl) (fun _ => rfl) dX1_init_25 (show 34 < 38 by decide) s0_34 (by decide) ?_
  refine z_aload_n dX1_init_28 rfl ?_
  refine z_iconst (v := 4) dX1_init_29 (by decide) ?_
  refine zi_newa (atype := .int) (n := 38) (q := 20) (n' := 4) (Or.inl ⟨rfl, rfl⟩) w_arrI rfl (by decide) (by decide) (by decide) (by decide) dX1_init_30 s0_38 (by decide +kernel) rfl ?_
  refine zi_putF (n := 39) (j := 6) kX1 lf_X1_21 (by decide) rfl rfl rfl rfl (kX1.2.2.1 6 (by decide)) (fun _ => rfl) (fun _ => rfl) dX1_init_32 (show 34 < 39 by decide) s0_34 (by decide) ?_
  refine z_aload_n dX1_init_35 rfl ?_
  refine z_iconst (v := 4) dX1_init_36 (by decide) ?_
  refine zi_newa (atype := .int) (n := 39) (q := 20) (n' := 4) (Or.inl ⟨rfl, rfl⟩) w_arrI rfl (by decide) (by decide) (by decide) (by decide) dX1_init_37 s0_39 (by decide +kernel) rfl ?_
  refine zi_putF (n := 40) (j := 7) kX1 lf_X1_24 (by decide) rfl rfl rfl rfl (kX1.2.2.1 7 (by decide)) (fun _ => rfl) (fun _ => rfl) dX1_init_39 (show 34 < 40 by decide) s0_34 (by decide) ?_
  refine z_aload_n dX1_init_42 rfl ?_
  refine z_iconst (v := 4) dX1_init_43 (by decide) ?_
  refine zi_newa (atype := .int) (n := 40) (q := 20) (n' := 4) (Or.inl ⟨rfl, rfl⟩) w_arrI rfl (by decide) (by decide) (by decide) (by decide) dX1_init_44 s0_40 (by decide +kernel) rfl ?_
  refine zi_putF (n := 41) (j := 8) kX1 lf_X1_27 (by decide) rfl rfl rfl rfl (kX1.2.2.1 8 (by decide)) (fun _ => rfl) (fun _ => rfl) dX1_init_46 (show 34 < 41 by decide) s0_34 (by decide) ?_
  refine z_aload_n dX1_init_49 rfl ?_
  refine z_aload_n dX1_init_50 rfl ?_
  refine zi_putF (n := 41) (j := 0) kX1 lf_X1_30 (by decide) rfl rfl rfl rfl (kX1.2.2.1 0 (by decide)) (fun _ => rfl) (fun _ => rfl) dX1_init_51 (show 34 < 41 by decide) s0_34 (by decide) ?_
  exact z_return dX1_init_54 rfl (by decide) (by decide) ⟨rfl, rfl, rfl⟩

set_option maxRecDepth 100000 in
set_option maxHeartbeats 4000000 in
theorem i_X1_init_41 (g : zG) (l : Launch) : zMet g l yX1_init cX1_init 2 none 1 6 36 [.ref 41, .ref 1] (zSt 42 zE43) zI0 (zQc (zSt 48 zE50) zI0) := by
  refine zMet.of (by decide) (Nat.le_of_ble_eq_true rfl) ?_
  refine z_aload_n dX1_init_0 rfl ?_
  refine z_objInit lm_X1_5 w_oi w_oc (by decide) (Nat.le_of_ble_eq_true rfl) dX1_init_1 ?_
  refine z_aload_n dX1_init_4 rfl ?_
  refine z_bipush (v := 8) dX1_init_5 (by decide) ?_
  refine zi_newa (atype := .int) (n := 42) (q := 20) (n' := 8) (Or.inl ⟨rfl, rfl⟩) w_arrI rfl (by decide) (by decide) (by decide) (by decide) dX1_init_7 s0_42 (by decide +kernel) rfl ?_
  refine zi_putF (n := 43) (j := 2) kX1 lf_X1_11 (by decide) rfl rfl rfl rfl (kX1.2.2.1 2 (by decide)) (fun _ => rfl) (fun _ => rfl) dX1_init_9 (show 41 < 43 by decide) s0_41 (by decide) ?_
  refine z_aload_n dX1_init_12 rfl ?_
  refine z_bipush (v := 8) dX1_init_13 (by decide) ?_
  refine zi_newa (atype := .int) (n := 43) (q := 20) (n' := 8) (Or.inl ⟨rfl, rfl⟩) w_arrI rfl (by decide) (by decide) (by decide) (by decide) dX1_init_15 s0_43 (by decide +kernel) rfl ?_
  refine zi_putF (n := 44) (j := 3) kX1 lf_X1_15 (by decide) rfl rfl rfl rfl (kX1.2.2.1 3 (by decide)) (fun _ => rfl) (fun _ => rfl) dX1_init_17 (show 41 < 44 by decide) s0_41 (by decide) ?_
  refine z_aload_n dX1_init_20 rfl ?_
  refine z_bipush (v := 8) dX1_init_21 (by decide) ?_
  refine zi_newa (atype := .int) (n := 44) (q := 20) (n' := 8) (Or.inl ⟨rfl, rfl⟩) w_arrI rfl (by decide) (by decide) (by decide) (by decide) dX1_init_23 s0_44 (by decide +kernel) rfl ?_
  refine zi_putF (n := 45) (j := 4) kX1 lf_X1_18 (by decide) rfl rfl rfl rfl (kX1.2.2.1 4 (by decide)) (fun _ => rfl) (fun _ => rfl) dX1_init_25 (show 41 < 45 by decide) s0_41 (by decide) ?_
  refine z_aload_n dX1_init_28 rfl ?_
  refine z_iconst (v := 4) dX1_init_29 (by decide) ?_
  refine zi_newa (atype := .int) (n := 45) (q := 20) (n' := 4) (Or.inl ⟨rfl, rfl⟩) w_arrI rfl (by decide) (by decide) (by decide) (by decide) dX1_init_30 s0_45 (by decide +kernel) rfl ?_
  refine zi_putF (n := 46) (j := 6) kX1 lf_X1_21 (by decide) rfl rfl rfl rfl (kX1.2.2.1 6 (by decide)) (fun _ => rfl) (fun _ => rfl) dX1_init_32 (show 41 < 46 by decide) s0_41 (by decide) ?_
  refine z_aload_n dX1_init_35 rfl ?_
  refine z_iconst (v := 4) dX1_init_36 (by decide) ?_
  refine zi_newa (atype := .int) (n := 46) (q := 20) (n' := 4) (Or.inl ⟨rfl, rfl⟩) w_arrI rfl (by decide) (by decide) (by decide) (by decide) dX1_init_37 s0_46 (by decide +kernel) rfl ?_
  refine zi_putF (n := 47) (j := 7) kX1 lf_X1_24 (by decide) rfl rfl rfl rfl (kX1.2.2.1 7 (by decide)) (fun _ => rfl) (fun _ => rfl) dX1_init_39 (show 41 < 47 by decide) s0_41 (by decide) ?_
  refine z_aload_n dX1_init_42 rfl ?_
  refine z_iconst (v := 4) dX1_init_43 (by decide) ?_
  refine zi_newa (atype := .int) (n := 47) (q := 20) (n' := 4) (Or.inl ⟨rfl, rfl⟩) w_arrI rfl (by decide) (by decide) (by decide) (by decide) dX1_init_44 s0_47 (by decide +kernel) rfl ?_
  refine zi_putF (n := 48) (j := 8) kX1 lf_X1_27 (by decide) rfl rfl rfl rfl (kX1.2.2.1 8 (by decide)) (fun _ => rfl) (fun _ => rfl) dX1_init_46 (show 41 < 48 by decide) s0_41 (by decide) ?_
  refine z_aload_n dX1_init_49 rfl ?_
  refine z_aload_n dX1_init_50 rfl ?_
  refine zi_putF (n := 48) (j := 0) kX1 lf_X1_30 (by decide) rfl rfl rfl rfl (kX1.2.2.1 0 (by decide)) (fun _ => rfl) (fun _ => rfl) dX1_init_51 (show 41 < 48 by decide) s0_41 (by decide) ?_
  exact z_return dX1_init_54 rfl (by decide) (by decide) ⟨rfl, rfl, rfl⟩

set_option maxRecDepth 100000 in
set_option maxHeartbeats 4000000 in
theorem i_X1_init_48 (g : zG) (l : Launch) : zMet g l yX1_init cX1_init 2 none 1 6 36 [.ref 48, .ref 1] (zSt 49 zE51) zI0 (zQc (zSt 55 zE58) zI0) := by
  refine zMet.of (by decide) (Nat.le_of_ble_eq_true rfl) ?_
  refine z_aload_n dX1_init_0 rfl ?_
  refine z_objInit lm_X1_5 w_oi w_oc (by decide) (Nat.le_of_ble_eq_true rfl) dX1_init_1 ?_
  refine z_aload_n dX1_init_4 rfl ?_
  refine z_bipush (v := 8) dX1_init_5 (by decide) ?_
  refine zi_newa (atype := .int) (n := 49) (q := 20) (n' := 8) (Or.inl ⟨rfl, rfl⟩) w_arrI rfl (by decide) (by decide) (by decide) (by decide) dX1_init_7 s0_49 (by decide +kernel) rfl ?_
  refine zi_putF (n := 50) (j := 2) kX1 lf_X1_11 (by decide) rfl rfl rfl rfl (kX1.2.2.1 2 (by decide)) (fun _ => rfl) (fun _ => rfl) dX1_init_9 (show 48 < 50 by decide) s0_48 (by decide) ?_
  refine z_aload_n dX1_init_12 rfl ?_
  refine z_bipush (v := 8) dX1_init_13 (by decide) ?_
  refine zi_newa (atype := .int) (n := 50) (q := 20) (n' := 8) (Or.inl ⟨rfl, rfl⟩) w_arrI rfl (by decide) (by decide) (by decide) (by decide) dX1_init_15 s0_50 (by decide +kernel) rfl ?_
  refine zi_putF (n := 51) (j := 3) kX1 lf_X1_15 (by decide) rfl rfl rfl rfl (kX1.2.2.1 3 (by decide)) (fun _ => rfl) (fun _ => rfl) dX1_init_17 (show 48 < 51 by decide) s0_48 (by decide) ?_
  refine z_aload_n dX1_init_20 rfl ?_
  refine z_bipush (v := 8) dX1_init_21 (by decide) ?_
  refine zi_newa (atype := .int) (n := 51) (q := 20) (n' := 8) (Or.inl ⟨rfl, rfl⟩) w_arrI rfl (by decide) (by decide) (by decide) (by decide) dX1_init_23 s0_51 (by decide +kernel) rfl ?_
  refine zi_putF (n := 52) (j := 4) kX1 lf_X1_18 (by decide) rfl rfl rfl rfl (kX1.2.2.1 4 (by decide)) (fun _ => rfl) (fun _ => rfl) dX1_init_25 (show 48 < 52 by decide) s0_48 (by decide) ?_
  refine z_aload_n dX1_init_28 rfl ?_
  refine z_iconst (v := 4) dX1_init_29 (by decide) ?_
  refine zi_newa (atype := .int) (n := 52) (q := 20) (n' := 4) (Or.inl ⟨rfl, rfl⟩) w_arrI rfl (by decide) (by decide) (by decide) (by decide) dX1_init_30 s0_52 (by decide +kernel) rfl ?_
  refine zi_putF (n := 53) (j := 6) kX1 lf_X1_21 (by decide) rfl rfl rfl rfl (kX1.2.2.1 6 (by decide)) (fun _ => rfl) (fun _ => rfl) dX1_init_32 (show 48 < 53 by decide) s0_48 (by decide) ?_
  refine z_aload_n dX1_init_35 rfl ?_
  refine z_iconst (v := 4) dX1_init_36 (by decide) ?_
  refine zi_newa (atype := .int) (n := 53) (q := 20) (n' := 4) (Or.inl ⟨rfl, rfl⟩) w_arrI rfl (by decide) (by decide) (by decide) (by decide) dX1_init_37 s0_53 (by decide +kernel) rfl ?_
  refine zi_putF (n := 54) (j := 7) kX1 lf_X1_24 (by decide) rfl rfl rfl rfl (kX1.2.2.1 7 (by decide)) (fun _ => rfl) (fun _ => rfl) dX1_init_39 (show 48 < 54 by decide) s0_48 (by decide) ?_
  refine z_aload_n dX1_init_42 rfl ?_
  refine z_iconst (v := 4) dX1_init_43 (by decide) ?_
  refine zi_newa (atype := .int) (n := 54) (q := 20) (n' := 4) (Or.inl ⟨rfl, rfl⟩) w_arrI rfl (by decide) (by decide) (by decide) (by decide) dX1_init_44 s0_54 (by decide +kernel) rfl ?_
  refine zi_putF (n := 55) (j := 8) kX1 lf_X1_27 (by decide) rfl rfl rfl rfl (kX1.2.2.1 8 (by decide)) (fun _ => rfl) (fun _ => rfl) dX1_init_46 (show 48 < 55 by decide) s0_48 (by decide) ?_
  refine z_aload_n dX1_init_49 rfl ?_
  refine z_aload_n dX1_init_50 rfl ?_
  refine zi_putF (n := 55) (j := 0) kX1 lf_X1_30 (by decide) rfl rfl rfl rfl (kX1.2.2.1 0 (by decide)) (fun _ => rfl) (fun _ => rfl) dX1_init_51 (show 48 < 55 by decide) s0_48 (by decide) ?_
  exact z_return dX1_init_54 rfl (by decide) (by decide) ⟨rfl, rfl, rfl⟩

set_option maxRecDepth 100000 in
set_option maxHeartbeats 4000000 in
theorem i_X1_init_55 (g : zG) (l : Launch) : zMet g l yX1_init cX1_init 2 none 1 6 36 [.ref 55, .ref 1] (zSt 56 zE59) zI0 (zQc (zSt 62 zE66) zI0) := by
  refine zMet.of (by decide) (Nat.le_of_ble_eq_true rfl) ?_
  refine z_aload_n dX1_init_0 rfl ?_
  refine z_objInit lm_X1_5 w_oi w_oc (by decide) (Nat.le_of_ble_eq_true rfl) dX1_init_1 ?_
  refine z_aload_n dX1_init_4 rfl ?_
  refine z_bipush (v := 8) dX1_init_5 (by decide) ?_
  refine zi_newa (atype := .int) (n := 56) (q := 20) (n' := 8) (Or.inl ⟨rfl, rfl⟩) w_arrI rfl (by decide) (by decide) (by decide) (by decide) dX1_init_7 s0_56 (by decide +kernel) rfl ?_
  refine zi_putF (n := 57) (j := 2) kX1 lf_X1_11 (by decide) rfl rfl rfl rfl (kX1.2.2.1 2 (by decide)) (fun _ => rfl) (fun _ => rfl) dX1_init_9 (show 55 < 57 by decide) s0_55 (by decide) ?_
  refine z_aload_n dX1_init_12 rfl ?_
  refine z_bipush (v := 8) dX1_init_13 (by decide) ?_
  refine zi_newa (atype := .int) (n := 57) (q := 20) (n' := 8) (Or.inl ⟨rfl, rfl⟩) w_arrI rfl (by decide) (by decide) (by decide) (by decide) dX1_init_15 s0_57 (by decide +kernel) rfl ?_
  refine zi_putF (n := 58) (j := 3) kX1 lf_X1_15 (by decide) rfl rfl rfl rfl (kX1.2.2.1 3 (by decide)) (fun _ => rfl) (fun _ => rfl) dX1_init_17 (show 55 < 58 by decide) s0_55 (by decide) ?_
  refine z_aload_n dX1_init_20 rfl ?_
  refine z_bipush (v := 8) dX1_init_21 (by decide) ?_
  refine zi_newa (atype := .int) (n := 58) (q := 20) (n' := 8) (Or.inl ⟨rfl, rfl⟩) w_arrI rfl (by decide) (by decide) (by decide) (by decide) dX1_init_23 s0_58 (by decide +kernel) rfl ?_
  refine zi_putF (n := 59) (j := 4) kX1 lf_X1_18 (by decide) rfl rfl rfl rfl (kX1.2.2.1 4 (by decide)) (fun _ => rfl) (fun _ => rfl) dX1_init_25 (show 55 < 59 by decide) s0_55 (by decide) ?_
  refine z_aload_n dX1_init_28 rfl ?_
  refine z_iconst (v := 4) dX1_init_29 (by decide) ?_
  refine zi_newa (atype := .int) (n := 59) (q := 20) (n' := 4) (Or.inl ⟨rfl, rfl⟩) w_arrI rfl (by decide) (by decide) (by decide) (by decide) dX1_init_30 s0_59 (by decide +kernel) rfl ?_
  refine zi_putF (n := 60) (j := 6) kX1 lf_X1_21 (by decide) rfl rfl rfl rfl (kX1.2.2.1 6 (by decide)) (fun _ => rfl) (fun _ => rfl) dX1_init_32 (show 55 < 60 by decide) s0_55 (by decide) ?_
  refine z_aload_n dX1_init_35 rfl ?_
  refine z_iconst (v := 4) dX1_init_36 (by decide) ?_
  refine zi_newa (atype := .int) (n := 60) (q := 20) (n' := 4) (Or.inl ⟨rfl, rfl⟩) w_arrI rfl (by decide) (by decide) (by decide) (by decide) dX1_init_37 s0_60 (by decide +kernel) rfl ?_
  refine zi_putF (n := 61) (j := 7) kX1 lf_X1_24 (by decide) rfl rfl rfl rfl (kX1.2.2.1 7 (by decide)) (fun _ => rfl) (fun _ => rfl) dX1_init_39 (show 55 < 61 by decide) s0_55 (by decide) ?_
  refine z_aload_n dX1_init_42 rfl ?_
  refine z_iconst (v := 4) dX1_init_43 (by decide) ?_
  refine zi_newa (atype := .int) (n := 61) (q := 20) (n' := 4) (Or.inl ⟨rfl, rfl⟩) w_arrI rfl (by decide) (by decide) (by decide) (by decide) dX1_init_44 s0_61 (by decide +kernel) rfl ?_
  refine zi_putF (n := 62) (j := 8) kX1 lf_X1_27 (by decide) rfl rfl rfl rfl (kX1.2.2.1 8 (by decide)) (fun _ => rfl) (fun _ => rfl) dX1_init_46 (show 55 < 62 by decide) s0_55 (by decide) ?_
  refine z_aload_n dX1_init_49 rfl ?_
  refine z_aload_n dX1_init_50 rfl ?_
  refine zi_putF (n := 62) (j := 0) kX1 lf_X1_30 (by decide) rfl rfl rfl rfl (kX1.2.2.1 0 (by decide)) (fun _ => rfl) (fun _ => rfl) dX1_init_51 (show 55 < 62 by decide) s0_55 (by decide) ?_
  exact z_return dX1_init_54 rfl (by decide) (by decide) ⟨rfl, rfl, rfl⟩

set_option maxRecDepth 100000 in
set_option maxHeartbeats 4000000 in
theorem i_X1_init_62 (g : zG) (l : Launch) : zMet g l yX1_init cX1_init 2 none 1 6 36 [.ref 62, .ref 1] (zSt 63 zE67) zI0 (zQc (zSt 69 zE74) zI0) := by
  refine zMet.of (by decide) (Nat.le_of_ble_eq_true rfl) ?_
  refine z_aload_n dX1_init_0 rfl ?_
  refine z_objInit lm_X1_5 w_oi w_oc (by decide) (Nat.le_of_ble_eq_true rfl) dX1_init_1 ?_
  refine z_aload_n dX1_init_4 rfl ?_
  refine z_bipush (v := 8) dX1_init_5 (by decide) ?_
  refine zi_newa (atype := .int) (n := 63) (q := 20) (n' := 8) (Or.inl ⟨rfl, rfl⟩) w_arrI rfl (by decide) (by decide) (by decide) (by decide) dX1_init_7 s0_63 (by decide +kernel) rfl ?_
  refine zi_putF (n := 64) (j := 2) kX1 lf_X1_11 (by decide) rfl rfl rfl rfl (kX1.2.2.1 2 (by decide)) (fun _ => rfl) (fun _ => rfl) dX1_init_9 (show 62 < 64 by decide) s0_62 (by decide) ?_
  refine z_aload_n dX1_init_12 rfl ?_
  refine z_bipush (v := 8) dX1_init_13 (by decide) ?_
  refine zi_newa (atype := .int) (n := 64) (q := 20) (n' := 8) (Or.inl ⟨rfl, rfl⟩) w_arrI rfl (by decide) (by decide) (by decide) (by decide) dX1_init_15 s0_64 (by decide +kernel) rfl ?_
  refine zi_putF (n := 65) (j := 3) kX1 lf_X1_15 (by decide) rfl rfl rfl rfl (kX1.2.2.1 3 (by decide)) (fun _ => rfl) (fun _ => rfl) dX1_init_17 (show 62 < 65 by decide) s0_62 (by decide) ?_
  refine z_aload_n dX1_init_20 rfl ?_
  refine z_bipush (v := 8) dX1_init_21 (by decide) ?_
  refine zi_newa (atype := .int) (n := 65) (q := 20) (n' := 8) (Or.inl ⟨rfl, rfl⟩) w_arrI rfl (by decide) (by decide) (by decide) (by decide) dX1_init_23 s0_65 (by decide +kernel) rfl ?_
  refine zi_putF (n := 66) (j := 4) kX1 lf_X1_18 (by decide) rfl rfl rfl rfl (kX1.2.2.1 4 (by decide)) (fun _ => rfl) (fun _ => rfl) dX1_init_25 (show 62 < 66 by decide) s0_62 (by decide) ?_
  refine z_aload_n dX1_init_28 rfl ?_
  refine z_iconst (v := 4) dX1_init_29 (by decide) ?_
  refine zi_newa (atype := .int) (n := 66) (q := 20) (n' := 4) (Or.inl ⟨rfl, rfl⟩) w_arrI rfl (by decide) (by decide) (by decide) (by decide) dX1_init_30 s0_66 (by decide +kernel) rfl ?_
  refine zi_putF (n := 67) (j := 6) kX1 lf_X1_21 (by decide) rfl rfl rfl rfl (kX1.2.2.1 6 (by decide)) (fun _ => rfl) (fun _ => rfl) dX1_init_32 (show 62 < 67 by decide) s0_62 (by decide) ?_
  refine z_aload_n dX1_init_35 rfl ?_
  refine z_iconst (v := 4) dX1_init_36 (by decide) ?_
  refine zi_newa (atype := .int) (n := 67) (q := 20) (n' := 4) (Or.inl ⟨rfl, rfl⟩) w_arrI rfl (by decide) (by decide) (by decide) (by decide) dX1_init_37 s0_67 (by decide +kernel) rfl ?_
  refine zi_putF (n := 68) (j := 7) kX1 lf_X1_24 (by decide) rfl rfl rfl rfl (kX1.2.2.1 7 (by decide)) (fun _ => rfl) (fun _ => rfl) dX1_init_39 (show 62 < 68 by decide) s0_62 (by decide) ?_
  refine z_aload_n dX1_init_42 rfl ?_
  refine z_iconst (v := 4) dX1_init_43 (by decide) ?_
  refine zi_newa (atype := .int) (n := 68) (q := 20) (n' := 4) (Or.inl ⟨rfl, rfl⟩) w_arrI rfl (by decide) (by decide) (by decide) (by decide) dX1_init_44 s0_68 (by decide +kernel) rfl ?_
  refine zi_putF (n := 69) (j := 8) kX1 lf_X1_27 (by decide) rfl rfl rfl rfl (kX1.2.2.1 8 (by decide)) (fun _ => rfl) (fun _ => rfl) dX1_init_46 (show 62 < 69 by decide) s0_62 (by decide) ?_
  refine z_aload_n dX1_init_49 rfl ?_
  refine z_aload_n dX1_init_50 rfl ?_
  refine zi_putF (n := 69) (j := 0) kX1 lf_X1_30 (by decide) rfl rfl rfl rfl (kX1.2.2.1 0 (by decide)) (fun _ => rfl) (fun _ => rfl) dX1_init_51 (show 62 < 69 by decide) s0_62 (by decide) ?_
  exact z_return dX1_init_54 rfl (by decide) (by decide) ⟨rfl, rfl, rfl⟩

set_option maxRecDepth 100000 in
set_option maxHeartbeats 4000000 in
theorem i_X1_init_69 (g : zG) (l : Launch) : zMet g l yX1_init cX1_init 2 none 1 6 36 [.ref 69, .ref 1] (zSt 70 zE75) zI0 (zQc (zSt 76 zE82) zI0) := by
  refine zMet.of (by decide) (Nat.le_of_ble_eq_true rfl) ?_
  refine z_aload_n dX1_init_0 rfl ?_
  refine z_objInit lm_X1_5 w_oi w_oc (by decide) (Nat.le_of_ble_eq_true rfl) dX1_init_1 ?_
  refine z_aload_n dX1_init_4 rfl ?_
  refine z_bipush (v := 8) dX1_init_5 (by decide) ?_
  refine zi_newa (atype := .int) (n := 70) (q := 20) (n' := 8) (Or.inl ⟨rfl, rfl⟩) w_arrI rfl (by decide) (by decide) (by decide) (by decide) dX1_init_7 s0_70 (by decide +kernel) rfl ?_
  refine zi_putF (n := 71) (j := 2) kX1 lf_X1_11 (by decide) rfl rfl rfl rfl (kX1.2.2.1 2 (by decide)) (fun _ => rfl) (fun _ => rfl) dX1_init_9 (show 69 < 71 by decide) s0_69 (by decide) ?_
  refine z_aload_n dX1_init_12 rfl ?_
  refine z_bipush (v := 8) dX1_init_13 (by decide) ?_
  refine zi_newa (atype := .int) (n := 71) (q := 20) (n' := 8) (Or.inl ⟨rfl, rfl⟩) w_arrI rfl (by decide) (by decide) (by decide) (by decide) dX1_init_15 s0_71 (by decide +kernel) rfl ?_
  refine zi_putF (n := 72) (j := 3) kX1 lf_X1_15 (by decide) rfl rfl rfl rfl (kX1.2.2.1 3 (by decide)) (fun _ => rfl) (fun _ => rfl) dX1_init_17 (show 69 < 72 by decide) s0_69 (by decide) ?_
  refine z_aload_n dX1_init_20 rfl ?_
  refine z_bipush (v := 8) dX1_init_21 (by decide) ?_
  refine zi_newa (atype := .int) (n := 72) (q := 20) (n' := 8) (Or.inl ⟨rfl, rfl⟩) w_arrI rfl (by decide) (by decide) (by decide) (by decide) dX1_init_23 s0_72 (by decide +kernel) rfl ?_
  refine zi_putF (n := 73) (j := 4) kX1 lf_X1_18 (by decide) rfl rfl rfl rfl (kX1.2.2.1 4 (by decide)) (fun _ => rfl) (fun _ => rfl) dX1_init_25 (show 69 < 73 by decide) s0_69 (by decide) ?_
  refine z_aload_n dX1_init_28 rfl ?_
  refine z_iconst (v := 4) dX1_init_29 (by decide) ?_
  refine zi_newa (atype := .int) (n := 73) (q := 20) (n' := 4) (Or.inl ⟨rfl, rfl⟩) w_arrI rfl (by decide) (by decide) (by decide) (by decide) dX1_init_30 s0_73 (by decide +kernel) rfl ?_
  refine zi_putF (n := 74) (j := 6) kX1 lf_X1_21 (by decide) rfl rfl rfl rfl (kX1.2.2.1 6 (by decide)) (fun _ => rfl) (fun _ => rfl) dX1_init_32 (show 69 < 74 by decide) s0_69 (by decide) ?_
  refine z_aload_n dX1_init_35 rfl ?_
  refine z_iconst (v := 4) dX1_init_36 (by decide) ?_
  refine zi_newa (atype := .int) (n := 74) (q := 20) (n' := 4) (Or.inl ⟨rfl, rfl⟩) w_arrI rfl (by decide) (by decide) (by decide) (by decide) dX1_init_37 s0_74 (by decide +kernel) rfl ?_
  refine zi_putF (n := 75) (j := 7) kX1 lf_X1_24 (by decide) rfl rfl rfl rfl (kX1.2.2.1 7 (by decide)) (fun _ => rfl) (fun _ => rfl) dX1_init_39 (show 69 < 75 by decide) s0_69 (by decide) ?_
  refine z_aload_n dX1_init_42 rfl ?_
  refine z_iconst (v := 4) dX1_init_43 (by decide) ?_
  refine zi_newa (atype := .int) (n := 75) (q := 20) (n' := 4) (Or.inl ⟨rfl, rfl⟩) w_arrI rfl (by decide) (by decide) (by decide) (by decide) dX1_init_44 s0_75 (by decide +kernel) rfl ?_
  refine zi_putF (n := 76) (j := 8) kX1 lf_X1_27 (by decide) rfl rfl rfl rfl (kX1.2.2.1 8 (by decide)) (fun _ => rfl) (fun _ => rfl) dX1_init_46 (show 69 < 76 by decide) s0_69 (by decide) ?_
  refine z_aload_n dX1_init_49 rfl ?_
  refine z_aload_n dX1_init_50 rfl ?_
  refine zi_putF (n := 76) (j := 0) kX1 lf_X1_30 (by decide) rfl rfl rfl rfl (kX1.2.2.1 0 (by decide)) (fun _ => rfl) (fun _ => rfl) dX1_init_51 (show 69 < 76 by decide) s0_69 (by decide) ?_
  exact z_return dX1_init_54 rfl (by decide) (by decide) ⟨rfl, rfl, rfl⟩

set_option maxRecDepth 100000 in
set_option maxHeartbeats 4000000 in
theorem i_X1_init_76 (g : zG) (l : Launch) : zMet g l yX1_init cX1_init 2 none 1 6 36 [.ref 76, .ref 1] (zSt 77 zE83) zI0 (zQc (zSt 83 zE90) zI0) := by
  refine zMet.of (by decide) (Nat.le_of_ble_eq_true rfl) ?_
  refine z_aload_n dX1_init_0 rfl ?_
  refine z_objInit lm_X1_5 w_oi w_oc (by decide) (Nat.le_of_ble_eq_true rfl) dX1_init_1 ?_
  refine z_aload_n dX1_init_4 rfl ?_
  refine z_bipush (v := 8) dX1_init_5 (by decide) ?_
  refine zi_newa (atype := .int) (n := 77) (q := 20) (n' := 8) (Or.inl ⟨rfl, rfl⟩) w_arrI rfl (by decide) (by decide) (by decide) (by decide) dX1_init_7 s0_77 (by decide +kernel) rfl ?_
  refine zi_putF (n := 78) (j := 2) kX1 lf_X1_11 (by decide) rfl rfl rfl rfl (kX1.2.2.1 2 (by decide)) (fun _ => rfl) (fun _ => rfl) dX1_init_9 (show 76 < 78 by decide) s0_76 (by decide) ?_
  refine z_aload_n dX1_init_12 rfl ?_
  refine z_bipush (v := 8) dX1_init_13 (by decide) ?_
  refine zi_newa (atype := .int) (n := 78) (q := 20) (n' := 8) (Or.inl ⟨rfl, rfl⟩) w_arrI rfl (by decide) (by decide) (by decide) (by decide) dX1_init_15 s0_78 (by decide +kernel) rfl ?_
  refine zi_putF (n := 79) (j := 3) kX1 lf_X1_15 (by decide) rfl rfl rfl rfl (kX1.2.2.1 3 (by decide)) (fun _ => rfl) (fun _ => rfl) dX1_init_17 (show 76 < 79 by decide) s0_76 (by decide) ?_
  refine z_aload_n dX1_init_20 rfl ?_
  refine z_bipush (v := 8) dX1_init_21 (by decide) ?_
  refine zi_newa (atype := .int) (n := 79) (q := 20) (n' := 8) (Or.inl ⟨rfl, rfl⟩) w_arrI rfl (by decide) (by decide) (by decide) (by decide) dX1_init_23 s0_79 (by decide +kernel) rfl ?_
  refine zi_putF (n := 80) (j := 4) kX1 lf_X1_18 (by decide) rfl rfl rfl rfl (kX1.2.2.1 4 (by decide)) (fun _ => rfl) (fun _ => rfl) dX1_init_25 (show 76 < 80 by decide) s0_76 (by decide) ?_
  refine z_aload_n dX1_init_28 rfl ?_
  refine z_iconst (v := 4) dX1_init_29 (by decide) ?_
  refine zi_newa (atype := .int) (n := 80) (q := 20) (n' := 4) (Or.inl ⟨rfl, rfl⟩) w_arrI rfl (by decide) (by decide) (by decide) (by decide) dX1_init_30 s0_80 (by decide +kernel) rfl ?_
  refine zi_putF (n := 81) (j := 6) kX1 lf_X1_21 (by decide) rfl rfl rfl rfl (kX1.2.2.1 6 (by decide)) (fun _ => rfl) (fun _ => rfl) dX1_init_32 (show 76 < 81 by decide) s0_76 (by decide) ?_
  refine z_aload_n dX1_init_35 rfl ?_
  refine z_iconst (v := 4) dX1_init_36 (by decide) ?_
  refine zi_newa (atype := .int) (n := 81) (q := 20) (n' := 4) (Or.inl ⟨rfl, rfl⟩) w_arrI rfl (by decide) (by decide) (by decide) (by decide) dX1_init_37 s0_81 (by decide +kernel) rfl ?_
  refine zi_putF (n := 82) (j := 7) kX1 lf_X1_24 (by decide) rfl rfl rfl rfl (kX1.2.2.1 7 (by decide)) (fun _ => rfl) (fun _ => rfl) dX1_init_39 (show 76 < 82 by decide) s0_76 (by decide) ?_
  refine z_aload_n dX1_init_42 rfl ?_
  refine z_iconst (v := 4) dX1_init_43 (by decide) ?_
  refine zi_newa (atype := .int) (n := 82) (q := 20) (n' := 4) (Or.inl ⟨rfl, rfl⟩) w_arrI rfl (by decide) (by decide) (by decide) (by decide) dX1_init_44 s0_82 (by decide +kernel) rfl ?_
  refine zi_putF (n := 83) (j := 8) kX1 lf_X1_27 (by decide) rfl rfl rfl rfl (kX1.2.2.1 8 (by decide)) (fun _ => rfl) (fun _ => rfl) dX1_init_46 (show 76 < 83 by decide) s0_76 (by decide) ?_
  refine z_aload_n dX1_init_49 rfl ?_
  refine z_aload_n dX1_init_50 rfl ?_
  refine zi_putF (n := 83) (j := 0) kX1 lf_X1_30 (by decide) rfl rfl rfl rfl (kX1.2.2.1 0 (by decide)) (fun _ => rfl) (fun _ => rfl) dX1_init_51 (show 76 < 83 by decide) s0_76 (by decide) ?_
  exact z_return dX1_init_54 rfl (by decide) (by decide) ⟨rfl, rfl, rfl⟩

set_option maxRecDepth 100000 in
set_option maxHeartbeats 4000000 in
theorem i_X1_init_83 (g : zG) (l : Launch) : zMet g l yX1_init cX1_init 2 none 1 6 36 [.ref 83, .ref 1] (zSt 84 zE91) zI0 (zQc (zSt 90 zE98) zI0) := by
  refine zMet.of (by decide) (Nat.le_of_ble_eq_true rfl) ?_
  refine z_aload_n dX1_init_0 rfl ?_
  refine z_objInit lm_X1_5 w_oi w_oc (by decide) (Nat.le_of_ble_eq_true rfl) dX1_init_1 ?_
  refine z_aload_n dX1_init_4 rfl ?_
  refine z_bipush (v := 8) dX1_init_5 (by decide) ?_
  refine zi_newa (atype := .int) (n := 84) (q := 20) (n' := 8) (Or.inl ⟨rfl, rfl⟩) w_arrI rfl (by decide) (by decide) (by decide) (by decide) dX1_init_7 s0_84 (by decide +kernel) rfl ?_
  refine zi_putF (n := 85) (j := 2) kX1 lf_X1_11 (by decide) rfl rfl rfl rfl (kX1.2.2.1 2 (by decide)) (fun _ => rfl) (fun _ => rfl) dX1_init_9 (show 83 < 85 by decide) s0_83 (by decide) ?_
  refine z_aload_n dX1_init_12 rfl ?_
  refine z_bipush (v := 8) dX1_init_13 (by decide) ?_
  refine zi_newa (atype := .int) (n := 85) (q := 20) (n' := 8) (Or.inl ⟨rfl, rfl⟩) w_arrI rfl (by decide) (by decide) (by decide) (by decide) dX1_init_15 s0_85 (by decide +kernel) rfl ?_
  refine zi_putF (n := 86) (j := 3) kX1 lf_X1_15 (by decide) rfl rfl rfl rfl (kX1.2.2.1 3 (by decide)) (fun _ => rfl) (fun _ => rfl) dX1_init_17 (show 83 < 86 by decide) s0_83 (by decide) ?_
  refine z_aload_n dX1_init_20 rfl ?_
  refine z_bipush (v := 8) dX1_init_21 (by decide) ?_
  refine zi_newa (atype := .int) (n := 86) (q := 20) (n' := 8) (Or.inl ⟨rfl, rfl⟩) w_arrI rfl (by decide) (by decide) (by decide) (by decide) dX1_init_23 s0_86 (by decide +kernel) rfl ?_
  refine zi_putF (n := 87) (j := 4) kX1 lf_X1_18 (by decide) rfl rfl rfl rfl (kX1.2.2.1 4 (by decide)) (fun _ => rfl) (fun _ => rfl) dX1_init_25 (show 83 < 87 by decide) s0_83 (by decide) ?_
  refine z_aload_n dX1_init_28 rfl ?_
  refine z_iconst (v := 4) dX1_init_29 (by decide) ?_
  refine zi_newa (atype := .int) (n := 87) (q := 20) (n' := 4) (Or.inl ⟨rfl, rfl⟩) w_arrI rfl (by decide) (by decide) (by decide) (by decide) dX1_init_30 s0_87 (by decide +kernel) rfl ?_
  refine zi_putF (n := 88) (j := 6) kX1 lf_X1_21 (by decide) rfl rfl rfl rfl (kX1.2.2.1 6 (by decide)) (fun _ => rfl) (fun _ => rfl) dX1_init_32 (show 83 < 88 by decide) s0_83 (by decide) ?_
  refine z_aload_n dX1_init_35 rfl ?_
  refine z_iconst (v := 4) dX1_init_36 (by decide) ?_
  refine zi_newa (atype := .int) (n := 88) (q := 20) (n' := 4) (Or.inl ⟨rfl, rfl⟩) w_arrI rfl (by decide) (by decide) (by decide) (by decide) dX1_init_37 s0_88 (by decide +kernel) rfl ?_
  refine zi_putF (n := 89) (j := 7) kX1 lf_X1_24 (by decide) rfl rfl rfl rfl (kX1.2.2.1 7 (by decide)) (fun _ => rfl) (fun _ => rfl) dX1_init_39 (show 83 < 89 by decide) s0_83 (by decide) ?_
  refine z_aload_n dX1_init_42 rfl ?_
  refine z_iconst (v := 4) dX1_init_43 (by decide) ?_
  refine zi_newa (atype := .int) (n := 89) (q := 20) (n' := 4) (Or.inl ⟨rfl, rfl⟩) w_arrI rfl (by decide) (by decide) (by decide) (by decide) dX1_init_44 s0_89 (by decide +kernel) rfl ?_
  refine zi_putF (n := 90) (j := 8) kX1 lf_X1_27 (by decide) rfl rfl rfl rfl (kX1.2.2.1 8 (by decide)) (fun _ => rfl) (fun _ => rfl) dX1_init_46 (show 83 < 90 by decide) s0_83 (by decide) ?_
  refine z_aload_n dX1_init_49 rfl ?_
  refine z_aload_n dX1_init_50 rfl ?_
  refine zi_putF (n := 90) (j := 0) kX1 lf_X1_30 (by decide) rfl rfl rfl rfl (kX1.2.2.1 0 (by decide)) (fun _ => rfl) (fun _ => rfl) dX1_init_51 (show 83 < 90 by decide) s0_83 (by decide) ?_
  exact z_return dX1_init_54 rfl (by decide) (by decide) ⟨rfl, rfl, rfl⟩

set_option maxRecDepth 100000 in
set_option maxHeartbeats 4000000 in
theorem i_X6_init_32 (g : zG) (l : Launch) : zMet g l yX6_init cX6_init 3 none 2 57 368 [.ref 32, .ref 1] (zSt 33 zE34) zI0 (zQc (zSt 90 zE99) zI0) := by
  refine zMet.of (by decide) (Nat.le_of_ble_eq_true rfl) ?_
  refine z_aload_n dX6_init_0 rfl ?_
  refine z_objInit lm_X6_3 w_oi w_oc (by decide) (Nat.le_of_ble_eq_true rfl) dX6_init_1 ?_
  refine z_aload_n dX6_init_4 rfl ?_
  refine z_bipush (v := 8) dX6_init_5 (by decide) ?_
  refine zi_anew (n := 33) (q := 22) (n' := 8) (Or.inl ⟨rfl, rfl⟩) lk_X6_9 rfl (by decide) (by decide) (by decide) (by decide) dX6_init_7 s0_33 (by decide +kernel) rfl ?_
  refine zi_putF (n := 34) (j := 0) kX6 lf_X6_11 (by decide) rfl rfl rfl rfl (kX6.2.2.1 0 (by decide)) (fun _ => rfl) (fun _ => rfl) dX6_init_10 (show 32 < 34 by decide) s0_32 (by decide) ?_
  refine z_iconst (v := 0) dX6_init_13 (by decide) ?_
  refine z_istore_n dX6_init_14 (by decide) rfl rfl ?_
  refine z_iload_n dX6_init_15 rfl ?_
  refine z_aload_n dX6_init_16 rfl ?_
  refine z_getR (j := 0) (r := 33) kX6 lf_X6_11 (by decide) rfl dX6_init_17 (show 32 < 34 by decide) s0_32 (show zEv zE35 32 0 = 33 + 1 by decide +kernel) (by decide) ?_
  refine z_alen dX6_init_20 (show 33 < 34 by decide) s0_33 (by decide) ?_
  refine z_icmp_ge (tgt := 44) dX6_init_21 (by decide) (fun b => absurd b (by decide)) (fun _ => ?_)
  refine z_aload_n dX6_init_24 rfl ?_
  refine z_getR (j := 0) (r := 33) kX6 lf_X6_11 (by decide) rfl dX6_init_25 (show 32 < 34 by decide) s0_32 (show zEv zE35 32 0 = 33 + 1 by decide +kernel) (by decide) ?_
  refine z_iload_n dX6_init_28 rfl ?_
  refine zi_new (n := 34) kX1 lk_X6_9 wi_X1 wn_X1 dfX1 (by decide) (by decide) (by decide) dX6_init_29 s0_34 (by decide +kernel) rfl ?_
  refine z_dup dX6_init_32 rfl ?_
  refine z_aload_n dX6_init_33 rfl ?_
  refine z_callI [.ref 1] (i_X1_init_34 g l) mw_X1_init lm_X6_17 mi_X1_init rfl (by decide) (Nat.le_of_ble_eq_true rfl) (by decide) (by decide) dX6_init_34 (fun v34 S34 M34 q34 => ?_) rfl
  obtain ⟨rfl, rfl, rfl⟩ := q34
  refine zi_aast (n := 41) (j := 0) (cr := 1) kX1 dX6_init_37 (show 33 < 41 by decide) s0_33 (Or.inl ⟨rfl, rfl⟩) rfl (by decide) (by decide) (show 34 < 41 by decide) s0_34 ?_
  refine z_iinc (v := 1) dX6_init_38 rfl (by decide) (by decide) rfl rfl ?_
  refine z_goto (tgt := 15) dX6_init_41 (by decide) ?_
  refine z_iload_n dX6_init_15 rfl ?_
  refine z_aload_n dX6_init_16 rfl ?_
  refine z_getR (j := 0) (r := 33) kX6 lf_X6_11 (by decide) rfl dX6_init_17 (show 32 < 41 by decide) s0_32 (show zEv zE43 32 0 = 33 + 1 by decide +kernel) (by decide) ?_
  refine z_alen dX6_init_20 (show 33 < 41 by decide) s0_33 (by decide) ?_
  refine z_icmp_ge (tgt := 44) dX6_init_21 (by decide) (fun b => absurd b (by decide)) (fun _ => ?_)
  refine z_aload_n dX6_init_24 rfl ?_
  refine z_getR (j := 0) (r := 33) kX6 lf_X6_11 (by decide) rfl dX6_init_25 (show 32 < 41 by decide) s0_32 (show zEv zE43 32 0 = 33 + 1 by decide +kernel) (by decide) ?_
  refine z_iload_n dX6_init_28 rfl ?_
  refine zi_new (n := 41) kX1 lk_X6_9 wi_X1 wn_X1 dfX1 (by decide) (by decide) (by decide) dX6_init_29 s0_41 (by decide +kernel) rfl ?_
  refine z_dup dX6_init_32 rfl ?_
  refine z_aload_n dX6_init_33 rfl ?_
  refine z_callI [.ref 1] (i_X1_init_41 g l) mw_X1_init lm_X6_17 mi_X1_init rfl (by decide) (Nat.le_of_ble_eq_true rfl) (by decide) (by decide) dX6_init_34 (fun v34 S34 M34 q34 => ?_) rfl
  obtain ⟨rfl, rfl, rfl⟩ := q34
  refine zi_aast (n := 48) (j := 1) (cr := 1) kX1 dX6_init_37 (show 33 < 48 by decide) s0_33 (Or.inl ⟨rfl, rfl⟩) rfl (by decide) (by decide) (show 41 < 48 by decide) s0_41 ?_
  refine z_iinc (v := 2) dX6_init_38 rfl (by decide) (by decide) rfl rfl ?_
  refine z_goto (tgt := 15) dX6_init_41 (by decide) ?_
  refine z_iload_n dX6_init_15 rfl ?_
  refine z_aload_n dX6_init_16 rfl ?_
  refine z_getR (j := 0) (r := 33) kX6 lf_X6_11 (by decide) rfl dX6_init_17 (show 32 < 48 by decide) s0_32 (show zEv zE51 32 0 = 33 + 1 by decide +kernel) (by decide) ?_
  refine z_alen dX6_init_20 (show 33 < 48 by decide) s0_33 (by decide) ?_
  refine z_icmp_ge (tgt := 44) dX6_init_21 (by decide) (fun b => absurd b (by decide)) (fun _ => ?_)
  refine z_aload_n dX6_init_24 rfl ?_
  refine z_getR (j := 0) (r := 33) kX6 lf_X6_11 (by decide) rfl dX6_init_25 (show 32 < 48 by decide) s0_32 (show zEv zE51 32 0 = 33 + 1 by decide +kernel) (by decide) ?_
  refine z_iload_n dX6_init_28 rfl ?_
  refine zi_new (n := 48) kX1 lk_X6_9 wi_X1 wn_X1 dfX1 (by decide) (by decide) (by decide) dX6_init_29 s0_48 (by decide +kernel) rfl ?_
  refine z_dup dX6_init_32 rfl ?_
  refine z_aload_n dX6_init_33 rfl ?_
  refine z_callI [.ref 1] (i_X1_init_48 g l) mw_X1_init lm_X6_17 mi_X1_init rfl (by decide) (Nat.le_of_ble_eq_true rfl) (by decide) (by decide) dX6_init_34 (fun v34 S34 M34 q34 => ?_) rfl
  obtain ⟨rfl, rfl, rfl⟩ := q34
  refine zi_aast (n := 55) (j := 2) (cr := 1) kX1 dX6_init_37 (show 33 < 55 by decide) s0_33 (Or.inl ⟨rfl, rfl⟩) rfl (by decide) (by decide) (show 48 < 55 by decide) s0_48 ?_
  refine z_iinc (v := 3) dX6_init_38 rfl (by decide) (by decide) rfl rfl ?_
  refine z_goto (tgt := 15) dX6_init_41 (by decide) ?_
  refine z_iload_n dX6_init_15 rfl ?_
  refine z_aload_n dX6_init_16 rfl ?_
  refine z_getR (j := 0) (r := 33) kX6 lf_X6_11 (by decide) rfl dX6_init_17 (show 32 < 55 by decide) s0_32 (show zEv zE59 32 0 = 33 + 1 by decide +kernel) (by decide) ?_
  refine z_alen dX6_init_20 (show 33 < 55 by decide) s0_33 (by decide) ?_
  refine z_icmp_ge (tgt := 44) dX6_init_21 (by decide) (fun b => absurd b (by decide)) (fun _ => ?_)
  refine z_aload_n dX6_init_24 rfl ?_
  refine z_getR (j := 0) (r := 33) kX6 lf_X6_11 (by decide) rfl dX6_init_25 (show 32 < 55 by decide) s0_32 (show zEv zE59 32 0 = 33 + 1 by decide +kernel) (by decide) ?_
  refine z_iload_n dX6_init_28 rfl ?_
  refine zi_new (n := 55) kX1 lk_X6_9 wi_X1 wn_X1 dfX1 (by decide) (by decide) (by decide) dX6_init_29 s0_55 (by decide +kernel) rfl ?_
  refine z_dup dX6_init_32 rfl ?_
  refine z_aload_n dX6_init_33 rfl ?_
  refine z_callI [.ref 1] (i_X1_init_55 g l) mw_X1_init lm_X6_17 mi_X1_init rfl (by decide) (Nat.le_of_ble_eq_true rfl) (by decide) (by decide) dX6_init_34 (fun v34 S34 M34 q34 => ?_) rfl
  obtain ⟨rfl, rfl, rfl⟩ := q34
  refine zi_aast (n := 62) (j := 3) (cr := 1) kX1 dX6_init_37 (show 33 < 62 by decide) s0_33 (Or.inl ⟨rfl, rfl⟩) rfl (by decide) (by decide) (show 55 < 62 by decide) s0_55 ?_
  refine z_iinc (v := 4) dX6_init_38 rfl (by decide) (by decide) rfl rfl ?_
  refine z_goto (tgt := 15) dX6_init_41 (by decide) ?_
  refine z_iload_n dX6_init_15 rfl ?_
  refine z_aload_n dX6_init_16 rfl ?_
  refine z_getR (j := 0) (r := 33) kX6 lf_X6_11 (by decide) rfl dX6_init_17 (show 32 < 62 by decide) s0_32 (show zEv zE67 32 0 = 33 + 1 by decide +kernel) (by decide) ?_
  refine z_alen dX6_init_20 (show 33 < 62 by decide) s0_33 (by decide) ?_
  refine z_icmp_ge (tgt := 44) dX6_init_21 (by decide) (fun b => absurd b (by decide)) (fun _ => ?_)
  refine z_aload_n dX6_init_24 rfl ?_
  refine z_getR (j := 0) (r := 33) kX6 lf_X6_11 (by decide) rfl dX6_init_25 (show 32 < 62 by decide) s0_32 (show zEv zE67 32 0 = 33 + 1 by decide +kernel) (by decide) ?_
  refine z_iload_n dX6_init_28 rfl ?_
  refine zi_new (n := 62) kX1 lk_X6_9 wi_X1 wn_X1 dfX1 (by decide) (by decide) (by decide) dX6_init_29 s0_62 (by decide +kernel) rfl ?_
  refine z_dup dX6_init_32 rfl ?_
  refine z_aload_n dX6_init_33 rfl ?_
  refine z_callI [.ref 1] (i_X1_init_62 g l) mw_X1_init lm_X6_17 mi_X1_init rfl (by decide) (Nat.le_of_ble_eq_true rfl) (by decide) (by decide) dX6_init_34 (fun v34 S34 M34 q34 => ?_) rfl
  obtain ⟨rfl, rfl, rfl⟩ := q34
  refine zi_aast (n := 69) (j := 4) (cr := 1) kX1 dX6_init_37 (show 33 < 69 by decide) s0_33 (Or.inl ⟨rfl, rfl⟩) rfl (by decide) (by decide) (show 62 < 69 by decide) s0_62 ?_
  refine z_iinc (v := 5) dX6_init_38 rfl (by decide) (by decide) rfl rfl ?_
  refine z_goto (tgt := 15) dX6_init_41 (by decide) ?_
  refine z_iload_n dX6_init_15 rfl ?_
  refine z_aload_n dX6_init_16 rfl ?_
  refine z_getR (j := 0) (r := 33) kX6 lf_X6_11 (by decide) rfl dX6_init_17 (show 32 < 69 by decide) s0_32 (show zEv zE75 32 0 = 33 + 1 by decide +kernel) (by decide) ?_
  refine z_alen dX6_init_20 (show 33 < 69 by decide) s0_33 (by decide) ?_
  refine z_icmp_ge (tgt := 44) dX6_init_21 (by decide) (fun b => absurd b (by decide)) (fun _ => ?_)
  refine z_aload_n dX6_init_24 rfl ?_
  refine z_getR (j := 0) (r := 33) kX6 lf_X6_11 (by decide) rfl dX6_init_25 (show 32 < 69 by decide) s0_32 (show zEv zE75 32 0 = 33 + 1 by decide +kernel) (by decide) ?_
  refine z_iload_n dX6_init_28 rfl ?_
  refine zi_new (n := 69) kX1 lk_X6_9 wi_X1 wn_X1 dfX1 (by decide) (by decide) (by decide) dX6_init_29 s0_69 (by decide +kernel) rfl ?_
  refine z_dup dX6_init_32 rfl ?_
  refine z_aload_n dX6_init_33 rfl ?_
  refine z_callI [.ref 1] (i_X1_init_69 g l) mw_X1_init lm_X6_17 mi_X1_init rfl (by decide) (Nat.le_of_ble_eq_true rfl) (by decide) (by decide) dX6_init_34 (fun v34 S34 M34 q34 => ?_) rfl
  obtain ⟨rfl, rfl, rfl⟩ := q34
  refine zi_aast (n := 76) (j := 5) (cr := 1) kX1 dX6_init_37 (show 33 < 76 by decide) s0_33 (Or.inl ⟨rfl, rfl⟩) rfl (by decide) (by decide) (show 69 < 76 by decide) s0_69 ?_
  refine z_iinc (v := 6) dX6_init_38 rfl (by decide) (by decide) rfl rfl ?_
  refine z_goto (tgt := 15) dX6_init_41 (by decide) ?_
  refine z_iload_n dX6_init_15 rfl ?_
  refine z_aload_n dX6_init_16 rfl ?_
  refine z_getR (j := 0) (r := 33) kX6 lf_X6_11 (by decide) rfl dX6_init_17 (show 32 < 76 by decide) s0_32 (show zEv zE83 32 0 = 33 + 1 by decide +kernel) (by decide) ?_
  refine z_alen dX6_init_20 (show 33 < 76 by decide) s0_33 (by decide) ?_
  refine z_icmp_ge (tgt := 44) dX6_init_21 (by decide) (fun b => absurd b (by decide)) (fun _ => ?_)
  refine z_aload_n dX6_init_24 rfl ?_
  refine z_getR (j := 0) (r := 33) kX6 lf_X6_11 (by decide) rfl dX6_init_25 (show 32 < 76 by decide) s0_32 (show zEv zE83 32 0 = 33 + 1 by decide +kernel) (by decide) ?_
  refine z_iload_n dX6_init_28 rfl ?_
  refine zi_new (n := 76) kX1 lk_X6_9 wi_X1 wn_X1 dfX1 (by decide) (by decide) (by decide) dX6_init_29 s0_76 (by decide +kernel) rfl ?_
  refine z_dup dX6_init_32 rfl ?_
  refine z_aload_n dX6_init_33 rfl ?_
  refine z_callI [.ref 1] (i_X1_init_76 g l) mw_X1_init lm_X6_17 mi_X1_init rfl (by decide) (Nat.le_of_ble_eq_true rfl) (by decide) (by decide) dX6_init_34 (fun v34 S34 M34 q34 => ?_) rfl
  obtain ⟨rfl, rfl, rfl⟩ := q34
  refine zi_aast (n := 83) (j := 6) (cr := 1) kX1 dX6_init_37 (show 33 < 83 by decide) s0_33 (Or.inl ⟨rfl, rfl⟩) rfl (by decide) (by decide) (show 76 < 83 by decide) s0_76 ?_
  refine z_iinc (v := 7) dX6_init_38 rfl (by decide) (by decide) rfl rfl ?_
  refine z_goto (tgt := 15) dX6_init_41 (by decide) ?_
  refine z_iload_n dX6_init_15 rfl ?_
  refine z_aload_n dX6_init_16 rfl ?_
  refine z_getR (j := 0) (r := 33) kX6 lf_X6_11 (by decide) rfl dX6_init_17 (show 32 < 83 by decide) s0_32 (show zEv zE91 32 0 = 33 + 1 by decide +kernel) (by decide) ?_
  refine z_alen dX6_init_20 (show 33 < 83 by decide) s0_33 (by decide) ?_
  refine z_icmp_ge (tgt := 44) dX6_init_21 (by decide) (fun b => absurd b (by decide)) (fun _ => ?_)
  refine z_aload_n dX6_init_24 rfl ?_
  refine z_getR (j := 0) (r := 33) kX6 lf_X6_11 (by decide) rfl dX6_init_25 (show 32 < 83 by decide) s0_32 (show zEv zE91 32 0 = 33 + 1 by decide +kernel) (by decide) ?_
  refine z_iload_n dX6_init_28 rfl ?_
  refine zi_new (n := 83) kX1 lk_X6_9 wi_X1 wn_X1 dfX1 (by decide) (by decide) (by decide) dX6_init_29 s0_83 (by decide +kernel) rfl ?_
  refine z_dup dX6_init_32 rfl ?_
  refine z_aload_n dX6_init_33 rfl ?_
  refine z_callI [.ref 1] (i_X1_init_83 g l) mw_X1_init lm_X6_17 mi_X1_init rfl (by decide) (Nat.le_of_ble_eq_true rfl) (by decide) (by decide) dX6_init_34 (fun v34 S34 M34 q34 => ?_) rfl
  obtain ⟨rfl, rfl, rfl⟩ := q34
  refine zi_aast (n := 90) (j := 7) (cr := 1) kX1 dX6_init_37 (show 33 < 90 by decide) s0_33 (Or.inl ⟨rfl, rfl⟩) rfl (by decide) (by decide) (show 83 < 90 by decide) s0_83 ?_
  refine z_iinc (v := 8) dX6_init_38 rfl (by decide) (by decide) rfl rfl ?_
  refine z_goto (tgt := 15) dX6_init_41 (by decide) ?_
  refine z_iload_n dX6_init_15 rfl ?_
  refine z_aload_n dX6_init_16 rfl ?_
  refine z_getR (j := 0) (r := 33) kX6 lf_X6_11 (by decide) rfl dX6_init_17 (show 32 < 90 by decide) s0_32 (show zEv zE99 32 0 = 33 + 1 by decide +kernel) (by decide) ?_
  refine z_alen dX6_init_20 (show 33 < 90 by decide) s0_33 (by decide) ?_
  refine z_icmp_ge (tgt := 44) dX6_init_21 (by decide) (fun _ => ?_) (fun b => absurd (by decide) b)
  exact z_return dX6_init_44 rfl (by decide) (by decide) ⟨rfl, rfl, rfl⟩

set_option maxRecDepth 100000 in
set_option maxHeartbeats 4000000 in
theorem i_X1_init_91 (g : zG) (l : Launch) : zMet g l yX1_init cX1_init 2 none 1 6 36 [.ref 91, .ref 1] (zSt 92 zE101) zI0 (zQc (zSt 98 zE108) zI0) := by
  refine zMet.of (by decide) (Nat.le_of_ble_eq_true rfl) ?_
  refine z_aload_n dX1_init_0 rfl ?_
  refine z_objInit lm_X1_5 w_oi w_oc (by decide) (Nat.le_of_ble_eq_true rfl) dX1_init_1 ?_
  refine z_aload_n dX1_init_4 rfl ?_
  refine z_bipush (v := 8) dX1_init_5 (by decide) ?_
  refine zi_newa (atype := .int) (n := 92) (q := 20) (n' := 8) (Or.inl ⟨rfl, rfl⟩) w_arrI rfl (by decide) (by decide) (by decide) (by decide) dX1_init_7 s0_92 (by decide +kernel) rfl ?_
  refine zi_putF (n := 93) (j := 2) kX1 lf_X1_11 (by decide) rfl rfl rfl rfl (kX1.2.2.1 2 (by decide)) (fun _ => rfl) (fun _ => rfl) dX1_init_9 (show 91 < 93 by decide) s0_91 (by decide) ?_
  refine z_aload_n dX1_init_12 rfl ?_
  refine z_bipush (v := 8) dX1_init_13 (by decide) ?_
  refine zi_newa (atype := .int) (n := 93) (q := 20) (n' := 8) (Or.inl ⟨rfl, rfl⟩) w_arrI rfl (by decide) (by decide) (by decide) (by decide) dX1_init_15 s0_93 (by decide +kernel) rfl ?_
  refine zi_putF (n := 94) (j := 3) kX1 lf_X1_15 (by decide) rfl rfl rfl rfl (kX1.2.2.1 3 (by decide)) (fun _ => rfl) (fun _ => rfl) dX1_init_17 (show 91 < 94 by decide) s0_91 (by decide) ?_
  refine z_aload_n dX1_init_20 rfl ?_
  refine z_bipush (v := 8) dX1_init_21 (by decide) ?_
  refine zi_newa (atype := .int) (n := 94) (q := 20) (n' := 8) (Or.inl ⟨rfl, rfl⟩) w_arrI rfl (by decide) (by decide) (by decide) (by decide) dX1_init_23 s0_94 (by decide +kernel) rfl ?_
  refine zi_putF (n := 95) (j := 4) kX1 lf_X1_18 (by decide) rfl rfl rfl rfl (kX1.2.2.1 4 (by decide)) (fun _ => rfl) (fun _ => rfl) dX1_init_25 (show 91 < 95 by decide) s0_91 (by decide) ?_
  refine z_aload_n dX1_init_28 rfl ?_
  refine z_iconst (v := 4) dX1_init_29 (by decide) ?_
  refine zi_newa (atype := .int) (n := 95) (q := 20) (n' := 4) (Or.inl ⟨rfl, rfl⟩) w_arrI rfl (by decide) (by decide) (by decide) (by decide) dX1_init_30 s0_95 (by decide +kernel) rfl ?_
  refine zi_putF (n := 96) (j := 6) kX1 lf_X1_21 (by decide) rfl rfl rfl rfl (kX1.2.2.1 6 (by decide)) (fun _ => rfl) (fun _ => rfl) dX1_init_32 (show 91 < 96 by decide) s0_91 (by decide) ?_
  refine z_aload_n dX1_init_35 rfl ?_
  refine z_iconst (v := 4) dX1_init_36 (by decide) ?_
  refine zi_newa (atype := .int) (n := 96) (q := 20) (n' := 4) (Or.inl ⟨rfl, rfl⟩) w_arrI rfl (by decide) (by decide) (by decide) (by decide) dX1_init_37 s0_96 (by decide +kernel) rfl ?_
  refine zi_putF (n := 97) (j := 7) kX1 lf_X1_24 (by decide) rfl rfl rfl rfl (kX1.2.2.1 7 (by decide)) (fun _ => rfl) (fun _ => rfl) dX1_init_39 (show 91 < 97 by decide) s0_91 (by decide) ?_
  refine z_aload_n dX1_init_42 rfl ?_
  refine z_iconst (v := 4) dX1_init_43 (by decide) ?_
  refine zi_newa (atype := .int) (n := 97) (q := 20) (n' := 4) (Or.inl ⟨rfl, rfl⟩) w_arrI rfl (by decide) (by decide) (by decide) (by decide) dX1_init_44 s0_97 (by decide +kernel) rfl ?_
  refine zi_putF (n := 98) (j := 8) kX1 lf_X1_27 (by decide) rfl rfl rfl rfl (kX1.2.2.1 8 (by decide)) (fun _ => rfl) (fun _ => rfl) dX1_init_46 (show 91 < 98 by decide) s0_91 (by decide) ?_
  refine z_aload_n dX1_init_49 rfl ?_
  refine z_aload_n dX1_init_50 rfl ?_
  refine zi_putF (n := 98) (j := 0) kX1 lf_X1_30 (by decide) rfl rfl rfl rfl (kX1.2.2.1 0 (by decide)) (fun _ => rfl) (fun _ => rfl) dX1_init_51 (show 91 < 98 by decide) s0_91 (by decide) ?_
  exact z_return dX1_init_54 rfl (by decide) (by decide) ⟨rfl, rfl, rfl⟩

set_option maxRecDepth 100000 in
set_option maxHeartbeats 4000000 in
theorem i_X1_init_98 (g : zG) (l : Launch) : zMet g l yX1_init cX1_init 2 none 1 6 36 [.ref 98, .ref 1] (zSt 99 zE109) zI0 (zQc (zSt 105 zE116) zI0) := by
  refine zMet.of (by decide) (Nat.le_of_ble_eq_true rfl) ?_
  refine z_aload_n dX1_init_0 rfl ?_
  refine z_objInit lm_X1_5 w_oi w_oc (by decide) (Nat.le_of_ble_eq_true rfl) dX1_init_1 ?_
  refine z_aload_n dX1_init_4 rfl ?_
  refine z_bipush (v := 8) dX1_init_5 (by decide) ?_
  refine zi_newa (atype := .int) (n := 99) (q := 20) (n' := 8) (Or.inl ⟨rfl, rfl⟩) w_arrI rfl (by decide) (by decide) (by decide) (by decide) dX1_init_7 s0_99 (by decide +kernel) rfl ?_
  refine zi_putF (n := 100) (j := 2) kX1 lf_X1_11 (by decide) rfl rfl rfl rfl (kX1.2.2.1 2 (by decide)) (fun _ => rfl) (fun _ => rfl) dX1_init_9 (show 98 < 100 by decide) s0_98 (by decide) ?_
  refine z_aload_n dX1_init_12 rfl ?_
  refine z_bipush (v := 8) dX1_init_13 (by decide) ?_
  refine zi_newa (atype := .int) (n := 100) (q := 20) (n' := 8) (Or.inl ⟨rfl, rfl⟩) w_arrI rfl (by decide) (by decide) (by decide) (by decide) dX1_init_15 s0_100 (by decide +kernel) rfl ?_
  refine zi_putF (n := 101) (j := 3) kX1 lf_X1_15 (by decide) rfl rfl rfl rfl (kX1.2.2.1 3 (by decide)) (fun _ => rfl) (fun _ => rfl) dX1_init_17 (show 98 < 101 by decide) s0_98 (by decide) ?_
  refine z_aload_n dX1_init_20 rfl ?_
  refine z_bipush (v := 8) dX1_init_21 (by decide) ?_
  refine zi_newa (atype := .int) (n := 101) (q := 20) (n' := 8) (Or.inl ⟨rfl, rfl⟩) w_arrI rfl (by decide) (by decide) (by decide) (by decide) dX1_init_23 s0_101 (by decide +kernel) rfl ?_
  refine zi_putF (n := 102) (j := 4) kX1 lf_X1_18 (by decide) rfl rfl rfl rfl (kX1.2.2.1 4 (by decide)) (fun _ => rfl) (fun _ => rfl) dX1_init_25 (show 98 < 102 by decide) s0_98 (by decide) ?_
  refine z_aload_n dX1_init_28 rfl ?_
  refine z_iconst (v := 4) dX1_init_29 (by decide) ?_
  refine zi_newa (atype := .int) (n := 102) (q := 20) (n' := 4) (Or.inl ⟨rfl, rfl⟩) w_arrI rfl (by decide) (by decide) (by decide) (by decide) dX1_init_30 s0_102 (by decide +kernel) rfl ?_
  refine zi_putF (n := 103) (j := 6) kX1 lf_X1_21 (by decide) rfl rfl rfl rfl (kX1.2.2.1 6 (by decide)) (fun _ => rfl) (fun _ => rfl) dX1_init_32 (show 98 < 103 by decide) s0_98 (by decide) ?_
  refine z_aload_n dX1_init_35 rfl ?_
  refine z_iconst (v := 4) dX1_init_36 (by decide) ?_
  refine zi_newa (atype := .int) (n := 103) (q := 20) (n' := 4) (Or.inl ⟨rfl, rfl⟩) w_arrI rfl (by decide) (by decide) (by decide) (by decide) dX1_init_37 s0_103 (by decide +kernel) rfl ?_
  refine zi_putF (n := 104) (j := 7) kX1 lf_X1_24 (by decide) rfl rfl rfl rfl (kX1.2.2.1 7 (by decide)) (fun _ => rfl) (fun _ => rfl) dX1_init_39 (show 98 < 104 by decide) s0_98 (by decide) ?_
  refine z_aload_n dX1_init_42 rfl ?_
  refine z_iconst (v := 4) dX1_init_43 (by decide) ?_
  refine zi_newa (atype := .int) (n := 104) (q := 20) (n' := 4) (Or.inl ⟨rfl, rfl⟩) w_arrI rfl (by decide) (by decide) (by decide) (by decide) dX1_init_44 s0_104 (by decide +kernel) rfl ?_
  refine zi_putF (n := 105) (j := 8) kX1 lf_X1_27 (by decide) rfl rfl rfl rfl (kX1.2.2.1 8 (by decide)) (fun _ => rfl) (fun _ => rfl) dX1_init_46 (show 98 < 105 by decide) s0_98 (by decide) ?_
  refine z_aload_n dX1_init_49 rfl ?_
  refine z_aload_n dX1_init_50 rfl ?_
  refine zi_putF (n := 105) (j := 0) kX1 lf_X1_30 (by decide) rfl rfl rfl rfl (kX1.2.2.1 0 (by decide)) (fun _ => rfl) (fun _ => rfl) dX1_init_51 (show 98 < 105 by decide) s0_98 (by decide) ?_
  exact z_return dX1_init_54 rfl (by decide) (by decide) ⟨rfl, rfl, rfl⟩

set_option maxRecDepth 100000 in
set_option maxHeartbeats 4000000 in
theorem i_X4_init_106 (g : zG) (l : Launch) : zMet g l yX4_init cX4_init 1 none 1 2 8 [.ref 106] (zSt 107 zE118) zI0 (zQc (zSt 109 zE120) zI0) := by
  refine zMet.of (by decide) (Nat.le_of_ble_eq_true rfl) ?_
  refine z_aload_n dX4_init_0 rfl ?_
  refine z_objInit lm_X4_3 w_oi w_oc (by decide) (Nat.le_of_ble_eq_true rfl) dX4_init_1 ?_
  refine z_aload_n dX4_init_4 rfl ?_
  refine z_iconst (v := 4) dX4_init_5 (by decide) ?_
  refine zi_newa (atype := .int) (n := 107) (q := 20) (n' := 4) (Or.inl ⟨rfl, rfl⟩) w_arrI rfl (by decide) (by decide) (by decide) (by decide) dX4_init_6 s0_107 (by decide +kernel) rfl ?_
  refine zi_putF (n := 108) (j := 0) kX4 lf_X4_9 (by decide) rfl rfl rfl rfl (kX4.2.2.1 0 (by decide)) (fun _ => rfl) (fun _ => rfl) dX4_init_8 (show 106 < 108 by decide) s0_106 (by decide) ?_
  refine z_aload_n dX4_init_11 rfl ?_
  refine z_iconst (v := 4) dX4_init_12 (by decide) ?_
  refine zi_newa (atype := .int) (n := 108) (q := 20) (n' := 4) (Or.inl ⟨rfl, rfl⟩) w_arrI rfl (by decide) (by decide) (by decide) (by decide) dX4_init_13 s0_108 (by decide +kernel) rfl ?_
  refine zi_putF (n := 109) (j := 1) kX4 lf_X4_15 (by decide) rfl rfl rfl rfl (kX4.2.2.1 1 (by decide)) (fun _ => rfl) (fun _ => rfl) dX4_init_15 (show 106 < 109 by decide) s0_106 (by decide) ?_
  exact z_return dX4_init_18 rfl (by decide) (by decide) ⟨rfl, rfl, rfl⟩

set_option maxRecDepth 100000 in
set_option maxHeartbeats 4000000 in
theorem i_X9_init_109 (g : zG) (l : Launch) : zMet g l yX9_init cX9_init 1 none 1 3 18 [.ref 109] (zSt 110 zE121) zI0 (zQc (zSt 113 zE124) zI0) := by
  refine zMet.of (by decide) (Nat.le_of_ble_eq_true rfl) ?_
  refine z_aload_n dX9_init_0 rfl ?_
  refine z_objInit lm_X9_3 w_oi w_oc (by decide) (Nat.le_of_ble_eq_true rfl) dX9_init_1 ?_
  refine z_aload_n dX9_init_4 rfl ?_
  refine z_bipush (v := 6) dX9_init_5 (by decide) ?_
  refine zi_newa (atype := .int) (n := 110) (q := 20) (n' := 6) (Or.inl ⟨rfl, rfl⟩) w_arrI rfl (by decide) (by decide) (by decide) (by decide) dX9_init_7 s0_110 (by decide +kernel) rfl ?_
  refine zi_putF (n := 111) (j := 0) kX9 lf_X9_11 (by decide) rfl rfl rfl rfl (kX9.2.2.1 0 (by decide)) (fun _ => rfl) (fun _ => rfl) dX9_init_9 (show 109 < 111 by decide) s0_109 (by decide) ?_
  refine z_aload_n dX9_init_12 rfl ?_
  refine z_bipush (v := 6) dX9_init_13 (by decide) ?_
  refine zi_newa (atype := .int) (n := 111) (q := 20) (n' := 6) (Or.inl ⟨rfl, rfl⟩) w_arrI rfl (by decide) (by decide) (by decide) (by decide) dX9_init_15 s0_111 (by decide +kernel) rfl ?_
  refine zi_putF (n := 112) (j := 1) kX9 lf_X9_15 (by decide) rfl rfl rfl rfl (kX9.2.2.1 1 (by decide)) (fun _ => rfl) (fun _ => rfl) dX9_init_17 (show 109 < 112 by decide) s0_109 (by decide) ?_
  refine z_aload_n dX9_init_20 rfl ?_
  refine z_bipush (v := 6) dX9_init_21 (by decide) ?_
  refine zi_newa (atype := .int) (n := 112) (q := 20) (n' := 6) (Or.inl ⟨rfl, rfl⟩) w_arrI rfl (by decide) (by decide) (by decide) (by decide) dX9_init_23 s0_112 (by decide +kernel) rfl ?_
  refine zi_putF (n := 113) (j := 2) kX9 lf_X9_18 (by decide) rfl rfl rfl rfl (kX9.2.2.1 2 (by decide)) (fun _ => rfl) (fun _ => rfl) dX9_init_25 (show 109 < 113 by decide) s0_109 (by decide) ?_
  exact z_return dX9_init_28 rfl (by decide) (by decide) ⟨rfl, rfl, rfl⟩

set_option maxRecDepth 100000 in
set_option maxHeartbeats 4000000 in
theorem i_X0_init_115 (g : zG) (l : Launch) : zMet g l yX0_init cX0_init 1 none 1 2 20 [.ref 115] (zSt 116 zE126) zI0 (zQc (zSt 118 zE128) zI1) := by
  refine zMet.of (by decide) (Nat.le_of_ble_eq_true rfl) ?_
  refine z_aload_n dX0_init_0 rfl ?_
  refine z_objInit lm_X0_3 w_oi w_oc (by decide) (Nat.le_of_ble_eq_true rfl) dX0_init_1 ?_
  refine z_aload_n dX0_init_4 rfl ?_
  refine z_bipush (v := 10) dX0_init_5 (by decide) ?_
  refine zi_newa (atype := .int) (n := 116) (q := 20) (n' := 10) (Or.inl ⟨rfl, rfl⟩) w_arrI rfl (by decide) (by decide) (by decide) (by decide) dX0_init_7 s0_116 (by decide +kernel) rfl ?_
  refine zi_putF (n := 117) (j := 0) kX0 lf_X0_9 (by decide) rfl rfl rfl rfl (kX0.2.2.1 0 (by decide)) (fun _ => rfl) (fun _ => rfl) dX0_init_9 (show 115 < 117 by decide) s0_115 (by decide) ?_
  refine z_aload_n dX0_init_12 rfl ?_
  refine z_bipush (v := 10) dX0_init_13 (by decide) ?_
  refine zi_newa (atype := .int) (n := 117) (q := 20) (n' := 10) (Or.inl ⟨rfl, rfl⟩) w_arrI rfl (by decide) (by decide) (by decide) (by decide) dX0_init_15 s0_117 (by decide +kernel) rfl ?_
  refine zi_putF (n := 118) (j := 1) kX0 lf_X0_15 (by decide) rfl rfl rfl rfl (kX0.2.2.1 1 (by decide)) (fun _ => rfl) (fun _ => rfl) dX0_init_17 (show 115 < 118 by decide) s0_115 (by decide) ?_
  refine z_aload_n dX0_init_20 rfl ?_
  refine z_iconst (v := (-1)) dX0_init_21 (by decide) ?_
  refine z_putI (j := 2) kX0 lf_X0_18 (by decide) rfl rfl (kX0.2.2.1 2 (by decide)) rfl rfl dX0_init_22 (show 115 < 118 by decide) s0_115 ?_
  exact z_return dX0_init_25 rfl (by decide) (by decide) ⟨rfl, rfl, rfl⟩

set_option maxRecDepth 100000 in
set_option maxHeartbeats 4000000 in
theorem i_X0_init_118 (g : zG) (l : Launch) : zMet g l yX0_init cX0_init 1 none 1 2 20 [.ref 118] (zSt 119 zE129) zI1 (zQc (zSt 121 zE131) zI2) := by
  refine zMet.of (by decide) (Nat.le_of_ble_eq_true rfl) ?_
  refine z_aload_n dX0_init_0 rfl ?_
  refine z_objInit lm_X0_3 w_oi w_oc (by decide) (Nat.le_of_ble_eq_true rfl) dX0_init_1 ?_
  refine z_aload_n dX0_init_4 rfl ?_
  refine z_bipush (v := 10) dX0_init_5 (by decide) ?_
  refine zi_newa (atype := .int) (n := 119) (q := 20) (n' := 10) (Or.inl ⟨rfl, rfl⟩) w_arrI rfl (by decide) (by decide) (by decide) (by decide) dX0_init_7 s0_119 (by decide +kernel) rfl ?_
  refine zi_putF (n := 120) (j := 0) kX0 lf_X0_9 (by decide) rfl rfl rfl rfl (kX0.2.2.1 0 (by decide)) (fun _ => rfl) (fun _ => rfl) dX0_init_9 (show 118 < 120 by decide) s0_118 (by decide) ?_
  refine z_aload_n dX0_init_12 rfl ?_
  refine z_bipush (v := 10) dX0_init_13 (by decide) ?_
  refine zi_newa (atype := .int) (n := 120) (q := 20) (n' := 10) (Or.inl ⟨rfl, rfl⟩) w_arrI rfl (by decide) (by decide) (by decide) (by decide) dX0_init_15 s0_120 (by decide +kernel) rfl ?_
  refine zi_putF (n := 121) (j := 1) kX0 lf_X0_15 (by decide) rfl rfl rfl rfl (kX0.2.2.1 1 (by decide)) (fun _ => rfl) (fun _ => rfl) dX0_init_17 (show 118 < 121 by decide) s0_118 (by decide) ?_
  refine z_aload_n dX0_init_20 rfl ?_
  refine z_iconst (v := (-1)) dX0_init_21 (by decide) ?_
  refine z_putI (j := 2) kX0 lf_X0_18 (by decide) rfl rfl (kX0.2.2.1 2 (by decide)) rfl rfl dX0_init_22 (show 118 < 121 by decide) s0_118 ?_
  exact z_return dX0_init_25 rfl (by decide) (by decide) ⟨rfl, rfl, rfl⟩

set_option maxRecDepth 100000 in
set_option maxHeartbeats 4000000 in
theorem i_X0_init_121 (g : zG) (l : Launch) : zMet g l yX0_init cX0_init 1 none 1 2 20 [.ref 121] (zSt 122 zE132) zI2 (zQc (zSt 124 zE134) zI3) := by
  refine zMet.of (by decide) (Nat.le_of_ble_eq_true rfl) ?_
  refine z_aload_n dX0_init_0 rfl ?_
  refine z_objInit lm_X0_3 w_oi w_oc (by decide) (Nat.le_of_ble_eq_true rfl) dX0_init_1 ?_
  refine z_aload_n dX0_init_4 rfl ?_
  refine z_bipush (v := 10) dX0_init_5 (by decide) ?_
  refine zi_newa (atype := .int) (n := 122) (q := 20) (n' := 10) (Or.inl ⟨rfl, rfl⟩) w_arrI rfl (by decide) (by decide) (by decide) (by decide) dX0_init_7 s0_122 (by decide +kernel) rfl ?_
  refine zi_putF (n := 123) (j := 0) kX0 lf_X0_9 (by decide) rfl rfl rfl rfl (kX0.2.2.1 0 (by decide)) (fun _ => rfl) (fun _ => rfl) dX0_init_9 (show 121 < 123 by decide) s0_121 (by decide) ?_
  refine z_aload_n dX0_init_12 rfl ?_
  refine z_bipush (v := 10) dX0_init_13 (by decide) ?_
  refine zi_newa (atype := .int) (n := 123) (q := 20) (n' := 10) (Or.inl ⟨rfl, rfl⟩) w_arrI rfl (by decide) (by decide) (by decide) (by decide) dX0_init_15 s0_123 (by decide +kernel) rfl ?_
  refine zi_putF (n := 124) (j := 1) kX0 lf_X0_15 (by decide) rfl rfl rfl rfl (kX0.2.2.1 1 (by decide)) (fun _ => rfl) (fun _ => rfl) dX0_init_17 (show 121 < 124 by decide) s0_121 (by decide) ?_
  refine z_aload_n dX0_init_20 rfl ?_
  refine z_iconst (v := (-1)) dX0_init_21 (by decide) ?_
  refine z_putI (j := 2) kX0 lf_X0_18 (by decide) rfl rfl (kX0.2.2.1 2 (by decide)) rfl rfl dX0_init_22 (show 121 < 124 by decide) s0_121 ?_
  exact z_return dX0_init_25 rfl (by decide) (by decide) ⟨rfl, rfl, rfl⟩

set_option maxRecDepth 100000 in
set_option maxHeartbeats 4000000 in
theorem i_X0_init_124 (g : zG) (l : Launch) : zMet g l yX0_init cX0_init 1 none 1 2 20 [.ref 124] (zSt 125 zE135) zI3 (zQc (zSt 127 zE137) zI4) := by
  refine zMet.of (by decide) (Nat.le_of_ble_eq_true rfl) ?_
  refine z_aload_n dX0_init_0 rfl ?_
  refine z_objInit lm_X0_3 w_oi w_oc (by decide) (Nat.le_of_ble_eq_true rfl) dX0_init_1 ?_
  refine z_aload_n dX0_init_4 rfl ?_
  refine z_bipush (v := 10) dX0_init_5 (by decide) ?_
  refine zi_newa (atype := .int) (n := 125) (q := 20) (n' := 10) (Or.inl ⟨rfl, rfl⟩) w_arrI rfl (by decide) (by decide) (by decide) (by decide) dX0_init_7 s0_125 (by decide +kernel) rfl ?_
  refine zi_putF (n := 126) (j := 0) kX0 lf_X0_9 (by decide) rfl rfl rfl rfl (kX0.2.2.1 0 (by decide)) (fun _ => rfl) (fun _ => rfl) dX0_init_9 (show 124 < 126 by decide) s0_124 (by decide) ?_
  refine z_aload_n dX0_init_12 rfl ?_
  refine z_bipush (v := 10) dX0_init_13 (by decide) ?_
  refine zi_newa (atype := .int) (n := 126) (q := 20) (n' := 10) (Or.inl ⟨rfl, rfl⟩) w_arrI rfl (by decide) (by decide) (by decide) (by decide) dX0_init_15 s0_126 (by decide +kernel) rfl ?_
  refine zi_putF (n := 127) (j := 1) kX0 lf_X0_15 (by decide) rfl rfl rfl rfl (kX0.2.2.1 1 (by decide)) (fun _ => rfl) (fun _ => rfl) dX0_init_17 (show 124 < 127 by decide) s0_124 (by decide) ?_
  refine z_aload_n dX0_init_20 rfl ?_
  refine z_iconst (v := (-1)) dX0_init_21 (by decide) ?_
  refine z_putI (j := 2) kX0 lf_X0_18 (by decide) rfl rfl (kX0.2.2.1 2 (by decide)) rfl rfl dX0_init_22 (show 124 < 127 by decide) s0_124 ?_
  exact z_return dX0_init_25 rfl (by decide) (by decide) ⟨rfl, rfl, rfl⟩

set_option maxRecDepth 100000 in
set_option maxHeartbeats 4000000 in
theorem i_X8_init_113 (g : zG) (l : Launch) : zMet g l yX8_init cX8_init 2 none 2 13 96 [.ref 113] (zSt 114 zE125) zI0 (zQc (zSt 127 zE138) zI4) := by
  refine zMet.of (by decide) (Nat.le_of_ble_eq_true rfl) ?_
  refine z_aload_n dX8_init_0 rfl ?_
  refine z_objInit lm_X8_3 w_oi w_oc (by decide) (Nat.le_of_ble_eq_true rfl) dX8_init_1 ?_
  refine z_aload_n dX8_init_4 rfl ?_
  refine z_iconst (v := 4) dX8_init_5 (by decide) ?_
  refine zi_anew (n := 114) (q := 23) (n' := 4) (Or.inr ⟨rfl, rfl⟩) lk_X8_9 rfl (by decide) (by decide) (by decide) (by decide) dX8_init_6 s0_114 (by decide +kernel) rfl ?_
  refine zi_putF (n := 115) (j := 0) kX8 lf_X8_11 (by decide) rfl rfl rfl rfl (kX8.2.2.1 0 (by decide)) (fun _ => rfl) (fun _ => rfl) dX8_init_9 (show 113 < 115 by decide) s0_113 (by decide) ?_
  refine z_iconst (v := 0) dX8_init_12 (by decide) ?_
  refine z_istore_n dX8_init_13 (by decide) rfl rfl ?_
  refine z_iload_n dX8_init_14 rfl ?_
  refine z_aload_n dX8_init_15 rfl ?_
  refine z_getR (j := 0) (r := 114) kX8 lf_X8_11 (by decide) rfl dX8_init_16 (show 113 < 115 by decide) s0_113 (show zEv zE126 113 0 = 114 + 1 by decide +kernel) (by decide) ?_
  refine z_alen dX8_init_19 (show 114 < 115 by decide) s0_114 (by decide) ?_
  refine z_icmp_ge (tgt := 42) dX8_init_20 (by decide) (fun b => absurd b (by decide)) (fun _ => ?_)
  refine z_aload_n dX8_init_23 rfl ?_
  refine z_getR (j := 0) (r := 114) kX8 lf_X8_11 (by decide) rfl dX8_init_24 (show 113 < 115 by decide) s0_113 (show zEv zE126 113 0 = 114 + 1 by decide +kernel) (by decide) ?_
  refine z_iload_n dX8_init_27 rfl ?_
  refine zi_new (n := 115) kX0 lk_X8_9 wi_X0 wn_X0 dfX0 (by decide) (by decide) (by decide) dX8_init_28 s0_115 (by decide +kernel) rfl ?_
  refine z_dup dX8_init_31 rfl ?_
  refine z_callIN (host := RX11) [] (i_X0_init_115 g l) mw_X0_init (List.mem_of_getElem? (l := zNe) (i := 5) rfl) mi_X0_init rfl (by decide) (Nat.le_of_ble_eq_true rfl) (by decide) (by decide) dX8_init_32 (fun v32 S32 M32 q32 => ?_) rfl
  obtain ⟨rfl, rfl, rfl⟩ := q32
  refine zi_aast (n := 118) (j := 0) (cr := 0) kX0 dX8_init_35 (show 114 < 118 by decide) s0_114 (Or.inr ⟨rfl, rfl⟩) rfl (by decide) (by decide) (show 115 < 118 by decide) s0_115 ?_
  refine z_iinc (v := 1) dX8_init_36 rfl (by decide) (by decide) rfl rfl ?_
  refine z_goto (tgt := 14) dX8_init_39 (by decide) ?_
  refine z_iload_n dX8_init_14 rfl ?_
  refine z_aload_n dX8_init_15 rfl ?_
  refine z_getR (j := 0) (r := 114) kX8 lf_X8_11 (by decide) rfl dX8_init_16 (show 113 < 118 by decide) s0_113 (show zEv zE129 113 0 = 114 + 1 by decide +kernel) (by decide) ?_
  refine z_alen dX8_init_19 (show 114 < 118 by decide) s0_114 (by decide) ?_
  refine z_icmp_ge (tgt := 42) dX8_init_20 (by decide) (fun b => absurd b (by decide)) (fun _ => ?_)
  refine z_aload_n dX8_init_23 rfl ?_
  refine z_getR (j := 0) (r := 114) kX8 lf_X8_11 (by decide) rfl dX8_init_24 (show 113 < 118 by decide) s0_113 (show zEv zE129 113 0 = 114 + 1 by decide +kernel) (by decide) ?_
  refine z_iload_n dX8_init_27 rfl ?_
  refine zi_new (n := 118) kX0 lk_X8_9 wi_X0 wn_X0 dfX0 (by decide) (by decide) (by decide) dX8_init_28 s0_118 (by decide +kernel) rfl ?_
  refine z_dup dX8_init_31 rfl ?_
  refine z_callIN (host := RX11) [] (i_X0_init_118 g l) mw_X0_init (List.mem_of_getElem? (l := zNe) (i := 5) rfl) mi_X0_init rfl (by decide) (Nat.le_of_ble_eq_true rfl) (by decide) (by decide) dX8_init_32 (fun v32 S32 M32 q32 => ?_) rfl
  obtain ⟨rfl, rfl, rfl⟩ := q32
  refine zi_aast (n := 121) (j := 1) (cr := 0) kX0 dX8_init_35 (show 114 < 121 by decide) s0_114 (Or.inr ⟨rfl, rfl⟩) rfl (by decide) (by decide) (show 118 < 121 by decide) s0_118 ?_
  refine z_iinc (v := 2) dX8_init_36 rfl (by decide) (by decide) rfl rfl ?_
  refine z_goto (tgt := 14) dX8_init_39 (by decide) ?_
  refine z_iload_n dX8_init_14 rfl ?_
  refine z_aload_n dX8_init_15 rfl ?_
  refine z_getR (j := 0) (r := 114) kX8 lf_X8_11 (by decide) rfl dX8_init_16 (show 113 < 121 by decide) s0_113 (show zEv zE132 113 0 = 114 + 1 by decide +kernel) (by decide) ?_
  refine z_alen dX8_init_19 (show 114 < 121 by decide) s0_114 (by decide) ?_
  refine z_icmp_ge (tgt := 42) dX8_init_20 (by decide) (fun b => absurd b (by decide)) (fun _ => ?_)
  refine z_aload_n dX8_init_23 rfl ?_
  refine z_getR (j := 0) (r := 114) kX8 lf_X8_11 (by decide) rfl dX8_init_24 (show 113 < 121 by decide) s0_113 (show zEv zE132 113 0 = 114 + 1 by decide +kernel) (by decide) ?_
  refine z_iload_n dX8_init_27 rfl ?_
  refine zi_new (n := 121) kX0 lk_X8_9 wi_X0 wn_X0 dfX0 (by decide) (by decide) (by decide) dX8_init_28 s0_121 (by decide +kernel) rfl ?_
  refine z_dup dX8_init_31 rfl ?_
  refine z_callIN (host := RX11) [] (i_X0_init_121 g l) mw_X0_init (List.mem_of_getElem? (l := zNe) (i := 5) rfl) mi_X0_init rfl (by decide) (Nat.le_of_ble_eq_true rfl) (by decide) (by decide) dX8_init_32 (fun v32 S32 M32 q32 => ?_) rfl
  obtain ⟨rfl, rfl, rfl⟩ := q32
  refine zi_aast (n := 124) (j := 2) (cr := 0) kX0 dX8_init_35 (show 114 < 124 by decide) s0_114 (Or.inr ⟨rfl, rfl⟩) rfl (by decide) (by decide) (show 121 < 124 by decide) s0_121 ?_
  refine z_iinc (v := 3) dX8_init_36 rfl (by decide) (by decide) rfl rfl ?_
  refine z_goto (tgt := 14) dX8_init_39 (by decide) ?_
  refine z_iload_n dX8_init_14 rfl ?_
  refine z_aload_n dX8_init_15 rfl ?_
  refine z_getR (j := 0) (r := 114) kX8 lf_X8_11 (by decide) rfl dX8_init_16 (show 113 < 124 by decide) s0_113 (show zEv zE135 113 0 = 114 + 1 by decide +kernel) (by decide) ?_
  refine z_alen dX8_init_19 (show 114 < 124 by decide) s0_114 (by decide) ?_
  refine z_icmp_ge (tgt := 42) dX8_init_20 (by decide) (fun b => absurd b (by decide)) (fun _ => ?_)
  refine z_aload_n dX8_init_23 rfl ?_
  refine z_getR (j := 0) (r := 114) kX8 lf_X8_11 (by decide) rfl dX8_init_24 (show 113 < 124 by decide) s0_113 (show zEv zE135 113 0 = 114 + 1 by decide +kernel) (by decide) ?_
  refine z_iload_n dX8_init_27 rfl ?_
  refine zi_new (n := 124) kX0 lk_X8_9 wi_X0 wn_X0 dfX0 (by decide) (by decide) (by decide) dX8_init_28 s0_124 (by decide +kernel) rfl ?_
  refine z_dup dX8_init_31 rfl ?_
  refine z_callIN (host := RX11) [] (i_X0_init_124 g l) mw_X0_init (List.mem_of_getElem? (l := zNe) (i := 5) rfl) mi_X0_init rfl (by decide) (Nat.le_of_ble_eq_true rfl) (by decide) (by decide) dX8_init_32 (fun v32 S32 M32 q32 => ?_) rfl
  obtain ⟨rfl, rfl, rfl⟩ := q32
  refine zi_aast (n := 127) (j := 3) (cr := 0) kX0 dX8_init_35 (show 114 < 127 by decide) s0_114 (Or.inr ⟨rfl, rfl⟩) rfl (by decide) (by decide) (show 124 < 127 by decide) s0_124 ?_
  refine z_iinc (v := 4) dX8_init_36 rfl (by decide) (by decide) rfl rfl ?_
  refine z_goto (tgt := 14) dX8_init_39 (by decide) ?_
  refine z_iload_n dX8_init_14 rfl ?_
  refine z_aload_n dX8_init_15 rfl ?_
  refine z_getR (j := 0) (r := 114) kX8 lf_X8_11 (by decide) rfl dX8_init_16 (show 113 < 127 by decide) s0_113 (show zEv zE138 113 0 = 114 + 1 by decide +kernel) (by decide) ?_
  refine z_alen dX8_init_19 (show 114 < 127 by decide) s0_114 (by decide) ?_
  refine z_icmp_ge (tgt := 42) dX8_init_20 (by decide) (fun _ => ?_) (fun b => absurd (by decide) b)
  exact z_return dX8_init_42 rfl (by decide) (by decide) ⟨rfl, rfl, rfl⟩

set_option maxRecDepth 100000 in
set_option maxHeartbeats 4000000 in
theorem i_X11_0 (g : zG) (l : Launch) : zMet g l yX11_init cX11_init 2 none 3 126 988 [.ref 0] (zSt 1 zE0) zI0 (zQc (zSt 127 zE139) zI4) := by
  refine zMet.of (by decide) (Nat.le_of_ble_eq_true rfl) ?_
  refine z_aload_n dX11_init_0 rfl ?_
  refine z_objInit lm_X11_1 w_oi w_oc (by decide) (Nat.le_of_ble_eq_true rfl) dX11_init_1 ?_
  refine z_aload_n dX11_init_4 rfl ?_
  refine zi_new (n := 1) kX7 lk_X11_7 wi_X7 wn_X7 dfX7 (by decide) (by decide) (by decide) dX11_init_5 s0_1 (by decide +kernel) rfl ?_
  refine z_dup dX11_init_8 rfl ?_
  refine z_callIN (host := RX11) [] (i_X7_init_1 g l) mw_X7_init (List.mem_of_getElem? (l := zNe) (i := 0) rfl) mi_X7_init rfl (by decide) (Nat.le_of_ble_eq_true rfl) (by decide) (by decide) dX11_init_9 (fun v9 S9 M9 q9 => ?_) rfl
  obtain ⟨rfl, rfl, rfl⟩ := q9
  refine zi_putF (n := 8) (j := 0) kX11 lf_X11_10 (by decide) rfl rfl rfl rfl (kX11.2.2.1 0 (by decide)) (fun _ => rfl) (fun _ => rfl) dX11_init_12 (show 0 < 8 by decide) s0_0 (by decide) ?_
  refine z_aload_n dX11_init_15 rfl ?_
  refine zi_new (n := 8) kX10 lk_X11_16 wi_X10 wn_X10 dfX10 (by decide) (by decide) (by decide) dX11_init_16 s0_8 (by decide +kernel) rfl ?_
  refine z_dup dX11_init_19 rfl ?_
  refine z_callIN (host := RX11) [] (i_X10_init_8 g l) mw_X10_init (List.mem_of_getElem? (l := zNe) (i := 1) rfl) mi_X10_init rfl (by decide) (Nat.le_of_ble_eq_true rfl) (by decide) (by decide) dX11_init_20 (fun v20 S20 M20 q20 => ?_) rfl
  obtain ⟨rfl, rfl, rfl⟩ := q20
  refine zi_putF (n := 10) (j := 1) kX11 lf_X11_19 (by decide) rfl rfl rfl rfl (kX11.2.2.1 1 (by decide)) (fun _ => rfl) (fun _ => rfl) dX11_init_23 (show 0 < 10 by decide) s0_0 (by decide) ?_
  refine z_aload_n dX11_init_26 rfl ?_
  refine zi_new (n := 10) kX5 lk_X11_23 wi_X5 wn_X5 dfX5 (by decide) (by decide) (by decide) dX11_init_27 s0_10 (by decide +kernel) rfl ?_
  refine z_dup dX11_init_30 rfl ?_
  refine z_aload_n dX11_init_31 rfl ?_
  refine z_getR (j := 1) (r := 8) kX11 lf_X11_19 (by decide) rfl dX11_init_32 (show 0 < 11 by decide) s0_0 (show zEv zE9 0 1 = 8 + 1 by decide +kernel) (by decide) ?_
  refine z_callI [.ref 8] (i_X5_init_10 g l) mw_X5_init lm_X11_25 mi_X5_init rfl (by decide) (Nat.le_of_ble_eq_true rfl) (by decide) (by decide) dX11_init_35 (fun v35 S35 M35 q35 => ?_) rfl
  obtain ⟨rfl, rfl, rfl⟩ := q35
  refine zi_putF (n := 18) (j := 2) kX11 lf_X11_28 (by decide) rfl rfl rfl rfl (kX11.2.2.1 2 (by decide)) (fun _ => rfl) (fun _ => rfl) dX11_init_38 (show 0 < 18 by decide) s0_0 (by decide) ?_
  refine z_aload_n dX11_init_41 rfl ?_
  refine zi_new (n := 18) kX1 lk_X11_32 wi_X1 wn_X1 dfX1 (by decide) (by decide) (by decide) dX11_init_42 s0_18 (by decide +kernel) rfl ?_
  refine z_dup dX11_init_45 rfl ?_
  refine z_aload_n dX11_init_46 rfl ?_
  refine z_getR (j := 0) (r := 1) kX11 lf_X11_10 (by decide) rfl dX11_init_47 (show 0 < 19 by decide) s0_0 (show zEv zE18 0 0 = 1 + 1 by decide +kernel) (by decide) ?_
  refine z_callI [.ref 1] (i_X1_init_18 g l) mw_X1_init lm_X11_34 mi_X1_init rfl (by decide) (Nat.le_of_ble_eq_true rfl) (by decide) (by decide) dX11_init_50 (fun v50 S50 M50 q50 => ?_) rfl
  obtain ⟨rfl, rfl, rfl⟩ := q50
  refine zi_putF (n := 25) (j := 3) kX11 lf_X11_37 (by decide) rfl rfl rfl rfl (kX11.2.2.1 3 (by decide)) (fun _ => rfl) (fun _ => rfl) dX11_init_53 (show 0 < 25 by decide) s0_0 (by decide) ?_
  refine z_aload_n dX11_init_56 rfl ?_
  refine zi_new (n := 25) kX1 lk_X11_32 wi_X1 wn_X1 dfX1 (by decide) (by decide) (by decide) dX11_init_57 s0_25 (by decide +kernel) rfl ?_
  refine z_dup dX11_init_60 rfl ?_
  refine z_aload_n dX11_init_61 rfl ?_
  refine z_getR (j := 0) (r := 1) kX11 lf_X11_10 (by decide) rfl dX11_init_62 (show 0 < 26 by decide) s0_0 (show zEv zE26 0 0 = 1 + 1 by decide +kernel) (by decide) ?_
  refine z_callI [.ref 1] (i_X1_init_25 g l) mw_X1_init lm_X11_34 mi_X1_init rfl (by decide) (Nat.le_of_ble_eq_true rfl) (by decide) (by decide) dX11_init_65 (fun v65 S65 M65 q65 => ?_) rfl
  obtain ⟨rfl, rfl, rfl⟩ := q65
  refine zi_putF (n := 32) (j := 4) kX11 lf_X11_41 (by decide) rfl rfl rfl rfl (kX11.2.2.1 4 (by decide)) (fun _ => rfl) (fun _ => rfl) dX11_init_68 (show 0 < 32 by decide) s0_0 (by decide) ?_
  refine z_aload_n dX11_init_71 rfl ?_
  refine zi_new (n := 32) kX6 lk_X11_44 wi_X6 wn_X6 dfX6 (by decide) (by decide) (by decide) dX11_init_72 s0_32 (by decide +kernel) rfl ?_
  refine z_dup dX11_init_75 rfl ?_
  refine z_aload_n dX11_init_76 rfl ?_
  refine z_getR (j := 0) (r := 1) kX11 lf_X11_10 (by decide) rfl dX11_init_77 (show 0 < 33 by decide) s0_0 (show zEv zE34 0 0 = 1 + 1 by decide +kernel) (by decide) ?_
  refine z_callI [.ref 1] (i_X6_init_32 g l) mw_X6_init lm_X11_46 mi_X6_init rfl (by decide) (Nat.le_of_ble_eq_true rfl) (by decide) (by decide) dX11_init_80 (fun v80 S80 M80 q80 => ?_) rfl
  obtain ⟨rfl, rfl, rfl⟩ := q80
  refine zi_putF (n := 90) (j := 5) kX11 lf_X11_47 (by decide) rfl rfl rfl rfl (kX11.2.2.1 5 (by decide)) (fun _ => rfl) (fun _ => rfl) dX11_init_83 (show 0 < 90 by decide) s0_0 (by decide) ?_
  refine z_aload_n dX11_init_86 rfl ?_
  refine z_iconst (v := 2) dX11_init_87 (by decide) ?_
  refine zi_anew (n := 90) (q := 22) (n' := 2) (Or.inl ⟨rfl, rfl⟩) lk_X11_32 rfl (by decide) (by decide) (by decide) (by decide) dX11_init_88 s0_90 (by decide +kernel) rfl ?_
  refine zi_putF (n := 91) (j := 6) kX11 lf_X11_51 (by decide) rfl rfl rfl rfl (kX11.2.2.1 6 (by decide)) (fun _ => rfl) (fun _ => rfl) dX11_init_91 (show 0 < 91 by decide) s0_0 (by decide) ?_
  refine z_iconst (v := 0) dX11_init_94 (by decide) ?_
  refine z_istore_n dX11_init_95 (by decide) rfl rfl ?_
  refine z_iload_n dX11_init_96 rfl ?_
  refine z_aload_n dX11_init_97 rfl ?_
  refine z_getR (j := 6) (r := 90) kX11 lf_X11_51 (by decide) rfl dX11_init_98 (show 0 < 91 by decide) s0_0 (show zEv zE101 0 6 = 90 + 1 by decide +kernel) (by decide) ?_
  refine z_alen dX11_init_101 (show 90 < 91 by decide) s0_90 (by decide) ?_
  refine z_icmp_ge (tgt := 128) dX11_init_102 (by decide) (fun b => absurd b (by decide)) (fun _ => ?_)
  refine z_aload_n dX11_init_105 rfl ?_
  refine z_getR (j := 6) (r := 90) kX11 lf_X11_51 (by decide) rfl dX11_init_106 (show 0 < 91 by decide) s0_0 (show zEv zE101 0 6 = 90 + 1 by decide +kernel) (by decide) ?_
  refine z_iload_n dX11_init_109 rfl ?_
  refine zi_new (n := 91) kX1 lk_X11_32 wi_X1 wn_X1 dfX1 (by decide) (by decide) (by decide) dX11_init_110 s0_91 (by decide +kernel) rfl ?_
  refine z_dup dX11_init_113 rfl ?_
  refine z_aload_n dX11_init_114 rfl ?_
  refine z_getR (j := 0) (r := 1) kX11 lf_X11_10 (by decide) rfl dX11_init_115 (show 0 < 92 by decide) s0_0 (show zEv zE101 0 0 = 1 + 1 by decide +kernel) (by decide) ?_
  refine z_callI [.ref 1] (i_X1_init_91 g l) mw_X1_init lm_X11_34 mi_X1_init rfl (by decide) (Nat.le_of_ble_eq_true rfl) (by decide) (by decide) dX11_init_118 (fun v118 S118 M118 q118 => ?_) rfl
  obtain ⟨rfl, rfl, rfl⟩ := q118
  refine zi_aast (n := 98) (j := 0) (cr := 1) kX1 dX11_init_121 (show 90 < 98 by decide) s0_90 (Or.inl ⟨rfl, rfl⟩) rfl (by decide) (by decide) (show 91 < 98 by decide) s0_91 ?_
  refine z_iinc (v := 1) dX11_init_122 rfl (by decide) (by decide) rfl rfl ?_
  refine z_goto (tgt := 96) dX11_init_125 (by decide) ?_
  refine z_iload_n dX11_init_96 rfl ?_
  refine z_aload_n dX11_init_97 rfl ?_
  refine z_getR (j := 6) (r := 90) kX11 lf_X11_51 (by decide) rfl dX11_init_98 (show 0 < 98 by decide) s0_0 (show zEv zE109 0 6 = 90 + 1 by decide +kernel) (by decide) ?_
  refine z_alen dX11_init_101 (show 90 < 98 by decide) s0_90 (by decide) ?_
  refine z_icmp_ge (tgt := 128) dX11_init_102 (by decide) (fun b => absurd b (by decide)) (fun _ => ?_)
  refine z_aload_n dX11_init_105 rfl ?_
  refine z_getR (j := 6) (r := 90) kX11 lf_X11_51 (by decide) rfl dX11_init_106 (show 0 < 98 by decide) s0_0 (show zEv zE109 0 6 = 90 + 1 by decide +kernel) (by decide) ?_
  refine z_iload_n dX11_init_109 rfl ?_
  refine zi_new (n := 98) kX1 lk_X11_32 wi_X1 wn_X1 dfX1 (by decide) (by decide) (by decide) dX11_init_110 s0_98 (by decide +kernel) rfl ?_
  refine z_dup dX11_init_113 rfl ?_
  refine z_aload_n dX11_init_114 rfl ?_
  refine z_getR (j := 0) (r := 1) kX11 lf_X11_10 (by decide) rfl dX11_init_115 (show 0 < 99 by decide) s0_0 (show zEv zE109 0 0 = 1 + 1 by decide +kernel) (by decide) ?_
  refine z_callI [.ref 1] (i_X1_init_98 g l) mw_X1_init lm_X11_34 mi_X1_init rfl (by decide) (Nat.le_of_ble_eq_true rfl) (by decide) (by decide) dX11_init_118 (fun v118 S118 M118 q118 => ?_) rfl
  obtain ⟨rfl, rfl, rfl⟩ := q118
  refine zi_aast (n := 105) (j := 1) (cr := 1) kX1 dX11_init_121 (show 90 < 105 by decide) s0_90 (Or.inl ⟨rfl, rfl⟩) rfl (by decide) (by decide) (show 98 < 105 by decide) s0_98 ?_
  refine z_iinc (v := 2) dX11_init_122 rfl (by decide) (by decide) rfl rfl ?_
  refine z_goto (tgt := 96) dX11_init_125 (by decide) ?_
  refine z_iload_n dX11_init_96 rfl ?_
  refine z_aload_n dX11_init_97 rfl ?_
  refine z_getR (j := 6) (r := 90) kX11 lf_X11_51 (by decide) rfl dX11_init_98 (show 0 < 105 by decide) s0_0 (show zEv zE117 0 6 = 90 + 1 by decide +kernel) (by decide) ?_
  refine z_alen dX11_init_101 (show 90 < 105 by decide) s0_90 (by decide) ?_
  refine z_icmp_ge (tgt := 128) dX11_init_102 (by decide) (fun _ => ?_) (fun b => absurd (by decide) b)
  refine z_aload_n dX11_init_128 rfl ?_
  refine z_iconst (v := 2) dX11_init_129 (by decide) ?_
  refine zi_newa (atype := .boolean) (n := 105) (q := 21) (n' := 2) (Or.inr ⟨rfl, rfl⟩) w_arrZ rfl (by decide) (by decide) (by decide) (by decide) dX11_init_130 s0_105 (by decide +kernel) rfl ?_
  refine zi_putF (n := 106) (j := 7) kX11 lf_X11_55 (by decide) rfl rfl rfl rfl (kX11.2.2.1 7 (by decide)) (fun _ => rfl) (fun _ => rfl) dX11_init_132 (show 0 < 106 by decide) s0_0 (by decide) ?_
  refine z_aload_n dX11_init_135 rfl ?_
  refine zi_new (n := 106) kX4 lk_X11_59 wi_X4 wn_X4 dfX4 (by decide) (by decide) (by decide) dX11_init_136 s0_106 (by decide +kernel) rfl ?_
  refine z_dup dX11_init_139 rfl ?_
  refine z_callIN (host := RX11) [] (i_X4_init_106 g l) mw_X4_init (List.mem_of_getElem? (l := zNe) (i := 2) rfl) mi_X4_init rfl (by decide) (Nat.le_of_ble_eq_true rfl) (by decide) (by decide) dX11_init_140 (fun v140 S140 M140 q140 => ?_) rfl
  obtain ⟨rfl, rfl, rfl⟩ := q140
  refine zi_putF (n := 109) (j := 8) kX11 lf_X11_62 (by decide) rfl rfl rfl rfl (kX11.2.2.1 8 (by decide)) (fun _ => rfl) (fun _ => rfl) dX11_init_143 (show 0 < 109 by decide) s0_0 (by decide) ?_
  refine z_aload_n dX11_init_146 rfl ?_
  refine zi_new (n := 109) kX9 lk_X11_66 wi_X9 wn_X9 dfX9 (by decide) (by decide) (by decide) dX11_init_147 s0_109 (by decide +kernel) rfl ?_
  refine z_dup dX11_init_150 rfl ?_
  refine z_callIN (host := RX11) [] (i_X9_init_109 g l) mw_X9_init (List.mem_of_getElem? (l := zNe) (i := 3) rfl) mi_X9_init rfl (by decide) (Nat.le_of_ble_eq_true rfl) (by decide) (by decide) dX11_init_151 (fun v151 S151 M151 q151 => ?_) rfl
  obtain ⟨rfl, rfl, rfl⟩ := q151
  refine zi_putF (n := 113) (j := 9) kX11 lf_X11_69 (by decide) rfl rfl rfl rfl (kX11.2.2.1 9 (by decide)) (fun _ => rfl) (fun _ => rfl) dX11_init_154 (show 0 < 113 by decide) s0_0 (by decide) ?_
  refine z_aload_n dX11_init_157 rfl ?_
  refine zi_new (n := 113) kX8 lk_X11_73 wi_X8 wn_X8 dfX8 (by decide) (by decide) (by decide) dX11_init_158 s0_113 (by decide +kernel) rfl ?_
  refine z_dup dX11_init_161 rfl ?_
  refine z_callI [] (i_X8_init_113 g l) mw_X8_init lm_X11_75 mi_X8_init rfl (by decide) (Nat.le_of_ble_eq_true rfl) (by decide) (by decide) dX11_init_162 (fun v162 S162 M162 q162 => ?_) rfl
  obtain ⟨rfl, rfl, rfl⟩ := q162
  refine zi_putF (n := 127) (j := 10) kX11 lf_X11_76 (by decide) rfl rfl rfl rfl (kX11.2.2.1 10 (by decide)) (fun _ => rfl) (fun _ => rfl) dX11_init_165 (show 0 < 127 by decide) s0_0 (by decide) ?_
  exact z_return dX11_init_168 rfl (by decide) (by decide) ⟨rfl, rfl, rfl⟩

set_option maxRecDepth 100000 in
set_option maxHeartbeats 4000000 in
theorem i_X12_127 (g : zG) (l : Launch) : zMet g l yX12_init cX12_init 1 none 1 22 1283 [.ref 127] (zSt 128 zE139) zI4 (zQc (zSt 150 zE161) zI47) := by
  refine zMet.of (by decide) (Nat.le_of_ble_eq_true rfl) ?_
  refine z_aload_n dX12_init_0 rfl ?_
  refine z_objInit lm_X12_1 w_oi w_oc (by decide) (Nat.le_of_ble_eq_true rfl) dX12_init_1 ?_
  refine z_aload_n dX12_init_4 rfl ?_
  refine z_sipush (v := 910) dX12_init_5 (by decide) ?_
  refine zi_newa (atype := .int) (n := 128) (q := 20) (n' := 910) (Or.inl ⟨rfl, rfl⟩) w_arrI rfl (by decide) (by decide) (by decide) (by decide) dX12_init_8 s0_128 (by decide +kernel) rfl ?_
  refine zi_putF (n := 129) (j := 0) kX12 lf_X12_7 (by decide) rfl rfl rfl rfl (kX12.2.2.1 0 (by decide)) (fun _ => rfl) (fun _ => rfl) dX12_init_10 (show 127 < 129 by decide) s0_127 (by decide) ?_
  refine z_aload_n dX12_init_13 rfl ?_
  refine z_iconst (v := 2) dX12_init_14 (by decide) ?_
  refine zi_newa (atype := .boolean) (n := 129) (q := 21) (n' := 2) (Or.inr ⟨rfl, rfl⟩) w_arrZ rfl (by decide) (by decide) (by decide) (by decide) dX12_init_15 s0_129 (by decide +kernel) rfl ?_
  refine zi_putF (n := 130) (j := 2) kX12 lf_X12_13 (by decide) rfl rfl rfl rfl (kX12.2.2.1 2 (by decide)) (fun _ => rfl) (fun _ => rfl) dX12_init_17 (show 127 < 130 by decide) s0_127 (by decide) ?_
  refine z_aload_n dX12_init_20 rfl ?_
  refine z_sipush (v := 200) dX12_init_21 (by decide) ?_
  refine zi_newa (atype := .int) (n := 130) (q := 20) (n' := 200) (Or.inl ⟨rfl, rfl⟩) w_arrI rfl (by decide) (by decide) (by decide) (by decide) dX12_init_24 s0_130 (by decide +kernel) rfl ?_
  refine zi_putF (n := 131) (j := 3) kX12 lf_X12_17 (by decide) rfl rfl rfl rfl (kX12.2.2.1 3 (by decide)) (fun _ => rfl) (fun _ => rfl) dX12_init_26 (show 127 < 131 by decide) s0_127 (by decide) ?_
  refine z_aload_n dX12_init_29 rfl ?_
  refine z_bipush (v := 6) dX12_init_30 (by decide) ?_
  refine zi_newa (atype := .int) (n := 131) (q := 20) (n' := 6) (Or.inl ⟨rfl, rfl⟩) w_arrI rfl (by decide) (by decide) (by decide) (by decide) dX12_init_32 s0_131 (by decide +kernel) rfl ?_
  refine zi_putF (n := 132) (j := 6) kX12 lf_X12_20 (by decide) rfl rfl rfl rfl (kX12.2.2.1 6 (by decide)) (fun _ => rfl) (fun _ => rfl) dX12_init_34 (show 127 < 132 by decide) s0_127 (by decide) ?_
  refine z_aload_n dX12_init_37 rfl ?_
  refine z_bipush (v := 6) dX12_init_38 (by decide) ?_
  refine zi_newa (atype := .int) (n := 132) (q := 20) (n' := 6) (Or.inl ⟨rfl, rfl⟩) w_arrI rfl (by decide) (by decide) (by decide) (by decide) dX12_init_40 s0_132 (by decide +kernel) rfl ?_
  refine zi_putF (n := 133) (j := 7) kX12 lf_X12_23 (by decide) rfl rfl rfl rfl (kX12.2.2.1 7 (by decide)) (fun _ => rfl) (fun _ => rfl) dX12_init_42 (show 127 < 133 by decide) s0_127 (by decide) ?_
  refine z_aload_n dX12_init_45 rfl ?_
  refine z_bipush (v := 6) dX12_init_46 (by decide) ?_
  refine zi_newa (atype := .int) (n := 133) (q := 20) (n' := 6) (Or.inl ⟨rfl, rfl⟩) w_arrI rfl (by decide) (by decide) (by decide) (by decide) dX12_init_48 s0_133 (by decide +kernel) rfl ?_
  refine zi_putF (n := 134) (j := 8) kX12 lf_X12_26 (by decide) rfl rfl rfl rfl (kX12.2.2.1 8 (by decide)) (fun _ => rfl) (fun _ => rfl) dX12_init_50 (show 127 < 134 by decide) s0_127 (by decide) ?_
  refine z_aload_n dX12_init_53 rfl ?_
  refine z_iconst (v := 4) dX12_init_54 (by decide) ?_
  refine zi_newa (atype := .int) (n := 134) (q := 20) (n' := 4) (Or.inl ⟨rfl, rfl⟩) w_arrI rfl (by decide) (by decide) (by decide) (by decide) dX12_init_55 s0_134 (by decide +kernel) rfl ?_
  refine z_dup dX12_init_57 rfl ?_
  refine z_iconst (v := 0) dX12_init_58 (by decide) ?_
  refine z_iconst (v := (-1)) dX12_init_59 (by decide) ?_
  refine z_iastN (j := 0) rfl (by decide) dX12_init_60 (show 134 < 135 by decide) s0_134 ?_
  refine z_dup dX12_init_61 rfl ?_
  refine z_iconst (v := 1) dX12_init_62 (by decide) ?_
  refine z_iconst (v := (-1)) dX12_init_63 (by decide) ?_
  refine z_iastN (j := 1) rfl (by decide) dX12_init_64 (show 134 < 135 by decide) s0_134 ?_
  refine z_dup dX12_init_65 rfl ?_
  refine z_iconst (v := 2) dX12_init_66 (by decide) ?_
  refine z_iconst (v := (-1)) dX12_init_67 (by decide) ?_
  refine z_iastN (j := 2) rfl (by decide) dX12_init_68 (show 134 < 135 by decide) s0_134 ?_
  refine z_dup dX12_init_69 rfl ?_
  refine z_iconst (v := 3) dX12_init_70 (by decide) ?_
  refine z_iconst (v := (-1)) dX12_init_71 (by decide) ?_
  refine z_iastN (j := 3) rfl (by decide) dX12_init_72 (show 134 < 135 by decide) s0_134 ?_
  refine zi_putF (n := 135) (j := 9) kX12 lf_X12_29 (by decide) rfl rfl rfl rfl (kX12.2.2.1 9 (by decide)) (fun _ => rfl) (fun _ => rfl) dX12_init_73 (show 127 < 135 by decide) s0_127 (by decide) ?_
  refine z_aload_n dX12_init_76 rfl ?_
  refine z_bipush (v := 40) dX12_init_77 (by decide) ?_
  refine zi_newa (atype := .int) (n := 135) (q := 20) (n' := 40) (Or.inl ⟨rfl, rfl⟩) w_arrI rfl (by decide) (by decide) (by decide) (by decide) dX12_init_79 s0_135 (by decide +kernel) rfl ?_
  refine zi_putF (n := 136) (j := 10) kX12 lf_X12_32 (by decide) rfl rfl rfl rfl (kX12.2.2.1 10 (by decide)) (fun _ => rfl) (fun _ => rfl) dX12_init_81 (show 127 < 136 by decide) s0_127 (by decide) ?_
  refine z_aload_n dX12_init_84 rfl ?_
  refine z_bipush (v := 40) dX12_init_85 (by decide) ?_
  refine zi_newa (atype := .int) (n := 136) (q := 20) (n' := 40) (Or.inl ⟨rfl, rfl⟩) w_arrI rfl (by decide) (by decide) (by decide) (by decide) dX12_init_87 s0_136 (by decide +kernel) rfl ?_
  refine zi_putF (n := 137) (j := 11) kX12 lf_X12_35 (by decide) rfl rfl rfl rfl (kX12.2.2.1 11 (by decide)) (fun _ => rfl) (fun _ => rfl) dX12_init_89 (show 127 < 137 by decide) s0_127 (by decide) ?_
  refine z_aload_n dX12_init_92 rfl ?_
  refine z_iconst (v := 2) dX12_init_93 (by decide) ?_
  refine zi_newa (atype := .int) (n := 137) (q := 20) (n' := 2) (Or.inl ⟨rfl, rfl⟩) w_arrI rfl (by decide) (by decide) (by decide) (by decide) dX12_init_94 s0_137 (by decide +kernel) rfl ?_
  refine zi_putF (n := 138) (j := 19) kX12 lf_X12_38 (by decide) rfl rfl rfl rfl (kX12.2.2.1 19 (by decide)) (fun _ => rfl) (fun _ => rfl) dX12_init_96 (show 127 < 138 by decide) s0_127 (by decide) ?_
  refine z_aload_n dX12_init_99 rfl ?_
  refine z_iconst (v := 4) dX12_init_100 (by decide) ?_
  refine zi_newa (atype := .int) (n := 138) (q := 20) (n' := 4) (Or.inl ⟨rfl, rfl⟩) w_arrI rfl (by decide) (by decide) (by decide) (by decide) dX12_init_101 s0_138 (by decide +kernel) rfl ?_
  refine z_dup dX12_init_103 rfl ?_
  refine z_iconst (v := 0) dX12_init_104 (by decide) ?_
  refine z_bipush (v := 114) dX12_init_105 (by decide) ?_
  refine z_iastN (j := 0) rfl (by decide) dX12_init_107 (show 138 < 139 by decide) s0_138 ?_
  refine z_dup dX12_init_108 rfl ?_
  refine z_iconst (v := 1) dX12_init_109 (by decide) ?_
  refine z_bipush (v := 111) dX12_init_110 (by decide) ?_
  refine z_iastN (j := 1) rfl (by decide) dX12_init_112 (show 138 < 139 by decide) s0_138 ?_
  refine z_dup dX12_init_113 rfl ?_
  refine z_iconst (v := 2) dX12_init_114 (by decide) ?_
  refine z_bipush (v := 97) dX12_init_115 (by decide) ?_
  refine z_iastN (j := 2) rfl (by decide) dX12_init_117 (show 138 < 139 by decide) s0_138 ?_
  refine z_dup dX12_init_118 rfl ?_
  refine z_iconst (v := 3) dX12_init_119 (by decide) ?_
  refine z_bipush (v := 100) dX12_init_120 (by decide) ?_
  refine z_iastN (j := 3) rfl (by decide) dX12_init_122 (show 138 < 139 by decide) s0_138 ?_
  refine zi_putF (n := 139) (j := 20) kX12 lf_X12_41 (by decide) rfl rfl rfl rfl (kX12.2.2.1 20 (by decide)) (fun _ => rfl) (fun _ => rfl) dX12_init_123 (show 127 < 139 by decide) s0_127 (by decide) ?_
  refine z_aload_n dX12_init_126 rfl ?_
  refine z_iconst (v := 3) dX12_init_127 (by decide) ?_
  refine zi_newa (atype := .int) (n := 139) (q := 20) (n' := 3) (Or.inl ⟨rfl, rfl⟩) w_arrI rfl (by decide) (by decide) (by decide) (by decide) dX12_init_128 s0_139 (by decide +kernel) rfl ?_
  refine z_dup dX12_init_130 rfl ?_
  refine z_iconst (v := 0) dX12_init_131 (by decide) ?_
  refine z_bipush (v := 105) dX12_init_132 (by decide) ?_
  refine z_iastN (j := 0) rfl (by decide) dX12_init_134 (show 139 < 140 by decide) s0_139 ?_
  refine z_dup dX12_init_135 rfl ?_
  refine z_iconst (v := 1) dX12_init_136 (by decide) ?_
  refine z_bipush (v := 110) dX12_init_137 (by decide) ?_
  refine z_iastN (j := 1) rfl (by decide) dX12_init_139 (show 139 < 140 by decide) s0_139 ?_
  refine z_dup dX12_init_140 rfl ?_
  refine z_iconst (v := 2) dX12_init_141 (by decide) ?_
  refine z_bipush (v := 110) dX12_init_142 (by decide) ?_
  refine z_iastN (j := 2) rfl (by decide) dX12_init_144 (show 139 < 140 by decide) s0_139 ?_
  refine zi_putF (n := 140) (j := 21) kX12 lf_X12_44 (by decide) rfl rfl rfl rfl (kX12.2.2.1 21 (by decide)) (fun _ => rfl) (fun _ => rfl) dX12_init_145 (show 127 < 140 by decide) s0_127 (by decide) ?_
  refine z_aload_n dX12_init_148 rfl ?_
  refine z_iconst (v := 4) dX12_init_149 (by decide) ?_
  refine zi_newa (atype := .int) (n := 140) (q := 20) (n' := 4) (Or.inl ⟨rfl, rfl⟩) w_arrI rfl (by decide) (by decide) (by decide) (by decide) dX12_init_150 s0_140 (by decide +kernel) rfl ?_
  refine z_dup dX12_init_152 rfl ?_
  refine z_iconst (v := 0) dX12_init_153 (by decide) ?_
  refine z_bipush (v := 104) dX12_init_154 (by decide) ?_
  refine z_iastN (j := 0) rfl (by decide) dX12_init_156 (show 140 < 141 by decide) s0_140 ?_
  refine z_dup dX12_init_157 rfl ?_
  refine z_iconst (v := 1) dX12_init_158 (by decide) ?_
  refine z_bipush (v := 97) dX12_init_159 (by decide) ?_
  refine z_iastN (j := 1) rfl (by decide) dX12_init_161 (show 140 < 141 by decide) s0_140 ?_
  refine z_dup dX12_init_162 rfl ?_
  refine z_iconst (v := 2) dX12_init_163 (by decide) ?_
  refine z_bipush (v := 99) dX12_init_164 (by decide) ?_
  refine z_iastN (j := 2) rfl (by decide) dX12_init_166 (show 140 < 141 by decide) s0_140 ?_
  refine z_dup dX12_init_167 rfl ?_
  refine z_iconst (v := 3) dX12_init_168 (by decide) ?_
  refine z_bipush (v := 107) dX12_init_169 (by decide) ?_
  refine z_iastN (j := 3) rfl (by decide) dX12_init_171 (show 140 < 141 by decide) s0_140 ?_
  refine zi_putF (n := 141) (j := 22) kX12 lf_X12_47 (by decide) rfl rfl rfl rfl (kX12.2.2.1 22 (by decide)) (fun _ => rfl) (fun _ => rfl) dX12_init_172 (show 127 < 141 by decide) s0_127 (by decide) ?_
  refine z_aload_n dX12_init_175 rfl ?_
  refine z_bipush (v := 7) dX12_init_176 (by decide) ?_
  refine zi_newa (atype := .int) (n := 141) (q := 20) (n' := 7) (Or.inl ⟨rfl, rfl⟩) w_arrI rfl (by decide) (by decide) (by decide) (by decide) dX12_init_178 s0_141 (by decide +kernel) rfl ?_
  refine z_dup dX12_init_180 rfl ?_
  refine z_iconst (v := 0) dX12_init_181 (by decide) ?_
  refine z_bipush (v := 118) dX12_init_182 (by decide) ?_
  refine z_iastN (j := 0) rfl (by decide) dX12_init_184 (show 141 < 142 by decide) s0_141 ?_
  refine z_dup dX12_init_185 rfl ?_
  refine z_iconst (v := 1) dX12_init_186 (by decide) ?_
  refine z_bipush (v := 105) dX12_init_187 (by decide) ?_
  refine z_iastN (j := 1) rfl (by decide) dX12_init_189 (show 141 < 142 by decide) s0_141 ?_
  refine z_dup dX12_init_190 rfl ?_
  refine z_iconst (v := 2) dX12_init_191 (by decide) ?_
  refine z_bipush (v := 99) dX12_init_192 (by decide) ?_
  refine z_iastN (j := 2) rfl (by decide) dX12_init_194 (show 141 < 142 by decide) s0_141 ?_
  refine z_dup dX12_init_195 rfl ?_
  refine z_iconst (v := 3) dX12_init_196 (by decide) ?_
  refine z_bipush (v := 105) dX12_init_197 (by decide) ?_
  refine z_iastN (j := 3) rfl (by decide) dX12_init_199 (show 141 < 142 by decide) s0_141 ?_
  refine z_dup dX12_init_200 rfl ?_
  refine z_iconst (v := 4) dX12_init_201 (by decide) ?_
  refine z_bipush (v := 111) dX12_init_202 (by decide) ?_
  refine z_iastN (j := 4) rfl (by decide) dX12_init_204 (show 141 < 142 by decide) s0_141 ?_
  refine z_dup dX12_init_205 rfl ?_
  refine z_iconst (v := 5) dX12_init_206 (by decide) ?_
  refine z_bipush (v := 117) dX12_init_207 (by decide) ?_
  refine z_iastN (j := 5) rfl (by decide) dX12_init_209 (show 141 < 142 by decide) s0_141 ?_
  refine z_dup dX12_init_210 rfl ?_
  refine z_bipush (v := 6) dX12_init_211 (by decide) ?_
  refine z_bipush (v := 115) dX12_init_213 (by decide) ?_
  refine z_iastN (j := 6) rfl (by decide) dX12_init_215 (show 141 < 142 by decide) s0_141 ?_
  refine zi_putF (n := 142) (j := 23) kX12 lf_X12_50 (by decide) rfl rfl rfl rfl (kX12.2.2.1 23 (by decide)) (fun _ => rfl) (fun _ => rfl) dX12_init_216 (show 127 < 142 by decide) s0_127 (by decide) ?_
  refine z_aload_n dX12_init_219 rfl ?_
  refine z_iconst (v := 4) dX12_init_220 (by decide) ?_
  refine zi_newa (atype := .int) (n := 142) (q := 20) (n' := 4) (Or.inl ⟨rfl, rfl⟩) w_arrI rfl (by decide) (by decide) (by decide) (by decide) dX12_init_221 s0_142 (by decide +kernel) rfl ?_
  refine z_dup dX12_init_223 rfl ?_
  refine z_iconst (v := 0) dX12_init_224 (by decide) ?_
  refine z_bipush (v := 100) dX12_init_225 (by decide) ?_
  refine z_iastN (j := 0) rfl (by decide) dX12_init_227 (show 142 < 143 by decide) s0_142 ?_
  refine z_dup dX12_init_228 rfl ?_
  refine z_iconst (v := 1) dX12_init_229 (by decide) ?_
  refine z_bipush (v := 97) dX12_init_230 (by decide) ?_
  refine z_iastN (j := 1) rfl (by decide) dX12_init_232 (show 142 < 143 by decide) s0_142 ?_
  refine z_dup dX12_init_233 rfl ?_
  refine z_iconst (v := 2) dX12_init_234 (by decide) ?_
  refine z_bipush (v := 119) dX12_init_235 (by decide) ?_
  refine z_iastN (j := 2) rfl (by decide) dX12_init_237 (show 142 < 143 by decide) s0_142 ?_
  refine z_dup dX12_init_238 rfl ?_
  refine z_iconst (v := 3) dX12_init_239 (by decide) ?_
  refine z_bipush (v := 110) dX12_init_240 (by decide) ?_
  refine z_iastN (j := 3) rfl (by decide) dX12_init_242 (show 142 < 143 by decide) s0_142 ?_
  refine zi_putF (n := 143) (j := 24) kX12 lf_X12_53 (by decide) rfl rfl rfl rfl (kX12.2.2.1 24 (by decide)) (fun _ => rfl) (fun _ => rfl) dX12_init_243 (show 127 < 143 by decide) s0_127 (by decide) ?_
  refine z_aload_n dX12_init_246 rfl ?_
  refine z_iconst (v := 4) dX12_init_247 (by decide) ?_
  refine zi_newa (atype := .int) (n := 143) (q := 20) (n' := 4) (Or.inl ⟨rfl, rfl⟩) w_arrI rfl (by decide) (by decide) (by decide) (by decide) dX12_init_248 s0_143 (by decide +kernel) rfl ?_
  refine z_dup dX12_init_250 rfl ?_
  refine z_iconst (v := 0) dX12_init_251 (by decide) ?_
  refine z_bipush (v := 103) dX12_init_252 (by decide) ?_
  refine z_iastN (j := 0) rfl (by decide) dX12_init_254 (show 143 < 144 by decide) s0_143 ?_
  refine z_dup dX12_init_255 rfl ?_
  refine z_iconst (v := 1) dX12_init_256 (by decide) ?_
  refine z_bipush (v := 114) dX12_init_257 (by decide) ?_
  refine z_iastN (j := 1) rfl (by decide) dX12_init_259 (show 143 < 144 by decide) s0_143 ?_
  refine z_dup dX12_init_260 rfl ?_
  refine z_iconst (v := 2) dX12_init_261 (by decide) ?_
  refine z_bipush (v := 101) dX12_init_262 (by decide) ?_
  refine z_iastN (j := 2) rfl (by decide) dX12_init_264 (show 143 < 144 by decide) s0_143 ?_
  refine z_dup dX12_init_265 rfl ?_
  refine z_iconst (v := 3) dX12_init_266 (by decide) ?_
  refine z_bipush (v := 121) dX12_init_267 (by decide) ?_
  refine z_iastN (j := 3) rfl (by decide) dX12_init_269 (show 143 < 144 by decide) s0_143 ?_
  refine zi_putF (n := 144) (j := 25) kX12 lf_X12_56 (by decide) rfl rfl rfl rfl (kX12.2.2.1 25 (by decide)) (fun _ => rfl) (fun _ => rfl) dX12_init_270 (show 127 < 144 by decide) s0_127 (by decide) ?_
  refine z_aload_n dX12_init_273 rfl ?_
  refine z_bipush (v := 8) dX12_init_274 (by decide) ?_
  refine zi_newa (atype := .int) (n := 144) (q := 20) (n' := 8) (Or.inl ⟨rfl, rfl⟩) w_arrI rfl (by decide) (by decide) (by decide) (by decide) dX12_init_276 s0_144 (by decide +kernel) rfl ?_
  refine z_dup dX12_init_278 rfl ?_
  refine z_iconst (v := 0) dX12_init_279 (by decide) ?_
  refine z_bipush (v := 109) dX12_init_280 (by decide) ?_
  refine z_iastN (j := 0) rfl (by decide) dX12_init_282 (show 144 < 145 by decide) s0_144 ?_
  refine z_dup dX12_init_283 rfl ?_
  refine z_iconst (v := 1) dX12_init_284 (by decide) ?_
  refine z_bipush (v := 105) dX12_init_285 (by decide) ?_
  refine z_iastN (j := 1) rfl (by decide) dX12_init_287 (show 144 < 145 by decide) s0_144 ?_
  refine z_dup dX12_init_288 rfl ?_
  refine z_iconst (v := 2) dX12_init_289 (by decide) ?_
  refine z_bipush (v := 100) dX12_init_290 (by decide) ?_
  refine z_iastN (j := 2) rfl (by decide) dX12_init_292 (show 144 < 145 by decide) s0_144 ?_
  refine z_dup dX12_init_293 rfl ?_
  refine z_iconst (v := 3) dX12_init_294 (by decide) ?_
  refine z_bipush (v := 110) dX12_init_295 (by decide) ?_
  refine z_iastN (j := 3) rfl (by decide) dX12_init_297 (show 144 < 145 by decide) s0_144 ?_
  refine z_dup dX12_init_298 rfl ?_
  refine z_iconst (v := 4) dX12_init_299 (by decide) ?_
  refine z_bipush (v := 105) dX12_init_300 (by decide) ?_
  refine z_iastN (j := 4) rfl (by decide) dX12_init_302 (show 144 < 145 by decide) s0_144 ?_
  refine z_dup dX12_init_303 rfl ?_
  refine z_iconst (v := 5) dX12_init_304 (by decide) ?_
  refine z_bipush (v := 103) dX12_init_305 (by decide) ?_
  refine z_iastN (j := 5) rfl (by decide) dX12_init_307 (show 144 < 145 by decide) s0_144 ?_
  refine z_dup dX12_init_308 rfl ?_
  refine z_bipush (v := 6) dX12_init_309 (by decide) ?_
  refine z_bipush (v := 104) dX12_init_311 (by decide) ?_
  refine z_iastN (j := 6) rfl (by decide) dX12_init_313 (show 144 < 145 by decide) s0_144 ?_
  refine z_dup dX12_init_314 rfl ?_
  refine z_bipush (v := 7) dX12_init_315 (by decide) ?_
  refine z_bipush (v := 116) dX12_init_317 (by decide) ?_
  refine z_iastN (j := 7) rfl (by decide) dX12_init_319 (show 144 < 145 by decide) s0_144 ?_
  refine zi_putF (n := 145) (j := 26) kX12 lf_X12_59 (by decide) rfl rfl rfl rfl (kX12.2.2.1 26 (by decide)) (fun _ => rfl) (fun _ => rfl) dX12_init_320 (show 127 < 145 by decide) s0_127 (by decide) ?_
  refine z_aload_n dX12_init_323 rfl ?_
  refine z_iconst (v := 5) dX12_init_324 (by decide) ?_
  refine zi_newa (atype := .int) (n := 145) (q := 20) (n' := 5) (Or.inl ⟨rfl, rfl⟩) w_arrI rfl (by decide) (by decide) (by decide) (by decide) dX12_init_325 s0_145 (by decide +kernel) rfl ?_
  refine z_dup dX12_init_327 rfl ?_
  refine z_iconst (v := 0) dX12_init_328 (by decide) ?_
  refine z_bipush (v := 114) dX12_init_329 (by decide) ?_
  refine z_iastN (j := 0) rfl (by decide) dX12_init_331 (show 145 < 146 by decide) s0_145 ?_
  refine z_dup dX12_init_332 rfl ?_
  refine z_iconst (v := 1) dX12_init_333 (by decide) ?_
  refine z_bipush (v := 105) dX12_init_334 (by decide) ?_
  refine z_iastN (j := 1) rfl (by decide) dX12_init_336 (show 145 < 146 by decide) s0_145 ?_
  refine z_dup dX12_init_337 rfl ?_
  refine z_iconst (v := 2) dX12_init_338 (by decide) ?_
  refine z_bipush (v := 100) dX12_init_339 (by decide) ?_
  refine z_iastN (j := 2) rfl (by decide) dX12_init_341 (show 145 < 146 by decide) s0_145 ?_
  refine z_dup dX12_init_342 rfl ?_
  refine z_iconst (v := 3) dX12_init_343 (by decide) ?_
  refine z_bipush (v := 101) dX12_init_344 (by decide) ?_
  refine z_iastN (j := 3) rfl (by decide) dX12_init_346 (show 145 < 146 by decide) s0_145 ?_
  refine z_dup dX12_init_347 rfl ?_
  refine z_iconst (v := 4) dX12_init_348 (by decide) ?_
  refine z_bipush (v := 114) dX12_init_349 (by decide) ?_
  refine z_iastN (j := 4) rfl (by decide) dX12_init_351 (show 145 < 146 by decide) s0_145 ?_
  refine zi_putF (n := 146) (j := 27) kX12 lf_X12_62 (by decide) rfl rfl rfl rfl (kX12.2.2.1 27 (by decide)) (fun _ => rfl) (fun _ => rfl) dX12_init_352 (show 127 < 146 by decide) s0_127 (by decide) ?_
  refine z_aload_n dX12_init_355 rfl ?_
  refine z_iconst (v := 4) dX12_init_356 (by decide) ?_
  refine zi_newa (atype := .int) (n := 146) (q := 20) (n' := 4) (Or.inl ⟨rfl, rfl⟩) w_arrI rfl (by decide) (by decide) (by decide) (by decide) dX12_init_357 s0_146 (by decide +kernel) rfl ?_
  refine zi_putF (n := 147) (j := 30) kX12 lf_X12_65 (by decide) rfl rfl rfl rfl (kX12.2.2.1 30 (by decide)) (fun _ => rfl) (fun _ => rfl) dX12_init_359 (show 127 < 147 by decide) s0_127 (by decide) ?_
  refine z_aload_n dX12_init_362 rfl ?_
  refine z_iconst (v := 4) dX12_init_363 (by decide) ?_
  refine zi_newa (atype := .int) (n := 147) (q := 20) (n' := 4) (Or.inl ⟨rfl, rfl⟩) w_arrI rfl (by decide) (by decide) (by decide) (by decide) dX12_init_364 s0_147 (by decide +kernel) rfl ?_
  refine zi_putF (n := 148) (j := 31) kX12 lf_X12_68 (by decide) rfl rfl rfl rfl (kX12.2.2.1 31 (by decide)) (fun _ => rfl) (fun _ => rfl) dX12_init_366 (show 127 < 148 by decide) s0_127 (by decide) ?_
  refine z_aload_n dX12_init_369 rfl ?_
  refine z_bipush (v := 10) dX12_init_370 (by decide) ?_
  refine zi_newa (atype := .int) (n := 148) (q := 20) (n' := 10) (Or.inl ⟨rfl, rfl⟩) w_arrI rfl (by decide) (by decide) (by decide) (by decide) dX12_init_372 s0_148 (by decide +kernel) rfl ?_
  refine zi_putF (n := 149) (j := 32) kX12 lf_X12_71 (by decide) rfl rfl rfl rfl (kX12.2.2.1 32 (by decide)) (fun _ => rfl) (fun _ => rfl) dX12_init_374 (show 127 < 149 by decide) s0_127 (by decide) ?_
  refine z_aload_n dX12_init_377 rfl ?_
  refine z_bipush (v := 10) dX12_init_378 (by decide) ?_
  refine zi_newa (atype := .int) (n := 149) (q := 20) (n' := 10) (Or.inl ⟨rfl, rfl⟩) w_arrI rfl (by decide) (by decide) (by decide) (by decide) dX12_init_380 s0_149 (by decide +kernel) rfl ?_
  refine zi_putF (n := 150) (j := 33) kX12 lf_X12_74 (by decide) rfl rfl rfl rfl (kX12.2.2.1 33 (by decide)) (fun _ => rfl) (fun _ => rfl) dX12_init_382 (show 127 < 150 by decide) s0_127 (by decide) ?_
  exact z_return dX12_init_385 rfl (by decide) (by decide) ⟨rfl, rfl, rfl⟩

theorem S0_made : zSt 150 zE161 = S0 := by
  refine Prod.ext rfl (Prod.ext rfl ?_)
  funext k j
  by_cases hk : k < 150
  · by_cases hj : j < 35
    · exact (by decide +kernel : ∀ k, k < 150 → ∀ j, j < 35 → zEv zE161 k j = S0.2.2 k j) k hk j hj
    · have h1 : ∀ es : List (Nat × Nat × Nat), es.all (fun e => decide (e.2.1 < 35)) = true → zEv es k j = 0 := by
        intro es
        induction es with
        | nil => intro _; rfl
        | cons e es ih =>
          intro h
          rw [List.all_cons, Bool.and_eq_true] at h
          have h2 : e.2.1 < 35 := of_decide_eq_true h.1
          show (if k = e.1 then (if j = e.2.1 then e.2.2 else zEv es k j) else zEv es k j) = 0
          rw [if_neg (show ¬ j = e.2.1 by omega), ih h.2]
          split <;> rfl
      have h2 : ∀ k, k < 150 → (zR0.getD k []).length ≤ 35 := by decide +kernel
      show zEv zE161 k j = (zR0.getD k []).getD j 0
      rw [h1 zE161 (by decide +kernel), List.getD_eq_getElem?_getD, List.getElem?_eq_none (by have := h2 k hk; omega)]
      rfl
  · have h1 : ∀ es : List (Nat × Nat × Nat), es.all (fun e => decide (e.1 < 150)) = true → zEv es k j = 0 := by
      intro es
      induction es with
      | nil => intro _; rfl
      | cons e es ih =>
        intro h
        rw [List.all_cons, Bool.and_eq_true] at h
        have h2 : e.1 < 150 := of_decide_eq_true h.1
        show (if k = e.1 then (if j = e.2.1 then e.2.2 else zEv es k j) else zEv es k j) = 0
        rw [if_neg (show ¬ k = e.1 by omega), ih h.2]
    have h2 : zR0.length ≤ 150 := by decide +kernel
    have h3 : zR0.getD k [] = [] := by rw [List.getD_eq_getElem?_getD, List.getElem?_eq_none (show zR0.length ≤ k by omega)]; rfl
    show zEv zE161 k j = (zR0.getD k []).getD j 0
    rw [h1 zE161 (by decide +kernel), h3]
    rfl

