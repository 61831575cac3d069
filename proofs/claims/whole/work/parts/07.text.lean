/-! ===== text constants; the script ===== -/
section ZTEXT
variable {g : zG} {l : Launch} {y : MethodName} {cc : ByteArray} {nL : Nat} {ret : Option FieldType} {d mc ms : Nat} {P : Option Value → zS → zM → Prop} {pc ks ns : Nat} {S : zS} {M : zM} {lo st : List Value}
variable {y' : MethodName} {cc' : ByteArray} {nL' : Nat} {ret' : Option FieldType} {d' mc' ms' index n : Nat} {P' : Option Value → zS → zM → Prop}
theorem z_ldcS {i : Nat} {tx : String} (hi : i < 8) (hk : zKon.getD i ("", 0, "") = (y.cls, index, tx)) (hdg : decode cc pc = .ok (.ldc index, 2)) (kk : zA g l y cc nL ret d mc ms P (pc + 2) ks ns S M lo (.ref (1000 + i) :: st)) : zA g l y cc nL ret d mc ms P pc ks ns S M lo st := by
  intro p e R s m args below meth c H locs ls Q X hR hL hE
  have hZ := X.2.2.2.2.2.2.2.2.2.2.2.2.2.1.2.2.1 i hi
  rw [hk] at hZ
  refine va_ldcS X.1 X.2.1 X.2.2.2.1 hZ hdg ?_
  have := kk p e R s m args below meth c H locs ls Q X hR hL hE
  have e2 : (Value.ref (1000 + i) :: st).map (z_v g) = .ref (g.2.2.2.2.1 i) :: st.map (z_v g) := by
    show Value.ref (zad g (1000 + i)) :: _ = _
    rw [zad_k g hi]
  rw [e2] at this
  exact this
theorem z_getTV {i : Nat} (hi : i < 8) (hl : Cond.fieldLink y.cls index "java/lang/String" "value" "[B" ∈ zW) (hdg : decode cc pc = .ok (.getfield index, 3)) (kk : zA g l y cc nL ret d mc ms P (pc + 3) ks ns S M lo (.ref (2000 + i) :: st)) : zA g l y cc nL ret d mc ms P pc ks ns S M lo (.ref (1000 + i) :: st) := by
  intro p e R s m args below meth c H locs ls Q X hR hL hE
  have hZ := (X.2.2.2.2.2.2.2.2.2.2.2.2.2.1.2.1.1 i hi).2.2.1
  have := kk p e R s m args below meth c H locs ls Q X hR hL hE
  have e1 : (Value.ref (1000 + i) :: st).map (z_v g) = .ref (g.2.2.2.2.1 i) :: st.map (z_v g) := by
    show Value.ref (zad g (1000 + i)) :: _ = _
    rw [zad_k g hi]
  have e2 : (Value.ref (2000 + i) :: st).map (z_v g) = .ref (g.2.2.2.2.2 i) :: st.map (z_v g) := by
    show Value.ref (zad g (2000 + i)) :: _ = _
    rw [zad_v g]
  rw [e1]
  rw [e2] at this
  exact vk_getf X.1 X.2.1 hZ hR.2.2.2 X.2.2.2.1 (X.2.2.2.2.1 _ hl) (fun x h => h) hdg this
theorem z_getTC {i : Nat} (hi : i < 8) (hl : Cond.fieldLink y.cls index "java/lang/String" "coder" "B" ∈ zW) (hdg : decode cc pc = .ok (.getfield index, 3)) (kk : zA g l y cc nL ret d mc ms P (pc + 3) ks ns S M lo (.int 0 :: st)) : zA g l y cc nL ret d mc ms P pc ks ns S M lo (.ref (1000 + i) :: st) := by
  intro p e R s m args below meth c H locs ls Q X hR hL hE
  have hZ := (X.2.2.2.2.2.2.2.2.2.2.2.2.2.1.2.1.1 i hi).2.1
  have e1 : (Value.ref (1000 + i) :: st).map (z_v g) = .ref (g.2.2.2.2.1 i) :: st.map (z_v g) := by
    show Value.ref (zad g (1000 + i)) :: _ = _
    rw [zad_k g hi]
  rw [e1]
  exact vk_getf X.1 X.2.1 hZ hR.2.2.2 X.2.2.2.1 (X.2.2.2.2.1 _ hl) (fun x h => h) hdg (kk p e R s m args below meth c H locs ls Q X hR hL hE)
theorem z_lenTV {i : Nat} (hi : i < 8) (hdg : decode cc pc = .ok (.arraylength, 1)) (kk : zA g l y cc nL ret d mc ms P (pc + 1) ks ns S M lo (.int (nI (zConLen.getD i 0)) :: st)) : zA g l y cc nL ret d mc ms P pc ks ns S M lo (.ref (2000 + i) :: st) := by
  intro p e R s m args below meth c H locs ls Q X hR hL hE
  have hZ := (X.2.2.2.2.2.2.2.2.2.2.2.2.2.1.2.1.1 i hi).2.2.2
  have e2 : (Value.ref (2000 + i) :: st).map (z_v g) = .ref (g.2.2.2.2.2 i) :: st.map (z_v g) := by
    show Value.ref (zad g (2000 + i)) :: _ = _
    rw [zad_v g]
  rw [e2]
  exact va_tlen X.1 X.2.1 hZ hR.2.2.2 rfl hdg (kk p e R s m args below meth c H locs ls Q X hR hL hE)
theorem z_baldTV {i j : Nat} {x : Int32} (hi : i < 8) (hx : x = nI j) (hj : j < zConLen.getD i 0) (hj2 : j < 1000) (hdg : decode cc pc = .ok (.baload, 1)) (kk : zA g l y cc nL ret d mc ms P (pc + 1) ks ns S M lo (.int ((zConByt.getD i []).getD j 0) :: st)) : zA g l y cc nL ret d mc ms P pc ks ns S M lo (.int x :: .ref (2000 + i) :: st) := by
  intro p e R s m args below meth c H locs ls Q X hR hL hE
  subst hx
  have hZ := (X.2.2.2.2.2.2.2.2.2.2.2.2.2.1.2.1.1 i hi).2.2.2
  have e2 : (Value.int (nI j) :: .ref (2000 + i) :: st).map (z_v g) = .int (nI j) :: .ref (g.2.2.2.2.2 i) :: st.map (z_v g) := by
    show Value.int (nI j) :: Value.ref (zad g (2000 + i)) :: _ = _
    rw [zad_v g]
  rw [e2]
  exact va_tb X.1 X.2.1 hZ hR.2.2.2 (i := nI j) (show ¬ _ by rw [nI_clamp (by omega)]; exact fun q => q.elim (fun q => nI_pos (by omega) q) (fun q => by omega)) (v := .int ((zConByt.getD i []).getD j 0)) (by rw [nI_clamp (by omega)]) hdg (kk p e R s m args below meth c H locs ls Q X hR hL hE)
theorem z_getCS (hl : Cond.fieldLink y.cls index "java/lang/String" "COMPACT_STRINGS" "Z" ∈ zW) (hdg : decode cc pc = .ok (.getstatic index, 3)) (kk : zA g l y cc nL ret d mc ms P (pc + 3) ks ns S M lo (.int 1 :: st)) : zA g l y cc nL ret d mc ms P pc ks ns S M lo st := by
  intro p e R s m args below meth c H locs ls Q X hR hL hE
  exact va_gets X.1 X.2.1 X.2.2.2.2.2.2.2.2.2.2.2.2.2.1.2.2.2.1 hR.2.2.2 X.2.2.2.1 (X.2.2.2.2.1 _ hl) (fun x h => h) hdg (kk p e R s m args below meth c H locs ls Q X hR hL hE)
theorem z_getSF (hl : Cond.fieldLink y.cls index "jdk/internal/util/Preconditions" "SIOOBE_FORMATTER" "Ljava/util/function/BiFunction;" ∈ zW) (hdg : decode cc pc = .ok (.getstatic index, 3)) (kk : ∀ v : Value, v = .null ∨ v = .ref (2000 + 101) → zA g l y cc nL ret d mc ms P (pc + 3) ks ns S M lo (v :: st)) : zA g l y cc nL ret d mc ms P pc ks ns S M lo st := by
  intro p e R s m args below meth c H locs ls Q X hR hL hE
  rcases X.2.2.2.2.2.2.2.2.2.2.2.2.2.1.2.2.2.2.1 with h | h
  · exact va_gets X.1 X.2.1 h hR.2.2.2 X.2.2.2.1 (X.2.2.2.2.1 _ hl) (fun x h => h) hdg (kk .null (Or.inl rfl) p e R s m args below meth c H locs ls Q X hR hL hE)
  · have := kk (.ref (2000 + 101)) (Or.inr rfl) p e R s m args below meth c H locs ls Q X hR hL hE
    have e2 : (Value.ref (2000 + 101) :: st).map (z_v g) = .ref (g.2.2.2.2.2 101) :: st.map (z_v g) := by
      show Value.ref (zad g (2000 + 101)) :: _ = _
      rw [zad_v g]
    rw [e2] at this
    exact va_gets X.1 X.2.1 h hR.2.2.2 X.2.2.2.1 (X.2.2.2.2.1 _ hl) (fun x h => h) hdg this
theorem z_i2c {x : Int32} (hdg : decode cc pc = .ok (.i2c, 1)) (k : zA g l y cc nL ret d mc ms P (pc + 1) ks ns S M lo (.int (x.toUInt32 % 65536).toInt32 :: st)) : zA g l y cc nL ret d mc ms P pc ks ns S M lo (.int x :: st) :=
  fun p e R s m args below meth c H locs ls Q X hR hL hE => lv_i2c X.1 X.2.1 hdg rfl (k p e R s m args below meth c H locs ls Q X hR hL hE)
/-- a call on a text constant -/
theorem z_callT {i : Nat} (As : List Value) (hi : i < 8) (hM : zMet g l y' cc' nL' ret' d' mc' ms' (.ref (1000 + i) :: As) S M P') (hw : zCW y' cc' nL' ret' As.length) (hl : Cond.methodLink y.cls index y' ∈ zW) (hin : Cond.instanceMethod y' ∈ zW) (hse : Cond.selects y'.cls y' y' ∈ zW) (hy : y'.cls = "java/lang/String")
    (hd : d' + 1 ≤ d) (hst : (st.map fun v => v.category).sum ≤ 8) (hmc : ks + mc' ≤ mc) (hms : ns + ms' ≤ ms) (hdg : decode cc pc = .ok (.invokevirtual index, 3))
    (kk : ∀ (v : Option Value) (S' : zS) (M' : zM), P' v S' M' → zA g l y cc nL ret d mc ms P (pc + 3) (ks + mc') (ns + ms') S' M' lo (v.toList ++ st)) {st2 : List Value} (he : As.reverse ++ .ref (1000 + i) :: st = st2) :
    zA g l y cc nL ret d mc ms P pc ks ns S M lo st2 := by
  subst he
  intro p e R s m args below meth c H locs ls Q X hR hL hE
  have hts := X.2.2.2.2.1
  refine z_after hR (va_runV (C := y'.cls) (As := As.map (z_v g)) (b := zad g (1000 + i)) (rest := st.map (z_v g)) ⟨X.1, X.2.1, X.2.2.1, X.2.2.2.1, hts⟩ hM ⟨z_cb X hw hl hd, hts _ hin, hts _ hse⟩ ⟨z_blind, ?_, fun U hU hW => ⟨rfl, z_ready X hR hU hW⟩⟩ rfl (by simp) hL.1 (by simp [z_v]) (z_room hst) hdg ⟨Nat.le_trans hmc X.2.2.2.2.2.2.2.2.2.2.1, Nat.le_trans hms X.2.2.2.2.2.2.2.2.2.2.2.1⟩) fun v S' M' H1 locs1 hp hR1 => ?_
  · rw [zad_k g hi, hy]
    exact vk_recv X.2.2.2.2.2.2.2.2.2.2.2.2.2.1.2.1 hi hR.2.2.2
  · have := kk v S' M' hp p e R s m args below meth c H1 locs1 ls Q X hR1 hL hE
    rw [List.map_append] at this
    exact this
end ZTEXT
