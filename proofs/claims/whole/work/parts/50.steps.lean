/-! ===== every step keeps what holds of the state; both sides take it ===== -/
section ZOK
variable {A : aSt}
theorem sWrite_ok (ok : aOK A) (c : Int32) : aOK (sWrite A c).1 := by
  unfold sWrite
  have := ok.L
  split
  · exact ok
  · split
    · exact ok
    · exact ok.setText (show A.L + 1 ≤ 200 by omega)
theorem sErase_ok (ok : aOK A) : aOK (sErase A).1 := ok.setText (Nat.zero_le _)
theorem sFault_ok (ok : aOK A) : aOK (sFault A).1 := ok
theorem sRoad_ok (ok : aOK A) : aOK (sRoad A).1 := by
  unfold sRoad
  split
  · exact aRoad_ok ok
  · exact ok
theorem sStage_ok (ok : aOK A) (x : Int32) : aOK (sStage A x).1 := by
  unfold sStage
  split
  · exact ok
  · split
    · exact ok
    · exact ok.push.setS (dIter_ok ok.s _)
theorem sOats_ok (ok : aOK A) (x : Int32) : aOK (sOats A x).1 := by
  have n8 : A.n ≤ 8 := ok.s.1.1
  unfold sOats
  rcases zInD x (show A.n < 1000 by omega) with ⟨h, hh, rfl⟩ | hx
  · rw [aIx_in hh (by omega)]
    split
    · exact ok
    · obtain ⟨-, -, -, ⟨t, ht, et⟩, -⟩ := ok.s.2.1 h hh
      refine ok.push.setS ?_
      rw [et]
      exact dEase_ok (b := 3) ok.s hh (by omega) (by omega)
  · rw [aIx_out hx]; exact ok
theorem sShoe_ok (ok : aOK A) (x : Int32) : aOK (sShoe A x).1 := by
  have n8 : A.n ≤ 8 := ok.s.1.1
  unfold sShoe
  rcases zInD x (show A.n < 1000 by omega) with ⟨h, hh, rfl⟩ | hx
  · rw [aIx_in hh (by omega)]
    split
    · exact ok
    · refine ok.push.setS ?_
      have h1 := ok.s.tl h (by omega) (x := A.s (27 + h)) (z := 0) (ok.s.2.1 h hh).2.2.2.1 (Or.inl rfl)
      rw [upd_id (f := A.s) (k := 27 + h) rfl] at h1
      exact h1.tired h (by omega) ⟨5, by omega, rfl⟩ (Or.inr (by decide))
  · rw [aIx_out hx]; exact ok
theorem sLead_ok (ok : aOK A) (x z : Int32) : aOK (sLead A x z).1 := by
  have n8 : A.n ≤ 8 := ok.s.1.1
  have i6 : A.i ≤ 6 := ok.s.1.2.2.1
  unfold sLead
  rcases zInD x (show A.n < 1000 by omega) with ⟨h, hh, rfl⟩ | hx
  · rw [aIx_in hh (by omega)]
    rcases zInD z (show A.i < 1000 by omega) with ⟨j, hj, rfl⟩ | hz
    · rw [aIx_in hj (by omega)]
      split
      · exact ok
      · exact ok.push.setS (ok.s.at h (by omega) ⟨j, hj, rfl⟩)
    · rw [aIx_out hz]; exact ok
  · rw [aIx_out hx]; exact ok
theorem sTurn_ok (ok : aOK A) (x z : Int32) : aOK (sTurn A x z).1 := by
  have r4 : A.r ≤ 4 := ok.s.1.2.1
  have i6 : A.i ≤ 6 := ok.s.1.2.2.1
  unfold sTurn
  rcases zInD x (show A.r < 1000 by omega) with ⟨h, hh, rfl⟩ | hx
  · rw [aIx_in hh (by omega)]
    rcases zInD z (show A.i < 1000 by omega) with ⟨j, hj, rfl⟩ | hz
    · rw [aIx_in hj (by omega)]
      split
      · exact ok
      · exact ok.push.setS (ok.s.to h (by omega) ⟨j, hj, rfl⟩)
    · rw [aIx_out hz]; exact ok
  · rw [aIx_out hx]; exact ok
theorem sUndo_ok (ok : aOK A) : aOK (sUndo A).1 := by
  unfold sUndo
  split
  · exact ok
  · exact (ok.setPast (x := A.u - 1) (by omega)).setS (ok.P (A.u - 1) (by omega))
theorem sKeep_ok (ok : aOK A) (x : Int32) : aOK (sKeep A x).1 := by
  unfold sKeep
  rcases zInD x (show 2 < 1000 by omega) with ⟨h, hh, rfl⟩ | hx
  · rw [aIx_in hh (by omega)]
    refine ok.setKept (fun k hk z => ?_)
    show dOK (if k = h then A.s else A.K k) A.n A.r A.i
    have z2 : (if k = h then true else A.kb k) = true := z
    by_cases c : k = h
    · rw [if_pos c]; exact ok.s
    · rw [if_neg c] at z2 ⊢; exact ok.K k hk z2
  · rw [aIx_out hx]; exact ok
theorem sBack_ok (ok : aOK A) (x : Int32) : aOK (sBack A x).1 := by
  unfold sBack
  rcases zInD x (show 2 < 1000 by omega) with ⟨h, hh, rfl⟩ | hx
  · rw [aIx_in hh (by omega)]
    split
    · rename_i c
      exact (ok.setS (ok.K h hh c)).setPast (x := 0) (Nat.zero_le _)
    · exact ok
  · rw [aIx_out hx]; exact ok
theorem sSeen_ok (ok : aOK A) (m t d : Int32) : aOK (sSeen A m t d).1 := by
  unfold sSeen
  have := ok.v
  split
  · exact ok
  · split
    · exact ok
    · exact ok.setSee (show A.v + 1 ≤ 6 by omega)
theorem sForget_ok (ok : aOK A) : aOK (sForget A).1 := ok.setSee (Nat.zero_le _)
theorem sBook_ok (ok : aOK A) (x m : Int32) : aOK (sBook A x m).1 := by
  unfold sBook
  rcases zInD x (show 4 < 1000 by omega) with ⟨h, hh, rfl⟩ | hx
  · rw [aIx_in hh (by omega)]
    by_cases c1 : 10 < m
    · rw [if_pos c1]; exact ok
    · rw [if_neg c1]
      by_cases c2 : m < 0
      · rw [if_pos c2]; exact ok
      · rw [if_neg c2]
        obtain ⟨u, -, hu, rfl⟩ := (zIdx m (a := 0) (c := 10) (by omega) (by omega)).resolve_right (fun z => z.elim c2 c1)
        rw [nI_clamp (by omega)]
        exact ok.putB ⟨hu, fun z => absurd z (by decide)⟩ (fun j _ => ⟨⟨3, by omega, rfl⟩, fun z => absurd z (by decide)⟩)
  · rw [aIx_out hx]; exact ok
theorem sEnter_ok (ok : aOK A) (x y w v : Int32) : aOK (sEnter A x y w v).1 := by
  unfold sEnter
  by_cases c1 : (¬ (0 ≤ x ∧ x < 4)) ∨ (w = 1 ∧ ¬ (0 ≤ v ∧ v < nI A.n)) ∨ (w = 2 ∧ ¬ (0 ≤ v ∧ v < 4))
  · rw [if_pos c1]; exact ok
  · rw [if_neg c1]
    by_cases c2 : (w < 0 ∨ 3 < w) ∨ (w = 0 ∧ (v < -9999 ∨ 9999 < v))
    · rw [if_pos c2]; exact ok
    · rw [if_neg c2]
      rcases zInD x (show 4 < 1000 by omega) with ⟨h, hh, rfl⟩ | hx
      · rw [aIx_in hh (by omega)]
        by_cases hb : A.bo h = true
        · rw [if_pos hb]
          have hln := ok.ln h hh
          rcases zInD y (show A.ln h < 1000 by omega) with ⟨j, hj, rfl⟩ | hy
          · rw [aIx_in hj (by omega)]
            obtain ⟨u, -, hu, rfl⟩ := (zIdx w (a := 0) (c := 3) (by omega) (by omega)).resolve_right (fun z => c2 (Or.inl z))
            refine ok.putB ⟨hln.1, fun z => absurd z (by decide)⟩ (fun k hk => ?_)
            by_cases e : k = j
            · rw [e, upd_s, upd_s]
              refine ⟨⟨u, by omega, rfl⟩, fun z => ?_⟩
              have hv : 0 ≤ v ∧ v < 4 := Classical.byContradiction (fun q => c1 (Or.inr (Or.inr ⟨z, q⟩)))
              exact (zInD v (n := 4) (by omega)).resolve_right (fun q => q hv)
            · rw [upd_n _ _ e, upd_n _ _ e]; exact ok.so h hh k hk
          · rw [aIx_out hy]; exact ok
        · rw [if_neg hb]; exact ok
      · rw [aIx_out hx]; exact ok
theorem sDrop_ok (ok : aOK A) (x : Int32) : aOK (sDrop A x).1 := by
  unfold sDrop
  rcases zInD x (show 4 < 1000 by omega) with ⟨h, hh, rfl⟩ | hx
  · rw [aIx_in hh (by omega)]
    split
    · exact ok.putB ⟨Nat.zero_le _, fun _ => rfl⟩ (fun j hj => ok.so h hh j hj)
    · exact ok
  · rw [aIx_out hx]; exact ok
theorem sCopy_ok (ok : aOK A) (x y t z m : Int32) : aOK (sCopy A x y t z m).1 := by
  unfold sCopy
  rcases zInD x (show 4 < 1000 by omega) with ⟨h, hh, rfl⟩ | hx
  · rw [aIx_in hh (by omega)]
    rcases zInD t (show 4 < 1000 by omega) with ⟨c, hc, rfl⟩ | ht
    · rw [aIx_in hc (by omega)]
      by_cases c1 : A.bo h = true ∧ A.bo c = true
      · rw [if_pos c1]
        by_cases c2 : (0 ≤ y ∧ 0 ≤ m ∧ y ≤ nI (A.ln h) - m) ∧ (0 ≤ z ∧ 0 ≤ m ∧ z ≤ nI (A.ln c) - m)
        · rw [if_pos c2]
          have hl1 := (ok.ln h hh).1
          have hl2 := (ok.ln c hc).1
          obtain ⟨a, e, hae, rfl, rfl⟩ := zSpan hl1 c2.1
          obtain ⟨b, e1, hbe, rfl, he1⟩ := zSpan hl2 c2.2
          rw [nI_clamp (by omega), nI_clamp (by omega), nI_clamp (by omega)]
          refine ok.putB ⟨hl2, fun z => absurd z (by decide)⟩ (fun k hk => ?_)
          unfold va_cpy
          by_cases d : b ≤ k ∧ k < b + e
          · rw [if_pos d, if_pos d]; exact ok.so h hh _ (by omega)
          · rw [if_neg d, if_neg d]; exact ok.so c hc k hk
        · rw [if_neg c2]; exact ok
      · rw [if_neg c1]; exact ok
    · rw [aIx_out ht]; exact ok
  · rw [aIx_out hx]; exact ok
end ZOK
/-- the one state that both objects hold -/
def zInv (M : zM) (A : aSt) : Prop := aOK A ∧ RelC M A ∧ RelM M A
section ZBOTH
variable {M M1 M2 : zM} {A : aSt}
theorem RelM.far (C : RelM M A) (h : ∀ k, 127 ≤ k → M1 k = M k) (u8 : A.u ≤ 8) : RelM M1 A := C.keep (fun j _ => by rw [h 128 (by omega)]) (fun j _ => by rw [h 127 (by omega)]) (fun k a => h k (by omega)) u8
theorem RelC.near (C : RelC M A) (h : ∀ k, k < 127 → M1 k = M k) : RelC M1 A := C.keep (fun k a => h k (by omega))
theorem both_s {res : aSt × Int32} {r1 r2 : Int32} (hok : aOK res.1) (q1 : zStp M res r1 M1) (q2 : zStpM M1 res r2 M2) : r1 = r2 ∧ zInv M2 res.1 := ⟨q1.1.trans q2.1.symm, hok, q1.2.1.near q2.2.2, q2.2.1⟩
theorem both_a {x r1 r2 : Int32} (hok : aOK A) (q1 : zAns M A x r1 M1) (q2 : zAnsM M1 A x r2 M2) : r1 = r2 ∧ zInv M2 A := ⟨q1.1.trans q2.1.symm, hok, q1.2.1.near q2.2.2, q2.2.1⟩
end ZBOTH
