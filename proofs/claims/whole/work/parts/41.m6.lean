/-! ===== the reference's own methods: falls ===== -/
def mG : Nat → Int64 → Int64 → Option Int64
  | 0, _, _ => none
  | k + 1, x, y => if lg_cmp y 0 = 0 then some x else mG k y (x - x / y * y)
def mW (q : Int32) (k : Nat) (ch : Int64) : Nat → Int64
  | 0 => ch
  | i + 1 => mW q k ch i * (if i < k then q.toInt64 else (10 - q).toInt64)
def mF (a : Nat) (q : Int32) (c : Nat) : Nat → Int64 × Int64 × Int64
  | 0 => (0, 0, 1)
  | k + 1 => ((mF a q c k).1 + (if k < c then 0 else mW q k (mF a q c k).2.2 a), (mF a q c k).2.1 + mW q k (mF a q c k).2.2 a, (mF a q c k).2.2 * (nI a - nI k).toInt64 / (nI (k + 1)).toInt64)
def oddsOK (a v c : Nat) : Bool := match mF a (nI v) c (a + 1) with
  | (x, y, _) => match mG 60 x y with
    | none => false
    | some d => decide (¬ d = 0) && (decide ((x / d).toInt32 = fOdds a (nI v) c 0) && decide ((y / d).toInt32 = fOdds a (nI v) c 1))
theorem odds_eq : ∀ a, a < 10 → ∀ v, v < 11 → ∀ c, c < 10 → oddsOK a v c = true := by decide +kernel
theorem odds_get {a v c : Nat} (ha : a < 10) (hv : v < 11) (hc : c < 10) : ∃ d, mG 60 (mF a (nI v) c (a + 1)).1 (mF a (nI v) c (a + 1)).2.1 = some d ∧ ¬ d = 0 ∧ ((mF a (nI v) c (a + 1)).1 / d).toInt32 = fOdds a (nI v) c 0 ∧ ((mF a (nI v) c (a + 1)).2.1 / d).toInt32 = fOdds a (nI v) c 1 := by
  have h := odds_eq a ha v hv c hc
  unfold oddsOK at h
  have h2 : (match mG 60 (mF a (nI v) c (a + 1)).1 (mF a (nI v) c (a + 1)).2.1 with
    | none => false
    | some d => decide (¬ d = 0) && (decide (((mF a (nI v) c (a + 1)).1 / d).toInt32 = fOdds a (nI v) c 0) && decide (((mF a (nI v) c (a + 1)).2.1 / d).toInt32 = fOdds a (nI v) c 1))) = true := h
  cases e : mG 60 (mF a (nI v) c (a + 1)).1 (mF a (nI v) c (a + 1)).2.1 with
  | none => rw [e] at h2; exact absurd (show false = true from h2) (by decide)
  | some d =>
    rw [e] at h2
    obtain ⟨h3, h4⟩ := Bool.and_eq_true_iff.mp h2
    obtain ⟨h5, h6⟩ := Bool.and_eq_true_iff.mp h4
    exact ⟨d, rfl, of_decide_eq_true h3, of_decide_eq_true h5, of_decide_eq_true h6⟩
theorem fOdds_p {a c : Nat} {q part : Int32} (hp : ¬ part = 0) : fOdds a q c part = fOdds a q c 1 := by
  unfold fOdds
  rw [if_neg hp, if_neg (by decide)]

set_option maxRecDepth 100000 in
set_option maxHeartbeats 4000000 in
theorem lp_gcd (g : zG) (l : Launch) {M : zM} {part : Int32} {a v c : Nat} {ab be d : Int64} (hd : ¬ d = 0) (e0 : (ab / d).toInt32 = fOdds a (nI v) c 0) (e1 : (be / d).toInt32 = fOdds a (nI v) c 1) : ∀ (k : Nat) (x y : Int64), mG k x y = some d → zA g l yX12_falls cX12_falls 17 (some .int) 1 0 0 (zQi (fun r' M' => r' = fOdds a (nI v) c part ∧ M' = M)) 163 0 0 S0 M [.ref 127, .int (nI a), .int (nI v), .int (nI c), .int part, .long ab, .null, .long be, .null, .null, .null, .long x, .null, .long y, .null, .null, .null] [] := by
  intro k
  induction k with
  | zero => intro x y w; exact absurd w (by show ¬ none = some d; intro z; cases z)
  | succ k ih =>
    intro x y w
    refine z_lload dX12_falls_163 rfl ?_
    refine z_lconst (v := 0) dX12_falls_165 (by decide) ?_
    refine z_lcmp dX12_falls_166 ?_
    refine z_if_eq (tgt := 188) dX12_falls_167 (by decide) (fun b167 => ?_) (fun b167 => ?_)
    · have w2 : some x = some d := by rw [← w]; exact (if_pos b167).symm
      have w3 : x = d := Option.some.inj w2
      subst w3
      refine z_iload dX12_falls_188 rfl ?_
      refine z_if_ne (tgt := 201) dX12_falls_190 (by decide) (fun b190 => ?_) (fun b190 => ?_)
      · refine z_lload dX12_falls_201 rfl ?_
        refine z_lload dX12_falls_203 rfl ?_
        refine z_ldiv dX12_falls_205 hd ?_
        refine z_l2i dX12_falls_206 ?_
        refine z_iret dX12_falls_207 rfl zle ?_
        first
          | exact ⟨by rw [b190]; exact e0, rfl⟩
          | exact ⟨by rw [fOdds_p b190]; exact e1, rfl⟩
      · refine z_lload dX12_falls_193 rfl ?_
        refine z_lload dX12_falls_195 rfl ?_
        refine z_ldiv dX12_falls_197 hd ?_
        refine z_goto (tgt := 206) dX12_falls_198 (by decide) ?_
        refine z_l2i dX12_falls_206 ?_
        refine z_iret dX12_falls_207 rfl zle ?_
        first
          | exact ⟨by rw [b190]; exact e0, rfl⟩
          | exact ⟨by rw [fOdds_p b190]; exact e1, rfl⟩
    · have w2 : mG k y (x - x / y * y) = some d := by rw [← w]; exact (if_neg b167).symm
      refine z_lload dX12_falls_170 rfl ?_
      refine z_lload dX12_falls_172 rfl ?_
      refine z_lrem dX12_falls_174 (fun z => b167 (by rw [z]; decide)) ?_
      refine z_lstore dX12_falls_175 (by decide) rfl rfl ?_
      refine z_lload dX12_falls_177 rfl ?_
      refine z_lstore dX12_falls_179 (by decide) rfl rfl ?_
      refine z_lload dX12_falls_181 rfl ?_
      refine z_lstore dX12_falls_183 (by decide) rfl rfl ?_
      refine z_goto (tgt := 163) dX12_falls_185 (by decide) ?_
      exact zA.sub (ih _ _ w2) rfl ⟨Or.inr rfl, Or.inr rfl, Or.inr rfl, Or.inr rfl, Or.inr rfl, Or.inr rfl, Or.inl rfl, Or.inr rfl, Or.inl rfl, Or.inl rfl, Or.inl rfl, Or.inr rfl, Or.inl rfl, Or.inr rfl, Or.inl rfl, Or.inl rfl, Or.inl rfl, trivial⟩

set_option maxRecDepth 100000 in
set_option maxHeartbeats 4000000 in
theorem lp_fallsIn (g : zG) (l : Launch) {M : zM} {part : Int32} {a v c k0 : Nat} (ha : a < 10) (hk : k0 ≤ a) (Kz : zA g l yX12_falls cX12_falls 17 (some .int) 1 0 0 (zQi (fun r' M' => r' = fOdds a (nI v) c part ∧ M' = M)) 109 0 0 S0 M [.ref 127, .int (nI a), .int (nI v), .int (nI c), .int part, .long (mF a (nI v) c k0).1, .null, .long (mF a (nI v) c k0).2.1, .null, .long (mF a (nI v) c k0).2.2, .null, .int (nI k0), .long (mW (nI v) k0 (mF a (nI v) c k0).2.2 a), .null, .int (nI a), .null, .null] []) : ∀ (k h : Nat), h ≤ a → a - h < k → zA g l yX12_falls cX12_falls 17 (some .int) 1 0 0 (zQi (fun r' M' => r' = fOdds a (nI v) c part ∧ M' = M)) 75 0 0 S0 M [.ref 127, .int (nI a), .int (nI v), .int (nI c), .int part, .long (mF a (nI v) c k0).1, .null, .long (mF a (nI v) c k0).2.1, .null, .long (mF a (nI v) c k0).2.2, .null, .int (nI k0), .long (mW (nI v) k0 (mF a (nI v) c k0).2.2 h), .null, .int (nI h), .null, .null] [] := by
  intro k
  induction k with
  | zero => intro h hh hk; exact absurd hk (Nat.not_lt_zero _)
  | succ k ih =>
    intro h hh hk 
    refine z_iload dX12_falls_75 rfl ?_
    refine z_iload_n dX12_falls_77 rfl ?_
    refine z_icmp_ge (tgt := 109) dX12_falls_78 (by decide) (fun b78 => ?_) (fun b78 => ?_)
    · have e : a ≤ h := (nI_leI (by omega) (by omega)).mp b78
      have e2 : h = a := by omega
      subst e2
      exact Kz
    · have hn : h < a := by
        rcases Nat.lt_or_ge h a with z | z
        · exact z
        · exact absurd (nI_le z (by omega)) b78
      refine z_lload dX12_falls_81 rfl ?_
      refine z_iload dX12_falls_83 rfl ?_
      refine z_iload dX12_falls_85 rfl ?_
      refine z_icmp_ge (tgt := 95) dX12_falls_87 (by decide) (fun b87 => ?_) (fun b87 => ?_)
      · refine z_bipush (v := 10) dX12_falls_95 (by decide) ?_
        refine z_iload_n dX12_falls_97 rfl ?_
        refine z_isub dX12_falls_98 ?_
        refine z_i2l dX12_falls_99 ?_
        refine z_lmul dX12_falls_100 ?_
        refine z_lstore dX12_falls_101 (by decide) rfl rfl ?_
        refine z_iincN (k := h) dX12_falls_103 rfl rfl (by decide) rfl rfl ?_
        refine z_goto (tgt := 75) dX12_falls_106 (by decide) ?_
        first
          | exact zA.sub (ih (h + 1) (by omega) (by omega)) rfl ⟨Or.inr rfl, Or.inr rfl, Or.inr rfl, Or.inr rfl, Or.inr rfl, Or.inr rfl, Or.inl rfl, Or.inr rfl, Or.inl rfl, Or.inr rfl, Or.inl rfl, Or.inr rfl, Or.inr (congrArg (fun z => some (Value.long z)) (congrArg (fun z => mW (nI v) k0 (mF a (nI v) c k0).2.2 h * z) (if_neg (fun z => absurd ((nI_leI (by omega) (by omega)).mp b87) (by omega))).symm)), Or.inl rfl, Or.inr rfl, Or.inl rfl, Or.inl rfl, trivial⟩
          | exact zA.sub (ih (h + 1) (by omega) (by omega)) rfl ⟨Or.inr rfl, Or.inr rfl, Or.inr rfl, Or.inr rfl, Or.inr rfl, Or.inr rfl, Or.inl rfl, Or.inr rfl, Or.inl rfl, Or.inr rfl, Or.inl rfl, Or.inr rfl, Or.inr (congrArg (fun z => some (Value.long z)) (congrArg (fun z => mW (nI v) k0 (mF a (nI v) c k0).2.2 h * z) (if_pos (Nat.lt_of_not_le (fun z => b87 ((nI_leI (by omega) (by omega)).mpr z)))).symm)), Or.inl rfl, Or.inr rfl, Or.inl rfl, Or.inl rfl, trivial⟩
      · refine z_iload_n dX12_falls_90 rfl ?_
        refine z_i2l dX12_falls_91 ?_
        refine z_goto (tgt := 100) dX12_falls_92 (by decide) ?_
        refine z_lmul dX12_falls_100 ?_
        refine z_lstore dX12_falls_101 (by decide) rfl rfl ?_
        refine z_iincN (k := h) dX12_falls_103 rfl rfl (by decide) rfl rfl ?_
        refine z_goto (tgt := 75) dX12_falls_106 (by decide) ?_
        first
          | exact zA.sub (ih (h + 1) (by omega) (by omega)) rfl ⟨Or.inr rfl, Or.inr rfl, Or.inr rfl, Or.inr rfl, Or.inr rfl, Or.inr rfl, Or.inl rfl, Or.inr rfl, Or.inl rfl, Or.inr rfl, Or.inl rfl, Or.inr rfl, Or.inr (congrArg (fun z => some (Value.long z)) (congrArg (fun z => mW (nI v) k0 (mF a (nI v) c k0).2.2 h * z) (if_neg (fun z => absurd ((nI_leI (by omega) (by omega)).mp b87) (by omega))).symm)), Or.inl rfl, Or.inr rfl, Or.inl rfl, Or.inl rfl, trivial⟩
          | exact zA.sub (ih (h + 1) (by omega) (by omega)) rfl ⟨Or.inr rfl, Or.inr rfl, Or.inr rfl, Or.inr rfl, Or.inr rfl, Or.inr rfl, Or.inl rfl, Or.inr rfl, Or.inl rfl, Or.inr rfl, Or.inl rfl, Or.inr rfl, Or.inr (congrArg (fun z => some (Value.long z)) (congrArg (fun z => mW (nI v) k0 (mF a (nI v) c k0).2.2 h * z) (if_pos (Nat.lt_of_not_le (fun z => b87 ((nI_leI (by omega) (by omega)).mpr z)))).symm)), Or.inl rfl, Or.inr rfl, Or.inl rfl, Or.inl rfl, trivial⟩

set_option maxRecDepth 100000 in
set_option maxHeartbeats 4000000 in
theorem lp_falls (g : zG) (l : Launch) {M : zM} {part : Int32} {a v c : Nat} (ha : a < 10) (hv : v < 11) (hc : c < 10) : ∀ (k h : Nat), h ≤ (a + 1) → (a + 1) - h < k → zA g l yX12_falls cX12_falls 17 (some .int) 1 0 0 (zQi (fun r' M' => r' = fOdds a (nI v) c part ∧ M' = M)) 62 0 0 S0 M [.ref 127, .int (nI a), .int (nI v), .int (nI c), .int part, .long (mF a (nI v) c h).1, .null, .long (mF a (nI v) c h).2.1, .null, .long (mF a (nI v) c h).2.2, .null, .int (nI h), .null, .null, .null, .null, .null] [] := by
  obtain ⟨d, d1, d2, d3, d4⟩ := odds_get ha hv hc
  intro k
  induction k with
  | zero => intro h hh hk; exact absurd hk (Nat.not_lt_zero _)
  | succ k ih =>
    intro h hh hk 
    refine z_iload dX12_falls_62 rfl ?_
    refine z_iload_n dX12_falls_64 rfl ?_
    refine z_icmp_gt (tgt := 155) dX12_falls_65 (by decide) (fun b65 => ?_) (fun b65 => ?_)
    · have e2 : h = a + 1 := by have := (nI_ltI (a := a) (b := h) (by omega) (by omega)).mp b65; omega
      subst e2
      refine z_lload dX12_falls_155 rfl ?_
      refine z_lstore dX12_falls_157 (by decide) rfl rfl ?_
      refine z_lload dX12_falls_159 rfl ?_
      refine z_lstore dX12_falls_161 (by decide) rfl rfl ?_
      exact zA.sub (lp_gcd g l d2 d3 d4 60 _ _ d1) rfl ⟨Or.inr rfl, Or.inr rfl, Or.inr rfl, Or.inr rfl, Or.inr rfl, Or.inr rfl, Or.inl rfl, Or.inr rfl, Or.inl rfl, Or.inl rfl, Or.inl rfl, Or.inr rfl, Or.inl rfl, Or.inr rfl, Or.inl rfl, Or.inl rfl, Or.inl rfl, trivial⟩
    · have hn : h ≤ a := by
        rcases Nat.lt_or_ge a h with z | z
        · exact absurd ((nI_ltI (a := a) (b := h) (by omega) (by omega)).mpr z) b65
        · exact z
      refine z_lload dX12_falls_68 rfl ?_
      refine z_lstore dX12_falls_70 (by decide) rfl rfl ?_
      refine z_iconst (v := 0) dX12_falls_72 (by decide) ?_
      refine z_istore dX12_falls_73 (by decide) rfl rfl ?_
      refine lp_fallsIn g l ha (by omega) ?_ (a + 1) 0 (Nat.zero_le _) (by omega)
      refine z_lload dX12_falls_109 rfl ?_
      refine z_iload dX12_falls_111 rfl ?_
      refine z_iload_n dX12_falls_113 rfl ?_
      refine z_icmp_ge (tgt := 121) dX12_falls_114 (by decide) (fun b114 => ?_) (fun b114 => ?_)
      · refine z_lload dX12_falls_121 rfl ?_
        refine z_ladd dX12_falls_123 ?_
        refine z_lstore dX12_falls_124 (by decide) rfl rfl ?_
        refine z_lload dX12_falls_126 rfl ?_
        refine z_lload dX12_falls_128 rfl ?_
        refine z_ladd dX12_falls_130 ?_
        refine z_lstore dX12_falls_131 (by decide) rfl rfl ?_
        refine z_lload dX12_falls_133 rfl ?_
        refine z_iload_n dX12_falls_135 rfl ?_
        refine z_iload dX12_falls_136 rfl ?_
        refine z_isub dX12_falls_138 ?_
        refine z_i2l dX12_falls_139 ?_
        refine z_lmul dX12_falls_140 ?_
        refine z_iload dX12_falls_141 rfl ?_
        refine z_iconst (v := 1) dX12_falls_143 (by decide) ?_
        refine z_iaddN (a := h) (b := 1) rfl rfl dX12_falls_144 ?_
        refine z_i2l dX12_falls_145 ?_
        refine z_ldiv dX12_falls_146 (by rw [← nI_1]; exact fWays_ne (by omega)) ?_
        refine z_lstore dX12_falls_147 (by decide) rfl rfl ?_
        refine z_iincN (k := h) dX12_falls_149 rfl rfl (by decide) rfl rfl ?_
        refine z_goto (tgt := 62) dX12_falls_152 (by decide) ?_
        first
          | exact zA.sub (ih (h + 1) (by omega) (by omega)) rfl ⟨Or.inr rfl, Or.inr rfl, Or.inr rfl, Or.inr rfl, Or.inr rfl, Or.inr (congrArg (fun z => some (Value.long z)) (congrArg (fun z => (mF a (nI v) c h).1 + z) (if_neg (fun z => absurd ((nI_leI (by omega) (by omega)).mp b114) (by omega))).symm)), Or.inl rfl, Or.inr rfl, Or.inl rfl, Or.inr rfl, Or.inl rfl, Or.inr rfl, Or.inl rfl, Or.inl rfl, Or.inl rfl, Or.inl rfl, Or.inl rfl, trivial⟩
          | exact zA.sub (ih (h + 1) (by omega) (by omega)) rfl ⟨Or.inr rfl, Or.inr rfl, Or.inr rfl, Or.inr rfl, Or.inr rfl, Or.inr (congrArg (fun z => some (Value.long z)) (congrArg (fun z => (mF a (nI v) c h).1 + z) (if_pos (Nat.lt_of_not_le (fun z => b114 ((nI_leI (by omega) (by omega)).mpr z)))).symm)), Or.inl rfl, Or.inr rfl, Or.inl rfl, Or.inr rfl, Or.inl rfl, Or.inr rfl, Or.inl rfl, Or.inl rfl, Or.inl rfl, Or.inl rfl, Or.inl rfl, trivial⟩
      · refine z_lconst (v := 0) dX12_falls_117 (by decide) ?_
        refine z_goto (tgt := 123) dX12_falls_118 (by decide) ?_
        refine z_ladd dX12_falls_123 ?_
        refine z_lstore dX12_falls_124 (by decide) rfl rfl ?_
        refine z_lload dX12_falls_126 rfl ?_
        refine z_lload dX12_falls_128 rfl ?_
        refine z_ladd dX12_falls_130 ?_
        refine z_lstore dX12_falls_131 (by decide) rfl rfl ?_
        refine z_lload dX12_falls_133 rfl ?_
        refine z_iload_n dX12_falls_135 rfl ?_
        refine z_iload dX12_falls_136 rfl ?_
        refine z_isub dX12_falls_138 ?_
        refine z_i2l dX12_falls_139 ?_
        refine z_lmul dX12_falls_140 ?_
        refine z_iload dX12_falls_141 rfl ?_
        refine z_iconst (v := 1) dX12_falls_143 (by decide) ?_
        refine z_iaddN (a := h) (b := 1) rfl rfl dX12_falls_144 ?_
        refine z_i2l dX12_falls_145 ?_
        refine z_ldiv dX12_falls_146 (by rw [← nI_1]; exact fWays_ne (by omega)) ?_
        refine z_lstore dX12_falls_147 (by decide) rfl rfl ?_
        refine z_iincN (k := h) dX12_falls_149 rfl rfl (by decide) rfl rfl ?_
        refine z_goto (tgt := 62) dX12_falls_152 (by decide) ?_
        first
          | exact zA.sub (ih (h + 1) (by omega) (by omega)) rfl ⟨Or.inr rfl, Or.inr rfl, Or.inr rfl, Or.inr rfl, Or.inr rfl, Or.inr (congrArg (fun z => some (Value.long z)) (congrArg (fun z => (mF a (nI v) c h).1 + z) (if_neg (fun z => absurd ((nI_leI (by omega) (by omega)).mp b114) (by omega))).symm)), Or.inl rfl, Or.inr rfl, Or.inl rfl, Or.inr rfl, Or.inl rfl, Or.inr rfl, Or.inl rfl, Or.inl rfl, Or.inl rfl, Or.inl rfl, Or.inl rfl, trivial⟩
          | exact zA.sub (ih (h + 1) (by omega) (by omega)) rfl ⟨Or.inr rfl, Or.inr rfl, Or.inr rfl, Or.inr rfl, Or.inr rfl, Or.inr (congrArg (fun z => some (Value.long z)) (congrArg (fun z => (mF a (nI v) c h).1 + z) (if_pos (Nat.lt_of_not_le (fun z => b114 ((nI_leI (by omega) (by omega)).mpr z)))).symm)), Or.inl rfl, Or.inr rfl, Or.inl rfl, Or.inr rfl, Or.inl rfl, Or.inr rfl, Or.inl rfl, Or.inl rfl, Or.inl rfl, Or.inl rfl, Or.inl rfl, trivial⟩

set_option maxRecDepth 100000 in
set_option maxHeartbeats 4000000 in
theorem c_X12_falls (g : zG) (l : Launch) {M : zM} {A : aSt} (ok : aOK A) (C : RelM M A) {x q m part : Int32} : zMet g l yX12_falls cX12_falls 17 (some .int) 1 0 0 [.ref 127, .int x, .int q, .int m, .int part] S0 M (zQi (fun r' M' => zAnsM M A (aFalls x q m part) r' M')) := by
  have n8 : A.n ≤ 8 := ok.s.1.1
  have r4 : A.r ≤ 4 := ok.s.1.2.1
  have i6 : A.i ≤ 6 := ok.s.1.2.2.1
  have u8 : A.u ≤ 8 := ok.u
  refine zMet.of (by decide) (Nat.le_of_ble_eq_true rfl) ?_
  refine z_iload_n dX12_falls_0 rfl ?_
  refine z_i2l dX12_falls_1 ?_
  refine z_lconst (v := 0) dX12_falls_2 (by decide) ?_
  refine z_ldc2 lc_X12_264 dX12_falls_3 ?_
  refine z_iS3 (c_X12_in g l) mw_X12_in lm_X12_79 ms_X12_in (by decide) (Nat.le_of_ble_eq_true rfl) zle dX12_falls_6 (fun r6 M6 q6 => ?_)
  obtain ⟨qm, qr⟩ := q6
  obtain rfl := qm.symm
  rcases qr with ⟨c6, rfl⟩ | ⟨c6, rfl⟩
  · have d6 := (l_inn (a := 0) (z := 9) (by decide) (by decide)).mp c6
    refine z_if_eq (tgt := 47) dX12_falls_9 (by decide) (fun b9 => ?_) (fun b9 => ?_)
    · exact absurd b9 (by decide)
    · refine z_iload_n dX12_falls_12 rfl ?_
      refine z_i2l dX12_falls_13 ?_
      refine z_lconst (v := 0) dX12_falls_14 (by decide) ?_
      refine z_ldc2 lc_X12_266 dX12_falls_15 ?_
      refine z_iS3 (c_X12_in g l) mw_X12_in lm_X12_79 ms_X12_in (by decide) (Nat.le_of_ble_eq_true rfl) zle dX12_falls_18 (fun r18 M18 q18 => ?_)
      obtain ⟨qm, qr⟩ := q18
      obtain rfl := qm.symm
      rcases qr with ⟨c18, rfl⟩ | ⟨c18, rfl⟩
      · have d18 := (l_inn (a := 0) (z := 10) (by decide) (by decide)).mp c18
        refine z_if_eq (tgt := 47) dX12_falls_21 (by decide) (fun b21 => ?_) (fun b21 => ?_)
        · exact absurd b21 (by decide)
        · refine z_iload_n dX12_falls_24 rfl ?_
          refine z_i2l dX12_falls_25 ?_
          refine z_lconst (v := 0) dX12_falls_26 (by decide) ?_
          refine z_ldc2 lc_X12_264 dX12_falls_27 ?_
          refine z_iS3 (c_X12_in g l) mw_X12_in lm_X12_79 ms_X12_in (by decide) (Nat.le_of_ble_eq_true rfl) zle dX12_falls_30 (fun r30 M30 q30 => ?_)
          obtain ⟨qm, qr⟩ := q30
          obtain rfl := qm.symm
          rcases qr with ⟨c30, rfl⟩ | ⟨c30, rfl⟩
          · have d30 := (l_inn (a := 0) (z := 9) (by decide) (by decide)).mp c30
            refine z_if_eq (tgt := 47) dX12_falls_33 (by decide) (fun b33 => ?_) (fun b33 => ?_)
            · exact absurd b33 (by decide)
            · refine z_iload dX12_falls_36 rfl ?_
              refine z_i2l dX12_falls_38 ?_
              refine z_lconst (v := 0) dX12_falls_39 (by decide) ?_
              refine z_lconst (v := 1) dX12_falls_40 (by decide) ?_
              refine z_iS3 (c_X12_in g l) mw_X12_in lm_X12_79 ms_X12_in (by decide) (Nat.le_of_ble_eq_true rfl) zle dX12_falls_41 (fun r41 M41 q41 => ?_)
              obtain ⟨qm, qr⟩ := q41
              obtain rfl := qm.symm
              rcases qr with ⟨c41, rfl⟩ | ⟨c41, rfl⟩
              · have d41 := (l_inn (a := 0) (z := 1) (by decide) (by decide)).mp c41
                refine z_if_ne (tgt := 50) dX12_falls_44 (by decide) (fun b44 => ?_) (fun b44 => ?_)
                · have hb : ¬ ((x < 0 ∨ 9 < x) ∨ (q < 0 ∨ 10 < q) ∨ (m < 0 ∨ 9 < m) ∨ (part < 0 ∨ 1 < part)) := fun z => z.elim (fun z => z.elim (Int32.not_lt.mpr d6.1) (Int32.not_lt.mpr d6.2)) (fun z => z.elim (fun z => z.elim (Int32.not_lt.mpr d18.1) (Int32.not_lt.mpr d18.2)) (fun z => z.elim (fun z => z.elim (Int32.not_lt.mpr d30.1) (Int32.not_lt.mpr d30.2)) (fun z => z.elim (Int32.not_lt.mpr d41.1) (Int32.not_lt.mpr d41.2))))
                  obtain ⟨u, hu1, hu2, rfl⟩ := (zIdx x (a := 0) (c := 9) (by omega) (by omega)).resolve_right (fun z => hb (Or.inl z))
                  obtain ⟨v, hv1, hv2, rfl⟩ := (zIdx q (a := 0) (c := 10) (by omega) (by omega)).resolve_right (fun z => hb (Or.inr (Or.inl z)))
                  obtain ⟨c, hc1, hc2, rfl⟩ := (zIdx m (a := 0) (c := 9) (by omega) (by omega)).resolve_right (fun z => hb (Or.inr (Or.inr (Or.inl z))))
                  refine z_lconst (v := 0) dX12_falls_50 (by decide) ?_
                  refine z_lstore dX12_falls_51 (by decide) rfl rfl ?_
                  refine z_lconst (v := 0) dX12_falls_53 (by decide) ?_
                  refine z_lstore dX12_falls_54 (by decide) rfl rfl ?_
                  refine z_lconst (v := 1) dX12_falls_56 (by decide) ?_
                  refine z_lstore dX12_falls_57 (by decide) rfl rfl ?_
                  refine z_iconst (v := 0) dX12_falls_59 (by decide) ?_
                  refine z_istore dX12_falls_60 (by decide) rfl rfl ?_
                  refine (zA.sub (lp_falls g l (a := u) (v := v) (c := c) (by omega) (by omega) (by omega) (u + 2) 0 (Nat.zero_le _) (by omega)) rfl ⟨Or.inr rfl, Or.inr rfl, Or.inr rfl, Or.inr rfl, Or.inr rfl, Or.inr rfl, Or.inl rfl, Or.inr rfl, Or.inl rfl, Or.inr rfl, Or.inl rfl, Or.inr rfl, Or.inl rfl, Or.inl rfl, Or.inl rfl, Or.inl rfl, Or.inl rfl, trivial⟩).weak (fun v S2 M2 q => ?_)
                  obtain ⟨qa, rr, qb, qc, qd⟩ := q
                  obtain rfl := qd.symm
                  exact ⟨qa, rr, qb, zAnsM.of C (by rw [qc]; unfold aFalls; rw [if_neg hb, nI_clamp (by omega), nI_clamp (by omega)])⟩
                · exact absurd b44 (by decide)
              · have d41 := fun z => c41 ((l_inn (a := 0) (z := 1) (by decide) (by decide)).mpr z)
                refine z_if_ne (tgt := 50) dX12_falls_44 (by decide) (fun b44 => ?_) (fun b44 => ?_)
                · exact absurd b44 (by decide)
                · refine z_bipush (v := (-3)) dX12_falls_47 (by decide) ?_
                  refine z_iret dX12_falls_49 rfl zle ?_
                  have hb : (x < 0 ∨ 9 < x) ∨ (q < 0 ∨ 10 < q) ∨ (m < 0 ∨ 9 < m) ∨ (part < 0 ∨ 1 < part) := by
                    first
                    | exact Or.inr (Or.inr (Or.inr (by by_cases z : part < 0; exact Or.inl z; exact Or.inr (Int32.not_le.mp (fun z2 => d41 ⟨Int32.not_lt.mp z, z2⟩)))))
                    | exact Or.inr (Or.inr (Or.inl (by by_cases z : m < 0; exact Or.inl z; exact Or.inr (Int32.not_le.mp (fun z2 => d30 ⟨Int32.not_lt.mp z, z2⟩)))))
                    | exact Or.inr (Or.inl (by by_cases z : q < 0; exact Or.inl z; exact Or.inr (Int32.not_le.mp (fun z2 => d18 ⟨Int32.not_lt.mp z, z2⟩))))
                    | exact Or.inl (by by_cases z : x < 0; exact Or.inl z; exact Or.inr (Int32.not_le.mp (fun z2 => d6 ⟨Int32.not_lt.mp z, z2⟩)))
                  exact zAnsM.of C (by unfold aFalls; rw [if_pos hb])
          · have d30 := fun z => c30 ((l_inn (a := 0) (z := 9) (by decide) (by decide)).mpr z)
            refine z_if_eq (tgt := 47) dX12_falls_33 (by decide) (fun b33 => ?_) (fun b33 => ?_)
            · refine z_bipush (v := (-3)) dX12_falls_47 (by decide) ?_
              refine z_iret dX12_falls_49 rfl zle ?_
              have hb : (x < 0 ∨ 9 < x) ∨ (q < 0 ∨ 10 < q) ∨ (m < 0 ∨ 9 < m) ∨ (part < 0 ∨ 1 < part) := by
                first
                | exact Or.inr (Or.inr (Or.inr (by by_cases z : part < 0; exact Or.inl z; exact Or.inr (Int32.not_le.mp (fun z2 => d41 ⟨Int32.not_lt.mp z, z2⟩)))))
                | exact Or.inr (Or.inr (Or.inl (by by_cases z : m < 0; exact Or.inl z; exact Or.inr (Int32.not_le.mp (fun z2 => d30 ⟨Int32.not_lt.mp z, z2⟩)))))
                | exact Or.inr (Or.inl (by by_cases z : q < 0; exact Or.inl z; exact Or.inr (Int32.not_le.mp (fun z2 => d18 ⟨Int32.not_lt.mp z, z2⟩))))
                | exact Or.inl (by by_cases z : x < 0; exact Or.inl z; exact Or.inr (Int32.not_le.mp (fun z2 => d6 ⟨Int32.not_lt.mp z, z2⟩)))
              exact zAnsM.of C (by unfold aFalls; rw [if_pos hb])
            · exact absurd b33 (by decide)
      · have d18 := fun z => c18 ((l_inn (a := 0) (z := 10) (by decide) (by decide)).mpr z)
        refine z_if_eq (tgt := 47) dX12_falls_21 (by decide) (fun b21 => ?_) (fun b21 => ?_)
        · refine z_bipush (v := (-3)) dX12_falls_47 (by decide) ?_
          refine z_iret dX12_falls_49 rfl zle ?_
          have hb : (x < 0 ∨ 9 < x) ∨ (q < 0 ∨ 10 < q) ∨ (m < 0 ∨ 9 < m) ∨ (part < 0 ∨ 1 < part) := by
            first
            | exact Or.inr (Or.inr (Or.inr (by by_cases z : part < 0; exact Or.inl z; exact Or.inr (Int32.not_le.mp (fun z2 => d41 ⟨Int32.not_lt.mp z, z2⟩)))))
            | exact Or.inr (Or.inr (Or.inl (by by_cases z : m < 0; exact Or.inl z; exact Or.inr (Int32.not_le.mp (fun z2 => d30 ⟨Int32.not_lt.mp z, z2⟩)))))
            | exact Or.inr (Or.inl (by by_cases z : q < 0; exact Or.inl z; exact Or.inr (Int32.not_le.mp (fun z2 => d18 ⟨Int32.not_lt.mp z, z2⟩))))
            | exact Or.inl (by by_cases z : x < 0; exact Or.inl z; exact Or.inr (Int32.not_le.mp (fun z2 => d6 ⟨Int32.not_lt.mp z, z2⟩)))
          exact zAnsM.of C (by unfold aFalls; rw [if_pos hb])
        · exact absurd b21 (by decide)
  · have d6 := fun z => c6 ((l_inn (a := 0) (z := 9) (by decide) (by decide)).mpr z)
    refine z_if_eq (tgt := 47) dX12_falls_9 (by decide) (fun b9 => ?_) (fun b9 => ?_)
    · refine z_bipush (v := (-3)) dX12_falls_47 (by decide) ?_
      refine z_iret dX12_falls_49 rfl zle ?_
      have hb : (x < 0 ∨ 9 < x) ∨ (q < 0 ∨ 10 < q) ∨ (m < 0 ∨ 9 < m) ∨ (part < 0 ∨ 1 < part) := by
        first
        | exact Or.inr (Or.inr (Or.inr (by by_cases z : part < 0; exact Or.inl z; exact Or.inr (Int32.not_le.mp (fun z2 => d41 ⟨Int32.not_lt.mp z, z2⟩)))))
        | exact Or.inr (Or.inr (Or.inl (by by_cases z : m < 0; exact Or.inl z; exact Or.inr (Int32.not_le.mp (fun z2 => d30 ⟨Int32.not_lt.mp z, z2⟩)))))
        | exact Or.inr (Or.inl (by by_cases z : q < 0; exact Or.inl z; exact Or.inr (Int32.not_le.mp (fun z2 => d18 ⟨Int32.not_lt.mp z, z2⟩))))
        | exact Or.inl (by by_cases z : x < 0; exact Or.inl z; exact Or.inr (Int32.not_le.mp (fun z2 => d6 ⟨Int32.not_lt.mp z, z2⟩)))
      exact zAnsM.of C (by unfold aFalls; rw [if_pos hb])
    · exact absurd b9 (by decide)

