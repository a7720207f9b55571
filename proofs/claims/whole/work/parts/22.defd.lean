def dtab (c : Nat) : Bool := decide (¬ ((tvl 2 (c / 16)) >>> ((nI c &&& (15 : Int32)) &&& 31)) &&& (1 : Int32) = 0)
def ixd (c : Nat) : Bool := (decide (c / 16 % 16 = 6) || (decide (c / 16 % 16 = 10) || decide (c / 16 % 16 = 14))) || (decide (48 ≤ c) && decide (c ≤ 51))
def dfd (c q : Nat) : Bool := dtab c && (if ixd c = true then dpb q else if c = 30 ∨ c = 31 then dpr q else true)
theorem row_nI (c : Nat) (hc : c < 768) : (nI c >>> ((4 : Int32) &&& 31)) &&& (15 : Int32) = nI (c / 16 % 16) := by
  rw [show ((4 : Int32) &&& 31) = (nI 4 &&& 31) from rfl, shr_nI (by omega) (by decide), and15]
theorem c_isIx (s : CS) (c : Nat) (hc : c < 768) : tc_isIndexed s (nI c) = some (bI (ixd c), s) := by
  unfold tc_isIndexed
  rw [nm_d, row_nI c hc]
  have e6 : (nI (c / 16 % 16) = (6 : Int32)) ↔ c / 16 % 16 = 6 := nI_eq (b := 6) (by omega) (by decide)
  have e10 : (nI (c / 16 % 16) = (10 : Int32)) ↔ c / 16 % 16 = 10 := nI_eq (b := 10) (by omega) (by decide)
  have e14 : (nI (c / 16 % 16) = (14 : Int32)) ↔ c / 16 % 16 = 14 := nI_eq (b := 14) (by omega) (by decide)
  have l48 : (nI c < (48 : Int32)) ↔ ¬ 48 ≤ c := (nI_ltI (b := 48) (by omega) (by decide)).trans Nat.not_le.symm
  have l51 : ((51 : Int32) < nI c) ↔ ¬ c ≤ 51 := (nI_ltI (a := 51) (by decide) (by omega)).trans Nat.not_le.symm
  simp only [e6, e10, e14, l48, l51]
  unfold ixd
  by_cases h6 : c / 16 % 16 = 6
  · rw [if_pos h6, decide_eq_true h6]; rfl
  · rw [if_neg h6, decide_eq_false h6]
    by_cases h10 : c / 16 % 16 = 10
    · rw [if_pos h10, decide_eq_true h10]; rfl
    · rw [if_neg h10, decide_eq_false h10]
      by_cases h14 : c / 16 % 16 = 14
      · rw [if_pos h14, decide_eq_true h14]; rfl
      · rw [if_neg h14, decide_eq_false h14]
        by_cases h48 : 48 ≤ c
        · rw [if_neg (fun q => q h48), decide_eq_true h48]
          by_cases h51 : c ≤ 51
          · rw [if_neg (fun q => q h51), decide_eq_true h51]; rfl
          · rw [if_pos h51, decide_eq_false h51]; rfl
        · rw [if_pos h48, decide_eq_false h48]; rfl
theorem pdb1 : ∀ q, q < 256 → 128 ≤ q → ¬ q = 159 → nI q &&& (16 : Int32) = 0 → ((((15231 : Int32) >>> ((nI q &&& (15 : Int32)) &&& 31)) &&& (1 : Int32) = 0) ↔ dpb q = false) := by decide +kernel
theorem pdb2 : ∀ q, q < 256 → 128 ≤ q → ¬ q = 159 → ¬ nI q &&& (16 : Int32) = 0 → ((((15226 : Int32) >>> ((nI q &&& (15 : Int32)) &&& 31)) &&& (1 : Int32) = 0) ↔ dpb q = false) := by decide +kernel
theorem c_isPb (s : CS) (q : Nat) (hq : q < 256) : tc_isDefinedPostbyte s (nI q) = some (bI (dpb q), s) := by
  unfold tc_isDefinedPostbyte tc_isDefinedPostbyte_32
  have e1 : (nI q < (128 : Int32)) ↔ ¬ 128 ≤ q := lt128_iff q hq
  have e2 : (nI q = (159 : Int32)) ↔ q = 159 := nI_eq (b := 159) (by omega) (by decide)
  simp only [e1, e2]
  by_cases h1 : 128 ≤ q
  · rw [if_neg (fun z => z h1)]
    by_cases h2 : q = 159
    · rw [if_pos h2, h2]; rfl
    · rw [if_neg h2]
      by_cases h3 : nI q &&& (16 : Int32) = 0
      · rw [if_pos h3]
        simp only [pdb1 q hq h1 h2 h3]
        cases dpb q
        · rw [if_pos rfl]; rfl
        · rw [if_neg (by decide)]; rfl
      · rw [if_neg h3]
        simp only [pdb2 q hq h1 h2 h3]
        cases dpb q
        · rw [if_pos rfl]; rfl
        · rw [if_neg (by decide)]; rfl
  · rw [if_pos h1]
    have h : dpb q = true := by
      unfold dpb
      rw [decide_eq_true (show q < 128 by omega)]
      rfl
    rw [h]
    rfl
theorem tv3m : ∀ i, i < 16 → ((tvl 3 i = (-1 : Int32)) ↔ okN i = false) := by decide +kernel
theorem c_isPr (s : CS) (q : Nat) (hq : q < 256) : tc_isDefinedPair s (nI (q / 16)) (nI (q % 16)) = some (bI (dpr q), s) := by
  unfold tc_isDefinedPair tc_isDefinedPair_11 tc_isDefinedPair_22 tc_isDefinedPair_30 tc_isDefinedPair_57
  have i1 : q / 16 < 16 := by omega
  have i2 : q % 16 < 16 := by omega
  have e1 : ((8 : Int32) ≤ nI (q / 16)) ↔ ¬ q / 16 < 8 := (nI_leI (a := 8) (by decide) (by omega)).trans Nat.not_lt.symm
  have e2 : ((8 : Int32) ≤ nI (q % 16)) ↔ ¬ q % 16 < 8 := (nI_leI (a := 8) (by decide) (by omega)).trans Nat.not_lt.symm
  rw [show tln 3 = 16 from rfl, ok_nI i1 (by decide), ok_nI i2 (by decide), nI_clamp (by omega), nI_clamp (by omega)]
  simp only [gd_t, e1, e2, tv3m _ i1, tv3m _ i2]
  unfold dpr
  by_cases h1 : q / 16 < 8 <;> by_cases h2 : q % 16 < 8 <;> cases e3 : okN (q / 16) <;> cases e4 : okN (q % 16) <;> simp only [h1, h2, not_true, not_false_iff, if_true, if_false, decide_true, decide_false] <;> rfl
theorem c_isDef (a : AS) (c : Nat) (hc : c < 768) : tc_isDefined (mC a) (nI c) = some (bI (dfd c (fB a)), mC a) := by
  unfold tc_isDefined tc_isDefined_60
  have e4 : nI c >>> ((4 : Int32) &&& 31) = nI (c / 16) := shr_nI (k := 4) (by omega) (by decide)
  have e30 : (nI c = (30 : Int32)) ↔ c = 30 := nI_eq (b := 30) (by omega) (by decide)
  have e31 : (nI c = (31 : Int32)) ↔ c = 31 := nI_eq (b := 31) (by omega) (by decide)
  have e5 : nI (fB a) >>> ((4 : Int32) &&& 31) = nI (fB a / 16) := shr_nI (k := 4) (by have := fB_lt a; omega) (by decide)
  rw [e4, show tln 2 = 48 from rfl, ok_nI (show c / 16 < 48 by omega) (by decide), gd_t, nm_d, nI_clamp (by omega)]
  unfold dfd
  by_cases h : ((tvl 2 (c / 16)) >>> ((nI c &&& (15 : Int32)) &&& 31)) &&& (1 : Int32) = 0
  · have hd : dtab c = false := decide_eq_false (fun q => q h)
    rw [if_pos h, hd]
    rfl
  · have hd : dtab c = true := decide_eq_true h
    rw [if_neg h, hd, c_get6, bd_s, c_byteAt, bd_s, c_isIx _ c hc, bd_s, show nI (gM a (gR a 6 % 65536 % 4096) % 256) = nI (fB a) from rfl]
    simp only [e30, e31]
    cases hi : ixd c
    · rw [if_pos (show bI false = 0 from rfl), if_neg (show ¬ false = true by decide), e5, pb_15 _ (fB_lt a), c_isPr _ _ (fB_lt a), bd_s, isB_bI, gd_t]
      by_cases h30 : c = 30
      · rw [if_pos h30, if_pos (Or.inl h30)]; rfl
      · rw [if_neg h30]
        by_cases h31 : c = 31
        · rw [if_pos h31, if_pos (Or.inr h31)]; rfl
        · rw [if_neg h31, if_neg (fun q => q.elim h30 h31)]; rfl
    · rw [if_neg (show ¬ bI true = 0 by decide), if_pos rfl, c_isPb _ _ (fB_lt a), bd_s, isB_bI, gd_t]
      rfl
/-- what the two sides do with a code, defined or not -/
abbrev Both (a : AS) (b : Nat → Int32) (c : Nat) (x : Option (Int32 × CS)) (y : Option (Int32 × MS)) : Prop := (dfd c (fB a) = true → Rl PT b false x y) ∧ (dfd c (fB a) = false → Un a b y)
theorem dd_0_0 : ∀ m, m < 4 → dtab (128 + 16 * m) = true ∧ ixd (128 + 16 * m) = decide (m = 2) ∧ ¬ (128 + 16 * m = 30 ∨ 128 + 16 * m = 31) := by decide +kernel
theorem bo0_0 (a : AS) (b : Nat → Int32) (m : Nat) (hm : m < 4) : Both a b (128 + 16 * m) (tc_executeUpperHalf (mC a) (nI (128 + 16 * m))) (mo_upper (mM a b false) (nI (128 + 16 * m))) := by
  obtain ⟨d1, d2, d3⟩ := dd_0_0 m hm
  unfold Both dfd
  rw [d1, d2, if_neg d3]
  by_cases h2 : m = 2
  · subst h2
    refine ⟨fun q => ru0_0 a b 2 hm (fun _ => q), fun q => uu0_0 a b q⟩
  · rw [decide_eq_false h2]
    exact ⟨fun _ => ru0_0 a b m hm (fun q => absurd q h2), fun q => by cases q⟩
theorem dd_0_1 : ∀ m, m < 4 → dtab (129 + 16 * m) = true ∧ ixd (129 + 16 * m) = decide (m = 2) ∧ ¬ (129 + 16 * m = 30 ∨ 129 + 16 * m = 31) := by decide +kernel
theorem bo0_1 (a : AS) (b : Nat → Int32) (m : Nat) (hm : m < 4) : Both a b (129 + 16 * m) (tc_executeUpperHalf (mC a) (nI (129 + 16 * m))) (mo_upper (mM a b false) (nI (129 + 16 * m))) := by
  obtain ⟨d1, d2, d3⟩ := dd_0_1 m hm
  unfold Both dfd
  rw [d1, d2, if_neg d3]
  by_cases h2 : m = 2
  · subst h2
    refine ⟨fun q => ru0_1 a b 2 hm (fun _ => q), fun q => uu0_1 a b q⟩
  · rw [decide_eq_false h2]
    exact ⟨fun _ => ru0_1 a b m hm (fun q => absurd q h2), fun q => by cases q⟩
theorem dd_0_2 : ∀ m, m < 4 → dtab (130 + 16 * m) = true ∧ ixd (130 + 16 * m) = decide (m = 2) ∧ ¬ (130 + 16 * m = 30 ∨ 130 + 16 * m = 31) := by decide +kernel
theorem bo0_2 (a : AS) (b : Nat → Int32) (m : Nat) (hm : m < 4) : Both a b (130 + 16 * m) (tc_executeUpperHalf (mC a) (nI (130 + 16 * m))) (mo_upper (mM a b false) (nI (130 + 16 * m))) := by
  obtain ⟨d1, d2, d3⟩ := dd_0_2 m hm
  unfold Both dfd
  rw [d1, d2, if_neg d3]
  by_cases h2 : m = 2
  · subst h2
    refine ⟨fun q => ru0_2 a b 2 hm (fun _ => q), fun q => uu0_2 a b q⟩
  · rw [decide_eq_false h2]
    exact ⟨fun _ => ru0_2 a b m hm (fun q => absurd q h2), fun q => by cases q⟩
theorem dd_0_3 : ∀ m, m < 4 → dtab (131 + 16 * m) = true ∧ ixd (131 + 16 * m) = decide (m = 2) ∧ ¬ (131 + 16 * m = 30 ∨ 131 + 16 * m = 31) := by decide +kernel
theorem bo0_3 (a : AS) (b : Nat → Int32) (m : Nat) (hm : m < 4) : Both a b (131 + 16 * m) (tc_executeUpperHalf (mC a) (nI (131 + 16 * m))) (mo_upper (mM a b false) (nI (131 + 16 * m))) := by
  obtain ⟨d1, d2, d3⟩ := dd_0_3 m hm
  unfold Both dfd
  rw [d1, d2, if_neg d3]
  by_cases h2 : m = 2
  · subst h2
    refine ⟨fun q => ru0_3 a b 2 hm (fun _ => q), fun q => uu0_3 a b q⟩
  · rw [decide_eq_false h2]
    exact ⟨fun _ => ru0_3 a b m hm (fun q => absurd q h2), fun q => by cases q⟩
theorem dd_0_4 : ∀ m, m < 4 → dtab (132 + 16 * m) = true ∧ ixd (132 + 16 * m) = decide (m = 2) ∧ ¬ (132 + 16 * m = 30 ∨ 132 + 16 * m = 31) := by decide +kernel
theorem bo0_4 (a : AS) (b : Nat → Int32) (m : Nat) (hm : m < 4) : Both a b (132 + 16 * m) (tc_executeUpperHalf (mC a) (nI (132 + 16 * m))) (mo_upper (mM a b false) (nI (132 + 16 * m))) := by
  obtain ⟨d1, d2, d3⟩ := dd_0_4 m hm
  unfold Both dfd
  rw [d1, d2, if_neg d3]
  by_cases h2 : m = 2
  · subst h2
    refine ⟨fun q => ru0_4 a b 2 hm (fun _ => q), fun q => uu0_4 a b q⟩
  · rw [decide_eq_false h2]
    exact ⟨fun _ => ru0_4 a b m hm (fun q => absurd q h2), fun q => by cases q⟩
theorem dd_0_5 : ∀ m, m < 4 → dtab (133 + 16 * m) = true ∧ ixd (133 + 16 * m) = decide (m = 2) ∧ ¬ (133 + 16 * m = 30 ∨ 133 + 16 * m = 31) := by decide +kernel
theorem bo0_5 (a : AS) (b : Nat → Int32) (m : Nat) (hm : m < 4) : Both a b (133 + 16 * m) (tc_executeUpperHalf (mC a) (nI (133 + 16 * m))) (mo_upper (mM a b false) (nI (133 + 16 * m))) := by
  obtain ⟨d1, d2, d3⟩ := dd_0_5 m hm
  unfold Both dfd
  rw [d1, d2, if_neg d3]
  by_cases h2 : m = 2
  · subst h2
    refine ⟨fun q => ru0_5 a b 2 hm (fun _ => q), fun q => uu0_5 a b q⟩
  · rw [decide_eq_false h2]
    exact ⟨fun _ => ru0_5 a b m hm (fun q => absurd q h2), fun q => by cases q⟩
theorem dd_0_6 : ∀ m, m < 4 → dtab (134 + 16 * m) = true ∧ ixd (134 + 16 * m) = decide (m = 2) ∧ ¬ (134 + 16 * m = 30 ∨ 134 + 16 * m = 31) := by decide +kernel
theorem bo0_6 (a : AS) (b : Nat → Int32) (m : Nat) (hm : m < 4) : Both a b (134 + 16 * m) (tc_executeUpperHalf (mC a) (nI (134 + 16 * m))) (mo_upper (mM a b false) (nI (134 + 16 * m))) := by
  obtain ⟨d1, d2, d3⟩ := dd_0_6 m hm
  unfold Both dfd
  rw [d1, d2, if_neg d3]
  by_cases h2 : m = 2
  · subst h2
    refine ⟨fun q => ru0_6 a b 2 hm (fun _ => q), fun q => uu0_6 a b q⟩
  · rw [decide_eq_false h2]
    exact ⟨fun _ => ru0_6 a b m hm (fun q => absurd q h2), fun q => by cases q⟩
theorem dd_0_7 : ∀ m, m < 4 → dtab (135 + 16 * m) = decide (¬ m = 0) ∧ ixd (135 + 16 * m) = decide (m = 2) ∧ ¬ (135 + 16 * m = 30 ∨ 135 + 16 * m = 31) := by decide +kernel
theorem bo0_7 (a : AS) (b : Nat → Int32) (m : Nat) (hm : m < 4) : Both a b (135 + 16 * m) (tc_executeUpperHalf (mC a) (nI (135 + 16 * m))) (mo_upper (mM a b false) (nI (135 + 16 * m))) := by
  obtain ⟨d1, d2, d3⟩ := dd_0_7 m hm
  unfold Both dfd
  rw [d1, d2, if_neg d3]
  by_cases h0 : m = 0
  · subst h0
    exact ⟨fun q => (by cases q), fun _ => uz0_7 a b⟩
  · rw [decide_eq_true h0]
    by_cases h2 : m = 2
    · subst h2
      refine ⟨fun q => ru0_7 a b 2 hm h0 (fun _ => q), fun q => uu0_7 a b q⟩
    · rw [decide_eq_false h2]
      exact ⟨fun _ => ru0_7 a b m hm h0 (fun q => absurd q h2), fun q => by cases q⟩
theorem dd_0_8 : ∀ m, m < 4 → dtab (136 + 16 * m) = true ∧ ixd (136 + 16 * m) = decide (m = 2) ∧ ¬ (136 + 16 * m = 30 ∨ 136 + 16 * m = 31) := by decide +kernel
theorem bo0_8 (a : AS) (b : Nat → Int32) (m : Nat) (hm : m < 4) : Both a b (136 + 16 * m) (tc_executeUpperHalf (mC a) (nI (136 + 16 * m))) (mo_upper (mM a b false) (nI (136 + 16 * m))) := by
  obtain ⟨d1, d2, d3⟩ := dd_0_8 m hm
  unfold Both dfd
  rw [d1, d2, if_neg d3]
  by_cases h2 : m = 2
  · subst h2
    refine ⟨fun q => ru0_8 a b 2 hm (fun _ => q), fun q => uu0_8 a b q⟩
  · rw [decide_eq_false h2]
    exact ⟨fun _ => ru0_8 a b m hm (fun q => absurd q h2), fun q => by cases q⟩
theorem dd_0_9 : ∀ m, m < 4 → dtab (137 + 16 * m) = true ∧ ixd (137 + 16 * m) = decide (m = 2) ∧ ¬ (137 + 16 * m = 30 ∨ 137 + 16 * m = 31) := by decide +kernel
theorem bo0_9 (a : AS) (b : Nat → Int32) (m : Nat) (hm : m < 4) : Both a b (137 + 16 * m) (tc_executeUpperHalf (mC a) (nI (137 + 16 * m))) (mo_upper (mM a b false) (nI (137 + 16 * m))) := by
  obtain ⟨d1, d2, d3⟩ := dd_0_9 m hm
  unfold Both dfd
  rw [d1, d2, if_neg d3]
  by_cases h2 : m = 2
  · subst h2
    refine ⟨fun q => ru0_9 a b 2 hm (fun _ => q), fun q => uu0_9 a b q⟩
  · rw [decide_eq_false h2]
    exact ⟨fun _ => ru0_9 a b m hm (fun q => absurd q h2), fun q => by cases q⟩
theorem dd_0_10 : ∀ m, m < 4 → dtab (138 + 16 * m) = true ∧ ixd (138 + 16 * m) = decide (m = 2) ∧ ¬ (138 + 16 * m = 30 ∨ 138 + 16 * m = 31) := by decide +kernel
theorem bo0_10 (a : AS) (b : Nat → Int32) (m : Nat) (hm : m < 4) : Both a b (138 + 16 * m) (tc_executeUpperHalf (mC a) (nI (138 + 16 * m))) (mo_upper (mM a b false) (nI (138 + 16 * m))) := by
  obtain ⟨d1, d2, d3⟩ := dd_0_10 m hm
  unfold Both dfd
  rw [d1, d2, if_neg d3]
  by_cases h2 : m = 2
  · subst h2
    refine ⟨fun q => ru0_10 a b 2 hm (fun _ => q), fun q => uu0_10 a b q⟩
  · rw [decide_eq_false h2]
    exact ⟨fun _ => ru0_10 a b m hm (fun q => absurd q h2), fun q => by cases q⟩
theorem dd_0_11 : ∀ m, m < 4 → dtab (139 + 16 * m) = true ∧ ixd (139 + 16 * m) = decide (m = 2) ∧ ¬ (139 + 16 * m = 30 ∨ 139 + 16 * m = 31) := by decide +kernel
theorem bo0_11 (a : AS) (b : Nat → Int32) (m : Nat) (hm : m < 4) : Both a b (139 + 16 * m) (tc_executeUpperHalf (mC a) (nI (139 + 16 * m))) (mo_upper (mM a b false) (nI (139 + 16 * m))) := by
  obtain ⟨d1, d2, d3⟩ := dd_0_11 m hm
  unfold Both dfd
  rw [d1, d2, if_neg d3]
  by_cases h2 : m = 2
  · subst h2
    refine ⟨fun q => ru0_11 a b 2 hm (fun _ => q), fun q => uu0_11 a b q⟩
  · rw [decide_eq_false h2]
    exact ⟨fun _ => ru0_11 a b m hm (fun q => absurd q h2), fun q => by cases q⟩
theorem dd_0_12 : ∀ m, m < 4 → dtab (140 + 16 * m) = true ∧ ixd (140 + 16 * m) = decide (m = 2) ∧ ¬ (140 + 16 * m = 30 ∨ 140 + 16 * m = 31) := by decide +kernel
theorem bo0_12 (a : AS) (b : Nat → Int32) (m : Nat) (hm : m < 4) : Both a b (140 + 16 * m) (tc_executeUpperHalf (mC a) (nI (140 + 16 * m))) (mo_upper (mM a b false) (nI (140 + 16 * m))) := by
  obtain ⟨d1, d2, d3⟩ := dd_0_12 m hm
  unfold Both dfd
  rw [d1, d2, if_neg d3]
  by_cases h2 : m = 2
  · subst h2
    refine ⟨fun q => ru0_12 a b 2 hm (fun _ => q), fun q => uu0_12 a b q⟩
  · rw [decide_eq_false h2]
    exact ⟨fun _ => ru0_12 a b m hm (fun q => absurd q h2), fun q => by cases q⟩
theorem dd_0_13 : ∀ m, m < 4 → dtab (141 + 16 * m) = true ∧ ixd (141 + 16 * m) = decide (m = 2) ∧ ¬ (141 + 16 * m = 30 ∨ 141 + 16 * m = 31) := by decide +kernel
theorem bo0_13 (a : AS) (b : Nat → Int32) (m : Nat) (hm : m < 4) : Both a b (141 + 16 * m) (tc_executeUpperHalf (mC a) (nI (141 + 16 * m))) (mo_upper (mM a b false) (nI (141 + 16 * m))) := by
  obtain ⟨d1, d2, d3⟩ := dd_0_13 m hm
  unfold Both dfd
  rw [d1, d2, if_neg d3]
  by_cases h2 : m = 2
  · subst h2
    refine ⟨fun q => ru0_13 a b 2 hm (fun _ => q), fun q => uu0_13 a b q⟩
  · rw [decide_eq_false h2]
    exact ⟨fun _ => ru0_13 a b m hm (fun q => absurd q h2), fun q => by cases q⟩
theorem dd_0_14 : ∀ m, m < 4 → dtab (142 + 16 * m) = true ∧ ixd (142 + 16 * m) = decide (m = 2) ∧ ¬ (142 + 16 * m = 30 ∨ 142 + 16 * m = 31) := by decide +kernel
theorem bo0_14 (a : AS) (b : Nat → Int32) (m : Nat) (hm : m < 4) : Both a b (142 + 16 * m) (tc_executeUpperHalf (mC a) (nI (142 + 16 * m))) (mo_upper (mM a b false) (nI (142 + 16 * m))) := by
  obtain ⟨d1, d2, d3⟩ := dd_0_14 m hm
  unfold Both dfd
  rw [d1, d2, if_neg d3]
  by_cases h2 : m = 2
  · subst h2
    refine ⟨fun q => ru0_14 a b 2 hm (fun _ => q), fun q => uu0_14 a b q⟩
  · rw [decide_eq_false h2]
    exact ⟨fun _ => ru0_14 a b m hm (fun q => absurd q h2), fun q => by cases q⟩
theorem dd_0_15 : ∀ m, m < 4 → dtab (143 + 16 * m) = decide (¬ m = 0) ∧ ixd (143 + 16 * m) = decide (m = 2) ∧ ¬ (143 + 16 * m = 30 ∨ 143 + 16 * m = 31) := by decide +kernel
theorem bo0_15 (a : AS) (b : Nat → Int32) (m : Nat) (hm : m < 4) : Both a b (143 + 16 * m) (tc_executeUpperHalf (mC a) (nI (143 + 16 * m))) (mo_upper (mM a b false) (nI (143 + 16 * m))) := by
  obtain ⟨d1, d2, d3⟩ := dd_0_15 m hm
  unfold Both dfd
  rw [d1, d2, if_neg d3]
  by_cases h0 : m = 0
  · subst h0
    exact ⟨fun q => (by cases q), fun _ => uz0_15 a b⟩
  · rw [decide_eq_true h0]
    by_cases h2 : m = 2
    · subst h2
      refine ⟨fun q => ru0_15 a b 2 hm h0 (fun _ => q), fun q => uu0_15 a b q⟩
    · rw [decide_eq_false h2]
      exact ⟨fun _ => ru0_15 a b m hm h0 (fun q => absurd q h2), fun q => by cases q⟩
theorem dd_1_0 : ∀ m, m < 4 → dtab (192 + 16 * m) = true ∧ ixd (192 + 16 * m) = decide (m = 2) ∧ ¬ (192 + 16 * m = 30 ∨ 192 + 16 * m = 31) := by decide +kernel
theorem bo1_0 (a : AS) (b : Nat → Int32) (m : Nat) (hm : m < 4) : Both a b (192 + 16 * m) (tc_executeUpperHalf (mC a) (nI (192 + 16 * m))) (mo_upper (mM a b false) (nI (192 + 16 * m))) := by
  obtain ⟨d1, d2, d3⟩ := dd_1_0 m hm
  unfold Both dfd
  rw [d1, d2, if_neg d3]
  by_cases h2 : m = 2
  · subst h2
    refine ⟨fun q => ru1_0 a b 2 hm (fun _ => q), fun q => uu1_0 a b q⟩
  · rw [decide_eq_false h2]
    exact ⟨fun _ => ru1_0 a b m hm (fun q => absurd q h2), fun q => by cases q⟩
theorem dd_1_1 : ∀ m, m < 4 → dtab (193 + 16 * m) = true ∧ ixd (193 + 16 * m) = decide (m = 2) ∧ ¬ (193 + 16 * m = 30 ∨ 193 + 16 * m = 31) := by decide +kernel
theorem bo1_1 (a : AS) (b : Nat → Int32) (m : Nat) (hm : m < 4) : Both a b (193 + 16 * m) (tc_executeUpperHalf (mC a) (nI (193 + 16 * m))) (mo_upper (mM a b false) (nI (193 + 16 * m))) := by
  obtain ⟨d1, d2, d3⟩ := dd_1_1 m hm
  unfold Both dfd
  rw [d1, d2, if_neg d3]
  by_cases h2 : m = 2
  · subst h2
    refine ⟨fun q => ru1_1 a b 2 hm (fun _ => q), fun q => uu1_1 a b q⟩
  · rw [decide_eq_false h2]
    exact ⟨fun _ => ru1_1 a b m hm (fun q => absurd q h2), fun q => by cases q⟩
theorem dd_1_2 : ∀ m, m < 4 → dtab (194 + 16 * m) = true ∧ ixd (194 + 16 * m) = decide (m = 2) ∧ ¬ (194 + 16 * m = 30 ∨ 194 + 16 * m = 31) := by decide +kernel
theorem bo1_2 (a : AS) (b : Nat → Int32) (m : Nat) (hm : m < 4) : Both a b (194 + 16 * m) (tc_executeUpperHalf (mC a) (nI (194 + 16 * m))) (mo_upper (mM a b false) (nI (194 + 16 * m))) := by
  obtain ⟨d1, d2, d3⟩ := dd_1_2 m hm
  unfold Both dfd
  rw [d1, d2, if_neg d3]
  by_cases h2 : m = 2
  · subst h2
    refine ⟨fun q => ru1_2 a b 2 hm (fun _ => q), fun q => uu1_2 a b q⟩
  · rw [decide_eq_false h2]
    exact ⟨fun _ => ru1_2 a b m hm (fun q => absurd q h2), fun q => by cases q⟩
theorem dd_1_3 : ∀ m, m < 4 → dtab (195 + 16 * m) = true ∧ ixd (195 + 16 * m) = decide (m = 2) ∧ ¬ (195 + 16 * m = 30 ∨ 195 + 16 * m = 31) := by decide +kernel
theorem bo1_3 (a : AS) (b : Nat → Int32) (m : Nat) (hm : m < 4) : Both a b (195 + 16 * m) (tc_executeUpperHalf (mC a) (nI (195 + 16 * m))) (mo_upper (mM a b false) (nI (195 + 16 * m))) := by
  obtain ⟨d1, d2, d3⟩ := dd_1_3 m hm
  unfold Both dfd
  rw [d1, d2, if_neg d3]
  by_cases h2 : m = 2
  · subst h2
    refine ⟨fun q => ru1_3 a b 2 hm (fun _ => q), fun q => uu1_3 a b q⟩
  · rw [decide_eq_false h2]
    exact ⟨fun _ => ru1_3 a b m hm (fun q => absurd q h2), fun q => by cases q⟩
theorem dd_1_4 : ∀ m, m < 4 → dtab (196 + 16 * m) = true ∧ ixd (196 + 16 * m) = decide (m = 2) ∧ ¬ (196 + 16 * m = 30 ∨ 196 + 16 * m = 31) := by decide +kernel
theorem bo1_4 (a : AS) (b : Nat → Int32) (m : Nat) (hm : m < 4) : Both a b (196 + 16 * m) (tc_executeUpperHalf (mC a) (nI (196 + 16 * m))) (mo_upper (mM a b false) (nI (196 + 16 * m))) := by
  obtain ⟨d1, d2, d3⟩ := dd_1_4 m hm
  unfold Both dfd
  rw [d1, d2, if_neg d3]
  by_cases h2 : m = 2
  · subst h2
    refine ⟨fun q => ru1_4 a b 2 hm (fun _ => q), fun q => uu1_4 a b q⟩
  · rw [decide_eq_false h2]
    exact ⟨fun _ => ru1_4 a b m hm (fun q => absurd q h2), fun q => by cases q⟩
theorem dd_1_5 : ∀ m, m < 4 → dtab (197 + 16 * m) = true ∧ ixd (197 + 16 * m) = decide (m = 2) ∧ ¬ (197 + 16 * m = 30 ∨ 197 + 16 * m = 31) := by decide +kernel
theorem bo1_5 (a : AS) (b : Nat → Int32) (m : Nat) (hm : m < 4) : Both a b (197 + 16 * m) (tc_executeUpperHalf (mC a) (nI (197 + 16 * m))) (mo_upper (mM a b false) (nI (197 + 16 * m))) := by
  obtain ⟨d1, d2, d3⟩ := dd_1_5 m hm
  unfold Both dfd
  rw [d1, d2, if_neg d3]
  by_cases h2 : m = 2
  · subst h2
    refine ⟨fun q => ru1_5 a b 2 hm (fun _ => q), fun q => uu1_5 a b q⟩
  · rw [decide_eq_false h2]
    exact ⟨fun _ => ru1_5 a b m hm (fun q => absurd q h2), fun q => by cases q⟩
theorem dd_1_6 : ∀ m, m < 4 → dtab (198 + 16 * m) = true ∧ ixd (198 + 16 * m) = decide (m = 2) ∧ ¬ (198 + 16 * m = 30 ∨ 198 + 16 * m = 31) := by decide +kernel
theorem bo1_6 (a : AS) (b : Nat → Int32) (m : Nat) (hm : m < 4) : Both a b (198 + 16 * m) (tc_executeUpperHalf (mC a) (nI (198 + 16 * m))) (mo_upper (mM a b false) (nI (198 + 16 * m))) := by
  obtain ⟨d1, d2, d3⟩ := dd_1_6 m hm
  unfold Both dfd
  rw [d1, d2, if_neg d3]
  by_cases h2 : m = 2
  · subst h2
    refine ⟨fun q => ru1_6 a b 2 hm (fun _ => q), fun q => uu1_6 a b q⟩
  · rw [decide_eq_false h2]
    exact ⟨fun _ => ru1_6 a b m hm (fun q => absurd q h2), fun q => by cases q⟩
theorem dd_1_7 : ∀ m, m < 4 → dtab (199 + 16 * m) = decide (¬ m = 0) ∧ ixd (199 + 16 * m) = decide (m = 2) ∧ ¬ (199 + 16 * m = 30 ∨ 199 + 16 * m = 31) := by decide +kernel
theorem bo1_7 (a : AS) (b : Nat → Int32) (m : Nat) (hm : m < 4) : Both a b (199 + 16 * m) (tc_executeUpperHalf (mC a) (nI (199 + 16 * m))) (mo_upper (mM a b false) (nI (199 + 16 * m))) := by
  obtain ⟨d1, d2, d3⟩ := dd_1_7 m hm
  unfold Both dfd
  rw [d1, d2, if_neg d3]
  by_cases h0 : m = 0
  · subst h0
    exact ⟨fun q => (by cases q), fun _ => uz1_7 a b⟩
  · rw [decide_eq_true h0]
    by_cases h2 : m = 2
    · subst h2
      refine ⟨fun q => ru1_7 a b 2 hm h0 (fun _ => q), fun q => uu1_7 a b q⟩
    · rw [decide_eq_false h2]
      exact ⟨fun _ => ru1_7 a b m hm h0 (fun q => absurd q h2), fun q => by cases q⟩
theorem dd_1_8 : ∀ m, m < 4 → dtab (200 + 16 * m) = true ∧ ixd (200 + 16 * m) = decide (m = 2) ∧ ¬ (200 + 16 * m = 30 ∨ 200 + 16 * m = 31) := by decide +kernel
theorem bo1_8 (a : AS) (b : Nat → Int32) (m : Nat) (hm : m < 4) : Both a b (200 + 16 * m) (tc_executeUpperHalf (mC a) (nI (200 + 16 * m))) (mo_upper (mM a b false) (nI (200 + 16 * m))) := by
  obtain ⟨d1, d2, d3⟩ := dd_1_8 m hm
  unfold Both dfd
  rw [d1, d2, if_neg d3]
  by_cases h2 : m = 2
  · subst h2
    refine ⟨fun q => ru1_8 a b 2 hm (fun _ => q), fun q => uu1_8 a b q⟩
  · rw [decide_eq_false h2]
    exact ⟨fun _ => ru1_8 a b m hm (fun q => absurd q h2), fun q => by cases q⟩
theorem dd_1_9 : ∀ m, m < 4 → dtab (201 + 16 * m) = true ∧ ixd (201 + 16 * m) = decide (m = 2) ∧ ¬ (201 + 16 * m = 30 ∨ 201 + 16 * m = 31) := by decide +kernel
theorem bo1_9 (a : AS) (b : Nat → Int32) (m : Nat) (hm : m < 4) : Both a b (201 + 16 * m) (tc_executeUpperHalf (mC a) (nI (201 + 16 * m))) (mo_upper (mM a b false) (nI (201 + 16 * m))) := by
  obtain ⟨d1, d2, d3⟩ := dd_1_9 m hm
  unfold Both dfd
  rw [d1, d2, if_neg d3]
  by_cases h2 : m = 2
  · subst h2
    refine ⟨fun q => ru1_9 a b 2 hm (fun _ => q), fun q => uu1_9 a b q⟩
  · rw [decide_eq_false h2]
    exact ⟨fun _ => ru1_9 a b m hm (fun q => absurd q h2), fun q => by cases q⟩
theorem dd_1_10 : ∀ m, m < 4 → dtab (202 + 16 * m) = true ∧ ixd (202 + 16 * m) = decide (m = 2) ∧ ¬ (202 + 16 * m = 30 ∨ 202 + 16 * m = 31) := by decide +kernel
theorem bo1_10 (a : AS) (b : Nat → Int32) (m : Nat) (hm : m < 4) : Both a b (202 + 16 * m) (tc_executeUpperHalf (mC a) (nI (202 + 16 * m))) (mo_upper (mM a b false) (nI (202 + 16 * m))) := by
  obtain ⟨d1, d2, d3⟩ := dd_1_10 m hm
  unfold Both dfd
  rw [d1, d2, if_neg d3]
  by_cases h2 : m = 2
  · subst h2
    refine ⟨fun q => ru1_10 a b 2 hm (fun _ => q), fun q => uu1_10 a b q⟩
  · rw [decide_eq_false h2]
    exact ⟨fun _ => ru1_10 a b m hm (fun q => absurd q h2), fun q => by cases q⟩
theorem dd_1_11 : ∀ m, m < 4 → dtab (203 + 16 * m) = true ∧ ixd (203 + 16 * m) = decide (m = 2) ∧ ¬ (203 + 16 * m = 30 ∨ 203 + 16 * m = 31) := by decide +kernel
theorem bo1_11 (a : AS) (b : Nat → Int32) (m : Nat) (hm : m < 4) : Both a b (203 + 16 * m) (tc_executeUpperHalf (mC a) (nI (203 + 16 * m))) (mo_upper (mM a b false) (nI (203 + 16 * m))) := by
  obtain ⟨d1, d2, d3⟩ := dd_1_11 m hm
  unfold Both dfd
  rw [d1, d2, if_neg d3]
  by_cases h2 : m = 2
  · subst h2
    refine ⟨fun q => ru1_11 a b 2 hm (fun _ => q), fun q => uu1_11 a b q⟩
  · rw [decide_eq_false h2]
    exact ⟨fun _ => ru1_11 a b m hm (fun q => absurd q h2), fun q => by cases q⟩
theorem dd_1_12 : ∀ m, m < 4 → dtab (204 + 16 * m) = true ∧ ixd (204 + 16 * m) = decide (m = 2) ∧ ¬ (204 + 16 * m = 30 ∨ 204 + 16 * m = 31) := by decide +kernel
theorem bo1_12 (a : AS) (b : Nat → Int32) (m : Nat) (hm : m < 4) : Both a b (204 + 16 * m) (tc_executeUpperHalf (mC a) (nI (204 + 16 * m))) (mo_upper (mM a b false) (nI (204 + 16 * m))) := by
  obtain ⟨d1, d2, d3⟩ := dd_1_12 m hm
  unfold Both dfd
  rw [d1, d2, if_neg d3]
  by_cases h2 : m = 2
  · subst h2
    refine ⟨fun q => ru1_12 a b 2 hm (fun _ => q), fun q => uu1_12 a b q⟩
  · rw [decide_eq_false h2]
    exact ⟨fun _ => ru1_12 a b m hm (fun q => absurd q h2), fun q => by cases q⟩
theorem dd_1_13 : ∀ m, m < 4 → dtab (205 + 16 * m) = decide (¬ m = 0) ∧ ixd (205 + 16 * m) = decide (m = 2) ∧ ¬ (205 + 16 * m = 30 ∨ 205 + 16 * m = 31) := by decide +kernel
theorem bo1_13 (a : AS) (b : Nat → Int32) (m : Nat) (hm : m < 4) : Both a b (205 + 16 * m) (tc_executeUpperHalf (mC a) (nI (205 + 16 * m))) (mo_upper (mM a b false) (nI (205 + 16 * m))) := by
  obtain ⟨d1, d2, d3⟩ := dd_1_13 m hm
  unfold Both dfd
  rw [d1, d2, if_neg d3]
  by_cases h0 : m = 0
  · subst h0
    exact ⟨fun q => (by cases q), fun _ => uz1_13 a b⟩
  · rw [decide_eq_true h0]
    by_cases h2 : m = 2
    · subst h2
      refine ⟨fun q => ru1_13 a b 2 hm h0 (fun _ => q), fun q => uu1_13 a b q⟩
    · rw [decide_eq_false h2]
      exact ⟨fun _ => ru1_13 a b m hm h0 (fun q => absurd q h2), fun q => by cases q⟩
theorem dd_1_14 : ∀ m, m < 4 → dtab (206 + 16 * m) = true ∧ ixd (206 + 16 * m) = decide (m = 2) ∧ ¬ (206 + 16 * m = 30 ∨ 206 + 16 * m = 31) := by decide +kernel
theorem bo1_14 (a : AS) (b : Nat → Int32) (m : Nat) (hm : m < 4) : Both a b (206 + 16 * m) (tc_executeUpperHalf (mC a) (nI (206 + 16 * m))) (mo_upper (mM a b false) (nI (206 + 16 * m))) := by
  obtain ⟨d1, d2, d3⟩ := dd_1_14 m hm
  unfold Both dfd
  rw [d1, d2, if_neg d3]
  by_cases h2 : m = 2
  · subst h2
    refine ⟨fun q => ru1_14 a b 2 hm (fun _ => q), fun q => uu1_14 a b q⟩
  · rw [decide_eq_false h2]
    exact ⟨fun _ => ru1_14 a b m hm (fun q => absurd q h2), fun q => by cases q⟩
theorem dd_1_15 : ∀ m, m < 4 → dtab (207 + 16 * m) = decide (¬ m = 0) ∧ ixd (207 + 16 * m) = decide (m = 2) ∧ ¬ (207 + 16 * m = 30 ∨ 207 + 16 * m = 31) := by decide +kernel
theorem bo1_15 (a : AS) (b : Nat → Int32) (m : Nat) (hm : m < 4) : Both a b (207 + 16 * m) (tc_executeUpperHalf (mC a) (nI (207 + 16 * m))) (mo_upper (mM a b false) (nI (207 + 16 * m))) := by
  obtain ⟨d1, d2, d3⟩ := dd_1_15 m hm
  unfold Both dfd
  rw [d1, d2, if_neg d3]
  by_cases h0 : m = 0
  · subst h0
    exact ⟨fun q => (by cases q), fun _ => uz1_15 a b⟩
  · rw [decide_eq_true h0]
    by_cases h2 : m = 2
    · subst h2
      refine ⟨fun q => ru1_15 a b 2 hm h0 (fun _ => q), fun q => uu1_15 a b q⟩
    · rw [decide_eq_false h2]
      exact ⟨fun _ => ru1_15 a b m hm h0 (fun q => absurd q h2), fun q => by cases q⟩
theorem bo_upper (a : AS) (b : Nat → Int32) (c : Nat) (h1 : 128 ≤ c) (h2 : c < 256) : Both a b c (tc_executeUpperHalf (mC a) (nI c)) (mo_upper (mM a b false) (nI c)) := by
  have hm : c / 16 % 4 < 4 := Nat.mod_lt _ (by decide)
  have hh : c / 64 % 2 = 0 ∨ c / 64 % 2 = 1 := by omega
  have hx := i16_of (show c % 16 < 16 by omega)
  rcases hh with hh | hh <;> rcases hx with hx | hx | hx | hx | hx | hx | hx | hx | hx | hx | hx | hx | hx | hx | hx | hx
  · have e := bo0_0 a b _ hm
    rw [show 128 + 16 * (c / 16 % 4) = c by omega] at e
    exact e
  · have e := bo0_1 a b _ hm
    rw [show 129 + 16 * (c / 16 % 4) = c by omega] at e
    exact e
  · have e := bo0_2 a b _ hm
    rw [show 130 + 16 * (c / 16 % 4) = c by omega] at e
    exact e
  · have e := bo0_3 a b _ hm
    rw [show 131 + 16 * (c / 16 % 4) = c by omega] at e
    exact e
  · have e := bo0_4 a b _ hm
    rw [show 132 + 16 * (c / 16 % 4) = c by omega] at e
    exact e
  · have e := bo0_5 a b _ hm
    rw [show 133 + 16 * (c / 16 % 4) = c by omega] at e
    exact e
  · have e := bo0_6 a b _ hm
    rw [show 134 + 16 * (c / 16 % 4) = c by omega] at e
    exact e
  · have e := bo0_7 a b _ hm
    rw [show 135 + 16 * (c / 16 % 4) = c by omega] at e
    exact e
  · have e := bo0_8 a b _ hm
    rw [show 136 + 16 * (c / 16 % 4) = c by omega] at e
    exact e
  · have e := bo0_9 a b _ hm
    rw [show 137 + 16 * (c / 16 % 4) = c by omega] at e
    exact e
  · have e := bo0_10 a b _ hm
    rw [show 138 + 16 * (c / 16 % 4) = c by omega] at e
    exact e
  · have e := bo0_11 a b _ hm
    rw [show 139 + 16 * (c / 16 % 4) = c by omega] at e
    exact e
  · have e := bo0_12 a b _ hm
    rw [show 140 + 16 * (c / 16 % 4) = c by omega] at e
    exact e
  · have e := bo0_13 a b _ hm
    rw [show 141 + 16 * (c / 16 % 4) = c by omega] at e
    exact e
  · have e := bo0_14 a b _ hm
    rw [show 142 + 16 * (c / 16 % 4) = c by omega] at e
    exact e
  · have e := bo0_15 a b _ hm
    rw [show 143 + 16 * (c / 16 % 4) = c by omega] at e
    exact e
  · have e := bo1_0 a b _ hm
    rw [show 192 + 16 * (c / 16 % 4) = c by omega] at e
    exact e
  · have e := bo1_1 a b _ hm
    rw [show 193 + 16 * (c / 16 % 4) = c by omega] at e
    exact e
  · have e := bo1_2 a b _ hm
    rw [show 194 + 16 * (c / 16 % 4) = c by omega] at e
    exact e
  · have e := bo1_3 a b _ hm
    rw [show 195 + 16 * (c / 16 % 4) = c by omega] at e
    exact e
  · have e := bo1_4 a b _ hm
    rw [show 196 + 16 * (c / 16 % 4) = c by omega] at e
    exact e
  · have e := bo1_5 a b _ hm
    rw [show 197 + 16 * (c / 16 % 4) = c by omega] at e
    exact e
  · have e := bo1_6 a b _ hm
    rw [show 198 + 16 * (c / 16 % 4) = c by omega] at e
    exact e
  · have e := bo1_7 a b _ hm
    rw [show 199 + 16 * (c / 16 % 4) = c by omega] at e
    exact e
  · have e := bo1_8 a b _ hm
    rw [show 200 + 16 * (c / 16 % 4) = c by omega] at e
    exact e
  · have e := bo1_9 a b _ hm
    rw [show 201 + 16 * (c / 16 % 4) = c by omega] at e
    exact e
  · have e := bo1_10 a b _ hm
    rw [show 202 + 16 * (c / 16 % 4) = c by omega] at e
    exact e
  · have e := bo1_11 a b _ hm
    rw [show 203 + 16 * (c / 16 % 4) = c by omega] at e
    exact e
  · have e := bo1_12 a b _ hm
    rw [show 204 + 16 * (c / 16 % 4) = c by omega] at e
    exact e
  · have e := bo1_13 a b _ hm
    rw [show 205 + 16 * (c / 16 % 4) = c by omega] at e
    exact e
  · have e := bo1_14 a b _ hm
    rw [show 206 + 16 * (c / 16 % 4) = c by omega] at e
    exact e
  · have e := bo1_15 a b _ hm
    rw [show 207 + 16 * (c / 16 % 4) = c by omega] at e
    exact e
