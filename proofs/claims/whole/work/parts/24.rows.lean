/-- the two sides come to the same state, whatever they answer -/
def Rs (b : Nat → Int32) (x : Option (Int32 × CS)) (y : Option (Int32 × MS)) : Prop := ∃ (r r2 : Int32) (z : AS), x = some (r, mC z) ∧ y = some (r2, mM z b false)
theorem rs_of {P : Nat → AS → Prop} {b : Nat → Int32} {x : Option (Int32 × CS)} {y : Option (Int32 × MS)} (h : Rl P b false x y) : Rs b x y := by
  obtain ⟨n, z, h1, h2, h3⟩ := h
  exact ⟨_, _, z, h1, h2⟩
theorem rs_c {b : Nat → Int32} {x : Option (Int32 × CS)} {y : Option (Int32 × MS)} (h : Rs b x y) : Rs b (bd x fun _ s => some ((0 : Int32), s)) y := by
  obtain ⟨r, r2, z, h1, h2⟩ := h
  rw [h1, bd_s]
  exact ⟨_, _, z, rfl, h2⟩
theorem rs_m {b : Nat → Int32} {x : Option (Int32 × CS)} {y : Option (Int32 × MS)} (h : Rs b x y) : Rs b x (bd y fun _ s => some ((0 : Int32), s)) := by
  obtain ⟨r, r2, z, h1, h2⟩ := h
  rw [h2, bd_s]
  exact ⟨_, _, z, h1, rfl⟩
theorem rs_some {b : Nat → Int32} {r r2 : Int32} {z : AS} : Rs b (some (r, mC z)) (some (r2, mM z b false)) := ⟨r, r2, z, rfl, rfl⟩
theorem bd_as {S γ : Type} (m : Option (Int32 × S)) (k : Int32 → S → Option (Int32 × S)) (l : Int32 → S → Option γ) : bd (bd m k) l = bd m fun r s => bd (k r s) l := by
  cases m <;> rfl
abbrev Bo (a : AS) (b : Nat → Int32) (c : Nat) (x : Option (Int32 × CS)) (y : Option (Int32 × MS)) : Prop := (dfd c (fB a) = true → Rs b x y) ∧ (dfd c (fB a) = false → Un a b y)
theorem bo_of {a : AS} {b : Nat → Int32} {c : Nat} {x : Option (Int32 × CS)} {y : Option (Int32 × MS)} (h : Both a b c x y) : Bo a b c x y := ⟨fun q => rs_of (h.1 q), h.2⟩
-- row 2
theorem cl_2 : ∀ x, x < 16 → nI (32 + x) >>> ((8 : Int32) &&& 31) = 0 ∧ (nI (32 + x) >>> ((4 : Int32) &&& 31)) &&& (7 : Int32) = 2 ∧ nI (32 + x) &&& (15 : Int32) = nI x := by decide +kernel
theorem cl_2b : ∀ x, x < 16 → nI (288 + x) >>> ((8 : Int32) &&& 31) = 1 ∧ (nI (288 + x) >>> ((4 : Int32) &&& 31)) &&& (7 : Int32) = 2 ∧ nI (288 + x) &&& (15 : Int32) = nI x := by decide +kernel
theorem sw_2 (s : CS) (X : Int32) : swi (2 : Int32) [((1 : Int32), 52, bd (tc_executeRowOne s X) fun _ s1 => tc_executeLowerHalf_174 s1), ((2 : Int32), 61, if (0 : Int32) = 0 then (bd (tc_fetchByte s) fun v5 s3 => tc_executeLowerHalf_80 s3 (v5.toInt8.toInt32) X) else (bd (tc_fetchWord s) fun v4 s2 => tc_executeLowerHalf_80 s2 v4 X)), ((3 : Int32), 86, bd (tc_executeRowThree s 0 X) fun _ s4 => tc_executeLowerHalf_174 s4), ((4 : Int32), 96, bd (re_get s (0 : Int32)) fun v6 s5 => bd (ar_alter s5 X v6) fun v7 s6 => bd (re_set s6 (0 : Int32) v7) fun _ s7 => tc_executeLowerHalf_174 s7), ((5 : Int32), 124, bd (re_get s (1 : Int32)) fun v8 s8 => bd (ar_alter s8 X v8) fun v9 s9 => bd (re_set s9 (1 : Int32) v9) fun _ s10 => tc_executeLowerHalf_174 s10)] (if (2 : Int32) = 0 then (tc_executeLowerHalf_167 s (1 : Int32) X) else (tc_executeLowerHalf_167 s ((2 : Int32) &&& (3 : Int32)) X)) = bd (tc_fetchByte s) fun v5 s3 => bd (tc_branch s3 X (v5.toInt8.toInt32)) fun _ s1 => some ((0 : Int32), s1) := rfl
theorem sw_2b (s : CS) (X : Int32) : swi (2 : Int32) [((1 : Int32), 52, bd (tc_executeRowOne s X) fun _ s1 => tc_executeLowerHalf_174 s1), ((2 : Int32), 61, if (1 : Int32) = 0 then (bd (tc_fetchByte s) fun v5 s3 => tc_executeLowerHalf_80 s3 (v5.toInt8.toInt32) X) else (bd (tc_fetchWord s) fun v4 s2 => tc_executeLowerHalf_80 s2 v4 X)), ((3 : Int32), 86, bd (tc_executeRowThree s 1 X) fun _ s4 => tc_executeLowerHalf_174 s4), ((4 : Int32), 96, bd (re_get s (0 : Int32)) fun v6 s5 => bd (ar_alter s5 X v6) fun v7 s6 => bd (re_set s6 (0 : Int32) v7) fun _ s7 => tc_executeLowerHalf_174 s7), ((5 : Int32), 124, bd (re_get s (1 : Int32)) fun v8 s8 => bd (ar_alter s8 X v8) fun v9 s9 => bd (re_set s9 (1 : Int32) v9) fun _ s10 => tc_executeLowerHalf_174 s10)] (if (2 : Int32) = 0 then (tc_executeLowerHalf_167 s (1 : Int32) X) else (tc_executeLowerHalf_167 s ((2 : Int32) &&& (3 : Int32)) X)) = bd (tc_fetchWord s) fun v5 s3 => bd (tc_branch s3 X v5) fun _ s1 => some ((0 : Int32), s1) := rfl
theorem rs_row2 (a : AS) (b : Nat → Int32) (x : Nat) (hx : x < 16) : Rs b (tc_executeLowerHalf (mC a) (nI (32 + x))) (mo_branch (mM a b false) (nI x) 0) := by
  obtain ⟨f1, f2, f3⟩ := cl_2 x hx
  unfold tc_executeLowerHalf mo_branch
  rw [nm_d, nm_d, nm_d, f1, f2, f3, sw_2, c_fetchByte, bd_s, if_pos rfl, m_next, bd_s, m_signed _ _ (fB_lt a), bd_s]
  exact rs_c (rs_of (rl_br _ b x hx _))
theorem rs_row2b (a : AS) (b : Nat → Int32) (x : Nat) (hx : x < 16) : Rs b (tc_executeLowerHalf (mC a) (nI (288 + x))) (mo_branch (mM a b false) (nI x) 1) := by
  obtain ⟨f1, f2, f3⟩ := cl_2b x hx
  unfold tc_executeLowerHalf mo_branch
  rw [nm_d, nm_d, nm_d, f1, f2, f3, sw_2b, c_fetchWord, bd_s, if_neg (by decide), m_nextWord, bd_s]
  exact rs_c (rs_of (rl_br _ b x hx _))
theorem sw_1 (s : CS) (X : Int32) (d : Option (Int32 × CS)) : swi (1 : Int32) [((1 : Int32), 52, bd (tc_executeRowOne s X) fun _ s1 => tc_executeLowerHalf_174 s1), ((2 : Int32), 61, if (0 : Int32) = 0 then (bd (tc_fetchByte s) fun v5 s3 => tc_executeLowerHalf_80 s3 (v5.toInt8.toInt32) X) else (bd (tc_fetchWord s) fun v4 s2 => tc_executeLowerHalf_80 s2 v4 X)), ((3 : Int32), 86, bd (tc_executeRowThree s 0 X) fun _ s4 => tc_executeLowerHalf_174 s4), ((4 : Int32), 96, bd (re_get s (0 : Int32)) fun v6 s5 => bd (ar_alter s5 X v6) fun v7 s6 => bd (re_set s6 (0 : Int32) v7) fun _ s7 => tc_executeLowerHalf_174 s7), ((5 : Int32), 124, bd (re_get s (1 : Int32)) fun v8 s8 => bd (ar_alter s8 X v8) fun v9 s9 => bd (re_set s9 (1 : Int32) v9) fun _ s10 => tc_executeLowerHalf_174 s10)] d = bd (tc_executeRowOne s X) fun _ s1 => some ((0 : Int32), s1) := rfl
theorem sw_3 (s : CS) (X : Int32) (d : Option (Int32 × CS)) : swi (3 : Int32) [((1 : Int32), 52, bd (tc_executeRowOne s X) fun _ s1 => tc_executeLowerHalf_174 s1), ((2 : Int32), 61, if (0 : Int32) = 0 then (bd (tc_fetchByte s) fun v5 s3 => tc_executeLowerHalf_80 s3 (v5.toInt8.toInt32) X) else (bd (tc_fetchWord s) fun v4 s2 => tc_executeLowerHalf_80 s2 v4 X)), ((3 : Int32), 86, bd (tc_executeRowThree s 0 X) fun _ s4 => tc_executeLowerHalf_174 s4), ((4 : Int32), 96, bd (re_get s (0 : Int32)) fun v6 s5 => bd (ar_alter s5 X v6) fun v7 s6 => bd (re_set s6 (0 : Int32) v7) fun _ s7 => tc_executeLowerHalf_174 s7), ((5 : Int32), 124, bd (re_get s (1 : Int32)) fun v8 s8 => bd (ar_alter s8 X v8) fun v9 s9 => bd (re_set s9 (1 : Int32) v9) fun _ s10 => tc_executeLowerHalf_174 s10)] d = bd (tc_executeRowThree s 0 X) fun _ s1 => some ((0 : Int32), s1) := rfl
theorem lf18 : (18 : Int32) >>> ((8 : Int32) &&& 31) = 0 ∧ ((18 : Int32) >>> ((4 : Int32) &&& 31)) &&& (7 : Int32) = 1 ∧ (18 : Int32) &&& (15 : Int32) = 2 := by decide +kernel
theorem rx18 (s : CS) : tc_executeRowOne s 2 = some ((0 : Int32), s) := rfl
theorem cf18 (s : CS) : tc_executeLowerHalf s 18 = bd (tc_executeRowOne s 2) fun _ s1 => some ((0 : Int32), s1) := by
  obtain ⟨f1, f2, f3⟩ := lf18
  unfold tc_executeLowerHalf
  rw [nm_d, nm_d, nm_d, f1, f2, f3, sw_1]
theorem mf18 (s : MS) : mo_middle s 18 = some ((0 : Int32), s) := by
  unfold mo_middle
  rw [if_pos (by decide)]
  all_goals rfl
theorem lf19 : (19 : Int32) >>> ((8 : Int32) &&& 31) = 0 ∧ ((19 : Int32) >>> ((4 : Int32) &&& 31)) &&& (7 : Int32) = 1 ∧ (19 : Int32) &&& (15 : Int32) = 3 := by decide +kernel
theorem rx19 (s : CS) : tc_executeRowOne s 3 = some ((0 : Int32), cy_wai s 1) := rfl
theorem cf19 (s : CS) : tc_executeLowerHalf s 19 = bd (tc_executeRowOne s 3) fun _ s1 => some ((0 : Int32), s1) := by
  obtain ⟨f1, f2, f3⟩ := lf19
  unfold tc_executeLowerHalf
  rw [nm_d, nm_d, nm_d, f1, f2, f3, sw_1]
theorem mf19 (s : MS) : mo_middle s 19 = some ((0 : Int32), my_wai s 1) := by
  unfold mo_middle
  rw [if_neg (by decide), if_pos (by decide)]
  all_goals rfl
theorem lf22 : (22 : Int32) >>> ((8 : Int32) &&& 31) = 0 ∧ ((22 : Int32) >>> ((4 : Int32) &&& 31)) &&& (7 : Int32) = 1 ∧ (22 : Int32) &&& (15 : Int32) = 6 := by decide +kernel
theorem rx22 (s : CS) : tc_executeRowOne s 6 = bd (tc_fetchWord s) fun v s1 => bd (tc_goOn s1 v) fun _ s9 => some ((0 : Int32), s9) := rfl
theorem cf22 (s : CS) : tc_executeLowerHalf s 22 = bd (tc_executeRowOne s 6) fun _ s1 => some ((0 : Int32), s1) := by
  obtain ⟨f1, f2, f3⟩ := lf22
  unfold tc_executeLowerHalf
  rw [nm_d, nm_d, nm_d, f1, f2, f3, sw_1]
theorem mf22 (s : MS) : mo_middle s 22 = bd (mo_branch s 0 1) fun _ s9 => some ((0 : Int32), s9) := by
  unfold mo_middle
  rw [if_neg (by decide), if_neg (by decide), if_pos (by decide)]
  all_goals rfl
theorem lf23 : (23 : Int32) >>> ((8 : Int32) &&& 31) = 0 ∧ ((23 : Int32) >>> ((4 : Int32) &&& 31)) &&& (7 : Int32) = 1 ∧ (23 : Int32) &&& (15 : Int32) = 7 := by decide +kernel
theorem rx23 (s : CS) : tc_executeRowOne s 7 = bd (tc_fetchWord s) fun v s1 => bd (tc_callRelative s1 v) fun _ s9 => some ((0 : Int32), s9) := rfl
theorem cf23 (s : CS) : tc_executeLowerHalf s 23 = bd (tc_executeRowOne s 7) fun _ s1 => some ((0 : Int32), s1) := by
  obtain ⟨f1, f2, f3⟩ := lf23
  unfold tc_executeLowerHalf
  rw [nm_d, nm_d, nm_d, f1, f2, f3, sw_1]
theorem mf23 (s : MS) : mo_middle s 23 = bd (mo_nextWord s) fun v8 s10 => bd (mo_pushWord s10 (5 : Int32) (mx_reg s10 6)) fun _ s11 => some ((0 : Int32), my_reg s11 (upd (mx_reg s11) 6 (((mx_reg s11 6) + v8) &&& (65535 : Int32)))) := by
  unfold mo_middle
  rw [if_neg (by decide), if_neg (by decide), if_neg (by decide), if_pos (by decide)]
  all_goals rfl
theorem lf25 : (25 : Int32) >>> ((8 : Int32) &&& 31) = 0 ∧ ((25 : Int32) >>> ((4 : Int32) &&& 31)) &&& (7 : Int32) = 1 ∧ (25 : Int32) &&& (15 : Int32) = 9 := by decide +kernel
theorem rx25 (s : CS) : tc_executeRowOne s 9 = bd (ar_adjustDecimal s) fun _ s9 => some ((0 : Int32), s9) := rfl
theorem cf25 (s : CS) : tc_executeLowerHalf s 25 = bd (tc_executeRowOne s 9) fun _ s1 => some ((0 : Int32), s1) := by
  obtain ⟨f1, f2, f3⟩ := lf25
  unfold tc_executeLowerHalf
  rw [nm_d, nm_d, nm_d, f1, f2, f3, sw_1]
theorem mf25 (s : MS) : mo_middle s 25 = bd (mo_adjust s) fun _ s9 => some ((0 : Int32), s9) := by
  unfold mo_middle
  rw [if_neg (by decide), if_neg (by decide), if_neg (by decide), if_neg (by decide), if_pos (by decide)]
  all_goals rfl
theorem lf26 : (26 : Int32) >>> ((8 : Int32) &&& 31) = 0 ∧ ((26 : Int32) >>> ((4 : Int32) &&& 31)) &&& (7 : Int32) = 1 ∧ (26 : Int32) &&& (15 : Int32) = 10 := by decide +kernel
theorem rx26 (s : CS) : tc_executeRowOne s 10 = bd (re_get s 8) fun v3 s7 => bd (tc_fetchByte s7) fun v4 s8 => bd (re_set s8 8 (v3 ||| v4)) fun _ s9 => some ((0 : Int32), s9) := rfl
theorem cf26 (s : CS) : tc_executeLowerHalf s 26 = bd (tc_executeRowOne s 10) fun _ s1 => some ((0 : Int32), s1) := by
  obtain ⟨f1, f2, f3⟩ := lf26
  unfold tc_executeLowerHalf
  rw [nm_d, nm_d, nm_d, f1, f2, f3, sw_1]
theorem mf26 (s : MS) : mo_middle s 26 = bd (mo_next s) fun v6 s7 => some ((0 : Int32), my_reg s7 (upd (mx_reg s7) 8 ((mx_reg s 8) ||| v6))) := by
  unfold mo_middle
  rw [if_neg (by decide), if_neg (by decide), if_neg (by decide), if_neg (by decide), if_neg (by decide), if_pos (by decide)]
  all_goals rfl
theorem lf28 : (28 : Int32) >>> ((8 : Int32) &&& 31) = 0 ∧ ((28 : Int32) >>> ((4 : Int32) &&& 31)) &&& (7 : Int32) = 1 ∧ (28 : Int32) &&& (15 : Int32) = 12 := by decide +kernel
theorem rx28 (s : CS) : tc_executeRowOne s 12 = bd (re_get s 8) fun v3 s7 => bd (tc_fetchByte s7) fun v4 s8 => bd (re_set s8 8 (v3 &&& v4)) fun _ s9 => some ((0 : Int32), s9) := rfl
theorem cf28 (s : CS) : tc_executeLowerHalf s 28 = bd (tc_executeRowOne s 12) fun _ s1 => some ((0 : Int32), s1) := by
  obtain ⟨f1, f2, f3⟩ := lf28
  unfold tc_executeLowerHalf
  rw [nm_d, nm_d, nm_d, f1, f2, f3, sw_1]
theorem mf28 (s : MS) : mo_middle s 28 = bd (mo_next s) fun v6 s7 => some ((0 : Int32), my_reg s7 (upd (mx_reg s7) 8 ((mx_reg s 8) &&& v6))) := by
  unfold mo_middle
  rw [if_neg (by decide), if_neg (by decide), if_neg (by decide), if_neg (by decide), if_neg (by decide), if_neg (by decide), if_pos (by decide)]
  all_goals rfl
theorem lf29 : (29 : Int32) >>> ((8 : Int32) &&& 31) = 0 ∧ ((29 : Int32) >>> ((4 : Int32) &&& 31)) &&& (7 : Int32) = 1 ∧ (29 : Int32) &&& (15 : Int32) = 13 := by decide +kernel
theorem rx29 (s : CS) : tc_executeRowOne s 13 = bd (ar_extendSign s) fun _ s9 => some ((0 : Int32), s9) := rfl
theorem cf29 (s : CS) : tc_executeLowerHalf s 29 = bd (tc_executeRowOne s 13) fun _ s1 => some ((0 : Int32), s1) := by
  obtain ⟨f1, f2, f3⟩ := lf29
  unfold tc_executeLowerHalf
  rw [nm_d, nm_d, nm_d, f1, f2, f3, sw_1]
theorem mf29 (s : MS) : mo_middle s 29 = if (mx_reg s 1) < (128 : Int32) then (mo_middle_180 s (0 : Int32) (0 : Int32)) else (mo_middle_180 s (255 : Int32) (0 : Int32)) := by
  unfold mo_middle
  rw [if_neg (by decide), if_neg (by decide), if_neg (by decide), if_neg (by decide), if_neg (by decide), if_neg (by decide), if_neg (by decide), if_pos (by decide)]
  all_goals rfl
theorem lf30 : (30 : Int32) >>> ((8 : Int32) &&& 31) = 0 ∧ ((30 : Int32) >>> ((4 : Int32) &&& 31)) &&& (7 : Int32) = 1 ∧ (30 : Int32) &&& (15 : Int32) = 14 := by decide +kernel
theorem rx30 (s : CS) : tc_executeRowOne s 14 = bd (tc_fetchByte s) fun v s1 => bd (tc_exchange s1 v) fun _ s9 => some ((0 : Int32), s9) := rfl
theorem cf30 (s : CS) : tc_executeLowerHalf s 30 = bd (tc_executeRowOne s 14) fun _ s1 => some ((0 : Int32), s1) := by
  obtain ⟨f1, f2, f3⟩ := lf30
  unfold tc_executeLowerHalf
  rw [nm_d, nm_d, nm_d, f1, f2, f3, sw_1]
theorem mf30 (s : MS) : mo_middle s 30 = bd (mo_exchange s 1) fun _ s9 => some ((0 : Int32), s9) := by
  unfold mo_middle mo_middle_206
  rw [if_neg (by decide), if_neg (by decide), if_neg (by decide), if_neg (by decide), if_neg (by decide), if_neg (by decide), if_neg (by decide), if_neg (by decide), if_pos (by decide), if_pos (by decide)]
  rfl
theorem lf31 : (31 : Int32) >>> ((8 : Int32) &&& 31) = 0 ∧ ((31 : Int32) >>> ((4 : Int32) &&& 31)) &&& (7 : Int32) = 1 ∧ (31 : Int32) &&& (15 : Int32) = 15 := by decide +kernel
theorem rx31 (s : CS) : tc_executeRowOne s 15 = bd (tc_fetchByte s) fun v s1 => bd (tc_transfer s1 v) fun _ s9 => some ((0 : Int32), s9) := rfl
theorem cf31 (s : CS) : tc_executeLowerHalf s 31 = bd (tc_executeRowOne s 15) fun _ s1 => some ((0 : Int32), s1) := by
  obtain ⟨f1, f2, f3⟩ := lf31
  unfold tc_executeLowerHalf
  rw [nm_d, nm_d, nm_d, f1, f2, f3, sw_1]
theorem mf31 (s : MS) : mo_middle s 31 = bd (mo_exchange s 0) fun _ s9 => some ((0 : Int32), s9) := by
  unfold mo_middle mo_middle_206
  rw [if_neg (by decide), if_neg (by decide), if_neg (by decide), if_neg (by decide), if_neg (by decide), if_neg (by decide), if_neg (by decide), if_neg (by decide), if_neg (by decide), if_pos (by decide), if_neg (by decide)]
  rfl
theorem lf48 : (48 : Int32) >>> ((8 : Int32) &&& 31) = 0 ∧ ((48 : Int32) >>> ((4 : Int32) &&& 31)) &&& (7 : Int32) = 3 ∧ (48 : Int32) &&& (15 : Int32) = 0 := by decide +kernel
theorem rx48 (s : CS) : tc_executeRowThree s 0 0 = bd (tc_indexedAddress s) fun v s1 => bd (tc_takeAddress s1 2 v) fun _ s9 => some ((0 : Int32), s9) := by
  have h : tc_executeRowThree s 0 0 = tc_executeRowThree_72 s 0 := rfl
  rw [h]
  unfold tc_executeRowThree_72
  rw [show okI 0 (tln 4) = true by decide, gd_t, show tvl 4 ((0 : Int32).toNatClampNeg) = 2 by decide]
  rfl
theorem cf48 (s : CS) : tc_executeLowerHalf s 48 = bd (tc_executeRowThree s 0 0) fun _ s1 => some ((0 : Int32), s1) := by
  obtain ⟨f1, f2, f3⟩ := lf48
  unfold tc_executeLowerHalf
  rw [nm_d, nm_d, nm_d, f1, f2, f3, sw_3]
theorem mf48 (s : MS) : mo_middle s 48 = bd (mo_lea s 2) fun _ s9 => some ((0 : Int32), s9) := by
  unfold mo_middle
  rw [if_neg (by decide), if_neg (by decide), if_neg (by decide), if_neg (by decide), if_neg (by decide), if_neg (by decide), if_neg (by decide), if_neg (by decide), if_neg (by decide), if_neg (by decide), m_in, bd_s, if_neg (by decide), if_pos (by decide)]
  rfl
theorem lf49 : (49 : Int32) >>> ((8 : Int32) &&& 31) = 0 ∧ ((49 : Int32) >>> ((4 : Int32) &&& 31)) &&& (7 : Int32) = 3 ∧ (49 : Int32) &&& (15 : Int32) = 1 := by decide +kernel
theorem rx49 (s : CS) : tc_executeRowThree s 0 1 = bd (tc_indexedAddress s) fun v s1 => bd (tc_takeAddress s1 3 v) fun _ s9 => some ((0 : Int32), s9) := by
  have h : tc_executeRowThree s 0 1 = tc_executeRowThree_72 s 1 := rfl
  rw [h]
  unfold tc_executeRowThree_72
  rw [show okI 1 (tln 4) = true by decide, gd_t, show tvl 4 ((1 : Int32).toNatClampNeg) = 3 by decide]
  rfl
theorem cf49 (s : CS) : tc_executeLowerHalf s 49 = bd (tc_executeRowThree s 0 1) fun _ s1 => some ((0 : Int32), s1) := by
  obtain ⟨f1, f2, f3⟩ := lf49
  unfold tc_executeLowerHalf
  rw [nm_d, nm_d, nm_d, f1, f2, f3, sw_3]
theorem mf49 (s : MS) : mo_middle s 49 = bd (mo_lea s 3) fun _ s9 => some ((0 : Int32), s9) := by
  unfold mo_middle
  rw [if_neg (by decide), if_neg (by decide), if_neg (by decide), if_neg (by decide), if_neg (by decide), if_neg (by decide), if_neg (by decide), if_neg (by decide), if_neg (by decide), if_neg (by decide), m_in, bd_s, if_neg (by decide), if_neg (by decide), if_pos (by decide)]
  rfl
theorem lf50 : (50 : Int32) >>> ((8 : Int32) &&& 31) = 0 ∧ ((50 : Int32) >>> ((4 : Int32) &&& 31)) &&& (7 : Int32) = 3 ∧ (50 : Int32) &&& (15 : Int32) = 2 := by decide +kernel
theorem rx50 (s : CS) : tc_executeRowThree s 0 2 = bd (tc_indexedAddress s) fun v s1 => bd (tc_takeAddress s1 5 v) fun _ s9 => some ((0 : Int32), s9) := by
  have h : tc_executeRowThree s 0 2 = tc_executeRowThree_72 s 2 := rfl
  rw [h]
  unfold tc_executeRowThree_72
  rw [show okI 2 (tln 4) = true by decide, gd_t, show tvl 4 ((2 : Int32).toNatClampNeg) = 5 by decide]
  rfl
theorem cf50 (s : CS) : tc_executeLowerHalf s 50 = bd (tc_executeRowThree s 0 2) fun _ s1 => some ((0 : Int32), s1) := by
  obtain ⟨f1, f2, f3⟩ := lf50
  unfold tc_executeLowerHalf
  rw [nm_d, nm_d, nm_d, f1, f2, f3, sw_3]
theorem mf50 (s : MS) : mo_middle s 50 = bd (mo_lea s 5) fun _ s9 => some ((0 : Int32), s9) := by
  unfold mo_middle
  rw [if_neg (by decide), if_neg (by decide), if_neg (by decide), if_neg (by decide), if_neg (by decide), if_neg (by decide), if_neg (by decide), if_neg (by decide), if_neg (by decide), if_neg (by decide), m_in, bd_s, if_neg (by decide), if_neg (by decide), if_neg (by decide), if_pos (by decide)]
  rfl
theorem lf51 : (51 : Int32) >>> ((8 : Int32) &&& 31) = 0 ∧ ((51 : Int32) >>> ((4 : Int32) &&& 31)) &&& (7 : Int32) = 3 ∧ (51 : Int32) &&& (15 : Int32) = 3 := by decide +kernel
theorem rx51 (s : CS) : tc_executeRowThree s 0 3 = bd (tc_indexedAddress s) fun v s1 => bd (tc_takeAddress s1 4 v) fun _ s9 => some ((0 : Int32), s9) := by
  have h : tc_executeRowThree s 0 3 = tc_executeRowThree_72 s 3 := rfl
  rw [h]
  unfold tc_executeRowThree_72
  rw [show okI 3 (tln 4) = true by decide, gd_t, show tvl 4 ((3 : Int32).toNatClampNeg) = 4 by decide]
  rfl
theorem cf51 (s : CS) : tc_executeLowerHalf s 51 = bd (tc_executeRowThree s 0 3) fun _ s1 => some ((0 : Int32), s1) := by
  obtain ⟨f1, f2, f3⟩ := lf51
  unfold tc_executeLowerHalf
  rw [nm_d, nm_d, nm_d, f1, f2, f3, sw_3]
theorem mf51 (s : MS) : mo_middle s 51 = bd (mo_lea s 4) fun _ s9 => some ((0 : Int32), s9) := by
  unfold mo_middle
  rw [if_neg (by decide), if_neg (by decide), if_neg (by decide), if_neg (by decide), if_neg (by decide), if_neg (by decide), if_neg (by decide), if_neg (by decide), if_neg (by decide), if_neg (by decide), m_in, bd_s, if_neg (by decide), if_neg (by decide), if_neg (by decide), if_neg (by decide)]
  rfl
theorem lf52 : (52 : Int32) >>> ((8 : Int32) &&& 31) = 0 ∧ ((52 : Int32) >>> ((4 : Int32) &&& 31)) &&& (7 : Int32) = 3 ∧ (52 : Int32) &&& (15 : Int32) = 4 := by decide +kernel
theorem rx52 (s : CS) : tc_executeRowThree s 0 4 = bd (tc_fetchByte s) fun v s1 => bd (tc_pushRegisters s1 5 v) fun _ s9 => some ((0 : Int32), s9) := rfl
theorem cf52 (s : CS) : tc_executeLowerHalf s 52 = bd (tc_executeRowThree s 0 4) fun _ s1 => some ((0 : Int32), s1) := by
  obtain ⟨f1, f2, f3⟩ := lf52
  unfold tc_executeLowerHalf
  rw [nm_d, nm_d, nm_d, f1, f2, f3, sw_3]
theorem mf52 (s : MS) : mo_middle s 52 = bd (mo_next s) fun v s1 => bd (mo_pushAll s1 5 v) fun _ s9 => some ((0 : Int32), s9) := by
  unfold mo_middle mo_middle_300
  rw [if_neg (by decide), if_neg (by decide), if_neg (by decide), if_neg (by decide), if_neg (by decide), if_neg (by decide), if_neg (by decide), if_neg (by decide), if_neg (by decide), if_neg (by decide), m_in, bd_s, if_pos (by decide), m_in, bd_s, if_neg (by decide)]
  apply congrArg (bd _)
  funext v t
  rw [if_neg (by decide), if_pos (by decide)]
  rfl
theorem lf53 : (53 : Int32) >>> ((8 : Int32) &&& 31) = 0 ∧ ((53 : Int32) >>> ((4 : Int32) &&& 31)) &&& (7 : Int32) = 3 ∧ (53 : Int32) &&& (15 : Int32) = 5 := by decide +kernel
theorem rx53 (s : CS) : tc_executeRowThree s 0 5 = bd (tc_fetchByte s) fun v s1 => bd (tc_pullRegisters s1 5 v) fun _ s9 => some ((0 : Int32), s9) := rfl
theorem cf53 (s : CS) : tc_executeLowerHalf s 53 = bd (tc_executeRowThree s 0 5) fun _ s1 => some ((0 : Int32), s1) := by
  obtain ⟨f1, f2, f3⟩ := lf53
  unfold tc_executeLowerHalf
  rw [nm_d, nm_d, nm_d, f1, f2, f3, sw_3]
theorem mf53 (s : MS) : mo_middle s 53 = bd (mo_next s) fun v s1 => bd (mo_pullAll s1 5 v) fun _ s9 => some ((0 : Int32), s9) := by
  unfold mo_middle mo_middle_300
  rw [if_neg (by decide), if_neg (by decide), if_neg (by decide), if_neg (by decide), if_neg (by decide), if_neg (by decide), if_neg (by decide), if_neg (by decide), if_neg (by decide), if_neg (by decide), m_in, bd_s, if_pos (by decide), m_in, bd_s, if_neg (by decide)]
  apply congrArg (bd _)
  funext v t
  rw [if_neg (by decide), if_neg (by decide)]
  rfl
theorem lf54 : (54 : Int32) >>> ((8 : Int32) &&& 31) = 0 ∧ ((54 : Int32) >>> ((4 : Int32) &&& 31)) &&& (7 : Int32) = 3 ∧ (54 : Int32) &&& (15 : Int32) = 6 := by decide +kernel
theorem rx54 (s : CS) : tc_executeRowThree s 0 6 = bd (tc_fetchByte s) fun v s1 => bd (tc_pushRegisters s1 4 v) fun _ s9 => some ((0 : Int32), s9) := rfl
theorem cf54 (s : CS) : tc_executeLowerHalf s 54 = bd (tc_executeRowThree s 0 6) fun _ s1 => some ((0 : Int32), s1) := by
  obtain ⟨f1, f2, f3⟩ := lf54
  unfold tc_executeLowerHalf
  rw [nm_d, nm_d, nm_d, f1, f2, f3, sw_3]
theorem mf54 (s : MS) : mo_middle s 54 = bd (mo_next s) fun v s1 => bd (mo_pushAll s1 4 v) fun _ s9 => some ((0 : Int32), s9) := by
  unfold mo_middle mo_middle_300
  rw [if_neg (by decide), if_neg (by decide), if_neg (by decide), if_neg (by decide), if_neg (by decide), if_neg (by decide), if_neg (by decide), if_neg (by decide), if_neg (by decide), if_neg (by decide), m_in, bd_s, if_pos (by decide), m_in, bd_s, if_neg (by decide)]
  apply congrArg (bd _)
  funext v t
  rw [if_pos (by decide), if_pos (by decide)]
  rfl
theorem lf55 : (55 : Int32) >>> ((8 : Int32) &&& 31) = 0 ∧ ((55 : Int32) >>> ((4 : Int32) &&& 31)) &&& (7 : Int32) = 3 ∧ (55 : Int32) &&& (15 : Int32) = 7 := by decide +kernel
theorem rx55 (s : CS) : tc_executeRowThree s 0 7 = bd (tc_fetchByte s) fun v s1 => bd (tc_pullRegisters s1 4 v) fun _ s9 => some ((0 : Int32), s9) := rfl
theorem cf55 (s : CS) : tc_executeLowerHalf s 55 = bd (tc_executeRowThree s 0 7) fun _ s1 => some ((0 : Int32), s1) := by
  obtain ⟨f1, f2, f3⟩ := lf55
  unfold tc_executeLowerHalf
  rw [nm_d, nm_d, nm_d, f1, f2, f3, sw_3]
theorem mf55 (s : MS) : mo_middle s 55 = bd (mo_next s) fun v s1 => bd (mo_pullAll s1 4 v) fun _ s9 => some ((0 : Int32), s9) := by
  unfold mo_middle mo_middle_300
  rw [if_neg (by decide), if_neg (by decide), if_neg (by decide), if_neg (by decide), if_neg (by decide), if_neg (by decide), if_neg (by decide), if_neg (by decide), if_neg (by decide), if_neg (by decide), m_in, bd_s, if_pos (by decide), m_in, bd_s, if_neg (by decide)]
  apply congrArg (bd _)
  funext v t
  rw [if_pos (by decide), if_neg (by decide)]
  rfl
theorem lf57 : (57 : Int32) >>> ((8 : Int32) &&& 31) = 0 ∧ ((57 : Int32) >>> ((4 : Int32) &&& 31)) &&& (7 : Int32) = 3 ∧ (57 : Int32) &&& (15 : Int32) = 9 := by decide +kernel
theorem rx57 (s : CS) : tc_executeRowThree s 0 9 = bd (tc_pullWord s 5) fun v s1 => bd (re_set s1 6 v) fun _ s9 => some ((0 : Int32), s9) := rfl
theorem cf57 (s : CS) : tc_executeLowerHalf s 57 = bd (tc_executeRowThree s 0 9) fun _ s1 => some ((0 : Int32), s1) := by
  obtain ⟨f1, f2, f3⟩ := lf57
  unfold tc_executeLowerHalf
  rw [nm_d, nm_d, nm_d, f1, f2, f3, sw_3]
theorem ml57 (s : MS) : mo_last s 57 = bd (mo_pullWord s 5) fun v4 s10 => some ((0 : Int32), my_reg s10 (upd (mx_reg s10) 6 v4)) := by
  unfold mo_last
  rw [if_pos (by decide)]
  rfl
theorem mf57 (s : MS) : mo_middle s 57 = bd (mo_last s 57) fun _ s3 => some ((0 : Int32), s3) := by
  unfold mo_middle
  rw [if_neg (by decide), if_neg (by decide), if_neg (by decide), if_neg (by decide), if_neg (by decide), if_neg (by decide), if_neg (by decide), if_neg (by decide), if_neg (by decide), if_neg (by decide), m_in, bd_s, if_pos (by decide), m_in, bd_s, if_pos (by decide)]
  rfl
theorem lf58 : (58 : Int32) >>> ((8 : Int32) &&& 31) = 0 ∧ ((58 : Int32) >>> ((4 : Int32) &&& 31)) &&& (7 : Int32) = 3 ∧ (58 : Int32) &&& (15 : Int32) = 10 := by decide +kernel
theorem rx58 (s : CS) : tc_executeRowThree s 0 10 = bd (re_get s 2) fun v6 s11 => bd (re_get s11 1) fun v7 s12 => bd (re_set s12 2 (v6 + v7)) fun _ s9 => some ((0 : Int32), s9) := rfl
theorem cf58 (s : CS) : tc_executeLowerHalf s 58 = bd (tc_executeRowThree s 0 10) fun _ s1 => some ((0 : Int32), s1) := by
  obtain ⟨f1, f2, f3⟩ := lf58
  unfold tc_executeLowerHalf
  rw [nm_d, nm_d, nm_d, f1, f2, f3, sw_3]
theorem ml58 (s : MS) : mo_last s 58 = some ((0 : Int32), my_reg s (upd (mx_reg s) 2 (((mx_reg s 2) + (mx_reg s 1)) &&& (65535 : Int32)))) := by
  unfold mo_last
  rw [if_neg (by decide), if_pos (by decide)]
  rfl
theorem mf58 (s : MS) : mo_middle s 58 = bd (mo_last s 58) fun _ s3 => some ((0 : Int32), s3) := by
  unfold mo_middle
  rw [if_neg (by decide), if_neg (by decide), if_neg (by decide), if_neg (by decide), if_neg (by decide), if_neg (by decide), if_neg (by decide), if_neg (by decide), if_neg (by decide), if_neg (by decide), m_in, bd_s, if_pos (by decide), m_in, bd_s, if_pos (by decide)]
  rfl
theorem lf59 : (59 : Int32) >>> ((8 : Int32) &&& 31) = 0 ∧ ((59 : Int32) >>> ((4 : Int32) &&& 31)) &&& (7 : Int32) = 3 ∧ (59 : Int32) &&& (15 : Int32) = 11 := by decide +kernel
theorem rx59 (s : CS) : tc_executeRowThree s 0 11 = bd (tc_returnFromInterrupt s) fun _ s9 => some ((0 : Int32), s9) := rfl
theorem cf59 (s : CS) : tc_executeLowerHalf s 59 = bd (tc_executeRowThree s 0 11) fun _ s1 => some ((0 : Int32), s1) := by
  obtain ⟨f1, f2, f3⟩ := lf59
  unfold tc_executeLowerHalf
  rw [nm_d, nm_d, nm_d, f1, f2, f3, sw_3]
theorem ml59 (s : MS) : mo_last s 59 = bd (mo_back s) fun _ s9 => some ((0 : Int32), s9) := by
  unfold mo_last
  rw [if_neg (by decide), if_neg (by decide), if_pos (by decide)]
  rfl
theorem mf59 (s : MS) : mo_middle s 59 = bd (mo_last s 59) fun _ s3 => some ((0 : Int32), s3) := by
  unfold mo_middle
  rw [if_neg (by decide), if_neg (by decide), if_neg (by decide), if_neg (by decide), if_neg (by decide), if_neg (by decide), if_neg (by decide), if_neg (by decide), if_neg (by decide), if_neg (by decide), m_in, bd_s, if_pos (by decide), m_in, bd_s, if_pos (by decide)]
  rfl
theorem lf60 : (60 : Int32) >>> ((8 : Int32) &&& 31) = 0 ∧ ((60 : Int32) >>> ((4 : Int32) &&& 31)) &&& (7 : Int32) = 3 ∧ (60 : Int32) &&& (15 : Int32) = 12 := by decide +kernel
theorem rx60 (s : CS) : tc_executeRowThree s 0 12 = bd (tc_fetchByte s) fun v s1 => bd (tc_waitForInterrupt s1 v) fun _ s9 => some ((0 : Int32), s9) := rfl
theorem cf60 (s : CS) : tc_executeLowerHalf s 60 = bd (tc_executeRowThree s 0 12) fun _ s1 => some ((0 : Int32), s1) := by
  obtain ⟨f1, f2, f3⟩ := lf60
  unfold tc_executeLowerHalf
  rw [nm_d, nm_d, nm_d, f1, f2, f3, sw_3]
theorem ml60 (s : MS) : mo_last s 60 = bd (mo_next s) fun v1 s4 => bd (mo_pushState (my_reg s4 (upd (mx_reg s4) 8 ((mx_reg s 8) &&& v1)))) fun _ s6 => some ((0 : Int32), my_wai s6 2) := by
  unfold mo_last
  rw [if_neg (by decide), if_neg (by decide), if_neg (by decide), if_pos (by decide)]
  rfl
theorem mf60 (s : MS) : mo_middle s 60 = bd (mo_last s 60) fun _ s3 => some ((0 : Int32), s3) := by
  unfold mo_middle
  rw [if_neg (by decide), if_neg (by decide), if_neg (by decide), if_neg (by decide), if_neg (by decide), if_neg (by decide), if_neg (by decide), if_neg (by decide), if_neg (by decide), if_neg (by decide), m_in, bd_s, if_pos (by decide), m_in, bd_s, if_pos (by decide)]
  rfl
theorem lf61 : (61 : Int32) >>> ((8 : Int32) &&& 31) = 0 ∧ ((61 : Int32) >>> ((4 : Int32) &&& 31)) &&& (7 : Int32) = 3 ∧ (61 : Int32) &&& (15 : Int32) = 13 := by decide +kernel
theorem rx61 (s : CS) : tc_executeRowThree s 0 13 = bd (ar_multiply s) fun _ s9 => some ((0 : Int32), s9) := rfl
theorem cf61 (s : CS) : tc_executeLowerHalf s 61 = bd (tc_executeRowThree s 0 13) fun _ s1 => some ((0 : Int32), s1) := by
  obtain ⟨f1, f2, f3⟩ := lf61
  unfold tc_executeLowerHalf
  rw [nm_d, nm_d, nm_d, f1, f2, f3, sw_3]
theorem ml61 (s : MS) : mo_last s 61 = bd (mo_multiply s) fun _ s9 => some ((0 : Int32), s9) := by
  unfold mo_last
  rw [if_neg (by decide), if_neg (by decide), if_neg (by decide), if_neg (by decide), if_pos (by decide)]
  rfl
theorem mf61 (s : MS) : mo_middle s 61 = bd (mo_last s 61) fun _ s3 => some ((0 : Int32), s3) := by
  unfold mo_middle
  rw [if_neg (by decide), if_neg (by decide), if_neg (by decide), if_neg (by decide), if_neg (by decide), if_neg (by decide), if_neg (by decide), if_neg (by decide), if_neg (by decide), if_neg (by decide), m_in, bd_s, if_pos (by decide), m_in, bd_s, if_pos (by decide)]
  rfl
theorem lf63 : (63 : Int32) >>> ((8 : Int32) &&& 31) = 0 ∧ ((63 : Int32) >>> ((4 : Int32) &&& 31)) &&& (7 : Int32) = 3 ∧ (63 : Int32) &&& (15 : Int32) = 15 := by decide +kernel
theorem rx63 (s : CS) : tc_executeRowThree s 0 15 = bd (tc_softwareInterrupt s 0) fun _ s9 => some ((0 : Int32), s9) := rfl
theorem cf63 (s : CS) : tc_executeLowerHalf s 63 = bd (tc_executeRowThree s 0 15) fun _ s1 => some ((0 : Int32), s1) := by
  obtain ⟨f1, f2, f3⟩ := lf63
  unfold tc_executeLowerHalf
  rw [nm_d, nm_d, nm_d, f1, f2, f3, sw_3]
theorem ml63 (s : MS) : mo_last s 63 = bd (mo_trap s 65530 1) fun _ s9 => some ((0 : Int32), s9) := by
  unfold mo_last
  rw [if_neg (by decide), if_neg (by decide), if_neg (by decide), if_neg (by decide), if_neg (by decide), if_pos (by decide)]
  rfl
theorem mf63 (s : MS) : mo_middle s 63 = bd (mo_last s 63) fun _ s3 => some ((0 : Int32), s3) := by
  unfold mo_middle
  rw [if_neg (by decide), if_neg (by decide), if_neg (by decide), if_neg (by decide), if_neg (by decide), if_neg (by decide), if_neg (by decide), if_neg (by decide), if_neg (by decide), if_neg (by decide), m_in, bd_s, if_pos (by decide), m_in, bd_s, if_pos (by decide)]
  rfl
theorem rs18 (a : AS) (b : Nat → Int32) : Rs b (tc_executeLowerHalf (mC a) 18) (mo_middle (mM a b false) 18) := by
  rw [cf18, rx18, mf18]
  refine rs_c ?_
  exact rs_some
theorem rs19 (a : AS) (b : Nat → Int32) : Rs b (tc_executeLowerHalf (mC a) 19) (mo_middle (mM a b false) 19) := by
  rw [cf19, rx19, mf19]
  refine rs_c ?_
  exact ⟨0, 0, sW a 1, rfl, rfl⟩
theorem rs22 (a : AS) (b : Nat → Int32) : Rs b (tc_executeLowerHalf (mC a) 22) (mo_middle (mM a b false) 22) := by
  rw [cf22, rx22, mf22]
  refine rs_c ?_
  unfold mo_branch
  rw [if_neg (by decide), c_fetchWord, bd_s, c_goOn, bd_s, m_nextWord, bd_s]
  have g : ∀ (s : MS) (x : Int32), mo_branch_18 s 0 x = some (0, my_reg s (upd (mx_reg s) 6 ((mx_reg s 6 + x) &&& 65535))) := fun _ _ => rfl
  rw [g, m_reg6, add_x, and65535]
  unfold w16
  rw [m_set6, bd_s]
  exact rs_some
theorem rs23 (a : AS) (b : Nat → Int32) : Rs b (tc_executeLowerHalf (mC a) 23) (mo_middle (mM a b false) 23) := by
  rw [cf23, rx23, mf23]
  refine rs_c ?_
  exact rs_of (rl_lbsr a b)
theorem rs25 (a : AS) (b : Nat → Int32) : Rs b (tc_executeLowerHalf (mC a) 25) (mo_middle (mM a b false) 25) := by
  rw [cf25, rx25, mf25]
  refine rs_c ?_
  exact rs_m (rs_c (rs_of (rl_daa a b)))
theorem rs26 (a : AS) (b : Nat → Int32) : Rs b (tc_executeLowerHalf (mC a) 26) (mo_middle (mM a b false) 26) := by
  rw [cf26, rx26, mf26]
  refine rs_c ?_
  exact rs_of (rl_orcc a b)
theorem rs28 (a : AS) (b : Nat → Int32) : Rs b (tc_executeLowerHalf (mC a) 28) (mo_middle (mM a b false) 28) := by
  rw [cf28, rx28, mf28]
  refine rs_c ?_
  exact rs_of (rl_andcc a b)
theorem rs29 (a : AS) (b : Nat → Int32) : Rs b (tc_executeLowerHalf (mC a) 29) (mo_middle (mM a b false) 29) := by
  rw [cf29, rx29, mf29]
  refine rs_c ?_
  exact rs_c (rs_of (rl_sex a b))
theorem rs30 (a : AS) (b : Nat → Int32) (hd : dpr (fB a) = true) : Rs b (tc_executeLowerHalf (mC a) 30) (mo_middle (mM a b false) 30) := by
  rw [cf30, rx30, mf30]
  refine rs_c ?_
  have t := rs_m (rs_c (rs_of (rl_exg a b hd)))
  rw [bd_as] at t
  exact t
theorem rs31 (a : AS) (b : Nat → Int32) (hd : dpr (fB a) = true) : Rs b (tc_executeLowerHalf (mC a) 31) (mo_middle (mM a b false) 31) := by
  rw [cf31, rx31, mf31]
  refine rs_c ?_
  have t := rs_m (rs_c (rs_of (rl_tfr a b hd)))
  rw [bd_as] at t
  exact t
theorem rs48 (a : AS) (b : Nat → Int32) (hd : dpb (fB a) = true) : Rs b (tc_executeLowerHalf (mC a) 48) (mo_middle (mM a b false) 48) := by
  rw [cf48, rx48, mf48]
  refine rs_c ?_
  have t := rs_m (rs_c (rs_of (rl_lea2 a b hd)))
  rw [bd_as] at t
  exact t
theorem rs49 (a : AS) (b : Nat → Int32) (hd : dpb (fB a) = true) : Rs b (tc_executeLowerHalf (mC a) 49) (mo_middle (mM a b false) 49) := by
  rw [cf49, rx49, mf49]
  refine rs_c ?_
  have t := rs_m (rs_c (rs_of (rl_lea3 a b hd)))
  rw [bd_as] at t
  exact t
theorem rs50 (a : AS) (b : Nat → Int32) (hd : dpb (fB a) = true) : Rs b (tc_executeLowerHalf (mC a) 50) (mo_middle (mM a b false) 50) := by
  rw [cf50, rx50, mf50]
  refine rs_c ?_
  have t := rs_m (rs_c (rs_of (rl_lea5 a b hd)))
  rw [bd_as] at t
  exact t
theorem rs51 (a : AS) (b : Nat → Int32) (hd : dpb (fB a) = true) : Rs b (tc_executeLowerHalf (mC a) 51) (mo_middle (mM a b false) 51) := by
  rw [cf51, rx51, mf51]
  refine rs_c ?_
  have t := rs_m (rs_c (rs_of (rl_lea4 a b hd)))
  rw [bd_as] at t
  exact t
theorem rs52 (a : AS) (b : Nat → Int32) : Rs b (tc_executeLowerHalf (mC a) 52) (mo_middle (mM a b false) 52) := by
  rw [cf52, rx52, mf52]
  refine rs_c ?_
  rw [c_fetchByte, bd_s, m_next, bd_s]
  exact rs_m (rs_c (rs_of (pa0_5 _ b false (fB a))))
theorem rs53 (a : AS) (b : Nat → Int32) : Rs b (tc_executeLowerHalf (mC a) 53) (mo_middle (mM a b false) 53) := by
  rw [cf53, rx53, mf53]
  refine rs_c ?_
  rw [c_fetchByte, bd_s, m_next, bd_s]
  exact rs_m (rs_c (rs_of (pu0_5 _ b false (fB a))))
theorem rs54 (a : AS) (b : Nat → Int32) : Rs b (tc_executeLowerHalf (mC a) 54) (mo_middle (mM a b false) 54) := by
  rw [cf54, rx54, mf54]
  refine rs_c ?_
  rw [c_fetchByte, bd_s, m_next, bd_s]
  exact rs_m (rs_c (rs_of (pa0_4 _ b false (fB a))))
theorem rs55 (a : AS) (b : Nat → Int32) : Rs b (tc_executeLowerHalf (mC a) 55) (mo_middle (mM a b false) 55) := by
  rw [cf55, rx55, mf55]
  refine rs_c ?_
  rw [c_fetchByte, bd_s, m_next, bd_s]
  exact rs_m (rs_c (rs_of (pu0_4 _ b false (fB a))))
theorem rs57 (a : AS) (b : Nat → Int32) : Rs b (tc_executeLowerHalf (mC a) 57) (mo_middle (mM a b false) 57) := by
  rw [cf57, rx57, mf57, ml57]
  refine rs_c ?_
  exact rs_m (rs_of (rl_rts a b))
theorem rs58 (a : AS) (b : Nat → Int32) : Rs b (tc_executeLowerHalf (mC a) 58) (mo_middle (mM a b false) 58) := by
  rw [cf58, rx58, mf58, ml58]
  refine rs_c ?_
  exact rs_m (rs_of (rl_abx a b))
theorem rs59 (a : AS) (b : Nat → Int32) : Rs b (tc_executeLowerHalf (mC a) 59) (mo_middle (mM a b false) 59) := by
  rw [cf59, rx59, mf59, ml59]
  refine rs_c ?_
  exact rs_m (rs_m (rs_c (rs_of (rl_back a b))))
theorem rs60 (a : AS) (b : Nat → Int32) : Rs b (tc_executeLowerHalf (mC a) 60) (mo_middle (mM a b false) 60) := by
  rw [cf60, rx60, mf60, ml60]
  refine rs_c ?_
  have t := rs_m (rs_c (rs_of (rl_cwai a b)))
  rw [bd_as] at t
  exact t
theorem rs61 (a : AS) (b : Nat → Int32) : Rs b (tc_executeLowerHalf (mC a) 61) (mo_middle (mM a b false) 61) := by
  rw [cf61, rx61, mf61, ml61]
  refine rs_c ?_
  exact rs_m (rs_m (rs_c (rs_of (rl_mul a b))))
theorem rs63 (a : AS) (b : Nat → Int32) : Rs b (tc_executeLowerHalf (mC a) 63) (mo_middle (mM a b false) 63) := by
  rw [cf63, rx63, mf63, ml63]
  refine rs_c ?_
  exact rs_m (rs_m (rs_c (rs_of (rl_swi0 a b))))
theorem un20 (a : AS) (b : Nat → Int32) : Un a b (mo_middle (mM a b false) 20) := by
  unfold mo_middle mo_last
  rw [if_neg (by decide), if_neg (by decide), if_neg (by decide), if_neg (by decide), if_neg (by decide), if_neg (by decide), if_neg (by decide), if_neg (by decide), if_neg (by decide), if_neg (by decide), m_in, bd_s, if_pos (by decide), m_in, bd_s, if_pos (by decide), if_neg (by decide), if_neg (by decide), if_neg (by decide), if_neg (by decide), if_neg (by decide), if_neg (by decide), ns_d, my_und1]
  exact un_of rfl (o6_rf a)
theorem un21 (a : AS) (b : Nat → Int32) : Un a b (mo_middle (mM a b false) 21) := by
  unfold mo_middle mo_last
  rw [if_neg (by decide), if_neg (by decide), if_neg (by decide), if_neg (by decide), if_neg (by decide), if_neg (by decide), if_neg (by decide), if_neg (by decide), if_neg (by decide), if_neg (by decide), m_in, bd_s, if_pos (by decide), m_in, bd_s, if_pos (by decide), if_neg (by decide), if_neg (by decide), if_neg (by decide), if_neg (by decide), if_neg (by decide), if_neg (by decide), ns_d, my_und1]
  exact un_of rfl (o6_rf a)
theorem un24 (a : AS) (b : Nat → Int32) : Un a b (mo_middle (mM a b false) 24) := by
  unfold mo_middle mo_last
  rw [if_neg (by decide), if_neg (by decide), if_neg (by decide), if_neg (by decide), if_neg (by decide), if_neg (by decide), if_neg (by decide), if_neg (by decide), if_neg (by decide), if_neg (by decide), m_in, bd_s, if_pos (by decide), m_in, bd_s, if_pos (by decide), if_neg (by decide), if_neg (by decide), if_neg (by decide), if_neg (by decide), if_neg (by decide), if_neg (by decide), ns_d, my_und1]
  exact un_of rfl (o6_rf a)
theorem un27 (a : AS) (b : Nat → Int32) : Un a b (mo_middle (mM a b false) 27) := by
  unfold mo_middle mo_last
  rw [if_neg (by decide), if_neg (by decide), if_neg (by decide), if_neg (by decide), if_neg (by decide), if_neg (by decide), if_neg (by decide), if_neg (by decide), if_neg (by decide), if_neg (by decide), m_in, bd_s, if_pos (by decide), m_in, bd_s, if_pos (by decide), if_neg (by decide), if_neg (by decide), if_neg (by decide), if_neg (by decide), if_neg (by decide), if_neg (by decide), ns_d, my_und1]
  exact un_of rfl (o6_rf a)
theorem un56 (a : AS) (b : Nat → Int32) : Un a b (mo_middle (mM a b false) 56) := by
  unfold mo_middle mo_last
  rw [if_neg (by decide), if_neg (by decide), if_neg (by decide), if_neg (by decide), if_neg (by decide), if_neg (by decide), if_neg (by decide), if_neg (by decide), if_neg (by decide), if_neg (by decide), m_in, bd_s, if_pos (by decide), m_in, bd_s, if_pos (by decide), if_neg (by decide), if_neg (by decide), if_neg (by decide), if_neg (by decide), if_neg (by decide), if_neg (by decide), ns_d, my_und1]
  exact un_of rfl (o6_rf a)
theorem un62 (a : AS) (b : Nat → Int32) : Un a b (mo_middle (mM a b false) 62) := by
  unfold mo_middle mo_last
  rw [if_neg (by decide), if_neg (by decide), if_neg (by decide), if_neg (by decide), if_neg (by decide), if_neg (by decide), if_neg (by decide), if_neg (by decide), if_neg (by decide), if_neg (by decide), m_in, bd_s, if_pos (by decide), m_in, bd_s, if_pos (by decide), if_neg (by decide), if_neg (by decide), if_neg (by decide), if_neg (by decide), if_neg (by decide), if_neg (by decide), ns_d, my_und1]
  exact un_of rfl (o6_rf a)
theorem un30 (a : AS) (b : Nat → Int32) (hd : dpr (fB a) = false) : Un a b (mo_middle (mM a b false) 30) := by
  rw [mf30, un_ex a b 1 hd, bd_s]
  exact un_of rfl (o6_fS a)
theorem un31 (a : AS) (b : Nat → Int32) (hd : dpr (fB a) = false) : Un a b (mo_middle (mM a b false) 31) := by
  rw [mf31, un_ex a b 0 hd, bd_s]
  exact un_of rfl (o6_fS a)
theorem un48 (a : AS) (b : Nat → Int32) (hd : dpb (fB a) = false) : Un a b (mo_middle (mM a b false) 48) := by
  rw [mf48, un_lea a b 2 hd, bd_s]
  exact un_of rfl (o6_fS a)
theorem un49 (a : AS) (b : Nat → Int32) (hd : dpb (fB a) = false) : Un a b (mo_middle (mM a b false) 49) := by
  rw [mf49, un_lea a b 3 hd, bd_s]
  exact un_of rfl (o6_fS a)
theorem un50 (a : AS) (b : Nat → Int32) (hd : dpb (fB a) = false) : Un a b (mo_middle (mM a b false) 50) := by
  rw [mf50, un_lea a b 5 hd, bd_s]
  exact un_of rfl (o6_fS a)
theorem un51 (a : AS) (b : Nat → Int32) (hd : dpb (fB a) = false) : Un a b (mo_middle (mM a b false) 51) := by
  rw [mf51, un_lea a b 4 hd, bd_s]
  exact un_of rfl (o6_fS a)
