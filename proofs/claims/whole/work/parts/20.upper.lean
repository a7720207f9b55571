theorem kp_cy {a z : AS} (h : kp a z) : cyN z = cyN a := by
  unfold cyN
  rw [h.2.2.2]
theorem rl_some {b : Nat → Int32} {x : Option (Int32 × CS)} {y : Option (Int32 × MS)} {z : AS} (h1 : x = some (nI 0, mC z)) (h2 : y = some (nI 0, mM z b false)) : Rl PT b false x y := ⟨0, z, h1, h2, trivial⟩
theorem cd_0_0 : ∀ m, m < 4 → nI (128 + 16 * m) >>> ((8 : Int32) &&& 31) = 0 ∧ nI (128 + 16 * m) &&& (15 : Int32) = (0 : Int32) ∧ (nI (128 + 16 * m) &&& (64 : Int32) = 0 ↔ True) ∧ (nI (128 + 16 * m) >>> ((4 : Int32) &&& 31)) &&& (3 : Int32) = nI m ∧ (nI (128 + 16 * m) = (141 : Int32) ↔ False) ∧ (nI (128 + 16 * m) < (192 : Int32) ↔ True) := by decide +kernel
theorem c_up0_0 (s : CS) (m : Nat) (hm : m < 4) : tc_executeUpperHalf s (nI (128 + 16 * m)) = bd (tc_operandAddress s (nI m) 1) fun v1 s1 => bd (tc_operateOnByte s1 0 0 v1) fun _ s2 => some ((0 : Int32), s2) := by
  obtain ⟨f1, f2, f3, f4, f5, f6⟩ := cd_0_0 m hm
  unfold tc_executeUpperHalf
  rw [if_neg (fun z => f5.mp z), nm_d, nm_d, f1, f2, if_pos (f3.mpr trivial)]
  unfold tc_executeUpperHalf_39 tc_executeUpperHalf_57
  rw [if_neg (by decide), if_pos (by decide), if_pos (by decide), f4]
  rfl
theorem m_up0_0 (s : MS) (m : Nat) (hm : m < 4) : mo_upper s (nI (128 + 16 * m)) = bd (mo_accumulate s (nI (128 + 16 * m)) 0) fun _ s1 => some ((0 : Int32), s1) := by
  obtain ⟨f1, f2, f3, f4, f5, f6⟩ := cd_0_0 m hm
  unfold mo_upper
  rw [nm_d, nm_d, f2, f4, if_pos (f6.mpr trivial)]
  unfold mo_upper_23
  rw [if_neg (by decide), if_neg (by decide), if_pos (by decide)]
  unfold mo_upper_48
  apply congrArg (bd _)
  funext _ t
  unfold mo_upper_51 mo_upper_71 mo_upper_88 mo_upper_106 mo_upper_123 mo_upper_139 mo_upper_160
  rw [if_neg (by decide), if_neg (by decide), if_neg (by decide), if_neg (by decide), if_neg (by decide), if_neg (by decide), if_neg (by decide)]
  rfl
theorem cd_0_1 : ∀ m, m < 4 → nI (129 + 16 * m) >>> ((8 : Int32) &&& 31) = 0 ∧ nI (129 + 16 * m) &&& (15 : Int32) = (1 : Int32) ∧ (nI (129 + 16 * m) &&& (64 : Int32) = 0 ↔ True) ∧ (nI (129 + 16 * m) >>> ((4 : Int32) &&& 31)) &&& (3 : Int32) = nI m ∧ (nI (129 + 16 * m) = (141 : Int32) ↔ False) ∧ (nI (129 + 16 * m) < (192 : Int32) ↔ True) := by decide +kernel
theorem c_up0_1 (s : CS) (m : Nat) (hm : m < 4) : tc_executeUpperHalf s (nI (129 + 16 * m)) = bd (tc_operandAddress s (nI m) 1) fun v1 s1 => bd (tc_operateOnByte s1 1 0 v1) fun _ s2 => some ((0 : Int32), s2) := by
  obtain ⟨f1, f2, f3, f4, f5, f6⟩ := cd_0_1 m hm
  unfold tc_executeUpperHalf
  rw [if_neg (fun z => f5.mp z), nm_d, nm_d, f1, f2, if_pos (f3.mpr trivial)]
  unfold tc_executeUpperHalf_39 tc_executeUpperHalf_57
  rw [if_neg (by decide), if_pos (by decide), if_pos (by decide), f4]
  rfl
theorem m_up0_1 (s : MS) (m : Nat) (hm : m < 4) : mo_upper s (nI (129 + 16 * m)) = bd (mo_accumulate s (nI (129 + 16 * m)) 0) fun _ s1 => some ((0 : Int32), s1) := by
  obtain ⟨f1, f2, f3, f4, f5, f6⟩ := cd_0_1 m hm
  unfold mo_upper
  rw [nm_d, nm_d, f2, f4, if_pos (f6.mpr trivial)]
  unfold mo_upper_23
  rw [if_neg (by decide), if_neg (by decide), if_pos (by decide)]
  unfold mo_upper_48
  apply congrArg (bd _)
  funext _ t
  unfold mo_upper_51 mo_upper_71 mo_upper_88 mo_upper_106 mo_upper_123 mo_upper_139 mo_upper_160
  rw [if_neg (by decide), if_neg (by decide), if_neg (by decide), if_neg (by decide), if_neg (by decide), if_neg (by decide), if_neg (by decide)]
  rfl
theorem cd_0_2 : ∀ m, m < 4 → nI (130 + 16 * m) >>> ((8 : Int32) &&& 31) = 0 ∧ nI (130 + 16 * m) &&& (15 : Int32) = (2 : Int32) ∧ (nI (130 + 16 * m) &&& (64 : Int32) = 0 ↔ True) ∧ (nI (130 + 16 * m) >>> ((4 : Int32) &&& 31)) &&& (3 : Int32) = nI m ∧ (nI (130 + 16 * m) = (141 : Int32) ↔ False) ∧ (nI (130 + 16 * m) < (192 : Int32) ↔ True) := by decide +kernel
theorem c_up0_2 (s : CS) (m : Nat) (hm : m < 4) : tc_executeUpperHalf s (nI (130 + 16 * m)) = bd (tc_operandAddress s (nI m) 1) fun v1 s1 => bd (tc_operateOnByte s1 2 0 v1) fun _ s2 => some ((0 : Int32), s2) := by
  obtain ⟨f1, f2, f3, f4, f5, f6⟩ := cd_0_2 m hm
  unfold tc_executeUpperHalf
  rw [if_neg (fun z => f5.mp z), nm_d, nm_d, f1, f2, if_pos (f3.mpr trivial)]
  unfold tc_executeUpperHalf_39 tc_executeUpperHalf_57
  rw [if_neg (by decide), if_pos (by decide), if_pos (by decide), f4]
  rfl
theorem m_up0_2 (s : MS) (m : Nat) (hm : m < 4) : mo_upper s (nI (130 + 16 * m)) = bd (mo_accumulate s (nI (130 + 16 * m)) 0) fun _ s1 => some ((0 : Int32), s1) := by
  obtain ⟨f1, f2, f3, f4, f5, f6⟩ := cd_0_2 m hm
  unfold mo_upper
  rw [nm_d, nm_d, f2, f4, if_pos (f6.mpr trivial)]
  unfold mo_upper_23
  rw [if_neg (by decide), if_neg (by decide), if_pos (by decide)]
  unfold mo_upper_48
  apply congrArg (bd _)
  funext _ t
  unfold mo_upper_51 mo_upper_71 mo_upper_88 mo_upper_106 mo_upper_123 mo_upper_139 mo_upper_160
  rw [if_neg (by decide), if_neg (by decide), if_neg (by decide), if_neg (by decide), if_neg (by decide), if_neg (by decide), if_neg (by decide)]
  rfl
theorem cd_0_3 : ∀ m, m < 4 → nI (131 + 16 * m) >>> ((8 : Int32) &&& 31) = 0 ∧ nI (131 + 16 * m) &&& (15 : Int32) = (3 : Int32) ∧ (nI (131 + 16 * m) &&& (64 : Int32) = 0 ↔ True) ∧ (nI (131 + 16 * m) >>> ((4 : Int32) &&& 31)) &&& (3 : Int32) = nI m ∧ (nI (131 + 16 * m) = (141 : Int32) ↔ False) ∧ (nI (131 + 16 * m) < (192 : Int32) ↔ True) := by decide +kernel
theorem c_up0_3 (s : CS) (m : Nat) (hm : m < 4) : tc_executeUpperHalf s (nI (131 + 16 * m)) = bd (tc_operandAddress s (nI m) 2) fun v1 s1 => bd (tc_operateOnWord s1 0 3 0 v1) fun _ s2 => some ((0 : Int32), s2) := by
  obtain ⟨f1, f2, f3, f4, f5, f6⟩ := cd_0_3 m hm
  unfold tc_executeUpperHalf
  rw [if_neg (fun z => f5.mp z), nm_d, nm_d, f1, f2, if_pos (f3.mpr trivial)]
  unfold tc_executeUpperHalf_39 tc_executeUpperHalf_52 tc_executeUpperHalf_57
  rw [if_pos (by decide), if_neg (by decide), f4]
  rfl
theorem m_up0_3 (s : MS) (m : Nat) (hm : m < 4) : mo_upper s (nI (131 + 16 * m)) = bd (mo_addWord s (nI m) 1) fun _ s1 => some ((0 : Int32), s1) := by
  obtain ⟨f1, f2, f3, f4, f5, f6⟩ := cd_0_3 m hm
  unfold mo_upper
  rw [nm_d, nm_d, f2, f4, if_pos (f6.mpr trivial)]
  unfold mo_upper_23
  rw [if_neg (by decide), if_pos (by decide)]
  unfold mo_upper_51 mo_upper_71 mo_upper_88 mo_upper_106 mo_upper_123 mo_upper_139 mo_upper_160
  rw [if_pos (by decide), if_pos (by decide)]
  unfold mo_upper_68
  apply congrArg (bd _)
  funext _ t
  unfold mo_upper_71 mo_upper_88 mo_upper_106 mo_upper_123 mo_upper_139 mo_upper_160
  rw [if_neg (by decide), if_neg (by decide), if_neg (by decide), if_neg (by decide), if_neg (by decide), if_neg (by decide)]
  rfl
theorem cd_0_4 : ∀ m, m < 4 → nI (132 + 16 * m) >>> ((8 : Int32) &&& 31) = 0 ∧ nI (132 + 16 * m) &&& (15 : Int32) = (4 : Int32) ∧ (nI (132 + 16 * m) &&& (64 : Int32) = 0 ↔ True) ∧ (nI (132 + 16 * m) >>> ((4 : Int32) &&& 31)) &&& (3 : Int32) = nI m ∧ (nI (132 + 16 * m) = (141 : Int32) ↔ False) ∧ (nI (132 + 16 * m) < (192 : Int32) ↔ True) := by decide +kernel
theorem c_up0_4 (s : CS) (m : Nat) (hm : m < 4) : tc_executeUpperHalf s (nI (132 + 16 * m)) = bd (tc_operandAddress s (nI m) 1) fun v1 s1 => bd (tc_operateOnByte s1 4 0 v1) fun _ s2 => some ((0 : Int32), s2) := by
  obtain ⟨f1, f2, f3, f4, f5, f6⟩ := cd_0_4 m hm
  unfold tc_executeUpperHalf
  rw [if_neg (fun z => f5.mp z), nm_d, nm_d, f1, f2, if_pos (f3.mpr trivial)]
  unfold tc_executeUpperHalf_39 tc_executeUpperHalf_57
  rw [if_neg (by decide), if_pos (by decide), if_pos (by decide), f4]
  rfl
theorem m_up0_4 (s : MS) (m : Nat) (hm : m < 4) : mo_upper s (nI (132 + 16 * m)) = bd (mo_accumulate s (nI (132 + 16 * m)) 0) fun _ s1 => some ((0 : Int32), s1) := by
  obtain ⟨f1, f2, f3, f4, f5, f6⟩ := cd_0_4 m hm
  unfold mo_upper
  rw [nm_d, nm_d, f2, f4, if_pos (f6.mpr trivial)]
  unfold mo_upper_23
  rw [if_neg (by decide), if_neg (by decide), if_pos (by decide)]
  unfold mo_upper_48
  apply congrArg (bd _)
  funext _ t
  unfold mo_upper_51 mo_upper_71 mo_upper_88 mo_upper_106 mo_upper_123 mo_upper_139 mo_upper_160
  rw [if_neg (by decide), if_neg (by decide), if_neg (by decide), if_neg (by decide), if_neg (by decide), if_neg (by decide), if_neg (by decide)]
  rfl
theorem cd_0_5 : ∀ m, m < 4 → nI (133 + 16 * m) >>> ((8 : Int32) &&& 31) = 0 ∧ nI (133 + 16 * m) &&& (15 : Int32) = (5 : Int32) ∧ (nI (133 + 16 * m) &&& (64 : Int32) = 0 ↔ True) ∧ (nI (133 + 16 * m) >>> ((4 : Int32) &&& 31)) &&& (3 : Int32) = nI m ∧ (nI (133 + 16 * m) = (141 : Int32) ↔ False) ∧ (nI (133 + 16 * m) < (192 : Int32) ↔ True) := by decide +kernel
theorem c_up0_5 (s : CS) (m : Nat) (hm : m < 4) : tc_executeUpperHalf s (nI (133 + 16 * m)) = bd (tc_operandAddress s (nI m) 1) fun v1 s1 => bd (tc_operateOnByte s1 5 0 v1) fun _ s2 => some ((0 : Int32), s2) := by
  obtain ⟨f1, f2, f3, f4, f5, f6⟩ := cd_0_5 m hm
  unfold tc_executeUpperHalf
  rw [if_neg (fun z => f5.mp z), nm_d, nm_d, f1, f2, if_pos (f3.mpr trivial)]
  unfold tc_executeUpperHalf_39 tc_executeUpperHalf_57
  rw [if_neg (by decide), if_pos (by decide), if_pos (by decide), f4]
  rfl
theorem m_up0_5 (s : MS) (m : Nat) (hm : m < 4) : mo_upper s (nI (133 + 16 * m)) = bd (mo_accumulate s (nI (133 + 16 * m)) 0) fun _ s1 => some ((0 : Int32), s1) := by
  obtain ⟨f1, f2, f3, f4, f5, f6⟩ := cd_0_5 m hm
  unfold mo_upper
  rw [nm_d, nm_d, f2, f4, if_pos (f6.mpr trivial)]
  unfold mo_upper_23
  rw [if_neg (by decide), if_neg (by decide), if_pos (by decide)]
  unfold mo_upper_48
  apply congrArg (bd _)
  funext _ t
  unfold mo_upper_51 mo_upper_71 mo_upper_88 mo_upper_106 mo_upper_123 mo_upper_139 mo_upper_160
  rw [if_neg (by decide), if_neg (by decide), if_neg (by decide), if_neg (by decide), if_neg (by decide), if_neg (by decide), if_neg (by decide)]
  rfl
theorem cd_0_6 : ∀ m, m < 4 → nI (134 + 16 * m) >>> ((8 : Int32) &&& 31) = 0 ∧ nI (134 + 16 * m) &&& (15 : Int32) = (6 : Int32) ∧ (nI (134 + 16 * m) &&& (64 : Int32) = 0 ↔ True) ∧ (nI (134 + 16 * m) >>> ((4 : Int32) &&& 31)) &&& (3 : Int32) = nI m ∧ (nI (134 + 16 * m) = (141 : Int32) ↔ False) ∧ (nI (134 + 16 * m) < (192 : Int32) ↔ True) := by decide +kernel
theorem c_up0_6 (s : CS) (m : Nat) (hm : m < 4) : tc_executeUpperHalf s (nI (134 + 16 * m)) = bd (tc_operandAddress s (nI m) 1) fun v1 s1 => bd (tc_operateOnByte s1 6 0 v1) fun _ s2 => some ((0 : Int32), s2) := by
  obtain ⟨f1, f2, f3, f4, f5, f6⟩ := cd_0_6 m hm
  unfold tc_executeUpperHalf
  rw [if_neg (fun z => f5.mp z), nm_d, nm_d, f1, f2, if_pos (f3.mpr trivial)]
  unfold tc_executeUpperHalf_39 tc_executeUpperHalf_57
  rw [if_neg (by decide), if_pos (by decide), if_pos (by decide), f4]
  rfl
theorem m_up0_6 (s : MS) (m : Nat) (hm : m < 4) : mo_upper s (nI (134 + 16 * m)) = bd (mo_accumulate s (nI (134 + 16 * m)) 0) fun _ s1 => some ((0 : Int32), s1) := by
  obtain ⟨f1, f2, f3, f4, f5, f6⟩ := cd_0_6 m hm
  unfold mo_upper
  rw [nm_d, nm_d, f2, f4, if_pos (f6.mpr trivial)]
  unfold mo_upper_23
  rw [if_neg (by decide), if_neg (by decide), if_pos (by decide)]
  unfold mo_upper_48
  apply congrArg (bd _)
  funext _ t
  unfold mo_upper_51 mo_upper_71 mo_upper_88 mo_upper_106 mo_upper_123 mo_upper_139 mo_upper_160
  rw [if_neg (by decide), if_neg (by decide), if_neg (by decide), if_neg (by decide), if_neg (by decide), if_neg (by decide), if_neg (by decide)]
  rfl
theorem cd_0_7 : ∀ m, m < 4 → nI (135 + 16 * m) >>> ((8 : Int32) &&& 31) = 0 ∧ nI (135 + 16 * m) &&& (15 : Int32) = (7 : Int32) ∧ (nI (135 + 16 * m) &&& (64 : Int32) = 0 ↔ True) ∧ (nI (135 + 16 * m) >>> ((4 : Int32) &&& 31)) &&& (3 : Int32) = nI m ∧ (nI (135 + 16 * m) = (141 : Int32) ↔ False) ∧ (nI (135 + 16 * m) < (192 : Int32) ↔ True) := by decide +kernel
theorem c_up0_7 (s : CS) (m : Nat) (hm : m < 4) : tc_executeUpperHalf s (nI (135 + 16 * m)) = bd (tc_operandAddress s (nI m) 1) fun v1 s1 => bd (tc_operateOnByte s1 7 0 v1) fun _ s2 => some ((0 : Int32), s2) := by
  obtain ⟨f1, f2, f3, f4, f5, f6⟩ := cd_0_7 m hm
  unfold tc_executeUpperHalf
  rw [if_neg (fun z => f5.mp z), nm_d, nm_d, f1, f2, if_pos (f3.mpr trivial)]
  unfold tc_executeUpperHalf_39 tc_executeUpperHalf_57
  rw [if_neg (by decide), if_pos (by decide), if_pos (by decide), f4]
  rfl
theorem m_up0_7 (s : MS) (m : Nat) (hm : m < 4) : mo_upper s (nI (135 + 16 * m)) = bd (mo_accumulate s (nI (135 + 16 * m)) 0) fun _ s1 => some ((0 : Int32), s1) := by
  obtain ⟨f1, f2, f3, f4, f5, f6⟩ := cd_0_7 m hm
  unfold mo_upper
  rw [nm_d, nm_d, f2, f4, if_pos (f6.mpr trivial)]
  unfold mo_upper_23
  rw [if_neg (by decide), if_neg (by decide), if_pos (by decide)]
  unfold mo_upper_48
  apply congrArg (bd _)
  funext _ t
  unfold mo_upper_51 mo_upper_71 mo_upper_88 mo_upper_106 mo_upper_123 mo_upper_139 mo_upper_160
  rw [if_neg (by decide), if_neg (by decide), if_neg (by decide), if_neg (by decide), if_neg (by decide), if_neg (by decide), if_neg (by decide)]
  rfl
theorem cd_0_8 : ∀ m, m < 4 → nI (136 + 16 * m) >>> ((8 : Int32) &&& 31) = 0 ∧ nI (136 + 16 * m) &&& (15 : Int32) = (8 : Int32) ∧ (nI (136 + 16 * m) &&& (64 : Int32) = 0 ↔ True) ∧ (nI (136 + 16 * m) >>> ((4 : Int32) &&& 31)) &&& (3 : Int32) = nI m ∧ (nI (136 + 16 * m) = (141 : Int32) ↔ False) ∧ (nI (136 + 16 * m) < (192 : Int32) ↔ True) := by decide +kernel
theorem c_up0_8 (s : CS) (m : Nat) (hm : m < 4) : tc_executeUpperHalf s (nI (136 + 16 * m)) = bd (tc_operandAddress s (nI m) 1) fun v1 s1 => bd (tc_operateOnByte s1 8 0 v1) fun _ s2 => some ((0 : Int32), s2) := by
  obtain ⟨f1, f2, f3, f4, f5, f6⟩ := cd_0_8 m hm
  unfold tc_executeUpperHalf
  rw [if_neg (fun z => f5.mp z), nm_d, nm_d, f1, f2, if_pos (f3.mpr trivial)]
  unfold tc_executeUpperHalf_39 tc_executeUpperHalf_57
  rw [if_neg (by decide), if_pos (by decide), if_pos (by decide), f4]
  rfl
theorem m_up0_8 (s : MS) (m : Nat) (hm : m < 4) : mo_upper s (nI (136 + 16 * m)) = bd (mo_accumulate s (nI (136 + 16 * m)) 0) fun _ s1 => some ((0 : Int32), s1) := by
  obtain ⟨f1, f2, f3, f4, f5, f6⟩ := cd_0_8 m hm
  unfold mo_upper
  rw [nm_d, nm_d, f2, f4, if_pos (f6.mpr trivial)]
  unfold mo_upper_23
  rw [if_neg (by decide), if_neg (by decide), if_pos (by decide)]
  unfold mo_upper_48
  apply congrArg (bd _)
  funext _ t
  unfold mo_upper_51 mo_upper_71 mo_upper_88 mo_upper_106 mo_upper_123 mo_upper_139 mo_upper_160
  rw [if_neg (by decide), if_neg (by decide), if_neg (by decide), if_neg (by decide), if_neg (by decide), if_neg (by decide), if_neg (by decide)]
  rfl
theorem cd_0_9 : ∀ m, m < 4 → nI (137 + 16 * m) >>> ((8 : Int32) &&& 31) = 0 ∧ nI (137 + 16 * m) &&& (15 : Int32) = (9 : Int32) ∧ (nI (137 + 16 * m) &&& (64 : Int32) = 0 ↔ True) ∧ (nI (137 + 16 * m) >>> ((4 : Int32) &&& 31)) &&& (3 : Int32) = nI m ∧ (nI (137 + 16 * m) = (141 : Int32) ↔ False) ∧ (nI (137 + 16 * m) < (192 : Int32) ↔ True) := by decide +kernel
theorem c_up0_9 (s : CS) (m : Nat) (hm : m < 4) : tc_executeUpperHalf s (nI (137 + 16 * m)) = bd (tc_operandAddress s (nI m) 1) fun v1 s1 => bd (tc_operateOnByte s1 9 0 v1) fun _ s2 => some ((0 : Int32), s2) := by
  obtain ⟨f1, f2, f3, f4, f5, f6⟩ := cd_0_9 m hm
  unfold tc_executeUpperHalf
  rw [if_neg (fun z => f5.mp z), nm_d, nm_d, f1, f2, if_pos (f3.mpr trivial)]
  unfold tc_executeUpperHalf_39 tc_executeUpperHalf_57
  rw [if_neg (by decide), if_pos (by decide), if_pos (by decide), f4]
  rfl
theorem m_up0_9 (s : MS) (m : Nat) (hm : m < 4) : mo_upper s (nI (137 + 16 * m)) = bd (mo_accumulate s (nI (137 + 16 * m)) 0) fun _ s1 => some ((0 : Int32), s1) := by
  obtain ⟨f1, f2, f3, f4, f5, f6⟩ := cd_0_9 m hm
  unfold mo_upper
  rw [nm_d, nm_d, f2, f4, if_pos (f6.mpr trivial)]
  unfold mo_upper_23
  rw [if_neg (by decide), if_neg (by decide), if_pos (by decide)]
  unfold mo_upper_48
  apply congrArg (bd _)
  funext _ t
  unfold mo_upper_51 mo_upper_71 mo_upper_88 mo_upper_106 mo_upper_123 mo_upper_139 mo_upper_160
  rw [if_neg (by decide), if_neg (by decide), if_neg (by decide), if_neg (by decide), if_neg (by decide), if_neg (by decide), if_neg (by decide)]
  rfl
theorem cd_0_10 : ∀ m, m < 4 → nI (138 + 16 * m) >>> ((8 : Int32) &&& 31) = 0 ∧ nI (138 + 16 * m) &&& (15 : Int32) = (10 : Int32) ∧ (nI (138 + 16 * m) &&& (64 : Int32) = 0 ↔ True) ∧ (nI (138 + 16 * m) >>> ((4 : Int32) &&& 31)) &&& (3 : Int32) = nI m ∧ (nI (138 + 16 * m) = (141 : Int32) ↔ False) ∧ (nI (138 + 16 * m) < (192 : Int32) ↔ True) := by decide +kernel
theorem c_up0_10 (s : CS) (m : Nat) (hm : m < 4) : tc_executeUpperHalf s (nI (138 + 16 * m)) = bd (tc_operandAddress s (nI m) 1) fun v1 s1 => bd (tc_operateOnByte s1 10 0 v1) fun _ s2 => some ((0 : Int32), s2) := by
  obtain ⟨f1, f2, f3, f4, f5, f6⟩ := cd_0_10 m hm
  unfold tc_executeUpperHalf
  rw [if_neg (fun z => f5.mp z), nm_d, nm_d, f1, f2, if_pos (f3.mpr trivial)]
  unfold tc_executeUpperHalf_39 tc_executeUpperHalf_57
  rw [if_neg (by decide), if_pos (by decide), if_pos (by decide), f4]
  rfl
theorem m_up0_10 (s : MS) (m : Nat) (hm : m < 4) : mo_upper s (nI (138 + 16 * m)) = bd (mo_accumulate s (nI (138 + 16 * m)) 0) fun _ s1 => some ((0 : Int32), s1) := by
  obtain ⟨f1, f2, f3, f4, f5, f6⟩ := cd_0_10 m hm
  unfold mo_upper
  rw [nm_d, nm_d, f2, f4, if_pos (f6.mpr trivial)]
  unfold mo_upper_23
  rw [if_neg (by decide), if_neg (by decide), if_pos (by decide)]
  unfold mo_upper_48
  apply congrArg (bd _)
  funext _ t
  unfold mo_upper_51 mo_upper_71 mo_upper_88 mo_upper_106 mo_upper_123 mo_upper_139 mo_upper_160
  rw [if_neg (by decide), if_neg (by decide), if_neg (by decide), if_neg (by decide), if_neg (by decide), if_neg (by decide), if_neg (by decide)]
  rfl
theorem cd_0_11 : ∀ m, m < 4 → nI (139 + 16 * m) >>> ((8 : Int32) &&& 31) = 0 ∧ nI (139 + 16 * m) &&& (15 : Int32) = (11 : Int32) ∧ (nI (139 + 16 * m) &&& (64 : Int32) = 0 ↔ True) ∧ (nI (139 + 16 * m) >>> ((4 : Int32) &&& 31)) &&& (3 : Int32) = nI m ∧ (nI (139 + 16 * m) = (141 : Int32) ↔ False) ∧ (nI (139 + 16 * m) < (192 : Int32) ↔ True) := by decide +kernel
theorem c_up0_11 (s : CS) (m : Nat) (hm : m < 4) : tc_executeUpperHalf s (nI (139 + 16 * m)) = bd (tc_operandAddress s (nI m) 1) fun v1 s1 => bd (tc_operateOnByte s1 11 0 v1) fun _ s2 => some ((0 : Int32), s2) := by
  obtain ⟨f1, f2, f3, f4, f5, f6⟩ := cd_0_11 m hm
  unfold tc_executeUpperHalf
  rw [if_neg (fun z => f5.mp z), nm_d, nm_d, f1, f2, if_pos (f3.mpr trivial)]
  unfold tc_executeUpperHalf_39 tc_executeUpperHalf_57
  rw [if_neg (by decide), if_pos (by decide), if_pos (by decide), f4]
  rfl
theorem m_up0_11 (s : MS) (m : Nat) (hm : m < 4) : mo_upper s (nI (139 + 16 * m)) = bd (mo_accumulate s (nI (139 + 16 * m)) 0) fun _ s1 => some ((0 : Int32), s1) := by
  obtain ⟨f1, f2, f3, f4, f5, f6⟩ := cd_0_11 m hm
  unfold mo_upper
  rw [nm_d, nm_d, f2, f4, if_pos (f6.mpr trivial)]
  unfold mo_upper_23
  rw [if_neg (by decide), if_neg (by decide), if_pos (by decide)]
  unfold mo_upper_48
  apply congrArg (bd _)
  funext _ t
  unfold mo_upper_51 mo_upper_71 mo_upper_88 mo_upper_106 mo_upper_123 mo_upper_139 mo_upper_160
  rw [if_neg (by decide), if_neg (by decide), if_neg (by decide), if_neg (by decide), if_neg (by decide), if_neg (by decide), if_neg (by decide)]
  rfl
theorem cd_0_12 : ∀ m, m < 4 → nI (140 + 16 * m) >>> ((8 : Int32) &&& 31) = 0 ∧ nI (140 + 16 * m) &&& (15 : Int32) = (12 : Int32) ∧ (nI (140 + 16 * m) &&& (64 : Int32) = 0 ↔ True) ∧ (nI (140 + 16 * m) >>> ((4 : Int32) &&& 31)) &&& (3 : Int32) = nI m ∧ (nI (140 + 16 * m) = (141 : Int32) ↔ False) ∧ (nI (140 + 16 * m) < (192 : Int32) ↔ True) := by decide +kernel
theorem c_up0_12 (s : CS) (m : Nat) (hm : m < 4) : tc_executeUpperHalf s (nI (140 + 16 * m)) = bd (tc_operandAddress s (nI m) 2) fun v1 s1 => bd (tc_operateOnWord s1 0 12 0 v1) fun _ s2 => some ((0 : Int32), s2) := by
  obtain ⟨f1, f2, f3, f4, f5, f6⟩ := cd_0_12 m hm
  unfold tc_executeUpperHalf
  rw [if_neg (fun z => f5.mp z), nm_d, nm_d, f1, f2, if_pos (f3.mpr trivial)]
  unfold tc_executeUpperHalf_39 tc_executeUpperHalf_52 tc_executeUpperHalf_57
  rw [if_neg (by decide), if_neg (by decide), if_neg (by decide), f4]
  rfl
theorem m_up0_12 (s : MS) (m : Nat) (hm : m < 4) : mo_upper s (nI (140 + 16 * m)) = bd (mo_compare s 0 2 (nI m)) fun _ s1 => some ((0 : Int32), s1) := by
  obtain ⟨f1, f2, f3, f4, f5, f6⟩ := cd_0_12 m hm
  unfold mo_upper
  rw [nm_d, nm_d, f2, f4, if_pos (f6.mpr trivial)]
  unfold mo_upper_23
  rw [if_pos (by decide)]
  unfold mo_upper_51 mo_upper_71 mo_upper_88 mo_upper_106 mo_upper_123 mo_upper_139 mo_upper_160
  rw [if_neg (by decide), if_pos (by decide), if_pos (by decide), if_pos (by decide), if_pos (by decide)]
  apply congrArg (bd _)
  funext _ t
  try unfold mo_upper_106 mo_upper_123 mo_upper_139 mo_upper_160
  rw [if_neg (by decide), if_neg (by decide), if_neg (by decide), if_neg (by decide)]
  rfl
theorem cd_0_13 : ∀ m, m < 4 → nI (141 + 16 * m) >>> ((8 : Int32) &&& 31) = 0 ∧ nI (141 + 16 * m) &&& (15 : Int32) = (13 : Int32) ∧ (nI (141 + 16 * m) &&& (64 : Int32) = 0 ↔ True) ∧ (nI (141 + 16 * m) >>> ((4 : Int32) &&& 31)) &&& (3 : Int32) = nI m ∧ (nI (141 + 16 * m) = (141 : Int32) ↔ m = 0) ∧ (nI (141 + 16 * m) < (192 : Int32) ↔ True) := by decide +kernel
theorem c_up0_13 (s : CS) (m : Nat) (hm : m < 4) (hne : ¬ m = 0) : tc_executeUpperHalf s (nI (141 + 16 * m)) = bd (tc_operandAddress s (nI m) 2) fun v1 s1 => bd (tc_call s1 v1) fun _ s2 => some ((0 : Int32), s2) := by
  obtain ⟨f1, f2, f3, f4, f5, f6⟩ := cd_0_13 m hm
  unfold tc_executeUpperHalf
  rw [if_neg (fun z => hne (f5.mp z)), nm_d, nm_d, f1, f2, if_pos (f3.mpr trivial)]
  unfold tc_executeUpperHalf_39 tc_executeUpperHalf_52 tc_executeUpperHalf_57
  rw [if_neg (by decide), if_neg (by decide), if_neg (by decide), f4]
  rfl
theorem m_up0_13 (s : MS) (m : Nat) (hm : m < 4) : mo_upper s (nI (141 + 16 * m)) = bd (mo_call s (nI m)) fun _ s1 => some ((0 : Int32), s1) := by
  obtain ⟨f1, f2, f3, f4, f5, f6⟩ := cd_0_13 m hm
  unfold mo_upper
  rw [nm_d, nm_d, f2, f4, if_pos (f6.mpr trivial)]
  unfold mo_upper_23
  rw [if_pos (by decide)]
  unfold mo_upper_51 mo_upper_71 mo_upper_88 mo_upper_106 mo_upper_123 mo_upper_139 mo_upper_160
  rw [if_neg (by decide), if_neg (by decide), if_neg (by decide), if_pos (by decide), if_pos (by decide), if_pos (by decide), if_pos (by decide)]
  apply congrArg (bd _)
  funext _ t
  try unfold mo_upper_139 mo_upper_160
  rw [if_neg (by decide), if_neg (by decide)]
  rfl
theorem cd_0_14 : ∀ m, m < 4 → nI (142 + 16 * m) >>> ((8 : Int32) &&& 31) = 0 ∧ nI (142 + 16 * m) &&& (15 : Int32) = (14 : Int32) ∧ (nI (142 + 16 * m) &&& (64 : Int32) = 0 ↔ True) ∧ (nI (142 + 16 * m) >>> ((4 : Int32) &&& 31)) &&& (3 : Int32) = nI m ∧ (nI (142 + 16 * m) = (141 : Int32) ↔ False) ∧ (nI (142 + 16 * m) < (192 : Int32) ↔ True) := by decide +kernel
theorem c_up0_14 (s : CS) (m : Nat) (hm : m < 4) : tc_executeUpperHalf s (nI (142 + 16 * m)) = bd (tc_operandAddress s (nI m) 2) fun v1 s1 => bd (tc_operateOnWord s1 0 14 0 v1) fun _ s2 => some ((0 : Int32), s2) := by
  obtain ⟨f1, f2, f3, f4, f5, f6⟩ := cd_0_14 m hm
  unfold tc_executeUpperHalf
  rw [if_neg (fun z => f5.mp z), nm_d, nm_d, f1, f2, if_pos (f3.mpr trivial)]
  unfold tc_executeUpperHalf_39 tc_executeUpperHalf_52 tc_executeUpperHalf_57
  rw [if_neg (by decide), if_neg (by decide), if_neg (by decide), f4]
  rfl
theorem m_up0_14 (s : MS) (m : Nat) (hm : m < 4) : mo_upper s (nI (142 + 16 * m)) = bd (mo_loadWord s 2 (nI m)) fun _ s1 => some ((0 : Int32), s1) := by
  obtain ⟨f1, f2, f3, f4, f5, f6⟩ := cd_0_14 m hm
  unfold mo_upper
  rw [nm_d, nm_d, f2, f4, if_pos (f6.mpr trivial)]
  unfold mo_upper_23
  rw [if_pos (by decide)]
  unfold mo_upper_51 mo_upper_71 mo_upper_88 mo_upper_106 mo_upper_123 mo_upper_139 mo_upper_160
  rw [if_neg (by decide), if_neg (by decide), if_neg (by decide), if_neg (by decide), if_neg (by decide), if_pos (by decide), if_pos (by decide)]
  unfold mo_upper_156
  apply congrArg (bd _)
  funext _ t
  try unfold mo_upper_160
  rw [if_neg (by decide)]
  rfl
theorem cd_0_15 : ∀ m, m < 4 → nI (143 + 16 * m) >>> ((8 : Int32) &&& 31) = 0 ∧ nI (143 + 16 * m) &&& (15 : Int32) = (15 : Int32) ∧ (nI (143 + 16 * m) &&& (64 : Int32) = 0 ↔ True) ∧ (nI (143 + 16 * m) >>> ((4 : Int32) &&& 31)) &&& (3 : Int32) = nI m ∧ (nI (143 + 16 * m) = (141 : Int32) ↔ False) ∧ (nI (143 + 16 * m) < (192 : Int32) ↔ True) := by decide +kernel
theorem c_up0_15 (s : CS) (m : Nat) (hm : m < 4) : tc_executeUpperHalf s (nI (143 + 16 * m)) = bd (tc_operandAddress s (nI m) 2) fun v1 s1 => bd (tc_operateOnWord s1 0 15 0 v1) fun _ s2 => some ((0 : Int32), s2) := by
  obtain ⟨f1, f2, f3, f4, f5, f6⟩ := cd_0_15 m hm
  unfold tc_executeUpperHalf
  rw [if_neg (fun z => f5.mp z), nm_d, nm_d, f1, f2, if_pos (f3.mpr trivial)]
  unfold tc_executeUpperHalf_39 tc_executeUpperHalf_52 tc_executeUpperHalf_57
  rw [if_neg (by decide), if_neg (by decide), if_neg (by decide), f4]
  rfl
theorem m_up0_15 (s : MS) (m : Nat) (hm : m < 4) : mo_upper s (nI (143 + 16 * m)) = bd (mo_storeWord s 2 (nI m)) fun _ s1 => some ((0 : Int32), s1) := by
  obtain ⟨f1, f2, f3, f4, f5, f6⟩ := cd_0_15 m hm
  unfold mo_upper
  rw [nm_d, nm_d, f2, f4, if_pos (f6.mpr trivial)]
  unfold mo_upper_23
  rw [if_pos (by decide)]
  unfold mo_upper_51 mo_upper_71 mo_upper_88 mo_upper_106 mo_upper_123 mo_upper_139 mo_upper_160
  rw [if_neg (by decide), if_neg (by decide), if_neg (by decide), if_neg (by decide), if_neg (by decide), if_neg (by decide), if_pos (by decide), if_pos (by decide)]
  unfold mo_upper_177
  apply congrArg (bd _)
  funext _ t
  rfl
theorem cd_1_0 : ∀ m, m < 4 → nI (192 + 16 * m) >>> ((8 : Int32) &&& 31) = 0 ∧ nI (192 + 16 * m) &&& (15 : Int32) = (0 : Int32) ∧ (nI (192 + 16 * m) &&& (64 : Int32) = 0 ↔ False) ∧ (nI (192 + 16 * m) >>> ((4 : Int32) &&& 31)) &&& (3 : Int32) = nI m ∧ (nI (192 + 16 * m) = (141 : Int32) ↔ False) ∧ (nI (192 + 16 * m) < (192 : Int32) ↔ False) := by decide +kernel
theorem c_up1_0 (s : CS) (m : Nat) (hm : m < 4) : tc_executeUpperHalf s (nI (192 + 16 * m)) = bd (tc_operandAddress s (nI m) 1) fun v1 s1 => bd (tc_operateOnByte s1 0 1 v1) fun _ s2 => some ((0 : Int32), s2) := by
  obtain ⟨f1, f2, f3, f4, f5, f6⟩ := cd_1_0 m hm
  unfold tc_executeUpperHalf
  rw [if_neg (fun z => f5.mp z), nm_d, nm_d, f1, f2, if_neg (fun z => f3.mp z)]
  unfold tc_executeUpperHalf_39 tc_executeUpperHalf_57
  rw [if_neg (by decide), if_pos (by decide), if_pos (by decide), f4]
  rfl
theorem m_up1_0 (s : MS) (m : Nat) (hm : m < 4) : mo_upper s (nI (192 + 16 * m)) = bd (mo_accumulate s (nI (192 + 16 * m)) 1) fun _ s1 => some ((0 : Int32), s1) := by
  obtain ⟨f1, f2, f3, f4, f5, f6⟩ := cd_1_0 m hm
  unfold mo_upper
  rw [nm_d, nm_d, f2, f4, if_neg (fun z => f6.mp z)]
  unfold mo_upper_23
  rw [if_neg (by decide), if_neg (by decide), if_neg (by decide)]
  unfold mo_upper_48
  apply congrArg (bd _)
  funext _ t
  unfold mo_upper_51 mo_upper_71 mo_upper_88 mo_upper_106 mo_upper_123 mo_upper_139 mo_upper_160
  rw [if_neg (by decide), if_neg (by decide), if_neg (by decide), if_neg (by decide), if_neg (by decide), if_neg (by decide), if_neg (by decide)]
  rfl
theorem cd_1_1 : ∀ m, m < 4 → nI (193 + 16 * m) >>> ((8 : Int32) &&& 31) = 0 ∧ nI (193 + 16 * m) &&& (15 : Int32) = (1 : Int32) ∧ (nI (193 + 16 * m) &&& (64 : Int32) = 0 ↔ False) ∧ (nI (193 + 16 * m) >>> ((4 : Int32) &&& 31)) &&& (3 : Int32) = nI m ∧ (nI (193 + 16 * m) = (141 : Int32) ↔ False) ∧ (nI (193 + 16 * m) < (192 : Int32) ↔ False) := by decide +kernel
theorem c_up1_1 (s : CS) (m : Nat) (hm : m < 4) : tc_executeUpperHalf s (nI (193 + 16 * m)) = bd (tc_operandAddress s (nI m) 1) fun v1 s1 => bd (tc_operateOnByte s1 1 1 v1) fun _ s2 => some ((0 : Int32), s2) := by
  obtain ⟨f1, f2, f3, f4, f5, f6⟩ := cd_1_1 m hm
  unfold tc_executeUpperHalf
  rw [if_neg (fun z => f5.mp z), nm_d, nm_d, f1, f2, if_neg (fun z => f3.mp z)]
  unfold tc_executeUpperHalf_39 tc_executeUpperHalf_57
  rw [if_neg (by decide), if_pos (by decide), if_pos (by decide), f4]
  rfl
theorem m_up1_1 (s : MS) (m : Nat) (hm : m < 4) : mo_upper s (nI (193 + 16 * m)) = bd (mo_accumulate s (nI (193 + 16 * m)) 1) fun _ s1 => some ((0 : Int32), s1) := by
  obtain ⟨f1, f2, f3, f4, f5, f6⟩ := cd_1_1 m hm
  unfold mo_upper
  rw [nm_d, nm_d, f2, f4, if_neg (fun z => f6.mp z)]
  unfold mo_upper_23
  rw [if_neg (by decide), if_neg (by decide), if_neg (by decide)]
  unfold mo_upper_48
  apply congrArg (bd _)
  funext _ t
  unfold mo_upper_51 mo_upper_71 mo_upper_88 mo_upper_106 mo_upper_123 mo_upper_139 mo_upper_160
  rw [if_neg (by decide), if_neg (by decide), if_neg (by decide), if_neg (by decide), if_neg (by decide), if_neg (by decide), if_neg (by decide)]
  rfl
theorem cd_1_2 : ∀ m, m < 4 → nI (194 + 16 * m) >>> ((8 : Int32) &&& 31) = 0 ∧ nI (194 + 16 * m) &&& (15 : Int32) = (2 : Int32) ∧ (nI (194 + 16 * m) &&& (64 : Int32) = 0 ↔ False) ∧ (nI (194 + 16 * m) >>> ((4 : Int32) &&& 31)) &&& (3 : Int32) = nI m ∧ (nI (194 + 16 * m) = (141 : Int32) ↔ False) ∧ (nI (194 + 16 * m) < (192 : Int32) ↔ False) := by decide +kernel
theorem c_up1_2 (s : CS) (m : Nat) (hm : m < 4) : tc_executeUpperHalf s (nI (194 + 16 * m)) = bd (tc_operandAddress s (nI m) 1) fun v1 s1 => bd (tc_operateOnByte s1 2 1 v1) fun _ s2 => some ((0 : Int32), s2) := by
  obtain ⟨f1, f2, f3, f4, f5, f6⟩ := cd_1_2 m hm
  unfold tc_executeUpperHalf
  rw [if_neg (fun z => f5.mp z), nm_d, nm_d, f1, f2, if_neg (fun z => f3.mp z)]
  unfold tc_executeUpperHalf_39 tc_executeUpperHalf_57
  rw [if_neg (by decide), if_pos (by decide), if_pos (by decide), f4]
  rfl
theorem m_up1_2 (s : MS) (m : Nat) (hm : m < 4) : mo_upper s (nI (194 + 16 * m)) = bd (mo_accumulate s (nI (194 + 16 * m)) 1) fun _ s1 => some ((0 : Int32), s1) := by
  obtain ⟨f1, f2, f3, f4, f5, f6⟩ := cd_1_2 m hm
  unfold mo_upper
  rw [nm_d, nm_d, f2, f4, if_neg (fun z => f6.mp z)]
  unfold mo_upper_23
  rw [if_neg (by decide), if_neg (by decide), if_neg (by decide)]
  unfold mo_upper_48
  apply congrArg (bd _)
  funext _ t
  unfold mo_upper_51 mo_upper_71 mo_upper_88 mo_upper_106 mo_upper_123 mo_upper_139 mo_upper_160
  rw [if_neg (by decide), if_neg (by decide), if_neg (by decide), if_neg (by decide), if_neg (by decide), if_neg (by decide), if_neg (by decide)]
  rfl
theorem cd_1_3 : ∀ m, m < 4 → nI (195 + 16 * m) >>> ((8 : Int32) &&& 31) = 0 ∧ nI (195 + 16 * m) &&& (15 : Int32) = (3 : Int32) ∧ (nI (195 + 16 * m) &&& (64 : Int32) = 0 ↔ False) ∧ (nI (195 + 16 * m) >>> ((4 : Int32) &&& 31)) &&& (3 : Int32) = nI m ∧ (nI (195 + 16 * m) = (141 : Int32) ↔ False) ∧ (nI (195 + 16 * m) < (192 : Int32) ↔ False) := by decide +kernel
theorem c_up1_3 (s : CS) (m : Nat) (hm : m < 4) : tc_executeUpperHalf s (nI (195 + 16 * m)) = bd (tc_operandAddress s (nI m) 2) fun v1 s1 => bd (tc_operateOnWord s1 0 3 1 v1) fun _ s2 => some ((0 : Int32), s2) := by
  obtain ⟨f1, f2, f3, f4, f5, f6⟩ := cd_1_3 m hm
  unfold tc_executeUpperHalf
  rw [if_neg (fun z => f5.mp z), nm_d, nm_d, f1, f2, if_neg (fun z => f3.mp z)]
  unfold tc_executeUpperHalf_39 tc_executeUpperHalf_52 tc_executeUpperHalf_57
  rw [if_pos (by decide), if_neg (by decide), f4]
  rfl
theorem m_up1_3 (s : MS) (m : Nat) (hm : m < 4) : mo_upper s (nI (195 + 16 * m)) = bd (mo_addWord s (nI m) 0) fun _ s1 => some ((0 : Int32), s1) := by
  obtain ⟨f1, f2, f3, f4, f5, f6⟩ := cd_1_3 m hm
  unfold mo_upper
  rw [nm_d, nm_d, f2, f4, if_neg (fun z => f6.mp z)]
  unfold mo_upper_23
  rw [if_neg (by decide), if_pos (by decide)]
  unfold mo_upper_51 mo_upper_71 mo_upper_88 mo_upper_106 mo_upper_123 mo_upper_139 mo_upper_160
  rw [if_pos (by decide), if_neg (by decide)]
  unfold mo_upper_68
  apply congrArg (bd _)
  funext _ t
  unfold mo_upper_71 mo_upper_88 mo_upper_106 mo_upper_123 mo_upper_139 mo_upper_160
  rw [if_neg (by decide), if_neg (by decide), if_neg (by decide), if_neg (by decide), if_neg (by decide), if_neg (by decide)]
  rfl
theorem cd_1_4 : ∀ m, m < 4 → nI (196 + 16 * m) >>> ((8 : Int32) &&& 31) = 0 ∧ nI (196 + 16 * m) &&& (15 : Int32) = (4 : Int32) ∧ (nI (196 + 16 * m) &&& (64 : Int32) = 0 ↔ False) ∧ (nI (196 + 16 * m) >>> ((4 : Int32) &&& 31)) &&& (3 : Int32) = nI m ∧ (nI (196 + 16 * m) = (141 : Int32) ↔ False) ∧ (nI (196 + 16 * m) < (192 : Int32) ↔ False) := by decide +kernel
theorem c_up1_4 (s : CS) (m : Nat) (hm : m < 4) : tc_executeUpperHalf s (nI (196 + 16 * m)) = bd (tc_operandAddress s (nI m) 1) fun v1 s1 => bd (tc_operateOnByte s1 4 1 v1) fun _ s2 => some ((0 : Int32), s2) := by
  obtain ⟨f1, f2, f3, f4, f5, f6⟩ := cd_1_4 m hm
  unfold tc_executeUpperHalf
  rw [if_neg (fun z => f5.mp z), nm_d, nm_d, f1, f2, if_neg (fun z => f3.mp z)]
  unfold tc_executeUpperHalf_39 tc_executeUpperHalf_57
  rw [if_neg (by decide), if_pos (by decide), if_pos (by decide), f4]
  rfl
theorem m_up1_4 (s : MS) (m : Nat) (hm : m < 4) : mo_upper s (nI (196 + 16 * m)) = bd (mo_accumulate s (nI (196 + 16 * m)) 1) fun _ s1 => some ((0 : Int32), s1) := by
  obtain ⟨f1, f2, f3, f4, f5, f6⟩ := cd_1_4 m hm
  unfold mo_upper
  rw [nm_d, nm_d, f2, f4, if_neg (fun z => f6.mp z)]
  unfold mo_upper_23
  rw [if_neg (by decide), if_neg (by decide), if_neg (by decide)]
  unfold mo_upper_48
  apply congrArg (bd _)
  funext _ t
  unfold mo_upper_51 mo_upper_71 mo_upper_88 mo_upper_106 mo_upper_123 mo_upper_139 mo_upper_160
  rw [if_neg (by decide), if_neg (by decide), if_neg (by decide), if_neg (by decide), if_neg (by decide), if_neg (by decide), if_neg (by decide)]
  rfl
theorem cd_1_5 : ∀ m, m < 4 → nI (197 + 16 * m) >>> ((8 : Int32) &&& 31) = 0 ∧ nI (197 + 16 * m) &&& (15 : Int32) = (5 : Int32) ∧ (nI (197 + 16 * m) &&& (64 : Int32) = 0 ↔ False) ∧ (nI (197 + 16 * m) >>> ((4 : Int32) &&& 31)) &&& (3 : Int32) = nI m ∧ (nI (197 + 16 * m) = (141 : Int32) ↔ False) ∧ (nI (197 + 16 * m) < (192 : Int32) ↔ False) := by decide +kernel
theorem c_up1_5 (s : CS) (m : Nat) (hm : m < 4) : tc_executeUpperHalf s (nI (197 + 16 * m)) = bd (tc_operandAddress s (nI m) 1) fun v1 s1 => bd (tc_operateOnByte s1 5 1 v1) fun _ s2 => some ((0 : Int32), s2) := by
  obtain ⟨f1, f2, f3, f4, f5, f6⟩ := cd_1_5 m hm
  unfold tc_executeUpperHalf
  rw [if_neg (fun z => f5.mp z), nm_d, nm_d, f1, f2, if_neg (fun z => f3.mp z)]
  unfold tc_executeUpperHalf_39 tc_executeUpperHalf_57
  rw [if_neg (by decide), if_pos (by decide), if_pos (by decide), f4]
  rfl
theorem m_up1_5 (s : MS) (m : Nat) (hm : m < 4) : mo_upper s (nI (197 + 16 * m)) = bd (mo_accumulate s (nI (197 + 16 * m)) 1) fun _ s1 => some ((0 : Int32), s1) := by
  obtain ⟨f1, f2, f3, f4, f5, f6⟩ := cd_1_5 m hm
  unfold mo_upper
  rw [nm_d, nm_d, f2, f4, if_neg (fun z => f6.mp z)]
  unfold mo_upper_23
  rw [if_neg (by decide), if_neg (by decide), if_neg (by decide)]
  unfold mo_upper_48
  apply congrArg (bd _)
  funext _ t
  unfold mo_upper_51 mo_upper_71 mo_upper_88 mo_upper_106 mo_upper_123 mo_upper_139 mo_upper_160
  rw [if_neg (by decide), if_neg (by decide), if_neg (by decide), if_neg (by decide), if_neg (by decide), if_neg (by decide), if_neg (by decide)]
  rfl
theorem cd_1_6 : ∀ m, m < 4 → nI (198 + 16 * m) >>> ((8 : Int32) &&& 31) = 0 ∧ nI (198 + 16 * m) &&& (15 : Int32) = (6 : Int32) ∧ (nI (198 + 16 * m) &&& (64 : Int32) = 0 ↔ False) ∧ (nI (198 + 16 * m) >>> ((4 : Int32) &&& 31)) &&& (3 : Int32) = nI m ∧ (nI (198 + 16 * m) = (141 : Int32) ↔ False) ∧ (nI (198 + 16 * m) < (192 : Int32) ↔ False) := by decide +kernel
theorem c_up1_6 (s : CS) (m : Nat) (hm : m < 4) : tc_executeUpperHalf s (nI (198 + 16 * m)) = bd (tc_operandAddress s (nI m) 1) fun v1 s1 => bd (tc_operateOnByte s1 6 1 v1) fun _ s2 => some ((0 : Int32), s2) := by
  obtain ⟨f1, f2, f3, f4, f5, f6⟩ := cd_1_6 m hm
  unfold tc_executeUpperHalf
  rw [if_neg (fun z => f5.mp z), nm_d, nm_d, f1, f2, if_neg (fun z => f3.mp z)]
  unfold tc_executeUpperHalf_39 tc_executeUpperHalf_57
  rw [if_neg (by decide), if_pos (by decide), if_pos (by decide), f4]
  rfl
theorem m_up1_6 (s : MS) (m : Nat) (hm : m < 4) : mo_upper s (nI (198 + 16 * m)) = bd (mo_accumulate s (nI (198 + 16 * m)) 1) fun _ s1 => some ((0 : Int32), s1) := by
  obtain ⟨f1, f2, f3, f4, f5, f6⟩ := cd_1_6 m hm
  unfold mo_upper
  rw [nm_d, nm_d, f2, f4, if_neg (fun z => f6.mp z)]
  unfold mo_upper_23
  rw [if_neg (by decide), if_neg (by decide), if_neg (by decide)]
  unfold mo_upper_48
  apply congrArg (bd _)
  funext _ t
  unfold mo_upper_51 mo_upper_71 mo_upper_88 mo_upper_106 mo_upper_123 mo_upper_139 mo_upper_160
  rw [if_neg (by decide), if_neg (by decide), if_neg (by decide), if_neg (by decide), if_neg (by decide), if_neg (by decide), if_neg (by decide)]
  rfl
theorem cd_1_7 : ∀ m, m < 4 → nI (199 + 16 * m) >>> ((8 : Int32) &&& 31) = 0 ∧ nI (199 + 16 * m) &&& (15 : Int32) = (7 : Int32) ∧ (nI (199 + 16 * m) &&& (64 : Int32) = 0 ↔ False) ∧ (nI (199 + 16 * m) >>> ((4 : Int32) &&& 31)) &&& (3 : Int32) = nI m ∧ (nI (199 + 16 * m) = (141 : Int32) ↔ False) ∧ (nI (199 + 16 * m) < (192 : Int32) ↔ False) := by decide +kernel
theorem c_up1_7 (s : CS) (m : Nat) (hm : m < 4) : tc_executeUpperHalf s (nI (199 + 16 * m)) = bd (tc_operandAddress s (nI m) 1) fun v1 s1 => bd (tc_operateOnByte s1 7 1 v1) fun _ s2 => some ((0 : Int32), s2) := by
  obtain ⟨f1, f2, f3, f4, f5, f6⟩ := cd_1_7 m hm
  unfold tc_executeUpperHalf
  rw [if_neg (fun z => f5.mp z), nm_d, nm_d, f1, f2, if_neg (fun z => f3.mp z)]
  unfold tc_executeUpperHalf_39 tc_executeUpperHalf_57
  rw [if_neg (by decide), if_pos (by decide), if_pos (by decide), f4]
  rfl
theorem m_up1_7 (s : MS) (m : Nat) (hm : m < 4) : mo_upper s (nI (199 + 16 * m)) = bd (mo_accumulate s (nI (199 + 16 * m)) 1) fun _ s1 => some ((0 : Int32), s1) := by
  obtain ⟨f1, f2, f3, f4, f5, f6⟩ := cd_1_7 m hm
  unfold mo_upper
  rw [nm_d, nm_d, f2, f4, if_neg (fun z => f6.mp z)]
  unfold mo_upper_23
  rw [if_neg (by decide), if_neg (by decide), if_neg (by decide)]
  unfold mo_upper_48
  apply congrArg (bd _)
  funext _ t
  unfold mo_upper_51 mo_upper_71 mo_upper_88 mo_upper_106 mo_upper_123 mo_upper_139 mo_upper_160
  rw [if_neg (by decide), if_neg (by decide), if_neg (by decide), if_neg (by decide), if_neg (by decide), if_neg (by decide), if_neg (by decide)]
  rfl
theorem cd_1_8 : ∀ m, m < 4 → nI (200 + 16 * m) >>> ((8 : Int32) &&& 31) = 0 ∧ nI (200 + 16 * m) &&& (15 : Int32) = (8 : Int32) ∧ (nI (200 + 16 * m) &&& (64 : Int32) = 0 ↔ False) ∧ (nI (200 + 16 * m) >>> ((4 : Int32) &&& 31)) &&& (3 : Int32) = nI m ∧ (nI (200 + 16 * m) = (141 : Int32) ↔ False) ∧ (nI (200 + 16 * m) < (192 : Int32) ↔ False) := by decide +kernel
theorem c_up1_8 (s : CS) (m : Nat) (hm : m < 4) : tc_executeUpperHalf s (nI (200 + 16 * m)) = bd (tc_operandAddress s (nI m) 1) fun v1 s1 => bd (tc_operateOnByte s1 8 1 v1) fun _ s2 => some ((0 : Int32), s2) := by
  obtain ⟨f1, f2, f3, f4, f5, f6⟩ := cd_1_8 m hm
  unfold tc_executeUpperHalf
  rw [if_neg (fun z => f5.mp z), nm_d, nm_d, f1, f2, if_neg (fun z => f3.mp z)]
  unfold tc_executeUpperHalf_39 tc_executeUpperHalf_57
  rw [if_neg (by decide), if_pos (by decide), if_pos (by decide), f4]
  rfl
theorem m_up1_8 (s : MS) (m : Nat) (hm : m < 4) : mo_upper s (nI (200 + 16 * m)) = bd (mo_accumulate s (nI (200 + 16 * m)) 1) fun _ s1 => some ((0 : Int32), s1) := by
  obtain ⟨f1, f2, f3, f4, f5, f6⟩ := cd_1_8 m hm
  unfold mo_upper
  rw [nm_d, nm_d, f2, f4, if_neg (fun z => f6.mp z)]
  unfold mo_upper_23
  rw [if_neg (by decide), if_neg (by decide), if_neg (by decide)]
  unfold mo_upper_48
  apply congrArg (bd _)
  funext _ t
  unfold mo_upper_51 mo_upper_71 mo_upper_88 mo_upper_106 mo_upper_123 mo_upper_139 mo_upper_160
  rw [if_neg (by decide), if_neg (by decide), if_neg (by decide), if_neg (by decide), if_neg (by decide), if_neg (by decide), if_neg (by decide)]
  rfl
theorem cd_1_9 : ∀ m, m < 4 → nI (201 + 16 * m) >>> ((8 : Int32) &&& 31) = 0 ∧ nI (201 + 16 * m) &&& (15 : Int32) = (9 : Int32) ∧ (nI (201 + 16 * m) &&& (64 : Int32) = 0 ↔ False) ∧ (nI (201 + 16 * m) >>> ((4 : Int32) &&& 31)) &&& (3 : Int32) = nI m ∧ (nI (201 + 16 * m) = (141 : Int32) ↔ False) ∧ (nI (201 + 16 * m) < (192 : Int32) ↔ False) := by decide +kernel
theorem c_up1_9 (s : CS) (m : Nat) (hm : m < 4) : tc_executeUpperHalf s (nI (201 + 16 * m)) = bd (tc_operandAddress s (nI m) 1) fun v1 s1 => bd (tc_operateOnByte s1 9 1 v1) fun _ s2 => some ((0 : Int32), s2) := by
  obtain ⟨f1, f2, f3, f4, f5, f6⟩ := cd_1_9 m hm
  unfold tc_executeUpperHalf
  rw [if_neg (fun z => f5.mp z), nm_d, nm_d, f1, f2, if_neg (fun z => f3.mp z)]
  unfold tc_executeUpperHalf_39 tc_executeUpperHalf_57
  rw [if_neg (by decide), if_pos (by decide), if_pos (by decide), f4]
  rfl
theorem m_up1_9 (s : MS) (m : Nat) (hm : m < 4) : mo_upper s (nI (201 + 16 * m)) = bd (mo_accumulate s (nI (201 + 16 * m)) 1) fun _ s1 => some ((0 : Int32), s1) := by
  obtain ⟨f1, f2, f3, f4, f5, f6⟩ := cd_1_9 m hm
  unfold mo_upper
  rw [nm_d, nm_d, f2, f4, if_neg (fun z => f6.mp z)]
  unfold mo_upper_23
  rw [if_neg (by decide), if_neg (by decide), if_neg (by decide)]
  unfold mo_upper_48
  apply congrArg (bd _)
  funext _ t
  unfold mo_upper_51 mo_upper_71 mo_upper_88 mo_upper_106 mo_upper_123 mo_upper_139 mo_upper_160
  rw [if_neg (by decide), if_neg (by decide), if_neg (by decide), if_neg (by decide), if_neg (by decide), if_neg (by decide), if_neg (by decide)]
  rfl
theorem cd_1_10 : ∀ m, m < 4 → nI (202 + 16 * m) >>> ((8 : Int32) &&& 31) = 0 ∧ nI (202 + 16 * m) &&& (15 : Int32) = (10 : Int32) ∧ (nI (202 + 16 * m) &&& (64 : Int32) = 0 ↔ False) ∧ (nI (202 + 16 * m) >>> ((4 : Int32) &&& 31)) &&& (3 : Int32) = nI m ∧ (nI (202 + 16 * m) = (141 : Int32) ↔ False) ∧ (nI (202 + 16 * m) < (192 : Int32) ↔ False) := by decide +kernel
theorem c_up1_10 (s : CS) (m : Nat) (hm : m < 4) : tc_executeUpperHalf s (nI (202 + 16 * m)) = bd (tc_operandAddress s (nI m) 1) fun v1 s1 => bd (tc_operateOnByte s1 10 1 v1) fun _ s2 => some ((0 : Int32), s2) := by
  obtain ⟨f1, f2, f3, f4, f5, f6⟩ := cd_1_10 m hm
  unfold tc_executeUpperHalf
  rw [if_neg (fun z => f5.mp z), nm_d, nm_d, f1, f2, if_neg (fun z => f3.mp z)]
  unfold tc_executeUpperHalf_39 tc_executeUpperHalf_57
  rw [if_neg (by decide), if_pos (by decide), if_pos (by decide), f4]
  rfl
theorem m_up1_10 (s : MS) (m : Nat) (hm : m < 4) : mo_upper s (nI (202 + 16 * m)) = bd (mo_accumulate s (nI (202 + 16 * m)) 1) fun _ s1 => some ((0 : Int32), s1) := by
  obtain ⟨f1, f2, f3, f4, f5, f6⟩ := cd_1_10 m hm
  unfold mo_upper
  rw [nm_d, nm_d, f2, f4, if_neg (fun z => f6.mp z)]
  unfold mo_upper_23
  rw [if_neg (by decide), if_neg (by decide), if_neg (by decide)]
  unfold mo_upper_48
  apply congrArg (bd _)
  funext _ t
  unfold mo_upper_51 mo_upper_71 mo_upper_88 mo_upper_106 mo_upper_123 mo_upper_139 mo_upper_160
  rw [if_neg (by decide), if_neg (by decide), if_neg (by decide), if_neg (by decide), if_neg (by decide), if_neg (by decide), if_neg (by decide)]
  rfl
theorem cd_1_11 : ∀ m, m < 4 → nI (203 + 16 * m) >>> ((8 : Int32) &&& 31) = 0 ∧ nI (203 + 16 * m) &&& (15 : Int32) = (11 : Int32) ∧ (nI (203 + 16 * m) &&& (64 : Int32) = 0 ↔ False) ∧ (nI (203 + 16 * m) >>> ((4 : Int32) &&& 31)) &&& (3 : Int32) = nI m ∧ (nI (203 + 16 * m) = (141 : Int32) ↔ False) ∧ (nI (203 + 16 * m) < (192 : Int32) ↔ False) := by decide +kernel
theorem c_up1_11 (s : CS) (m : Nat) (hm : m < 4) : tc_executeUpperHalf s (nI (203 + 16 * m)) = bd (tc_operandAddress s (nI m) 1) fun v1 s1 => bd (tc_operateOnByte s1 11 1 v1) fun _ s2 => some ((0 : Int32), s2) := by
  obtain ⟨f1, f2, f3, f4, f5, f6⟩ := cd_1_11 m hm
  unfold tc_executeUpperHalf
  rw [if_neg (fun z => f5.mp z), nm_d, nm_d, f1, f2, if_neg (fun z => f3.mp z)]
  unfold tc_executeUpperHalf_39 tc_executeUpperHalf_57
  rw [if_neg (by decide), if_pos (by decide), if_pos (by decide), f4]
  rfl
theorem m_up1_11 (s : MS) (m : Nat) (hm : m < 4) : mo_upper s (nI (203 + 16 * m)) = bd (mo_accumulate s (nI (203 + 16 * m)) 1) fun _ s1 => some ((0 : Int32), s1) := by
  obtain ⟨f1, f2, f3, f4, f5, f6⟩ := cd_1_11 m hm
  unfold mo_upper
  rw [nm_d, nm_d, f2, f4, if_neg (fun z => f6.mp z)]
  unfold mo_upper_23
  rw [if_neg (by decide), if_neg (by decide), if_neg (by decide)]
  unfold mo_upper_48
  apply congrArg (bd _)
  funext _ t
  unfold mo_upper_51 mo_upper_71 mo_upper_88 mo_upper_106 mo_upper_123 mo_upper_139 mo_upper_160
  rw [if_neg (by decide), if_neg (by decide), if_neg (by decide), if_neg (by decide), if_neg (by decide), if_neg (by decide), if_neg (by decide)]
  rfl
theorem cd_1_12 : ∀ m, m < 4 → nI (204 + 16 * m) >>> ((8 : Int32) &&& 31) = 0 ∧ nI (204 + 16 * m) &&& (15 : Int32) = (12 : Int32) ∧ (nI (204 + 16 * m) &&& (64 : Int32) = 0 ↔ False) ∧ (nI (204 + 16 * m) >>> ((4 : Int32) &&& 31)) &&& (3 : Int32) = nI m ∧ (nI (204 + 16 * m) = (141 : Int32) ↔ False) ∧ (nI (204 + 16 * m) < (192 : Int32) ↔ False) := by decide +kernel
theorem c_up1_12 (s : CS) (m : Nat) (hm : m < 4) : tc_executeUpperHalf s (nI (204 + 16 * m)) = bd (tc_operandAddress s (nI m) 2) fun v1 s1 => bd (tc_operateOnWord s1 0 12 1 v1) fun _ s2 => some ((0 : Int32), s2) := by
  obtain ⟨f1, f2, f3, f4, f5, f6⟩ := cd_1_12 m hm
  unfold tc_executeUpperHalf
  rw [if_neg (fun z => f5.mp z), nm_d, nm_d, f1, f2, if_neg (fun z => f3.mp z)]
  unfold tc_executeUpperHalf_39 tc_executeUpperHalf_52 tc_executeUpperHalf_57
  rw [if_neg (by decide), if_neg (by decide), if_neg (by decide), f4]
  rfl
theorem m_up1_12 (s : MS) (m : Nat) (hm : m < 4) : mo_upper s (nI (204 + 16 * m)) = bd (mo_loadWord s (-1) (nI m)) fun _ s1 => some ((0 : Int32), s1) := by
  obtain ⟨f1, f2, f3, f4, f5, f6⟩ := cd_1_12 m hm
  unfold mo_upper
  rw [nm_d, nm_d, f2, f4, if_neg (fun z => f6.mp z)]
  unfold mo_upper_23
  rw [if_pos (by decide)]
  unfold mo_upper_51 mo_upper_71 mo_upper_88 mo_upper_106 mo_upper_123 mo_upper_139 mo_upper_160
  rw [if_neg (by decide), if_pos (by decide), if_neg (by decide)]
  apply congrArg (bd _)
  funext _ t
  try unfold mo_upper_88 mo_upper_106 mo_upper_123 mo_upper_139 mo_upper_160
  rw [if_pos (by decide), if_neg (by decide), if_neg (by decide), if_neg (by decide), if_neg (by decide), if_neg (by decide)]
  rfl
theorem cd_1_13 : ∀ m, m < 4 → nI (205 + 16 * m) >>> ((8 : Int32) &&& 31) = 0 ∧ nI (205 + 16 * m) &&& (15 : Int32) = (13 : Int32) ∧ (nI (205 + 16 * m) &&& (64 : Int32) = 0 ↔ False) ∧ (nI (205 + 16 * m) >>> ((4 : Int32) &&& 31)) &&& (3 : Int32) = nI m ∧ (nI (205 + 16 * m) = (141 : Int32) ↔ False) ∧ (nI (205 + 16 * m) < (192 : Int32) ↔ False) := by decide +kernel
theorem c_up1_13 (s : CS) (m : Nat) (hm : m < 4) : tc_executeUpperHalf s (nI (205 + 16 * m)) = bd (tc_operandAddress s (nI m) 2) fun v1 s1 => bd (tc_operateOnWord s1 0 13 1 v1) fun _ s2 => some ((0 : Int32), s2) := by
  obtain ⟨f1, f2, f3, f4, f5, f6⟩ := cd_1_13 m hm
  unfold tc_executeUpperHalf
  rw [if_neg (fun z => f5.mp z), nm_d, nm_d, f1, f2, if_neg (fun z => f3.mp z)]
  unfold tc_executeUpperHalf_39 tc_executeUpperHalf_52 tc_executeUpperHalf_57
  rw [if_neg (by decide), if_neg (by decide), if_neg (by decide), f4]
  rfl
theorem m_up1_13 (s : MS) (m : Nat) (hm : m < 4) : mo_upper s (nI (205 + 16 * m)) = bd (mo_storeWord s (-1) (nI m)) fun _ s1 => some ((0 : Int32), s1) := by
  obtain ⟨f1, f2, f3, f4, f5, f6⟩ := cd_1_13 m hm
  unfold mo_upper
  rw [nm_d, nm_d, f2, f4, if_neg (fun z => f6.mp z)]
  unfold mo_upper_23
  rw [if_pos (by decide)]
  unfold mo_upper_51 mo_upper_71 mo_upper_88 mo_upper_106 mo_upper_123 mo_upper_139 mo_upper_160
  rw [if_neg (by decide), if_neg (by decide), if_neg (by decide), if_pos (by decide), if_neg (by decide)]
  apply congrArg (bd _)
  funext _ t
  try unfold mo_upper_123 mo_upper_139 mo_upper_160
  rw [if_pos (by decide), if_neg (by decide), if_neg (by decide), if_neg (by decide)]
  rfl
theorem cd_1_14 : ∀ m, m < 4 → nI (206 + 16 * m) >>> ((8 : Int32) &&& 31) = 0 ∧ nI (206 + 16 * m) &&& (15 : Int32) = (14 : Int32) ∧ (nI (206 + 16 * m) &&& (64 : Int32) = 0 ↔ False) ∧ (nI (206 + 16 * m) >>> ((4 : Int32) &&& 31)) &&& (3 : Int32) = nI m ∧ (nI (206 + 16 * m) = (141 : Int32) ↔ False) ∧ (nI (206 + 16 * m) < (192 : Int32) ↔ False) := by decide +kernel
theorem c_up1_14 (s : CS) (m : Nat) (hm : m < 4) : tc_executeUpperHalf s (nI (206 + 16 * m)) = bd (tc_operandAddress s (nI m) 2) fun v1 s1 => bd (tc_operateOnWord s1 0 14 1 v1) fun _ s2 => some ((0 : Int32), s2) := by
  obtain ⟨f1, f2, f3, f4, f5, f6⟩ := cd_1_14 m hm
  unfold tc_executeUpperHalf
  rw [if_neg (fun z => f5.mp z), nm_d, nm_d, f1, f2, if_neg (fun z => f3.mp z)]
  unfold tc_executeUpperHalf_39 tc_executeUpperHalf_52 tc_executeUpperHalf_57
  rw [if_neg (by decide), if_neg (by decide), if_neg (by decide), f4]
  rfl
theorem m_up1_14 (s : MS) (m : Nat) (hm : m < 4) : mo_upper s (nI (206 + 16 * m)) = bd (mo_loadWord s 4 (nI m)) fun _ s1 => some ((0 : Int32), s1) := by
  obtain ⟨f1, f2, f3, f4, f5, f6⟩ := cd_1_14 m hm
  unfold mo_upper
  rw [nm_d, nm_d, f2, f4, if_neg (fun z => f6.mp z)]
  unfold mo_upper_23
  rw [if_pos (by decide)]
  unfold mo_upper_51 mo_upper_71 mo_upper_88 mo_upper_106 mo_upper_123 mo_upper_139 mo_upper_160
  rw [if_neg (by decide), if_neg (by decide), if_neg (by decide), if_neg (by decide), if_neg (by decide), if_pos (by decide), if_neg (by decide)]
  unfold mo_upper_156
  apply congrArg (bd _)
  funext _ t
  try unfold mo_upper_160
  rw [if_neg (by decide)]
  rfl
theorem cd_1_15 : ∀ m, m < 4 → nI (207 + 16 * m) >>> ((8 : Int32) &&& 31) = 0 ∧ nI (207 + 16 * m) &&& (15 : Int32) = (15 : Int32) ∧ (nI (207 + 16 * m) &&& (64 : Int32) = 0 ↔ False) ∧ (nI (207 + 16 * m) >>> ((4 : Int32) &&& 31)) &&& (3 : Int32) = nI m ∧ (nI (207 + 16 * m) = (141 : Int32) ↔ False) ∧ (nI (207 + 16 * m) < (192 : Int32) ↔ False) := by decide +kernel
theorem c_up1_15 (s : CS) (m : Nat) (hm : m < 4) : tc_executeUpperHalf s (nI (207 + 16 * m)) = bd (tc_operandAddress s (nI m) 2) fun v1 s1 => bd (tc_operateOnWord s1 0 15 1 v1) fun _ s2 => some ((0 : Int32), s2) := by
  obtain ⟨f1, f2, f3, f4, f5, f6⟩ := cd_1_15 m hm
  unfold tc_executeUpperHalf
  rw [if_neg (fun z => f5.mp z), nm_d, nm_d, f1, f2, if_neg (fun z => f3.mp z)]
  unfold tc_executeUpperHalf_39 tc_executeUpperHalf_52 tc_executeUpperHalf_57
  rw [if_neg (by decide), if_neg (by decide), if_neg (by decide), f4]
  rfl
theorem m_up1_15 (s : MS) (m : Nat) (hm : m < 4) : mo_upper s (nI (207 + 16 * m)) = bd (mo_storeWord s 4 (nI m)) fun _ s1 => some ((0 : Int32), s1) := by
  obtain ⟨f1, f2, f3, f4, f5, f6⟩ := cd_1_15 m hm
  unfold mo_upper
  rw [nm_d, nm_d, f2, f4, if_neg (fun z => f6.mp z)]
  unfold mo_upper_23
  rw [if_pos (by decide)]
  unfold mo_upper_51 mo_upper_71 mo_upper_88 mo_upper_106 mo_upper_123 mo_upper_139 mo_upper_160
  rw [if_neg (by decide), if_neg (by decide), if_neg (by decide), if_neg (by decide), if_neg (by decide), if_neg (by decide), if_pos (by decide), if_neg (by decide)]
  unfold mo_upper_177
  apply congrArg (bd _)
  funext _ t
  rfl
