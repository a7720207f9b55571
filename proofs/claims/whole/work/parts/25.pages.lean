theorem pg_1_3_0 : ∀ m, m < 4 → nI (387 + 16 * m) >>> ((8 : Int32) &&& 31) = 1 ∧ nI (387 + 16 * m) &&& (15 : Int32) = (3 : Int32) ∧ (nI (387 + 16 * m) &&& (64 : Int32) = 0 ↔ True) ∧ (nI (387 + 16 * m) >>> ((4 : Int32) &&& 31)) &&& (3 : Int32) = nI m ∧ ¬ nI (387 + 16 * m) = (141 : Int32) := by decide +kernel
theorem ph_1_3_0 : ∀ m, m < 4 → (nI (131 + 16 * m) >>> ((4 : Int32) &&& 31)) &&& (3 : Int32) = nI m ∧ nI (131 + 16 * m) &&& (15 : Int32) = (3 : Int32) ∧ decide ((33 : Int32) ≤ nI (131 + 16 * m) ∧ nI (131 + 16 * m) ≤ (47 : Int32)) = false ∧ ¬ nI (131 + 16 * m) = (63 : Int32) ∧ decide ((128 : Int32) ≤ nI (131 + 16 * m) ∧ nI (131 + 16 * m) ≤ (191 : Int32)) = true ∧ (nI (131 + 16 * m) < (192 : Int32) ↔ True) ∧ dtab (387 + 16 * m) = true ∧ ixd (387 + 16 * m) = decide (m = 2) ∧ ¬ ((387 + 16 * m) = 30 ∨ (387 + 16 * m) = 31) ∧ ¬ nI (387 + 16 * m) &&& (128 : Int32) = 0 := by decide +kernel
theorem c_pg1_3_0 (s : CS) (m : Nat) (hm : m < 4) : tc_executeUpperHalf s (nI (387 + 16 * m)) = bd (tc_operandAddress s (nI m) 2) fun v1 s1 => bd (tc_operateOnWord s1 1 3 0 v1) fun _ s2 => some ((0 : Int32), s2) := by
  obtain ⟨f1, f2, f3, f4, f5⟩ := pg_1_3_0 m hm
  unfold tc_executeUpperHalf
  rw [if_neg f5, nm_d, nm_d, f1, f2, if_pos (f3.mpr trivial)]
  unfold tc_executeUpperHalf_39 tc_executeUpperHalf_52 tc_executeUpperHalf_57
  rw [if_pos (by decide), if_neg (by decide), f4]
  rfl
theorem m_pg1_3_0 (s : MS) (m : Nat) (hm : m < 4) : mo_behindTen s (nI (131 + 16 * m)) = bd (mo_d s) fun v5 s3 => bd (mo_compare s3 v5 (-1) (nI m)) fun _ s1 => some ((0 : Int32), s1) := by
  obtain ⟨g1, g2, g3, g4, g5, g6, g7, g8, g9, g10⟩ := ph_1_3_0 m hm
  unfold mo_behindTen
  rw [nm_d, nm_d, g1, g2, m_in, bd_s, g3, if_pos (show bI false = 0 from rfl), if_neg g4, m_in, bd_s, g5]
  rw [if_neg (show ¬ bI true = 0 by decide)]
  rw [if_pos (by decide)]
  rfl
theorem bp1_3_0 (a : AS) (b : Nat → Int32) (m : Nat) (hm : m < 4) : Bo a b (387 + 16 * m) (if nI (387 + 16 * m) &&& (128 : Int32) = 0 then tc_executeLowerHalf (mC a) (nI (387 + 16 * m)) else tc_executeUpperHalf (mC a) (nI (387 + 16 * m))) (mo_behindTen (mM a b false) (nI (131 + 16 * m))) := by
  obtain ⟨g1, g2, g3, g4, g5, g6, g7, g8, g9, g10⟩ := ph_1_3_0 m hm
  unfold Bo dfd
  rw [if_neg g10, g7, g8, if_neg g9]
  have key : (m = 2 → dpb (fB a) = true) → Rs b (tc_executeUpperHalf (mC a) (nI (387 + 16 * m))) (mo_behindTen (mM a b false) (nI (131 + 16 * m))) := by
    intro hd
    obtain ⟨n, z, e1, e2, e3⟩ := ad_word a b m (by omega) hd
    rw [c_pg1_3_0 _ m hm, m_pg1_3_0 _ m hm, e1, bd_s, c_w1_3_0, bd_s, m_d9, bd_s, m_cmp9 a z b _ _ (wd2_lt z n) e3 e2, bd_s]
    exact rs_some
  by_cases h2 : m = 2
  · subst h2
    refine ⟨fun q => key (fun _ => q), fun q => ?_⟩
    rw [m_pg1_3_0 _ 2 hm, show nI 2 = (2 : Int32) from rfl, m_d9, bd_s, un_cmp a b _ (-1) q, bd_s]
    exact un_of rfl (o6_fS a)
  · rw [decide_eq_false h2]
    exact ⟨fun _ => key (fun q => absurd q h2), fun q => (by cases q)⟩
theorem pg_1_12_0 : ∀ m, m < 4 → nI (396 + 16 * m) >>> ((8 : Int32) &&& 31) = 1 ∧ nI (396 + 16 * m) &&& (15 : Int32) = (12 : Int32) ∧ (nI (396 + 16 * m) &&& (64 : Int32) = 0 ↔ True) ∧ (nI (396 + 16 * m) >>> ((4 : Int32) &&& 31)) &&& (3 : Int32) = nI m ∧ ¬ nI (396 + 16 * m) = (141 : Int32) := by decide +kernel
theorem ph_1_12_0 : ∀ m, m < 4 → (nI (140 + 16 * m) >>> ((4 : Int32) &&& 31)) &&& (3 : Int32) = nI m ∧ nI (140 + 16 * m) &&& (15 : Int32) = (12 : Int32) ∧ decide ((33 : Int32) ≤ nI (140 + 16 * m) ∧ nI (140 + 16 * m) ≤ (47 : Int32)) = false ∧ ¬ nI (140 + 16 * m) = (63 : Int32) ∧ decide ((128 : Int32) ≤ nI (140 + 16 * m) ∧ nI (140 + 16 * m) ≤ (191 : Int32)) = true ∧ (nI (140 + 16 * m) < (192 : Int32) ↔ True) ∧ dtab (396 + 16 * m) = true ∧ ixd (396 + 16 * m) = decide (m = 2) ∧ ¬ ((396 + 16 * m) = 30 ∨ (396 + 16 * m) = 31) ∧ ¬ nI (396 + 16 * m) &&& (128 : Int32) = 0 := by decide +kernel
theorem c_pg1_12_0 (s : CS) (m : Nat) (hm : m < 4) : tc_executeUpperHalf s (nI (396 + 16 * m)) = bd (tc_operandAddress s (nI m) 2) fun v1 s1 => bd (tc_operateOnWord s1 1 12 0 v1) fun _ s2 => some ((0 : Int32), s2) := by
  obtain ⟨f1, f2, f3, f4, f5⟩ := pg_1_12_0 m hm
  unfold tc_executeUpperHalf
  rw [if_neg f5, nm_d, nm_d, f1, f2, if_pos (f3.mpr trivial)]
  unfold tc_executeUpperHalf_39 tc_executeUpperHalf_52 tc_executeUpperHalf_57
  rw [if_neg (by decide), if_neg (by decide), if_neg (by decide), f4]
  rfl
theorem m_pg1_12_0 (s : MS) (m : Nat) (hm : m < 4) : mo_behindTen s (nI (140 + 16 * m)) = bd (mo_compare s 0 3 (nI m)) fun _ s1 => some ((0 : Int32), s1) := by
  obtain ⟨g1, g2, g3, g4, g5, g6, g7, g8, g9, g10⟩ := ph_1_12_0 m hm
  unfold mo_behindTen
  rw [nm_d, nm_d, g1, g2, m_in, bd_s, g3, if_pos (show bI false = 0 from rfl), if_neg g4, m_in, bd_s, g5]
  rw [if_neg (show ¬ bI true = 0 by decide)]
  rw [if_neg (by decide)]
  unfold mo_behindTen_78
  rw [m_in, bd_s, g5, if_neg (show ¬ bI true = 0 by decide), if_pos (by decide)]
  rfl
theorem bp1_12_0 (a : AS) (b : Nat → Int32) (m : Nat) (hm : m < 4) : Bo a b (396 + 16 * m) (if nI (396 + 16 * m) &&& (128 : Int32) = 0 then tc_executeLowerHalf (mC a) (nI (396 + 16 * m)) else tc_executeUpperHalf (mC a) (nI (396 + 16 * m))) (mo_behindTen (mM a b false) (nI (140 + 16 * m))) := by
  obtain ⟨g1, g2, g3, g4, g5, g6, g7, g8, g9, g10⟩ := ph_1_12_0 m hm
  unfold Bo dfd
  rw [if_neg g10, g7, g8, if_neg g9]
  have key : (m = 2 → dpb (fB a) = true) → Rs b (tc_executeUpperHalf (mC a) (nI (396 + 16 * m))) (mo_behindTen (mM a b false) (nI (140 + 16 * m))) := by
    intro hd
    obtain ⟨n, z, e1, e2, e3⟩ := ad_word a b m (by omega) hd
    rw [c_pg1_12_0 _ m hm, m_pg1_12_0 _ m hm, e1, bd_s, c_w1_12_0, bd_s, m_cmp3 a z b _ _ _ (wd2_lt z n) e2, bd_s]
    exact rs_some
  by_cases h2 : m = 2
  · subst h2
    refine ⟨fun q => key (fun _ => q), fun q => ?_⟩
    rw [m_pg1_12_0 _ 2 hm, show nI 2 = (2 : Int32) from rfl, un_cmp a b 0 3 q, bd_s]
    exact un_of rfl (o6_fS a)
  · rw [decide_eq_false h2]
    exact ⟨fun _ => key (fun q => absurd q h2), fun q => (by cases q)⟩
theorem pg_1_14_0 : ∀ m, m < 4 → nI (398 + 16 * m) >>> ((8 : Int32) &&& 31) = 1 ∧ nI (398 + 16 * m) &&& (15 : Int32) = (14 : Int32) ∧ (nI (398 + 16 * m) &&& (64 : Int32) = 0 ↔ True) ∧ (nI (398 + 16 * m) >>> ((4 : Int32) &&& 31)) &&& (3 : Int32) = nI m ∧ ¬ nI (398 + 16 * m) = (141 : Int32) := by decide +kernel
theorem ph_1_14_0 : ∀ m, m < 4 → (nI (142 + 16 * m) >>> ((4 : Int32) &&& 31)) &&& (3 : Int32) = nI m ∧ nI (142 + 16 * m) &&& (15 : Int32) = (14 : Int32) ∧ decide ((33 : Int32) ≤ nI (142 + 16 * m) ∧ nI (142 + 16 * m) ≤ (47 : Int32)) = false ∧ ¬ nI (142 + 16 * m) = (63 : Int32) ∧ decide ((128 : Int32) ≤ nI (142 + 16 * m) ∧ nI (142 + 16 * m) ≤ (191 : Int32)) = true ∧ (nI (142 + 16 * m) < (192 : Int32) ↔ True) ∧ dtab (398 + 16 * m) = true ∧ ixd (398 + 16 * m) = decide (m = 2) ∧ ¬ ((398 + 16 * m) = 30 ∨ (398 + 16 * m) = 31) ∧ ¬ nI (398 + 16 * m) &&& (128 : Int32) = 0 := by decide +kernel
theorem c_pg1_14_0 (s : CS) (m : Nat) (hm : m < 4) : tc_executeUpperHalf s (nI (398 + 16 * m)) = bd (tc_operandAddress s (nI m) 2) fun v1 s1 => bd (tc_operateOnWord s1 1 14 0 v1) fun _ s2 => some ((0 : Int32), s2) := by
  obtain ⟨f1, f2, f3, f4, f5⟩ := pg_1_14_0 m hm
  unfold tc_executeUpperHalf
  rw [if_neg f5, nm_d, nm_d, f1, f2, if_pos (f3.mpr trivial)]
  unfold tc_executeUpperHalf_39 tc_executeUpperHalf_52 tc_executeUpperHalf_57
  rw [if_neg (by decide), if_neg (by decide), if_neg (by decide), f4]
  rfl
theorem m_pg1_14_0 (s : MS) (m : Nat) (hm : m < 4) : mo_behindTen s (nI (142 + 16 * m)) = bd (mo_loadWord s 3 (nI m)) fun _ s1 => some ((0 : Int32), s1) := by
  obtain ⟨g1, g2, g3, g4, g5, g6, g7, g8, g9, g10⟩ := ph_1_14_0 m hm
  unfold mo_behindTen
  rw [nm_d, nm_d, g1, g2, m_in, bd_s, g3, if_pos (show bI false = 0 from rfl), if_neg g4, m_in, bd_s, g5]
  rw [if_neg (show ¬ bI true = 0 by decide)]
  rw [if_neg (by decide)]
  unfold mo_behindTen_78
  rw [m_in, bd_s, g5, if_neg (show ¬ bI true = 0 by decide), if_neg (by decide)]
  unfold mo_behindTen_107
  rw [m_in, bd_s, g5, if_neg (show ¬ bI true = 0 by decide), if_pos (by decide)]
  rfl
theorem bp1_14_0 (a : AS) (b : Nat → Int32) (m : Nat) (hm : m < 4) : Bo a b (398 + 16 * m) (if nI (398 + 16 * m) &&& (128 : Int32) = 0 then tc_executeLowerHalf (mC a) (nI (398 + 16 * m)) else tc_executeUpperHalf (mC a) (nI (398 + 16 * m))) (mo_behindTen (mM a b false) (nI (142 + 16 * m))) := by
  obtain ⟨g1, g2, g3, g4, g5, g6, g7, g8, g9, g10⟩ := ph_1_14_0 m hm
  unfold Bo dfd
  rw [if_neg g10, g7, g8, if_neg g9]
  have key : (m = 2 → dpb (fB a) = true) → Rs b (tc_executeUpperHalf (mC a) (nI (398 + 16 * m))) (mo_behindTen (mM a b false) (nI (142 + 16 * m))) := by
    intro hd
    obtain ⟨n, z, e1, e2, e3⟩ := ad_word a b m (by omega) hd
    rw [c_pg1_14_0 _ m hm, m_pg1_14_0 _ m hm, e1, bd_s, c_w1_14_0, bd_s, m_ld3 a z b _ _ (wd2_lt z n) e2, bd_s]
    exact rs_some
  by_cases h2 : m = 2
  · subst h2
    refine ⟨fun q => key (fun _ => q), fun q => ?_⟩
    rw [m_pg1_14_0 _ 2 hm, show nI 2 = (2 : Int32) from rfl, un_ld a b 3 q, bd_s]
    exact un_of rfl (o6_fS a)
  · rw [decide_eq_false h2]
    exact ⟨fun _ => key (fun q => absurd q h2), fun q => (by cases q)⟩
theorem pg_1_15_0 : ∀ m, m < 4 → nI (399 + 16 * m) >>> ((8 : Int32) &&& 31) = 1 ∧ nI (399 + 16 * m) &&& (15 : Int32) = (15 : Int32) ∧ (nI (399 + 16 * m) &&& (64 : Int32) = 0 ↔ True) ∧ (nI (399 + 16 * m) >>> ((4 : Int32) &&& 31)) &&& (3 : Int32) = nI m ∧ ¬ nI (399 + 16 * m) = (141 : Int32) := by decide +kernel
theorem ph_1_15_0 : ∀ m, m < 4 → (nI (143 + 16 * m) >>> ((4 : Int32) &&& 31)) &&& (3 : Int32) = nI m ∧ nI (143 + 16 * m) &&& (15 : Int32) = (15 : Int32) ∧ decide ((33 : Int32) ≤ nI (143 + 16 * m) ∧ nI (143 + 16 * m) ≤ (47 : Int32)) = false ∧ ¬ nI (143 + 16 * m) = (63 : Int32) ∧ decide ((128 : Int32) ≤ nI (143 + 16 * m) ∧ nI (143 + 16 * m) ≤ (191 : Int32)) = true ∧ (nI (143 + 16 * m) < (192 : Int32) ↔ True) ∧ dtab (399 + 16 * m) = decide (¬ m = 0) ∧ ixd (399 + 16 * m) = decide (m = 2) ∧ ¬ ((399 + 16 * m) = 30 ∨ (399 + 16 * m) = 31) ∧ ¬ nI (399 + 16 * m) &&& (128 : Int32) = 0 := by decide +kernel
theorem c_pg1_15_0 (s : CS) (m : Nat) (hm : m < 4) : tc_executeUpperHalf s (nI (399 + 16 * m)) = bd (tc_operandAddress s (nI m) 2) fun v1 s1 => bd (tc_operateOnWord s1 1 15 0 v1) fun _ s2 => some ((0 : Int32), s2) := by
  obtain ⟨f1, f2, f3, f4, f5⟩ := pg_1_15_0 m hm
  unfold tc_executeUpperHalf
  rw [if_neg f5, nm_d, nm_d, f1, f2, if_pos (f3.mpr trivial)]
  unfold tc_executeUpperHalf_39 tc_executeUpperHalf_52 tc_executeUpperHalf_57
  rw [if_neg (by decide), if_neg (by decide), if_neg (by decide), f4]
  rfl
theorem m_pg1_15_0 (s : MS) (m : Nat) (hm : m < 4) : mo_behindTen s (nI (143 + 16 * m)) = bd (mo_storeWord s 3 (nI m)) fun _ s1 => some ((0 : Int32), s1) := by
  obtain ⟨g1, g2, g3, g4, g5, g6, g7, g8, g9, g10⟩ := ph_1_15_0 m hm
  unfold mo_behindTen
  rw [nm_d, nm_d, g1, g2, m_in, bd_s, g3, if_pos (show bI false = 0 from rfl), if_neg g4, m_in, bd_s, g5]
  rw [if_neg (show ¬ bI true = 0 by decide)]
  rw [if_neg (by decide)]
  unfold mo_behindTen_78
  rw [m_in, bd_s, g5, if_neg (show ¬ bI true = 0 by decide), if_neg (by decide)]
  unfold mo_behindTen_107
  rw [m_in, bd_s, g5, if_neg (show ¬ bI true = 0 by decide), if_neg (by decide)]
  unfold mo_behindTen_135
  rw [m_in, bd_s, g5, if_neg (show ¬ bI true = 0 by decide), if_pos (by decide)]
  rfl
theorem bp1_15_0 (a : AS) (b : Nat → Int32) (m : Nat) (hm : m < 4) : Bo a b (399 + 16 * m) (if nI (399 + 16 * m) &&& (128 : Int32) = 0 then tc_executeLowerHalf (mC a) (nI (399 + 16 * m)) else tc_executeUpperHalf (mC a) (nI (399 + 16 * m))) (mo_behindTen (mM a b false) (nI (143 + 16 * m))) := by
  obtain ⟨g1, g2, g3, g4, g5, g6, g7, g8, g9, g10⟩ := ph_1_15_0 m hm
  unfold Bo dfd
  rw [if_neg g10, g7, g8, if_neg g9]
  by_cases h0 : m = 0
  · subst h0
    refine ⟨fun q => (by cases q), fun _ => ?_⟩
    rw [m_pg1_15_0 _ 0 hm, show nI 0 = (0 : Int32) from rfl, un_st0 a b 3, bd_s]
    exact un_of rfl (o6_rf a)
  · rw [decide_eq_true h0]
    have key : (m = 2 → dpb (fB a) = true) → Rs b (tc_executeUpperHalf (mC a) (nI (399 + 16 * m))) (mo_behindTen (mM a b false) (nI (143 + 16 * m))) := by
      intro hd
      obtain ⟨n, z, e1, e2, e4, e3⟩ := ad_addr a b m 2 (by omega) hd
      rw [c_pg1_15_0 _ m hm, m_pg1_15_0 _ m hm, e1, bd_s, c_w1_15_0, bd_s, m_st3 a z b _ n (fun q => h0 ((m_eq0 (by omega)).mp q)) e2, bd_s]
      exact rs_some
    by_cases h2 : m = 2
    · subst h2
      refine ⟨fun q => key (fun _ => q), fun q => ?_⟩
      rw [m_pg1_15_0 _ 2 hm, show nI 2 = (2 : Int32) from rfl, un_st a b 3 q, bd_s]
      exact un_of rfl (o6_fS a)
    · rw [decide_eq_false h2]
      exact ⟨fun _ => key (fun q => absurd q h2), fun q => (by cases q)⟩
theorem pg_1_14_1 : ∀ m, m < 4 → nI (462 + 16 * m) >>> ((8 : Int32) &&& 31) = 1 ∧ nI (462 + 16 * m) &&& (15 : Int32) = (14 : Int32) ∧ (nI (462 + 16 * m) &&& (64 : Int32) = 0 ↔ False) ∧ (nI (462 + 16 * m) >>> ((4 : Int32) &&& 31)) &&& (3 : Int32) = nI m ∧ ¬ nI (462 + 16 * m) = (141 : Int32) := by decide +kernel
theorem ph_1_14_1 : ∀ m, m < 4 → (nI (206 + 16 * m) >>> ((4 : Int32) &&& 31)) &&& (3 : Int32) = nI m ∧ nI (206 + 16 * m) &&& (15 : Int32) = (14 : Int32) ∧ decide ((33 : Int32) ≤ nI (206 + 16 * m) ∧ nI (206 + 16 * m) ≤ (47 : Int32)) = false ∧ ¬ nI (206 + 16 * m) = (63 : Int32) ∧ decide ((128 : Int32) ≤ nI (206 + 16 * m) ∧ nI (206 + 16 * m) ≤ (191 : Int32)) = false ∧ (nI (206 + 16 * m) < (192 : Int32) ↔ False) ∧ dtab (462 + 16 * m) = true ∧ ixd (462 + 16 * m) = decide (m = 2) ∧ ¬ ((462 + 16 * m) = 30 ∨ (462 + 16 * m) = 31) ∧ ¬ nI (462 + 16 * m) &&& (128 : Int32) = 0 := by decide +kernel
theorem c_pg1_14_1 (s : CS) (m : Nat) (hm : m < 4) : tc_executeUpperHalf s (nI (462 + 16 * m)) = bd (tc_operandAddress s (nI m) 2) fun v1 s1 => bd (tc_operateOnWord s1 1 14 1 v1) fun _ s2 => some ((0 : Int32), s2) := by
  obtain ⟨f1, f2, f3, f4, f5⟩ := pg_1_14_1 m hm
  unfold tc_executeUpperHalf
  rw [if_neg f5, nm_d, nm_d, f1, f2, if_neg (fun z => f3.mp z)]
  unfold tc_executeUpperHalf_39 tc_executeUpperHalf_52 tc_executeUpperHalf_57
  rw [if_neg (by decide), if_neg (by decide), if_neg (by decide), f4]
  rfl
theorem m_pg1_14_1 (s : MS) (m : Nat) (hm : m < 4) : mo_behindTen s (nI (206 + 16 * m)) = bd (mo_loadWord s 5 (nI m)) fun _ s1 => some ((0 : Int32), s1) := by
  obtain ⟨g1, g2, g3, g4, g5, g6, g7, g8, g9, g10⟩ := ph_1_14_1 m hm
  unfold mo_behindTen
  rw [nm_d, nm_d, g1, g2, m_in, bd_s, g3, if_pos (show bI false = 0 from rfl), if_neg g4, m_in, bd_s, g5]
  rw [if_pos (show bI false = 0 from rfl)]
  unfold mo_behindTen_78
  rw [m_in, bd_s, g5, if_pos (show bI false = 0 from rfl)]
  unfold mo_behindTen_107
  rw [m_in, bd_s, g5, if_pos (show bI false = 0 from rfl)]
  unfold mo_behindTen_135
  rw [m_in, bd_s, g5, if_pos (show bI false = 0 from rfl)]
  unfold mo_behindTen_163
  rw [if_neg (fun z => g6.mp z), if_pos (by decide)]
  rfl
theorem bp1_14_1 (a : AS) (b : Nat → Int32) (m : Nat) (hm : m < 4) : Bo a b (462 + 16 * m) (if nI (462 + 16 * m) &&& (128 : Int32) = 0 then tc_executeLowerHalf (mC a) (nI (462 + 16 * m)) else tc_executeUpperHalf (mC a) (nI (462 + 16 * m))) (mo_behindTen (mM a b false) (nI (206 + 16 * m))) := by
  obtain ⟨g1, g2, g3, g4, g5, g6, g7, g8, g9, g10⟩ := ph_1_14_1 m hm
  unfold Bo dfd
  rw [if_neg g10, g7, g8, if_neg g9]
  have key : (m = 2 → dpb (fB a) = true) → Rs b (tc_executeUpperHalf (mC a) (nI (462 + 16 * m))) (mo_behindTen (mM a b false) (nI (206 + 16 * m))) := by
    intro hd
    obtain ⟨n, z, e1, e2, e3⟩ := ad_word a b m (by omega) hd
    rw [c_pg1_14_1 _ m hm, m_pg1_14_1 _ m hm, e1, bd_s, c_w1_14_1, bd_s, m_ld5 a z b _ _ (wd2_lt z n) e2, bd_s]
    exact rs_some
  by_cases h2 : m = 2
  · subst h2
    refine ⟨fun q => key (fun _ => q), fun q => ?_⟩
    rw [m_pg1_14_1 _ 2 hm, show nI 2 = (2 : Int32) from rfl, un_ld a b 5 q, bd_s]
    exact un_of rfl (o6_fS a)
  · rw [decide_eq_false h2]
    exact ⟨fun _ => key (fun q => absurd q h2), fun q => (by cases q)⟩
theorem pg_1_15_1 : ∀ m, m < 4 → nI (463 + 16 * m) >>> ((8 : Int32) &&& 31) = 1 ∧ nI (463 + 16 * m) &&& (15 : Int32) = (15 : Int32) ∧ (nI (463 + 16 * m) &&& (64 : Int32) = 0 ↔ False) ∧ (nI (463 + 16 * m) >>> ((4 : Int32) &&& 31)) &&& (3 : Int32) = nI m ∧ ¬ nI (463 + 16 * m) = (141 : Int32) := by decide +kernel
theorem ph_1_15_1 : ∀ m, m < 4 → (nI (207 + 16 * m) >>> ((4 : Int32) &&& 31)) &&& (3 : Int32) = nI m ∧ nI (207 + 16 * m) &&& (15 : Int32) = (15 : Int32) ∧ decide ((33 : Int32) ≤ nI (207 + 16 * m) ∧ nI (207 + 16 * m) ≤ (47 : Int32)) = false ∧ ¬ nI (207 + 16 * m) = (63 : Int32) ∧ decide ((128 : Int32) ≤ nI (207 + 16 * m) ∧ nI (207 + 16 * m) ≤ (191 : Int32)) = false ∧ (nI (207 + 16 * m) < (192 : Int32) ↔ False) ∧ dtab (463 + 16 * m) = decide (¬ m = 0) ∧ ixd (463 + 16 * m) = decide (m = 2) ∧ ¬ ((463 + 16 * m) = 30 ∨ (463 + 16 * m) = 31) ∧ ¬ nI (463 + 16 * m) &&& (128 : Int32) = 0 := by decide +kernel
theorem c_pg1_15_1 (s : CS) (m : Nat) (hm : m < 4) : tc_executeUpperHalf s (nI (463 + 16 * m)) = bd (tc_operandAddress s (nI m) 2) fun v1 s1 => bd (tc_operateOnWord s1 1 15 1 v1) fun _ s2 => some ((0 : Int32), s2) := by
  obtain ⟨f1, f2, f3, f4, f5⟩ := pg_1_15_1 m hm
  unfold tc_executeUpperHalf
  rw [if_neg f5, nm_d, nm_d, f1, f2, if_neg (fun z => f3.mp z)]
  unfold tc_executeUpperHalf_39 tc_executeUpperHalf_52 tc_executeUpperHalf_57
  rw [if_neg (by decide), if_neg (by decide), if_neg (by decide), f4]
  rfl
theorem m_pg1_15_1 (s : MS) (m : Nat) (hm : m < 4) : mo_behindTen s (nI (207 + 16 * m)) = bd (mo_storeWord s 5 (nI m)) fun _ s1 => some ((0 : Int32), s1) := by
  obtain ⟨g1, g2, g3, g4, g5, g6, g7, g8, g9, g10⟩ := ph_1_15_1 m hm
  unfold mo_behindTen
  rw [nm_d, nm_d, g1, g2, m_in, bd_s, g3, if_pos (show bI false = 0 from rfl), if_neg g4, m_in, bd_s, g5]
  rw [if_pos (show bI false = 0 from rfl)]
  unfold mo_behindTen_78
  rw [m_in, bd_s, g5, if_pos (show bI false = 0 from rfl)]
  unfold mo_behindTen_107
  rw [m_in, bd_s, g5, if_pos (show bI false = 0 from rfl)]
  unfold mo_behindTen_135
  rw [m_in, bd_s, g5, if_pos (show bI false = 0 from rfl)]
  unfold mo_behindTen_163
  rw [if_neg (fun z => g6.mp z), if_neg (by decide)]
  unfold mo_behindTen_185
  rw [if_neg (fun z => g6.mp z), if_pos (by decide)]
  rfl
theorem bp1_15_1 (a : AS) (b : Nat → Int32) (m : Nat) (hm : m < 4) : Bo a b (463 + 16 * m) (if nI (463 + 16 * m) &&& (128 : Int32) = 0 then tc_executeLowerHalf (mC a) (nI (463 + 16 * m)) else tc_executeUpperHalf (mC a) (nI (463 + 16 * m))) (mo_behindTen (mM a b false) (nI (207 + 16 * m))) := by
  obtain ⟨g1, g2, g3, g4, g5, g6, g7, g8, g9, g10⟩ := ph_1_15_1 m hm
  unfold Bo dfd
  rw [if_neg g10, g7, g8, if_neg g9]
  by_cases h0 : m = 0
  · subst h0
    refine ⟨fun q => (by cases q), fun _ => ?_⟩
    rw [m_pg1_15_1 _ 0 hm, show nI 0 = (0 : Int32) from rfl, un_st0 a b 5, bd_s]
    exact un_of rfl (o6_rf a)
  · rw [decide_eq_true h0]
    have key : (m = 2 → dpb (fB a) = true) → Rs b (tc_executeUpperHalf (mC a) (nI (463 + 16 * m))) (mo_behindTen (mM a b false) (nI (207 + 16 * m))) := by
      intro hd
      obtain ⟨n, z, e1, e2, e4, e3⟩ := ad_addr a b m 2 (by omega) hd
      rw [c_pg1_15_1 _ m hm, m_pg1_15_1 _ m hm, e1, bd_s, c_w1_15_1, bd_s, m_st5 a z b _ n (fun q => h0 ((m_eq0 (by omega)).mp q)) e2, bd_s]
      exact rs_some
    by_cases h2 : m = 2
    · subst h2
      refine ⟨fun q => key (fun _ => q), fun q => ?_⟩
      rw [m_pg1_15_1 _ 2 hm, show nI 2 = (2 : Int32) from rfl, un_st a b 5 q, bd_s]
      exact un_of rfl (o6_fS a)
    · rw [decide_eq_false h2]
      exact ⟨fun _ => key (fun q => absurd q h2), fun q => (by cases q)⟩
theorem pg_2_3_0 : ∀ m, m < 4 → nI (643 + 16 * m) >>> ((8 : Int32) &&& 31) = 2 ∧ nI (643 + 16 * m) &&& (15 : Int32) = (3 : Int32) ∧ (nI (643 + 16 * m) &&& (64 : Int32) = 0 ↔ True) ∧ (nI (643 + 16 * m) >>> ((4 : Int32) &&& 31)) &&& (3 : Int32) = nI m ∧ ¬ nI (643 + 16 * m) = (141 : Int32) := by decide +kernel
theorem ph_2_3_0 : ∀ m, m < 4 → (nI (131 + 16 * m) >>> ((4 : Int32) &&& 31)) &&& (3 : Int32) = nI m ∧ nI (131 + 16 * m) &&& (15 : Int32) = (3 : Int32) ∧ decide ((33 : Int32) ≤ nI (131 + 16 * m) ∧ nI (131 + 16 * m) ≤ (47 : Int32)) = false ∧ ¬ nI (131 + 16 * m) = (63 : Int32) ∧ decide ((128 : Int32) ≤ nI (131 + 16 * m) ∧ nI (131 + 16 * m) ≤ (191 : Int32)) = true ∧ (nI (131 + 16 * m) < (192 : Int32) ↔ True) ∧ dtab (643 + 16 * m) = true ∧ ixd (643 + 16 * m) = decide (m = 2) ∧ ¬ ((643 + 16 * m) = 30 ∨ (643 + 16 * m) = 31) ∧ ¬ nI (643 + 16 * m) &&& (128 : Int32) = 0 := by decide +kernel
theorem c_pg2_3_0 (s : CS) (m : Nat) (hm : m < 4) : tc_executeUpperHalf s (nI (643 + 16 * m)) = bd (tc_operandAddress s (nI m) 2) fun v1 s1 => bd (tc_operateOnWord s1 2 3 0 v1) fun _ s2 => some ((0 : Int32), s2) := by
  obtain ⟨f1, f2, f3, f4, f5⟩ := pg_2_3_0 m hm
  unfold tc_executeUpperHalf
  rw [if_neg f5, nm_d, nm_d, f1, f2, if_pos (f3.mpr trivial)]
  unfold tc_executeUpperHalf_39 tc_executeUpperHalf_52 tc_executeUpperHalf_57
  rw [if_pos (by decide), if_neg (by decide), f4]
  rfl
theorem m_pg2_3_0 (s : MS) (m : Nat) (hm : m < 4) : mo_behindEleven s (nI (131 + 16 * m)) = bd (mo_compare s 0 4 (nI m)) fun _ s1 => some ((0 : Int32), s1) := by
  obtain ⟨g1, g2, g3, g4, g5, g6, g7, g8, g9, g10⟩ := ph_2_3_0 m hm
  unfold mo_behindEleven mo_behindEleven_51
  rw [nm_d, nm_d, g1, g2, if_neg g4, m_in, bd_s, g5, if_neg (show ¬ bI true = 0 by decide), if_pos (by decide), if_pos (by decide)]
  rfl
theorem bp2_3_0 (a : AS) (b : Nat → Int32) (m : Nat) (hm : m < 4) : Bo a b (643 + 16 * m) (if nI (643 + 16 * m) &&& (128 : Int32) = 0 then tc_executeLowerHalf (mC a) (nI (643 + 16 * m)) else tc_executeUpperHalf (mC a) (nI (643 + 16 * m))) (mo_behindEleven (mM a b false) (nI (131 + 16 * m))) := by
  obtain ⟨g1, g2, g3, g4, g5, g6, g7, g8, g9, g10⟩ := ph_2_3_0 m hm
  unfold Bo dfd
  rw [if_neg g10, g7, g8, if_neg g9]
  have key : (m = 2 → dpb (fB a) = true) → Rs b (tc_executeUpperHalf (mC a) (nI (643 + 16 * m))) (mo_behindEleven (mM a b false) (nI (131 + 16 * m))) := by
    intro hd
    obtain ⟨n, z, e1, e2, e3⟩ := ad_word a b m (by omega) hd
    rw [c_pg2_3_0 _ m hm, m_pg2_3_0 _ m hm, e1, bd_s, c_w2_3_0, bd_s, m_cmp4 a z b _ _ _ (wd2_lt z n) e2, bd_s]
    exact rs_some
  by_cases h2 : m = 2
  · subst h2
    refine ⟨fun q => key (fun _ => q), fun q => ?_⟩
    rw [m_pg2_3_0 _ 2 hm, show nI 2 = (2 : Int32) from rfl, un_cmp a b 0 4 q, bd_s]
    exact un_of rfl (o6_fS a)
  · rw [decide_eq_false h2]
    exact ⟨fun _ => key (fun q => absurd q h2), fun q => (by cases q)⟩
theorem pg_2_12_0 : ∀ m, m < 4 → nI (652 + 16 * m) >>> ((8 : Int32) &&& 31) = 2 ∧ nI (652 + 16 * m) &&& (15 : Int32) = (12 : Int32) ∧ (nI (652 + 16 * m) &&& (64 : Int32) = 0 ↔ True) ∧ (nI (652 + 16 * m) >>> ((4 : Int32) &&& 31)) &&& (3 : Int32) = nI m ∧ ¬ nI (652 + 16 * m) = (141 : Int32) := by decide +kernel
theorem ph_2_12_0 : ∀ m, m < 4 → (nI (140 + 16 * m) >>> ((4 : Int32) &&& 31)) &&& (3 : Int32) = nI m ∧ nI (140 + 16 * m) &&& (15 : Int32) = (12 : Int32) ∧ decide ((33 : Int32) ≤ nI (140 + 16 * m) ∧ nI (140 + 16 * m) ≤ (47 : Int32)) = false ∧ ¬ nI (140 + 16 * m) = (63 : Int32) ∧ decide ((128 : Int32) ≤ nI (140 + 16 * m) ∧ nI (140 + 16 * m) ≤ (191 : Int32)) = true ∧ (nI (140 + 16 * m) < (192 : Int32) ↔ True) ∧ dtab (652 + 16 * m) = true ∧ ixd (652 + 16 * m) = decide (m = 2) ∧ ¬ ((652 + 16 * m) = 30 ∨ (652 + 16 * m) = 31) ∧ ¬ nI (652 + 16 * m) &&& (128 : Int32) = 0 := by decide +kernel
theorem c_pg2_12_0 (s : CS) (m : Nat) (hm : m < 4) : tc_executeUpperHalf s (nI (652 + 16 * m)) = bd (tc_operandAddress s (nI m) 2) fun v1 s1 => bd (tc_operateOnWord s1 2 12 0 v1) fun _ s2 => some ((0 : Int32), s2) := by
  obtain ⟨f1, f2, f3, f4, f5⟩ := pg_2_12_0 m hm
  unfold tc_executeUpperHalf
  rw [if_neg f5, nm_d, nm_d, f1, f2, if_pos (f3.mpr trivial)]
  unfold tc_executeUpperHalf_39 tc_executeUpperHalf_52 tc_executeUpperHalf_57
  rw [if_neg (by decide), if_neg (by decide), if_neg (by decide), f4]
  rfl
theorem m_pg2_12_0 (s : MS) (m : Nat) (hm : m < 4) : mo_behindEleven s (nI (140 + 16 * m)) = bd (mo_compare s 0 5 (nI m)) fun _ s1 => some ((0 : Int32), s1) := by
  obtain ⟨g1, g2, g3, g4, g5, g6, g7, g8, g9, g10⟩ := ph_2_12_0 m hm
  unfold mo_behindEleven mo_behindEleven_51
  rw [nm_d, nm_d, g1, g2, if_neg g4, m_in, bd_s, g5, if_neg (show ¬ bI true = 0 by decide), if_neg (by decide), if_pos (by decide), if_neg (by decide)]
  rfl
theorem bp2_12_0 (a : AS) (b : Nat → Int32) (m : Nat) (hm : m < 4) : Bo a b (652 + 16 * m) (if nI (652 + 16 * m) &&& (128 : Int32) = 0 then tc_executeLowerHalf (mC a) (nI (652 + 16 * m)) else tc_executeUpperHalf (mC a) (nI (652 + 16 * m))) (mo_behindEleven (mM a b false) (nI (140 + 16 * m))) := by
  obtain ⟨g1, g2, g3, g4, g5, g6, g7, g8, g9, g10⟩ := ph_2_12_0 m hm
  unfold Bo dfd
  rw [if_neg g10, g7, g8, if_neg g9]
  have key : (m = 2 → dpb (fB a) = true) → Rs b (tc_executeUpperHalf (mC a) (nI (652 + 16 * m))) (mo_behindEleven (mM a b false) (nI (140 + 16 * m))) := by
    intro hd
    obtain ⟨n, z, e1, e2, e3⟩ := ad_word a b m (by omega) hd
    rw [c_pg2_12_0 _ m hm, m_pg2_12_0 _ m hm, e1, bd_s, c_w2_12_0, bd_s, m_cmp5 a z b _ _ _ (wd2_lt z n) e2, bd_s]
    exact rs_some
  by_cases h2 : m = 2
  · subst h2
    refine ⟨fun q => key (fun _ => q), fun q => ?_⟩
    rw [m_pg2_12_0 _ 2 hm, show nI 2 = (2 : Int32) from rfl, un_cmp a b 0 5 q, bd_s]
    exact un_of rfl (o6_fS a)
  · rw [decide_eq_false h2]
    exact ⟨fun _ => key (fun q => absurd q h2), fun q => (by cases q)⟩
def k1 (c : Nat) : Bool := (decide (33 ≤ c) && decide (c ≤ 47)) || decide (c = 63) || ((decide (128 ≤ c) && decide (c ≤ 191)) && (decide (c % 16 = 3) || decide (c % 16 = 12) || decide (c % 16 = 14) || decide (c % 16 = 15))) || (decide (192 ≤ c) && (decide (c % 16 = 14) || decide (c % 16 = 15)))
def k2 (c : Nat) : Bool := decide (c = 63) || ((decide (128 ≤ c) && decide (c ≤ 191)) && (decide (c % 16 = 3) || decide (c % 16 = 12)))
theorem in_dec (c lo hi : Nat) (hc : c < 256) (h1 : lo < 256) (h2 : hi < 256) : decide (nI lo ≤ nI c ∧ nI c ≤ nI hi) = decide (lo ≤ c ∧ c ≤ hi) := dec_iff (by rw [nI_leI (by omega) (by omega), nI_leI (by omega) (by omega)])
theorem x_iff (c k : Nat) (hc : c < 256) (hk : k < 16) : (nI (c % 16) = nI k) ↔ c % 16 = k := nI_eq (by omega) (by omega)
theorem un10 (a : AS) (b : Nat → Int32) (c : Nat) (hc : c < 256) (h : k1 c = false) : Un a b (mo_behindTen (mM a b false) (nI c)) := by
  unfold k1 at h
  simp only [Bool.or_eq_false_iff, Bool.and_eq_false_iff, decide_eq_false_iff_not] at h
  have d33 : decide ((33 : Int32) ≤ nI c ∧ nI c ≤ (47 : Int32)) = false := (in_dec c 33 47 hc (by decide) (by decide)).trans (decide_eq_false (by omega))
  have n63 : ¬ nI c = (63 : Int32) := fun q => h.1.1.2 ((nI_eq (b := 63) (by omega) (by decide)).mp q)
  have d128 : decide ((128 : Int32) ≤ nI c ∧ nI c ≤ (191 : Int32)) = decide (128 ≤ c ∧ c ≤ 191) := in_dec c 128 191 hc (by decide) (by decide)
  have l192 : (nI c < (192 : Int32)) ↔ c < 192 := nI_ltI (b := 192) (by omega) (by decide)
  have x3 : (nI (c % 16) = (3 : Int32)) ↔ c % 16 = 3 := x_iff c 3 hc (by decide)
  have x12 : (nI (c % 16) = (12 : Int32)) ↔ c % 16 = 12 := x_iff c 12 hc (by decide)
  have x14 : (nI (c % 16) = (14 : Int32)) ↔ c % 16 = 14 := x_iff c 14 hc (by decide)
  have x15 : (nI (c % 16) = (15 : Int32)) ↔ c % 16 = 15 := x_iff c 15 hc (by decide)
  have e : mo_behindTen_207 (mM a b false) = some (0, mM a b true) := rfl
  unfold mo_behindTen mo_behindTen_78 mo_behindTen_107 mo_behindTen_135 mo_behindTen_163 mo_behindTen_185
  simp only [nm_d, m_in, bd_s, d33, d128, n63, l192, and15, x3, x12, x14, x15, bI_f, if_true, if_false, e]
  by_cases hA : 128 ≤ c ∧ c ≤ 191
  · rw [decide_eq_true hA]
    have hB : c < 192 := by omega
    simp only [bI_t, hB, if_true, if_neg (show ¬ (1 : Int32) = 0 by decide), if_neg (show ¬ c % 16 = 3 by omega), if_neg (show ¬ c % 16 = 12 by omega), if_neg (show ¬ c % 16 = 14 by omega), if_neg (show ¬ c % 16 = 15 by omega)]
    exact un_of rfl (o6_rf a)
  · rw [decide_eq_false hA]
    simp only [bI_f, if_true]
    by_cases hB : c < 192
    · simp only [hB, if_true]
      exact un_of rfl (o6_rf a)
    · simp only [hB, if_false, if_neg (show ¬ c % 16 = 14 by omega), if_neg (show ¬ c % 16 = 15 by omega)]
      exact un_of rfl (o6_rf a)
theorem un11 (a : AS) (b : Nat → Int32) (c : Nat) (hc : c < 256) (h : k2 c = false) : Un a b (mo_behindEleven (mM a b false) (nI c)) := by
  unfold k2 at h
  simp only [Bool.or_eq_false_iff, Bool.and_eq_false_iff, decide_eq_false_iff_not] at h
  have n63 : ¬ nI c = (63 : Int32) := fun q => h.1 ((nI_eq (b := 63) (by omega) (by decide)).mp q)
  have d128 : decide ((128 : Int32) ≤ nI c ∧ nI c ≤ (191 : Int32)) = decide (128 ≤ c ∧ c ≤ 191) := in_dec c 128 191 hc (by decide) (by decide)
  have x3 : (nI (c % 16) = (3 : Int32)) ↔ c % 16 = 3 := x_iff c 3 hc (by decide)
  have x12 : (nI (c % 16) = (12 : Int32)) ↔ c % 16 = 12 := x_iff c 12 hc (by decide)
  have e : mo_behindEleven_70 (mM a b false) = some (0, mM a b true) := rfl
  unfold mo_behindEleven
  simp only [nm_d, m_in, bd_s, d128, n63, and15, x3, x12, if_false, e]
  by_cases hA : 128 ≤ c ∧ c ≤ 191
  · rw [decide_eq_true hA]
    simp only [bI_t, if_neg (show ¬ (1 : Int32) = 0 by decide), if_neg (show ¬ c % 16 = 3 by omega), if_neg (show ¬ c % 16 = 12 by omega)]
    exact un_of rfl (o6_rf a)
  · rw [decide_eq_false hA]
    simp only [bI_f, if_true]
    exact un_of rfl (o6_rf a)
theorem dt10 : ∀ c, c < 256 → k1 c = false → dtab (256 + c) = false := by decide +kernel
theorem dt11 : ∀ c, c < 256 → k2 c = false → dtab (512 + c) = false := by decide +kernel
