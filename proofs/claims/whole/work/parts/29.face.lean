theorem ev_reset (a : AS) (b : Nat → Int32) (u : Bool) : Eqv (tc_reset (mC a)) (mo_reset (mM a b u)) := by
  have e7 : my_reg (mM a b u) (upd (mx_reg (mM a b u)) 7 0) = mM (sR a 7 0) b u := m_set7 a b u 0
  unfold tc_reset mo_reset
  rw [show (0 : Int32) = nI 0 from rfl, show re_set (mC a) 7 (nI 0) = _ from c_set7 a 0, bd_s, ns_d, show my_reg (mM a b u) (upd (mx_reg (mM a b u)) 7 (nI 0)) = _ from e7, nm_d, ns_d, ns_d, ns_d, ns_d, m_reg8, or80 _ (Nat.mod_lt _ (by decide)), Nat.mod_mod (gR (sR a 7 0) 8) 256, m_set8, c_turn80_1, bd_s, ns_d, ns_d, ns_d]
  rw [show nI 0 = bI false from rfl, cy_arm_e, cy_due_e, my_arm_e, my_due_e, cy_wai_e, my_wai_e, show (65534 : Int32) = nI 65534 from rfl, c_wordAt, bd_s, c_set6, bd_s, m_readWord, bd_s, ns_d, m_sv6 _ _ _ _ (hl_lt _ _)]
  exact ⟨0, _, b, u, rfl, rfl⟩
theorem i_lt0 {x : Int32} : ¬ x < 0 ↔ 0 ≤ x := Int32.not_lt
theorem i_4096 {x : Int32} : ¬ (4096 : Int32) ≤ x ↔ x ≤ 4095 := by
  rw [Int32.le_iff_toInt_le, Int32.le_iff_toInt_le, show (4096 : Int32).toInt = 4096 by decide, show (4095 : Int32).toInt = 4095 by decide]
  omega
theorem i_9 {x : Int32} : ¬ (9 : Int32) ≤ x ↔ x ≤ 8 := by
  rw [Int32.le_iff_toInt_le, Int32.le_iff_toInt_le, show (9 : Int32).toInt = 9 by decide, show (8 : Int32).toInt = 8 by decide]
  omega
theorem i_3 {x : Int32} : ¬ (3 : Int32) ≤ x ↔ x ≤ 2 := by
  rw [Int32.le_iff_toInt_le, Int32.le_iff_toInt_le, show (3 : Int32).toInt = 3 by decide, show (2 : Int32).toInt = 2 by decide]
  omega
theorem c_mhas (s : CS) (x : Int32) : me_has s x = some (bI (decide ((0 : Int32) ≤ x ∧ x ≤ 4095)), s) := by
  unfold me_has
  by_cases h1 : x < 0
  · rw [if_pos h1, decide_eq_false (fun z => i_lt0.mpr z.1 h1)]; rfl
  · rw [if_neg h1]
    by_cases h2 : (4096 : Int32) ≤ x
    · rw [if_pos h2, decide_eq_false (fun z => i_4096.mpr z.2 h2)]; rfl
    · rw [if_neg h2, decide_eq_true ⟨i_lt0.mp h1, i_4096.mp h2⟩]; rfl
theorem c_face (s : CS) (x : Int32) : tc_isFaceRegister s x = some (bI (decide ((0 : Int32) ≤ x ∧ x ≤ 8)), s) := by
  unfold tc_isFaceRegister
  by_cases h1 : x < 0
  · rw [if_pos h1, decide_eq_false (fun z => i_lt0.mpr z.1 h1)]; rfl
  · rw [if_neg h1]
    by_cases h2 : (9 : Int32) ≤ x
    · rw [if_pos h2, decide_eq_false (fun z => i_9.mpr z.2 h2)]; rfl
    · rw [if_neg h2, decide_eq_true ⟨i_lt0.mp h1, i_9.mp h2⟩]; rfl
theorem rng {x M : Int32} {n : Nat} (hM : M.toInt = n) (h : (0 : Int32) ≤ x ∧ x ≤ M) : ∃ j : Nat, j ≤ n ∧ x = nI j := nI_of2 hM (i_lt0.mpr h.1) h.2
theorem w8_lt {v : Nat} (h : v < 256) : nI v = w8 v := by unfold w8; rw [Nat.mod_eq_of_lt h]
theorem ev_poke (a : AS) (b : Nat → Int32) (u : Bool) (p q : Int32) : Eqv (tc_poke (mC a) p q) (mo_poke (mM a b u) p q) := by
  unfold tc_poke mo_poke
  rw [c_mhas, bd_s, m_in, bd_s]
  by_cases h : (0 : Int32) ≤ p ∧ p ≤ 4095
  · rw [decide_eq_true h, if_neg (show ¬ bI true = 0 by decide), if_neg (show ¬ bI true = 0 by decide), m_in, bd_s]
    by_cases h1 : q < 0
    · rw [if_pos h1, decide_eq_false (fun z => i_lt0.mpr z.1 h1), if_pos (show bI false = 0 from rfl)]
      exact ⟨0, a, b, u, rfl, rfl⟩
    · rw [if_neg h1]
      by_cases h2 : q ≤ (255 : Int32)
      · rw [if_pos h2, decide_eq_true ⟨i_lt0.mp h1, h2⟩, if_neg (show ¬ bI true = 0 by decide)]
        obtain ⟨j, hj, e⟩ := rng (by decide : (4095 : Int32).toInt = (4095 : Nat)) h
        obtain ⟨v, hv, e2⟩ := rng (by decide : (255 : Int32).toInt = (255 : Nat)) ⟨i_lt0.mp h1, h2⟩
        rw [e, e2, c_setByte, bd_s, ok_nI (by omega) (by omega), gd_t, ns_d, nI_clamp (by omega), w8_lt (by omega), my_mem_e, Nat.mod_eq_of_lt (show j < 4096 by omega)]
        exact ⟨1, _, b, u, rfl, rfl⟩
      · rw [if_neg h2, decide_eq_false (fun z => h2 z.2), if_pos (show bI false = 0 from rfl)]
        exact ⟨0, a, b, u, rfl, rfl⟩
  · rw [decide_eq_false h, if_pos (show bI false = 0 from rfl), if_pos (show bI false = 0 from rfl)]
    exact ⟨0, a, b, u, rfl, rfl⟩
theorem ev_peek (a : AS) (b : Nat → Int32) (u : Bool) (p : Int32) : Eqv (tc_peek (mC a) p) (mo_peek (mM a b u) p) := by
  unfold tc_peek mo_peek
  rw [c_mhas, bd_s, m_in, bd_s]
  by_cases h : (0 : Int32) ≤ p ∧ p ≤ 4095
  · rw [decide_eq_true h, if_neg (show ¬ bI true = 0 by decide), if_neg (show ¬ bI true = 0 by decide)]
    obtain ⟨j, hj, e⟩ := rng (by decide : (4095 : Int32).toInt = (4095 : Nat)) h
    rw [e, c_byteAt, bd_s, ok_nI (by omega) (by omega), gd_t, nm_d, nI_clamp (by omega), Nat.mod_eq_of_lt (show j < 4096 by omega)]
    exact ⟨_, a, b, u, rfl, rfl⟩
  · rw [decide_eq_false h, if_pos (show bI false = 0 from rfl), if_pos (show bI false = 0 from rfl)]
    exact ⟨-1, a, b, u, rfl, rfl⟩
theorem ld_loop (A N : Nat) (x : Int32) (hN : N ≤ 4) (hA : A + N ≤ 4096) : ∀ (fu k : Nat) (a : AS) (b : Nat → Int32) (u : Bool), k ≤ N → N + 1 ≤ k + fu → Eqv (tc_load_35 fu (mC a) (nI A) x (nI N) (nI k)) (mo_load_27 fu (mM a b u) (nI A) x (nI N) (nI k)) := by
  intro fu
  induction fu with
  | zero => intro k a b u h1 h2; omega
  | succ fu ih =>
    intro k a b u h1 h2
    rw [tc_load_35, mo_load_27]
    by_cases hk : N ≤ k
    · rw [if_pos ((nI_leI (by omega) (by omega)).mpr hk), if_pos ((nI_leI (by omega) (by omega)).mpr hk)]
      exact ⟨1, a, b, u, rfl, rfl⟩
    · rw [if_neg (fun z => hk ((nI_leI (by omega) (by omega)).mp z)), if_neg (fun z => hk ((nI_leI (by omega) (by omega)).mp z))]
      generalize x >>> (((8 : Int32) * ((nI N - (1 : Int32)) - nI k)) &&& 31) = w
      rw [nI_self w, nI_add, c_setByte, bd_s, nm_d, and255, ok_nI (by omega) (by omega), gd_t, ns_d, nI_clamp (by omega), my_mem_e, Nat.mod_eq_of_lt (show A + k < 4096 by omega), inc_nI]
      exact ih (k + 1) _ b u (by omega) (by omega)
theorem ev_load (a : AS) (b : Nat → Int32) (u : Bool) (p x n : Int32) : Eqv (tc_load (mC a) p x n) (mo_load (mM a b u) p x n) := by
  unfold tc_load mo_load
  rw [m_in, bd_s]
  by_cases h1 : n < (1 : Int32)
  · rw [if_pos h1, decide_eq_false (fun z => absurd h1 (Int32.not_lt.mpr z.1)), if_pos (show bI false = 0 from rfl)]
    exact ⟨0, a, b, u, rfl, rfl⟩
  · rw [if_neg h1]
    by_cases h2 : n ≤ (4 : Int32)
    · have h3 : (1 : Int32) ≤ n := Int32.not_lt.mp h1
      rw [if_pos h2, decide_eq_true ⟨h3, h2⟩, if_neg (show ¬ bI true = 0 by decide), c_mhas, bd_s]
      obtain ⟨N, hN, e⟩ := nI_of2 (x := n) (M := 4) (n := 4) (by decide) (fun z => h1 (Int32.lt_trans z (by decide))) h2
      have hN1 : 1 ≤ N := by
        have := (nI_leI (a := 1) (b := N) (by omega) (by omega)).mp (by rw [← e]; exact h3)
        exact this
      rw [e]
      by_cases h : (0 : Int32) ≤ p ∧ p ≤ 4095
      · obtain ⟨j, hj, e2⟩ := rng (by decide : (4095 : Int32).toInt = (4095 : Nat)) h
        have es : (nI j + nI N) - (1 : Int32) = nI (j + N - 1) := by
          rw [nI_add, show j + N = (j + N - 1) + 1 by omega, nI_pred]
          rfl
        have e4 : (4096 : Int32) - nI N = nI (4096 - N) := by
          show nI 4096 - nI N = _
          rw [sub_nI]
          exact nI_cong (by omega)
        rw [decide_eq_true h, if_neg (show ¬ bI true = 0 by decide), c_mhas, bd_s, if_neg (i_lt0.mpr h.1), e2, es, e4]
        by_cases h5 : j + N ≤ 4096
        · rw [decide_eq_true ⟨nI_pos' (by omega), (nI_leI (b := 4095) (by omega) (by omega)).mpr (by omega)⟩, if_neg (show ¬ bI true = 0 by decide), if_pos ((nI_leI (by omega) (by omega)).mpr (by omega))]
          exact ld_loop j N x hN h5 5 0 a b u (by omega) (by omega)
        · rw [decide_eq_false (fun z => absurd ((nI_leI (b := 4095) (by omega) (by omega)).mp z.2) (by omega)), if_pos (show bI false = 0 from rfl), if_neg (fun z => absurd ((nI_leI (by omega) (by omega)).mp z) (by omega))]
          exact ⟨0, a, b, u, rfl, rfl⟩
      · rw [decide_eq_false h, if_pos (show bI false = 0 from rfl)]
        refine ⟨0, a, b, u, rfl, ?_⟩
        by_cases h6 : p < 0
        · rw [if_pos h6]; rfl
        · have h7 : ¬ p ≤ (4096 : Int32) - nI N := by
            intro z
            refine h ⟨i_lt0.mp h6, Int32.le_trans z ?_⟩
            show nI 4096 - nI N ≤ nI 4095
            rw [sub_nI, nI_cong (show (4096 + (4294967296 - N % 4294967296)) % 4294967296 = (4096 - N) % 4294967296 by omega)]
            exact (nI_leI (by omega) (by omega)).mpr (by omega)
          rw [if_neg h6, if_neg h7]; rfl
    · rw [if_neg h2, decide_eq_false (fun z => h2 z.2), if_pos (show bI false = 0 from rfl)]
      exact ⟨0, a, b, u, rfl, rfl⟩
theorem c_l46 (a : AS) (k : Nat) (hk : k ≤ 2) (v : Bool) : tc_setLine_46 (mC a) (nI k) (bI v) = some (1, mC (sL a k v)) := by
  unfold tc_setLine_46
  rw [ok_nI (by omega) (by omega), gd_t, ns_d, nI_clamp (by omega), cy_lev_e]
theorem m_l58 (a : AS) (b : Nat → Int32) (u : Bool) (k : Nat) (hk : k ≤ 2) (v d : Bool) : mo_setLine_58 (mM a b u) (nI k) (bI v) (bI d) = some (1, mM (sL (sD a d) k v) b u) := by
  unfold mo_setLine_58
  rw [isB_bI, gd_t, ns_d, my_due_e, ok_nI (by omega) (by omega), gd_t, ns_d, nI_clamp (by omega), my_lev_e]
theorem sD_id (a : AS) : sD a (gD a) = a := rfl
theorem c_lin (a : AS) (k : Nat) (hk : k ≤ 2) (v : Bool) : tc_setLine (mC a) (nI k) (bI v) = some (1, mC (sL (sD a (gD a || (decide (k = 0) && v && !(gL a 0) && gA a))) k v)) := by
  unfold tc_setLine
  have hv0 : ¬ bI v < 0 := by cases v <;> decide
  have hv1 : bI v ≤ (1 : Int32) := by cases v <;> decide
  rw [if_neg (nI_pos (by omega)), if_neg (show ¬ (3 : Int32) ≤ nI k from fun z => absurd ((nI_leI (a := 3) (by omega) (by omega)).mp z) (by omega)), if_neg hv0, if_pos hv1, cx_arm_e, cx_lev_e]
  have hk0 : (nI k = 0) ↔ k = 0 := m_eq0 (by omega)
  by_cases h0 : k = 0
  · rw [if_pos (hk0.mpr h0), decide_eq_true h0]
    cases hA : gA a with
    | false =>
      rw [if_pos (show bI false = 0 from rfl), c_l46 a k hk]
      rw [Bool.and_false, Bool.or_false, sD_id]
    | true =>
      rw [if_neg (show ¬ bI true = 0 by decide)]
      cases hL : gL a 0 with
      | true =>
        rw [if_pos (show bI v ≤ bI true by cases v <;> decide), c_l46 a k hk]
        simp only [Bool.not_true, Bool.and_false, Bool.false_and, Bool.or_false, sD_id]
      | false =>
        cases v with
        | false =>
          rw [if_pos (show bI false ≤ bI false by decide), c_l46 a k hk]
          simp only [Bool.and_false, Bool.false_and, Bool.or_false, sD_id]
        | true =>
          rw [if_neg (show ¬ bI true ≤ bI false by decide), ns_d, show (1 : Int32) = bI true from rfl, cy_due_e, c_l46 _ k hk]
          simp only [Bool.not_false, Bool.and_true, Bool.or_true]
          rfl
  · rw [if_neg (fun z => h0 (hk0.mp z)), decide_eq_false h0, c_l46 a k hk]
    simp only [Bool.false_and, Bool.or_false, sD_id]
theorem m_lin (a : AS) (b : Nat → Int32) (u : Bool) (k : Nat) (hk : k ≤ 2) (v : Bool) : mo_setLine (mM a b u) (nI k) (bI v) = some (1, mM (sL (sD a (gD a || (decide (k = 0) && v && !(gL a 0) && gA a))) k v) b u) := by
  unfold mo_setLine mo_setLine_57 mo_setLine_53
  have hv : decide ((0 : Int32) ≤ bI v ∧ bI v ≤ 1) = true := by cases v <;> decide
  have hk2 : decide ((0 : Int32) ≤ nI k ∧ nI k ≤ 2) = true := decide_eq_true ⟨nI_pos' (by omega), (nI_leI (b := 2) (by omega) (by omega)).mpr hk⟩
  have hk0 : (nI k = 0) ↔ k = 0 := m_eq0 (by omega)
  have e0 := m_l58 a b u k hk v false
  have e1 := m_l58 a b u k hk v true
  rw [show bI false = (0 : Int32) from rfl] at e0
  rw [show bI true = (1 : Int32) from rfl] at e1
  rw [m_in, bd_s, hk2, if_neg (show ¬ bI true = 0 by decide), m_in, bd_s, hv, if_neg (show ¬ bI true = 0 by decide), mx_due_e, mx_lev_e, mx_arm_e, e0, e1]
  cases hD : gD a with
  | true => rw [if_neg (show ¬ bI true = 0 by decide), Bool.true_or]
  | false =>
    rw [if_pos (show bI false = 0 from rfl), Bool.false_or]
    by_cases h0 : k = 0
    · rw [if_pos (hk0.mpr h0), decide_eq_true h0]
      cases v with
      | false => rw [if_neg (show ¬ bI false = 1 by decide)]; simp only [Bool.and_false, Bool.false_and]
      | true =>
        rw [if_pos (show bI true = 1 from rfl)]
        cases hL : gL a 0 with
        | true => rw [if_neg (show ¬ bI true = 0 by decide)]; simp only [Bool.not_true, Bool.and_false, Bool.false_and]
        | false =>
          rw [if_pos (show bI false = 0 from rfl)]
          cases hA : gA a with
          | true => rw [if_neg (show ¬ bI true = 0 by decide)]; simp only [Bool.not_false, Bool.and_true]
          | false => rw [if_pos (show bI false = 0 from rfl)]; simp only [Bool.and_false]
    · rw [if_neg (fun z => h0 (hk0.mp z)), decide_eq_false h0]
      simp only [Bool.false_and]
theorem ev_setLine (a : AS) (b : Nat → Int32) (u : Bool) (p q : Int32) : Eqv (tc_setLine (mC a) p q) (mo_setLine (mM a b u) p q) := by
  by_cases h : (0 : Int32) ≤ p ∧ p ≤ 2
  · by_cases g : (0 : Int32) ≤ q ∧ q ≤ 1
    · obtain ⟨k, hk, e⟩ := rng (by decide : (2 : Int32).toInt = (2 : Nat)) h
      obtain ⟨v, hv, e2⟩ := rng (by decide : (1 : Int32).toInt = (1 : Nat)) g
      have ev : nI v = bI (decide (v = 1)) := by
        have : v = 0 ∨ v = 1 := by omega
        rcases this with q | q <;> subst q <;> rfl
      rw [e, e2, ev, c_lin a k hk, m_lin a b u k hk]
      exact ⟨1, _, b, u, rfl, rfl⟩
    · unfold tc_setLine mo_setLine
      rw [m_in, bd_s, decide_eq_true h, if_neg (show ¬ bI true = 0 by decide), m_in, bd_s, decide_eq_false g, if_pos (show bI false = 0 from rfl), if_neg (i_lt0.mpr h.1), if_neg (i_3.mpr h.2)]
      refine ⟨0, a, b, u, ?_, rfl⟩
      by_cases g1 : q < 0
      · rw [if_pos g1]; rfl
      · rw [if_neg g1, if_neg (fun z => g ⟨i_lt0.mp g1, z⟩)]; rfl
  · unfold tc_setLine mo_setLine
    rw [m_in, bd_s, decide_eq_false h, if_pos (show bI false = 0 from rfl)]
    refine ⟨0, a, b, u, ?_, rfl⟩
    by_cases g1 : p < 0
    · rw [if_pos g1]; rfl
    · rw [if_neg g1, if_pos (Classical.byContradiction fun z => h ⟨i_lt0.mp g1, i_3.mp z⟩)]; rfl
theorem ev_reg (a : AS) (b : Nat → Int32) (u : Bool) (p : Int32) : Eqv (tc_reg (mC a) p) (mo_reg (mM a b u) p) := by
  unfold tc_reg mo_reg
  rw [c_face, bd_s, m_in, bd_s]
  by_cases h : (0 : Int32) ≤ p ∧ p ≤ 8
  · rw [decide_eq_true h, if_neg (show ¬ bI true = 0 by decide), if_neg (show ¬ bI true = 0 by decide)]
    obtain ⟨j, hj, e⟩ := rng (by decide : (8 : Int32).toInt = (8 : Nat)) h
    rw [e, ok_nI (by omega) (by omega), gd_t, nm_d, nI_clamp (by omega)]
    have hc : j = 0 ∨ j = 1 ∨ j = 2 ∨ j = 3 ∨ j = 4 ∨ j = 5 ∨ j = 6 ∨ j = 7 ∨ j = 8 := by omega
    rcases hc with q | q | q | q | q | q | q | q | q
    · subst q
      rw [show re_get (mC a) (nI 0) = _ from c_get0 a, bd_s]
      exact ⟨_, a, b, u, rfl, rfl⟩
    · subst q
      rw [show re_get (mC a) (nI 1) = _ from c_get1 a, bd_s]
      exact ⟨_, a, b, u, rfl, rfl⟩
    · subst q
      rw [show re_get (mC a) (nI 2) = _ from c_get2 a, bd_s]
      exact ⟨_, a, b, u, rfl, rfl⟩
    · subst q
      rw [show re_get (mC a) (nI 3) = _ from c_get3 a, bd_s]
      exact ⟨_, a, b, u, rfl, rfl⟩
    · subst q
      rw [show re_get (mC a) (nI 4) = _ from c_get4 a, bd_s]
      exact ⟨_, a, b, u, rfl, rfl⟩
    · subst q
      rw [show re_get (mC a) (nI 5) = _ from c_get5 a, bd_s]
      exact ⟨_, a, b, u, rfl, rfl⟩
    · subst q
      rw [show re_get (mC a) (nI 6) = _ from c_get6 a, bd_s]
      exact ⟨_, a, b, u, rfl, rfl⟩
    · subst q
      rw [show re_get (mC a) (nI 7) = _ from c_get7 a, bd_s]
      exact ⟨_, a, b, u, rfl, rfl⟩
    · subst q
      rw [show re_get (mC a) (nI 8) = _ from c_get8 a, bd_s]
      exact ⟨_, a, b, u, rfl, rfl⟩
  · rw [decide_eq_false h, if_pos (show bI false = 0 from rfl), if_pos (show bI false = 0 from rfl)]
    exact ⟨-1, a, b, u, rfl, rfl⟩
theorem ev_put (a : AS) (b : Nat → Int32) (u : Bool) (p q : Int32) : Eqv (tc_put (mC a) p q) (mo_put (mM a b u) p q) := by
  unfold tc_put mo_put mo_put_36
  rw [c_face, bd_s, m_in, bd_s]
  by_cases h : (0 : Int32) ≤ p ∧ p ≤ 8
  · rw [decide_eq_true h, if_neg (show ¬ bI true = 0 by decide), if_neg (show ¬ bI true = 0 by decide), m_in, bd_s]
    obtain ⟨j, hj, e⟩ := rng (by decide : (8 : Int32).toInt = (8 : Nat)) h
    rw [e, nI_self q, ok_nI (by omega) (by omega), nm_d, nm_d, gd_t, gd_t, ns_d, ns_d, nI_clamp (by omega), and255, and65535]
    generalize q.toBitVec.toNat = v
    have hc : j = 0 ∨ j = 1 ∨ j = 2 ∨ j = 3 ∨ j = 4 ∨ j = 5 ∨ j = 6 ∨ j = 7 ∨ j = 8 := by omega
    rcases hc with q | q | q | q | q | q | q | q | q
    · subst q
      rw [show re_set (mC a) (nI 0) (nI v) = _ from c_set0 a v, bd_s, if_pos (by decide), show my_reg (mM a b u) (upd (mx_reg (mM a b u)) 0 (w8 v)) = _ from m_set0 a b u v]
      exact ⟨1, _, b, u, rfl, rfl⟩
    · subst q
      rw [show re_set (mC a) (nI 1) (nI v) = _ from c_set1 a v, bd_s, if_pos (by decide), show my_reg (mM a b u) (upd (mx_reg (mM a b u)) 1 (w8 v)) = _ from m_set1 a b u v]
      exact ⟨1, _, b, u, rfl, rfl⟩
    · subst q
      rw [show re_set (mC a) (nI 2) (nI v) = _ from c_set2 a v, bd_s, if_neg (by decide), show my_reg (mM a b u) (upd (mx_reg (mM a b u)) 2 (w16 v)) = _ from m_set2 a b u v]
      exact ⟨1, _, b, u, rfl, rfl⟩
    · subst q
      rw [show re_set (mC a) (nI 3) (nI v) = _ from c_set3 a v, bd_s, if_neg (by decide), show my_reg (mM a b u) (upd (mx_reg (mM a b u)) 3 (w16 v)) = _ from m_set3 a b u v]
      exact ⟨1, _, b, u, rfl, rfl⟩
    · subst q
      rw [show re_set (mC a) (nI 4) (nI v) = _ from c_set4 a v, bd_s, if_neg (by decide), show my_reg (mM a b u) (upd (mx_reg (mM a b u)) 4 (w16 v)) = _ from m_set4 a b u v]
      exact ⟨1, _, b, u, rfl, rfl⟩
    · subst q
      rw [show re_set (mC a) (nI 5) (nI v) = _ from c_set5 a v, bd_s, if_neg (by decide), show my_reg (mM a b u) (upd (mx_reg (mM a b u)) 5 (w16 v)) = _ from m_set5 a b u v]
      exact ⟨1, _, b, u, rfl, rfl⟩
    · subst q
      rw [show re_set (mC a) (nI 6) (nI v) = _ from c_set6 a v, bd_s, if_neg (by decide), show my_reg (mM a b u) (upd (mx_reg (mM a b u)) 6 (w16 v)) = _ from m_set6 a b u v]
      exact ⟨1, _, b, u, rfl, rfl⟩
    · subst q
      rw [show re_set (mC a) (nI 7) (nI v) = _ from c_set7 a v, bd_s, if_pos (by decide), show my_reg (mM a b u) (upd (mx_reg (mM a b u)) 7 (w8 v)) = _ from m_set7 a b u v]
      exact ⟨1, _, b, u, rfl, rfl⟩
    · subst q
      rw [show re_set (mC a) (nI 8) (nI v) = _ from c_set8 a v, bd_s, if_pos (by decide), show my_reg (mM a b u) (upd (mx_reg (mM a b u)) 8 (w8 v)) = _ from m_set8 a b u v]
      exact ⟨1, _, b, u, rfl, rfl⟩
  · rw [decide_eq_false h, if_pos (show bI false = 0 from rfl), if_pos (show bI false = 0 from rfl)]
    exact ⟨0, a, b, u, rfl, rfl⟩
theorem ev_waits (a : AS) (b : Nat → Int32) (u : Bool) : Eqv (tc_waits (mC a)) (mo_waits (mM a b u)) := ⟨gW a, a, b, u, rfl, rfl⟩
theorem ln00 : ∀ x y z : Bool, (((((0 : Int32) ||| (0 : Int32)) ||| (bI x <<< ((2 : Int32) &&& 31))) ||| (bI y <<< ((3 : Int32) &&& 31))) ||| (bI z <<< ((4 : Int32) &&& 31))) = (((((0 : Int32) + (0 : Int32)) + ((4 : Int32) * bI x)) + ((8 : Int32) * bI y)) + ((16 : Int32) * bI z)) := by decide +kernel
theorem ln02 : ∀ x y z : Bool, (((((0 : Int32) ||| (2 : Int32)) ||| (bI x <<< ((2 : Int32) &&& 31))) ||| (bI y <<< ((3 : Int32) &&& 31))) ||| (bI z <<< ((4 : Int32) &&& 31))) = (((((0 : Int32) + (2 : Int32)) + ((4 : Int32) * bI x)) + ((8 : Int32) * bI y)) + ((16 : Int32) * bI z)) := by decide +kernel
theorem ln10 : ∀ x y z : Bool, (((((1 : Int32) ||| (0 : Int32)) ||| (bI x <<< ((2 : Int32) &&& 31))) ||| (bI y <<< ((3 : Int32) &&& 31))) ||| (bI z <<< ((4 : Int32) &&& 31))) = (((((1 : Int32) + (0 : Int32)) + ((4 : Int32) * bI x)) + ((8 : Int32) * bI y)) + ((16 : Int32) * bI z)) := by decide +kernel
theorem ln12 : ∀ x y z : Bool, (((((1 : Int32) ||| (2 : Int32)) ||| (bI x <<< ((2 : Int32) &&& 31))) ||| (bI y <<< ((3 : Int32) &&& 31))) ||| (bI z <<< ((4 : Int32) &&& 31))) = (((((1 : Int32) + (2 : Int32)) + ((4 : Int32) * bI x)) + ((8 : Int32) * bI y)) + ((16 : Int32) * bI z)) := by decide +kernel
theorem ev_lines (a : AS) (b : Nat → Int32) (u : Bool) : Eqv (tc_lines (mC a)) (mo_lines (mM a b u)) := by
  unfold tc_lines mo_lines tc_lines_12 mo_lines_12 tc_lines_25 mo_lines_24
  rw [cx_arm_e, mx_arm_e, cx_due_e, mx_due_e, cx_lev_e, cx_lev_e, cx_lev_e, mx_lev_e, mx_lev_e, mx_lev_e]
  rw [nm_d, nm_d, nm_d, nm_d, nm_d, nm_d, nm_d, nm_d, ln00, ln02, ln10, ln12]
  cases gA a with
  | false =>
    rw [if_pos (show bI false = 0 from rfl), if_pos (show bI false = 0 from rfl)]
    cases gD a with
    | false => rw [if_pos (show bI false = 0 from rfl), if_pos (show bI false = 0 from rfl)]; exact ⟨_, a, b, u, rfl, rfl⟩
    | true => rw [if_neg (show ¬ bI true = 0 by decide), if_neg (show ¬ bI true = 0 by decide)]; exact ⟨_, a, b, u, rfl, rfl⟩
  | true =>
    rw [if_neg (show ¬ bI true = 0 by decide), if_neg (show ¬ bI true = 0 by decide)]
    cases gD a with
    | false => rw [if_pos (show bI false = 0 from rfl), if_pos (show bI false = 0 from rfl)]; exact ⟨_, a, b, u, rfl, rfl⟩
    | true => rw [if_neg (show ¬ bI true = 0 by decide), if_neg (show ¬ bI true = 0 by decide)]; exact ⟨_, a, b, u, rfl, rfl⟩
