def o6 (a z : AS) : Prop := z = a ∨ ∃ v, z = sR a 6 v
theorem o6_fS (a : AS) : o6 a (fS a) := Or.inr ⟨_, rfl⟩
theorem o6_rf (a : AS) : o6 a a := Or.inl rfl
/-- the reference says that the instruction is undefined, and has changed nothing but PC -/
def Un (a : AS) (b : Nat → Int32) (y : Option (Int32 × MS)) : Prop := ∃ (r : Int32) (z : AS), y = some (r, mM z b true) ∧ o6 a z
theorem un_bd {a : AS} {b : Nat → Int32} {y : Option (Int32 × MS)} {k : Int32 → MS → Option (Int32 × MS)} (hk : ∀ (r : Int32) (s : MS), k r s = some (0, s)) (h : Un a b y) : Un a b (bd y k) := by
  obtain ⟨r, z, h1, h2⟩ := h
  rw [h1, bd_s, hk]
  exact ⟨0, z, rfl, h2⟩
theorem un_of {a z : AS} {b : Nat → Int32} {y : Option (Int32 × MS)} {r : Int32} (h : y = some (r, mM z b true)) (ho : o6 a z) : Un a b y := ⟨r, z, h, ho⟩
theorem m_ac0_0 (a : AS) (b : Nat → Int32) (m : Nat) (hm : m < 4) : mo_accumulate (mM a b false) (nI (128 + 16 * m)) 0 = mo_accumulate_25 (mM a b false) 0 0 (nI m) (nI (cyN a)) := by
  obtain ⟨f1, f2, f3, f4, f5, f6⟩ := cd_0_0 m hm
  unfold mo_accumulate
  rw [nm_d, nm_d, f2, f4]
  exact m_carry a b false (fun Q s => mo_accumulate_25 s 0 0 (nI m) Q)
theorem ru0_0 (a : AS) (b : Nat → Int32) (m : Nat) (hm : m < 4) (hd : m = 2 → dpb (fB a) = true) : Rl PT b false (tc_executeUpperHalf (mC a) (nI (128 + 16 * m))) (mo_upper (mM a b false) (nI (128 + 16 * m))) := by
  obtain ⟨n, z, e1, e2, e3⟩ := ad_byte a b m (by omega) hd
  rw [c_up0_0 _ m hm, m_up0_0 _ m hm, m_ac0_0 a b m hm, e1, bd_s, c_op0_0]
  dsimp only
  rw [bd_s]
  unfold mo_accumulate_25
  rw [if_neg (by decide), e2, bd_s, mx_und_e, if_pos (show bI false = 0 from rfl), show okI 0 9 = true from rfl, gd_t, nm_d, show ((0 : Int32).toNatClampNeg) = 0 from rfl, m_reg0, if_pos (by decide), ← kp_cy e3, m_acc0_0 _ _ _ _ (Nat.mod_lt _ (by decide)) (Nat.mod_lt _ (by decide)), bd_s]
  exact rl_some rfl rfl
theorem uu0_0 (a : AS) (b : Nat → Int32) (hd : dpb (fB a) = false) : Un a b (mo_upper (mM a b false) (nI (128 + 16 * 2))) := by
  obtain ⟨n, e⟩ := m_oper_un a b false hd
  rw [m_up0_0 _ 2 (by decide), m_ac0_0 a b 2 (by decide)]
  unfold mo_accumulate_25
  rw [if_neg (by decide), show nI 2 = (2 : Int32) from rfl, e, bd_s, mx_und_e, if_neg (show ¬ bI true = 0 by decide), bd_s]
  exact un_of rfl (o6_fS a)
theorem m_ac0_1 (a : AS) (b : Nat → Int32) (m : Nat) (hm : m < 4) : mo_accumulate (mM a b false) (nI (129 + 16 * m)) 0 = mo_accumulate_25 (mM a b false) 0 1 (nI m) (nI (cyN a)) := by
  obtain ⟨f1, f2, f3, f4, f5, f6⟩ := cd_0_1 m hm
  unfold mo_accumulate
  rw [nm_d, nm_d, f2, f4]
  exact m_carry a b false (fun Q s => mo_accumulate_25 s 0 1 (nI m) Q)
theorem ru0_1 (a : AS) (b : Nat → Int32) (m : Nat) (hm : m < 4) (hd : m = 2 → dpb (fB a) = true) : Rl PT b false (tc_executeUpperHalf (mC a) (nI (129 + 16 * m))) (mo_upper (mM a b false) (nI (129 + 16 * m))) := by
  obtain ⟨n, z, e1, e2, e3⟩ := ad_byte a b m (by omega) hd
  rw [c_up0_1 _ m hm, m_up0_1 _ m hm, m_ac0_1 a b m hm, e1, bd_s, c_op1_0]
  dsimp only
  rw [bd_s]
  unfold mo_accumulate_25
  rw [if_neg (by decide), e2, bd_s, mx_und_e, if_pos (show bI false = 0 from rfl), show okI 0 9 = true from rfl, gd_t, nm_d, show ((0 : Int32).toNatClampNeg) = 0 from rfl, m_reg0, if_neg (by decide), if_pos (by decide), ← kp_cy e3, m_acc1_0 _ _ _ _ (Nat.mod_lt _ (by decide)) (Nat.mod_lt _ (by decide)), bd_s]
  exact rl_some rfl rfl
theorem uu0_1 (a : AS) (b : Nat → Int32) (hd : dpb (fB a) = false) : Un a b (mo_upper (mM a b false) (nI (129 + 16 * 2))) := by
  obtain ⟨n, e⟩ := m_oper_un a b false hd
  rw [m_up0_1 _ 2 (by decide), m_ac0_1 a b 2 (by decide)]
  unfold mo_accumulate_25
  rw [if_neg (by decide), show nI 2 = (2 : Int32) from rfl, e, bd_s, mx_und_e, if_neg (show ¬ bI true = 0 by decide), bd_s]
  exact un_of rfl (o6_fS a)
theorem m_ac0_2 (a : AS) (b : Nat → Int32) (m : Nat) (hm : m < 4) : mo_accumulate (mM a b false) (nI (130 + 16 * m)) 0 = mo_accumulate_25 (mM a b false) 0 2 (nI m) (nI (cyN a)) := by
  obtain ⟨f1, f2, f3, f4, f5, f6⟩ := cd_0_2 m hm
  unfold mo_accumulate
  rw [nm_d, nm_d, f2, f4]
  exact m_carry a b false (fun Q s => mo_accumulate_25 s 0 2 (nI m) Q)
theorem ru0_2 (a : AS) (b : Nat → Int32) (m : Nat) (hm : m < 4) (hd : m = 2 → dpb (fB a) = true) : Rl PT b false (tc_executeUpperHalf (mC a) (nI (130 + 16 * m))) (mo_upper (mM a b false) (nI (130 + 16 * m))) := by
  obtain ⟨n, z, e1, e2, e3⟩ := ad_byte a b m (by omega) hd
  rw [c_up0_2 _ m hm, m_up0_2 _ m hm, m_ac0_2 a b m hm, e1, bd_s, c_op2_0]
  dsimp only
  rw [bd_s]
  unfold mo_accumulate_25
  rw [if_neg (by decide), e2, bd_s, mx_und_e, if_pos (show bI false = 0 from rfl), show okI 0 9 = true from rfl, gd_t, nm_d, show ((0 : Int32).toNatClampNeg) = 0 from rfl, m_reg0, if_neg (by decide), if_neg (by decide), ← kp_cy e3, m_acc2_0 _ _ _ _ (Nat.mod_lt _ (by decide)) (Nat.mod_lt _ (by decide)), bd_s]
  exact rl_some rfl rfl
theorem uu0_2 (a : AS) (b : Nat → Int32) (hd : dpb (fB a) = false) : Un a b (mo_upper (mM a b false) (nI (130 + 16 * 2))) := by
  obtain ⟨n, e⟩ := m_oper_un a b false hd
  rw [m_up0_2 _ 2 (by decide), m_ac0_2 a b 2 (by decide)]
  unfold mo_accumulate_25
  rw [if_neg (by decide), show nI 2 = (2 : Int32) from rfl, e, bd_s, mx_und_e, if_neg (show ¬ bI true = 0 by decide), bd_s]
  exact un_of rfl (o6_fS a)
theorem m_ac0_4 (a : AS) (b : Nat → Int32) (m : Nat) (hm : m < 4) : mo_accumulate (mM a b false) (nI (132 + 16 * m)) 0 = mo_accumulate_25 (mM a b false) 0 4 (nI m) (nI (cyN a)) := by
  obtain ⟨f1, f2, f3, f4, f5, f6⟩ := cd_0_4 m hm
  unfold mo_accumulate
  rw [nm_d, nm_d, f2, f4]
  exact m_carry a b false (fun Q s => mo_accumulate_25 s 0 4 (nI m) Q)
theorem ru0_4 (a : AS) (b : Nat → Int32) (m : Nat) (hm : m < 4) (hd : m = 2 → dpb (fB a) = true) : Rl PT b false (tc_executeUpperHalf (mC a) (nI (132 + 16 * m))) (mo_upper (mM a b false) (nI (132 + 16 * m))) := by
  obtain ⟨n, z, e1, e2, e3⟩ := ad_byte a b m (by omega) hd
  rw [c_up0_4 _ m hm, m_up0_4 _ m hm, m_ac0_4 a b m hm, e1, bd_s, c_op4_0]
  dsimp only
  rw [bd_s]
  unfold mo_accumulate_25
  rw [if_neg (by decide), e2, bd_s, mx_und_e, if_pos (show bI false = 0 from rfl), show okI 0 9 = true from rfl, gd_t, nm_d, show ((0 : Int32).toNatClampNeg) = 0 from rfl, m_reg0, if_neg (by decide), if_neg (by decide), ← kp_cy e3, m_acc4_0 _ _ _ _ (Nat.mod_lt _ (by decide)) (Nat.mod_lt _ (by decide)), bd_s]
  exact rl_some rfl rfl
theorem uu0_4 (a : AS) (b : Nat → Int32) (hd : dpb (fB a) = false) : Un a b (mo_upper (mM a b false) (nI (132 + 16 * 2))) := by
  obtain ⟨n, e⟩ := m_oper_un a b false hd
  rw [m_up0_4 _ 2 (by decide), m_ac0_4 a b 2 (by decide)]
  unfold mo_accumulate_25
  rw [if_neg (by decide), show nI 2 = (2 : Int32) from rfl, e, bd_s, mx_und_e, if_neg (show ¬ bI true = 0 by decide), bd_s]
  exact un_of rfl (o6_fS a)
theorem m_ac0_5 (a : AS) (b : Nat → Int32) (m : Nat) (hm : m < 4) : mo_accumulate (mM a b false) (nI (133 + 16 * m)) 0 = mo_accumulate_25 (mM a b false) 0 5 (nI m) (nI (cyN a)) := by
  obtain ⟨f1, f2, f3, f4, f5, f6⟩ := cd_0_5 m hm
  unfold mo_accumulate
  rw [nm_d, nm_d, f2, f4]
  exact m_carry a b false (fun Q s => mo_accumulate_25 s 0 5 (nI m) Q)
theorem ru0_5 (a : AS) (b : Nat → Int32) (m : Nat) (hm : m < 4) (hd : m = 2 → dpb (fB a) = true) : Rl PT b false (tc_executeUpperHalf (mC a) (nI (133 + 16 * m))) (mo_upper (mM a b false) (nI (133 + 16 * m))) := by
  obtain ⟨n, z, e1, e2, e3⟩ := ad_byte a b m (by omega) hd
  rw [c_up0_5 _ m hm, m_up0_5 _ m hm, m_ac0_5 a b m hm, e1, bd_s, c_op5_0]
  dsimp only
  rw [bd_s]
  unfold mo_accumulate_25
  rw [if_neg (by decide), e2, bd_s, mx_und_e, if_pos (show bI false = 0 from rfl), show okI 0 9 = true from rfl, gd_t, nm_d, show ((0 : Int32).toNatClampNeg) = 0 from rfl, m_reg0, if_neg (by decide), if_neg (by decide), ← kp_cy e3, m_acc5_0 _ _ _ _ (Nat.mod_lt _ (by decide)) (Nat.mod_lt _ (by decide)), bd_s]
  exact rl_some rfl rfl
theorem uu0_5 (a : AS) (b : Nat → Int32) (hd : dpb (fB a) = false) : Un a b (mo_upper (mM a b false) (nI (133 + 16 * 2))) := by
  obtain ⟨n, e⟩ := m_oper_un a b false hd
  rw [m_up0_5 _ 2 (by decide), m_ac0_5 a b 2 (by decide)]
  unfold mo_accumulate_25
  rw [if_neg (by decide), show nI 2 = (2 : Int32) from rfl, e, bd_s, mx_und_e, if_neg (show ¬ bI true = 0 by decide), bd_s]
  exact un_of rfl (o6_fS a)
theorem m_ac0_6 (a : AS) (b : Nat → Int32) (m : Nat) (hm : m < 4) : mo_accumulate (mM a b false) (nI (134 + 16 * m)) 0 = mo_accumulate_25 (mM a b false) 0 6 (nI m) (nI (cyN a)) := by
  obtain ⟨f1, f2, f3, f4, f5, f6⟩ := cd_0_6 m hm
  unfold mo_accumulate
  rw [nm_d, nm_d, f2, f4]
  exact m_carry a b false (fun Q s => mo_accumulate_25 s 0 6 (nI m) Q)
theorem ru0_6 (a : AS) (b : Nat → Int32) (m : Nat) (hm : m < 4) (hd : m = 2 → dpb (fB a) = true) : Rl PT b false (tc_executeUpperHalf (mC a) (nI (134 + 16 * m))) (mo_upper (mM a b false) (nI (134 + 16 * m))) := by
  obtain ⟨n, z, e1, e2, e3⟩ := ad_byte a b m (by omega) hd
  rw [c_up0_6 _ m hm, m_up0_6 _ m hm, m_ac0_6 a b m hm, e1, bd_s, c_op6_0]
  dsimp only
  rw [bd_s]
  unfold mo_accumulate_25
  rw [if_neg (by decide), e2, bd_s, mx_und_e, if_pos (show bI false = 0 from rfl), show okI 0 9 = true from rfl, gd_t, nm_d, show ((0 : Int32).toNatClampNeg) = 0 from rfl, m_reg0, if_neg (by decide), if_neg (by decide), ← kp_cy e3, m_acc6_0 _ _ _ _ (Nat.mod_lt _ (by decide)) (Nat.mod_lt _ (by decide)), bd_s]
  exact rl_some rfl rfl
theorem uu0_6 (a : AS) (b : Nat → Int32) (hd : dpb (fB a) = false) : Un a b (mo_upper (mM a b false) (nI (134 + 16 * 2))) := by
  obtain ⟨n, e⟩ := m_oper_un a b false hd
  rw [m_up0_6 _ 2 (by decide), m_ac0_6 a b 2 (by decide)]
  unfold mo_accumulate_25
  rw [if_neg (by decide), show nI 2 = (2 : Int32) from rfl, e, bd_s, mx_und_e, if_neg (show ¬ bI true = 0 by decide), bd_s]
  exact un_of rfl (o6_fS a)
theorem m_ac0_8 (a : AS) (b : Nat → Int32) (m : Nat) (hm : m < 4) : mo_accumulate (mM a b false) (nI (136 + 16 * m)) 0 = mo_accumulate_25 (mM a b false) 0 8 (nI m) (nI (cyN a)) := by
  obtain ⟨f1, f2, f3, f4, f5, f6⟩ := cd_0_8 m hm
  unfold mo_accumulate
  rw [nm_d, nm_d, f2, f4]
  exact m_carry a b false (fun Q s => mo_accumulate_25 s 0 8 (nI m) Q)
theorem ru0_8 (a : AS) (b : Nat → Int32) (m : Nat) (hm : m < 4) (hd : m = 2 → dpb (fB a) = true) : Rl PT b false (tc_executeUpperHalf (mC a) (nI (136 + 16 * m))) (mo_upper (mM a b false) (nI (136 + 16 * m))) := by
  obtain ⟨n, z, e1, e2, e3⟩ := ad_byte a b m (by omega) hd
  rw [c_up0_8 _ m hm, m_up0_8 _ m hm, m_ac0_8 a b m hm, e1, bd_s, c_op8_0]
  dsimp only
  rw [bd_s]
  unfold mo_accumulate_25
  rw [if_neg (by decide), e2, bd_s, mx_und_e, if_pos (show bI false = 0 from rfl), show okI 0 9 = true from rfl, gd_t, nm_d, show ((0 : Int32).toNatClampNeg) = 0 from rfl, m_reg0, if_neg (by decide), if_neg (by decide), ← kp_cy e3, m_acc8_0 _ _ _ _ (Nat.mod_lt _ (by decide)) (Nat.mod_lt _ (by decide)), bd_s]
  exact rl_some rfl rfl
theorem uu0_8 (a : AS) (b : Nat → Int32) (hd : dpb (fB a) = false) : Un a b (mo_upper (mM a b false) (nI (136 + 16 * 2))) := by
  obtain ⟨n, e⟩ := m_oper_un a b false hd
  rw [m_up0_8 _ 2 (by decide), m_ac0_8 a b 2 (by decide)]
  unfold mo_accumulate_25
  rw [if_neg (by decide), show nI 2 = (2 : Int32) from rfl, e, bd_s, mx_und_e, if_neg (show ¬ bI true = 0 by decide), bd_s]
  exact un_of rfl (o6_fS a)
theorem m_ac0_9 (a : AS) (b : Nat → Int32) (m : Nat) (hm : m < 4) : mo_accumulate (mM a b false) (nI (137 + 16 * m)) 0 = mo_accumulate_25 (mM a b false) 0 9 (nI m) (nI (cyN a)) := by
  obtain ⟨f1, f2, f3, f4, f5, f6⟩ := cd_0_9 m hm
  unfold mo_accumulate
  rw [nm_d, nm_d, f2, f4]
  exact m_carry a b false (fun Q s => mo_accumulate_25 s 0 9 (nI m) Q)
theorem ru0_9 (a : AS) (b : Nat → Int32) (m : Nat) (hm : m < 4) (hd : m = 2 → dpb (fB a) = true) : Rl PT b false (tc_executeUpperHalf (mC a) (nI (137 + 16 * m))) (mo_upper (mM a b false) (nI (137 + 16 * m))) := by
  obtain ⟨n, z, e1, e2, e3⟩ := ad_byte a b m (by omega) hd
  rw [c_up0_9 _ m hm, m_up0_9 _ m hm, m_ac0_9 a b m hm, e1, bd_s, c_op9_0]
  dsimp only
  rw [bd_s]
  unfold mo_accumulate_25
  rw [if_neg (by decide), e2, bd_s, mx_und_e, if_pos (show bI false = 0 from rfl), show okI 0 9 = true from rfl, gd_t, nm_d, show ((0 : Int32).toNatClampNeg) = 0 from rfl, m_reg0, if_neg (by decide), if_neg (by decide), ← kp_cy e3, m_acc9_0 _ _ _ _ (Nat.mod_lt _ (by decide)) (Nat.mod_lt _ (by decide)), bd_s]
  exact rl_some rfl rfl
theorem uu0_9 (a : AS) (b : Nat → Int32) (hd : dpb (fB a) = false) : Un a b (mo_upper (mM a b false) (nI (137 + 16 * 2))) := by
  obtain ⟨n, e⟩ := m_oper_un a b false hd
  rw [m_up0_9 _ 2 (by decide), m_ac0_9 a b 2 (by decide)]
  unfold mo_accumulate_25
  rw [if_neg (by decide), show nI 2 = (2 : Int32) from rfl, e, bd_s, mx_und_e, if_neg (show ¬ bI true = 0 by decide), bd_s]
  exact un_of rfl (o6_fS a)
theorem m_ac0_10 (a : AS) (b : Nat → Int32) (m : Nat) (hm : m < 4) : mo_accumulate (mM a b false) (nI (138 + 16 * m)) 0 = mo_accumulate_25 (mM a b false) 0 10 (nI m) (nI (cyN a)) := by
  obtain ⟨f1, f2, f3, f4, f5, f6⟩ := cd_0_10 m hm
  unfold mo_accumulate
  rw [nm_d, nm_d, f2, f4]
  exact m_carry a b false (fun Q s => mo_accumulate_25 s 0 10 (nI m) Q)
theorem ru0_10 (a : AS) (b : Nat → Int32) (m : Nat) (hm : m < 4) (hd : m = 2 → dpb (fB a) = true) : Rl PT b false (tc_executeUpperHalf (mC a) (nI (138 + 16 * m))) (mo_upper (mM a b false) (nI (138 + 16 * m))) := by
  obtain ⟨n, z, e1, e2, e3⟩ := ad_byte a b m (by omega) hd
  rw [c_up0_10 _ m hm, m_up0_10 _ m hm, m_ac0_10 a b m hm, e1, bd_s, c_op10_0]
  dsimp only
  rw [bd_s]
  unfold mo_accumulate_25
  rw [if_neg (by decide), e2, bd_s, mx_und_e, if_pos (show bI false = 0 from rfl), show okI 0 9 = true from rfl, gd_t, nm_d, show ((0 : Int32).toNatClampNeg) = 0 from rfl, m_reg0, if_neg (by decide), if_neg (by decide), ← kp_cy e3, m_acc10_0 _ _ _ _ (Nat.mod_lt _ (by decide)) (Nat.mod_lt _ (by decide)), bd_s]
  exact rl_some rfl rfl
theorem uu0_10 (a : AS) (b : Nat → Int32) (hd : dpb (fB a) = false) : Un a b (mo_upper (mM a b false) (nI (138 + 16 * 2))) := by
  obtain ⟨n, e⟩ := m_oper_un a b false hd
  rw [m_up0_10 _ 2 (by decide), m_ac0_10 a b 2 (by decide)]
  unfold mo_accumulate_25
  rw [if_neg (by decide), show nI 2 = (2 : Int32) from rfl, e, bd_s, mx_und_e, if_neg (show ¬ bI true = 0 by decide), bd_s]
  exact un_of rfl (o6_fS a)
theorem m_ac0_11 (a : AS) (b : Nat → Int32) (m : Nat) (hm : m < 4) : mo_accumulate (mM a b false) (nI (139 + 16 * m)) 0 = mo_accumulate_25 (mM a b false) 0 11 (nI m) (nI (cyN a)) := by
  obtain ⟨f1, f2, f3, f4, f5, f6⟩ := cd_0_11 m hm
  unfold mo_accumulate
  rw [nm_d, nm_d, f2, f4]
  exact m_carry a b false (fun Q s => mo_accumulate_25 s 0 11 (nI m) Q)
theorem ru0_11 (a : AS) (b : Nat → Int32) (m : Nat) (hm : m < 4) (hd : m = 2 → dpb (fB a) = true) : Rl PT b false (tc_executeUpperHalf (mC a) (nI (139 + 16 * m))) (mo_upper (mM a b false) (nI (139 + 16 * m))) := by
  obtain ⟨n, z, e1, e2, e3⟩ := ad_byte a b m (by omega) hd
  rw [c_up0_11 _ m hm, m_up0_11 _ m hm, m_ac0_11 a b m hm, e1, bd_s, c_op11_0]
  dsimp only
  rw [bd_s]
  unfold mo_accumulate_25
  rw [if_neg (by decide), e2, bd_s, mx_und_e, if_pos (show bI false = 0 from rfl), show okI 0 9 = true from rfl, gd_t, nm_d, show ((0 : Int32).toNatClampNeg) = 0 from rfl, m_reg0, if_neg (by decide), if_neg (by decide), ← kp_cy e3, m_acc11_0 _ _ _ _ (Nat.mod_lt _ (by decide)) (Nat.mod_lt _ (by decide)), bd_s]
  exact rl_some rfl rfl
theorem uu0_11 (a : AS) (b : Nat → Int32) (hd : dpb (fB a) = false) : Un a b (mo_upper (mM a b false) (nI (139 + 16 * 2))) := by
  obtain ⟨n, e⟩ := m_oper_un a b false hd
  rw [m_up0_11 _ 2 (by decide), m_ac0_11 a b 2 (by decide)]
  unfold mo_accumulate_25
  rw [if_neg (by decide), show nI 2 = (2 : Int32) from rfl, e, bd_s, mx_und_e, if_neg (show ¬ bI true = 0 by decide), bd_s]
  exact un_of rfl (o6_fS a)
theorem m_ac0_7 (a : AS) (b : Nat → Int32) (m : Nat) (hm : m < 4) : mo_accumulate (mM a b false) (nI (135 + 16 * m)) 0 = mo_accumulate_25 (mM a b false) 0 7 (nI m) (nI (cyN a)) := by
  obtain ⟨f1, f2, f3, f4, f5, f6⟩ := cd_0_7 m hm
  unfold mo_accumulate
  rw [nm_d, nm_d, f2, f4]
  exact m_carry a b false (fun Q s => mo_accumulate_25 s 0 7 (nI m) Q)
theorem ru0_7 (a : AS) (b : Nat → Int32) (m : Nat) (hm : m < 4) (h0 : ¬ m = 0) (hd : m = 2 → dpb (fB a) = true) : Rl PT b false (tc_executeUpperHalf (mC a) (nI (135 + 16 * m))) (mo_upper (mM a b false) (nI (135 + 16 * m))) := by
  obtain ⟨n, z, e1, e2, e4, e3⟩ := ad_addr a b m 1 (by omega) hd
  have hlt : gR z 0 % 256 < 256 := Nat.mod_lt _ (by decide)
  rw [c_up0_7 _ m hm, m_up0_7 _ m hm, m_ac0_7 a b m hm, e1, bd_s]
  unfold tc_operateOnByte mo_accumulate_25 mo_accumulate_44 mo_accumulate_87
  rw [c_get0, bd_s, if_pos (show (7 : Int32) = 7 from rfl), c_pass8 _ _ hlt, bd_s, c_setByte, bd_s, bd_s, if_pos (show (7 : Int32) = 7 from rfl), if_neg (fun q => h0 ((m_eq0 (by omega)).mp q)), show isB 0 = true from rfl, gd_t, ns_d, my_und0, mx_und_e, if_pos (show bI false = 0 from rfl), e2, bd_s, mx_und_e, if_pos (show bI false = 0 from rfl), show okI 0 9 = true from rfl, gd_t, nm_d, show ((0 : Int32).toNatClampNeg) = 0 from rfl, m_reg0, m_moved8 _ _ _ _ hlt, bd_s, m_write, bd_s, bd_s]
  exact rl_some rfl rfl
theorem uu0_7 (a : AS) (b : Nat → Int32) (hd : dpb (fB a) = false) : Un a b (mo_upper (mM a b false) (nI (135 + 16 * 2))) := by
  rw [m_up0_7 _ 2 (by decide), m_ac0_7 a b 2 (by decide)]
  unfold mo_accumulate_25 mo_accumulate_44 mo_accumulate_87
  rw [if_pos (show (7 : Int32) = 7 from rfl), if_neg (show ¬ nI 2 = 0 by decide), show isB 0 = true from rfl, gd_t, ns_d, my_und0, mx_und_e, if_pos (show bI false = 0 from rfl), show nI 2 = (2 : Int32) from rfl, m_addr_un a b false hd, bd_s, mx_und_e, if_neg (show ¬ bI true = 0 by decide), bd_s]
  exact un_of rfl (o6_fS a)
theorem uz0_7 (a : AS) (b : Nat → Int32) : Un a b (mo_upper (mM a b false) (nI (135 + 16 * 0))) := by
  rw [m_up0_7 _ 0 (by decide), m_ac0_7 a b 0 (by decide)]
  unfold mo_accumulate_25 mo_accumulate_44
  rw [if_pos (show (7 : Int32) = 7 from rfl), if_pos (show nI 0 = 0 by decide), show isB 1 = true from rfl, gd_t, ns_d, my_und1, mx_und_e, if_neg (show ¬ bI true = 0 by decide), bd_s]
  exact un_of rfl (o6_rf a)
theorem ru0_3 (a : AS) (b : Nat → Int32) (m : Nat) (hm : m < 4) (hd : m = 2 → dpb (fB a) = true) : Rl PT b false (tc_executeUpperHalf (mC a) (nI (131 + 16 * m))) (mo_upper (mM a b false) (nI (131 + 16 * m))) := by
  obtain ⟨n, z, e1, e2, e3⟩ := ad_word a b m (by omega) hd
  rw [c_up0_3 _ m hm, m_up0_3 _ m hm, e1, bd_s, c_w0_3_0, bd_s, m_subW a z b _ _ (wd2_lt z n) e2, bd_s]
  exact rl_some rfl rfl
theorem uu0_3 (a : AS) (b : Nat → Int32) (hd : dpb (fB a) = false) : Un a b (mo_upper (mM a b false) (nI (131 + 16 * 2))) := by
  rw [m_up0_3 _ 2 (by decide), show nI 2 = (2 : Int32) from rfl, un_add a b 1 hd, bd_s]
  exact un_of rfl (o6_fS a)
theorem ru0_12 (a : AS) (b : Nat → Int32) (m : Nat) (hm : m < 4) (hd : m = 2 → dpb (fB a) = true) : Rl PT b false (tc_executeUpperHalf (mC a) (nI (140 + 16 * m))) (mo_upper (mM a b false) (nI (140 + 16 * m))) := by
  obtain ⟨n, z, e1, e2, e3⟩ := ad_word a b m (by omega) hd
  rw [c_up0_12 _ m hm, m_up0_12 _ m hm, e1, bd_s, c_w0_12_0, bd_s, m_cmp2 a z b _ _ _ (wd2_lt z n) e2, bd_s]
  exact rl_some rfl rfl
theorem uu0_12 (a : AS) (b : Nat → Int32) (hd : dpb (fB a) = false) : Un a b (mo_upper (mM a b false) (nI (140 + 16 * 2))) := by
  rw [m_up0_12 _ 2 (by decide), show nI 2 = (2 : Int32) from rfl, un_cmp a b 0 2 hd, bd_s]
  exact un_of rfl (o6_fS a)
theorem ru0_13 (a : AS) (b : Nat → Int32) (m : Nat) (hm : m < 4) (hd : m = 2 → dpb (fB a) = true) : Rl PT b false (tc_executeUpperHalf (mC a) (nI (141 + 16 * m))) (mo_upper (mM a b false) (nI (141 + 16 * m))) := by
  by_cases h0 : m = 0
  · subst h0
    rw [m_up0_13 _ 0 hm]
    have e : ∀ s : CS, tc_executeUpperHalf s (nI (141 + 16 * 0)) = bd (tc_fetchByte s) fun v3 s1 => bd (tc_callRelative s1 (v3.toInt8.toInt32)) fun _ s2 => some ((0 : Int32), s2) := by
      intro s
      unfold tc_executeUpperHalf
      rw [if_pos (by decide)]
    rw [e]
    obtain ⟨n, z, q1, q2, q3⟩ := rl_bsr a b
    have t := q1
    rw [c_fetchByte, bd_s, c_callRel, bd_s] at t
    have hn : (0 : Int32) = nI n := congrArg Prod.fst (Option.some.inj t)
    refine ⟨n, z, q1, ?_, trivial⟩
    rw [show nI 0 = (0 : Int32) from rfl, q2, bd_s, ← hn]
  · obtain ⟨n, z, e1, e2, e4, e3⟩ := ad_addr a b m 2 (by omega) hd
    rw [c_up0_13 _ m hm h0, m_up0_13 _ m hm, e1, bd_s, c_call, bd_s]
    unfold mo_call
    rw [if_neg (fun q => h0 ((m_eq0 (by omega)).mp q)), e2, bd_s, m_call36 _ _ _ e4, bd_s]
    exact rl_some rfl rfl
theorem uu0_13 (a : AS) (b : Nat → Int32) (hd : dpb (fB a) = false) : Un a b (mo_upper (mM a b false) (nI (141 + 16 * 2))) := by
  rw [m_up0_13 _ 2 (by decide), show nI 2 = (2 : Int32) from rfl, un_call a b hd, bd_s]
  exact un_of rfl (o6_fS a)
theorem ru0_14 (a : AS) (b : Nat → Int32) (m : Nat) (hm : m < 4) (hd : m = 2 → dpb (fB a) = true) : Rl PT b false (tc_executeUpperHalf (mC a) (nI (142 + 16 * m))) (mo_upper (mM a b false) (nI (142 + 16 * m))) := by
  obtain ⟨n, z, e1, e2, e3⟩ := ad_word a b m (by omega) hd
  rw [c_up0_14 _ m hm, m_up0_14 _ m hm, e1, bd_s, c_w0_14_0, bd_s, m_ld2 a z b _ _ (wd2_lt z n) e2, bd_s]
  exact rl_some rfl rfl
theorem uu0_14 (a : AS) (b : Nat → Int32) (hd : dpb (fB a) = false) : Un a b (mo_upper (mM a b false) (nI (142 + 16 * 2))) := by
  rw [m_up0_14 _ 2 (by decide), show nI 2 = (2 : Int32) from rfl, un_ld a b 2 hd, bd_s]
  exact un_of rfl (o6_fS a)
theorem ru0_15 (a : AS) (b : Nat → Int32) (m : Nat) (hm : m < 4) (h0 : ¬ m = 0) (hd : m = 2 → dpb (fB a) = true) : Rl PT b false (tc_executeUpperHalf (mC a) (nI (143 + 16 * m))) (mo_upper (mM a b false) (nI (143 + 16 * m))) := by
  obtain ⟨n, z, e1, e2, e4, e3⟩ := ad_addr a b m 2 (by omega) hd
  rw [c_up0_15 _ m hm, m_up0_15 _ m hm, e1, bd_s, c_w0_15_0, bd_s, m_st2 a z b _ n (fun q => h0 ((m_eq0 (by omega)).mp q)) e2, bd_s]
  exact rl_some rfl rfl
theorem uu0_15 (a : AS) (b : Nat → Int32) (hd : dpb (fB a) = false) : Un a b (mo_upper (mM a b false) (nI (143 + 16 * 2))) := by
  rw [m_up0_15 _ 2 (by decide), show nI 2 = (2 : Int32) from rfl, un_st a b 2 hd, bd_s]
  exact un_of rfl (o6_fS a)
theorem uz0_15 (a : AS) (b : Nat → Int32) : Un a b (mo_upper (mM a b false) (nI (143 + 16 * 0))) := by
  rw [m_up0_15 _ 0 (by decide), show nI 0 = (0 : Int32) from rfl, un_st0 a b 2, bd_s]
  exact un_of rfl (o6_rf a)
theorem m_ac1_0 (a : AS) (b : Nat → Int32) (m : Nat) (hm : m < 4) : mo_accumulate (mM a b false) (nI (192 + 16 * m)) 1 = mo_accumulate_25 (mM a b false) 1 0 (nI m) (nI (cyN a)) := by
  obtain ⟨f1, f2, f3, f4, f5, f6⟩ := cd_1_0 m hm
  unfold mo_accumulate
  rw [nm_d, nm_d, f2, f4]
  exact m_carry a b false (fun Q s => mo_accumulate_25 s 1 0 (nI m) Q)
theorem ru1_0 (a : AS) (b : Nat → Int32) (m : Nat) (hm : m < 4) (hd : m = 2 → dpb (fB a) = true) : Rl PT b false (tc_executeUpperHalf (mC a) (nI (192 + 16 * m))) (mo_upper (mM a b false) (nI (192 + 16 * m))) := by
  obtain ⟨n, z, e1, e2, e3⟩ := ad_byte a b m (by omega) hd
  rw [c_up1_0 _ m hm, m_up1_0 _ m hm, m_ac1_0 a b m hm, e1, bd_s, c_op0_1]
  dsimp only
  rw [bd_s]
  unfold mo_accumulate_25
  rw [if_neg (by decide), e2, bd_s, mx_und_e, if_pos (show bI false = 0 from rfl), show okI 1 9 = true from rfl, gd_t, nm_d, show ((1 : Int32).toNatClampNeg) = 1 from rfl, m_reg1, if_pos (by decide), ← kp_cy e3, m_acc0_1 _ _ _ _ (Nat.mod_lt _ (by decide)) (Nat.mod_lt _ (by decide)), bd_s]
  exact rl_some rfl rfl
theorem uu1_0 (a : AS) (b : Nat → Int32) (hd : dpb (fB a) = false) : Un a b (mo_upper (mM a b false) (nI (192 + 16 * 2))) := by
  obtain ⟨n, e⟩ := m_oper_un a b false hd
  rw [m_up1_0 _ 2 (by decide), m_ac1_0 a b 2 (by decide)]
  unfold mo_accumulate_25
  rw [if_neg (by decide), show nI 2 = (2 : Int32) from rfl, e, bd_s, mx_und_e, if_neg (show ¬ bI true = 0 by decide), bd_s]
  exact un_of rfl (o6_fS a)
theorem m_ac1_1 (a : AS) (b : Nat → Int32) (m : Nat) (hm : m < 4) : mo_accumulate (mM a b false) (nI (193 + 16 * m)) 1 = mo_accumulate_25 (mM a b false) 1 1 (nI m) (nI (cyN a)) := by
  obtain ⟨f1, f2, f3, f4, f5, f6⟩ := cd_1_1 m hm
  unfold mo_accumulate
  rw [nm_d, nm_d, f2, f4]
  exact m_carry a b false (fun Q s => mo_accumulate_25 s 1 1 (nI m) Q)
theorem ru1_1 (a : AS) (b : Nat → Int32) (m : Nat) (hm : m < 4) (hd : m = 2 → dpb (fB a) = true) : Rl PT b false (tc_executeUpperHalf (mC a) (nI (193 + 16 * m))) (mo_upper (mM a b false) (nI (193 + 16 * m))) := by
  obtain ⟨n, z, e1, e2, e3⟩ := ad_byte a b m (by omega) hd
  rw [c_up1_1 _ m hm, m_up1_1 _ m hm, m_ac1_1 a b m hm, e1, bd_s, c_op1_1]
  dsimp only
  rw [bd_s]
  unfold mo_accumulate_25
  rw [if_neg (by decide), e2, bd_s, mx_und_e, if_pos (show bI false = 0 from rfl), show okI 1 9 = true from rfl, gd_t, nm_d, show ((1 : Int32).toNatClampNeg) = 1 from rfl, m_reg1, if_neg (by decide), if_pos (by decide), ← kp_cy e3, m_acc1_1 _ _ _ _ (Nat.mod_lt _ (by decide)) (Nat.mod_lt _ (by decide)), bd_s]
  exact rl_some rfl rfl
theorem uu1_1 (a : AS) (b : Nat → Int32) (hd : dpb (fB a) = false) : Un a b (mo_upper (mM a b false) (nI (193 + 16 * 2))) := by
  obtain ⟨n, e⟩ := m_oper_un a b false hd
  rw [m_up1_1 _ 2 (by decide), m_ac1_1 a b 2 (by decide)]
  unfold mo_accumulate_25
  rw [if_neg (by decide), show nI 2 = (2 : Int32) from rfl, e, bd_s, mx_und_e, if_neg (show ¬ bI true = 0 by decide), bd_s]
  exact un_of rfl (o6_fS a)
theorem m_ac1_2 (a : AS) (b : Nat → Int32) (m : Nat) (hm : m < 4) : mo_accumulate (mM a b false) (nI (194 + 16 * m)) 1 = mo_accumulate_25 (mM a b false) 1 2 (nI m) (nI (cyN a)) := by
  obtain ⟨f1, f2, f3, f4, f5, f6⟩ := cd_1_2 m hm
  unfold mo_accumulate
  rw [nm_d, nm_d, f2, f4]
  exact m_carry a b false (fun Q s => mo_accumulate_25 s 1 2 (nI m) Q)
theorem ru1_2 (a : AS) (b : Nat → Int32) (m : Nat) (hm : m < 4) (hd : m = 2 → dpb (fB a) = true) : Rl PT b false (tc_executeUpperHalf (mC a) (nI (194 + 16 * m))) (mo_upper (mM a b false) (nI (194 + 16 * m))) := by
  obtain ⟨n, z, e1, e2, e3⟩ := ad_byte a b m (by omega) hd
  rw [c_up1_2 _ m hm, m_up1_2 _ m hm, m_ac1_2 a b m hm, e1, bd_s, c_op2_1]
  dsimp only
  rw [bd_s]
  unfold mo_accumulate_25
  rw [if_neg (by decide), e2, bd_s, mx_und_e, if_pos (show bI false = 0 from rfl), show okI 1 9 = true from rfl, gd_t, nm_d, show ((1 : Int32).toNatClampNeg) = 1 from rfl, m_reg1, if_neg (by decide), if_neg (by decide), ← kp_cy e3, m_acc2_1 _ _ _ _ (Nat.mod_lt _ (by decide)) (Nat.mod_lt _ (by decide)), bd_s]
  exact rl_some rfl rfl
theorem uu1_2 (a : AS) (b : Nat → Int32) (hd : dpb (fB a) = false) : Un a b (mo_upper (mM a b false) (nI (194 + 16 * 2))) := by
  obtain ⟨n, e⟩ := m_oper_un a b false hd
  rw [m_up1_2 _ 2 (by decide), m_ac1_2 a b 2 (by decide)]
  unfold mo_accumulate_25
  rw [if_neg (by decide), show nI 2 = (2 : Int32) from rfl, e, bd_s, mx_und_e, if_neg (show ¬ bI true = 0 by decide), bd_s]
  exact un_of rfl (o6_fS a)
theorem m_ac1_4 (a : AS) (b : Nat → Int32) (m : Nat) (hm : m < 4) : mo_accumulate (mM a b false) (nI (196 + 16 * m)) 1 = mo_accumulate_25 (mM a b false) 1 4 (nI m) (nI (cyN a)) := by
  obtain ⟨f1, f2, f3, f4, f5, f6⟩ := cd_1_4 m hm
  unfold mo_accumulate
  rw [nm_d, nm_d, f2, f4]
  exact m_carry a b false (fun Q s => mo_accumulate_25 s 1 4 (nI m) Q)
theorem ru1_4 (a : AS) (b : Nat → Int32) (m : Nat) (hm : m < 4) (hd : m = 2 → dpb (fB a) = true) : Rl PT b false (tc_executeUpperHalf (mC a) (nI (196 + 16 * m))) (mo_upper (mM a b false) (nI (196 + 16 * m))) := by
  obtain ⟨n, z, e1, e2, e3⟩ := ad_byte a b m (by omega) hd
  rw [c_up1_4 _ m hm, m_up1_4 _ m hm, m_ac1_4 a b m hm, e1, bd_s, c_op4_1]
  dsimp only
  rw [bd_s]
  unfold mo_accumulate_25
  rw [if_neg (by decide), e2, bd_s, mx_und_e, if_pos (show bI false = 0 from rfl), show okI 1 9 = true from rfl, gd_t, nm_d, show ((1 : Int32).toNatClampNeg) = 1 from rfl, m_reg1, if_neg (by decide), if_neg (by decide), ← kp_cy e3, m_acc4_1 _ _ _ _ (Nat.mod_lt _ (by decide)) (Nat.mod_lt _ (by decide)), bd_s]
  exact rl_some rfl rfl
theorem uu1_4 (a : AS) (b : Nat → Int32) (hd : dpb (fB a) = false) : Un a b (mo_upper (mM a b false) (nI (196 + 16 * 2))) := by
  obtain ⟨n, e⟩ := m_oper_un a b false hd
  rw [m_up1_4 _ 2 (by decide), m_ac1_4 a b 2 (by decide)]
  unfold mo_accumulate_25
  rw [if_neg (by decide), show nI 2 = (2 : Int32) from rfl, e, bd_s, mx_und_e, if_neg (show ¬ bI true = 0 by decide), bd_s]
  exact un_of rfl (o6_fS a)
theorem m_ac1_5 (a : AS) (b : Nat → Int32) (m : Nat) (hm : m < 4) : mo_accumulate (mM a b false) (nI (197 + 16 * m)) 1 = mo_accumulate_25 (mM a b false) 1 5 (nI m) (nI (cyN a)) := by
  obtain ⟨f1, f2, f3, f4, f5, f6⟩ := cd_1_5 m hm
  unfold mo_accumulate
  rw [nm_d, nm_d, f2, f4]
  exact m_carry a b false (fun Q s => mo_accumulate_25 s 1 5 (nI m) Q)
theorem ru1_5 (a : AS) (b : Nat → Int32) (m : Nat) (hm : m < 4) (hd : m = 2 → dpb (fB a) = true) : Rl PT b false (tc_executeUpperHalf (mC a) (nI (197 + 16 * m))) (mo_upper (mM a b false) (nI (197 + 16 * m))) := by
  obtain ⟨n, z, e1, e2, e3⟩ := ad_byte a b m (by omega) hd
  rw [c_up1_5 _ m hm, m_up1_5 _ m hm, m_ac1_5 a b m hm, e1, bd_s, c_op5_1]
  dsimp only
  rw [bd_s]
  unfold mo_accumulate_25
  rw [if_neg (by decide), e2, bd_s, mx_und_e, if_pos (show bI false = 0 from rfl), show okI 1 9 = true from rfl, gd_t, nm_d, show ((1 : Int32).toNatClampNeg) = 1 from rfl, m_reg1, if_neg (by decide), if_neg (by decide), ← kp_cy e3, m_acc5_1 _ _ _ _ (Nat.mod_lt _ (by decide)) (Nat.mod_lt _ (by decide)), bd_s]
  exact rl_some rfl rfl
theorem uu1_5 (a : AS) (b : Nat → Int32) (hd : dpb (fB a) = false) : Un a b (mo_upper (mM a b false) (nI (197 + 16 * 2))) := by
  obtain ⟨n, e⟩ := m_oper_un a b false hd
  rw [m_up1_5 _ 2 (by decide), m_ac1_5 a b 2 (by decide)]
  unfold mo_accumulate_25
  rw [if_neg (by decide), show nI 2 = (2 : Int32) from rfl, e, bd_s, mx_und_e, if_neg (show ¬ bI true = 0 by decide), bd_s]
  exact un_of rfl (o6_fS a)
theorem m_ac1_6 (a : AS) (b : Nat → Int32) (m : Nat) (hm : m < 4) : mo_accumulate (mM a b false) (nI (198 + 16 * m)) 1 = mo_accumulate_25 (mM a b false) 1 6 (nI m) (nI (cyN a)) := by
  obtain ⟨f1, f2, f3, f4, f5, f6⟩ := cd_1_6 m hm
  unfold mo_accumulate
  rw [nm_d, nm_d, f2, f4]
  exact m_carry a b false (fun Q s => mo_accumulate_25 s 1 6 (nI m) Q)
theorem ru1_6 (a : AS) (b : Nat → Int32) (m : Nat) (hm : m < 4) (hd : m = 2 → dpb (fB a) = true) : Rl PT b false (tc_executeUpperHalf (mC a) (nI (198 + 16 * m))) (mo_upper (mM a b false) (nI (198 + 16 * m))) := by
  obtain ⟨n, z, e1, e2, e3⟩ := ad_byte a b m (by omega) hd
  rw [c_up1_6 _ m hm, m_up1_6 _ m hm, m_ac1_6 a b m hm, e1, bd_s, c_op6_1]
  dsimp only
  rw [bd_s]
  unfold mo_accumulate_25
  rw [if_neg (by decide), e2, bd_s, mx_und_e, if_pos (show bI false = 0 from rfl), show okI 1 9 = true from rfl, gd_t, nm_d, show ((1 : Int32).toNatClampNeg) = 1 from rfl, m_reg1, if_neg (by decide), if_neg (by decide), ← kp_cy e3, m_acc6_1 _ _ _ _ (Nat.mod_lt _ (by decide)) (Nat.mod_lt _ (by decide)), bd_s]
  exact rl_some rfl rfl
theorem uu1_6 (a : AS) (b : Nat → Int32) (hd : dpb (fB a) = false) : Un a b (mo_upper (mM a b false) (nI (198 + 16 * 2))) := by
  obtain ⟨n, e⟩ := m_oper_un a b false hd
  rw [m_up1_6 _ 2 (by decide), m_ac1_6 a b 2 (by decide)]
  unfold mo_accumulate_25
  rw [if_neg (by decide), show nI 2 = (2 : Int32) from rfl, e, bd_s, mx_und_e, if_neg (show ¬ bI true = 0 by decide), bd_s]
  exact un_of rfl (o6_fS a)
theorem m_ac1_8 (a : AS) (b : Nat → Int32) (m : Nat) (hm : m < 4) : mo_accumulate (mM a b false) (nI (200 + 16 * m)) 1 = mo_accumulate_25 (mM a b false) 1 8 (nI m) (nI (cyN a)) := by
  obtain ⟨f1, f2, f3, f4, f5, f6⟩ := cd_1_8 m hm
  unfold mo_accumulate
  rw [nm_d, nm_d, f2, f4]
  exact m_carry a b false (fun Q s => mo_accumulate_25 s 1 8 (nI m) Q)
theorem ru1_8 (a : AS) (b : Nat → Int32) (m : Nat) (hm : m < 4) (hd : m = 2 → dpb (fB a) = true) : Rl PT b false (tc_executeUpperHalf (mC a) (nI (200 + 16 * m))) (mo_upper (mM a b false) (nI (200 + 16 * m))) := by
  obtain ⟨n, z, e1, e2, e3⟩ := ad_byte a b m (by omega) hd
  rw [c_up1_8 _ m hm, m_up1_8 _ m hm, m_ac1_8 a b m hm, e1, bd_s, c_op8_1]
  dsimp only
  rw [bd_s]
  unfold mo_accumulate_25
  rw [if_neg (by decide), e2, bd_s, mx_und_e, if_pos (show bI false = 0 from rfl), show okI 1 9 = true from rfl, gd_t, nm_d, show ((1 : Int32).toNatClampNeg) = 1 from rfl, m_reg1, if_neg (by decide), if_neg (by decide), ← kp_cy e3, m_acc8_1 _ _ _ _ (Nat.mod_lt _ (by decide)) (Nat.mod_lt _ (by decide)), bd_s]
  exact rl_some rfl rfl
theorem uu1_8 (a : AS) (b : Nat → Int32) (hd : dpb (fB a) = false) : Un a b (mo_upper (mM a b false) (nI (200 + 16 * 2))) := by
  obtain ⟨n, e⟩ := m_oper_un a b false hd
  rw [m_up1_8 _ 2 (by decide), m_ac1_8 a b 2 (by decide)]
  unfold mo_accumulate_25
  rw [if_neg (by decide), show nI 2 = (2 : Int32) from rfl, e, bd_s, mx_und_e, if_neg (show ¬ bI true = 0 by decide), bd_s]
  exact un_of rfl (o6_fS a)
theorem m_ac1_9 (a : AS) (b : Nat → Int32) (m : Nat) (hm : m < 4) : mo_accumulate (mM a b false) (nI (201 + 16 * m)) 1 = mo_accumulate_25 (mM a b false) 1 9 (nI m) (nI (cyN a)) := by
  obtain ⟨f1, f2, f3, f4, f5, f6⟩ := cd_1_9 m hm
  unfold mo_accumulate
  rw [nm_d, nm_d, f2, f4]
  exact m_carry a b false (fun Q s => mo_accumulate_25 s 1 9 (nI m) Q)
theorem ru1_9 (a : AS) (b : Nat → Int32) (m : Nat) (hm : m < 4) (hd : m = 2 → dpb (fB a) = true) : Rl PT b false (tc_executeUpperHalf (mC a) (nI (201 + 16 * m))) (mo_upper (mM a b false) (nI (201 + 16 * m))) := by
  obtain ⟨n, z, e1, e2, e3⟩ := ad_byte a b m (by omega) hd
  rw [c_up1_9 _ m hm, m_up1_9 _ m hm, m_ac1_9 a b m hm, e1, bd_s, c_op9_1]
  dsimp only
  rw [bd_s]
  unfold mo_accumulate_25
  rw [if_neg (by decide), e2, bd_s, mx_und_e, if_pos (show bI false = 0 from rfl), show okI 1 9 = true from rfl, gd_t, nm_d, show ((1 : Int32).toNatClampNeg) = 1 from rfl, m_reg1, if_neg (by decide), if_neg (by decide), ← kp_cy e3, m_acc9_1 _ _ _ _ (Nat.mod_lt _ (by decide)) (Nat.mod_lt _ (by decide)), bd_s]
  exact rl_some rfl rfl
theorem uu1_9 (a : AS) (b : Nat → Int32) (hd : dpb (fB a) = false) : Un a b (mo_upper (mM a b false) (nI (201 + 16 * 2))) := by
  obtain ⟨n, e⟩ := m_oper_un a b false hd
  rw [m_up1_9 _ 2 (by decide), m_ac1_9 a b 2 (by decide)]
  unfold mo_accumulate_25
  rw [if_neg (by decide), show nI 2 = (2 : Int32) from rfl, e, bd_s, mx_und_e, if_neg (show ¬ bI true = 0 by decide), bd_s]
  exact un_of rfl (o6_fS a)
theorem m_ac1_10 (a : AS) (b : Nat → Int32) (m : Nat) (hm : m < 4) : mo_accumulate (mM a b false) (nI (202 + 16 * m)) 1 = mo_accumulate_25 (mM a b false) 1 10 (nI m) (nI (cyN a)) := by
  obtain ⟨f1, f2, f3, f4, f5, f6⟩ := cd_1_10 m hm
  unfold mo_accumulate
  rw [nm_d, nm_d, f2, f4]
  exact m_carry a b false (fun Q s => mo_accumulate_25 s 1 10 (nI m) Q)
theorem ru1_10 (a : AS) (b : Nat → Int32) (m : Nat) (hm : m < 4) (hd : m = 2 → dpb (fB a) = true) : Rl PT b false (tc_executeUpperHalf (mC a) (nI (202 + 16 * m))) (mo_upper (mM a b false) (nI (202 + 16 * m))) := by
  obtain ⟨n, z, e1, e2, e3⟩ := ad_byte a b m (by omega) hd
  rw [c_up1_10 _ m hm, m_up1_10 _ m hm, m_ac1_10 a b m hm, e1, bd_s, c_op10_1]
  dsimp only
  rw [bd_s]
  unfold mo_accumulate_25
  rw [if_neg (by decide), e2, bd_s, mx_und_e, if_pos (show bI false = 0 from rfl), show okI 1 9 = true from rfl, gd_t, nm_d, show ((1 : Int32).toNatClampNeg) = 1 from rfl, m_reg1, if_neg (by decide), if_neg (by decide), ← kp_cy e3, m_acc10_1 _ _ _ _ (Nat.mod_lt _ (by decide)) (Nat.mod_lt _ (by decide)), bd_s]
  exact rl_some rfl rfl
theorem uu1_10 (a : AS) (b : Nat → Int32) (hd : dpb (fB a) = false) : Un a b (mo_upper (mM a b false) (nI (202 + 16 * 2))) := by
  obtain ⟨n, e⟩ := m_oper_un a b false hd
  rw [m_up1_10 _ 2 (by decide), m_ac1_10 a b 2 (by decide)]
  unfold mo_accumulate_25
  rw [if_neg (by decide), show nI 2 = (2 : Int32) from rfl, e, bd_s, mx_und_e, if_neg (show ¬ bI true = 0 by decide), bd_s]
  exact un_of rfl (o6_fS a)
theorem m_ac1_11 (a : AS) (b : Nat → Int32) (m : Nat) (hm : m < 4) : mo_accumulate (mM a b false) (nI (203 + 16 * m)) 1 = mo_accumulate_25 (mM a b false) 1 11 (nI m) (nI (cyN a)) := by
  obtain ⟨f1, f2, f3, f4, f5, f6⟩ := cd_1_11 m hm
  unfold mo_accumulate
  rw [nm_d, nm_d, f2, f4]
  exact m_carry a b false (fun Q s => mo_accumulate_25 s 1 11 (nI m) Q)
theorem ru1_11 (a : AS) (b : Nat → Int32) (m : Nat) (hm : m < 4) (hd : m = 2 → dpb (fB a) = true) : Rl PT b false (tc_executeUpperHalf (mC a) (nI (203 + 16 * m))) (mo_upper (mM a b false) (nI (203 + 16 * m))) := by
  obtain ⟨n, z, e1, e2, e3⟩ := ad_byte a b m (by omega) hd
  rw [c_up1_11 _ m hm, m_up1_11 _ m hm, m_ac1_11 a b m hm, e1, bd_s, c_op11_1]
  dsimp only
  rw [bd_s]
  unfold mo_accumulate_25
  rw [if_neg (by decide), e2, bd_s, mx_und_e, if_pos (show bI false = 0 from rfl), show okI 1 9 = true from rfl, gd_t, nm_d, show ((1 : Int32).toNatClampNeg) = 1 from rfl, m_reg1, if_neg (by decide), if_neg (by decide), ← kp_cy e3, m_acc11_1 _ _ _ _ (Nat.mod_lt _ (by decide)) (Nat.mod_lt _ (by decide)), bd_s]
  exact rl_some rfl rfl
theorem uu1_11 (a : AS) (b : Nat → Int32) (hd : dpb (fB a) = false) : Un a b (mo_upper (mM a b false) (nI (203 + 16 * 2))) := by
  obtain ⟨n, e⟩ := m_oper_un a b false hd
  rw [m_up1_11 _ 2 (by decide), m_ac1_11 a b 2 (by decide)]
  unfold mo_accumulate_25
  rw [if_neg (by decide), show nI 2 = (2 : Int32) from rfl, e, bd_s, mx_und_e, if_neg (show ¬ bI true = 0 by decide), bd_s]
  exact un_of rfl (o6_fS a)
theorem m_ac1_7 (a : AS) (b : Nat → Int32) (m : Nat) (hm : m < 4) : mo_accumulate (mM a b false) (nI (199 + 16 * m)) 1 = mo_accumulate_25 (mM a b false) 1 7 (nI m) (nI (cyN a)) := by
  obtain ⟨f1, f2, f3, f4, f5, f6⟩ := cd_1_7 m hm
  unfold mo_accumulate
  rw [nm_d, nm_d, f2, f4]
  exact m_carry a b false (fun Q s => mo_accumulate_25 s 1 7 (nI m) Q)
theorem ru1_7 (a : AS) (b : Nat → Int32) (m : Nat) (hm : m < 4) (h0 : ¬ m = 0) (hd : m = 2 → dpb (fB a) = true) : Rl PT b false (tc_executeUpperHalf (mC a) (nI (199 + 16 * m))) (mo_upper (mM a b false) (nI (199 + 16 * m))) := by
  obtain ⟨n, z, e1, e2, e4, e3⟩ := ad_addr a b m 1 (by omega) hd
  have hlt : gR z 1 % 256 < 256 := Nat.mod_lt _ (by decide)
  rw [c_up1_7 _ m hm, m_up1_7 _ m hm, m_ac1_7 a b m hm, e1, bd_s]
  unfold tc_operateOnByte mo_accumulate_25 mo_accumulate_44 mo_accumulate_87
  rw [c_get1, bd_s, if_pos (show (7 : Int32) = 7 from rfl), c_pass8 _ _ hlt, bd_s, c_setByte, bd_s, bd_s, if_pos (show (7 : Int32) = 7 from rfl), if_neg (fun q => h0 ((m_eq0 (by omega)).mp q)), show isB 0 = true from rfl, gd_t, ns_d, my_und0, mx_und_e, if_pos (show bI false = 0 from rfl), e2, bd_s, mx_und_e, if_pos (show bI false = 0 from rfl), show okI 1 9 = true from rfl, gd_t, nm_d, show ((1 : Int32).toNatClampNeg) = 1 from rfl, m_reg1, m_moved8 _ _ _ _ hlt, bd_s, m_write, bd_s, bd_s]
  exact rl_some rfl rfl
theorem uu1_7 (a : AS) (b : Nat → Int32) (hd : dpb (fB a) = false) : Un a b (mo_upper (mM a b false) (nI (199 + 16 * 2))) := by
  rw [m_up1_7 _ 2 (by decide), m_ac1_7 a b 2 (by decide)]
  unfold mo_accumulate_25 mo_accumulate_44 mo_accumulate_87
  rw [if_pos (show (7 : Int32) = 7 from rfl), if_neg (show ¬ nI 2 = 0 by decide), show isB 0 = true from rfl, gd_t, ns_d, my_und0, mx_und_e, if_pos (show bI false = 0 from rfl), show nI 2 = (2 : Int32) from rfl, m_addr_un a b false hd, bd_s, mx_und_e, if_neg (show ¬ bI true = 0 by decide), bd_s]
  exact un_of rfl (o6_fS a)
theorem uz1_7 (a : AS) (b : Nat → Int32) : Un a b (mo_upper (mM a b false) (nI (199 + 16 * 0))) := by
  rw [m_up1_7 _ 0 (by decide), m_ac1_7 a b 0 (by decide)]
  unfold mo_accumulate_25 mo_accumulate_44
  rw [if_pos (show (7 : Int32) = 7 from rfl), if_pos (show nI 0 = 0 by decide), show isB 1 = true from rfl, gd_t, ns_d, my_und1, mx_und_e, if_neg (show ¬ bI true = 0 by decide), bd_s]
  exact un_of rfl (o6_rf a)
theorem ru1_3 (a : AS) (b : Nat → Int32) (m : Nat) (hm : m < 4) (hd : m = 2 → dpb (fB a) = true) : Rl PT b false (tc_executeUpperHalf (mC a) (nI (195 + 16 * m))) (mo_upper (mM a b false) (nI (195 + 16 * m))) := by
  obtain ⟨n, z, e1, e2, e3⟩ := ad_word a b m (by omega) hd
  rw [c_up1_3 _ m hm, m_up1_3 _ m hm, e1, bd_s, c_w0_3_1, bd_s, m_addW a z b _ _ (wd2_lt z n) e2, bd_s]
  exact rl_some rfl rfl
theorem uu1_3 (a : AS) (b : Nat → Int32) (hd : dpb (fB a) = false) : Un a b (mo_upper (mM a b false) (nI (195 + 16 * 2))) := by
  rw [m_up1_3 _ 2 (by decide), show nI 2 = (2 : Int32) from rfl, un_add a b 0 hd, bd_s]
  exact un_of rfl (o6_fS a)
theorem ru1_12 (a : AS) (b : Nat → Int32) (m : Nat) (hm : m < 4) (hd : m = 2 → dpb (fB a) = true) : Rl PT b false (tc_executeUpperHalf (mC a) (nI (204 + 16 * m))) (mo_upper (mM a b false) (nI (204 + 16 * m))) := by
  obtain ⟨n, z, e1, e2, e3⟩ := ad_word a b m (by omega) hd
  rw [c_up1_12 _ m hm, m_up1_12 _ m hm, e1, bd_s, c_w0_12_1, bd_s, m_ld9 a z b _ _ (wd2_lt z n) e2, bd_s]
  exact rl_some rfl rfl
theorem uu1_12 (a : AS) (b : Nat → Int32) (hd : dpb (fB a) = false) : Un a b (mo_upper (mM a b false) (nI (204 + 16 * 2))) := by
  rw [m_up1_12 _ 2 (by decide), show nI 2 = (2 : Int32) from rfl, un_ld a b (-1) hd, bd_s]
  exact un_of rfl (o6_fS a)
theorem ru1_13 (a : AS) (b : Nat → Int32) (m : Nat) (hm : m < 4) (h0 : ¬ m = 0) (hd : m = 2 → dpb (fB a) = true) : Rl PT b false (tc_executeUpperHalf (mC a) (nI (205 + 16 * m))) (mo_upper (mM a b false) (nI (205 + 16 * m))) := by
  obtain ⟨n, z, e1, e2, e4, e3⟩ := ad_addr a b m 2 (by omega) hd
  rw [c_up1_13 _ m hm, m_up1_13 _ m hm, e1, bd_s, c_w0_13_1, bd_s, m_st9 a z b _ n (fun q => h0 ((m_eq0 (by omega)).mp q)) e2, bd_s]
  exact rl_some rfl rfl
theorem uu1_13 (a : AS) (b : Nat → Int32) (hd : dpb (fB a) = false) : Un a b (mo_upper (mM a b false) (nI (205 + 16 * 2))) := by
  rw [m_up1_13 _ 2 (by decide), show nI 2 = (2 : Int32) from rfl, un_st a b (-1) hd, bd_s]
  exact un_of rfl (o6_fS a)
theorem uz1_13 (a : AS) (b : Nat → Int32) : Un a b (mo_upper (mM a b false) (nI (205 + 16 * 0))) := by
  rw [m_up1_13 _ 0 (by decide), show nI 0 = (0 : Int32) from rfl, un_st0 a b (-1), bd_s]
  exact un_of rfl (o6_rf a)
theorem ru1_14 (a : AS) (b : Nat → Int32) (m : Nat) (hm : m < 4) (hd : m = 2 → dpb (fB a) = true) : Rl PT b false (tc_executeUpperHalf (mC a) (nI (206 + 16 * m))) (mo_upper (mM a b false) (nI (206 + 16 * m))) := by
  obtain ⟨n, z, e1, e2, e3⟩ := ad_word a b m (by omega) hd
  rw [c_up1_14 _ m hm, m_up1_14 _ m hm, e1, bd_s, c_w0_14_1, bd_s, m_ld4 a z b _ _ (wd2_lt z n) e2, bd_s]
  exact rl_some rfl rfl
theorem uu1_14 (a : AS) (b : Nat → Int32) (hd : dpb (fB a) = false) : Un a b (mo_upper (mM a b false) (nI (206 + 16 * 2))) := by
  rw [m_up1_14 _ 2 (by decide), show nI 2 = (2 : Int32) from rfl, un_ld a b 4 hd, bd_s]
  exact un_of rfl (o6_fS a)
theorem ru1_15 (a : AS) (b : Nat → Int32) (m : Nat) (hm : m < 4) (h0 : ¬ m = 0) (hd : m = 2 → dpb (fB a) = true) : Rl PT b false (tc_executeUpperHalf (mC a) (nI (207 + 16 * m))) (mo_upper (mM a b false) (nI (207 + 16 * m))) := by
  obtain ⟨n, z, e1, e2, e4, e3⟩ := ad_addr a b m 2 (by omega) hd
  rw [c_up1_15 _ m hm, m_up1_15 _ m hm, e1, bd_s, c_w0_15_1, bd_s, m_st4 a z b _ n (fun q => h0 ((m_eq0 (by omega)).mp q)) e2, bd_s]
  exact rl_some rfl rfl
theorem uu1_15 (a : AS) (b : Nat → Int32) (hd : dpb (fB a) = false) : Un a b (mo_upper (mM a b false) (nI (207 + 16 * 2))) := by
  rw [m_up1_15 _ 2 (by decide), show nI 2 = (2 : Int32) from rfl, un_st a b 4 hd, bd_s]
  exact un_of rfl (o6_fS a)
theorem uz1_15 (a : AS) (b : Nat → Int32) : Un a b (mo_upper (mM a b false) (nI (207 + 16 * 0))) := by
  rw [m_up1_15 _ 0 (by decide), show nI 0 = (0 : Int32) from rfl, un_st0 a b 4, bd_s]
  exact un_of rfl (o6_rf a)
