theorem inc_nI (k : Nat) : nI k + Int32.ofInt 1 = nI (k + 1) := by
  rw [ci_1]
  exact nI_add k 1
theorem q9 : ∀ k, k < 9 → ¬ (9 : Int32) ≤ nI k ∧ okI (nI k) 9 = true ∧ (nI k).toNatClampNeg = k := by decide +kernel
theorem bef_step (a : AS) (b : Nat → Int32) (u : Bool) (fu k : Nat) (hk : k < 9) : mo_instruct_2 (fu + 1) (mM a b u) (nI k) = mo_instruct_2 fu (mM a (upd b k (wr k (gR a k))) u) (nI (k + 1)) := by
  obtain ⟨g1, g2, g3⟩ := q9 k hk
  rw [mo_instruct_2, if_neg g1, g2, gd_t, nm_d, gd_t, ns_d, g3, inc_nI]
  rfl
theorem bef_all (a : AS) (u : Bool) : ∀ (n k : Nat) (b : Nat → Int32), k + n = 9 → (∀ j, j < k → b j = wr j (gR a j)) → ∃ b2 : Nat → Int32, (∀ j, j < 9 → b2 j = wr j (gR a j)) ∧ mo_instruct_2 (n + 2) (mM a b u) (nI k) = mo_instruct_2 2 (mM a b2 u) (nI 9) := by
  intro n
  induction n with
  | zero => intro k b h hb; exact ⟨b, fun j hj => hb j (by omega), by rw [show k = 9 by omega]⟩
  | succ n ih =>
    intro k b h hb
    obtain ⟨b2, e1, e2⟩ := ih (k + 1) (upd b k (wr k (gR a k))) (by omega) (fun j hj => by
      by_cases q : j = k
      · subst q; exact pk_us
      · rw [pk_un q]; exact hb j (by omega))
    exact ⟨b2, e1, (bef_step a b u (n + 2) k (by omega)).trans e2⟩
/-- z differs from a in registers alone, and in none above 8 -/
def Nr (a z : AS) (k : Nat) : Prop := (∀ j, (j < k ∨ 9 ≤ j) → wr j (gR z j) = wr j (gR a j)) ∧ gM z = gM a ∧ gL z = gL a ∧ gA z = gA a ∧ gD z = gD a ∧ gW z = gW a
theorem nr_rf (a : AS) (k : Nat) : Nr a a k := ⟨fun _ _ => rfl, rfl, rfl, rfl, rfl, rfl⟩
theorem nr_6 {a z : AS} (v : Nat) (h : Nr a z 0) : Nr a (sR z 6 v) 0 := by
  refine ⟨fun j hj => ?_, h.2⟩
  rw [gR_sR, if_neg (by omega)]
  exact h.1 j hj
theorem nr_o6 {a y z : AS} (h : Nr a y 0) (o : o6 y z) : Nr a z 0 := by
  rcases o with o | ⟨v, o⟩
  · subst o; exact h
  · subst o; exact nr_6 v h
theorem nr_end {a z : AS} (h : Nr a z 9) (b : Nat → Int32) (u : Bool) : mM z b u = mM a b u := by
  obtain ⟨h1, h2, h3, h4, h5, h6⟩ := h
  have e : (fun k => wr k (gR z k)) = fun k => wr k (gR a k) := funext fun j => h1 j (by omega)
  unfold mM
  rw [h2, h3, h4, h5, h6, e]
theorem nr_set {a z : AS} {k : Nat} (h : Nr a z k) : Nr a (sR z k (gR a k)) (k + 1) := by
  refine ⟨fun j hj => ?_, h.2⟩
  rw [gR_sR]
  by_cases q : j = k
  · rw [if_pos q, q, wr_mod]
  · rw [if_neg q]
    exact h.1 j (by omega)
theorem m_166u (z : AS) (b : Nat → Int32) : mo_instruct_166 (mM z b true) = some (0, mM z b true) := by
  unfold mo_instruct_166
  rw [mx_und_e, if_neg (by decide)]
  rfl
theorem res_step (a z : AS) (b : Nat → Int32) (fu k : Nat) (hk : k < 9) (hb : b k = wr k (gR a k)) : mo_instruct_135 (fu + 1) (mM z b true) (nI k) = mo_instruct_135 fu (mM (sR z k (gR a k)) b true) (nI (k + 1)) := by
  obtain ⟨g1, g2, g3⟩ := q9 k hk
  rw [mo_instruct_135, if_neg g1, mx_und_e, if_neg (by decide), g2, gd_t, nm_d, gd_t, ns_d, g3, inc_nI, mx_bef_e, hb, my_reg_e]
theorem res_all (a : AS) (b : Nat → Int32) (hb : ∀ j, j < 9 → b j = wr j (gR a j)) : ∀ (n k : Nat) (z : AS), k + n = 9 → Nr a z k → mo_instruct_135 (n + 2) (mM z b true) (nI k) = some (0, mM a b true) := by
  intro n
  induction n with
  | zero =>
    intro k z h hz
    rw [show k = 9 by omega] at hz ⊢
    rw [mo_instruct_135, if_pos (by decide), m_166u, nr_end hz]
  | succ n ih =>
    intro k z h hz
    rw [res_step a z b (n + 2) k (by omega) (hb k (by omega))]
    exact ih (k + 1) _ (by omega) (nr_set hz)
theorem m_133u (a z : AS) (b : Nat → Int32) (hb : ∀ j, j < 9 → b j = wr j (gR a j)) (hz : Nr a z 0) : mo_instruct_133 (mM z b true) = some (0, mM a b true) := res_all a b hb 9 0 z rfl hz
theorem m_133d (z : AS) (b : Nat → Int32) : mo_instruct_133 (mM z b false) = some (1, mM z b false) := by
  show mo_instruct_135 (10 + 1) (mM z b false) 0 = _
  rw [mo_instruct_135, if_neg (by decide), mx_und_e, if_pos (show bI false = 0 from rfl)]
  unfold mo_instruct_166
  rw [mx_und_e, if_pos (show bI false = 0 from rfl)]
  rfl
/-- the end of one instruction, both sides -/
def Ins (a : AS) (b2 : Nat → Int32) (c : Nat) (y : AS) (m : Option (Int32 × MS)) : Prop := (dfd c (fB y) = true ∧ ∃ (r : Int32) (z : AS), EX (mC y) (nI c) = some (r, mC z) ∧ m = some (1, mM z b2 false)) ∨ (dfd c (fB y) = false ∧ m = some (0, mM a b2 true))
theorem ins_of {a y : AS} {b2 : Nat → Int32} {c : Nat} {m : Option (Int32 × MS)} (hb : ∀ j, j < 9 → b2 j = wr j (gR a j)) (hy : Nr a y 0) (h : Bo y b2 c (EX (mC y) (nI c)) m) : Ins a b2 c y (bd m fun _ s => mo_instruct_133 s) := by
  cases hd : dfd c (fB y) with
  | true =>
    obtain ⟨r, r2, z, e1, e2⟩ := h.1 hd
    refine Or.inl ⟨hd, r, z, e1, ?_⟩
    rw [e2, bd_s, m_133d]
  | false =>
    obtain ⟨r, z, e, ho⟩ := h.2 hd
    refine Or.inr ⟨hd, ?_⟩
    rw [e, bd_s, m_133u a z b2 hb (nr_o6 hy ho)]
theorem md_133 (s : MS) (v : Int32) : (if v < (128 : Int32) then (if v < (16 : Int32) then (mo_instruct_97 s v) else (if v < (64 : Int32) then (bd (mo_in s v (32 : Int32) (47 : Int32)) fun v2 s3 => if v2 = 0 then (bd (mo_middle s3 v) fun _ s4 => mo_instruct_133 s4) else (bd (mo_branch s3 (v &&& (15 : Int32)) (0 : Int32)) fun _ s5 => mo_instruct_133 s5)) else (mo_instruct_97 s v))) else (bd (mo_upper s v) fun _ s6 => mo_instruct_133 s6)) = bd (MD s v) fun _ s => mo_instruct_133 s := by
  unfold MD mo_instruct_97
  rw [m_in, bd_s, bd_s]
  by_cases h1 : v < (128 : Int32)
  · rw [if_pos h1, if_pos h1]
    by_cases h2 : v < (16 : Int32)
    · rw [if_pos h2, if_pos h2]
    · rw [if_neg h2, if_neg h2]
      by_cases h3 : v < (64 : Int32)
      · rw [if_pos h3, if_pos h3]
        cases decide ((32 : Int32) ≤ v ∧ v ≤ 47) with
        | true => rw [if_neg (show ¬ bI true = 0 by decide), if_neg (show ¬ bI true = 0 by decide)]
        | false => rw [if_pos (show bI false = 0 from rfl), if_pos (show bI false = 0 from rfl)]
      · rw [if_neg h3, if_neg h3]
  · rw [if_neg h1, if_neg h1]
theorem c16 : ∀ c, c < 256 → (nI c = (16 : Int32) ↔ c = 16) ∧ (nI c = (17 : Int32) ↔ c = 17) ∧ (256 : Int32) ||| nI c = nI (256 + c) ∧ (512 : Int32) ||| nI c = nI (512 + c) := by decide +kernel
theorem instr (a : AS) (b : Nat → Int32) (u : Bool) : ∃ (c : Nat) (y : AS) (b2 : Nat → Int32), c < 768 ∧ Nr a y 0 ∧ (∃ v, y = sR a 6 v) ∧ tc_fetchCode (mC a) = some (nI c, mC y) ∧ Ins a b2 c y (mo_instruct (mM a b u)) := by
  obtain ⟨b2, hb, e0⟩ := bef_all a u 9 0 b rfl (fun j hj => absurd hj (by omega))
  have em : mo_instruct (mM a b u) = mo_instruct_2 2 (mM a b2 u) (nI 9) := e0
  have e1 : mo_instruct (mM a b u) = if nI (fB a) = (16 : Int32) then (bd (mo_next (mM (fS a) b2 false)) fun v4 s9 => bd (mo_behindTen s9 v4) fun _ s10 => mo_instruct_133 s10) else if nI (fB a) = (17 : Int32) then (bd (mo_next (mM (fS a) b2 false)) fun v3 s7 => bd (mo_behindEleven s7 v3) fun _ s8 => mo_instruct_133 s8) else bd (MD (mM (fS a) b2 false) (nI (fB a))) fun _ s => mo_instruct_133 s := by
    rw [em, mo_instruct_2, if_pos (by decide), ns_d]
    show bd (mo_next (mM a b2 false)) _ = _
    rw [m_next, bd_s, md_133]
  have hn1 : Nr a (fS a) 0 := nr_6 _ (nr_rf a 0)
  have hn2 : Nr a (fS (fS a)) 0 := nr_6 _ hn1
  obtain ⟨q1, q2, q3, q4⟩ := c16 (fB a) (fB_lt a)
  obtain ⟨p1, p2, p3, p4⟩ := c16 (fB (fS a)) (fB_lt _)
  have hf : fB (fS a) < 256 := fB_lt _
  have hg : fB a < 256 := fB_lt _
  have h2 : ∃ v, fS (fS a) = sR a 6 v := ⟨_, fS_fS a⟩
  by_cases h16 : fB a = 16
  · refine ⟨256 + fB (fS a), fS (fS a), b2, by omega, hn2, h2, ?_, ?_⟩
    · unfold tc_fetchCode
      rw [c_fetchByte, bd_s, if_pos (q1.mpr h16), c_fetchByte, bd_s, p3]
    · rw [e1, if_pos (q1.mpr h16), m_next, bd_s]
      exact ins_of hb hn2 (bo_b1 _ b2 _ hf)
  · by_cases h17 : fB a = 17
    · refine ⟨512 + fB (fS a), fS (fS a), b2, by omega, hn2, h2, ?_, ?_⟩
      · unfold tc_fetchCode
        rw [c_fetchByte, bd_s, if_neg (fun z => h16 (q1.mp z)), if_pos (q2.mpr h17), c_fetchByte, bd_s, p4]
      · rw [e1, if_neg (fun z => h16 (q1.mp z)), if_pos (q2.mpr h17), m_next, bd_s]
        exact ins_of hb hn2 (bo_b2 _ b2 _ hf)
    · refine ⟨fB a, fS a, b2, by omega, hn1, ⟨_, rfl⟩, ?_, ?_⟩
      · unfold tc_fetchCode
        rw [c_fetchByte, bd_s, if_neg (fun z => h16 (q1.mp z)), if_neg (fun z => h17 (q2.mp z))]
      · rw [e1, if_neg (fun z => h16 (q1.mp z)), if_neg (fun z => h17 (q2.mp z))]
        exact ins_of hb hn1 (bo_b0 _ b2 _ hg h16 h17)
theorem mC_back (a : AS) (v : Nat) : mC (sR (sR a 6 v) 6 (gR a 6 % 65536)) = mC a := by
  rw [sR_sR]
  unfold mC
  have e : (fun k => wr k (gR (sR a 6 (gR a 6 % 65536)) k)) = fun k => wr k (gR a k) := by
    funext j
    rw [gR_sR]
    by_cases q : j = 6
    · rw [if_pos q, q, wr_mod]; exact wr_mod 6 _
    · rw [if_neg q]
  rw [e]
  rfl
