/-- the same answer, the same state -/
def Eqv (x : Option (Int32 × CS)) (y : Option (Int32 × MS)) : Prop := ∃ (r : Int32) (a : AS) (b : Nat → Int32) (u : Bool), x = some (r, mC a) ∧ y = some (r, mM a b u)
def Eq0 (b : Nat → Int32) (u : Bool) (x : Option (Int32 × CS)) (y : Option (Int32 × MS)) : Prop := ∃ z : AS, x = some (0, mC z) ∧ y = some (0, mM z b u)
theorem or16 : ∀ c, c < 256 → (nI c ||| (16 : Int32)) ||| (0 : Int32) = nI ((c % 256 ||| 16) % 256) := by decide +kernel
theorem c_sv0 (s : CS) : tc_serve_52 s 0 = bd (re_turn s 80 1) fun _ s1 => bd (me_wordAt s1 (nI 65532)) fun v1 s2 => bd (re_set s2 6 v1) fun _ s3 => some ((0 : Int32), cy_wai s3 0) := rfl
theorem m_sv_0 (s : MS) : mo_interrupt_52 s 0 = bd (mo_readWord (my_reg s (upd (mx_reg s) 8 ((mx_reg s 8 ||| (16 : Int32)) ||| (64 : Int32)))) (nI 65532)) fun v1 s1 => some ((0 : Int32), my_wai (my_reg s1 (upd (mx_reg s1) 6 v1)) 0) := by
  unfold mo_interrupt_52 mo_interrupt_79
  rw [if_neg (by decide), nm_d, show okI (8 : Int32) 9 = true from rfl, gd_t, ns_d, if_pos (by decide)]
  rfl
theorem sv0 (z : AS) (b : Nat → Int32) (u : Bool) : Eq0 b u (tc_serve_52 (mC z) 0) (mo_interrupt_52 (mM z b u) 0) := by
  rw [c_sv0, m_sv_0, c_turn80_1, bd_s, m_reg8, or80 _ (Nat.mod_lt _ (by decide)), Nat.mod_mod (gR z 8) 256, m_set8, c_wordAt, bd_s, c_set6, bd_s, m_readWord, bd_s, m_sv6 _ _ _ _ (hl_lt _ _), cy_wai_e, my_wai_e]
  exact ⟨_, rfl, rfl⟩
theorem c_sv1 (s : CS) : tc_serve_52 s 1 = bd (re_turn s 80 1) fun _ s1 => bd (me_wordAt s1 (nI 65526)) fun v1 s2 => bd (re_set s2 6 v1) fun _ s3 => some ((0 : Int32), cy_wai s3 0) := rfl
theorem m_sv_1 (s : MS) : mo_interrupt_52 s 1 = bd (mo_readWord (my_reg s (upd (mx_reg s) 8 ((mx_reg s 8 ||| (16 : Int32)) ||| (64 : Int32)))) (nI 65526)) fun v1 s1 => some ((0 : Int32), my_wai (my_reg s1 (upd (mx_reg s1) 6 v1)) 0) := by
  unfold mo_interrupt_52 mo_interrupt_79
  rw [if_neg (by decide), nm_d, show okI (8 : Int32) 9 = true from rfl, gd_t, ns_d, if_neg (by decide), if_pos (by decide)]
  rfl
theorem sv1 (z : AS) (b : Nat → Int32) (u : Bool) : Eq0 b u (tc_serve_52 (mC z) 1) (mo_interrupt_52 (mM z b u) 1) := by
  rw [c_sv1, m_sv_1, c_turn80_1, bd_s, m_reg8, or80 _ (Nat.mod_lt _ (by decide)), Nat.mod_mod (gR z 8) 256, m_set8, c_wordAt, bd_s, c_set6, bd_s, m_readWord, bd_s, m_sv6 _ _ _ _ (hl_lt _ _), cy_wai_e, my_wai_e]
  exact ⟨_, rfl, rfl⟩
theorem c_sv2 (s : CS) : tc_serve_52 s 2 = bd (re_turn s 16 1) fun _ s1 => bd (me_wordAt s1 (nI 65528)) fun v1 s2 => bd (re_set s2 6 v1) fun _ s3 => some ((0 : Int32), cy_wai s3 0) := rfl
theorem m_sv_2 (s : MS) : mo_interrupt_52 s 2 = bd (mo_readWord (my_reg s (upd (mx_reg s) 8 ((mx_reg s 8 ||| (16 : Int32)) ||| (0 : Int32)))) (nI 65528)) fun v1 s1 => some ((0 : Int32), my_wai (my_reg s1 (upd (mx_reg s1) 6 v1)) 0) := by
  unfold mo_interrupt_52 mo_interrupt_79
  rw [if_pos (by decide), nm_d, show okI (8 : Int32) 9 = true from rfl, gd_t, ns_d, if_neg (by decide), if_neg (by decide)]
  rfl
theorem sv2 (z : AS) (b : Nat → Int32) (u : Bool) : Eq0 b u (tc_serve_52 (mC z) 2) (mo_interrupt_52 (mM z b u) 2) := by
  rw [c_sv2, m_sv_2, c_turn16_1, bd_s, m_reg8, or16 _ (Nat.mod_lt _ (by decide)), Nat.mod_mod (gR z 8) 256, m_set8, c_wordAt, bd_s, c_set6, bd_s, m_readWord, bd_s, m_sv6 _ _ _ _ (hl_lt _ _), cy_wai_e, my_wai_e]
  exact ⟨_, rfl, rfl⟩
theorem c_srv0 (a : AS) : tc_serve (mC a) 0 = if gW a = (2 : Int32) then tc_serve_52 (mC (sD a false)) 0 else bd (re_turn (mC (sD a false)) 128 1) fun _ s1 => bd (tc_pushRegisters s1 5 255) fun _ s2 => tc_serve_52 s2 0 := rfl
theorem m_srv0 (a : AS) (b : Nat → Int32) (u : Bool) : mo_interrupt (mM a b u) 0 = if gW a = (2 : Int32) then mo_interrupt_52 (mM (sD a false) b u) 0 else bd (mo_pushState (mM (sD a false) b u)) fun _ s2 => mo_interrupt_52 s2 0 := by
  unfold mo_interrupt mo_interrupt_13
  rw [if_pos (by decide), show isB (0 : Int32) = true from rfl, gd_t, ns_d, if_neg (show ¬ (0 : Int32) = 1 by decide)]
  rfl
theorem srv0 (a : AS) (b : Nat → Int32) (u : Bool) : Eq0 b u (tc_serve (mC a) 0) (mo_interrupt (mM a b u) 0) := by
  rw [c_srv0, m_srv0 a b u]
  by_cases hw : gW a = (2 : Int32)
  · rw [if_pos hw, if_pos hw]
    exact sv0 _ b u
  · rw [if_neg hw, if_neg hw]
    unfold mo_pushState
    rw [c_turn128_1, bd_s, m_flag128_1, bd_s]
    obtain ⟨n, z, h1, h2, h3⟩ := pa0_5 (sR (sD a false) 8 (fl (gR (sD a false) 8) 128 true)) b u 255
    rw [show (255 : Int32) = nI 255 from rfl, h1, h2, bd_s, bd_s, bd_s]
    exact sv0 z b u
theorem c_srv1 (a : AS) : tc_serve (mC a) 1 = if gW a = (2 : Int32) then tc_serve_52 (mC (sD a false)) 1 else bd (re_turn (mC (sD a false)) 128 0) fun _ s1 => bd (tc_pushRegisters s1 5 129) fun _ s2 => tc_serve_52 s2 1 := rfl
theorem m_srv1 (a : AS) (b : Nat → Int32) (u : Bool) (h : gD a = false) : mo_interrupt (mM a b u) 1 = if gW a = (2 : Int32) then mo_interrupt_52 (mM (sD a false) b u) 1 else bd (mo_flag (mM (sD a false) b u) 128 0) fun _ s3 => bd (mo_pushAll s3 5 129) fun _ s4 => mo_interrupt_52 s4 1 := by
  unfold mo_interrupt mo_interrupt_13
  rw [if_neg (by decide), mx_due_e, isB_bI, gd_t, ns_d, h, if_pos (show (1 : Int32) = 1 from rfl)]
  rfl
theorem srv1 (a : AS) (b : Nat → Int32) (u : Bool) (h : gD a = false) : Eq0 b u (tc_serve (mC a) 1) (mo_interrupt (mM a b u) 1) := by
  rw [c_srv1, m_srv1 a b u h]
  by_cases hw : gW a = (2 : Int32)
  · rw [if_pos hw, if_pos hw]
    exact sv1 _ b u
  · rw [if_neg hw, if_neg hw]
    rw [c_turn128_0, bd_s, m_flag128_0, bd_s]
    obtain ⟨n, z, h1, h2, h3⟩ := pa0_5 (sR (sD a false) 8 (fl (gR (sD a false) 8) 128 false)) b u 129
    rw [show (129 : Int32) = nI 129 from rfl, h1, h2, bd_s, bd_s]
    exact sv1 z b u
theorem c_srv2 (a : AS) : tc_serve (mC a) 2 = if gW a = (2 : Int32) then tc_serve_52 (mC (sD a false)) 2 else bd (re_turn (mC (sD a false)) 128 1) fun _ s1 => bd (tc_pushRegisters s1 5 255) fun _ s2 => tc_serve_52 s2 2 := rfl
theorem m_srv2 (a : AS) (b : Nat → Int32) (u : Bool) (h : gD a = false) : mo_interrupt (mM a b u) 2 = if gW a = (2 : Int32) then mo_interrupt_52 (mM (sD a false) b u) 2 else bd (mo_pushState (mM (sD a false) b u)) fun _ s2 => mo_interrupt_52 s2 2 := by
  unfold mo_interrupt mo_interrupt_13
  rw [if_neg (by decide), mx_due_e, isB_bI, gd_t, ns_d, h, if_neg (show ¬ (2 : Int32) = 1 by decide)]
  rfl
theorem srv2 (a : AS) (b : Nat → Int32) (u : Bool) (h : gD a = false) : Eq0 b u (tc_serve (mC a) 2) (mo_interrupt (mM a b u) 2) := by
  rw [c_srv2, m_srv2 a b u h]
  by_cases hw : gW a = (2 : Int32)
  · rw [if_pos hw, if_pos hw]
    exact sv2 _ b u
  · rw [if_neg hw, if_neg hw]
    unfold mo_pushState
    rw [c_turn128_1, bd_s, m_flag128_1, bd_s]
    obtain ⟨n, z, h1, h2, h3⟩ := pa0_5 (sR (sD a false) 8 (fl (gR (sD a false) 8) 128 true)) b u 255
    rw [show (255 : Int32) = nI 255 from rfl, h1, h2, bd_s, bd_s, bd_s]
    exact sv2 z b u
def Lts (a : AS) (b : Nat → Int32) (u : Bool) (L : Int32) : Prop := tc_lineToServe (mC a) = some (L, mC a) ∧ mo_step (mM a b u) = mo_step_58 (mM a b u) L
theorem lts33 (a : AS) (b : Nat → Int32) (u : Bool) : (tc_lineToServe_33 (mC a) = some (2, mC a) ∧ mo_step_34 (mM a b u) = mo_step_58 (mM a b u) 2) ∨ (tc_lineToServe_33 (mC a) = some (-1, mC a) ∧ mo_step_34 (mM a b u) = mo_step_58 (mM a b u) (-1)) := by
  unfold tc_lineToServe_33 mo_step_34
  rw [cx_lev_e, mx_lev_e, c_has16, bd_s, m_is16, bd_s]
  by_cases h : bI (gL a 2) = (1 : Int32)
  · rw [if_pos h, if_pos h]
    by_cases g : bI (decide (¬ (gR a 8 % 256) &&& 16 = 0)) = 0
    · rw [if_pos g, if_pos g]
      exact Or.inl ⟨rfl, rfl⟩
    · rw [if_neg g, if_neg g]
      exact Or.inr ⟨rfl, rfl⟩
  · rw [if_neg h, if_neg h]
    exact Or.inr ⟨rfl, rfl⟩
theorem lts (a : AS) (b : Nat → Int32) (u : Bool) : Lts a b u 0 ∨ (gD a = false ∧ Lts a b u 1) ∨ (gD a = false ∧ Lts a b u 2) ∨ Lts a b u (-1) := by
  unfold Lts tc_lineToServe mo_step
  rw [cx_due_e, mx_due_e, cx_lev_e, mx_lev_e, c_has64, bd_s, m_is64, bd_s]
  cases hd : gD a with
  | true =>
    rw [if_neg (show ¬ bI true = 0 by decide), if_neg (show ¬ bI true = 0 by decide)]
    exact Or.inl ⟨rfl, rfl⟩
  | false =>
    rw [if_pos (show bI false = 0 from rfl), if_pos (show bI false = 0 from rfl)]
    refine Or.inr ?_
    have k := lts33 a b u
    by_cases h : bI (gL a 1) = (1 : Int32)
    · rw [if_pos h, if_pos h]
      by_cases g : bI (decide (¬ (gR a 8 % 256) &&& 64 = 0)) = 0
      · rw [if_pos g, if_pos g]
        exact Or.inl ⟨rfl, rfl, rfl⟩
      · rw [if_neg g, if_neg g]
        exact Or.inr (k.elim (fun q => Or.inl ⟨rfl, q⟩) Or.inr)
    · rw [if_neg h, if_neg h]
      exact Or.inr (k.elim (fun q => Or.inl ⟨rfl, q⟩) Or.inr)
theorem eqv_0 {b : Nat → Int32} {u : Bool} {x : Option (Int32 × CS)} {y : Option (Int32 × MS)} (h : Eq0 b u x y) : Eqv (bd x fun _ s => some ((0 : Int32), s)) (bd y fun _ s => some ((0 : Int32), s)) := by
  obtain ⟨z, e1, e2⟩ := h
  rw [e1, e2]
  exact ⟨0, z, b, u, rfl, rfl⟩
theorem c_stepS (a : AS) (L : Int32) (hL : ¬ L = (-1 : Int32)) (h : tc_lineToServe (mC a) = some (L, mC a)) : tc_step (mC a) = bd (tc_serve (mC a) L) fun _ s => some ((0 : Int32), s) := by
  unfold tc_step
  rw [h, bd_s, if_neg hL]
theorem m_stepS (a : AS) (b : Nat → Int32) (u : Bool) (L : Int32) (hL : ¬ L < 0) (h : mo_step (mM a b u) = mo_step_58 (mM a b u) L) : mo_step (mM a b u) = bd (mo_interrupt (mM a b u) L) fun _ s => some ((0 : Int32), s) := by
  rw [h]
  unfold mo_step_58
  rw [if_neg hL]
theorem ex_87 (s : CS) (c : Int32) : (if (c &&& (128 : Int32)) = 0 then (bd (tc_executeLowerHalf s c) fun _ s8 => tc_step_87 s8) else (bd (tc_executeUpperHalf s c) fun _ s7 => tc_step_87 s7)) = bd (EX s c) fun _ s8 => some ((0 : Int32), s8) := by
  unfold EX
  by_cases h : (c &&& (128 : Int32)) = 0
  · rw [if_pos h, if_pos h]; rfl
  · rw [if_neg h, if_neg h]; rfl
/-- no line is served, nothing waits -/
theorem st_go (a : AS) (b : Nat → Int32) (u : Bool) : Eqv (ns (cy_wai (mC a) (0 : Int32)) fun s3 => bd (re_get s3 (6 : Int32)) fun v3 s4 => bd (tc_fetchCode s4) fun v4 s5 => bd (tc_isDefined s5 v4) fun v5 s6 => if v5 = 0 then (bd (re_set s6 (6 : Int32) v3) fun _ s9 => some ((2 : Int32), s9)) else (if (v4 &&& (128 : Int32)) = 0 then (bd (tc_executeLowerHalf s6 v4) fun _ s8 => tc_step_87 s8) else (bd (tc_executeUpperHalf s6 v4) fun _ s7 => tc_step_87 s7))) (mo_step_106 (mM a b u)) := by
  unfold mo_step_106
  rw [ns_d, ns_d, cy_wai_e, my_wai_e, c_get6, bd_s]
  generalize sW a 0 = a
  obtain ⟨c, y, b2, hc, hn, ⟨v, hv⟩, hf, hi⟩ := instr a b u
  rw [hf, bd_s, c_isDef y c hc, bd_s, ex_87]
  rcases hi with ⟨hd, r, z, e1, e2⟩ | ⟨hd, e2⟩
  · rw [hd, if_neg (show ¬ bI true = 0 by decide), e1, e2, bd_s, bd_s, if_neg (by decide)]
    exact ⟨0, z, b2, false, rfl, rfl⟩
  · rw [hd, if_pos (show bI false = 0 from rfl), e2, bd_s, if_pos (by decide), c_set6, bd_s, hv, mC_back]
    exact ⟨2, a, b2, true, rfl, rfl⟩
theorem st_wait (a : AS) (b : Nat → Int32) (u : Bool) : ∃ s : Bool, tc_staysWaiting (mC a) = some (bI s, mC a) ∧ mo_step_58 (mM a b u) (-1) = if s = true then some (1, mM a b u) else mo_step_106 (mM a b u) := by
  unfold tc_staysWaiting mo_step_58
  rw [if_pos (show (-1 : Int32) < 0 by decide), cx_wai_e, mx_wai_e, cx_lev_e, cx_lev_e, mx_lev_e, mx_lev_e]
  by_cases h1 : gW a = (1 : Int32)
  · have h2 : ¬ gW a = (2 : Int32) := by rw [h1]; decide
    rw [if_pos h1, if_neg h2, if_pos h1]
    by_cases g1 : bI (gL a 1) = 0
    · rw [if_pos g1, if_pos g1]
      by_cases g2 : bI (gL a 2) = 0
      · rw [if_pos g2, if_pos g2]
        exact ⟨true, rfl, rfl⟩
      · rw [if_neg g2, if_neg g2]
        exact ⟨false, rfl, rfl⟩
    · rw [if_neg g1, if_neg g1]
      exact ⟨false, rfl, rfl⟩
  · rw [if_neg h1, if_neg h1]
    by_cases h2 : gW a = (2 : Int32)
    · rw [if_pos h2, if_pos h2]
      exact ⟨true, rfl, rfl⟩
    · rw [if_neg h2, if_neg h2]
      exact ⟨false, rfl, rfl⟩
theorem ev_step (a : AS) (b : Nat → Int32) (u : Bool) : Eqv (tc_step (mC a)) (mo_step (mM a b u)) := by
  rcases lts a b u with ⟨h1, h2⟩ | ⟨hd, h1, h2⟩ | ⟨hd, h1, h2⟩ | ⟨h1, h2⟩
  · rw [c_stepS a 0 (by decide) h1, m_stepS a b u 0 (by decide) h2]
    exact eqv_0 (srv0 a b u)
  · rw [c_stepS a 1 (by decide) h1, m_stepS a b u 1 (by decide) h2]
    exact eqv_0 (srv1 a b u hd)
  · rw [c_stepS a 2 (by decide) h1, m_stepS a b u 2 (by decide) h2]
    exact eqv_0 (srv2 a b u hd)
  · obtain ⟨s, e1, e2⟩ := st_wait a b u
    rw [h2, e2]
    unfold tc_step
    rw [h1, bd_s, if_pos rfl, e1, bd_s]
    cases s with
    | true =>
      rw [if_neg (show ¬ bI true = 0 by decide), if_pos rfl]
      exact ⟨1, a, b, u, rfl, rfl⟩
    | false =>
      rw [if_pos (show bI false = 0 from rfl), if_neg (by decide)]
      exact st_go a b u
theorem ev_loop (N : Nat) (hN : N ≤ 50) : ∀ (fu k : Nat) (a : AS) (b : Nat → Int32) (u : Bool), k ≤ N → N + 2 ≤ k + fu → Eqv (tc_run_15 fu (mC a) (nI N) (nI (k + 1))) (mo_run_16 fu (mM a b u) (nI N) (nI k) 0) := by
  intro fu
  induction fu with
  | zero => intro k a b u h1 h2; omega
  | succ fu ih =>
    intro k a b u h1 h2
    rw [tc_run_15, mo_run_16]
    by_cases hk : N ≤ k
    · rw [if_pos ((nI_ltI (by omega) (by omega)).mpr (by omega)), if_pos ((nI_leI (by omega) (by omega)).mpr hk), show k = N by omega]
      exact ⟨nI N, a, b, u, rfl, rfl⟩
    · rw [if_neg (fun z => absurd ((nI_ltI (by omega) (by omega)).mp z) (by omega)), if_neg (fun z => hk ((nI_leI (by omega) (by omega)).mp z)), if_pos rfl]
      obtain ⟨r, z, b2, u2, e1, e2⟩ := ev_step a b u
      rw [e1, e2, bd_s, bd_s, nm_d, inc_nI, nI_1]
      by_cases hr : r = 0
      · rw [if_pos hr, hr]
        exact ih (k + 1) z b2 u2 (by omega) (by omega)
      · rw [if_neg hr]
        obtain ⟨f2, hf⟩ : ∃ f2, fu = f2 + 1 := ⟨fu - 1, by omega⟩
        rw [hf, mo_run_16]
        refine ⟨nI (k + 1), z, b2, u2, rfl, ?_⟩
        by_cases hq : nI N ≤ nI (k + 1)
        · rw [if_pos hq]; rfl
        · rw [if_neg hq, if_neg hr]; rfl
theorem ev_run (a : AS) (b : Nat → Int32) (u : Bool) (n : Int32) : Eqv (tc_run (mC a) n) (mo_run (mM a b u) n) := by
  unfold tc_run mo_run
  rw [m_in, bd_s]
  by_cases h1 : n < (1 : Int32)
  · rw [if_pos h1, decide_eq_false (fun z => absurd h1 (Int32.not_lt.mpr z.1)), if_pos (show bI false = 0 from rfl)]
    exact ⟨-1, a, b, u, rfl, rfl⟩
  · rw [if_neg h1]
    by_cases h2 : n ≤ (50 : Int32)
    · rw [if_pos h2, decide_eq_true ⟨Int32.not_lt.mp h1, h2⟩, if_neg (show ¬ bI true = 0 by decide)]
      obtain ⟨N, hN, e⟩ := nI_of2 (x := n) (M := 50) (n := 50) (by decide) (fun z => h1 (Int32.lt_trans z (by decide))) h2
      rw [e]
      exact ev_loop N hN 52 0 a b u (by omega) (by omega)
    · rw [if_neg h2, decide_eq_false (fun z => h2 z.2), if_pos (show bI false = 0 from rfl)]
      exact ⟨-1, a, b, u, rfl, rfl⟩
