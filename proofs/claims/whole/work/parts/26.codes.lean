def EX (s : CS) (c : Int32) : Option (Int32 × CS) := if c &&& (128 : Int32) = 0 then tc_executeLowerHalf s c else tc_executeUpperHalf s c
def MD (s : MS) (v : Int32) : Option (Int32 × MS) := if v < (128 : Int32) then (if v < (16 : Int32) then mo_oneByte s v else if v < (64 : Int32) then (bd (mo_in s v 32 47) fun v2 s3 => if v2 = 0 then mo_middle s3 v else mo_branch s3 (v &&& (15 : Int32)) 0) else mo_oneByte s v) else mo_upper s v
theorem dfd_0 {c q : Nat} (h1 : dtab c = false) : dfd c q = false := by unfold dfd; rw [h1]; rfl
theorem dfd_1 {c q : Nat} (h1 : dtab c = true) (h2 : ixd c = false) (h3 : ¬ (c = 30 ∨ c = 31)) : dfd c q = true := by unfold dfd; rw [h1, h2, if_neg (by decide), if_neg h3]; rfl
theorem dfd_x {c q : Nat} (h1 : dtab c = true) (h2 : ixd c = true) : dfd c q = dpb q := by unfold dfd; rw [h1, h2, if_pos rfl]; rfl
theorem dfd_p {c q : Nat} (h1 : dtab c = true) (h2 : ixd c = false) (h3 : c = 30 ∨ c = 31) : dfd c q = dpr q := by unfold dfd; rw [h1, h2, if_neg (by decide), if_pos h3]; rfl
theorem bo_d {a : AS} {b : Nat → Int32} {c : Nat} {x : Option (Int32 × CS)} {y : Option (Int32 × MS)} (h : dfd c (fB a) = true) (r : Rs b x y) : Bo a b c x y := ⟨fun _ => r, fun q => Bool.noConfusion (h.symm.trans q)⟩
theorem bo_u {a : AS} {b : Nat → Int32} {c : Nat} {x : Option (Int32 × CS)} {y : Option (Int32 × MS)} (h : dfd c (fB a) = false) (r : Un a b y) : Bo a b c x y := ⟨fun q => Bool.noConfusion (h.symm.trans q), fun _ => r⟩
-- behind 10
theorem q10 : ∀ x, x < 16 → 1 ≤ x → dtab (288 + x) = true ∧ ixd (288 + x) = false ∧ ¬ (288 + x = 30 ∨ 288 + x = 31) ∧ nI (288 + x) &&& (128 : Int32) = 0 ∧ decide ((33 : Int32) ≤ nI (32 + x) ∧ nI (32 + x) ≤ (47 : Int32)) = true ∧ nI (32 + x) &&& (15 : Int32) = nI x := by decide +kernel
theorem bo10_br (a : AS) (b : Nat → Int32) (x : Nat) (hx : x < 16) (h1 : 1 ≤ x) : Bo a b (288 + x) (EX (mC a) (nI (288 + x))) (mo_behindTen (mM a b false) (nI (32 + x))) := by
  obtain ⟨g1, g2, g3, g4, g5, g6⟩ := q10 x hx h1
  refine bo_d (dfd_1 g1 g2 g3) ?_
  unfold EX mo_behindTen
  rw [if_pos g4, nm_d, nm_d, g6, m_in, bd_s, g5, if_neg (by decide)]
  exact rs_m (rs_row2b a b x hx)
theorem q1_63 : nI 319 >>> ((8 : Int32) &&& 31) = 1 ∧ (nI 319 >>> ((4 : Int32) &&& 31)) &&& (7 : Int32) = 3 ∧ nI 319 &&& (15 : Int32) = 15 ∧ nI 319 &&& (128 : Int32) = 0 ∧ dtab 319 = true ∧ ixd 319 = false := by decide +kernel
theorem sw_3_1 (s : CS) (X : Int32) (d : Option (Int32 × CS)) : swi (3 : Int32) [((1 : Int32), 52, bd (tc_executeRowOne s X) fun _ s1 => tc_executeLowerHalf_174 s1), ((2 : Int32), 61, if (1 : Int32) = 0 then (bd (tc_fetchByte s) fun v5 s3 => tc_executeLowerHalf_80 s3 (v5.toInt8.toInt32) X) else (bd (tc_fetchWord s) fun v4 s2 => tc_executeLowerHalf_80 s2 v4 X)), ((3 : Int32), 86, bd (tc_executeRowThree s 1 X) fun _ s4 => tc_executeLowerHalf_174 s4), ((4 : Int32), 96, bd (re_get s (0 : Int32)) fun v6 s5 => bd (ar_alter s5 X v6) fun v7 s6 => bd (re_set s6 (0 : Int32) v7) fun _ s7 => tc_executeLowerHalf_174 s7), ((5 : Int32), 124, bd (re_get s (1 : Int32)) fun v8 s8 => bd (ar_alter s8 X v8) fun v9 s9 => bd (re_set s9 (1 : Int32) v9) fun _ s10 => tc_executeLowerHalf_174 s10)] d = bd (tc_executeRowThree s 1 X) fun _ s1 => some ((0 : Int32), s1) := rfl
theorem rx63_1 (s : CS) : tc_executeRowThree s 1 15 = bd (tc_softwareInterrupt s 1) fun _ s9 => some ((0 : Int32), s9) := rfl
theorem bo1_63 (a : AS) (b : Nat → Int32) : Bo a b 319 (EX (mC a) (nI 319)) (mo_behindTen (mM a b false) (nI 63)) := by
  obtain ⟨f1, f2, f3, f4, f5, f6⟩ := q1_63
  refine bo_d (dfd_1 f5 f6 (by decide)) ?_
  unfold EX tc_executeLowerHalf mo_behindTen
  rw [if_pos f4, nm_d, nm_d, nm_d, f1, f2, f3, sw_3_1, rx63_1, nm_d, nm_d]
  rw [m_in, bd_s, show decide ((33 : Int32) ≤ nI 63 ∧ nI 63 ≤ (47 : Int32)) = false by decide +kernel, if_pos (show bI false = 0 from rfl), if_pos (show nI 63 = (63 : Int32) from rfl)]
  exact rs_c (rs_m (rs_c (rs_of (rl_swi1 a b))))
theorem q2_63 : nI 575 >>> ((8 : Int32) &&& 31) = 2 ∧ (nI 575 >>> ((4 : Int32) &&& 31)) &&& (7 : Int32) = 3 ∧ nI 575 &&& (15 : Int32) = 15 ∧ nI 575 &&& (128 : Int32) = 0 ∧ dtab 575 = true ∧ ixd 575 = false := by decide +kernel
theorem sw_3_2 (s : CS) (X : Int32) (d : Option (Int32 × CS)) : swi (3 : Int32) [((1 : Int32), 52, bd (tc_executeRowOne s X) fun _ s1 => tc_executeLowerHalf_174 s1), ((2 : Int32), 61, if (2 : Int32) = 0 then (bd (tc_fetchByte s) fun v5 s3 => tc_executeLowerHalf_80 s3 (v5.toInt8.toInt32) X) else (bd (tc_fetchWord s) fun v4 s2 => tc_executeLowerHalf_80 s2 v4 X)), ((3 : Int32), 86, bd (tc_executeRowThree s 2 X) fun _ s4 => tc_executeLowerHalf_174 s4), ((4 : Int32), 96, bd (re_get s (0 : Int32)) fun v6 s5 => bd (ar_alter s5 X v6) fun v7 s6 => bd (re_set s6 (0 : Int32) v7) fun _ s7 => tc_executeLowerHalf_174 s7), ((5 : Int32), 124, bd (re_get s (1 : Int32)) fun v8 s8 => bd (ar_alter s8 X v8) fun v9 s9 => bd (re_set s9 (1 : Int32) v9) fun _ s10 => tc_executeLowerHalf_174 s10)] d = bd (tc_executeRowThree s 2 X) fun _ s1 => some ((0 : Int32), s1) := rfl
theorem rx63_2 (s : CS) : tc_executeRowThree s 2 15 = bd (tc_softwareInterrupt s 2) fun _ s9 => some ((0 : Int32), s9) := rfl
theorem bo2_63 (a : AS) (b : Nat → Int32) : Bo a b 575 (EX (mC a) (nI 575)) (mo_behindEleven (mM a b false) (nI 63)) := by
  obtain ⟨f1, f2, f3, f4, f5, f6⟩ := q2_63
  refine bo_d (dfd_1 f5 f6 (by decide)) ?_
  unfold EX tc_executeLowerHalf mo_behindEleven
  rw [if_pos f4, nm_d, nm_d, nm_d, f1, f2, f3, sw_3_2, rx63_2, nm_d, nm_d]
  rw [if_pos (show nI 63 = (63 : Int32) from rfl)]
  exact rs_c (rs_m (rs_c (rs_of (rl_swi2 a b))))
theorem k1_t : ∀ c, c < 256 → k1 c = true → (33 ≤ c ∧ c ≤ 47) ∨ c = 63 ∨ (128 ≤ c ∧ c ≤ 191 ∧ (c % 16 = 3 ∨ c % 16 = 12 ∨ c % 16 = 14 ∨ c % 16 = 15)) ∨ (192 ≤ c ∧ (c % 16 = 14 ∨ c % 16 = 15)) := by decide +kernel
theorem k2_t : ∀ c, c < 256 → k2 c = true → c = 63 ∨ (128 ≤ c ∧ c ≤ 191 ∧ (c % 16 = 3 ∨ c % 16 = 12)) := by decide +kernel
theorem bo_b1 (a : AS) (b : Nat → Int32) (c : Nat) (hc : c < 256) : Bo a b (256 + c) (EX (mC a) (nI (256 + c))) (mo_behindTen (mM a b false) (nI c)) := by
  by_cases hk : k1 c = true
  · have hm : c / 16 % 4 < 4 := Nat.mod_lt _ (by decide)
    rcases k1_t c hc hk with h | h | ⟨h1, h2, h | h | h | h⟩ | ⟨h1, h | h⟩
    · have e := bo10_br a b (c - 32) (by omega) (by omega)
      rw [show 288 + (c - 32) = 256 + c by omega, show 32 + (c - 32) = c by omega] at e
      exact e
    · subst h
      exact bo1_63 a b
    · have e := bp1_3_0 a b _ hm
      rw [show 387 + 16 * (c / 16 % 4) = 256 + c by omega, show 131 + 16 * (c / 16 % 4) = c by omega] at e
      exact e
    · have e := bp1_12_0 a b _ hm
      rw [show 396 + 16 * (c / 16 % 4) = 256 + c by omega, show 140 + 16 * (c / 16 % 4) = c by omega] at e
      exact e
    · have e := bp1_14_0 a b _ hm
      rw [show 398 + 16 * (c / 16 % 4) = 256 + c by omega, show 142 + 16 * (c / 16 % 4) = c by omega] at e
      exact e
    · have e := bp1_15_0 a b _ hm
      rw [show 399 + 16 * (c / 16 % 4) = 256 + c by omega, show 143 + 16 * (c / 16 % 4) = c by omega] at e
      exact e
    · have e := bp1_14_1 a b _ hm
      rw [show 462 + 16 * (c / 16 % 4) = 256 + c by omega, show 206 + 16 * (c / 16 % 4) = c by omega] at e
      exact e
    · have e := bp1_15_1 a b _ hm
      rw [show 463 + 16 * (c / 16 % 4) = 256 + c by omega, show 207 + 16 * (c / 16 % 4) = c by omega] at e
      exact e
  · have hk0 : k1 c = false := by revert hk; cases k1 c <;> simp
    exact bo_u (dfd_0 (dt10 c hc hk0)) (un10 a b c hc hk0)
theorem bo_b2 (a : AS) (b : Nat → Int32) (c : Nat) (hc : c < 256) : Bo a b (512 + c) (EX (mC a) (nI (512 + c))) (mo_behindEleven (mM a b false) (nI c)) := by
  by_cases hk : k2 c = true
  · have hm : c / 16 % 4 < 4 := Nat.mod_lt _ (by decide)
    rcases k2_t c hc hk with h | ⟨h1, h2, h | h⟩
    · subst h
      exact bo2_63 a b
    · have e := bp2_3_0 a b _ hm
      rw [show 643 + 16 * (c / 16 % 4) = 512 + c by omega, show 131 + 16 * (c / 16 % 4) = c by omega] at e
      exact e
    · have e := bp2_12_0 a b _ hm
      rw [show 652 + 16 * (c / 16 % 4) = 512 + c by omega, show 140 + 16 * (c / 16 % 4) = c by omega] at e
      exact e
  · have hk0 : k2 c = false := by revert hk; cases k2 c <;> simp
    exact bo_u (dfd_0 (dt11 c hc hk0)) (un11 a b c hc hk0)
-- none before it
theorem un_ix6 (a : AS) (b : Nat → Int32) (x : Nat) (hx : x < 16) (h : defA x ∨ x = 14) (hd : dpb (fB a) = false) : Un a b (mo_oneByte (mM a b false) (nI (96 + x))) := by
  rw [m_lo6 a b x hx h]
  unfold mo_oneByte_114
  rw [show nI 2 = (2 : Int32) from rfl, m_addr_un a b false hd, bd_s, mx_und_e, if_neg (show ¬ bI true = 0 by decide)]
  exact un_of rfl (o6_fS a)
theorem qz0 : ∀ x, x < 16 → dtab (0 + x) = decide (¬ (x = 1 ∨ x = 2 ∨ x = 5 ∨ x = 11)) ∧ ixd (0 + x) = false ∧ ¬ (0 + x = 30 ∨ 0 + x = 31) ∧ nI (0 + x) &&& (128 : Int32) = 0 ∧ nI (0 + x) < (128 : Int32) ∧ (nI (0 + x) < (16 : Int32) ↔ True) := by decide +kernel
theorem bz0 (a : AS) (b : Nat → Int32) (x : Nat) (hx : x < 16) : Bo a b (0 + x) (EX (mC a) (nI (0 + x))) (MD (mM a b false) (nI (0 + x))) := by
  obtain ⟨g1, g2, g3, g4, g5, g6⟩ := qz0 x hx
  unfold EX MD
  rw [if_pos g4, if_pos g5, if_pos (g6.mpr trivial)]
  by_cases hu : x = 1 ∨ x = 2 ∨ x = 5 ∨ x = 11
  · exact bo_u (dfd_0 (g1.trans (decide_eq_false (fun z => z hu)))) (un_lo0 a b x hu)
  · have ht : dtab (0 + x) = true := g1.trans (decide_eq_true hu)
    have hdA : defA x ∨ x = 14 := by unfold defA; omega
    exact bo_d (dfd_1 ht g2 g3) (rs_of (rlo0 a b x hx hdA))
theorem qz64 : ∀ x, x < 16 → dtab (64 + x) = decide (¬ (x = 1 ∨ x = 2 ∨ x = 5 ∨ x = 11 ∨ x = 14)) ∧ ixd (64 + x) = false ∧ ¬ (64 + x = 30 ∨ 64 + x = 31) ∧ nI (64 + x) &&& (128 : Int32) = 0 ∧ nI (64 + x) < (128 : Int32) ∧ (nI (64 + x) < (16 : Int32) ↔ False) ∧ ¬ nI (64 + x) < (64 : Int32) := by decide +kernel
theorem bz64 (a : AS) (b : Nat → Int32) (x : Nat) (hx : x < 16) : Bo a b (64 + x) (EX (mC a) (nI (64 + x))) (MD (mM a b false) (nI (64 + x))) := by
  obtain ⟨g1, g2, g3, g4, g5, g6, g7⟩ := qz64 x hx
  unfold EX MD
  rw [if_pos g4, if_pos g5, if_neg (fun z => g6.mp z), if_neg g7]
  by_cases hu : x = 1 ∨ x = 2 ∨ x = 5 ∨ x = 11 ∨ x = 14
  · exact bo_u (dfd_0 (g1.trans (decide_eq_false (fun z => z hu)))) (un_ro4 a b x hu)
  · have ht : dtab (64 + x) = true := g1.trans (decide_eq_true hu)
    have hdA : defA x := by unfold defA; omega
    exact bo_d (dfd_1 ht g2 g3) (rs_of (ro4 a b x hdA))
theorem qz80 : ∀ x, x < 16 → dtab (80 + x) = decide (¬ (x = 1 ∨ x = 2 ∨ x = 5 ∨ x = 11 ∨ x = 14)) ∧ ixd (80 + x) = false ∧ ¬ (80 + x = 30 ∨ 80 + x = 31) ∧ nI (80 + x) &&& (128 : Int32) = 0 ∧ nI (80 + x) < (128 : Int32) ∧ (nI (80 + x) < (16 : Int32) ↔ False) ∧ ¬ nI (80 + x) < (64 : Int32) := by decide +kernel
theorem bz80 (a : AS) (b : Nat → Int32) (x : Nat) (hx : x < 16) : Bo a b (80 + x) (EX (mC a) (nI (80 + x))) (MD (mM a b false) (nI (80 + x))) := by
  obtain ⟨g1, g2, g3, g4, g5, g6, g7⟩ := qz80 x hx
  unfold EX MD
  rw [if_pos g4, if_pos g5, if_neg (fun z => g6.mp z), if_neg g7]
  by_cases hu : x = 1 ∨ x = 2 ∨ x = 5 ∨ x = 11 ∨ x = 14
  · exact bo_u (dfd_0 (g1.trans (decide_eq_false (fun z => z hu)))) (un_ro5 a b x hu)
  · have ht : dtab (80 + x) = true := g1.trans (decide_eq_true hu)
    have hdA : defA x := by unfold defA; omega
    exact bo_d (dfd_1 ht g2 g3) (rs_of (ro5 a b x hdA))
theorem qz96 : ∀ x, x < 16 → dtab (96 + x) = decide (¬ (x = 1 ∨ x = 2 ∨ x = 5 ∨ x = 11)) ∧ ixd (96 + x) = true ∧ ¬ (96 + x = 30 ∨ 96 + x = 31) ∧ nI (96 + x) &&& (128 : Int32) = 0 ∧ nI (96 + x) < (128 : Int32) ∧ (nI (96 + x) < (16 : Int32) ↔ False) ∧ ¬ nI (96 + x) < (64 : Int32) := by decide +kernel
theorem bz96 (a : AS) (b : Nat → Int32) (x : Nat) (hx : x < 16) : Bo a b (96 + x) (EX (mC a) (nI (96 + x))) (MD (mM a b false) (nI (96 + x))) := by
  obtain ⟨g1, g2, g3, g4, g5, g6, g7⟩ := qz96 x hx
  unfold EX MD
  rw [if_pos g4, if_pos g5, if_neg (fun z => g6.mp z), if_neg g7]
  by_cases hu : x = 1 ∨ x = 2 ∨ x = 5 ∨ x = 11
  · exact bo_u (dfd_0 (g1.trans (decide_eq_false (fun z => z hu)))) (un_lo6 a b x hu)
  · have ht : dtab (96 + x) = true := g1.trans (decide_eq_true hu)
    have hdA : defA x ∨ x = 14 := by unfold defA; omega
    exact ⟨fun q => rs_of (rlo6 a b x hx hdA (by rw [← dfd_x ht g2]; exact q)), fun q => un_ix6 a b x hx hdA (by rw [← dfd_x ht g2]; exact q)⟩
theorem qz112 : ∀ x, x < 16 → dtab (112 + x) = decide (¬ (x = 1 ∨ x = 2 ∨ x = 5 ∨ x = 11)) ∧ ixd (112 + x) = false ∧ ¬ (112 + x = 30 ∨ 112 + x = 31) ∧ nI (112 + x) &&& (128 : Int32) = 0 ∧ nI (112 + x) < (128 : Int32) ∧ (nI (112 + x) < (16 : Int32) ↔ False) ∧ ¬ nI (112 + x) < (64 : Int32) := by decide +kernel
theorem bz112 (a : AS) (b : Nat → Int32) (x : Nat) (hx : x < 16) : Bo a b (112 + x) (EX (mC a) (nI (112 + x))) (MD (mM a b false) (nI (112 + x))) := by
  obtain ⟨g1, g2, g3, g4, g5, g6, g7⟩ := qz112 x hx
  unfold EX MD
  rw [if_pos g4, if_pos g5, if_neg (fun z => g6.mp z), if_neg g7]
  by_cases hu : x = 1 ∨ x = 2 ∨ x = 5 ∨ x = 11
  · exact bo_u (dfd_0 (g1.trans (decide_eq_false (fun z => z hu)))) (un_lo7 a b x hu)
  · have ht : dtab (112 + x) = true := g1.trans (decide_eq_true hu)
    have hdA : defA x ∨ x = 14 := by unfold defA; omega
    exact bo_d (dfd_1 ht g2 g3) (rs_of (rlo7 a b x hx hdA))
theorem qz32 : ∀ x, x < 16 → dtab (32 + x) = true ∧ ixd (32 + x) = false ∧ ¬ (32 + x = 30 ∨ 32 + x = 31) ∧ nI (32 + x) &&& (128 : Int32) = 0 ∧ nI (32 + x) < (128 : Int32) ∧ ¬ nI (32 + x) < (16 : Int32) ∧ nI (32 + x) < (64 : Int32) ∧ decide ((32 : Int32) ≤ nI (32 + x) ∧ nI (32 + x) ≤ (47 : Int32)) = true ∧ nI (32 + x) &&& (15 : Int32) = nI x := by decide +kernel
theorem bz32 (a : AS) (b : Nat → Int32) (x : Nat) (hx : x < 16) : Bo a b (32 + x) (EX (mC a) (nI (32 + x))) (MD (mM a b false) (nI (32 + x))) := by
  obtain ⟨g1, g2, g3, g4, g5, g6, g7, g8, g9⟩ := qz32 x hx
  unfold EX MD
  rw [if_pos g4, if_pos g5, if_neg g6, if_pos g7, m_in, bd_s, g8, if_neg (by decide), g9]
  exact bo_d (dfd_1 g1 g2 g3) (rs_row2 a b x hx)
theorem qzm : ∀ c, c < 64 → 18 ≤ c → ¬ (32 ≤ c ∧ c ≤ 47) → nI c &&& (128 : Int32) = 0 ∧ nI c < (128 : Int32) ∧ ¬ nI c < (16 : Int32) ∧ nI c < (64 : Int32) ∧ decide ((32 : Int32) ≤ nI c ∧ nI c ≤ (47 : Int32)) = false := by decide +kernel
theorem bzm (a : AS) (b : Nat → Int32) (c : Nat) (h1 : c < 64) (h2 : 18 ≤ c) (h3 : ¬ (32 ≤ c ∧ c ≤ 47)) (h : Bo a b c (tc_executeLowerHalf (mC a) (nI c)) (mo_middle (mM a b false) (nI c))) : Bo a b c (EX (mC a) (nI c)) (MD (mM a b false) (nI c)) := by
  obtain ⟨g4, g5, g6, g7, g8⟩ := qzm c h1 h2 h3
  unfold EX MD
  rw [if_pos g4, if_pos g5, if_neg g6, if_pos g7, m_in, bd_s, g8, if_pos (show bI false = 0 from rfl)]
  exact h
theorem bl18 (a : AS) (b : Nat → Int32) : Bo a b 18 (tc_executeLowerHalf (mC a) (nI 18)) (mo_middle (mM a b false) (nI 18)) := bo_d (dfd_1 (by decide +kernel) (by decide +kernel) (by decide)) (rs18 a b)
theorem bl19 (a : AS) (b : Nat → Int32) : Bo a b 19 (tc_executeLowerHalf (mC a) (nI 19)) (mo_middle (mM a b false) (nI 19)) := bo_d (dfd_1 (by decide +kernel) (by decide +kernel) (by decide)) (rs19 a b)
theorem bl20 (a : AS) (b : Nat → Int32) : Bo a b 20 (tc_executeLowerHalf (mC a) (nI 20)) (mo_middle (mM a b false) (nI 20)) := bo_u (dfd_0 (by decide +kernel)) (un20 a b)
theorem bl21 (a : AS) (b : Nat → Int32) : Bo a b 21 (tc_executeLowerHalf (mC a) (nI 21)) (mo_middle (mM a b false) (nI 21)) := bo_u (dfd_0 (by decide +kernel)) (un21 a b)
theorem bl22 (a : AS) (b : Nat → Int32) : Bo a b 22 (tc_executeLowerHalf (mC a) (nI 22)) (mo_middle (mM a b false) (nI 22)) := bo_d (dfd_1 (by decide +kernel) (by decide +kernel) (by decide)) (rs22 a b)
theorem bl23 (a : AS) (b : Nat → Int32) : Bo a b 23 (tc_executeLowerHalf (mC a) (nI 23)) (mo_middle (mM a b false) (nI 23)) := bo_d (dfd_1 (by decide +kernel) (by decide +kernel) (by decide)) (rs23 a b)
theorem bl24 (a : AS) (b : Nat → Int32) : Bo a b 24 (tc_executeLowerHalf (mC a) (nI 24)) (mo_middle (mM a b false) (nI 24)) := bo_u (dfd_0 (by decide +kernel)) (un24 a b)
theorem bl25 (a : AS) (b : Nat → Int32) : Bo a b 25 (tc_executeLowerHalf (mC a) (nI 25)) (mo_middle (mM a b false) (nI 25)) := bo_d (dfd_1 (by decide +kernel) (by decide +kernel) (by decide)) (rs25 a b)
theorem bl26 (a : AS) (b : Nat → Int32) : Bo a b 26 (tc_executeLowerHalf (mC a) (nI 26)) (mo_middle (mM a b false) (nI 26)) := bo_d (dfd_1 (by decide +kernel) (by decide +kernel) (by decide)) (rs26 a b)
theorem bl27 (a : AS) (b : Nat → Int32) : Bo a b 27 (tc_executeLowerHalf (mC a) (nI 27)) (mo_middle (mM a b false) (nI 27)) := bo_u (dfd_0 (by decide +kernel)) (un27 a b)
theorem bl28 (a : AS) (b : Nat → Int32) : Bo a b 28 (tc_executeLowerHalf (mC a) (nI 28)) (mo_middle (mM a b false) (nI 28)) := bo_d (dfd_1 (by decide +kernel) (by decide +kernel) (by decide)) (rs28 a b)
theorem bl29 (a : AS) (b : Nat → Int32) : Bo a b 29 (tc_executeLowerHalf (mC a) (nI 29)) (mo_middle (mM a b false) (nI 29)) := bo_d (dfd_1 (by decide +kernel) (by decide +kernel) (by decide)) (rs29 a b)
theorem bl30 (a : AS) (b : Nat → Int32) : Bo a b 30 (tc_executeLowerHalf (mC a) (nI 30)) (mo_middle (mM a b false) (nI 30)) := ⟨fun q => rs30 a b ((dfd_p (by decide +kernel) (by decide +kernel) (by decide)).symm.trans q), fun q => un30 a b ((dfd_p (by decide +kernel) (by decide +kernel) (by decide)).symm.trans q)⟩
theorem bl31 (a : AS) (b : Nat → Int32) : Bo a b 31 (tc_executeLowerHalf (mC a) (nI 31)) (mo_middle (mM a b false) (nI 31)) := ⟨fun q => rs31 a b ((dfd_p (by decide +kernel) (by decide +kernel) (by decide)).symm.trans q), fun q => un31 a b ((dfd_p (by decide +kernel) (by decide +kernel) (by decide)).symm.trans q)⟩
theorem bl48 (a : AS) (b : Nat → Int32) : Bo a b 48 (tc_executeLowerHalf (mC a) (nI 48)) (mo_middle (mM a b false) (nI 48)) := ⟨fun q => rs48 a b ((dfd_x (c := 48) (by decide +kernel) (by decide +kernel)).symm.trans q), fun q => un48 a b ((dfd_x (c := 48) (by decide +kernel) (by decide +kernel)).symm.trans q)⟩
theorem bl49 (a : AS) (b : Nat → Int32) : Bo a b 49 (tc_executeLowerHalf (mC a) (nI 49)) (mo_middle (mM a b false) (nI 49)) := ⟨fun q => rs49 a b ((dfd_x (c := 49) (by decide +kernel) (by decide +kernel)).symm.trans q), fun q => un49 a b ((dfd_x (c := 49) (by decide +kernel) (by decide +kernel)).symm.trans q)⟩
theorem bl50 (a : AS) (b : Nat → Int32) : Bo a b 50 (tc_executeLowerHalf (mC a) (nI 50)) (mo_middle (mM a b false) (nI 50)) := ⟨fun q => rs50 a b ((dfd_x (c := 50) (by decide +kernel) (by decide +kernel)).symm.trans q), fun q => un50 a b ((dfd_x (c := 50) (by decide +kernel) (by decide +kernel)).symm.trans q)⟩
theorem bl51 (a : AS) (b : Nat → Int32) : Bo a b 51 (tc_executeLowerHalf (mC a) (nI 51)) (mo_middle (mM a b false) (nI 51)) := ⟨fun q => rs51 a b ((dfd_x (c := 51) (by decide +kernel) (by decide +kernel)).symm.trans q), fun q => un51 a b ((dfd_x (c := 51) (by decide +kernel) (by decide +kernel)).symm.trans q)⟩
theorem bl52 (a : AS) (b : Nat → Int32) : Bo a b 52 (tc_executeLowerHalf (mC a) (nI 52)) (mo_middle (mM a b false) (nI 52)) := bo_d (dfd_1 (by decide +kernel) (by decide +kernel) (by decide)) (rs52 a b)
theorem bl53 (a : AS) (b : Nat → Int32) : Bo a b 53 (tc_executeLowerHalf (mC a) (nI 53)) (mo_middle (mM a b false) (nI 53)) := bo_d (dfd_1 (by decide +kernel) (by decide +kernel) (by decide)) (rs53 a b)
theorem bl54 (a : AS) (b : Nat → Int32) : Bo a b 54 (tc_executeLowerHalf (mC a) (nI 54)) (mo_middle (mM a b false) (nI 54)) := bo_d (dfd_1 (by decide +kernel) (by decide +kernel) (by decide)) (rs54 a b)
theorem bl55 (a : AS) (b : Nat → Int32) : Bo a b 55 (tc_executeLowerHalf (mC a) (nI 55)) (mo_middle (mM a b false) (nI 55)) := bo_d (dfd_1 (by decide +kernel) (by decide +kernel) (by decide)) (rs55 a b)
theorem bl56 (a : AS) (b : Nat → Int32) : Bo a b 56 (tc_executeLowerHalf (mC a) (nI 56)) (mo_middle (mM a b false) (nI 56)) := bo_u (dfd_0 (by decide +kernel)) (un56 a b)
theorem bl57 (a : AS) (b : Nat → Int32) : Bo a b 57 (tc_executeLowerHalf (mC a) (nI 57)) (mo_middle (mM a b false) (nI 57)) := bo_d (dfd_1 (by decide +kernel) (by decide +kernel) (by decide)) (rs57 a b)
theorem bl58 (a : AS) (b : Nat → Int32) : Bo a b 58 (tc_executeLowerHalf (mC a) (nI 58)) (mo_middle (mM a b false) (nI 58)) := bo_d (dfd_1 (by decide +kernel) (by decide +kernel) (by decide)) (rs58 a b)
theorem bl59 (a : AS) (b : Nat → Int32) : Bo a b 59 (tc_executeLowerHalf (mC a) (nI 59)) (mo_middle (mM a b false) (nI 59)) := bo_d (dfd_1 (by decide +kernel) (by decide +kernel) (by decide)) (rs59 a b)
theorem bl60 (a : AS) (b : Nat → Int32) : Bo a b 60 (tc_executeLowerHalf (mC a) (nI 60)) (mo_middle (mM a b false) (nI 60)) := bo_d (dfd_1 (by decide +kernel) (by decide +kernel) (by decide)) (rs60 a b)
theorem bl61 (a : AS) (b : Nat → Int32) : Bo a b 61 (tc_executeLowerHalf (mC a) (nI 61)) (mo_middle (mM a b false) (nI 61)) := bo_d (dfd_1 (by decide +kernel) (by decide +kernel) (by decide)) (rs61 a b)
theorem bl62 (a : AS) (b : Nat → Int32) : Bo a b 62 (tc_executeLowerHalf (mC a) (nI 62)) (mo_middle (mM a b false) (nI 62)) := bo_u (dfd_0 (by decide +kernel)) (un62 a b)
theorem bl63 (a : AS) (b : Nat → Int32) : Bo a b 63 (tc_executeLowerHalf (mC a) (nI 63)) (mo_middle (mM a b false) (nI 63)) := bo_d (dfd_1 (by decide +kernel) (by decide +kernel) (by decide)) (rs63 a b)
theorem bz16 (a : AS) (b : Nat → Int32) (c : Nat) (h1 : 18 ≤ c) (h2 : c < 32) : Bo a b c (tc_executeLowerHalf (mC a) (nI c)) (mo_middle (mM a b false) (nI c)) := by
  have h : c = 18 ∨ c = 19 ∨ c = 20 ∨ c = 21 ∨ c = 22 ∨ c = 23 ∨ c = 24 ∨ c = 25 ∨ c = 26 ∨ c = 27 ∨ c = 28 ∨ c = 29 ∨ c = 30 ∨ c = 31 := by omega
  rcases h with h | h | h | h | h | h | h | h | h | h | h | h | h | h
  · subst h; exact bl18 a b
  · subst h; exact bl19 a b
  · subst h; exact bl20 a b
  · subst h; exact bl21 a b
  · subst h; exact bl22 a b
  · subst h; exact bl23 a b
  · subst h; exact bl24 a b
  · subst h; exact bl25 a b
  · subst h; exact bl26 a b
  · subst h; exact bl27 a b
  · subst h; exact bl28 a b
  · subst h; exact bl29 a b
  · subst h; exact bl30 a b
  · subst h; exact bl31 a b
theorem bz48 (a : AS) (b : Nat → Int32) (c : Nat) (h1 : 48 ≤ c) (h2 : c < 64) : Bo a b c (tc_executeLowerHalf (mC a) (nI c)) (mo_middle (mM a b false) (nI c)) := by
  have h : c = 48 ∨ c = 49 ∨ c = 50 ∨ c = 51 ∨ c = 52 ∨ c = 53 ∨ c = 54 ∨ c = 55 ∨ c = 56 ∨ c = 57 ∨ c = 58 ∨ c = 59 ∨ c = 60 ∨ c = 61 ∨ c = 62 ∨ c = 63 := by omega
  rcases h with h | h | h | h | h | h | h | h | h | h | h | h | h | h | h | h
  · subst h; exact bl48 a b
  · subst h; exact bl49 a b
  · subst h; exact bl50 a b
  · subst h; exact bl51 a b
  · subst h; exact bl52 a b
  · subst h; exact bl53 a b
  · subst h; exact bl54 a b
  · subst h; exact bl55 a b
  · subst h; exact bl56 a b
  · subst h; exact bl57 a b
  · subst h; exact bl58 a b
  · subst h; exact bl59 a b
  · subst h; exact bl60 a b
  · subst h; exact bl61 a b
  · subst h; exact bl62 a b
  · subst h; exact bl63 a b
theorem qzu : ∀ c, c < 256 → 128 ≤ c → ¬ nI c &&& (128 : Int32) = 0 ∧ ¬ nI c < (128 : Int32) := by decide +kernel
theorem bo_b0 (a : AS) (b : Nat → Int32) (c : Nat) (hc : c < 256) (h16 : ¬ c = 16) (h17 : ¬ c = 17) : Bo a b c (EX (mC a) (nI c)) (MD (mM a b false) (nI c)) := by
  by_cases hu : 128 ≤ c
  · obtain ⟨g1, g2⟩ := qzu c hc hu
    unfold EX MD
    rw [if_neg g1, if_neg g2]
    exact bo_of (bo_upper a b c hu hc)
  · have hr : c / 16 = 0 ∨ c / 16 = 1 ∨ c / 16 = 2 ∨ c / 16 = 3 ∨ c / 16 = 4 ∨ c / 16 = 5 ∨ c / 16 = 6 ∨ c / 16 = 7 := by omega
    rcases hr with h | h | h | h | h | h | h | h
    · have e := bz0 a b (c % 16) (by omega)
      rw [show 0 + c % 16 = c by omega] at e
      exact e
    · exact bzm a b c (by omega) (by omega) (by omega) (bz16 a b c (by omega) (by omega))
    · have e := bz32 a b (c % 16) (by omega)
      rw [show 32 + c % 16 = c by omega] at e
      exact e
    · exact bzm a b c (by omega) (by omega) (by omega) (bz48 a b c (by omega) (by omega))
    · have e := bz64 a b (c % 16) (by omega)
      rw [show 64 + c % 16 = c by omega] at e
      exact e
    · have e := bz80 a b (c % 16) (by omega)
      rw [show 80 + c % 16 = c by omega] at e
      exact e
    · have e := bz96 a b (c % 16) (by omega)
      rw [show 96 + c % 16 = c by omega] at e
      exact e
    · have e := bz112 a b (c % 16) (by omega)
      rw [show 112 + c % 16 = c by omega] at e
      exact e
