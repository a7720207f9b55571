theorem sR_comm (a : AS) {i j : Nat} (v x : Nat) (h : i ≠ j) : sR (sR a i v) j x = sR (sR a j x) i v := by
  refine as_ext (fun _ => rfl) (fun k => ?_) (fun _ => rfl) rfl rfl rfl
  rw [gR_sR, gR_sR, gR_sR, gR_sR]
  by_cases h1 : k = i
  · by_cases h2 : k = j
    · omega
    · rw [if_neg h2, if_pos h1, if_pos h1]
  · by_cases h2 : k = j
    · rw [if_pos h2, if_neg h1, if_pos h2]
    · rw [if_neg h2, if_neg h1, if_neg h1, if_neg h2]
theorem dl_iff : ∀ v, v < 256 → ((nI v &&& (15 : Int32) ≤ (9 : Int32)) ↔ ¬ 9 < v % 16) := by decide +kernel
theorem dh_iff : ∀ v, v < 256 → (((9 : Int32) < nI v >>> ((4 : Int32) &&& 31)) ↔ 9 < v / 16) := by decide +kernel
theorem d8_iff : ∀ v, v < 256 → ((nI v >>> ((4 : Int32) &&& 31) ≤ (8 : Int32)) ↔ ¬ 8 < v / 16) := by decide +kernel
theorem fl_c1 (c : Nat) (n z : Bool) : fl (fl (fl c 1 (decide (¬ c % 256 &&& 1 = 0))) 8 n) 4 z = fl (fl c 4 z) 8 n := by
  rw [← fl_mod c 1, ← fl_mod c 4]
  exact (by decide +kernel : ∀ c, c < 256 → ∀ n z : Bool, fl (fl (fl c 1 (decide (¬ c &&& 1 = 0))) 8 n) 4 z = fl (fl c 4 z) 8 n) _ (Nat.mod_lt _ (by decide)) n z
theorem fl_c2 (c : Nat) (n z : Bool) : fl (fl (fl c 1 true) 8 n) 4 z = fl (fl (fl c 1 true) 4 z) 8 n := by
  rw [← fl_mod c 1]
  exact (by decide +kernel : ∀ c, c < 256 → ∀ n z : Bool, fl (fl (fl c 1 true) 8 n) 4 z = fl (fl (fl c 1 true) 4 z) 8 n) _ (Nat.mod_lt _ (by decide)) n z
def daN (a : AS) (v : Nat) : Nat := (if (hf a 32 || decide (9 < v % 16)) = true then 6 else 0) + (if (hf a 1 || (decide (9 < v / 16) || (decide (8 < v / 16) && decide (9 < v % 16)))) = true then 96 else 0)
theorem c_da50 (a : AS) (v s : Nat) (lo : Bool) (hv : v < 256) : ar_adjustDecimal_50 (mC a) (nI v >>> ((4 : Int32) &&& 31)) (bI lo) (nI s) = ar_adjustDecimal_80 (mC a) (nI (s + if (hf a 1 || (decide (9 < v / 16) || (decide (8 < v / 16) && lo))) = true then 96 else 0)) := by
  unfold ar_adjustDecimal_50 ar_adjustDecimal_77
  rw [c_h1, bd_s, ci_96, show (96 : Int32) = nI 96 from rfl, nI_add]
  simp only [dh_iff v hv, d8_iff v hv]
  cases hf a 1
  · rw [if_pos (by decide)]
    by_cases h1 : 9 < v / 16
    · rw [if_pos h1, decide_eq_true h1]; rfl
    · rw [if_neg h1, decide_eq_false h1]
      by_cases h2 : 8 < v / 16
      · rw [if_neg (fun q => q h2), decide_eq_true h2]
        cases lo
        · rw [if_pos (by decide)]; rfl
        · rw [if_neg (by decide)]; rfl
      · rw [if_pos h2, decide_eq_false h2]; rfl
  · rw [if_neg (by decide)]; rfl
theorem c_da (a : AS) : ar_adjustDecimal (mC a) = ar_adjustDecimal_80 (mC a) (nI (gR a 0 % 256 + daN a (gR a 0 % 256))) := by
  have hv : gR a 0 % 256 < 256 := Nat.mod_lt _ (by decide)
  unfold ar_adjustDecimal
  rw [c_get0, bd_s, nm_d]
  generalize gR a 0 % 256 = v at hv
  simp only [dl_iff v hv]
  unfold ar_adjustDecimal_27 ar_adjustDecimal_47 daN
  have e0 : (0 : Int32) = bI false := rfl
  have e1 : (1 : Int32) = bI true := rfl
  by_cases h1 : 9 < v % 16
  · rw [if_neg (fun q => q h1), c_h32, bd_s, ci_6, show (6 : Int32) = nI 6 from rfl, nI_add, decide_eq_true h1, if_neg (show ¬ (1 : Int32) = 0 by decide)]
    have h := c_da50 a v (v + 6) true hv
    rw [show (1 : Int32) = bI true from rfl, h, Bool.or_true, if_pos rfl, Nat.add_assoc]
    split <;> rfl
  · rw [if_pos h1, c_h32, bd_s, ci_6, show (6 : Int32) = nI 6 from rfl, nI_add, decide_eq_false h1, if_pos (show (0 : Int32) = 0 from rfl)]
    have h := c_da50 a v (v + 6) false hv
    have h' := c_da50 a v v false hv
    rw [show ar_adjustDecimal_50 (mC a) (nI v >>> ((4 : Int32) &&& 31)) 0 (nI (v + 6)) = ar_adjustDecimal_50 (mC a) (nI v >>> ((4 : Int32) &&& 31)) (bI false) (nI (v + 6)) from rfl, show ar_adjustDecimal_50 (mC a) (nI v >>> ((4 : Int32) &&& 31)) 0 (nI v) = ar_adjustDecimal_50 (mC a) (nI v >>> ((4 : Int32) &&& 31)) (bI false) (nI v) from rfl, h, h']
    cases hf a 32
    · rw [if_pos (by decide), Bool.or_false, if_neg (show ¬ false = true by decide), Nat.zero_add]
    · rw [if_neg (by decide), Bool.or_false, if_pos rfl, Nat.add_assoc]
theorem m_da40 (a : AS) (b : Nat → Int32) (v t : Nat) (hv : v < 256) : mo_adjust_40 (mM a b false) (nI v &&& (15 : Int32)) (nI v >>> ((4 : Int32) &&& 31)) (nI t) = mo_adjust_75 (mM a b false) (nI (t + if (hf a 1 || (decide (9 < v / 16) || (decide (8 < v / 16) && decide (9 < v % 16)))) = true then 96 else 0)) := by
  unfold mo_adjust_40 mo_adjust_67 mo_adjust_74
  rw [m_h1, bd_s, show (96 : Int32) = nI 96 from rfl, nI_add]
  simp only [dh_iff v hv, d8_iff v hv, dl_iff v hv]
  cases hf a 1
  · rw [if_pos (by decide)]
    by_cases h1 : 9 < v / 16
    · rw [if_pos h1, decide_eq_true h1]; rfl
    · rw [if_neg h1, decide_eq_false h1]
      by_cases h2 : 8 < v / 16
      · rw [if_neg (fun q => q h2), decide_eq_true h2]
        by_cases h3 : 9 < v % 16
        · rw [if_neg (fun q => q h3), decide_eq_true h3]; rfl
        · rw [if_pos h3, decide_eq_false h3]; rfl
      · rw [if_pos h2, decide_eq_false h2]; rfl
  · rw [if_neg (by decide)]; rfl
theorem m_da (a : AS) (b : Nat → Int32) : mo_adjust (mM a b false) = mo_adjust_75 (mM a b false) (nI (daN a (gR a 0 % 256))) := by
  have hv : gR a 0 % 256 < 256 := Nat.mod_lt _ (by decide)
  unfold mo_adjust
  rw [nm_d, nm_d, m_reg0, m_h32, bd_s]
  generalize gR a 0 % 256 = v at hv
  unfold mo_adjust_34 daN
  have e6 := m_da40 a b v 6 hv
  have e0 := m_da40 a b v 0 hv
  rw [show mo_adjust_40 (mM a b false) (nI v &&& (15 : Int32)) (nI v >>> ((4 : Int32) &&& 31)) 6 = mo_adjust_40 (mM a b false) (nI v &&& (15 : Int32)) (nI v >>> ((4 : Int32) &&& 31)) (nI 6) from rfl, show mo_adjust_40 (mM a b false) (nI v &&& (15 : Int32)) (nI v >>> ((4 : Int32) &&& 31)) 0 = mo_adjust_40 (mM a b false) (nI v &&& (15 : Int32)) (nI v >>> ((4 : Int32) &&& 31)) (nI 0) from rfl, e6, e0]
  simp only [dl_iff v hv]
  cases hf a 32
  · rw [if_pos (by decide)]
    by_cases h3 : 9 < v % 16
    · rw [if_neg (fun q => q h3), decide_eq_true h3]; rfl
    · rw [if_pos h3, decide_eq_false h3]; rfl
  · rw [if_neg (by decide)]; rfl
theorem rl_daa (a : AS) (b : Nat → Int32) : Rl PT b false (ar_adjustDecimal (mC a)) (mo_adjust (mM a b false)) := by
  rw [c_da, m_da]
  have hv : gR a 0 % 256 < 256 := Nat.mod_lt _ (by decide)
  have hn : daN a (gR a 0 % 256) ≤ 102 := by
    unfold daN
    split <;> split <;> omega
  generalize daN a (gR a 0 % 256) = n at hn
  generalize hs : gR a 0 % 256 + n = s
  have e1 : (nI s ≤ (255 : Int32)) ↔ s ≤ 255 := nI_leI (b := 255) (by omega) (by decide)
  have g : ∀ (t : MS) (l4 t0 : Int32), mo_adjust_109 t l4 t0 1 = bd (mo_flag t 1 t0) fun _ s1 => (fun s2 => bd (mo_shows s2 (mx_reg s2 0) 0) fun _ s3 => some ((0 : Int32), s3)) (my_reg s1 (upd (mx_reg s1) 0 (l4 &&& 255))) := fun _ _ _ => rfl
  have tail : ∀ (z : AS), bd (mo_shows (my_reg (mM z b false) (upd (mx_reg (mM z b false)) 0 (nI s &&& 255))) (mx_reg (my_reg (mM z b false) (upd (mx_reg (mM z b false)) 0 (nI s &&& 255))) 0) 0) (fun _ s3 => some ((0 : Int32), s3)) = some (nI 0, mM (sR (sR z 0 s) 8 (fl (fl (gR z 8) 8 (decide (128 ≤ s % 256))) 4 (decide (s % 256 = 0)))) b false) := by
    intro z
    rw [and255]
    unfold w8
    rw [m_set0, m_reg0, m_shows8, bd_s, show gR (sR z 0 s) 0 = s % 256 from rfl, Nat.mod_mod, Nat.mod_mod, show gR (sR z 0 s) 8 = gR z 8 from rfl]
    rfl
  have c97 : ∀ (z : AS), ar_adjustDecimal_97 (mC z) (nI s) = some (nI 0, mC (sR (sR z 0 s) 8 (fl (fl (gR z 8) 4 (decide (s % 256 = 0))) 8 (decide (128 ≤ s % 256))))) := by
    intro z
    unfold ar_adjustDecimal_97
    rw [c_set0, bd_s, and255]
    unfold w8
    rw [c_setSign8 _ _ (Nat.mod_lt _ (by decide)), bd_s, show gR (sR z 0 s) 8 = gR z 8 from rfl]
    rfl
  unfold ar_adjustDecimal_80 mo_adjust_75 mo_adjust_104
  rw [nm_d, m_reg0, nI_add, hs, m_h1, bd_s, g, g]
  dsimp only
  simp only [e1]
  by_cases h : s ≤ 255
  · rw [if_pos h, if_pos h, c97]
    refine ⟨0, _, rfl, ?_, trivial⟩
    cases hc : hf a 1
    · rw [if_pos (by decide), m_flag1_0, bd_s, tail, gR8, fl_mod, sR_comm a _ _ (show (8 : Nat) ≠ 0 by decide), sR_sR, ← hc]
      unfold hf
      rw [fl_c1]
    · rw [if_neg (by decide), m_flag1_1, bd_s, tail, gR8, fl_mod, sR_comm a _ _ (show (8 : Nat) ≠ 0 by decide), sR_sR, ← hc]
      unfold hf
      rw [fl_c1]
  · rw [if_neg h, if_neg h, c_turn1_1, bd_s, c97]
    refine ⟨0, _, rfl, ?_, trivial⟩
    rw [m_flag1_1, bd_s, tail]
    have e : (if bI (hf a 1) = 0 then some (nI 0, mM (sR (sR (sR a 8 (fl (gR a 8) 1 true)) 0 s) 8 (fl (fl (gR (sR a 8 (fl (gR a 8) 1 true)) 8) 8 (decide (128 ≤ s % 256))) 4 (decide (s % 256 = 0)))) b false) else some (nI 0, mM (sR (sR (sR a 8 (fl (gR a 8) 1 true)) 0 s) 8 (fl (fl (gR (sR a 8 (fl (gR a 8) 1 true)) 8) 8 (decide (128 ≤ s % 256))) 4 (decide (s % 256 = 0)))) b false)) = some (nI 0, mM (sR (sR (sR a 8 (fl (gR a 8) 1 true)) 0 s) 8 (fl (fl (gR (sR a 8 (fl (gR a 8) 1 true)) 8) 8 (decide (128 ≤ s % 256))) 4 (decide (s % 256 = 0)))) b false) := by split <;> rfl
    rw [e, gR8, fl_mod, fl_mod, fl_c2]
-- registers among each other
def rg (i : Nat) : Nat := match i with
  | 0 => 9 | 1 => 2 | 2 => 3 | 3 => 4 | 4 => 5 | 5 => 6 | 8 => 0 | 9 => 1 | 10 => 8 | _ => 7
def okN (i : Nat) : Bool := decide (i ≤ 5) || (decide (8 ≤ i) && decide (i ≤ 11))
def mv (i : Nat) : Int32 := match i with
  | 0 => -1 | 1 => 2 | 2 => 3 | 3 => 4 | 4 => 5 | 5 => 6 | 8 => 0 | 9 => 1 | 10 => 8 | 11 => 7 | _ => -2
def dpr (n : Nat) : Bool := (okN (n / 16) && okN (n % 16)) && (decide (n / 16 < 8) == decide (n % 16 < 8))
def gv (a : AS) (r : Nat) : Nat := if r = 9 then hl (gR a 0) (gR a 1) else gR a r % md r
def bc (a : AS) (r v : Nat) : AS := if r = 9 then sR (sR a 0 (v / 256)) 1 v else if r = 5 then sA (sR a 5 v) true else sR a r v
def i16 (i : Nat) : Prop := i = 0 ∨ i = 1 ∨ i = 2 ∨ i = 3 ∨ i = 4 ∨ i = 5 ∨ i = 6 ∨ i = 7 ∨ i = 8 ∨ i = 9 ∨ i = 10 ∨ i = 11 ∨ i = 12 ∨ i = 13 ∨ i = 14 ∨ i = 15
theorem i16_of {i : Nat} (h : i < 16) : i16 i := by unfold i16; omega
def i10 (i : Nat) : Prop := i = 0 ∨ i = 1 ∨ i = 2 ∨ i = 3 ∨ i = 4 ∨ i = 5 ∨ i = 8 ∨ i = 9 ∨ i = 10 ∨ i = 11
theorem i10_of {i : Nat} (h : okN i = true) : i10 i := by
  unfold okN at h
  simp only [Bool.or_eq_true, Bool.and_eq_true, decide_eq_true_eq] at h
  unfold i10
  omega
theorem named16 (s : MS) {i : Nat} (h : i < 16) : mo_named s (nI i) = some (mv i, s) := by
  rcases i16_of h with rfl | rfl | rfl | rfl | rfl | rfl | rfl | rfl | rfl | rfl | rfl | rfl | rfl | rfl | rfl | rfl <;> rfl
theorem x_rest (s : MS) (B v3 : Int32) {i : Nat} (h : i < 16) : (if mv i = (-1 : Int32) then (mo_exchange_36 s B (mv i) v3) else (bd (mo_in s (mv i) (2 : Int32) (6 : Int32)) fun v4 s4 => if v4 = 0 then (mo_exchange_41 s4 B (mv i) v3 (0 : Int32)) else (mo_exchange_36 s4 B (mv i) v3))) = mo_exchange_41 s B (mv i) v3 (bI (decide (i < 8) && okN i)) := by
  unfold mo_exchange_36
  rw [m_in, bd_s]
  rcases i16_of h with rfl | rfl | rfl | rfl | rfl | rfl | rfl | rfl | rfl | rfl | rfl | rfl | rfl | rfl | rfl | rfl <;> rfl
theorem x_41 (s : MS) (B v2 t : Int32) {i : Nat} (h : i < 16) : mo_exchange_41 s B v2 (mv i) t = mo_exchange_65 s B v2 (mv i) t (bI (decide (i < 8) && okN i)) := by
  unfold mo_exchange_41 mo_exchange_60
  rw [m_in, bd_s]
  rcases i16_of h with rfl | rfl | rfl | rfl | rfl | rfl | rfl | rfl | rfl | rfl | rfl | rfl | rfl | rfl | rfl | rfl <;> rfl
theorem mv_2 {i : Nat} (h : i < 16) : (mv i = (-2 : Int32)) ↔ okN i = false := by
  rcases i16_of h with rfl | rfl | rfl | rfl | rfl | rfl | rfl | rfl | rfl | rfl | rfl | rfl | rfl | rfl | rfl | rfl <;> decide
theorem x_65 (s : MS) (B : Int32) {n : Nat} (h : n < 256) : mo_exchange_65 s B (mv (n / 16)) (mv (n % 16)) (bI (decide (n / 16 < 8) && okN (n / 16))) (bI (decide (n % 16 < 8) && okN (n % 16))) = mo_exchange_93 s B (mv (n / 16)) (mv (n % 16)) (bI (!(dpr n))) := by
  have h1 := mv_2 (i := n / 16) (by omega)
  have h2 := mv_2 (i := n % 16) (by omega)
  unfold mo_exchange_65 mo_exchange_88 dpr
  cases e1 : okN (n / 16)
  · rw [if_pos (h1.mpr e1)]; rfl
  · rw [if_neg (fun q => by rw [h1.mp q] at e1; cases e1)]
    cases e2 : okN (n % 16)
    · rw [if_pos (h2.mpr e2)]; rfl
    · rw [if_neg (fun q => by rw [h2.mp q] at e2; cases e2)]
      cases decide (n / 16 < 8) <;> cases decide (n % 16 < 8) <;> rfl
theorem m_ex (a : AS) (b : Nat → Int32) (B : Int32) : mo_exchange (mM a b false) B = mo_exchange_93 (mM (fS a) b false) B (mv (fB a / 16)) (mv (fB a % 16)) (bI (!(dpr (fB a)))) := by
  have hlt := fB_lt a
  have e1 : nI (fB a) >>> ((4 : Int32) &&& 31) = nI (fB a / 16) := shr_nI (k := 4) (by omega) (by decide)
  unfold mo_exchange
  rw [m_next, bd_s, e1, pb_15 _ hlt, named16 _ (by omega), bd_s, named16 _ (by omega), bd_s, x_rest _ _ _ (by omega), x_41 _ _ _ _ (by omega), x_65 _ _ hlt]
theorem un_ex (a : AS) (b : Nat → Int32) (B : Int32) (h : dpr (fB a) = false) : mo_exchange (mM a b false) B = some (0, mM (fS a) b true) := by
  rw [m_ex, h]
  rfl
theorem c_getr (a : AS) {i : Nat} (h : i10 i) : re_get (mC a) (nI (rg i)) = some (nI (gv a (rg i)), mC a) := by
  rcases h with rfl | rfl | rfl | rfl | rfl | rfl | rfl | rfl | rfl | rfl
  · exact c_get9 a
  · exact c_get2 a
  · exact c_get3 a
  · exact c_get4 a
  · exact c_get5 a
  · exact c_get6 a
  · exact c_get0 a
  · exact c_get1 a
  · exact c_get8 a
  · exact c_get7 a
theorem c_becr (a : AS) {i : Nat} (h : i10 i) (v : Nat) : tc_become (mC a) (nI (rg i)) (nI v) = some (nI 0, mC (bc a (rg i) v)) := by
  rcases h with rfl | rfl | rfl | rfl | rfl | rfl | rfl | rfl | rfl | rfl
  · exact c_become9 a v
  · exact c_become2 a v
  · exact c_become3 a v
  · exact c_become4 a v
  · exact c_become5 a v
  · exact c_become6 a v
  · exact c_become0 a v
  · exact c_become1 a v
  · exact c_become8 a v
  · exact c_become7 a v
theorem m_getr (a : AS) (b : Nat → Int32) (u : Bool) {i : Nat} (h : i10 i) : mo_get (mM a b u) (mv i) = some (nI (gv a (rg i)), mM a b u) := by
  rcases h with rfl | rfl | rfl | rfl | rfl | rfl | rfl | rfl | rfl | rfl
  · have h : mo_get (mM a b u) (-1) = bd (mo_d (mM a b u)) fun v2 s1 => some (v2, s1) := rfl
    rw [show mv 0 = (-1 : Int32) from rfl, h, m_d, bd_s]
    rfl
  all_goals rfl
theorem m_set19 (z : AS) (b : Nat → Int32) (u : Bool) (k : Int32) (hk : ¬ k = 5) : mo_set_19 (mM z b u) k = some (nI 0, mM z b u) := by
  unfold mo_set_19
  rw [mx_arm_e]
  cases hg : gA z
  · have h1 : mo_set_37 (mM z b u) 0 = some (nI 0, mM (sA z false) b u) := rfl
    rw [if_pos (by decide), if_neg hk, h1, sA_same hg]
  · have h1 : mo_set_32 (mM z b u) = some (nI 0, mM (sA z true) b u) := rfl
    rw [if_neg (by decide), h1, sA_same hg]
theorem m_set19_5 (z : AS) (b : Nat → Int32) (u : Bool) : mo_set_19 (mM z b u) 5 = some (nI 0, mM (sA z true) b u) := by
  unfold mo_set_19
  have h1 : mo_set_32 (mM z b u) = some (nI 0, mM (sA z true) b u) := rfl
  rw [if_pos (show (5 : Int32) = 5 from rfl), h1]
  split <;> rfl
theorem m_setr (a : AS) (b : Nat → Int32) (u : Bool) {i : Nat} (h : i10 i) (v : Nat) (hv : v < if i < 8 then 65536 else 256) : mo_set (mM a b u) (mv i) (nI v) = some (nI 0, mM (bc a (rg i) v) b u) := by
  have g : ∀ (s : MS) (x : Int32), mo_set s (-1) x = bd (mo_setD s x) fun _ s2 => mo_set_19 s2 (-1) := fun _ _ => rfl
  rcases h with rfl | rfl | rfl | rfl | rfl | rfl | rfl | rfl | rfl | rfl
  · rw [show mv 0 = (-1 : Int32) from rfl, g, m_setD, bd_s, m_set19 _ _ _ _ (by decide)]
    rfl
  · have g1 : ∀ (s : MS) (x : Int32), mo_set s 2 x = mo_set_19 (my_reg s (upd (mx_reg s) 2 x)) 2 := fun _ _ => rfl
    rw [show mv 1 = (2 : Int32) from rfl, g1, m_sv2 _ _ _ _ hv, m_set19 _ _ _ _ (by decide)]
    rfl
  · have g2 : ∀ (s : MS) (x : Int32), mo_set s 3 x = mo_set_19 (my_reg s (upd (mx_reg s) 3 x)) 3 := fun _ _ => rfl
    rw [show mv 2 = (3 : Int32) from rfl, g2, m_sv3 _ _ _ _ hv, m_set19 _ _ _ _ (by decide)]
    rfl
  · have g3 : ∀ (s : MS) (x : Int32), mo_set s 4 x = mo_set_19 (my_reg s (upd (mx_reg s) 4 x)) 4 := fun _ _ => rfl
    rw [show mv 3 = (4 : Int32) from rfl, g3, m_sv4 _ _ _ _ hv, m_set19 _ _ _ _ (by decide)]
    rfl
  · have g4 : ∀ (s : MS) (x : Int32), mo_set s 5 x = mo_set_19 (my_reg s (upd (mx_reg s) 5 x)) 5 := fun _ _ => rfl
    rw [show mv 4 = (5 : Int32) from rfl, g4, m_sv5 _ _ _ _ hv, m_set19_5]
    rfl
  · have g5 : ∀ (s : MS) (x : Int32), mo_set s 6 x = mo_set_19 (my_reg s (upd (mx_reg s) 6 x)) 6 := fun _ _ => rfl
    rw [show mv 5 = (6 : Int32) from rfl, g5, m_sv6 _ _ _ _ hv, m_set19 _ _ _ _ (by decide)]
    rfl
  · have g8 : ∀ (s : MS) (x : Int32), mo_set s 0 x = mo_set_19 (my_reg s (upd (mx_reg s) 0 x)) 0 := fun _ _ => rfl
    rw [show mv 8 = (0 : Int32) from rfl, g8, m_sv0 _ _ _ _ hv, m_set19 _ _ _ _ (by decide)]
    rfl
  · have g9 : ∀ (s : MS) (x : Int32), mo_set s 1 x = mo_set_19 (my_reg s (upd (mx_reg s) 1 x)) 1 := fun _ _ => rfl
    rw [show mv 9 = (1 : Int32) from rfl, g9, m_sv1 _ _ _ _ hv, m_set19 _ _ _ _ (by decide)]
    rfl
  · have g10 : ∀ (s : MS) (x : Int32), mo_set s 8 x = mo_set_19 (my_reg s (upd (mx_reg s) 8 x)) 8 := fun _ _ => rfl
    rw [show mv 10 = (8 : Int32) from rfl, g10, m_sv8 _ _ _ _ hv, m_set19 _ _ _ _ (by decide)]
    rfl
  · have g11 : ∀ (s : MS) (x : Int32), mo_set s 7 x = mo_set_19 (my_reg s (upd (mx_reg s) 7 x)) 7 := fun _ _ => rfl
    rw [show mv 11 = (7 : Int32) from rfl, g11, m_sv7 _ _ _ _ hv, m_set19 _ _ _ _ (by decide)]
    rfl
theorem gv_lt (a : AS) {i : Nat} (h : i10 i) : gv a (rg i) < if i < 8 then 65536 else 256 := by
  rcases h with rfl | rfl | rfl | rfl | rfl | rfl | rfl | rfl | rfl | rfl
  · exact hl_lt _ _
  all_goals exact Nat.mod_lt _ (by decide)
theorem tv3 {i : Nat} (h : i10 i) : tvl 3 i = nI (rg i) := by
  rcases h with rfl | rfl | rfl | rfl | rfl | rfl | rfl | rfl | rfl | rfl <;> rfl
theorem sub_bc (a : AS) {i j : Nat} (hi : i10 i) (hj : i10 j) (hs : i < 8 ↔ j < 8) (v x : Nat) (hij : i ≠ j) : bc (bc a (rg i) v) (rg j) x = bc (bc a (rg j) x) (rg i) v := by
  rcases hi with rfl | rfl | rfl | rfl | rfl | rfl | rfl | rfl | rfl | rfl <;> rcases hj with rfl | rfl | rfl | rfl | rfl | rfl | rfl | rfl | rfl | rfl <;> first
    | exact absurd rfl hij
    | exact absurd (hs.mp (by decide)) (by decide)
    | exact absurd (hs.mpr (by decide)) (by decide)
    | (unfold bc rg
       simp only [reduceIte, Nat.reduceEqDiff]
       refine as_ext (fun _ => rfl) (fun k => ?_) (fun _ => rfl) rfl rfl rfl
       simp only [gR_sR, gR_sA]
       repeat' split
       all_goals first | rfl | omega)
theorem bc_bc (a : AS) {i : Nat} (hi : i10 i) (v : Nat) : bc (bc a (rg i) v) (rg i) v = bc a (rg i) v := by
  rcases hi with rfl | rfl | rfl | rfl | rfl | rfl | rfl | rfl | rfl | rfl
  · show sR (sR (sR (sR a 0 (v / 256)) 1 v) 0 (v / 256)) 1 v = sR (sR a 0 (v / 256)) 1 v
    rw [sR_comm (sR a 0 (v / 256)) _ _ (show (1 : Nat) ≠ 0 by decide), sR_sR, sR_sR]
  · exact sR_sR a 2 v v
  · exact sR_sR a 3 v v
  · exact sR_sR a 4 v v
  · show sA (sR (sA (sR a 5 v) true) 5 v) true = sA (sR a 5 v) true
    rw [show sR (sA (sR a 5 v) true) 5 v = sA (sR (sR a 5 v) 5 v) true from rfl, sR_sR]
    rfl
  · exact sR_sR a 6 v v
  · exact sR_sR a 0 v v
  · exact sR_sR a 1 v v
  · exact sR_sR a 8 v v
  · exact sR_sR a 7 v v
theorem dpr_of {n : Nat} (h : dpr n = true) : i10 (n / 16) ∧ i10 (n % 16) ∧ (n / 16 < 8 ↔ n % 16 < 8) := by
  unfold dpr at h
  simp only [Bool.and_eq_true, beq_iff_eq] at h
  refine ⟨i10_of h.1.1, i10_of h.1.2, ?_⟩
  have e := h.2
  rw [decide_eq_decide] at e
  exact e
theorem rl_tfr (a : AS) (b : Nat → Int32) (hd : dpr (fB a) = true) : Rl PT b false (bd (tc_fetchByte (mC a)) fun v8 s16 => tc_transfer s16 v8) (mo_exchange (mM a b false) 0) := by
  have hlt := fB_lt a
  obtain ⟨h1, h2, h3⟩ := dpr_of hd
  have e1 : nI (fB a) >>> ((4 : Int32) &&& 31) = nI (fB a / 16) := shr_nI (k := 4) (by omega) (by decide)
  have b1 : gv (fS a) (rg (fB a / 16)) < if fB a % 16 < 8 then 65536 else 256 := by
    have := gv_lt (fS a) h1
    by_cases q : fB a / 16 < 8
    · rw [if_pos (h3.mp q)]; rw [if_pos q] at this; exact this
    · rw [if_neg (fun z => q (h3.mpr z))]; rw [if_neg q] at this; exact this
  have g : ∀ (s : MS) (v2 v3 : Int32), mo_exchange_93 s 0 v2 v3 0 = bd (mo_get (my_und s 0) v2) fun v1 s2 => bd (mo_get s2 v3) fun _ s3 => bd (mo_set s3 v3 v1) fun _ s4 => some (0, s4) := fun _ _ _ => rfl
  rw [m_ex, hd, show bI (!true) = (0 : Int32) from rfl, g, my_und0, m_getr _ _ _ h1, bd_s, m_getr _ _ _ h2, bd_s, m_setr _ _ _ h2 _ b1, bd_s, c_fetchByte, bd_s]
  unfold tc_transfer
  rw [e1, pb_15 _ hlt, show tln 3 = 16 from rfl, ok_nI (show fB a % 16 < 16 by omega) (by decide), gd_t, ok_nI (show fB a / 16 < 16 by omega) (by decide), gd_t, nI_clamp (by omega), nI_clamp (by omega), tv3 h1, tv3 h2, c_getr _ h1, bd_s, c_becr _ h2, bd_s]
  exact ⟨0, _, rfl, rfl, trivial⟩
theorem gv_bc (a : AS) {i j : Nat} (hi : i10 i) (hj : i10 j) (hs : i < 8 ↔ j < 8) (hij : i ≠ j) (v : Nat) : gv (bc a (rg i) v) (rg j) = gv a (rg j) := by
  rcases hi with rfl | rfl | rfl | rfl | rfl | rfl | rfl | rfl | rfl | rfl <;> rcases hj with rfl | rfl | rfl | rfl | rfl | rfl | rfl | rfl | rfl | rfl <;> first
    | exact absurd rfl hij
    | exact absurd (hs.mp (by decide)) (by decide)
    | exact absurd (hs.mpr (by decide)) (by decide)
    | rfl
theorem rl_exg (a : AS) (b : Nat → Int32) (hd : dpr (fB a) = true) : Rl PT b false (bd (tc_fetchByte (mC a)) fun v8 s16 => tc_exchange s16 v8) (mo_exchange (mM a b false) 1) := by
  have hlt := fB_lt a
  obtain ⟨h1, h2, h3⟩ := dpr_of hd
  have e1 : nI (fB a) >>> ((4 : Int32) &&& 31) = nI (fB a / 16) := shr_nI (k := 4) (by omega) (by decide)
  have g : ∀ (s : MS) (v2 v3 : Int32), mo_exchange_93 s 1 v2 v3 0 = bd (mo_get (my_und s 0) v2) fun v1 s2 => bd (mo_get s2 v3) fun w2 s3 => bd (mo_set s3 v3 v1) fun _ s4 => bd (mo_set s4 v2 w2) fun _ s5 => some (0, s5) := fun _ _ _ => rfl
  have b1 : gv (fS a) (rg (fB a / 16)) < if fB a % 16 < 8 then 65536 else 256 := by
    have := gv_lt (fS a) h1
    by_cases q : fB a / 16 < 8
    · rw [if_pos (h3.mp q)]; rw [if_pos q] at this; exact this
    · rw [if_neg (fun z => q (h3.mpr z))]; rw [if_neg q] at this; exact this
  have b2 : gv (fS a) (rg (fB a % 16)) < if fB a / 16 < 8 then 65536 else 256 := by
    have := gv_lt (fS a) h2
    by_cases q : fB a % 16 < 8
    · rw [if_pos (h3.mpr q)]; rw [if_pos q] at this; exact this
    · rw [if_neg (fun z => q (h3.mp z))]; rw [if_neg q] at this; exact this
  rw [m_ex, hd, show bI (!true) = (0 : Int32) from rfl, g, my_und0, m_getr _ _ _ h1, bd_s, m_getr _ _ _ h2, bd_s, m_setr _ _ _ h2 _ b1, bd_s, m_setr _ _ _ h1 _ b2, bd_s, c_fetchByte, bd_s]
  unfold tc_exchange
  rw [e1, pb_15 _ hlt, show tln 3 = 16 from rfl, ok_nI (show fB a / 16 < 16 by omega) (by decide), gd_t, nm_d, ok_nI (show fB a % 16 < 16 by omega) (by decide), gd_t, nm_d, nI_clamp (by omega), nI_clamp (by omega), tv3 h1, tv3 h2, c_getr _ h1, bd_s, c_getr _ h2, bd_s, c_becr _ h1, bd_s, c_becr _ h2, bd_s]
  refine ⟨0, _, rfl, ?_, trivial⟩
  by_cases q : fB a / 16 = fB a % 16
  · rw [q]
    rfl
  · rw [sub_bc _ h1 h2 h3 _ _ q]
    rfl
