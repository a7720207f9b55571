theorem and_tp (v k : Nat) : v &&& 2 ^ k = if v.testBit k = true then 2 ^ k else 0 := by
  apply Nat.eq_of_testBit_eq
  intro i
  rw [Nat.testBit_and, Nat.testBit_two_pow]
  by_cases h : k = i
  · subst h
    cases hv : v.testBit k
    · simp
    · simp [Nat.testBit_two_pow]
  · rw [decide_eq_false h]
    cases hv : v.testBit k
    · simp
    · simp [Nat.testBit_two_pow, h]
theorem and_pow (v k : Nat) (hk : k < 32) : (nI v &&& nI (2 ^ k) = 0) ↔ v / 2 ^ k % 2 = 0 := by
  rw [and_nI, and_tp, Nat.testBit_eq_decide_div_mod_eq]
  have hp : v / 2 ^ k % 2 = 0 ∨ v / 2 ^ k % 2 = 1 := by omega
  rcases hp with h | h
  · rw [h]; simp [nI_0]
  · rw [h]
    simp only [decide_true, if_true]
    refine ⟨fun q => ?_, fun q => by omega⟩
    exfalso
    revert q
    exact (by decide +kernel : ∀ k, k < 32 → ¬ nI (2 ^ k) = 0) k hk
theorem tb_ge {x k : Nat} (h : x < 2 * 2 ^ k) : x.testBit k = decide (2 ^ k ≤ x) := by
  rw [Nat.testBit_eq_decide_div_mod_eq]
  have hp : 0 < 2 ^ k := Nat.two_pow_pos k
  by_cases q : 2 ^ k ≤ x
  · have h1 : x / 2 ^ k = 1 := by
      rw [Nat.div_eq_iff hp]
      omega
    rw [h1, decide_eq_true q]
    rfl
  · have h1 : x / 2 ^ k = 0 := Nat.div_eq_of_lt (by omega)
    rw [h1, decide_eq_false q]
    rfl
theorem ov_bit (x y r k : Nat) (hk : k < 32) : (((nI x ^^^ nI r) &&& (nI y ^^^ nI r)) &&& nI (2 ^ k) = 0) ↔ ((x.testBit k ^^ r.testBit k) && (y.testBit k ^^ r.testBit k)) = false := by
  rw [xor_nI, xor_nI, and_nI, and_pow _ _ hk, ← Nat.testBit_xor, ← Nat.testBit_xor, ← Nat.testBit_and, Nat.testBit_eq_decide_div_mod_eq]
  rw [decide_eq_false_iff_not]
  omega
theorem uv_bit (x y r k : Nat) (hk : k < 32) : (((nI x ^^^ nI y) &&& (nI x ^^^ nI r)) &&& nI (2 ^ k) = 0) ↔ ((x.testBit k ^^ y.testBit k) && (x.testBit k ^^ r.testBit k)) = false := by
  rw [xor_nI, xor_nI, and_nI, and_pow _ _ hk, ← Nat.testBit_xor, ← Nat.testBit_xor, ← Nat.testBit_and, Nat.testBit_eq_decide_div_mod_eq]
  rw [decide_eq_false_iff_not]
  omega
theorem gR8 (a : AS) (v : Nat) : gR (sR a 8 v) 8 = v % 256 := rfl
theorem if_b {α : Type} (p : Prop) [Decidable p] (x y : α) (f : Bool → α) (h1 : f true = x) (h2 : f false = y) : (if p then x else y) = f (decide p) := by
  by_cases h : p
  · rw [if_pos h, decide_eq_true h, h1]
  · rw [if_neg h, decide_eq_false h, h2]
theorem if_n {α : Type} (p : Prop) [Decidable p] (x y : α) (f : Bool → α) (h1 : f true = y) (h2 : f false = x) : (if p then x else y) = f (decide (¬ p)) := by
  by_cases h : p
  · rw [if_pos h, decide_eq_false (fun q => q h), h2]
  · rw [if_neg h, decide_eq_true h, h1]
theorem dec_iff {p q : Prop} [Decidable p] [Decidable q] (h : p ↔ q) : decide p = decide q := by
  by_cases hp : p
  · rw [decide_eq_true hp, decide_eq_true (h.mp hp)]
  · rw [decide_eq_false hp, decide_eq_false (fun z => hp (h.mpr z))]
theorem c_ss22 (a : AS) (zb nb : Bool) : re_setSign_22 (mC a) (if zb = true then (4 : Int32) else 0) (if nb = true then (8 : Int32) else 0) = some (nI 0, mC (sR a 8 (fl (fl (gR a 8) 4 zb) 8 nb))) := by
  have h : ∀ z n : Int32, re_setSign_22 (mC a) z n = some (nI 0, cy_reg (mC a) (upd (cx_reg (mC a)) 8 (((nI (gR a 8 % 256) &&& (-13 : Int32)) ||| z) ||| n))) := fun _ _ => rfl
  rw [h, fl_sign _ (Nat.mod_lt _ (by decide)) zb nb, fl_mod]
  exact congrArg (fun z => some (nI 0, z)) (cy_reg_e a 8 _)
def fP (c v T : Nat) : Nat := fl (fl (fl c 2 false) 4 (decide (v = 0))) 8 (decide (T ≤ v))
theorem fl_o1 (c : Nat) (n z : Bool) : fl (fl (fl c 8 n) 4 z) 2 false = fl (fl (fl c 2 false) 4 z) 8 n := by
  rw [← fl_mod c 8, ← fl_mod c 2]
  exact (by decide +kernel : ∀ c, c < 256 → ∀ n z : Bool, fl (fl (fl c 8 n) 4 z) 2 false = fl (fl (fl c 2 false) 4 z) 8 n) _ (Nat.mod_lt _ (by decide)) n z
theorem fl_o2 (c : Nat) (cy v n z : Bool) : fl (fl (fl (fl c 1 cy) 2 v) 8 n) 4 z = fl (fl (fl (fl c 2 v) 1 cy) 4 z) 8 n := by
  rw [← fl_mod c 1, ← fl_mod c 2]
  exact (by decide +kernel : ∀ c, c < 256 → ∀ cy v n z : Bool, fl (fl (fl (fl c 1 cy) 2 v) 8 n) 4 z = fl (fl (fl (fl c 2 v) 1 cy) 4 z) 8 n) _ (Nat.mod_lt _ (by decide)) cy v n z
def ovA (x y r k : Nat) : Bool := (x.testBit k ^^ r.testBit k) && (y.testBit k ^^ r.testBit k)
def ovS (x y r k : Nat) : Bool := (x.testBit k ^^ y.testBit k) && (x.testBit k ^^ r.testBit k)
/-- flags behind a sum: T is 2 ^ k -/
def fA (c x y q k : Nat) : Nat := fl (fl (fl (fl c 2 (ovA x y ((x + y + q) % (2 * 2 ^ k)) k)) 1 (decide (2 * 2 ^ k ≤ x + y + q))) 4 (decide ((x + y + q) % (2 * 2 ^ k) = 0))) 8 (decide (2 ^ k ≤ (x + y + q) % (2 * 2 ^ k)))
/-- the rest, and flags behind a difference -/
def rS (x y q k : Nat) : Nat := (x + (2 * 2 ^ k - (y + q))) % (2 * 2 ^ k)
def fU (c x y q k : Nat) : Nat := fl (fl (fl (fl c 2 (ovS x y (rS x y q k) k)) 1 (decide (x < y + q))) 4 (decide (rS x y q k = 0))) 8 (decide (2 ^ k ≤ rS x y q k))
theorem tst8 (v : Nat) : (nI v &&& (128 : Int32) = 0) ↔ ¬ 128 ≤ v % 256 := by
  rw [show (128 : Int32) = nI (2 ^ 7) from rfl, and_pow v 7 (by decide)]
  omega
theorem tsz8 (v : Nat) : (nI v &&& (255 : Int32) = 0) ↔ v % 256 = 0 := by
  rw [and255]
  unfold w8
  rw [← nI_0]
  exact nI_eq (by omega) (by omega)
theorem c_setSign8 (a : AS) (v : Nat) (hv : v < 256) : re_setSign (mC a) (nI v) 128 = some (nI 0, mC (sR a 8 (fl (fl (gR a 8) 4 (decide (v = 0))) 8 (decide (128 ≤ v))))) := by
  unfold re_setSign re_setSign_9
  have h1 : (nI v = 0) ↔ v = 0 := by rw [← nI_0]; exact nI_eq (by omega) (by omega)
  have h2 : (nI v &&& (128 : Int32) = 0) ↔ ¬ 128 ≤ v := by rw [tst8, Nat.mod_eq_of_lt hv]
  simp only [h1, h2]
  by_cases z : v = 0
  · by_cases n : 128 ≤ v
    · omega
    · rw [if_pos z, if_pos n, decide_eq_true z, decide_eq_false n]; exact c_ss22 a true false
  · by_cases n : 128 ≤ v
    · rw [if_neg z, if_neg (fun q => q n), decide_eq_false z, decide_eq_true n]; exact c_ss22 a false true
    · rw [if_neg z, if_pos n, decide_eq_false z, decide_eq_false n]; exact c_ss22 a false false
theorem m_shows8 (a : AS) (b : Nat → Int32) (u : Bool) (v : Nat) : mo_shows (mM a b u) (nI v) 0 = some (nI 0, mM (sR a 8 (fl (fl (gR a 8) 8 (decide (128 ≤ v % 256))) 4 (decide (v % 256 = 0)))) b u) := by
  have h : mo_shows (mM a b u) (nI v) 0 = mo_shows_16 (mM a b u) (nI v) 0 128 (nI v) 8 := rfl
  have g : ∀ s : MS, ∀ t : Int32, mo_shows_25 s (nI v) 0 t 8 = bd (mo_flag s 8 t) fun _ s1 => mo_shows_43 s1 255 (nI v) 4 := fun _ _ => rfl
  rw [h]
  unfold mo_shows_16
  rw [g, g]
  unfold mo_shows_43 mo_shows_52
  simp only [tst8, tsz8]
  by_cases n : 128 ≤ v % 256
  · rw [if_neg (fun q => q n), m_flag8_1, bd_s, decide_eq_true n]
    by_cases z : v % 256 = 0
    · omega
    · rw [if_neg z, m_flag4_0, bd_s, decide_eq_false z, sR_sR, gR8, fl_mod]; rfl
  · rw [if_pos n, m_flag8_0, bd_s, decide_eq_false n]
    by_cases z : v % 256 = 0
    · rw [if_pos z, m_flag4_1, bd_s, decide_eq_true z, sR_sR, gR8, fl_mod]; rfl
    · rw [if_neg z, m_flag4_0, bd_s, decide_eq_false z, sR_sR, gR8, fl_mod]; rfl
theorem c_pass8 (a : AS) (v : Nat) (hv : v < 256) : ar_pass (mC a) (nI v) 128 = some (nI v, mC (sR a 8 (fP (gR a 8) v 128))) := by
  unfold ar_pass
  rw [c_turn2_0, bd_s, c_setSign8 _ _ hv, bd_s, sR_sR, gR8, fl_mod]
  rfl
theorem m_moved8 (a : AS) (b : Nat → Int32) (u : Bool) (v : Nat) (hv : v < 256) : mo_moved (mM a b u) (nI v) 0 = some (nI v, mM (sR a 8 (fP (gR a 8) v 128)) b u) := by
  unfold mo_moved
  rw [m_shows8, bd_s, m_flag2_0, bd_s, sR_sR, gR8, fl_mod, fl_o1, Nat.mod_eq_of_lt hv]
  rfl
theorem c_add8 (a : AS) (x y q : Nat) (hx : x < 256) (hy : y < 256) (hq : q ≤ 1) : ar_add (mC a) (nI x) (nI y) (nI q) 128 = some (nI ((x + y + q) % 256), mC (sR a 8 (fA (gR a 8) x y q 7))) := by
  unfold ar_add
  rw [nm_d, nm_d, show ((2 : Int32) * 128) - 1 = 255 by decide, nI_add, nI_add, and255]
  unfold w8
  have e1 : (((nI x ^^^ nI ((x + y + q) % 256)) &&& (nI y ^^^ nI ((x + y + q) % 256))) &&& (128 : Int32) = 0) ↔ ovA x y ((x + y + q) % 256) 7 = false := ov_bit x y _ 7 (by decide)
  have e2 : (nI (x + y + q) = nI ((x + y + q) % 256)) ↔ ¬ 256 ≤ x + y + q := by
    rw [nI_eq (by omega) (by omega)]
    omega
  unfold ar_add_43 ar_add_63
  simp only [e1, e2]
  have hr : (x + y + q) % 256 < 256 := Nat.mod_lt _ (by decide)
  by_cases v : ovA x y ((x + y + q) % 256) 7 = false
  · rw [if_pos v, c_turn2_0, bd_s]
    by_cases c : 256 ≤ x + y + q
    · rw [if_neg (fun z => z c), c_turn1_1, bd_s, c_setSign8 _ _ hr, bd_s]
      simp only [sR_sR, gR8, fl_mod]
      unfold fA
      rw [show 2 * 2 ^ 7 = 256 from rfl, show 2 ^ 7 = 128 from rfl, v, decide_eq_true c]
    · rw [if_pos c, c_turn1_0, bd_s, c_setSign8 _ _ hr, bd_s]
      simp only [sR_sR, gR8, fl_mod]
      unfold fA
      rw [show 2 * 2 ^ 7 = 256 from rfl, show 2 ^ 7 = 128 from rfl, v, decide_eq_false c]
  · rw [if_neg v, c_turn2_1, bd_s]
    have v2 : ovA x y ((x + y + q) % 256) 7 = true := by
      revert v
      cases ovA x y ((x + y + q) % 256) 7 <;> simp
    by_cases c : 256 ≤ x + y + q
    · rw [if_neg (fun z => z c), c_turn1_1, bd_s, c_setSign8 _ _ hr, bd_s]
      simp only [sR_sR, gR8, fl_mod]
      unfold fA
      rw [show 2 * 2 ^ 7 = 256 from rfl, show 2 ^ 7 = 128 from rfl, v2, decide_eq_true c]
    · rw [if_pos c, c_turn1_0, bd_s, c_setSign8 _ _ hr, bd_s]
      simp only [sR_sR, gR8, fl_mod]
      unfold fA
      rw [show 2 * 2 ^ 7 = 256 from rfl, show 2 ^ 7 = 128 from rfl, v2, decide_eq_false c]
theorem c_sub8 (a : AS) (x y q : Nat) (hx : x < 256) (hy : y < 256) (hq : q ≤ 1) : ar_subtract (mC a) (nI x) (nI y) (nI q) 128 = some (nI (rS x y q 7), mC (sR a 8 (fU (gR a 8) x y q 7))) := by
  unfold ar_subtract
  have e0 : (nI x - nI y) - nI q = nI x - nI (y + q) := by rw [← nI_add]; grind
  have e4 : (nI x - nI (y + q)) &&& (255 : Int32) = nI (rS x y q 7) := by
    rw [sub_nI, and255]
    unfold w8 rS
    rw [show 2 * 2 ^ 7 = 256 from rfl]
    congr 1
    omega
  rw [nm_d, nm_d, show ((2 : Int32) * 128) - 1 = 255 by decide, e0, e4]
  have hr : rS x y q 7 < 256 := Nat.mod_lt _ (by decide)
  generalize hrr : rS x y q 7 = r at hr
  have e1 : (((nI x ^^^ nI y) &&& (nI x ^^^ nI r)) &&& (128 : Int32) = 0) ↔ ovS x y r 7 = false := uv_bit x y r 7 (by decide)
  have e2 : (0 ≤ nI x - nI (y + q)) ↔ ¬ x < y + q := by
    rw [Int32.le_iff_toInt_le, pk_sub_toInt (by omega) (by omega), Int32.toInt_zero]
    omega
  unfold ar_subtract_42 ar_subtract_60
  simp only [e1, e2]
  by_cases v : ovS x y r 7 = false
  · rw [if_pos v, c_turn2_0, bd_s]
    by_cases c : x < y + q
    · rw [if_neg (fun z => z c), c_turn1_1, bd_s, c_setSign8 _ _ hr, bd_s]
      simp only [sR_sR, gR8, fl_mod]
      unfold fU
      rw [hrr, show 2 ^ 7 = 128 from rfl, v, decide_eq_true c]
    · rw [if_pos c, c_turn1_0, bd_s, c_setSign8 _ _ hr, bd_s]
      simp only [sR_sR, gR8, fl_mod]
      unfold fU
      rw [hrr, show 2 ^ 7 = 128 from rfl, v, decide_eq_false c]
  · rw [if_neg v, c_turn2_1, bd_s]
    have v2 : ovS x y r 7 = true := by
      revert v
      cases ovS x y r 7 <;> simp
    by_cases c : x < y + q
    · rw [if_neg (fun z => z c), c_turn1_1, bd_s, c_setSign8 _ _ hr, bd_s]
      simp only [sR_sR, gR8, fl_mod]
      unfold fU
      rw [hrr, show 2 ^ 7 = 128 from rfl, v2, decide_eq_true c]
    · rw [if_pos c, c_turn1_0, bd_s, c_setSign8 _ _ hr, bd_s]
      simp only [sR_sR, gR8, fl_mod]
      unfold fU
      rw [hrr, show 2 ^ 7 = 128 from rfl, v2, decide_eq_false c]
theorem tst16 (v : Nat) : (nI v &&& (32768 : Int32) = 0) ↔ ¬ 32768 ≤ v % 65536 := by
  rw [show (32768 : Int32) = nI (2 ^ 15) from rfl, and_pow v 15 (by decide)]
  omega
theorem tsz16 (v : Nat) : (nI v &&& (65535 : Int32) = 0) ↔ v % 65536 = 0 := by
  rw [and65535]
  unfold w16
  rw [← nI_0]
  exact nI_eq (by omega) (by omega)
theorem c_setSign16 (a : AS) (v : Nat) (hv : v < 65536) : re_setSign (mC a) (nI v) 32768 = some (nI 0, mC (sR a 8 (fl (fl (gR a 8) 4 (decide (v = 0))) 8 (decide (32768 ≤ v))))) := by
  unfold re_setSign re_setSign_9
  have h1 : (nI v = 0) ↔ v = 0 := by rw [← nI_0]; exact nI_eq (by omega) (by omega)
  have h2 : (nI v &&& (32768 : Int32) = 0) ↔ ¬ 32768 ≤ v := by rw [tst16, Nat.mod_eq_of_lt hv]
  simp only [h1, h2]
  by_cases z : v = 0
  · by_cases n : 32768 ≤ v
    · omega
    · rw [if_pos z, if_pos n, decide_eq_true z, decide_eq_false n]; exact c_ss22 a true false
  · by_cases n : 32768 ≤ v
    · rw [if_neg z, if_neg (fun q => q n), decide_eq_false z, decide_eq_true n]; exact c_ss22 a false true
    · rw [if_neg z, if_pos n, decide_eq_false z, decide_eq_false n]; exact c_ss22 a false false
theorem m_shows16 (a : AS) (b : Nat → Int32) (u : Bool) (v : Nat) : mo_shows (mM a b u) (nI v) 1 = some (nI 0, mM (sR a 8 (fl (fl (gR a 8) 8 (decide (32768 ≤ v % 65536))) 4 (decide (v % 65536 = 0)))) b u) := by
  have h : mo_shows (mM a b u) (nI v) 1 = mo_shows_16 (mM a b u) (nI v) 1 32768 (nI v) 8 := rfl
  have g : ∀ s : MS, ∀ t : Int32, mo_shows_25 s (nI v) 1 t 8 = bd (mo_flag s 8 t) fun _ s1 => mo_shows_43 s1 65535 (nI v) 4 := fun _ _ => rfl
  rw [h]
  unfold mo_shows_16
  rw [g, g]
  unfold mo_shows_43 mo_shows_52
  simp only [tst16, tsz16]
  by_cases n : 32768 ≤ v % 65536
  · rw [if_neg (fun q => q n), m_flag8_1, bd_s, decide_eq_true n]
    by_cases z : v % 65536 = 0
    · omega
    · rw [if_neg z, m_flag4_0, bd_s, decide_eq_false z, sR_sR, gR8, fl_mod]; rfl
  · rw [if_pos n, m_flag8_0, bd_s, decide_eq_false n]
    by_cases z : v % 65536 = 0
    · rw [if_pos z, m_flag4_1, bd_s, decide_eq_true z, sR_sR, gR8, fl_mod]; rfl
    · rw [if_neg z, m_flag4_0, bd_s, decide_eq_false z, sR_sR, gR8, fl_mod]; rfl
theorem c_pass16 (a : AS) (v : Nat) (hv : v < 65536) : ar_pass (mC a) (nI v) 32768 = some (nI v, mC (sR a 8 (fP (gR a 8) v 32768))) := by
  unfold ar_pass
  rw [c_turn2_0, bd_s, c_setSign16 _ _ hv, bd_s, sR_sR, gR8, fl_mod]
  rfl
theorem m_moved16 (a : AS) (b : Nat → Int32) (u : Bool) (v : Nat) (hv : v < 65536) : mo_moved (mM a b u) (nI v) 1 = some (nI v, mM (sR a 8 (fP (gR a 8) v 32768)) b u) := by
  unfold mo_moved
  rw [m_shows16, bd_s, m_flag2_0, bd_s, sR_sR, gR8, fl_mod, fl_o1, Nat.mod_eq_of_lt hv]
  rfl
theorem c_add16 (a : AS) (x y q : Nat) (hx : x < 65536) (hy : y < 65536) (hq : q ≤ 1) : ar_add (mC a) (nI x) (nI y) (nI q) 32768 = some (nI ((x + y + q) % 65536), mC (sR a 8 (fA (gR a 8) x y q 15))) := by
  unfold ar_add
  rw [nm_d, nm_d, show ((2 : Int32) * 32768) - 1 = 65535 by decide, nI_add, nI_add, and65535]
  unfold w16
  have e1 : (((nI x ^^^ nI ((x + y + q) % 65536)) &&& (nI y ^^^ nI ((x + y + q) % 65536))) &&& (32768 : Int32) = 0) ↔ ovA x y ((x + y + q) % 65536) 15 = false := ov_bit x y _ 15 (by decide)
  have e2 : (nI (x + y + q) = nI ((x + y + q) % 65536)) ↔ ¬ 65536 ≤ x + y + q := by
    rw [nI_eq (by omega) (by omega)]
    omega
  unfold ar_add_43 ar_add_63
  simp only [e1, e2]
  have hr : (x + y + q) % 65536 < 65536 := Nat.mod_lt _ (by decide)
  by_cases v : ovA x y ((x + y + q) % 65536) 15 = false
  · rw [if_pos v, c_turn2_0, bd_s]
    by_cases c : 65536 ≤ x + y + q
    · rw [if_neg (fun z => z c), c_turn1_1, bd_s, c_setSign16 _ _ hr, bd_s]
      simp only [sR_sR, gR8, fl_mod]
      unfold fA
      rw [show 2 * 2 ^ 15 = 65536 from rfl, show 2 ^ 15 = 32768 from rfl, v, decide_eq_true c]
    · rw [if_pos c, c_turn1_0, bd_s, c_setSign16 _ _ hr, bd_s]
      simp only [sR_sR, gR8, fl_mod]
      unfold fA
      rw [show 2 * 2 ^ 15 = 65536 from rfl, show 2 ^ 15 = 32768 from rfl, v, decide_eq_false c]
  · rw [if_neg v, c_turn2_1, bd_s]
    have v2 : ovA x y ((x + y + q) % 65536) 15 = true := by
      revert v
      cases ovA x y ((x + y + q) % 65536) 15 <;> simp
    by_cases c : 65536 ≤ x + y + q
    · rw [if_neg (fun z => z c), c_turn1_1, bd_s, c_setSign16 _ _ hr, bd_s]
      simp only [sR_sR, gR8, fl_mod]
      unfold fA
      rw [show 2 * 2 ^ 15 = 65536 from rfl, show 2 ^ 15 = 32768 from rfl, v2, decide_eq_true c]
    · rw [if_pos c, c_turn1_0, bd_s, c_setSign16 _ _ hr, bd_s]
      simp only [sR_sR, gR8, fl_mod]
      unfold fA
      rw [show 2 * 2 ^ 15 = 65536 from rfl, show 2 ^ 15 = 32768 from rfl, v2, decide_eq_false c]
theorem c_sub16 (a : AS) (x y q : Nat) (hx : x < 65536) (hy : y < 65536) (hq : q ≤ 1) : ar_subtract (mC a) (nI x) (nI y) (nI q) 32768 = some (nI (rS x y q 15), mC (sR a 8 (fU (gR a 8) x y q 15))) := by
  unfold ar_subtract
  have e0 : (nI x - nI y) - nI q = nI x - nI (y + q) := by rw [← nI_add]; grind
  have e4 : (nI x - nI (y + q)) &&& (65535 : Int32) = nI (rS x y q 15) := by
    rw [sub_nI, and65535]
    unfold w16 rS
    rw [show 2 * 2 ^ 15 = 65536 from rfl]
    congr 1
    omega
  rw [nm_d, nm_d, show ((2 : Int32) * 32768) - 1 = 65535 by decide, e0, e4]
  have hr : rS x y q 15 < 65536 := Nat.mod_lt _ (by decide)
  generalize hrr : rS x y q 15 = r at hr
  have e1 : (((nI x ^^^ nI y) &&& (nI x ^^^ nI r)) &&& (32768 : Int32) = 0) ↔ ovS x y r 15 = false := uv_bit x y r 15 (by decide)
  have e2 : (0 ≤ nI x - nI (y + q)) ↔ ¬ x < y + q := by
    rw [Int32.le_iff_toInt_le, pk_sub_toInt (by omega) (by omega), Int32.toInt_zero]
    omega
  unfold ar_subtract_42 ar_subtract_60
  simp only [e1, e2]
  by_cases v : ovS x y r 15 = false
  · rw [if_pos v, c_turn2_0, bd_s]
    by_cases c : x < y + q
    · rw [if_neg (fun z => z c), c_turn1_1, bd_s, c_setSign16 _ _ hr, bd_s]
      simp only [sR_sR, gR8, fl_mod]
      unfold fU
      rw [hrr, show 2 ^ 15 = 32768 from rfl, v, decide_eq_true c]
    · rw [if_pos c, c_turn1_0, bd_s, c_setSign16 _ _ hr, bd_s]
      simp only [sR_sR, gR8, fl_mod]
      unfold fU
      rw [hrr, show 2 ^ 15 = 32768 from rfl, v, decide_eq_false c]
  · rw [if_neg v, c_turn2_1, bd_s]
    have v2 : ovS x y r 15 = true := by
      revert v
      cases ovS x y r 15 <;> simp
    by_cases c : x < y + q
    · rw [if_neg (fun z => z c), c_turn1_1, bd_s, c_setSign16 _ _ hr, bd_s]
      simp only [sR_sR, gR8, fl_mod]
      unfold fU
      rw [hrr, show 2 ^ 15 = 32768 from rfl, v2, decide_eq_true c]
    · rw [if_pos c, c_turn1_0, bd_s, c_setSign16 _ _ hr, bd_s]
      simp only [sR_sR, gR8, fl_mod]
      unfold fU
      rw [hrr, show 2 ^ 15 = 32768 from rfl, v2, decide_eq_false c]
