-- a flag of a byte
def fl (c f : Nat) (on : Bool) : Nat := if on = true then c % 256 ||| f else c % 256 &&& (255 - f)
theorem tn_1 : ∀ c, c < 256 → nI c &&& ((1 : Int32) ^^^ (-1 : Int32)) = nI ((c &&& (255 - 1)) % 256) := by decide +kernel
theorem to_1 : ∀ c, c < 256 → nI c ||| (1 : Int32) = nI ((c ||| 1) % 256) := by decide +kernel
theorem ti_1 : ∀ c, c < 256 → (nI c &&& (1 : Int32) = 0 ↔ c &&& 1 = 0) := by decide +kernel
theorem tn_2 : ∀ c, c < 256 → nI c &&& ((2 : Int32) ^^^ (-1 : Int32)) = nI ((c &&& (255 - 2)) % 256) := by decide +kernel
theorem to_2 : ∀ c, c < 256 → nI c ||| (2 : Int32) = nI ((c ||| 2) % 256) := by decide +kernel
theorem ti_2 : ∀ c, c < 256 → (nI c &&& (2 : Int32) = 0 ↔ c &&& 2 = 0) := by decide +kernel
theorem tn_4 : ∀ c, c < 256 → nI c &&& ((4 : Int32) ^^^ (-1 : Int32)) = nI ((c &&& (255 - 4)) % 256) := by decide +kernel
theorem to_4 : ∀ c, c < 256 → nI c ||| (4 : Int32) = nI ((c ||| 4) % 256) := by decide +kernel
theorem ti_4 : ∀ c, c < 256 → (nI c &&& (4 : Int32) = 0 ↔ c &&& 4 = 0) := by decide +kernel
theorem tn_8 : ∀ c, c < 256 → nI c &&& ((8 : Int32) ^^^ (-1 : Int32)) = nI ((c &&& (255 - 8)) % 256) := by decide +kernel
theorem to_8 : ∀ c, c < 256 → nI c ||| (8 : Int32) = nI ((c ||| 8) % 256) := by decide +kernel
theorem ti_8 : ∀ c, c < 256 → (nI c &&& (8 : Int32) = 0 ↔ c &&& 8 = 0) := by decide +kernel
theorem tn_16 : ∀ c, c < 256 → nI c &&& ((16 : Int32) ^^^ (-1 : Int32)) = nI ((c &&& (255 - 16)) % 256) := by decide +kernel
theorem to_16 : ∀ c, c < 256 → nI c ||| (16 : Int32) = nI ((c ||| 16) % 256) := by decide +kernel
theorem ti_16 : ∀ c, c < 256 → (nI c &&& (16 : Int32) = 0 ↔ c &&& 16 = 0) := by decide +kernel
theorem tn_32 : ∀ c, c < 256 → nI c &&& ((32 : Int32) ^^^ (-1 : Int32)) = nI ((c &&& (255 - 32)) % 256) := by decide +kernel
theorem to_32 : ∀ c, c < 256 → nI c ||| (32 : Int32) = nI ((c ||| 32) % 256) := by decide +kernel
theorem ti_32 : ∀ c, c < 256 → (nI c &&& (32 : Int32) = 0 ↔ c &&& 32 = 0) := by decide +kernel
theorem tn_64 : ∀ c, c < 256 → nI c &&& ((64 : Int32) ^^^ (-1 : Int32)) = nI ((c &&& (255 - 64)) % 256) := by decide +kernel
theorem to_64 : ∀ c, c < 256 → nI c ||| (64 : Int32) = nI ((c ||| 64) % 256) := by decide +kernel
theorem ti_64 : ∀ c, c < 256 → (nI c &&& (64 : Int32) = 0 ↔ c &&& 64 = 0) := by decide +kernel
theorem tn_80 : ∀ c, c < 256 → nI c &&& ((80 : Int32) ^^^ (-1 : Int32)) = nI ((c &&& (255 - 80)) % 256) := by decide +kernel
theorem to_80 : ∀ c, c < 256 → nI c ||| (80 : Int32) = nI ((c ||| 80) % 256) := by decide +kernel
theorem ti_80 : ∀ c, c < 256 → (nI c &&& (80 : Int32) = 0 ↔ c &&& 80 = 0) := by decide +kernel
theorem tn_128 : ∀ c, c < 256 → nI c &&& ((128 : Int32) ^^^ (-1 : Int32)) = nI ((c &&& (255 - 128)) % 256) := by decide +kernel
theorem to_128 : ∀ c, c < 256 → nI c ||| (128 : Int32) = nI ((c ||| 128) % 256) := by decide +kernel
theorem ti_128 : ∀ c, c < 256 → (nI c &&& (128 : Int32) = 0 ↔ c &&& 128 = 0) := by decide +kernel
theorem c_put8 (a : AS) (v : Nat) : re_turn_33 (mC a) (nI (v % 256)) 8 = some (nI 0, mC (sR a 8 v)) := by
  have h : re_turn_33 (mC a) (nI (v % 256)) 8 = some (nI 0, cy_reg (mC a) (upd (cx_reg (mC a)) 8 (nI (v % 256)))) := rfl
  rw [h]
  exact congrArg (fun z => some (nI 0, z)) (cy_reg_e a 8 v)
theorem m_put8 (a : AS) (b : Nat → Int32) (u : Bool) (v : Nat) : mo_flag_33 (mM a b u) (nI (v % 256)) 8 = some (nI 0, mM (sR a 8 v) b u) := by
  have h : mo_flag_33 (mM a b u) (nI (v % 256)) 8 = some (nI 0, my_reg (mM a b u) (upd (mx_reg (mM a b u)) 8 (nI (v % 256)))) := rfl
  rw [h]
  exact congrArg (fun z => some (nI 0, z)) (my_reg_e a b u 8 v)
theorem c_turn1_0 (a : AS) : re_turn (mC a) 1 0 = some (nI 0, mC (sR a 8 (fl (gR a 8) 1 false))) := by
  have h : re_turn (mC a) 1 0 = re_turn_33 (mC a) (nI (gR a 8 % 256) &&& ((1 : Int32) ^^^ (-1 : Int32))) 8 := rfl
  rw [h, tn_1 _ (Nat.mod_lt _ (by decide)), c_put8]
  rfl
theorem m_flag1_0 (a : AS) (b : Nat → Int32) (u : Bool) : mo_flag (mM a b u) 1 0 = some (nI 0, mM (sR a 8 (fl (gR a 8) 1 false)) b u) := by
  have h : mo_flag (mM a b u) 1 0 = mo_flag_33 (mM a b u) (nI (gR a 8 % 256) &&& ((1 : Int32) ^^^ (-1 : Int32))) 8 := rfl
  rw [h, tn_1 _ (Nat.mod_lt _ (by decide)), m_put8]
  rfl
theorem c_turn1_1 (a : AS) : re_turn (mC a) 1 1 = some (nI 0, mC (sR a 8 (fl (gR a 8) 1 true))) := by
  have h : re_turn (mC a) 1 1 = re_turn_33 (mC a) (nI (gR a 8 % 256) ||| (1 : Int32)) 8 := rfl
  rw [h, to_1 _ (Nat.mod_lt _ (by decide)), c_put8]
  rfl
theorem m_flag1_1 (a : AS) (b : Nat → Int32) (u : Bool) : mo_flag (mM a b u) 1 1 = some (nI 0, mM (sR a 8 (fl (gR a 8) 1 true)) b u) := by
  have h : mo_flag (mM a b u) 1 1 = mo_flag_33 (mM a b u) (nI (gR a 8 % 256) ||| (1 : Int32)) 8 := rfl
  rw [h, to_1 _ (Nat.mod_lt _ (by decide)), m_put8]
  rfl
theorem c_has1 (a : AS) : re_has (mC a) 1 = some (bI (decide (¬ (gR a 8 % 256) &&& 1 = 0)), mC a) := by
  have h : re_has (mC a) 1 = if nI (gR a 8 % 256) &&& (1 : Int32) = 0 then re_has_17 (mC a) 0 else re_has_17 (mC a) 1 := rfl
  rw [h]
  by_cases q : gR a 8 % 256 &&& 1 = 0
  · rw [if_pos ((ti_1 _ (Nat.mod_lt _ (by decide))).mpr q)]; simp only [q, not_true, decide_false]; rfl
  · rw [if_neg (fun z => q ((ti_1 _ (Nat.mod_lt _ (by decide))).mp z))]; simp only [q, not_false_iff, decide_true]; rfl
theorem m_is1 (a : AS) (b : Nat → Int32) (u : Bool) : mo_is (mM a b u) 1 = some (bI (decide (¬ (gR a 8 % 256) &&& 1 = 0)), mM a b u) := by
  have h : mo_is (mM a b u) 1 = if nI (gR a 8 % 256) &&& (1 : Int32) = 0 then mo_is_17 (mM a b u) 0 else mo_is_17 (mM a b u) 1 := rfl
  rw [h]
  by_cases q : gR a 8 % 256 &&& 1 = 0
  · rw [if_pos ((ti_1 _ (Nat.mod_lt _ (by decide))).mpr q)]; simp only [q, not_true, decide_false]; rfl
  · rw [if_neg (fun z => q ((ti_1 _ (Nat.mod_lt _ (by decide))).mp z))]; simp only [q, not_false_iff, decide_true]; rfl
theorem c_turn2_0 (a : AS) : re_turn (mC a) 2 0 = some (nI 0, mC (sR a 8 (fl (gR a 8) 2 false))) := by
  have h : re_turn (mC a) 2 0 = re_turn_33 (mC a) (nI (gR a 8 % 256) &&& ((2 : Int32) ^^^ (-1 : Int32))) 8 := rfl
  rw [h, tn_2 _ (Nat.mod_lt _ (by decide)), c_put8]
  rfl
theorem m_flag2_0 (a : AS) (b : Nat → Int32) (u : Bool) : mo_flag (mM a b u) 2 0 = some (nI 0, mM (sR a 8 (fl (gR a 8) 2 false)) b u) := by
  have h : mo_flag (mM a b u) 2 0 = mo_flag_33 (mM a b u) (nI (gR a 8 % 256) &&& ((2 : Int32) ^^^ (-1 : Int32))) 8 := rfl
  rw [h, tn_2 _ (Nat.mod_lt _ (by decide)), m_put8]
  rfl
theorem c_turn2_1 (a : AS) : re_turn (mC a) 2 1 = some (nI 0, mC (sR a 8 (fl (gR a 8) 2 true))) := by
  have h : re_turn (mC a) 2 1 = re_turn_33 (mC a) (nI (gR a 8 % 256) ||| (2 : Int32)) 8 := rfl
  rw [h, to_2 _ (Nat.mod_lt _ (by decide)), c_put8]
  rfl
theorem m_flag2_1 (a : AS) (b : Nat → Int32) (u : Bool) : mo_flag (mM a b u) 2 1 = some (nI 0, mM (sR a 8 (fl (gR a 8) 2 true)) b u) := by
  have h : mo_flag (mM a b u) 2 1 = mo_flag_33 (mM a b u) (nI (gR a 8 % 256) ||| (2 : Int32)) 8 := rfl
  rw [h, to_2 _ (Nat.mod_lt _ (by decide)), m_put8]
  rfl
theorem c_has2 (a : AS) : re_has (mC a) 2 = some (bI (decide (¬ (gR a 8 % 256) &&& 2 = 0)), mC a) := by
  have h : re_has (mC a) 2 = if nI (gR a 8 % 256) &&& (2 : Int32) = 0 then re_has_17 (mC a) 0 else re_has_17 (mC a) 1 := rfl
  rw [h]
  by_cases q : gR a 8 % 256 &&& 2 = 0
  · rw [if_pos ((ti_2 _ (Nat.mod_lt _ (by decide))).mpr q)]; simp only [q, not_true, decide_false]; rfl
  · rw [if_neg (fun z => q ((ti_2 _ (Nat.mod_lt _ (by decide))).mp z))]; simp only [q, not_false_iff, decide_true]; rfl
theorem m_is2 (a : AS) (b : Nat → Int32) (u : Bool) : mo_is (mM a b u) 2 = some (bI (decide (¬ (gR a 8 % 256) &&& 2 = 0)), mM a b u) := by
  have h : mo_is (mM a b u) 2 = if nI (gR a 8 % 256) &&& (2 : Int32) = 0 then mo_is_17 (mM a b u) 0 else mo_is_17 (mM a b u) 1 := rfl
  rw [h]
  by_cases q : gR a 8 % 256 &&& 2 = 0
  · rw [if_pos ((ti_2 _ (Nat.mod_lt _ (by decide))).mpr q)]; simp only [q, not_true, decide_false]; rfl
  · rw [if_neg (fun z => q ((ti_2 _ (Nat.mod_lt _ (by decide))).mp z))]; simp only [q, not_false_iff, decide_true]; rfl
theorem c_turn4_0 (a : AS) : re_turn (mC a) 4 0 = some (nI 0, mC (sR a 8 (fl (gR a 8) 4 false))) := by
  have h : re_turn (mC a) 4 0 = re_turn_33 (mC a) (nI (gR a 8 % 256) &&& ((4 : Int32) ^^^ (-1 : Int32))) 8 := rfl
  rw [h, tn_4 _ (Nat.mod_lt _ (by decide)), c_put8]
  rfl
theorem m_flag4_0 (a : AS) (b : Nat → Int32) (u : Bool) : mo_flag (mM a b u) 4 0 = some (nI 0, mM (sR a 8 (fl (gR a 8) 4 false)) b u) := by
  have h : mo_flag (mM a b u) 4 0 = mo_flag_33 (mM a b u) (nI (gR a 8 % 256) &&& ((4 : Int32) ^^^ (-1 : Int32))) 8 := rfl
  rw [h, tn_4 _ (Nat.mod_lt _ (by decide)), m_put8]
  rfl
theorem c_turn4_1 (a : AS) : re_turn (mC a) 4 1 = some (nI 0, mC (sR a 8 (fl (gR a 8) 4 true))) := by
  have h : re_turn (mC a) 4 1 = re_turn_33 (mC a) (nI (gR a 8 % 256) ||| (4 : Int32)) 8 := rfl
  rw [h, to_4 _ (Nat.mod_lt _ (by decide)), c_put8]
  rfl
theorem m_flag4_1 (a : AS) (b : Nat → Int32) (u : Bool) : mo_flag (mM a b u) 4 1 = some (nI 0, mM (sR a 8 (fl (gR a 8) 4 true)) b u) := by
  have h : mo_flag (mM a b u) 4 1 = mo_flag_33 (mM a b u) (nI (gR a 8 % 256) ||| (4 : Int32)) 8 := rfl
  rw [h, to_4 _ (Nat.mod_lt _ (by decide)), m_put8]
  rfl
theorem c_has4 (a : AS) : re_has (mC a) 4 = some (bI (decide (¬ (gR a 8 % 256) &&& 4 = 0)), mC a) := by
  have h : re_has (mC a) 4 = if nI (gR a 8 % 256) &&& (4 : Int32) = 0 then re_has_17 (mC a) 0 else re_has_17 (mC a) 1 := rfl
  rw [h]
  by_cases q : gR a 8 % 256 &&& 4 = 0
  · rw [if_pos ((ti_4 _ (Nat.mod_lt _ (by decide))).mpr q)]; simp only [q, not_true, decide_false]; rfl
  · rw [if_neg (fun z => q ((ti_4 _ (Nat.mod_lt _ (by decide))).mp z))]; simp only [q, not_false_iff, decide_true]; rfl
theorem m_is4 (a : AS) (b : Nat → Int32) (u : Bool) : mo_is (mM a b u) 4 = some (bI (decide (¬ (gR a 8 % 256) &&& 4 = 0)), mM a b u) := by
  have h : mo_is (mM a b u) 4 = if nI (gR a 8 % 256) &&& (4 : Int32) = 0 then mo_is_17 (mM a b u) 0 else mo_is_17 (mM a b u) 1 := rfl
  rw [h]
  by_cases q : gR a 8 % 256 &&& 4 = 0
  · rw [if_pos ((ti_4 _ (Nat.mod_lt _ (by decide))).mpr q)]; simp only [q, not_true, decide_false]; rfl
  · rw [if_neg (fun z => q ((ti_4 _ (Nat.mod_lt _ (by decide))).mp z))]; simp only [q, not_false_iff, decide_true]; rfl
theorem c_turn8_0 (a : AS) : re_turn (mC a) 8 0 = some (nI 0, mC (sR a 8 (fl (gR a 8) 8 false))) := by
  have h : re_turn (mC a) 8 0 = re_turn_33 (mC a) (nI (gR a 8 % 256) &&& ((8 : Int32) ^^^ (-1 : Int32))) 8 := rfl
  rw [h, tn_8 _ (Nat.mod_lt _ (by decide)), c_put8]
  rfl
theorem m_flag8_0 (a : AS) (b : Nat → Int32) (u : Bool) : mo_flag (mM a b u) 8 0 = some (nI 0, mM (sR a 8 (fl (gR a 8) 8 false)) b u) := by
  have h : mo_flag (mM a b u) 8 0 = mo_flag_33 (mM a b u) (nI (gR a 8 % 256) &&& ((8 : Int32) ^^^ (-1 : Int32))) 8 := rfl
  rw [h, tn_8 _ (Nat.mod_lt _ (by decide)), m_put8]
  rfl
theorem c_turn8_1 (a : AS) : re_turn (mC a) 8 1 = some (nI 0, mC (sR a 8 (fl (gR a 8) 8 true))) := by
  have h : re_turn (mC a) 8 1 = re_turn_33 (mC a) (nI (gR a 8 % 256) ||| (8 : Int32)) 8 := rfl
  rw [h, to_8 _ (Nat.mod_lt _ (by decide)), c_put8]
  rfl
theorem m_flag8_1 (a : AS) (b : Nat → Int32) (u : Bool) : mo_flag (mM a b u) 8 1 = some (nI 0, mM (sR a 8 (fl (gR a 8) 8 true)) b u) := by
  have h : mo_flag (mM a b u) 8 1 = mo_flag_33 (mM a b u) (nI (gR a 8 % 256) ||| (8 : Int32)) 8 := rfl
  rw [h, to_8 _ (Nat.mod_lt _ (by decide)), m_put8]
  rfl
theorem c_has8 (a : AS) : re_has (mC a) 8 = some (bI (decide (¬ (gR a 8 % 256) &&& 8 = 0)), mC a) := by
  have h : re_has (mC a) 8 = if nI (gR a 8 % 256) &&& (8 : Int32) = 0 then re_has_17 (mC a) 0 else re_has_17 (mC a) 1 := rfl
  rw [h]
  by_cases q : gR a 8 % 256 &&& 8 = 0
  · rw [if_pos ((ti_8 _ (Nat.mod_lt _ (by decide))).mpr q)]; simp only [q, not_true, decide_false]; rfl
  · rw [if_neg (fun z => q ((ti_8 _ (Nat.mod_lt _ (by decide))).mp z))]; simp only [q, not_false_iff, decide_true]; rfl
theorem m_is8 (a : AS) (b : Nat → Int32) (u : Bool) : mo_is (mM a b u) 8 = some (bI (decide (¬ (gR a 8 % 256) &&& 8 = 0)), mM a b u) := by
  have h : mo_is (mM a b u) 8 = if nI (gR a 8 % 256) &&& (8 : Int32) = 0 then mo_is_17 (mM a b u) 0 else mo_is_17 (mM a b u) 1 := rfl
  rw [h]
  by_cases q : gR a 8 % 256 &&& 8 = 0
  · rw [if_pos ((ti_8 _ (Nat.mod_lt _ (by decide))).mpr q)]; simp only [q, not_true, decide_false]; rfl
  · rw [if_neg (fun z => q ((ti_8 _ (Nat.mod_lt _ (by decide))).mp z))]; simp only [q, not_false_iff, decide_true]; rfl
theorem c_turn16_0 (a : AS) : re_turn (mC a) 16 0 = some (nI 0, mC (sR a 8 (fl (gR a 8) 16 false))) := by
  have h : re_turn (mC a) 16 0 = re_turn_33 (mC a) (nI (gR a 8 % 256) &&& ((16 : Int32) ^^^ (-1 : Int32))) 8 := rfl
  rw [h, tn_16 _ (Nat.mod_lt _ (by decide)), c_put8]
  rfl
theorem m_flag16_0 (a : AS) (b : Nat → Int32) (u : Bool) : mo_flag (mM a b u) 16 0 = some (nI 0, mM (sR a 8 (fl (gR a 8) 16 false)) b u) := by
  have h : mo_flag (mM a b u) 16 0 = mo_flag_33 (mM a b u) (nI (gR a 8 % 256) &&& ((16 : Int32) ^^^ (-1 : Int32))) 8 := rfl
  rw [h, tn_16 _ (Nat.mod_lt _ (by decide)), m_put8]
  rfl
theorem c_turn16_1 (a : AS) : re_turn (mC a) 16 1 = some (nI 0, mC (sR a 8 (fl (gR a 8) 16 true))) := by
  have h : re_turn (mC a) 16 1 = re_turn_33 (mC a) (nI (gR a 8 % 256) ||| (16 : Int32)) 8 := rfl
  rw [h, to_16 _ (Nat.mod_lt _ (by decide)), c_put8]
  rfl
theorem m_flag16_1 (a : AS) (b : Nat → Int32) (u : Bool) : mo_flag (mM a b u) 16 1 = some (nI 0, mM (sR a 8 (fl (gR a 8) 16 true)) b u) := by
  have h : mo_flag (mM a b u) 16 1 = mo_flag_33 (mM a b u) (nI (gR a 8 % 256) ||| (16 : Int32)) 8 := rfl
  rw [h, to_16 _ (Nat.mod_lt _ (by decide)), m_put8]
  rfl
theorem c_has16 (a : AS) : re_has (mC a) 16 = some (bI (decide (¬ (gR a 8 % 256) &&& 16 = 0)), mC a) := by
  have h : re_has (mC a) 16 = if nI (gR a 8 % 256) &&& (16 : Int32) = 0 then re_has_17 (mC a) 0 else re_has_17 (mC a) 1 := rfl
  rw [h]
  by_cases q : gR a 8 % 256 &&& 16 = 0
  · rw [if_pos ((ti_16 _ (Nat.mod_lt _ (by decide))).mpr q)]; simp only [q, not_true, decide_false]; rfl
  · rw [if_neg (fun z => q ((ti_16 _ (Nat.mod_lt _ (by decide))).mp z))]; simp only [q, not_false_iff, decide_true]; rfl
theorem m_is16 (a : AS) (b : Nat → Int32) (u : Bool) : mo_is (mM a b u) 16 = some (bI (decide (¬ (gR a 8 % 256) &&& 16 = 0)), mM a b u) := by
  have h : mo_is (mM a b u) 16 = if nI (gR a 8 % 256) &&& (16 : Int32) = 0 then mo_is_17 (mM a b u) 0 else mo_is_17 (mM a b u) 1 := rfl
  rw [h]
  by_cases q : gR a 8 % 256 &&& 16 = 0
  · rw [if_pos ((ti_16 _ (Nat.mod_lt _ (by decide))).mpr q)]; simp only [q, not_true, decide_false]; rfl
  · rw [if_neg (fun z => q ((ti_16 _ (Nat.mod_lt _ (by decide))).mp z))]; simp only [q, not_false_iff, decide_true]; rfl
theorem c_turn32_0 (a : AS) : re_turn (mC a) 32 0 = some (nI 0, mC (sR a 8 (fl (gR a 8) 32 false))) := by
  have h : re_turn (mC a) 32 0 = re_turn_33 (mC a) (nI (gR a 8 % 256) &&& ((32 : Int32) ^^^ (-1 : Int32))) 8 := rfl
  rw [h, tn_32 _ (Nat.mod_lt _ (by decide)), c_put8]
  rfl
theorem m_flag32_0 (a : AS) (b : Nat → Int32) (u : Bool) : mo_flag (mM a b u) 32 0 = some (nI 0, mM (sR a 8 (fl (gR a 8) 32 false)) b u) := by
  have h : mo_flag (mM a b u) 32 0 = mo_flag_33 (mM a b u) (nI (gR a 8 % 256) &&& ((32 : Int32) ^^^ (-1 : Int32))) 8 := rfl
  rw [h, tn_32 _ (Nat.mod_lt _ (by decide)), m_put8]
  rfl
theorem c_turn32_1 (a : AS) : re_turn (mC a) 32 1 = some (nI 0, mC (sR a 8 (fl (gR a 8) 32 true))) := by
  have h : re_turn (mC a) 32 1 = re_turn_33 (mC a) (nI (gR a 8 % 256) ||| (32 : Int32)) 8 := rfl
  rw [h, to_32 _ (Nat.mod_lt _ (by decide)), c_put8]
  rfl
theorem m_flag32_1 (a : AS) (b : Nat → Int32) (u : Bool) : mo_flag (mM a b u) 32 1 = some (nI 0, mM (sR a 8 (fl (gR a 8) 32 true)) b u) := by
  have h : mo_flag (mM a b u) 32 1 = mo_flag_33 (mM a b u) (nI (gR a 8 % 256) ||| (32 : Int32)) 8 := rfl
  rw [h, to_32 _ (Nat.mod_lt _ (by decide)), m_put8]
  rfl
theorem c_has32 (a : AS) : re_has (mC a) 32 = some (bI (decide (¬ (gR a 8 % 256) &&& 32 = 0)), mC a) := by
  have h : re_has (mC a) 32 = if nI (gR a 8 % 256) &&& (32 : Int32) = 0 then re_has_17 (mC a) 0 else re_has_17 (mC a) 1 := rfl
  rw [h]
  by_cases q : gR a 8 % 256 &&& 32 = 0
  · rw [if_pos ((ti_32 _ (Nat.mod_lt _ (by decide))).mpr q)]; simp only [q, not_true, decide_false]; rfl
  · rw [if_neg (fun z => q ((ti_32 _ (Nat.mod_lt _ (by decide))).mp z))]; simp only [q, not_false_iff, decide_true]; rfl
theorem m_is32 (a : AS) (b : Nat → Int32) (u : Bool) : mo_is (mM a b u) 32 = some (bI (decide (¬ (gR a 8 % 256) &&& 32 = 0)), mM a b u) := by
  have h : mo_is (mM a b u) 32 = if nI (gR a 8 % 256) &&& (32 : Int32) = 0 then mo_is_17 (mM a b u) 0 else mo_is_17 (mM a b u) 1 := rfl
  rw [h]
  by_cases q : gR a 8 % 256 &&& 32 = 0
  · rw [if_pos ((ti_32 _ (Nat.mod_lt _ (by decide))).mpr q)]; simp only [q, not_true, decide_false]; rfl
  · rw [if_neg (fun z => q ((ti_32 _ (Nat.mod_lt _ (by decide))).mp z))]; simp only [q, not_false_iff, decide_true]; rfl
theorem c_turn64_0 (a : AS) : re_turn (mC a) 64 0 = some (nI 0, mC (sR a 8 (fl (gR a 8) 64 false))) := by
  have h : re_turn (mC a) 64 0 = re_turn_33 (mC a) (nI (gR a 8 % 256) &&& ((64 : Int32) ^^^ (-1 : Int32))) 8 := rfl
  rw [h, tn_64 _ (Nat.mod_lt _ (by decide)), c_put8]
  rfl
theorem m_flag64_0 (a : AS) (b : Nat → Int32) (u : Bool) : mo_flag (mM a b u) 64 0 = some (nI 0, mM (sR a 8 (fl (gR a 8) 64 false)) b u) := by
  have h : mo_flag (mM a b u) 64 0 = mo_flag_33 (mM a b u) (nI (gR a 8 % 256) &&& ((64 : Int32) ^^^ (-1 : Int32))) 8 := rfl
  rw [h, tn_64 _ (Nat.mod_lt _ (by decide)), m_put8]
  rfl
theorem c_turn64_1 (a : AS) : re_turn (mC a) 64 1 = some (nI 0, mC (sR a 8 (fl (gR a 8) 64 true))) := by
  have h : re_turn (mC a) 64 1 = re_turn_33 (mC a) (nI (gR a 8 % 256) ||| (64 : Int32)) 8 := rfl
  rw [h, to_64 _ (Nat.mod_lt _ (by decide)), c_put8]
  rfl
theorem m_flag64_1 (a : AS) (b : Nat → Int32) (u : Bool) : mo_flag (mM a b u) 64 1 = some (nI 0, mM (sR a 8 (fl (gR a 8) 64 true)) b u) := by
  have h : mo_flag (mM a b u) 64 1 = mo_flag_33 (mM a b u) (nI (gR a 8 % 256) ||| (64 : Int32)) 8 := rfl
  rw [h, to_64 _ (Nat.mod_lt _ (by decide)), m_put8]
  rfl
theorem c_has64 (a : AS) : re_has (mC a) 64 = some (bI (decide (¬ (gR a 8 % 256) &&& 64 = 0)), mC a) := by
  have h : re_has (mC a) 64 = if nI (gR a 8 % 256) &&& (64 : Int32) = 0 then re_has_17 (mC a) 0 else re_has_17 (mC a) 1 := rfl
  rw [h]
  by_cases q : gR a 8 % 256 &&& 64 = 0
  · rw [if_pos ((ti_64 _ (Nat.mod_lt _ (by decide))).mpr q)]; simp only [q, not_true, decide_false]; rfl
  · rw [if_neg (fun z => q ((ti_64 _ (Nat.mod_lt _ (by decide))).mp z))]; simp only [q, not_false_iff, decide_true]; rfl
theorem m_is64 (a : AS) (b : Nat → Int32) (u : Bool) : mo_is (mM a b u) 64 = some (bI (decide (¬ (gR a 8 % 256) &&& 64 = 0)), mM a b u) := by
  have h : mo_is (mM a b u) 64 = if nI (gR a 8 % 256) &&& (64 : Int32) = 0 then mo_is_17 (mM a b u) 0 else mo_is_17 (mM a b u) 1 := rfl
  rw [h]
  by_cases q : gR a 8 % 256 &&& 64 = 0
  · rw [if_pos ((ti_64 _ (Nat.mod_lt _ (by decide))).mpr q)]; simp only [q, not_true, decide_false]; rfl
  · rw [if_neg (fun z => q ((ti_64 _ (Nat.mod_lt _ (by decide))).mp z))]; simp only [q, not_false_iff, decide_true]; rfl
theorem c_turn80_0 (a : AS) : re_turn (mC a) 80 0 = some (nI 0, mC (sR a 8 (fl (gR a 8) 80 false))) := by
  have h : re_turn (mC a) 80 0 = re_turn_33 (mC a) (nI (gR a 8 % 256) &&& ((80 : Int32) ^^^ (-1 : Int32))) 8 := rfl
  rw [h, tn_80 _ (Nat.mod_lt _ (by decide)), c_put8]
  rfl
theorem m_flag80_0 (a : AS) (b : Nat → Int32) (u : Bool) : mo_flag (mM a b u) 80 0 = some (nI 0, mM (sR a 8 (fl (gR a 8) 80 false)) b u) := by
  have h : mo_flag (mM a b u) 80 0 = mo_flag_33 (mM a b u) (nI (gR a 8 % 256) &&& ((80 : Int32) ^^^ (-1 : Int32))) 8 := rfl
  rw [h, tn_80 _ (Nat.mod_lt _ (by decide)), m_put8]
  rfl
theorem c_turn80_1 (a : AS) : re_turn (mC a) 80 1 = some (nI 0, mC (sR a 8 (fl (gR a 8) 80 true))) := by
  have h : re_turn (mC a) 80 1 = re_turn_33 (mC a) (nI (gR a 8 % 256) ||| (80 : Int32)) 8 := rfl
  rw [h, to_80 _ (Nat.mod_lt _ (by decide)), c_put8]
  rfl
theorem m_flag80_1 (a : AS) (b : Nat → Int32) (u : Bool) : mo_flag (mM a b u) 80 1 = some (nI 0, mM (sR a 8 (fl (gR a 8) 80 true)) b u) := by
  have h : mo_flag (mM a b u) 80 1 = mo_flag_33 (mM a b u) (nI (gR a 8 % 256) ||| (80 : Int32)) 8 := rfl
  rw [h, to_80 _ (Nat.mod_lt _ (by decide)), m_put8]
  rfl
theorem c_has80 (a : AS) : re_has (mC a) 80 = some (bI (decide (¬ (gR a 8 % 256) &&& 80 = 0)), mC a) := by
  have h : re_has (mC a) 80 = if nI (gR a 8 % 256) &&& (80 : Int32) = 0 then re_has_17 (mC a) 0 else re_has_17 (mC a) 1 := rfl
  rw [h]
  by_cases q : gR a 8 % 256 &&& 80 = 0
  · rw [if_pos ((ti_80 _ (Nat.mod_lt _ (by decide))).mpr q)]; simp only [q, not_true, decide_false]; rfl
  · rw [if_neg (fun z => q ((ti_80 _ (Nat.mod_lt _ (by decide))).mp z))]; simp only [q, not_false_iff, decide_true]; rfl
theorem m_is80 (a : AS) (b : Nat → Int32) (u : Bool) : mo_is (mM a b u) 80 = some (bI (decide (¬ (gR a 8 % 256) &&& 80 = 0)), mM a b u) := by
  have h : mo_is (mM a b u) 80 = if nI (gR a 8 % 256) &&& (80 : Int32) = 0 then mo_is_17 (mM a b u) 0 else mo_is_17 (mM a b u) 1 := rfl
  rw [h]
  by_cases q : gR a 8 % 256 &&& 80 = 0
  · rw [if_pos ((ti_80 _ (Nat.mod_lt _ (by decide))).mpr q)]; simp only [q, not_true, decide_false]; rfl
  · rw [if_neg (fun z => q ((ti_80 _ (Nat.mod_lt _ (by decide))).mp z))]; simp only [q, not_false_iff, decide_true]; rfl
theorem c_turn128_0 (a : AS) : re_turn (mC a) 128 0 = some (nI 0, mC (sR a 8 (fl (gR a 8) 128 false))) := by
  have h : re_turn (mC a) 128 0 = re_turn_33 (mC a) (nI (gR a 8 % 256) &&& ((128 : Int32) ^^^ (-1 : Int32))) 8 := rfl
  rw [h, tn_128 _ (Nat.mod_lt _ (by decide)), c_put8]
  rfl
theorem m_flag128_0 (a : AS) (b : Nat → Int32) (u : Bool) : mo_flag (mM a b u) 128 0 = some (nI 0, mM (sR a 8 (fl (gR a 8) 128 false)) b u) := by
  have h : mo_flag (mM a b u) 128 0 = mo_flag_33 (mM a b u) (nI (gR a 8 % 256) &&& ((128 : Int32) ^^^ (-1 : Int32))) 8 := rfl
  rw [h, tn_128 _ (Nat.mod_lt _ (by decide)), m_put8]
  rfl
theorem c_turn128_1 (a : AS) : re_turn (mC a) 128 1 = some (nI 0, mC (sR a 8 (fl (gR a 8) 128 true))) := by
  have h : re_turn (mC a) 128 1 = re_turn_33 (mC a) (nI (gR a 8 % 256) ||| (128 : Int32)) 8 := rfl
  rw [h, to_128 _ (Nat.mod_lt _ (by decide)), c_put8]
  rfl
theorem m_flag128_1 (a : AS) (b : Nat → Int32) (u : Bool) : mo_flag (mM a b u) 128 1 = some (nI 0, mM (sR a 8 (fl (gR a 8) 128 true)) b u) := by
  have h : mo_flag (mM a b u) 128 1 = mo_flag_33 (mM a b u) (nI (gR a 8 % 256) ||| (128 : Int32)) 8 := rfl
  rw [h, to_128 _ (Nat.mod_lt _ (by decide)), m_put8]
  rfl
theorem c_has128 (a : AS) : re_has (mC a) 128 = some (bI (decide (¬ (gR a 8 % 256) &&& 128 = 0)), mC a) := by
  have h : re_has (mC a) 128 = if nI (gR a 8 % 256) &&& (128 : Int32) = 0 then re_has_17 (mC a) 0 else re_has_17 (mC a) 1 := rfl
  rw [h]
  by_cases q : gR a 8 % 256 &&& 128 = 0
  · rw [if_pos ((ti_128 _ (Nat.mod_lt _ (by decide))).mpr q)]; simp only [q, not_true, decide_false]; rfl
  · rw [if_neg (fun z => q ((ti_128 _ (Nat.mod_lt _ (by decide))).mp z))]; simp only [q, not_false_iff, decide_true]; rfl
theorem m_is128 (a : AS) (b : Nat → Int32) (u : Bool) : mo_is (mM a b u) 128 = some (bI (decide (¬ (gR a 8 % 256) &&& 128 = 0)), mM a b u) := by
  have h : mo_is (mM a b u) 128 = if nI (gR a 8 % 256) &&& (128 : Int32) = 0 then mo_is_17 (mM a b u) 0 else mo_is_17 (mM a b u) 1 := rfl
  rw [h]
  by_cases q : gR a 8 % 256 &&& 128 = 0
  · rw [if_pos ((ti_128 _ (Nat.mod_lt _ (by decide))).mpr q)]; simp only [q, not_true, decide_false]; rfl
  · rw [if_neg (fun z => q ((ti_128 _ (Nat.mod_lt _ (by decide))).mp z))]; simp only [q, not_false_iff, decide_true]; rfl
theorem fl_sign : ∀ c, c < 256 → ∀ z n : Bool, ((nI c &&& (-13 : Int32)) ||| (if z = true then (4 : Int32) else 0)) ||| (if n = true then (8 : Int32) else 0) = nI (fl (fl c 4 z) 8 n % 256) := by decide +kernel
theorem fl_lt (c f : Nat) (on : Bool) (hf : f < 256) : fl c f on < 256 := by
  unfold fl
  cases on
  · exact Nat.lt_of_le_of_lt Nat.and_le_left (Nat.mod_lt _ (by decide))
  · exact Nat.or_lt_two_pow (n := 8) (Nat.mod_lt _ (by decide)) hf
theorem fl_mod (c f : Nat) (on : Bool) : fl (c % 256) f on = fl c f on := by
  unfold fl
  rw [Nat.mod_mod]
