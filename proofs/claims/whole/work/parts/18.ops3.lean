def hf (a : AS) (f : Nat) : Bool := decide (¬ gR a 8 % 256 &&& f = 0)
theorem ti_5 : ∀ c, c < 256 → (nI c &&& (5 : Int32) = 0 ↔ decide (¬ c &&& 1 = 0) = false ∧ decide (¬ c &&& 4 = 0) = false) := by decide +kernel
theorem c_has5 (a : AS) : re_has (mC a) 5 = some (bI (hf a 1 || hf a 4), mC a) := by
  have h : re_has (mC a) 5 = if nI (gR a 8 % 256) &&& (5 : Int32) = 0 then re_has_17 (mC a) 0 else re_has_17 (mC a) 1 := rfl
  have e := ti_5 (gR a 8 % 256) (Nat.mod_lt _ (by decide))
  rw [h]
  unfold hf
  by_cases q : nI (gR a 8 % 256) &&& (5 : Int32) = 0
  · rw [if_pos q, (e.mp q).1, (e.mp q).2]; rfl
  · rw [if_neg q]
    cases h1 : decide (¬ gR a 8 % 256 &&& 1 = 0)
    · cases h2 : decide (¬ gR a 8 % 256 &&& 4 = 0)
      · exact absurd (e.mpr ⟨h1, h2⟩) q
      · rfl
    · rfl
theorem c_h1 (a : AS) : re_has (mC a) 1 = some (bI (hf a 1), mC a) := c_has1 a
theorem m_h1 (a : AS) (b : Nat → Int32) (u : Bool) : mo_is (mM a b u) 1 = some (bI (hf a 1), mM a b u) := m_is1 a b u
theorem c_h2 (a : AS) : re_has (mC a) 2 = some (bI (hf a 2), mC a) := c_has2 a
theorem m_h2 (a : AS) (b : Nat → Int32) (u : Bool) : mo_is (mM a b u) 2 = some (bI (hf a 2), mM a b u) := m_is2 a b u
theorem c_h4 (a : AS) : re_has (mC a) 4 = some (bI (hf a 4), mC a) := c_has4 a
theorem m_h4 (a : AS) (b : Nat → Int32) (u : Bool) : mo_is (mM a b u) 4 = some (bI (hf a 4), mM a b u) := m_is4 a b u
theorem c_h8 (a : AS) : re_has (mC a) 8 = some (bI (hf a 8), mC a) := c_has8 a
theorem m_h8 (a : AS) (b : Nat → Int32) (u : Bool) : mo_is (mM a b u) 8 = some (bI (hf a 8), mM a b u) := m_is8 a b u
theorem c_h16 (a : AS) : re_has (mC a) 16 = some (bI (hf a 16), mC a) := c_has16 a
theorem m_h16 (a : AS) (b : Nat → Int32) (u : Bool) : mo_is (mM a b u) 16 = some (bI (hf a 16), mM a b u) := m_is16 a b u
theorem c_h32 (a : AS) : re_has (mC a) 32 = some (bI (hf a 32), mC a) := c_has32 a
theorem m_h32 (a : AS) (b : Nat → Int32) (u : Bool) : mo_is (mM a b u) 32 = some (bI (hf a 32), mM a b u) := m_is32 a b u
theorem c_h64 (a : AS) : re_has (mC a) 64 = some (bI (hf a 64), mC a) := c_has64 a
theorem m_h64 (a : AS) (b : Nat → Int32) (u : Bool) : mo_is (mM a b u) 64 = some (bI (hf a 64), mM a b u) := m_is64 a b u
theorem c_h128 (a : AS) : re_has (mC a) 128 = some (bI (hf a 128), mC a) := c_has128 a
theorem m_h128 (a : AS) (b : Nat → Int32) (u : Bool) : mo_is (mM a b u) 128 = some (bI (hf a 128), mM a b u) := m_is128 a b u
def ev (k : Nat) (n z v c : Bool) : Bool := match k with
  | 0 => true
  | 1 => !(c || z)
  | 2 => !c
  | 3 => !z
  | 4 => !v
  | 5 => !n
  | 6 => n == v
  | _ => (n == v) && !z
abbrev evA (a : AS) (k : Nat) : Bool := ev k (hf a 8) (hf a 4) (hf a 2) (hf a 1)
theorem c_even0 (a : AS) : re_meetsEven (mC a) 0 = some (bI (evA a 0), mC a) := by
  unfold re_meetsEven
  rw [c_h8, bd_s, c_h2, bd_s]
  have h : ∀ (s : CS) (t : Int32), re_meetsEven_19 s 0 t = some (1, s) := fun _ _ => rfl
  rw [h, h]
  unfold evA ev
  split <;> rfl
theorem c_even1 (a : AS) : re_meetsEven (mC a) 1 = some (bI (evA a 1), mC a) := by
  unfold re_meetsEven
  rw [c_h8, bd_s, c_h2, bd_s]
  have h : ∀ (s : CS) (t : Int32), re_meetsEven_19 s 1 t = bd (re_has s 5) fun v s1 => if v = 0 then some (1, s1) else some (0, s1) := fun _ _ => rfl
  rw [h, h, c_has5, bd_s]
  unfold evA ev
  cases hf a 8 <;> cases hf a 4 <;> cases hf a 2 <;> cases hf a 1 <;> rfl
theorem c_even2 (a : AS) : re_meetsEven (mC a) 2 = some (bI (evA a 2), mC a) := by
  unfold re_meetsEven
  rw [c_h8, bd_s, c_h2, bd_s]
  have h : ∀ (s : CS) (t : Int32), re_meetsEven_19 s 2 t = bd (re_has s 1) fun v s1 => if v = 0 then some (1, s1) else some (0, s1) := fun _ _ => rfl
  rw [h, h, c_h1, bd_s]
  unfold evA ev
  cases hf a 8 <;> cases hf a 4 <;> cases hf a 2 <;> cases hf a 1 <;> rfl
theorem c_even3 (a : AS) : re_meetsEven (mC a) 3 = some (bI (evA a 3), mC a) := by
  unfold re_meetsEven
  rw [c_h8, bd_s, c_h2, bd_s]
  have h : ∀ (s : CS) (t : Int32), re_meetsEven_19 s 3 t = bd (re_has s 4) fun v s1 => if v = 0 then some (1, s1) else some (0, s1) := fun _ _ => rfl
  rw [h, h, c_h4, bd_s]
  unfold evA ev
  cases hf a 8 <;> cases hf a 4 <;> cases hf a 2 <;> cases hf a 1 <;> rfl
theorem c_even4 (a : AS) : re_meetsEven (mC a) 4 = some (bI (evA a 4), mC a) := by
  unfold re_meetsEven
  rw [c_h8, bd_s, c_h2, bd_s]
  have h : ∀ (s : CS) (t : Int32), re_meetsEven_19 s 4 t = bd (re_has s 2) fun v s1 => if v = 0 then some (1, s1) else some (0, s1) := fun _ _ => rfl
  rw [h, h, c_h2, bd_s]
  unfold evA ev
  cases hf a 8 <;> cases hf a 4 <;> cases hf a 2 <;> cases hf a 1 <;> rfl
theorem c_even5 (a : AS) : re_meetsEven (mC a) 5 = some (bI (evA a 5), mC a) := by
  unfold re_meetsEven
  rw [c_h8, bd_s, c_h2, bd_s]
  have h : ∀ (s : CS) (t : Int32), re_meetsEven_19 s 5 t = bd (re_has s 8) fun v s1 => if v = 0 then some (1, s1) else some (0, s1) := fun _ _ => rfl
  rw [h, h, c_h8, bd_s]
  unfold evA ev
  cases hf a 8 <;> cases hf a 4 <;> cases hf a 2 <;> cases hf a 1 <;> rfl
theorem c_even6 (a : AS) : re_meetsEven (mC a) 6 = some (bI (evA a 6), mC a) := by
  unfold re_meetsEven
  rw [c_h8, bd_s, c_h2, bd_s]
  have h0 : ∀ (s : CS), re_meetsEven_19 s 6 0 = some (0, s) := fun _ => rfl
  have h1 : ∀ (s : CS), re_meetsEven_19 s 6 1 = some (1, s) := fun _ => rfl
  rw [h0, h1]
  unfold evA ev
  cases hf a 8 <;> cases hf a 2 <;> rfl
theorem c_even7 (a : AS) : re_meetsEven (mC a) 7 = some (bI (evA a 7), mC a) := by
  unfold re_meetsEven
  rw [c_h8, bd_s, c_h2, bd_s]
  have h0 : ∀ (s : CS), re_meetsEven_19 s 7 0 = some (0, s) := fun _ => rfl
  have h1 : ∀ (s : CS), re_meetsEven_19 s 7 1 = bd (re_has s 4) fun v s1 => if v = 0 then some (1, s1) else some (0, s1) := fun _ => rfl
  rw [h0, h1, c_h4, bd_s]
  unfold evA ev
  cases hf a 8 <;> cases hf a 4 <;> cases hf a 2 <;> rfl
theorem c_meets0 (a : AS) : re_meets (mC a) 0 = some (bI ((evA a 0)), mC a) := by
  have h : ∀ (s : CS), re_meets s 0 = bd (re_meetsEven s 0) fun v1 s1 => if (0 : Int32) = v1 then some (0, s1) else some (1, s1) := fun _ => rfl
  rw [h, c_even0, bd_s]
  cases evA a 0 <;> rfl
theorem c_meets1 (a : AS) : re_meets (mC a) 1 = some (bI (!(evA a 0)), mC a) := by
  have h : ∀ (s : CS), re_meets s 1 = bd (re_meetsEven s 0) fun v1 s1 => if (1 : Int32) = v1 then some (0, s1) else some (1, s1) := fun _ => rfl
  rw [h, c_even0, bd_s]
  cases evA a 0 <;> rfl
theorem c_meets2 (a : AS) : re_meets (mC a) 2 = some (bI ((evA a 1)), mC a) := by
  have h : ∀ (s : CS), re_meets s 2 = bd (re_meetsEven s 1) fun v1 s1 => if (0 : Int32) = v1 then some (0, s1) else some (1, s1) := fun _ => rfl
  rw [h, c_even1, bd_s]
  cases evA a 1 <;> rfl
theorem m_holds2 (a : AS) (b : Nat → Int32) (u : Bool) : mo_holds (mM a b u) 2 = some (bI ((evA a 1)), mM a b u) := by
  unfold mo_holds
  rw [m_h8, bd_s, m_h2, bd_s]
  have h : ∀ (s : MS) (t : Int32), mo_holds_19 s 2 t = bd (mo_is s 1) fun v7 s6 => if v7 = 0 then (bd (mo_is s6 4) fun v8 s7 => if v8 = 0 then mo_holds_141 s7 2 0 else mo_holds_141 s7 2 1) else mo_holds_141 s6 2 1 := fun _ _ => rfl
  have h0 : ∀ (s : MS), mo_holds_141 s 2 0 = some (1, s) := fun _ => rfl
  have h1 : ∀ (s : MS), mo_holds_141 s 2 1 = some (0, s) := fun _ => rfl
  rw [h, h, m_h1, bd_s, m_h4, bd_s]
  unfold evA ev
  cases hf a 8 <;> cases hf a 4 <;> cases hf a 2 <;> cases hf a 1 <;> rfl
theorem c_meets3 (a : AS) : re_meets (mC a) 3 = some (bI (!(evA a 1)), mC a) := by
  have h : ∀ (s : CS), re_meets s 3 = bd (re_meetsEven s 1) fun v1 s1 => if (1 : Int32) = v1 then some (0, s1) else some (1, s1) := fun _ => rfl
  rw [h, c_even1, bd_s]
  cases evA a 1 <;> rfl
theorem m_holds3 (a : AS) (b : Nat → Int32) (u : Bool) : mo_holds (mM a b u) 3 = some (bI (!(evA a 1)), mM a b u) := by
  unfold mo_holds
  rw [m_h8, bd_s, m_h2, bd_s]
  have h : ∀ (s : MS) (t : Int32), mo_holds_19 s 3 t = bd (mo_is s 1) fun v7 s6 => if v7 = 0 then (bd (mo_is s6 4) fun v8 s7 => if v8 = 0 then mo_holds_141 s7 3 0 else mo_holds_141 s7 3 1) else mo_holds_141 s6 3 1 := fun _ _ => rfl
  have h0 : ∀ (s : MS), mo_holds_141 s 3 0 = some (0, s) := fun _ => rfl
  have h1 : ∀ (s : MS), mo_holds_141 s 3 1 = some (1, s) := fun _ => rfl
  rw [h, h, m_h1, bd_s, m_h4, bd_s]
  unfold evA ev
  cases hf a 8 <;> cases hf a 4 <;> cases hf a 2 <;> cases hf a 1 <;> rfl
theorem c_meets4 (a : AS) : re_meets (mC a) 4 = some (bI ((evA a 2)), mC a) := by
  have h : ∀ (s : CS), re_meets s 4 = bd (re_meetsEven s 2) fun v1 s1 => if (0 : Int32) = v1 then some (0, s1) else some (1, s1) := fun _ => rfl
  rw [h, c_even2, bd_s]
  cases evA a 2 <;> rfl
theorem m_holds4 (a : AS) (b : Nat → Int32) (u : Bool) : mo_holds (mM a b u) 4 = some (bI ((evA a 2)), mM a b u) := by
  unfold mo_holds
  rw [m_h8, bd_s, m_h2, bd_s]
  have h : ∀ (s : MS) (t : Int32), mo_holds_19 s 4 t = bd (mo_is s 1) fun v6 s5 => mo_holds_141 s5 4 v6 := fun _ _ => rfl
  have h0 : ∀ (s : MS), mo_holds_141 s 4 0 = some (1, s) := fun _ => rfl
  have h1 : ∀ (s : MS), mo_holds_141 s 4 1 = some (0, s) := fun _ => rfl
  rw [h, h, m_h1, bd_s]
  unfold evA ev
  cases hf a 8 <;> cases hf a 4 <;> cases hf a 2 <;> cases hf a 1 <;> rfl
theorem c_meets5 (a : AS) : re_meets (mC a) 5 = some (bI (!(evA a 2)), mC a) := by
  have h : ∀ (s : CS), re_meets s 5 = bd (re_meetsEven s 2) fun v1 s1 => if (1 : Int32) = v1 then some (0, s1) else some (1, s1) := fun _ => rfl
  rw [h, c_even2, bd_s]
  cases evA a 2 <;> rfl
theorem m_holds5 (a : AS) (b : Nat → Int32) (u : Bool) : mo_holds (mM a b u) 5 = some (bI (!(evA a 2)), mM a b u) := by
  unfold mo_holds
  rw [m_h8, bd_s, m_h2, bd_s]
  have h : ∀ (s : MS) (t : Int32), mo_holds_19 s 5 t = bd (mo_is s 1) fun v6 s5 => mo_holds_141 s5 5 v6 := fun _ _ => rfl
  have h0 : ∀ (s : MS), mo_holds_141 s 5 0 = some (0, s) := fun _ => rfl
  have h1 : ∀ (s : MS), mo_holds_141 s 5 1 = some (1, s) := fun _ => rfl
  rw [h, h, m_h1, bd_s]
  unfold evA ev
  cases hf a 8 <;> cases hf a 4 <;> cases hf a 2 <;> cases hf a 1 <;> rfl
theorem c_meets6 (a : AS) : re_meets (mC a) 6 = some (bI ((evA a 3)), mC a) := by
  have h : ∀ (s : CS), re_meets s 6 = bd (re_meetsEven s 3) fun v1 s1 => if (0 : Int32) = v1 then some (0, s1) else some (1, s1) := fun _ => rfl
  rw [h, c_even3, bd_s]
  cases evA a 3 <;> rfl
theorem m_holds6 (a : AS) (b : Nat → Int32) (u : Bool) : mo_holds (mM a b u) 6 = some (bI ((evA a 3)), mM a b u) := by
  unfold mo_holds
  rw [m_h8, bd_s, m_h2, bd_s]
  have h : ∀ (s : MS) (t : Int32), mo_holds_19 s 6 t = bd (mo_is s 4) fun v6 s5 => mo_holds_141 s5 6 v6 := fun _ _ => rfl
  have h0 : ∀ (s : MS), mo_holds_141 s 6 0 = some (1, s) := fun _ => rfl
  have h1 : ∀ (s : MS), mo_holds_141 s 6 1 = some (0, s) := fun _ => rfl
  rw [h, h, m_h4, bd_s]
  unfold evA ev
  cases hf a 8 <;> cases hf a 4 <;> cases hf a 2 <;> cases hf a 1 <;> rfl
theorem c_meets7 (a : AS) : re_meets (mC a) 7 = some (bI (!(evA a 3)), mC a) := by
  have h : ∀ (s : CS), re_meets s 7 = bd (re_meetsEven s 3) fun v1 s1 => if (1 : Int32) = v1 then some (0, s1) else some (1, s1) := fun _ => rfl
  rw [h, c_even3, bd_s]
  cases evA a 3 <;> rfl
theorem m_holds7 (a : AS) (b : Nat → Int32) (u : Bool) : mo_holds (mM a b u) 7 = some (bI (!(evA a 3)), mM a b u) := by
  unfold mo_holds
  rw [m_h8, bd_s, m_h2, bd_s]
  have h : ∀ (s : MS) (t : Int32), mo_holds_19 s 7 t = bd (mo_is s 4) fun v6 s5 => mo_holds_141 s5 7 v6 := fun _ _ => rfl
  have h0 : ∀ (s : MS), mo_holds_141 s 7 0 = some (0, s) := fun _ => rfl
  have h1 : ∀ (s : MS), mo_holds_141 s 7 1 = some (1, s) := fun _ => rfl
  rw [h, h, m_h4, bd_s]
  unfold evA ev
  cases hf a 8 <;> cases hf a 4 <;> cases hf a 2 <;> cases hf a 1 <;> rfl
theorem c_meets8 (a : AS) : re_meets (mC a) 8 = some (bI ((evA a 4)), mC a) := by
  have h : ∀ (s : CS), re_meets s 8 = bd (re_meetsEven s 4) fun v1 s1 => if (0 : Int32) = v1 then some (0, s1) else some (1, s1) := fun _ => rfl
  rw [h, c_even4, bd_s]
  cases evA a 4 <;> rfl
theorem m_holds8 (a : AS) (b : Nat → Int32) (u : Bool) : mo_holds (mM a b u) 8 = some (bI ((evA a 4)), mM a b u) := by
  unfold mo_holds
  rw [m_h8, bd_s, m_h2, bd_s]
  have h : ∀ (s : MS) (t : Int32), mo_holds_19 s 8 t = bd (mo_is s 2) fun v6 s5 => mo_holds_141 s5 8 v6 := fun _ _ => rfl
  have h0 : ∀ (s : MS), mo_holds_141 s 8 0 = some (1, s) := fun _ => rfl
  have h1 : ∀ (s : MS), mo_holds_141 s 8 1 = some (0, s) := fun _ => rfl
  rw [h, h, m_h2, bd_s]
  unfold evA ev
  cases hf a 8 <;> cases hf a 4 <;> cases hf a 2 <;> cases hf a 1 <;> rfl
theorem c_meets9 (a : AS) : re_meets (mC a) 9 = some (bI (!(evA a 4)), mC a) := by
  have h : ∀ (s : CS), re_meets s 9 = bd (re_meetsEven s 4) fun v1 s1 => if (1 : Int32) = v1 then some (0, s1) else some (1, s1) := fun _ => rfl
  rw [h, c_even4, bd_s]
  cases evA a 4 <;> rfl
theorem m_holds9 (a : AS) (b : Nat → Int32) (u : Bool) : mo_holds (mM a b u) 9 = some (bI (!(evA a 4)), mM a b u) := by
  unfold mo_holds
  rw [m_h8, bd_s, m_h2, bd_s]
  have h : ∀ (s : MS) (t : Int32), mo_holds_19 s 9 t = bd (mo_is s 2) fun v6 s5 => mo_holds_141 s5 9 v6 := fun _ _ => rfl
  have h0 : ∀ (s : MS), mo_holds_141 s 9 0 = some (0, s) := fun _ => rfl
  have h1 : ∀ (s : MS), mo_holds_141 s 9 1 = some (1, s) := fun _ => rfl
  rw [h, h, m_h2, bd_s]
  unfold evA ev
  cases hf a 8 <;> cases hf a 4 <;> cases hf a 2 <;> cases hf a 1 <;> rfl
theorem c_meets10 (a : AS) : re_meets (mC a) 10 = some (bI ((evA a 5)), mC a) := by
  have h : ∀ (s : CS), re_meets s 10 = bd (re_meetsEven s 5) fun v1 s1 => if (0 : Int32) = v1 then some (0, s1) else some (1, s1) := fun _ => rfl
  rw [h, c_even5, bd_s]
  cases evA a 5 <;> rfl
theorem m_holds10 (a : AS) (b : Nat → Int32) (u : Bool) : mo_holds (mM a b u) 10 = some (bI ((evA a 5)), mM a b u) := by
  unfold mo_holds
  rw [m_h8, bd_s, m_h2, bd_s]
  have h : ∀ (s : MS) (t : Int32), mo_holds_19 s 10 t = bd (mo_is s 8) fun v6 s5 => mo_holds_141 s5 10 v6 := fun _ _ => rfl
  have h0 : ∀ (s : MS), mo_holds_141 s 10 0 = some (1, s) := fun _ => rfl
  have h1 : ∀ (s : MS), mo_holds_141 s 10 1 = some (0, s) := fun _ => rfl
  rw [h, h, m_h8, bd_s]
  unfold evA ev
  cases hf a 8 <;> cases hf a 4 <;> cases hf a 2 <;> cases hf a 1 <;> rfl
theorem c_meets11 (a : AS) : re_meets (mC a) 11 = some (bI (!(evA a 5)), mC a) := by
  have h : ∀ (s : CS), re_meets s 11 = bd (re_meetsEven s 5) fun v1 s1 => if (1 : Int32) = v1 then some (0, s1) else some (1, s1) := fun _ => rfl
  rw [h, c_even5, bd_s]
  cases evA a 5 <;> rfl
theorem m_holds11 (a : AS) (b : Nat → Int32) (u : Bool) : mo_holds (mM a b u) 11 = some (bI (!(evA a 5)), mM a b u) := by
  unfold mo_holds
  rw [m_h8, bd_s, m_h2, bd_s]
  have h : ∀ (s : MS) (t : Int32), mo_holds_19 s 11 t = bd (mo_is s 8) fun v6 s5 => mo_holds_141 s5 11 v6 := fun _ _ => rfl
  have h0 : ∀ (s : MS), mo_holds_141 s 11 0 = some (0, s) := fun _ => rfl
  have h1 : ∀ (s : MS), mo_holds_141 s 11 1 = some (1, s) := fun _ => rfl
  rw [h, h, m_h8, bd_s]
  unfold evA ev
  cases hf a 8 <;> cases hf a 4 <;> cases hf a 2 <;> cases hf a 1 <;> rfl
theorem c_meets12 (a : AS) : re_meets (mC a) 12 = some (bI ((evA a 6)), mC a) := by
  have h : ∀ (s : CS), re_meets s 12 = bd (re_meetsEven s 6) fun v1 s1 => if (0 : Int32) = v1 then some (0, s1) else some (1, s1) := fun _ => rfl
  rw [h, c_even6, bd_s]
  cases evA a 6 <;> rfl
theorem m_holds12 (a : AS) (b : Nat → Int32) (u : Bool) : mo_holds (mM a b u) 12 = some (bI ((evA a 6)), mM a b u) := by
  unfold mo_holds
  rw [m_h8, bd_s, m_h2, bd_s]
  have h : ∀ (s : MS) (t : Int32), mo_holds_19 s 12 t = mo_holds_141 s 12 t := fun _ _ => rfl
  have h0 : ∀ (s : MS), mo_holds_141 s 12 0 = some (1, s) := fun _ => rfl
  have h1 : ∀ (s : MS), mo_holds_141 s 12 1 = some (0, s) := fun _ => rfl
  rw [h, h]
  unfold evA ev
  cases hf a 8 <;> cases hf a 4 <;> cases hf a 2 <;> cases hf a 1 <;> rfl
theorem c_meets13 (a : AS) : re_meets (mC a) 13 = some (bI (!(evA a 6)), mC a) := by
  have h : ∀ (s : CS), re_meets s 13 = bd (re_meetsEven s 6) fun v1 s1 => if (1 : Int32) = v1 then some (0, s1) else some (1, s1) := fun _ => rfl
  rw [h, c_even6, bd_s]
  cases evA a 6 <;> rfl
theorem m_holds13 (a : AS) (b : Nat → Int32) (u : Bool) : mo_holds (mM a b u) 13 = some (bI (!(evA a 6)), mM a b u) := by
  unfold mo_holds
  rw [m_h8, bd_s, m_h2, bd_s]
  have h : ∀ (s : MS) (t : Int32), mo_holds_19 s 13 t = mo_holds_141 s 13 t := fun _ _ => rfl
  have h0 : ∀ (s : MS), mo_holds_141 s 13 0 = some (0, s) := fun _ => rfl
  have h1 : ∀ (s : MS), mo_holds_141 s 13 1 = some (1, s) := fun _ => rfl
  rw [h, h]
  unfold evA ev
  cases hf a 8 <;> cases hf a 4 <;> cases hf a 2 <;> cases hf a 1 <;> rfl
theorem c_meets14 (a : AS) : re_meets (mC a) 14 = some (bI ((evA a 7)), mC a) := by
  have h : ∀ (s : CS), re_meets s 14 = bd (re_meetsEven s 7) fun v1 s1 => if (0 : Int32) = v1 then some (0, s1) else some (1, s1) := fun _ => rfl
  rw [h, c_even7, bd_s]
  cases evA a 7 <;> rfl
theorem m_holds14 (a : AS) (b : Nat → Int32) (u : Bool) : mo_holds (mM a b u) 14 = some (bI ((evA a 7)), mM a b u) := by
  unfold mo_holds
  rw [m_h8, bd_s, m_h2, bd_s]
  have h : ∀ (s : MS) (t : Int32), mo_holds_19 s 14 t = bd (mo_is s 4) fun v2 s1 => if v2 = 0 then (if t = 0 then mo_holds_141 s1 14 0 else mo_holds_141 s1 14 1) else mo_holds_141 s1 14 1 := fun _ _ => rfl
  have h0 : ∀ (s : MS), mo_holds_141 s 14 0 = some (1, s) := fun _ => rfl
  have h1 : ∀ (s : MS), mo_holds_141 s 14 1 = some (0, s) := fun _ => rfl
  rw [h, h, m_h4, bd_s]
  unfold evA ev
  cases hf a 8 <;> cases hf a 4 <;> cases hf a 2 <;> cases hf a 1 <;> rfl
theorem c_meets15 (a : AS) : re_meets (mC a) 15 = some (bI (!(evA a 7)), mC a) := by
  have h : ∀ (s : CS), re_meets s 15 = bd (re_meetsEven s 7) fun v1 s1 => if (1 : Int32) = v1 then some (0, s1) else some (1, s1) := fun _ => rfl
  rw [h, c_even7, bd_s]
  cases evA a 7 <;> rfl
theorem m_holds15 (a : AS) (b : Nat → Int32) (u : Bool) : mo_holds (mM a b u) 15 = some (bI (!(evA a 7)), mM a b u) := by
  unfold mo_holds
  rw [m_h8, bd_s, m_h2, bd_s]
  have h : ∀ (s : MS) (t : Int32), mo_holds_19 s 15 t = bd (mo_is s 4) fun v2 s1 => if v2 = 0 then (if t = 0 then mo_holds_141 s1 15 0 else mo_holds_141 s1 15 1) else mo_holds_141 s1 15 1 := fun _ _ => rfl
  have h0 : ∀ (s : MS), mo_holds_141 s 15 0 = some (0, s) := fun _ => rfl
  have h1 : ∀ (s : MS), mo_holds_141 s 15 1 = some (1, s) := fun _ => rfl
  rw [h, h, m_h4, bd_s]
  unfold evA ev
  cases hf a 8 <;> cases hf a 4 <;> cases hf a 2 <;> cases hf a 1 <;> rfl
theorem rl_br (a : AS) (b : Nat → Int32) (c : Nat) (hc : c < 16) (x : Int32) : Rl PT b false (tc_branch (mC a) (nI c) x) (mo_branch_18 (mM a b false) (nI c) x) := by
  have go : ∀ (s : MS) (x : Int32), mo_branch_36 s x = some (0, my_reg s (upd (mx_reg s) 6 ((mx_reg s 6 + x) &&& 65535))) := fun _ _ => rfl
  have st : mo_branch_36 (mM a b false) x = some (nI 0, mM (sR a 6 (gR a 6 % 65536 + x.toBitVec.toNat)) b false) := by
    rw [go, m_reg6, add_x, and65535]
    unfold w16
    rw [m_set6]
    rfl
  have c1 : tc_branch_16 (mC a) = some (nI 0, mC a) := rfl
  have m1 : mo_branch_55 (mM a b false) = some (nI 0, mM a b false) := rfl
  have cx : ∀ z : AS, tc_branch_16 (mC z) = some (nI 0, mC z) := fun _ => rfl
  have hcs : c = 0 ∨ c = 1 ∨ c = 2 ∨ c = 3 ∨ c = 4 ∨ c = 5 ∨ c = 6 ∨ c = 7 ∨ c = 8 ∨ c = 9 ∨ c = 10 ∨ c = 11 ∨ c = 12 ∨ c = 13 ∨ c = 14 ∨ c = 15 := by omega
  unfold tc_branch mo_branch_18
  rcases hcs with rfl | rfl | rfl | rfl | rfl | rfl | rfl | rfl | rfl | rfl | rfl | rfl | rfl | rfl | rfl | rfl
  · rw [show nI 0 = (0 : Int32) from rfl, c_meets0, bd_s, if_neg (by show ¬ bI true = 0; decide), if_pos rfl, c_goOn, bd_s, cx, st]
    exact ⟨0, _, rfl, rfl, trivial⟩
  · rw [show nI 1 = (1 : Int32) from rfl, c_meets1, bd_s, if_pos (by show bI false = 0; decide), if_neg (by decide), if_pos (by decide), c1, m1]
    exact ⟨0, _, rfl, rfl, trivial⟩
  · rw [show nI 2 = (2 : Int32) from rfl, c_meets2, bd_s, if_neg (show ¬ (2 : Int32) = 0 by decide), if_neg (show ¬ (2 : Int32) ≤ 1 by decide), m_holds2, bd_s]
    cases (evA a 1)
    · rw [if_pos (by decide), if_pos (by decide), c1, m1]
      exact ⟨0, _, rfl, rfl, trivial⟩
    · rw [if_neg (by decide), if_neg (by decide), c_goOn, bd_s, cx, st]
      exact ⟨0, _, rfl, rfl, trivial⟩
  · rw [show nI 3 = (3 : Int32) from rfl, c_meets3, bd_s, if_neg (show ¬ (3 : Int32) = 0 by decide), if_neg (show ¬ (3 : Int32) ≤ 1 by decide), m_holds3, bd_s]
    cases !(evA a 1)
    · rw [if_pos (by decide), if_pos (by decide), c1, m1]
      exact ⟨0, _, rfl, rfl, trivial⟩
    · rw [if_neg (by decide), if_neg (by decide), c_goOn, bd_s, cx, st]
      exact ⟨0, _, rfl, rfl, trivial⟩
  · rw [show nI 4 = (4 : Int32) from rfl, c_meets4, bd_s, if_neg (show ¬ (4 : Int32) = 0 by decide), if_neg (show ¬ (4 : Int32) ≤ 1 by decide), m_holds4, bd_s]
    cases (evA a 2)
    · rw [if_pos (by decide), if_pos (by decide), c1, m1]
      exact ⟨0, _, rfl, rfl, trivial⟩
    · rw [if_neg (by decide), if_neg (by decide), c_goOn, bd_s, cx, st]
      exact ⟨0, _, rfl, rfl, trivial⟩
  · rw [show nI 5 = (5 : Int32) from rfl, c_meets5, bd_s, if_neg (show ¬ (5 : Int32) = 0 by decide), if_neg (show ¬ (5 : Int32) ≤ 1 by decide), m_holds5, bd_s]
    cases !(evA a 2)
    · rw [if_pos (by decide), if_pos (by decide), c1, m1]
      exact ⟨0, _, rfl, rfl, trivial⟩
    · rw [if_neg (by decide), if_neg (by decide), c_goOn, bd_s, cx, st]
      exact ⟨0, _, rfl, rfl, trivial⟩
  · rw [show nI 6 = (6 : Int32) from rfl, c_meets6, bd_s, if_neg (show ¬ (6 : Int32) = 0 by decide), if_neg (show ¬ (6 : Int32) ≤ 1 by decide), m_holds6, bd_s]
    cases (evA a 3)
    · rw [if_pos (by decide), if_pos (by decide), c1, m1]
      exact ⟨0, _, rfl, rfl, trivial⟩
    · rw [if_neg (by decide), if_neg (by decide), c_goOn, bd_s, cx, st]
      exact ⟨0, _, rfl, rfl, trivial⟩
  · rw [show nI 7 = (7 : Int32) from rfl, c_meets7, bd_s, if_neg (show ¬ (7 : Int32) = 0 by decide), if_neg (show ¬ (7 : Int32) ≤ 1 by decide), m_holds7, bd_s]
    cases !(evA a 3)
    · rw [if_pos (by decide), if_pos (by decide), c1, m1]
      exact ⟨0, _, rfl, rfl, trivial⟩
    · rw [if_neg (by decide), if_neg (by decide), c_goOn, bd_s, cx, st]
      exact ⟨0, _, rfl, rfl, trivial⟩
  · rw [show nI 8 = (8 : Int32) from rfl, c_meets8, bd_s, if_neg (show ¬ (8 : Int32) = 0 by decide), if_neg (show ¬ (8 : Int32) ≤ 1 by decide), m_holds8, bd_s]
    cases (evA a 4)
    · rw [if_pos (by decide), if_pos (by decide), c1, m1]
      exact ⟨0, _, rfl, rfl, trivial⟩
    · rw [if_neg (by decide), if_neg (by decide), c_goOn, bd_s, cx, st]
      exact ⟨0, _, rfl, rfl, trivial⟩
  · rw [show nI 9 = (9 : Int32) from rfl, c_meets9, bd_s, if_neg (show ¬ (9 : Int32) = 0 by decide), if_neg (show ¬ (9 : Int32) ≤ 1 by decide), m_holds9, bd_s]
    cases !(evA a 4)
    · rw [if_pos (by decide), if_pos (by decide), c1, m1]
      exact ⟨0, _, rfl, rfl, trivial⟩
    · rw [if_neg (by decide), if_neg (by decide), c_goOn, bd_s, cx, st]
      exact ⟨0, _, rfl, rfl, trivial⟩
  · rw [show nI 10 = (10 : Int32) from rfl, c_meets10, bd_s, if_neg (show ¬ (10 : Int32) = 0 by decide), if_neg (show ¬ (10 : Int32) ≤ 1 by decide), m_holds10, bd_s]
    cases (evA a 5)
    · rw [if_pos (by decide), if_pos (by decide), c1, m1]
      exact ⟨0, _, rfl, rfl, trivial⟩
    · rw [if_neg (by decide), if_neg (by decide), c_goOn, bd_s, cx, st]
      exact ⟨0, _, rfl, rfl, trivial⟩
  · rw [show nI 11 = (11 : Int32) from rfl, c_meets11, bd_s, if_neg (show ¬ (11 : Int32) = 0 by decide), if_neg (show ¬ (11 : Int32) ≤ 1 by decide), m_holds11, bd_s]
    cases !(evA a 5)
    · rw [if_pos (by decide), if_pos (by decide), c1, m1]
      exact ⟨0, _, rfl, rfl, trivial⟩
    · rw [if_neg (by decide), if_neg (by decide), c_goOn, bd_s, cx, st]
      exact ⟨0, _, rfl, rfl, trivial⟩
  · rw [show nI 12 = (12 : Int32) from rfl, c_meets12, bd_s, if_neg (show ¬ (12 : Int32) = 0 by decide), if_neg (show ¬ (12 : Int32) ≤ 1 by decide), m_holds12, bd_s]
    cases (evA a 6)
    · rw [if_pos (by decide), if_pos (by decide), c1, m1]
      exact ⟨0, _, rfl, rfl, trivial⟩
    · rw [if_neg (by decide), if_neg (by decide), c_goOn, bd_s, cx, st]
      exact ⟨0, _, rfl, rfl, trivial⟩
  · rw [show nI 13 = (13 : Int32) from rfl, c_meets13, bd_s, if_neg (show ¬ (13 : Int32) = 0 by decide), if_neg (show ¬ (13 : Int32) ≤ 1 by decide), m_holds13, bd_s]
    cases !(evA a 6)
    · rw [if_pos (by decide), if_pos (by decide), c1, m1]
      exact ⟨0, _, rfl, rfl, trivial⟩
    · rw [if_neg (by decide), if_neg (by decide), c_goOn, bd_s, cx, st]
      exact ⟨0, _, rfl, rfl, trivial⟩
  · rw [show nI 14 = (14 : Int32) from rfl, c_meets14, bd_s, if_neg (show ¬ (14 : Int32) = 0 by decide), if_neg (show ¬ (14 : Int32) ≤ 1 by decide), m_holds14, bd_s]
    cases (evA a 7)
    · rw [if_pos (by decide), if_pos (by decide), c1, m1]
      exact ⟨0, _, rfl, rfl, trivial⟩
    · rw [if_neg (by decide), if_neg (by decide), c_goOn, bd_s, cx, st]
      exact ⟨0, _, rfl, rfl, trivial⟩
  · rw [show nI 15 = (15 : Int32) from rfl, c_meets15, bd_s, if_neg (show ¬ (15 : Int32) = 0 by decide), if_neg (show ¬ (15 : Int32) ≤ 1 by decide), m_holds15, bd_s]
    cases !(evA a 7)
    · rw [if_pos (by decide), if_pos (by decide), c1, m1]
      exact ⟨0, _, rfl, rfl, trivial⟩
    · rw [if_neg (by decide), if_neg (by decide), c_goOn, bd_s, cx, st]
      exact ⟨0, _, rfl, rfl, trivial⟩
theorem rl_mul (a : AS) (b : Nat → Int32) : Rl PT b false (ar_multiply (mC a)) (mo_multiply (mM a b false)) := by
  have hx : gR a 0 % 256 < 256 := Nat.mod_lt _ (by decide)
  have hy : gR a 1 % 256 < 256 := Nat.mod_lt _ (by decide)
  have hv : (gR a 0 % 256) * (gR a 1 % 256) < 65536 := by
    have := Nat.mul_le_mul (Nat.le_of_lt_succ hx) (Nat.le_of_lt_succ hy)
    omega
  unfold ar_multiply ar_multiply_42 ar_multiply_63 mo_multiply mo_multiply_30 mo_multiply_48
  rw [c_get0, bd_s, c_get1, bd_s, nm_d, pk_mul, c_set9, bd_s, nm_d, m_reg0, m_reg1, pk_mul, m_setD, bd_s]
  generalize (gR a 0 % 256) * (gR a 1 % 256) = v at hv
  have h1 : (nI v = 0) ↔ v = 0 := by rw [← nI_0]; exact nI_eq (by omega) (by omega)
  refine rl_if Iff.rfl (fun _ => ?_) (fun _ => ?_)
  · rw [c_turn4_1, bd_s, m_flag4_1, bd_s]
    refine rl_if Iff.rfl (fun _ => ?_) (fun _ => ?_)
    · rw [c_turn1_0, bd_s, m_flag1_0, bd_s]
      exact ⟨0, _, rfl, rfl, trivial⟩
    · rw [c_turn1_1, bd_s, m_flag1_1, bd_s]
      exact ⟨0, _, rfl, rfl, trivial⟩
  · rw [c_turn4_0, bd_s, m_flag4_0, bd_s]
    refine rl_if Iff.rfl (fun _ => ?_) (fun _ => ?_)
    · rw [c_turn1_0, bd_s, m_flag1_0, bd_s]
      exact ⟨0, _, rfl, rfl, trivial⟩
    · rw [c_turn1_1, bd_s, m_flag1_1, bd_s]
      exact ⟨0, _, rfl, rfl, trivial⟩
theorem rl_then {P : Nat → AS → Prop} {b : Nat → Int32} {u : Bool} {x : Option (Int32 × CS)} {y : Option (Int32 × MS)} (h : Rl P b u x y) : Rl PT b u (bd x fun _ s => some ((0 : Int32), s)) (bd y fun _ s => some ((0 : Int32), s)) := by
  obtain ⟨n, a, h1, h2, h3⟩ := h
  rw [h1, h2, bd_s, bd_s]
  exact ⟨0, a, rfl, rfl, trivial⟩
theorem rl_then2 {P : Nat → AS → Prop} {b : Nat → Int32} {u : Bool} {x : Option (Int32 × CS)} {y : Option (Int32 × MS)} {f : CS → Option (Int32 × CS)} {g : MS → Option (Int32 × MS)} (hf : ∀ s, f s = some (0, s)) (hg : ∀ s, g s = some (0, s)) (h : Rl P b u x y) : Rl PT b u (bd x fun _ s => f s) (bd y fun _ s => g s) := by
  obtain ⟨n, a, h1, h2, h3⟩ := h
  rw [h1, h2, bd_s, bd_s, hf, hg]
  exact ⟨0, a, rfl, rfl, trivial⟩
theorem rl_back (a : AS) (b : Nat → Int32) : Rl PT b false (tc_returnFromInterrupt (mC a)) (mo_back (mM a b false)) := by
  unfold tc_returnFromInterrupt tc_returnFromInterrupt_38 mo_back mo_back_33
  rw [c_pullByte5, bd_s, c_set8, bd_s, c_h128, bd_s, m_pull5, bd_s, ns_d, m_sv8 _ _ _ _ (uB_lt _ _), m_h128, bd_s]
  refine rl_if Iff.rfl (fun _ => ?_) (fun _ => ?_)
  · exact rl_then (pu0_5 _ b false 128)
  · exact rl_then (pu0_5 _ b false 254)
theorem or80 : ∀ c, c < 256 → (nI c ||| (16 : Int32)) ||| (64 : Int32) = nI ((c % 256 ||| 80) % 256) := by decide +kernel
/-- all registers pushed, and what follows -/
theorem rl_pushState {P2 : Nat → AS → Prop} (a : AS) (b : Nat → Int32) (u2 : Bool) {k : Int32 → CS → Option (Int32 × CS)} {k2 : Int32 → MS → Option (Int32 × MS)} (hk : ∀ (n n2 : Int32) (z : AS), Rl P2 b u2 (k n (mC z)) (k2 n2 (mM z b false))) : Rl P2 b u2 (bd (re_turn (mC a) 128 1) fun _ s1 => bd (tc_pushRegisters s1 5 255) k) (bd (mo_pushState (mM a b false)) k2) := by
  unfold mo_pushState
  rw [c_turn128_1, bd_s, m_flag128_1, bd_s]
  obtain ⟨n, z, h1, h2, h3⟩ := pa0_5 (sR a 8 (fl (gR a 8) 128 true)) b false 255
  rw [show (255 : Int32) = nI 255 from rfl, h1, h2, bd_s, bd_s, bd_s]
  exact hk _ _ z
theorem rl_trapEnd (z : AS) (b : Nat → Int32) (e : Nat) : Rl PT b false (bd (me_wordAt (mC z) (nI e)) fun v1 s1 => bd (re_set s1 6 v1) fun _ s2 => some ((0 : Int32), s2)) (mo_trap_28 (mM z b false) (nI e)) := by
  unfold mo_trap_28
  rw [c_wordAt, bd_s, c_set6, bd_s, m_readWord, bd_s, ns_d, m_sv6 _ _ _ _ (hl_lt _ _)]
  exact ⟨0, _, rfl, rfl, trivial⟩
theorem rl_swi0 (a : AS) (b : Nat → Int32) : Rl PT b false (tc_softwareInterrupt (mC a) 0) (mo_trap (mM a b false) 65530 1) := by
  have h : ∀ s : CS, tc_softwareInterrupt s 0 = bd (re_turn s 128 1) fun _ s1 => bd (tc_pushRegisters s1 5 255) fun _ s2 => bd (re_turn s2 80 1) fun _ s3 => bd (me_wordAt s3 (nI 65530)) fun v1 s1 => bd (re_set s1 6 v1) fun _ s2 => some ((0 : Int32), s2) := fun _ => rfl
  rw [h]
  unfold mo_trap
  refine rl_pushState a b false (fun _ _ z => ?_)
  rw [c_turn80_1, bd_s, if_neg (by decide), nm_d, ns_d, m_reg8, or80 _ (Nat.mod_lt _ (by decide)), Nat.mod_mod (gR z 8) 256, m_set8]
  exact rl_trapEnd _ b 65530
theorem rl_swi1 (a : AS) (b : Nat → Int32) : Rl PT b false (tc_softwareInterrupt (mC a) 1) (mo_trap (mM a b false) 65524 0) := by
  have h : ∀ s : CS, tc_softwareInterrupt s 1 = bd (re_turn s 128 1) fun _ s1 => bd (tc_pushRegisters s1 5 255) fun _ s2 => bd (me_wordAt s2 (nI 65524)) fun v1 s1 => bd (re_set s1 6 v1) fun _ s2 => some ((0 : Int32), s2) := fun _ => rfl
  rw [h]
  unfold mo_trap
  refine rl_pushState a b false (fun _ _ z => ?_)
  rw [if_pos (by decide)]
  exact rl_trapEnd _ b 65524
theorem rl_swi2 (a : AS) (b : Nat → Int32) : Rl PT b false (tc_softwareInterrupt (mC a) 2) (mo_trap (mM a b false) 65522 0) := by
  have h : ∀ s : CS, tc_softwareInterrupt s 2 = bd (re_turn s 128 1) fun _ s1 => bd (tc_pushRegisters s1 5 255) fun _ s2 => bd (me_wordAt s2 (nI 65522)) fun v1 s1 => bd (re_set s1 6 v1) fun _ s2 => some ((0 : Int32), s2) := fun _ => rfl
  rw [h]
  unfold mo_trap
  refine rl_pushState a b false (fun _ _ z => ?_)
  rw [if_pos (by decide)]
  exact rl_trapEnd _ b 65522
theorem fl_on (c : Nat) : fl c 128 true = c % 256 ||| 128 := rfl
theorem rl_cwai (a : AS) (b : Nat → Int32) : Rl PT b false (bd (tc_fetchByte (mC a)) fun v s1 => tc_waitForInterrupt s1 v) (bd (mo_next (mM a b false)) fun v1 s4 => bd (mo_pushState (my_reg s4 (upd (mx_reg s4) 8 ((mx_reg (mM a b false) 8) &&& v1)))) fun _ s6 => some ((0 : Int32), my_wai s6 2)) := by
  unfold tc_waitForInterrupt mo_pushState
  have hb2 := fB_lt a
  have hlt : gR a 8 % 256 &&& fB a < 256 := Nat.and_lt_two_pow (n := 8) _ hb2
  rw [c_fetchByte, bd_s, c_get8, bd_s, m_next, bd_s, m_reg8, show gR (fS a) 8 = gR a 8 from rfl, and_nI, show (128 : Int32) = nI 128 from rfl, or_nI, c_set8, bd_s, m_sv8 _ _ _ _ hlt, show mo_flag (mM (sR (fS a) 8 (gR a 8 % 256 &&& fB a)) b false) (nI 128) 1 = mo_flag (mM (sR (fS a) 8 (gR a 8 % 256 &&& fB a)) b false) 128 1 from rfl, m_flag128_1, bd_s, sR_sR, gR8, Nat.mod_eq_of_lt hlt, fl_on, Nat.mod_eq_of_lt hlt]
  obtain ⟨n, z, h1, h2, h3⟩ := pa0_5 (sR (fS a) 8 (gR a 8 % 256 &&& fB a ||| 128)) b false 255
  rw [show (255 : Int32) = nI 255 from rfl, h1, h2, bd_s, bd_s, bd_s, ns_d]
  exact ⟨0, sW z 2, rfl, rfl, trivial⟩
theorem rl_orcc (a : AS) (b : Nat → Int32) : Rl PT b false (bd (re_get (mC a) 8) fun v3 s7 => bd (tc_fetchByte s7) fun v4 s8 => bd (re_set s8 8 (v3 ||| v4)) fun _ s9 => some ((0 : Int32), s9)) (bd (mo_next (mM a b false)) fun v6 s7 => some ((0 : Int32), my_reg s7 (upd (mx_reg s7) 8 ((mx_reg (mM a b false) 8) ||| v6)))) := by
  have hb2 := fB_lt a
  have hlt : gR a 8 % 256 ||| fB a < 256 := Nat.or_lt_two_pow (n := 8) (Nat.mod_lt _ (by decide)) hb2
  rw [c_get8, bd_s, c_fetchByte, bd_s, or_nI, c_set8, bd_s, m_next, bd_s, m_reg8, or_nI, m_sv8 _ _ _ _ hlt]
  exact ⟨0, _, rfl, rfl, trivial⟩
theorem rl_andcc (a : AS) (b : Nat → Int32) : Rl PT b false (bd (re_get (mC a) 8) fun v3 s7 => bd (tc_fetchByte s7) fun v4 s8 => bd (re_set s8 8 (v3 &&& v4)) fun _ s9 => some ((0 : Int32), s9)) (bd (mo_next (mM a b false)) fun v6 s7 => some ((0 : Int32), my_reg s7 (upd (mx_reg s7) 8 ((mx_reg (mM a b false) 8) &&& v6)))) := by
  have hb2 := fB_lt a
  have hlt : gR a 8 % 256 &&& fB a < 256 := Nat.and_lt_two_pow (n := 8) _ hb2
  rw [c_get8, bd_s, c_fetchByte, bd_s, and_nI, c_set8, bd_s, m_next, bd_s, m_reg8, and_nI, m_sv8 _ _ _ _ hlt]
  exact ⟨0, _, rfl, rfl, trivial⟩
theorem rl_abx (a : AS) (b : Nat → Int32) : Rl PT b false (bd (re_get (mC a) 2) fun v6 s11 => bd (re_get s11 1) fun v7 s12 => bd (re_set s12 2 (v6 + v7)) fun _ s13 => some ((0 : Int32), s13)) (some ((0 : Int32), my_reg (mM a b false) (upd (mx_reg (mM a b false)) 2 (((mx_reg (mM a b false) 2) + (mx_reg (mM a b false) 1)) &&& (65535 : Int32))))) := by
  rw [c_get2, bd_s, c_get1, bd_s, nI_add, c_set2, bd_s, m_reg2, m_reg1, nI_add, and65535]
  unfold w16
  rw [m_set2]
  exact ⟨0, _, rfl, rfl, trivial⟩
theorem rl_rts (a : AS) (b : Nat → Int32) : Rl PT b false (bd (tc_pullWord (mC a) 5) fun v5 s9 => bd (re_set s9 6 v5) fun _ s10 => some ((0 : Int32), s10)) (bd (mo_pullWord (mM a b false) 5) fun v4 s10 => some ((0 : Int32), my_reg s10 (upd (mx_reg s10) 6 v4))) := by
  rw [c_pullWord5, bd_s, c_set6, bd_s, m_pullWord5, bd_s, m_sv6 _ _ _ _ (uW_lt _ _)]
  exact ⟨0, _, rfl, rfl, trivial⟩
theorem rl_sex (a : AS) (b : Nat → Int32) : Rl PT b false (ar_extendSign (mC a)) (if (mx_reg (mM a b false) 1) < (128 : Int32) then (mo_middle_180 (mM a b false) (0 : Int32) (0 : Int32)) else (mo_middle_180 (mM a b false) (255 : Int32) (0 : Int32))) := by
  unfold ar_extendSign
  have hv : gR a 1 % 256 < 256 := Nat.mod_lt _ (by decide)
  have key : ∀ n : Nat, n < 256 → Rl PT b false (ar_extendSign_27 (mC a) (nI n) 0) (mo_middle_180 (mM a b false) (nI n) 0) := by
    intro n hn
    have h : ∀ (s : MS) (t : Int32), mo_middle_180 s t 0 = bd (mo_d (my_reg s (upd (mx_reg s) 0 t))) fun v1 s2 => bd (mo_moved s2 v1 1) fun _ s3 => some (0, s3) := fun _ _ => rfl
    unfold ar_extendSign_27
    rw [c_set0, bd_s, c_get9, bd_s, c_pass16 _ _ (hl_lt _ _), bd_s, h, m_sv0 _ _ _ _ hn, m_d, bd_s, m_moved16 _ _ _ _ (hl_lt _ _), bd_s]
    exact ⟨0, _, rfl, rfl, trivial⟩
  rw [c_get1, bd_s, m_reg1]
  refine rl_if ((top_iff _ hv).trans (lt128_iff _ hv).symm) (fun _ => ?_) (fun _ => ?_)
  · exact key 0 (by decide)
  · exact key 255 (by decide)

theorem rl_lea2 (a : AS) (b : Nat → Int32) (hd : dpb (fB a) = true) : Rl PT b false (bd (tc_indexedAddress (mC a)) fun v1 s1 => tc_takeAddress s1 2 v1) (mo_lea (mM a b false) 2) := by
  obtain ⟨n, z, h1, h2, h3, h4⟩ := rl_index a b hd
  unfold tc_takeAddress tc_takeAddress_16 tc_takeAddress_30 mo_lea mo_lea_30 mo_lea_41
  rw [h1, h2, bd_s, bd_s, mx_und_e, if_pos (by decide), show okI 2 9 = true from rfl, gd_t, ns_d, show ((2 : Int32).toNatClampNeg) = 2 from rfl, m_sv2 _ _ _ _ h3, c_become2, bd_s]
  have e : ∀ y : AS, mo_lea_44 (mM y b false) 2 = some (nI 0, mM y b false) := by
    intro y
    unfold mo_lea_44
    rw [mx_arm_e]
    cases hg : gA y
    · have h1 : mo_lea_62 (mM y b false) 0 = some (nI 0, mM (sA y false) b false) := rfl
      rw [if_pos (by decide), if_neg (by decide), h1, sA_same hg]
    · have h1 : mo_lea_57 (mM y b false) = some (nI 0, mM (sA y true) b false) := rfl
      rw [if_neg (by decide), h1, sA_same hg]
  rw [if_pos (show (2 : Int32) = 2 from rfl), if_pos (show (2 : Int32) = 2 from rfl)]
  refine rl_if Iff.rfl (fun _ => ?_) (fun _ => ?_)
  · rw [c_turn4_1, bd_s, m_flag4_1, bd_s, e]
    exact ⟨0, _, rfl, rfl, trivial⟩
  · rw [c_turn4_0, bd_s, m_flag4_0, bd_s, e]
    exact ⟨0, _, rfl, rfl, trivial⟩
theorem rl_lea3 (a : AS) (b : Nat → Int32) (hd : dpb (fB a) = true) : Rl PT b false (bd (tc_indexedAddress (mC a)) fun v1 s1 => tc_takeAddress s1 3 v1) (mo_lea (mM a b false) 3) := by
  obtain ⟨n, z, h1, h2, h3, h4⟩ := rl_index a b hd
  unfold tc_takeAddress tc_takeAddress_16 tc_takeAddress_30 mo_lea mo_lea_30 mo_lea_41
  rw [h1, h2, bd_s, bd_s, mx_und_e, if_pos (by decide), show okI 3 9 = true from rfl, gd_t, ns_d, show ((3 : Int32).toNatClampNeg) = 3 from rfl, m_sv3 _ _ _ _ h3, c_become3, bd_s]
  have e : ∀ y : AS, mo_lea_44 (mM y b false) 3 = some (nI 0, mM y b false) := by
    intro y
    unfold mo_lea_44
    rw [mx_arm_e]
    cases hg : gA y
    · have h1 : mo_lea_62 (mM y b false) 0 = some (nI 0, mM (sA y false) b false) := rfl
      rw [if_pos (by decide), if_neg (by decide), h1, sA_same hg]
    · have h1 : mo_lea_57 (mM y b false) = some (nI 0, mM (sA y true) b false) := rfl
      rw [if_neg (by decide), h1, sA_same hg]
  rw [if_neg (show ¬ (3 : Int32) = 2 by decide), if_neg (show ¬ (3 : Int32) = 2 by decide), if_pos (show (3 : Int32) = 3 from rfl), if_pos (show (3 : Int32) = 3 from rfl)]
  refine rl_if Iff.rfl (fun _ => ?_) (fun _ => ?_)
  · rw [c_turn4_1, bd_s, m_flag4_1, bd_s, e]
    exact ⟨0, _, rfl, rfl, trivial⟩
  · rw [c_turn4_0, bd_s, m_flag4_0, bd_s, e]
    exact ⟨0, _, rfl, rfl, trivial⟩
theorem rl_lea4 (a : AS) (b : Nat → Int32) (hd : dpb (fB a) = true) : Rl PT b false (bd (tc_indexedAddress (mC a)) fun v1 s1 => tc_takeAddress s1 4 v1) (mo_lea (mM a b false) 4) := by
  obtain ⟨n, z, h1, h2, h3, h4⟩ := rl_index a b hd
  unfold tc_takeAddress tc_takeAddress_16 tc_takeAddress_30 mo_lea mo_lea_30 mo_lea_41
  rw [h1, h2, bd_s, bd_s, mx_und_e, if_pos (by decide), show okI 4 9 = true from rfl, gd_t, ns_d, show ((4 : Int32).toNatClampNeg) = 4 from rfl, m_sv4 _ _ _ _ h3, c_become4, bd_s]
  rw [if_neg (by decide), if_neg (by decide), if_neg (by decide), if_neg (by decide)]
  unfold mo_lea_44
  rw [mx_arm_e]
  cases hg : gA (sR z 4 n)
  · have h1 : mo_lea_62 (mM (sR z 4 n) b false) 0 = some (nI 0, mM (sA (sR z 4 n) false) b false) := rfl
    rw [if_pos (by decide), if_neg (by decide), h1, sA_same hg]
    exact ⟨0, _, rfl, rfl, trivial⟩
  · have h1 : mo_lea_57 (mM (sR z 4 n) b false) = some (nI 0, mM (sA (sR z 4 n) true) b false) := rfl
    rw [if_neg (by decide), h1, sA_same hg]
    exact ⟨0, _, rfl, rfl, trivial⟩
theorem rl_lea5 (a : AS) (b : Nat → Int32) (hd : dpb (fB a) = true) : Rl PT b false (bd (tc_indexedAddress (mC a)) fun v1 s1 => tc_takeAddress s1 5 v1) (mo_lea (mM a b false) 5) := by
  obtain ⟨n, z, h1, h2, h3, h4⟩ := rl_index a b hd
  unfold tc_takeAddress tc_takeAddress_16 tc_takeAddress_30 mo_lea mo_lea_30 mo_lea_41
  rw [h1, h2, bd_s, bd_s, mx_und_e, if_pos (by decide), show okI 5 9 = true from rfl, gd_t, ns_d, show ((5 : Int32).toNatClampNeg) = 5 from rfl, m_sv5 _ _ _ _ h3, c_become5, bd_s]
  rw [if_neg (by decide), if_neg (by decide), if_neg (by decide), if_neg (by decide)]
  unfold mo_lea_44
  have h1 : mo_lea_57 (mM (sR z 5 n) b false) = some (nI 0, mM (sA (sR z 5 n) true) b false) := rfl
  rw [if_pos (show (5 : Int32) = 5 from rfl), h1]
  refine ⟨0, sA (sR z 5 n) true, rfl, ?_, trivial⟩
  split <;> rfl
theorem un_lea (a : AS) (b : Nat → Int32) (k : Int32) (hd : dpb (fB a) = false) : mo_lea (mM a b false) k = some (0, mM (fS a) b true) := by
  unfold mo_lea
  rw [m_post_un a b false hd, bd_s, mx_und_e, if_neg (by decide)]
