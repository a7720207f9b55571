theorem m_in (s : MS) (v lo hi : Int32) : mo_in s v lo hi = some (bI (decide (lo ≤ v ∧ v ≤ hi)), s) := by
  unfold mo_in
  by_cases h1 : v < lo
  · rw [if_pos h1, decide_eq_false (fun z => k2_nle h1 z.1)]; rfl
  · rw [if_neg h1]
    by_cases h2 : hi < v
    · rw [if_pos h2, decide_eq_false (fun z => k2_nle h2 z.2)]; rfl
    · rw [if_neg h2, decide_eq_true ⟨k2_le h1, k2_le h2⟩]; rfl
theorem m_hasRoom8 (s : MS) (v : Int32) : mo_hasRoom s v 0 = some (bI (decide (-128 ≤ v.toInt ∧ v.toInt ≤ 127)), s) := by
  have h : mo_hasRoom s v 0 = bd (mo_in s v (-128) 127) fun v1 s1 => mo_hasRoom_25 s1 v1 := rfl
  rw [h, m_in, bd_s]
  unfold mo_hasRoom_25
  rw [isB_bI, gd_t, dec_iff (q := -128 ≤ v.toInt ∧ v.toInt ≤ 127)]
  rw [Int32.le_iff_toInt_le, Int32.le_iff_toInt_le]
  exact Iff.rfl
theorem m_hasRoom16 (s : MS) (v : Int32) : mo_hasRoom s v 1 = some (bI (decide (-32768 ≤ v.toInt ∧ v.toInt ≤ 32767)), s) := by
  have h : mo_hasRoom s v 1 = bd (mo_in s v (-32768) 32767) fun v1 s1 => mo_hasRoom_25 s1 v1 := rfl
  rw [h, m_in, bd_s]
  unfold mo_hasRoom_25
  rw [isB_bI, gd_t, dec_iff (q := -32768 ≤ v.toInt ∧ v.toInt ≤ 32767)]
  rw [Int32.le_iff_toInt_le, Int32.le_iff_toInt_le]
  exact Iff.rfl
def sg8 (x : Nat) : Int32 := if x < 128 then nI x else nI x - nI 256
def so8 (x : Nat) : Int := if x < 128 then 0 else 256
theorem m_asSigned8 (s : MS) (x : Nat) (hx : x < 256) : mo_asSigned s (nI x) 0 = some (sg8 x, s) := by
  have h : mo_asSigned s (nI x) 0 = if nI x < (128 : Int32) then mo_asSigned_37 s (nI x) else mo_asSigned_37 s (nI x - (256 : Int32)) := rfl
  have e : nI x < (128 : Int32) ↔ x < 128 := nI_ltI (b := 128) (by omega) (by decide)
  rw [h]
  unfold sg8
  by_cases c : x < 128
  · rw [if_pos (e.mpr c), if_pos c]; rfl
  · rw [if_neg (fun z => c (e.mp z)), if_neg c]; rfl
theorem sgA8 (x y q : Nat) (hx : x < 256) (hy : y < 256) (hq : q ≤ 1) : ((sg8 x + sg8 y) + nI q).toInt = (x : Int) + y + q - so8 x - so8 y := by
  unfold sg8 so8
  by_cases c : x < 128
  · by_cases d : y < 128
    · rw [if_pos c, if_pos d, if_pos c, if_pos d, nI_add, nI_add, nI_toInt (by omega)]; omega
    · rw [if_pos c, if_neg d, if_pos c, if_neg d, show nI x + (nI y - nI 256) + nI q = nI (x + y + q) - nI 256 by rw [← nI_add, ← nI_add]; grind, pk_sub_toInt (by omega) (by omega)]; omega
  · by_cases d : y < 128
    · rw [if_neg c, if_pos d, if_neg c, if_pos d, show nI x - nI 256 + nI y + nI q = nI (x + y + q) - nI 256 by rw [← nI_add, ← nI_add]; grind, pk_sub_toInt (by omega) (by omega)]; omega
    · rw [if_neg c, if_neg d, if_neg c, if_neg d, show nI x - nI 256 + (nI y - nI 256) + nI q = nI (x + y + q) - nI (256 + 256) by rw [← nI_add, ← nI_add, ← nI_add]; grind, pk_sub_toInt (by omega) (by omega)]; omega
theorem sgS8 (x y q : Nat) (hx : x < 256) (hy : y < 256) (hq : q ≤ 1) : ((sg8 x - sg8 y) - nI q).toInt = (x : Int) - y - q - so8 x + so8 y := by
  unfold sg8 so8
  by_cases c : x < 128
  · by_cases d : y < 128
    · rw [if_pos c, if_pos d, if_pos c, if_pos d, show nI x - nI y - nI q = nI x - nI (y + q) by rw [← nI_add]; grind, pk_sub_toInt (by omega) (by omega)]; omega
    · rw [if_pos c, if_neg d, if_pos c, if_neg d, show nI x - (nI y - nI 256) - nI q = nI (x + 256) - nI (y + q) by rw [← nI_add, ← nI_add]; grind, pk_sub_toInt (by omega) (by omega)]; omega
  · by_cases d : y < 128
    · rw [if_neg c, if_pos d, if_neg c, if_pos d, show nI x - nI 256 - nI y - nI q = nI x - nI (256 + y + q) by rw [← nI_add, ← nI_add]; grind, pk_sub_toInt (by omega) (by omega)]; omega
    · rw [if_neg c, if_neg d, if_neg c, if_neg d, show nI x - nI 256 - (nI y - nI 256) - nI q = nI x - nI (y + q) by rw [← nI_add]; grind, pk_sub_toInt (by omega) (by omega)]; omega
theorem roomA8 (x y q : Nat) (hx : x < 256) (hy : y < 256) (hq : q ≤ 1) : decide (-128 ≤ ((sg8 x + sg8 y) + nI q).toInt ∧ ((sg8 x + sg8 y) + nI q).toInt ≤ 127) = !(ovA x y ((x + y + q) % 256) 7) := by
  rw [sgA8 x y q hx hy hq]
  unfold ovA so8
  generalize hr : (x + y + q) % 256 = r
  rw [tb_ge (k := 7) (x := x) (by omega), tb_ge (k := 7) (x := y) (by omega), tb_ge (k := 7) (x := r) (by omega), show 2 ^ 7 = 128 from rfl]
  by_cases c : x < 128
  · by_cases d : y < 128
    · by_cases e : r < 128
      · rw [if_pos c, if_pos d, decide_eq_false (p := 128 ≤ x) (by omega), decide_eq_false (p := 128 ≤ y) (by omega), decide_eq_false (p := 128 ≤ r) (by omega)]; simp; omega
      · rw [if_pos c, if_pos d, decide_eq_false (p := 128 ≤ x) (by omega), decide_eq_false (p := 128 ≤ y) (by omega), decide_eq_true (p := 128 ≤ r) (by omega)]; simp; omega
    · by_cases e : r < 128
      · rw [if_pos c, if_neg d, decide_eq_false (p := 128 ≤ x) (by omega), decide_eq_true (p := 128 ≤ y) (by omega), decide_eq_false (p := 128 ≤ r) (by omega)]; simp; omega
      · rw [if_pos c, if_neg d, decide_eq_false (p := 128 ≤ x) (by omega), decide_eq_true (p := 128 ≤ y) (by omega), decide_eq_true (p := 128 ≤ r) (by omega)]; simp; omega
  · by_cases d : y < 128
    · by_cases e : r < 128
      · rw [if_neg c, if_pos d, decide_eq_true (p := 128 ≤ x) (by omega), decide_eq_false (p := 128 ≤ y) (by omega), decide_eq_false (p := 128 ≤ r) (by omega)]; simp; omega
      · rw [if_neg c, if_pos d, decide_eq_true (p := 128 ≤ x) (by omega), decide_eq_false (p := 128 ≤ y) (by omega), decide_eq_true (p := 128 ≤ r) (by omega)]; simp; omega
    · by_cases e : r < 128
      · rw [if_neg c, if_neg d, decide_eq_true (p := 128 ≤ x) (by omega), decide_eq_true (p := 128 ≤ y) (by omega), decide_eq_false (p := 128 ≤ r) (by omega)]; simp; omega
      · rw [if_neg c, if_neg d, decide_eq_true (p := 128 ≤ x) (by omega), decide_eq_true (p := 128 ≤ y) (by omega), decide_eq_true (p := 128 ≤ r) (by omega)]; simp; omega
theorem roomS8 (x y q : Nat) (hx : x < 256) (hy : y < 256) (hq : q ≤ 1) : decide (-128 ≤ ((sg8 x - sg8 y) - nI q).toInt ∧ ((sg8 x - sg8 y) - nI q).toInt ≤ 127) = !(ovS x y (rS x y q 7) 7) := by
  rw [sgS8 x y q hx hy hq]
  unfold ovS so8
  generalize hr : rS x y q 7 = r
  have hr2 : (x + (256 - (y + q))) % 256 = r := hr
  rw [tb_ge (k := 7) (x := x) (by omega), tb_ge (k := 7) (x := y) (by omega), tb_ge (k := 7) (x := r) (by omega), show 2 ^ 7 = 128 from rfl]
  by_cases c : x < 128
  · by_cases d : y < 128
    · by_cases e : r < 128
      · rw [if_pos c, if_pos d, decide_eq_false (p := 128 ≤ x) (by omega), decide_eq_false (p := 128 ≤ y) (by omega), decide_eq_false (p := 128 ≤ r) (by omega)]; simp; omega
      · rw [if_pos c, if_pos d, decide_eq_false (p := 128 ≤ x) (by omega), decide_eq_false (p := 128 ≤ y) (by omega), decide_eq_true (p := 128 ≤ r) (by omega)]; simp; omega
    · by_cases e : r < 128
      · rw [if_pos c, if_neg d, decide_eq_false (p := 128 ≤ x) (by omega), decide_eq_true (p := 128 ≤ y) (by omega), decide_eq_false (p := 128 ≤ r) (by omega)]; simp; omega
      · rw [if_pos c, if_neg d, decide_eq_false (p := 128 ≤ x) (by omega), decide_eq_true (p := 128 ≤ y) (by omega), decide_eq_true (p := 128 ≤ r) (by omega)]; simp; omega
  · by_cases d : y < 128
    · by_cases e : r < 128
      · rw [if_neg c, if_pos d, decide_eq_true (p := 128 ≤ x) (by omega), decide_eq_false (p := 128 ≤ y) (by omega), decide_eq_false (p := 128 ≤ r) (by omega)]; simp; omega
      · rw [if_neg c, if_pos d, decide_eq_true (p := 128 ≤ x) (by omega), decide_eq_false (p := 128 ≤ y) (by omega), decide_eq_true (p := 128 ≤ r) (by omega)]; simp; omega
    · by_cases e : r < 128
      · rw [if_neg c, if_neg d, decide_eq_true (p := 128 ≤ x) (by omega), decide_eq_true (p := 128 ≤ y) (by omega), decide_eq_false (p := 128 ≤ r) (by omega)]; simp; omega
      · rw [if_neg c, if_neg d, decide_eq_true (p := 128 ≤ x) (by omega), decide_eq_true (p := 128 ≤ y) (by omega), decide_eq_true (p := 128 ≤ r) (by omega)]; simp; omega
theorem m_plus39_8 (a : AS) (b : Nat → Int32) (u : Bool) (x y q : Nat) (hx : x < 256) (hy : y < 256) (hq : q ≤ 1) : mo_plus_39 (mM a b u) (nI x) (nI y) (nI q) 0 (nI (x + y + q)) = some (nI ((x + y + q) % 256), mM (sR a 8 (fA (gR a 8) x y q 7)) b u) := by
  have h : mo_plus_39 (mM a b u) (nI x) (nI y) (nI q) 0 (nI (x + y + q)) = mo_plus_56 (mM a b u) (nI x) (nI y) (nI q) 0 (nI (x + y + q)) 255 (nI (x + y + q)) 1 := rfl
  have g : ∀ (s : MS) (t0 t1 : Int32), mo_plus_97 s 0 (nI (x + y + q)) t0 t1 = bd (mo_flag s t1 t0) fun _ s1 => bd (mo_shows s1 (nI (x + y + q)) 0) fun _ s2 => some (nI (x + y + q) &&& 255, s2) := fun _ _ _ => rfl
  have e1 : (nI (x + y + q) ≤ (255 : Int32)) ↔ ¬ 256 ≤ x + y + q := by
    rw [show (255 : Int32) = nI 255 from rfl, nI_leI (by omega) (by decide)]
    omega
  rw [h]
  unfold mo_plus_56 mo_plus_64
  simp only [e1, g]
  have rest : ∀ (a2 : AS), (bd (mo_asSigned (mM a2 b u) (nI x) 0) fun v1 s2 => bd (mo_asSigned s2 (nI y) 0) fun v2 s3 => bd (mo_hasRoom s3 ((v1 + v2) + nI q) 0) fun v3 s4 => if v3 = 0 then (bd (mo_flag s4 2 1) fun _ s1 => bd (mo_shows s1 (nI (x + y + q)) 0) fun _ s2 => some (nI (x + y + q) &&& (255 : Int32), s2)) else (bd (mo_flag s4 2 0) fun _ s1 => bd (mo_shows s1 (nI (x + y + q)) 0) fun _ s2 => some (nI (x + y + q) &&& (255 : Int32), s2))) = some (nI ((x + y + q) % 256), mM (sR a2 8 (fl (fl (fl (gR a2 8) 2 (ovA x y ((x + y + q) % 256) 7)) 8 (decide (128 ≤ (x + y + q) % 256))) 4 (decide ((x + y + q) % 256 = 0)))) b u) := by
    intro a2
    rw [m_asSigned8 _ _ hx, bd_s, m_asSigned8 _ _ hy, bd_s, m_hasRoom8, bd_s, roomA8 x y q hx hy hq, and255]
    cases ho : ovA x y ((x + y + q) % 256) 7
    · rw [if_neg (by decide), m_flag2_0, bd_s, m_shows8, bd_s, sR_sR, gR8, fl_mod]; rfl
    · rw [if_pos (by decide), m_flag2_1, bd_s, m_shows8, bd_s, sR_sR, gR8, fl_mod]; rfl
  by_cases c : 256 ≤ x + y + q
  · rw [if_neg (fun z => z c), m_flag1_1, bd_s, rest, sR_sR, gR8, fl_mod, fl_o2]
    unfold fA
    rw [show 2 * 2 ^ 7 = 256 from rfl, show 2 ^ 7 = 128 from rfl, decide_eq_true c]
  · rw [if_pos c, m_flag1_0, bd_s, rest, sR_sR, gR8, fl_mod, fl_o2]
    unfold fA
    rw [show 2 * 2 ^ 7 = 256 from rfl, show 2 ^ 7 = 128 from rfl, decide_eq_false c]
theorem m_less8 (a : AS) (b : Nat → Int32) (u : Bool) (x y q : Nat) (hx : x < 256) (hy : y < 256) (hq : q ≤ 1) : mo_less (mM a b u) (nI x) (nI y) (nI q) 0 = some (nI (rS x y q 7), mM (sR a 8 (fU (gR a 8) x y q 7)) b u) := by
  unfold mo_less
  have e0 : (nI x - nI y) - nI q = nI x - nI (y + q) := by rw [← nI_add]; grind
  have e5 : nI x - nI (y + q) = nI (x + (4294967296 - (y + q))) := by
    rw [sub_nI, Nat.mod_eq_of_lt (show y + q < 4294967296 by omega)]
  have e6 : (x + (4294967296 - (y + q))) % 256 = rS x y q 7 := by
    unfold rS
    rw [show 2 * 2 ^ 7 = 256 from rfl]
    omega
  have e2 : (0 ≤ nI x - nI (y + q)) ↔ ¬ x < y + q := by
    rw [Int32.le_iff_toInt_le, pk_sub_toInt (by omega) (by omega), Int32.toInt_zero]
    omega
  have g : ∀ (s : MS) (r t0 t1 : Int32), mo_less_52 s 0 r t0 t1 = bd (mo_flag s t1 t0) fun _ s1 => bd (mo_shows s1 r 0) fun _ s2 => some (r &&& 255, s2) := fun _ _ _ _ => rfl
  rw [nm_d, e0]
  unfold mo_less_19
  simp only [e2, g]
  have rest : ∀ (a2 : AS), (bd (mo_asSigned (mM a2 b u) (nI x) 0) fun v1 s2 => bd (mo_asSigned s2 (nI y) 0) fun v2 s3 => bd (mo_hasRoom s3 ((v1 - v2) - nI q) 0) fun v3 s4 => if v3 = 0 then (bd (mo_flag s4 2 1) fun _ s1 => bd (mo_shows s1 (nI x - nI (y + q)) 0) fun _ s2 => some ((nI x - nI (y + q)) &&& (255 : Int32), s2)) else (bd (mo_flag s4 2 0) fun _ s1 => bd (mo_shows s1 (nI x - nI (y + q)) 0) fun _ s2 => some ((nI x - nI (y + q)) &&& (255 : Int32), s2))) = some (nI (rS x y q 7), mM (sR a2 8 (fl (fl (fl (gR a2 8) 2 (ovS x y (rS x y q 7) 7)) 8 (decide (128 ≤ rS x y q 7))) 4 (decide (rS x y q 7 = 0)))) b u) := by
    intro a2
    rw [m_asSigned8 _ _ hx, bd_s, m_asSigned8 _ _ hy, bd_s, m_hasRoom8, bd_s, roomS8 x y q hx hy hq, e5, and255]
    unfold w8
    rw [e6]
    cases ho : ovS x y (rS x y q 7) 7
    · rw [if_neg (by decide), m_flag2_0, bd_s, m_shows8, bd_s, sR_sR, gR8, fl_mod, e6]
    · rw [if_pos (by decide), m_flag2_1, bd_s, m_shows8, bd_s, sR_sR, gR8, fl_mod, e6]
  by_cases c : x < y + q
  · rw [if_neg (fun z => z c), m_flag1_1, bd_s, rest, sR_sR, gR8, fl_mod, fl_o2]
    unfold fU
    rw [show 2 ^ 7 = 128 from rfl, decide_eq_true c]
  · rw [if_pos c, m_flag1_0, bd_s, rest, sR_sR, gR8, fl_mod, fl_o2]
    unfold fU
    rw [show 2 ^ 7 = 128 from rfl, decide_eq_false c]
def sg16 (x : Nat) : Int32 := if x < 32768 then nI x else nI x - nI 65536
def so16 (x : Nat) : Int := if x < 32768 then 0 else 65536
theorem m_asSigned16 (s : MS) (x : Nat) (hx : x < 65536) : mo_asSigned s (nI x) 1 = some (sg16 x, s) := by
  have h : mo_asSigned s (nI x) 1 = if nI x < (32768 : Int32) then mo_asSigned_37 s (nI x) else mo_asSigned_37 s (nI x - (65536 : Int32)) := rfl
  have e : nI x < (32768 : Int32) ↔ x < 32768 := nI_ltI (b := 32768) (by omega) (by decide)
  rw [h]
  unfold sg16
  by_cases c : x < 32768
  · rw [if_pos (e.mpr c), if_pos c]; rfl
  · rw [if_neg (fun z => c (e.mp z)), if_neg c]; rfl
theorem sgA16 (x y q : Nat) (hx : x < 65536) (hy : y < 65536) (hq : q ≤ 1) : ((sg16 x + sg16 y) + nI q).toInt = (x : Int) + y + q - so16 x - so16 y := by
  unfold sg16 so16
  by_cases c : x < 32768
  · by_cases d : y < 32768
    · rw [if_pos c, if_pos d, if_pos c, if_pos d, nI_add, nI_add, nI_toInt (by omega)]; omega
    · rw [if_pos c, if_neg d, if_pos c, if_neg d, show nI x + (nI y - nI 65536) + nI q = nI (x + y + q) - nI 65536 by rw [← nI_add, ← nI_add]; grind, pk_sub_toInt (by omega) (by omega)]; omega
  · by_cases d : y < 32768
    · rw [if_neg c, if_pos d, if_neg c, if_pos d, show nI x - nI 65536 + nI y + nI q = nI (x + y + q) - nI 65536 by rw [← nI_add, ← nI_add]; grind, pk_sub_toInt (by omega) (by omega)]; omega
    · rw [if_neg c, if_neg d, if_neg c, if_neg d, show nI x - nI 65536 + (nI y - nI 65536) + nI q = nI (x + y + q) - nI (65536 + 65536) by rw [← nI_add, ← nI_add, ← nI_add]; grind, pk_sub_toInt (by omega) (by omega)]; omega
theorem sgS16 (x y q : Nat) (hx : x < 65536) (hy : y < 65536) (hq : q ≤ 1) : ((sg16 x - sg16 y) - nI q).toInt = (x : Int) - y - q - so16 x + so16 y := by
  unfold sg16 so16
  by_cases c : x < 32768
  · by_cases d : y < 32768
    · rw [if_pos c, if_pos d, if_pos c, if_pos d, show nI x - nI y - nI q = nI x - nI (y + q) by rw [← nI_add]; grind, pk_sub_toInt (by omega) (by omega)]; omega
    · rw [if_pos c, if_neg d, if_pos c, if_neg d, show nI x - (nI y - nI 65536) - nI q = nI (x + 65536) - nI (y + q) by rw [← nI_add, ← nI_add]; grind, pk_sub_toInt (by omega) (by omega)]; omega
  · by_cases d : y < 32768
    · rw [if_neg c, if_pos d, if_neg c, if_pos d, show nI x - nI 65536 - nI y - nI q = nI x - nI (65536 + y + q) by rw [← nI_add, ← nI_add]; grind, pk_sub_toInt (by omega) (by omega)]; omega
    · rw [if_neg c, if_neg d, if_neg c, if_neg d, show nI x - nI 65536 - (nI y - nI 65536) - nI q = nI x - nI (y + q) by rw [← nI_add]; grind, pk_sub_toInt (by omega) (by omega)]; omega
theorem roomA16 (x y q : Nat) (hx : x < 65536) (hy : y < 65536) (hq : q ≤ 1) : decide (-32768 ≤ ((sg16 x + sg16 y) + nI q).toInt ∧ ((sg16 x + sg16 y) + nI q).toInt ≤ 32767) = !(ovA x y ((x + y + q) % 65536) 15) := by
  rw [sgA16 x y q hx hy hq]
  unfold ovA so16
  generalize hr : (x + y + q) % 65536 = r
  rw [tb_ge (k := 15) (x := x) (by omega), tb_ge (k := 15) (x := y) (by omega), tb_ge (k := 15) (x := r) (by omega), show 2 ^ 15 = 32768 from rfl]
  by_cases c : x < 32768
  · by_cases d : y < 32768
    · by_cases e : r < 32768
      · rw [if_pos c, if_pos d, decide_eq_false (p := 32768 ≤ x) (by omega), decide_eq_false (p := 32768 ≤ y) (by omega), decide_eq_false (p := 32768 ≤ r) (by omega)]; simp; omega
      · rw [if_pos c, if_pos d, decide_eq_false (p := 32768 ≤ x) (by omega), decide_eq_false (p := 32768 ≤ y) (by omega), decide_eq_true (p := 32768 ≤ r) (by omega)]; simp; omega
    · by_cases e : r < 32768
      · rw [if_pos c, if_neg d, decide_eq_false (p := 32768 ≤ x) (by omega), decide_eq_true (p := 32768 ≤ y) (by omega), decide_eq_false (p := 32768 ≤ r) (by omega)]; simp; omega
      · rw [if_pos c, if_neg d, decide_eq_false (p := 32768 ≤ x) (by omega), decide_eq_true (p := 32768 ≤ y) (by omega), decide_eq_true (p := 32768 ≤ r) (by omega)]; simp; omega
  · by_cases d : y < 32768
    · by_cases e : r < 32768
      · rw [if_neg c, if_pos d, decide_eq_true (p := 32768 ≤ x) (by omega), decide_eq_false (p := 32768 ≤ y) (by omega), decide_eq_false (p := 32768 ≤ r) (by omega)]; simp; omega
      · rw [if_neg c, if_pos d, decide_eq_true (p := 32768 ≤ x) (by omega), decide_eq_false (p := 32768 ≤ y) (by omega), decide_eq_true (p := 32768 ≤ r) (by omega)]; simp; omega
    · by_cases e : r < 32768
      · rw [if_neg c, if_neg d, decide_eq_true (p := 32768 ≤ x) (by omega), decide_eq_true (p := 32768 ≤ y) (by omega), decide_eq_false (p := 32768 ≤ r) (by omega)]; simp; omega
      · rw [if_neg c, if_neg d, decide_eq_true (p := 32768 ≤ x) (by omega), decide_eq_true (p := 32768 ≤ y) (by omega), decide_eq_true (p := 32768 ≤ r) (by omega)]; simp; omega
theorem roomS16 (x y q : Nat) (hx : x < 65536) (hy : y < 65536) (hq : q ≤ 1) : decide (-32768 ≤ ((sg16 x - sg16 y) - nI q).toInt ∧ ((sg16 x - sg16 y) - nI q).toInt ≤ 32767) = !(ovS x y (rS x y q 15) 15) := by
  rw [sgS16 x y q hx hy hq]
  unfold ovS so16
  generalize hr : rS x y q 15 = r
  have hr2 : (x + (65536 - (y + q))) % 65536 = r := hr
  rw [tb_ge (k := 15) (x := x) (by omega), tb_ge (k := 15) (x := y) (by omega), tb_ge (k := 15) (x := r) (by omega), show 2 ^ 15 = 32768 from rfl]
  by_cases c : x < 32768
  · by_cases d : y < 32768
    · by_cases e : r < 32768
      · rw [if_pos c, if_pos d, decide_eq_false (p := 32768 ≤ x) (by omega), decide_eq_false (p := 32768 ≤ y) (by omega), decide_eq_false (p := 32768 ≤ r) (by omega)]; simp; omega
      · rw [if_pos c, if_pos d, decide_eq_false (p := 32768 ≤ x) (by omega), decide_eq_false (p := 32768 ≤ y) (by omega), decide_eq_true (p := 32768 ≤ r) (by omega)]; simp; omega
    · by_cases e : r < 32768
      · rw [if_pos c, if_neg d, decide_eq_false (p := 32768 ≤ x) (by omega), decide_eq_true (p := 32768 ≤ y) (by omega), decide_eq_false (p := 32768 ≤ r) (by omega)]; simp; omega
      · rw [if_pos c, if_neg d, decide_eq_false (p := 32768 ≤ x) (by omega), decide_eq_true (p := 32768 ≤ y) (by omega), decide_eq_true (p := 32768 ≤ r) (by omega)]; simp; omega
  · by_cases d : y < 32768
    · by_cases e : r < 32768
      · rw [if_neg c, if_pos d, decide_eq_true (p := 32768 ≤ x) (by omega), decide_eq_false (p := 32768 ≤ y) (by omega), decide_eq_false (p := 32768 ≤ r) (by omega)]; simp; omega
      · rw [if_neg c, if_pos d, decide_eq_true (p := 32768 ≤ x) (by omega), decide_eq_false (p := 32768 ≤ y) (by omega), decide_eq_true (p := 32768 ≤ r) (by omega)]; simp; omega
    · by_cases e : r < 32768
      · rw [if_neg c, if_neg d, decide_eq_true (p := 32768 ≤ x) (by omega), decide_eq_true (p := 32768 ≤ y) (by omega), decide_eq_false (p := 32768 ≤ r) (by omega)]; simp; omega
      · rw [if_neg c, if_neg d, decide_eq_true (p := 32768 ≤ x) (by omega), decide_eq_true (p := 32768 ≤ y) (by omega), decide_eq_true (p := 32768 ≤ r) (by omega)]; simp; omega
theorem m_plus39_16 (a : AS) (b : Nat → Int32) (u : Bool) (x y q : Nat) (hx : x < 65536) (hy : y < 65536) (hq : q ≤ 1) : mo_plus_39 (mM a b u) (nI x) (nI y) (nI q) 1 (nI (x + y + q)) = some (nI ((x + y + q) % 65536), mM (sR a 8 (fA (gR a 8) x y q 15)) b u) := by
  have h : mo_plus_39 (mM a b u) (nI x) (nI y) (nI q) 1 (nI (x + y + q)) = mo_plus_56 (mM a b u) (nI x) (nI y) (nI q) 1 (nI (x + y + q)) 65535 (nI (x + y + q)) 1 := rfl
  have g : ∀ (s : MS) (t0 t1 : Int32), mo_plus_97 s 1 (nI (x + y + q)) t0 t1 = bd (mo_flag s t1 t0) fun _ s1 => bd (mo_shows s1 (nI (x + y + q)) 1) fun _ s2 => some (nI (x + y + q) &&& 65535, s2) := fun _ _ _ => rfl
  have e1 : (nI (x + y + q) ≤ (65535 : Int32)) ↔ ¬ 65536 ≤ x + y + q := by
    rw [show (65535 : Int32) = nI 65535 from rfl, nI_leI (by omega) (by decide)]
    omega
  rw [h]
  unfold mo_plus_56 mo_plus_64
  simp only [e1, g]
  have rest : ∀ (a2 : AS), (bd (mo_asSigned (mM a2 b u) (nI x) 1) fun v1 s2 => bd (mo_asSigned s2 (nI y) 1) fun v2 s3 => bd (mo_hasRoom s3 ((v1 + v2) + nI q) 1) fun v3 s4 => if v3 = 0 then (bd (mo_flag s4 2 1) fun _ s1 => bd (mo_shows s1 (nI (x + y + q)) 1) fun _ s2 => some (nI (x + y + q) &&& (65535 : Int32), s2)) else (bd (mo_flag s4 2 0) fun _ s1 => bd (mo_shows s1 (nI (x + y + q)) 1) fun _ s2 => some (nI (x + y + q) &&& (65535 : Int32), s2))) = some (nI ((x + y + q) % 65536), mM (sR a2 8 (fl (fl (fl (gR a2 8) 2 (ovA x y ((x + y + q) % 65536) 15)) 8 (decide (32768 ≤ (x + y + q) % 65536))) 4 (decide ((x + y + q) % 65536 = 0)))) b u) := by
    intro a2
    rw [m_asSigned16 _ _ hx, bd_s, m_asSigned16 _ _ hy, bd_s, m_hasRoom16, bd_s, roomA16 x y q hx hy hq, and65535]
    cases ho : ovA x y ((x + y + q) % 65536) 15
    · rw [if_neg (by decide), m_flag2_0, bd_s, m_shows16, bd_s, sR_sR, gR8, fl_mod]; rfl
    · rw [if_pos (by decide), m_flag2_1, bd_s, m_shows16, bd_s, sR_sR, gR8, fl_mod]; rfl
  by_cases c : 65536 ≤ x + y + q
  · rw [if_neg (fun z => z c), m_flag1_1, bd_s, rest, sR_sR, gR8, fl_mod, fl_o2]
    unfold fA
    rw [show 2 * 2 ^ 15 = 65536 from rfl, show 2 ^ 15 = 32768 from rfl, decide_eq_true c]
  · rw [if_pos c, m_flag1_0, bd_s, rest, sR_sR, gR8, fl_mod, fl_o2]
    unfold fA
    rw [show 2 * 2 ^ 15 = 65536 from rfl, show 2 ^ 15 = 32768 from rfl, decide_eq_false c]
theorem m_less16 (a : AS) (b : Nat → Int32) (u : Bool) (x y q : Nat) (hx : x < 65536) (hy : y < 65536) (hq : q ≤ 1) : mo_less (mM a b u) (nI x) (nI y) (nI q) 1 = some (nI (rS x y q 15), mM (sR a 8 (fU (gR a 8) x y q 15)) b u) := by
  unfold mo_less
  have e0 : (nI x - nI y) - nI q = nI x - nI (y + q) := by rw [← nI_add]; grind
  have e5 : nI x - nI (y + q) = nI (x + (4294967296 - (y + q))) := by
    rw [sub_nI, Nat.mod_eq_of_lt (show y + q < 4294967296 by omega)]
  have e6 : (x + (4294967296 - (y + q))) % 65536 = rS x y q 15 := by
    unfold rS
    rw [show 2 * 2 ^ 15 = 65536 from rfl]
    omega
  have e2 : (0 ≤ nI x - nI (y + q)) ↔ ¬ x < y + q := by
    rw [Int32.le_iff_toInt_le, pk_sub_toInt (by omega) (by omega), Int32.toInt_zero]
    omega
  have g : ∀ (s : MS) (r t0 t1 : Int32), mo_less_52 s 1 r t0 t1 = bd (mo_flag s t1 t0) fun _ s1 => bd (mo_shows s1 r 1) fun _ s2 => some (r &&& 65535, s2) := fun _ _ _ _ => rfl
  rw [nm_d, e0]
  unfold mo_less_19
  simp only [e2, g]
  have rest : ∀ (a2 : AS), (bd (mo_asSigned (mM a2 b u) (nI x) 1) fun v1 s2 => bd (mo_asSigned s2 (nI y) 1) fun v2 s3 => bd (mo_hasRoom s3 ((v1 - v2) - nI q) 1) fun v3 s4 => if v3 = 0 then (bd (mo_flag s4 2 1) fun _ s1 => bd (mo_shows s1 (nI x - nI (y + q)) 1) fun _ s2 => some ((nI x - nI (y + q)) &&& (65535 : Int32), s2)) else (bd (mo_flag s4 2 0) fun _ s1 => bd (mo_shows s1 (nI x - nI (y + q)) 1) fun _ s2 => some ((nI x - nI (y + q)) &&& (65535 : Int32), s2))) = some (nI (rS x y q 15), mM (sR a2 8 (fl (fl (fl (gR a2 8) 2 (ovS x y (rS x y q 15) 15)) 8 (decide (32768 ≤ rS x y q 15))) 4 (decide (rS x y q 15 = 0)))) b u) := by
    intro a2
    rw [m_asSigned16 _ _ hx, bd_s, m_asSigned16 _ _ hy, bd_s, m_hasRoom16, bd_s, roomS16 x y q hx hy hq, e5, and65535]
    unfold w16
    rw [e6]
    cases ho : ovS x y (rS x y q 15) 15
    · rw [if_neg (by decide), m_flag2_0, bd_s, m_shows16, bd_s, sR_sR, gR8, fl_mod, e6]
    · rw [if_pos (by decide), m_flag2_1, bd_s, m_shows16, bd_s, sR_sR, gR8, fl_mod, e6]
  by_cases c : x < y + q
  · rw [if_neg (fun z => z c), m_flag1_1, bd_s, rest, sR_sR, gR8, fl_mod, fl_o2]
    unfold fU
    rw [show 2 ^ 15 = 32768 from rfl, decide_eq_true c]
  · rw [if_pos c, m_flag1_0, bd_s, rest, sR_sR, gR8, fl_mod, fl_o2]
    unfold fU
    rw [show 2 ^ 15 = 32768 from rfl, decide_eq_false c]
theorem m_plus16 (a : AS) (b : Nat → Int32) (u : Bool) (x y q : Nat) (hx : x < 65536) (hy : y < 65536) (hq : q ≤ 1) : mo_plus (mM a b u) (nI x) (nI y) (nI q) 1 = some (nI ((x + y + q) % 65536), mM (sR a 8 (fA (gR a 8) x y q 15)) b u) := by
  have h : mo_plus (mM a b u) (nI x) (nI y) (nI q) 1 = mo_plus_39 (mM a b u) (nI x) (nI y) (nI q) 1 ((nI x + nI y) + nI q) := rfl
  rw [h, nI_add, nI_add, m_plus39_16 a b u x y q hx hy hq]
def hC (x y q : Nat) : Bool := decide (16 ≤ x % 16 + y % 16 + q)
theorem hc_le (x y q : Nat) (hq : q ≤ 1) : (((nI x &&& 15) + (nI y &&& 15)) + nI q ≤ (15 : Int32)) ↔ hC x y q = false := by
  rw [and15, and15, nI_add, nI_add, show (15 : Int32) = nI 15 from rfl, nI_leI (by omega) (by decide)]
  unfold hC
  rw [decide_eq_false_iff_not]
  omega
theorem m_plus8 (a : AS) (b : Nat → Int32) (u : Bool) (x y q : Nat) (hx : x < 256) (hy : y < 256) (hq : q ≤ 1) : mo_plus (mM a b u) (nI x) (nI y) (nI q) 0 = some (nI ((x + y + q) % 256), mM (sR a 8 (fA (fl (gR a 8) 32 (hC x y q)) x y q 7)) b u) := by
  have h : mo_plus (mM a b u) (nI x) (nI y) (nI q) 0 = if ((nI x &&& 15) + (nI y &&& 15)) + nI q ≤ (15 : Int32) then mo_plus_36 (mM a b u) (nI x) (nI y) (nI q) 0 ((nI x + nI y) + nI q) 0 32 else mo_plus_36 (mM a b u) (nI x) (nI y) (nI q) 0 ((nI x + nI y) + nI q) 1 32 := rfl
  rw [h]
  unfold mo_plus_36
  simp only [hc_le x y q hq]
  rw [nI_add, nI_add]
  cases hh : hC x y q
  · rw [if_pos rfl, m_flag32_0, bd_s, m_plus39_8 _ b u x y q hx hy hq, sR_sR, gR8]
    unfold fA
    rw [fl_mod]
  · rw [if_neg (by decide), m_flag32_1, bd_s, m_plus39_8 _ b u x y q hx hy hq, sR_sR, gR8]
    unfold fA
    rw [fl_mod]
theorem c_addByte (a : AS) (x y q : Nat) (hx : x < 256) (hy : y < 256) (hq : q ≤ 1) : ar_addByte (mC a) (nI x) (nI y) (nI q) = some (nI ((x + y + q) % 256), mC (sR a 8 (fA (fl (gR a 8) 32 (hC x y q)) x y q 7))) := by
  unfold ar_addByte ar_addByte_27
  simp only [hc_le x y q hq]
  cases hh : hC x y q
  · rw [if_pos rfl, c_turn32_0, bd_s, c_add8 _ x y q hx hy hq, bd_s, sR_sR, gR8]
    unfold fA
    rw [fl_mod]
  · rw [if_neg (by decide), c_turn32_1, bd_s, c_add8 _ x y q hx hy hq, bd_s, sR_sR, gR8]
    unfold fA
    rw [fl_mod]
