def oneC (c v : Nat) (out : Nat) : Nat := fl (fl (fl c 1 (decide (v % 2 = 1))) 4 (decide (out = 0))) 8 (decide (128 ≤ out))
def upC (c v out : Nat) : Nat := fl (fl (fl (fl c 1 (decide (128 ≤ v))) 2 (decide (¬ v / 128 % 2 = v / 64 % 2))) 4 (decide (out = 0))) 8 (decide (128 ≤ out))
def cntC (c : Nat) (p : Bool) (out : Nat) : Nat := fl (fl (fl c 2 p) 4 (decide (out = 0))) 8 (decide (128 ≤ out))
theorem odd_iff : ∀ v, v < 256 → ((nI v &&& (1 : Int32) = 0) ↔ ¬ v % 2 = 1) := by decide +kernel
theorem top_iff : ∀ v, v < 256 → ((nI v &&& (128 : Int32) = 0) ↔ ¬ 128 ≤ v) := by decide +kernel
theorem upo_iff : ∀ v, v < 256 → (((nI v ^^^ (nI v <<< ((1 : Int32) &&& 31))) &&& (128 : Int32) = 0) ↔ v / 128 % 2 = v / 64 % 2) := by decide +kernel
theorem upm_iff : ∀ v, v < 256 → ((nI v >>> ((7 : Int32) &&& 31) = ((nI v >>> ((6 : Int32) &&& 31)) &&& (1 : Int32))) ↔ v / 128 % 2 = v / 64 % 2) := by decide +kernel
theorem lt128_iff : ∀ v, v < 256 → ((nI v < (128 : Int32)) ↔ ¬ 128 ≤ v) := by decide +kernel
theorem eq128_iff : ∀ v, v < 256 → ((nI v = (128 : Int32)) ↔ v = 128) := by decide +kernel
theorem eq127_iff : ∀ v, v < 256 → ((nI v = (127 : Int32)) ↔ v = 127) := by decide +kernel
theorem c_shiftDown (a : AS) (v out : Nat) (top : Int32) (hv : v < 256) (hout : (nI v >>> ((1 : Int32) &&& 31)) ||| top = nI out) (ho : out < 256) : ar_shiftDown (mC a) (nI v) top = some (nI out, mC (sR a 8 (oneC (gR a 8) v out))) := by
  unfold ar_shiftDown ar_shiftDown_22
  rw [nm_d, hout]
  simp only [odd_iff v hv]
  by_cases h : v % 2 = 1
  · rw [if_neg (fun z => z h), c_turn1_1, bd_s, c_setSign8 _ _ ho, bd_s]
    simp only [sR_sR, gR8, fl_mod]
    unfold oneC
    rw [decide_eq_true h]
  · rw [if_pos h, c_turn1_0, bd_s, c_setSign8 _ _ ho, bd_s]
    simp only [sR_sR, gR8, fl_mod]
    unfold oneC
    rw [decide_eq_false h]
theorem c_shiftUp (a : AS) (v out : Nat) (low : Int32) (hv : v < 256) (hout : ((nI v <<< ((1 : Int32) &&& 31)) &&& (255 : Int32)) ||| low = nI out) (ho : out < 256) : ar_shiftUp (mC a) (nI v) low = some (nI out, mC (sR a 8 (upC (gR a 8) v out))) := by
  unfold ar_shiftUp ar_shiftUp_28 ar_shiftUp_53
  rw [nm_d, hout]
  simp only [top_iff v hv, upo_iff v hv]
  by_cases h : 128 ≤ v
  · rw [if_neg (fun z => z h), c_turn1_1, bd_s]
    by_cases g : v / 128 % 2 = v / 64 % 2
    · rw [if_pos g, c_turn2_0, bd_s, c_setSign8 _ _ ho, bd_s]
      simp only [sR_sR, gR8, fl_mod]
      unfold upC
      rw [decide_eq_true h, decide_eq_false (p := ¬ v / 128 % 2 = v / 64 % 2) (fun z => z g)]
    · rw [if_neg g, c_turn2_1, bd_s, c_setSign8 _ _ ho, bd_s]
      simp only [sR_sR, gR8, fl_mod]
      unfold upC
      rw [decide_eq_true h, decide_eq_true g]
  · rw [if_pos h, c_turn1_0, bd_s]
    by_cases g : v / 128 % 2 = v / 64 % 2
    · rw [if_pos g, c_turn2_0, bd_s, c_setSign8 _ _ ho, bd_s]
      simp only [sR_sR, gR8, fl_mod]
      unfold upC
      rw [decide_eq_false h, decide_eq_false (p := ¬ v / 128 % 2 = v / 64 % 2) (fun z => z g)]
    · rw [if_neg g, c_turn2_1, bd_s, c_setSign8 _ _ ho, bd_s]
      simp only [sR_sR, gR8, fl_mod]
      unfold upC
      rw [decide_eq_false h, decide_eq_true g]
theorem c_count0 (a : AS) (out : Nat) (ho : out < 256) : ar_count (mC a) (nI out) 0 = some (nI out, mC (sR a 8 (cntC (gR a 8) false out))) := by
  unfold ar_count
  rw [c_turn2_0, bd_s, c_setSign8 _ _ ho, bd_s]
  simp only [sR_sR, gR8, fl_mod]
  rfl
theorem c_count1 (a : AS) (out : Nat) (ho : out < 256) : ar_count (mC a) (nI out) 1 = some (nI out, mC (sR a 8 (cntC (gR a 8) true out))) := by
  unfold ar_count
  rw [c_turn2_1, bd_s, c_setSign8 _ _ ho, bd_s]
  simp only [sR_sR, gR8, fl_mod]
  rfl
def cyN (a : AS) : Nat := gR a 8 % 2
theorem cyN_le (a : AS) : cyN a ≤ 1 := by unfold cyN; omega
theorem c_carry (a : AS) : re_carry (mC a) = some (nI (cyN a), mC a) := by
  have h : re_carry (mC a) = some (nI (gR a 8 % 256) &&& 1, mC a) := rfl
  rw [h, show (1 : Int32) = nI 1 from rfl, and_nI, Nat.and_one_is_mod]
  unfold cyN
  rw [show gR a 8 % 256 % 2 = gR a 8 % 2 by omega]
theorem m_carry (a : AS) (b : Nat → Int32) (u : Bool) (k : Int32 → MS → Option (Int32 × MS)) : (bd (mo_is (mM a b u) 1) fun v1 s1 => if v1 = 0 then k 0 s1 else k 1 s1) = k (nI (cyN a)) (mM a b u) := by
  rw [m_is1, bd_s, Nat.and_one_is_mod]
  unfold cyN
  have h : gR a 8 % 2 = 0 ∨ gR a 8 % 2 = 1 := by omega
  rcases h with h | h
  · rw [show gR a 8 % 256 % 2 = 0 by omega, h]
    rfl
  · rw [show gR a 8 % 256 % 2 = 1 by omega, h]
    rfl
theorem fl_o3 (c : Nat) (n z q : Bool) : fl (fl (fl c 8 n) 4 z) 1 q = fl (fl (fl c 1 q) 4 z) 8 n := by
  rw [← fl_mod c 8, ← fl_mod c 1]
  exact (by decide +kernel : ∀ c, c < 256 → ∀ n z q : Bool, fl (fl (fl c 8 n) 4 z) 1 q = fl (fl (fl c 1 q) 4 z) 8 n) _ (Nat.mod_lt _ (by decide)) n z q
theorem fl_o4 (c : Nat) (n z v q : Bool) : fl (fl (fl (fl c 8 n) 4 z) 2 v) 1 q = fl (fl (fl (fl c 1 q) 2 v) 4 z) 8 n := by
  rw [← fl_mod c 8, ← fl_mod c 1]
  exact (by decide +kernel : ∀ c, c < 256 → ∀ n z v q : Bool, fl (fl (fl (fl c 8 n) 4 z) 2 v) 1 q = fl (fl (fl (fl c 1 q) 2 v) 4 z) 8 n) _ (Nat.mod_lt _ (by decide)) n z v q
theorem fl_o5 (c : Nat) (n z v : Bool) : fl (fl (fl c 8 n) 4 z) 2 v = fl (fl (fl c 2 v) 4 z) 8 n := by
  rw [← fl_mod c 8, ← fl_mod c 2]
  exact (by decide +kernel : ∀ c, c < 256 → ∀ n z v : Bool, fl (fl (fl c 8 n) 4 z) 2 v = fl (fl (fl c 2 v) 4 z) 8 n) _ (Nat.mod_lt _ (by decide)) n z v
theorem out4 : ∀ v, v < 256 → ∀ q, q < 2 → (nI v >>> ((1 : Int32) &&& 31)) = nI (v / 2) := by decide +kernel
theorem out6 : ∀ v, v < 256 → ∀ q, q < 2 → ((nI v >>> ((1 : Int32) &&& 31)) ||| (nI q <<< ((7 : Int32) &&& 31))) = nI (v / 2 + 128 * q) := by decide +kernel
theorem out7 : ∀ v, v < 256 → ∀ q, q < 2 → ((nI v >>> ((1 : Int32) &&& 31)) ||| (nI v &&& (128 : Int32))) = nI (v / 2 + 128 * (v / 128)) := by decide +kernel
theorem out8 : ∀ v, v < 256 → ∀ q, q < 2 → ((nI v <<< ((1 : Int32) &&& 31)) &&& (255 : Int32)) = nI (v * 2 % 256) := by decide +kernel
theorem out9 : ∀ v, v < 256 → ∀ q, q < 2 → (((nI v <<< ((1 : Int32) &&& 31)) &&& (255 : Int32)) ||| nI q) = nI (v * 2 % 256 + q) := by decide +kernel
theorem out10 : ∀ v, v < 256 → ∀ q, q < 2 → ((nI v - (1 : Int32)) &&& (255 : Int32)) = nI ((v + 255) % 256) := by decide +kernel
theorem out12 : ∀ v, v < 256 → ∀ q, q < 2 → ((nI v + (1 : Int32)) &&& (255 : Int32)) = nI ((v + 1) % 256) := by decide +kernel
theorem out3 : ∀ v, v < 256 → (255 : Int32) - nI v = nI (255 - v) := by decide +kernel
theorem out3c : ∀ v, v < 256 → (nI v ^^^ (-1 : Int32)) &&& (255 : Int32) = nI (255 - v) := by decide +kernel
theorem or_0 : ∀ v, v < 256 → (nI v >>> ((1 : Int32) &&& 31)) ||| (0 : Int32) = nI (v / 2) := by decide +kernel
theorem or_0u : ∀ v, v < 256 → ((nI v <<< ((1 : Int32) &&& 31)) &&& (255 : Int32)) ||| (0 : Int32) = nI (v * 2 % 256) := by decide +kernel
theorem m_on3 (a : AS) (b : Nat → Int32) (u : Bool) (v q : Nat) (hv : v < 256) (hq : q < 2) : mo_onByte_13 (mM a b u) 3 (nI v) (nI q) = some (nI (255 - v), mM (sR a 8 (fP (fl (gR a 8) 1 true) (255 - v) 128)) b u) := by
  have h : ∀ (s : MS) (V Q : Int32), mo_onByte_13 s 3 V Q = (fun OUT => bd (mo_shows s OUT 0) fun _ s1 => bd (mo_flag s1 2 0) fun _ s2 => bd (mo_flag s2 1 1) fun _ s => some (OUT, s)) ((255 : Int32) - V) := fun _ _ _ => rfl
  rw [h]
  dsimp only
  rw [out3 v hv]
  rw [m_shows8, bd_s]
  rw [m_flag2_0, bd_s, m_flag1_1, bd_s]
  simp only [sR_sR, gR8, fl_mod]
  rw [fl_o4, Nat.mod_eq_of_lt (show 255 - v < 256 by omega)]
  rfl
theorem m_on4 (a : AS) (b : Nat → Int32) (u : Bool) (v q : Nat) (hv : v < 256) (hq : q < 2) : mo_onByte_13 (mM a b u) 4 (nI v) (nI q) = some (nI (v / 2), mM (sR a 8 (oneC (gR a 8) v (v / 2))) b u) := by
  have h : ∀ (s : MS) (V Q : Int32), mo_onByte_13 s 4 V Q = (fun OUT => bd (mo_shows s OUT 0) fun _ s1 => if V &&& 1 = 0 then (bd (mo_flag s1 1 0) fun _ s => some (OUT, s)) else (bd (mo_flag s1 1 1) fun _ s => some (OUT, s))) (V >>> ((1 : Int32) &&& 31)) := fun _ _ _ => rfl
  rw [h]
  dsimp only
  rw [out4 v hv q hq]
  rw [m_shows8, bd_s]
  simp only [odd_iff v hv]
  by_cases h : v % 2 = 1
  · rw [if_neg (fun z => z h), m_flag1_1, bd_s, sR_sR, gR8, fl_mod, fl_o3, Nat.mod_eq_of_lt (show v / 2 < 256 by omega)]
    unfold oneC
    rw [decide_eq_true h]
  · rw [if_pos h, m_flag1_0, bd_s, sR_sR, gR8, fl_mod, fl_o3, Nat.mod_eq_of_lt (show v / 2 < 256 by omega)]
    unfold oneC
    rw [decide_eq_false h]
theorem m_on6 (a : AS) (b : Nat → Int32) (u : Bool) (v q : Nat) (hv : v < 256) (hq : q < 2) : mo_onByte_13 (mM a b u) 6 (nI v) (nI q) = some (nI (v / 2 + 128 * q), mM (sR a 8 (oneC (gR a 8) v (v / 2 + 128 * q))) b u) := by
  have h : ∀ (s : MS) (V Q : Int32), mo_onByte_13 s 6 V Q = (fun OUT => bd (mo_shows s OUT 0) fun _ s1 => if V &&& 1 = 0 then (bd (mo_flag s1 1 0) fun _ s => some (OUT, s)) else (bd (mo_flag s1 1 1) fun _ s => some (OUT, s))) ((V >>> ((1 : Int32) &&& 31)) ||| (Q <<< ((7 : Int32) &&& 31))) := fun _ _ _ => rfl
  rw [h]
  dsimp only
  rw [out6 v hv q hq]
  rw [m_shows8, bd_s]
  simp only [odd_iff v hv]
  by_cases h : v % 2 = 1
  · rw [if_neg (fun z => z h), m_flag1_1, bd_s, sR_sR, gR8, fl_mod, fl_o3, Nat.mod_eq_of_lt (show v / 2 + 128 * q < 256 by omega)]
    unfold oneC
    rw [decide_eq_true h]
  · rw [if_pos h, m_flag1_0, bd_s, sR_sR, gR8, fl_mod, fl_o3, Nat.mod_eq_of_lt (show v / 2 + 128 * q < 256 by omega)]
    unfold oneC
    rw [decide_eq_false h]
theorem m_on7 (a : AS) (b : Nat → Int32) (u : Bool) (v q : Nat) (hv : v < 256) (hq : q < 2) : mo_onByte_13 (mM a b u) 7 (nI v) (nI q) = some (nI (v / 2 + 128 * (v / 128)), mM (sR a 8 (oneC (gR a 8) v (v / 2 + 128 * (v / 128)))) b u) := by
  have h : ∀ (s : MS) (V Q : Int32), mo_onByte_13 s 7 V Q = (fun OUT => bd (mo_shows s OUT 0) fun _ s1 => if V &&& 1 = 0 then (bd (mo_flag s1 1 0) fun _ s => some (OUT, s)) else (bd (mo_flag s1 1 1) fun _ s => some (OUT, s))) ((V >>> ((1 : Int32) &&& 31)) ||| (V &&& (128 : Int32))) := fun _ _ _ => rfl
  rw [h]
  dsimp only
  rw [out7 v hv q hq]
  rw [m_shows8, bd_s]
  simp only [odd_iff v hv]
  by_cases h : v % 2 = 1
  · rw [if_neg (fun z => z h), m_flag1_1, bd_s, sR_sR, gR8, fl_mod, fl_o3, Nat.mod_eq_of_lt (show v / 2 + 128 * (v / 128) < 256 by omega)]
    unfold oneC
    rw [decide_eq_true h]
  · rw [if_pos h, m_flag1_0, bd_s, sR_sR, gR8, fl_mod, fl_o3, Nat.mod_eq_of_lt (show v / 2 + 128 * (v / 128) < 256 by omega)]
    unfold oneC
    rw [decide_eq_false h]
theorem m_on8 (a : AS) (b : Nat → Int32) (u : Bool) (v q : Nat) (hv : v < 256) (hq : q < 2) : mo_onByte_13 (mM a b u) 8 (nI v) (nI q) = some (nI (v * 2 % 256), mM (sR a 8 (upC (gR a 8) v (v * 2 % 256))) b u) := by
  have h : ∀ (s : MS) (V Q : Int32), mo_onByte_13 s 8 V Q = (fun OUT => bd (mo_shows s OUT 0) fun _ s1 => if V >>> ((7 : Int32) &&& 31) = ((V >>> ((6 : Int32) &&& 31)) &&& 1) then (bd (mo_flag s1 2 0) fun _ s2 => if V < 128 then (bd (mo_flag s2 1 0) fun _ s => some (OUT, s)) else (bd (mo_flag s2 1 1) fun _ s => some (OUT, s))) else (bd (mo_flag s1 2 1) fun _ s2 => if V < 128 then (bd (mo_flag s2 1 0) fun _ s => some (OUT, s)) else (bd (mo_flag s2 1 1) fun _ s => some (OUT, s)))) ((V <<< ((1 : Int32) &&& 31)) &&& (255 : Int32)) := fun _ _ _ => rfl
  rw [h]
  dsimp only
  rw [out8 v hv q hq]
  rw [m_shows8, bd_s]
  simp only [upm_iff v hv, lt128_iff v hv]
  by_cases g : v / 128 % 2 = v / 64 % 2
  · rw [if_pos g, m_flag2_0, bd_s]
    by_cases h : 128 ≤ v
    · rw [if_neg (fun z => z h), m_flag1_1, bd_s]
      simp only [sR_sR, gR8, fl_mod]
      rw [fl_o4, Nat.mod_eq_of_lt (show v * 2 % 256 < 256 by omega)]
      unfold upC
      rw [decide_eq_true h, decide_eq_false (p := ¬ v / 128 % 2 = v / 64 % 2) (fun z => z g)]
    · rw [if_pos h, m_flag1_0, bd_s]
      simp only [sR_sR, gR8, fl_mod]
      rw [fl_o4, Nat.mod_eq_of_lt (show v * 2 % 256 < 256 by omega)]
      unfold upC
      rw [decide_eq_false h, decide_eq_false (p := ¬ v / 128 % 2 = v / 64 % 2) (fun z => z g)]
  · rw [if_neg g, m_flag2_1, bd_s]
    by_cases h : 128 ≤ v
    · rw [if_neg (fun z => z h), m_flag1_1, bd_s]
      simp only [sR_sR, gR8, fl_mod]
      rw [fl_o4, Nat.mod_eq_of_lt (show v * 2 % 256 < 256 by omega)]
      unfold upC
      rw [decide_eq_true h, decide_eq_true g]
    · rw [if_pos h, m_flag1_0, bd_s]
      simp only [sR_sR, gR8, fl_mod]
      rw [fl_o4, Nat.mod_eq_of_lt (show v * 2 % 256 < 256 by omega)]
      unfold upC
      rw [decide_eq_false h, decide_eq_true g]
theorem m_on9 (a : AS) (b : Nat → Int32) (u : Bool) (v q : Nat) (hv : v < 256) (hq : q < 2) : mo_onByte_13 (mM a b u) 9 (nI v) (nI q) = some (nI (v * 2 % 256 + q), mM (sR a 8 (upC (gR a 8) v (v * 2 % 256 + q))) b u) := by
  have h : ∀ (s : MS) (V Q : Int32), mo_onByte_13 s 9 V Q = (fun OUT => bd (mo_shows s OUT 0) fun _ s1 => if V >>> ((7 : Int32) &&& 31) = ((V >>> ((6 : Int32) &&& 31)) &&& 1) then (bd (mo_flag s1 2 0) fun _ s2 => if V < 128 then (bd (mo_flag s2 1 0) fun _ s => some (OUT, s)) else (bd (mo_flag s2 1 1) fun _ s => some (OUT, s))) else (bd (mo_flag s1 2 1) fun _ s2 => if V < 128 then (bd (mo_flag s2 1 0) fun _ s => some (OUT, s)) else (bd (mo_flag s2 1 1) fun _ s => some (OUT, s)))) (((V <<< ((1 : Int32) &&& 31)) &&& (255 : Int32)) ||| Q) := fun _ _ _ => rfl
  rw [h]
  dsimp only
  rw [out9 v hv q hq]
  rw [m_shows8, bd_s]
  simp only [upm_iff v hv, lt128_iff v hv]
  by_cases g : v / 128 % 2 = v / 64 % 2
  · rw [if_pos g, m_flag2_0, bd_s]
    by_cases h : 128 ≤ v
    · rw [if_neg (fun z => z h), m_flag1_1, bd_s]
      simp only [sR_sR, gR8, fl_mod]
      rw [fl_o4, Nat.mod_eq_of_lt (show v * 2 % 256 + q < 256 by omega)]
      unfold upC
      rw [decide_eq_true h, decide_eq_false (p := ¬ v / 128 % 2 = v / 64 % 2) (fun z => z g)]
    · rw [if_pos h, m_flag1_0, bd_s]
      simp only [sR_sR, gR8, fl_mod]
      rw [fl_o4, Nat.mod_eq_of_lt (show v * 2 % 256 + q < 256 by omega)]
      unfold upC
      rw [decide_eq_false h, decide_eq_false (p := ¬ v / 128 % 2 = v / 64 % 2) (fun z => z g)]
  · rw [if_neg g, m_flag2_1, bd_s]
    by_cases h : 128 ≤ v
    · rw [if_neg (fun z => z h), m_flag1_1, bd_s]
      simp only [sR_sR, gR8, fl_mod]
      rw [fl_o4, Nat.mod_eq_of_lt (show v * 2 % 256 + q < 256 by omega)]
      unfold upC
      rw [decide_eq_true h, decide_eq_true g]
    · rw [if_pos h, m_flag1_0, bd_s]
      simp only [sR_sR, gR8, fl_mod]
      rw [fl_o4, Nat.mod_eq_of_lt (show v * 2 % 256 + q < 256 by omega)]
      unfold upC
      rw [decide_eq_false h, decide_eq_true g]
theorem m_on10 (a : AS) (b : Nat → Int32) (u : Bool) (v q : Nat) (hv : v < 256) (hq : q < 2) : mo_onByte_13 (mM a b u) 10 (nI v) (nI q) = some (nI ((v + 255) % 256), mM (sR a 8 (cntC (gR a 8) (decide (v = 128)) ((v + 255) % 256))) b u) := by
  have h : ∀ (s : MS) (V Q : Int32), mo_onByte_13 s 10 V Q = (fun OUT => bd (mo_shows s OUT 0) fun _ s1 => if V = 128 then (bd (mo_flag s1 2 1) fun _ s => some (OUT, s)) else (bd (mo_flag s1 2 0) fun _ s => some (OUT, s))) ((V - (1 : Int32)) &&& (255 : Int32)) := fun _ _ _ => rfl
  rw [h]
  dsimp only
  rw [out10 v hv q hq]
  rw [m_shows8, bd_s]
  simp only [eq128_iff v hv]
  by_cases h : v = 128
  · rw [if_pos h, m_flag2_1, bd_s, sR_sR, gR8, fl_mod, fl_o5, Nat.mod_eq_of_lt (show (v + 255) % 256 < 256 by omega)]
    unfold cntC
    rw [decide_eq_true h]
  · rw [if_neg h, m_flag2_0, bd_s, sR_sR, gR8, fl_mod, fl_o5, Nat.mod_eq_of_lt (show (v + 255) % 256 < 256 by omega)]
    unfold cntC
    rw [decide_eq_false h]
theorem m_on12 (a : AS) (b : Nat → Int32) (u : Bool) (v q : Nat) (hv : v < 256) (hq : q < 2) : mo_onByte_13 (mM a b u) 12 (nI v) (nI q) = some (nI ((v + 1) % 256), mM (sR a 8 (cntC (gR a 8) (decide (v = 127)) ((v + 1) % 256))) b u) := by
  have h : ∀ (s : MS) (V Q : Int32), mo_onByte_13 s 12 V Q = (fun OUT => bd (mo_shows s OUT 0) fun _ s1 => if V = 127 then (bd (mo_flag s1 2 1) fun _ s => some (OUT, s)) else (bd (mo_flag s1 2 0) fun _ s => some (OUT, s))) ((V + (1 : Int32)) &&& (255 : Int32)) := fun _ _ _ => rfl
  rw [h]
  dsimp only
  rw [out12 v hv q hq]
  rw [m_shows8, bd_s]
  simp only [eq127_iff v hv]
  by_cases h : v = 127
  · rw [if_pos h, m_flag2_1, bd_s, sR_sR, gR8, fl_mod, fl_o5, Nat.mod_eq_of_lt (show (v + 1) % 256 < 256 by omega)]
    unfold cntC
    rw [decide_eq_true h]
  · rw [if_neg h, m_flag2_0, bd_s, sR_sR, gR8, fl_mod, fl_o5, Nat.mod_eq_of_lt (show (v + 1) % 256 < 256 by omega)]
    unfold cntC
    rw [decide_eq_false h]
theorem m_on13 (a : AS) (b : Nat → Int32) (u : Bool) (v q : Nat) (hv : v < 256) (hq : q < 2) : mo_onByte_13 (mM a b u) 13 (nI v) (nI q) = some (nI (v), mM (sR a 8 (fP (gR a 8) v 128)) b u) := by
  have h : ∀ (s : MS) (V Q : Int32), mo_onByte_13 s 13 V Q = (fun OUT => bd (mo_shows s OUT 0) fun _ s1 => bd (mo_flag s1 2 0) fun _ s => some (OUT, s)) (V) := fun _ _ _ => rfl
  rw [h]
  dsimp only
  rw [m_shows8, bd_s]
  rw [m_flag2_0, bd_s, sR_sR, gR8, fl_mod, fl_o5, Nat.mod_eq_of_lt hv]
  rfl
theorem m_on15 (a : AS) (b : Nat → Int32) (u : Bool) (v q : Nat) (hv : v < 256) (hq : q < 2) : mo_onByte_13 (mM a b u) 15 (nI v) (nI q) = some (nI (0), mM (sR a 8 (fP (fl (gR a 8) 1 false) 0 128)) b u) := by
  have h : ∀ (s : MS) (V Q : Int32), mo_onByte_13 s 15 V Q = (fun OUT => bd (mo_shows s OUT 0) fun _ s1 => bd (mo_flag s1 2 0) fun _ s2 => bd (mo_flag s2 1 0) fun _ s => some (OUT, s)) (0) := fun _ _ _ => rfl
  rw [h]
  dsimp only
  rw [show mo_shows (mM a b u) 0 0 = mo_shows (mM a b u) (nI 0) 0 from rfl]
  rw [m_shows8, bd_s]
  rw [m_flag2_0, bd_s, m_flag1_0, bd_s]
  simp only [sR_sR, gR8, fl_mod]
  rw [fl_o4, Nat.mod_eq_of_lt (show 0 < 256 by omega)]
  rfl
theorem m_on0 (a : AS) (b : Nat → Int32) (u : Bool) (v q : Nat) (hv : v < 256) : mo_onByte_13 (mM a b u) 0 (nI v) (nI q) = some (nI (rS 0 v 0 7), mM (sR a 8 (fU (gR a 8) 0 v 0 7)) b u) := by
  have h : ∀ (s : MS) (V Q : Int32), mo_onByte_13 s 0 V Q = bd (mo_less s 0 V 0 0) fun v2 s1 => some (v2, s1) := fun _ _ _ => rfl
  rw [h]
  have g := m_less8 a b u 0 v 0 (by decide) hv (by decide)
  rw [show mo_less (mM a b u) 0 (nI v) 0 0 = mo_less (mM a b u) (nI 0) (nI v) (nI 0) 0 from rfl, g, bd_s]
theorem c_al4 (a : AS) (v : Nat) (hv : v < 256) : ar_alter (mC a) 4 (nI v) = some (nI (v / 2), mC (sR a 8 (oneC (gR a 8) v (v / 2)))) := by
  have h : ∀ (s : CS) (V : Int32), ar_alter s 4 V = bd (ar_shiftDown s V 0) fun v1 s1 => some (v1, s1) := fun _ _ => rfl
  rw [h, c_shiftDown _ v (v / 2) 0 hv (or_0 v hv) (by omega), bd_s]
theorem c_al7 (a : AS) (v : Nat) (hv : v < 256) : ar_alter (mC a) 7 (nI v) = some (nI (v / 2 + 128 * (v / 128)), mC (sR a 8 (oneC (gR a 8) v (v / 2 + 128 * (v / 128))))) := by
  have h : ∀ (s : CS) (V : Int32), ar_alter s 7 V = bd (ar_shiftDown s V (V &&& (128 : Int32))) fun v1 s1 => some (v1, s1) := fun _ _ => rfl
  rw [h, c_shiftDown _ v (v / 2 + 128 * (v / 128)) _ hv (out7 v hv 0 (by decide)) (by omega), bd_s]
theorem c_al8 (a : AS) (v : Nat) (hv : v < 256) : ar_alter (mC a) 8 (nI v) = some (nI (v * 2 % 256), mC (sR a 8 (upC (gR a 8) v (v * 2 % 256)))) := by
  have h : ∀ (s : CS) (V : Int32), ar_alter s 8 V = bd (ar_shiftUp s V 0) fun v1 s1 => some (v1, s1) := fun _ _ => rfl
  rw [h, c_shiftUp _ v (v * 2 % 256) 0 hv (or_0u v hv) (by omega), bd_s]
theorem c_al6 (a : AS) (v : Nat) (hv : v < 256) : ar_alter (mC a) 6 (nI v) = some (nI (v / 2 + 128 * cyN a), mC (sR a 8 (oneC (gR a 8) v (v / 2 + 128 * cyN a)))) := by
  have h : ∀ (s : CS) (V : Int32), ar_alter s 6 V = bd (re_carry s) fun q s5 => bd (ar_shiftDown s5 V (q <<< ((7 : Int32) &&& 31))) fun v1 s1 => some (v1, s1) := fun _ _ => rfl
  have hq := cyN_le a
  rw [h, c_carry, bd_s, c_shiftDown _ v (v / 2 + 128 * cyN a) _ hv (out6 v hv _ (by omega)) (by omega), bd_s]
theorem c_al9 (a : AS) (v : Nat) (hv : v < 256) : ar_alter (mC a) 9 (nI v) = some (nI (v * 2 % 256 + cyN a), mC (sR a 8 (upC (gR a 8) v (v * 2 % 256 + cyN a)))) := by
  have h : ∀ (s : CS) (V : Int32), ar_alter s 9 V = bd (re_carry s) fun q s5 => bd (ar_shiftUp s5 V q) fun v1 s1 => some (v1, s1) := fun _ _ => rfl
  have hq := cyN_le a
  rw [h, c_carry, bd_s, c_shiftUp _ v (v * 2 % 256 + cyN a) _ hv (out9 v hv _ (by omega)) (by omega), bd_s]
theorem c_al10 (a : AS) (v : Nat) (hv : v < 256) : ar_alter (mC a) 10 (nI v) = some (nI ((v + 255) % 256), mC (sR a 8 (cntC (gR a 8) (decide (v = 128)) ((v + 255) % 256)))) := by
  have h : ∀ (s : CS) (V : Int32), ar_alter s 10 V = if V = 128 then (bd (ar_count s ((V - (1 : Int32)) &&& (255 : Int32)) 1) fun v1 s1 => some (v1, s1)) else (bd (ar_count s ((V - (1 : Int32)) &&& (255 : Int32)) 0) fun v1 s1 => some (v1, s1)) := fun _ _ => rfl
  rw [h, out10 v hv 0 (by decide)]
  simp only [eq128_iff v hv]
  by_cases g : v = 128
  · rw [if_pos g, c_count1 _ _ (Nat.mod_lt _ (by decide)), bd_s, decide_eq_true g]
  · rw [if_neg g, c_count0 _ _ (Nat.mod_lt _ (by decide)), bd_s, decide_eq_false g]
theorem c_al12 (a : AS) (v : Nat) (hv : v < 256) : ar_alter (mC a) 12 (nI v) = some (nI ((v + 1) % 256), mC (sR a 8 (cntC (gR a 8) (decide (v = 127)) ((v + 1) % 256)))) := by
  have h : ∀ (s : CS) (V : Int32), ar_alter s 12 V = if V = 127 then (bd (ar_count s ((V + (1 : Int32)) &&& (255 : Int32)) 1) fun v1 s1 => some (v1, s1)) else (bd (ar_count s ((V + (1 : Int32)) &&& (255 : Int32)) 0) fun v1 s1 => some (v1, s1)) := fun _ _ => rfl
  rw [h, out12 v hv 0 (by decide)]
  simp only [eq127_iff v hv]
  by_cases g : v = 127
  · rw [if_pos g, c_count1 _ _ (Nat.mod_lt _ (by decide)), bd_s, decide_eq_true g]
  · rw [if_neg g, c_count0 _ _ (Nat.mod_lt _ (by decide)), bd_s, decide_eq_false g]
theorem c_al13 (a : AS) (v : Nat) (hv : v < 256) : ar_alter (mC a) 13 (nI v) = some (nI v, mC (sR a 8 (fP (gR a 8) v 128))) := by
  have h : ∀ (s : CS) (V : Int32), ar_alter s 13 V = bd (ar_pass s V 128) fun v1 s1 => some (v1, s1) := fun _ _ => rfl
  rw [h, c_pass8 _ _ hv, bd_s]
theorem c_al15 (a : AS) (v : Nat) : ar_alter (mC a) 15 (nI v) = some (nI 0, mC (sR a 8 (fP (fl (gR a 8) 1 false) 0 128))) := by
  have h : ∀ (s : CS) (V : Int32), ar_alter s 15 V = bd (re_turn s 1 0) fun _ s1 => bd (ar_pass s1 (nI 0) 128) fun v1 s2 => some (v1, s2) := fun _ _ => rfl
  rw [h, c_turn1_0, bd_s, c_pass8 _ _ (by decide), bd_s, sR_sR, gR8]
  unfold fP
  rw [fl_mod]
theorem c_al3 (a : AS) (v : Nat) (hv : v < 256) : ar_alter (mC a) 3 (nI v) = some (nI (255 - v), mC (sR a 8 (fP (fl (gR a 8) 1 true) (255 - v) 128))) := by
  have h : ∀ (s : CS) (V : Int32), ar_alter s 3 V = bd (re_turn s 1 1) fun _ s1 => bd (ar_pass s1 ((V ^^^ (-1 : Int32)) &&& (255 : Int32)) 128) fun v1 s2 => some (v1, s2) := fun _ _ => rfl
  rw [h, c_turn1_1, bd_s, out3c v hv, c_pass8 _ _ (by omega), bd_s, sR_sR, gR8]
  unfold fP
  rw [fl_mod]
theorem c_al0 (a : AS) (v : Nat) (hv : v < 256) : ar_alter (mC a) 0 (nI v) = some (nI (rS 0 v 0 7), mC (sR a 8 (fU (gR a 8) 0 v 0 7))) := by
  have h : ∀ (s : CS) (V : Int32), ar_alter s 0 V = bd (ar_subtract s (nI 0) V (nI 0) 128) fun v1 s1 => some (v1, s1) := fun _ _ => rfl
  rw [h, c_sub8 _ 0 v 0 (by decide) hv (by decide), bd_s]
theorem rS_lt (x y q : Nat) : rS x y q 7 < 256 := Nat.mod_lt _ (by decide)
theorem rS_lt16 (x y q : Nat) : rS x y q 15 < 65536 := Nat.mod_lt _ (by decide)
/-- a byte's outcome -/
abbrev PB : Nat → AS → Prop := fun n _ => n < 256
def defA (x : Nat) : Prop := x = 0 ∨ x = 3 ∨ x = 4 ∨ x = 6 ∨ x = 7 ∨ x = 8 ∨ x = 9 ∨ x = 10 ∨ x = 12 ∨ x = 13 ∨ x = 15
theorem rl_alter (a : AS) (b : Nat → Int32) (u : Bool) (x v : Nat) (hx : defA x) (hv : v < 256) : Rl PB b u (ar_alter (mC a) (nI x) (nI v)) (mo_onByte (mM a b u) (nI x) (nI v)) := by
  have h : ∀ (s : MS) (X V : Int32), mo_onByte s X V = bd (mo_is s 1) fun v1 s1 => if v1 = 0 then (fun Q s => mo_onByte_13 s X V Q) 0 s1 else (fun Q s => mo_onByte_13 s X V Q) 1 s1 := fun _ _ _ => rfl
  have hk := m_carry a b u (fun Q s => mo_onByte_13 s (nI x) (nI v) Q)
  try dsimp only at hk
  rw [h]
  try dsimp only
  rw [hk]
  have hq : cyN a < 2 := Nat.lt_succ_of_le (cyN_le a)
  rcases hx with rfl | rfl | rfl | rfl | rfl | rfl | rfl | rfl | rfl | rfl | rfl
  · exact ⟨_, _, c_al0 a v hv, m_on0 a b u v _ hv, rS_lt _ _ _⟩
  · exact ⟨_, _, c_al3 a v hv, m_on3 a b u v _ hv hq, by show 255 - v < 256; omega⟩
  · exact ⟨_, _, c_al4 a v hv, m_on4 a b u v _ hv hq, by show v / 2 < 256; omega⟩
  · exact ⟨_, _, c_al6 a v hv, m_on6 a b u v _ hv hq, by show v / 2 + 128 * cyN a < 256; omega⟩
  · exact ⟨_, _, c_al7 a v hv, m_on7 a b u v _ hv hq, by show v / 2 + 128 * (v / 128) < 256; omega⟩
  · exact ⟨_, _, c_al8 a v hv, m_on8 a b u v _ hv hq, Nat.mod_lt _ (by decide)⟩
  · exact ⟨_, _, c_al9 a v hv, m_on9 a b u v _ hv hq, by show v * 2 % 256 + cyN a < 256; omega⟩
  · exact ⟨_, _, c_al10 a v hv, m_on10 a b u v _ hv hq, Nat.mod_lt _ (by decide)⟩
  · exact ⟨_, _, c_al12 a v hv, m_on12 a b u v _ hv hq, Nat.mod_lt _ (by decide)⟩
  · exact ⟨_, _, c_al13 a v hv, m_on13 a b u v _ hv hq, hv⟩
  · exact ⟨_, _, c_al15 a v, m_on15 a b u v _ hv hq, by show 0 < 256; decide⟩
