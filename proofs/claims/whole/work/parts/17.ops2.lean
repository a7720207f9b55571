def wd2 (z : AS) (n : Nat) : Nat := hl (gM z (n % 4096)) (gM z ((n + 1) % 4096))
theorem wd2_lt (z : AS) (n : Nat) : wd2 z n < 65536 := hl_lt _ _
def hR (z : AS) (k : Nat) : Nat := if k = 9 then hl (gR z 0) (gR z 1) else gR z k % 65536
theorem hR_lt (z : AS) (k : Nat) : hR z k < 65536 := by
  unfold hR
  split
  · exact hl_lt _ _
  · exact Nat.mod_lt _ (by decide)
def setW (z : AS) (k v : Nat) : AS := if k = 9 then sR (sR z 0 (v / 256)) 1 v else sR z k v
theorem c_wordAt2 (z : AS) (n : Nat) : me_wordAt (mC z) (nI n) = some (nI (wd2 z n), mC z) := c_wordAt z n
theorem c_gw2 (a : AS) : re_get (mC a) 2 = some (nI (hR a 2), mC a) := c_get2 a
theorem c_sw2 (a : AS) (v : Nat) : re_set (mC a) 2 (nI v) = some (nI 0, mC (setW a 2 v)) := c_set2 a v
theorem c_gw3 (a : AS) : re_get (mC a) 3 = some (nI (hR a 3), mC a) := c_get3 a
theorem c_sw3 (a : AS) (v : Nat) : re_set (mC a) 3 (nI v) = some (nI 0, mC (setW a 3 v)) := c_set3 a v
theorem c_gw4 (a : AS) : re_get (mC a) 4 = some (nI (hR a 4), mC a) := c_get4 a
theorem c_sw4 (a : AS) (v : Nat) : re_set (mC a) 4 (nI v) = some (nI 0, mC (setW a 4 v)) := c_set4 a v
theorem c_gw5 (a : AS) : re_get (mC a) 5 = some (nI (hR a 5), mC a) := c_get5 a
theorem c_sw5 (a : AS) (v : Nat) : re_set (mC a) 5 (nI v) = some (nI 0, mC (setW a 5 v)) := c_set5 a v
theorem c_gw9 (a : AS) : re_get (mC a) 9 = some (nI (hR a 9), mC a) := c_get9 a
theorem c_sw9 (a : AS) (v : Nat) : re_set (mC a) 9 (nI v) = some (nI 0, mC (setW a 9 v)) := c_set9 a v
theorem c_w0_12_0 (z : AS) (n : Nat) : tc_operateOnWord (mC z) 0 12 0 (nI n) = some (nI 0, mC (sR z 8 (fU (gR z 8) (hR z 2) (wd2 z n) 0 15))) := by
  have h : ∀ (s : CS) (A : Int32), tc_operateOnWord s 0 12 0 A = bd (re_get s 2) fun H s2 => bd (me_wordAt s2 A) fun W s1 => bd (ar_subtract s1 H W (nI 0) 32768) fun v2 s3 => some (0, s3) := fun _ _ => rfl
  rw [h, c_gw2, bd_s, c_wordAt2, bd_s, c_sub16 _ _ _ 0 (hR_lt _ _) (wd2_lt _ _) (by decide), bd_s]
  rfl
theorem c_w1_3_0 (z : AS) (n : Nat) : tc_operateOnWord (mC z) 1 3 0 (nI n) = some (nI 0, mC (sR z 8 (fU (gR z 8) (hR z 9) (wd2 z n) 0 15))) := by
  have h : ∀ (s : CS) (A : Int32), tc_operateOnWord s 1 3 0 A = bd (re_get s 9) fun H s2 => bd (me_wordAt s2 A) fun W s1 => bd (ar_subtract s1 H W (nI 0) 32768) fun v2 s3 => some (0, s3) := fun _ _ => rfl
  rw [h, c_gw9, bd_s, c_wordAt2, bd_s, c_sub16 _ _ _ 0 (hR_lt _ _) (wd2_lt _ _) (by decide), bd_s]
  rfl
theorem c_w1_12_0 (z : AS) (n : Nat) : tc_operateOnWord (mC z) 1 12 0 (nI n) = some (nI 0, mC (sR z 8 (fU (gR z 8) (hR z 3) (wd2 z n) 0 15))) := by
  have h : ∀ (s : CS) (A : Int32), tc_operateOnWord s 1 12 0 A = bd (re_get s 3) fun H s2 => bd (me_wordAt s2 A) fun W s1 => bd (ar_subtract s1 H W (nI 0) 32768) fun v2 s3 => some (0, s3) := fun _ _ => rfl
  rw [h, c_gw3, bd_s, c_wordAt2, bd_s, c_sub16 _ _ _ 0 (hR_lt _ _) (wd2_lt _ _) (by decide), bd_s]
  rfl
theorem c_w2_3_0 (z : AS) (n : Nat) : tc_operateOnWord (mC z) 2 3 0 (nI n) = some (nI 0, mC (sR z 8 (fU (gR z 8) (hR z 4) (wd2 z n) 0 15))) := by
  have h : ∀ (s : CS) (A : Int32), tc_operateOnWord s 2 3 0 A = bd (re_get s 4) fun H s2 => bd (me_wordAt s2 A) fun W s1 => bd (ar_subtract s1 H W (nI 0) 32768) fun v2 s3 => some (0, s3) := fun _ _ => rfl
  rw [h, c_gw4, bd_s, c_wordAt2, bd_s, c_sub16 _ _ _ 0 (hR_lt _ _) (wd2_lt _ _) (by decide), bd_s]
  rfl
theorem c_w2_12_0 (z : AS) (n : Nat) : tc_operateOnWord (mC z) 2 12 0 (nI n) = some (nI 0, mC (sR z 8 (fU (gR z 8) (hR z 5) (wd2 z n) 0 15))) := by
  have h : ∀ (s : CS) (A : Int32), tc_operateOnWord s 2 12 0 A = bd (re_get s 5) fun H s2 => bd (me_wordAt s2 A) fun W s1 => bd (ar_subtract s1 H W (nI 0) 32768) fun v2 s3 => some (0, s3) := fun _ _ => rfl
  rw [h, c_gw5, bd_s, c_wordAt2, bd_s, c_sub16 _ _ _ 0 (hR_lt _ _) (wd2_lt _ _) (by decide), bd_s]
  rfl
theorem c_w0_3_0 (z : AS) (n : Nat) : tc_operateOnWord (mC z) 0 3 0 (nI n) = some (nI 0, mC (setW (sR z 8 (fU (gR z 8) (hR z 9) (wd2 z n) 0 15)) 9 (rS (hR z 9) (wd2 z n) 0 15))) := by
  have h : ∀ (s : CS) (A : Int32), tc_operateOnWord s 0 3 0 A = bd (re_get s 9) fun H s2 => bd (me_wordAt s2 A) fun W s1 => bd (ar_subtract s1 H W (nI 0) 32768) fun v2 s3 => bd (re_set s3 9 v2) fun _ s4 => some (0, s4) := fun _ _ => rfl
  rw [h, c_gw9, bd_s, c_wordAt2, bd_s, c_sub16 _ _ _ 0 (hR_lt _ _) (wd2_lt _ _) (by decide), bd_s, c_sw9, bd_s]
  rfl
theorem c_w0_3_1 (z : AS) (n : Nat) : tc_operateOnWord (mC z) 0 3 1 (nI n) = some (nI 0, mC (setW (sR z 8 (fA (gR z 8) (hR z 9) (wd2 z n) 0 15)) 9 ((hR z 9 + wd2 z n + 0) % 65536))) := by
  have h : ∀ (s : CS) (A : Int32), tc_operateOnWord s 0 3 1 A = bd (re_get s 9) fun H s2 => bd (me_wordAt s2 A) fun W s1 => bd (ar_add s1 H W (nI 0) 32768) fun v2 s3 => bd (re_set s3 9 v2) fun _ s4 => some (0, s4) := fun _ _ => rfl
  rw [h, c_gw9, bd_s, c_wordAt2, bd_s, c_add16 _ _ _ 0 (hR_lt _ _) (wd2_lt _ _) (by decide), bd_s, c_sw9, bd_s]
  rfl
theorem c_w0_14_0 (z : AS) (n : Nat) : tc_operateOnWord (mC z) 0 14 0 (nI n) = some (nI 0, mC (setW (sR z 8 (fP (gR z 8) (wd2 z n) 32768)) 2 (wd2 z n))) := by
  have h : ∀ (s : CS) (A : Int32), tc_operateOnWord s 0 14 0 A = bd (re_get s 2) fun _ s2 => bd (me_wordAt s2 A) fun W s6 => bd (ar_pass s6 W 32768) fun v5 s7 => bd (tc_become s7 2 v5) fun _ s8 => some (0, s8) := fun _ _ => rfl
  rw [h, c_gw2, bd_s, c_wordAt2, bd_s, c_pass16 _ _ (wd2_lt _ _), bd_s, c_become2, bd_s]
  rfl
theorem c_w0_12_1 (z : AS) (n : Nat) : tc_operateOnWord (mC z) 0 12 1 (nI n) = some (nI 0, mC (setW (sR z 8 (fP (gR z 8) (wd2 z n) 32768)) 9 (wd2 z n))) := by
  have h : ∀ (s : CS) (A : Int32), tc_operateOnWord s 0 12 1 A = bd (re_get s 9) fun _ s2 => bd (me_wordAt s2 A) fun W s6 => bd (ar_pass s6 W 32768) fun v5 s7 => bd (tc_become s7 9 v5) fun _ s8 => some (0, s8) := fun _ _ => rfl
  rw [h, c_gw9, bd_s, c_wordAt2, bd_s, c_pass16 _ _ (wd2_lt _ _), bd_s, c_become9, bd_s]
  rfl
theorem c_w0_14_1 (z : AS) (n : Nat) : tc_operateOnWord (mC z) 0 14 1 (nI n) = some (nI 0, mC (setW (sR z 8 (fP (gR z 8) (wd2 z n) 32768)) 4 (wd2 z n))) := by
  have h : ∀ (s : CS) (A : Int32), tc_operateOnWord s 0 14 1 A = bd (re_get s 4) fun _ s2 => bd (me_wordAt s2 A) fun W s6 => bd (ar_pass s6 W 32768) fun v5 s7 => bd (tc_become s7 4 v5) fun _ s8 => some (0, s8) := fun _ _ => rfl
  rw [h, c_gw4, bd_s, c_wordAt2, bd_s, c_pass16 _ _ (wd2_lt _ _), bd_s, c_become4, bd_s]
  rfl
theorem c_w1_14_0 (z : AS) (n : Nat) : tc_operateOnWord (mC z) 1 14 0 (nI n) = some (nI 0, mC (setW (sR z 8 (fP (gR z 8) (wd2 z n) 32768)) 3 (wd2 z n))) := by
  have h : ∀ (s : CS) (A : Int32), tc_operateOnWord s 1 14 0 A = bd (re_get s 3) fun _ s2 => bd (me_wordAt s2 A) fun W s6 => bd (ar_pass s6 W 32768) fun v5 s7 => bd (tc_become s7 3 v5) fun _ s8 => some (0, s8) := fun _ _ => rfl
  rw [h, c_gw3, bd_s, c_wordAt2, bd_s, c_pass16 _ _ (wd2_lt _ _), bd_s, c_become3, bd_s]
  rfl
theorem c_w1_14_1 (z : AS) (n : Nat) : tc_operateOnWord (mC z) 1 14 1 (nI n) = some (nI 0, mC (sA (setW (sR z 8 (fP (gR z 8) (wd2 z n) 32768)) 5 (wd2 z n)) true)) := by
  have h : ∀ (s : CS) (A : Int32), tc_operateOnWord s 1 14 1 A = bd (re_get s 5) fun _ s2 => bd (me_wordAt s2 A) fun W s6 => bd (ar_pass s6 W 32768) fun v5 s7 => bd (tc_become s7 5 v5) fun _ s8 => some (0, s8) := fun _ _ => rfl
  rw [h, c_gw5, bd_s, c_wordAt2, bd_s, c_pass16 _ _ (wd2_lt _ _), bd_s, c_become5, bd_s]
  rfl
theorem c_w0_15_0 (z : AS) (n : Nat) : tc_operateOnWord (mC z) 0 15 0 (nI n) = some (nI 0, mC (sM (sM (sR z 8 (fP (gR z 8) (hR z 2) 32768)) (n % 4096) (hR z 2 / 256)) ((n + 1) % 4096) (hR z 2))) := by
  have h : ∀ (s : CS) (A : Int32), tc_operateOnWord s 0 15 0 A = bd (re_get s 2) fun H s2 => bd (ar_pass s2 H 32768) fun v3 s4 => bd (me_setWord s4 A v3) fun _ s5 => some (0, s5) := fun _ _ => rfl
  rw [h, c_gw2, bd_s, c_pass16 _ _ (hR_lt _ _), bd_s, c_setWord, bd_s]
  rfl
theorem c_w0_13_1 (z : AS) (n : Nat) : tc_operateOnWord (mC z) 0 13 1 (nI n) = some (nI 0, mC (sM (sM (sR z 8 (fP (gR z 8) (hR z 9) 32768)) (n % 4096) (hR z 9 / 256)) ((n + 1) % 4096) (hR z 9))) := by
  have h : ∀ (s : CS) (A : Int32), tc_operateOnWord s 0 13 1 A = bd (re_get s 9) fun H s2 => bd (ar_pass s2 H 32768) fun v3 s4 => bd (me_setWord s4 A v3) fun _ s5 => some (0, s5) := fun _ _ => rfl
  rw [h, c_gw9, bd_s, c_pass16 _ _ (hR_lt _ _), bd_s, c_setWord, bd_s]
  rfl
theorem c_w0_15_1 (z : AS) (n : Nat) : tc_operateOnWord (mC z) 0 15 1 (nI n) = some (nI 0, mC (sM (sM (sR z 8 (fP (gR z 8) (hR z 4) 32768)) (n % 4096) (hR z 4 / 256)) ((n + 1) % 4096) (hR z 4))) := by
  have h : ∀ (s : CS) (A : Int32), tc_operateOnWord s 0 15 1 A = bd (re_get s 4) fun H s2 => bd (ar_pass s2 H 32768) fun v3 s4 => bd (me_setWord s4 A v3) fun _ s5 => some (0, s5) := fun _ _ => rfl
  rw [h, c_gw4, bd_s, c_pass16 _ _ (hR_lt _ _), bd_s, c_setWord, bd_s]
  rfl
theorem c_w1_15_0 (z : AS) (n : Nat) : tc_operateOnWord (mC z) 1 15 0 (nI n) = some (nI 0, mC (sM (sM (sR z 8 (fP (gR z 8) (hR z 3) 32768)) (n % 4096) (hR z 3 / 256)) ((n + 1) % 4096) (hR z 3))) := by
  have h : ∀ (s : CS) (A : Int32), tc_operateOnWord s 1 15 0 A = bd (re_get s 3) fun H s2 => bd (ar_pass s2 H 32768) fun v3 s4 => bd (me_setWord s4 A v3) fun _ s5 => some (0, s5) := fun _ _ => rfl
  rw [h, c_gw3, bd_s, c_pass16 _ _ (hR_lt _ _), bd_s, c_setWord, bd_s]
  rfl
theorem c_w1_15_1 (z : AS) (n : Nat) : tc_operateOnWord (mC z) 1 15 1 (nI n) = some (nI 0, mC (sM (sM (sR z 8 (fP (gR z 8) (hR z 5) 32768)) (n % 4096) (hR z 5 / 256)) ((n + 1) % 4096) (hR z 5))) := by
  have h : ∀ (s : CS) (A : Int32), tc_operateOnWord s 1 15 1 A = bd (re_get s 5) fun H s2 => bd (ar_pass s2 H 32768) fun v3 s4 => bd (me_setWord s4 A v3) fun _ s5 => some (0, s5) := fun _ _ => rfl
  rw [h, c_gw5, bd_s, c_pass16 _ _ (hR_lt _ _), bd_s, c_setWord, bd_s]
  rfl
theorem m_rw2 (a : AS) (b : Nat → Int32) (u : Bool) : mx_reg (mM a b u) 2 = nI (hR a 2) := m_reg2 a b u
theorem m_cmp2 (a z : AS) (b : Nat → Int32) (m V : Int32) (x : Nat) (hx : x < 65536) (h : mo_wordOperand (mM a b false) m = some (nI x, mM z b false)) : mo_compare (mM a b false) V 2 m = some (nI 0, mM (sR z 8 (fU (gR z 8) (hR z 2) x 0 15)) b false) := by
  unfold mo_compare mo_compare_30
  rw [h, bd_s, mx_und_e, if_pos (by decide), if_pos (by decide), show okI 2 9 = true from rfl, gd_t, nm_d, show ((2 : Int32).toNatClampNeg) = 2 from rfl, m_rw2, show mo_less (mM z b false) (nI (hR z 2)) (nI x) 0 1 = mo_less (mM z b false) (nI (hR z 2)) (nI x) (nI 0) 1 from rfl, m_less16 _ _ _ _ _ 0 (hR_lt _ _) hx (by decide), bd_s]
  rfl
theorem m_ld2 (a z : AS) (b : Nat → Int32) (m : Int32) (x : Nat) (hx : x < 65536) (h : mo_wordOperand (mM a b false) m = some (nI x, mM z b false)) : mo_loadWord (mM a b false) 2 m = some (nI 0, mM (setW (sR z 8 (fP (gR z 8) x 32768)) 2 x) b false) := by
  unfold mo_loadWord mo_loadWord_40
  rw [h, bd_s, mx_und_e, if_pos (by decide), m_moved16 _ _ _ _ hx, bd_s, if_pos (by decide), show okI 2 9 = true from rfl, gd_t, ns_d, show ((2 : Int32).toNatClampNeg) = 2 from rfl, m_sv2 _ _ _ _ hx, mx_arm_e]
  generalize hz : sR (sR z 8 (fP (gR z 8) x 32768)) 2 x = y
  have e : setW (sR z 8 (fP (gR z 8) x 32768)) 2 x = y := hz
  rw [e]
  cases hg : gA y
  · have h1 : mo_loadWord_58 (mM y b false) 0 = some (nI 0, mM (sA y false) b false) := rfl
    rw [if_pos (by decide), if_neg (by decide), h1, sA_same hg]
  · have h1 : mo_loadWord_53 (mM y b false) = some (nI 0, mM (sA y true) b false) := rfl
    rw [if_neg (by decide), h1, sA_same hg]
theorem m_st2 (a z : AS) (b : Nat → Int32) (m : Int32) (n : Nat) (hm : ¬ m = 0) (h : mo_address (mM a b false) m = some (nI n, mM z b false)) : mo_storeWord (mM a b false) 2 m = some (nI 0, mM (sM (sM (sR z 8 (fP (gR z 8) (hR z 2) 32768)) (n % 4096) (hR z 2 / 256)) ((n + 1) % 4096) (hR z 2)) b false) := by
  unfold mo_storeWord mo_storeWord_10 mo_storeWord_52
  rw [if_neg hm, show isB 0 = true from rfl, gd_t, ns_d, my_und0, mx_und_e, if_pos (by decide), h, bd_s, mx_und_e, if_pos (by decide), if_pos (by decide), show okI 2 9 = true from rfl, gd_t, nm_d, show ((2 : Int32).toNatClampNeg) = 2 from rfl, m_rw2, m_moved16 _ _ _ _ (hR_lt _ _), bd_s, m_writeWord _ _ _ _ _ (Nat.lt_of_lt_of_le (hR_lt _ _) (by decide)), bd_s]
  rfl
theorem m_rw3 (a : AS) (b : Nat → Int32) (u : Bool) : mx_reg (mM a b u) 3 = nI (hR a 3) := m_reg3 a b u
theorem m_cmp3 (a z : AS) (b : Nat → Int32) (m V : Int32) (x : Nat) (hx : x < 65536) (h : mo_wordOperand (mM a b false) m = some (nI x, mM z b false)) : mo_compare (mM a b false) V 3 m = some (nI 0, mM (sR z 8 (fU (gR z 8) (hR z 3) x 0 15)) b false) := by
  unfold mo_compare mo_compare_30
  rw [h, bd_s, mx_und_e, if_pos (by decide), if_pos (by decide), show okI 3 9 = true from rfl, gd_t, nm_d, show ((3 : Int32).toNatClampNeg) = 3 from rfl, m_rw3, show mo_less (mM z b false) (nI (hR z 3)) (nI x) 0 1 = mo_less (mM z b false) (nI (hR z 3)) (nI x) (nI 0) 1 from rfl, m_less16 _ _ _ _ _ 0 (hR_lt _ _) hx (by decide), bd_s]
  rfl
theorem m_ld3 (a z : AS) (b : Nat → Int32) (m : Int32) (x : Nat) (hx : x < 65536) (h : mo_wordOperand (mM a b false) m = some (nI x, mM z b false)) : mo_loadWord (mM a b false) 3 m = some (nI 0, mM (setW (sR z 8 (fP (gR z 8) x 32768)) 3 x) b false) := by
  unfold mo_loadWord mo_loadWord_40
  rw [h, bd_s, mx_und_e, if_pos (by decide), m_moved16 _ _ _ _ hx, bd_s, if_pos (by decide), show okI 3 9 = true from rfl, gd_t, ns_d, show ((3 : Int32).toNatClampNeg) = 3 from rfl, m_sv3 _ _ _ _ hx, mx_arm_e]
  generalize hz : sR (sR z 8 (fP (gR z 8) x 32768)) 3 x = y
  have e : setW (sR z 8 (fP (gR z 8) x 32768)) 3 x = y := hz
  rw [e]
  cases hg : gA y
  · have h1 : mo_loadWord_58 (mM y b false) 0 = some (nI 0, mM (sA y false) b false) := rfl
    rw [if_pos (by decide), if_neg (by decide), h1, sA_same hg]
  · have h1 : mo_loadWord_53 (mM y b false) = some (nI 0, mM (sA y true) b false) := rfl
    rw [if_neg (by decide), h1, sA_same hg]
theorem m_st3 (a z : AS) (b : Nat → Int32) (m : Int32) (n : Nat) (hm : ¬ m = 0) (h : mo_address (mM a b false) m = some (nI n, mM z b false)) : mo_storeWord (mM a b false) 3 m = some (nI 0, mM (sM (sM (sR z 8 (fP (gR z 8) (hR z 3) 32768)) (n % 4096) (hR z 3 / 256)) ((n + 1) % 4096) (hR z 3)) b false) := by
  unfold mo_storeWord mo_storeWord_10 mo_storeWord_52
  rw [if_neg hm, show isB 0 = true from rfl, gd_t, ns_d, my_und0, mx_und_e, if_pos (by decide), h, bd_s, mx_und_e, if_pos (by decide), if_pos (by decide), show okI 3 9 = true from rfl, gd_t, nm_d, show ((3 : Int32).toNatClampNeg) = 3 from rfl, m_rw3, m_moved16 _ _ _ _ (hR_lt _ _), bd_s, m_writeWord _ _ _ _ _ (Nat.lt_of_lt_of_le (hR_lt _ _) (by decide)), bd_s]
  rfl
theorem m_rw4 (a : AS) (b : Nat → Int32) (u : Bool) : mx_reg (mM a b u) 4 = nI (hR a 4) := m_reg4 a b u
theorem m_cmp4 (a z : AS) (b : Nat → Int32) (m V : Int32) (x : Nat) (hx : x < 65536) (h : mo_wordOperand (mM a b false) m = some (nI x, mM z b false)) : mo_compare (mM a b false) V 4 m = some (nI 0, mM (sR z 8 (fU (gR z 8) (hR z 4) x 0 15)) b false) := by
  unfold mo_compare mo_compare_30
  rw [h, bd_s, mx_und_e, if_pos (by decide), if_pos (by decide), show okI 4 9 = true from rfl, gd_t, nm_d, show ((4 : Int32).toNatClampNeg) = 4 from rfl, m_rw4, show mo_less (mM z b false) (nI (hR z 4)) (nI x) 0 1 = mo_less (mM z b false) (nI (hR z 4)) (nI x) (nI 0) 1 from rfl, m_less16 _ _ _ _ _ 0 (hR_lt _ _) hx (by decide), bd_s]
  rfl
theorem m_ld4 (a z : AS) (b : Nat → Int32) (m : Int32) (x : Nat) (hx : x < 65536) (h : mo_wordOperand (mM a b false) m = some (nI x, mM z b false)) : mo_loadWord (mM a b false) 4 m = some (nI 0, mM (setW (sR z 8 (fP (gR z 8) x 32768)) 4 x) b false) := by
  unfold mo_loadWord mo_loadWord_40
  rw [h, bd_s, mx_und_e, if_pos (by decide), m_moved16 _ _ _ _ hx, bd_s, if_pos (by decide), show okI 4 9 = true from rfl, gd_t, ns_d, show ((4 : Int32).toNatClampNeg) = 4 from rfl, m_sv4 _ _ _ _ hx, mx_arm_e]
  generalize hz : sR (sR z 8 (fP (gR z 8) x 32768)) 4 x = y
  have e : setW (sR z 8 (fP (gR z 8) x 32768)) 4 x = y := hz
  rw [e]
  cases hg : gA y
  · have h1 : mo_loadWord_58 (mM y b false) 0 = some (nI 0, mM (sA y false) b false) := rfl
    rw [if_pos (by decide), if_neg (by decide), h1, sA_same hg]
  · have h1 : mo_loadWord_53 (mM y b false) = some (nI 0, mM (sA y true) b false) := rfl
    rw [if_neg (by decide), h1, sA_same hg]
theorem m_st4 (a z : AS) (b : Nat → Int32) (m : Int32) (n : Nat) (hm : ¬ m = 0) (h : mo_address (mM a b false) m = some (nI n, mM z b false)) : mo_storeWord (mM a b false) 4 m = some (nI 0, mM (sM (sM (sR z 8 (fP (gR z 8) (hR z 4) 32768)) (n % 4096) (hR z 4 / 256)) ((n + 1) % 4096) (hR z 4)) b false) := by
  unfold mo_storeWord mo_storeWord_10 mo_storeWord_52
  rw [if_neg hm, show isB 0 = true from rfl, gd_t, ns_d, my_und0, mx_und_e, if_pos (by decide), h, bd_s, mx_und_e, if_pos (by decide), if_pos (by decide), show okI 4 9 = true from rfl, gd_t, nm_d, show ((4 : Int32).toNatClampNeg) = 4 from rfl, m_rw4, m_moved16 _ _ _ _ (hR_lt _ _), bd_s, m_writeWord _ _ _ _ _ (Nat.lt_of_lt_of_le (hR_lt _ _) (by decide)), bd_s]
  rfl
theorem m_rw5 (a : AS) (b : Nat → Int32) (u : Bool) : mx_reg (mM a b u) 5 = nI (hR a 5) := m_reg5 a b u
theorem m_cmp5 (a z : AS) (b : Nat → Int32) (m V : Int32) (x : Nat) (hx : x < 65536) (h : mo_wordOperand (mM a b false) m = some (nI x, mM z b false)) : mo_compare (mM a b false) V 5 m = some (nI 0, mM (sR z 8 (fU (gR z 8) (hR z 5) x 0 15)) b false) := by
  unfold mo_compare mo_compare_30
  rw [h, bd_s, mx_und_e, if_pos (by decide), if_pos (by decide), show okI 5 9 = true from rfl, gd_t, nm_d, show ((5 : Int32).toNatClampNeg) = 5 from rfl, m_rw5, show mo_less (mM z b false) (nI (hR z 5)) (nI x) 0 1 = mo_less (mM z b false) (nI (hR z 5)) (nI x) (nI 0) 1 from rfl, m_less16 _ _ _ _ _ 0 (hR_lt _ _) hx (by decide), bd_s]
  rfl
theorem m_ld5 (a z : AS) (b : Nat → Int32) (m : Int32) (x : Nat) (hx : x < 65536) (h : mo_wordOperand (mM a b false) m = some (nI x, mM z b false)) : mo_loadWord (mM a b false) 5 m = some (nI 0, mM (sA (setW (sR z 8 (fP (gR z 8) x 32768)) 5 x) true) b false) := by
  unfold mo_loadWord mo_loadWord_40
  rw [h, bd_s, mx_und_e, if_pos (by decide), m_moved16 _ _ _ _ hx, bd_s, if_pos (by decide), show okI 5 9 = true from rfl, gd_t, ns_d, show ((5 : Int32).toNatClampNeg) = 5 from rfl, m_sv5 _ _ _ _ hx, mx_arm_e]
  generalize hz : sR (sR z 8 (fP (gR z 8) x 32768)) 5 x = y
  have e : setW (sR z 8 (fP (gR z 8) x 32768)) 5 x = y := hz
  rw [e]
  have h1 : mo_loadWord_53 (mM y b false) = some (nI 0, mM (sA y true) b false) := rfl
  rw [if_pos (show (5 : Int32) = 5 from rfl), h1]
  split <;> rfl
theorem m_st5 (a z : AS) (b : Nat → Int32) (m : Int32) (n : Nat) (hm : ¬ m = 0) (h : mo_address (mM a b false) m = some (nI n, mM z b false)) : mo_storeWord (mM a b false) 5 m = some (nI 0, mM (sM (sM (sR z 8 (fP (gR z 8) (hR z 5) 32768)) (n % 4096) (hR z 5 / 256)) ((n + 1) % 4096) (hR z 5)) b false) := by
  unfold mo_storeWord mo_storeWord_10 mo_storeWord_52
  rw [if_neg hm, show isB 0 = true from rfl, gd_t, ns_d, my_und0, mx_und_e, if_pos (by decide), h, bd_s, mx_und_e, if_pos (by decide), if_pos (by decide), show okI 5 9 = true from rfl, gd_t, nm_d, show ((5 : Int32).toNatClampNeg) = 5 from rfl, m_rw5, m_moved16 _ _ _ _ (hR_lt _ _), bd_s, m_writeWord _ _ _ _ _ (Nat.lt_of_lt_of_le (hR_lt _ _) (by decide)), bd_s]
  rfl
theorem m_d9 (a : AS) (b : Nat → Int32) (u : Bool) : mo_d (mM a b u) = some (nI (hR a 9), mM a b u) := m_d a b u
theorem m_cmp9 (a z : AS) (b : Nat → Int32) (m : Int32) (x : Nat) (hx : x < 65536) (hk : kp a z) (h : mo_wordOperand (mM a b false) m = some (nI x, mM z b false)) : mo_compare (mM a b false) (nI (hR a 9)) (-1) m = some (nI 0, mM (sR z 8 (fU (gR z 8) (hR z 9) x 0 15)) b false) := by
  have e : hR a 9 = hR z 9 := by
    show hl (gR a 0) (gR a 1) = hl (gR z 0) (gR z 1)
    rw [hk.1, hk.2.1]
  unfold mo_compare mo_compare_30
  rw [h, bd_s, mx_und_e, if_pos (by decide), if_neg (by decide), e, show mo_less (mM z b false) (nI (hR z 9)) (nI x) 0 1 = mo_less (mM z b false) (nI (hR z 9)) (nI x) (nI 0) 1 from rfl, m_less16 _ _ _ _ _ 0 (hR_lt _ _) hx (by decide), bd_s]
  rfl
theorem m_ld9 (a z : AS) (b : Nat → Int32) (m : Int32) (x : Nat) (hx : x < 65536) (h : mo_wordOperand (mM a b false) m = some (nI x, mM z b false)) : mo_loadWord (mM a b false) (-1) m = some (nI 0, mM (setW (sR z 8 (fP (gR z 8) x 32768)) 9 x) b false) := by
  unfold mo_loadWord mo_loadWord_40
  rw [h, bd_s, mx_und_e, if_pos (by decide), m_moved16 _ _ _ _ hx, bd_s, if_neg (by decide), m_setD, bd_s, mx_arm_e]
  generalize hz : sR (sR (sR z 8 (fP (gR z 8) x 32768)) 0 (x / 256)) 1 x = y
  have e : setW (sR z 8 (fP (gR z 8) x 32768)) 9 x = y := hz
  rw [e]
  cases hg : gA y
  · have h1 : mo_loadWord_58 (mM y b false) 0 = some (nI 0, mM (sA y false) b false) := rfl
    rw [if_pos (by decide), if_neg (by decide), h1, sA_same hg]
  · have h1 : mo_loadWord_53 (mM y b false) = some (nI 0, mM (sA y true) b false) := rfl
    rw [if_neg (by decide), h1, sA_same hg]
theorem m_st9 (a z : AS) (b : Nat → Int32) (m : Int32) (n : Nat) (hm : ¬ m = 0) (h : mo_address (mM a b false) m = some (nI n, mM z b false)) : mo_storeWord (mM a b false) (-1) m = some (nI 0, mM (sM (sM (sR z 8 (fP (gR z 8) (hR z 9) 32768)) (n % 4096) (hR z 9 / 256)) ((n + 1) % 4096) (hR z 9)) b false) := by
  unfold mo_storeWord mo_storeWord_10 mo_storeWord_52
  rw [if_neg hm, show isB 0 = true from rfl, gd_t, ns_d, my_und0, mx_und_e, if_pos (by decide), h, bd_s, mx_und_e, if_pos (by decide), if_neg (by decide), m_d9, bd_s, m_moved16 _ _ _ _ (hR_lt _ _), bd_s, m_writeWord _ _ _ _ _ (Nat.lt_of_lt_of_le (hR_lt _ _) (by decide)), bd_s]
  rfl
theorem m_addW (a z : AS) (b : Nat → Int32) (m : Int32) (x : Nat) (hx : x < 65536) (h : mo_wordOperand (mM a b false) m = some (nI x, mM z b false)) : mo_addWord (mM a b false) m 0 = some (nI 0, mM (setW (sR z 8 (fA (gR z 8) (hR z 9) x 0 15)) 9 ((hR z 9 + x + 0) % 65536)) b false) := by
  unfold mo_addWord mo_addWord_43
  rw [h, bd_s, mx_und_e, if_pos (by decide), if_pos (by decide), m_d9, bd_s, show mo_plus (mM z b false) (nI (hR z 9)) (nI x) 0 1 = mo_plus (mM z b false) (nI (hR z 9)) (nI x) (nI 0) 1 from rfl, m_plus16 _ _ _ _ _ 0 (hR_lt _ _) hx (by decide), bd_s, m_setD, bd_s]
  rfl
theorem m_subW (a z : AS) (b : Nat → Int32) (m : Int32) (x : Nat) (hx : x < 65536) (h : mo_wordOperand (mM a b false) m = some (nI x, mM z b false)) : mo_addWord (mM a b false) m 1 = some (nI 0, mM (setW (sR z 8 (fU (gR z 8) (hR z 9) x 0 15)) 9 (rS (hR z 9) x 0 15)) b false) := by
  unfold mo_addWord mo_addWord_43
  rw [h, bd_s, mx_und_e, if_pos (by decide), if_neg (by decide), m_d9, bd_s, show mo_less (mM z b false) (nI (hR z 9)) (nI x) 0 1 = mo_less (mM z b false) (nI (hR z 9)) (nI x) (nI 0) 1 from rfl, m_less16 _ _ _ _ _ 0 (hR_lt _ _) hx (by decide), bd_s, m_setD, bd_s]
  rfl
-- the same with a postbyte that isn't defined
theorem un_cmp (a : AS) (b : Nat → Int32) (V k : Int32) (hd : dpb (fB a) = false) : mo_compare (mM a b false) V k 2 = some (0, mM (fS a) b true) := by
  obtain ⟨n, h⟩ := m_woper_un a b false hd
  unfold mo_compare
  rw [h, bd_s, mx_und_e, if_neg (by decide)]
theorem un_ld (a : AS) (b : Nat → Int32) (k : Int32) (hd : dpb (fB a) = false) : mo_loadWord (mM a b false) k 2 = some (0, mM (fS a) b true) := by
  obtain ⟨n, h⟩ := m_woper_un a b false hd
  unfold mo_loadWord
  rw [h, bd_s, mx_und_e, if_neg (by decide)]
theorem un_st (a : AS) (b : Nat → Int32) (k : Int32) (hd : dpb (fB a) = false) : mo_storeWord (mM a b false) k 2 = some (0, mM (fS a) b true) := by
  unfold mo_storeWord mo_storeWord_10
  rw [if_neg (by decide), show isB 0 = true from rfl, gd_t, ns_d, my_und0, mx_und_e, if_pos (by decide), m_addr_un a b false hd, bd_s, mx_und_e, if_neg (by decide)]
theorem un_st0 (a : AS) (b : Nat → Int32) (k : Int32) : mo_storeWord (mM a b false) k 0 = some (0, mM a b true) := by
  unfold mo_storeWord mo_storeWord_10
  rw [if_pos rfl, show isB 1 = true from rfl, gd_t, ns_d, my_und1, mx_und_e, if_neg (by decide)]
theorem un_add (a : AS) (b : Nat → Int32) (k : Int32) (hd : dpb (fB a) = false) : mo_addWord (mM a b false) 2 k = some (0, mM (fS a) b true) := by
  obtain ⟨n, h⟩ := m_woper_un a b false hd
  unfold mo_addWord
  rw [h, bd_s, mx_und_e, if_neg (by decide)]
theorem un_call (a : AS) (b : Nat → Int32) (hd : dpb (fB a) = false) : mo_call (mM a b false) 2 = some (0, mM (fS a) b true) := by
  unfold mo_call mo_call_36
  rw [if_neg (by decide), m_addr_un a b false hd, bd_s, mx_und_e, if_neg (by decide)]
-- calls
theorem c_call (z : AS) (n : Nat) : tc_call (mC z) (nI n) = some (nI 0, mC (sR (pW z 5 (gR z 6 % 65536)) 6 n)) := by
  unfold tc_call
  rw [c_get6, bd_s, c_pushWord5, bd_s, c_set6, bd_s]
  rfl
theorem m_call36 (z : AS) (b : Nat → Int32) (n : Nat) (hn : n < 65536) : mo_call_36 (mM z b false) (nI n) = some (nI 0, mM (sR (pW z 5 (gR z 6 % 65536)) 6 n) b false) := by
  unfold mo_call_36
  rw [mx_und_e, if_pos (by decide), m_reg6, m_pushWord5 _ _ _ _ (Nat.mod_lt _ (by decide)), bd_s, ns_d, m_sv6 _ _ _ _ hn]
  rfl
theorem add_x (p : Nat) (x : Int32) : nI p + x = nI (p + x.toBitVec.toNat) := by
  rw [← nI_add, ← nI_self x]
theorem c_goOn (z : AS) (x : Int32) : tc_goOn (mC z) x = some (nI 0, mC (sR z 6 (gR z 6 % 65536 + x.toBitVec.toNat))) := by
  unfold tc_goOn
  rw [c_get6, bd_s, add_x, c_set6, bd_s]
  rfl
theorem c_callRel (z : AS) (x : Int32) : tc_callRelative (mC z) x = some (nI 0, mC (sR (pW z 5 (gR z 6 % 65536)) 6 (gR (pW z 5 (gR z 6 % 65536)) 6 % 65536 + x.toBitVec.toNat))) := by
  unfold tc_callRelative
  rw [c_get6, bd_s, c_pushWord5, bd_s, c_goOn, bd_s]
  rfl
theorem rl_bsr (a : AS) (b : Nat → Int32) : Rl PT b false (bd (tc_fetchByte (mC a)) fun v3 s1 => bd (tc_callRelative s1 (v3.toInt8.toInt32)) fun _ s2 => some ((0 : Int32), s2)) (mo_call (mM a b false) 0) := by
  unfold mo_call
  rw [c_fetchByte, bd_s, c_callRel, bd_s, if_pos rfl, m_next, bd_s, m_signed _ _ (fB_lt a), bd_s, nm_d, m_reg6, add_x, and65535]
  unfold w16
  rw [m_call36 _ _ _ (Nat.mod_lt _ (by decide))]
  refine ⟨0, _, rfl, ?_, trivial⟩
  congr 3
  apply sR_cong
  show _ % 65536 = _ % 65536
  rw [show gR (pW (fS a) 5 (gR (fS a) 6 % 65536)) 6 = gR (fS a) 6 from rfl, Nat.mod_mod]
theorem rl_lbsr (a : AS) (b : Nat → Int32) : Rl PT b false (bd (tc_fetchWord (mC a)) fun v2 s4 => bd (tc_callRelative s4 v2) fun _ s5 => some ((0 : Int32), s5)) (bd (mo_nextWord (mM a b false)) fun v8 s10 => bd (mo_pushWord s10 (5 : Int32) (mx_reg s10 6)) fun _ s11 => some ((0 : Int32), my_reg s11 (upd (mx_reg s11) 6 (((mx_reg s11 6) + v8) &&& (65535 : Int32))))) := by
  rw [c_fetchWord, bd_s, c_callRel, bd_s, m_nextWord, bd_s, m_reg6, m_pushWord5 _ _ _ _ (Nat.mod_lt _ (by decide)), bd_s, m_reg6, add_x, and65535]
  unfold w16
  rw [m_set6]
  exact ⟨0, _, rfl, rfl, trivial⟩
