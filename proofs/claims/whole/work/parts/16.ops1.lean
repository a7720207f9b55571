theorem hl_c2 (a b : Nat) (hb : b < 256) : (nI (a % 256) <<< ((8 : Int32) &&& 31)) ||| nI b = nI (hl a b) := by
  have h := hl_c a b
  unfold w8 at h
  rw [Nat.mod_eq_of_lt hb] at h
  rw [h]
  unfold w16
  rw [Nat.mod_eq_of_lt (hl_lt a b)]
theorem hl_m2 (a b : Nat) (hb : b < 256) : (256 : Int32) * nI (a % 256) + nI b = nI (hl a b) := by
  have h := hl_m a b
  unfold w8 at h
  rw [Nat.mod_eq_of_lt hb] at h
  rw [h]
  unfold w16
  rw [Nat.mod_eq_of_lt (hl_lt a b)]
/-- where an operand lies: the class's address, the reference's address -/
theorem ad_addr (a : AS) (b : Nat → Int32) (m : Nat) (sz : Int32) (hm : 1 ≤ m ∧ m ≤ 3) (hd : m = 2 → dpb (fB a) = true) : ∃ (n : Nat) (z : AS), tc_operandAddress (mC a) (nI m) sz = some (nI n, mC z) ∧ mo_address (mM a b false) (nI m) = some (nI n, mM z b false) ∧ n < 65536 ∧ kp a z := by
  have hc : m = 1 ∨ m = 2 ∨ m = 3 := by omega
  rcases hc with rfl | rfl | rfl
  · refine ⟨hl (gR a 7) (fB a), fS a, ?_, ?_, hl_lt _ _, kp_6 (kp_rf a) _⟩
    · have h : ∀ (s : CS) (z : Int32), tc_operandAddress s 1 z = bd (re_get s 7) fun v2 s3 => bd (tc_fetchByte s3) fun v3 s4 => some (((v2 <<< ((8 : Int32) &&& 31)) ||| v3), s4) := fun _ _ => rfl
      rw [show nI 1 = (1 : Int32) from rfl, h, c_get7, bd_s, c_fetchByte, bd_s, hl_c2 _ _ (fB_lt a)]
    · unfold mo_address
      rw [if_neg (by decide), if_pos (by decide), m_next, bd_s, m_reg7, hl_m2 _ _ (fB_lt a)]
      rfl
  · obtain ⟨n, z, h1, h2, h3, h4⟩ := rl_index a b (hd rfl)
    refine ⟨n, z, ?_, ?_, h3, h4⟩
    · have h : ∀ (s : CS) (z : Int32), tc_operandAddress s 2 z = bd (tc_indexedAddress s) fun v4 s5 => some (v4, s5) := fun _ _ => rfl
      rw [show nI 2 = (2 : Int32) from rfl, h, h1, bd_s]
    · unfold mo_address
      rw [if_pos (by decide), h2, bd_s]
  · refine ⟨fW a, fT a, ?_, ?_, fW_lt a, kp_6 (kp_rf a) _⟩
    · have h : ∀ (s : CS) (z : Int32), tc_operandAddress s 3 z = bd (tc_fetchWord s) fun v5 s6 => some (v5, s6) := fun _ _ => rfl
      rw [show nI 3 = (3 : Int32) from rfl, h, c_fetchWord, bd_s]
    · unfold mo_address
      rw [if_neg (by decide), if_neg (by decide), m_nextWord, bd_s]
      rfl
theorem m_addr_un (a : AS) (b : Nat → Int32) (u : Bool) (hd : dpb (fB a) = false) : mo_address (mM a b u) 2 = some (nI 0, mM (fS a) b true) := by
  unfold mo_address
  rw [if_pos (by decide), m_post_un a b u hd, bd_s]
theorem m_eq0 {m : Nat} (hm : m ≤ 3) : (nI m = 0) ↔ m = 0 := nI_eq (b := 0) (by omega) (by decide)
theorem ad_byte (a : AS) (b : Nat → Int32) (m : Nat) (hm : m ≤ 3) (hd : m = 2 → dpb (fB a) = true) : ∃ (n : Nat) (z : AS), tc_operandAddress (mC a) (nI m) 1 = some (nI n, mC z) ∧ mo_operand (mM a b false) (nI m) = some (nI (gM z (n % 4096) % 256), mM z b false) ∧ kp a z := by
  by_cases h0 : m = 0
  · subst h0
    refine ⟨fE a, fS a, ?_, ?_, kp_6 (kp_rf a) _⟩
    · have h : ∀ (s : CS) (z : Int32), tc_operandAddress s 0 z = bd (re_get s 6) fun v1 s1 => bd (re_set s1 6 (v1 + z)) fun _ s2 => some (v1, s2) := fun _ _ => rfl
      rw [show nI 0 = (0 : Int32) from rfl, h, c_get6, bd_s, show (1 : Int32) = nI 1 from rfl, nI_add, c_set6, bd_s]
      rfl
    · unfold mo_operand
      rw [if_pos (by decide), m_next, bd_s]
      rfl
  · obtain ⟨n, z, h1, h2, h3, h4⟩ := ad_addr a b m 1 (by omega) hd
    refine ⟨n, z, h1, ?_, h4⟩
    unfold mo_operand
    rw [if_neg (fun q => h0 ((m_eq0 hm).mp q)), h2, bd_s, m_read, bd_s]
    rfl
theorem ad_word (a : AS) (b : Nat → Int32) (m : Nat) (hm : m ≤ 3) (hd : m = 2 → dpb (fB a) = true) : ∃ (n : Nat) (z : AS), tc_operandAddress (mC a) (nI m) 2 = some (nI n, mC z) ∧ mo_wordOperand (mM a b false) (nI m) = some (nI (hl (gM z (n % 4096)) (gM z ((n + 1) % 4096))), mM z b false) ∧ kp a z := by
  by_cases h0 : m = 0
  · subst h0
    refine ⟨fE a, fT a, ?_, ?_, kp_6 (kp_rf a) _⟩
    · have h : ∀ (s : CS) (z : Int32), tc_operandAddress s 0 z = bd (re_get s 6) fun v1 s1 => bd (re_set s1 6 (v1 + z)) fun _ s2 => some (v1, s2) := fun _ _ => rfl
      rw [show nI 0 = (0 : Int32) from rfl, h, c_get6, bd_s, show (2 : Int32) = nI 2 from rfl, nI_add, c_set6, bd_s]
      rfl
    · unfold mo_wordOperand
      rw [if_pos (by decide), m_nextWord, bd_s]
      rfl
  · obtain ⟨n, z, h1, h2, h3, h4⟩ := ad_addr a b m 2 (by omega) hd
    refine ⟨n, z, h1, ?_, h4⟩
    unfold mo_wordOperand
    rw [if_neg (fun q => h0 ((m_eq0 hm).mp q)), h2, bd_s, m_readWord, bd_s]
    rfl
theorem m_oper_un (a : AS) (b : Nat → Int32) (u : Bool) (hd : dpb (fB a) = false) : ∃ n : Int32, mo_operand (mM a b u) 2 = some (n, mM (fS a) b true) := by
  refine ⟨nI (gM (fS a) (0 % 4096) % 256), ?_⟩
  unfold mo_operand
  rw [if_neg (by decide), m_addr_un a b u hd, bd_s, m_read, bd_s]
  rfl
theorem m_woper_un (a : AS) (b : Nat → Int32) (u : Bool) (hd : dpb (fB a) = false) : ∃ n : Int32, mo_wordOperand (mM a b u) 2 = some (n, mM (fS a) b true) := by
  refine ⟨nI (hl (gM (fS a) (0 % 4096)) (gM (fS a) ((0 + 1) % 4096))), ?_⟩
  unfold mo_wordOperand
  rw [if_neg (by decide), m_addr_un a b u hd, bd_s, m_readWord, bd_s]
  rfl
theorem c_cmb0 (z : AS) (h v : Nat) (hh : h < 256) (hv : v < 256) : ar_combine (mC z) 0 (nI h) (nI v) = some (nI (rS h v 0 7), mC (sR z 8 (fU (gR z 8) h v 0 7))) := by
  have e : ∀ (s : CS) (A B : Int32), ar_combine s 0 A B = bd (ar_subtract s A B 0 128) fun v1 s1 => some (v1, s1) := fun _ _ _ => rfl
  rw [e]
  rw [show ar_subtract (mC z) (nI h) (nI v) 0 128 = ar_subtract (mC z) (nI h) (nI v) (nI 0) 128 from rfl]
  rw [c_sub8 _ h v 0 hh hv (by decide), bd_s]
theorem c_cmb1 (z : AS) (h v : Nat) (hh : h < 256) (hv : v < 256) : ar_combine (mC z) 1 (nI h) (nI v) = some (nI (rS h v 0 7), mC (sR z 8 (fU (gR z 8) h v 0 7))) := by
  have e : ∀ (s : CS) (A B : Int32), ar_combine s 1 A B = bd (ar_subtract s A B 0 128) fun v1 s1 => some (v1, s1) := fun _ _ _ => rfl
  rw [e]
  rw [show ar_subtract (mC z) (nI h) (nI v) 0 128 = ar_subtract (mC z) (nI h) (nI v) (nI 0) 128 from rfl]
  rw [c_sub8 _ h v 0 hh hv (by decide), bd_s]
theorem c_cmb2 (z : AS) (h v : Nat) (hh : h < 256) (hv : v < 256) : ar_combine (mC z) 2 (nI h) (nI v) = some (nI (rS h v (cyN z) 7), mC (sR z 8 (fU (gR z 8) h v (cyN z) 7))) := by
  have e : ∀ (s : CS) (A B : Int32), ar_combine s 2 A B = bd (re_carry s) fun q s1 => bd (ar_subtract s1 A B q 128) fun v1 s2 => some (v1, s2) := fun _ _ _ => rfl
  rw [e]
  rw [c_carry, bd_s, c_sub8 _ h v _ hh hv (cyN_le z), bd_s]
theorem c_cmb4 (z : AS) (h v : Nat) (hh : h < 256) (hv : v < 256) : ar_combine (mC z) 4 (nI h) (nI v) = some (nI (h &&& v), mC (sR z 8 (fP (gR z 8) (h &&& v) 128))) := by
  have e : ∀ (s : CS) (A B : Int32), ar_combine s 4 A B = bd (ar_pass s (A &&& B) 128) fun v1 s1 => some (v1, s1) := fun _ _ _ => rfl
  rw [e]
  rw [and_nI, c_pass8 _ _ (Nat.and_lt_two_pow (n := 8) _ hv), bd_s]
theorem c_cmb5 (z : AS) (h v : Nat) (hh : h < 256) (hv : v < 256) : ar_combine (mC z) 5 (nI h) (nI v) = some (nI (h &&& v), mC (sR z 8 (fP (gR z 8) (h &&& v) 128))) := by
  have e : ∀ (s : CS) (A B : Int32), ar_combine s 5 A B = bd (ar_pass s (A &&& B) 128) fun v1 s1 => some (v1, s1) := fun _ _ _ => rfl
  rw [e]
  rw [and_nI, c_pass8 _ _ (Nat.and_lt_two_pow (n := 8) _ hv), bd_s]
theorem c_cmb6 (z : AS) (h v : Nat) (hh : h < 256) (hv : v < 256) : ar_combine (mC z) 6 (nI h) (nI v) = some (nI (v), mC (sR z 8 (fP (gR z 8) v 128))) := by
  have e : ∀ (s : CS) (A B : Int32), ar_combine s 6 A B = bd (ar_pass s B 128) fun v1 s1 => some (v1, s1) := fun _ _ _ => rfl
  rw [e]
  rw [c_pass8 _ _ hv, bd_s]
theorem c_cmb8 (z : AS) (h v : Nat) (hh : h < 256) (hv : v < 256) : ar_combine (mC z) 8 (nI h) (nI v) = some (nI (h ^^^ v), mC (sR z 8 (fP (gR z 8) (h ^^^ v) 128))) := by
  have e : ∀ (s : CS) (A B : Int32), ar_combine s 8 A B = bd (ar_pass s (A ^^^ B) 128) fun v1 s1 => some (v1, s1) := fun _ _ _ => rfl
  rw [e]
  rw [xor_nI, c_pass8 _ _ (Nat.xor_lt_two_pow (n := 8) hh hv), bd_s]
theorem c_cmb9 (z : AS) (h v : Nat) (hh : h < 256) (hv : v < 256) : ar_combine (mC z) 9 (nI h) (nI v) = some (nI ((h + v + cyN z) % 256), mC (sR z 8 (fA (fl (gR z 8) 32 (hC h v (cyN z))) h v (cyN z) 7))) := by
  have e : ∀ (s : CS) (A B : Int32), ar_combine s 9 A B = bd (re_carry s) fun q s1 => bd (ar_addByte s1 A B q) fun v1 s2 => some (v1, s2) := fun _ _ _ => rfl
  rw [e]
  rw [c_carry, bd_s, c_addByte _ h v _ hh hv (cyN_le z), bd_s]
theorem c_cmb10 (z : AS) (h v : Nat) (hh : h < 256) (hv : v < 256) : ar_combine (mC z) 10 (nI h) (nI v) = some (nI (h ||| v), mC (sR z 8 (fP (gR z 8) (h ||| v) 128))) := by
  have e : ∀ (s : CS) (A B : Int32), ar_combine s 10 A B = bd (ar_pass s (A ||| B) 128) fun v1 s1 => some (v1, s1) := fun _ _ _ => rfl
  rw [e]
  rw [or_nI, c_pass8 _ _ (Nat.or_lt_two_pow (n := 8) hh hv), bd_s]
theorem c_cmb11 (z : AS) (h v : Nat) (hh : h < 256) (hv : v < 256) : ar_combine (mC z) 11 (nI h) (nI v) = some (nI ((h + v + 0) % 256), mC (sR z 8 (fA (fl (gR z 8) 32 (hC h v 0)) h v 0 7))) := by
  have e : ∀ (s : CS) (A B : Int32), ar_combine s 11 A B = bd (ar_addByte s A B 0) fun v1 s1 => some (v1, s1) := fun _ _ _ => rfl
  rw [e]
  rw [show ar_addByte (mC z) (nI h) (nI v) 0 = ar_addByte (mC z) (nI h) (nI v) (nI 0) from rfl]
  rw [c_addByte _ h v 0 hh hv (by decide), bd_s]
theorem m_acc0_0 (z : AS) (b : Nat → Int32) (h v : Nat) (hh : h < 256) (hv : v < 256) : mo_accumulate_121 (mM z b false) 0 0 (nI (cyN z)) (nI v) (nI h) = some (nI 0, mM (sR (sR z 8 (fU (gR z 8) h v 0 7)) 0 (rS h v 0 7)) b false) := by
  unfold mo_accumulate_121 mo_accumulate_133 mo_accumulate_151 mo_accumulate_173 mo_accumulate_188 mo_accumulate_206 mo_accumulate_225 mo_accumulate_243 mo_accumulate_261
  rw [show mo_less (mM z b false) (nI h) (nI v) 0 0 = mo_less (mM z b false) (nI h) (nI v) (nI 0) 0 from rfl, m_less8 _ _ _ h v 0 hh hv (by decide), bd_s, if_neg (by decide), if_neg (by decide), if_neg (by decide), if_neg (by decide), if_neg (by decide), if_neg (by decide), if_neg (by decide), if_neg (by decide), if_neg (by decide), if_neg (by decide), show okI 0 9 = true from rfl, gd_t, ns_d, show ((0 : Int32).toNatClampNeg) = 0 from rfl, m_sv0 _ _ _ _ (rS_lt _ _ _)]
  rfl
theorem c_op0_0 (z : AS) (n : Nat) : tc_operateOnByte (mC z) 0 0 (nI n) = (fun h v => some (nI 0, mC (sR (sR z 8 (fU (gR z 8) h v 0 7)) 0 (rS h v 0 7)))) (gR z 0 % 256) (gM z (n % 4096) % 256) := by
  unfold tc_operateOnByte
  rw [c_get0, bd_s, if_neg (by decide), c_byteAt, bd_s, c_cmb0 _ _ _ (Nat.mod_lt _ (by decide)) (Nat.mod_lt _ (by decide)), bd_s, if_neg (by decide), if_neg (by decide)]
  unfold tc_operateOnByte_72
  rw [if_pos (by decide), c_set0, bd_s]
  rfl
theorem m_acc0_1 (z : AS) (b : Nat → Int32) (h v : Nat) (hh : h < 256) (hv : v < 256) : mo_accumulate_121 (mM z b false) 1 0 (nI (cyN z)) (nI v) (nI h) = some (nI 0, mM (sR (sR z 8 (fU (gR z 8) h v 0 7)) 1 (rS h v 0 7)) b false) := by
  unfold mo_accumulate_121 mo_accumulate_133 mo_accumulate_151 mo_accumulate_173 mo_accumulate_188 mo_accumulate_206 mo_accumulate_225 mo_accumulate_243 mo_accumulate_261
  rw [show mo_less (mM z b false) (nI h) (nI v) 0 0 = mo_less (mM z b false) (nI h) (nI v) (nI 0) 0 from rfl, m_less8 _ _ _ h v 0 hh hv (by decide), bd_s, if_neg (by decide), if_neg (by decide), if_neg (by decide), if_neg (by decide), if_neg (by decide), if_neg (by decide), if_neg (by decide), if_neg (by decide), if_neg (by decide), if_neg (by decide), show okI 1 9 = true from rfl, gd_t, ns_d, show ((1 : Int32).toNatClampNeg) = 1 from rfl, m_sv1 _ _ _ _ (rS_lt _ _ _)]
  rfl
theorem c_op0_1 (z : AS) (n : Nat) : tc_operateOnByte (mC z) 0 1 (nI n) = (fun h v => some (nI 0, mC (sR (sR z 8 (fU (gR z 8) h v 0 7)) 1 (rS h v 0 7)))) (gR z 1 % 256) (gM z (n % 4096) % 256) := by
  unfold tc_operateOnByte
  rw [c_get1, bd_s, if_neg (by decide), c_byteAt, bd_s, c_cmb0 _ _ _ (Nat.mod_lt _ (by decide)) (Nat.mod_lt _ (by decide)), bd_s, if_neg (by decide), if_neg (by decide)]
  unfold tc_operateOnByte_72
  rw [if_pos (by decide), c_set1, bd_s]
  rfl
theorem m_acc1_0 (z : AS) (b : Nat → Int32) (h v : Nat) (hh : h < 256) (hv : v < 256) : mo_accumulate_121 (mM z b false) 0 1 (nI (cyN z)) (nI v) (nI h) = some (nI 0, mM (sR z 8 (fU (gR z 8) h v 0 7)) b false) := by
  unfold mo_accumulate_121 mo_accumulate_133 mo_accumulate_151 mo_accumulate_173 mo_accumulate_188 mo_accumulate_206 mo_accumulate_225 mo_accumulate_243 mo_accumulate_261
  rw [show mo_less (mM z b false) (nI h) (nI v) 0 0 = mo_less (mM z b false) (nI h) (nI v) (nI 0) 0 from rfl, m_less8 _ _ _ h v 0 hh hv (by decide), bd_s, if_neg (by decide), if_neg (by decide), if_neg (by decide), if_neg (by decide), if_neg (by decide), if_neg (by decide), if_neg (by decide), if_neg (by decide), if_pos (by decide)]
  rfl
theorem c_op1_0 (z : AS) (n : Nat) : tc_operateOnByte (mC z) 1 0 (nI n) = (fun h v => some (nI 0, mC (sR z 8 (fU (gR z 8) h v 0 7)))) (gR z 0 % 256) (gM z (n % 4096) % 256) := by
  unfold tc_operateOnByte
  rw [c_get0, bd_s, if_neg (by decide), c_byteAt, bd_s, c_cmb1 _ _ _ (Nat.mod_lt _ (by decide)) (Nat.mod_lt _ (by decide)), bd_s, if_pos (by decide)]
  unfold tc_operateOnByte_67 tc_operateOnByte_72
  rw [if_neg (by decide)]
  rfl
theorem m_acc1_1 (z : AS) (b : Nat → Int32) (h v : Nat) (hh : h < 256) (hv : v < 256) : mo_accumulate_121 (mM z b false) 1 1 (nI (cyN z)) (nI v) (nI h) = some (nI 0, mM (sR z 8 (fU (gR z 8) h v 0 7)) b false) := by
  unfold mo_accumulate_121 mo_accumulate_133 mo_accumulate_151 mo_accumulate_173 mo_accumulate_188 mo_accumulate_206 mo_accumulate_225 mo_accumulate_243 mo_accumulate_261
  rw [show mo_less (mM z b false) (nI h) (nI v) 0 0 = mo_less (mM z b false) (nI h) (nI v) (nI 0) 0 from rfl, m_less8 _ _ _ h v 0 hh hv (by decide), bd_s, if_neg (by decide), if_neg (by decide), if_neg (by decide), if_neg (by decide), if_neg (by decide), if_neg (by decide), if_neg (by decide), if_neg (by decide), if_pos (by decide)]
  rfl
theorem c_op1_1 (z : AS) (n : Nat) : tc_operateOnByte (mC z) 1 1 (nI n) = (fun h v => some (nI 0, mC (sR z 8 (fU (gR z 8) h v 0 7)))) (gR z 1 % 256) (gM z (n % 4096) % 256) := by
  unfold tc_operateOnByte
  rw [c_get1, bd_s, if_neg (by decide), c_byteAt, bd_s, c_cmb1 _ _ _ (Nat.mod_lt _ (by decide)) (Nat.mod_lt _ (by decide)), bd_s, if_pos (by decide)]
  unfold tc_operateOnByte_67 tc_operateOnByte_72
  rw [if_neg (by decide)]
  rfl
theorem m_acc2_0 (z : AS) (b : Nat → Int32) (h v : Nat) (hh : h < 256) (hv : v < 256) : mo_accumulate_133 (mM z b false) 0 2 (nI (cyN z)) (nI v) (nI h) = some (nI 0, mM (sR (sR z 8 (fU (gR z 8) h v (cyN z) 7)) 0 (rS h v (cyN z) 7)) b false) := by
  unfold mo_accumulate_133 mo_accumulate_151 mo_accumulate_161 mo_accumulate_173 mo_accumulate_188 mo_accumulate_206 mo_accumulate_225 mo_accumulate_243 mo_accumulate_261
  rw [if_pos (by decide), m_less8 _ _ _ h v _ hh hv (cyN_le z), bd_s, if_neg (by decide), if_neg (by decide), if_neg (by decide), if_neg (by decide), if_neg (by decide), if_neg (by decide), if_neg (by decide), if_neg (by decide), if_neg (by decide), show okI 0 9 = true from rfl, gd_t, ns_d, show ((0 : Int32).toNatClampNeg) = 0 from rfl, m_sv0 _ _ _ _ (rS_lt _ _ _)]
  rfl
theorem c_op2_0 (z : AS) (n : Nat) : tc_operateOnByte (mC z) 2 0 (nI n) = (fun h v => some (nI 0, mC (sR (sR z 8 (fU (gR z 8) h v (cyN z) 7)) 0 (rS h v (cyN z) 7)))) (gR z 0 % 256) (gM z (n % 4096) % 256) := by
  unfold tc_operateOnByte
  rw [c_get0, bd_s, if_neg (by decide), c_byteAt, bd_s, c_cmb2 _ _ _ (Nat.mod_lt _ (by decide)) (Nat.mod_lt _ (by decide)), bd_s, if_neg (by decide), if_neg (by decide)]
  unfold tc_operateOnByte_72
  rw [if_pos (by decide), c_set0, bd_s]
  rfl
theorem m_acc2_1 (z : AS) (b : Nat → Int32) (h v : Nat) (hh : h < 256) (hv : v < 256) : mo_accumulate_133 (mM z b false) 1 2 (nI (cyN z)) (nI v) (nI h) = some (nI 0, mM (sR (sR z 8 (fU (gR z 8) h v (cyN z) 7)) 1 (rS h v (cyN z) 7)) b false) := by
  unfold mo_accumulate_133 mo_accumulate_151 mo_accumulate_161 mo_accumulate_173 mo_accumulate_188 mo_accumulate_206 mo_accumulate_225 mo_accumulate_243 mo_accumulate_261
  rw [if_pos (by decide), m_less8 _ _ _ h v _ hh hv (cyN_le z), bd_s, if_neg (by decide), if_neg (by decide), if_neg (by decide), if_neg (by decide), if_neg (by decide), if_neg (by decide), if_neg (by decide), if_neg (by decide), if_neg (by decide), show okI 1 9 = true from rfl, gd_t, ns_d, show ((1 : Int32).toNatClampNeg) = 1 from rfl, m_sv1 _ _ _ _ (rS_lt _ _ _)]
  rfl
theorem c_op2_1 (z : AS) (n : Nat) : tc_operateOnByte (mC z) 2 1 (nI n) = (fun h v => some (nI 0, mC (sR (sR z 8 (fU (gR z 8) h v (cyN z) 7)) 1 (rS h v (cyN z) 7)))) (gR z 1 % 256) (gM z (n % 4096) % 256) := by
  unfold tc_operateOnByte
  rw [c_get1, bd_s, if_neg (by decide), c_byteAt, bd_s, c_cmb2 _ _ _ (Nat.mod_lt _ (by decide)) (Nat.mod_lt _ (by decide)), bd_s, if_neg (by decide), if_neg (by decide)]
  unfold tc_operateOnByte_72
  rw [if_pos (by decide), c_set1, bd_s]
  rfl
theorem m_acc4_0 (z : AS) (b : Nat → Int32) (h v : Nat) (hh : h < 256) (hv : v < 256) : mo_accumulate_133 (mM z b false) 0 4 (nI (cyN z)) (nI v) (nI h) = some (nI 0, mM (sR (sR z 8 (fP (gR z 8) (h &&& v) 128)) 0 (h &&& v)) b false) := by
  unfold mo_accumulate_133 mo_accumulate_151 mo_accumulate_161 mo_accumulate_173 mo_accumulate_188 mo_accumulate_206 mo_accumulate_225 mo_accumulate_243 mo_accumulate_261
  rw [if_neg (by decide), if_pos (by decide), and_nI, m_moved8 _ _ _ _ (Nat.and_lt_two_pow (n := 8) _ hv), bd_s, if_neg (by decide), if_neg (by decide), if_neg (by decide), if_neg (by decide), if_neg (by decide), if_neg (by decide), if_neg (by decide), show okI 0 9 = true from rfl, gd_t, ns_d, show ((0 : Int32).toNatClampNeg) = 0 from rfl, m_sv0 _ _ _ _ (Nat.and_lt_two_pow (n := 8) _ hv)]
  rfl
theorem c_op4_0 (z : AS) (n : Nat) : tc_operateOnByte (mC z) 4 0 (nI n) = (fun h v => some (nI 0, mC (sR (sR z 8 (fP (gR z 8) (h &&& v) 128)) 0 (h &&& v)))) (gR z 0 % 256) (gM z (n % 4096) % 256) := by
  unfold tc_operateOnByte
  rw [c_get0, bd_s, if_neg (by decide), c_byteAt, bd_s, c_cmb4 _ _ _ (Nat.mod_lt _ (by decide)) (Nat.mod_lt _ (by decide)), bd_s, if_neg (by decide), if_neg (by decide)]
  unfold tc_operateOnByte_72
  rw [if_pos (by decide), c_set0, bd_s]
  rfl
theorem m_acc4_1 (z : AS) (b : Nat → Int32) (h v : Nat) (hh : h < 256) (hv : v < 256) : mo_accumulate_133 (mM z b false) 1 4 (nI (cyN z)) (nI v) (nI h) = some (nI 0, mM (sR (sR z 8 (fP (gR z 8) (h &&& v) 128)) 1 (h &&& v)) b false) := by
  unfold mo_accumulate_133 mo_accumulate_151 mo_accumulate_161 mo_accumulate_173 mo_accumulate_188 mo_accumulate_206 mo_accumulate_225 mo_accumulate_243 mo_accumulate_261
  rw [if_neg (by decide), if_pos (by decide), and_nI, m_moved8 _ _ _ _ (Nat.and_lt_two_pow (n := 8) _ hv), bd_s, if_neg (by decide), if_neg (by decide), if_neg (by decide), if_neg (by decide), if_neg (by decide), if_neg (by decide), if_neg (by decide), show okI 1 9 = true from rfl, gd_t, ns_d, show ((1 : Int32).toNatClampNeg) = 1 from rfl, m_sv1 _ _ _ _ (Nat.and_lt_two_pow (n := 8) _ hv)]
  rfl
theorem c_op4_1 (z : AS) (n : Nat) : tc_operateOnByte (mC z) 4 1 (nI n) = (fun h v => some (nI 0, mC (sR (sR z 8 (fP (gR z 8) (h &&& v) 128)) 1 (h &&& v)))) (gR z 1 % 256) (gM z (n % 4096) % 256) := by
  unfold tc_operateOnByte
  rw [c_get1, bd_s, if_neg (by decide), c_byteAt, bd_s, c_cmb4 _ _ _ (Nat.mod_lt _ (by decide)) (Nat.mod_lt _ (by decide)), bd_s, if_neg (by decide), if_neg (by decide)]
  unfold tc_operateOnByte_72
  rw [if_pos (by decide), c_set1, bd_s]
  rfl
theorem m_acc5_0 (z : AS) (b : Nat → Int32) (h v : Nat) (hh : h < 256) (hv : v < 256) : mo_accumulate_133 (mM z b false) 0 5 (nI (cyN z)) (nI v) (nI h) = some (nI 0, mM (sR z 8 (fP (gR z 8) (h &&& v) 128)) b false) := by
  unfold mo_accumulate_133 mo_accumulate_151 mo_accumulate_161 mo_accumulate_173 mo_accumulate_188 mo_accumulate_206 mo_accumulate_225 mo_accumulate_243 mo_accumulate_261
  rw [if_neg (by decide), if_neg (by decide), if_pos (by decide), and_nI, m_moved8 _ _ _ _ (Nat.and_lt_two_pow (n := 8) _ hv), bd_s, if_neg (by decide), if_neg (by decide), if_neg (by decide), if_neg (by decide), if_neg (by decide), if_neg (by decide), if_pos (by decide)]
  rfl
theorem c_op5_0 (z : AS) (n : Nat) : tc_operateOnByte (mC z) 5 0 (nI n) = (fun h v => some (nI 0, mC (sR z 8 (fP (gR z 8) (h &&& v) 128)))) (gR z 0 % 256) (gM z (n % 4096) % 256) := by
  unfold tc_operateOnByte
  rw [c_get0, bd_s, if_neg (by decide), c_byteAt, bd_s, c_cmb5 _ _ _ (Nat.mod_lt _ (by decide)) (Nat.mod_lt _ (by decide)), bd_s, if_neg (by decide), if_pos (by decide)]
  unfold tc_operateOnByte_67 tc_operateOnByte_72
  rw [if_neg (by decide)]
  rfl
theorem m_acc5_1 (z : AS) (b : Nat → Int32) (h v : Nat) (hh : h < 256) (hv : v < 256) : mo_accumulate_133 (mM z b false) 1 5 (nI (cyN z)) (nI v) (nI h) = some (nI 0, mM (sR z 8 (fP (gR z 8) (h &&& v) 128)) b false) := by
  unfold mo_accumulate_133 mo_accumulate_151 mo_accumulate_161 mo_accumulate_173 mo_accumulate_188 mo_accumulate_206 mo_accumulate_225 mo_accumulate_243 mo_accumulate_261
  rw [if_neg (by decide), if_neg (by decide), if_pos (by decide), and_nI, m_moved8 _ _ _ _ (Nat.and_lt_two_pow (n := 8) _ hv), bd_s, if_neg (by decide), if_neg (by decide), if_neg (by decide), if_neg (by decide), if_neg (by decide), if_neg (by decide), if_pos (by decide)]
  rfl
theorem c_op5_1 (z : AS) (n : Nat) : tc_operateOnByte (mC z) 5 1 (nI n) = (fun h v => some (nI 0, mC (sR z 8 (fP (gR z 8) (h &&& v) 128)))) (gR z 1 % 256) (gM z (n % 4096) % 256) := by
  unfold tc_operateOnByte
  rw [c_get1, bd_s, if_neg (by decide), c_byteAt, bd_s, c_cmb5 _ _ _ (Nat.mod_lt _ (by decide)) (Nat.mod_lt _ (by decide)), bd_s, if_neg (by decide), if_pos (by decide)]
  unfold tc_operateOnByte_67 tc_operateOnByte_72
  rw [if_neg (by decide)]
  rfl
theorem m_acc6_0 (z : AS) (b : Nat → Int32) (h v : Nat) (hh : h < 256) (hv : v < 256) : mo_accumulate_133 (mM z b false) 0 6 (nI (cyN z)) (nI v) (nI h) = some (nI 0, mM (sR (sR z 8 (fP (gR z 8) v 128)) 0 (v)) b false) := by
  unfold mo_accumulate_133 mo_accumulate_151 mo_accumulate_161 mo_accumulate_173 mo_accumulate_188 mo_accumulate_206 mo_accumulate_225 mo_accumulate_243 mo_accumulate_261
  rw [if_neg (by decide), if_neg (by decide), if_neg (by decide), if_pos (by decide), m_moved8 _ _ _ _ hv, bd_s, if_neg (by decide), if_neg (by decide), if_neg (by decide), if_neg (by decide), if_neg (by decide), if_neg (by decide), show okI 0 9 = true from rfl, gd_t, ns_d, show ((0 : Int32).toNatClampNeg) = 0 from rfl, m_sv0 _ _ _ _ (hv)]
  rfl
theorem c_op6_0 (z : AS) (n : Nat) : tc_operateOnByte (mC z) 6 0 (nI n) = (fun h v => some (nI 0, mC (sR (sR z 8 (fP (gR z 8) v 128)) 0 (v)))) (gR z 0 % 256) (gM z (n % 4096) % 256) := by
  unfold tc_operateOnByte
  rw [c_get0, bd_s, if_neg (by decide), c_byteAt, bd_s, c_cmb6 _ _ _ (Nat.mod_lt _ (by decide)) (Nat.mod_lt _ (by decide)), bd_s, if_neg (by decide), if_neg (by decide)]
  unfold tc_operateOnByte_72
  rw [if_pos (by decide), c_set0, bd_s]
  rfl
theorem m_acc6_1 (z : AS) (b : Nat → Int32) (h v : Nat) (hh : h < 256) (hv : v < 256) : mo_accumulate_133 (mM z b false) 1 6 (nI (cyN z)) (nI v) (nI h) = some (nI 0, mM (sR (sR z 8 (fP (gR z 8) v 128)) 1 (v)) b false) := by
  unfold mo_accumulate_133 mo_accumulate_151 mo_accumulate_161 mo_accumulate_173 mo_accumulate_188 mo_accumulate_206 mo_accumulate_225 mo_accumulate_243 mo_accumulate_261
  rw [if_neg (by decide), if_neg (by decide), if_neg (by decide), if_pos (by decide), m_moved8 _ _ _ _ hv, bd_s, if_neg (by decide), if_neg (by decide), if_neg (by decide), if_neg (by decide), if_neg (by decide), if_neg (by decide), show okI 1 9 = true from rfl, gd_t, ns_d, show ((1 : Int32).toNatClampNeg) = 1 from rfl, m_sv1 _ _ _ _ (hv)]
  rfl
theorem c_op6_1 (z : AS) (n : Nat) : tc_operateOnByte (mC z) 6 1 (nI n) = (fun h v => some (nI 0, mC (sR (sR z 8 (fP (gR z 8) v 128)) 1 (v)))) (gR z 1 % 256) (gM z (n % 4096) % 256) := by
  unfold tc_operateOnByte
  rw [c_get1, bd_s, if_neg (by decide), c_byteAt, bd_s, c_cmb6 _ _ _ (Nat.mod_lt _ (by decide)) (Nat.mod_lt _ (by decide)), bd_s, if_neg (by decide), if_neg (by decide)]
  unfold tc_operateOnByte_72
  rw [if_pos (by decide), c_set1, bd_s]
  rfl
theorem m_acc8_0 (z : AS) (b : Nat → Int32) (h v : Nat) (hh : h < 256) (hv : v < 256) : mo_accumulate_133 (mM z b false) 0 8 (nI (cyN z)) (nI v) (nI h) = some (nI 0, mM (sR (sR z 8 (fP (gR z 8) (h ^^^ v) 128)) 0 (h ^^^ v)) b false) := by
  unfold mo_accumulate_133 mo_accumulate_151 mo_accumulate_161 mo_accumulate_173 mo_accumulate_188 mo_accumulate_206 mo_accumulate_225 mo_accumulate_243 mo_accumulate_261
  rw [if_neg (by decide), if_neg (by decide), if_neg (by decide), if_neg (by decide), if_pos (by decide), xor_nI, m_moved8 _ _ _ _ (Nat.xor_lt_two_pow (n := 8) hh hv), bd_s, if_neg (by decide), if_neg (by decide), if_neg (by decide), if_neg (by decide), if_neg (by decide), show okI 0 9 = true from rfl, gd_t, ns_d, show ((0 : Int32).toNatClampNeg) = 0 from rfl, m_sv0 _ _ _ _ (Nat.xor_lt_two_pow (n := 8) hh hv)]
  rfl
theorem c_op8_0 (z : AS) (n : Nat) : tc_operateOnByte (mC z) 8 0 (nI n) = (fun h v => some (nI 0, mC (sR (sR z 8 (fP (gR z 8) (h ^^^ v) 128)) 0 (h ^^^ v)))) (gR z 0 % 256) (gM z (n % 4096) % 256) := by
  unfold tc_operateOnByte
  rw [c_get0, bd_s, if_neg (by decide), c_byteAt, bd_s, c_cmb8 _ _ _ (Nat.mod_lt _ (by decide)) (Nat.mod_lt _ (by decide)), bd_s, if_neg (by decide), if_neg (by decide)]
  unfold tc_operateOnByte_72
  rw [if_pos (by decide), c_set0, bd_s]
  rfl
theorem m_acc8_1 (z : AS) (b : Nat → Int32) (h v : Nat) (hh : h < 256) (hv : v < 256) : mo_accumulate_133 (mM z b false) 1 8 (nI (cyN z)) (nI v) (nI h) = some (nI 0, mM (sR (sR z 8 (fP (gR z 8) (h ^^^ v) 128)) 1 (h ^^^ v)) b false) := by
  unfold mo_accumulate_133 mo_accumulate_151 mo_accumulate_161 mo_accumulate_173 mo_accumulate_188 mo_accumulate_206 mo_accumulate_225 mo_accumulate_243 mo_accumulate_261
  rw [if_neg (by decide), if_neg (by decide), if_neg (by decide), if_neg (by decide), if_pos (by decide), xor_nI, m_moved8 _ _ _ _ (Nat.xor_lt_two_pow (n := 8) hh hv), bd_s, if_neg (by decide), if_neg (by decide), if_neg (by decide), if_neg (by decide), if_neg (by decide), show okI 1 9 = true from rfl, gd_t, ns_d, show ((1 : Int32).toNatClampNeg) = 1 from rfl, m_sv1 _ _ _ _ (Nat.xor_lt_two_pow (n := 8) hh hv)]
  rfl
theorem c_op8_1 (z : AS) (n : Nat) : tc_operateOnByte (mC z) 8 1 (nI n) = (fun h v => some (nI 0, mC (sR (sR z 8 (fP (gR z 8) (h ^^^ v) 128)) 1 (h ^^^ v)))) (gR z 1 % 256) (gM z (n % 4096) % 256) := by
  unfold tc_operateOnByte
  rw [c_get1, bd_s, if_neg (by decide), c_byteAt, bd_s, c_cmb8 _ _ _ (Nat.mod_lt _ (by decide)) (Nat.mod_lt _ (by decide)), bd_s, if_neg (by decide), if_neg (by decide)]
  unfold tc_operateOnByte_72
  rw [if_pos (by decide), c_set1, bd_s]
  rfl
theorem m_acc9_0 (z : AS) (b : Nat → Int32) (h v : Nat) (hh : h < 256) (hv : v < 256) : mo_accumulate_133 (mM z b false) 0 9 (nI (cyN z)) (nI v) (nI h) = some (nI 0, mM (sR (sR z 8 (fA (fl (gR z 8) 32 (hC h v (cyN z))) h v (cyN z) 7)) 0 ((h + v + cyN z) % 256)) b false) := by
  unfold mo_accumulate_133 mo_accumulate_151 mo_accumulate_161 mo_accumulate_173 mo_accumulate_188 mo_accumulate_206 mo_accumulate_225 mo_accumulate_243 mo_accumulate_261
  rw [if_neg (by decide), if_neg (by decide), if_neg (by decide), if_neg (by decide), if_neg (by decide), if_pos (by decide), m_plus8 _ _ _ h v _ hh hv (cyN_le z), bd_s, if_neg (by decide), if_neg (by decide), if_neg (by decide), if_neg (by decide), show okI 0 9 = true from rfl, gd_t, ns_d, show ((0 : Int32).toNatClampNeg) = 0 from rfl, m_sv0 _ _ _ _ (Nat.mod_lt _ (by decide))]
  rfl
theorem c_op9_0 (z : AS) (n : Nat) : tc_operateOnByte (mC z) 9 0 (nI n) = (fun h v => some (nI 0, mC (sR (sR z 8 (fA (fl (gR z 8) 32 (hC h v (cyN z))) h v (cyN z) 7)) 0 ((h + v + cyN z) % 256)))) (gR z 0 % 256) (gM z (n % 4096) % 256) := by
  unfold tc_operateOnByte
  rw [c_get0, bd_s, if_neg (by decide), c_byteAt, bd_s, c_cmb9 _ _ _ (Nat.mod_lt _ (by decide)) (Nat.mod_lt _ (by decide)), bd_s, if_neg (by decide), if_neg (by decide)]
  unfold tc_operateOnByte_72
  rw [if_pos (by decide), c_set0, bd_s]
  rfl
theorem m_acc9_1 (z : AS) (b : Nat → Int32) (h v : Nat) (hh : h < 256) (hv : v < 256) : mo_accumulate_133 (mM z b false) 1 9 (nI (cyN z)) (nI v) (nI h) = some (nI 0, mM (sR (sR z 8 (fA (fl (gR z 8) 32 (hC h v (cyN z))) h v (cyN z) 7)) 1 ((h + v + cyN z) % 256)) b false) := by
  unfold mo_accumulate_133 mo_accumulate_151 mo_accumulate_161 mo_accumulate_173 mo_accumulate_188 mo_accumulate_206 mo_accumulate_225 mo_accumulate_243 mo_accumulate_261
  rw [if_neg (by decide), if_neg (by decide), if_neg (by decide), if_neg (by decide), if_neg (by decide), if_pos (by decide), m_plus8 _ _ _ h v _ hh hv (cyN_le z), bd_s, if_neg (by decide), if_neg (by decide), if_neg (by decide), if_neg (by decide), show okI 1 9 = true from rfl, gd_t, ns_d, show ((1 : Int32).toNatClampNeg) = 1 from rfl, m_sv1 _ _ _ _ (Nat.mod_lt _ (by decide))]
  rfl
theorem c_op9_1 (z : AS) (n : Nat) : tc_operateOnByte (mC z) 9 1 (nI n) = (fun h v => some (nI 0, mC (sR (sR z 8 (fA (fl (gR z 8) 32 (hC h v (cyN z))) h v (cyN z) 7)) 1 ((h + v + cyN z) % 256)))) (gR z 1 % 256) (gM z (n % 4096) % 256) := by
  unfold tc_operateOnByte
  rw [c_get1, bd_s, if_neg (by decide), c_byteAt, bd_s, c_cmb9 _ _ _ (Nat.mod_lt _ (by decide)) (Nat.mod_lt _ (by decide)), bd_s, if_neg (by decide), if_neg (by decide)]
  unfold tc_operateOnByte_72
  rw [if_pos (by decide), c_set1, bd_s]
  rfl
theorem m_acc10_0 (z : AS) (b : Nat → Int32) (h v : Nat) (hh : h < 256) (hv : v < 256) : mo_accumulate_133 (mM z b false) 0 10 (nI (cyN z)) (nI v) (nI h) = some (nI 0, mM (sR (sR z 8 (fP (gR z 8) (h ||| v) 128)) 0 (h ||| v)) b false) := by
  unfold mo_accumulate_133 mo_accumulate_151 mo_accumulate_161 mo_accumulate_173 mo_accumulate_188 mo_accumulate_206 mo_accumulate_225 mo_accumulate_243 mo_accumulate_261
  rw [if_neg (by decide), if_neg (by decide), if_neg (by decide), if_neg (by decide), if_neg (by decide), if_neg (by decide), if_pos (by decide), or_nI, m_moved8 _ _ _ _ (Nat.or_lt_two_pow (n := 8) hh hv), bd_s, if_neg (by decide), if_neg (by decide), if_neg (by decide), show okI 0 9 = true from rfl, gd_t, ns_d, show ((0 : Int32).toNatClampNeg) = 0 from rfl, m_sv0 _ _ _ _ (Nat.or_lt_two_pow (n := 8) hh hv)]
  rfl
theorem c_op10_0 (z : AS) (n : Nat) : tc_operateOnByte (mC z) 10 0 (nI n) = (fun h v => some (nI 0, mC (sR (sR z 8 (fP (gR z 8) (h ||| v) 128)) 0 (h ||| v)))) (gR z 0 % 256) (gM z (n % 4096) % 256) := by
  unfold tc_operateOnByte
  rw [c_get0, bd_s, if_neg (by decide), c_byteAt, bd_s, c_cmb10 _ _ _ (Nat.mod_lt _ (by decide)) (Nat.mod_lt _ (by decide)), bd_s, if_neg (by decide), if_neg (by decide)]
  unfold tc_operateOnByte_72
  rw [if_pos (by decide), c_set0, bd_s]
  rfl
theorem m_acc10_1 (z : AS) (b : Nat → Int32) (h v : Nat) (hh : h < 256) (hv : v < 256) : mo_accumulate_133 (mM z b false) 1 10 (nI (cyN z)) (nI v) (nI h) = some (nI 0, mM (sR (sR z 8 (fP (gR z 8) (h ||| v) 128)) 1 (h ||| v)) b false) := by
  unfold mo_accumulate_133 mo_accumulate_151 mo_accumulate_161 mo_accumulate_173 mo_accumulate_188 mo_accumulate_206 mo_accumulate_225 mo_accumulate_243 mo_accumulate_261
  rw [if_neg (by decide), if_neg (by decide), if_neg (by decide), if_neg (by decide), if_neg (by decide), if_neg (by decide), if_pos (by decide), or_nI, m_moved8 _ _ _ _ (Nat.or_lt_two_pow (n := 8) hh hv), bd_s, if_neg (by decide), if_neg (by decide), if_neg (by decide), show okI 1 9 = true from rfl, gd_t, ns_d, show ((1 : Int32).toNatClampNeg) = 1 from rfl, m_sv1 _ _ _ _ (Nat.or_lt_two_pow (n := 8) hh hv)]
  rfl
theorem c_op10_1 (z : AS) (n : Nat) : tc_operateOnByte (mC z) 10 1 (nI n) = (fun h v => some (nI 0, mC (sR (sR z 8 (fP (gR z 8) (h ||| v) 128)) 1 (h ||| v)))) (gR z 1 % 256) (gM z (n % 4096) % 256) := by
  unfold tc_operateOnByte
  rw [c_get1, bd_s, if_neg (by decide), c_byteAt, bd_s, c_cmb10 _ _ _ (Nat.mod_lt _ (by decide)) (Nat.mod_lt _ (by decide)), bd_s, if_neg (by decide), if_neg (by decide)]
  unfold tc_operateOnByte_72
  rw [if_pos (by decide), c_set1, bd_s]
  rfl
theorem m_acc11_0 (z : AS) (b : Nat → Int32) (h v : Nat) (hh : h < 256) (hv : v < 256) : mo_accumulate_133 (mM z b false) 0 11 (nI (cyN z)) (nI v) (nI h) = some (nI 0, mM (sR (sR z 8 (fA (fl (gR z 8) 32 (hC h v 0)) h v 0 7)) 0 ((h + v + 0) % 256)) b false) := by
  unfold mo_accumulate_133 mo_accumulate_151 mo_accumulate_161 mo_accumulate_173 mo_accumulate_188 mo_accumulate_206 mo_accumulate_225 mo_accumulate_243 mo_accumulate_261
  rw [if_neg (by decide), if_neg (by decide), if_neg (by decide), if_neg (by decide), if_neg (by decide), if_neg (by decide), if_neg (by decide), if_pos (by decide), show mo_plus (mM z b false) (nI h) (nI v) 0 0 = mo_plus (mM z b false) (nI h) (nI v) (nI 0) 0 from rfl, m_plus8 _ _ _ h v 0 hh hv (by decide), bd_s, if_neg (by decide), if_neg (by decide), show okI 0 9 = true from rfl, gd_t, ns_d, show ((0 : Int32).toNatClampNeg) = 0 from rfl, m_sv0 _ _ _ _ (Nat.mod_lt _ (by decide))]
  rfl
theorem c_op11_0 (z : AS) (n : Nat) : tc_operateOnByte (mC z) 11 0 (nI n) = (fun h v => some (nI 0, mC (sR (sR z 8 (fA (fl (gR z 8) 32 (hC h v 0)) h v 0 7)) 0 ((h + v + 0) % 256)))) (gR z 0 % 256) (gM z (n % 4096) % 256) := by
  unfold tc_operateOnByte
  rw [c_get0, bd_s, if_neg (by decide), c_byteAt, bd_s, c_cmb11 _ _ _ (Nat.mod_lt _ (by decide)) (Nat.mod_lt _ (by decide)), bd_s, if_neg (by decide), if_neg (by decide)]
  unfold tc_operateOnByte_72
  rw [if_pos (by decide), c_set0, bd_s]
  rfl
theorem m_acc11_1 (z : AS) (b : Nat → Int32) (h v : Nat) (hh : h < 256) (hv : v < 256) : mo_accumulate_133 (mM z b false) 1 11 (nI (cyN z)) (nI v) (nI h) = some (nI 0, mM (sR (sR z 8 (fA (fl (gR z 8) 32 (hC h v 0)) h v 0 7)) 1 ((h + v + 0) % 256)) b false) := by
  unfold mo_accumulate_133 mo_accumulate_151 mo_accumulate_161 mo_accumulate_173 mo_accumulate_188 mo_accumulate_206 mo_accumulate_225 mo_accumulate_243 mo_accumulate_261
  rw [if_neg (by decide), if_neg (by decide), if_neg (by decide), if_neg (by decide), if_neg (by decide), if_neg (by decide), if_neg (by decide), if_pos (by decide), show mo_plus (mM z b false) (nI h) (nI v) 0 0 = mo_plus (mM z b false) (nI h) (nI v) (nI 0) 0 from rfl, m_plus8 _ _ _ h v 0 hh hv (by decide), bd_s, if_neg (by decide), if_neg (by decide), show okI 1 9 = true from rfl, gd_t, ns_d, show ((1 : Int32).toNatClampNeg) = 1 from rfl, m_sv1 _ _ _ _ (Nat.mod_lt _ (by decide))]
  rfl
theorem c_op11_1 (z : AS) (n : Nat) : tc_operateOnByte (mC z) 11 1 (nI n) = (fun h v => some (nI 0, mC (sR (sR z 8 (fA (fl (gR z 8) 32 (hC h v 0)) h v 0 7)) 1 ((h + v + 0) % 256)))) (gR z 1 % 256) (gM z (n % 4096) % 256) := by
  unfold tc_operateOnByte
  rw [c_get1, bd_s, if_neg (by decide), c_byteAt, bd_s, c_cmb11 _ _ _ (Nat.mod_lt _ (by decide)) (Nat.mod_lt _ (by decide)), bd_s, if_neg (by decide), if_neg (by decide)]
  unfold tc_operateOnByte_72
  rw [if_pos (by decide), c_set1, bd_s]
  rfl
