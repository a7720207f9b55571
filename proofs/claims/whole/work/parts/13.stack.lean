theorem hl_lt (a b : Nat) : hl a b < 65536 := by unfold hl; omega
theorem sR_sM (a : AS) (i v k x : Nat) : sR (sM a i v) k x = sM (sR a k x) i v := rfl
theorem sM_comm (a : AS) {i j : Nat} (v x : Nat) (h : i ≠ j) : sM (sM a i v) j x = sM (sM a j x) i v := by
  refine as_ext (fun k => ?_) (fun _ => rfl) (fun _ => rfl) rfl rfl rfl
  rw [gM_sM, gM_sM, gM_sM, gM_sM]
  by_cases h1 : k = i
  · by_cases h2 : k = j
    · omega
    · rw [if_neg h2, if_pos h1, if_pos h1]
  · by_cases h2 : k = j
    · rw [if_pos h2, if_neg h1, if_pos h2]
    · rw [if_neg h2, if_neg h1, if_neg h1, if_neg h2]
def stE (a : AS) (k : Nat) : Nat := gR a k % 65536
def pB (a : AS) (k v : Nat) : AS := sM (sR a k (stE a k + 65535)) ((stE a k + 65535) % 4096) v
def pW (a : AS) (k v : Nat) : AS := sM (sM (sR a k (stE a k + 65534)) ((stE a k + 65534) % 4096) (v / 256)) ((stE a k + 65535) % 4096) v
def uB (a : AS) (k : Nat) : Nat := gM a (stE a k % 4096) % 256
def uS (a : AS) (k : Nat) : AS := sR a k (stE a k + 1)
def uW (a : AS) (k : Nat) : Nat := hl (gM a (stE a k % 4096)) (gM a ((stE a k + 1) % 4096))
def uT (a : AS) (k : Nat) : AS := sR a k (stE a k + 2)
theorem uB_lt (a : AS) (k : Nat) : uB a k < 256 := Nat.mod_lt _ (by decide)
theorem uW_lt (a : AS) (k : Nat) : uW a k < 65536 := hl_lt _ _
theorem m_sv0 (a : AS) (b : Nat → Int32) (u : Bool) (v : Nat) (hv : v < 256) : my_reg (mM a b u) (upd (mx_reg (mM a b u)) 0 (nI v)) = mM (sR a 0 v) b u := by
  have h := m_set0 a b u v
  rw [Nat.mod_eq_of_lt hv] at h
  exact h
theorem m_sv1 (a : AS) (b : Nat → Int32) (u : Bool) (v : Nat) (hv : v < 256) : my_reg (mM a b u) (upd (mx_reg (mM a b u)) 1 (nI v)) = mM (sR a 1 v) b u := by
  have h := m_set1 a b u v
  rw [Nat.mod_eq_of_lt hv] at h
  exact h
theorem m_sv2 (a : AS) (b : Nat → Int32) (u : Bool) (v : Nat) (hv : v < 65536) : my_reg (mM a b u) (upd (mx_reg (mM a b u)) 2 (nI v)) = mM (sR a 2 v) b u := by
  have h := m_set2 a b u v
  rw [Nat.mod_eq_of_lt hv] at h
  exact h
theorem m_sv3 (a : AS) (b : Nat → Int32) (u : Bool) (v : Nat) (hv : v < 65536) : my_reg (mM a b u) (upd (mx_reg (mM a b u)) 3 (nI v)) = mM (sR a 3 v) b u := by
  have h := m_set3 a b u v
  rw [Nat.mod_eq_of_lt hv] at h
  exact h
theorem m_sv4 (a : AS) (b : Nat → Int32) (u : Bool) (v : Nat) (hv : v < 65536) : my_reg (mM a b u) (upd (mx_reg (mM a b u)) 4 (nI v)) = mM (sR a 4 v) b u := by
  have h := m_set4 a b u v
  rw [Nat.mod_eq_of_lt hv] at h
  exact h
theorem m_sv5 (a : AS) (b : Nat → Int32) (u : Bool) (v : Nat) (hv : v < 65536) : my_reg (mM a b u) (upd (mx_reg (mM a b u)) 5 (nI v)) = mM (sR a 5 v) b u := by
  have h := m_set5 a b u v
  rw [Nat.mod_eq_of_lt hv] at h
  exact h
theorem m_sv6 (a : AS) (b : Nat → Int32) (u : Bool) (v : Nat) (hv : v < 65536) : my_reg (mM a b u) (upd (mx_reg (mM a b u)) 6 (nI v)) = mM (sR a 6 v) b u := by
  have h := m_set6 a b u v
  rw [Nat.mod_eq_of_lt hv] at h
  exact h
theorem m_sv7 (a : AS) (b : Nat → Int32) (u : Bool) (v : Nat) (hv : v < 256) : my_reg (mM a b u) (upd (mx_reg (mM a b u)) 7 (nI v)) = mM (sR a 7 v) b u := by
  have h := m_set7 a b u v
  rw [Nat.mod_eq_of_lt hv] at h
  exact h
theorem m_sv8 (a : AS) (b : Nat → Int32) (u : Bool) (v : Nat) (hv : v < 256) : my_reg (mM a b u) (upd (mx_reg (mM a b u)) 8 (nI v)) = mM (sR a 8 v) b u := by
  have h := m_set8 a b u v
  rw [Nat.mod_eq_of_lt hv] at h
  exact h
theorem gs4 (a : AS) (v : Nat) : gR (sR a 4 v) 4 = v % 65536 := rfl
theorem c_pushByte4 (a : AS) (v : Nat) : tc_pushByte (mC a) 4 (nI v) = some (nI 0, mC (pB a 4 v)) := by
  unfold tc_pushByte
  rw [c_get4, bd_s, show (1 : Int32) = nI 1 from rfl, sub_nI, c_set4, bd_s, c_get4, bd_s, c_setByte, bd_s, gs4, sR_cong (k := 4) (w := stE a 4 + 65535)]
  · rw [show (gR a 4 % 65536 + (4294967296 - 1 % 4294967296)) % 65536 % 65536 % 4096 = (stE a 4 + 65535) % 4096 by unfold stE; omega]
    rfl
  · show _ % 65536 = _ % 65536
    unfold stE
    omega
theorem c_pushWord4 (a : AS) (v : Nat) : tc_pushWord (mC a) 4 (nI v) = some (nI 0, mC (pW a 4 v)) := by
  unfold tc_pushWord
  rw [c_get4, bd_s, show (2 : Int32) = nI 2 from rfl, sub_nI, c_set4, bd_s, c_get4, bd_s, c_setWord, bd_s, gs4, sR_cong (k := 4) (w := stE a 4 + 65534)]
  · rw [show (gR a 4 % 65536 + (4294967296 - 2 % 4294967296)) % 65536 % 65536 % 4096 = (stE a 4 + 65534) % 4096 by unfold stE; omega, show ((gR a 4 % 65536 + (4294967296 - 2 % 4294967296)) % 65536 % 65536 + 1) % 4096 = (stE a 4 + 65535) % 4096 by unfold stE; omega]
    rfl
  · show _ % 65536 = _ % 65536
    unfold stE
    omega
theorem c_pullByte4 (a : AS) : tc_pullByte (mC a) 4 = some (nI (uB a 4), mC (uS a 4)) := by
  unfold tc_pullByte
  rw [c_get4, bd_s, show (1 : Int32) = nI 1 from rfl, nI_add, c_set4, bd_s, c_byteAt, bd_s]
  rfl
theorem c_pullWord4 (a : AS) : tc_pullWord (mC a) 4 = some (nI (uW a 4), mC (uT a 4)) := by
  unfold tc_pullWord
  rw [c_get4, bd_s, show (2 : Int32) = nI 2 from rfl, nI_add, c_set4, bd_s, c_wordAt, bd_s]
  rfl
theorem m_push4 (a : AS) (b : Nat → Int32) (u : Bool) (v : Nat) : mo_push (mM a b u) 4 (nI v) = some (nI 0, mM (pB a 4 v) b u) := by
  have h : mo_push (mM a b u) 4 (nI v) = bd (mo_write (my_reg (mM a b u) (upd (mx_reg (mM a b u)) 4 ((nI (gR a 4 % 65536) - 1) &&& 65535))) (mx_reg (my_reg (mM a b u) (upd (mx_reg (mM a b u)) 4 ((nI (gR a 4 % 65536) - 1) &&& 65535))) 4) (nI v)) fun _ s2 => some (0, s2) := rfl
  rw [h, show (1 : Int32) = nI 1 from rfl, sub_nI, and65535]
  unfold w16
  rw [m_set4, m_reg4, m_write, bd_s, gs4, sR_cong (k := 4) (w := stE a 4 + 65535)]
  · rw [show (gR a 4 % 65536 + (4294967296 - 1 % 4294967296)) % 65536 % 65536 % 4096 = (stE a 4 + 65535) % 4096 by unfold stE; omega]
    rfl
  · show _ % 65536 = _ % 65536
    unfold stE
    omega
theorem pB_pB4 (a : AS) (v : Nat) : pB (pB a 4 (v % 256)) 4 (v / 256) = pW a 4 v := by
  have e1 : stE (pB a 4 (v % 256)) 4 = (stE a 4 + 65535) % 65536 := by
    show (stE a 4 + 65535) % 65536 % 65536 = _
    omega
  unfold pB
  rw [show stE (sM (sR a 4 (stE a 4 + 65535)) ((stE a 4 + 65535) % 4096) (v % 256)) 4 = (stE a 4 + 65535) % 65536 from e1, sR_sM, sR_sR, sM_comm _ _ _ (by have := Nat.mod_lt (gR a 4) (show 65536 > 0 by decide); unfold stE; omega)]
  unfold pW
  rw [show ((stE a 4 + 65535) % 65536 + 65535) % 4096 = (stE a 4 + 65534) % 4096 by omega, sR_cong (k := 4) (v := (stE a 4 + 65535) % 65536 + 65535) (w := stE a 4 + 65534) (by show _ % 65536 = _ % 65536; omega)]
  exact sM_cong (Nat.mod_mod _ _)
theorem m_pushWord4 (a : AS) (b : Nat → Int32) (u : Bool) (v : Nat) (hv : v < 65536) : mo_pushWord (mM a b u) 4 (nI v) = some (nI 0, mM (pW a 4 v) b u) := by
  unfold mo_pushWord
  rw [and255, show ((8 : Int32) &&& 31) = (nI 8 &&& 31) from rfl, shr_nI (by omega) (by decide)]
  unfold w8
  rw [m_push4, bd_s, m_push4, bd_s, show 2 ^ 8 = 256 from rfl, pB_pB4]
  rfl
theorem m_pull4 (a : AS) (b : Nat → Int32) (u : Bool) : mo_pull (mM a b u) 4 = some (nI (uB a 4), mM (uS a 4) b u) := by
  have h : mo_pull (mM a b u) 4 = bd (mo_read (mM a b u) (nI (gR a 4 % 65536))) fun v2 s1 => some (v2, my_reg s1 (upd (mx_reg s1) 4 ((mx_reg s1 4 + 1) &&& 65535))) := rfl
  rw [h, m_read, bd_s, m_reg4, show (1 : Int32) = nI 1 from rfl, nI_add, and65535]
  unfold w16
  rw [m_set4]
  rfl
theorem m_pullWord4 (a : AS) (b : Nat → Int32) (u : Bool) : mo_pullWord (mM a b u) 4 = some (nI (uW a 4), mM (uT a 4) b u) := by
  unfold mo_pullWord
  rw [m_pull4, bd_s, m_pull4, bd_s, show (256 : Int32) = nI 256 from rfl, pk_mul, nI_add]
  have e1 : stE (uS a 4) 4 = (stE a 4 + 1) % 65536 := by
    show (stE a 4 + 1) % 65536 % 65536 = _
    omega
  have e2 : uS (uS a 4) 4 = uT a 4 := by
    show sR (sR a 4 (stE a 4 + 1)) 4 (stE (uS a 4) 4 + 1) = sR a 4 (stE a 4 + 2)
    rw [sR_sR, e1]
    apply sR_cong
    show ((stE a 4 + 1) % 65536 + 1) % 65536 = (stE a 4 + 2) % 65536
    omega
  have e3 : uB (uS a 4) 4 = gM a ((stE a 4 + 1) % 4096) % 256 := by
    show gM a (stE (uS a 4) 4 % 4096) % 256 = _
    rw [e1, show (stE a 4 + 1) % 65536 % 4096 = (stE a 4 + 1) % 4096 by omega]
  rw [e2, e3]
  rfl
theorem gs5 (a : AS) (v : Nat) : gR (sR a 5 v) 5 = v % 65536 := rfl
theorem c_pushByte5 (a : AS) (v : Nat) : tc_pushByte (mC a) 5 (nI v) = some (nI 0, mC (pB a 5 v)) := by
  unfold tc_pushByte
  rw [c_get5, bd_s, show (1 : Int32) = nI 1 from rfl, sub_nI, c_set5, bd_s, c_get5, bd_s, c_setByte, bd_s, gs5, sR_cong (k := 5) (w := stE a 5 + 65535)]
  · rw [show (gR a 5 % 65536 + (4294967296 - 1 % 4294967296)) % 65536 % 65536 % 4096 = (stE a 5 + 65535) % 4096 by unfold stE; omega]
    rfl
  · show _ % 65536 = _ % 65536
    unfold stE
    omega
theorem c_pushWord5 (a : AS) (v : Nat) : tc_pushWord (mC a) 5 (nI v) = some (nI 0, mC (pW a 5 v)) := by
  unfold tc_pushWord
  rw [c_get5, bd_s, show (2 : Int32) = nI 2 from rfl, sub_nI, c_set5, bd_s, c_get5, bd_s, c_setWord, bd_s, gs5, sR_cong (k := 5) (w := stE a 5 + 65534)]
  · rw [show (gR a 5 % 65536 + (4294967296 - 2 % 4294967296)) % 65536 % 65536 % 4096 = (stE a 5 + 65534) % 4096 by unfold stE; omega, show ((gR a 5 % 65536 + (4294967296 - 2 % 4294967296)) % 65536 % 65536 + 1) % 4096 = (stE a 5 + 65535) % 4096 by unfold stE; omega]
    rfl
  · show _ % 65536 = _ % 65536
    unfold stE
    omega
theorem c_pullByte5 (a : AS) : tc_pullByte (mC a) 5 = some (nI (uB a 5), mC (uS a 5)) := by
  unfold tc_pullByte
  rw [c_get5, bd_s, show (1 : Int32) = nI 1 from rfl, nI_add, c_set5, bd_s, c_byteAt, bd_s]
  rfl
theorem c_pullWord5 (a : AS) : tc_pullWord (mC a) 5 = some (nI (uW a 5), mC (uT a 5)) := by
  unfold tc_pullWord
  rw [c_get5, bd_s, show (2 : Int32) = nI 2 from rfl, nI_add, c_set5, bd_s, c_wordAt, bd_s]
  rfl
theorem m_push5 (a : AS) (b : Nat → Int32) (u : Bool) (v : Nat) : mo_push (mM a b u) 5 (nI v) = some (nI 0, mM (pB a 5 v) b u) := by
  have h : mo_push (mM a b u) 5 (nI v) = bd (mo_write (my_reg (mM a b u) (upd (mx_reg (mM a b u)) 5 ((nI (gR a 5 % 65536) - 1) &&& 65535))) (mx_reg (my_reg (mM a b u) (upd (mx_reg (mM a b u)) 5 ((nI (gR a 5 % 65536) - 1) &&& 65535))) 5) (nI v)) fun _ s2 => some (0, s2) := rfl
  rw [h, show (1 : Int32) = nI 1 from rfl, sub_nI, and65535]
  unfold w16
  rw [m_set5, m_reg5, m_write, bd_s, gs5, sR_cong (k := 5) (w := stE a 5 + 65535)]
  · rw [show (gR a 5 % 65536 + (4294967296 - 1 % 4294967296)) % 65536 % 65536 % 4096 = (stE a 5 + 65535) % 4096 by unfold stE; omega]
    rfl
  · show _ % 65536 = _ % 65536
    unfold stE
    omega
theorem pB_pB5 (a : AS) (v : Nat) : pB (pB a 5 (v % 256)) 5 (v / 256) = pW a 5 v := by
  have e1 : stE (pB a 5 (v % 256)) 5 = (stE a 5 + 65535) % 65536 := by
    show (stE a 5 + 65535) % 65536 % 65536 = _
    omega
  unfold pB
  rw [show stE (sM (sR a 5 (stE a 5 + 65535)) ((stE a 5 + 65535) % 4096) (v % 256)) 5 = (stE a 5 + 65535) % 65536 from e1, sR_sM, sR_sR, sM_comm _ _ _ (by have := Nat.mod_lt (gR a 5) (show 65536 > 0 by decide); unfold stE; omega)]
  unfold pW
  rw [show ((stE a 5 + 65535) % 65536 + 65535) % 4096 = (stE a 5 + 65534) % 4096 by omega, sR_cong (k := 5) (v := (stE a 5 + 65535) % 65536 + 65535) (w := stE a 5 + 65534) (by show _ % 65536 = _ % 65536; omega)]
  exact sM_cong (Nat.mod_mod _ _)
theorem m_pushWord5 (a : AS) (b : Nat → Int32) (u : Bool) (v : Nat) (hv : v < 65536) : mo_pushWord (mM a b u) 5 (nI v) = some (nI 0, mM (pW a 5 v) b u) := by
  unfold mo_pushWord
  rw [and255, show ((8 : Int32) &&& 31) = (nI 8 &&& 31) from rfl, shr_nI (by omega) (by decide)]
  unfold w8
  rw [m_push5, bd_s, m_push5, bd_s, show 2 ^ 8 = 256 from rfl, pB_pB5]
  rfl
theorem m_pull5 (a : AS) (b : Nat → Int32) (u : Bool) : mo_pull (mM a b u) 5 = some (nI (uB a 5), mM (uS a 5) b u) := by
  have h : mo_pull (mM a b u) 5 = bd (mo_read (mM a b u) (nI (gR a 5 % 65536))) fun v2 s1 => some (v2, my_reg s1 (upd (mx_reg s1) 5 ((mx_reg s1 5 + 1) &&& 65535))) := rfl
  rw [h, m_read, bd_s, m_reg5, show (1 : Int32) = nI 1 from rfl, nI_add, and65535]
  unfold w16
  rw [m_set5]
  rfl
theorem m_pullWord5 (a : AS) (b : Nat → Int32) (u : Bool) : mo_pullWord (mM a b u) 5 = some (nI (uW a 5), mM (uT a 5) b u) := by
  unfold mo_pullWord
  rw [m_pull5, bd_s, m_pull5, bd_s, show (256 : Int32) = nI 256 from rfl, pk_mul, nI_add]
  have e1 : stE (uS a 5) 5 = (stE a 5 + 1) % 65536 := by
    show (stE a 5 + 1) % 65536 % 65536 = _
    omega
  have e2 : uS (uS a 5) 5 = uT a 5 := by
    show sR (sR a 5 (stE a 5 + 1)) 5 (stE (uS a 5) 5 + 1) = sR a 5 (stE a 5 + 2)
    rw [sR_sR, e1]
    apply sR_cong
    show ((stE a 5 + 1) % 65536 + 1) % 65536 = (stE a 5 + 2) % 65536
    omega
  have e3 : uB (uS a 5) 5 = gM a ((stE a 5 + 1) % 4096) % 256 := by
    show gM a (stE (uS a 5) 5 % 4096) % 256 = _
    rw [e1, show (stE a 5 + 1) % 65536 % 4096 = (stE a 5 + 1) % 4096 by omega]
  rw [e2, e3]
  rfl
abbrev PT : Nat → AS → Prop := fun _ _ => True
theorem pa7_4 (a : AS) (b : Nat → Int32) (u : Bool) (n : Nat) : Rl PT b u (tc_pushRegisters_144 (mC a) 4 (nI n)) (mo_pushAll_136 (mM a b u) 4 (nI n)) := by
  unfold tc_pushRegisters_144 mo_pushAll_136
  refine rl_if Iff.rfl (fun _ => ?_) (fun _ => ?_)
  · exact ⟨0, _, rfl, rfl, trivial⟩
  · skip
    rw [c_get8, bd_s, c_pushByte4, bd_s, m_reg8, m_push4, bd_s]
    exact ⟨0, _, rfl, rfl, trivial⟩
theorem pa6_4 (a : AS) (b : Nat → Int32) (u : Bool) (n : Nat) : Rl PT b u (tc_pushRegisters_125 (mC a) 4 (nI n)) (mo_pushAll_119 (mM a b u) 4 (nI n)) := by
  unfold tc_pushRegisters_125 mo_pushAll_119
  refine rl_if Iff.rfl (fun _ => ?_) (fun _ => ?_)
  · exact pa7_4 _ b u n
  · skip
    rw [c_get0, bd_s, c_pushByte4, bd_s, m_reg0, m_push4, bd_s]
    exact pa7_4 _ b u n
theorem pa5_4 (a : AS) (b : Nat → Int32) (u : Bool) (n : Nat) : Rl PT b u (tc_pushRegisters_106 (mC a) 4 (nI n)) (mo_pushAll_102 (mM a b u) 4 (nI n)) := by
  unfold tc_pushRegisters_106 mo_pushAll_102
  refine rl_if Iff.rfl (fun _ => ?_) (fun _ => ?_)
  · exact pa6_4 _ b u n
  · skip
    rw [c_get1, bd_s, c_pushByte4, bd_s, m_reg1, m_push4, bd_s]
    exact pa6_4 _ b u n
theorem pa4_4 (a : AS) (b : Nat → Int32) (u : Bool) (n : Nat) : Rl PT b u (tc_pushRegisters_85 (mC a) 4 (nI n)) (mo_pushAll_83 (mM a b u) 4 (nI n)) := by
  unfold tc_pushRegisters_85 mo_pushAll_83
  refine rl_if Iff.rfl (fun _ => ?_) (fun _ => ?_)
  · exact pa5_4 _ b u n
  · skip
    rw [c_get7, bd_s, c_pushByte4, bd_s, m_reg7, m_push4, bd_s]
    exact pa5_4 _ b u n
theorem pa3_4 (a : AS) (b : Nat → Int32) (u : Bool) (n : Nat) : Rl PT b u (tc_pushRegisters_65 (mC a) 4 (nI n)) (mo_pushAll_65 (mM a b u) 4 (nI n)) := by
  unfold tc_pushRegisters_65 mo_pushAll_65
  refine rl_if Iff.rfl (fun _ => ?_) (fun _ => ?_)
  · exact pa4_4 _ b u n
  · skip
    rw [c_get2, bd_s, c_pushWord4, bd_s, m_reg2, m_pushWord4 _ _ _ _ (Nat.mod_lt _ (by decide)), bd_s]
    exact pa4_4 _ b u n
theorem pa2_4 (a : AS) (b : Nat → Int32) (u : Bool) (n : Nat) : Rl PT b u (tc_pushRegisters_45 (mC a) 4 (nI n)) (mo_pushAll_47 (mM a b u) 4 (nI n)) := by
  unfold tc_pushRegisters_45 mo_pushAll_47
  refine rl_if Iff.rfl (fun _ => ?_) (fun _ => ?_)
  · exact pa3_4 _ b u n
  · skip
    rw [c_get3, bd_s, c_pushWord4, bd_s, m_reg3, m_pushWord4 _ _ _ _ (Nat.mod_lt _ (by decide)), bd_s]
    exact pa3_4 _ b u n
theorem pa1_4 (a : AS) (b : Nat → Int32) (u : Bool) (n : Nat) : Rl PT b u (tc_pushRegisters_22 (mC a) 4 (nI n)) (mo_pushAll_20 (mM a b u) 4 (nI n)) := by
  unfold tc_pushRegisters_22 mo_pushAll_20
  refine rl_if Iff.rfl (fun _ => ?_) (fun _ => ?_)
  · exact pa2_4 _ b u n
  · skip
    have h1 : tc_otherStack (mC a) 4 = some (5, mC a) := rfl
    have h2 : ∀ (t2 : Int32), mo_pushAll_43 (mM a b u) 4 (nI n) 5 t2 = bd (mo_pushWord (mM a b u) t2 (nI (gR a 5 % 65536))) fun _ s1 => mo_pushAll_47 s1 4 (nI n) := fun _ => rfl
    rw [h1, bd_s, c_get5, bd_s, c_pushWord4, bd_s]
    rw [if_neg (by decide), h2, m_pushWord4 _ _ _ _ (Nat.mod_lt _ (by decide)), bd_s]
    exact pa2_4 _ b u n
theorem pa0_4 (a : AS) (b : Nat → Int32) (u : Bool) (n : Nat) : Rl PT b u (tc_pushRegisters (mC a) 4 (nI n)) (mo_pushAll (mM a b u) 4 (nI n)) := by
  unfold tc_pushRegisters mo_pushAll
  refine rl_if Iff.rfl (fun _ => ?_) (fun _ => ?_)
  · exact pa1_4 _ b u n
  · skip
    rw [c_get6, bd_s, c_pushWord4, bd_s, m_reg6, m_pushWord4 _ _ _ _ (Nat.mod_lt _ (by decide)), bd_s]
    exact pa1_4 _ b u n
theorem pa7_5 (a : AS) (b : Nat → Int32) (u : Bool) (n : Nat) : Rl PT b u (tc_pushRegisters_144 (mC a) 5 (nI n)) (mo_pushAll_136 (mM a b u) 5 (nI n)) := by
  unfold tc_pushRegisters_144 mo_pushAll_136
  refine rl_if Iff.rfl (fun _ => ?_) (fun _ => ?_)
  · exact ⟨0, _, rfl, rfl, trivial⟩
  · skip
    rw [c_get8, bd_s, c_pushByte5, bd_s, m_reg8, m_push5, bd_s]
    exact ⟨0, _, rfl, rfl, trivial⟩
theorem pa6_5 (a : AS) (b : Nat → Int32) (u : Bool) (n : Nat) : Rl PT b u (tc_pushRegisters_125 (mC a) 5 (nI n)) (mo_pushAll_119 (mM a b u) 5 (nI n)) := by
  unfold tc_pushRegisters_125 mo_pushAll_119
  refine rl_if Iff.rfl (fun _ => ?_) (fun _ => ?_)
  · exact pa7_5 _ b u n
  · skip
    rw [c_get0, bd_s, c_pushByte5, bd_s, m_reg0, m_push5, bd_s]
    exact pa7_5 _ b u n
theorem pa5_5 (a : AS) (b : Nat → Int32) (u : Bool) (n : Nat) : Rl PT b u (tc_pushRegisters_106 (mC a) 5 (nI n)) (mo_pushAll_102 (mM a b u) 5 (nI n)) := by
  unfold tc_pushRegisters_106 mo_pushAll_102
  refine rl_if Iff.rfl (fun _ => ?_) (fun _ => ?_)
  · exact pa6_5 _ b u n
  · skip
    rw [c_get1, bd_s, c_pushByte5, bd_s, m_reg1, m_push5, bd_s]
    exact pa6_5 _ b u n
theorem pa4_5 (a : AS) (b : Nat → Int32) (u : Bool) (n : Nat) : Rl PT b u (tc_pushRegisters_85 (mC a) 5 (nI n)) (mo_pushAll_83 (mM a b u) 5 (nI n)) := by
  unfold tc_pushRegisters_85 mo_pushAll_83
  refine rl_if Iff.rfl (fun _ => ?_) (fun _ => ?_)
  · exact pa5_5 _ b u n
  · skip
    rw [c_get7, bd_s, c_pushByte5, bd_s, m_reg7, m_push5, bd_s]
    exact pa5_5 _ b u n
theorem pa3_5 (a : AS) (b : Nat → Int32) (u : Bool) (n : Nat) : Rl PT b u (tc_pushRegisters_65 (mC a) 5 (nI n)) (mo_pushAll_65 (mM a b u) 5 (nI n)) := by
  unfold tc_pushRegisters_65 mo_pushAll_65
  refine rl_if Iff.rfl (fun _ => ?_) (fun _ => ?_)
  · exact pa4_5 _ b u n
  · skip
    rw [c_get2, bd_s, c_pushWord5, bd_s, m_reg2, m_pushWord5 _ _ _ _ (Nat.mod_lt _ (by decide)), bd_s]
    exact pa4_5 _ b u n
theorem pa2_5 (a : AS) (b : Nat → Int32) (u : Bool) (n : Nat) : Rl PT b u (tc_pushRegisters_45 (mC a) 5 (nI n)) (mo_pushAll_47 (mM a b u) 5 (nI n)) := by
  unfold tc_pushRegisters_45 mo_pushAll_47
  refine rl_if Iff.rfl (fun _ => ?_) (fun _ => ?_)
  · exact pa3_5 _ b u n
  · skip
    rw [c_get3, bd_s, c_pushWord5, bd_s, m_reg3, m_pushWord5 _ _ _ _ (Nat.mod_lt _ (by decide)), bd_s]
    exact pa3_5 _ b u n
theorem pa1_5 (a : AS) (b : Nat → Int32) (u : Bool) (n : Nat) : Rl PT b u (tc_pushRegisters_22 (mC a) 5 (nI n)) (mo_pushAll_20 (mM a b u) 5 (nI n)) := by
  unfold tc_pushRegisters_22 mo_pushAll_20
  refine rl_if Iff.rfl (fun _ => ?_) (fun _ => ?_)
  · exact pa2_5 _ b u n
  · skip
    have h1 : tc_otherStack (mC a) 5 = some (4, mC a) := rfl
    have h2 : ∀ (t2 : Int32), mo_pushAll_43 (mM a b u) 5 (nI n) 4 t2 = bd (mo_pushWord (mM a b u) t2 (nI (gR a 4 % 65536))) fun _ s1 => mo_pushAll_47 s1 5 (nI n) := fun _ => rfl
    rw [h1, bd_s, c_get4, bd_s, c_pushWord5, bd_s]
    rw [if_pos rfl, h2, m_pushWord5 _ _ _ _ (Nat.mod_lt _ (by decide)), bd_s]
    exact pa2_5 _ b u n
theorem pa0_5 (a : AS) (b : Nat → Int32) (u : Bool) (n : Nat) : Rl PT b u (tc_pushRegisters (mC a) 5 (nI n)) (mo_pushAll (mM a b u) 5 (nI n)) := by
  unfold tc_pushRegisters mo_pushAll
  refine rl_if Iff.rfl (fun _ => ?_) (fun _ => ?_)
  · exact pa1_5 _ b u n
  · skip
    rw [c_get6, bd_s, c_pushWord5, bd_s, m_reg6, m_pushWord5 _ _ _ _ (Nat.mod_lt _ (by decide)), bd_s]
    exact pa1_5 _ b u n
theorem sA_same {z : AS} {v : Bool} (h : gA z = v) : sA z v = z := by
  subst h
  rfl
theorem c_become0 (a : AS) (v : Nat) : tc_become (mC a) 0 (nI v) = some (nI 0, mC (sR a 0 v)) := by
  have h : ∀ (s : CS) (x : Int32), tc_become s 0 x = bd (re_set s 0 x) fun _ s1 => some (0, s1) := fun _ _ => rfl
  rw [h, c_set0, bd_s]
  rfl
theorem c_become1 (a : AS) (v : Nat) : tc_become (mC a) 1 (nI v) = some (nI 0, mC (sR a 1 v)) := by
  have h : ∀ (s : CS) (x : Int32), tc_become s 1 x = bd (re_set s 1 x) fun _ s1 => some (0, s1) := fun _ _ => rfl
  rw [h, c_set1, bd_s]
  rfl
theorem c_become2 (a : AS) (v : Nat) : tc_become (mC a) 2 (nI v) = some (nI 0, mC (sR a 2 v)) := by
  have h : ∀ (s : CS) (x : Int32), tc_become s 2 x = bd (re_set s 2 x) fun _ s1 => some (0, s1) := fun _ _ => rfl
  rw [h, c_set2, bd_s]
  rfl
theorem c_become3 (a : AS) (v : Nat) : tc_become (mC a) 3 (nI v) = some (nI 0, mC (sR a 3 v)) := by
  have h : ∀ (s : CS) (x : Int32), tc_become s 3 x = bd (re_set s 3 x) fun _ s1 => some (0, s1) := fun _ _ => rfl
  rw [h, c_set3, bd_s]
  rfl
theorem c_become4 (a : AS) (v : Nat) : tc_become (mC a) 4 (nI v) = some (nI 0, mC (sR a 4 v)) := by
  have h : ∀ (s : CS) (x : Int32), tc_become s 4 x = bd (re_set s 4 x) fun _ s1 => some (0, s1) := fun _ _ => rfl
  rw [h, c_set4, bd_s]
  rfl
theorem c_become5 (a : AS) (v : Nat) : tc_become (mC a) 5 (nI v) = some (nI 0, mC (sA (sR a 5 v) true)) := by
  have h : ∀ (s : CS) (x : Int32), tc_become s 5 x = bd (re_set s 5 x) fun _ s1 => some (0, cy_arm s1 1) := fun _ _ => rfl
  rw [h, c_set5, bd_s]
  rfl
theorem c_become6 (a : AS) (v : Nat) : tc_become (mC a) 6 (nI v) = some (nI 0, mC (sR a 6 v)) := by
  have h : ∀ (s : CS) (x : Int32), tc_become s 6 x = bd (re_set s 6 x) fun _ s1 => some (0, s1) := fun _ _ => rfl
  rw [h, c_set6, bd_s]
  rfl
theorem c_become7 (a : AS) (v : Nat) : tc_become (mC a) 7 (nI v) = some (nI 0, mC (sR a 7 v)) := by
  have h : ∀ (s : CS) (x : Int32), tc_become s 7 x = bd (re_set s 7 x) fun _ s1 => some (0, s1) := fun _ _ => rfl
  rw [h, c_set7, bd_s]
  rfl
theorem c_become8 (a : AS) (v : Nat) : tc_become (mC a) 8 (nI v) = some (nI 0, mC (sR a 8 v)) := by
  have h : ∀ (s : CS) (x : Int32), tc_become s 8 x = bd (re_set s 8 x) fun _ s1 => some (0, s1) := fun _ _ => rfl
  rw [h, c_set8, bd_s]
  rfl
theorem c_become9 (a : AS) (v : Nat) : tc_become (mC a) 9 (nI v) = some (nI 0, mC (sR (sR a 0 (v / 256)) 1 v)) := by
  have h : ∀ (s : CS) (x : Int32), tc_become s 9 x = bd (re_set s 9 x) fun _ s1 => some (0, s1) := fun _ _ => rfl
  rw [h, c_set9, bd_s]
  rfl
theorem m_o5 (a : AS) (b : Nat → Int32) (u : Bool) (n : Nat) : mo_pullAll_124 (mM a b u) 5 (nI n) 4 = mo_pullAll_157 (mM (sR (uT a 5) 4 (uW a 5)) b u) 5 (nI n) := by
  have h : ∀ (s : MS), mo_pullAll_124 s 5 (nI n) 4 = bd (mo_pullWord s 5) fun v1 s1 => (fun s2 => if mx_arm s2 = 0 then mo_pullAll_157 (my_arm s2 0) 5 (nI n) else mo_pullAll_157 (my_arm s2 1) 5 (nI n)) (my_reg s1 (upd (mx_reg s1) 4 v1)) := fun _ => rfl
  rw [h, m_pullWord5, bd_s, m_sv4 _ _ _ _ (uW_lt _ _)]
  dsimp only
  generalize sR (uT a 5) 4 (uW a 5) = z
  rw [mx_arm_e]
  cases hz : gA z
  · rw [if_pos (by decide), show (0 : Int32) = bI false from rfl, my_arm_e, sA_same hz]
  · rw [if_neg (by decide), show (1 : Int32) = bI true from rfl, my_arm_e, sA_same hz]
theorem m_o4 (a : AS) (b : Nat → Int32) (u : Bool) (n : Nat) : mo_pullAll_124 (mM a b u) 4 (nI n) 5 = mo_pullAll_157 (mM (sA (sR (uT a 4) 5 (uW a 4)) true) b u) 4 (nI n) := by
  have h : ∀ (s : MS), mo_pullAll_124 s 4 (nI n) 5 = bd (mo_pullWord s 4) fun v1 s1 => (fun s2 => if mx_arm s2 = 0 then mo_pullAll_157 (my_arm s2 1) 4 (nI n) else mo_pullAll_157 (my_arm s2 1) 4 (nI n)) (my_reg s1 (upd (mx_reg s1) 5 v1)) := fun _ => rfl
  rw [h, m_pullWord4, bd_s, m_sv5 _ _ _ _ (uW_lt _ _)]
  dsimp only
  generalize sR (uT a 4) 5 (uW a 4) = z
  rw [show (1 : Int32) = bI true from rfl, my_arm_e]
  split <;> rfl
theorem pu7_4 (a : AS) (b : Nat → Int32) (u : Bool) (n : Nat) : Rl PT b u (tc_pullRegisters_139 (mC a) 4 (nI n)) (mo_pullAll_157 (mM a b u) 4 (nI n)) := by
  unfold tc_pullRegisters_139 mo_pullAll_157
  refine rl_if Iff.rfl (fun _ => ?_) (fun _ => ?_)
  · exact ⟨0, _, rfl, rfl, trivial⟩
  · skip
    rw [c_pullWord4, bd_s, c_set6, bd_s, m_pullWord4, bd_s, ns_d, m_sv6 _ _ _ _ (uW_lt _ _)]
    exact ⟨0, _, rfl, rfl, trivial⟩
theorem pu6_4 (a : AS) (b : Nat → Int32) (u : Bool) (n : Nat) : Rl PT b u (tc_pullRegisters_119 (mC a) 4 (nI n)) (mo_pullAll_107 (mM a b u) 4 (nI n)) := by
  unfold tc_pullRegisters_119 mo_pullAll_107
  refine rl_if Iff.rfl (fun _ => ?_) (fun _ => ?_)
  · exact pu7_4 _ b u n
  · skip
    have h1 : tc_otherStack (mC a) 4 = some (5, mC a) := rfl
    rw [h1, bd_s, c_pullWord4, bd_s, c_become5, bd_s, if_neg (by decide), m_o4]
    exact pu7_4 _ b u n
theorem pu5_4 (a : AS) (b : Nat → Int32) (u : Bool) (n : Nat) : Rl PT b u (tc_pullRegisters_99 (mC a) 4 (nI n)) (mo_pullAll_89 (mM a b u) 4 (nI n)) := by
  unfold tc_pullRegisters_99 mo_pullAll_89
  refine rl_if Iff.rfl (fun _ => ?_) (fun _ => ?_)
  · exact pu6_4 _ b u n
  · skip
    rw [c_pullWord4, bd_s, c_set3, bd_s, m_pullWord4, bd_s, ns_d, m_sv3 _ _ _ _ (uW_lt _ _)]
    exact pu6_4 _ b u n
theorem pu4_4 (a : AS) (b : Nat → Int32) (u : Bool) (n : Nat) : Rl PT b u (tc_pullRegisters_79 (mC a) 4 (nI n)) (mo_pullAll_71 (mM a b u) 4 (nI n)) := by
  unfold tc_pullRegisters_79 mo_pullAll_71
  refine rl_if Iff.rfl (fun _ => ?_) (fun _ => ?_)
  · exact pu5_4 _ b u n
  · skip
    rw [c_pullWord4, bd_s, c_set2, bd_s, m_pullWord4, bd_s, ns_d, m_sv2 _ _ _ _ (uW_lt _ _)]
    exact pu5_4 _ b u n
theorem pu3_4 (a : AS) (b : Nat → Int32) (u : Bool) (n : Nat) : Rl PT b u (tc_pullRegisters_58 (mC a) 4 (nI n)) (mo_pullAll_52 (mM a b u) 4 (nI n)) := by
  unfold tc_pullRegisters_58 mo_pullAll_52
  refine rl_if Iff.rfl (fun _ => ?_) (fun _ => ?_)
  · exact pu4_4 _ b u n
  · skip
    rw [c_pullByte4, bd_s, c_set7, bd_s, m_pull4, bd_s, ns_d, m_sv7 _ _ _ _ (uB_lt _ _)]
    exact pu4_4 _ b u n
theorem pu2_4 (a : AS) (b : Nat → Int32) (u : Bool) (n : Nat) : Rl PT b u (tc_pullRegisters_39 (mC a) 4 (nI n)) (mo_pullAll_35 (mM a b u) 4 (nI n)) := by
  unfold tc_pullRegisters_39 mo_pullAll_35
  refine rl_if Iff.rfl (fun _ => ?_) (fun _ => ?_)
  · exact pu3_4 _ b u n
  · skip
    rw [c_pullByte4, bd_s, c_set1, bd_s, m_pull4, bd_s, ns_d, m_sv1 _ _ _ _ (uB_lt _ _)]
    exact pu3_4 _ b u n
theorem pu1_4 (a : AS) (b : Nat → Int32) (u : Bool) (n : Nat) : Rl PT b u (tc_pullRegisters_20 (mC a) 4 (nI n)) (mo_pullAll_18 (mM a b u) 4 (nI n)) := by
  unfold tc_pullRegisters_20 mo_pullAll_18
  refine rl_if Iff.rfl (fun _ => ?_) (fun _ => ?_)
  · exact pu2_4 _ b u n
  · skip
    rw [c_pullByte4, bd_s, c_set0, bd_s, m_pull4, bd_s, ns_d, m_sv0 _ _ _ _ (uB_lt _ _)]
    exact pu2_4 _ b u n
theorem pu0_4 (a : AS) (b : Nat → Int32) (u : Bool) (n : Nat) : Rl PT b u (tc_pullRegisters (mC a) 4 (nI n)) (mo_pullAll (mM a b u) 4 (nI n)) := by
  unfold tc_pullRegisters mo_pullAll
  refine rl_if Iff.rfl (fun _ => ?_) (fun _ => ?_)
  · exact pu1_4 _ b u n
  · skip
    rw [c_pullByte4, bd_s, c_set8, bd_s, m_pull4, bd_s, ns_d, m_sv8 _ _ _ _ (uB_lt _ _)]
    exact pu1_4 _ b u n
theorem pu7_5 (a : AS) (b : Nat → Int32) (u : Bool) (n : Nat) : Rl PT b u (tc_pullRegisters_139 (mC a) 5 (nI n)) (mo_pullAll_157 (mM a b u) 5 (nI n)) := by
  unfold tc_pullRegisters_139 mo_pullAll_157
  refine rl_if Iff.rfl (fun _ => ?_) (fun _ => ?_)
  · exact ⟨0, _, rfl, rfl, trivial⟩
  · skip
    rw [c_pullWord5, bd_s, c_set6, bd_s, m_pullWord5, bd_s, ns_d, m_sv6 _ _ _ _ (uW_lt _ _)]
    exact ⟨0, _, rfl, rfl, trivial⟩
theorem pu6_5 (a : AS) (b : Nat → Int32) (u : Bool) (n : Nat) : Rl PT b u (tc_pullRegisters_119 (mC a) 5 (nI n)) (mo_pullAll_107 (mM a b u) 5 (nI n)) := by
  unfold tc_pullRegisters_119 mo_pullAll_107
  refine rl_if Iff.rfl (fun _ => ?_) (fun _ => ?_)
  · exact pu7_5 _ b u n
  · skip
    have h1 : tc_otherStack (mC a) 5 = some (4, mC a) := rfl
    rw [h1, bd_s, c_pullWord5, bd_s, c_become4, bd_s, if_pos rfl, m_o5]
    exact pu7_5 _ b u n
theorem pu5_5 (a : AS) (b : Nat → Int32) (u : Bool) (n : Nat) : Rl PT b u (tc_pullRegisters_99 (mC a) 5 (nI n)) (mo_pullAll_89 (mM a b u) 5 (nI n)) := by
  unfold tc_pullRegisters_99 mo_pullAll_89
  refine rl_if Iff.rfl (fun _ => ?_) (fun _ => ?_)
  · exact pu6_5 _ b u n
  · skip
    rw [c_pullWord5, bd_s, c_set3, bd_s, m_pullWord5, bd_s, ns_d, m_sv3 _ _ _ _ (uW_lt _ _)]
    exact pu6_5 _ b u n
theorem pu4_5 (a : AS) (b : Nat → Int32) (u : Bool) (n : Nat) : Rl PT b u (tc_pullRegisters_79 (mC a) 5 (nI n)) (mo_pullAll_71 (mM a b u) 5 (nI n)) := by
  unfold tc_pullRegisters_79 mo_pullAll_71
  refine rl_if Iff.rfl (fun _ => ?_) (fun _ => ?_)
  · exact pu5_5 _ b u n
  · skip
    rw [c_pullWord5, bd_s, c_set2, bd_s, m_pullWord5, bd_s, ns_d, m_sv2 _ _ _ _ (uW_lt _ _)]
    exact pu5_5 _ b u n
theorem pu3_5 (a : AS) (b : Nat → Int32) (u : Bool) (n : Nat) : Rl PT b u (tc_pullRegisters_58 (mC a) 5 (nI n)) (mo_pullAll_52 (mM a b u) 5 (nI n)) := by
  unfold tc_pullRegisters_58 mo_pullAll_52
  refine rl_if Iff.rfl (fun _ => ?_) (fun _ => ?_)
  · exact pu4_5 _ b u n
  · skip
    rw [c_pullByte5, bd_s, c_set7, bd_s, m_pull5, bd_s, ns_d, m_sv7 _ _ _ _ (uB_lt _ _)]
    exact pu4_5 _ b u n
theorem pu2_5 (a : AS) (b : Nat → Int32) (u : Bool) (n : Nat) : Rl PT b u (tc_pullRegisters_39 (mC a) 5 (nI n)) (mo_pullAll_35 (mM a b u) 5 (nI n)) := by
  unfold tc_pullRegisters_39 mo_pullAll_35
  refine rl_if Iff.rfl (fun _ => ?_) (fun _ => ?_)
  · exact pu3_5 _ b u n
  · skip
    rw [c_pullByte5, bd_s, c_set1, bd_s, m_pull5, bd_s, ns_d, m_sv1 _ _ _ _ (uB_lt _ _)]
    exact pu3_5 _ b u n
theorem pu1_5 (a : AS) (b : Nat → Int32) (u : Bool) (n : Nat) : Rl PT b u (tc_pullRegisters_20 (mC a) 5 (nI n)) (mo_pullAll_18 (mM a b u) 5 (nI n)) := by
  unfold tc_pullRegisters_20 mo_pullAll_18
  refine rl_if Iff.rfl (fun _ => ?_) (fun _ => ?_)
  · exact pu2_5 _ b u n
  · skip
    rw [c_pullByte5, bd_s, c_set0, bd_s, m_pull5, bd_s, ns_d, m_sv0 _ _ _ _ (uB_lt _ _)]
    exact pu2_5 _ b u n
theorem pu0_5 (a : AS) (b : Nat → Int32) (u : Bool) (n : Nat) : Rl PT b u (tc_pullRegisters (mC a) 5 (nI n)) (mo_pullAll (mM a b u) 5 (nI n)) := by
  unfold tc_pullRegisters mo_pullAll
  refine rl_if Iff.rfl (fun _ => ?_) (fun _ => ?_)
  · exact pu1_5 _ b u n
  · skip
    rw [c_pullByte5, bd_s, c_set8, bd_s, m_pull5, bd_s, ns_d, m_sv8 _ _ _ _ (uB_lt _ _)]
    exact pu1_5 _ b u n
