-- relations between the two sides
def Rl (P : Nat → AS → Prop) (b : Nat → Int32) (u : Bool) (x : Option (Int32 × CS)) (y : Option (Int32 × MS)) : Prop := ∃ (n : Nat) (a : AS), x = some (nI n, mC a) ∧ y = some (nI n, mM a b u) ∧ P n a
theorem rl_bd {P P2 : Nat → AS → Prop} {b : Nat → Int32} {u u2 : Bool} {x : Option (Int32 × CS)} {y : Option (Int32 × MS)} {k : Int32 → CS → Option (Int32 × CS)} {k2 : Int32 → MS → Option (Int32 × MS)} (h : Rl P b u x y) (hk : ∀ (n : Nat) (a : AS), P n a → Rl P2 b u2 (k (nI n) (mC a)) (k2 (nI n) (mM a b u))) : Rl P2 b u2 (bd x k) (bd y k2) := by
  obtain ⟨n, a, h1, h2, h3⟩ := h
  rw [h1, h2, bd_s, bd_s]
  exact hk n a h3
theorem rl_if {P : Nat → AS → Prop} {b : Nat → Int32} {u : Bool} {c d : Prop} {ic : Decidable c} {id : Decidable d} {x x2 : Option (Int32 × CS)} {y y2 : Option (Int32 × MS)} (e : c ↔ d) (h1 : c → Rl P b u x y) (h2 : ¬ c → Rl P b u x2 y2) : Rl P b u (if c then x else x2) (if d then y else y2) := by
  by_cases hc : c
  · rw [if_pos hc, if_pos (e.mp hc)]; exact h1 hc
  · rw [if_neg hc, if_neg (fun q => hc (e.mpr q))]; exact h2 hc
theorem rl_ret {P : Nat → AS → Prop} {b : Nat → Int32} {u : Bool} {n : Nat} {a : AS} (h : P n a) : Rl P b u (some (nI n, mC a)) (some (nI n, mM a b u)) := ⟨n, a, rfl, rfl, h⟩
theorem rl_imp {P P2 : Nat → AS → Prop} {b : Nat → Int32} {u : Bool} {x : Option (Int32 × CS)} {y : Option (Int32 × MS)} (h : Rl P b u x y) (hp : ∀ n a, P n a → P2 n a) : Rl P2 b u x y := by
  obtain ⟨n, a, h1, h2, h3⟩ := h
  exact ⟨n, a, h1, h2, hp n a h3⟩
-- memory
theorem c_byteAt (a : AS) (e : Nat) : me_byteAt (mC a) (nI e) = some (nI (gM a (e % 4096) % 256), mC a) := by
  unfold me_byteAt
  rw [ok4096, gd_t, nm_d, cl4096, cx_mem_e]
  rfl
theorem c_setByte (a : AS) (e v : Nat) : me_setByte (mC a) (nI e) (nI v) = some (nI 0, mC (sM a (e % 4096) v)) := by
  unfold me_setByte
  rw [nm_d, ok4096, gd_t, ns_d, cl4096, and255, cy_mem_e]
  rfl
theorem c_wordAt (a : AS) (e : Nat) : me_wordAt (mC a) (nI e) = some (nI (hl (gM a (e % 4096)) (gM a ((e + 1) % 4096))), mC a) := by
  unfold me_wordAt
  rw [show (1 : Int32) = nI 1 from rfl, nI_add, ok4096, ok4096, gd_t, nm_d, gd_t, nm_d, cl4096, cl4096, cx_mem_e, cx_mem_e, hl_c]
  unfold w16 hl
  rw [show (256 * (gM a (e % 4096) % 256) + gM a ((e + 1) % 4096) % 256) % 65536 = 256 * (gM a (e % 4096) % 256) + gM a ((e + 1) % 4096) % 256 by omega]
theorem shr8 (v : Nat) : (nI v >>> ((8 : Int32) &&& 31)) &&& 255 = nI (v / 256 % 256) := by
  apply Int32.toBitVec_inj.1
  rw [Int32.toBitVec_and, Int32.toBitVec_shiftRight]
  show ((BitVec.ofNat 32 v).sshiftRight (((8 : Int32) &&& 31).toBitVec.smod 32).toNat) &&& 255#32 = BitVec.ofNat 32 (v / 256 % 256)
  rw [show (((8 : Int32) &&& 31).toBitVec.smod 32).toNat = 8 by decide]
  apply BitVec.eq_of_getLsbD_eq
  intro i hi
  simp only [BitVec.getLsbD_and, BitVec.getLsbD_sshiftRight, BitVec.getLsbD_ofNat, show v / 256 % 256 = v / 2 ^ 8 % 2 ^ 8 from rfl, Nat.testBit_mod_two_pow, Nat.testBit_div_two_pow]
  rcases Nat.lt_or_ge i 8 with h | h
  · have h255 : Nat.testBit 255 i = true := (by decide +kernel : ∀ i, i < 8 → Nat.testBit 255 i = true) i h
    simp [h255, h, hi, show 8 + i < 32 by omega, show i + 8 < 32 by omega, show ¬ 32 ≤ i by omega, Nat.add_comm]
  · have h255 : Nat.testBit 255 i = false := (by decide +kernel : ∀ i, i < 32 → 8 ≤ i → Nat.testBit 255 i = false) i hi h
    simp [h255, Nat.not_lt.mpr h]
theorem c_setWord (a : AS) (e v : Nat) : me_setWord (mC a) (nI e) (nI v) = some (nI 0, mC (sM (sM a (e % 4096) (v / 256)) ((e + 1) % 4096) v)) := by
  unfold me_setWord
  rw [nm_d, ok4096, gd_t, ns_d, nm_d, show (1 : Int32) = nI 1 from rfl, nI_add, ok4096, gd_t, ns_d, cl4096, cl4096, shr8, show nI (v / 256 % 256) = w8 (v / 256) from rfl, and255, cy_mem_e, cy_mem_e]
  rfl
theorem m_read (a : AS) (b : Nat → Int32) (u : Bool) (e : Nat) : mo_read (mM a b u) (nI e) = some (nI (gM a (e % 4096) % 256), mM a b u) := by
  unfold mo_read
  rw [ok4096, gd_t, nm_d, cl4096, mx_mem_e]
  rfl
theorem m_write (a : AS) (b : Nat → Int32) (u : Bool) (e v : Nat) : mo_write (mM a b u) (nI e) (nI v) = some (nI 0, mM (sM a (e % 4096) v) b u) := by
  unfold mo_write
  rw [nm_d, ok4096, gd_t, ns_d, cl4096, and255, my_mem_e]
  rfl
theorem m_readWord (a : AS) (b : Nat → Int32) (u : Bool) (e : Nat) : mo_readWord (mM a b u) (nI e) = some (nI (hl (gM a (e % 4096)) (gM a ((e + 1) % 4096))), mM a b u) := by
  unfold mo_readWord
  rw [m_read, bd_s, show (1 : Int32) = nI 1 from rfl, nI_add, m_read, bd_s, show (256 : Int32) = nI 256 from rfl, pk_mul, nI_add]
  rfl
theorem m_writeWord (a : AS) (b : Nat → Int32) (u : Bool) (e v : Nat) (hv : v < 2147483648) : mo_writeWord (mM a b u) (nI e) (nI v) = some (nI 0, mM (sM (sM a (e % 4096) (v / 256)) ((e + 1) % 4096) v) b u) := by
  unfold mo_writeWord
  rw [show ((8 : Int32) &&& 31) = (nI 8 &&& 31) from rfl, shr_nI hv (by decide), m_write, bd_s, show (1 : Int32) = nI 1 from rfl, nI_add, m_write, bd_s]
  rfl
-- registers
theorem c_get0 (a : AS) : re_get (mC a) 0 = some (nI (gR a 0 % 256), mC a) := rfl
theorem c_set0 (a : AS) (v : Nat) : re_set (mC a) 0 (nI v) = some (nI 0, mC (sR a 0 v)) := by
  have h : re_set (mC a) 0 (nI v) = some (nI 0, cy_reg (mC a) (upd (cx_reg (mC a)) 0 (nI v &&& 255))) := rfl
  rw [h, and255]
  exact congrArg (fun z => some (nI 0, z)) (cy_reg_e a 0 v)
theorem m_reg0 (a : AS) (b : Nat → Int32) (u : Bool) : mx_reg (mM a b u) 0 = nI (gR a 0 % 256) := rfl
theorem m_set0 (a : AS) (b : Nat → Int32) (u : Bool) (v : Nat) : my_reg (mM a b u) (upd (mx_reg (mM a b u)) 0 (nI (v % 256))) = mM (sR a 0 v) b u := my_reg_e a b u 0 v
theorem c_get1 (a : AS) : re_get (mC a) 1 = some (nI (gR a 1 % 256), mC a) := rfl
theorem c_set1 (a : AS) (v : Nat) : re_set (mC a) 1 (nI v) = some (nI 0, mC (sR a 1 v)) := by
  have h : re_set (mC a) 1 (nI v) = some (nI 0, cy_reg (mC a) (upd (cx_reg (mC a)) 1 (nI v &&& 255))) := rfl
  rw [h, and255]
  exact congrArg (fun z => some (nI 0, z)) (cy_reg_e a 1 v)
theorem m_reg1 (a : AS) (b : Nat → Int32) (u : Bool) : mx_reg (mM a b u) 1 = nI (gR a 1 % 256) := rfl
theorem m_set1 (a : AS) (b : Nat → Int32) (u : Bool) (v : Nat) : my_reg (mM a b u) (upd (mx_reg (mM a b u)) 1 (nI (v % 256))) = mM (sR a 1 v) b u := my_reg_e a b u 1 v
theorem c_get2 (a : AS) : re_get (mC a) 2 = some (nI (gR a 2 % 65536), mC a) := rfl
theorem c_set2 (a : AS) (v : Nat) : re_set (mC a) 2 (nI v) = some (nI 0, mC (sR a 2 v)) := by
  have h : re_set (mC a) 2 (nI v) = some (nI 0, cy_reg (mC a) (upd (cx_reg (mC a)) 2 (nI v &&& 65535))) := rfl
  rw [h, and65535]
  exact congrArg (fun z => some (nI 0, z)) (cy_reg_e a 2 v)
theorem m_reg2 (a : AS) (b : Nat → Int32) (u : Bool) : mx_reg (mM a b u) 2 = nI (gR a 2 % 65536) := rfl
theorem m_set2 (a : AS) (b : Nat → Int32) (u : Bool) (v : Nat) : my_reg (mM a b u) (upd (mx_reg (mM a b u)) 2 (nI (v % 65536))) = mM (sR a 2 v) b u := my_reg_e a b u 2 v
theorem c_get3 (a : AS) : re_get (mC a) 3 = some (nI (gR a 3 % 65536), mC a) := rfl
theorem c_set3 (a : AS) (v : Nat) : re_set (mC a) 3 (nI v) = some (nI 0, mC (sR a 3 v)) := by
  have h : re_set (mC a) 3 (nI v) = some (nI 0, cy_reg (mC a) (upd (cx_reg (mC a)) 3 (nI v &&& 65535))) := rfl
  rw [h, and65535]
  exact congrArg (fun z => some (nI 0, z)) (cy_reg_e a 3 v)
theorem m_reg3 (a : AS) (b : Nat → Int32) (u : Bool) : mx_reg (mM a b u) 3 = nI (gR a 3 % 65536) := rfl
theorem m_set3 (a : AS) (b : Nat → Int32) (u : Bool) (v : Nat) : my_reg (mM a b u) (upd (mx_reg (mM a b u)) 3 (nI (v % 65536))) = mM (sR a 3 v) b u := my_reg_e a b u 3 v
theorem c_get4 (a : AS) : re_get (mC a) 4 = some (nI (gR a 4 % 65536), mC a) := rfl
theorem c_set4 (a : AS) (v : Nat) : re_set (mC a) 4 (nI v) = some (nI 0, mC (sR a 4 v)) := by
  have h : re_set (mC a) 4 (nI v) = some (nI 0, cy_reg (mC a) (upd (cx_reg (mC a)) 4 (nI v &&& 65535))) := rfl
  rw [h, and65535]
  exact congrArg (fun z => some (nI 0, z)) (cy_reg_e a 4 v)
theorem m_reg4 (a : AS) (b : Nat → Int32) (u : Bool) : mx_reg (mM a b u) 4 = nI (gR a 4 % 65536) := rfl
theorem m_set4 (a : AS) (b : Nat → Int32) (u : Bool) (v : Nat) : my_reg (mM a b u) (upd (mx_reg (mM a b u)) 4 (nI (v % 65536))) = mM (sR a 4 v) b u := my_reg_e a b u 4 v
theorem c_get5 (a : AS) : re_get (mC a) 5 = some (nI (gR a 5 % 65536), mC a) := rfl
theorem c_set5 (a : AS) (v : Nat) : re_set (mC a) 5 (nI v) = some (nI 0, mC (sR a 5 v)) := by
  have h : re_set (mC a) 5 (nI v) = some (nI 0, cy_reg (mC a) (upd (cx_reg (mC a)) 5 (nI v &&& 65535))) := rfl
  rw [h, and65535]
  exact congrArg (fun z => some (nI 0, z)) (cy_reg_e a 5 v)
theorem m_reg5 (a : AS) (b : Nat → Int32) (u : Bool) : mx_reg (mM a b u) 5 = nI (gR a 5 % 65536) := rfl
theorem m_set5 (a : AS) (b : Nat → Int32) (u : Bool) (v : Nat) : my_reg (mM a b u) (upd (mx_reg (mM a b u)) 5 (nI (v % 65536))) = mM (sR a 5 v) b u := my_reg_e a b u 5 v
theorem c_get6 (a : AS) : re_get (mC a) 6 = some (nI (gR a 6 % 65536), mC a) := rfl
theorem c_set6 (a : AS) (v : Nat) : re_set (mC a) 6 (nI v) = some (nI 0, mC (sR a 6 v)) := by
  have h : re_set (mC a) 6 (nI v) = some (nI 0, cy_reg (mC a) (upd (cx_reg (mC a)) 6 (nI v &&& 65535))) := rfl
  rw [h, and65535]
  exact congrArg (fun z => some (nI 0, z)) (cy_reg_e a 6 v)
theorem m_reg6 (a : AS) (b : Nat → Int32) (u : Bool) : mx_reg (mM a b u) 6 = nI (gR a 6 % 65536) := rfl
theorem m_set6 (a : AS) (b : Nat → Int32) (u : Bool) (v : Nat) : my_reg (mM a b u) (upd (mx_reg (mM a b u)) 6 (nI (v % 65536))) = mM (sR a 6 v) b u := my_reg_e a b u 6 v
theorem c_get7 (a : AS) : re_get (mC a) 7 = some (nI (gR a 7 % 256), mC a) := rfl
theorem c_set7 (a : AS) (v : Nat) : re_set (mC a) 7 (nI v) = some (nI 0, mC (sR a 7 v)) := by
  have h : re_set (mC a) 7 (nI v) = some (nI 0, cy_reg (mC a) (upd (cx_reg (mC a)) 7 (nI v &&& 255))) := rfl
  rw [h, and255]
  exact congrArg (fun z => some (nI 0, z)) (cy_reg_e a 7 v)
theorem m_reg7 (a : AS) (b : Nat → Int32) (u : Bool) : mx_reg (mM a b u) 7 = nI (gR a 7 % 256) := rfl
theorem m_set7 (a : AS) (b : Nat → Int32) (u : Bool) (v : Nat) : my_reg (mM a b u) (upd (mx_reg (mM a b u)) 7 (nI (v % 256))) = mM (sR a 7 v) b u := my_reg_e a b u 7 v
theorem c_get8 (a : AS) : re_get (mC a) 8 = some (nI (gR a 8 % 256), mC a) := rfl
theorem c_set8 (a : AS) (v : Nat) : re_set (mC a) 8 (nI v) = some (nI 0, mC (sR a 8 v)) := by
  have h : re_set (mC a) 8 (nI v) = some (nI 0, cy_reg (mC a) (upd (cx_reg (mC a)) 8 (nI v &&& 255))) := rfl
  rw [h, and255]
  exact congrArg (fun z => some (nI 0, z)) (cy_reg_e a 8 v)
theorem m_reg8 (a : AS) (b : Nat → Int32) (u : Bool) : mx_reg (mM a b u) 8 = nI (gR a 8 % 256) := rfl
theorem m_set8 (a : AS) (b : Nat → Int32) (u : Bool) (v : Nat) : my_reg (mM a b u) (upd (mx_reg (mM a b u)) 8 (nI (v % 256))) = mM (sR a 8 v) b u := my_reg_e a b u 8 v
theorem c_get9 (a : AS) : re_get (mC a) 9 = some (nI (hl (gR a 0) (gR a 1)), mC a) := by
  have h : re_get (mC a) 9 = some ((w8 (gR a 0) <<< ((8 : Int32) &&& 31)) ||| w8 (gR a 1), mC a) := rfl
  rw [h, hl_c]
  unfold w16 hl
  rw [show (256 * (gR a 0 % 256) + gR a 1 % 256) % 65536 = 256 * (gR a 0 % 256) + gR a 1 % 256 by omega]
theorem c_set9 (a : AS) (v : Nat) : re_set (mC a) 9 (nI v) = some (nI 0, mC (sR (sR a 0 (v / 256)) 1 v)) := by
  have h : re_set (mC a) 9 (nI v) = some (nI 0, cy_reg (cy_reg (mC a) (upd (cx_reg (mC a)) 0 ((nI v >>> ((8 : Int32) &&& 31)) &&& 255))) (upd (cx_reg (cy_reg (mC a) (upd (cx_reg (mC a)) 0 ((nI v >>> ((8 : Int32) &&& 31)) &&& 255)))) 1 (nI v &&& 255))) := rfl
  rw [h, shr8, and255, show nI (v / 256 % 256) = wr 0 (v / 256) from rfl, cy_reg_e, show w8 v = wr 1 v from rfl, cy_reg_e]
theorem m_d (a : AS) (b : Nat → Int32) (u : Bool) : mo_d (mM a b u) = some (nI (hl (gR a 0) (gR a 1)), mM a b u) := by
  unfold mo_d
  rw [m_reg0, m_reg1, show (256 : Int32) = nI 256 from rfl, pk_mul, nI_add]
  rfl
theorem m_setD (a : AS) (b : Nat → Int32) (u : Bool) (v : Nat) : mo_setD (mM a b u) (nI v) = some (nI 0, mM (sR (sR a 0 (v / 256)) 1 v) b u) := by
  unfold mo_setD
  rw [nm_d, ns_d, shr8, m_set0, nm_d, ns_d, and255]
  unfold w8
  rw [m_set1]
  rfl
-- fetching
def fE (a : AS) : Nat := gR a 6 % 65536
def fB (a : AS) : Nat := gM a (fE a % 4096) % 256
def fS (a : AS) : AS := sR a 6 (fE a + 1)
def fW (a : AS) : Nat := hl (gM a (fE a % 4096)) (gM a ((fE a + 1) % 4096))
def fT (a : AS) : AS := sR a 6 (fE a + 2)
theorem c_fetchByte (a : AS) : tc_fetchByte (mC a) = some (nI (fB a), mC (fS a)) := by
  unfold tc_fetchByte
  rw [c_get6, bd_s, show (1 : Int32) = nI 1 from rfl, nI_add, c_set6, bd_s, c_byteAt, bd_s]
  rfl
theorem c_fetchWord (a : AS) : tc_fetchWord (mC a) = some (nI (fW a), mC (fT a)) := by
  unfold tc_fetchWord
  rw [c_get6, bd_s, show (2 : Int32) = nI 2 from rfl, nI_add, c_set6, bd_s, c_wordAt, bd_s]
  rfl
theorem m_next (a : AS) (b : Nat → Int32) (u : Bool) : mo_next (mM a b u) = some (nI (fB a), mM (fS a) b u) := by
  unfold mo_next
  rw [m_reg6, m_read, bd_s, nm_d, ns_d, m_reg6, show (1 : Int32) = nI 1 from rfl, nI_add, and65535]
  unfold w16
  rw [m_set6]
  rfl
theorem fE_fS (a : AS) : fE (fS a) = (fE a + 1) % 65536 := by
  show (fE a + 1) % 65536 % 65536 = _
  omega
theorem fS_fS (a : AS) : fS (fS a) = fT a := by
  show sR (sR a 6 (fE a + 1)) 6 (fE (fS a) + 1) = sR a 6 (fE a + 2)
  rw [sR_sR]
  apply sR_cong
  rw [fE_fS]
  show ((fE a + 1) % 65536 + 1) % 65536 = (fE a + 2) % 65536
  omega
theorem m_nextWord (a : AS) (b : Nat → Int32) (u : Bool) : mo_nextWord (mM a b u) = some (nI (fW a), mM (fT a) b u) := by
  unfold mo_nextWord
  rw [m_next, bd_s, m_next, bd_s, fS_fS, show (256 : Int32) = nI 256 from rfl, pk_mul, nI_add]
  have h : fB (fS a) = gM a ((fE a + 1) % 4096) % 256 := by
    show gM a (fE (fS a) % 4096) % 256 = _
    rw [fE_fS, show (fE a + 1) % 65536 % 4096 = (fE a + 1) % 4096 by omega]
  rw [h]
  unfold fW hl fB
  rw [show 256 * (gM a (fE a % 4096) % 256) = 256 * (gM a (fE a % 4096) % 256 % 256) by omega]
