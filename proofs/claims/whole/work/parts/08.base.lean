-- numbers of a width, states by numbers
def w8 (n : Nat) : Int32 := nI (n % 256)
def w16 (n : Nat) : Int32 := nI (n % 65536)
def bI (b : Bool) : Int32 := if b = true then 1 else 0
def isW (k : Nat) : Bool := decide (2 ≤ k) && decide (k ≤ 6)
def wr (k n : Nat) : Int32 := if isW k = true then w16 n else w8 n
def upN (f : Nat → Nat) (k v : Nat) : Nat → Nat := fun j => if j = k then v else f j
def upB (f : Nat → Bool) (k : Nat) (v : Bool) : Nat → Bool := fun j => if j = k then v else f j
abbrev AS : Type := (Nat → Nat) × (Nat → Nat) × (Nat → Bool) × Bool × Bool × Int32
def gM (a : AS) : Nat → Nat := a.1
def gR (a : AS) : Nat → Nat := a.2.1
def gL (a : AS) : Nat → Bool := a.2.2.1
def gA (a : AS) : Bool := a.2.2.2.1
def gD (a : AS) : Bool := a.2.2.2.2.1
def gW (a : AS) : Int32 := a.2.2.2.2.2
def md (k : Nat) : Nat := if isW k = true then 65536 else 256
def sM (a : AS) (k v : Nat) : AS := (upN a.1 k (v % 256), a.2)
def sR (a : AS) (k v : Nat) : AS := (a.1, upN a.2.1 k (v % md k), a.2.2)
def sL (a : AS) (k : Nat) (v : Bool) : AS := (a.1, a.2.1, upB a.2.2.1 k v, a.2.2.2)
def sA (a : AS) (v : Bool) : AS := (a.1, a.2.1, a.2.2.1, v, a.2.2.2.2)
def sD (a : AS) (v : Bool) : AS := (a.1, a.2.1, a.2.2.1, a.2.2.2.1, v, a.2.2.2.2.2)
def sW (a : AS) (v : Int32) : AS := (a.1, a.2.1, a.2.2.1, a.2.2.2.1, a.2.2.2.2.1, v)
def mC (a : AS) : CS := (fun k => w8 (gM a k), fun k => wr k (gR a k), fun k => bI (gL a k), bI (gA a), bI (gD a), gW a)
def mM (a : AS) (bef : Nat → Int32) (u : Bool) : MS := (fun k => w8 (gM a k), fun k => wr k (gR a k), bef, fun k => bI (gL a k), bI u, gW a, bI (gA a), bI (gD a))
theorem as_ext {a b : AS} (h1 : ∀ k, gM a k = gM b k) (h2 : ∀ k, gR a k = gR b k) (h3 : ∀ k, gL a k = gL b k) (h4 : gA a = gA b) (h5 : gD a = gD b) (h6 : gW a = gW b) : a = b := by
  obtain ⟨a1, a2, a3, a4, a5, a6⟩ := a
  obtain ⟨b1, b2, b3, b4, b5, b6⟩ := b
  have e1 : a1 = b1 := funext h1
  have e2 : a2 = b2 := funext h2
  have e3 : a3 = b3 := funext h3
  have e4 : a4 = b4 := h4
  have e5 : a5 = b5 := h5
  have e6 : a6 = b6 := h6
  subst e1; subst e2; subst e3; subst e4; subst e5; subst e6
  rfl
-- getters and setters
theorem gM_sM (a : AS) (k v j : Nat) : gM (sM a k v) j = if j = k then v % 256 else gM a j := rfl
theorem gR_sM (a : AS) (k v : Nat) : gR (sM a k v) = gR a := rfl
theorem gL_sM (a : AS) (k v : Nat) : gL (sM a k v) = gL a := rfl
theorem gA_sM (a : AS) (k v : Nat) : gA (sM a k v) = gA a := rfl
theorem gD_sM (a : AS) (k v : Nat) : gD (sM a k v) = gD a := rfl
theorem gW_sM (a : AS) (k v : Nat) : gW (sM a k v) = gW a := rfl
theorem gR_sR (a : AS) (k v j : Nat) : gR (sR a k v) j = if j = k then v % md k else gR a j := rfl
theorem gM_sR (a : AS) (k v : Nat) : gM (sR a k v) = gM a := rfl
theorem gL_sR (a : AS) (k v : Nat) : gL (sR a k v) = gL a := rfl
theorem gA_sR (a : AS) (k v : Nat) : gA (sR a k v) = gA a := rfl
theorem gD_sR (a : AS) (k v : Nat) : gD (sR a k v) = gD a := rfl
theorem gW_sR (a : AS) (k v : Nat) : gW (sR a k v) = gW a := rfl
theorem gM_sL (a : AS) (k : Nat) (v : Bool) : gM (sL a k v) = gM a := rfl
theorem gR_sL (a : AS) (k : Nat) (v : Bool) : gR (sL a k v) = gR a := rfl
theorem gL_sL (a : AS) (k j : Nat) (v : Bool) : gL (sL a k v) j = if j = k then v else gL a j := rfl
theorem gA_sL (a : AS) (k : Nat) (v : Bool) : gA (sL a k v) = gA a := rfl
theorem gD_sL (a : AS) (k : Nat) (v : Bool) : gD (sL a k v) = gD a := rfl
theorem gW_sL (a : AS) (k : Nat) (v : Bool) : gW (sL a k v) = gW a := rfl
theorem gM_sA (a : AS) (v : Bool) : gM (sA a v) = gM a := rfl
theorem gR_sA (a : AS) (v : Bool) : gR (sA a v) = gR a := rfl
theorem gL_sA (a : AS) (v : Bool) : gL (sA a v) = gL a := rfl
theorem gA_sA (a : AS) (v : Bool) : gA (sA a v) = v := rfl
theorem gD_sA (a : AS) (v : Bool) : gD (sA a v) = gD a := rfl
theorem gW_sA (a : AS) (v : Bool) : gW (sA a v) = gW a := rfl
theorem gM_sD (a : AS) (v : Bool) : gM (sD a v) = gM a := rfl
theorem gR_sD (a : AS) (v : Bool) : gR (sD a v) = gR a := rfl
theorem gL_sD (a : AS) (v : Bool) : gL (sD a v) = gL a := rfl
theorem gA_sD (a : AS) (v : Bool) : gA (sD a v) = gA a := rfl
theorem gD_sD (a : AS) (v : Bool) : gD (sD a v) = v := rfl
theorem gW_sD (a : AS) (v : Bool) : gW (sD a v) = gW a := rfl
theorem gM_sW (a : AS) (v : Int32) : gM (sW a v) = gM a := rfl
theorem gR_sW (a : AS) (v : Int32) : gR (sW a v) = gR a := rfl
theorem gL_sW (a : AS) (v : Int32) : gL (sW a v) = gL a := rfl
theorem gA_sW (a : AS) (v : Int32) : gA (sW a v) = gA a := rfl
theorem gD_sW (a : AS) (v : Int32) : gD (sW a v) = gD a := rfl
theorem gW_sW (a : AS) (v : Int32) : gW (sW a v) = v := rfl
theorem upN_upN (f : Nat → Nat) (k v w : Nat) : upN (upN f k v) k w = upN f k w := by
  funext j
  unfold upN
  by_cases h : j = k
  · simp [h]
  · simp [h]
theorem sR_sR (a : AS) (k v w : Nat) : sR (sR a k v) k w = sR a k w := by
  unfold sR
  rw [upN_upN]
theorem sR_cong {a : AS} {k v w : Nat} (h : v % md k = w % md k) : sR a k v = sR a k w := by
  unfold sR
  rw [h]
theorem sM_cong {a : AS} {k v w : Nat} (h : v % 256 = w % 256) : sM a k v = sM a k w := by
  unfold sM
  rw [h]
-- reading and writing the embedded states
theorem cx_mem_e (a : AS) (k : Nat) : cx_mem (mC a) k = w8 (gM a k) := rfl
theorem cx_reg_e (a : AS) (k : Nat) : cx_reg (mC a) k = wr k (gR a k) := rfl
theorem cx_lev_e (a : AS) (k : Nat) : cx_lev (mC a) k = bI (gL a k) := rfl
theorem cx_arm_e (a : AS) : cx_arm (mC a) = bI (gA a) := rfl
theorem cx_due_e (a : AS) : cx_due (mC a) = bI (gD a) := rfl
theorem cx_wai_e (a : AS) : cx_wai (mC a) = gW a := rfl
theorem mx_mem_e (a : AS) (b : Nat → Int32) (u : Bool) (k : Nat) : mx_mem (mM a b u) k = w8 (gM a k) := rfl
theorem mx_reg_e (a : AS) (b : Nat → Int32) (u : Bool) (k : Nat) : mx_reg (mM a b u) k = wr k (gR a k) := rfl
theorem mx_lev_e (a : AS) (b : Nat → Int32) (u : Bool) (k : Nat) : mx_lev (mM a b u) k = bI (gL a k) := rfl
theorem mx_bef_e (a : AS) (b : Nat → Int32) (u : Bool) : mx_bef (mM a b u) = b := rfl
theorem mx_und_e (a : AS) (b : Nat → Int32) (u : Bool) : mx_und (mM a b u) = bI u := rfl
theorem mx_arm_e (a : AS) (b : Nat → Int32) (u : Bool) : mx_arm (mM a b u) = bI (gA a) := rfl
theorem mx_due_e (a : AS) (b : Nat → Int32) (u : Bool) : mx_due (mM a b u) = bI (gD a) := rfl
theorem mx_wai_e (a : AS) (b : Nat → Int32) (u : Bool) : mx_wai (mM a b u) = gW a := rfl
theorem w8_mod (n : Nat) : w8 (n % 256) = w8 n := by unfold w8; congr 1; omega
theorem w16_mod (n : Nat) : w16 (n % 65536) = w16 n := by unfold w16; congr 1; omega
theorem wr_mod (k n : Nat) : wr k (n % md k) = wr k n := by
  unfold wr md
  by_cases h : isW k = true
  · rw [if_pos h, if_pos h, if_pos h, w16_mod]
  · rw [if_neg h, if_neg h, if_neg h, w8_mod]
theorem up_w8 (f : Nat → Nat) (k v : Nat) : upd (fun j => w8 (f j)) k (w8 v) = fun j => w8 (upN f k (v % 256) j) := by
  funext j
  unfold upd upN
  by_cases h : j = k
  · simp only [h, if_true, w8_mod]
  · simp only [h, if_false]
theorem up_wr (f : Nat → Nat) (k v : Nat) : upd (fun j => wr j (f j)) k (wr k v) = fun j => wr j (upN f k (v % md k) j) := by
  funext j
  unfold upd upN
  by_cases h : j = k
  · subst h; simp only [if_true, wr_mod]
  · simp only [h, if_false]
theorem up_bI (f : Nat → Bool) (k : Nat) (v : Bool) : upd (fun j => bI (f j)) k (bI v) = fun j => bI (upB f k v j) := by
  funext j
  unfold upd upB
  by_cases h : j = k
  · simp [h]
  · simp [h]
theorem cy_mem_e (a : AS) (k v : Nat) : cy_mem (mC a) (upd (cx_mem (mC a)) k (w8 v)) = mC (sM a k v) := by
  show (upd (fun j => w8 (gM a j)) k (w8 v), _) = _
  rw [up_w8]
  rfl
theorem cy_reg_e (a : AS) (k v : Nat) : cy_reg (mC a) (upd (cx_reg (mC a)) k (wr k v)) = mC (sR a k v) := by
  show (_, upd (fun j => wr j (gR a j)) k (wr k v), _) = _
  rw [up_wr]
  rfl
theorem cy_lev_e (a : AS) (k : Nat) (v : Bool) : cy_lev (mC a) (upd (cx_lev (mC a)) k (bI v)) = mC (sL a k v) := by
  show (_, _, upd (fun j => bI (gL a j)) k (bI v), _) = _
  rw [up_bI]
  rfl
theorem cy_arm_e (a : AS) (v : Bool) : cy_arm (mC a) (bI v) = mC (sA a v) := rfl
theorem cy_due_e (a : AS) (v : Bool) : cy_due (mC a) (bI v) = mC (sD a v) := rfl
theorem cy_wai_e (a : AS) (v : Int32) : cy_wai (mC a) v = mC (sW a v) := rfl
theorem my_mem_e (a : AS) (b : Nat → Int32) (u : Bool) (k v : Nat) : my_mem (mM a b u) (upd (mx_mem (mM a b u)) k (w8 v)) = mM (sM a k v) b u := by
  show (upd (fun j => w8 (gM a j)) k (w8 v), _) = _
  rw [up_w8]
  rfl
theorem my_reg_e (a : AS) (b : Nat → Int32) (u : Bool) (k v : Nat) : my_reg (mM a b u) (upd (mx_reg (mM a b u)) k (wr k v)) = mM (sR a k v) b u := by
  show (_, upd (fun j => wr j (gR a j)) k (wr k v), _) = _
  rw [up_wr]
  rfl
theorem my_lev_e (a : AS) (b : Nat → Int32) (u : Bool) (k : Nat) (v : Bool) : my_lev (mM a b u) (upd (mx_lev (mM a b u)) k (bI v)) = mM (sL a k v) b u := by
  show (_, _, _, upd (fun j => bI (gL a j)) k (bI v), _) = _
  rw [up_bI]
  rfl
theorem my_bef_e (a : AS) (b b2 : Nat → Int32) (u : Bool) : my_bef (mM a b u) b2 = mM a b2 u := rfl
theorem my_und_e (a : AS) (b : Nat → Int32) (u v : Bool) : my_und (mM a b u) (bI v) = mM a b v := rfl
theorem my_arm_e (a : AS) (b : Nat → Int32) (u v : Bool) : my_arm (mM a b u) (bI v) = mM (sA a v) b u := rfl
theorem my_due_e (a : AS) (b : Nat → Int32) (u v : Bool) : my_due (mM a b u) (bI v) = mM (sD a v) b u := rfl
theorem my_wai_e (a : AS) (b : Nat → Int32) (u : Bool) (v : Int32) : my_wai (mM a b u) v = mM (sW a v) b u := rfl
theorem wr_0 (n : Nat) : wr 0 n = w8 n := rfl
theorem wr_1 (n : Nat) : wr 1 n = w8 n := rfl
theorem wr_2 (n : Nat) : wr 2 n = w16 n := rfl
theorem wr_3 (n : Nat) : wr 3 n = w16 n := rfl
theorem wr_4 (n : Nat) : wr 4 n = w16 n := rfl
theorem wr_5 (n : Nat) : wr 5 n = w16 n := rfl
theorem wr_6 (n : Nat) : wr 6 n = w16 n := rfl
theorem wr_7 (n : Nat) : wr 7 n = w8 n := rfl
theorem wr_8 (n : Nat) : wr 8 n = w8 n := rfl
-- combinators
theorem gd_t {α : Type} (m : Option α) : gd true m = m := rfl
theorem bd_s {S β : Type} (r : Int32) (s : S) (k : Int32 → S → Option β) : bd (some (r, s)) k = k r s := rfl
theorem nm_d {β : Type} (x : Int32) (k : Int32 → β) : nm x k = k x := rfl
theorem ns_d {S β : Type} (x : S) (k : S → β) : ns x k = k x := rfl
-- numbers
theorem nI_mod32 (n : Nat) : nI n = nI (n % 4294967296) := by
  apply Int32.toBitVec_inj.1
  show BitVec.ofNat 32 n = BitVec.ofNat 32 (n % 4294967296)
  apply BitVec.eq_of_toNat_eq
  simp
theorem nI_cong {a b : Nat} (h : a % 4294967296 = b % 4294967296) : nI a = nI b := by rw [nI_mod32 a, nI_mod32 b, h]
theorem nI_self (x : Int32) : x = nI x.toBitVec.toNat := by
  apply Int32.toBitVec_inj.1
  show x.toBitVec = BitVec.ofNat 32 x.toBitVec.toNat
  simp
theorem and_nI (a b : Nat) : nI a &&& nI b = nI (a &&& b) := by
  apply Int32.toBitVec_inj.1
  show BitVec.ofNat 32 a &&& BitVec.ofNat 32 b = BitVec.ofNat 32 (a &&& b)
  apply BitVec.eq_of_getLsbD_eq
  intro i hi
  simp [hi]
theorem or_nI (a b : Nat) : nI a ||| nI b = nI (a ||| b) := by
  apply Int32.toBitVec_inj.1
  show BitVec.ofNat 32 a ||| BitVec.ofNat 32 b = BitVec.ofNat 32 (a ||| b)
  apply BitVec.eq_of_getLsbD_eq
  intro i hi
  simp [hi]
theorem xor_nI (a b : Nat) : nI a ^^^ nI b = nI (a ^^^ b) := by
  apply Int32.toBitVec_inj.1
  show BitVec.ofNat 32 a ^^^ BitVec.ofNat 32 b = BitVec.ofNat 32 (a ^^^ b)
  apply BitVec.eq_of_getLsbD_eq
  intro i hi
  simp [hi]
theorem sub_nI (a b : Nat) : nI a - nI b = nI (a + (4294967296 - b % 4294967296)) := by
  apply Int32.toBitVec_inj.1
  show BitVec.ofNat 32 a - BitVec.ofNat 32 b = BitVec.ofNat 32 (a + (4294967296 - b % 4294967296))
  apply BitVec.eq_of_toNat_eq
  simp [BitVec.toNat_sub]
  omega
theorem and255 (n : Nat) : nI n &&& 255 = w8 n := by
  show nI n &&& nI 255 = _
  rw [and_nI, show (255 : Nat) = 2 ^ 8 - 1 from rfl, Nat.and_two_pow_sub_one_eq_mod]
  rfl
theorem and65535 (n : Nat) : nI n &&& 65535 = w16 n := by
  show nI n &&& nI 65535 = _
  rw [and_nI, show (65535 : Nat) = 2 ^ 16 - 1 from rfl, Nat.and_two_pow_sub_one_eq_mod]
  rfl
theorem and4095 (n : Nat) : nI n &&& 4095 = nI (n % 4096) := by
  show nI n &&& nI 4095 = _
  rw [and_nI, show (4095 : Nat) = 2 ^ 12 - 1 from rfl, Nat.and_two_pow_sub_one_eq_mod]
theorem and15 (n : Nat) : nI n &&& 15 = nI (n % 16) := by
  show nI n &&& nI 15 = _
  rw [and_nI, show (15 : Nat) = 2 ^ 4 - 1 from rfl, Nat.and_two_pow_sub_one_eq_mod]
theorem ok_nI {n N : Nat} (h : n < N) (hN : N < 2147483648) : okI (nI n) N = true := by
  unfold okI
  rw [nI_clamp (by omega)]
  simp only [Bool.and_eq_true, Bool.not_eq_true', decide_eq_false_iff_not, decide_eq_true_eq]
  exact ⟨nI_pos (by omega), h⟩
theorem ok4096 (n : Nat) : okI (nI n &&& 4095) 4096 = true := by
  rw [and4095]
  exact ok_nI (Nat.mod_lt _ (by decide)) (by decide)
theorem cl4096 (n : Nat) : (nI n &&& 4095).toNatClampNeg = n % 4096 := by
  rw [and4095]
  exact nI_clamp (by omega)
theorem isB_bI (b : Bool) : isB (bI b) = true := by cases b <;> decide
theorem bI_t : bI true = 1 := rfl
theorem bI_f : bI false = 0 := rfl
theorem bI_0 (b : Bool) : bI b = 0 ↔ b = false := by cases b <;> decide
theorem bI_1 (b : Bool) : bI b = 1 ↔ b = true := by cases b <;> decide
-- masks of sums
theorem w16_add (n k : Nat) : (w16 n + nI k) &&& 65535 = w16 (n + k) := by
  unfold w16
  rw [nI_add, and65535]
  unfold w16
  congr 1
  omega
theorem w16_sub (n k : Nat) : (w16 n - nI k) &&& 65535 = w16 (n + (65536 - k % 65536)) := by
  unfold w16
  rw [sub_nI, and65535]
  unfold w16
  congr 1
  omega
theorem w16_and (n : Nat) : w16 n &&& 65535 = w16 n := by
  unfold w16
  rw [and65535]
  unfold w16
  congr 1
  omega
theorem w8_and (n : Nat) : w8 n &&& 255 = w8 n := by
  unfold w8
  rw [and255]
  unfold w8
  congr 1
  omega
theorem w8_and16 (n : Nat) : w8 n &&& 65535 = w8 n := by
  unfold w8
  rw [and65535]
  unfold w16
  congr 1
  omega
theorem w16_and8 (n : Nat) : w16 n &&& 255 = w8 n := by
  unfold w16
  rw [and255]
  unfold w8
  congr 1
  omega
theorem w8_cong {a b : Nat} (h : a % 256 = b % 256) : w8 a = w8 b := by unfold w8; rw [h]
theorem w16_cong {a b : Nat} (h : a % 65536 = b % 65536) : w16 a = w16 b := by unfold w16; rw [h]
theorem w16_ok (n : Nat) : okI (w16 n &&& 4095) 4096 = true := ok4096 _
theorem w16_cl (n : Nat) : (w16 n &&& 4095).toNatClampNeg = n % 4096 := by
  unfold w16
  rw [cl4096]
  omega
theorem w16_ok1 (n k : Nat) : okI ((w16 n + nI k) &&& 4095) 4096 = true := by
  unfold w16
  rw [nI_add]
  exact ok4096 _
theorem w16_cl1 (n k : Nat) : ((w16 n + nI k) &&& 4095).toNatClampNeg = (n + k) % 4096 := by
  unfold w16
  rw [nI_add, cl4096]
  omega
theorem shr_nI {n k : Nat} (h : n < 2147483648) (hk : k < 32) : nI n >>> (nI k &&& 31) = nI (n / 2 ^ k) := pk_shrN h _ k ((by decide +kernel : ∀ k, k < 32 → ((nI k &&& 31).toBitVec.smod 32).toNat = k) k hk)
theorem shl_nI {n k : Nat} (h : n * 2 ^ k < 4294967296) (hk : k < 32) : nI n <<< (nI k &&& 31) = nI (n * 2 ^ k) := pk_shlN _ k ((by decide +kernel : ∀ k, k < 32 → ((nI k &&& 31).toBitVec.smod 32).toNat = k) k hk) h
theorem or_add (a b : Nat) (hb : b < 256) : a * 256 ||| b = 256 * a + b := by
  have h := Nat.shiftLeft_add_eq_or_of_lt (i := 8) (b := b) hb a
  rw [Nat.shiftLeft_eq, show 2 ^ 8 = 256 from rfl] at h
  omega
/-- a word out of two bytes, as the class has it and as the reference has it -/
def hl (a b : Nat) : Nat := 256 * (a % 256) + b % 256
theorem hl_c (a b : Nat) : (w8 a <<< ((8 : Int32) &&& 31)) ||| w8 b = w16 (hl a b) := by
  unfold w8 w16 hl
  rw [show ((8 : Int32) &&& 31) = (nI 8 &&& 31) from rfl, shl_nI (by omega) (by decide), or_nI, show 2 ^ 8 = 256 from rfl, or_add _ _ (by omega)]
  congr 1
  omega
theorem hl_m (a b : Nat) : (256 : Int32) * w8 a + w8 b = w16 (hl a b) := by
  unfold w8 w16 hl
  rw [show (256 : Int32) = nI 256 from rfl, pk_mul, nI_add]
  congr 1
  omega
theorem shr8_w16 (n : Nat) : w16 n >>> ((8 : Int32) &&& 31) = w8 (n / 256) := by
  unfold w8 w16
  rw [show ((8 : Int32) &&& 31) = (nI 8 &&& 31) from rfl, shr_nI (by omega) (by decide)]
  congr 1
  omega
