abbrev kk (k : Nat) : Prop := 2 ≤ k ∧ k ≤ 5
theorem kk_c {k : Nat} (h : kk k) : k = 2 ∨ k = 3 ∨ k = 4 ∨ k = 5 := by omega
theorem kk_ok {k : Nat} (h : kk k) : okI (nI k) 9 = true := ok_nI (by omega) (by decide)
theorem kk_cl {k : Nat} (h : kk k) : (nI k).toNatClampNeg = k := nI_clamp (by omega)
theorem c_getk (a : AS) {k : Nat} (h : kk k) : re_get (mC a) (nI k) = some (nI (gR a k % 65536), mC a) := by
  rcases kk_c h with rfl | rfl | rfl | rfl
  · exact c_get2 a
  · exact c_get3 a
  · exact c_get4 a
  · exact c_get5 a
theorem c_setk (a : AS) {k : Nat} (h : kk k) (v : Nat) : re_set (mC a) (nI k) (nI v) = some (nI 0, mC (sR a k v)) := by
  rcases kk_c h with rfl | rfl | rfl | rfl
  · exact c_set2 a v
  · exact c_set3 a v
  · exact c_set4 a v
  · exact c_set5 a v
theorem m_regk (a : AS) (b : Nat → Int32) (u : Bool) {k : Nat} (h : kk k) : mx_reg (mM a b u) k = nI (gR a k % 65536) := by
  rcases kk_c h with rfl | rfl | rfl | rfl <;> rfl
theorem m_setk (a : AS) (b : Nat → Int32) (u : Bool) {k : Nat} (h : kk k) (v : Nat) : my_reg (mM a b u) (upd (mx_reg (mM a b u)) k (nI (v % 65536))) = mM (sR a k v) b u := by
  rcases kk_c h with rfl | rfl | rfl | rfl
  · exact m_set2 a b u v
  · exact m_set3 a b u v
  · exact m_set4 a b u v
  · exact m_set5 a b u v
/-- what an address leaves as it was -/
def kp (a z : AS) : Prop := gR z 0 = gR a 0 ∧ gR z 1 = gR a 1 ∧ gR z 7 = gR a 7 ∧ gR z 8 = gR a 8
theorem kp_rf (a : AS) : kp a a := ⟨rfl, rfl, rfl, rfl⟩
theorem kp_6 {a z : AS} (h : kp a z) (v : Nat) : kp a (sR z 6 v) := h
theorem kp_k {a z : AS} (h : kp a z) {k : Nat} (hk : kk k) (v : Nat) : kp a (sR z k v) := by
  obtain ⟨h1, h2, h3, h4⟩ := h
  refine ⟨?_, ?_, ?_, ?_⟩
  · rw [gR_sR, if_neg (by omega)]; exact h1
  · rw [gR_sR, if_neg (by omega)]; exact h2
  · rw [gR_sR, if_neg (by omega)]; exact h3
  · rw [gR_sR, if_neg (by omega)]; exact h4
theorem kp_tr {a z y : AS} (h : kp a z) (g : kp z y) : kp a y := ⟨g.1.trans h.1, g.2.1.trans h.2.1, g.2.2.1.trans h.2.2.1, g.2.2.2.trans h.2.2.2⟩
abbrev PQ (a : AS) : Nat → AS → Prop := fun n z => n < 65536 ∧ kp a z
theorem and_x (x : Int32) : x &&& 65535 = nI (x.toBitVec.toNat % 65536) := by
  have h := and65535 x.toBitVec.toNat
  rw [← nI_self x] at h
  exact h
theorem sgb : ∀ v, v < 256 → (if nI v < (128 : Int32) then nI v else nI v - (256 : Int32)) = (nI v).toInt8.toInt32 := by decide +kernel
theorem m_signed (s : MS) (v : Nat) (hv : v < 256) : mo_signed s (nI v) = some ((nI v).toInt8.toInt32, s) := by
  have h : mo_signed s (nI v) = if nI v < (128 : Int32) then some (nI v, s) else some (nI v - (256 : Int32), s) := rfl
  rw [h, ← sgb v hv]
  split <;> rfl
theorem my_und0 (a : AS) (b : Nat → Int32) (u : Bool) : my_und (mM a b u) 0 = mM a b false := rfl
theorem my_und1 (a : AS) (b : Nat → Int32) (u : Bool) : my_und (mM a b u) 1 = mM a b true := rfl
def tailC (p : Int32) (x : Int32) (s : CS) : Option (Int32 × CS) := nm (x &&& (65535 : Int32)) fun v4 => if (p &&& (16 : Int32)) = 0 then tc_indexedAddress_77 s v4 else (bd (me_wordAt s v4) fun v5 s3 => tc_indexedAddress_77 s3 v5)
theorem rl_tail {a z : AS} {b : Nat → Int32} {p : Int32} {x y : Int32} {i : Bool} (hi : (p &&& (16 : Int32) = 0) ↔ i = false) (hxy : x &&& (65535 : Int32) = y &&& (65535 : Int32)) (hk : kp a z) : Rl (PQ a) b false (tailC p x (mC z)) (mo_byPostbyte_327 (mM z b false) y (bI i)) := by
  unfold tailC mo_byPostbyte_327
  rw [nm_d, nm_d, ← hxy, and_x]
  refine rl_if (hi.trans (bI_0 i).symm) (fun _ => ?_) (fun _ => ?_)
  · exact ⟨_, z, rfl, rfl, Nat.mod_lt _ (by decide), hk⟩
  · rw [c_wordAt, bd_s, m_readWord, bd_s]
    exact ⟨_, z, rfl, rfl, hl_lt _ _, hk⟩
theorem fB_lt (a : AS) : fB a < 256 := Nat.mod_lt _ (by decide)
theorem fW_lt (a : AS) : fW a < 65536 := hl_lt _ _
theorem rl_k4 (a : AS) (b : Nat → Int32) (u : Bool) (p : Int32) (i : Bool) {k : Nat} (hk : kk k) (hi : (p &&& (16 : Int32) = 0) ↔ i = false) : Rl (PQ a) b false (bd (tc_addressByKind (mC a) 4 (nI k)) fun v3 s2 => tailC p v3 s2) (mo_byPostbyte_63 (mM a b u) p (nI k) 4 (nI (gR a k % 65536)) (bI i)) := by
  have h1 : ∀ (s : CS) (K : Int32), tc_addressByKind s 4 K = bd (re_get s K) fun v1 s1 => some (v1, s1) := fun _ _ => rfl
  have h2 : ∀ (s : MS) (P K AT IND : Int32), mo_byPostbyte_63 s P K 4 AT IND = mo_byPostbyte_327 (my_und s 0) AT IND := fun _ _ _ _ _ => rfl
  rw [h1, c_getk a hk, bd_s]
  rw [bd_s, h2, my_und0]
  exact rl_tail hi rfl (kp_rf a)
theorem rl_k0 (a : AS) (b : Nat → Int32) (u : Bool) (p : Int32) (i : Bool) {k : Nat} (hk : kk k) (hi : (p &&& (16 : Int32) = 0) ↔ i = false) (h0 : i = false) : Rl (PQ a) b false (bd (tc_addressByKind (mC a) 0 (nI k)) fun v3 s2 => tailC p v3 s2) (mo_byPostbyte_63 (mM a b u) p (nI k) 0 (nI (gR a k % 65536)) (bI i)) := by
  have h1 : ∀ (s : CS) (K : Int32), tc_addressByKind s 0 K = bd (re_get s K) fun v1 s1 => bd (re_set s1 K (v1 + 1)) fun _ s2 => some (v1, s2) := fun _ _ => rfl
  have h2 : ∀ (s : MS) (P K AT IND : Int32), mo_byPostbyte_63 s P K 0 AT 0 = gd (okI K 9) (mo_byPostbyte_327 (my_reg (my_und s 0) (upd (mx_reg (my_und s 0)) K.toNatClampNeg (((AT + 0) + 1) &&& 65535))) AT 0) := fun _ _ _ _ _ => rfl
  rw [h1, c_getk a hk, bd_s]
  rw [show (1 : Int32) = nI 1 from rfl, nI_add, c_setk a hk, bd_s, bd_s]
  subst h0
  rw [bI_f]
  rw [h2 (IND := 0), my_und0, kk_ok hk, gd_t, kk_cl hk, show nI (gR a k % 65536) + (0 : Int32) + 1 = nI (gR a k % 65536 + 1) by rw [show (0 : Int32) = nI 0 from rfl, show (1 : Int32) = nI 1 from rfl, nI_add, nI_add], and65535]
  unfold w16
  rw [m_setk a b false hk]
  exact rl_tail (i := false) hi rfl (kp_k (kp_rf a) hk _)
theorem rl_k1 (a : AS) (b : Nat → Int32) (u : Bool) (p : Int32) (i : Bool) {k : Nat} (hk : kk k) (hi : (p &&& (16 : Int32) = 0) ↔ i = false) : Rl (PQ a) b false (bd (tc_addressByKind (mC a) 1 (nI k)) fun v3 s2 => tailC p v3 s2) (mo_byPostbyte_63 (mM a b u) p (nI k) 1 (nI (gR a k % 65536)) (bI i)) := by
  have h1 : ∀ (s : CS) (K : Int32), tc_addressByKind s 1 K = bd (re_get s K) fun v1 s1 => bd (re_set s1 K (v1 + 2)) fun _ s2 => some (v1, s2) := fun _ _ => rfl
  have h2 : ∀ (s : MS) (P K AT IND : Int32), mo_byPostbyte_63 s P K 1 AT IND = gd (okI K 9) (mo_byPostbyte_327 (my_reg (my_und s 0) (upd (mx_reg (my_und s 0)) K.toNatClampNeg (((AT + 1) + 1) &&& 65535))) AT IND) := fun _ _ _ _ _ => rfl
  rw [h1, c_getk a hk, bd_s]
  rw [show (2 : Int32) = nI 2 from rfl, nI_add, c_setk a hk, bd_s, bd_s]
  rw [h2, my_und0, kk_ok hk, gd_t, kk_cl hk, show nI (gR a k % 65536) + (1 : Int32) + 1 = nI (gR a k % 65536 + 2) by rw [show (1 : Int32) = nI 1 from rfl, nI_add, nI_add], and65535]
  unfold w16
  rw [m_setk a b false hk]
  exact rl_tail hi rfl (kp_k (kp_rf a) hk _)
theorem rl_k2 (a : AS) (b : Nat → Int32) (u : Bool) (p : Int32) (i : Bool) {k : Nat} (hk : kk k) (hi : (p &&& (16 : Int32) = 0) ↔ i = false) (h0 : i = false) : Rl (PQ a) b false (bd (tc_addressByKind (mC a) 2 (nI k)) fun v3 s2 => tailC p v3 s2) (mo_byPostbyte_63 (mM a b u) p (nI k) 2 (nI (gR a k % 65536)) (bI i)) := by
  have h1 : ∀ (s : CS) (K : Int32), tc_addressByKind s 2 K = bd (re_get s K) fun v1 s1 => bd (re_set s1 K (v1 - 1)) fun _ s2 => some (v1 - 1, s2) := fun _ _ => rfl
  have h2 : ∀ (s : MS) (P K AT IND : Int32), mo_byPostbyte_63 s P K 2 AT 0 = gd (okI K 9) (mo_byPostbyte_327 (my_reg (my_und s 0) (upd (mx_reg (my_und s 0)) K.toNatClampNeg (((AT - 2) + 1) &&& 65535))) (((AT - 2) + 1) &&& 65535) 0) := fun _ _ _ _ _ => rfl
  rw [h1, c_getk a hk, bd_s]
  rw [show (1 : Int32) = nI 1 from rfl, sub_nI, c_setk a hk, bd_s, bd_s]
  subst h0
  rw [bI_f]
  have e1 : ((nI (gR a k % 65536) - (2 : Int32)) + 1) &&& 65535 = nI ((gR a k % 65536 + (4294967296 - 1 % 4294967296)) % 65536) := by
    rw [show nI (gR a k % 65536) - (2 : Int32) + 1 = nI (gR a k % 65536) - nI 1 by rw [show (2 : Int32) = nI 1 + 1 from rfl]; grind, sub_nI, and65535]
    rfl
  rw [h2 (IND := 0), my_und0, kk_ok hk, gd_t, kk_cl hk, e1, m_setk a b false hk]
  refine rl_tail (i := false) hi ?_ (kp_k (kp_rf a) hk _)
  rw [and65535, and65535]
  unfold w16
  rw [Nat.mod_mod]
theorem rl_k3 (a : AS) (b : Nat → Int32) (u : Bool) (p : Int32) (i : Bool) {k : Nat} (hk : kk k) (hi : (p &&& (16 : Int32) = 0) ↔ i = false) : Rl (PQ a) b false (bd (tc_addressByKind (mC a) 3 (nI k)) fun v3 s2 => tailC p v3 s2) (mo_byPostbyte_63 (mM a b u) p (nI k) 3 (nI (gR a k % 65536)) (bI i)) := by
  have h1 : ∀ (s : CS) (K : Int32), tc_addressByKind s 3 K = bd (re_get s K) fun v1 s1 => bd (re_set s1 K (v1 - 2)) fun _ s2 => some (v1 - 2, s2) := fun _ _ => rfl
  have h2 : ∀ (s : MS) (P K AT IND : Int32), mo_byPostbyte_63 s P K 3 AT IND = gd (okI K 9) (mo_byPostbyte_327 (my_reg (my_und s 0) (upd (mx_reg (my_und s 0)) K.toNatClampNeg (((AT - 3) + 1) &&& 65535))) (((AT - 3) + 1) &&& 65535) IND) := fun _ _ _ _ _ => rfl
  rw [h1, c_getk a hk, bd_s]
  rw [show (2 : Int32) = nI 2 from rfl, sub_nI, c_setk a hk, bd_s, bd_s]
  have e1 : ((nI (gR a k % 65536) - (3 : Int32)) + 1) &&& 65535 = nI ((gR a k % 65536 + (4294967296 - 2 % 4294967296)) % 65536) := by
    rw [show nI (gR a k % 65536) - (3 : Int32) + 1 = nI (gR a k % 65536) - nI 2 by rw [show (3 : Int32) = nI 2 + 1 from rfl]; grind, sub_nI, and65535]
    rfl
  rw [h2, my_und0, kk_ok hk, gd_t, kk_cl hk, e1, m_setk a b false hk]
  refine rl_tail hi ?_ (kp_k (kp_rf a) hk _)
  rw [and65535, and65535]
  unfold w16
  rw [Nat.mod_mod]
theorem h1_5 (s : CS) (K : Int32) : tc_addressByKind s 5 K = bd (re_get s K) fun v1 s1 => bd (re_get s1 1) fun v2 s6 => some (v1 + v2.toInt8.toInt32, s6) := rfl
theorem g1_5 (s : MS) (P K AT IND : Int32) : mo_byPostbyte_63 s P K 5 AT IND = mo_byPostbyte_116 s K 5 AT IND 0 := rfl
theorem g2_5 (s : MS) (K AT IND : Int32) : mo_byPostbyte_116 s K 5 AT IND 0 = mo_byPostbyte_177 (my_und s 0) 5 AT IND := by
  unfold mo_byPostbyte_116 mo_byPostbyte_148
  rw [show isB 0 = true from rfl, gd_t, ns_d, if_pos (show mx_und (my_und s 0) = 0 from rfl), if_pos (by decide), if_neg (by decide), if_neg (by decide)]
theorem g3_5 (s : MS) (AT IND : Int32) : mo_byPostbyte_177 s 5 AT IND = mo_byPostbyte_210 s 5 IND (mx_reg s 1) AT := rfl
theorem g4_5 (s : MS) (AT IND : Int32) : mo_byPostbyte_216 s 5 AT IND = mo_byPostbyte_327 s AT IND := by
  unfold mo_byPostbyte_216 mo_byPostbyte_234 mo_byPostbyte_249 mo_byPostbyte_264 mo_byPostbyte_291 mo_byPostbyte_315
  rw [if_neg (by decide), if_neg (by decide), if_neg (by decide), if_neg (by decide), if_neg (by decide), if_neg (by decide)]
theorem rl_k5 (a : AS) (b : Nat → Int32) (u : Bool) (p : Int32) (i : Bool) {k : Nat} (hk : kk k) (hi : (p &&& (16 : Int32) = 0) ↔ i = false) : Rl (PQ a) b false (bd (tc_addressByKind (mC a) 5 (nI k)) fun v3 s2 => tailC p v3 s2) (mo_byPostbyte_63 (mM a b u) p (nI k) 5 (nI (gR a k % 65536)) (bI i)) := by
  rw [h1_5, c_getk a hk, bd_s]
  rw [c_get1, bd_s, bd_s, g1_5, g2_5, my_und0, g3_5, m_reg1]
  unfold mo_byPostbyte_210
  rw [m_signed _ _ (Nat.mod_lt _ (by decide)), bd_s, nm_d, g4_5]
  exact rl_tail hi rfl (kp_rf a)
theorem h1_6 (s : CS) (K : Int32) : tc_addressByKind s 6 K = bd (re_get s K) fun v1 s1 => bd (re_get s1 0) fun v2 s6 => some (v1 + v2.toInt8.toInt32, s6) := rfl
theorem g1_6 (s : MS) (P K AT IND : Int32) : mo_byPostbyte_63 s P K 6 AT IND = mo_byPostbyte_116 s K 6 AT IND 0 := rfl
theorem g2_6 (s : MS) (K AT IND : Int32) : mo_byPostbyte_116 s K 6 AT IND 0 = mo_byPostbyte_177 (my_und s 0) 6 AT IND := by
  unfold mo_byPostbyte_116 mo_byPostbyte_148
  rw [show isB 0 = true from rfl, gd_t, ns_d, if_pos (show mx_und (my_und s 0) = 0 from rfl), if_pos (by decide), if_neg (by decide), if_neg (by decide)]
theorem g3_6 (s : MS) (AT IND : Int32) : mo_byPostbyte_177 s 6 AT IND = mo_byPostbyte_210 s 6 IND (mx_reg s 0) AT := rfl
theorem g4_6 (s : MS) (AT IND : Int32) : mo_byPostbyte_216 s 6 AT IND = mo_byPostbyte_327 s AT IND := by
  unfold mo_byPostbyte_216 mo_byPostbyte_234 mo_byPostbyte_249 mo_byPostbyte_264 mo_byPostbyte_291 mo_byPostbyte_315
  rw [if_neg (by decide), if_neg (by decide), if_neg (by decide), if_neg (by decide), if_neg (by decide), if_neg (by decide)]
theorem rl_k6 (a : AS) (b : Nat → Int32) (u : Bool) (p : Int32) (i : Bool) {k : Nat} (hk : kk k) (hi : (p &&& (16 : Int32) = 0) ↔ i = false) : Rl (PQ a) b false (bd (tc_addressByKind (mC a) 6 (nI k)) fun v3 s2 => tailC p v3 s2) (mo_byPostbyte_63 (mM a b u) p (nI k) 6 (nI (gR a k % 65536)) (bI i)) := by
  rw [h1_6, c_getk a hk, bd_s]
  rw [c_get0, bd_s, bd_s, g1_6, g2_6, my_und0, g3_6, m_reg0]
  unfold mo_byPostbyte_210
  rw [m_signed _ _ (Nat.mod_lt _ (by decide)), bd_s, nm_d, g4_6]
  exact rl_tail hi rfl (kp_rf a)
theorem h1_8 (s : CS) (K : Int32) : tc_addressByKind s 8 K = bd (re_get s K) fun v1 s1 => bd (tc_fetchByte s1) fun v4 s8 => some (v1 + v4.toInt8.toInt32, s8) := rfl
theorem g1_8 (s : MS) (P K AT IND : Int32) : mo_byPostbyte_63 s P K 8 AT IND = mo_byPostbyte_116 s K 8 AT IND 0 := rfl
theorem g2_8 (s : MS) (K AT IND : Int32) : mo_byPostbyte_116 s K 8 AT IND 0 = mo_byPostbyte_177 (my_und s 0) 8 AT IND := by
  unfold mo_byPostbyte_116 mo_byPostbyte_148
  rw [show isB 0 = true from rfl, gd_t, ns_d, if_pos (show mx_und (my_und s 0) = 0 from rfl), if_pos (by decide), if_neg (by decide), if_neg (by decide)]
theorem g3_8 (s : MS) (AT IND : Int32) : mo_byPostbyte_177 s 8 AT IND = mo_byPostbyte_216 s 8 AT IND := by
  unfold mo_byPostbyte_177
  rw [if_neg (by decide), if_neg (by decide)]
theorem g4_8 (s : MS) (AT IND : Int32) : mo_byPostbyte_216 s 8 AT IND = bd (mo_next s) fun v1 s1 => bd (mo_signed s1 v1) fun v2 s2 => nm (AT + v2) fun v3 => mo_byPostbyte_234 s2 8 v3 IND := rfl
theorem g5_8 (s : MS) (AT IND : Int32) : mo_byPostbyte_234 s 8 AT IND = mo_byPostbyte_327 s AT IND := by
  unfold mo_byPostbyte_234 mo_byPostbyte_249 mo_byPostbyte_264 mo_byPostbyte_291 mo_byPostbyte_315
  rw [if_neg (by decide), if_neg (by decide), if_neg (by decide), if_neg (by decide), if_neg (by decide)]
theorem rl_k8 (a : AS) (b : Nat → Int32) (u : Bool) (p : Int32) (i : Bool) {k : Nat} (hk : kk k) (hi : (p &&& (16 : Int32) = 0) ↔ i = false) : Rl (PQ a) b false (bd (tc_addressByKind (mC a) 8 (nI k)) fun v3 s2 => tailC p v3 s2) (mo_byPostbyte_63 (mM a b u) p (nI k) 8 (nI (gR a k % 65536)) (bI i)) := by
  rw [h1_8, c_getk a hk, bd_s]
  rw [c_fetchByte, bd_s, bd_s, g1_8, g2_8, my_und0, g3_8, g4_8, m_next, bd_s, m_signed _ _ (fB_lt a), bd_s, nm_d, g5_8]
  exact rl_tail hi rfl (kp_6 (kp_rf a) _)
theorem h1_9 (s : CS) (K : Int32) : tc_addressByKind s 9 K = bd (re_get s K) fun v1 s1 => bd (tc_fetchWord s1) fun v5 s9 => some (v1 + v5, s9) := rfl
theorem g1_9 (s : MS) (P K AT IND : Int32) : mo_byPostbyte_63 s P K 9 AT IND = mo_byPostbyte_116 s K 9 AT IND 0 := rfl
theorem g2_9 (s : MS) (K AT IND : Int32) : mo_byPostbyte_116 s K 9 AT IND 0 = mo_byPostbyte_177 (my_und s 0) 9 AT IND := by
  unfold mo_byPostbyte_116 mo_byPostbyte_148
  rw [show isB 0 = true from rfl, gd_t, ns_d, if_pos (show mx_und (my_und s 0) = 0 from rfl), if_pos (by decide), if_neg (by decide), if_neg (by decide)]
theorem g3_9 (s : MS) (AT IND : Int32) : mo_byPostbyte_177 s 9 AT IND = mo_byPostbyte_234 s 9 AT IND := by
  unfold mo_byPostbyte_177 mo_byPostbyte_216
  rw [if_neg (by decide), if_neg (by decide), if_neg (by decide)]
theorem g4_9 (s : MS) (AT IND : Int32) : mo_byPostbyte_234 s 9 AT IND = bd (mo_nextWord s) fun v1 s1 => nm (AT + v1) fun v2 => mo_byPostbyte_249 s1 9 v2 IND := rfl
theorem g5_9 (s : MS) (AT IND : Int32) : mo_byPostbyte_249 s 9 AT IND = mo_byPostbyte_327 s AT IND := by
  unfold mo_byPostbyte_249 mo_byPostbyte_264 mo_byPostbyte_291 mo_byPostbyte_315
  rw [if_neg (by decide), if_neg (by decide), if_neg (by decide), if_neg (by decide)]
theorem rl_k9 (a : AS) (b : Nat → Int32) (u : Bool) (p : Int32) (i : Bool) {k : Nat} (hk : kk k) (hi : (p &&& (16 : Int32) = 0) ↔ i = false) : Rl (PQ a) b false (bd (tc_addressByKind (mC a) 9 (nI k)) fun v3 s2 => tailC p v3 s2) (mo_byPostbyte_63 (mM a b u) p (nI k) 9 (nI (gR a k % 65536)) (bI i)) := by
  rw [h1_9, c_getk a hk, bd_s]
  rw [c_fetchWord, bd_s, bd_s, g1_9, g2_9, my_und0, g3_9, g4_9, m_nextWord, bd_s, nm_d, g5_9]
  exact rl_tail hi rfl (kp_6 (kp_rf a) _)
theorem h1_11 (s : CS) (K : Int32) : tc_addressByKind s 11 K = bd (re_get s K) fun v1 s1 => bd (re_get s1 9) fun v6 s10 => some (v1 + v6, s10) := rfl
theorem g1_11 (s : MS) (P K AT IND : Int32) : mo_byPostbyte_63 s P K 11 AT IND = mo_byPostbyte_116 s K 11 AT IND 0 := rfl
theorem g2_11 (s : MS) (K AT IND : Int32) : mo_byPostbyte_116 s K 11 AT IND 0 = mo_byPostbyte_177 (my_und s 0) 11 AT IND := by
  unfold mo_byPostbyte_116 mo_byPostbyte_148
  rw [show isB 0 = true from rfl, gd_t, ns_d, if_pos (show mx_und (my_und s 0) = 0 from rfl), if_pos (by decide), if_neg (by decide), if_neg (by decide)]
theorem g3_11 (s : MS) (AT IND : Int32) : mo_byPostbyte_177 s 11 AT IND = mo_byPostbyte_249 s 11 AT IND := by
  unfold mo_byPostbyte_177 mo_byPostbyte_216 mo_byPostbyte_234
  rw [if_neg (by decide), if_neg (by decide), if_neg (by decide), if_neg (by decide)]
theorem g4_11 (s : MS) (AT IND : Int32) : mo_byPostbyte_249 s 11 AT IND = bd (mo_d s) fun v1 s1 => nm (AT + v1) fun v2 => mo_byPostbyte_264 s1 11 v2 IND := rfl
theorem g5_11 (s : MS) (AT IND : Int32) : mo_byPostbyte_264 s 11 AT IND = mo_byPostbyte_327 s AT IND := by
  unfold mo_byPostbyte_264 mo_byPostbyte_291 mo_byPostbyte_315
  rw [if_neg (by decide), if_neg (by decide), if_neg (by decide)]
theorem rl_k11 (a : AS) (b : Nat → Int32) (u : Bool) (p : Int32) (i : Bool) {k : Nat} (hk : kk k) (hi : (p &&& (16 : Int32) = 0) ↔ i = false) : Rl (PQ a) b false (bd (tc_addressByKind (mC a) 11 (nI k)) fun v3 s2 => tailC p v3 s2) (mo_byPostbyte_63 (mM a b u) p (nI k) 11 (nI (gR a k % 65536)) (bI i)) := by
  rw [h1_11, c_getk a hk, bd_s]
  rw [c_get9, bd_s, bd_s, g1_11, g2_11, my_und0, g3_11, g4_11, m_d, bd_s, nm_d, g5_11]
  exact rl_tail hi rfl (kp_rf a)
theorem h1_12 (s : CS) (K : Int32) : tc_addressByKind s 12 K = bd (re_get s K) fun v1 s1 => bd (tc_fetchByte s1) fun v7 s11 => bd (re_get s11 6) fun v9 s12 => some (v9 + v7.toInt8.toInt32, s12) := rfl
theorem g1_12 (s : MS) (P K AT IND : Int32) : mo_byPostbyte_63 s P K 12 AT IND = mo_byPostbyte_116 s K 12 AT IND 0 := rfl
theorem g2_12 (s : MS) (K AT IND : Int32) : mo_byPostbyte_116 s K 12 AT IND 0 = mo_byPostbyte_177 (my_und s 0) 12 AT IND := by
  unfold mo_byPostbyte_116 mo_byPostbyte_148
  rw [show isB 0 = true from rfl, gd_t, ns_d, if_pos (show mx_und (my_und s 0) = 0 from rfl), if_pos (by decide), if_neg (by decide), if_neg (by decide)]
theorem g3_12 (s : MS) (AT IND : Int32) : mo_byPostbyte_177 s 12 AT IND = mo_byPostbyte_264 s 12 AT IND := by
  unfold mo_byPostbyte_177 mo_byPostbyte_216 mo_byPostbyte_234 mo_byPostbyte_249
  rw [if_neg (by decide), if_neg (by decide), if_neg (by decide), if_neg (by decide), if_neg (by decide)]
theorem g4_12 (s : MS) (AT IND : Int32) : mo_byPostbyte_264 s 12 AT IND = bd (mo_next s) fun v1 s1 => bd (mo_signed s1 v1) fun v2 s2 => nm ((mx_reg s2 6) + v2) fun v3 => mo_byPostbyte_291 s2 12 v3 IND := rfl
theorem g5_12 (s : MS) (AT IND : Int32) : mo_byPostbyte_291 s 12 AT IND = mo_byPostbyte_327 s AT IND := by
  unfold mo_byPostbyte_291 mo_byPostbyte_315
  rw [if_neg (by decide), if_neg (by decide)]
theorem rl_k12 (a : AS) (b : Nat → Int32) (u : Bool) (p : Int32) (i : Bool) {k : Nat} (hk : kk k) (hi : (p &&& (16 : Int32) = 0) ↔ i = false) : Rl (PQ a) b false (bd (tc_addressByKind (mC a) 12 (nI k)) fun v3 s2 => tailC p v3 s2) (mo_byPostbyte_63 (mM a b u) p (nI k) 12 (nI (gR a k % 65536)) (bI i)) := by
  rw [h1_12, c_getk a hk, bd_s]
  rw [c_fetchByte, bd_s, c_get6, bd_s, bd_s, g1_12, g2_12, my_und0, g3_12, g4_12, m_next, bd_s, m_signed _ _ (fB_lt a), bd_s, nm_d, m_reg6, g5_12]
  exact rl_tail hi rfl (kp_6 (kp_rf a) _)
theorem h1_13 (s : CS) (K : Int32) : tc_addressByKind s 13 K = bd (re_get s K) fun v1 s1 => bd (tc_fetchWord s1) fun v10 s13 => bd (re_get s13 6) fun v11 s14 => some (v11 + v10, s14) := rfl
theorem g1_13 (s : MS) (P K AT IND : Int32) : mo_byPostbyte_63 s P K 13 AT IND = mo_byPostbyte_116 s K 13 AT IND 0 := rfl
theorem g2_13 (s : MS) (K AT IND : Int32) : mo_byPostbyte_116 s K 13 AT IND 0 = mo_byPostbyte_177 (my_und s 0) 13 AT IND := by
  unfold mo_byPostbyte_116 mo_byPostbyte_148
  rw [show isB 0 = true from rfl, gd_t, ns_d, if_pos (show mx_und (my_und s 0) = 0 from rfl), if_pos (by decide), if_neg (by decide), if_neg (by decide)]
theorem g3_13 (s : MS) (AT IND : Int32) : mo_byPostbyte_177 s 13 AT IND = mo_byPostbyte_291 s 13 AT IND := by
  unfold mo_byPostbyte_177 mo_byPostbyte_216 mo_byPostbyte_234 mo_byPostbyte_249 mo_byPostbyte_264
  rw [if_neg (by decide), if_neg (by decide), if_neg (by decide), if_neg (by decide), if_neg (by decide), if_neg (by decide)]
theorem g4_13 (s : MS) (AT IND : Int32) : mo_byPostbyte_291 s 13 AT IND = bd (mo_nextWord s) fun v1 s1 => nm ((mx_reg s1 6) + v1) fun v2 => mo_byPostbyte_315 s1 13 v2 IND := rfl
theorem g5_13 (s : MS) (AT IND : Int32) : mo_byPostbyte_315 s 13 AT IND = mo_byPostbyte_327 s AT IND := by
  unfold mo_byPostbyte_315
  rw [if_neg (by decide)]
theorem rl_k13 (a : AS) (b : Nat → Int32) (u : Bool) (p : Int32) (i : Bool) {k : Nat} (hk : kk k) (hi : (p &&& (16 : Int32) = 0) ↔ i = false) : Rl (PQ a) b false (bd (tc_addressByKind (mC a) 13 (nI k)) fun v3 s2 => tailC p v3 s2) (mo_byPostbyte_63 (mM a b u) p (nI k) 13 (nI (gR a k % 65536)) (bI i)) := by
  rw [h1_13, c_getk a hk, bd_s]
  rw [c_fetchWord, bd_s, c_get6, bd_s, bd_s, g1_13, g2_13, my_und0, g3_13, g4_13, m_nextWord, bd_s, nm_d, m_reg6, g5_13]
  exact rl_tail hi rfl (kp_6 (kp_rf a) _)
theorem h1_15 (s : CS) (K : Int32) : tc_addressByKind s 15 K = bd (re_get s K) fun v1 s1 => bd (tc_fetchWord s1) fun v1 s1 => some (v1, s1) := rfl
theorem g1_15 (s : MS) (P K AT IND : Int32) : mo_byPostbyte_63 s 159 K 15 AT IND = mo_byPostbyte_116 s K 15 AT IND 0 := rfl
theorem g2_15 (s : MS) (K AT IND : Int32) : mo_byPostbyte_116 s K 15 AT IND 0 = mo_byPostbyte_177 (my_und s 0) 15 AT IND := by
  unfold mo_byPostbyte_116 mo_byPostbyte_148
  rw [show isB 0 = true from rfl, gd_t, ns_d, if_pos (show mx_und (my_und s 0) = 0 from rfl), if_pos (by decide), if_neg (by decide), if_neg (by decide)]
theorem g3_15 (s : MS) (AT IND : Int32) : mo_byPostbyte_177 s 15 AT IND = mo_byPostbyte_315 s 15 AT IND := by
  unfold mo_byPostbyte_177 mo_byPostbyte_216 mo_byPostbyte_234 mo_byPostbyte_249 mo_byPostbyte_264 mo_byPostbyte_291
  rw [if_neg (by decide), if_neg (by decide), if_neg (by decide), if_neg (by decide), if_neg (by decide), if_neg (by decide), if_neg (by decide)]
theorem g4_15 (s : MS) (AT IND : Int32) : mo_byPostbyte_315 s 15 AT IND = bd (mo_nextWord s) fun v1 s1 => mo_byPostbyte_327 s1 v1 IND := rfl
theorem rl_k15 (a : AS) (b : Nat → Int32) (u : Bool) (p : Int32) (i : Bool) {k : Nat} (hk : kk k) (hi : (p &&& (16 : Int32) = 0) ↔ i = false) (hp : p = 159) : Rl (PQ a) b false (bd (tc_addressByKind (mC a) 15 (nI k)) fun v3 s2 => tailC p v3 s2) (mo_byPostbyte_63 (mM a b u) p (nI k) 15 (nI (gR a k % 65536)) (bI i)) := by
  rw [h1_15, c_getk a hk, bd_s]
  subst hp
  rw [c_fetchWord, bd_s, bd_s, g1_15 (P := 0), g2_15, my_und0, g3_15, g4_15, m_nextWord, bd_s]
  exact rl_tail hi rfl (kp_6 (kp_rf a) _)
/-- a postbyte that is defined -/
def dpb (p : Nat) : Bool := decide (p < 128) || (decide (p = 159) || !(decide (p % 16 = 7) || decide (p % 16 = 10) || decide (p % 16 = 14) || decide (p % 16 = 15) || ((decide (p % 16 = 0) || decide (p % 16 = 2)) && decide (p / 16 % 2 = 1))))
theorem pb_lo : ∀ p, p < 128 → ((nI p &&& (31 : Int32)) ^^^ (16 : Int32)) - (16 : Int32) = (nI p &&& (31 : Int32)) - ((2 : Int32) * (nI p &&& (16 : Int32))) := by decide +kernel
theorem pb_k : ∀ p, p < 256 → (2 : Int32) + ((nI p >>> ((5 : Int32) &&& 31)) &&& (3 : Int32)) = nI (2 + p / 32 % 4) := by decide +kernel
theorem pb_15 : ∀ p, p < 256 → nI p &&& (15 : Int32) = nI (p % 16) := by decide +kernel
theorem pb_128 : ∀ p, p < 256 → ((128 : Int32) ≤ nI p ↔ 128 ≤ p) := by decide +kernel
theorem pb_16 : ∀ p, p < 256 → ((nI p &&& (16 : Int32) = 0) ↔ decide (p / 16 % 2 = 1) = false) := by decide +kernel
theorem m_post (a : AS) (b : Nat → Int32) (u : Bool) : mo_byPostbyte (mM a b u) = if (128 : Int32) ≤ nI (fB a) then mo_byPostbyte_63 (mM (fS a) b u) (nI (fB a)) (nI (2 + fB a / 32 % 4)) (nI (fB a % 16)) (nI (gR (fS a) (2 + fB a / 32 % 4) % 65536)) (bI (decide (fB a / 16 % 2 = 1))) else some (((nI (gR (fS a) (2 + fB a / 32 % 4) % 65536) + (nI (fB a) &&& 31)) - ((2 : Int32) * (nI (fB a) &&& 16))) &&& 65535, mM (fS a) b u) := by
  have hk : kk (2 + fB a / 32 % 4) := by constructor <;> omega
  unfold mo_byPostbyte
  rw [m_next, bd_s]
  simp only [nm_d]
  rw [pb_k _ (fB_lt a), pb_15 _ (fB_lt a), kk_ok hk, gd_t, kk_cl hk, m_regk _ _ _ hk]
  by_cases g : (128 : Int32) ≤ nI (fB a)
  · rw [if_pos g, if_pos g]
    by_cases h : fB a / 16 % 2 = 1
    · rw [if_neg (fun q => by rw [(pb_16 _ (fB_lt a))] at q; rw [decide_eq_true h] at q; cases q), decide_eq_true h]; rfl
    · rw [if_pos ((pb_16 _ (fB_lt a)).mpr (decide_eq_false h)), decide_eq_false h]; rfl
  · rw [if_neg g, if_neg g]
theorem c_post (a : AS) : tc_indexedAddress (mC a) = if (128 : Int32) ≤ nI (fB a) then (bd (tc_addressByKind (mC (fS a)) (nI (fB a % 16)) (nI (2 + fB a / 32 % 4))) fun v3 s2 => tailC (nI (fB a)) v3 s2) else some ((nI (gR (fS a) (2 + fB a / 32 % 4) % 65536) + (((nI (fB a) &&& 31) ^^^ 16) - 16)) &&& 65535, mC (fS a)) := by
  have hk : kk (2 + fB a / 32 % 4) := by constructor <;> omega
  unfold tc_indexedAddress
  rw [c_fetchByte, bd_s]
  simp only [nm_d]
  rw [pb_k _ (fB_lt a), pb_15 _ (fB_lt a), c_getk _ hk, bd_s]
  rfl
theorem rl_index (a : AS) (b : Nat → Int32) (hd : dpb (fB a) = true) : Rl (PQ a) b false (tc_indexedAddress (mC a)) (mo_byPostbyte (mM a b false)) := by
  rw [c_post, m_post]
  have hlt := fB_lt a
  have hk : kk (2 + fB a / 32 % 4) := by constructor <;> omega
  generalize hp : fB a = p at hlt hk hd
  have hkp : kp a (fS a) := kp_6 (kp_rf a) _
  refine rl_if Iff.rfl (fun h => ?_) (fun h => ?_)
  · have h2 := (pb_128 p hlt).mp h
    refine rl_imp (P := PQ (fS a)) ?_ (fun n z q => ⟨q.1, kp_tr hkp q.2⟩)
    have hi := pb_16 p hlt
    have key : ∀ κ : Nat, p % 16 = κ → Rl (PQ (fS a)) b false (bd (tc_addressByKind (mC (fS a)) (nI κ) (nI (2 + p / 32 % 4))) fun v3 s2 => tailC (nI p) v3 s2) (mo_byPostbyte_63 (mM (fS a) b false) (nI p) (nI (2 + p / 32 % 4)) (nI κ) (nI (gR (fS a) (2 + p / 32 % 4) % 65536)) (bI (decide (p / 16 % 2 = 1)))) := by
      intro κ hκ
      have hlt2 : κ < 16 := by omega
      unfold dpb at hd
      simp only [Bool.or_eq_true, Bool.not_eq_true', Bool.or_eq_false_iff, Bool.and_eq_false_iff, decide_eq_true_eq, decide_eq_false_iff_not, hκ] at hd
      have hc : κ = 0 ∨ κ = 1 ∨ κ = 2 ∨ κ = 3 ∨ κ = 4 ∨ κ = 5 ∨ κ = 6 ∨ κ = 8 ∨ κ = 9 ∨ κ = 11 ∨ κ = 12 ∨ κ = 13 ∨ (κ = 15 ∧ p = 159) := by omega
      rcases hc with rfl | rfl | rfl | rfl | rfl | rfl | rfl | rfl | rfl | rfl | rfl | rfl | ⟨rfl, hp2⟩
      · exact rl_k0 _ b false _ _ hk hi (decide_eq_false (by omega))
      · exact rl_k1 _ b false _ _ hk hi
      · exact rl_k2 _ b false _ _ hk hi (decide_eq_false (by omega))
      · exact rl_k3 _ b false _ _ hk hi
      · exact rl_k4 _ b false _ _ hk hi
      · exact rl_k5 _ b false _ _ hk hi
      · exact rl_k6 _ b false _ _ hk hi
      · exact rl_k8 _ b false _ _ hk hi
      · exact rl_k9 _ b false _ _ hk hi
      · exact rl_k11 _ b false _ _ hk hi
      · exact rl_k12 _ b false _ _ hk hi
      · exact rl_k13 _ b false _ _ hk hi
      · exact rl_k15 _ b false _ _ hk hi (by rw [hp2]; rfl)
    exact key _ rfl
  · have h2 : p < 128 := Nat.lt_of_not_le (fun z => h ((pb_128 p hlt).mpr z))
    rw [pb_lo p h2, show nI (gR (fS a) (2 + p / 32 % 4) % 65536) + ((nI p &&& 31) - ((2 : Int32) * (nI p &&& 16))) = nI (gR (fS a) (2 + p / 32 % 4) % 65536) + (nI p &&& 31) - ((2 : Int32) * (nI p &&& 16)) by grind, and_x]
    exact ⟨_, fS a, rfl, rfl, Nat.mod_lt _ (by decide), hkp⟩
/-- a postbyte that isn't: the reference says so and has changed PC alone -/
theorem m_post_un (a : AS) (b : Nat → Int32) (u : Bool) (hd : dpb (fB a) = false) : mo_byPostbyte (mM a b u) = some (nI 0, mM (fS a) b true) := by
  rw [m_post]
  have hlt := fB_lt a
  generalize hp : fB a = p at hlt hd
  have hpp : 128 ≤ p ∧ p ≠ 159 := by
    unfold dpb at hd
    simp only [Bool.or_eq_false_iff, decide_eq_false_iff_not] at hd
    omega
  rw [if_pos ((pb_128 p hlt).mpr hpp.1)]
  have key : ∀ κ : Nat, p % 16 = κ → ∀ K AT : Int32, mo_byPostbyte_63 (mM (fS a) b u) (nI p) K (nI κ) AT (bI (decide (p / 16 % 2 = 1))) = some (nI 0, mM (fS a) b true) := by
    intro κ hκ K AT
    unfold dpb at hd
    simp only [Bool.or_eq_false_iff, Bool.not_eq_false', Bool.or_eq_true, Bool.and_eq_true, decide_eq_true_eq, decide_eq_false_iff_not, hκ] at hd
    have hc : κ = 7 ∨ κ = 10 ∨ κ = 14 ∨ κ = 15 ∨ (κ = 0 ∧ p / 16 % 2 = 1) ∨ (κ = 2 ∧ p / 16 % 2 = 1) := by omega
    rcases hc with rfl | rfl | rfl | rfl | ⟨rfl, h1⟩ | ⟨rfl, h1⟩
    · rfl
    · rfl
    · rfl
    · have h3 : ∀ (s : MS) (P K AT IND : Int32), mo_byPostbyte_63 s P K (nI 15) AT IND = if P = 159 then mo_byPostbyte_115 s K 15 AT IND else some (nI 0, my_und s 1) := fun _ _ _ _ _ => rfl
      rw [h3, if_neg (fun q : nI p = (159 : Int32) => hpp.2 ((nI_eq (b := 159) (by omega) (by decide)).mp q))]
      rfl
    · rw [decide_eq_true h1]; rfl
    · rw [decide_eq_true h1]; rfl
  exact key _ rfl _ _
