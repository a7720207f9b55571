theorem mM_same (z : AS) (b : Nat → Int32) (u : Bool) (i : Nat) : mM (sM z i (gM z i % 256)) b u = mM z b u := by
  have e : (fun k => w8 (gM (sM z i (gM z i % 256)) k)) = fun k => w8 (gM z k) := by
    funext k
    rw [gM_sM]
    by_cases h : k = i
    · rw [if_pos h, h, w8_mod, w8_mod]
    · rw [if_neg h]
  show ((fun k => w8 (gM (sM z i (gM z i % 256)) k)), _) = _
  rw [e]
  rfl
theorem or5 {x : Nat} {p : Prop} (hp : p) (h : x = 1 ∨ x = 2 ∨ x = 5 ∨ x = 11 ∨ x = 14) : x = 1 ∨ x = 2 ∨ x = 5 ∨ x = 11 ∨ (x = 14 ∧ p) := by
  rcases h with h | h | h | h | h
  · exact Or.inl h
  · exact Or.inr (Or.inl h)
  · exact Or.inr (Or.inr (Or.inl h))
  · exact Or.inr (Or.inr (Or.inr (Or.inl h)))
  · exact Or.inr (Or.inr (Or.inr (Or.inr ⟨h, hp⟩)))
theorem or4 {x : Nat} {p : Prop} (h : x = 1 ∨ x = 2 ∨ x = 5 ∨ x = 11) : x = 1 ∨ x = 2 ∨ x = 5 ∨ x = 11 ∨ (x = 14 ∧ p) := by
  rcases h with h | h | h | h
  · exact Or.inl h
  · exact Or.inr (Or.inl h)
  · exact Or.inr (Or.inr (Or.inl h))
  · exact Or.inr (Or.inr (Or.inr (Or.inl h)))
theorem lx_eq {x : Nat} (hx : x < 16) (k : Nat) (hk : k < 16) : (nI x = nI k) ↔ x = k := nI_eq (by omega) (by omega)
/-- the reference, a one-byte operation: what it asks first -/
theorem m_one24 (s : MS) (x : Nat) (hx : x < 16) (l3 t : Int32) (h : defA x ∨ (x = 14 ∧ t = 0)) : mo_oneByte_24 s (nI x) l3 t = mo_oneByte_64 s (nI x) l3 t 0 := by
  unfold mo_oneByte_24 mo_oneByte_63
  have f : ∀ k, k < 16 → ¬ x = k → ¬ nI x = nI k := fun k hk h q => h ((lx_eq hx k hk).mp q)
  unfold defA at h
  rw [if_neg (show ¬ nI x = (1 : Int32) from f 1 (by decide) (by omega)), if_neg (show ¬ nI x = (2 : Int32) from f 2 (by decide) (by omega)), if_neg (show ¬ nI x = (5 : Int32) from f 5 (by decide) (by omega)), if_neg (show ¬ nI x = (11 : Int32) from f 11 (by decide) (by omega))]
  by_cases h14 : x = 14
  · rw [if_pos (show nI x = (14 : Int32) from (lx_eq hx 14 (by decide)).mpr h14)]
    rcases h with h | h
    · omega
    · rw [if_pos h.2]
  · rw [if_neg (show ¬ nI x = (14 : Int32) from f 14 (by decide) h14)]
theorem m_one24u (s : MS) (x : Nat) (hx : x < 16) (l3 t : Int32) (h : x = 1 ∨ x = 2 ∨ x = 5 ∨ x = 11 ∨ (x = 14 ∧ ¬ t = 0)) : mo_oneByte_24 s (nI x) l3 t = mo_oneByte_64 s (nI x) l3 t 1 := by
  unfold mo_oneByte_24 mo_oneByte_59
  rcases h with rfl | rfl | rfl | rfl | ⟨rfl, h⟩
  · rw [if_pos (by decide)]
  · rw [if_neg (by decide), if_pos (by decide)]
  · rw [if_neg (by decide), if_neg (by decide), if_pos (by decide)]
  · rw [if_neg (by decide), if_neg (by decide), if_neg (by decide), if_pos (by decide)]
  · rw [if_neg (by decide), if_neg (by decide), if_neg (by decide), if_neg (by decide), if_pos (by decide), if_neg h]
theorem m_one64u (a : AS) (b : Nat → Int32) (l2 l3 l4 : Int32) : mo_oneByte_64 (mM a b false) l2 l3 l4 1 = some (0, mM a b true) := by
  unfold mo_oneByte_64
  rw [show isB 1 = true from rfl, gd_t, ns_d, my_und1, mx_und_e, if_neg (show ¬ bI true = 0 by decide)]
theorem cl_4 : ∀ x, x < 16 → nI (64 + x) >>> ((8 : Int32) &&& 31) = 0 ∧ (nI (64 + x) >>> ((4 : Int32) &&& 31)) &&& (7 : Int32) = 4 ∧ nI (64 + x) &&& (15 : Int32) = nI x ∧ nI (64 + x) >>> ((4 : Int32) &&& 31) = 4 := by decide +kernel
theorem ro4 (a : AS) (b : Nat → Int32) (x : Nat) (hx : defA x) : Rl PT b false (tc_executeLowerHalf (mC a) (nI (64 + x))) (mo_oneByte (mM a b false) (nI (64 + x))) := by
  have hx16 : x < 16 := by unfold defA at hx; omega
  obtain ⟨f1, f2, f3, f4⟩ := cl_4 x hx16
  have hv : gR a 0 % 256 < 256 := Nat.mod_lt _ (by decide)
  have h : ∀ (s : CS) (X : Int32), swi (4 : Int32) [((1 : Int32), 52, bd (tc_executeRowOne s X) fun _ s1 => tc_executeLowerHalf_174 s1), ((2 : Int32), 61, if (0 : Int32) = 0 then (bd (tc_fetchByte s) fun v5 s3 => tc_executeLowerHalf_80 s3 (v5.toInt8.toInt32) X) else (bd (tc_fetchWord s) fun v4 s2 => tc_executeLowerHalf_80 s2 v4 X)), ((3 : Int32), 86, bd (tc_executeRowThree s 0 X) fun _ s4 => tc_executeLowerHalf_174 s4), ((4 : Int32), 96, bd (re_get s (0 : Int32)) fun v6 s5 => bd (ar_alter s5 X v6) fun v7 s6 => bd (re_set s6 (0 : Int32) v7) fun _ s7 => tc_executeLowerHalf_174 s7), ((5 : Int32), 124, bd (re_get s (1 : Int32)) fun v8 s8 => bd (ar_alter s8 X v8) fun v9 s9 => bd (re_set s9 (1 : Int32) v9) fun _ s10 => tc_executeLowerHalf_174 s10)] (if (4 : Int32) = 0 then (tc_executeLowerHalf_167 s (1 : Int32) X) else (tc_executeLowerHalf_167 s ((4 : Int32) &&& (3 : Int32)) X)) = bd (re_get s (0 : Int32)) fun v6 s5 => bd (ar_alter s5 X v6) fun v7 s6 => bd (re_set s6 (0 : Int32) v7) fun _ s7 => some ((0 : Int32), s7) := fun _ _ => rfl
  unfold tc_executeLowerHalf mo_oneByte
  rw [nm_d, nm_d, nm_d, f1, f2, f3, h, nm_d, nm_d, f4, if_pos (show (4 : Int32) = 4 from rfl)]
  unfold mo_oneByte_19
  rw [m_one24 _ x hx16 _ _ (Or.inl hx)]
  unfold mo_oneByte_64
  rw [show isB 0 = true from rfl, gd_t, ns_d, my_und0, mx_und_e, if_pos (show bI false = 0 from rfl), if_neg (show ¬ (1 : Int32) = 0 by decide), show (4 : Int32) - 4 = 0 by decide, show okI 0 9 = true from rfl, gd_t, nm_d, show ((0 : Int32).toNatClampNeg) = 0 from rfl, m_reg0, c_get0, bd_s]
  obtain ⟨n, z, e1, e2, e3⟩ := rl_alter a b false x (gR a 0 % 256) hx hv
  rw [e1, e2, bd_s, bd_s, c_set0, bd_s, gd_t, ns_d, m_sv0 _ _ _ _ e3]
  exact rl_some rfl rfl
theorem un_ro4 (a : AS) (b : Nat → Int32) (x : Nat) (hx : x = 1 ∨ x = 2 ∨ x = 5 ∨ x = 11 ∨ x = 14) : Un a b (mo_oneByte (mM a b false) (nI (64 + x))) := by
  have hx16 : x < 16 := by omega
  obtain ⟨f1, f2, f3, f4⟩ := cl_4 x hx16
  unfold mo_oneByte
  rw [nm_d, nm_d, f3, f4, if_pos (show (4 : Int32) = 4 from rfl)]
  unfold mo_oneByte_19
  rw [m_one24u _ x hx16 _ _ (or5 (by decide) hx), m_one64u]
  exact un_of rfl (o6_rf a)
theorem cl_5 : ∀ x, x < 16 → nI (80 + x) >>> ((8 : Int32) &&& 31) = 0 ∧ (nI (80 + x) >>> ((4 : Int32) &&& 31)) &&& (7 : Int32) = 5 ∧ nI (80 + x) &&& (15 : Int32) = nI x ∧ nI (80 + x) >>> ((4 : Int32) &&& 31) = 5 := by decide +kernel
theorem ro5 (a : AS) (b : Nat → Int32) (x : Nat) (hx : defA x) : Rl PT b false (tc_executeLowerHalf (mC a) (nI (80 + x))) (mo_oneByte (mM a b false) (nI (80 + x))) := by
  have hx16 : x < 16 := by unfold defA at hx; omega
  obtain ⟨f1, f2, f3, f4⟩ := cl_5 x hx16
  have hv : gR a 1 % 256 < 256 := Nat.mod_lt _ (by decide)
  have h : ∀ (s : CS) (X : Int32), swi (5 : Int32) [((1 : Int32), 52, bd (tc_executeRowOne s X) fun _ s1 => tc_executeLowerHalf_174 s1), ((2 : Int32), 61, if (0 : Int32) = 0 then (bd (tc_fetchByte s) fun v5 s3 => tc_executeLowerHalf_80 s3 (v5.toInt8.toInt32) X) else (bd (tc_fetchWord s) fun v4 s2 => tc_executeLowerHalf_80 s2 v4 X)), ((3 : Int32), 86, bd (tc_executeRowThree s 0 X) fun _ s4 => tc_executeLowerHalf_174 s4), ((4 : Int32), 96, bd (re_get s (0 : Int32)) fun v6 s5 => bd (ar_alter s5 X v6) fun v7 s6 => bd (re_set s6 (0 : Int32) v7) fun _ s7 => tc_executeLowerHalf_174 s7), ((5 : Int32), 124, bd (re_get s (1 : Int32)) fun v8 s8 => bd (ar_alter s8 X v8) fun v9 s9 => bd (re_set s9 (1 : Int32) v9) fun _ s10 => tc_executeLowerHalf_174 s10)] (if (5 : Int32) = 0 then (tc_executeLowerHalf_167 s (1 : Int32) X) else (tc_executeLowerHalf_167 s ((5 : Int32) &&& (3 : Int32)) X)) = bd (re_get s (1 : Int32)) fun v6 s5 => bd (ar_alter s5 X v6) fun v7 s6 => bd (re_set s6 (1 : Int32) v7) fun _ s7 => some ((0 : Int32), s7) := fun _ _ => rfl
  unfold tc_executeLowerHalf mo_oneByte
  rw [nm_d, nm_d, nm_d, f1, f2, f3, h, nm_d, nm_d, f4, if_neg (show ¬ (5 : Int32) = 4 by decide), if_pos (show (5 : Int32) = 5 from rfl)]
  unfold mo_oneByte_19
  rw [m_one24 _ x hx16 _ _ (Or.inl hx)]
  unfold mo_oneByte_64
  rw [show isB 0 = true from rfl, gd_t, ns_d, my_und0, mx_und_e, if_pos (show bI false = 0 from rfl), if_neg (show ¬ (1 : Int32) = 0 by decide), show (5 : Int32) - 4 = 1 by decide, show okI 1 9 = true from rfl, gd_t, nm_d, show ((1 : Int32).toNatClampNeg) = 1 from rfl, m_reg1, c_get1, bd_s]
  obtain ⟨n, z, e1, e2, e3⟩ := rl_alter a b false x (gR a 1 % 256) hx hv
  rw [e1, e2, bd_s, bd_s, c_set1, bd_s, gd_t, ns_d, m_sv1 _ _ _ _ e3]
  exact rl_some rfl rfl
theorem un_ro5 (a : AS) (b : Nat → Int32) (x : Nat) (hx : x = 1 ∨ x = 2 ∨ x = 5 ∨ x = 11 ∨ x = 14) : Un a b (mo_oneByte (mM a b false) (nI (80 + x))) := by
  have hx16 : x < 16 := by omega
  obtain ⟨f1, f2, f3, f4⟩ := cl_5 x hx16
  unfold mo_oneByte
  rw [nm_d, nm_d, f3, f4, if_neg (show ¬ (5 : Int32) = 4 by decide), if_pos (show (5 : Int32) = 5 from rfl)]
  unfold mo_oneByte_19
  rw [m_one24u _ x hx16 _ _ (or5 (by decide) hx), m_one64u]
  exact un_of rfl (o6_rf a)
theorem rl_mem (a : AS) (b : Nat → Int32) (m x : Nat) (hx : x < 16) (h : defA x ∨ x = 14) (hm : 1 ≤ m ∧ m ≤ 3) (hd : m = 2 → dpb (fB a) = true) : Rl PT b false (bd (tc_operandAddress (mC a) (nI m) 1) fun v1 s1 => bd (tc_alterMemory s1 (nI x) v1) fun _ s2 => some ((0 : Int32), s2)) (mo_oneByte_114 (mM a b false) (nI x) (nI m)) := by
  obtain ⟨n, z, e1, e2, e4, e3⟩ := ad_addr a b m 1 hm hd
  have e14 : (nI x = (14 : Int32)) ↔ x = 14 := lx_eq hx 14 (by decide)
  have e13 : (nI x = (13 : Int32)) ↔ x = 13 := lx_eq hx 13 (by decide)
  unfold mo_oneByte_114 tc_alterMemory tc_alterMemory_43 mo_oneByte_170
  rw [e1, e2, bd_s, bd_s, mx_und_e, if_pos (show bI false = 0 from rfl)]
  simp only [e14, e13]
  by_cases h14 : x = 14
  · rw [if_pos h14, if_pos h14, c_set6, bd_s, bd_s, ns_d, m_sv6 _ _ _ _ e4]
    exact rl_some rfl rfl
  · have hA : defA x := h.resolve_right h14
    have hv : gM z (n % 4096) % 256 < 256 := Nat.mod_lt _ (by decide)
    by_cases h13 : x = 13
    · subst h13
      have ho : mo_onByte (mM z b false) (nI 13) (nI (gM z (n % 4096) % 256)) = mo_onByte_13 (mM z b false) 13 (nI (gM z (n % 4096) % 256)) (nI (cyN z)) := m_carry z b false (fun Q s => mo_onByte_13 s 13 (nI (gM z (n % 4096) % 256)) Q)
      have t2 := m_on13 z b false (gM z (n % 4096) % 256) (cyN z) hv (Nat.lt_succ_of_le (cyN_le z))
      have t1 : ar_alter (mC z) (nI 13) (nI (gM z (n % 4096) % 256)) = _ := c_al13 z (gM z (n % 4096) % 256) hv
      rw [if_neg h14, if_neg h14, c_byteAt, bd_s, t1, bd_s, c_setByte, bd_s, bd_s, m_read, bd_s, ho, t2, bd_s, if_pos rfl]
      refine ⟨0, sM (sR z 8 (fP (gR z 8) (gM z (n % 4096) % 256) 128)) (n % 4096) (gM z (n % 4096) % 256), rfl, ?_, trivial⟩
      rw [show mM (sM (sR z 8 (fP (gR z 8) (gM z (n % 4096) % 256) 128)) (n % 4096) (gM z (n % 4096) % 256)) b false = mM (sR z 8 (fP (gR z 8) (gM z (n % 4096) % 256) 128)) b false from mM_same (sR z 8 (fP (gR z 8) (gM z (n % 4096) % 256) 128)) b false (n % 4096)]
      rfl
    · obtain ⟨r, y, q1, q2, q3⟩ := rl_alter z b false x (gM z (n % 4096) % 256) hA hv
      rw [if_neg h14, if_neg h14, c_byteAt, bd_s, q1, bd_s, c_setByte, bd_s, bd_s, m_read, bd_s, q2, bd_s, if_neg h13, m_write, bd_s]
      exact rl_some rfl rfl
theorem cl_0 : ∀ x, x < 16 → nI (0 + x) >>> ((8 : Int32) &&& 31) = 0 ∧ (nI (0 + x) >>> ((4 : Int32) &&& 31)) &&& (7 : Int32) = 0 ∧ nI (0 + x) &&& (15 : Int32) = nI x ∧ nI (0 + x) >>> ((4 : Int32) &&& 31) = 0 := by decide +kernel
theorem c_lo0 (s : CS) (x : Nat) (hx : x < 16) : tc_executeLowerHalf s (nI (0 + x)) = bd (tc_operandAddress s (nI 1) 1) fun v1 s1 => bd (tc_alterMemory s1 (nI x) v1) fun _ s2 => some ((0 : Int32), s2) := by
  obtain ⟨f1, f2, f3, f4⟩ := cl_0 x hx
  have h : ∀ (s : CS) (X : Int32), swi (0 : Int32) [((1 : Int32), 52, bd (tc_executeRowOne s X) fun _ s1 => tc_executeLowerHalf_174 s1), ((2 : Int32), 61, if (0 : Int32) = 0 then (bd (tc_fetchByte s) fun v5 s3 => tc_executeLowerHalf_80 s3 (v5.toInt8.toInt32) X) else (bd (tc_fetchWord s) fun v4 s2 => tc_executeLowerHalf_80 s2 v4 X)), ((3 : Int32), 86, bd (tc_executeRowThree s 0 X) fun _ s4 => tc_executeLowerHalf_174 s4), ((4 : Int32), 96, bd (re_get s (0 : Int32)) fun v6 s5 => bd (ar_alter s5 X v6) fun v7 s6 => bd (re_set s6 (0 : Int32) v7) fun _ s7 => tc_executeLowerHalf_174 s7), ((5 : Int32), 124, bd (re_get s (1 : Int32)) fun v8 s8 => bd (ar_alter s8 X v8) fun v9 s9 => bd (re_set s9 (1 : Int32) v9) fun _ s10 => tc_executeLowerHalf_174 s10)] (if (0 : Int32) = 0 then (tc_executeLowerHalf_167 s (1 : Int32) X) else (tc_executeLowerHalf_167 s ((0 : Int32) &&& (3 : Int32)) X)) = bd (tc_operandAddress s (nI 1) 1) fun v1 s1 => bd (tc_alterMemory s1 X v1) fun _ s2 => some ((0 : Int32), s2) := fun _ _ => rfl
  unfold tc_executeLowerHalf
  rw [nm_d, nm_d, nm_d, f1, f2, f3, h]
theorem m_lo0 (a : AS) (b : Nat → Int32) (x : Nat) (hx : x < 16) (h : defA x ∨ x = 14) : mo_oneByte (mM a b false) (nI (0 + x)) = mo_oneByte_114 (mM a b false) (nI x) (nI 1) := by
  obtain ⟨f1, f2, f3, f4⟩ := cl_0 x hx
  unfold mo_oneByte
  rw [nm_d, nm_d, f3, f4, if_neg (show ¬ (0 : Int32) = 4 by decide), if_neg (show ¬ (0 : Int32) = 5 by decide), m_one24 _ x hx _ _ (h.elim Or.inl (fun q => Or.inr ⟨q, rfl⟩))]
  unfold mo_oneByte_64
  rw [show isB 0 = true from rfl, gd_t, ns_d, my_und0, mx_und_e, if_pos (show bI false = 0 from rfl), if_pos (show (0 : Int32) = 0 from rfl), if_pos (show (0 : Int32) = 0 from rfl)]
  rfl
theorem un_lo0 (a : AS) (b : Nat → Int32) (x : Nat) (hx : x = 1 ∨ x = 2 ∨ x = 5 ∨ x = 11) : Un a b (mo_oneByte (mM a b false) (nI (0 + x))) := by
  obtain ⟨f1, f2, f3, f4⟩ := cl_0 x (by omega)
  unfold mo_oneByte
  rw [nm_d, nm_d, f3, f4, if_neg (show ¬ (0 : Int32) = 4 by decide), if_neg (show ¬ (0 : Int32) = 5 by decide), m_one24u _ x (by omega) _ _ (or4 hx), m_one64u]
  exact un_of rfl (o6_rf a)
theorem rlo0 (a : AS) (b : Nat → Int32) (x : Nat) (hx : x < 16) (h : defA x ∨ x = 14) : Rl PT b false (tc_executeLowerHalf (mC a) (nI (0 + x))) (mo_oneByte (mM a b false) (nI (0 + x))) := by
  rw [c_lo0 _ x hx, m_lo0 a b x hx h]
  exact rl_mem a b 1 x hx h (by decide) (fun q => absurd q (by decide))
theorem cl_6 : ∀ x, x < 16 → nI (96 + x) >>> ((8 : Int32) &&& 31) = 0 ∧ (nI (96 + x) >>> ((4 : Int32) &&& 31)) &&& (7 : Int32) = 6 ∧ nI (96 + x) &&& (15 : Int32) = nI x ∧ nI (96 + x) >>> ((4 : Int32) &&& 31) = 6 := by decide +kernel
theorem c_lo6 (s : CS) (x : Nat) (hx : x < 16) : tc_executeLowerHalf s (nI (96 + x)) = bd (tc_operandAddress s (nI 2) 1) fun v1 s1 => bd (tc_alterMemory s1 (nI x) v1) fun _ s2 => some ((0 : Int32), s2) := by
  obtain ⟨f1, f2, f3, f4⟩ := cl_6 x hx
  have h : ∀ (s : CS) (X : Int32), swi (6 : Int32) [((1 : Int32), 52, bd (tc_executeRowOne s X) fun _ s1 => tc_executeLowerHalf_174 s1), ((2 : Int32), 61, if (0 : Int32) = 0 then (bd (tc_fetchByte s) fun v5 s3 => tc_executeLowerHalf_80 s3 (v5.toInt8.toInt32) X) else (bd (tc_fetchWord s) fun v4 s2 => tc_executeLowerHalf_80 s2 v4 X)), ((3 : Int32), 86, bd (tc_executeRowThree s 0 X) fun _ s4 => tc_executeLowerHalf_174 s4), ((4 : Int32), 96, bd (re_get s (0 : Int32)) fun v6 s5 => bd (ar_alter s5 X v6) fun v7 s6 => bd (re_set s6 (0 : Int32) v7) fun _ s7 => tc_executeLowerHalf_174 s7), ((5 : Int32), 124, bd (re_get s (1 : Int32)) fun v8 s8 => bd (ar_alter s8 X v8) fun v9 s9 => bd (re_set s9 (1 : Int32) v9) fun _ s10 => tc_executeLowerHalf_174 s10)] (if (6 : Int32) = 0 then (tc_executeLowerHalf_167 s (1 : Int32) X) else (tc_executeLowerHalf_167 s ((6 : Int32) &&& (3 : Int32)) X)) = bd (tc_operandAddress s (nI 2) 1) fun v1 s1 => bd (tc_alterMemory s1 X v1) fun _ s2 => some ((0 : Int32), s2) := fun _ _ => rfl
  unfold tc_executeLowerHalf
  rw [nm_d, nm_d, nm_d, f1, f2, f3, h]
theorem m_lo6 (a : AS) (b : Nat → Int32) (x : Nat) (hx : x < 16) (h : defA x ∨ x = 14) : mo_oneByte (mM a b false) (nI (96 + x)) = mo_oneByte_114 (mM a b false) (nI x) (nI 2) := by
  obtain ⟨f1, f2, f3, f4⟩ := cl_6 x hx
  unfold mo_oneByte
  rw [nm_d, nm_d, f3, f4, if_neg (show ¬ (6 : Int32) = 4 by decide), if_neg (show ¬ (6 : Int32) = 5 by decide), m_one24 _ x hx _ _ (h.elim Or.inl (fun q => Or.inr ⟨q, rfl⟩))]
  unfold mo_oneByte_64
  rw [show isB 0 = true from rfl, gd_t, ns_d, my_und0, mx_und_e, if_pos (show bI false = 0 from rfl), if_pos (show (0 : Int32) = 0 from rfl), if_neg (show ¬ (6 : Int32) = 0 by decide), show (6 : Int32) - 4 = nI 2 by decide]
  
theorem un_lo6 (a : AS) (b : Nat → Int32) (x : Nat) (hx : x = 1 ∨ x = 2 ∨ x = 5 ∨ x = 11) : Un a b (mo_oneByte (mM a b false) (nI (96 + x))) := by
  obtain ⟨f1, f2, f3, f4⟩ := cl_6 x (by omega)
  unfold mo_oneByte
  rw [nm_d, nm_d, f3, f4, if_neg (show ¬ (6 : Int32) = 4 by decide), if_neg (show ¬ (6 : Int32) = 5 by decide), m_one24u _ x (by omega) _ _ (or4 hx), m_one64u]
  exact un_of rfl (o6_rf a)
theorem rlo6 (a : AS) (b : Nat → Int32) (x : Nat) (hx : x < 16) (h : defA x ∨ x = 14) (hd : dpb (fB a) = true) : Rl PT b false (tc_executeLowerHalf (mC a) (nI (96 + x))) (mo_oneByte (mM a b false) (nI (96 + x))) := by
  rw [c_lo6 _ x hx, m_lo6 a b x hx h]
  exact rl_mem a b 2 x hx h (by decide) (fun _ => hd)
theorem cl_7 : ∀ x, x < 16 → nI (112 + x) >>> ((8 : Int32) &&& 31) = 0 ∧ (nI (112 + x) >>> ((4 : Int32) &&& 31)) &&& (7 : Int32) = 7 ∧ nI (112 + x) &&& (15 : Int32) = nI x ∧ nI (112 + x) >>> ((4 : Int32) &&& 31) = 7 := by decide +kernel
theorem c_lo7 (s : CS) (x : Nat) (hx : x < 16) : tc_executeLowerHalf s (nI (112 + x)) = bd (tc_operandAddress s (nI 3) 1) fun v1 s1 => bd (tc_alterMemory s1 (nI x) v1) fun _ s2 => some ((0 : Int32), s2) := by
  obtain ⟨f1, f2, f3, f4⟩ := cl_7 x hx
  have h : ∀ (s : CS) (X : Int32), swi (7 : Int32) [((1 : Int32), 52, bd (tc_executeRowOne s X) fun _ s1 => tc_executeLowerHalf_174 s1), ((2 : Int32), 61, if (0 : Int32) = 0 then (bd (tc_fetchByte s) fun v5 s3 => tc_executeLowerHalf_80 s3 (v5.toInt8.toInt32) X) else (bd (tc_fetchWord s) fun v4 s2 => tc_executeLowerHalf_80 s2 v4 X)), ((3 : Int32), 86, bd (tc_executeRowThree s 0 X) fun _ s4 => tc_executeLowerHalf_174 s4), ((4 : Int32), 96, bd (re_get s (0 : Int32)) fun v6 s5 => bd (ar_alter s5 X v6) fun v7 s6 => bd (re_set s6 (0 : Int32) v7) fun _ s7 => tc_executeLowerHalf_174 s7), ((5 : Int32), 124, bd (re_get s (1 : Int32)) fun v8 s8 => bd (ar_alter s8 X v8) fun v9 s9 => bd (re_set s9 (1 : Int32) v9) fun _ s10 => tc_executeLowerHalf_174 s10)] (if (7 : Int32) = 0 then (tc_executeLowerHalf_167 s (1 : Int32) X) else (tc_executeLowerHalf_167 s ((7 : Int32) &&& (3 : Int32)) X)) = bd (tc_operandAddress s (nI 3) 1) fun v1 s1 => bd (tc_alterMemory s1 X v1) fun _ s2 => some ((0 : Int32), s2) := fun _ _ => rfl
  unfold tc_executeLowerHalf
  rw [nm_d, nm_d, nm_d, f1, f2, f3, h]
theorem m_lo7 (a : AS) (b : Nat → Int32) (x : Nat) (hx : x < 16) (h : defA x ∨ x = 14) : mo_oneByte (mM a b false) (nI (112 + x)) = mo_oneByte_114 (mM a b false) (nI x) (nI 3) := by
  obtain ⟨f1, f2, f3, f4⟩ := cl_7 x hx
  unfold mo_oneByte
  rw [nm_d, nm_d, f3, f4, if_neg (show ¬ (7 : Int32) = 4 by decide), if_neg (show ¬ (7 : Int32) = 5 by decide), m_one24 _ x hx _ _ (h.elim Or.inl (fun q => Or.inr ⟨q, rfl⟩))]
  unfold mo_oneByte_64
  rw [show isB 0 = true from rfl, gd_t, ns_d, my_und0, mx_und_e, if_pos (show bI false = 0 from rfl), if_pos (show (0 : Int32) = 0 from rfl), if_neg (show ¬ (7 : Int32) = 0 by decide), show (7 : Int32) - 4 = nI 3 by decide]
  
theorem un_lo7 (a : AS) (b : Nat → Int32) (x : Nat) (hx : x = 1 ∨ x = 2 ∨ x = 5 ∨ x = 11) : Un a b (mo_oneByte (mM a b false) (nI (112 + x))) := by
  obtain ⟨f1, f2, f3, f4⟩ := cl_7 x (by omega)
  unfold mo_oneByte
  rw [nm_d, nm_d, f3, f4, if_neg (show ¬ (7 : Int32) = 4 by decide), if_neg (show ¬ (7 : Int32) = 5 by decide), m_one24u _ x (by omega) _ _ (or4 hx), m_one64u]
  exact un_of rfl (o6_rf a)
theorem rlo7 (a : AS) (b : Nat → Int32) (x : Nat) (hx : x < 16) (h : defA x ∨ x = 14) : Rl PT b false (tc_executeLowerHalf (mC a) (nI (112 + x))) (mo_oneByte (mM a b false) (nI (112 + x))) := by
  rw [c_lo7 _ x hx, m_lo7 a b x hx h]
  exact rl_mem a b 3 x hx h (by decide) (fun q => absurd q (by decide))
