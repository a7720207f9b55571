section
variable {p : Program} {l : Launch} {e : Env} {s : State} {m : MethodId} {below : List Frame} {meth : Method} {c : Code} {b L : Nat} {xs : Nat → Int32} {D : va_G} {cA : ClassId} {tb oc om : Nat → Nat} {Q : State → Prop}
theorem ls_in {L k j : Nat} (h : 4 * k + 4 ≤ L) (hL : L ≤ 2048) (hj : j < 4) : vp_in (nI (4 * k) + nI j) L := by
  rw [nI_add]
  exact vp_in_nI (by omega) (by omega)
/-- a way to 353 from pc -/
def LC (p : Program) (l : Launch) (e : Env) (s : State) (m : MethodId) (below : List Frame) (meth : Method) (c : Code) (b L : Nat) (D : va_G) (cA : ClassId) (oc om : Nat → Nat) (Q : State → Prop) (pc : Nat) : Prop := ∀ (k : Nat) (a : AS) (bf : Nat → Int32) (u : Bool) (H : Heap) (locs : List Loc) (ls : Array Slot), 4 * k + 4 ≤ L → lv_has ls 4 [(3, .int (nI (4 * k))), (2, .ref (om 0)), (1, .ref (oc 0)), (0, .ref b)] → va_P D vwCl (wdC oc cA (mC a) ++ wdM om cA (mM a bf u)) H → va_D (fun q => s.heap.size ≤ q) (wdC oc cA (mC a) ++ wdM om cA (mM a bf u)) → va_S (fun q => s.heap.size ≤ q) s.heap H locs → (∀ (a1 : AS) (b1 : Nat → Int32) (u1 : Bool) (H1 : Heap) (locs1 : List Loc), va_P D vwCl (wdC oc cA (mC a1) ++ wdM om cA (mM a1 b1 u1)) H1 → va_D (fun q => s.heap.size ≤ q) (wdC oc cA (mC a1) ++ wdM om cA (mM a1 b1 u1)) → va_S (fun q => s.heap.size ≤ q) s.heap H1 locs1 → W p l e room_1 s m #[Value.ref b] below meth c H1 locs1 12 8243 Q (F0 m 353 ls [])) → W p l e room_1 s m #[Value.ref b] below meth c H locs 12 8243 Q (F0 m pc ls [])
theorem ca_reset (G : LG p s m c b D cA tb) (hX : va_X b L xs s s.heap) (hbl : b < s.heap.size) (hL : L ≤ 2048) : LC p l e s m below meth c b L D cA oc om Q 92 := by
  intro k a bf u H locs ls hk hl hP hD hS kk
  have hx := G.1
  have hb := G.2.1
  have hbA : ¬ s.heap.size ≤ b := by omega
  obtain ⟨r, a1, b1, u1, e1, e2⟩ := ev_reset a bf u 
  refine lv_aload_n hx hb dl_92 rfl (lv_at hl 2 rfl) ?_
  refine lc_cv (As := []) (rest := []) (σ := mC a) (σ1 := mC a1) (τ := mM a bf u) (mm := tc_reset (mC a) ) (r0 := r) G (fun E => k_tc_reset (E := E)) e1 mw_tc_reset rfl ll_tc_reset rfl rfl (Nat.le_of_ble_eq_true rfl) (by decide) dl_93 hP hD hS hl.1 (fun H locs hP hD hS => ?_)
  refine lv_aload_n hx hb dl_96 rfl (lv_at hl 1 rfl) ?_
  refine lc_mv (As := []) (rest := []) (σ1 := mC a1) (τ := mM a bf u) (τ1 := mM a1 b1 u1) (mm := mo_reset (mM a bf u) ) (r0 := r) G (fun E => k_mo_reset (E := E)) e2 mw_mo_reset rfl ll_mo_reset rfl rfl (Nat.le_of_ble_eq_true rfl) (by decide) dl_97 hP hD hS hl.1 (fun H locs hP hD hS => ?_)
  exact lv_goto hx hb dl_100 (tgt := 353) (by decide) (kk a1 b1 u1 H locs hP hD hS)
theorem ca_poke (G : LG p s m c b D cA tb) (hX : va_X b L xs s s.heap) (hbl : b < s.heap.size) (hL : L ≤ 2048) : LC p l e s m below meth c b L D cA oc om Q 103 := by
  intro k a bf u H locs ls hk hl hP hD hS kk
  have hx := G.1
  have hb := G.2.1
  have hbA : ¬ s.heap.size ≤ b := by omega
  obtain ⟨r, a1, b1, u1, e1, e2⟩ := ev_poke a bf u (xs (nI (4 * k) + nI 1).toNatClampNeg) (xs (nI (4 * k) + nI 2).toNatClampNeg)
  refine lv_aload_n hx hb dl_103 rfl (lv_at hl 2 rfl) ?_
  refine lv_aload_n hx hb dl_104 rfl (lv_at hl 3 rfl) ?_
  refine lv_iload_n hx hb dl_105 rfl (lv_at hl 0 rfl) ?_
  refine lv_iconst (v := nI 1) hx hb dl_106 (by decide) ?_
  refine lv_iadd hx hb dl_107 ?_
  refine va_sld hx hb hX hbl hbA hS (ls_in hk hL (by decide)) dl_108 ?_
  refine lv_aload_n hx hb dl_109 rfl (lv_at hl 3 rfl) ?_
  refine lv_iload_n hx hb dl_110 rfl (lv_at hl 0 rfl) ?_
  refine lv_iconst (v := nI 2) hx hb dl_111 (by decide) ?_
  refine lv_iadd hx hb dl_112 ?_
  refine va_sld hx hb hX hbl hbA hS (ls_in hk hL (by decide)) dl_113 ?_
  refine lc_ci (As := [.int (xs (nI (4 * k) + nI 1).toNatClampNeg), .int (xs (nI (4 * k) + nI 2).toNatClampNeg)]) (rest := []) (σ := mC a) (σ1 := mC a1) (τ := mM a bf u) (mm := tc_poke (mC a) (xs (nI (4 * k) + nI 1).toNatClampNeg) (xs (nI (4 * k) + nI 2).toNatClampNeg)) (r0 := r) G (fun E => k_tc_poke (E := E) (a1 := (xs (nI (4 * k) + nI 1).toNatClampNeg)) (a2 := (xs (nI (4 * k) + nI 2).toNatClampNeg))) e1 mw_tc_poke rfl ll_tc_poke rfl rfl (Nat.le_of_ble_eq_true rfl) (by decide) dl_114 hP hD hS hl.1 (fun H locs hP hD hS => ?_)
  refine lv_aload_n hx hb dl_117 rfl (lv_at hl 1 rfl) ?_
  refine lv_aload_n hx hb dl_118 rfl (lv_at hl 3 rfl) ?_
  refine lv_iload_n hx hb dl_119 rfl (lv_at hl 0 rfl) ?_
  refine lv_iconst (v := nI 1) hx hb dl_120 (by decide) ?_
  refine lv_iadd hx hb dl_121 ?_
  refine va_sld hx hb hX hbl hbA hS (ls_in hk hL (by decide)) dl_122 ?_
  refine lv_aload_n hx hb dl_123 rfl (lv_at hl 3 rfl) ?_
  refine lv_iload_n hx hb dl_124 rfl (lv_at hl 0 rfl) ?_
  refine lv_iconst (v := nI 2) hx hb dl_125 (by decide) ?_
  refine lv_iadd hx hb dl_126 ?_
  refine va_sld hx hb hX hbl hbA hS (ls_in hk hL (by decide)) dl_127 ?_
  refine lc_mi (As := [.int (xs (nI (4 * k) + nI 1).toNatClampNeg), .int (xs (nI (4 * k) + nI 2).toNatClampNeg)]) (rest := [.int r]) (σ1 := mC a1) (τ := mM a bf u) (τ1 := mM a1 b1 u1) (mm := mo_poke (mM a bf u) (xs (nI (4 * k) + nI 1).toNatClampNeg) (xs (nI (4 * k) + nI 2).toNatClampNeg)) (r0 := r) G (fun E => k_mo_poke (E := E) (a1 := (xs (nI (4 * k) + nI 1).toNatClampNeg)) (a2 := (xs (nI (4 * k) + nI 2).toNatClampNeg))) e2 mw_mo_poke rfl ll_mo_poke rfl rfl (Nat.le_of_ble_eq_true rfl) (by decide) dl_128 hP hD hS hl.1 (fun H locs hP hD hS => ?_)
  exact lv_icmp_eq hx hb dl_131 (tgt := 353) (by decide) (fun _ => kk a1 b1 u1 H locs hP hD hS) (fun h => absurd rfl h)
theorem ca_load (G : LG p s m c b D cA tb) (hX : va_X b L xs s s.heap) (hbl : b < s.heap.size) (hL : L ≤ 2048) : LC p l e s m below meth c b L D cA oc om Q 136 := by
  intro k a bf u H locs ls hk hl hP hD hS kk
  have hx := G.1
  have hb := G.2.1
  have hbA : ¬ s.heap.size ≤ b := by omega
  obtain ⟨r, a1, b1, u1, e1, e2⟩ := ev_load a bf u (xs (nI (4 * k) + nI 1).toNatClampNeg) (xs (nI (4 * k) + nI 2).toNatClampNeg) (xs (nI (4 * k) + nI 3).toNatClampNeg)
  refine lv_aload_n hx hb dl_136 rfl (lv_at hl 2 rfl) ?_
  refine lv_aload_n hx hb dl_137 rfl (lv_at hl 3 rfl) ?_
  refine lv_iload_n hx hb dl_138 rfl (lv_at hl 0 rfl) ?_
  refine lv_iconst (v := nI 1) hx hb dl_139 (by decide) ?_
  refine lv_iadd hx hb dl_140 ?_
  refine va_sld hx hb hX hbl hbA hS (ls_in hk hL (by decide)) dl_141 ?_
  refine lv_aload_n hx hb dl_142 rfl (lv_at hl 3 rfl) ?_
  refine lv_iload_n hx hb dl_143 rfl (lv_at hl 0 rfl) ?_
  refine lv_iconst (v := nI 2) hx hb dl_144 (by decide) ?_
  refine lv_iadd hx hb dl_145 ?_
  refine va_sld hx hb hX hbl hbA hS (ls_in hk hL (by decide)) dl_146 ?_
  refine lv_aload_n hx hb dl_147 rfl (lv_at hl 3 rfl) ?_
  refine lv_iload_n hx hb dl_148 rfl (lv_at hl 0 rfl) ?_
  refine lv_iconst (v := nI 3) hx hb dl_149 (by decide) ?_
  refine lv_iadd hx hb dl_150 ?_
  refine va_sld hx hb hX hbl hbA hS (ls_in hk hL (by decide)) dl_151 ?_
  refine lc_ci (As := [.int (xs (nI (4 * k) + nI 1).toNatClampNeg), .int (xs (nI (4 * k) + nI 2).toNatClampNeg), .int (xs (nI (4 * k) + nI 3).toNatClampNeg)]) (rest := []) (σ := mC a) (σ1 := mC a1) (τ := mM a bf u) (mm := tc_load (mC a) (xs (nI (4 * k) + nI 1).toNatClampNeg) (xs (nI (4 * k) + nI 2).toNatClampNeg) (xs (nI (4 * k) + nI 3).toNatClampNeg)) (r0 := r) G (fun E => k_tc_load (E := E) (a1 := (xs (nI (4 * k) + nI 1).toNatClampNeg)) (a2 := (xs (nI (4 * k) + nI 2).toNatClampNeg)) (a3 := (xs (nI (4 * k) + nI 3).toNatClampNeg))) e1 mw_tc_load rfl ll_tc_load rfl rfl (Nat.le_of_ble_eq_true rfl) (by decide) dl_152 hP hD hS hl.1 (fun H locs hP hD hS => ?_)
  refine lv_aload_n hx hb dl_155 rfl (lv_at hl 1 rfl) ?_
  refine lv_aload_n hx hb dl_156 rfl (lv_at hl 3 rfl) ?_
  refine lv_iload_n hx hb dl_157 rfl (lv_at hl 0 rfl) ?_
  refine lv_iconst (v := nI 1) hx hb dl_158 (by decide) ?_
  refine lv_iadd hx hb dl_159 ?_
  refine va_sld hx hb hX hbl hbA hS (ls_in hk hL (by decide)) dl_160 ?_
  refine lv_aload_n hx hb dl_161 rfl (lv_at hl 3 rfl) ?_
  refine lv_iload_n hx hb dl_162 rfl (lv_at hl 0 rfl) ?_
  refine lv_iconst (v := nI 2) hx hb dl_163 (by decide) ?_
  refine lv_iadd hx hb dl_164 ?_
  refine va_sld hx hb hX hbl hbA hS (ls_in hk hL (by decide)) dl_165 ?_
  refine lv_aload_n hx hb dl_166 rfl (lv_at hl 3 rfl) ?_
  refine lv_iload_n hx hb dl_167 rfl (lv_at hl 0 rfl) ?_
  refine lv_iconst (v := nI 3) hx hb dl_168 (by decide) ?_
  refine lv_iadd hx hb dl_169 ?_
  refine va_sld hx hb hX hbl hbA hS (ls_in hk hL (by decide)) dl_170 ?_
  refine lc_mi (As := [.int (xs (nI (4 * k) + nI 1).toNatClampNeg), .int (xs (nI (4 * k) + nI 2).toNatClampNeg), .int (xs (nI (4 * k) + nI 3).toNatClampNeg)]) (rest := [.int r]) (σ1 := mC a1) (τ := mM a bf u) (τ1 := mM a1 b1 u1) (mm := mo_load (mM a bf u) (xs (nI (4 * k) + nI 1).toNatClampNeg) (xs (nI (4 * k) + nI 2).toNatClampNeg) (xs (nI (4 * k) + nI 3).toNatClampNeg)) (r0 := r) G (fun E => k_mo_load (E := E) (a1 := (xs (nI (4 * k) + nI 1).toNatClampNeg)) (a2 := (xs (nI (4 * k) + nI 2).toNatClampNeg)) (a3 := (xs (nI (4 * k) + nI 3).toNatClampNeg))) e2 mw_mo_load rfl ll_mo_load rfl rfl (Nat.le_of_ble_eq_true rfl) (by decide) dl_171 hP hD hS hl.1 (fun H locs hP hD hS => ?_)
  exact lv_icmp_eq hx hb dl_174 (tgt := 353) (by decide) (fun _ => kk a1 b1 u1 H locs hP hD hS) (fun h => absurd rfl h)
theorem ca_peek (G : LG p s m c b D cA tb) (hX : va_X b L xs s s.heap) (hbl : b < s.heap.size) (hL : L ≤ 2048) : LC p l e s m below meth c b L D cA oc om Q 179 := by
  intro k a bf u H locs ls hk hl hP hD hS kk
  have hx := G.1
  have hb := G.2.1
  have hbA : ¬ s.heap.size ≤ b := by omega
  obtain ⟨r, a1, b1, u1, e1, e2⟩ := ev_peek a bf u (xs (nI (4 * k) + nI 1).toNatClampNeg)
  refine lv_aload_n hx hb dl_179 rfl (lv_at hl 2 rfl) ?_
  refine lv_aload_n hx hb dl_180 rfl (lv_at hl 3 rfl) ?_
  refine lv_iload_n hx hb dl_181 rfl (lv_at hl 0 rfl) ?_
  refine lv_iconst (v := nI 1) hx hb dl_182 (by decide) ?_
  refine lv_iadd hx hb dl_183 ?_
  refine va_sld hx hb hX hbl hbA hS (ls_in hk hL (by decide)) dl_184 ?_
  refine lc_ci (As := [.int (xs (nI (4 * k) + nI 1).toNatClampNeg)]) (rest := []) (σ := mC a) (σ1 := mC a1) (τ := mM a bf u) (mm := tc_peek (mC a) (xs (nI (4 * k) + nI 1).toNatClampNeg)) (r0 := r) G (fun E => k_tc_peek (E := E) (a1 := (xs (nI (4 * k) + nI 1).toNatClampNeg))) e1 mw_tc_peek rfl ll_tc_peek rfl rfl (Nat.le_of_ble_eq_true rfl) (by decide) dl_185 hP hD hS hl.1 (fun H locs hP hD hS => ?_)
  refine lv_aload_n hx hb dl_188 rfl (lv_at hl 1 rfl) ?_
  refine lv_aload_n hx hb dl_189 rfl (lv_at hl 3 rfl) ?_
  refine lv_iload_n hx hb dl_190 rfl (lv_at hl 0 rfl) ?_
  refine lv_iconst (v := nI 1) hx hb dl_191 (by decide) ?_
  refine lv_iadd hx hb dl_192 ?_
  refine va_sld hx hb hX hbl hbA hS (ls_in hk hL (by decide)) dl_193 ?_
  refine lc_mi (As := [.int (xs (nI (4 * k) + nI 1).toNatClampNeg)]) (rest := [.int r]) (σ1 := mC a1) (τ := mM a bf u) (τ1 := mM a1 b1 u1) (mm := mo_peek (mM a bf u) (xs (nI (4 * k) + nI 1).toNatClampNeg)) (r0 := r) G (fun E => k_mo_peek (E := E) (a1 := (xs (nI (4 * k) + nI 1).toNatClampNeg))) e2 mw_mo_peek rfl ll_mo_peek rfl rfl (Nat.le_of_ble_eq_true rfl) (by decide) dl_194 hP hD hS hl.1 (fun H locs hP hD hS => ?_)
  exact lv_icmp_eq hx hb dl_197 (tgt := 353) (by decide) (fun _ => kk a1 b1 u1 H locs hP hD hS) (fun h => absurd rfl h)
theorem ca_step (G : LG p s m c b D cA tb) (hX : va_X b L xs s s.heap) (hbl : b < s.heap.size) (hL : L ≤ 2048) : LC p l e s m below meth c b L D cA oc om Q 202 := by
  intro k a bf u H locs ls hk hl hP hD hS kk
  have hx := G.1
  have hb := G.2.1
  have hbA : ¬ s.heap.size ≤ b := by omega
  obtain ⟨r, a1, b1, u1, e1, e2⟩ := ev_step a bf u 
  refine lv_aload_n hx hb dl_202 rfl (lv_at hl 2 rfl) ?_
  refine lc_ci (As := []) (rest := []) (σ := mC a) (σ1 := mC a1) (τ := mM a bf u) (mm := tc_step (mC a) ) (r0 := r) G (fun E => k_tc_step (E := E)) e1 mw_tc_step rfl ll_tc_step rfl rfl (Nat.le_of_ble_eq_true rfl) (by decide) dl_203 hP hD hS hl.1 (fun H locs hP hD hS => ?_)
  refine lv_aload_n hx hb dl_206 rfl (lv_at hl 1 rfl) ?_
  refine lc_mi (As := []) (rest := [.int r]) (σ1 := mC a1) (τ := mM a bf u) (τ1 := mM a1 b1 u1) (mm := mo_step (mM a bf u) ) (r0 := r) G (fun E => k_mo_step (E := E)) e2 mw_mo_step rfl ll_mo_step rfl rfl (Nat.le_of_ble_eq_true rfl) (by decide) dl_207 hP hD hS hl.1 (fun H locs hP hD hS => ?_)
  exact lv_icmp_eq hx hb dl_210 (tgt := 353) (by decide) (fun _ => kk a1 b1 u1 H locs hP hD hS) (fun h => absurd rfl h)
theorem ca_run (G : LG p s m c b D cA tb) (hX : va_X b L xs s s.heap) (hbl : b < s.heap.size) (hL : L ≤ 2048) : LC p l e s m below meth c b L D cA oc om Q 215 := by
  intro k a bf u H locs ls hk hl hP hD hS kk
  have hx := G.1
  have hb := G.2.1
  have hbA : ¬ s.heap.size ≤ b := by omega
  obtain ⟨r, a1, b1, u1, e1, e2⟩ := ev_run a bf u (xs (nI (4 * k) + nI 1).toNatClampNeg)
  refine lv_aload_n hx hb dl_215 rfl (lv_at hl 2 rfl) ?_
  refine lv_aload_n hx hb dl_216 rfl (lv_at hl 3 rfl) ?_
  refine lv_iload_n hx hb dl_217 rfl (lv_at hl 0 rfl) ?_
  refine lv_iconst (v := nI 1) hx hb dl_218 (by decide) ?_
  refine lv_iadd hx hb dl_219 ?_
  refine va_sld hx hb hX hbl hbA hS (ls_in hk hL (by decide)) dl_220 ?_
  refine lc_ci (As := [.int (xs (nI (4 * k) + nI 1).toNatClampNeg)]) (rest := []) (σ := mC a) (σ1 := mC a1) (τ := mM a bf u) (mm := tc_run (mC a) (xs (nI (4 * k) + nI 1).toNatClampNeg)) (r0 := r) G (fun E => k_tc_run (E := E) (a1 := (xs (nI (4 * k) + nI 1).toNatClampNeg))) e1 mw_tc_run rfl ll_tc_run rfl rfl (Nat.le_of_ble_eq_true rfl) (by decide) dl_221 hP hD hS hl.1 (fun H locs hP hD hS => ?_)
  refine lv_aload_n hx hb dl_224 rfl (lv_at hl 1 rfl) ?_
  refine lv_aload_n hx hb dl_225 rfl (lv_at hl 3 rfl) ?_
  refine lv_iload_n hx hb dl_226 rfl (lv_at hl 0 rfl) ?_
  refine lv_iconst (v := nI 1) hx hb dl_227 (by decide) ?_
  refine lv_iadd hx hb dl_228 ?_
  refine va_sld hx hb hX hbl hbA hS (ls_in hk hL (by decide)) dl_229 ?_
  refine lc_mi (As := [.int (xs (nI (4 * k) + nI 1).toNatClampNeg)]) (rest := [.int r]) (σ1 := mC a1) (τ := mM a bf u) (τ1 := mM a1 b1 u1) (mm := mo_run (mM a bf u) (xs (nI (4 * k) + nI 1).toNatClampNeg)) (r0 := r) G (fun E => k_mo_run (E := E) (a1 := (xs (nI (4 * k) + nI 1).toNatClampNeg))) e2 mw_mo_run rfl ll_mo_run rfl rfl (Nat.le_of_ble_eq_true rfl) (by decide) dl_230 hP hD hS hl.1 (fun H locs hP hD hS => ?_)
  exact lv_icmp_eq hx hb dl_233 (tgt := 353) (by decide) (fun _ => kk a1 b1 u1 H locs hP hD hS) (fun h => absurd rfl h)
theorem ca_setLine (G : LG p s m c b D cA tb) (hX : va_X b L xs s s.heap) (hbl : b < s.heap.size) (hL : L ≤ 2048) : LC p l e s m below meth c b L D cA oc om Q 238 := by
  intro k a bf u H locs ls hk hl hP hD hS kk
  have hx := G.1
  have hb := G.2.1
  have hbA : ¬ s.heap.size ≤ b := by omega
  obtain ⟨r, a1, b1, u1, e1, e2⟩ := ev_setLine a bf u (xs (nI (4 * k) + nI 1).toNatClampNeg) (xs (nI (4 * k) + nI 2).toNatClampNeg)
  refine lv_aload_n hx hb dl_238 rfl (lv_at hl 2 rfl) ?_
  refine lv_aload_n hx hb dl_239 rfl (lv_at hl 3 rfl) ?_
  refine lv_iload_n hx hb dl_240 rfl (lv_at hl 0 rfl) ?_
  refine lv_iconst (v := nI 1) hx hb dl_241 (by decide) ?_
  refine lv_iadd hx hb dl_242 ?_
  refine va_sld hx hb hX hbl hbA hS (ls_in hk hL (by decide)) dl_243 ?_
  refine lv_aload_n hx hb dl_244 rfl (lv_at hl 3 rfl) ?_
  refine lv_iload_n hx hb dl_245 rfl (lv_at hl 0 rfl) ?_
  refine lv_iconst (v := nI 2) hx hb dl_246 (by decide) ?_
  refine lv_iadd hx hb dl_247 ?_
  refine va_sld hx hb hX hbl hbA hS (ls_in hk hL (by decide)) dl_248 ?_
  refine lc_ci (As := [.int (xs (nI (4 * k) + nI 1).toNatClampNeg), .int (xs (nI (4 * k) + nI 2).toNatClampNeg)]) (rest := []) (σ := mC a) (σ1 := mC a1) (τ := mM a bf u) (mm := tc_setLine (mC a) (xs (nI (4 * k) + nI 1).toNatClampNeg) (xs (nI (4 * k) + nI 2).toNatClampNeg)) (r0 := r) G (fun E => k_tc_setLine (E := E) (a1 := (xs (nI (4 * k) + nI 1).toNatClampNeg)) (a2 := (xs (nI (4 * k) + nI 2).toNatClampNeg))) e1 mw_tc_setLine rfl ll_tc_setLine rfl rfl (Nat.le_of_ble_eq_true rfl) (by decide) dl_249 hP hD hS hl.1 (fun H locs hP hD hS => ?_)
  refine lv_aload_n hx hb dl_252 rfl (lv_at hl 1 rfl) ?_
  refine lv_aload_n hx hb dl_253 rfl (lv_at hl 3 rfl) ?_
  refine lv_iload_n hx hb dl_254 rfl (lv_at hl 0 rfl) ?_
  refine lv_iconst (v := nI 1) hx hb dl_255 (by decide) ?_
  refine lv_iadd hx hb dl_256 ?_
  refine va_sld hx hb hX hbl hbA hS (ls_in hk hL (by decide)) dl_257 ?_
  refine lv_aload_n hx hb dl_258 rfl (lv_at hl 3 rfl) ?_
  refine lv_iload_n hx hb dl_259 rfl (lv_at hl 0 rfl) ?_
  refine lv_iconst (v := nI 2) hx hb dl_260 (by decide) ?_
  refine lv_iadd hx hb dl_261 ?_
  refine va_sld hx hb hX hbl hbA hS (ls_in hk hL (by decide)) dl_262 ?_
  refine lc_mi (As := [.int (xs (nI (4 * k) + nI 1).toNatClampNeg), .int (xs (nI (4 * k) + nI 2).toNatClampNeg)]) (rest := [.int r]) (σ1 := mC a1) (τ := mM a bf u) (τ1 := mM a1 b1 u1) (mm := mo_setLine (mM a bf u) (xs (nI (4 * k) + nI 1).toNatClampNeg) (xs (nI (4 * k) + nI 2).toNatClampNeg)) (r0 := r) G (fun E => k_mo_setLine (E := E) (a1 := (xs (nI (4 * k) + nI 1).toNatClampNeg)) (a2 := (xs (nI (4 * k) + nI 2).toNatClampNeg))) e2 mw_mo_setLine rfl ll_mo_setLine rfl rfl (Nat.le_of_ble_eq_true rfl) (by decide) dl_263 hP hD hS hl.1 (fun H locs hP hD hS => ?_)
  exact lv_icmp_eq hx hb dl_266 (tgt := 353) (by decide) (fun _ => kk a1 b1 u1 H locs hP hD hS) (fun h => absurd rfl h)
theorem ca_reg (G : LG p s m c b D cA tb) (hX : va_X b L xs s s.heap) (hbl : b < s.heap.size) (hL : L ≤ 2048) : LC p l e s m below meth c b L D cA oc om Q 271 := by
  intro k a bf u H locs ls hk hl hP hD hS kk
  have hx := G.1
  have hb := G.2.1
  have hbA : ¬ s.heap.size ≤ b := by omega
  obtain ⟨r, a1, b1, u1, e1, e2⟩ := ev_reg a bf u (xs (nI (4 * k) + nI 1).toNatClampNeg)
  refine lv_aload_n hx hb dl_271 rfl (lv_at hl 2 rfl) ?_
  refine lv_aload_n hx hb dl_272 rfl (lv_at hl 3 rfl) ?_
  refine lv_iload_n hx hb dl_273 rfl (lv_at hl 0 rfl) ?_
  refine lv_iconst (v := nI 1) hx hb dl_274 (by decide) ?_
  refine lv_iadd hx hb dl_275 ?_
  refine va_sld hx hb hX hbl hbA hS (ls_in hk hL (by decide)) dl_276 ?_
  refine lc_ci (As := [.int (xs (nI (4 * k) + nI 1).toNatClampNeg)]) (rest := []) (σ := mC a) (σ1 := mC a1) (τ := mM a bf u) (mm := tc_reg (mC a) (xs (nI (4 * k) + nI 1).toNatClampNeg)) (r0 := r) G (fun E => k_tc_reg (E := E) (a1 := (xs (nI (4 * k) + nI 1).toNatClampNeg))) e1 mw_tc_reg rfl ll_tc_reg rfl rfl (Nat.le_of_ble_eq_true rfl) (by decide) dl_277 hP hD hS hl.1 (fun H locs hP hD hS => ?_)
  refine lv_aload_n hx hb dl_280 rfl (lv_at hl 1 rfl) ?_
  refine lv_aload_n hx hb dl_281 rfl (lv_at hl 3 rfl) ?_
  refine lv_iload_n hx hb dl_282 rfl (lv_at hl 0 rfl) ?_
  refine lv_iconst (v := nI 1) hx hb dl_283 (by decide) ?_
  refine lv_iadd hx hb dl_284 ?_
  refine va_sld hx hb hX hbl hbA hS (ls_in hk hL (by decide)) dl_285 ?_
  refine lc_mi (As := [.int (xs (nI (4 * k) + nI 1).toNatClampNeg)]) (rest := [.int r]) (σ1 := mC a1) (τ := mM a bf u) (τ1 := mM a1 b1 u1) (mm := mo_reg (mM a bf u) (xs (nI (4 * k) + nI 1).toNatClampNeg)) (r0 := r) G (fun E => k_mo_reg (E := E) (a1 := (xs (nI (4 * k) + nI 1).toNatClampNeg))) e2 mw_mo_reg rfl ll_mo_reg rfl rfl (Nat.le_of_ble_eq_true rfl) (by decide) dl_286 hP hD hS hl.1 (fun H locs hP hD hS => ?_)
  exact lv_icmp_eq hx hb dl_289 (tgt := 353) (by decide) (fun _ => kk a1 b1 u1 H locs hP hD hS) (fun h => absurd rfl h)
theorem ca_put (G : LG p s m c b D cA tb) (hX : va_X b L xs s s.heap) (hbl : b < s.heap.size) (hL : L ≤ 2048) : LC p l e s m below meth c b L D cA oc om Q 294 := by
  intro k a bf u H locs ls hk hl hP hD hS kk
  have hx := G.1
  have hb := G.2.1
  have hbA : ¬ s.heap.size ≤ b := by omega
  obtain ⟨r, a1, b1, u1, e1, e2⟩ := ev_put a bf u (xs (nI (4 * k) + nI 1).toNatClampNeg) (xs (nI (4 * k) + nI 2).toNatClampNeg)
  refine lv_aload_n hx hb dl_294 rfl (lv_at hl 2 rfl) ?_
  refine lv_aload_n hx hb dl_295 rfl (lv_at hl 3 rfl) ?_
  refine lv_iload_n hx hb dl_296 rfl (lv_at hl 0 rfl) ?_
  refine lv_iconst (v := nI 1) hx hb dl_297 (by decide) ?_
  refine lv_iadd hx hb dl_298 ?_
  refine va_sld hx hb hX hbl hbA hS (ls_in hk hL (by decide)) dl_299 ?_
  refine lv_aload_n hx hb dl_300 rfl (lv_at hl 3 rfl) ?_
  refine lv_iload_n hx hb dl_301 rfl (lv_at hl 0 rfl) ?_
  refine lv_iconst (v := nI 2) hx hb dl_302 (by decide) ?_
  refine lv_iadd hx hb dl_303 ?_
  refine va_sld hx hb hX hbl hbA hS (ls_in hk hL (by decide)) dl_304 ?_
  refine lc_ci (As := [.int (xs (nI (4 * k) + nI 1).toNatClampNeg), .int (xs (nI (4 * k) + nI 2).toNatClampNeg)]) (rest := []) (σ := mC a) (σ1 := mC a1) (τ := mM a bf u) (mm := tc_put (mC a) (xs (nI (4 * k) + nI 1).toNatClampNeg) (xs (nI (4 * k) + nI 2).toNatClampNeg)) (r0 := r) G (fun E => k_tc_put (E := E) (a1 := (xs (nI (4 * k) + nI 1).toNatClampNeg)) (a2 := (xs (nI (4 * k) + nI 2).toNatClampNeg))) e1 mw_tc_put rfl ll_tc_put rfl rfl (Nat.le_of_ble_eq_true rfl) (by decide) dl_305 hP hD hS hl.1 (fun H locs hP hD hS => ?_)
  refine lv_aload_n hx hb dl_308 rfl (lv_at hl 1 rfl) ?_
  refine lv_aload_n hx hb dl_309 rfl (lv_at hl 3 rfl) ?_
  refine lv_iload_n hx hb dl_310 rfl (lv_at hl 0 rfl) ?_
  refine lv_iconst (v := nI 1) hx hb dl_311 (by decide) ?_
  refine lv_iadd hx hb dl_312 ?_
  refine va_sld hx hb hX hbl hbA hS (ls_in hk hL (by decide)) dl_313 ?_
  refine lv_aload_n hx hb dl_314 rfl (lv_at hl 3 rfl) ?_
  refine lv_iload_n hx hb dl_315 rfl (lv_at hl 0 rfl) ?_
  refine lv_iconst (v := nI 2) hx hb dl_316 (by decide) ?_
  refine lv_iadd hx hb dl_317 ?_
  refine va_sld hx hb hX hbl hbA hS (ls_in hk hL (by decide)) dl_318 ?_
  refine lc_mi (As := [.int (xs (nI (4 * k) + nI 1).toNatClampNeg), .int (xs (nI (4 * k) + nI 2).toNatClampNeg)]) (rest := [.int r]) (σ1 := mC a1) (τ := mM a bf u) (τ1 := mM a1 b1 u1) (mm := mo_put (mM a bf u) (xs (nI (4 * k) + nI 1).toNatClampNeg) (xs (nI (4 * k) + nI 2).toNatClampNeg)) (r0 := r) G (fun E => k_mo_put (E := E) (a1 := (xs (nI (4 * k) + nI 1).toNatClampNeg)) (a2 := (xs (nI (4 * k) + nI 2).toNatClampNeg))) e2 mw_mo_put rfl ll_mo_put rfl rfl (Nat.le_of_ble_eq_true rfl) (by decide) dl_319 hP hD hS hl.1 (fun H locs hP hD hS => ?_)
  exact lv_icmp_eq hx hb dl_322 (tgt := 353) (by decide) (fun _ => kk a1 b1 u1 H locs hP hD hS) (fun h => absurd rfl h)
theorem ca_waits (G : LG p s m c b D cA tb) (hX : va_X b L xs s s.heap) (hbl : b < s.heap.size) (hL : L ≤ 2048) : LC p l e s m below meth c b L D cA oc om Q 327 := by
  intro k a bf u H locs ls hk hl hP hD hS kk
  have hx := G.1
  have hb := G.2.1
  have hbA : ¬ s.heap.size ≤ b := by omega
  obtain ⟨r, a1, b1, u1, e1, e2⟩ := ev_waits a bf u 
  refine lv_aload_n hx hb dl_327 rfl (lv_at hl 2 rfl) ?_
  refine lc_ci (As := []) (rest := []) (σ := mC a) (σ1 := mC a1) (τ := mM a bf u) (mm := tc_waits (mC a) ) (r0 := r) G (fun E => k_tc_waits (E := E)) e1 mw_tc_waits rfl ll_tc_waits rfl rfl (Nat.le_of_ble_eq_true rfl) (by decide) dl_328 hP hD hS hl.1 (fun H locs hP hD hS => ?_)
  refine lv_aload_n hx hb dl_331 rfl (lv_at hl 1 rfl) ?_
  refine lc_mi (As := []) (rest := [.int r]) (σ1 := mC a1) (τ := mM a bf u) (τ1 := mM a1 b1 u1) (mm := mo_waits (mM a bf u) ) (r0 := r) G (fun E => k_mo_waits (E := E)) e2 mw_mo_waits rfl ll_mo_waits rfl rfl (Nat.le_of_ble_eq_true rfl) (by decide) dl_332 hP hD hS hl.1 (fun H locs hP hD hS => ?_)
  exact lv_icmp_eq hx hb dl_335 (tgt := 353) (by decide) (fun _ => kk a1 b1 u1 H locs hP hD hS) (fun h => absurd rfl h)
theorem ca_lines (G : LG p s m c b D cA tb) (hX : va_X b L xs s s.heap) (hbl : b < s.heap.size) (hL : L ≤ 2048) : LC p l e s m below meth c b L D cA oc om Q 340 := by
  intro k a bf u H locs ls hk hl hP hD hS kk
  have hx := G.1
  have hb := G.2.1
  have hbA : ¬ s.heap.size ≤ b := by omega
  obtain ⟨r, a1, b1, u1, e1, e2⟩ := ev_lines a bf u 
  refine lv_aload_n hx hb dl_340 rfl (lv_at hl 2 rfl) ?_
  refine lc_ci (As := []) (rest := []) (σ := mC a) (σ1 := mC a1) (τ := mM a bf u) (mm := tc_lines (mC a) ) (r0 := r) G (fun E => k_tc_lines (E := E)) e1 mw_tc_lines rfl ll_tc_lines rfl rfl (Nat.le_of_ble_eq_true rfl) (by decide) dl_341 hP hD hS hl.1 (fun H locs hP hD hS => ?_)
  refine lv_aload_n hx hb dl_344 rfl (lv_at hl 1 rfl) ?_
  refine lc_mi (As := []) (rest := [.int r]) (σ1 := mC a1) (τ := mM a bf u) (τ1 := mM a1 b1 u1) (mm := mo_lines (mM a bf u) ) (r0 := r) G (fun E => k_mo_lines (E := E)) e2 mw_mo_lines rfl ll_mo_lines rfl rfl (Nat.le_of_ble_eq_true rfl) (by decide) dl_345 hP hD hS hl.1 (fun H locs hP hD hS => ?_)
  exact lv_icmp_eq hx hb dl_348 (tgt := 353) (by decide) (fun _ => kk a1 b1 u1 H locs hP hD hS) (fun h => absurd rfl h)
end
