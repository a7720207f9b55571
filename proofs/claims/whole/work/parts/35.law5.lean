def la7 (q0 q1 q2 q3 q4 q5 q6 : Nat) : Nat → Nat := fun k => match k with
  | 0 => q0
  | 1 => q1
  | 2 => q2
  | 3 => q3
  | 4 => q4
  | 5 => q5
  | _ => q6
def la5 (q0 q1 q2 q3 q4 : Nat) : Nat → Nat := fun k => match k with
  | 0 => q0
  | 1 => q1
  | 2 => q2
  | 3 => q3
  | _ => q4
def as0 : AS := (fun _ => 0, fun _ => 0, fun _ => false, false, false, 0)
theorem wr_z : (fun k => wr k 0) = fun _ => (0 : Int32) := by
  funext k
  unfold wr
  by_cases h : isW k = true
  · rw [if_pos h]; rfl
  · rw [if_neg h]; rfl
theorem mC_0 : mC as0 = (fun _ => 0, fun _ => 0, fun _ => 0, 0, 0, 0) := by
  show (fun k => w8 0, fun k => wr k 0, fun k => bI false, bI false, bI false, (0 : Int32)) = _
  rw [wr_z]
  rfl
theorem mM_0 : mM as0 (fun _ => 0) false = (fun _ => 0, fun _ => 0, fun _ => 0, fun _ => 0, 0, 0, 0, 0) := by
  show (fun k => w8 0, fun k => wr k 0, fun _ => (0 : Int32), fun k => bI false, bI false, (0 : Int32), bI false, bI false) = _
  rw [wr_z]
  rfl
set_option maxHeartbeats 800000 in
set_option maxRecDepth 100000 in
theorem whole_start {p : Program} {e : Env} {s : State} {m : MethodId} {below : List Frame} {meth : Method} {c : Code} (l : Launch) {b L : Nat} {xs : Nat → Int32} (hL : L ≤ 2048) (C0 : lw_At p s m meth c b L xs) : W p l e room_1 s m #[Value.ref b] below meth c s.heap [] 0 0 (lw_Z below #[Value.ref b] s) (entryFrame m ([Value.ref b] : List Value).toArray 4) := by
  obtain ⟨hx, hb, hr, hml, hown, hts, hX, hbl, hlocks, hg⟩ := C0
  have htc : ∀ w ∈ CW, w.before #[Value.ref b] s = true := fun w hw => hts w (List.mem_filter.mp hw).1
  obtain ⟨D, hK⟩ := law_K htc
  obtain ⟨tb, hSt⟩ := law_S hts (htc _ lj_c) hg
  have hN : nw1 s := ⟨va_Nw.of rfl (hts _ ln_1), va_Nw.of rfl (hts _ ln_2)⟩
  have hA : ∀ q : Nat, s.heap.size ≤ q → (fun q => s.heap.size ≤ q) q := fun q h => h
  have hP : va_P D vwCl [] s.heap := fun k q hq => absurd hq (by simp)
  have hD : va_D (fun q => s.heap.size ≤ q) [] := ⟨fun i j x y hx => absurd hx (by simp), fun k q hq => absurd hq (by simp)⟩
  have hS : va_S (fun q => s.heap.size ≤ q) s.heap s.heap [] := va_S.rf
  have hl := lv_entry ([Value.ref b]) (n := 4) (Nat.le_of_ble_eq_true rfl)
  rw [lg_entry_eq]
  generalize (lg_sl ([Value.ref b]) ++ List.replicate (4 - (lg_sl ([Value.ref b])).length) Slot.unset).toArray = ls at hl ⊢
  have hl : lv_has ls 4 [(0, .ref b)] := hl
  refine va_new (ci := 0) (fs := [.null, .null, .null, .null, .int 0, .int 0, .int 0]) (C := R_chip) (T := F_chip) (N := 7) hx hb htc u_chip t_chip t_chip_ok hown (htc _ lk_cc) (htc _ li_c) (htc _ lj_c) hK hP hD hS hA rfl (fun j hj => by rcases (show j = 0 ∨ j = 1 ∨ j = 2 ∨ j = 3 ∨ j = 4 ∨ j = 5 ∨ j = 6 by omega) with rfl | rfl | rfl | rfl | rfl | rfl | rfl <;> rfl) (by decide) (by decide) dl_0 (fun q0 H hP hD hS => ?_)
  have hP : va_P D vwCl [(q0, .inr (0, [.null, .null, .null, .null, .int 0, .int 0, .int 0]))] H := hP
  have hD : va_D (fun q => s.heap.size ≤ q) [(q0, .inr (0, [.null, .null, .null, .null, .int 0, .int 0, .int 0]))] := hD
  refine W.widen (k := 1) (n := 7) (by decide) (by decide) ?_
  refine lv_dup hx hb dl_3 rfl ?_
  have hPc := hP.sub (ws' := [(q0, .inr (0, [.null, .null, .null, .null, .int 0, .int 0, .int 0]))]) [0] rfl
  have hDc := hD.sub (ws' := [(q0, .inr (0, [.null, .null, .null, .null, .int 0, .int 0, .int 0]))]) [0] (by decide) rfl
  have hKc := hK.sub (tys' := []) [] rfl
  have hFc := va_free (wc := [(q0, .inr (0, [.null, .null, .null, .null, .int 0, .int 0, .int 0]))]) hD hS hA [0] rfl
  refine va_callv (va_runI (As := []) (rest := [.ref q0]) ⟨hx, hb, hml, hown, htc⟩ (k_tc_init l D q0 H.size) (cwI 0 htc (cw_code lx_c) rfl rfl rfl (htc _ lj_c) (htc _ ll_ci) (htc _ lh_c) rfl kd_tc ⟨Nat.le_of_ble_eq_true rfl, Nat.le_of_ble_eq_true rfl⟩) ⟨fun a U g mk q => by obtain ⟨x0, x1, xP, xK, xD, xN⟩ := q; exact ⟨x0, x1, xP, va_K.moved (u := U) (U := U.calling g mk a) (Vm.Alike.refl U.vm) xK, xD, va_Nw.same (u := U) (U := U.calling g mk a) rfl rfl xN.1, va_Nw.same (u := U) (U := U.calling g mk a) rfl rfl xN.2⟩, fun U hU hW => ⟨rfl, by rw [hU], by rw [hU]; exact hPc, va_K.moved hW.alike hKc, hDc.weaken (fun _ _ _ _ => trivial), nw1_warm hW hN⟩⟩ rfl rfl hl.1 rfl (lv_room (Nat.le_of_ble_eq_true rfl)) dl_4 ⟨by decide, by decide⟩) hS (fun q _ h => hFc q h) hFc (fun u t H1 locs ht hvm hw hB hz1 hk1 hS => ?_)
  obtain ⟨cA, q1, q2, q3, q4, q5, q6⟩ := u
  obtain ⟨hP1, hK1, hD1⟩ := hB
  rw [ht] at hP1
  have hK : va_K D vwCl [(cA, .int)] s := va_K.moved hvm.symm hK1
  obtain ⟨hP, hD⟩ := va_join (wr := []) (w1 := [(q0, .inr (0, [.ref q1, .ref q3, .ref q5, .ref q6, .int 0, .int 0, .int 0])), (q1, .inr (1, [.ref q2])), (q2, .inl (cA, 4096, .inl (fun _ => 0))), (q3, .inr (2, [.ref q4])), (q4, .inl (cA, 9, .inl (fun _ => 0))), (q5, .inr (3, [.ref q3])), (q6, .inl (cA, 3, .inl (fun _ => 0)))]) hP hD [0] [] rfl rfl (by decide) (by decide) hk1 hFc hP1 hD1
  generalize H1 = H at hP hS ⊢
  have hP : va_P D vwCl [(q0, .inr (0, [.ref q1, .ref q3, .ref q5, .ref q6, .int 0, .int 0, .int 0])), (q1, .inr (1, [.ref q2])), (q2, .inl (cA, 4096, .inl (fun _ => 0))), (q3, .inr (2, [.ref q4])), (q4, .inl (cA, 9, .inl (fun _ => 0))), (q5, .inr (3, [.ref q3])), (q6, .inl (cA, 3, .inl (fun _ => 0)))] H := hP
  have hD : va_D (fun q => s.heap.size ≤ q) [(q0, .inr (0, [.ref q1, .ref q3, .ref q5, .ref q6, .int 0, .int 0, .int 0])), (q1, .inr (1, [.ref q2])), (q2, .inl (cA, 4096, .inl (fun _ => 0))), (q3, .inr (2, [.ref q4])), (q4, .inl (cA, 9, .inl (fun _ => 0))), (q5, .inr (3, [.ref q3])), (q6, .inl (cA, 3, .inl (fun _ => 0)))] := hD
  refine lv_astore_n hx hb dl_7 rfl hl (by decide) rfl (fun ls hl => ?_)
  have hl : lv_has ls 4 [(1, .ref q0), (0, .ref b)] := hl
  refine W.widen (k := 7) (n := 4118) (by decide) (by decide) ?_
  refine va_new (ci := 4) (fs := [.null, .null, .null, .int 0, .int 0, .int 0, .int 0, .null]) (C := R_mod) (T := F_mod) (N := 8) hx hb htc u_mod t_mod t_mod_ok hown (htc _ lk_cm) (htc _ li_m) (htc _ lj_m) hK hP hD hS hA rfl (fun j hj => by rcases (show j = 0 ∨ j = 1 ∨ j = 2 ∨ j = 3 ∨ j = 4 ∨ j = 5 ∨ j = 6 ∨ j = 7 by omega) with rfl | rfl | rfl | rfl | rfl | rfl | rfl | rfl <;> rfl) (by decide) (by decide) dl_8 (fun t0 H hP hD hS => ?_)
  have hP : va_P D vwCl [(q0, .inr (0, [.ref q1, .ref q3, .ref q5, .ref q6, .int 0, .int 0, .int 0])), (q1, .inr (1, [.ref q2])), (q2, .inl (cA, 4096, .inl (fun _ => 0))), (q3, .inr (2, [.ref q4])), (q4, .inl (cA, 9, .inl (fun _ => 0))), (q5, .inr (3, [.ref q3])), (q6, .inl (cA, 3, .inl (fun _ => 0))), (t0, .inr (4, [.null, .null, .null, .int 0, .int 0, .int 0, .int 0, .null]))] H := hP
  have hD : va_D (fun q => s.heap.size ≤ q) [(q0, .inr (0, [.ref q1, .ref q3, .ref q5, .ref q6, .int 0, .int 0, .int 0])), (q1, .inr (1, [.ref q2])), (q2, .inl (cA, 4096, .inl (fun _ => 0))), (q3, .inr (2, [.ref q4])), (q4, .inl (cA, 9, .inl (fun _ => 0))), (q5, .inr (3, [.ref q3])), (q6, .inl (cA, 3, .inl (fun _ => 0))), (t0, .inr (4, [.null, .null, .null, .int 0, .int 0, .int 0, .int 0, .null]))] := hD
  refine W.widen (k := 8) (n := 4126) (by decide) (by decide) ?_
  refine lv_dup hx hb dl_11 rfl ?_
  have hPc := hP.sub (ws' := [(t0, .inr (4, [.null, .null, .null, .int 0, .int 0, .int 0, .int 0, .null]))]) [7] rfl
  have hDc := hD.sub (ws' := [(t0, .inr (4, [.null, .null, .null, .int 0, .int 0, .int 0, .int 0, .null]))]) [7] (by decide) rfl
  have hKc := hK.sub (tys' := []) [] rfl
  have hFc := va_free (wc := [(t0, .inr (4, [.null, .null, .null, .int 0, .int 0, .int 0, .int 0, .null]))]) hD hS hA [7] rfl
  refine va_callv (va_runI (As := []) (rest := [.ref t0]) ⟨hx, hb, hml, hown, htc⟩ (k_mo_init l D t0 H.size) (cwI 0 htc (cw_code lx_m) rfl rfl rfl (htc _ lj_m) (htc _ ll_mi) (htc _ lh_m) rfl kd_mo ⟨Nat.le_of_ble_eq_true rfl, Nat.le_of_ble_eq_true rfl⟩) ⟨fun a U g mk q => by obtain ⟨x0, x1, xP, xK, xD⟩ := q; exact ⟨x0, x1, xP, va_K.moved (u := U) (U := U.calling g mk a) (Vm.Alike.refl U.vm) xK, xD⟩, fun U hU hW => ⟨rfl, by rw [hU], by rw [hU]; exact hPc, va_K.moved hW.alike hKc, hDc.weaken (fun _ _ _ _ => trivial)⟩⟩ rfl rfl hl.1 rfl (lv_room (Nat.le_of_ble_eq_true rfl)) dl_12 ⟨by decide, by decide⟩) hS (fun q _ h => hFc q h) hFc (fun u t H1 locs ht hvm hw hB hz1 hk1 hS => ?_)
  obtain ⟨cB, t1, t2, t3, t4⟩ := u
  obtain ⟨hP1, hK1, hD1⟩ := hB
  rw [ht] at hP1
  have hK1 := va_K.moved hvm.symm hK1
  obtain ⟨hP, hD⟩ := va_join (wr := [(q0, .inr (0, [.ref q1, .ref q3, .ref q5, .ref q6, .int 0, .int 0, .int 0])), (q1, .inr (1, [.ref q2])), (q2, .inl (cA, 4096, .inl (fun _ => 0))), (q3, .inr (2, [.ref q4])), (q4, .inl (cA, 9, .inl (fun _ => 0))), (q5, .inr (3, [.ref q3])), (q6, .inl (cA, 3, .inl (fun _ => 0)))]) (w1 := [(t0, .inr (4, [.ref t1, .ref t2, .ref t3, .int 0, .int 0, .int 0, .int 0, .ref t4])), (t1, .inl (cB, 4096, .inl (fun _ => 0))), (t2, .inl (cB, 9, .inl (fun _ => 0))), (t3, .inl (cB, 9, .inl (fun _ => 0))), (t4, .inl (cB, 3, .inl (fun _ => 0)))]) hP hD [7] [0, 1, 2, 3, 4, 5, 6] rfl rfl (by decide) (by decide) hk1 hFc hP1 hD1
  generalize H1 = H at hP hS ⊢
  have hcc : cB = cA := ra_eq (i := 0) (j := 0) hK1 hK rfl rfl
  rw [hcc] at hP hD
  refine W.widen (k := 12) (n := 8243) (by decide) (by decide) ?_
  refine lv_astore_n hx hb dl_15 rfl hl (by decide) rfl (fun ls hl => ?_)
  have hl : lv_has ls 4 [(2, .ref t0), (1, .ref q0), (0, .ref b)] := hl
  refine lv_iconst (v := nI (4 * 0)) hx hb dl_16 (by decide) ?_
  refine lv_istore_n hx hb dl_17 rfl hl (by decide) rfl (fun ls hl => ?_)
  have hP : va_P D vwCl (wdC (la7 q0 q1 q2 q3 q4 q5 q6) cA (mC as0) ++ wdM (la5 t0 t1 t2 t3 t4) cA (mM as0 (fun _ => 0) false)) H := by rw [mC_0, mM_0]; exact hP
  have hD : va_D (fun q => s.heap.size ≤ q) (wdC (la7 q0 q1 q2 q3 q4 q5 q6) cA (mC as0) ++ wdM (la5 t0 t1 t2 t3 t4) cA (mM as0 (fun _ => 0) false)) := by rw [mC_0, mM_0]; exact hD
  refine law_loop (xs := xs) (oc := la7 q0 q1 q2 q3 q4 q5 q6) (om := la5 t0 t1 t2 t3 t4) ⟨hx, hb, hml, hown, htc, hK, hSt⟩ hX hbl hL (fun H locs ls hS => ?_) (L + 1) 0 as0 (fun _ => 0) false H locs ls (by omega) (by omega) hl hP hD hS
  refine va_forget hS.2.2 ?_
  refine lv_iconst (v := 1) hx hb dl_359 (by decide) ?_
  exact lw_ret hx hb hr hlocks dl_360
