theorem ko_1 : Cond.instanceMethod objectInit ∈ CW := cw_mem (by decide +kernel) rfl
theorem ko_2 : Cond.code objectInit ⟨#[0xb1]⟩ 1 none ∈ CW := cw_mem (by decide +kernel) rfl
theorem ko_3 : Cond.arrayClass .int ∈ CW := cw_mem (by decide +kernel) rfl
theorem ko_me : Cond.methodLink R_mem 3 objectInit ∈ CW := cw_mem (by decide +kernel) rfl
theorem ko_re : Cond.methodLink R_reg 3 objectInit ∈ CW := cw_mem (by decide +kernel) rfl
theorem ko_ar : Cond.methodLink R_ari 3 objectInit ∈ CW := cw_mem (by decide +kernel) rfl
theorem ko_tc : Cond.methodLink R_chip 1 objectInit ∈ CW := cw_mem (by decide +kernel) rfl
theorem ko_mo : Cond.methodLink R_mod 1 objectInit ∈ CW := cw_mem (by decide +kernel) rfl
abbrev at_me_init (D : va_G) (A : Nat → Prop) (h0 : Nat) (u : Nat × ClassId) (t : State) : Prop := match u with
  | (q, cA) => va_P D vwCl [(h0, .inr (1, [.ref q])), (q, .inl (cA, 4096, .inl (fun _ => 0)))] t.heap ∧ va_K D vwCl [(cA, .int)] t ∧ va_D A [(h0, .inr (1, [.ref q])), (q, .inl (cA, 4096, .inl (fun _ => 0)))]
theorem kw_me_init : Cond.fieldLink R_mem 9 R_mem (F_mem 0).2.1 (F_mem 0).2.2.1 ∈ CW := cw_mem (by decide +kernel) rfl
set_option maxHeartbeats 800000 in
set_option maxRecDepth 100000 in
theorem k_me_init (l : Launch) (D : va_G) (h0 sz : Nat) : Met l y_me_init (Cond.code y_me_init bc_me_init 1 none :: CW) ({ frames := 1, cells := 1, slots := 4096, locals := 12 }) (va_Pc [.ref h0] (fun U => U.heap.size = sz ∧ va_P D vwCl [(h0, .inr (1, [.null]))] U.heap ∧ va_K D vwCl [] U ∧ va_D (fun _ => True) [(h0, .inr (1, [.null]))])) (va_Qv (fun _ : Nat × ClassId => True) (at_me_init D (va_A [(h0, .inr (1, [.null]))] sz) h0) (va_A [(h0, .inr (1, [.null]))] sz)) 1 4096 (va_A [(h0, .inr (1, [.null]))] sz) := by
  refine Met.ofW (cc := bc_me_init) (maxL := 1) (ret := none) (by decide) rfl ?_
  intro p e s m args below meth c s₁ B hml hv
  obtain ⟨rfl, hsz, hP, hK, hD0⟩ := hv
  have hx := B.exec
  have hb := B.bytes
  have hr := B.returns
  have hts : ∀ w ∈ CW, w.before ([.ref h0] : List Value).toArray s = true := fun w hw => atoms_spec (ws := Cond.code y_me_init bc_me_init 1 none :: CW) B.pre w (List.mem_cons_of_mem _ hw)
  have hown : s.vm.findClass R_mem = some m.cls := findClass_of_methodNamed B.named
  have hlocks := B.notSynchronized
  have hin : meth.name = "<init>" := (name_of_methodNamed B.named B.method).1
  subst hsz
  have hD := hD0.self (sz := s.heap.size)
  generalize hAe : va_A [(h0, .inr (1, [.null]))] s.heap.size = A at hD ⊢
  have hA : ∀ q : Nat, s.heap.size ≤ q → A q := fun q h => by rw [← hAe]; exact Or.inr h
  have hS : va_S A s.heap s.heap [] := va_S.rf
  have hl := lv_entry ([.ref h0]) (n := 1) (Nat.le_of_ble_eq_true rfl)
  rw [lg_entry_eq]
  generalize (lg_sl ([.ref h0]) ++ List.replicate (1 - (lg_sl ([.ref h0])).length) Slot.unset).toArray = ls at hl ⊢
  have hl : lv_has ls 1 [(0, .ref h0)] := hl
  refine lv_aload_n hx hb d_me_init_0 rfl (lv_at hl 0 rfl) ?_
  refine W.objInit hx hb hown (hts _ ko_me) (hts _ ko_1) (hts _ ko_2) rfl (by rw [hml]; exact hl.1) rfl d_me_init_1 (Nat.le_of_ble_eq_true rfl) (Nat.le_of_ble_eq_true rfl) ?_
  refine W.eq (g2 := F0 m 4 ls []) rfl ?_
  refine lv_aload_n hx hb d_me_init_4 rfl (lv_at hl 0 rfl) ?_
  refine lv_sipush (v := 4096) hx hb d_me_init_5 (by decide) ?_
  have h_1 : 0 + 1 ≤ 1 := by decide
  have h_2 : 0 + 4096 ≤ 4096 := by decide
  refine va_newa (atype := .int) (a0 := (4096, .inl (fun _ => 0))) (N' := 4096) hx hb (hts _ ko_3) rfl hK hP hD hS hA (fun _ => rfl) (by decide) (by decide) (by decide) h_1 h_2 d_me_init_8 (fun q cA H hK hP hD hS => ?_)
  have hP : va_P D vwCl [(h0, .inr (1, [.null])), (q, .inl (cA, 4096, .inl (fun _ => 0)))] H := hP
  have hD : va_D A [(h0, .inr (1, [.null])), (q, .inl (cA, 4096, .inl (fun _ => 0)))] := hD
  have hK : va_K D vwCl [(cA, .int)] s := hK
  refine va_putF (D := D) (ci := 1) (v := .ref q) (ty := .array .int) (C := R_mem) (T := F_mem) (N := 1) hx hb hts u_mem t_mem t_mem_ok n_mem hown hK hP hD hS 0 rfl rfl 0 (by decide) (hts _ kw_me_init) (fun _ h9 => h9) rfl hin rfl (by decide +kernel) rfl rfl (Nat.le_of_ble_eq_true rfl) d_me_init_10 (fun H locs hP hD hS => ?_)
  have hP : va_P D vwCl [(h0, .inr (1, [.ref q])), (q, .inl (cA, 4096, .inl (fun _ => 0)))] H := hP
  have hD : va_D A [(h0, .inr (1, [.ref q])), (q, .inl (cA, 4096, .inl (fun _ => 0)))] := hD
  exact W.vret hx hb hr (fun t ht hW => ⟨⟨(q, cA), rfl, trivial, by rw [ht]; exact hP, va_K.moved hW.alike hK, hD⟩, hS.F ht⟩) hS.2.2 d_me_init_13
abbrev at_re_init (D : va_G) (A : Nat → Prop) (h0 : Nat) (u : Nat × ClassId) (t : State) : Prop := match u with
  | (q, cA) => va_P D vwCl [(h0, .inr (2, [.ref q])), (q, .inl (cA, 9, .inl (fun _ => 0)))] t.heap ∧ va_K D vwCl [(cA, .int)] t ∧ va_D A [(h0, .inr (2, [.ref q])), (q, .inl (cA, 9, .inl (fun _ => 0)))]
theorem kw_re_init : Cond.fieldLink R_reg 9 R_reg (F_reg 0).2.1 (F_reg 0).2.2.1 ∈ CW := cw_mem (by decide +kernel) rfl
set_option maxHeartbeats 800000 in
set_option maxRecDepth 100000 in
theorem k_re_init (l : Launch) (D : va_G) (h0 sz : Nat) : Met l y_re_init (Cond.code y_re_init bc_re_init 1 none :: CW) ({ frames := 1, cells := 1, slots := 9, locals := 12 }) (va_Pc [.ref h0] (fun U => U.heap.size = sz ∧ va_P D vwCl [(h0, .inr (2, [.null]))] U.heap ∧ va_K D vwCl [] U ∧ va_D (fun _ => True) [(h0, .inr (2, [.null]))])) (va_Qv (fun _ : Nat × ClassId => True) (at_re_init D (va_A [(h0, .inr (2, [.null]))] sz) h0) (va_A [(h0, .inr (2, [.null]))] sz)) 1 9 (va_A [(h0, .inr (2, [.null]))] sz) := by
  refine Met.ofW (cc := bc_re_init) (maxL := 1) (ret := none) (by decide) rfl ?_
  intro p e s m args below meth c s₁ B hml hv
  obtain ⟨rfl, hsz, hP, hK, hD0⟩ := hv
  have hx := B.exec
  have hb := B.bytes
  have hr := B.returns
  have hts : ∀ w ∈ CW, w.before ([.ref h0] : List Value).toArray s = true := fun w hw => atoms_spec (ws := Cond.code y_re_init bc_re_init 1 none :: CW) B.pre w (List.mem_cons_of_mem _ hw)
  have hown : s.vm.findClass R_reg = some m.cls := findClass_of_methodNamed B.named
  have hlocks := B.notSynchronized
  have hin : meth.name = "<init>" := (name_of_methodNamed B.named B.method).1
  subst hsz
  have hD := hD0.self (sz := s.heap.size)
  generalize hAe : va_A [(h0, .inr (2, [.null]))] s.heap.size = A at hD ⊢
  have hA : ∀ q : Nat, s.heap.size ≤ q → A q := fun q h => by rw [← hAe]; exact Or.inr h
  have hS : va_S A s.heap s.heap [] := va_S.rf
  have hl := lv_entry ([.ref h0]) (n := 1) (Nat.le_of_ble_eq_true rfl)
  rw [lg_entry_eq]
  generalize (lg_sl ([.ref h0]) ++ List.replicate (1 - (lg_sl ([.ref h0])).length) Slot.unset).toArray = ls at hl ⊢
  have hl : lv_has ls 1 [(0, .ref h0)] := hl
  refine lv_aload_n hx hb d_re_init_0 rfl (lv_at hl 0 rfl) ?_
  refine W.objInit hx hb hown (hts _ ko_re) (hts _ ko_1) (hts _ ko_2) rfl (by rw [hml]; exact hl.1) rfl d_re_init_1 (Nat.le_of_ble_eq_true rfl) (Nat.le_of_ble_eq_true rfl) ?_
  refine W.eq (g2 := F0 m 4 ls []) rfl ?_
  refine lv_aload_n hx hb d_re_init_4 rfl (lv_at hl 0 rfl) ?_
  refine lv_bipush (v := 9) hx hb d_re_init_5 (by decide) ?_
  have h_1 : 0 + 1 ≤ 1 := by decide
  have h_2 : 0 + 9 ≤ 9 := by decide
  refine va_newa (atype := .int) (a0 := (9, .inl (fun _ => 0))) (N' := 9) hx hb (hts _ ko_3) rfl hK hP hD hS hA (fun _ => rfl) (by decide) (by decide) (by decide) h_1 h_2 d_re_init_7 (fun q cA H hK hP hD hS => ?_)
  have hP : va_P D vwCl [(h0, .inr (2, [.null])), (q, .inl (cA, 9, .inl (fun _ => 0)))] H := hP
  have hD : va_D A [(h0, .inr (2, [.null])), (q, .inl (cA, 9, .inl (fun _ => 0)))] := hD
  have hK : va_K D vwCl [(cA, .int)] s := hK
  refine va_putF (D := D) (ci := 2) (v := .ref q) (ty := .array .int) (C := R_reg) (T := F_reg) (N := 1) hx hb hts u_reg t_reg t_reg_ok n_reg hown hK hP hD hS 0 rfl rfl 0 (by decide) (hts _ kw_re_init) (fun _ h9 => h9) rfl hin rfl (by decide +kernel) rfl rfl (Nat.le_of_ble_eq_true rfl) d_re_init_9 (fun H locs hP hD hS => ?_)
  have hP : va_P D vwCl [(h0, .inr (2, [.ref q])), (q, .inl (cA, 9, .inl (fun _ => 0)))] H := hP
  have hD : va_D A [(h0, .inr (2, [.ref q])), (q, .inl (cA, 9, .inl (fun _ => 0)))] := hD
  exact W.vret hx hb hr (fun t ht hW => ⟨⟨(q, cA), rfl, trivial, by rw [ht]; exact hP, va_K.moved hW.alike hK, hD⟩, hS.F ht⟩) hS.2.2 d_re_init_12
abbrev at_ar_init (D : va_G) (A : Nat → Prop) (h0 r : Nat) (_u : Unit) (t : State) : Prop := va_P D vwCl [(h0, .inr (3, [.ref r]))] t.heap ∧ va_K D vwCl [] t ∧ va_D A [(h0, .inr (3, [.ref r]))]
theorem kw_ar_init : Cond.fieldLink R_ari 9 R_ari (F_ari 0).2.1 (F_ari 0).2.2.1 ∈ CW := cw_mem (by decide +kernel) rfl
set_option maxHeartbeats 800000 in
set_option maxRecDepth 100000 in
theorem k_ar_init (l : Launch) (D : va_G) (h0 sz r : Nat) : Met l y_ar_init (Cond.code y_ar_init bc_ar_init 2 none :: CW) ({ frames := 1, cells := 0, slots := 0, locals := 12 }) (va_Pc [.ref h0, .ref r] (fun U => U.heap.size = sz ∧ va_P D vwCl [(h0, .inr (3, [.null]))] U.heap ∧ va_K D vwCl [] U ∧ va_D (fun _ => True) [(h0, .inr (3, [.null]))])) (va_Qv (fun _ : Unit => True) (at_ar_init D (va_A [(h0, .inr (3, [.null]))] sz) h0 r) (va_A [(h0, .inr (3, [.null]))] sz)) 0 0 (va_A [(h0, .inr (3, [.null]))] sz) := by
  refine Met.ofW (cc := bc_ar_init) (maxL := 2) (ret := none) (by decide) rfl ?_
  intro p e s m args below meth c s₁ B hml hv
  obtain ⟨rfl, hsz, hP, hK, hD0⟩ := hv
  have hx := B.exec
  have hb := B.bytes
  have hr := B.returns
  have hts : ∀ w ∈ CW, w.before ([.ref h0, .ref r] : List Value).toArray s = true := fun w hw => atoms_spec (ws := Cond.code y_ar_init bc_ar_init 2 none :: CW) B.pre w (List.mem_cons_of_mem _ hw)
  have hown : s.vm.findClass R_ari = some m.cls := findClass_of_methodNamed B.named
  have hlocks := B.notSynchronized
  have hin : meth.name = "<init>" := (name_of_methodNamed B.named B.method).1
  subst hsz
  have hD := hD0.self (sz := s.heap.size)
  generalize hAe : va_A [(h0, .inr (3, [.null]))] s.heap.size = A at hD ⊢
  have hA : ∀ q : Nat, s.heap.size ≤ q → A q := fun q h => by rw [← hAe]; exact Or.inr h
  have hS : va_S A s.heap s.heap [] := va_S.rf
  have hl := lv_entry ([.ref h0, .ref r]) (n := 2) (Nat.le_of_ble_eq_true rfl)
  rw [lg_entry_eq]
  generalize (lg_sl ([.ref h0, .ref r]) ++ List.replicate (2 - (lg_sl ([.ref h0, .ref r])).length) Slot.unset).toArray = ls at hl ⊢
  have hl : lv_has ls 2 [(0, .ref h0), (1, .ref r)] := hl
  refine lv_aload_n hx hb d_ar_init_0 rfl (lv_at hl 0 rfl) ?_
  refine W.objInit hx hb hown (hts _ ko_ar) (hts _ ko_1) (hts _ ko_2) rfl (by rw [hml]; exact hl.1) rfl d_ar_init_1 (Nat.le_of_ble_eq_true rfl) (Nat.le_of_ble_eq_true rfl) ?_
  refine W.eq (g2 := F0 m 4 ls []) rfl ?_
  refine lv_aload_n hx hb d_ar_init_4 rfl (lv_at hl 0 rfl) ?_
  refine lv_aload_n hx hb d_ar_init_5 rfl (lv_at hl 1 rfl) ?_
  refine va_putF (D := D) (ci := 3) (v := .ref r) (ty := .object "TwinStackChip$Registers") (C := R_ari) (T := F_ari) (N := 1) hx hb hts u_ari t_ari t_ari_ok n_ari hown hK hP hD hS 0 rfl rfl 0 (by decide) (hts _ kw_ar_init) (fun _ h9 => h9) rfl hin rfl (by decide +kernel) rfl rfl (Nat.le_of_ble_eq_true rfl) d_ar_init_6 (fun H locs hP hD hS => ?_)
  have hP : va_P D vwCl [(h0, .inr (3, [.ref r]))] H := hP
  have hD : va_D A [(h0, .inr (3, [.ref r]))] := hD
  exact W.vret hx hb hr (fun t ht hW => ⟨⟨(), rfl, trivial, by rw [ht]; exact hP, va_K.moved hW.alike hK, hD⟩, hS.F ht⟩) hS.2.2 d_ar_init_9
def hostC : String := "TwinStackChip"
theorem kd_me : y_me_init.cls ≠ "java/lang/invoke/MethodHandle" ∧ y_me_init.cls ≠ "java/lang/invoke/VarHandle" ∧ (parseMethodDescriptor y_me_init.desc).map (fun d => d.parameters.length) = some 0 := ⟨by decide, by decide, by decide +kernel⟩
theorem kd_re : y_re_init.cls ≠ "java/lang/invoke/MethodHandle" ∧ y_re_init.cls ≠ "java/lang/invoke/VarHandle" ∧ (parseMethodDescriptor y_re_init.desc).map (fun d => d.parameters.length) = some 0 := ⟨by decide, by decide, by decide +kernel⟩
theorem kd_ar : y_ar_init.cls ≠ "java/lang/invoke/MethodHandle" ∧ y_ar_init.cls ≠ "java/lang/invoke/VarHandle" ∧ (parseMethodDescriptor y_ar_init.desc).map (fun d => d.parameters.length) = some 1 := ⟨by decide, by decide, by decide +kernel⟩
theorem kx_me : Cond.code y_me_init bc_me_init 1 none ∈ CW := cw_mem (by decide +kernel) rfl
theorem kx_re : Cond.code y_re_init bc_re_init 1 none ∈ CW := cw_mem (by decide +kernel) rfl
theorem kx_ar : Cond.code y_ar_init bc_ar_init 2 none ∈ CW := cw_mem (by decide +kernel) rfl
theorem ki_me : Cond.instanceMethod y_me_init ∈ CW := cw_mem (by decide +kernel) rfl
theorem ki_re : Cond.instanceMethod y_re_init ∈ CW := cw_mem (by decide +kernel) rfl
theorem ki_ar : Cond.instanceMethod y_ar_init ∈ CW := cw_mem (by decide +kernel) rfl
theorem kn_me : Cond.initialized R_mem ∈ CW := cw_mem (by decide +kernel) rfl
theorem kn_re : Cond.initialized R_reg ∈ CW := cw_mem (by decide +kernel) rfl
theorem kn_ar : Cond.initialized R_ari ∈ CW := cw_mem (by decide +kernel) rfl
theorem kc1 : Cond.classLink R_chip 7 R_mem ∈ CW := cw_mem (by decide +kernel) rfl
theorem kc2 : Cond.classLink R_chip 16 R_reg ∈ CW := cw_mem (by decide +kernel) rfl
theorem kc3 : Cond.classLink R_chip 23 R_ari ∈ CW := cw_mem (by decide +kernel) rfl
theorem kt1 : Cond.instantiable R_mem 1 ∈ CW := cw_mem (by decide +kernel) rfl
theorem kt2 : Cond.instantiable R_reg 1 ∈ CW := cw_mem (by decide +kernel) rfl
theorem kt3 : Cond.instantiable R_ari 1 ∈ CW := cw_mem (by decide +kernel) rfl
theorem km_ar : Cond.methodLink R_chip 25 y_ar_init ∈ CW := cw_mem (by decide +kernel) rfl
theorem kq_a : Cond.fieldLink R_chip 28 R_chip (F_chip 2).2.1 (F_chip 2).2.2.1 ∈ CW := cw_mem (by decide +kernel) rfl
theorem kq_m : Cond.fieldLink R_chip 10 R_chip (F_chip 0).2.1 (F_chip 0).2.2.1 ∈ CW := cw_mem (by decide +kernel) rfl
theorem kq_r : Cond.fieldLink R_chip 19 R_chip (F_chip 1).2.1 (F_chip 1).2.2.1 ∈ CW := cw_mem (by decide +kernel) rfl
theorem kq_l : Cond.fieldLink R_chip 32 R_chip (F_chip 3).2.1 (F_chip 3).2.2.1 ∈ CW := cw_mem (by decide +kernel) rfl
theorem cw_code {y : MethodName} {b : ByteArray} {n : Nat} {ret : Option FieldType} (h : Cond.code y b n ret ∈ CW) : GoodIn CW (Cond.code y b n ret :: CW) := cw_in (fun w hw => by
  rcases List.mem_cons.mp hw with rfl | h2
  · exact h
  · exact h2)
theorem ra_eq {U : State} {c1 c2 : ClassId} {D : va_G} {t1 t2 : List (ClassId × FieldType)} {i j : Nat} (h1 : va_K D vwCl t1 U) (h2 : va_K D vwCl t2 U) (e1 : t1[i]? = some (c1, .int)) (e2 : t2[j]? = some (c2, .int)) : c1 = c2 := by
  have a := (h1.2 i _ e1).2
  have b := (h2.2 j _ e2).2
  exact Option.some.inj (a.symm.trans b)
abbrev nw1 (U : State) : Prop := va_Nw (.methodLinkNest R_chip 9 y_me_init hostC) U ∧ va_Nw (.methodLinkNest R_chip 18 y_re_init hostC) U
theorem nw1_warm {s U : State} (hW : s.WarmedH U.vm) (h : nw1 s) : nw1 U := ⟨va_Nw.warmM hW h.1, va_Nw.warmM hW h.2⟩
abbrev at_tc_init (D : va_G) (A : Nat → Prop) (h0 : Nat) (u : ClassId × Nat × Nat × Nat × Nat × Nat × Nat) (t : State) : Prop := match u with
  | (cA, q1, q2, q3, q4, q5, q6) => va_P D vwCl [(h0, .inr (0, [.ref q1, .ref q3, .ref q5, .ref q6, .int 0, .int 0, .int 0])), (q1, .inr (1, [.ref q2])), (q2, .inl (cA, 4096, .inl (fun _ => 0))), (q3, .inr (2, [.ref q4])), (q4, .inl (cA, 9, .inl (fun _ => 0))), (q5, .inr (3, [.ref q3])), (q6, .inl (cA, 3, .inl (fun _ => 0)))] t.heap ∧ va_K D vwCl [(cA, .int)] t ∧ va_D A [(h0, .inr (0, [.ref q1, .ref q3, .ref q5, .ref q6, .int 0, .int 0, .int 0])), (q1, .inr (1, [.ref q2])), (q2, .inl (cA, 4096, .inl (fun _ => 0))), (q3, .inr (2, [.ref q4])), (q4, .inl (cA, 9, .inl (fun _ => 0))), (q5, .inr (3, [.ref q3])), (q6, .inl (cA, 3, .inl (fun _ => 0)))]
set_option maxHeartbeats 800000 in
set_option maxRecDepth 100000 in
theorem k_tc_init (l : Launch) (D : va_G) (h0 sz : Nat) : Met l y_tc_init (Cond.code y_tc_init bc_tc_init 1 none :: CW) ({ frames := 2, cells := 6, slots := 4111, locals := 33 }) (va_Pc [.ref h0] (fun U => U.heap.size = sz ∧ va_P D vwCl [(h0, .inr (0, [.null, .null, .null, .null, .int 0, .int 0, .int 0]))] U.heap ∧ va_K D vwCl [] U ∧ va_D (fun _ => True) [(h0, .inr (0, [.null, .null, .null, .null, .int 0, .int 0, .int 0]))] ∧ nw1 U)) (va_Qv (fun _ : ClassId × Nat × Nat × Nat × Nat × Nat × Nat => True) (at_tc_init D (va_A [(h0, .inr (0, [.null, .null, .null, .null, .int 0, .int 0, .int 0]))] sz) h0) (va_A [(h0, .inr (0, [.null, .null, .null, .null, .int 0, .int 0, .int 0]))] sz)) 6 4111 (va_A [(h0, .inr (0, [.null, .null, .null, .null, .int 0, .int 0, .int 0]))] sz) := by
  refine Met.ofW (cc := bc_tc_init) (maxL := 1) (ret := none) (by decide) rfl ?_
  intro p e s m args below meth c s₁ B hml hv
  obtain ⟨rfl, hsz, hP, hK, hD0, hN⟩ := hv
  have hx := B.exec
  have hb := B.bytes
  have hr := B.returns
  have hts : ∀ w ∈ CW, w.before ([.ref h0] : List Value).toArray s = true := fun w hw => atoms_spec (ws := Cond.code y_tc_init bc_tc_init 1 none :: CW) B.pre w (List.mem_cons_of_mem _ hw)
  have hown : s.vm.findClass R_chip = some m.cls := findClass_of_methodNamed B.named
  have hlocks := B.notSynchronized
  have hin : meth.name = "<init>" := (name_of_methodNamed B.named B.method).1
  subst hsz
  have hD := hD0.self (sz := s.heap.size)
  generalize hAe : va_A [(h0, .inr (0, [.null, .null, .null, .null, .int 0, .int 0, .int 0]))] s.heap.size = A at hD ⊢
  have hA : ∀ q : Nat, s.heap.size ≤ q → A q := fun q h => by rw [← hAe]; exact Or.inr h
  have hS : va_S A s.heap s.heap [] := va_S.rf
  have hl := lv_entry ([.ref h0]) (n := 1) (Nat.le_of_ble_eq_true rfl)
  rw [lg_entry_eq]
  generalize (lg_sl ([.ref h0]) ++ List.replicate (1 - (lg_sl ([.ref h0])).length) Slot.unset).toArray = ls at hl ⊢
  have hl : lv_has ls 1 [(0, .ref h0)] := hl
  refine lv_aload_n hx hb d_tc_init_0 rfl (lv_at hl 0 rfl) ?_
  refine W.objInit hx hb hown (hts _ ko_tc) (hts _ ko_1) (hts _ ko_2) rfl (by rw [hml]; exact hl.1) rfl d_tc_init_1 (Nat.le_of_ble_eq_true rfl) (Nat.le_of_ble_eq_true rfl) ?_
  refine W.eq (g2 := F0 m 4 ls []) rfl ?_
  refine lv_aload_n hx hb d_tc_init_4 rfl (lv_at hl 0 rfl) ?_
  refine va_new (ci := 1) (fs := [.null]) (C := R_mem) (T := F_mem) (N := 1) hx hb hts u_mem t_mem t_mem_ok hown (hts _ kc1) (hts _ kt1) (hts _ kn_me) hK hP hD hS hA rfl (fun j hj => by rcases (show j = 0 by omega) with rfl <;> rfl) (by decide) (by decide) d_tc_init_5 (fun q1 H hP hD hS => ?_)
  have hP : va_P D vwCl [(h0, .inr (0, [.null, .null, .null, .null, .int 0, .int 0, .int 0])), (q1, .inr (1, [.null]))] H := hP
  have hD : va_D A [(h0, .inr (0, [.null, .null, .null, .null, .int 0, .int 0, .int 0])), (q1, .inr (1, [.null]))] := hD
  refine W.widen (k := 1) (n := 1) (by decide) (by decide) ?_
  refine lv_dup hx hb d_tc_init_8 rfl ?_
  have hPc := hP.sub (ws' := [(q1, .inr (1, [.null]))]) [1] rfl
  have hDc := hD.sub (ws' := [(q1, .inr (1, [.null]))]) [1] (by decide) rfl
  have hKc := hK.sub (tys' := []) [] rfl
  have hFc := va_free (wc := [(q1, .inr (1, [.null]))]) hD hS hA [1] rfl
  refine va_callv (va_runIN (As := []) (rest := [.ref q1, .ref h0]) ⟨hx, hb, hml, hown, hts⟩ (k_me_init l D q1 H.size) ⟨va_cnB (host := hostC) 0 hts (cw_code kx_me) rfl rfl rfl hN.1 (hts _ kn_me) kd_me ⟨Nat.le_of_ble_eq_true rfl, Nat.le_of_ble_eq_true rfl⟩, rfl, hts _ ki_me⟩ ⟨fun a U g mk q => by obtain ⟨q0, q1, qP, qK, qD⟩ := q; exact ⟨q0, q1, qP, va_K.moved (u := U) (U := U.calling g mk a) (Vm.Alike.refl U.vm) qK, qD⟩, fun U hU hW => ⟨rfl, by rw [hU], by rw [hU]; exact hPc, va_K.moved hW.alike hKc, hDc.weaken (fun _ _ _ _ => trivial)⟩⟩ rfl rfl hl.1 rfl (lv_room (Nat.le_of_ble_eq_true rfl)) d_tc_init_9 ⟨by decide, by decide⟩) hS (fun q _ h => hFc q h) hFc (fun u t H1 locs ht hvm hw hB hz1 hk1 hS => ?_)
  obtain ⟨q2, cA⟩ := u
  obtain ⟨hP1, hK1, hD1⟩ := hB
  rw [ht] at hP1
  have hK1 := va_K.moved hvm.symm hK1
  obtain ⟨hP, hD⟩ := va_join (wr := [(h0, .inr (0, [.null, .null, .null, .null, .int 0, .int 0, .int 0]))]) (w1 := [(q1, .inr (1, [.ref q2])), (q2, .inl (cA, 4096, .inl (fun _ => 0)))]) hP hD [1] [0] rfl rfl (by decide) (by decide) hk1 hFc hP1 hD1
  generalize H1 = H at hP hS ⊢
  have hK : va_K D vwCl [(cA, .int)] s := hK1
  have hP : va_P D vwCl [(h0, .inr (0, [.null, .null, .null, .null, .int 0, .int 0, .int 0])), (q1, .inr (1, [.ref q2])), (q2, .inl (cA, 4096, .inl (fun _ => 0)))] H := hP
  have hD : va_D A [(h0, .inr (0, [.null, .null, .null, .null, .int 0, .int 0, .int 0])), (q1, .inr (1, [.ref q2])), (q2, .inl (cA, 4096, .inl (fun _ => 0)))] := hD
  refine va_putF (D := D) (ci := 0) (v := .ref q1) (ty := .object "TwinStackChip$Memory") (C := R_chip) (T := F_chip) (N := 7) hx hb hts u_chip t_chip t_chip_ok n_chip hown hK hP hD hS 0 rfl rfl 0 (by decide) (hts _ kq_m) (fun _ h9 => h9) rfl hin rfl (by decide +kernel) rfl rfl (Nat.le_of_ble_eq_true rfl) d_tc_init_12 (fun H locs hP hD hS => ?_)
  have hP : va_P D vwCl [(h0, .inr (0, [.ref q1, .null, .null, .null, .int 0, .int 0, .int 0])), (q1, .inr (1, [.ref q2])), (q2, .inl (cA, 4096, .inl (fun _ => 0)))] H := hP
  have hD : va_D A [(h0, .inr (0, [.ref q1, .null, .null, .null, .int 0, .int 0, .int 0])), (q1, .inr (1, [.ref q2])), (q2, .inl (cA, 4096, .inl (fun _ => 0)))] := hD
  refine lv_aload_n hx hb d_tc_init_15 rfl (lv_at hl 0 rfl) ?_
  refine W.widen (k := 2) (n := 4097) (by decide) (by decide) ?_
  refine va_new (ci := 2) (fs := [.null]) (C := R_reg) (T := F_reg) (N := 1) hx hb hts u_reg t_reg t_reg_ok hown (hts _ kc2) (hts _ kt2) (hts _ kn_re) hK hP hD hS hA rfl (fun j hj => by rcases (show j = 0 by omega) with rfl <;> rfl) (by decide) (by decide) d_tc_init_16 (fun q3 H hP hD hS => ?_)
  have hP : va_P D vwCl [(h0, .inr (0, [.ref q1, .null, .null, .null, .int 0, .int 0, .int 0])), (q1, .inr (1, [.ref q2])), (q2, .inl (cA, 4096, .inl (fun _ => 0))), (q3, .inr (2, [.null]))] H := hP
  have hD : va_D A [(h0, .inr (0, [.ref q1, .null, .null, .null, .int 0, .int 0, .int 0])), (q1, .inr (1, [.ref q2])), (q2, .inl (cA, 4096, .inl (fun _ => 0))), (q3, .inr (2, [.null]))] := hD
  refine W.widen (k := 3) (n := 4098) (by decide) (by decide) ?_
  refine lv_dup hx hb d_tc_init_19 rfl ?_
  have hPc := hP.sub (ws' := [(q3, .inr (2, [.null]))]) [3] rfl
  have hDc := hD.sub (ws' := [(q3, .inr (2, [.null]))]) [3] (by decide) rfl
  have hKc := hK.sub (tys' := []) [] rfl
  have hFc := va_free (wc := [(q3, .inr (2, [.null]))]) hD hS hA [3] rfl
  refine va_callv (va_runIN (As := []) (rest := [.ref q3, .ref h0]) ⟨hx, hb, hml, hown, hts⟩ (k_re_init l D q3 H.size) ⟨va_cnB (host := hostC) 0 hts (cw_code kx_re) rfl rfl rfl hN.2 (hts _ kn_re) kd_re ⟨Nat.le_of_ble_eq_true rfl, Nat.le_of_ble_eq_true rfl⟩, rfl, hts _ ki_re⟩ ⟨fun a U g mk q => by obtain ⟨q0, q1, qP, qK, qD⟩ := q; exact ⟨q0, q1, qP, va_K.moved (u := U) (U := U.calling g mk a) (Vm.Alike.refl U.vm) qK, qD⟩, fun U hU hW => ⟨rfl, by rw [hU], by rw [hU]; exact hPc, va_K.moved hW.alike hKc, hDc.weaken (fun _ _ _ _ => trivial)⟩⟩ rfl rfl hl.1 rfl (lv_room (Nat.le_of_ble_eq_true rfl)) d_tc_init_20 ⟨by decide, by decide⟩) hS (fun q _ h => hFc q h) hFc (fun u t H1 locs ht hvm hw hB hz1 hk1 hS => ?_)
  obtain ⟨q4, cB⟩ := u
  obtain ⟨hP1, hK1, hD1⟩ := hB
  rw [ht] at hP1
  have hK1 := va_K.moved hvm.symm hK1
  obtain ⟨hP, hD⟩ := va_join (wr := [(h0, .inr (0, [.ref q1, .null, .null, .null, .int 0, .int 0, .int 0])), (q1, .inr (1, [.ref q2])), (q2, .inl (cA, 4096, .inl (fun _ => 0)))]) (w1 := [(q3, .inr (2, [.ref q4])), (q4, .inl (cB, 9, .inl (fun _ => 0)))]) hP hD [3] [0, 1, 2] rfl rfl (by decide) (by decide) hk1 hFc hP1 hD1
  generalize H1 = H at hP hS ⊢
  obtain rfl : cB = cA := ra_eq (i := 0) (j := 0) hK1 hK rfl rfl
  have hP : va_P D vwCl [(h0, .inr (0, [.ref q1, .null, .null, .null, .int 0, .int 0, .int 0])), (q1, .inr (1, [.ref q2])), (q2, .inl (cB, 4096, .inl (fun _ => 0))), (q3, .inr (2, [.ref q4])), (q4, .inl (cB, 9, .inl (fun _ => 0)))] H := hP
  have hD : va_D A [(h0, .inr (0, [.ref q1, .null, .null, .null, .int 0, .int 0, .int 0])), (q1, .inr (1, [.ref q2])), (q2, .inl (cB, 4096, .inl (fun _ => 0))), (q3, .inr (2, [.ref q4])), (q4, .inl (cB, 9, .inl (fun _ => 0)))] := hD
  refine va_putF (D := D) (ci := 0) (v := .ref q3) (ty := .object "TwinStackChip$Registers") (C := R_chip) (T := F_chip) (N := 7) hx hb hts u_chip t_chip t_chip_ok n_chip hown hK hP hD hS 0 rfl rfl 1 (by decide) (hts _ kq_r) (fun _ h9 => h9) rfl hin rfl (by decide +kernel) rfl rfl (Nat.le_of_ble_eq_true rfl) d_tc_init_23 (fun H locs hP hD hS => ?_)
  have hP : va_P D vwCl [(h0, .inr (0, [.ref q1, .ref q3, .null, .null, .int 0, .int 0, .int 0])), (q1, .inr (1, [.ref q2])), (q2, .inl (cB, 4096, .inl (fun _ => 0))), (q3, .inr (2, [.ref q4])), (q4, .inl (cB, 9, .inl (fun _ => 0)))] H := hP
  have hD : va_D A [(h0, .inr (0, [.ref q1, .ref q3, .null, .null, .int 0, .int 0, .int 0])), (q1, .inr (1, [.ref q2])), (q2, .inl (cB, 4096, .inl (fun _ => 0))), (q3, .inr (2, [.ref q4])), (q4, .inl (cB, 9, .inl (fun _ => 0)))] := hD
  refine lv_aload_n hx hb d_tc_init_26 rfl (lv_at hl 0 rfl) ?_
  refine W.widen (k := 4) (n := 4107) (by decide) (by decide) ?_
  refine va_new (ci := 3) (fs := [.null]) (C := R_ari) (T := F_ari) (N := 1) hx hb hts u_ari t_ari t_ari_ok hown (hts _ kc3) (hts _ kt3) (hts _ kn_ar) hK hP hD hS hA rfl (fun j hj => by rcases (show j = 0 by omega) with rfl <;> rfl) (by decide) (by decide) d_tc_init_27 (fun q5 H hP hD hS => ?_)
  have hP : va_P D vwCl [(h0, .inr (0, [.ref q1, .ref q3, .null, .null, .int 0, .int 0, .int 0])), (q1, .inr (1, [.ref q2])), (q2, .inl (cB, 4096, .inl (fun _ => 0))), (q3, .inr (2, [.ref q4])), (q4, .inl (cB, 9, .inl (fun _ => 0))), (q5, .inr (3, [.null]))] H := hP
  have hD : va_D A [(h0, .inr (0, [.ref q1, .ref q3, .null, .null, .int 0, .int 0, .int 0])), (q1, .inr (1, [.ref q2])), (q2, .inl (cB, 4096, .inl (fun _ => 0))), (q3, .inr (2, [.ref q4])), (q4, .inl (cB, 9, .inl (fun _ => 0))), (q5, .inr (3, [.null]))] := hD
  refine W.widen (k := 5) (n := 4108) (by decide) (by decide) ?_
  refine lv_dup hx hb d_tc_init_30 rfl ?_
  refine lv_aload_n hx hb d_tc_init_31 rfl (lv_at hl 0 rfl) ?_
  refine va_get (D := D) (ci := 0) (v := .ref q3) (C := R_chip) (T := F_chip) (N := 7) hx hb hts u_chip hown hK hP 0 rfl rfl 1 (by decide) (hts _ kq_r) (fun _ h9 => h9) rfl d_tc_init_32 ?_
  have hPc := hP.sub (ws' := [(q5, .inr (3, [.null]))]) [5] rfl
  have hDc := hD.sub (ws' := [(q5, .inr (3, [.null]))]) [5] (by decide) rfl
  have hKc := hK.sub (tys' := []) [] rfl
  have hFc := va_free (wc := [(q5, .inr (3, [.null]))]) hD hS hA [5] rfl
  refine va_callv (va_runI (As := [.ref q3]) (rest := [.ref q5, .ref h0]) ⟨hx, hb, hml, hown, hts⟩ (k_ar_init l D q5 H.size q3) (cwI 1 hts (cw_code kx_ar) rfl rfl rfl (hts _ kn_ar) (hts _ km_ar) (hts _ ki_ar) rfl kd_ar ⟨Nat.le_of_ble_eq_true rfl, Nat.le_of_ble_eq_true rfl⟩) ⟨fun a U g mk q => by obtain ⟨q0, q1, qP, qK, qD⟩ := q; exact ⟨q0, q1, qP, va_K.moved (u := U) (U := U.calling g mk a) (Vm.Alike.refl U.vm) qK, qD⟩, fun U hU hW => ⟨rfl, by rw [hU], by rw [hU]; exact hPc, va_K.moved hW.alike hKc, hDc.weaken (fun _ _ _ _ => trivial)⟩⟩ rfl rfl hl.1 rfl (lv_room (Nat.le_of_ble_eq_true rfl)) d_tc_init_35 ⟨by decide, by decide⟩) hS (fun q _ h => hFc q h) hFc (fun u t H1 locs ht hvm hw hB hz1 hk1 hS => ?_)
  obtain ⟨⟩ := u
  obtain ⟨hP1, hK1, hD1⟩ := hB
  rw [ht] at hP1
  have hK1 := va_K.moved hvm.symm hK1
  obtain ⟨hP, hD⟩ := va_join (wr := [(h0, .inr (0, [.ref q1, .ref q3, .null, .null, .int 0, .int 0, .int 0])), (q1, .inr (1, [.ref q2])), (q2, .inl (cB, 4096, .inl (fun _ => 0))), (q3, .inr (2, [.ref q4])), (q4, .inl (cB, 9, .inl (fun _ => 0)))]) (w1 := [(q5, .inr (3, [.ref q3]))]) hP hD [5] [0, 1, 2, 3, 4] rfl rfl (by decide) (by decide) hk1 hFc hP1 hD1
  generalize H1 = H at hP hS ⊢
  have hP : va_P D vwCl [(h0, .inr (0, [.ref q1, .ref q3, .null, .null, .int 0, .int 0, .int 0])), (q1, .inr (1, [.ref q2])), (q2, .inl (cB, 4096, .inl (fun _ => 0))), (q3, .inr (2, [.ref q4])), (q4, .inl (cB, 9, .inl (fun _ => 0))), (q5, .inr (3, [.ref q3]))] H := hP
  have hD : va_D A [(h0, .inr (0, [.ref q1, .ref q3, .null, .null, .int 0, .int 0, .int 0])), (q1, .inr (1, [.ref q2])), (q2, .inl (cB, 4096, .inl (fun _ => 0))), (q3, .inr (2, [.ref q4])), (q4, .inl (cB, 9, .inl (fun _ => 0))), (q5, .inr (3, [.ref q3]))] := hD
  refine va_putF (D := D) (ci := 0) (v := .ref q5) (ty := .object "TwinStackChip$Arithmetic") (C := R_chip) (T := F_chip) (N := 7) hx hb hts u_chip t_chip t_chip_ok n_chip hown hK hP hD hS 0 rfl rfl 2 (by decide) (hts _ kq_a) (fun _ h9 => h9) rfl hin rfl (by decide +kernel) rfl rfl (Nat.le_of_ble_eq_true rfl) d_tc_init_38 (fun H locs hP hD hS => ?_)
  have hP : va_P D vwCl [(h0, .inr (0, [.ref q1, .ref q3, .ref q5, .null, .int 0, .int 0, .int 0])), (q1, .inr (1, [.ref q2])), (q2, .inl (cB, 4096, .inl (fun _ => 0))), (q3, .inr (2, [.ref q4])), (q4, .inl (cB, 9, .inl (fun _ => 0))), (q5, .inr (3, [.ref q3]))] H := hP
  have hD : va_D A [(h0, .inr (0, [.ref q1, .ref q3, .ref q5, .null, .int 0, .int 0, .int 0])), (q1, .inr (1, [.ref q2])), (q2, .inl (cB, 4096, .inl (fun _ => 0))), (q3, .inr (2, [.ref q4])), (q4, .inl (cB, 9, .inl (fun _ => 0))), (q5, .inr (3, [.ref q3]))] := hD
  refine lv_aload_n hx hb d_tc_init_41 rfl (lv_at hl 0 rfl) ?_
  refine lv_iconst (v := 3) hx hb d_tc_init_42 (by decide) ?_
  refine W.widen (k := 5) (n := 4108) (by decide) (by decide) ?_
  refine va_newa (atype := .int) (a0 := (3, .inl (fun _ => 0))) (N' := 3) hx hb (hts _ ko_3) rfl hK hP hD hS hA (fun _ => rfl) (by decide) (by decide) (by decide) (by decide) (by decide) d_tc_init_43 (fun q6 cC H hKn hP hD hS => ?_)
  obtain rfl : cC = cB := ra_eq (i := 1) (j := 0) hKn hK rfl rfl
  have hP : va_P D vwCl [(h0, .inr (0, [.ref q1, .ref q3, .ref q5, .null, .int 0, .int 0, .int 0])), (q1, .inr (1, [.ref q2])), (q2, .inl (cC, 4096, .inl (fun _ => 0))), (q3, .inr (2, [.ref q4])), (q4, .inl (cC, 9, .inl (fun _ => 0))), (q5, .inr (3, [.ref q3])), (q6, .inl (cC, 3, .inl (fun _ => 0)))] H := hP
  have hD : va_D A [(h0, .inr (0, [.ref q1, .ref q3, .ref q5, .null, .int 0, .int 0, .int 0])), (q1, .inr (1, [.ref q2])), (q2, .inl (cC, 4096, .inl (fun _ => 0))), (q3, .inr (2, [.ref q4])), (q4, .inl (cC, 9, .inl (fun _ => 0))), (q5, .inr (3, [.ref q3])), (q6, .inl (cC, 3, .inl (fun _ => 0)))] := hD
  refine va_putF (D := D) (ci := 0) (v := .ref q6) (ty := .array .int) (C := R_chip) (T := F_chip) (N := 7) hx hb hts u_chip t_chip t_chip_ok n_chip hown hK hP hD hS 0 rfl rfl 3 (by decide) (hts _ kq_l) (fun _ h9 => h9) rfl hin rfl (by decide +kernel) rfl rfl (Nat.le_of_ble_eq_true rfl) d_tc_init_45 (fun H locs hP hD hS => ?_)
  have hP : va_P D vwCl [(h0, .inr (0, [.ref q1, .ref q3, .ref q5, .ref q6, .int 0, .int 0, .int 0])), (q1, .inr (1, [.ref q2])), (q2, .inl (cC, 4096, .inl (fun _ => 0))), (q3, .inr (2, [.ref q4])), (q4, .inl (cC, 9, .inl (fun _ => 0))), (q5, .inr (3, [.ref q3])), (q6, .inl (cC, 3, .inl (fun _ => 0)))] H := hP
  have hD : va_D A [(h0, .inr (0, [.ref q1, .ref q3, .ref q5, .ref q6, .int 0, .int 0, .int 0])), (q1, .inr (1, [.ref q2])), (q2, .inl (cC, 4096, .inl (fun _ => 0))), (q3, .inr (2, [.ref q4])), (q4, .inl (cC, 9, .inl (fun _ => 0))), (q5, .inr (3, [.ref q3])), (q6, .inl (cC, 3, .inl (fun _ => 0)))] := hD
  refine W.widen (k := 6) (n := 4111) (by decide) (by decide) ?_
  exact W.vret hx hb hr (fun t ht hW => ⟨⟨(cC, q1, q2, q3, q4, q5, q6), rfl, trivial, by rw [ht]; exact hP, va_K.moved hW.alike hK, hD⟩, hS.F ht⟩) hS.2.2 d_tc_init_48
theorem kq_m0 : Cond.fieldLink R_mod 7 R_mod (F_mod 0).2.1 (F_mod 0).2.2.1 ∈ CW := cw_mem (by decide +kernel) rfl
theorem kq_m1 : Cond.fieldLink R_mod 13 R_mod (F_mod 1).2.1 (F_mod 1).2.2.1 ∈ CW := cw_mem (by decide +kernel) rfl
theorem kq_m2 : Cond.fieldLink R_mod 16 R_mod (F_mod 2).2.1 (F_mod 2).2.2.1 ∈ CW := cw_mem (by decide +kernel) rfl
theorem kq_m7 : Cond.fieldLink R_mod 19 R_mod (F_mod 7).2.1 (F_mod 7).2.2.1 ∈ CW := cw_mem (by decide +kernel) rfl
abbrev at_mo_init (D : va_G) (A : Nat → Prop) (h0 : Nat) (u : ClassId × Nat × Nat × Nat × Nat) (t : State) : Prop := match u with
  | (cA, q1, q2, q3, q4) => va_P D vwCl [(h0, .inr (4, [.ref q1, .ref q2, .ref q3, .int 0, .int 0, .int 0, .int 0, .ref q4])), (q1, .inl (cA, 4096, .inl (fun _ => 0))), (q2, .inl (cA, 9, .inl (fun _ => 0))), (q3, .inl (cA, 9, .inl (fun _ => 0))), (q4, .inl (cA, 3, .inl (fun _ => 0)))] t.heap ∧ va_K D vwCl [(cA, .int)] t ∧ va_D A [(h0, .inr (4, [.ref q1, .ref q2, .ref q3, .int 0, .int 0, .int 0, .int 0, .ref q4])), (q1, .inl (cA, 4096, .inl (fun _ => 0))), (q2, .inl (cA, 9, .inl (fun _ => 0))), (q3, .inl (cA, 9, .inl (fun _ => 0))), (q4, .inl (cA, 3, .inl (fun _ => 0)))]
set_option maxHeartbeats 800000 in
set_option maxRecDepth 100000 in
theorem k_mo_init (l : Launch) (D : va_G) (h0 sz : Nat) : Met l y_mo_init (Cond.code y_mo_init bc_mo_init 1 none :: CW) ({ frames := 1, cells := 4, slots := 4117, locals := 12 }) (va_Pc [.ref h0] (fun U => U.heap.size = sz ∧ va_P D vwCl [(h0, .inr (4, [.null, .null, .null, .int 0, .int 0, .int 0, .int 0, .null]))] U.heap ∧ va_K D vwCl [] U ∧ va_D (fun _ => True) [(h0, .inr (4, [.null, .null, .null, .int 0, .int 0, .int 0, .int 0, .null]))])) (va_Qv (fun _ : ClassId × Nat × Nat × Nat × Nat => True) (at_mo_init D (va_A [(h0, .inr (4, [.null, .null, .null, .int 0, .int 0, .int 0, .int 0, .null]))] sz) h0) (va_A [(h0, .inr (4, [.null, .null, .null, .int 0, .int 0, .int 0, .int 0, .null]))] sz)) 4 4117 (va_A [(h0, .inr (4, [.null, .null, .null, .int 0, .int 0, .int 0, .int 0, .null]))] sz) := by
  refine Met.ofW (cc := bc_mo_init) (maxL := 1) (ret := none) (by decide) rfl ?_
  intro p e s m args below meth c s₁ B hml hv
  obtain ⟨rfl, hsz, hP, hK, hD0⟩ := hv
  have hx := B.exec
  have hb := B.bytes
  have hr := B.returns
  have hts : ∀ w ∈ CW, w.before ([.ref h0] : List Value).toArray s = true := fun w hw => atoms_spec (ws := Cond.code y_mo_init bc_mo_init 1 none :: CW) B.pre w (List.mem_cons_of_mem _ hw)
  have hown : s.vm.findClass R_mod = some m.cls := findClass_of_methodNamed B.named
  have hlocks := B.notSynchronized
  have hin : meth.name = "<init>" := (name_of_methodNamed B.named B.method).1
  subst hsz
  have hD := hD0.self (sz := s.heap.size)
  generalize hAe : va_A [(h0, .inr (4, [.null, .null, .null, .int 0, .int 0, .int 0, .int 0, .null]))] s.heap.size = A at hD ⊢
  have hA : ∀ q : Nat, s.heap.size ≤ q → A q := fun q h => by rw [← hAe]; exact Or.inr h
  have hS : va_S A s.heap s.heap [] := va_S.rf
  have hl := lv_entry ([.ref h0]) (n := 1) (Nat.le_of_ble_eq_true rfl)
  rw [lg_entry_eq]
  generalize (lg_sl ([.ref h0]) ++ List.replicate (1 - (lg_sl ([.ref h0])).length) Slot.unset).toArray = ls at hl ⊢
  have hl : lv_has ls 1 [(0, .ref h0)] := hl
  refine lv_aload_n hx hb d_mo_init_0 rfl (lv_at hl 0 rfl) ?_
  refine W.objInit hx hb hown (hts _ ko_mo) (hts _ ko_1) (hts _ ko_2) rfl (by rw [hml]; exact hl.1) rfl d_mo_init_1 (Nat.le_of_ble_eq_true rfl) (Nat.le_of_ble_eq_true rfl) ?_
  refine W.eq (g2 := F0 m 4 ls []) rfl ?_
  refine lv_aload_n hx hb d_mo_init_4 rfl (lv_at hl 0 rfl) ?_
  refine lv_sipush (v := 4096) hx hb d_mo_init_5 (by decide) ?_
  refine va_newa (atype := .int) (a0 := (4096, .inl (fun _ => 0))) (N' := 4096) hx hb (hts _ ko_3) rfl hK hP hD hS hA (fun _ => rfl) (by decide) (by decide) (by decide) (by decide) (by decide) d_mo_init_8 (fun q1 c1 H hKn hP hD hS => ?_)
  have hK : va_K D vwCl [(c1, .int)] s := hKn
  have hP : va_P D vwCl [(h0, .inr (4, [.null, .null, .null, .int 0, .int 0, .int 0, .int 0, .null])), (q1, .inl (c1, 4096, .inl (fun _ => 0)))] H := hP
  have hD : va_D A [(h0, .inr (4, [.null, .null, .null, .int 0, .int 0, .int 0, .int 0, .null])), (q1, .inl (c1, 4096, .inl (fun _ => 0)))] := hD
  refine va_put (D := D) (ci := 4) (v := .ref q1) (ty := .array .int) (C := R_mod) (T := F_mod) (N := 8) hx hb hts u_mod t_mod t_mod_ok n_mod hown hK hP hD hS 0 rfl rfl 0 (by decide) (hts _ kq_m0) (fun _ h9 => h9) rfl (by decide +kernel) rfl rfl (Nat.le_of_ble_eq_true rfl) d_mo_init_10 (fun H locs hP hD hS => ?_)
  have hP : va_P D vwCl [(h0, .inr (4, [.ref q1, .null, .null, .int 0, .int 0, .int 0, .int 0, .null])), (q1, .inl (c1, 4096, .inl (fun _ => 0)))] H := hP
  have hD : va_D A [(h0, .inr (4, [.ref q1, .null, .null, .int 0, .int 0, .int 0, .int 0, .null])), (q1, .inl (c1, 4096, .inl (fun _ => 0)))] := hD
  refine lv_aload_n hx hb d_mo_init_13 rfl (lv_at hl 0 rfl) ?_
  refine lv_bipush (v := 9) hx hb d_mo_init_14 (by decide) ?_
  refine W.widen (k := 1) (n := 4096) (by decide) (by decide) ?_
  refine va_newa (atype := .int) (a0 := (9, .inl (fun _ => 0))) (N' := 9) hx hb (hts _ ko_3) rfl hK hP hD hS hA (fun _ => rfl) (by decide) (by decide) (by decide) (by decide) (by decide) d_mo_init_16 (fun q2 c2 H hKn hP hD hS => ?_)
  obtain rfl : c2 = c1 := ra_eq (i := 1) (j := 0) hKn hK rfl rfl
  have hP : va_P D vwCl [(h0, .inr (4, [.ref q1, .null, .null, .int 0, .int 0, .int 0, .int 0, .null])), (q1, .inl (c2, 4096, .inl (fun _ => 0))), (q2, .inl (c2, 9, .inl (fun _ => 0)))] H := hP
  have hD : va_D A [(h0, .inr (4, [.ref q1, .null, .null, .int 0, .int 0, .int 0, .int 0, .null])), (q1, .inl (c2, 4096, .inl (fun _ => 0))), (q2, .inl (c2, 9, .inl (fun _ => 0)))] := hD
  refine va_put (D := D) (ci := 4) (v := .ref q2) (ty := .array .int) (C := R_mod) (T := F_mod) (N := 8) hx hb hts u_mod t_mod t_mod_ok n_mod hown hK hP hD hS 0 rfl rfl 1 (by decide) (hts _ kq_m1) (fun _ h9 => h9) rfl (by decide +kernel) rfl rfl (Nat.le_of_ble_eq_true rfl) d_mo_init_18 (fun H locs hP hD hS => ?_)
  have hP : va_P D vwCl [(h0, .inr (4, [.ref q1, .ref q2, .null, .int 0, .int 0, .int 0, .int 0, .null])), (q1, .inl (c2, 4096, .inl (fun _ => 0))), (q2, .inl (c2, 9, .inl (fun _ => 0)))] H := hP
  have hD : va_D A [(h0, .inr (4, [.ref q1, .ref q2, .null, .int 0, .int 0, .int 0, .int 0, .null])), (q1, .inl (c2, 4096, .inl (fun _ => 0))), (q2, .inl (c2, 9, .inl (fun _ => 0)))] := hD
  refine lv_aload_n hx hb d_mo_init_21 rfl (lv_at hl 0 rfl) ?_
  refine lv_bipush (v := 9) hx hb d_mo_init_22 (by decide) ?_
  refine W.widen (k := 2) (n := 4105) (by decide) (by decide) ?_
  refine va_newa (atype := .int) (a0 := (9, .inl (fun _ => 0))) (N' := 9) hx hb (hts _ ko_3) rfl hK hP hD hS hA (fun _ => rfl) (by decide) (by decide) (by decide) (by decide) (by decide) d_mo_init_24 (fun q3 c3 H hKn hP hD hS => ?_)
  obtain rfl : c3 = c2 := ra_eq (i := 1) (j := 0) hKn hK rfl rfl
  have hP : va_P D vwCl [(h0, .inr (4, [.ref q1, .ref q2, .null, .int 0, .int 0, .int 0, .int 0, .null])), (q1, .inl (c3, 4096, .inl (fun _ => 0))), (q2, .inl (c3, 9, .inl (fun _ => 0))), (q3, .inl (c3, 9, .inl (fun _ => 0)))] H := hP
  have hD : va_D A [(h0, .inr (4, [.ref q1, .ref q2, .null, .int 0, .int 0, .int 0, .int 0, .null])), (q1, .inl (c3, 4096, .inl (fun _ => 0))), (q2, .inl (c3, 9, .inl (fun _ => 0))), (q3, .inl (c3, 9, .inl (fun _ => 0)))] := hD
  refine va_put (D := D) (ci := 4) (v := .ref q3) (ty := .array .int) (C := R_mod) (T := F_mod) (N := 8) hx hb hts u_mod t_mod t_mod_ok n_mod hown hK hP hD hS 0 rfl rfl 2 (by decide) (hts _ kq_m2) (fun _ h9 => h9) rfl (by decide +kernel) rfl rfl (Nat.le_of_ble_eq_true rfl) d_mo_init_26 (fun H locs hP hD hS => ?_)
  have hP : va_P D vwCl [(h0, .inr (4, [.ref q1, .ref q2, .ref q3, .int 0, .int 0, .int 0, .int 0, .null])), (q1, .inl (c3, 4096, .inl (fun _ => 0))), (q2, .inl (c3, 9, .inl (fun _ => 0))), (q3, .inl (c3, 9, .inl (fun _ => 0)))] H := hP
  have hD : va_D A [(h0, .inr (4, [.ref q1, .ref q2, .ref q3, .int 0, .int 0, .int 0, .int 0, .null])), (q1, .inl (c3, 4096, .inl (fun _ => 0))), (q2, .inl (c3, 9, .inl (fun _ => 0))), (q3, .inl (c3, 9, .inl (fun _ => 0)))] := hD
  refine lv_aload_n hx hb d_mo_init_29 rfl (lv_at hl 0 rfl) ?_
  refine lv_iconst (v := 3) hx hb d_mo_init_30 (by decide) ?_
  refine W.widen (k := 3) (n := 4114) (by decide) (by decide) ?_
  refine va_newa (atype := .int) (a0 := (3, .inl (fun _ => 0))) (N' := 3) hx hb (hts _ ko_3) rfl hK hP hD hS hA (fun _ => rfl) (by decide) (by decide) (by decide) (by decide) (by decide) d_mo_init_31 (fun q4 c4 H hKn hP hD hS => ?_)
  obtain rfl : c4 = c3 := ra_eq (i := 1) (j := 0) hKn hK rfl rfl
  have hP : va_P D vwCl [(h0, .inr (4, [.ref q1, .ref q2, .ref q3, .int 0, .int 0, .int 0, .int 0, .null])), (q1, .inl (c4, 4096, .inl (fun _ => 0))), (q2, .inl (c4, 9, .inl (fun _ => 0))), (q3, .inl (c4, 9, .inl (fun _ => 0))), (q4, .inl (c4, 3, .inl (fun _ => 0)))] H := hP
  have hD : va_D A [(h0, .inr (4, [.ref q1, .ref q2, .ref q3, .int 0, .int 0, .int 0, .int 0, .null])), (q1, .inl (c4, 4096, .inl (fun _ => 0))), (q2, .inl (c4, 9, .inl (fun _ => 0))), (q3, .inl (c4, 9, .inl (fun _ => 0))), (q4, .inl (c4, 3, .inl (fun _ => 0)))] := hD
  refine va_put (D := D) (ci := 4) (v := .ref q4) (ty := .array .int) (C := R_mod) (T := F_mod) (N := 8) hx hb hts u_mod t_mod t_mod_ok n_mod hown hK hP hD hS 0 rfl rfl 7 (by decide) (hts _ kq_m7) (fun _ h9 => h9) rfl (by decide +kernel) rfl rfl (Nat.le_of_ble_eq_true rfl) d_mo_init_33 (fun H locs hP hD hS => ?_)
  have hP : va_P D vwCl [(h0, .inr (4, [.ref q1, .ref q2, .ref q3, .int 0, .int 0, .int 0, .int 0, .ref q4])), (q1, .inl (c4, 4096, .inl (fun _ => 0))), (q2, .inl (c4, 9, .inl (fun _ => 0))), (q3, .inl (c4, 9, .inl (fun _ => 0))), (q4, .inl (c4, 3, .inl (fun _ => 0)))] H := hP
  have hD : va_D A [(h0, .inr (4, [.ref q1, .ref q2, .ref q3, .int 0, .int 0, .int 0, .int 0, .ref q4])), (q1, .inl (c4, 4096, .inl (fun _ => 0))), (q2, .inl (c4, 9, .inl (fun _ => 0))), (q3, .inl (c4, 9, .inl (fun _ => 0))), (q4, .inl (c4, 3, .inl (fun _ => 0)))] := hD
  refine W.widen (k := 4) (n := 4117) (by decide) (by decide) ?_
  exact W.vret hx hb hr (fun t ht hW => ⟨⟨(c4, q1, q2, q3, q4), rfl, trivial, by rw [ht]; exact hP, va_K.moved hW.alike hK, hD⟩, hS.F ht⟩) hS.2.2 d_mo_init_36
