theorem law_S {b : Nat} {s : State} (hts : ∀ w ∈ lw_tbl, w.before #[Value.ref b] s = true) (hi : (Cond.initialized R_chip).before #[Value.ref b] s = true) (hg : (Jvm.Cond.and given_1 narrow_1).before #[Value.ref b] s = true) : ∃ tb : Nat → Nat, Sts (fun q => s.heap.size ≤ q) tb s s.heap := by
  have hs := flat_of_before _ hg
  have hA : ∀ a : Nat, a < s.heap.size → ¬ s.heap.size ≤ a := fun a h z => by omega
  have key : ∀ k, k < 5 → ∃ t : Nat, va_Z R_chip (tnm k) "[I" (.ref t) (fun q => s.heap.size ≤ q) s s.heap ∧ va_T .int t (tln k) (fun j => .int (tvl k j)) (fun q => s.heap.size ≤ q) s s.heap := fun k hk => by
    obtain ⟨t, e1, e2⟩ := va_Tof (tm := .static R_chip (tnm k) "[I") (ty := .int) (N := tln k) (f := fun j => .int (tvl k j)) (A := fun q => s.heap.size ≤ q) (sl_n k hk) (hs _ (sl_arr k hk)) (va_eqt (hs _ (sl_len k hk))) (fun j hj => va_eqt (hs _ (sl_el k hk j hj))) hA
    exact ⟨t, va_Zref (hts _ (sl_lay k hk)) hi e1 hA, e2⟩
  refine ⟨fun k => if h : k < 5 then (key k h).choose else 0, fun k hk => ?_⟩
  dsimp only
  rw [dif_pos hk]
  exact (key k hk).choose_spec
theorem law_K {args : Array Value} {s : State} (hts : ∀ w ∈ CW, w.before args s = true) : ∃ D : va_G, va_K D vwCl [] s := by
  obtain ⟨c0, i0, h0⟩ := u_known (n := 7) hts u_chip (hts _ li_c)
  obtain ⟨c1, i1, h1⟩ := u_known (n := 1) hts u_mem (hts _ kt1)
  obtain ⟨c2, i2, h2⟩ := u_known (n := 1) hts u_reg (hts _ kt2)
  obtain ⟨c3, i3, h3⟩ := u_known (n := 1) hts u_ari (hts _ kt3)
  obtain ⟨c4, i4, h4⟩ := u_known (n := 8) hts u_mod (hts _ li_m)
  refine ⟨(fun c => if c = 0 then c0 else if c = 1 then c1 else if c = 2 then c2 else if c = 3 then c3 else c4, fun c => if c = 0 then i0 else if c = 1 then i1 else if c = 2 then i2 else if c = 3 then i3 else i4), ?_, ?_⟩
  · intro c q hq
    rcases c with _ | _ | _ | _ | _ | c
    · cases Option.some.inj (show some (R_chip, F_chip, 7) = some q from hq); exact h0
    · cases Option.some.inj (show some (R_mem, F_mem, 1) = some q from hq); exact h1
    · cases Option.some.inj (show some (R_reg, F_reg, 1) = some q from hq); exact h2
    · cases Option.some.inj (show some (R_ari, F_ari, 1) = some q from hq); exact h3
    · cases Option.some.inj (show some (R_mod, F_mod, 8) = some q from hq); exact h4
    · exact absurd hq (by simp [vwCl])
  · intro k q hq
    exact absurd hq (by simp)
/-- what stays the same through the law's walk -/
def LG (p : Program) (s : State) (m : MethodId) (c : Code) (b : Nat) (D : va_G) (cA : ClassId) (tb : Nat → Nat) : Prop := p.tables.exec = Jvm.exec ∧ c.code = code ∧ c.maxLocals = 4 ∧ s.vm.findClass R_law = some m.cls ∧ (∀ w ∈ CW, w.before #[Value.ref b] s = true) ∧ va_K D vwCl [(cA, .int)] s ∧ Sts (fun q => s.heap.size ≤ q) tb s s.heap
section
variable {p : Program} {l : Launch} {e : Env} {s : State} {m : MethodId} {below : List Frame} {meth : Method} {c : Code} {b : Nat} {D : va_G} {cA : ClassId} {tb oc om : Nat → Nat} {Q : State → Prop} {H : Heap} {locs : List Loc} {ls : Array Slot} {pc : Nat} {σ σ1 : CS} {τ τ1 : MS}
theorem lc_ci {y : MethodName} {yb : ByteArray} {yn n yf yl idx : Nat} {yret : Option FieldType} {As rest st0 : List Value} {mm : Option (Int32 × CS)} {r0 : Int32} (G : LG p s m c b D cA tb) (hM : ∀ E : Ev, CtI wdC l E y yb yn yret (rmm yf yl) (.ref (eO E 0) :: As) σ mm) (hmm : mm = some (r0, σ1)) (hm : MwV y yb yn yret n) (hy : y.cls = R_chip) (hlk : Cond.methodLink R_law idx y ∈ CW) (hn : As.length = n) (hst : st0 = As.reverse ++ .ref (oc 0) :: rest) (hc : (rest.map fun v => v.category).sum ≤ 8) (hrm : rok yf yl yn 13 496 = true) (hd : decode code pc = .ok (.invokevirtual idx, 3)) (hP : va_P D vwCl (wdC oc cA σ ++ wdM om cA τ) H) (hD : va_D (fun q => s.heap.size ≤ q) (wdC oc cA σ ++ wdM om cA τ)) (hS : va_S (fun q => s.heap.size ≤ q) s.heap H locs) (hl : ls.size = 4)
    (kk : ∀ (H1 : Heap) (locs1 : List Loc), va_P D vwCl (wdM om cA τ ++ wdC oc cA σ1) H1 → va_D (fun q => s.heap.size ≤ q) (wdM om cA τ ++ wdC oc cA σ1) → va_S (fun q => s.heap.size ≤ q) s.heap H1 locs1 → W p l e room_1 s m #[Value.ref b] below meth c H1 locs1 12 8243 Q (F0 m (pc + 3) ls (.int r0 :: rest))) : W p l e room_1 s m #[Value.ref b] below meth c H locs 12 8243 Q (F0 m pc ls st0) := by
  obtain ⟨hx, hb, hml, hown, hts, hK, hSt⟩ := G
  have hB : CallB room_1 s #[Value.ref b] R_law idx y yb yn yret (Cond.code y yb yn yret :: CW) (rmm yf yl) 0 0 n := callB_of n hts (cw_code hm.1.2.1) rfl rfl rfl (hts _ hm.1.1) (hts _ hlk) hm.1.2.2 (rok_1 (f := 13) (n := 496) hrm)
  have hPc := hP.sub (ws' := wdC oc cA σ) [0, 1, 2, 3, 4, 5, 6] rfl
  have hDc := hD.sub (ws' := wdC oc cA σ) [0, 1, 2, 3, 4, 5, 6] (by decide) rfl
  have hFc := va_free (wc := wdC oc cA σ) hD hS (fun q h => h) [0, 1, 2, 3, 4, 5, 6] rfl
  have hrc : ∃ cell : Cell, H[oc 0]? = some cell ∧ cell.vm.isStatics = false ∧ s.vm.findClass y.cls = some cell.cls := by
    rw [hy]
    exact va_recv (q := (R_chip, F_chip, 7)) (ci := 0) (q0 := 0) hK hPc rfl rfl
  refine va_calli (va_runV (Ts := CW) (C := y.cls) (b := oc 0) (As := As) (rest := rest) ⟨hx, hb, hml, hown, hts⟩ (hM (D, va_A (wdC oc cA σ) H.size, cA, tb, oc) _ hmm) ⟨hB, hts _ hm.2.1, hts _ hm.2.2⟩ ⟨Okw.blind, hrc, fun U hU hW => ⟨rfl, by rw [hU]; exact hPc, va_K.moved hW.alike hK, hDc.self (sz := H.size), by rw [hU]; exact Sts.moved hW.alike (Sts.less (Sts.kept hSt hS.2.1) hFc)⟩⟩ rfl hn hl hst (lv_room hc) hd ⟨Nat.le_refl _, Nat.le_refl _⟩) hS (fun q _ h => hFc q h) hFc ?_
  intro r u t H1 locs1 ht hvm hpost hB1 hz hk hS1
  rw [show u = σ1 from hpost.2] at hB1
  rw [show r = r0 from hpost.1]
  obtain ⟨hP1, -, hD1, -⟩ := hB1
  rw [ht] at hP1
  obtain ⟨hP2, hD2⟩ := va_join (wr := wdM om cA τ) (w1 := wdC oc cA σ1) hP hD [0, 1, 2, 3, 4, 5, 6] [7, 8, 9, 10, 11] rfl rfl (by decide) (by decide) hk hFc hP1 hD1
  exact kk H1 locs1 hP2 hD2 hS1
theorem lc_cv {y : MethodName} {yb : ByteArray} {yn n yf yl idx : Nat} {yret : Option FieldType} {As rest st0 : List Value} {mm : Option (Int32 × CS)} {r0 : Int32} (G : LG p s m c b D cA tb) (hM : ∀ E : Ev, CtV wdC l E y yb yn yret (rmm yf yl) (.ref (eO E 0) :: As) σ mm) (hmm : mm = some (r0, σ1)) (hm : MwV y yb yn yret n) (hy : y.cls = R_chip) (hlk : Cond.methodLink R_law idx y ∈ CW) (hn : As.length = n) (hst : st0 = As.reverse ++ .ref (oc 0) :: rest) (hc : (rest.map fun v => v.category).sum ≤ 8) (hrm : rok yf yl yn 13 496 = true) (hd : decode code pc = .ok (.invokevirtual idx, 3)) (hP : va_P D vwCl (wdC oc cA σ ++ wdM om cA τ) H) (hD : va_D (fun q => s.heap.size ≤ q) (wdC oc cA σ ++ wdM om cA τ)) (hS : va_S (fun q => s.heap.size ≤ q) s.heap H locs) (hl : ls.size = 4)
    (kk : ∀ (H1 : Heap) (locs1 : List Loc), va_P D vwCl (wdM om cA τ ++ wdC oc cA σ1) H1 → va_D (fun q => s.heap.size ≤ q) (wdM om cA τ ++ wdC oc cA σ1) → va_S (fun q => s.heap.size ≤ q) s.heap H1 locs1 → W p l e room_1 s m #[Value.ref b] below meth c H1 locs1 12 8243 Q (F0 m (pc + 3) ls (rest))) : W p l e room_1 s m #[Value.ref b] below meth c H locs 12 8243 Q (F0 m pc ls st0) := by
  obtain ⟨hx, hb, hml, hown, hts, hK, hSt⟩ := G
  have hB : CallB room_1 s #[Value.ref b] R_law idx y yb yn yret (Cond.code y yb yn yret :: CW) (rmm yf yl) 0 0 n := callB_of n hts (cw_code hm.1.2.1) rfl rfl rfl (hts _ hm.1.1) (hts _ hlk) hm.1.2.2 (rok_1 (f := 13) (n := 496) hrm)
  have hPc := hP.sub (ws' := wdC oc cA σ) [0, 1, 2, 3, 4, 5, 6] rfl
  have hDc := hD.sub (ws' := wdC oc cA σ) [0, 1, 2, 3, 4, 5, 6] (by decide) rfl
  have hFc := va_free (wc := wdC oc cA σ) hD hS (fun q h => h) [0, 1, 2, 3, 4, 5, 6] rfl
  have hrc : ∃ cell : Cell, H[oc 0]? = some cell ∧ cell.vm.isStatics = false ∧ s.vm.findClass y.cls = some cell.cls := by
    rw [hy]
    exact va_recv (q := (R_chip, F_chip, 7)) (ci := 0) (q0 := 0) hK hPc rfl rfl
  refine va_callv (va_runV (Ts := CW) (C := y.cls) (b := oc 0) (As := As) (rest := rest) ⟨hx, hb, hml, hown, hts⟩ (hM (D, va_A (wdC oc cA σ) H.size, cA, tb, oc) _ hmm) ⟨hB, hts _ hm.2.1, hts _ hm.2.2⟩ ⟨Okw.blind, hrc, fun U hU hW => ⟨rfl, by rw [hU]; exact hPc, va_K.moved hW.alike hK, hDc.self (sz := H.size), by rw [hU]; exact Sts.moved hW.alike (Sts.less (Sts.kept hSt hS.2.1) hFc)⟩⟩ rfl hn hl hst (lv_room hc) hd ⟨Nat.le_refl _, Nat.le_refl _⟩) hS (fun q _ h => hFc q h) hFc ?_
  intro u t H1 locs1 ht hvm hpost hB1 hz hk hS1
  rw [show u = σ1 from hpost] at hB1
  obtain ⟨hP1, -, hD1, -⟩ := hB1
  rw [ht] at hP1
  obtain ⟨hP2, hD2⟩ := va_join (wr := wdM om cA τ) (w1 := wdC oc cA σ1) hP hD [0, 1, 2, 3, 4, 5, 6] [7, 8, 9, 10, 11] rfl rfl (by decide) (by decide) hk hFc hP1 hD1
  exact kk H1 locs1 hP2 hD2 hS1
theorem lc_mi {y : MethodName} {yb : ByteArray} {yn n yf yl idx : Nat} {yret : Option FieldType} {As rest st0 : List Value} {mm : Option (Int32 × MS)} {r0 : Int32} (G : LG p s m c b D cA tb) (hM : ∀ E : Ev, CtI wdM l E y yb yn yret (rmm yf yl) (.ref (eO E 0) :: As) τ mm) (hmm : mm = some (r0, τ1)) (hm : MwV y yb yn yret n) (hy : y.cls = R_mod) (hlk : Cond.methodLink R_law idx y ∈ CW) (hn : As.length = n) (hst : st0 = As.reverse ++ .ref (om 0) :: rest) (hc : (rest.map fun v => v.category).sum ≤ 8) (hrm : rok yf yl yn 13 496 = true) (hd : decode code pc = .ok (.invokevirtual idx, 3)) (hP : va_P D vwCl (wdM om cA τ ++ wdC oc cA σ1) H) (hD : va_D (fun q => s.heap.size ≤ q) (wdM om cA τ ++ wdC oc cA σ1)) (hS : va_S (fun q => s.heap.size ≤ q) s.heap H locs) (hl : ls.size = 4)
    (kk : ∀ (H1 : Heap) (locs1 : List Loc), va_P D vwCl (wdC oc cA σ1 ++ wdM om cA τ1) H1 → va_D (fun q => s.heap.size ≤ q) (wdC oc cA σ1 ++ wdM om cA τ1) → va_S (fun q => s.heap.size ≤ q) s.heap H1 locs1 → W p l e room_1 s m #[Value.ref b] below meth c H1 locs1 12 8243 Q (F0 m (pc + 3) ls (.int r0 :: rest))) : W p l e room_1 s m #[Value.ref b] below meth c H locs 12 8243 Q (F0 m pc ls st0) := by
  obtain ⟨hx, hb, hml, hown, hts, hK, hSt⟩ := G
  have hB : CallB room_1 s #[Value.ref b] R_law idx y yb yn yret (Cond.code y yb yn yret :: CW) (rmm yf yl) 0 0 n := callB_of n hts (cw_code hm.1.2.1) rfl rfl rfl (hts _ hm.1.1) (hts _ hlk) hm.1.2.2 (rok_1 (f := 13) (n := 496) hrm)
  have hPc := hP.sub (ws' := wdM om cA τ) [0, 1, 2, 3, 4] rfl
  have hDc := hD.sub (ws' := wdM om cA τ) [0, 1, 2, 3, 4] (by decide) rfl
  have hFc := va_free (wc := wdM om cA τ) hD hS (fun q h => h) [0, 1, 2, 3, 4] rfl
  have hrc : ∃ cell : Cell, H[om 0]? = some cell ∧ cell.vm.isStatics = false ∧ s.vm.findClass y.cls = some cell.cls := by
    rw [hy]
    exact va_recv (q := (R_mod, F_mod, 8)) (ci := 4) (q0 := 0) hK hPc rfl rfl
  refine va_calli (va_runV (Ts := CW) (C := y.cls) (b := om 0) (As := As) (rest := rest) ⟨hx, hb, hml, hown, hts⟩ (hM (D, va_A (wdM om cA τ) H.size, cA, tb, om) _ hmm) ⟨hB, hts _ hm.2.1, hts _ hm.2.2⟩ ⟨Okw.blind, hrc, fun U hU hW => ⟨rfl, by rw [hU]; exact hPc, va_K.moved hW.alike hK, hDc.self (sz := H.size), by rw [hU]; exact Sts.moved hW.alike (Sts.less (Sts.kept hSt hS.2.1) hFc)⟩⟩ rfl hn hl hst (lv_room hc) hd ⟨Nat.le_refl _, Nat.le_refl _⟩) hS (fun q _ h => hFc q h) hFc ?_
  intro r u t H1 locs1 ht hvm hpost hB1 hz hk hS1
  rw [show u = τ1 from hpost.2] at hB1
  rw [show r = r0 from hpost.1]
  obtain ⟨hP1, -, hD1, -⟩ := hB1
  rw [ht] at hP1
  obtain ⟨hP2, hD2⟩ := va_join (wr := wdC oc cA σ1) (w1 := wdM om cA τ1) hP hD [0, 1, 2, 3, 4] [5, 6, 7, 8, 9, 10, 11] rfl rfl (by decide) (by decide) hk hFc hP1 hD1
  exact kk H1 locs1 hP2 hD2 hS1
theorem lc_mv {y : MethodName} {yb : ByteArray} {yn n yf yl idx : Nat} {yret : Option FieldType} {As rest st0 : List Value} {mm : Option (Int32 × MS)} {r0 : Int32} (G : LG p s m c b D cA tb) (hM : ∀ E : Ev, CtV wdM l E y yb yn yret (rmm yf yl) (.ref (eO E 0) :: As) τ mm) (hmm : mm = some (r0, τ1)) (hm : MwV y yb yn yret n) (hy : y.cls = R_mod) (hlk : Cond.methodLink R_law idx y ∈ CW) (hn : As.length = n) (hst : st0 = As.reverse ++ .ref (om 0) :: rest) (hc : (rest.map fun v => v.category).sum ≤ 8) (hrm : rok yf yl yn 13 496 = true) (hd : decode code pc = .ok (.invokevirtual idx, 3)) (hP : va_P D vwCl (wdM om cA τ ++ wdC oc cA σ1) H) (hD : va_D (fun q => s.heap.size ≤ q) (wdM om cA τ ++ wdC oc cA σ1)) (hS : va_S (fun q => s.heap.size ≤ q) s.heap H locs) (hl : ls.size = 4)
    (kk : ∀ (H1 : Heap) (locs1 : List Loc), va_P D vwCl (wdC oc cA σ1 ++ wdM om cA τ1) H1 → va_D (fun q => s.heap.size ≤ q) (wdC oc cA σ1 ++ wdM om cA τ1) → va_S (fun q => s.heap.size ≤ q) s.heap H1 locs1 → W p l e room_1 s m #[Value.ref b] below meth c H1 locs1 12 8243 Q (F0 m (pc + 3) ls (rest))) : W p l e room_1 s m #[Value.ref b] below meth c H locs 12 8243 Q (F0 m pc ls st0) := by
  obtain ⟨hx, hb, hml, hown, hts, hK, hSt⟩ := G
  have hB : CallB room_1 s #[Value.ref b] R_law idx y yb yn yret (Cond.code y yb yn yret :: CW) (rmm yf yl) 0 0 n := callB_of n hts (cw_code hm.1.2.1) rfl rfl rfl (hts _ hm.1.1) (hts _ hlk) hm.1.2.2 (rok_1 (f := 13) (n := 496) hrm)
  have hPc := hP.sub (ws' := wdM om cA τ) [0, 1, 2, 3, 4] rfl
  have hDc := hD.sub (ws' := wdM om cA τ) [0, 1, 2, 3, 4] (by decide) rfl
  have hFc := va_free (wc := wdM om cA τ) hD hS (fun q h => h) [0, 1, 2, 3, 4] rfl
  have hrc : ∃ cell : Cell, H[om 0]? = some cell ∧ cell.vm.isStatics = false ∧ s.vm.findClass y.cls = some cell.cls := by
    rw [hy]
    exact va_recv (q := (R_mod, F_mod, 8)) (ci := 4) (q0 := 0) hK hPc rfl rfl
  refine va_callv (va_runV (Ts := CW) (C := y.cls) (b := om 0) (As := As) (rest := rest) ⟨hx, hb, hml, hown, hts⟩ (hM (D, va_A (wdM om cA τ) H.size, cA, tb, om) _ hmm) ⟨hB, hts _ hm.2.1, hts _ hm.2.2⟩ ⟨Okw.blind, hrc, fun U hU hW => ⟨rfl, by rw [hU]; exact hPc, va_K.moved hW.alike hK, hDc.self (sz := H.size), by rw [hU]; exact Sts.moved hW.alike (Sts.less (Sts.kept hSt hS.2.1) hFc)⟩⟩ rfl hn hl hst (lv_room hc) hd ⟨Nat.le_refl _, Nat.le_refl _⟩) hS (fun q _ h => hFc q h) hFc ?_
  intro u t H1 locs1 ht hvm hpost hB1 hz hk hS1
  rw [show u = τ1 from hpost] at hB1
  obtain ⟨hP1, -, hD1, -⟩ := hB1
  rw [ht] at hP1
  obtain ⟨hP2, hD2⟩ := va_join (wr := wdC oc cA σ1) (w1 := wdM om cA τ1) hP hD [0, 1, 2, 3, 4] [5, 6, 7, 8, 9, 10, 11] rfl rfl (by decide) (by decide) hk hFc hP1 hD1
  exact kk H1 locs1 hP2 hD2 hS1
end
