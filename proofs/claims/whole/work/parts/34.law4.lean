theorem swz_out {z : Int} {dt : Nat} : ∀ ks : List (Int32 × Nat), (∀ c ∈ ks, z ≠ c.1.toInt) → swz z ks dt = dt
  | [], _ => rfl
  | c :: r, h => by
    rw [swz, if_neg (h c List.mem_cons_self)]
    exact swz_out r (fun d hd => h d (List.mem_cons_of_mem _ hd))
theorem lp_neg : ∀ L, L < 4 → Int32.ofNat L - nI 4 < nI 0 := by decide +kernel
theorem lp_go {L k : Nat} (hL : L ≤ 2048) (hk : 4 * k ≤ L) (h : ¬ Int32.ofNat L - nI 4 < nI (4 * k)) : 4 * k + 4 ≤ L := by
  refine Classical.byContradiction fun hn => h ?_
  by_cases h4 : 4 ≤ L
  · have e : Int32.ofNat L - nI 4 = nI (L - 4) := by
      show nI L - nI 4 = _
      rw [sub_nI]
      exact nI_cong (by omega)
    rw [e]
    exact nI_lt (by omega) (by omega)
  · have e : 4 * k = 0 := by omega
    rw [e]
    exact lp_neg L (by omega)
theorem lp_inc (k : Nat) : nI (4 * k) + Int32.ofInt 4 = nI (4 * (k + 1)) := by
  rw [show Int32.ofInt 4 = nI 4 by decide, nI_add]
  rfl
section
variable {p : Program} {l : Launch} {e : Env} {s : State} {m : MethodId} {below : List Frame} {meth : Method} {c : Code} {b L : Nat} {xs : Nat → Int32} {D : va_G} {cA : ClassId} {tb oc om : Nat → Nat} {Q : State → Prop}
theorem w_ts {H : Heap} {locs : List Loc} {ls : Array Slot} {st : List Value} {pc : Nat} {x : Int32} {dflt lo hi : Int} {offs : Array Int} {len dt : Nat} (ks : List (Int32 × Nat)) (hx : p.tables.exec = Jvm.exec) (hb : c.code = code) (hd : decode code pc = .ok (.tableswitch dflt lo hi offs, len)) (hck : tck pc dflt lo hi offs ks dt = true) (key : W p l e room_1 s m #[Value.ref b] below meth c H locs 12 8243 Q (F0 m (swz x.toInt ks dt) ls st)) : W p l e room_1 s m #[Value.ref b] below meth c H locs 12 8243 Q (F0 m pc ls (.int x :: st)) := by
  unfold tck at hck
  simp only [Bool.and_eq_true, decide_eq_true_eq, List.all_eq_true] at hck
  obtain ⟨⟨h1, h2⟩, h3⟩ := hck
  by_cases hr : x.toInt < lo ∨ hi < x.toInt
  · refine lv_tableOut hx hb hd hr (tgt := swz x.toInt ks dt) ?_ key
    rw [swz_out ks (fun c hc he => ?_)]
    · exact h1
    · have h4 := h2 c hc
      omega
  · have hlo : ¬ x.toInt < lo := fun h => hr (Or.inl h)
    have hhi : ¬ hi < x.toInt := fun h => hr (Or.inr h)
    have h5 := h3 (x.toInt - lo).toNat (List.mem_range.mpr (by omega))
    have h6 : lo + ((x.toInt - lo).toNat : Int) = x.toInt := by omega
    rw [h6] at h5
    exact lv_tableIn hx hb hd hlo hhi h5 (tgt := swz x.toInt ks dt) (by omega) key
theorem law_loop (G : LG p s m c b D cA tb) (hX : va_X b L xs s s.heap) (hbl : b < s.heap.size) (hL : L ≤ 2048) (hend : ∀ (H : Heap) (locs : List Loc) (ls : Array Slot), va_S (fun q => s.heap.size ≤ q) s.heap H locs → W p l e room_1 s m #[Value.ref b] below meth c H locs 12 8243 Q (F0 m 359 ls [])) : ∀ (n k : Nat) (a : AS) (bf : Nat → Int32) (u : Bool) (H : Heap) (locs : List Loc) (ls : Array Slot), L < 4 * k + 4 * n → 4 * k ≤ L → lv_has ls 4 [(3, .int (nI (4 * k))), (2, .ref (om 0)), (1, .ref (oc 0)), (0, .ref b)] → va_P D vwCl (wdC oc cA (mC a) ++ wdM om cA (mM a bf u)) H → va_D (fun q => s.heap.size ≤ q) (wdC oc cA (mC a) ++ wdM om cA (mM a bf u)) → va_S (fun q => s.heap.size ≤ q) s.heap H locs → W p l e room_1 s m #[Value.ref b] below meth c H locs 12 8243 Q (F0 m 18 ls []) := by
  have hx := G.1
  have hb := G.2.1
  have hbA : ¬ s.heap.size ≤ b := by omega
  intro n
  induction n with
  | zero => intro k a bf u H locs ls h1 h2; omega
  | succ n ih =>
    intro k a bf u H locs ls h1 h2 hl hP hD hS
    refine lv_iload_n hx hb dl_18 rfl (lv_at hl 0 rfl) ?_
    refine lv_aload_n hx hb dl_19 rfl (lv_at hl 3 rfl) ?_
    refine va_slen hx hb hX hbl hbA hS dl_20 ?_
    refine lv_iconst (v := nI 4) hx hb dl_21 (by decide) ?_
    refine lv_isub hx hb dl_22 ?_
    refine lv_icmp_gt hx hb dl_23 (tgt := 359) (by decide) (fun _ => hend H locs ls hS) (fun hg => ?_)
    have hk : 4 * k + 4 ≤ L := lp_go hL h2 hg
    refine lv_aload_n hx hb dl_26 rfl (lv_at hl 3 rfl) ?_
    refine lv_iload_n hx hb dl_27 rfl (lv_at hl 0 rfl) ?_
    refine va_sld hx hb hX hbl hbA hS (vp_in_nI (show 4 * k < L by omega) (by omega)) dl_28 ?_
    refine lv_bipush (v := 15) hx hb dl_29 (by decide) ?_
    refine lv_iand hx hb dl_31 ?_
    have kk : ∀ (a1 : AS) (b1 : Nat → Int32) (u1 : Bool) (H1 : Heap) (locs1 : List Loc), va_P D vwCl (wdC oc cA (mC a1) ++ wdM om cA (mM a1 b1 u1)) H1 → va_D (fun q => s.heap.size ≤ q) (wdC oc cA (mC a1) ++ wdM om cA (mM a1 b1 u1)) → va_S (fun q => s.heap.size ≤ q) s.heap H1 locs1 → W p l e room_1 s m #[Value.ref b] below meth c H1 locs1 12 8243 Q (F0 m 353 ls []) := by
      intro a1 b1 u1 H1 locs1 hP1 hD1 hS1
      refine lv_iinc (k := 0) (v := nI (4 * (k + 1))) hx hb dl_353 hl rfl (lp_inc k) (by decide) rfl (fun ls1 hl1 => ?_)
      refine lv_goto hx hb dl_356 (tgt := 18) (by decide) ?_
      exact ih (k + 1) a1 b1 u1 H1 locs1 ls1 (by omega) (by omega) hl1 hP1 hD1 hS1
    refine w_ts [((0 : Int32), 92), ((1 : Int32), 103), ((2 : Int32), 136), ((3 : Int32), 179), ((4 : Int32), 202), ((5 : Int32), 215), ((6 : Int32), 238), ((7 : Int32), 271), ((8 : Int32), 294), ((9 : Int32), 327), ((10 : Int32), 340)] (dt := 353) hx hb dl_32 (by decide +kernel) ?_
    generalize (xs (nI (4 * k)).toNatClampNeg &&& 15).toInt = z
    by_cases h0 : z = (0 : Int32).toInt
    · rw [swz, if_pos h0]; exact ca_reset G hX hbl hL k a bf u H locs ls hk hl hP hD hS kk
    rw [swz, if_neg h0]
    by_cases h1 : z = (1 : Int32).toInt
    · rw [swz, if_pos h1]; exact ca_poke G hX hbl hL k a bf u H locs ls hk hl hP hD hS kk
    rw [swz, if_neg h1]
    by_cases h2 : z = (2 : Int32).toInt
    · rw [swz, if_pos h2]; exact ca_load G hX hbl hL k a bf u H locs ls hk hl hP hD hS kk
    rw [swz, if_neg h2]
    by_cases h3 : z = (3 : Int32).toInt
    · rw [swz, if_pos h3]; exact ca_peek G hX hbl hL k a bf u H locs ls hk hl hP hD hS kk
    rw [swz, if_neg h3]
    by_cases h4 : z = (4 : Int32).toInt
    · rw [swz, if_pos h4]; exact ca_step G hX hbl hL k a bf u H locs ls hk hl hP hD hS kk
    rw [swz, if_neg h4]
    by_cases h5 : z = (5 : Int32).toInt
    · rw [swz, if_pos h5]; exact ca_run G hX hbl hL k a bf u H locs ls hk hl hP hD hS kk
    rw [swz, if_neg h5]
    by_cases h6 : z = (6 : Int32).toInt
    · rw [swz, if_pos h6]; exact ca_setLine G hX hbl hL k a bf u H locs ls hk hl hP hD hS kk
    rw [swz, if_neg h6]
    by_cases h7 : z = (7 : Int32).toInt
    · rw [swz, if_pos h7]; exact ca_reg G hX hbl hL k a bf u H locs ls hk hl hP hD hS kk
    rw [swz, if_neg h7]
    by_cases h8 : z = (8 : Int32).toInt
    · rw [swz, if_pos h8]; exact ca_put G hX hbl hL k a bf u H locs ls hk hl hP hD hS kk
    rw [swz, if_neg h8]
    by_cases h9 : z = (9 : Int32).toInt
    · rw [swz, if_pos h9]; exact ca_waits G hX hbl hL k a bf u H locs ls hk hl hP hD hS kk
    rw [swz, if_neg h9]
    by_cases h10 : z = (10 : Int32).toInt
    · rw [swz, if_pos h10]; exact ca_lines G hX hbl hL k a bf u H locs ls hk hl hP hD hS kk
    rw [swz, if_neg h10]
    exact kk a bf u H locs hP hD hS
end
