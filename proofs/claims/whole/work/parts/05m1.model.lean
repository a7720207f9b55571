def mo_in_15 (σ : MS) (t0 : Int32) : Option (Int32 × MS) :=
gd (isB t0) (some (t0, σ))
def mo_in_14 (σ : MS) : Option (Int32 × MS) :=
mo_in_15 σ (0 : Int32)
def mo_in (σ : MS) (a1 a2 a3 : Int32) : Option (Int32 × MS) :=
if a1 < a2 then (mo_in_14 σ) else (if a3 < a1 then (mo_in_14 σ) else (mo_in_15 σ (1 : Int32)))
set_option maxHeartbeats 4000000 in
set_option maxRecDepth 100000 in
theorem b_mo_in_15 {X : Cx} (G : Gd X bc_mo_in 3 R_mod (some .boolean) (rmm 0 0)) (σ : MS) (t0 : Int32) : J wdM X (QI wdM X) 3 15 [] [.int t0] σ (mo_in_15 σ t0) := by
  unfold mo_in_15
  exact j_zret G d_mo_in_15
set_option maxHeartbeats 4000000 in
set_option maxRecDepth 100000 in
theorem b_mo_in_14 {X : Cx} (G : Gd X bc_mo_in 3 R_mod (some .boolean) (rmm 0 0)) (σ : MS) : J wdM X (QI wdM X) 3 14 [] [] σ (mo_in_14 σ ) := by
  unfold mo_in_14
  refine j_iconst G d_mo_in_14 ci_0 ?_
  exact b_mo_in_15 G σ (0 : Int32)
set_option maxHeartbeats 4000000 in
set_option maxRecDepth 100000 in
theorem b_mo_in {X : Cx} (G : Gd X bc_mo_in 3 R_mod (some .boolean) (rmm 0 0)) (σ : MS) (a1 a2 a3 : Int32) : J wdM X (QI wdM X) 3 0 [(0, .int a1), (1, .int a2), (2, .int a3)] [] σ (mo_in σ a1 a2 a3) := by
  unfold mo_in
  refine j_iload_n 0 G d_mo_in_0 rfl rfl ?_
  refine j_iload_n 1 G d_mo_in_1 rfl rfl ?_
  refine j_iclt G d_mo_in_2 (tgt := 14) rfl ?_ ?_
  · refine j_sub [] (L1 := []) rfl ?_
    exact b_mo_in_14 G σ
  · refine j_iload_n 0 G d_mo_in_5 rfl rfl ?_
    refine j_iload_n 2 G d_mo_in_6 rfl rfl ?_
    refine j_icgt G d_mo_in_7 (tgt := 14) rfl ?_ ?_
    · refine j_sub [] (L1 := []) rfl ?_
      exact b_mo_in_14 G σ
    · refine j_iconst G d_mo_in_10 ci_1 ?_
      refine j_goto G d_mo_in_11 (tgt := 15) rfl ?_
      refine j_sub [] (L1 := []) rfl ?_
      exact b_mo_in_15 G σ (1 : Int32)
set_option maxHeartbeats 4000000 in
set_option maxRecDepth 100000 in
theorem k_mo_in {l : Launch} {E : Ev} {σ : MS} {a1 a2 a3 : Int32} : CtI wdM l E y_mo_in bc_mo_in 3 (some .boolean) (rmm 0 0) [.int a1, .int a2, .int a3] σ (mo_in σ a1 a2 a3) := ct_i (by decide) (Nat.le_of_ble_eq_true rfl) (fun X hE _ G => by subst hE; exact b_mo_in G σ a1 a2 a3)
def mo_read (σ : MS) (a1 : Int32) : Option (Int32 × MS) :=
gd (okI (a1 &&& (4095 : Int32)) 4096) (
nm (mx_mem σ (a1 &&& (4095 : Int32)).toNatClampNeg) fun v1 =>
some (v1, σ))
set_option maxHeartbeats 4000000 in
set_option maxRecDepth 100000 in
theorem b_mo_read {X : Cx} (G : Gd X bc_mo_read 2 R_mod (some .int) (rmm 0 0)) (σ : MS) (a1 : Int32) : J wdM X (QI wdM X) 2 0 [(0, .ref (eO (xE X) 0)), (1, .int a1)] [] σ (mo_read σ a1) := by
  unfold mo_read
  refine j_aload_n 0 G d_mo_read_0 rfl rfl ?_
  refine g_mo_memory G d_mo_read_1 ?_
  refine j_iload_n 1 G d_mo_read_4 rfl rfl ?_
  refine j_sipush G d_mo_read_5 cs_4095 ?_
  refine j_iand G d_mo_read_8 ?_
  refine al_Mmem G d_mo_read_9 ?_
  refine j_nm (fun v1 => ?_)
  exact j_iret G d_mo_read_10
set_option maxHeartbeats 4000000 in
set_option maxRecDepth 100000 in
theorem k_mo_read {l : Launch} {E : Ev} {σ : MS} {a1 : Int32} : CtI wdM l E y_mo_read bc_mo_read 2 (some .int) (rmm 0 0) [.ref (eO E 0), .int a1] σ (mo_read σ a1) := ct_i (by decide) (Nat.le_of_ble_eq_true rfl) (fun X hE _ G => by subst hE; exact b_mo_read G σ a1)
def mo_readWord (σ : MS) (a1 : Int32) : Option (Int32 × MS) :=
bd (mo_read σ a1) fun v1 s1 =>
bd (mo_read s1 (a1 + (1 : Int32))) fun v2 s2 =>
some ((((256 : Int32) * v1) + v2), s2)
set_option maxHeartbeats 4000000 in
set_option maxRecDepth 100000 in
theorem b_mo_readWord {X : Cx} (G : Gd X bc_mo_readWord 2 R_mod (some .int) (rmm 1 21)) (σ : MS) (a1 : Int32) : J wdM X (QI wdM X) 2 0 [(0, .ref (eO (xE X) 0)), (1, .int a1)] [] σ (mo_readWord σ a1) := by
  unfold mo_readWord
  refine j_sipush G d_mo_readWord_0 cs_256 ?_
  refine j_aload_n 0 G d_mo_readWord_3 rfl rfl ?_
  refine j_iload_n 1 G d_mo_readWord_4 rfl rfl ?_
  refine j_Vi1 G k_mo_read mw_mo_read lk_mo_mo_read rc_mod d_mo_readWord_5 rfl (Nat.le_of_ble_eq_true rfl) (fun v1 s1 => ?_)
  refine j_imul G d_mo_readWord_8 ?_
  refine j_aload_n 0 G d_mo_readWord_9 rfl rfl ?_
  refine j_iload_n 1 G d_mo_readWord_10 rfl rfl ?_
  refine j_iconst G d_mo_readWord_11 ci_1 ?_
  refine j_iadd G d_mo_readWord_12 ?_
  refine j_Vi1 G k_mo_read mw_mo_read lk_mo_mo_read rc_mod d_mo_readWord_13 rfl (Nat.le_of_ble_eq_true rfl) (fun v2 s2 => ?_)
  refine j_iadd G d_mo_readWord_16 ?_
  exact j_iret G d_mo_readWord_17
set_option maxHeartbeats 4000000 in
set_option maxRecDepth 100000 in
theorem k_mo_readWord {l : Launch} {E : Ev} {σ : MS} {a1 : Int32} : CtI wdM l E y_mo_readWord bc_mo_readWord 2 (some .int) (rmm 1 21) [.ref (eO E 0), .int a1] σ (mo_readWord σ a1) := ct_i (by decide) (Nat.le_of_ble_eq_true rfl) (fun X hE _ G => by subst hE; exact b_mo_readWord G σ a1)
def mo_write (σ : MS) (a1 a2 : Int32) : Option (Int32 × MS) :=
nm (a2 &&& (255 : Int32)) fun v1 =>
gd (okI (a1 &&& (4095 : Int32)) 4096) (
ns (my_mem σ (upd (mx_mem σ) (a1 &&& (4095 : Int32)).toNatClampNeg v1)) fun s1 =>
some ((0 : Int32), s1))
set_option maxHeartbeats 4000000 in
set_option maxRecDepth 100000 in
theorem b_mo_write {X : Cx} (G : Gd X bc_mo_write 3 R_mod none (rmm 0 0)) (σ : MS) (a1 a2 : Int32) : J wdM X (QV wdM X) 3 0 [(0, .ref (eO (xE X) 0)), (1, .int a1), (2, .int a2)] [] σ (mo_write σ a1 a2) := by
  unfold mo_write
  refine j_aload_n 0 G d_mo_write_0 rfl rfl ?_
  refine g_mo_memory G d_mo_write_1 ?_
  refine j_iload_n 1 G d_mo_write_4 rfl rfl ?_
  refine j_sipush G d_mo_write_5 cs_4095 ?_
  refine j_iand G d_mo_write_8 ?_
  refine j_iload_n 2 G d_mo_write_9 rfl rfl ?_
  refine j_sipush G d_mo_write_10 cs_255 ?_
  refine j_iand G d_mo_write_13 ?_
  refine j_nm (fun v1 => ?_)
  refine as_Mmem G d_mo_write_14 ?_
  refine j_ns (fun s1 => ?_)
  exact j_vret G d_mo_write_15
set_option maxHeartbeats 4000000 in
set_option maxRecDepth 100000 in
theorem k_mo_write {l : Launch} {E : Ev} {σ : MS} {a1 a2 : Int32} : CtV wdM l E y_mo_write bc_mo_write 3 none (rmm 0 0) [.ref (eO E 0), .int a1, .int a2] σ (mo_write σ a1 a2) := ct_v (by decide) (Nat.le_of_ble_eq_true rfl) (fun X hE _ G => by subst hE; exact b_mo_write G σ a1 a2)
def mo_writeWord (σ : MS) (a1 a2 : Int32) : Option (Int32 × MS) :=
bd (mo_write σ a1 (a2 >>> ((8 : Int32) &&& 31))) fun _ s1 =>
bd (mo_write s1 (a1 + (1 : Int32)) a2) fun _ s2 =>
some ((0 : Int32), s2)
set_option maxHeartbeats 4000000 in
set_option maxRecDepth 100000 in
theorem b_mo_writeWord {X : Cx} (G : Gd X bc_mo_writeWord 3 R_mod none (rmm 1 22)) (σ : MS) (a1 a2 : Int32) : J wdM X (QV wdM X) 3 0 [(0, .ref (eO (xE X) 0)), (1, .int a1), (2, .int a2)] [] σ (mo_writeWord σ a1 a2) := by
  unfold mo_writeWord
  refine j_aload_n 0 G d_mo_writeWord_0 rfl rfl ?_
  refine j_iload_n 1 G d_mo_writeWord_1 rfl rfl ?_
  refine j_iload_n 2 G d_mo_writeWord_2 rfl rfl ?_
  refine j_bipush G d_mo_writeWord_3 cb_8 ?_
  refine j_ishr G d_mo_writeWord_5 ?_
  refine j_Vv2 G k_mo_write mw_mo_write lk_mo_mo_write rc_mod d_mo_writeWord_6 rfl (Nat.le_of_ble_eq_true rfl) (fun _ s1 => ?_)
  refine j_aload_n 0 G d_mo_writeWord_9 rfl rfl ?_
  refine j_iload_n 1 G d_mo_writeWord_10 rfl rfl ?_
  refine j_iconst G d_mo_writeWord_11 ci_1 ?_
  refine j_iadd G d_mo_writeWord_12 ?_
  refine j_iload_n 2 G d_mo_writeWord_13 rfl rfl ?_
  refine j_Vv2 G k_mo_write mw_mo_write lk_mo_mo_write rc_mod d_mo_writeWord_14 rfl (Nat.le_of_ble_eq_true rfl) (fun _ s2 => ?_)
  exact j_vret G d_mo_writeWord_17
set_option maxHeartbeats 4000000 in
set_option maxRecDepth 100000 in
theorem k_mo_writeWord {l : Launch} {E : Ev} {σ : MS} {a1 a2 : Int32} : CtV wdM l E y_mo_writeWord bc_mo_writeWord 3 none (rmm 1 22) [.ref (eO E 0), .int a1, .int a2] σ (mo_writeWord σ a1 a2) := ct_v (by decide) (Nat.le_of_ble_eq_true rfl) (fun X hE _ G => by subst hE; exact b_mo_writeWord G σ a1 a2)
def mo_next (σ : MS) : Option (Int32 × MS) :=
bd (mo_read σ (mx_reg σ 6)) fun v1 s1 =>
nm (((mx_reg s1 6) + (1 : Int32)) &&& (65535 : Int32)) fun v2 =>
ns (my_reg s1 (upd (mx_reg s1) 6 v2)) fun s2 =>
some (v1, s2)
set_option maxHeartbeats 4000000 in
set_option maxRecDepth 100000 in
theorem b_mo_next {X : Cx} (G : Gd X bc_mo_next 2 R_mod (some .int) (rmm 1 21)) (σ : MS) : J wdM X (QI wdM X) 2 0 [(0, .ref (eO (xE X) 0))] [] σ (mo_next σ ) := by
  unfold mo_next
  refine j_aload_n 0 G d_mo_next_0 rfl rfl ?_
  refine j_aload_n 0 G d_mo_next_1 rfl rfl ?_
  refine g_mo_r G d_mo_next_2 ?_
  refine j_bipush G d_mo_next_5 cb_6 ?_
  refine alc_Mreg (j := 6) rfl rfl G d_mo_next_7 ?_
  refine j_Vi1 G k_mo_read mw_mo_read lk_mo_mo_read rc_mod d_mo_next_8 rfl (Nat.le_of_ble_eq_true rfl) (fun v1 s1 => ?_)
  refine j_istore_n [1, 0] (L1 := [(0, .ref (eO (xE X) 0)), (1, .int v1)]) G d_mo_next_11 rfl (by decide) rfl ?_
  refine j_aload_n 0 G d_mo_next_12 rfl rfl ?_
  refine g_mo_r G d_mo_next_13 ?_
  refine j_bipush G d_mo_next_16 cb_6 ?_
  refine j_aload_n 0 G d_mo_next_18 rfl rfl ?_
  refine g_mo_r G d_mo_next_19 ?_
  refine j_bipush G d_mo_next_22 cb_6 ?_
  refine alc_Mreg (j := 6) rfl rfl G d_mo_next_24 ?_
  refine j_iconst G d_mo_next_25 ci_1 ?_
  refine j_iadd G d_mo_next_26 ?_
  refine j_ldc G d_mo_next_27 kc_mo_30 ?_
  refine j_iand G d_mo_next_29 ?_
  refine j_nm (fun v2 => ?_)
  refine asc_Mreg (j := 6) rfl rfl G d_mo_next_30 ?_
  refine j_ns (fun s2 => ?_)
  refine j_iload_n 1 G d_mo_next_31 rfl rfl ?_
  exact j_iret G d_mo_next_32
set_option maxHeartbeats 4000000 in
set_option maxRecDepth 100000 in
theorem k_mo_next {l : Launch} {E : Ev} {σ : MS} : CtI wdM l E y_mo_next bc_mo_next 2 (some .int) (rmm 1 21) [.ref (eO E 0)] σ (mo_next σ ) := ct_i (by decide) (Nat.le_of_ble_eq_true rfl) (fun X hE _ G => by subst hE; exact b_mo_next G σ )
def mo_nextWord (σ : MS) : Option (Int32 × MS) :=
bd (mo_next σ) fun v1 s1 =>
bd (mo_next s1) fun v2 s2 =>
some ((((256 : Int32) * v1) + v2), s2)
set_option maxHeartbeats 4000000 in
set_option maxRecDepth 100000 in
theorem b_mo_nextWord {X : Cx} (G : Gd X bc_mo_nextWord 2 R_mod (some .int) (rmm 2 42)) (σ : MS) : J wdM X (QI wdM X) 2 0 [(0, .ref (eO (xE X) 0))] [] σ (mo_nextWord σ ) := by
  unfold mo_nextWord
  refine j_aload_n 0 G d_mo_nextWord_0 rfl rfl ?_
  refine j_Vi0 G k_mo_next mw_mo_next lk_mo_mo_next rc_mod d_mo_nextWord_1 rfl (Nat.le_of_ble_eq_true rfl) (fun v1 s1 => ?_)
  refine j_istore_n [1, 0] (L1 := [(0, .ref (eO (xE X) 0)), (1, .int v1)]) G d_mo_nextWord_4 rfl (by decide) rfl ?_
  refine j_sipush G d_mo_nextWord_5 cs_256 ?_
  refine j_iload_n 1 G d_mo_nextWord_8 rfl rfl ?_
  refine j_imul G d_mo_nextWord_9 ?_
  refine j_aload_n 0 G d_mo_nextWord_10 rfl rfl ?_
  refine j_Vi0 G k_mo_next mw_mo_next lk_mo_mo_next rc_mod d_mo_nextWord_11 rfl (Nat.le_of_ble_eq_true rfl) (fun v2 s2 => ?_)
  refine j_iadd G d_mo_nextWord_14 ?_
  exact j_iret G d_mo_nextWord_15
set_option maxHeartbeats 4000000 in
set_option maxRecDepth 100000 in
theorem k_mo_nextWord {l : Launch} {E : Ev} {σ : MS} : CtI wdM l E y_mo_nextWord bc_mo_nextWord 2 (some .int) (rmm 2 42) [.ref (eO E 0)] σ (mo_nextWord σ ) := ct_i (by decide) (Nat.le_of_ble_eq_true rfl) (fun X hE _ G => by subst hE; exact b_mo_nextWord G σ )
def mo_signed_16 (σ : MS) (t0 : Int32) : Option (Int32 × MS) :=
some (t0, σ)
def mo_signed (σ : MS) (a1 : Int32) : Option (Int32 × MS) :=
if a1 < (128 : Int32) then (mo_signed_16 σ a1) else (mo_signed_16 σ (a1 - (256 : Int32)))
set_option maxHeartbeats 4000000 in
set_option maxRecDepth 100000 in
theorem b_mo_signed_16 {X : Cx} (G : Gd X bc_mo_signed 1 R_mod (some .int) (rmm 0 0)) (σ : MS) (t0 : Int32) : J wdM X (QI wdM X) 1 16 [] [.int t0] σ (mo_signed_16 σ t0) := by
  unfold mo_signed_16
  exact j_iret G d_mo_signed_16
set_option maxHeartbeats 4000000 in
set_option maxRecDepth 100000 in
theorem b_mo_signed {X : Cx} (G : Gd X bc_mo_signed 1 R_mod (some .int) (rmm 0 0)) (σ : MS) (a1 : Int32) : J wdM X (QI wdM X) 1 0 [(0, .int a1)] [] σ (mo_signed σ a1) := by
  unfold mo_signed
  refine j_iload_n 0 G d_mo_signed_0 rfl rfl ?_
  refine j_sipush G d_mo_signed_1 cs_128 ?_
  refine j_iclt G d_mo_signed_4 (tgt := 15) rfl ?_ ?_
  · refine j_iload_n 0 G d_mo_signed_15 rfl rfl ?_
    refine j_sub [] (L1 := []) rfl ?_
    exact b_mo_signed_16 G σ a1
  · refine j_iload_n 0 G d_mo_signed_7 rfl rfl ?_
    refine j_sipush G d_mo_signed_8 cs_256 ?_
    refine j_isub G d_mo_signed_11 ?_
    refine j_goto G d_mo_signed_12 (tgt := 16) rfl ?_
    refine j_sub [] (L1 := []) rfl ?_
    exact b_mo_signed_16 G σ (a1 - (256 : Int32))
set_option maxHeartbeats 4000000 in
set_option maxRecDepth 100000 in
theorem k_mo_signed {l : Launch} {E : Ev} {σ : MS} {a1 : Int32} : CtI wdM l E y_mo_signed bc_mo_signed 1 (some .int) (rmm 0 0) [.int a1] σ (mo_signed σ a1) := ct_i (by decide) (Nat.le_of_ble_eq_true rfl) (fun X hE _ G => by subst hE; exact b_mo_signed G σ a1)
def mo_d (σ : MS) : Option (Int32 × MS) :=
some ((((256 : Int32) * (mx_reg σ 0)) + (mx_reg σ 1)), σ)
set_option maxHeartbeats 4000000 in
set_option maxRecDepth 100000 in
theorem b_mo_d {X : Cx} (G : Gd X bc_mo_d 1 R_mod (some .int) (rmm 0 0)) (σ : MS) : J wdM X (QI wdM X) 1 0 [(0, .ref (eO (xE X) 0))] [] σ (mo_d σ ) := by
  unfold mo_d
  refine j_sipush G d_mo_d_0 cs_256 ?_
  refine j_aload_n 0 G d_mo_d_3 rfl rfl ?_
  refine g_mo_r G d_mo_d_4 ?_
  refine j_iconst G d_mo_d_7 ci_0 ?_
  refine alc_Mreg (j := 0) rfl rfl G d_mo_d_8 ?_
  refine j_imul G d_mo_d_9 ?_
  refine j_aload_n 0 G d_mo_d_10 rfl rfl ?_
  refine g_mo_r G d_mo_d_11 ?_
  refine j_iconst G d_mo_d_14 ci_1 ?_
  refine alc_Mreg (j := 1) rfl rfl G d_mo_d_15 ?_
  refine j_iadd G d_mo_d_16 ?_
  exact j_iret G d_mo_d_17
set_option maxHeartbeats 4000000 in
set_option maxRecDepth 100000 in
theorem k_mo_d {l : Launch} {E : Ev} {σ : MS} : CtI wdM l E y_mo_d bc_mo_d 1 (some .int) (rmm 0 0) [.ref (eO E 0)] σ (mo_d σ ) := ct_i (by decide) (Nat.le_of_ble_eq_true rfl) (fun X hE _ G => by subst hE; exact b_mo_d G σ )
def mo_setD (σ : MS) (a1 : Int32) : Option (Int32 × MS) :=
nm ((a1 >>> ((8 : Int32) &&& 31)) &&& (255 : Int32)) fun v1 =>
ns (my_reg σ (upd (mx_reg σ) 0 v1)) fun s1 =>
nm (a1 &&& (255 : Int32)) fun v2 =>
ns (my_reg s1 (upd (mx_reg s1) 1 v2)) fun s2 =>
some ((0 : Int32), s2)
set_option maxHeartbeats 4000000 in
set_option maxRecDepth 100000 in
theorem b_mo_setD {X : Cx} (G : Gd X bc_mo_setD 2 R_mod none (rmm 0 0)) (σ : MS) (a1 : Int32) : J wdM X (QV wdM X) 2 0 [(0, .ref (eO (xE X) 0)), (1, .int a1)] [] σ (mo_setD σ a1) := by
  unfold mo_setD
  refine j_aload_n 0 G d_mo_setD_0 rfl rfl ?_
  refine g_mo_r G d_mo_setD_1 ?_
  refine j_iconst G d_mo_setD_4 ci_0 ?_
  refine j_iload_n 1 G d_mo_setD_5 rfl rfl ?_
  refine j_bipush G d_mo_setD_6 cb_8 ?_
  refine j_ishr G d_mo_setD_8 ?_
  refine j_sipush G d_mo_setD_9 cs_255 ?_
  refine j_iand G d_mo_setD_12 ?_
  refine j_nm (fun v1 => ?_)
  refine asc_Mreg (j := 0) rfl rfl G d_mo_setD_13 ?_
  refine j_ns (fun s1 => ?_)
  refine j_aload_n 0 G d_mo_setD_14 rfl rfl ?_
  refine g_mo_r G d_mo_setD_15 ?_
  refine j_iconst G d_mo_setD_18 ci_1 ?_
  refine j_iload_n 1 G d_mo_setD_19 rfl rfl ?_
  refine j_sipush G d_mo_setD_20 cs_255 ?_
  refine j_iand G d_mo_setD_23 ?_
  refine j_nm (fun v2 => ?_)
  refine asc_Mreg (j := 1) rfl rfl G d_mo_setD_24 ?_
  refine j_ns (fun s2 => ?_)
  exact j_vret G d_mo_setD_25
set_option maxHeartbeats 4000000 in
set_option maxRecDepth 100000 in
theorem k_mo_setD {l : Launch} {E : Ev} {σ : MS} {a1 : Int32} : CtV wdM l E y_mo_setD bc_mo_setD 2 none (rmm 0 0) [.ref (eO E 0), .int a1] σ (mo_setD σ a1) := ct_v (by decide) (Nat.le_of_ble_eq_true rfl) (fun X hE _ G => by subst hE; exact b_mo_setD G σ a1)
def mo_flag_33 (σ : MS) (t0 t1 : Int32) : Option (Int32 × MS) :=
gd (okI t1 9) (
ns (my_reg σ (upd (mx_reg σ) t1.toNatClampNeg t0)) fun s1 =>
some ((0 : Int32), s1))
def mo_flag (σ : MS) (a1 a2 : Int32) : Option (Int32 × MS) :=
if a2 = 0 then (mo_flag_33 σ ((mx_reg σ 8) &&& (a1 ^^^ (-1 : Int32))) (8 : Int32)) else (mo_flag_33 σ ((mx_reg σ 8) ||| a1) (8 : Int32))
set_option maxHeartbeats 4000000 in
set_option maxRecDepth 100000 in
theorem b_mo_flag_33 {X : Cx} (G : Gd X bc_mo_flag 3 R_mod none (rmm 0 0)) (σ : MS) (t0 t1 : Int32) : J wdM X (QV wdM X) 3 33 [(0, .ref (eO (xE X) 0))] [.int t0, .int t1, .ref (eO (xE X) 2)] σ (mo_flag_33 σ t0 t1) := by
  unfold mo_flag_33
  refine as_Mreg G d_mo_flag_33 ?_
  refine j_ns (fun s1 => ?_)
  exact j_vret G d_mo_flag_34
set_option maxHeartbeats 4000000 in
set_option maxRecDepth 100000 in
theorem b_mo_flag {X : Cx} (G : Gd X bc_mo_flag 3 R_mod none (rmm 0 0)) (σ : MS) (a1 a2 : Int32) : J wdM X (QV wdM X) 3 0 [(0, .ref (eO (xE X) 0)), (1, .int a1), (2, .int a2)] [] σ (mo_flag σ a1 a2) := by
  unfold mo_flag
  refine j_aload_n 0 G d_mo_flag_0 rfl rfl ?_
  refine g_mo_r G d_mo_flag_1 ?_
  refine j_bipush G d_mo_flag_4 cb_8 ?_
  refine j_iload_n 2 G d_mo_flag_6 rfl rfl ?_
  refine j_ifeq G d_mo_flag_7 (tgt := 22) rfl ?_ ?_
  · refine j_aload_n 0 G d_mo_flag_22 rfl rfl ?_
    refine g_mo_r G d_mo_flag_23 ?_
    refine j_bipush G d_mo_flag_26 cb_8 ?_
    refine alc_Mreg (j := 8) rfl rfl G d_mo_flag_28 ?_
    refine j_iload_n 1 G d_mo_flag_29 rfl rfl ?_
    refine j_iconst G d_mo_flag_30 ci_m1 ?_
    refine j_ixor G d_mo_flag_31 ?_
    refine j_iand G d_mo_flag_32 ?_
    refine j_sub [0] (L1 := [(0, .ref (eO (xE X) 0))]) rfl ?_
    exact b_mo_flag_33 G σ ((mx_reg σ 8) &&& (a1 ^^^ (-1 : Int32))) (8 : Int32)
  · refine j_aload_n 0 G d_mo_flag_10 rfl rfl ?_
    refine g_mo_r G d_mo_flag_11 ?_
    refine j_bipush G d_mo_flag_14 cb_8 ?_
    refine alc_Mreg (j := 8) rfl rfl G d_mo_flag_16 ?_
    refine j_iload_n 1 G d_mo_flag_17 rfl rfl ?_
    refine j_ior G d_mo_flag_18 ?_
    refine j_goto G d_mo_flag_19 (tgt := 33) rfl ?_
    refine j_sub [0] (L1 := [(0, .ref (eO (xE X) 0))]) rfl ?_
    exact b_mo_flag_33 G σ ((mx_reg σ 8) ||| a1) (8 : Int32)
set_option maxHeartbeats 4000000 in
set_option maxRecDepth 100000 in
theorem k_mo_flag {l : Launch} {E : Ev} {σ : MS} {a1 a2 : Int32} : CtV wdM l E y_mo_flag bc_mo_flag 3 none (rmm 0 0) [.ref (eO E 0), .int a1, .int a2] σ (mo_flag σ a1 a2) := ct_v (by decide) (Nat.le_of_ble_eq_true rfl) (fun X hE _ G => by subst hE; exact b_mo_flag G σ a1 a2)
def mo_is_17 (σ : MS) (t0 : Int32) : Option (Int32 × MS) :=
gd (isB t0) (some (t0, σ))
def mo_is (σ : MS) (a1 : Int32) : Option (Int32 × MS) :=
if ((mx_reg σ 8) &&& a1) = 0 then (mo_is_17 σ (0 : Int32)) else (mo_is_17 σ (1 : Int32))
set_option maxHeartbeats 4000000 in
set_option maxRecDepth 100000 in
theorem b_mo_is_17 {X : Cx} (G : Gd X bc_mo_is 2 R_mod (some .boolean) (rmm 0 0)) (σ : MS) (t0 : Int32) : J wdM X (QI wdM X) 2 17 [(0, .ref (eO (xE X) 0))] [.int t0] σ (mo_is_17 σ t0) := by
  unfold mo_is_17
  exact j_zret G d_mo_is_17
set_option maxHeartbeats 4000000 in
set_option maxRecDepth 100000 in
theorem b_mo_is {X : Cx} (G : Gd X bc_mo_is 2 R_mod (some .boolean) (rmm 0 0)) (σ : MS) (a1 : Int32) : J wdM X (QI wdM X) 2 0 [(0, .ref (eO (xE X) 0)), (1, .int a1)] [] σ (mo_is σ a1) := by
  unfold mo_is
  refine j_aload_n 0 G d_mo_is_0 rfl rfl ?_
  refine g_mo_r G d_mo_is_1 ?_
  refine j_bipush G d_mo_is_4 cb_8 ?_
  refine alc_Mreg (j := 8) rfl rfl G d_mo_is_6 ?_
  refine j_iload_n 1 G d_mo_is_7 rfl rfl ?_
  refine j_iand G d_mo_is_8 ?_
  refine j_ifeq G d_mo_is_9 (tgt := 16) rfl ?_ ?_
  · refine j_iconst G d_mo_is_16 ci_0 ?_
    refine j_sub [0] (L1 := [(0, .ref (eO (xE X) 0))]) rfl ?_
    exact b_mo_is_17 G σ (0 : Int32)
  · refine j_iconst G d_mo_is_12 ci_1 ?_
    refine j_goto G d_mo_is_13 (tgt := 17) rfl ?_
    refine j_sub [0] (L1 := [(0, .ref (eO (xE X) 0))]) rfl ?_
    exact b_mo_is_17 G σ (1 : Int32)
set_option maxHeartbeats 4000000 in
set_option maxRecDepth 100000 in
theorem k_mo_is {l : Launch} {E : Ev} {σ : MS} {a1 : Int32} : CtI wdM l E y_mo_is bc_mo_is 2 (some .boolean) (rmm 0 0) [.ref (eO E 0), .int a1] σ (mo_is σ a1) := ct_i (by decide) (Nat.le_of_ble_eq_true rfl) (fun X hE _ G => by subst hE; exact b_mo_is G σ a1)
def mo_shows_52 (σ : MS) (t0 t1 : Int32) : Option (Int32 × MS) :=
bd (mo_flag σ t1 t0) fun _ s1 =>
some ((0 : Int32), s1)
def mo_shows_43 (σ : MS) (t0 t1 t2 : Int32) : Option (Int32 × MS) :=
if (t1 &&& t0) = 0 then (mo_shows_52 σ (1 : Int32) t2) else (mo_shows_52 σ (0 : Int32) t2)
def mo_shows_25 (σ : MS) (l1 l2 t0 t1 : Int32) : Option (Int32 × MS) :=
bd (mo_flag σ t1 t0) fun _ s1 =>
if l2 = 0 then (mo_shows_43 s1 (255 : Int32) l1 (4 : Int32)) else (mo_shows_43 s1 (65535 : Int32) l1 (4 : Int32))
def mo_shows_16 (σ : MS) (l1 l2 t0 t1 t2 : Int32) : Option (Int32 × MS) :=
if (t1 &&& t0) = 0 then (mo_shows_25 σ l1 l2 (0 : Int32) t2) else (mo_shows_25 σ l1 l2 (1 : Int32) t2)
def mo_shows (σ : MS) (a1 a2 : Int32) : Option (Int32 × MS) :=
if a2 = 0 then (mo_shows_16 σ a1 a2 (128 : Int32) a1 (8 : Int32)) else (mo_shows_16 σ a1 a2 (32768 : Int32) a1 (8 : Int32))
set_option maxHeartbeats 4000000 in
set_option maxRecDepth 100000 in
theorem b_mo_shows_52 {X : Cx} (G : Gd X bc_mo_shows 3 R_mod none (rmm 1 22)) (σ : MS) (t0 t1 : Int32) : J wdM X (QV wdM X) 3 52 [(0, .ref (eO (xE X) 0))] [.int t0, .int t1, .ref (eO (xE X) 0)] σ (mo_shows_52 σ t0 t1) := by
  unfold mo_shows_52
  refine j_Vv2 G k_mo_flag mw_mo_flag lk_mo_mo_flag rc_mod d_mo_shows_52 rfl (Nat.le_of_ble_eq_true rfl) (fun _ s1 => ?_)
  exact j_vret G d_mo_shows_55
set_option maxHeartbeats 4000000 in
set_option maxRecDepth 100000 in
theorem b_mo_shows_43 {X : Cx} (G : Gd X bc_mo_shows 3 R_mod none (rmm 1 22)) (σ : MS) (t0 t1 t2 : Int32) : J wdM X (QV wdM X) 3 43 [(0, .ref (eO (xE X) 0))] [.int t0, .int t1, .int t2, .ref (eO (xE X) 0)] σ (mo_shows_43 σ t0 t1 t2) := by
  unfold mo_shows_43
  refine j_iand G d_mo_shows_43 ?_
  refine j_ifne G d_mo_shows_44 (tgt := 51) rfl ?_ ?_
  · refine j_iconst G d_mo_shows_51 ci_0 ?_
    exact b_mo_shows_52 G σ (0 : Int32) t2
  · refine j_iconst G d_mo_shows_47 ci_1 ?_
    refine j_goto G d_mo_shows_48 (tgt := 52) rfl ?_
    exact b_mo_shows_52 G σ (1 : Int32) t2
set_option maxHeartbeats 4000000 in
set_option maxRecDepth 100000 in
theorem b_mo_shows_25 {X : Cx} (G : Gd X bc_mo_shows 3 R_mod none (rmm 1 22)) (σ : MS) (l1 l2 t0 t1 : Int32) : J wdM X (QV wdM X) 3 25 [(0, .ref (eO (xE X) 0)), (1, .int l1), (2, .int l2)] [.int t0, .int t1, .ref (eO (xE X) 0)] σ (mo_shows_25 σ l1 l2 t0 t1) := by
  unfold mo_shows_25
  refine j_Vv2 G k_mo_flag mw_mo_flag lk_mo_mo_flag rc_mod d_mo_shows_25 rfl (Nat.le_of_ble_eq_true rfl) (fun _ s1 => ?_)
  refine j_aload_n 0 G d_mo_shows_28 rfl rfl ?_
  refine j_iconst G d_mo_shows_29 ci_4 ?_
  refine j_iload_n 1 G d_mo_shows_30 rfl rfl ?_
  refine j_iload_n 2 G d_mo_shows_31 rfl rfl ?_
  refine j_ifeq G d_mo_shows_32 (tgt := 40) rfl ?_ ?_
  · refine j_sipush G d_mo_shows_40 cs_255 ?_
    refine j_sub [0] (L1 := [(0, .ref (eO (xE X) 0))]) rfl ?_
    exact b_mo_shows_43 G s1 (255 : Int32) l1 (4 : Int32)
  · refine j_ldc G d_mo_shows_35 kc_mo_30 ?_
    refine j_goto G d_mo_shows_37 (tgt := 43) rfl ?_
    refine j_sub [0] (L1 := [(0, .ref (eO (xE X) 0))]) rfl ?_
    exact b_mo_shows_43 G s1 (65535 : Int32) l1 (4 : Int32)
set_option maxHeartbeats 4000000 in
set_option maxRecDepth 100000 in
theorem b_mo_shows_16 {X : Cx} (G : Gd X bc_mo_shows 3 R_mod none (rmm 1 22)) (σ : MS) (l1 l2 t0 t1 t2 : Int32) : J wdM X (QV wdM X) 3 16 [(0, .ref (eO (xE X) 0)), (1, .int l1), (2, .int l2)] [.int t0, .int t1, .int t2, .ref (eO (xE X) 0)] σ (mo_shows_16 σ l1 l2 t0 t1 t2) := by
  unfold mo_shows_16
  refine j_iand G d_mo_shows_16 ?_
  refine j_ifeq G d_mo_shows_17 (tgt := 24) rfl ?_ ?_
  · refine j_iconst G d_mo_shows_24 ci_0 ?_
    exact b_mo_shows_25 G σ l1 l2 (0 : Int32) t2
  · refine j_iconst G d_mo_shows_20 ci_1 ?_
    refine j_goto G d_mo_shows_21 (tgt := 25) rfl ?_
    exact b_mo_shows_25 G σ l1 l2 (1 : Int32) t2
set_option maxHeartbeats 4000000 in
set_option maxRecDepth 100000 in
theorem b_mo_shows {X : Cx} (G : Gd X bc_mo_shows 3 R_mod none (rmm 1 22)) (σ : MS) (a1 a2 : Int32) : J wdM X (QV wdM X) 3 0 [(0, .ref (eO (xE X) 0)), (1, .int a1), (2, .int a2)] [] σ (mo_shows σ a1 a2) := by
  unfold mo_shows
  refine j_aload_n 0 G d_mo_shows_0 rfl rfl ?_
  refine j_bipush G d_mo_shows_1 cb_8 ?_
  refine j_iload_n 1 G d_mo_shows_3 rfl rfl ?_
  refine j_iload_n 2 G d_mo_shows_4 rfl rfl ?_
  refine j_ifeq G d_mo_shows_5 (tgt := 13) rfl ?_ ?_
  · refine j_sipush G d_mo_shows_13 cs_128 ?_
    exact b_mo_shows_16 G σ a1 a2 (128 : Int32) a1 (8 : Int32)
  · refine j_ldc G d_mo_shows_8 kc_mo_35 ?_
    refine j_goto G d_mo_shows_10 (tgt := 16) rfl ?_
    exact b_mo_shows_16 G σ a1 a2 (32768 : Int32) a1 (8 : Int32)
set_option maxHeartbeats 4000000 in
set_option maxRecDepth 100000 in
theorem k_mo_shows {l : Launch} {E : Ev} {σ : MS} {a1 a2 : Int32} : CtV wdM l E y_mo_shows bc_mo_shows 3 none (rmm 1 22) [.ref (eO E 0), .int a1, .int a2] σ (mo_shows σ a1 a2) := ct_v (by decide) (Nat.le_of_ble_eq_true rfl) (fun X hE _ G => by subst hE; exact b_mo_shows G σ a1 a2)
def mo_moved (σ : MS) (a1 a2 : Int32) : Option (Int32 × MS) :=
bd (mo_shows σ a1 a2) fun _ s1 =>
bd (mo_flag s1 (2 : Int32) (0 : Int32)) fun _ s2 =>
some (a1, s2)
set_option maxHeartbeats 4000000 in
set_option maxRecDepth 100000 in
theorem b_mo_moved {X : Cx} (G : Gd X bc_mo_moved 3 R_mod (some .int) (rmm 2 44)) (σ : MS) (a1 a2 : Int32) : J wdM X (QI wdM X) 3 0 [(0, .ref (eO (xE X) 0)), (1, .int a1), (2, .int a2)] [] σ (mo_moved σ a1 a2) := by
  unfold mo_moved
  refine j_aload_n 0 G d_mo_moved_0 rfl rfl ?_
  refine j_iload_n 1 G d_mo_moved_1 rfl rfl ?_
  refine j_iload_n 2 G d_mo_moved_2 rfl rfl ?_
  refine j_Vv2 G k_mo_shows mw_mo_shows lk_mo_mo_shows rc_mod d_mo_moved_3 rfl (Nat.le_of_ble_eq_true rfl) (fun _ s1 => ?_)
  refine j_aload_n 0 G d_mo_moved_6 rfl rfl ?_
  refine j_iconst G d_mo_moved_7 ci_2 ?_
  refine j_iconst G d_mo_moved_8 ci_0 ?_
  refine j_Vv2 G k_mo_flag mw_mo_flag lk_mo_mo_flag rc_mod d_mo_moved_9 rfl (Nat.le_of_ble_eq_true rfl) (fun _ s2 => ?_)
  refine j_iload_n 1 G d_mo_moved_12 rfl rfl ?_
  exact j_iret G d_mo_moved_13
set_option maxHeartbeats 4000000 in
set_option maxRecDepth 100000 in
theorem k_mo_moved {l : Launch} {E : Ev} {σ : MS} {a1 a2 : Int32} : CtI wdM l E y_mo_moved bc_mo_moved 3 (some .int) (rmm 2 44) [.ref (eO E 0), .int a1, .int a2] σ (mo_moved σ a1 a2) := ct_i (by decide) (Nat.le_of_ble_eq_true rfl) (fun X hE _ G => by subst hE; exact b_mo_moved G σ a1 a2)
def mo_asSigned_37 (σ : MS) (t0 : Int32) : Option (Int32 × MS) :=
some (t0, σ)
def mo_asSigned (σ : MS) (a1 a2 : Int32) : Option (Int32 × MS) :=
if a2 = 0 then (if a1 < (128 : Int32) then (mo_asSigned_37 σ a1) else (mo_asSigned_37 σ (a1 - (256 : Int32)))) else (if a1 < (32768 : Int32) then (mo_asSigned_37 σ a1) else (mo_asSigned_37 σ (a1 - (65536 : Int32))))
set_option maxHeartbeats 4000000 in
set_option maxRecDepth 100000 in
theorem b_mo_asSigned_37 {X : Cx} (G : Gd X bc_mo_asSigned 2 R_mod (some .int) (rmm 0 0)) (σ : MS) (t0 : Int32) : J wdM X (QI wdM X) 2 37 [] [.int t0] σ (mo_asSigned_37 σ t0) := by
  unfold mo_asSigned_37
  exact j_iret G d_mo_asSigned_37
set_option maxHeartbeats 4000000 in
set_option maxRecDepth 100000 in
theorem b_mo_asSigned {X : Cx} (G : Gd X bc_mo_asSigned 2 R_mod (some .int) (rmm 0 0)) (σ : MS) (a1 a2 : Int32) : J wdM X (QI wdM X) 2 0 [(0, .int a1), (1, .int a2)] [] σ (mo_asSigned σ a1 a2) := by
  unfold mo_asSigned
  refine j_iload_n 1 G d_mo_asSigned_0 rfl rfl ?_
  refine j_ifeq G d_mo_asSigned_1 (tgt := 21) rfl ?_ ?_
  · refine j_iload_n 0 G d_mo_asSigned_21 rfl rfl ?_
    refine j_sipush G d_mo_asSigned_22 cs_128 ?_
    refine j_iclt G d_mo_asSigned_25 (tgt := 36) rfl ?_ ?_
    · refine j_iload_n 0 G d_mo_asSigned_36 rfl rfl ?_
      refine j_sub [] (L1 := []) rfl ?_
      exact b_mo_asSigned_37 G σ a1
    · refine j_iload_n 0 G d_mo_asSigned_28 rfl rfl ?_
      refine j_sipush G d_mo_asSigned_29 cs_256 ?_
      refine j_isub G d_mo_asSigned_32 ?_
      refine j_goto G d_mo_asSigned_33 (tgt := 37) rfl ?_
      refine j_sub [] (L1 := []) rfl ?_
      exact b_mo_asSigned_37 G σ (a1 - (256 : Int32))
  · refine j_iload_n 0 G d_mo_asSigned_4 rfl rfl ?_
    refine j_ldc G d_mo_asSigned_5 kc_mo_35 ?_
    refine j_iclt G d_mo_asSigned_7 (tgt := 17) rfl ?_ ?_
    · refine j_iload_n 0 G d_mo_asSigned_17 rfl rfl ?_
      refine j_goto G d_mo_asSigned_18 (tgt := 37) rfl ?_
      refine j_sub [] (L1 := []) rfl ?_
      exact b_mo_asSigned_37 G σ a1
    · refine j_iload_n 0 G d_mo_asSigned_10 rfl rfl ?_
      refine j_ldc G d_mo_asSigned_11 kc_mo_43 ?_
      refine j_isub G d_mo_asSigned_13 ?_
      refine j_goto G d_mo_asSigned_14 (tgt := 37) rfl ?_
      refine j_sub [] (L1 := []) rfl ?_
      exact b_mo_asSigned_37 G σ (a1 - (65536 : Int32))
set_option maxHeartbeats 4000000 in
set_option maxRecDepth 100000 in
theorem k_mo_asSigned {l : Launch} {E : Ev} {σ : MS} {a1 a2 : Int32} : CtI wdM l E y_mo_asSigned bc_mo_asSigned 2 (some .int) (rmm 0 0) [.int a1, .int a2] σ (mo_asSigned σ a1 a2) := ct_i (by decide) (Nat.le_of_ble_eq_true rfl) (fun X hE _ G => by subst hE; exact b_mo_asSigned G σ a1 a2)
def mo_hasRoom_25 (σ : MS) (t0 : Int32) : Option (Int32 × MS) :=
gd (isB t0) (some (t0, σ))
def mo_hasRoom (σ : MS) (a1 a2 : Int32) : Option (Int32 × MS) :=
if a2 = 0 then (bd (mo_in σ a1 (-128 : Int32) (127 : Int32)) fun v1 s1 =>
mo_hasRoom_25 s1 v1) else (bd (mo_in σ a1 (-32768 : Int32) (32767 : Int32)) fun v2 s2 =>
mo_hasRoom_25 s2 v2)
set_option maxHeartbeats 4000000 in
set_option maxRecDepth 100000 in
theorem b_mo_hasRoom_25 {X : Cx} (G : Gd X bc_mo_hasRoom 2 R_mod (some .boolean) (rmm 1 22)) (σ : MS) (t0 : Int32) : J wdM X (QI wdM X) 2 25 [] [.int t0] σ (mo_hasRoom_25 σ t0) := by
  unfold mo_hasRoom_25
  exact j_zret G d_mo_hasRoom_25
set_option maxHeartbeats 4000000 in
set_option maxRecDepth 100000 in
theorem b_mo_hasRoom {X : Cx} (G : Gd X bc_mo_hasRoom 2 R_mod (some .boolean) (rmm 1 22)) (σ : MS) (a1 a2 : Int32) : J wdM X (QI wdM X) 2 0 [(0, .int a1), (1, .int a2)] [] σ (mo_hasRoom σ a1 a2) := by
  unfold mo_hasRoom
  refine j_iload_n 1 G d_mo_hasRoom_0 rfl rfl ?_
  refine j_ifeq G d_mo_hasRoom_1 (tgt := 17) rfl ?_ ?_
  · refine j_iload_n 0 G d_mo_hasRoom_17 rfl rfl ?_
    refine j_bipush G d_mo_hasRoom_18 cb_m128 ?_
    refine j_bipush G d_mo_hasRoom_20 cb_127 ?_
    refine j_Si3 G k_mo_in mw_mo_in lk_mo_mo_in d_mo_hasRoom_22 rfl (Nat.le_of_ble_eq_true rfl) (fun v1 s1 => ?_)
    refine j_sub [] (L1 := []) rfl ?_
    exact b_mo_hasRoom_25 G s1 v1
  · refine j_iload_n 0 G d_mo_hasRoom_4 rfl rfl ?_
    refine j_sipush G d_mo_hasRoom_5 cs_m32768 ?_
    refine j_sipush G d_mo_hasRoom_8 cs_32767 ?_
    refine j_Si3 G k_mo_in mw_mo_in lk_mo_mo_in d_mo_hasRoom_11 rfl (Nat.le_of_ble_eq_true rfl) (fun v2 s2 => ?_)
    refine j_goto G d_mo_hasRoom_14 (tgt := 25) rfl ?_
    refine j_sub [] (L1 := []) rfl ?_
    exact b_mo_hasRoom_25 G s2 v2
set_option maxHeartbeats 4000000 in
set_option maxRecDepth 100000 in
theorem k_mo_hasRoom {l : Launch} {E : Ev} {σ : MS} {a1 a2 : Int32} : CtI wdM l E y_mo_hasRoom bc_mo_hasRoom 2 (some .boolean) (rmm 1 22) [.int a1, .int a2] σ (mo_hasRoom σ a1 a2) := ct_i (by decide) (Nat.le_of_ble_eq_true rfl) (fun X hE _ G => by subst hE; exact b_mo_hasRoom G σ a1 a2)
def mo_plus_123 (σ : MS) (t0 t1 : Int32) : Option (Int32 × MS) :=
some ((t1 &&& t0), σ)
def mo_plus_97 (σ : MS) (l4 l5 t0 t1 : Int32) : Option (Int32 × MS) :=
bd (mo_flag σ t1 t0) fun _ s1 =>
bd (mo_shows s1 l5 l4) fun _ s2 =>
if l4 = 0 then (mo_plus_123 s2 (255 : Int32) l5) else (mo_plus_123 s2 (65535 : Int32) l5)
def mo_plus_64 (σ : MS) (l1 l2 l3 l4 l5 t0 t1 : Int32) : Option (Int32 × MS) :=
bd (mo_flag σ t1 t0) fun _ s1 =>
bd (mo_asSigned s1 l1 l4) fun v1 s2 =>
bd (mo_asSigned s2 l2 l4) fun v2 s3 =>
bd (mo_hasRoom s3 ((v1 + v2) + l3) l4) fun v3 s4 =>
if v3 = 0 then (mo_plus_97 s4 l4 l5 (1 : Int32) (2 : Int32)) else (mo_plus_97 s4 l4 l5 (0 : Int32) (2 : Int32))
def mo_plus_56 (σ : MS) (l1 l2 l3 l4 l5 t0 t1 t2 : Int32) : Option (Int32 × MS) :=
if t1 ≤ t0 then (mo_plus_64 σ l1 l2 l3 l4 l5 (0 : Int32) t2) else (mo_plus_64 σ l1 l2 l3 l4 l5 (1 : Int32) t2)
def mo_plus_39 (σ : MS) (l1 l2 l3 l4 l5 : Int32) : Option (Int32 × MS) :=
if l4 = 0 then (mo_plus_56 σ l1 l2 l3 l4 l5 (255 : Int32) l5 (1 : Int32)) else (mo_plus_56 σ l1 l2 l3 l4 l5 (65535 : Int32) l5 (1 : Int32))
def mo_plus_36 (σ : MS) (l1 l2 l3 l4 l5 t0 t1 : Int32) : Option (Int32 × MS) :=
bd (mo_flag σ t1 t0) fun _ s1 =>
mo_plus_39 s1 l1 l2 l3 l4 l5
def mo_plus (σ : MS) (a1 a2 a3 a4 : Int32) : Option (Int32 × MS) :=
nm ((a1 + a2) + a3) fun v1 =>
if a4 = 0 then (if (((a1 &&& (15 : Int32)) + (a2 &&& (15 : Int32))) + a3) ≤ (15 : Int32) then (mo_plus_36 σ a1 a2 a3 a4 v1 (0 : Int32) (32 : Int32)) else (mo_plus_36 σ a1 a2 a3 a4 v1 (1 : Int32) (32 : Int32))) else (mo_plus_39 σ a1 a2 a3 a4 v1)
set_option maxHeartbeats 4000000 in
set_option maxRecDepth 100000 in
theorem b_mo_plus_123 {X : Cx} (G : Gd X bc_mo_plus 6 R_mod (some .int) (rmm 2 44)) (σ : MS) (t0 t1 : Int32) : J wdM X (QI wdM X) 6 123 [(0, .ref (eO (xE X) 0))] [.int t0, .int t1] σ (mo_plus_123 σ t0 t1) := by
  unfold mo_plus_123
  refine j_iand G d_mo_plus_123 ?_
  exact j_iret G d_mo_plus_124
set_option maxHeartbeats 4000000 in
set_option maxRecDepth 100000 in
theorem b_mo_plus_97 {X : Cx} (G : Gd X bc_mo_plus 6 R_mod (some .int) (rmm 2 44)) (σ : MS) (l4 l5 t0 t1 : Int32) : J wdM X (QI wdM X) 6 97 [(0, .ref (eO (xE X) 0)), (4, .int l4), (5, .int l5)] [.int t0, .int t1, .ref (eO (xE X) 0)] σ (mo_plus_97 σ l4 l5 t0 t1) := by
  unfold mo_plus_97
  refine j_Vv2 G k_mo_flag mw_mo_flag lk_mo_mo_flag rc_mod d_mo_plus_97 rfl (Nat.le_of_ble_eq_true rfl) (fun _ s1 => ?_)
  refine j_aload_n 0 G d_mo_plus_100 rfl rfl ?_
  refine j_iload 2 G d_mo_plus_101 rfl ?_
  refine j_iload 1 G d_mo_plus_103 rfl ?_
  refine j_Vv2 G k_mo_shows mw_mo_shows lk_mo_mo_shows rc_mod d_mo_plus_105 rfl (Nat.le_of_ble_eq_true rfl) (fun _ s2 => ?_)
  refine j_iload 2 G d_mo_plus_108 rfl ?_
  refine j_iload 1 G d_mo_plus_110 rfl ?_
  refine j_ifeq G d_mo_plus_112 (tgt := 120) rfl ?_ ?_
  · refine j_sipush G d_mo_plus_120 cs_255 ?_
    refine j_sub [0] (L1 := [(0, .ref (eO (xE X) 0))]) rfl ?_
    exact b_mo_plus_123 G s2 (255 : Int32) l5
  · refine j_ldc G d_mo_plus_115 kc_mo_30 ?_
    refine j_goto G d_mo_plus_117 (tgt := 123) rfl ?_
    refine j_sub [0] (L1 := [(0, .ref (eO (xE X) 0))]) rfl ?_
    exact b_mo_plus_123 G s2 (65535 : Int32) l5
set_option maxHeartbeats 4000000 in
set_option maxRecDepth 100000 in
theorem b_mo_plus_64 {X : Cx} (G : Gd X bc_mo_plus 6 R_mod (some .int) (rmm 2 44)) (σ : MS) (l1 l2 l3 l4 l5 t0 t1 : Int32) : J wdM X (QI wdM X) 6 64 [(0, .ref (eO (xE X) 0)), (1, .int l1), (2, .int l2), (3, .int l3), (4, .int l4), (5, .int l5)] [.int t0, .int t1, .ref (eO (xE X) 0)] σ (mo_plus_64 σ l1 l2 l3 l4 l5 t0 t1) := by
  unfold mo_plus_64
  refine j_Vv2 G k_mo_flag mw_mo_flag lk_mo_mo_flag rc_mod d_mo_plus_64 rfl (Nat.le_of_ble_eq_true rfl) (fun _ s1 => ?_)
  refine j_aload_n 0 G d_mo_plus_67 rfl rfl ?_
  refine j_iconst G d_mo_plus_68 ci_2 ?_
  refine j_iload_n 1 G d_mo_plus_69 rfl rfl ?_
  refine j_iload 4 G d_mo_plus_70 rfl ?_
  refine j_Si2 G k_mo_asSigned mw_mo_asSigned lk_mo_mo_asSigned d_mo_plus_72 rfl (Nat.le_of_ble_eq_true rfl) (fun v1 s2 => ?_)
  refine j_iload_n 2 G d_mo_plus_75 rfl rfl ?_
  refine j_iload 4 G d_mo_plus_76 rfl ?_
  refine j_Si2 G k_mo_asSigned mw_mo_asSigned lk_mo_mo_asSigned d_mo_plus_78 rfl (Nat.le_of_ble_eq_true rfl) (fun v2 s3 => ?_)
  refine j_iadd G d_mo_plus_81 ?_
  refine j_iload_n 3 G d_mo_plus_82 rfl rfl ?_
  refine j_iadd G d_mo_plus_83 ?_
  refine j_iload 4 G d_mo_plus_84 rfl ?_
  refine j_Si2 G k_mo_hasRoom mw_mo_hasRoom lk_mo_mo_hasRoom d_mo_plus_86 rfl (Nat.le_of_ble_eq_true rfl) (fun v3 s4 => ?_)
  refine j_ifne G d_mo_plus_89 (tgt := 96) rfl ?_ ?_
  · refine j_iconst G d_mo_plus_96 ci_0 ?_
    refine j_sub [0, 4, 5] (L1 := [(0, .ref (eO (xE X) 0)), (4, .int l4), (5, .int l5)]) rfl ?_
    exact b_mo_plus_97 G s4 l4 l5 (0 : Int32) (2 : Int32)
  · refine j_iconst G d_mo_plus_92 ci_1 ?_
    refine j_goto G d_mo_plus_93 (tgt := 97) rfl ?_
    refine j_sub [0, 4, 5] (L1 := [(0, .ref (eO (xE X) 0)), (4, .int l4), (5, .int l5)]) rfl ?_
    exact b_mo_plus_97 G s4 l4 l5 (1 : Int32) (2 : Int32)
set_option maxHeartbeats 4000000 in
set_option maxRecDepth 100000 in
theorem b_mo_plus_56 {X : Cx} (G : Gd X bc_mo_plus 6 R_mod (some .int) (rmm 2 44)) (σ : MS) (l1 l2 l3 l4 l5 t0 t1 t2 : Int32) : J wdM X (QI wdM X) 6 56 [(0, .ref (eO (xE X) 0)), (1, .int l1), (2, .int l2), (3, .int l3), (4, .int l4), (5, .int l5)] [.int t0, .int t1, .int t2, .ref (eO (xE X) 0)] σ (mo_plus_56 σ l1 l2 l3 l4 l5 t0 t1 t2) := by
  unfold mo_plus_56
  refine j_icle G d_mo_plus_56 (tgt := 63) rfl ?_ ?_
  · refine j_iconst G d_mo_plus_63 ci_0 ?_
    exact b_mo_plus_64 G σ l1 l2 l3 l4 l5 (0 : Int32) t2
  · refine j_iconst G d_mo_plus_59 ci_1 ?_
    refine j_goto G d_mo_plus_60 (tgt := 64) rfl ?_
    exact b_mo_plus_64 G σ l1 l2 l3 l4 l5 (1 : Int32) t2
set_option maxHeartbeats 4000000 in
set_option maxRecDepth 100000 in
theorem b_mo_plus_39 {X : Cx} (G : Gd X bc_mo_plus 6 R_mod (some .int) (rmm 2 44)) (σ : MS) (l1 l2 l3 l4 l5 : Int32) : J wdM X (QI wdM X) 6 39 [(0, .ref (eO (xE X) 0)), (1, .int l1), (2, .int l2), (3, .int l3), (4, .int l4), (5, .int l5)] [] σ (mo_plus_39 σ l1 l2 l3 l4 l5) := by
  unfold mo_plus_39
  refine j_aload_n 0 G d_mo_plus_39 rfl rfl ?_
  refine j_iconst G d_mo_plus_40 ci_1 ?_
  refine j_iload 5 G d_mo_plus_41 rfl ?_
  refine j_iload 4 G d_mo_plus_43 rfl ?_
  refine j_ifeq G d_mo_plus_45 (tgt := 53) rfl ?_ ?_
  · refine j_sipush G d_mo_plus_53 cs_255 ?_
    exact b_mo_plus_56 G σ l1 l2 l3 l4 l5 (255 : Int32) l5 (1 : Int32)
  · refine j_ldc G d_mo_plus_48 kc_mo_30 ?_
    refine j_goto G d_mo_plus_50 (tgt := 56) rfl ?_
    exact b_mo_plus_56 G σ l1 l2 l3 l4 l5 (65535 : Int32) l5 (1 : Int32)
set_option maxHeartbeats 4000000 in
set_option maxRecDepth 100000 in
theorem b_mo_plus_36 {X : Cx} (G : Gd X bc_mo_plus 6 R_mod (some .int) (rmm 2 44)) (σ : MS) (l1 l2 l3 l4 l5 t0 t1 : Int32) : J wdM X (QI wdM X) 6 36 [(0, .ref (eO (xE X) 0)), (1, .int l1), (2, .int l2), (3, .int l3), (4, .int l4), (5, .int l5)] [.int t0, .int t1, .ref (eO (xE X) 0)] σ (mo_plus_36 σ l1 l2 l3 l4 l5 t0 t1) := by
  unfold mo_plus_36
  refine j_Vv2 G k_mo_flag mw_mo_flag lk_mo_mo_flag rc_mod d_mo_plus_36 rfl (Nat.le_of_ble_eq_true rfl) (fun _ s1 => ?_)
  exact b_mo_plus_39 G s1 l1 l2 l3 l4 l5
set_option maxHeartbeats 4000000 in
set_option maxRecDepth 100000 in
theorem b_mo_plus {X : Cx} (G : Gd X bc_mo_plus 6 R_mod (some .int) (rmm 2 44)) (σ : MS) (a1 a2 a3 a4 : Int32) : J wdM X (QI wdM X) 6 0 [(0, .ref (eO (xE X) 0)), (1, .int a1), (2, .int a2), (3, .int a3), (4, .int a4)] [] σ (mo_plus σ a1 a2 a3 a4) := by
  unfold mo_plus
  refine j_iload_n 1 G d_mo_plus_0 rfl rfl ?_
  refine j_iload_n 2 G d_mo_plus_1 rfl rfl ?_
  refine j_iadd G d_mo_plus_2 ?_
  refine j_iload_n 3 G d_mo_plus_3 rfl rfl ?_
  refine j_iadd G d_mo_plus_4 ?_
  refine j_nm (fun v1 => ?_)
  refine j_istore [1, 2, 3, 4, 5, 0] (L1 := [(0, .ref (eO (xE X) 0)), (1, .int a1), (2, .int a2), (3, .int a3), (4, .int a4), (5, .int v1)]) G d_mo_plus_5 (by decide) rfl ?_
  refine j_iload 4 G d_mo_plus_7 rfl ?_
  refine j_ifne G d_mo_plus_9 (tgt := 39) rfl ?_ ?_
  · exact b_mo_plus_39 G σ a1 a2 a3 a4 v1
  · refine j_aload_n 0 G d_mo_plus_12 rfl rfl ?_
    refine j_bipush G d_mo_plus_13 cb_32 ?_
    refine j_iload_n 1 G d_mo_plus_15 rfl rfl ?_
    refine j_bipush G d_mo_plus_16 cb_15 ?_
    refine j_iand G d_mo_plus_18 ?_
    refine j_iload_n 2 G d_mo_plus_19 rfl rfl ?_
    refine j_bipush G d_mo_plus_20 cb_15 ?_
    refine j_iand G d_mo_plus_22 ?_
    refine j_iadd G d_mo_plus_23 ?_
    refine j_iload_n 3 G d_mo_plus_24 rfl rfl ?_
    refine j_iadd G d_mo_plus_25 ?_
    refine j_bipush G d_mo_plus_26 cb_15 ?_
    refine j_icle G d_mo_plus_28 (tgt := 35) rfl ?_ ?_
    · refine j_iconst G d_mo_plus_35 ci_0 ?_
      exact b_mo_plus_36 G σ a1 a2 a3 a4 v1 (0 : Int32) (32 : Int32)
    · refine j_iconst G d_mo_plus_31 ci_1 ?_
      refine j_goto G d_mo_plus_32 (tgt := 36) rfl ?_
      exact b_mo_plus_36 G σ a1 a2 a3 a4 v1 (1 : Int32) (32 : Int32)
set_option maxHeartbeats 4000000 in
set_option maxRecDepth 100000 in
theorem k_mo_plus {l : Launch} {E : Ev} {σ : MS} {a1 a2 a3 a4 : Int32} : CtI wdM l E y_mo_plus bc_mo_plus 6 (some .int) (rmm 2 44) [.ref (eO E 0), .int a1, .int a2, .int a3, .int a4] σ (mo_plus σ a1 a2 a3 a4) := ct_i (by decide) (Nat.le_of_ble_eq_true rfl) (fun X hE _ G => by subst hE; exact b_mo_plus G σ a1 a2 a3 a4)
def mo_less_78 (σ : MS) (t0 t1 : Int32) : Option (Int32 × MS) :=
some ((t1 &&& t0), σ)
def mo_less_52 (σ : MS) (l4 l5 t0 t1 : Int32) : Option (Int32 × MS) :=
bd (mo_flag σ t1 t0) fun _ s1 =>
bd (mo_shows s1 l5 l4) fun _ s2 =>
if l4 = 0 then (mo_less_78 s2 (255 : Int32) l5) else (mo_less_78 s2 (65535 : Int32) l5)
def mo_less_19 (σ : MS) (l1 l2 l3 l4 l5 t0 t1 : Int32) : Option (Int32 × MS) :=
bd (mo_flag σ t1 t0) fun _ s1 =>
bd (mo_asSigned s1 l1 l4) fun v1 s2 =>
bd (mo_asSigned s2 l2 l4) fun v2 s3 =>
bd (mo_hasRoom s3 ((v1 - v2) - l3) l4) fun v3 s4 =>
if v3 = 0 then (mo_less_52 s4 l4 l5 (1 : Int32) (2 : Int32)) else (mo_less_52 s4 l4 l5 (0 : Int32) (2 : Int32))
def mo_less (σ : MS) (a1 a2 a3 a4 : Int32) : Option (Int32 × MS) :=
nm ((a1 - a2) - a3) fun v1 =>
if 0 ≤ v1 then (mo_less_19 σ a1 a2 a3 a4 v1 (0 : Int32) (1 : Int32)) else (mo_less_19 σ a1 a2 a3 a4 v1 (1 : Int32) (1 : Int32))
set_option maxHeartbeats 4000000 in
set_option maxRecDepth 100000 in
theorem b_mo_less_78 {X : Cx} (G : Gd X bc_mo_less 6 R_mod (some .int) (rmm 2 44)) (σ : MS) (t0 t1 : Int32) : J wdM X (QI wdM X) 6 78 [(0, .ref (eO (xE X) 0))] [.int t0, .int t1] σ (mo_less_78 σ t0 t1) := by
  unfold mo_less_78
  refine j_iand G d_mo_less_78 ?_
  exact j_iret G d_mo_less_79
set_option maxHeartbeats 4000000 in
set_option maxRecDepth 100000 in
theorem b_mo_less_52 {X : Cx} (G : Gd X bc_mo_less 6 R_mod (some .int) (rmm 2 44)) (σ : MS) (l4 l5 t0 t1 : Int32) : J wdM X (QI wdM X) 6 52 [(0, .ref (eO (xE X) 0)), (4, .int l4), (5, .int l5)] [.int t0, .int t1, .ref (eO (xE X) 0)] σ (mo_less_52 σ l4 l5 t0 t1) := by
  unfold mo_less_52
  refine j_Vv2 G k_mo_flag mw_mo_flag lk_mo_mo_flag rc_mod d_mo_less_52 rfl (Nat.le_of_ble_eq_true rfl) (fun _ s1 => ?_)
  refine j_aload_n 0 G d_mo_less_55 rfl rfl ?_
  refine j_iload 2 G d_mo_less_56 rfl ?_
  refine j_iload 1 G d_mo_less_58 rfl ?_
  refine j_Vv2 G k_mo_shows mw_mo_shows lk_mo_mo_shows rc_mod d_mo_less_60 rfl (Nat.le_of_ble_eq_true rfl) (fun _ s2 => ?_)
  refine j_iload 2 G d_mo_less_63 rfl ?_
  refine j_iload 1 G d_mo_less_65 rfl ?_
  refine j_ifeq G d_mo_less_67 (tgt := 75) rfl ?_ ?_
  · refine j_sipush G d_mo_less_75 cs_255 ?_
    refine j_sub [0] (L1 := [(0, .ref (eO (xE X) 0))]) rfl ?_
    exact b_mo_less_78 G s2 (255 : Int32) l5
  · refine j_ldc G d_mo_less_70 kc_mo_30 ?_
    refine j_goto G d_mo_less_72 (tgt := 78) rfl ?_
    refine j_sub [0] (L1 := [(0, .ref (eO (xE X) 0))]) rfl ?_
    exact b_mo_less_78 G s2 (65535 : Int32) l5
set_option maxHeartbeats 4000000 in
set_option maxRecDepth 100000 in
theorem b_mo_less_19 {X : Cx} (G : Gd X bc_mo_less 6 R_mod (some .int) (rmm 2 44)) (σ : MS) (l1 l2 l3 l4 l5 t0 t1 : Int32) : J wdM X (QI wdM X) 6 19 [(0, .ref (eO (xE X) 0)), (1, .int l1), (2, .int l2), (3, .int l3), (4, .int l4), (5, .int l5)] [.int t0, .int t1, .ref (eO (xE X) 0)] σ (mo_less_19 σ l1 l2 l3 l4 l5 t0 t1) := by
  unfold mo_less_19
  refine j_Vv2 G k_mo_flag mw_mo_flag lk_mo_mo_flag rc_mod d_mo_less_19 rfl (Nat.le_of_ble_eq_true rfl) (fun _ s1 => ?_)
  refine j_aload_n 0 G d_mo_less_22 rfl rfl ?_
  refine j_iconst G d_mo_less_23 ci_2 ?_
  refine j_iload_n 1 G d_mo_less_24 rfl rfl ?_
  refine j_iload 4 G d_mo_less_25 rfl ?_
  refine j_Si2 G k_mo_asSigned mw_mo_asSigned lk_mo_mo_asSigned d_mo_less_27 rfl (Nat.le_of_ble_eq_true rfl) (fun v1 s2 => ?_)
  refine j_iload_n 2 G d_mo_less_30 rfl rfl ?_
  refine j_iload 4 G d_mo_less_31 rfl ?_
  refine j_Si2 G k_mo_asSigned mw_mo_asSigned lk_mo_mo_asSigned d_mo_less_33 rfl (Nat.le_of_ble_eq_true rfl) (fun v2 s3 => ?_)
  refine j_isub G d_mo_less_36 ?_
  refine j_iload_n 3 G d_mo_less_37 rfl rfl ?_
  refine j_isub G d_mo_less_38 ?_
  refine j_iload 4 G d_mo_less_39 rfl ?_
  refine j_Si2 G k_mo_hasRoom mw_mo_hasRoom lk_mo_mo_hasRoom d_mo_less_41 rfl (Nat.le_of_ble_eq_true rfl) (fun v3 s4 => ?_)
  refine j_ifne G d_mo_less_44 (tgt := 51) rfl ?_ ?_
  · refine j_iconst G d_mo_less_51 ci_0 ?_
    refine j_sub [0, 4, 5] (L1 := [(0, .ref (eO (xE X) 0)), (4, .int l4), (5, .int l5)]) rfl ?_
    exact b_mo_less_52 G s4 l4 l5 (0 : Int32) (2 : Int32)
  · refine j_iconst G d_mo_less_47 ci_1 ?_
    refine j_goto G d_mo_less_48 (tgt := 52) rfl ?_
    refine j_sub [0, 4, 5] (L1 := [(0, .ref (eO (xE X) 0)), (4, .int l4), (5, .int l5)]) rfl ?_
    exact b_mo_less_52 G s4 l4 l5 (1 : Int32) (2 : Int32)
set_option maxHeartbeats 4000000 in
set_option maxRecDepth 100000 in
theorem b_mo_less {X : Cx} (G : Gd X bc_mo_less 6 R_mod (some .int) (rmm 2 44)) (σ : MS) (a1 a2 a3 a4 : Int32) : J wdM X (QI wdM X) 6 0 [(0, .ref (eO (xE X) 0)), (1, .int a1), (2, .int a2), (3, .int a3), (4, .int a4)] [] σ (mo_less σ a1 a2 a3 a4) := by
  unfold mo_less
  refine j_iload_n 1 G d_mo_less_0 rfl rfl ?_
  refine j_iload_n 2 G d_mo_less_1 rfl rfl ?_
  refine j_isub G d_mo_less_2 ?_
  refine j_iload_n 3 G d_mo_less_3 rfl rfl ?_
  refine j_isub G d_mo_less_4 ?_
  refine j_nm (fun v1 => ?_)
  refine j_istore [1, 2, 3, 4, 5, 0] (L1 := [(0, .ref (eO (xE X) 0)), (1, .int a1), (2, .int a2), (3, .int a3), (4, .int a4), (5, .int v1)]) G d_mo_less_5 (by decide) rfl ?_
  refine j_aload_n 0 G d_mo_less_7 rfl rfl ?_
  refine j_iconst G d_mo_less_8 ci_1 ?_
  refine j_iload 5 G d_mo_less_9 rfl ?_
  refine j_ifge G d_mo_less_11 (tgt := 18) rfl ?_ ?_
  · refine j_iconst G d_mo_less_18 ci_0 ?_
    exact b_mo_less_19 G σ a1 a2 a3 a4 v1 (0 : Int32) (1 : Int32)
  · refine j_iconst G d_mo_less_14 ci_1 ?_
    refine j_goto G d_mo_less_15 (tgt := 19) rfl ?_
    exact b_mo_less_19 G σ a1 a2 a3 a4 v1 (1 : Int32) (1 : Int32)
set_option maxHeartbeats 4000000 in
set_option maxRecDepth 100000 in
theorem k_mo_less {l : Launch} {E : Ev} {σ : MS} {a1 a2 a3 a4 : Int32} : CtI wdM l E y_mo_less bc_mo_less 6 (some .int) (rmm 2 44) [.ref (eO E 0), .int a1, .int a2, .int a3, .int a4] σ (mo_less σ a1 a2 a3 a4) := ct_i (by decide) (Nat.le_of_ble_eq_true rfl) (fun X hE _ G => by subst hE; exact b_mo_less G σ a1 a2 a3 a4)
def mo_byPostbyte_350 (σ : MS) (t0 : Int32) : Option (Int32 × MS) :=
some (t0, σ)
def mo_byPostbyte_327 (σ : MS) (l4 l5 : Int32) : Option (Int32 × MS) :=
nm (l4 &&& (65535 : Int32)) fun v1 =>
if l5 = 0 then (mo_byPostbyte_350 σ v1) else (bd (mo_readWord σ v1) fun v2 s1 =>
mo_byPostbyte_350 s1 v2)
def mo_byPostbyte_315 (σ : MS) (l3 l4 l5 : Int32) : Option (Int32 × MS) :=
if l3 = (15 : Int32) then (bd (mo_nextWord σ) fun v1 s1 =>
mo_byPostbyte_327 s1 v1 l5) else (mo_byPostbyte_327 σ l4 l5)
def mo_byPostbyte_291 (σ : MS) (l3 l4 l5 : Int32) : Option (Int32 × MS) :=
if l3 = (13 : Int32) then (bd (mo_nextWord σ) fun v1 s1 =>
nm ((mx_reg s1 6) + v1) fun v2 =>
mo_byPostbyte_315 s1 l3 v2 l5) else (mo_byPostbyte_315 σ l3 l4 l5)
def mo_byPostbyte_264 (σ : MS) (l3 l4 l5 : Int32) : Option (Int32 × MS) :=
if l3 = (12 : Int32) then (bd (mo_next σ) fun v1 s1 =>
bd (mo_signed s1 v1) fun v2 s2 =>
nm ((mx_reg s2 6) + v2) fun v3 =>
mo_byPostbyte_291 s2 l3 v3 l5) else (mo_byPostbyte_291 σ l3 l4 l5)
def mo_byPostbyte_249 (σ : MS) (l3 l4 l5 : Int32) : Option (Int32 × MS) :=
if l3 = (11 : Int32) then (bd (mo_d σ) fun v1 s1 =>
nm (l4 + v1) fun v2 =>
mo_byPostbyte_264 s1 l3 v2 l5) else (mo_byPostbyte_264 σ l3 l4 l5)
def mo_byPostbyte_234 (σ : MS) (l3 l4 l5 : Int32) : Option (Int32 × MS) :=
if l3 = (9 : Int32) then (bd (mo_nextWord σ) fun v1 s1 =>
nm (l4 + v1) fun v2 =>
mo_byPostbyte_249 s1 l3 v2 l5) else (mo_byPostbyte_249 σ l3 l4 l5)
def mo_byPostbyte_216 (σ : MS) (l3 l4 l5 : Int32) : Option (Int32 × MS) :=
if l3 = (8 : Int32) then (bd (mo_next σ) fun v1 s1 =>
bd (mo_signed s1 v1) fun v2 s2 =>
nm (l4 + v2) fun v3 =>
mo_byPostbyte_234 s2 l3 v3 l5) else (mo_byPostbyte_234 σ l3 l4 l5)
def mo_byPostbyte_210 (σ : MS) (l3 l5 t0 t1 : Int32) : Option (Int32 × MS) :=
bd (mo_signed σ t0) fun v1 s1 =>
nm (t1 + v1) fun v2 =>
mo_byPostbyte_216 s1 l3 v2 l5
def mo_byPostbyte_188 (σ : MS) (l3 l4 l5 : Int32) : Option (Int32 × MS) :=
if l3 = (5 : Int32) then (mo_byPostbyte_210 σ l3 l5 (mx_reg σ 1) l4) else (mo_byPostbyte_210 σ l3 l5 (mx_reg σ 0) l4)
def mo_byPostbyte_177 (σ : MS) (l3 l4 l5 : Int32) : Option (Int32 × MS) :=
if l3 = (5 : Int32) then (mo_byPostbyte_188 σ l3 l4 l5) else (if l3 = (6 : Int32) then (mo_byPostbyte_188 σ l3 l4 l5) else (mo_byPostbyte_216 σ l3 l4 l5))
def mo_byPostbyte_158 (σ : MS) (l2 l3 l4 l5 : Int32) : Option (Int32 × MS) :=
nm (((l4 - l3) + (1 : Int32)) &&& (65535 : Int32)) fun v1 =>
gd (okI l2 9) (
ns (my_reg σ (upd (mx_reg σ) l2.toNatClampNeg v1)) fun s1 =>
mo_byPostbyte_177 s1 l3 v1 l5)
def mo_byPostbyte_148 (σ : MS) (l2 l3 l4 l5 : Int32) : Option (Int32 × MS) :=
if l3 = (2 : Int32) then (mo_byPostbyte_158 σ l2 l3 l4 l5) else (if l3 = (3 : Int32) then (mo_byPostbyte_158 σ l2 l3 l4 l5) else (mo_byPostbyte_177 σ l3 l4 l5))
def mo_byPostbyte_116 (σ : MS) (l2 l3 l4 l5 t0 : Int32) : Option (Int32 × MS) :=
gd (isB t0) (
ns (my_und σ t0) fun s1 =>
if (mx_und s1) = 0 then (if (2 : Int32) ≤ l3 then (mo_byPostbyte_148 s1 l2 l3 l4 l5) else (nm (((l4 + l3) + (1 : Int32)) &&& (65535 : Int32)) fun v1 =>
gd (okI l2 9) (
ns (my_reg s1 (upd (mx_reg s1) l2.toNatClampNeg v1)) fun s2 =>
mo_byPostbyte_148 s2 l2 l3 l4 l5))) else (some ((0 : Int32), s1)))
def mo_byPostbyte_115 (σ : MS) (l2 l3 l4 l5 : Int32) : Option (Int32 × MS) :=
mo_byPostbyte_116 σ l2 l3 l4 l5 (0 : Int32)
def mo_byPostbyte_111 (σ : MS) (l2 l3 l4 l5 : Int32) : Option (Int32 × MS) :=
mo_byPostbyte_116 σ l2 l3 l4 l5 (1 : Int32)
def mo_byPostbyte_98 (σ : MS) (l1 l2 l3 l4 l5 : Int32) : Option (Int32 × MS) :=
if l3 = (15 : Int32) then (if l1 = (159 : Int32) then (mo_byPostbyte_115 σ l2 l3 l4 l5) else (mo_byPostbyte_111 σ l2 l3 l4 l5)) else (mo_byPostbyte_115 σ l2 l3 l4 l5)
def mo_byPostbyte_93 (σ : MS) (l1 l2 l3 l4 l5 : Int32) : Option (Int32 × MS) :=
if l5 = 0 then (mo_byPostbyte_98 σ l1 l2 l3 l4 l5) else (mo_byPostbyte_111 σ l2 l3 l4 l5)
def mo_byPostbyte_63 (σ : MS) (l1 l2 l3 l4 t0 : Int32) : Option (Int32 × MS) :=
if l3 = (7 : Int32) then (mo_byPostbyte_111 σ l2 l3 l4 t0) else (if l3 = (10 : Int32) then (mo_byPostbyte_111 σ l2 l3 l4 t0) else (if l3 = (14 : Int32) then (mo_byPostbyte_111 σ l2 l3 l4 t0) else (if l3 = 0 then (mo_byPostbyte_93 σ l1 l2 l3 l4 t0) else (if l3 = (2 : Int32) then (mo_byPostbyte_93 σ l1 l2 l3 l4 t0) else (mo_byPostbyte_98 σ l1 l2 l3 l4 t0)))))
def mo_byPostbyte (σ : MS) : Option (Int32 × MS) :=
bd (mo_next σ) fun v1 s1 =>
nm ((2 : Int32) + ((v1 >>> ((5 : Int32) &&& 31)) &&& (3 : Int32))) fun v2 =>
nm (v1 &&& (15 : Int32)) fun v3 =>
gd (okI v2 9) (
nm (mx_reg s1 v2.toNatClampNeg) fun v4 =>
if (128 : Int32) ≤ v1 then (if (v1 &&& (16 : Int32)) = 0 then (mo_byPostbyte_63 s1 v1 v2 v3 v4 (0 : Int32)) else (mo_byPostbyte_63 s1 v1 v2 v3 v4 (1 : Int32))) else (nm ((v4 + (v1 &&& (31 : Int32))) - ((2 : Int32) * (v1 &&& (16 : Int32)))) fun v5 =>
some ((v5 &&& (65535 : Int32)), s1)))
set_option maxHeartbeats 4000000 in
set_option maxRecDepth 100000 in
theorem b_mo_byPostbyte_350 {X : Cx} (G : Gd X bc_mo_byPostbyte 7 R_mod (some .int) (rmm 3 63)) (σ : MS) (t0 : Int32) : J wdM X (QI wdM X) 7 350 [(0, .ref (eO (xE X) 0))] [.int t0] σ (mo_byPostbyte_350 σ t0) := by
  unfold mo_byPostbyte_350
  exact j_iret G d_mo_byPostbyte_350
set_option maxHeartbeats 4000000 in
set_option maxRecDepth 100000 in
theorem b_mo_byPostbyte_327 {X : Cx} (G : Gd X bc_mo_byPostbyte 7 R_mod (some .int) (rmm 3 63)) (σ : MS) (l4 l5 : Int32) : J wdM X (QI wdM X) 7 327 [(0, .ref (eO (xE X) 0)), (4, .int l4), (5, .int l5)] [] σ (mo_byPostbyte_327 σ l4 l5) := by
  unfold mo_byPostbyte_327
  refine j_iload 1 G d_mo_byPostbyte_327 rfl ?_
  refine j_ldc G d_mo_byPostbyte_329 kc_mo_30 ?_
  refine j_iand G d_mo_byPostbyte_331 ?_
  refine j_nm (fun v1 => ?_)
  refine j_istore [1, 0, 2] (L1 := [(0, .ref (eO (xE X) 0)), (4, .int v1), (5, .int l5)]) G d_mo_byPostbyte_332 (by decide) rfl ?_
  refine j_iload 2 G d_mo_byPostbyte_334 rfl ?_
  refine j_ifeq G d_mo_byPostbyte_336 (tgt := 348) rfl ?_ ?_
  · refine j_iload 1 G d_mo_byPostbyte_348 rfl ?_
    refine j_sub [0] (L1 := [(0, .ref (eO (xE X) 0))]) rfl ?_
    exact b_mo_byPostbyte_350 G σ v1
  · refine j_aload_n 0 G d_mo_byPostbyte_339 rfl rfl ?_
    refine j_iload 1 G d_mo_byPostbyte_340 rfl ?_
    refine j_Vi1 G k_mo_readWord mw_mo_readWord lk_mo_mo_readWord rc_mod d_mo_byPostbyte_342 rfl (Nat.le_of_ble_eq_true rfl) (fun v2 s1 => ?_)
    refine j_goto G d_mo_byPostbyte_345 (tgt := 350) rfl ?_
    refine j_sub [0] (L1 := [(0, .ref (eO (xE X) 0))]) rfl ?_
    exact b_mo_byPostbyte_350 G s1 v2
set_option maxHeartbeats 4000000 in
set_option maxRecDepth 100000 in
theorem b_mo_byPostbyte_315 {X : Cx} (G : Gd X bc_mo_byPostbyte 7 R_mod (some .int) (rmm 3 63)) (σ : MS) (l3 l4 l5 : Int32) : J wdM X (QI wdM X) 7 315 [(0, .ref (eO (xE X) 0)), (3, .int l3), (4, .int l4), (5, .int l5)] [] σ (mo_byPostbyte_315 σ l3 l4 l5) := by
  unfold mo_byPostbyte_315
  refine j_iload_n 1 G d_mo_byPostbyte_315 rfl rfl ?_
  refine j_bipush G d_mo_byPostbyte_316 cb_15 ?_
  refine j_icne G d_mo_byPostbyte_318 (tgt := 327) rfl ?_ ?_
  · refine j_sub [0, 2, 3] (L1 := [(0, .ref (eO (xE X) 0)), (4, .int l4), (5, .int l5)]) rfl ?_
    exact b_mo_byPostbyte_327 G σ l4 l5
  · refine j_aload_n 0 G d_mo_byPostbyte_321 rfl rfl ?_
    refine j_Vi0 G k_mo_nextWord mw_mo_nextWord lk_mo_mo_nextWord rc_mod d_mo_byPostbyte_322 rfl (Nat.le_of_ble_eq_true rfl) (fun v1 s1 => ?_)
    refine j_istore [1, 0, 3] (L1 := [(0, .ref (eO (xE X) 0)), (4, .int v1), (5, .int l5)]) G d_mo_byPostbyte_325 (by decide) rfl ?_
    exact b_mo_byPostbyte_327 G s1 v1 l5
set_option maxHeartbeats 4000000 in
set_option maxRecDepth 100000 in
theorem b_mo_byPostbyte_291 {X : Cx} (G : Gd X bc_mo_byPostbyte 7 R_mod (some .int) (rmm 3 63)) (σ : MS) (l3 l4 l5 : Int32) : J wdM X (QI wdM X) 7 291 [(0, .ref (eO (xE X) 0)), (3, .int l3), (4, .int l4), (5, .int l5)] [] σ (mo_byPostbyte_291 σ l3 l4 l5) := by
  unfold mo_byPostbyte_291
  refine j_iload_n 1 G d_mo_byPostbyte_291 rfl rfl ?_
  refine j_bipush G d_mo_byPostbyte_292 cb_13 ?_
  refine j_icne G d_mo_byPostbyte_294 (tgt := 315) rfl ?_ ?_
  · exact b_mo_byPostbyte_315 G σ l3 l4 l5
  · refine j_aload_n 0 G d_mo_byPostbyte_297 rfl rfl ?_
    refine j_Vi0 G k_mo_nextWord mw_mo_nextWord lk_mo_mo_nextWord rc_mod d_mo_byPostbyte_298 rfl (Nat.le_of_ble_eq_true rfl) (fun v1 s1 => ?_)
    refine j_istore [1, 2, 4, 0] (L1 := [(0, .ref (eO (xE X) 0)), (3, .int l3), (5, .int l5), (6, .int v1)]) G d_mo_byPostbyte_301 (by decide) rfl ?_
    refine j_aload_n 0 G d_mo_byPostbyte_303 rfl rfl ?_
    refine g_mo_r G d_mo_byPostbyte_304 ?_
    refine j_bipush G d_mo_byPostbyte_307 cb_6 ?_
    refine alc_Mreg (j := 6) rfl rfl G d_mo_byPostbyte_309 ?_
    refine j_iload 3 G d_mo_byPostbyte_310 rfl ?_
    refine j_iadd G d_mo_byPostbyte_312 ?_
    refine j_nm (fun v2 => ?_)
    refine j_istore [1, 2, 0, 3] (L1 := [(0, .ref (eO (xE X) 0)), (3, .int l3), (4, .int v2), (5, .int l5)]) G d_mo_byPostbyte_313 (by decide) rfl ?_
    exact b_mo_byPostbyte_315 G s1 l3 v2 l5
set_option maxHeartbeats 4000000 in
set_option maxRecDepth 100000 in
theorem b_mo_byPostbyte_264 {X : Cx} (G : Gd X bc_mo_byPostbyte 7 R_mod (some .int) (rmm 3 63)) (σ : MS) (l3 l4 l5 : Int32) : J wdM X (QI wdM X) 7 264 [(0, .ref (eO (xE X) 0)), (3, .int l3), (4, .int l4), (5, .int l5)] [] σ (mo_byPostbyte_264 σ l3 l4 l5) := by
  unfold mo_byPostbyte_264
  refine j_iload_n 1 G d_mo_byPostbyte_264 rfl rfl ?_
  refine j_bipush G d_mo_byPostbyte_265 cb_12 ?_
  refine j_icne G d_mo_byPostbyte_267 (tgt := 291) rfl ?_ ?_
  · exact b_mo_byPostbyte_291 G σ l3 l4 l5
  · refine j_aload_n 0 G d_mo_byPostbyte_270 rfl rfl ?_
    refine j_Vi0 G k_mo_next mw_mo_next lk_mo_mo_next rc_mod d_mo_byPostbyte_271 rfl (Nat.le_of_ble_eq_true rfl) (fun v1 s1 => ?_)
    refine j_Si1 G k_mo_signed mw_mo_signed lk_mo_mo_signed d_mo_byPostbyte_274 rfl (Nat.le_of_ble_eq_true rfl) (fun v2 s2 => ?_)
    refine j_istore [1, 2, 4, 0] (L1 := [(0, .ref (eO (xE X) 0)), (3, .int l3), (5, .int l5), (6, .int v2)]) G d_mo_byPostbyte_277 (by decide) rfl ?_
    refine j_aload_n 0 G d_mo_byPostbyte_279 rfl rfl ?_
    refine g_mo_r G d_mo_byPostbyte_280 ?_
    refine j_bipush G d_mo_byPostbyte_283 cb_6 ?_
    refine alc_Mreg (j := 6) rfl rfl G d_mo_byPostbyte_285 ?_
    refine j_iload 3 G d_mo_byPostbyte_286 rfl ?_
    refine j_iadd G d_mo_byPostbyte_288 ?_
    refine j_nm (fun v3 => ?_)
    refine j_istore [1, 2, 0, 3] (L1 := [(0, .ref (eO (xE X) 0)), (3, .int l3), (4, .int v3), (5, .int l5)]) G d_mo_byPostbyte_289 (by decide) rfl ?_
    exact b_mo_byPostbyte_291 G s2 l3 v3 l5
set_option maxHeartbeats 4000000 in
set_option maxRecDepth 100000 in
theorem b_mo_byPostbyte_249 {X : Cx} (G : Gd X bc_mo_byPostbyte 7 R_mod (some .int) (rmm 3 63)) (σ : MS) (l3 l4 l5 : Int32) : J wdM X (QI wdM X) 7 249 [(0, .ref (eO (xE X) 0)), (3, .int l3), (4, .int l4), (5, .int l5)] [] σ (mo_byPostbyte_249 σ l3 l4 l5) := by
  unfold mo_byPostbyte_249
  refine j_iload_n 1 G d_mo_byPostbyte_249 rfl rfl ?_
  refine j_bipush G d_mo_byPostbyte_250 cb_11 ?_
  refine j_icne G d_mo_byPostbyte_252 (tgt := 264) rfl ?_ ?_
  · exact b_mo_byPostbyte_264 G σ l3 l4 l5
  · refine j_iload 2 G d_mo_byPostbyte_255 rfl ?_
    refine j_aload_n 0 G d_mo_byPostbyte_257 rfl rfl ?_
    refine j_Vi0 G k_mo_d mw_mo_d lk_mo_mo_d rc_mod d_mo_byPostbyte_258 rfl (Nat.le_of_ble_eq_true rfl) (fun v1 s1 => ?_)
    refine j_iadd G d_mo_byPostbyte_261 ?_
    refine j_nm (fun v2 => ?_)
    refine j_istore [1, 2, 0, 3] (L1 := [(0, .ref (eO (xE X) 0)), (3, .int l3), (4, .int v2), (5, .int l5)]) G d_mo_byPostbyte_262 (by decide) rfl ?_
    exact b_mo_byPostbyte_264 G s1 l3 v2 l5
set_option maxHeartbeats 4000000 in
set_option maxRecDepth 100000 in
theorem b_mo_byPostbyte_234 {X : Cx} (G : Gd X bc_mo_byPostbyte 7 R_mod (some .int) (rmm 3 63)) (σ : MS) (l3 l4 l5 : Int32) : J wdM X (QI wdM X) 7 234 [(0, .ref (eO (xE X) 0)), (3, .int l3), (4, .int l4), (5, .int l5)] [] σ (mo_byPostbyte_234 σ l3 l4 l5) := by
  unfold mo_byPostbyte_234
  refine j_iload_n 1 G d_mo_byPostbyte_234 rfl rfl ?_
  refine j_bipush G d_mo_byPostbyte_235 cb_9 ?_
  refine j_icne G d_mo_byPostbyte_237 (tgt := 249) rfl ?_ ?_
  · exact b_mo_byPostbyte_249 G σ l3 l4 l5
  · refine j_iload 2 G d_mo_byPostbyte_240 rfl ?_
    refine j_aload_n 0 G d_mo_byPostbyte_242 rfl rfl ?_
    refine j_Vi0 G k_mo_nextWord mw_mo_nextWord lk_mo_mo_nextWord rc_mod d_mo_byPostbyte_243 rfl (Nat.le_of_ble_eq_true rfl) (fun v1 s1 => ?_)
    refine j_iadd G d_mo_byPostbyte_246 ?_
    refine j_nm (fun v2 => ?_)
    refine j_istore [1, 2, 0, 3] (L1 := [(0, .ref (eO (xE X) 0)), (3, .int l3), (4, .int v2), (5, .int l5)]) G d_mo_byPostbyte_247 (by decide) rfl ?_
    exact b_mo_byPostbyte_249 G s1 l3 v2 l5
set_option maxHeartbeats 4000000 in
set_option maxRecDepth 100000 in
theorem b_mo_byPostbyte_216 {X : Cx} (G : Gd X bc_mo_byPostbyte 7 R_mod (some .int) (rmm 3 63)) (σ : MS) (l3 l4 l5 : Int32) : J wdM X (QI wdM X) 7 216 [(0, .ref (eO (xE X) 0)), (3, .int l3), (4, .int l4), (5, .int l5)] [] σ (mo_byPostbyte_216 σ l3 l4 l5) := by
  unfold mo_byPostbyte_216
  refine j_iload_n 1 G d_mo_byPostbyte_216 rfl rfl ?_
  refine j_bipush G d_mo_byPostbyte_217 cb_8 ?_
  refine j_icne G d_mo_byPostbyte_219 (tgt := 234) rfl ?_ ?_
  · exact b_mo_byPostbyte_234 G σ l3 l4 l5
  · refine j_iload 2 G d_mo_byPostbyte_222 rfl ?_
    refine j_aload_n 0 G d_mo_byPostbyte_224 rfl rfl ?_
    refine j_Vi0 G k_mo_next mw_mo_next lk_mo_mo_next rc_mod d_mo_byPostbyte_225 rfl (Nat.le_of_ble_eq_true rfl) (fun v1 s1 => ?_)
    refine j_Si1 G k_mo_signed mw_mo_signed lk_mo_mo_signed d_mo_byPostbyte_228 rfl (Nat.le_of_ble_eq_true rfl) (fun v2 s2 => ?_)
    refine j_iadd G d_mo_byPostbyte_231 ?_
    refine j_nm (fun v3 => ?_)
    refine j_istore [1, 2, 0, 3] (L1 := [(0, .ref (eO (xE X) 0)), (3, .int l3), (4, .int v3), (5, .int l5)]) G d_mo_byPostbyte_232 (by decide) rfl ?_
    exact b_mo_byPostbyte_234 G s2 l3 v3 l5
set_option maxHeartbeats 4000000 in
set_option maxRecDepth 100000 in
theorem b_mo_byPostbyte_210 {X : Cx} (G : Gd X bc_mo_byPostbyte 7 R_mod (some .int) (rmm 3 63)) (σ : MS) (l3 l5 t0 t1 : Int32) : J wdM X (QI wdM X) 7 210 [(0, .ref (eO (xE X) 0)), (3, .int l3), (5, .int l5)] [.int t0, .int t1] σ (mo_byPostbyte_210 σ l3 l5 t0 t1) := by
  unfold mo_byPostbyte_210
  refine j_Si1 G k_mo_signed mw_mo_signed lk_mo_mo_signed d_mo_byPostbyte_210 rfl (Nat.le_of_ble_eq_true rfl) (fun v1 s1 => ?_)
  refine j_iadd G d_mo_byPostbyte_213 ?_
  refine j_nm (fun v2 => ?_)
  refine j_istore [1, 2, 0, 3] (L1 := [(0, .ref (eO (xE X) 0)), (3, .int l3), (4, .int v2), (5, .int l5)]) G d_mo_byPostbyte_214 (by decide) rfl ?_
  exact b_mo_byPostbyte_216 G s1 l3 v2 l5
set_option maxHeartbeats 4000000 in
set_option maxRecDepth 100000 in
theorem b_mo_byPostbyte_188 {X : Cx} (G : Gd X bc_mo_byPostbyte 7 R_mod (some .int) (rmm 3 63)) (σ : MS) (l3 l4 l5 : Int32) : J wdM X (QI wdM X) 7 188 [(0, .ref (eO (xE X) 0)), (3, .int l3), (4, .int l4), (5, .int l5)] [] σ (mo_byPostbyte_188 σ l3 l4 l5) := by
  unfold mo_byPostbyte_188
  refine j_iload 2 G d_mo_byPostbyte_188 rfl ?_
  refine j_iload_n 1 G d_mo_byPostbyte_190 rfl rfl ?_
  refine j_iconst G d_mo_byPostbyte_191 ci_5 ?_
  refine j_icne G d_mo_byPostbyte_192 (tgt := 204) rfl ?_ ?_
  · refine j_aload_n 0 G d_mo_byPostbyte_204 rfl rfl ?_
    refine g_mo_r G d_mo_byPostbyte_205 ?_
    refine j_iconst G d_mo_byPostbyte_208 ci_0 ?_
    refine alc_Mreg (j := 0) rfl rfl G d_mo_byPostbyte_209 ?_
    refine j_sub [0, 1, 3] (L1 := [(0, .ref (eO (xE X) 0)), (3, .int l3), (5, .int l5)]) rfl ?_
    exact b_mo_byPostbyte_210 G σ l3 l5 (mx_reg σ 0) l4
  · refine j_aload_n 0 G d_mo_byPostbyte_195 rfl rfl ?_
    refine g_mo_r G d_mo_byPostbyte_196 ?_
    refine j_iconst G d_mo_byPostbyte_199 ci_1 ?_
    refine alc_Mreg (j := 1) rfl rfl G d_mo_byPostbyte_200 ?_
    refine j_goto G d_mo_byPostbyte_201 (tgt := 210) rfl ?_
    refine j_sub [0, 1, 3] (L1 := [(0, .ref (eO (xE X) 0)), (3, .int l3), (5, .int l5)]) rfl ?_
    exact b_mo_byPostbyte_210 G σ l3 l5 (mx_reg σ 1) l4
set_option maxHeartbeats 4000000 in
set_option maxRecDepth 100000 in
theorem b_mo_byPostbyte_177 {X : Cx} (G : Gd X bc_mo_byPostbyte 7 R_mod (some .int) (rmm 3 63)) (σ : MS) (l3 l4 l5 : Int32) : J wdM X (QI wdM X) 7 177 [(0, .ref (eO (xE X) 0)), (3, .int l3), (4, .int l4), (5, .int l5)] [] σ (mo_byPostbyte_177 σ l3 l4 l5) := by
  unfold mo_byPostbyte_177
  refine j_iload_n 1 G d_mo_byPostbyte_177 rfl rfl ?_
  refine j_iconst G d_mo_byPostbyte_178 ci_5 ?_
  refine j_iceq G d_mo_byPostbyte_179 (tgt := 188) rfl ?_ ?_
  · exact b_mo_byPostbyte_188 G σ l3 l4 l5
  · refine j_iload_n 1 G d_mo_byPostbyte_182 rfl rfl ?_
    refine j_bipush G d_mo_byPostbyte_183 cb_6 ?_
    refine j_icne G d_mo_byPostbyte_185 (tgt := 216) rfl ?_ ?_
    · exact b_mo_byPostbyte_216 G σ l3 l4 l5
    · exact b_mo_byPostbyte_188 G σ l3 l4 l5
set_option maxHeartbeats 4000000 in
set_option maxRecDepth 100000 in
theorem b_mo_byPostbyte_158 {X : Cx} (G : Gd X bc_mo_byPostbyte 7 R_mod (some .int) (rmm 3 63)) (σ : MS) (l2 l3 l4 l5 : Int32) : J wdM X (QI wdM X) 7 158 [(0, .ref (eO (xE X) 0)), (2, .int l2), (3, .int l3), (4, .int l4), (5, .int l5)] [] σ (mo_byPostbyte_158 σ l2 l3 l4 l5) := by
  unfold mo_byPostbyte_158
  refine j_iload 3 G d_mo_byPostbyte_158 rfl ?_
  refine j_iload_n 2 G d_mo_byPostbyte_160 rfl rfl ?_
  refine j_isub G d_mo_byPostbyte_161 ?_
  refine j_iconst G d_mo_byPostbyte_162 ci_1 ?_
  refine j_iadd G d_mo_byPostbyte_163 ?_
  refine j_ldc G d_mo_byPostbyte_164 kc_mo_30 ?_
  refine j_iand G d_mo_byPostbyte_166 ?_
  refine j_nm (fun v1 => ?_)
  refine j_istore [1, 2, 3, 0, 4] (L1 := [(0, .ref (eO (xE X) 0)), (2, .int l2), (3, .int l3), (4, .int v1), (5, .int l5)]) G d_mo_byPostbyte_167 (by decide) rfl ?_
  refine j_aload_n 0 G d_mo_byPostbyte_169 rfl rfl ?_
  refine g_mo_r G d_mo_byPostbyte_170 ?_
  refine j_iload_n 1 G d_mo_byPostbyte_173 rfl rfl ?_
  refine j_iload 3 G d_mo_byPostbyte_174 rfl ?_
  refine as_Mreg G d_mo_byPostbyte_176 ?_
  refine j_ns (fun s1 => ?_)
  refine j_sub [0, 2, 3, 4] (L1 := [(0, .ref (eO (xE X) 0)), (3, .int l3), (4, .int v1), (5, .int l5)]) rfl ?_
  exact b_mo_byPostbyte_177 G s1 l3 v1 l5
set_option maxHeartbeats 4000000 in
set_option maxRecDepth 100000 in
theorem b_mo_byPostbyte_148 {X : Cx} (G : Gd X bc_mo_byPostbyte 7 R_mod (some .int) (rmm 3 63)) (σ : MS) (l2 l3 l4 l5 : Int32) : J wdM X (QI wdM X) 7 148 [(0, .ref (eO (xE X) 0)), (2, .int l2), (3, .int l3), (4, .int l4), (5, .int l5)] [] σ (mo_byPostbyte_148 σ l2 l3 l4 l5) := by
  unfold mo_byPostbyte_148
  refine j_iload_n 2 G d_mo_byPostbyte_148 rfl rfl ?_
  refine j_iconst G d_mo_byPostbyte_149 ci_2 ?_
  refine j_iceq G d_mo_byPostbyte_150 (tgt := 158) rfl ?_ ?_
  · exact b_mo_byPostbyte_158 G σ l2 l3 l4 l5
  · refine j_iload_n 2 G d_mo_byPostbyte_153 rfl rfl ?_
    refine j_iconst G d_mo_byPostbyte_154 ci_3 ?_
    refine j_icne G d_mo_byPostbyte_155 (tgt := 177) rfl ?_ ?_
    · refine j_sub [0, 2, 3, 4] (L1 := [(0, .ref (eO (xE X) 0)), (3, .int l3), (4, .int l4), (5, .int l5)]) rfl ?_
      exact b_mo_byPostbyte_177 G σ l3 l4 l5
    · exact b_mo_byPostbyte_158 G σ l2 l3 l4 l5
set_option maxHeartbeats 4000000 in
set_option maxRecDepth 100000 in
theorem b_mo_byPostbyte_116 {X : Cx} (G : Gd X bc_mo_byPostbyte 7 R_mod (some .int) (rmm 3 63)) (σ : MS) (l2 l3 l4 l5 t0 : Int32) : J wdM X (QI wdM X) 7 116 [(0, .ref (eO (xE X) 0)), (2, .int l2), (3, .int l3), (4, .int l4), (5, .int l5)] [.int t0, .ref (eO (xE X) 0)] σ (mo_byPostbyte_116 σ l2 l3 l4 l5 t0) := by
  unfold mo_byPostbyte_116
  refine p_mo_undefined G d_mo_byPostbyte_116 ?_
  refine j_ns (fun s1 => ?_)
  refine j_aload_n 0 G d_mo_byPostbyte_119 rfl rfl ?_
  refine g_mo_undefined G d_mo_byPostbyte_120 ?_
  refine j_ifeq G d_mo_byPostbyte_123 (tgt := 128) rfl ?_ ?_
  · refine j_iload_n 2 G d_mo_byPostbyte_128 rfl rfl ?_
    refine j_iconst G d_mo_byPostbyte_129 ci_2 ?_
    refine j_icge G d_mo_byPostbyte_130 (tgt := 148) rfl ?_ ?_
    · exact b_mo_byPostbyte_148 G s1 l2 l3 l4 l5
    · refine j_aload_n 0 G d_mo_byPostbyte_133 rfl rfl ?_
      refine g_mo_r G d_mo_byPostbyte_134 ?_
      refine j_iload_n 1 G d_mo_byPostbyte_137 rfl rfl ?_
      refine j_iload 3 G d_mo_byPostbyte_138 rfl ?_
      refine j_iload_n 2 G d_mo_byPostbyte_140 rfl rfl ?_
      refine j_iadd G d_mo_byPostbyte_141 ?_
      refine j_iconst G d_mo_byPostbyte_142 ci_1 ?_
      refine j_iadd G d_mo_byPostbyte_143 ?_
      refine j_ldc G d_mo_byPostbyte_144 kc_mo_30 ?_
      refine j_iand G d_mo_byPostbyte_146 ?_
      refine j_nm (fun v1 => ?_)
      refine as_Mreg G d_mo_byPostbyte_147 ?_
      refine j_ns (fun s2 => ?_)
      exact b_mo_byPostbyte_148 G s2 l2 l3 l4 l5
  · refine j_iconst G d_mo_byPostbyte_126 ci_0 ?_
    exact j_iret G d_mo_byPostbyte_127
set_option maxHeartbeats 4000000 in
set_option maxRecDepth 100000 in
theorem b_mo_byPostbyte_115 {X : Cx} (G : Gd X bc_mo_byPostbyte 7 R_mod (some .int) (rmm 3 63)) (σ : MS) (l2 l3 l4 l5 : Int32) : J wdM X (QI wdM X) 7 115 [(0, .ref (eO (xE X) 0)), (2, .int l2), (3, .int l3), (4, .int l4), (5, .int l5)] [.ref (eO (xE X) 0)] σ (mo_byPostbyte_115 σ l2 l3 l4 l5) := by
  unfold mo_byPostbyte_115
  refine j_iconst G d_mo_byPostbyte_115 ci_0 ?_
  exact b_mo_byPostbyte_116 G σ l2 l3 l4 l5 (0 : Int32)
set_option maxHeartbeats 4000000 in
set_option maxRecDepth 100000 in
theorem b_mo_byPostbyte_111 {X : Cx} (G : Gd X bc_mo_byPostbyte 7 R_mod (some .int) (rmm 3 63)) (σ : MS) (l2 l3 l4 l5 : Int32) : J wdM X (QI wdM X) 7 111 [(0, .ref (eO (xE X) 0)), (2, .int l2), (3, .int l3), (4, .int l4), (5, .int l5)] [.ref (eO (xE X) 0)] σ (mo_byPostbyte_111 σ l2 l3 l4 l5) := by
  unfold mo_byPostbyte_111
  refine j_iconst G d_mo_byPostbyte_111 ci_1 ?_
  refine j_goto G d_mo_byPostbyte_112 (tgt := 116) rfl ?_
  exact b_mo_byPostbyte_116 G σ l2 l3 l4 l5 (1 : Int32)
set_option maxHeartbeats 4000000 in
set_option maxRecDepth 100000 in
theorem b_mo_byPostbyte_98 {X : Cx} (G : Gd X bc_mo_byPostbyte 7 R_mod (some .int) (rmm 3 63)) (σ : MS) (l1 l2 l3 l4 l5 : Int32) : J wdM X (QI wdM X) 7 98 [(0, .ref (eO (xE X) 0)), (1, .int l1), (2, .int l2), (3, .int l3), (4, .int l4), (5, .int l5)] [.ref (eO (xE X) 0)] σ (mo_byPostbyte_98 σ l1 l2 l3 l4 l5) := by
  unfold mo_byPostbyte_98
  refine j_iload_n 3 G d_mo_byPostbyte_98 rfl rfl ?_
  refine j_bipush G d_mo_byPostbyte_99 cb_15 ?_
  refine j_icne G d_mo_byPostbyte_101 (tgt := 115) rfl ?_ ?_
  · refine j_sub [0, 2, 3, 4, 5] (L1 := [(0, .ref (eO (xE X) 0)), (2, .int l2), (3, .int l3), (4, .int l4), (5, .int l5)]) rfl ?_
    exact b_mo_byPostbyte_115 G σ l2 l3 l4 l5
  · refine j_iload_n 1 G d_mo_byPostbyte_104 rfl rfl ?_
    refine j_sipush G d_mo_byPostbyte_105 cs_159 ?_
    refine j_iceq G d_mo_byPostbyte_108 (tgt := 115) rfl ?_ ?_
    · refine j_sub [0, 2, 3, 4, 5] (L1 := [(0, .ref (eO (xE X) 0)), (2, .int l2), (3, .int l3), (4, .int l4), (5, .int l5)]) rfl ?_
      exact b_mo_byPostbyte_115 G σ l2 l3 l4 l5
    · refine j_sub [0, 2, 3, 4, 5] (L1 := [(0, .ref (eO (xE X) 0)), (2, .int l2), (3, .int l3), (4, .int l4), (5, .int l5)]) rfl ?_
      exact b_mo_byPostbyte_111 G σ l2 l3 l4 l5
set_option maxHeartbeats 4000000 in
set_option maxRecDepth 100000 in
theorem b_mo_byPostbyte_93 {X : Cx} (G : Gd X bc_mo_byPostbyte 7 R_mod (some .int) (rmm 3 63)) (σ : MS) (l1 l2 l3 l4 l5 : Int32) : J wdM X (QI wdM X) 7 93 [(0, .ref (eO (xE X) 0)), (1, .int l1), (2, .int l2), (3, .int l3), (4, .int l4), (5, .int l5)] [.ref (eO (xE X) 0)] σ (mo_byPostbyte_93 σ l1 l2 l3 l4 l5) := by
  unfold mo_byPostbyte_93
  refine j_iload 5 G d_mo_byPostbyte_93 rfl ?_
  refine j_ifne G d_mo_byPostbyte_95 (tgt := 111) rfl ?_ ?_
  · refine j_sub [0, 2, 3, 4, 5] (L1 := [(0, .ref (eO (xE X) 0)), (2, .int l2), (3, .int l3), (4, .int l4), (5, .int l5)]) rfl ?_
    exact b_mo_byPostbyte_111 G σ l2 l3 l4 l5
  · exact b_mo_byPostbyte_98 G σ l1 l2 l3 l4 l5
set_option maxHeartbeats 4000000 in
set_option maxRecDepth 100000 in
theorem b_mo_byPostbyte_63 {X : Cx} (G : Gd X bc_mo_byPostbyte 7 R_mod (some .int) (rmm 3 63)) (σ : MS) (l1 l2 l3 l4 t0 : Int32) : J wdM X (QI wdM X) 7 63 [(0, .ref (eO (xE X) 0)), (1, .int l1), (2, .int l2), (3, .int l3), (4, .int l4)] [.int t0] σ (mo_byPostbyte_63 σ l1 l2 l3 l4 t0) := by
  unfold mo_byPostbyte_63
  refine j_istore [1, 2, 3, 4, 5, 0] (L1 := [(0, .ref (eO (xE X) 0)), (1, .int l1), (2, .int l2), (3, .int l3), (4, .int l4), (5, .int t0)]) G d_mo_byPostbyte_63 (by decide) rfl ?_
  refine j_aload_n 0 G d_mo_byPostbyte_65 rfl rfl ?_
  refine j_iload_n 3 G d_mo_byPostbyte_66 rfl rfl ?_
  refine j_bipush G d_mo_byPostbyte_67 cb_7 ?_
  refine j_iceq G d_mo_byPostbyte_69 (tgt := 111) rfl ?_ ?_
  · refine j_sub [0, 2, 3, 4, 5] (L1 := [(0, .ref (eO (xE X) 0)), (2, .int l2), (3, .int l3), (4, .int l4), (5, .int t0)]) rfl ?_
    exact b_mo_byPostbyte_111 G σ l2 l3 l4 t0
  · refine j_iload_n 3 G d_mo_byPostbyte_72 rfl rfl ?_
    refine j_bipush G d_mo_byPostbyte_73 cb_10 ?_
    refine j_iceq G d_mo_byPostbyte_75 (tgt := 111) rfl ?_ ?_
    · refine j_sub [0, 2, 3, 4, 5] (L1 := [(0, .ref (eO (xE X) 0)), (2, .int l2), (3, .int l3), (4, .int l4), (5, .int t0)]) rfl ?_
      exact b_mo_byPostbyte_111 G σ l2 l3 l4 t0
    · refine j_iload_n 3 G d_mo_byPostbyte_78 rfl rfl ?_
      refine j_bipush G d_mo_byPostbyte_79 cb_14 ?_
      refine j_iceq G d_mo_byPostbyte_81 (tgt := 111) rfl ?_ ?_
      · refine j_sub [0, 2, 3, 4, 5] (L1 := [(0, .ref (eO (xE X) 0)), (2, .int l2), (3, .int l3), (4, .int l4), (5, .int t0)]) rfl ?_
        exact b_mo_byPostbyte_111 G σ l2 l3 l4 t0
      · refine j_iload_n 3 G d_mo_byPostbyte_84 rfl rfl ?_
        refine j_ifeq G d_mo_byPostbyte_85 (tgt := 93) rfl ?_ ?_
        · exact b_mo_byPostbyte_93 G σ l1 l2 l3 l4 t0
        · refine j_iload_n 3 G d_mo_byPostbyte_88 rfl rfl ?_
          refine j_iconst G d_mo_byPostbyte_89 ci_2 ?_
          refine j_icne G d_mo_byPostbyte_90 (tgt := 98) rfl ?_ ?_
          · exact b_mo_byPostbyte_98 G σ l1 l2 l3 l4 t0
          · exact b_mo_byPostbyte_93 G σ l1 l2 l3 l4 t0
set_option maxHeartbeats 4000000 in
set_option maxRecDepth 100000 in
theorem b_mo_byPostbyte {X : Cx} (G : Gd X bc_mo_byPostbyte 7 R_mod (some .int) (rmm 3 63)) (σ : MS) : J wdM X (QI wdM X) 7 0 [(0, .ref (eO (xE X) 0))] [] σ (mo_byPostbyte σ ) := by
  unfold mo_byPostbyte
  refine j_aload_n 0 G d_mo_byPostbyte_0 rfl rfl ?_
  refine j_Vi0 G k_mo_next mw_mo_next lk_mo_mo_next rc_mod d_mo_byPostbyte_1 rfl (Nat.le_of_ble_eq_true rfl) (fun v1 s1 => ?_)
  refine j_istore_n [1, 0] (L1 := [(0, .ref (eO (xE X) 0)), (1, .int v1)]) G d_mo_byPostbyte_4 rfl (by decide) rfl ?_
  refine j_iconst G d_mo_byPostbyte_5 ci_2 ?_
  refine j_iload_n 1 G d_mo_byPostbyte_6 rfl rfl ?_
  refine j_iconst G d_mo_byPostbyte_7 ci_5 ?_
  refine j_ishr G d_mo_byPostbyte_8 ?_
  refine j_iconst G d_mo_byPostbyte_9 ci_3 ?_
  refine j_iand G d_mo_byPostbyte_10 ?_
  refine j_iadd G d_mo_byPostbyte_11 ?_
  refine j_nm (fun v2 => ?_)
  refine j_istore_n [1, 2, 0] (L1 := [(0, .ref (eO (xE X) 0)), (1, .int v1), (2, .int v2)]) G d_mo_byPostbyte_12 rfl (by decide) rfl ?_
  refine j_iload_n 1 G d_mo_byPostbyte_13 rfl rfl ?_
  refine j_bipush G d_mo_byPostbyte_14 cb_15 ?_
  refine j_iand G d_mo_byPostbyte_16 ?_
  refine j_nm (fun v3 => ?_)
  refine j_istore_n [1, 2, 3, 0] (L1 := [(0, .ref (eO (xE X) 0)), (1, .int v1), (2, .int v2), (3, .int v3)]) G d_mo_byPostbyte_17 rfl (by decide) rfl ?_
  refine j_aload_n 0 G d_mo_byPostbyte_18 rfl rfl ?_
  refine g_mo_r G d_mo_byPostbyte_19 ?_
  refine j_iload_n 2 G d_mo_byPostbyte_22 rfl rfl ?_
  refine al_Mreg G d_mo_byPostbyte_23 ?_
  refine j_nm (fun v4 => ?_)
  refine j_istore [1, 2, 3, 4, 0] (L1 := [(0, .ref (eO (xE X) 0)), (1, .int v1), (2, .int v2), (3, .int v3), (4, .int v4)]) G d_mo_byPostbyte_24 (by decide) rfl ?_
  refine j_iload_n 1 G d_mo_byPostbyte_26 rfl rfl ?_
  refine j_sipush G d_mo_byPostbyte_27 cs_128 ?_
  refine j_icge G d_mo_byPostbyte_30 (tgt := 51) rfl ?_ ?_
  · refine j_iload_n 1 G d_mo_byPostbyte_51 rfl rfl ?_
    refine j_bipush G d_mo_byPostbyte_52 cb_16 ?_
    refine j_iand G d_mo_byPostbyte_54 ?_
    refine j_ifeq G d_mo_byPostbyte_55 (tgt := 62) rfl ?_ ?_
    · refine j_iconst G d_mo_byPostbyte_62 ci_0 ?_
      exact b_mo_byPostbyte_63 G s1 v1 v2 v3 v4 (0 : Int32)
    · refine j_iconst G d_mo_byPostbyte_58 ci_1 ?_
      refine j_goto G d_mo_byPostbyte_59 (tgt := 63) rfl ?_
      exact b_mo_byPostbyte_63 G s1 v1 v2 v3 v4 (1 : Int32)
  · refine j_iload 4 G d_mo_byPostbyte_33 rfl ?_
    refine j_iload_n 1 G d_mo_byPostbyte_35 rfl rfl ?_
    refine j_bipush G d_mo_byPostbyte_36 cb_31 ?_
    refine j_iand G d_mo_byPostbyte_38 ?_
    refine j_iadd G d_mo_byPostbyte_39 ?_
    refine j_iconst G d_mo_byPostbyte_40 ci_2 ?_
    refine j_iload_n 1 G d_mo_byPostbyte_41 rfl rfl ?_
    refine j_bipush G d_mo_byPostbyte_42 cb_16 ?_
    refine j_iand G d_mo_byPostbyte_44 ?_
    refine j_imul G d_mo_byPostbyte_45 ?_
    refine j_isub G d_mo_byPostbyte_46 ?_
    refine j_nm (fun v5 => ?_)
    refine j_ldc G d_mo_byPostbyte_47 kc_mo_30 ?_
    refine j_iand G d_mo_byPostbyte_49 ?_
    exact j_iret G d_mo_byPostbyte_50
set_option maxHeartbeats 4000000 in
set_option maxRecDepth 100000 in
theorem k_mo_byPostbyte {l : Launch} {E : Ev} {σ : MS} : CtI wdM l E y_mo_byPostbyte bc_mo_byPostbyte 7 (some .int) (rmm 3 63) [.ref (eO E 0)] σ (mo_byPostbyte σ ) := ct_i (by decide) (Nat.le_of_ble_eq_true rfl) (fun X hE _ G => by subst hE; exact b_mo_byPostbyte G σ )
def mo_address_38 (σ : MS) (t0 : Int32) : Option (Int32 × MS) :=
some (t0, σ)
def mo_address (σ : MS) (a1 : Int32) : Option (Int32 × MS) :=
if a1 = (2 : Int32) then (bd (mo_byPostbyte σ) fun v3 s3 =>
some (v3, s3)) else (if a1 = (1 : Int32) then (bd (mo_next σ) fun v2 s2 =>
mo_address_38 s2 (((256 : Int32) * (mx_reg σ 7)) + v2)) else (bd (mo_nextWord σ) fun v1 s1 =>
mo_address_38 s1 v1))
set_option maxHeartbeats 4000000 in
set_option maxRecDepth 100000 in
theorem b_mo_address_38 {X : Cx} (G : Gd X bc_mo_address 2 R_mod (some .int) (rmm 4 89)) (σ : MS) (t0 : Int32) : J wdM X (QI wdM X) 2 38 [(0, .ref (eO (xE X) 0))] [.int t0] σ (mo_address_38 σ t0) := by
  unfold mo_address_38
  exact j_iret G d_mo_address_38
set_option maxHeartbeats 4000000 in
set_option maxRecDepth 100000 in
theorem b_mo_address {X : Cx} (G : Gd X bc_mo_address 2 R_mod (some .int) (rmm 4 89)) (σ : MS) (a1 : Int32) : J wdM X (QI wdM X) 2 0 [(0, .ref (eO (xE X) 0)), (1, .int a1)] [] σ (mo_address σ a1) := by
  unfold mo_address
  refine j_iload_n 1 G d_mo_address_0 rfl rfl ?_
  refine j_iconst G d_mo_address_1 ci_2 ?_
  refine j_icne G d_mo_address_2 (tgt := 10) rfl ?_ ?_
  · refine j_iload_n 1 G d_mo_address_10 rfl rfl ?_
    refine j_iconst G d_mo_address_11 ci_1 ?_
    refine j_icne G d_mo_address_12 (tgt := 34) rfl ?_ ?_
    · refine j_aload_n 0 G d_mo_address_34 rfl rfl ?_
      refine j_Vi0 G k_mo_nextWord mw_mo_nextWord lk_mo_mo_nextWord rc_mod d_mo_address_35 rfl (Nat.le_of_ble_eq_true rfl) (fun v1 s1 => ?_)
      refine j_sub [0] (L1 := [(0, .ref (eO (xE X) 0))]) rfl ?_
      exact b_mo_address_38 G s1 v1
    · refine j_sipush G d_mo_address_15 cs_256 ?_
      refine j_aload_n 0 G d_mo_address_18 rfl rfl ?_
      refine g_mo_r G d_mo_address_19 ?_
      refine j_bipush G d_mo_address_22 cb_7 ?_
      refine alc_Mreg (j := 7) rfl rfl G d_mo_address_24 ?_
      refine j_imul G d_mo_address_25 ?_
      refine j_aload_n 0 G d_mo_address_26 rfl rfl ?_
      refine j_Vi0 G k_mo_next mw_mo_next lk_mo_mo_next rc_mod d_mo_address_27 rfl (Nat.le_of_ble_eq_true rfl) (fun v2 s2 => ?_)
      refine j_iadd G d_mo_address_30 ?_
      refine j_goto G d_mo_address_31 (tgt := 38) rfl ?_
      refine j_sub [0] (L1 := [(0, .ref (eO (xE X) 0))]) rfl ?_
      exact b_mo_address_38 G s2 (((256 : Int32) * (mx_reg σ 7)) + v2)
  · refine j_aload_n 0 G d_mo_address_5 rfl rfl ?_
    refine j_Vi0 G k_mo_byPostbyte mw_mo_byPostbyte lk_mo_mo_byPostbyte rc_mod d_mo_address_6 rfl (Nat.le_of_ble_eq_true rfl) (fun v3 s3 => ?_)
    exact j_iret G d_mo_address_9
set_option maxHeartbeats 4000000 in
set_option maxRecDepth 100000 in
theorem k_mo_address {l : Launch} {E : Ev} {σ : MS} {a1 : Int32} : CtI wdM l E y_mo_address bc_mo_address 2 (some .int) (rmm 4 89) [.ref (eO E 0), .int a1] σ (mo_address σ a1) := ct_i (by decide) (Nat.le_of_ble_eq_true rfl) (fun X hE _ G => by subst hE; exact b_mo_address G σ a1)
def mo_operand_20 (σ : MS) (t0 : Int32) : Option (Int32 × MS) :=
some (t0, σ)
def mo_operand (σ : MS) (a1 : Int32) : Option (Int32 × MS) :=
if a1 = 0 then (bd (mo_next σ) fun v3 s3 =>
mo_operand_20 s3 v3) else (bd (mo_address σ a1) fun v1 s1 =>
bd (mo_read s1 v1) fun v2 s2 =>
mo_operand_20 s2 v2)
set_option maxHeartbeats 4000000 in
set_option maxRecDepth 100000 in
theorem b_mo_operand_20 {X : Cx} (G : Gd X bc_mo_operand 2 R_mod (some .int) (rmm 5 110)) (σ : MS) (t0 : Int32) : J wdM X (QI wdM X) 2 20 [(0, .ref (eO (xE X) 0))] [.int t0] σ (mo_operand_20 σ t0) := by
  unfold mo_operand_20
  exact j_iret G d_mo_operand_20
set_option maxHeartbeats 4000000 in
set_option maxRecDepth 100000 in
theorem b_mo_operand {X : Cx} (G : Gd X bc_mo_operand 2 R_mod (some .int) (rmm 5 110)) (σ : MS) (a1 : Int32) : J wdM X (QI wdM X) 2 0 [(0, .ref (eO (xE X) 0)), (1, .int a1)] [] σ (mo_operand σ a1) := by
  unfold mo_operand
  refine j_iload_n 1 G d_mo_operand_0 rfl rfl ?_
  refine j_ifne G d_mo_operand_1 (tgt := 11) rfl ?_ ?_
  · refine j_aload_n 0 G d_mo_operand_11 rfl rfl ?_
    refine j_aload_n 0 G d_mo_operand_12 rfl rfl ?_
    refine j_iload_n 1 G d_mo_operand_13 rfl rfl ?_
    refine j_Vi1 G k_mo_address mw_mo_address lk_mo_mo_address rc_mod d_mo_operand_14 rfl (Nat.le_of_ble_eq_true rfl) (fun v1 s1 => ?_)
    refine j_Vi1 G k_mo_read mw_mo_read lk_mo_mo_read rc_mod d_mo_operand_17 rfl (Nat.le_of_ble_eq_true rfl) (fun v2 s2 => ?_)
    refine j_sub [0] (L1 := [(0, .ref (eO (xE X) 0))]) rfl ?_
    exact b_mo_operand_20 G s2 v2
  · refine j_aload_n 0 G d_mo_operand_4 rfl rfl ?_
    refine j_Vi0 G k_mo_next mw_mo_next lk_mo_mo_next rc_mod d_mo_operand_5 rfl (Nat.le_of_ble_eq_true rfl) (fun v3 s3 => ?_)
    refine j_goto G d_mo_operand_8 (tgt := 20) rfl ?_
    refine j_sub [0] (L1 := [(0, .ref (eO (xE X) 0))]) rfl ?_
    exact b_mo_operand_20 G s3 v3
set_option maxHeartbeats 4000000 in
set_option maxRecDepth 100000 in
theorem k_mo_operand {l : Launch} {E : Ev} {σ : MS} {a1 : Int32} : CtI wdM l E y_mo_operand bc_mo_operand 2 (some .int) (rmm 5 110) [.ref (eO E 0), .int a1] σ (mo_operand σ a1) := ct_i (by decide) (Nat.le_of_ble_eq_true rfl) (fun X hE _ G => by subst hE; exact b_mo_operand G σ a1)
def mo_wordOperand_20 (σ : MS) (t0 : Int32) : Option (Int32 × MS) :=
some (t0, σ)
def mo_wordOperand (σ : MS) (a1 : Int32) : Option (Int32 × MS) :=
if a1 = 0 then (bd (mo_nextWord σ) fun v3 s3 =>
mo_wordOperand_20 s3 v3) else (bd (mo_address σ a1) fun v1 s1 =>
bd (mo_readWord s1 v1) fun v2 s2 =>
mo_wordOperand_20 s2 v2)
set_option maxHeartbeats 4000000 in
set_option maxRecDepth 100000 in
theorem b_mo_wordOperand_20 {X : Cx} (G : Gd X bc_mo_wordOperand 2 R_mod (some .int) (rmm 5 110)) (σ : MS) (t0 : Int32) : J wdM X (QI wdM X) 2 20 [(0, .ref (eO (xE X) 0))] [.int t0] σ (mo_wordOperand_20 σ t0) := by
  unfold mo_wordOperand_20
  exact j_iret G d_mo_wordOperand_20
set_option maxHeartbeats 4000000 in
set_option maxRecDepth 100000 in
theorem b_mo_wordOperand {X : Cx} (G : Gd X bc_mo_wordOperand 2 R_mod (some .int) (rmm 5 110)) (σ : MS) (a1 : Int32) : J wdM X (QI wdM X) 2 0 [(0, .ref (eO (xE X) 0)), (1, .int a1)] [] σ (mo_wordOperand σ a1) := by
  unfold mo_wordOperand
  refine j_iload_n 1 G d_mo_wordOperand_0 rfl rfl ?_
  refine j_ifne G d_mo_wordOperand_1 (tgt := 11) rfl ?_ ?_
  · refine j_aload_n 0 G d_mo_wordOperand_11 rfl rfl ?_
    refine j_aload_n 0 G d_mo_wordOperand_12 rfl rfl ?_
    refine j_iload_n 1 G d_mo_wordOperand_13 rfl rfl ?_
    refine j_Vi1 G k_mo_address mw_mo_address lk_mo_mo_address rc_mod d_mo_wordOperand_14 rfl (Nat.le_of_ble_eq_true rfl) (fun v1 s1 => ?_)
    refine j_Vi1 G k_mo_readWord mw_mo_readWord lk_mo_mo_readWord rc_mod d_mo_wordOperand_17 rfl (Nat.le_of_ble_eq_true rfl) (fun v2 s2 => ?_)
    refine j_sub [0] (L1 := [(0, .ref (eO (xE X) 0))]) rfl ?_
    exact b_mo_wordOperand_20 G s2 v2
  · refine j_aload_n 0 G d_mo_wordOperand_4 rfl rfl ?_
    refine j_Vi0 G k_mo_nextWord mw_mo_nextWord lk_mo_mo_nextWord rc_mod d_mo_wordOperand_5 rfl (Nat.le_of_ble_eq_true rfl) (fun v3 s3 => ?_)
    refine j_goto G d_mo_wordOperand_8 (tgt := 20) rfl ?_
    refine j_sub [0] (L1 := [(0, .ref (eO (xE X) 0))]) rfl ?_
    exact b_mo_wordOperand_20 G s3 v3
set_option maxHeartbeats 4000000 in
set_option maxRecDepth 100000 in
theorem k_mo_wordOperand {l : Launch} {E : Ev} {σ : MS} {a1 : Int32} : CtI wdM l E y_mo_wordOperand bc_mo_wordOperand 2 (some .int) (rmm 5 110) [.ref (eO E 0), .int a1] σ (mo_wordOperand σ a1) := ct_i (by decide) (Nat.le_of_ble_eq_true rfl) (fun X hE _ G => by subst hE; exact b_mo_wordOperand G σ a1)
def mo_push (σ : MS) (a1 a2 : Int32) : Option (Int32 × MS) :=
gd (okI a1 9) (
nm (mx_reg σ a1.toNatClampNeg) fun v1 =>
nm ((v1 - (1 : Int32)) &&& (65535 : Int32)) fun v2 =>
gd (okI a1 9) (
ns (my_reg σ (upd (mx_reg σ) a1.toNatClampNeg v2)) fun s1 =>
gd (okI a1 9) (
nm (mx_reg s1 a1.toNatClampNeg) fun v3 =>
bd (mo_write s1 v3 a2) fun _ s2 =>
some ((0 : Int32), s2))))
set_option maxHeartbeats 4000000 in
set_option maxRecDepth 100000 in
theorem b_mo_push {X : Cx} (G : Gd X bc_mo_push 3 R_mod none (rmm 1 22)) (σ : MS) (a1 a2 : Int32) : J wdM X (QV wdM X) 3 0 [(0, .ref (eO (xE X) 0)), (1, .int a1), (2, .int a2)] [] σ (mo_push σ a1 a2) := by
  unfold mo_push
  refine j_aload_n 0 G d_mo_push_0 rfl rfl ?_
  refine g_mo_r G d_mo_push_1 ?_
  refine j_iload_n 1 G d_mo_push_4 rfl rfl ?_
  refine j_aload_n 0 G d_mo_push_5 rfl rfl ?_
  refine g_mo_r G d_mo_push_6 ?_
  refine j_iload_n 1 G d_mo_push_9 rfl rfl ?_
  refine al_Mreg G d_mo_push_10 ?_
  refine j_nm (fun v1 => ?_)
  refine j_iconst G d_mo_push_11 ci_1 ?_
  refine j_isub G d_mo_push_12 ?_
  refine j_ldc G d_mo_push_13 kc_mo_30 ?_
  refine j_iand G d_mo_push_15 ?_
  refine j_nm (fun v2 => ?_)
  refine as_Mreg G d_mo_push_16 ?_
  refine j_ns (fun s1 => ?_)
  refine j_aload_n 0 G d_mo_push_17 rfl rfl ?_
  refine j_aload_n 0 G d_mo_push_18 rfl rfl ?_
  refine g_mo_r G d_mo_push_19 ?_
  refine j_iload_n 1 G d_mo_push_22 rfl rfl ?_
  refine al_Mreg G d_mo_push_23 ?_
  refine j_nm (fun v3 => ?_)
  refine j_iload_n 2 G d_mo_push_24 rfl rfl ?_
  refine j_Vv2 G k_mo_write mw_mo_write lk_mo_mo_write rc_mod d_mo_push_25 rfl (Nat.le_of_ble_eq_true rfl) (fun _ s2 => ?_)
  exact j_vret G d_mo_push_28
set_option maxHeartbeats 4000000 in
set_option maxRecDepth 100000 in
theorem k_mo_push {l : Launch} {E : Ev} {σ : MS} {a1 a2 : Int32} : CtV wdM l E y_mo_push bc_mo_push 3 none (rmm 1 22) [.ref (eO E 0), .int a1, .int a2] σ (mo_push σ a1 a2) := ct_v (by decide) (Nat.le_of_ble_eq_true rfl) (fun X hE _ G => by subst hE; exact b_mo_push G σ a1 a2)
def mo_pushWord (σ : MS) (a1 a2 : Int32) : Option (Int32 × MS) :=
bd (mo_push σ a1 (a2 &&& (255 : Int32))) fun _ s1 =>
bd (mo_push s1 a1 (a2 >>> ((8 : Int32) &&& 31))) fun _ s2 =>
some ((0 : Int32), s2)
set_option maxHeartbeats 4000000 in
set_option maxRecDepth 100000 in
theorem b_mo_pushWord {X : Cx} (G : Gd X bc_mo_pushWord 3 R_mod none (rmm 2 44)) (σ : MS) (a1 a2 : Int32) : J wdM X (QV wdM X) 3 0 [(0, .ref (eO (xE X) 0)), (1, .int a1), (2, .int a2)] [] σ (mo_pushWord σ a1 a2) := by
  unfold mo_pushWord
  refine j_aload_n 0 G d_mo_pushWord_0 rfl rfl ?_
  refine j_iload_n 1 G d_mo_pushWord_1 rfl rfl ?_
  refine j_iload_n 2 G d_mo_pushWord_2 rfl rfl ?_
  refine j_sipush G d_mo_pushWord_3 cs_255 ?_
  refine j_iand G d_mo_pushWord_6 ?_
  refine j_Vv2 G k_mo_push mw_mo_push lk_mo_mo_push rc_mod d_mo_pushWord_7 rfl (Nat.le_of_ble_eq_true rfl) (fun _ s1 => ?_)
  refine j_aload_n 0 G d_mo_pushWord_10 rfl rfl ?_
  refine j_iload_n 1 G d_mo_pushWord_11 rfl rfl ?_
  refine j_iload_n 2 G d_mo_pushWord_12 rfl rfl ?_
  refine j_bipush G d_mo_pushWord_13 cb_8 ?_
  refine j_ishr G d_mo_pushWord_15 ?_
  refine j_Vv2 G k_mo_push mw_mo_push lk_mo_mo_push rc_mod d_mo_pushWord_16 rfl (Nat.le_of_ble_eq_true rfl) (fun _ s2 => ?_)
  exact j_vret G d_mo_pushWord_19
set_option maxHeartbeats 4000000 in
set_option maxRecDepth 100000 in
theorem k_mo_pushWord {l : Launch} {E : Ev} {σ : MS} {a1 a2 : Int32} : CtV wdM l E y_mo_pushWord bc_mo_pushWord 3 none (rmm 2 44) [.ref (eO E 0), .int a1, .int a2] σ (mo_pushWord σ a1 a2) := ct_v (by decide) (Nat.le_of_ble_eq_true rfl) (fun X hE _ G => by subst hE; exact b_mo_pushWord G σ a1 a2)
def mo_pull (σ : MS) (a1 : Int32) : Option (Int32 × MS) :=
gd (okI a1 9) (
nm (mx_reg σ a1.toNatClampNeg) fun v1 =>
bd (mo_read σ v1) fun v2 s1 =>
gd (okI a1 9) (
nm (mx_reg s1 a1.toNatClampNeg) fun v3 =>
nm ((v3 + (1 : Int32)) &&& (65535 : Int32)) fun v4 =>
gd (okI a1 9) (
ns (my_reg s1 (upd (mx_reg s1) a1.toNatClampNeg v4)) fun s2 =>
some (v2, s2))))
set_option maxHeartbeats 4000000 in
set_option maxRecDepth 100000 in
theorem b_mo_pull {X : Cx} (G : Gd X bc_mo_pull 3 R_mod (some .int) (rmm 1 21)) (σ : MS) (a1 : Int32) : J wdM X (QI wdM X) 3 0 [(0, .ref (eO (xE X) 0)), (1, .int a1)] [] σ (mo_pull σ a1) := by
  unfold mo_pull
  refine j_aload_n 0 G d_mo_pull_0 rfl rfl ?_
  refine j_aload_n 0 G d_mo_pull_1 rfl rfl ?_
  refine g_mo_r G d_mo_pull_2 ?_
  refine j_iload_n 1 G d_mo_pull_5 rfl rfl ?_
  refine al_Mreg G d_mo_pull_6 ?_
  refine j_nm (fun v1 => ?_)
  refine j_Vi1 G k_mo_read mw_mo_read lk_mo_mo_read rc_mod d_mo_pull_7 rfl (Nat.le_of_ble_eq_true rfl) (fun v2 s1 => ?_)
  refine j_istore_n [1, 2, 0] (L1 := [(0, .ref (eO (xE X) 0)), (1, .int a1), (2, .int v2)]) G d_mo_pull_10 rfl (by decide) rfl ?_
  refine j_aload_n 0 G d_mo_pull_11 rfl rfl ?_
  refine g_mo_r G d_mo_pull_12 ?_
  refine j_iload_n 1 G d_mo_pull_15 rfl rfl ?_
  refine j_aload_n 0 G d_mo_pull_16 rfl rfl ?_
  refine g_mo_r G d_mo_pull_17 ?_
  refine j_iload_n 1 G d_mo_pull_20 rfl rfl ?_
  refine al_Mreg G d_mo_pull_21 ?_
  refine j_nm (fun v3 => ?_)
  refine j_iconst G d_mo_pull_22 ci_1 ?_
  refine j_iadd G d_mo_pull_23 ?_
  refine j_ldc G d_mo_pull_24 kc_mo_30 ?_
  refine j_iand G d_mo_pull_26 ?_
  refine j_nm (fun v4 => ?_)
  refine as_Mreg G d_mo_pull_27 ?_
  refine j_ns (fun s2 => ?_)
  refine j_iload_n 2 G d_mo_pull_28 rfl rfl ?_
  exact j_iret G d_mo_pull_29
set_option maxHeartbeats 4000000 in
set_option maxRecDepth 100000 in
theorem k_mo_pull {l : Launch} {E : Ev} {σ : MS} {a1 : Int32} : CtI wdM l E y_mo_pull bc_mo_pull 3 (some .int) (rmm 1 21) [.ref (eO E 0), .int a1] σ (mo_pull σ a1) := ct_i (by decide) (Nat.le_of_ble_eq_true rfl) (fun X hE _ G => by subst hE; exact b_mo_pull G σ a1)
def mo_pullWord (σ : MS) (a1 : Int32) : Option (Int32 × MS) :=
bd (mo_pull σ a1) fun v1 s1 =>
bd (mo_pull s1 a1) fun v2 s2 =>
some ((((256 : Int32) * v1) + v2), s2)
set_option maxHeartbeats 4000000 in
set_option maxRecDepth 100000 in
theorem b_mo_pullWord {X : Cx} (G : Gd X bc_mo_pullWord 3 R_mod (some .int) (rmm 2 43)) (σ : MS) (a1 : Int32) : J wdM X (QI wdM X) 3 0 [(0, .ref (eO (xE X) 0)), (1, .int a1)] [] σ (mo_pullWord σ a1) := by
  unfold mo_pullWord
  refine j_aload_n 0 G d_mo_pullWord_0 rfl rfl ?_
  refine j_iload_n 1 G d_mo_pullWord_1 rfl rfl ?_
  refine j_Vi1 G k_mo_pull mw_mo_pull lk_mo_mo_pull rc_mod d_mo_pullWord_2 rfl (Nat.le_of_ble_eq_true rfl) (fun v1 s1 => ?_)
  refine j_istore_n [1, 2, 0] (L1 := [(0, .ref (eO (xE X) 0)), (1, .int a1), (2, .int v1)]) G d_mo_pullWord_5 rfl (by decide) rfl ?_
  refine j_sipush G d_mo_pullWord_6 cs_256 ?_
  refine j_iload_n 2 G d_mo_pullWord_9 rfl rfl ?_
  refine j_imul G d_mo_pullWord_10 ?_
  refine j_aload_n 0 G d_mo_pullWord_11 rfl rfl ?_
  refine j_iload_n 1 G d_mo_pullWord_12 rfl rfl ?_
  refine j_Vi1 G k_mo_pull mw_mo_pull lk_mo_mo_pull rc_mod d_mo_pullWord_13 rfl (Nat.le_of_ble_eq_true rfl) (fun v2 s2 => ?_)
  refine j_iadd G d_mo_pullWord_16 ?_
  exact j_iret G d_mo_pullWord_17
set_option maxHeartbeats 4000000 in
set_option maxRecDepth 100000 in
theorem k_mo_pullWord {l : Launch} {E : Ev} {σ : MS} {a1 : Int32} : CtI wdM l E y_mo_pullWord bc_mo_pullWord 3 (some .int) (rmm 2 43) [.ref (eO E 0), .int a1] σ (mo_pullWord σ a1) := ct_i (by decide) (Nat.le_of_ble_eq_true rfl) (fun X hE _ G => by subst hE; exact b_mo_pullWord G σ a1)
def mo_pushAll_154 (σ : MS) : Option (Int32 × MS) :=
some ((0 : Int32), σ)
def mo_pushAll_136 (σ : MS) (l1 l2 : Int32) : Option (Int32 × MS) :=
if (l2 &&& (1 : Int32)) = 0 then (mo_pushAll_154 σ) else (bd (mo_push σ l1 (mx_reg σ 8)) fun _ s1 =>
mo_pushAll_154 s1)
def mo_pushAll_119 (σ : MS) (l1 l2 : Int32) : Option (Int32 × MS) :=
if (l2 &&& (2 : Int32)) = 0 then (mo_pushAll_136 σ l1 l2) else (bd (mo_push σ l1 (mx_reg σ 0)) fun _ s1 =>
mo_pushAll_136 s1 l1 l2)
def mo_pushAll_102 (σ : MS) (l1 l2 : Int32) : Option (Int32 × MS) :=
if (l2 &&& (4 : Int32)) = 0 then (mo_pushAll_119 σ l1 l2) else (bd (mo_push σ l1 (mx_reg σ 1)) fun _ s1 =>
mo_pushAll_119 s1 l1 l2)
def mo_pushAll_83 (σ : MS) (l1 l2 : Int32) : Option (Int32 × MS) :=
if (l2 &&& (8 : Int32)) = 0 then (mo_pushAll_102 σ l1 l2) else (bd (mo_push σ l1 (mx_reg σ 7)) fun _ s1 =>
mo_pushAll_102 s1 l1 l2)
def mo_pushAll_65 (σ : MS) (l1 l2 : Int32) : Option (Int32 × MS) :=
if (l2 &&& (16 : Int32)) = 0 then (mo_pushAll_83 σ l1 l2) else (bd (mo_pushWord σ l1 (mx_reg σ 2)) fun _ s1 =>
mo_pushAll_83 s1 l1 l2)
def mo_pushAll_47 (σ : MS) (l1 l2 : Int32) : Option (Int32 × MS) :=
if (l2 &&& (32 : Int32)) = 0 then (mo_pushAll_65 σ l1 l2) else (bd (mo_pushWord σ l1 (mx_reg σ 3)) fun _ s1 =>
mo_pushAll_65 s1 l1 l2)
def mo_pushAll_43 (σ : MS) (l1 l2 t0 t2 : Int32) : Option (Int32 × MS) :=
gd (okI t0 9) (
nm (mx_reg σ t0.toNatClampNeg) fun v1 =>
bd (mo_pushWord σ t2 v1) fun _ s1 =>
mo_pushAll_47 s1 l1 l2)
def mo_pushAll_20 (σ : MS) (l1 l2 : Int32) : Option (Int32 × MS) :=
if (l2 &&& (64 : Int32)) = 0 then (mo_pushAll_47 σ l1 l2) else (if l1 = (5 : Int32) then (mo_pushAll_43 σ l1 l2 (4 : Int32) l1) else (mo_pushAll_43 σ l1 l2 (5 : Int32) l1))
def mo_pushAll (σ : MS) (a1 a2 : Int32) : Option (Int32 × MS) :=
if (a2 &&& (128 : Int32)) = 0 then (mo_pushAll_20 σ a1 a2) else (bd (mo_pushWord σ a1 (mx_reg σ 6)) fun _ s1 =>
mo_pushAll_20 s1 a1 a2)
set_option maxHeartbeats 4000000 in
set_option maxRecDepth 100000 in
theorem b_mo_pushAll_154 {X : Cx} (G : Gd X bc_mo_pushAll 3 R_mod none (rmm 3 66)) (σ : MS) : J wdM X (QV wdM X) 3 154 [(0, .ref (eO (xE X) 0))] [] σ (mo_pushAll_154 σ ) := by
  unfold mo_pushAll_154
  exact j_vret G d_mo_pushAll_154
set_option maxHeartbeats 4000000 in
set_option maxRecDepth 100000 in
theorem b_mo_pushAll_136 {X : Cx} (G : Gd X bc_mo_pushAll 3 R_mod none (rmm 3 66)) (σ : MS) (l1 l2 : Int32) : J wdM X (QV wdM X) 3 136 [(0, .ref (eO (xE X) 0)), (1, .int l1), (2, .int l2)] [] σ (mo_pushAll_136 σ l1 l2) := by
  unfold mo_pushAll_136
  refine j_iload_n 2 G d_mo_pushAll_136 rfl rfl ?_
  refine j_iconst G d_mo_pushAll_137 ci_1 ?_
  refine j_iand G d_mo_pushAll_138 ?_
  refine j_ifeq G d_mo_pushAll_139 (tgt := 154) rfl ?_ ?_
  · refine j_sub [0] (L1 := [(0, .ref (eO (xE X) 0))]) rfl ?_
    exact b_mo_pushAll_154 G σ
  · refine j_aload_n 0 G d_mo_pushAll_142 rfl rfl ?_
    refine j_iload_n 1 G d_mo_pushAll_143 rfl rfl ?_
    refine j_aload_n 0 G d_mo_pushAll_144 rfl rfl ?_
    refine g_mo_r G d_mo_pushAll_145 ?_
    refine j_bipush G d_mo_pushAll_148 cb_8 ?_
    refine alc_Mreg (j := 8) rfl rfl G d_mo_pushAll_150 ?_
    refine j_Vv2 G k_mo_push mw_mo_push lk_mo_mo_push rc_mod d_mo_pushAll_151 rfl (Nat.le_of_ble_eq_true rfl) (fun _ s1 => ?_)
    refine j_sub [0] (L1 := [(0, .ref (eO (xE X) 0))]) rfl ?_
    exact b_mo_pushAll_154 G s1
set_option maxHeartbeats 4000000 in
set_option maxRecDepth 100000 in
theorem b_mo_pushAll_119 {X : Cx} (G : Gd X bc_mo_pushAll 3 R_mod none (rmm 3 66)) (σ : MS) (l1 l2 : Int32) : J wdM X (QV wdM X) 3 119 [(0, .ref (eO (xE X) 0)), (1, .int l1), (2, .int l2)] [] σ (mo_pushAll_119 σ l1 l2) := by
  unfold mo_pushAll_119
  refine j_iload_n 2 G d_mo_pushAll_119 rfl rfl ?_
  refine j_iconst G d_mo_pushAll_120 ci_2 ?_
  refine j_iand G d_mo_pushAll_121 ?_
  refine j_ifeq G d_mo_pushAll_122 (tgt := 136) rfl ?_ ?_
  · exact b_mo_pushAll_136 G σ l1 l2
  · refine j_aload_n 0 G d_mo_pushAll_125 rfl rfl ?_
    refine j_iload_n 1 G d_mo_pushAll_126 rfl rfl ?_
    refine j_aload_n 0 G d_mo_pushAll_127 rfl rfl ?_
    refine g_mo_r G d_mo_pushAll_128 ?_
    refine j_iconst G d_mo_pushAll_131 ci_0 ?_
    refine alc_Mreg (j := 0) rfl rfl G d_mo_pushAll_132 ?_
    refine j_Vv2 G k_mo_push mw_mo_push lk_mo_mo_push rc_mod d_mo_pushAll_133 rfl (Nat.le_of_ble_eq_true rfl) (fun _ s1 => ?_)
    exact b_mo_pushAll_136 G s1 l1 l2
set_option maxHeartbeats 4000000 in
set_option maxRecDepth 100000 in
theorem b_mo_pushAll_102 {X : Cx} (G : Gd X bc_mo_pushAll 3 R_mod none (rmm 3 66)) (σ : MS) (l1 l2 : Int32) : J wdM X (QV wdM X) 3 102 [(0, .ref (eO (xE X) 0)), (1, .int l1), (2, .int l2)] [] σ (mo_pushAll_102 σ l1 l2) := by
  unfold mo_pushAll_102
  refine j_iload_n 2 G d_mo_pushAll_102 rfl rfl ?_
  refine j_iconst G d_mo_pushAll_103 ci_4 ?_
  refine j_iand G d_mo_pushAll_104 ?_
  refine j_ifeq G d_mo_pushAll_105 (tgt := 119) rfl ?_ ?_
  · exact b_mo_pushAll_119 G σ l1 l2
  · refine j_aload_n 0 G d_mo_pushAll_108 rfl rfl ?_
    refine j_iload_n 1 G d_mo_pushAll_109 rfl rfl ?_
    refine j_aload_n 0 G d_mo_pushAll_110 rfl rfl ?_
    refine g_mo_r G d_mo_pushAll_111 ?_
    refine j_iconst G d_mo_pushAll_114 ci_1 ?_
    refine alc_Mreg (j := 1) rfl rfl G d_mo_pushAll_115 ?_
    refine j_Vv2 G k_mo_push mw_mo_push lk_mo_mo_push rc_mod d_mo_pushAll_116 rfl (Nat.le_of_ble_eq_true rfl) (fun _ s1 => ?_)
    exact b_mo_pushAll_119 G s1 l1 l2
set_option maxHeartbeats 4000000 in
set_option maxRecDepth 100000 in
theorem b_mo_pushAll_83 {X : Cx} (G : Gd X bc_mo_pushAll 3 R_mod none (rmm 3 66)) (σ : MS) (l1 l2 : Int32) : J wdM X (QV wdM X) 3 83 [(0, .ref (eO (xE X) 0)), (1, .int l1), (2, .int l2)] [] σ (mo_pushAll_83 σ l1 l2) := by
  unfold mo_pushAll_83
  refine j_iload_n 2 G d_mo_pushAll_83 rfl rfl ?_
  refine j_bipush G d_mo_pushAll_84 cb_8 ?_
  refine j_iand G d_mo_pushAll_86 ?_
  refine j_ifeq G d_mo_pushAll_87 (tgt := 102) rfl ?_ ?_
  · exact b_mo_pushAll_102 G σ l1 l2
  · refine j_aload_n 0 G d_mo_pushAll_90 rfl rfl ?_
    refine j_iload_n 1 G d_mo_pushAll_91 rfl rfl ?_
    refine j_aload_n 0 G d_mo_pushAll_92 rfl rfl ?_
    refine g_mo_r G d_mo_pushAll_93 ?_
    refine j_bipush G d_mo_pushAll_96 cb_7 ?_
    refine alc_Mreg (j := 7) rfl rfl G d_mo_pushAll_98 ?_
    refine j_Vv2 G k_mo_push mw_mo_push lk_mo_mo_push rc_mod d_mo_pushAll_99 rfl (Nat.le_of_ble_eq_true rfl) (fun _ s1 => ?_)
    exact b_mo_pushAll_102 G s1 l1 l2
set_option maxHeartbeats 4000000 in
set_option maxRecDepth 100000 in
theorem b_mo_pushAll_65 {X : Cx} (G : Gd X bc_mo_pushAll 3 R_mod none (rmm 3 66)) (σ : MS) (l1 l2 : Int32) : J wdM X (QV wdM X) 3 65 [(0, .ref (eO (xE X) 0)), (1, .int l1), (2, .int l2)] [] σ (mo_pushAll_65 σ l1 l2) := by
  unfold mo_pushAll_65
  refine j_iload_n 2 G d_mo_pushAll_65 rfl rfl ?_
  refine j_bipush G d_mo_pushAll_66 cb_16 ?_
  refine j_iand G d_mo_pushAll_68 ?_
  refine j_ifeq G d_mo_pushAll_69 (tgt := 83) rfl ?_ ?_
  · exact b_mo_pushAll_83 G σ l1 l2
  · refine j_aload_n 0 G d_mo_pushAll_72 rfl rfl ?_
    refine j_iload_n 1 G d_mo_pushAll_73 rfl rfl ?_
    refine j_aload_n 0 G d_mo_pushAll_74 rfl rfl ?_
    refine g_mo_r G d_mo_pushAll_75 ?_
    refine j_iconst G d_mo_pushAll_78 ci_2 ?_
    refine alc_Mreg (j := 2) rfl rfl G d_mo_pushAll_79 ?_
    refine j_Vv2 G k_mo_pushWord mw_mo_pushWord lk_mo_mo_pushWord rc_mod d_mo_pushAll_80 rfl (Nat.le_of_ble_eq_true rfl) (fun _ s1 => ?_)
    exact b_mo_pushAll_83 G s1 l1 l2
set_option maxHeartbeats 4000000 in
set_option maxRecDepth 100000 in
theorem b_mo_pushAll_47 {X : Cx} (G : Gd X bc_mo_pushAll 3 R_mod none (rmm 3 66)) (σ : MS) (l1 l2 : Int32) : J wdM X (QV wdM X) 3 47 [(0, .ref (eO (xE X) 0)), (1, .int l1), (2, .int l2)] [] σ (mo_pushAll_47 σ l1 l2) := by
  unfold mo_pushAll_47
  refine j_iload_n 2 G d_mo_pushAll_47 rfl rfl ?_
  refine j_bipush G d_mo_pushAll_48 cb_32 ?_
  refine j_iand G d_mo_pushAll_50 ?_
  refine j_ifeq G d_mo_pushAll_51 (tgt := 65) rfl ?_ ?_
  · exact b_mo_pushAll_65 G σ l1 l2
  · refine j_aload_n 0 G d_mo_pushAll_54 rfl rfl ?_
    refine j_iload_n 1 G d_mo_pushAll_55 rfl rfl ?_
    refine j_aload_n 0 G d_mo_pushAll_56 rfl rfl ?_
    refine g_mo_r G d_mo_pushAll_57 ?_
    refine j_iconst G d_mo_pushAll_60 ci_3 ?_
    refine alc_Mreg (j := 3) rfl rfl G d_mo_pushAll_61 ?_
    refine j_Vv2 G k_mo_pushWord mw_mo_pushWord lk_mo_mo_pushWord rc_mod d_mo_pushAll_62 rfl (Nat.le_of_ble_eq_true rfl) (fun _ s1 => ?_)
    exact b_mo_pushAll_65 G s1 l1 l2
set_option maxHeartbeats 4000000 in
set_option maxRecDepth 100000 in
theorem b_mo_pushAll_43 {X : Cx} (G : Gd X bc_mo_pushAll 3 R_mod none (rmm 3 66)) (σ : MS) (l1 l2 t0 t2 : Int32) : J wdM X (QV wdM X) 3 43 [(0, .ref (eO (xE X) 0)), (1, .int l1), (2, .int l2)] [.int t0, .ref (eO (xE X) 2), .int t2, .ref (eO (xE X) 0)] σ (mo_pushAll_43 σ l1 l2 t0 t2) := by
  unfold mo_pushAll_43
  refine al_Mreg G d_mo_pushAll_43 ?_
  refine j_nm (fun v1 => ?_)
  refine j_Vv2 G k_mo_pushWord mw_mo_pushWord lk_mo_mo_pushWord rc_mod d_mo_pushAll_44 rfl (Nat.le_of_ble_eq_true rfl) (fun _ s1 => ?_)
  exact b_mo_pushAll_47 G s1 l1 l2
set_option maxHeartbeats 4000000 in
set_option maxRecDepth 100000 in
theorem b_mo_pushAll_20 {X : Cx} (G : Gd X bc_mo_pushAll 3 R_mod none (rmm 3 66)) (σ : MS) (l1 l2 : Int32) : J wdM X (QV wdM X) 3 20 [(0, .ref (eO (xE X) 0)), (1, .int l1), (2, .int l2)] [] σ (mo_pushAll_20 σ l1 l2) := by
  unfold mo_pushAll_20
  refine j_iload_n 2 G d_mo_pushAll_20 rfl rfl ?_
  refine j_bipush G d_mo_pushAll_21 cb_64 ?_
  refine j_iand G d_mo_pushAll_23 ?_
  refine j_ifeq G d_mo_pushAll_24 (tgt := 47) rfl ?_ ?_
  · exact b_mo_pushAll_47 G σ l1 l2
  · refine j_aload_n 0 G d_mo_pushAll_27 rfl rfl ?_
    refine j_iload_n 1 G d_mo_pushAll_28 rfl rfl ?_
    refine j_aload_n 0 G d_mo_pushAll_29 rfl rfl ?_
    refine g_mo_r G d_mo_pushAll_30 ?_
    refine j_iload_n 1 G d_mo_pushAll_33 rfl rfl ?_
    refine j_iconst G d_mo_pushAll_34 ci_5 ?_
    refine j_icne G d_mo_pushAll_35 (tgt := 42) rfl ?_ ?_
    · refine j_iconst G d_mo_pushAll_42 ci_5 ?_
      exact b_mo_pushAll_43 G σ l1 l2 (5 : Int32) l1
    · refine j_iconst G d_mo_pushAll_38 ci_4 ?_
      refine j_goto G d_mo_pushAll_39 (tgt := 43) rfl ?_
      exact b_mo_pushAll_43 G σ l1 l2 (4 : Int32) l1
set_option maxHeartbeats 4000000 in
set_option maxRecDepth 100000 in
theorem b_mo_pushAll {X : Cx} (G : Gd X bc_mo_pushAll 3 R_mod none (rmm 3 66)) (σ : MS) (a1 a2 : Int32) : J wdM X (QV wdM X) 3 0 [(0, .ref (eO (xE X) 0)), (1, .int a1), (2, .int a2)] [] σ (mo_pushAll σ a1 a2) := by
  unfold mo_pushAll
  refine j_iload_n 2 G d_mo_pushAll_0 rfl rfl ?_
  refine j_sipush G d_mo_pushAll_1 cs_128 ?_
  refine j_iand G d_mo_pushAll_4 ?_
  refine j_ifeq G d_mo_pushAll_5 (tgt := 20) rfl ?_ ?_
  · exact b_mo_pushAll_20 G σ a1 a2
  · refine j_aload_n 0 G d_mo_pushAll_8 rfl rfl ?_
    refine j_iload_n 1 G d_mo_pushAll_9 rfl rfl ?_
    refine j_aload_n 0 G d_mo_pushAll_10 rfl rfl ?_
    refine g_mo_r G d_mo_pushAll_11 ?_
    refine j_bipush G d_mo_pushAll_14 cb_6 ?_
    refine alc_Mreg (j := 6) rfl rfl G d_mo_pushAll_16 ?_
    refine j_Vv2 G k_mo_pushWord mw_mo_pushWord lk_mo_mo_pushWord rc_mod d_mo_pushAll_17 rfl (Nat.le_of_ble_eq_true rfl) (fun _ s1 => ?_)
    exact b_mo_pushAll_20 G s1 a1 a2
set_option maxHeartbeats 4000000 in
set_option maxRecDepth 100000 in
theorem k_mo_pushAll {l : Launch} {E : Ev} {σ : MS} {a1 a2 : Int32} : CtV wdM l E y_mo_pushAll bc_mo_pushAll 3 none (rmm 3 66) [.ref (eO E 0), .int a1, .int a2] σ (mo_pushAll σ a1 a2) := ct_v (by decide) (Nat.le_of_ble_eq_true rfl) (fun X hE _ G => by subst hE; exact b_mo_pushAll G σ a1 a2)
def mo_pullAll_177 (σ : MS) : Option (Int32 × MS) :=
some ((0 : Int32), σ)
def mo_pullAll_157 (σ : MS) (l1 l2 : Int32) : Option (Int32 × MS) :=
if (l2 &&& (128 : Int32)) = 0 then (mo_pullAll_177 σ) else (bd (mo_pullWord σ l1) fun v1 s1 =>
ns (my_reg s1 (upd (mx_reg s1) 6 v1)) fun s2 =>
mo_pullAll_177 s2)
def mo_pullAll_154 (σ : MS) (l1 l2 t0 : Int32) : Option (Int32 × MS) :=
gd (isB t0) (
ns (my_arm σ t0) fun s1 =>
mo_pullAll_157 s1 l1 l2)
def mo_pullAll_149 (σ : MS) (l1 l2 : Int32) : Option (Int32 × MS) :=
mo_pullAll_154 σ l1 l2 (1 : Int32)
def mo_pullAll_124 (σ : MS) (l1 l2 t0 : Int32) : Option (Int32 × MS) :=
bd (mo_pullWord σ l1) fun v1 s1 =>
gd (okI t0 9) (
ns (my_reg s1 (upd (mx_reg s1) t0.toNatClampNeg v1)) fun s2 =>
if (mx_arm s2) = 0 then (if t0 = (5 : Int32) then (mo_pullAll_149 s2 l1 l2) else (mo_pullAll_154 s2 l1 l2 (0 : Int32))) else (mo_pullAll_149 s2 l1 l2))
def mo_pullAll_107 (σ : MS) (l1 l2 : Int32) : Option (Int32 × MS) :=
if (l2 &&& (64 : Int32)) = 0 then (mo_pullAll_157 σ l1 l2) else (if l1 = (5 : Int32) then (mo_pullAll_124 σ l1 l2 (4 : Int32)) else (mo_pullAll_124 σ l1 l2 (5 : Int32)))
def mo_pullAll_89 (σ : MS) (l1 l2 : Int32) : Option (Int32 × MS) :=
if (l2 &&& (32 : Int32)) = 0 then (mo_pullAll_107 σ l1 l2) else (bd (mo_pullWord σ l1) fun v1 s1 =>
ns (my_reg s1 (upd (mx_reg s1) 3 v1)) fun s2 =>
mo_pullAll_107 s2 l1 l2)
def mo_pullAll_71 (σ : MS) (l1 l2 : Int32) : Option (Int32 × MS) :=
if (l2 &&& (16 : Int32)) = 0 then (mo_pullAll_89 σ l1 l2) else (bd (mo_pullWord σ l1) fun v1 s1 =>
ns (my_reg s1 (upd (mx_reg s1) 2 v1)) fun s2 =>
mo_pullAll_89 s2 l1 l2)
def mo_pullAll_52 (σ : MS) (l1 l2 : Int32) : Option (Int32 × MS) :=
if (l2 &&& (8 : Int32)) = 0 then (mo_pullAll_71 σ l1 l2) else (bd (mo_pull σ l1) fun v1 s1 =>
ns (my_reg s1 (upd (mx_reg s1) 7 v1)) fun s2 =>
mo_pullAll_71 s2 l1 l2)
def mo_pullAll_35 (σ : MS) (l1 l2 : Int32) : Option (Int32 × MS) :=
if (l2 &&& (4 : Int32)) = 0 then (mo_pullAll_52 σ l1 l2) else (bd (mo_pull σ l1) fun v1 s1 =>
ns (my_reg s1 (upd (mx_reg s1) 1 v1)) fun s2 =>
mo_pullAll_52 s2 l1 l2)
def mo_pullAll_18 (σ : MS) (l1 l2 : Int32) : Option (Int32 × MS) :=
if (l2 &&& (2 : Int32)) = 0 then (mo_pullAll_35 σ l1 l2) else (bd (mo_pull σ l1) fun v1 s1 =>
ns (my_reg s1 (upd (mx_reg s1) 0 v1)) fun s2 =>
mo_pullAll_35 s2 l1 l2)
def mo_pullAll (σ : MS) (a1 a2 : Int32) : Option (Int32 × MS) :=
if (a2 &&& (1 : Int32)) = 0 then (mo_pullAll_18 σ a1 a2) else (bd (mo_pull σ a1) fun v1 s1 =>
ns (my_reg s1 (upd (mx_reg s1) 8 v1)) fun s2 =>
mo_pullAll_18 s2 a1 a2)
set_option maxHeartbeats 4000000 in
set_option maxRecDepth 100000 in
theorem b_mo_pullAll_177 {X : Cx} (G : Gd X bc_mo_pullAll 4 R_mod none (rmm 3 65)) (σ : MS) : J wdM X (QV wdM X) 4 177 [(0, .ref (eO (xE X) 0))] [] σ (mo_pullAll_177 σ ) := by
  unfold mo_pullAll_177
  exact j_vret G d_mo_pullAll_177
set_option maxHeartbeats 4000000 in
set_option maxRecDepth 100000 in
theorem b_mo_pullAll_157 {X : Cx} (G : Gd X bc_mo_pullAll 4 R_mod none (rmm 3 65)) (σ : MS) (l1 l2 : Int32) : J wdM X (QV wdM X) 4 157 [(0, .ref (eO (xE X) 0)), (1, .int l1), (2, .int l2)] [] σ (mo_pullAll_157 σ l1 l2) := by
  unfold mo_pullAll_157
  refine j_iload_n 2 G d_mo_pullAll_157 rfl rfl ?_
  refine j_sipush G d_mo_pullAll_158 cs_128 ?_
  refine j_iand G d_mo_pullAll_161 ?_
  refine j_ifeq G d_mo_pullAll_162 (tgt := 177) rfl ?_ ?_
  · refine j_sub [0] (L1 := [(0, .ref (eO (xE X) 0))]) rfl ?_
    exact b_mo_pullAll_177 G σ
  · refine j_aload_n 0 G d_mo_pullAll_165 rfl rfl ?_
    refine g_mo_r G d_mo_pullAll_166 ?_
    refine j_bipush G d_mo_pullAll_169 cb_6 ?_
    refine j_aload_n 0 G d_mo_pullAll_171 rfl rfl ?_
    refine j_iload_n 1 G d_mo_pullAll_172 rfl rfl ?_
    refine j_Vi1 G k_mo_pullWord mw_mo_pullWord lk_mo_mo_pullWord rc_mod d_mo_pullAll_173 rfl (Nat.le_of_ble_eq_true rfl) (fun v1 s1 => ?_)
    refine asc_Mreg (j := 6) rfl rfl G d_mo_pullAll_176 ?_
    refine j_ns (fun s2 => ?_)
    refine j_sub [0] (L1 := [(0, .ref (eO (xE X) 0))]) rfl ?_
    exact b_mo_pullAll_177 G s2
set_option maxHeartbeats 4000000 in
set_option maxRecDepth 100000 in
theorem b_mo_pullAll_154 {X : Cx} (G : Gd X bc_mo_pullAll 4 R_mod none (rmm 3 65)) (σ : MS) (l1 l2 t0 : Int32) : J wdM X (QV wdM X) 4 154 [(0, .ref (eO (xE X) 0)), (1, .int l1), (2, .int l2)] [.int t0, .ref (eO (xE X) 0)] σ (mo_pullAll_154 σ l1 l2 t0) := by
  unfold mo_pullAll_154
  refine p_mo_armed G d_mo_pullAll_154 ?_
  refine j_ns (fun s1 => ?_)
  exact b_mo_pullAll_157 G s1 l1 l2
set_option maxHeartbeats 4000000 in
set_option maxRecDepth 100000 in
theorem b_mo_pullAll_149 {X : Cx} (G : Gd X bc_mo_pullAll 4 R_mod none (rmm 3 65)) (σ : MS) (l1 l2 : Int32) : J wdM X (QV wdM X) 4 149 [(0, .ref (eO (xE X) 0)), (1, .int l1), (2, .int l2)] [.ref (eO (xE X) 0)] σ (mo_pullAll_149 σ l1 l2) := by
  unfold mo_pullAll_149
  refine j_iconst G d_mo_pullAll_149 ci_1 ?_
  refine j_goto G d_mo_pullAll_150 (tgt := 154) rfl ?_
  exact b_mo_pullAll_154 G σ l1 l2 (1 : Int32)
set_option maxHeartbeats 4000000 in
set_option maxRecDepth 100000 in
theorem b_mo_pullAll_124 {X : Cx} (G : Gd X bc_mo_pullAll 4 R_mod none (rmm 3 65)) (σ : MS) (l1 l2 t0 : Int32) : J wdM X (QV wdM X) 4 124 [(0, .ref (eO (xE X) 0)), (1, .int l1), (2, .int l2)] [.int t0] σ (mo_pullAll_124 σ l1 l2 t0) := by
  unfold mo_pullAll_124
  refine j_istore_n [1, 2, 3, 0] (L1 := [(0, .ref (eO (xE X) 0)), (1, .int l1), (2, .int l2), (3, .int t0)]) G d_mo_pullAll_124 rfl (by decide) rfl ?_
  refine j_aload_n 0 G d_mo_pullAll_125 rfl rfl ?_
  refine g_mo_r G d_mo_pullAll_126 ?_
  refine j_iload_n 3 G d_mo_pullAll_129 rfl rfl ?_
  refine j_aload_n 0 G d_mo_pullAll_130 rfl rfl ?_
  refine j_iload_n 1 G d_mo_pullAll_131 rfl rfl ?_
  refine j_Vi1 G k_mo_pullWord mw_mo_pullWord lk_mo_mo_pullWord rc_mod d_mo_pullAll_132 rfl (Nat.le_of_ble_eq_true rfl) (fun v1 s1 => ?_)
  refine as_Mreg G d_mo_pullAll_135 ?_
  refine j_ns (fun s2 => ?_)
  refine j_aload_n 0 G d_mo_pullAll_136 rfl rfl ?_
  refine j_aload_n 0 G d_mo_pullAll_137 rfl rfl ?_
  refine g_mo_armed G d_mo_pullAll_138 ?_
  refine j_ifne G d_mo_pullAll_141 (tgt := 149) rfl ?_ ?_
  · refine j_sub [0, 1, 2] (L1 := [(0, .ref (eO (xE X) 0)), (1, .int l1), (2, .int l2)]) rfl ?_
    exact b_mo_pullAll_149 G s2 l1 l2
  · refine j_iload_n 3 G d_mo_pullAll_144 rfl rfl ?_
    refine j_iconst G d_mo_pullAll_145 ci_5 ?_
    refine j_icne G d_mo_pullAll_146 (tgt := 153) rfl ?_ ?_
    · refine j_iconst G d_mo_pullAll_153 ci_0 ?_
      refine j_sub [0, 1, 2] (L1 := [(0, .ref (eO (xE X) 0)), (1, .int l1), (2, .int l2)]) rfl ?_
      exact b_mo_pullAll_154 G s2 l1 l2 (0 : Int32)
    · refine j_sub [0, 1, 2] (L1 := [(0, .ref (eO (xE X) 0)), (1, .int l1), (2, .int l2)]) rfl ?_
      exact b_mo_pullAll_149 G s2 l1 l2
set_option maxHeartbeats 4000000 in
set_option maxRecDepth 100000 in
theorem b_mo_pullAll_107 {X : Cx} (G : Gd X bc_mo_pullAll 4 R_mod none (rmm 3 65)) (σ : MS) (l1 l2 : Int32) : J wdM X (QV wdM X) 4 107 [(0, .ref (eO (xE X) 0)), (1, .int l1), (2, .int l2)] [] σ (mo_pullAll_107 σ l1 l2) := by
  unfold mo_pullAll_107
  refine j_iload_n 2 G d_mo_pullAll_107 rfl rfl ?_
  refine j_bipush G d_mo_pullAll_108 cb_64 ?_
  refine j_iand G d_mo_pullAll_110 ?_
  refine j_ifeq G d_mo_pullAll_111 (tgt := 157) rfl ?_ ?_
  · exact b_mo_pullAll_157 G σ l1 l2
  · refine j_iload_n 1 G d_mo_pullAll_114 rfl rfl ?_
    refine j_iconst G d_mo_pullAll_115 ci_5 ?_
    refine j_icne G d_mo_pullAll_116 (tgt := 123) rfl ?_ ?_
    · refine j_iconst G d_mo_pullAll_123 ci_5 ?_
      exact b_mo_pullAll_124 G σ l1 l2 (5 : Int32)
    · refine j_iconst G d_mo_pullAll_119 ci_4 ?_
      refine j_goto G d_mo_pullAll_120 (tgt := 124) rfl ?_
      exact b_mo_pullAll_124 G σ l1 l2 (4 : Int32)
set_option maxHeartbeats 4000000 in
set_option maxRecDepth 100000 in
theorem b_mo_pullAll_89 {X : Cx} (G : Gd X bc_mo_pullAll 4 R_mod none (rmm 3 65)) (σ : MS) (l1 l2 : Int32) : J wdM X (QV wdM X) 4 89 [(0, .ref (eO (xE X) 0)), (1, .int l1), (2, .int l2)] [] σ (mo_pullAll_89 σ l1 l2) := by
  unfold mo_pullAll_89
  refine j_iload_n 2 G d_mo_pullAll_89 rfl rfl ?_
  refine j_bipush G d_mo_pullAll_90 cb_32 ?_
  refine j_iand G d_mo_pullAll_92 ?_
  refine j_ifeq G d_mo_pullAll_93 (tgt := 107) rfl ?_ ?_
  · exact b_mo_pullAll_107 G σ l1 l2
  · refine j_aload_n 0 G d_mo_pullAll_96 rfl rfl ?_
    refine g_mo_r G d_mo_pullAll_97 ?_
    refine j_iconst G d_mo_pullAll_100 ci_3 ?_
    refine j_aload_n 0 G d_mo_pullAll_101 rfl rfl ?_
    refine j_iload_n 1 G d_mo_pullAll_102 rfl rfl ?_
    refine j_Vi1 G k_mo_pullWord mw_mo_pullWord lk_mo_mo_pullWord rc_mod d_mo_pullAll_103 rfl (Nat.le_of_ble_eq_true rfl) (fun v1 s1 => ?_)
    refine asc_Mreg (j := 3) rfl rfl G d_mo_pullAll_106 ?_
    refine j_ns (fun s2 => ?_)
    exact b_mo_pullAll_107 G s2 l1 l2
set_option maxHeartbeats 4000000 in
set_option maxRecDepth 100000 in
theorem b_mo_pullAll_71 {X : Cx} (G : Gd X bc_mo_pullAll 4 R_mod none (rmm 3 65)) (σ : MS) (l1 l2 : Int32) : J wdM X (QV wdM X) 4 71 [(0, .ref (eO (xE X) 0)), (1, .int l1), (2, .int l2)] [] σ (mo_pullAll_71 σ l1 l2) := by
  unfold mo_pullAll_71
  refine j_iload_n 2 G d_mo_pullAll_71 rfl rfl ?_
  refine j_bipush G d_mo_pullAll_72 cb_16 ?_
  refine j_iand G d_mo_pullAll_74 ?_
  refine j_ifeq G d_mo_pullAll_75 (tgt := 89) rfl ?_ ?_
  · exact b_mo_pullAll_89 G σ l1 l2
  · refine j_aload_n 0 G d_mo_pullAll_78 rfl rfl ?_
    refine g_mo_r G d_mo_pullAll_79 ?_
    refine j_iconst G d_mo_pullAll_82 ci_2 ?_
    refine j_aload_n 0 G d_mo_pullAll_83 rfl rfl ?_
    refine j_iload_n 1 G d_mo_pullAll_84 rfl rfl ?_
    refine j_Vi1 G k_mo_pullWord mw_mo_pullWord lk_mo_mo_pullWord rc_mod d_mo_pullAll_85 rfl (Nat.le_of_ble_eq_true rfl) (fun v1 s1 => ?_)
    refine asc_Mreg (j := 2) rfl rfl G d_mo_pullAll_88 ?_
    refine j_ns (fun s2 => ?_)
    exact b_mo_pullAll_89 G s2 l1 l2
set_option maxHeartbeats 4000000 in
set_option maxRecDepth 100000 in
theorem b_mo_pullAll_52 {X : Cx} (G : Gd X bc_mo_pullAll 4 R_mod none (rmm 3 65)) (σ : MS) (l1 l2 : Int32) : J wdM X (QV wdM X) 4 52 [(0, .ref (eO (xE X) 0)), (1, .int l1), (2, .int l2)] [] σ (mo_pullAll_52 σ l1 l2) := by
  unfold mo_pullAll_52
  refine j_iload_n 2 G d_mo_pullAll_52 rfl rfl ?_
  refine j_bipush G d_mo_pullAll_53 cb_8 ?_
  refine j_iand G d_mo_pullAll_55 ?_
  refine j_ifeq G d_mo_pullAll_56 (tgt := 71) rfl ?_ ?_
  · exact b_mo_pullAll_71 G σ l1 l2
  · refine j_aload_n 0 G d_mo_pullAll_59 rfl rfl ?_
    refine g_mo_r G d_mo_pullAll_60 ?_
    refine j_bipush G d_mo_pullAll_63 cb_7 ?_
    refine j_aload_n 0 G d_mo_pullAll_65 rfl rfl ?_
    refine j_iload_n 1 G d_mo_pullAll_66 rfl rfl ?_
    refine j_Vi1 G k_mo_pull mw_mo_pull lk_mo_mo_pull rc_mod d_mo_pullAll_67 rfl (Nat.le_of_ble_eq_true rfl) (fun v1 s1 => ?_)
    refine asc_Mreg (j := 7) rfl rfl G d_mo_pullAll_70 ?_
    refine j_ns (fun s2 => ?_)
    exact b_mo_pullAll_71 G s2 l1 l2
set_option maxHeartbeats 4000000 in
set_option maxRecDepth 100000 in
theorem b_mo_pullAll_35 {X : Cx} (G : Gd X bc_mo_pullAll 4 R_mod none (rmm 3 65)) (σ : MS) (l1 l2 : Int32) : J wdM X (QV wdM X) 4 35 [(0, .ref (eO (xE X) 0)), (1, .int l1), (2, .int l2)] [] σ (mo_pullAll_35 σ l1 l2) := by
  unfold mo_pullAll_35
  refine j_iload_n 2 G d_mo_pullAll_35 rfl rfl ?_
  refine j_iconst G d_mo_pullAll_36 ci_4 ?_
  refine j_iand G d_mo_pullAll_37 ?_
  refine j_ifeq G d_mo_pullAll_38 (tgt := 52) rfl ?_ ?_
  · exact b_mo_pullAll_52 G σ l1 l2
  · refine j_aload_n 0 G d_mo_pullAll_41 rfl rfl ?_
    refine g_mo_r G d_mo_pullAll_42 ?_
    refine j_iconst G d_mo_pullAll_45 ci_1 ?_
    refine j_aload_n 0 G d_mo_pullAll_46 rfl rfl ?_
    refine j_iload_n 1 G d_mo_pullAll_47 rfl rfl ?_
    refine j_Vi1 G k_mo_pull mw_mo_pull lk_mo_mo_pull rc_mod d_mo_pullAll_48 rfl (Nat.le_of_ble_eq_true rfl) (fun v1 s1 => ?_)
    refine asc_Mreg (j := 1) rfl rfl G d_mo_pullAll_51 ?_
    refine j_ns (fun s2 => ?_)
    exact b_mo_pullAll_52 G s2 l1 l2
set_option maxHeartbeats 4000000 in
set_option maxRecDepth 100000 in
theorem b_mo_pullAll_18 {X : Cx} (G : Gd X bc_mo_pullAll 4 R_mod none (rmm 3 65)) (σ : MS) (l1 l2 : Int32) : J wdM X (QV wdM X) 4 18 [(0, .ref (eO (xE X) 0)), (1, .int l1), (2, .int l2)] [] σ (mo_pullAll_18 σ l1 l2) := by
  unfold mo_pullAll_18
  refine j_iload_n 2 G d_mo_pullAll_18 rfl rfl ?_
  refine j_iconst G d_mo_pullAll_19 ci_2 ?_
  refine j_iand G d_mo_pullAll_20 ?_
  refine j_ifeq G d_mo_pullAll_21 (tgt := 35) rfl ?_ ?_
  · exact b_mo_pullAll_35 G σ l1 l2
  · refine j_aload_n 0 G d_mo_pullAll_24 rfl rfl ?_
    refine g_mo_r G d_mo_pullAll_25 ?_
    refine j_iconst G d_mo_pullAll_28 ci_0 ?_
    refine j_aload_n 0 G d_mo_pullAll_29 rfl rfl ?_
    refine j_iload_n 1 G d_mo_pullAll_30 rfl rfl ?_
    refine j_Vi1 G k_mo_pull mw_mo_pull lk_mo_mo_pull rc_mod d_mo_pullAll_31 rfl (Nat.le_of_ble_eq_true rfl) (fun v1 s1 => ?_)
    refine asc_Mreg (j := 0) rfl rfl G d_mo_pullAll_34 ?_
    refine j_ns (fun s2 => ?_)
    exact b_mo_pullAll_35 G s2 l1 l2
set_option maxHeartbeats 4000000 in
set_option maxRecDepth 100000 in
theorem b_mo_pullAll {X : Cx} (G : Gd X bc_mo_pullAll 4 R_mod none (rmm 3 65)) (σ : MS) (a1 a2 : Int32) : J wdM X (QV wdM X) 4 0 [(0, .ref (eO (xE X) 0)), (1, .int a1), (2, .int a2)] [] σ (mo_pullAll σ a1 a2) := by
  unfold mo_pullAll
  refine j_iload_n 2 G d_mo_pullAll_0 rfl rfl ?_
  refine j_iconst G d_mo_pullAll_1 ci_1 ?_
  refine j_iand G d_mo_pullAll_2 ?_
  refine j_ifeq G d_mo_pullAll_3 (tgt := 18) rfl ?_ ?_
  · exact b_mo_pullAll_18 G σ a1 a2
  · refine j_aload_n 0 G d_mo_pullAll_6 rfl rfl ?_
    refine g_mo_r G d_mo_pullAll_7 ?_
    refine j_bipush G d_mo_pullAll_10 cb_8 ?_
    refine j_aload_n 0 G d_mo_pullAll_12 rfl rfl ?_
    refine j_iload_n 1 G d_mo_pullAll_13 rfl rfl ?_
    refine j_Vi1 G k_mo_pull mw_mo_pull lk_mo_mo_pull rc_mod d_mo_pullAll_14 rfl (Nat.le_of_ble_eq_true rfl) (fun v1 s1 => ?_)
    refine asc_Mreg (j := 8) rfl rfl G d_mo_pullAll_17 ?_
    refine j_ns (fun s2 => ?_)
    exact b_mo_pullAll_18 G s2 a1 a2
set_option maxHeartbeats 4000000 in
set_option maxRecDepth 100000 in
theorem k_mo_pullAll {l : Launch} {E : Ev} {σ : MS} {a1 a2 : Int32} : CtV wdM l E y_mo_pullAll bc_mo_pullAll 4 none (rmm 3 65) [.ref (eO E 0), .int a1, .int a2] σ (mo_pullAll σ a1 a2) := ct_v (by decide) (Nat.le_of_ble_eq_true rfl) (fun X hE _ G => by subst hE; exact b_mo_pullAll G σ a1 a2)
