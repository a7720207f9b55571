def me_has_16 (σ : CS) (t0 : Int32) : Option (Int32 × CS) :=
gd (isB t0) (some (t0, σ))
def me_has_15 (σ : CS) : Option (Int32 × CS) :=
me_has_16 σ (0 : Int32)
def me_has (σ : CS) (a1 : Int32) : Option (Int32 × CS) :=
if a1 < 0 then (me_has_15 σ) else (if (4096 : Int32) ≤ a1 then (me_has_15 σ) else (me_has_16 σ (1 : Int32)))
set_option maxHeartbeats 4000000 in
set_option maxRecDepth 100000 in
theorem b_me_has_16 {X : Cx} (G : Gd X bc_me_has 1 R_mem (some .boolean) (rmm 0 0)) (σ : CS) (t0 : Int32) : J wdC X (QI wdC X) 1 16 [] [.int t0] σ (me_has_16 σ t0) := by
  unfold me_has_16
  exact j_zret G d_me_has_16
set_option maxHeartbeats 4000000 in
set_option maxRecDepth 100000 in
theorem b_me_has_15 {X : Cx} (G : Gd X bc_me_has 1 R_mem (some .boolean) (rmm 0 0)) (σ : CS) : J wdC X (QI wdC X) 1 15 [] [] σ (me_has_15 σ ) := by
  unfold me_has_15
  refine j_iconst G d_me_has_15 ci_0 ?_
  exact b_me_has_16 G σ (0 : Int32)
set_option maxHeartbeats 4000000 in
set_option maxRecDepth 100000 in
theorem b_me_has {X : Cx} (G : Gd X bc_me_has 1 R_mem (some .boolean) (rmm 0 0)) (σ : CS) (a1 : Int32) : J wdC X (QI wdC X) 1 0 [(0, .int a1)] [] σ (me_has σ a1) := by
  unfold me_has
  refine j_iload_n 0 G d_me_has_0 rfl rfl ?_
  refine j_iflt G d_me_has_1 (tgt := 15) rfl ?_ ?_
  · refine j_sub [] (L1 := []) rfl ?_
    exact b_me_has_15 G σ
  · refine j_iload_n 0 G d_me_has_4 rfl rfl ?_
    refine j_sipush G d_me_has_5 cs_4096 ?_
    refine j_icge G d_me_has_8 (tgt := 15) rfl ?_ ?_
    · refine j_sub [] (L1 := []) rfl ?_
      exact b_me_has_15 G σ
    · refine j_iconst G d_me_has_11 ci_1 ?_
      refine j_goto G d_me_has_12 (tgt := 16) rfl ?_
      refine j_sub [] (L1 := []) rfl ?_
      exact b_me_has_16 G σ (1 : Int32)
set_option maxHeartbeats 4000000 in
set_option maxRecDepth 100000 in
theorem k_me_has {l : Launch} {E : Ev} {σ : CS} {a1 : Int32} : CtI wdC l E y_me_has bc_me_has 1 (some .boolean) (rmm 0 0) [.int a1] σ (me_has σ a1) := ct_i (by decide) (Nat.le_of_ble_eq_true rfl) (fun X hE _ G => by subst hE; exact b_me_has G σ a1)
def me_byteAt (σ : CS) (a1 : Int32) : Option (Int32 × CS) :=
gd (okI (a1 &&& (4095 : Int32)) 4096) (
nm (cx_mem σ (a1 &&& (4095 : Int32)).toNatClampNeg) fun v1 =>
some (v1, σ))
set_option maxHeartbeats 4000000 in
set_option maxRecDepth 100000 in
theorem b_me_byteAt {X : Cx} (G : Gd X bc_me_byteAt 2 R_mem (some .int) (rmm 0 0)) (σ : CS) (a1 : Int32) : J wdC X (QI wdC X) 2 0 [(0, .ref (eO (xE X) 1)), (1, .int a1)] [] σ (me_byteAt σ a1) := by
  unfold me_byteAt
  refine j_aload_n 0 G d_me_byteAt_0 rfl rfl ?_
  refine g_me_bytes G d_me_byteAt_1 ?_
  refine j_iload_n 1 G d_me_byteAt_4 rfl rfl ?_
  refine j_sipush G d_me_byteAt_5 cs_4095 ?_
  refine j_iand G d_me_byteAt_8 ?_
  refine al_Cmem G d_me_byteAt_9 ?_
  refine j_nm (fun v1 => ?_)
  exact j_iret G d_me_byteAt_10
set_option maxHeartbeats 4000000 in
set_option maxRecDepth 100000 in
theorem k_me_byteAt {l : Launch} {E : Ev} {σ : CS} {a1 : Int32} : CtI wdC l E y_me_byteAt bc_me_byteAt 2 (some .int) (rmm 0 0) [.ref (eO E 1), .int a1] σ (me_byteAt σ a1) := ct_i (by decide) (Nat.le_of_ble_eq_true rfl) (fun X hE _ G => by subst hE; exact b_me_byteAt G σ a1)
def me_setByte (σ : CS) (a1 a2 : Int32) : Option (Int32 × CS) :=
nm (a2 &&& (255 : Int32)) fun v1 =>
gd (okI (a1 &&& (4095 : Int32)) 4096) (
ns (cy_mem σ (upd (cx_mem σ) (a1 &&& (4095 : Int32)).toNatClampNeg v1)) fun s1 =>
some ((0 : Int32), s1))
set_option maxHeartbeats 4000000 in
set_option maxRecDepth 100000 in
theorem b_me_setByte {X : Cx} (G : Gd X bc_me_setByte 3 R_mem none (rmm 0 0)) (σ : CS) (a1 a2 : Int32) : J wdC X (QV wdC X) 3 0 [(0, .ref (eO (xE X) 1)), (1, .int a1), (2, .int a2)] [] σ (me_setByte σ a1 a2) := by
  unfold me_setByte
  refine j_aload_n 0 G d_me_setByte_0 rfl rfl ?_
  refine g_me_bytes G d_me_setByte_1 ?_
  refine j_iload_n 1 G d_me_setByte_4 rfl rfl ?_
  refine j_sipush G d_me_setByte_5 cs_4095 ?_
  refine j_iand G d_me_setByte_8 ?_
  refine j_iload_n 2 G d_me_setByte_9 rfl rfl ?_
  refine j_sipush G d_me_setByte_10 cs_255 ?_
  refine j_iand G d_me_setByte_13 ?_
  refine j_nm (fun v1 => ?_)
  refine as_Cmem G d_me_setByte_14 ?_
  refine j_ns (fun s1 => ?_)
  exact j_vret G d_me_setByte_15
set_option maxHeartbeats 4000000 in
set_option maxRecDepth 100000 in
theorem k_me_setByte {l : Launch} {E : Ev} {σ : CS} {a1 a2 : Int32} : CtV wdC l E y_me_setByte bc_me_setByte 3 none (rmm 0 0) [.ref (eO E 1), .int a1, .int a2] σ (me_setByte σ a1 a2) := ct_v (by decide) (Nat.le_of_ble_eq_true rfl) (fun X hE _ G => by subst hE; exact b_me_setByte G σ a1 a2)
def me_wordAt (σ : CS) (a1 : Int32) : Option (Int32 × CS) :=
gd (okI (a1 &&& (4095 : Int32)) 4096) (
nm (cx_mem σ (a1 &&& (4095 : Int32)).toNatClampNeg) fun v1 =>
gd (okI ((a1 + (1 : Int32)) &&& (4095 : Int32)) 4096) (
nm (cx_mem σ ((a1 + (1 : Int32)) &&& (4095 : Int32)).toNatClampNeg) fun v2 =>
some (((v1 <<< ((8 : Int32) &&& 31)) ||| v2), σ)))
set_option maxHeartbeats 4000000 in
set_option maxRecDepth 100000 in
theorem b_me_wordAt {X : Cx} (G : Gd X bc_me_wordAt 2 R_mem (some .int) (rmm 0 0)) (σ : CS) (a1 : Int32) : J wdC X (QI wdC X) 2 0 [(0, .ref (eO (xE X) 1)), (1, .int a1)] [] σ (me_wordAt σ a1) := by
  unfold me_wordAt
  refine j_aload_n 0 G d_me_wordAt_0 rfl rfl ?_
  refine g_me_bytes G d_me_wordAt_1 ?_
  refine j_iload_n 1 G d_me_wordAt_4 rfl rfl ?_
  refine j_sipush G d_me_wordAt_5 cs_4095 ?_
  refine j_iand G d_me_wordAt_8 ?_
  refine al_Cmem G d_me_wordAt_9 ?_
  refine j_nm (fun v1 => ?_)
  refine j_bipush G d_me_wordAt_10 cb_8 ?_
  refine j_ishl G d_me_wordAt_12 ?_
  refine j_aload_n 0 G d_me_wordAt_13 rfl rfl ?_
  refine g_me_bytes G d_me_wordAt_14 ?_
  refine j_iload_n 1 G d_me_wordAt_17 rfl rfl ?_
  refine j_iconst G d_me_wordAt_18 ci_1 ?_
  refine j_iadd G d_me_wordAt_19 ?_
  refine j_sipush G d_me_wordAt_20 cs_4095 ?_
  refine j_iand G d_me_wordAt_23 ?_
  refine al_Cmem G d_me_wordAt_24 ?_
  refine j_nm (fun v2 => ?_)
  refine j_ior G d_me_wordAt_25 ?_
  exact j_iret G d_me_wordAt_26
set_option maxHeartbeats 4000000 in
set_option maxRecDepth 100000 in
theorem k_me_wordAt {l : Launch} {E : Ev} {σ : CS} {a1 : Int32} : CtI wdC l E y_me_wordAt bc_me_wordAt 2 (some .int) (rmm 0 0) [.ref (eO E 1), .int a1] σ (me_wordAt σ a1) := ct_i (by decide) (Nat.le_of_ble_eq_true rfl) (fun X hE _ G => by subst hE; exact b_me_wordAt G σ a1)
def me_setWord (σ : CS) (a1 a2 : Int32) : Option (Int32 × CS) :=
nm ((a2 >>> ((8 : Int32) &&& 31)) &&& (255 : Int32)) fun v1 =>
gd (okI (a1 &&& (4095 : Int32)) 4096) (
ns (cy_mem σ (upd (cx_mem σ) (a1 &&& (4095 : Int32)).toNatClampNeg v1)) fun s1 =>
nm (a2 &&& (255 : Int32)) fun v2 =>
gd (okI ((a1 + (1 : Int32)) &&& (4095 : Int32)) 4096) (
ns (cy_mem s1 (upd (cx_mem s1) ((a1 + (1 : Int32)) &&& (4095 : Int32)).toNatClampNeg v2)) fun s2 =>
some ((0 : Int32), s2)))
set_option maxHeartbeats 4000000 in
set_option maxRecDepth 100000 in
theorem b_me_setWord {X : Cx} (G : Gd X bc_me_setWord 3 R_mem none (rmm 0 0)) (σ : CS) (a1 a2 : Int32) : J wdC X (QV wdC X) 3 0 [(0, .ref (eO (xE X) 1)), (1, .int a1), (2, .int a2)] [] σ (me_setWord σ a1 a2) := by
  unfold me_setWord
  refine j_aload_n 0 G d_me_setWord_0 rfl rfl ?_
  refine g_me_bytes G d_me_setWord_1 ?_
  refine j_iload_n 1 G d_me_setWord_4 rfl rfl ?_
  refine j_sipush G d_me_setWord_5 cs_4095 ?_
  refine j_iand G d_me_setWord_8 ?_
  refine j_iload_n 2 G d_me_setWord_9 rfl rfl ?_
  refine j_bipush G d_me_setWord_10 cb_8 ?_
  refine j_ishr G d_me_setWord_12 ?_
  refine j_sipush G d_me_setWord_13 cs_255 ?_
  refine j_iand G d_me_setWord_16 ?_
  refine j_nm (fun v1 => ?_)
  refine as_Cmem G d_me_setWord_17 ?_
  refine j_ns (fun s1 => ?_)
  refine j_aload_n 0 G d_me_setWord_18 rfl rfl ?_
  refine g_me_bytes G d_me_setWord_19 ?_
  refine j_iload_n 1 G d_me_setWord_22 rfl rfl ?_
  refine j_iconst G d_me_setWord_23 ci_1 ?_
  refine j_iadd G d_me_setWord_24 ?_
  refine j_sipush G d_me_setWord_25 cs_4095 ?_
  refine j_iand G d_me_setWord_28 ?_
  refine j_iload_n 2 G d_me_setWord_29 rfl rfl ?_
  refine j_sipush G d_me_setWord_30 cs_255 ?_
  refine j_iand G d_me_setWord_33 ?_
  refine j_nm (fun v2 => ?_)
  refine as_Cmem G d_me_setWord_34 ?_
  refine j_ns (fun s2 => ?_)
  exact j_vret G d_me_setWord_35
set_option maxHeartbeats 4000000 in
set_option maxRecDepth 100000 in
theorem k_me_setWord {l : Launch} {E : Ev} {σ : CS} {a1 a2 : Int32} : CtV wdC l E y_me_setWord bc_me_setWord 3 none (rmm 0 0) [.ref (eO E 1), .int a1, .int a2] σ (me_setWord σ a1 a2) := ct_v (by decide) (Nat.le_of_ble_eq_true rfl) (fun X hE _ G => by subst hE; exact b_me_setWord G σ a1 a2)
def re_get_31 (σ : CS) (t0 : Int32) : Option (Int32 × CS) :=
some (t0, σ)
def re_get (σ : CS) (a1 : Int32) : Option (Int32 × CS) :=
if a1 = (9 : Int32) then (re_get_31 σ (((cx_reg σ 0) <<< ((8 : Int32) &&& 31)) ||| (cx_reg σ 1))) else (gd (okI a1 9) (
nm (cx_reg σ a1.toNatClampNeg) fun v1 =>
re_get_31 σ v1))
set_option maxHeartbeats 4000000 in
set_option maxRecDepth 100000 in
theorem b_re_get_31 {X : Cx} (G : Gd X bc_re_get 2 R_reg (some .int) (rmm 0 0)) (σ : CS) (t0 : Int32) : J wdC X (QI wdC X) 2 31 [(0, .ref (eO (xE X) 3))] [.int t0] σ (re_get_31 σ t0) := by
  unfold re_get_31
  exact j_iret G d_re_get_31
set_option maxHeartbeats 4000000 in
set_option maxRecDepth 100000 in
theorem b_re_get {X : Cx} (G : Gd X bc_re_get 2 R_reg (some .int) (rmm 0 0)) (σ : CS) (a1 : Int32) : J wdC X (QI wdC X) 2 0 [(0, .ref (eO (xE X) 3)), (1, .int a1)] [] σ (re_get σ a1) := by
  unfold re_get
  refine j_iload_n 1 G d_re_get_0 rfl rfl ?_
  refine j_bipush G d_re_get_1 cb_9 ?_
  refine j_icne G d_re_get_3 (tgt := 25) rfl ?_ ?_
  · refine j_aload_n 0 G d_re_get_25 rfl rfl ?_
    refine g_re_values G d_re_get_26 ?_
    refine j_iload_n 1 G d_re_get_29 rfl rfl ?_
    refine al_Creg G d_re_get_30 ?_
    refine j_nm (fun v1 => ?_)
    refine j_sub [0] (L1 := [(0, .ref (eO (xE X) 3))]) rfl ?_
    exact b_re_get_31 G σ v1
  · refine j_aload_n 0 G d_re_get_6 rfl rfl ?_
    refine g_re_values G d_re_get_7 ?_
    refine j_iconst G d_re_get_10 ci_0 ?_
    refine alc_Creg (j := 0) rfl rfl G d_re_get_11 ?_
    refine j_bipush G d_re_get_12 cb_8 ?_
    refine j_ishl G d_re_get_14 ?_
    refine j_aload_n 0 G d_re_get_15 rfl rfl ?_
    refine g_re_values G d_re_get_16 ?_
    refine j_iconst G d_re_get_19 ci_1 ?_
    refine alc_Creg (j := 1) rfl rfl G d_re_get_20 ?_
    refine j_ior G d_re_get_21 ?_
    refine j_goto G d_re_get_22 (tgt := 31) rfl ?_
    refine j_sub [0] (L1 := [(0, .ref (eO (xE X) 3))]) rfl ?_
    exact b_re_get_31 G σ (((cx_reg σ 0) <<< ((8 : Int32) &&& 31)) ||| (cx_reg σ 1))
set_option maxHeartbeats 4000000 in
set_option maxRecDepth 100000 in
theorem k_re_get {l : Launch} {E : Ev} {σ : CS} {a1 : Int32} : CtI wdC l E y_re_get bc_re_get 2 (some .int) (rmm 0 0) [.ref (eO E 3), .int a1] σ (re_get σ a1) := ct_i (by decide) (Nat.le_of_ble_eq_true rfl) (fun X hE _ G => by subst hE; exact b_re_get G σ a1)
def re_set_73 (σ : CS) : Option (Int32 × CS) :=
some ((0 : Int32), σ)
def re_set_72 (σ : CS) (t0 t1 : Int32) : Option (Int32 × CS) :=
gd (okI t1 9) (
ns (cy_reg σ (upd (cx_reg σ) t1.toNatClampNeg t0)) fun s1 =>
re_set_73 s1)
def re_set_50 (σ : CS) (l1 l2 t0 : Int32) : Option (Int32 × CS) :=
if t0 = 0 then (re_set_72 σ (l2 &&& (255 : Int32)) l1) else (re_set_72 σ (l2 &&& (65535 : Int32)) l1)
def re_set_49 (σ : CS) (l1 l2 : Int32) : Option (Int32 × CS) :=
re_set_50 σ l1 l2 (0 : Int32)
def re_set (σ : CS) (a1 a2 : Int32) : Option (Int32 × CS) :=
if a1 = (9 : Int32) then (nm ((a2 >>> ((8 : Int32) &&& 31)) &&& (255 : Int32)) fun v1 =>
ns (cy_reg σ (upd (cx_reg σ) 0 v1)) fun s1 =>
nm (a2 &&& (255 : Int32)) fun v2 =>
ns (cy_reg s1 (upd (cx_reg s1) 1 v2)) fun s2 =>
re_set_73 s2) else (if a1 < (2 : Int32) then (re_set_49 σ a1 a2) else (if (6 : Int32) < a1 then (re_set_49 σ a1 a2) else (re_set_50 σ a1 a2 (1 : Int32))))
set_option maxHeartbeats 4000000 in
set_option maxRecDepth 100000 in
theorem b_re_set_73 {X : Cx} (G : Gd X bc_re_set 4 R_reg none (rmm 0 0)) (σ : CS) : J wdC X (QV wdC X) 4 73 [(0, .ref (eO (xE X) 3))] [] σ (re_set_73 σ ) := by
  unfold re_set_73
  exact j_vret G d_re_set_73
set_option maxHeartbeats 4000000 in
set_option maxRecDepth 100000 in
theorem b_re_set_72 {X : Cx} (G : Gd X bc_re_set 4 R_reg none (rmm 0 0)) (σ : CS) (t0 t1 : Int32) : J wdC X (QV wdC X) 4 72 [(0, .ref (eO (xE X) 3))] [.int t0, .int t1, .ref (eO (xE X) 4)] σ (re_set_72 σ t0 t1) := by
  unfold re_set_72
  refine as_Creg G d_re_set_72 ?_
  refine j_ns (fun s1 => ?_)
  exact b_re_set_73 G s1
set_option maxHeartbeats 4000000 in
set_option maxRecDepth 100000 in
theorem b_re_set_50 {X : Cx} (G : Gd X bc_re_set 4 R_reg none (rmm 0 0)) (σ : CS) (l1 l2 t0 : Int32) : J wdC X (QV wdC X) 4 50 [(0, .ref (eO (xE X) 3)), (1, .int l1), (2, .int l2)] [.int t0] σ (re_set_50 σ l1 l2 t0) := by
  unfold re_set_50
  refine j_istore_n [1, 2, 3, 0] (L1 := [(0, .ref (eO (xE X) 3)), (1, .int l1), (2, .int l2), (3, .int t0)]) G d_re_set_50 rfl (by decide) rfl ?_
  refine j_aload_n 0 G d_re_set_51 rfl rfl ?_
  refine g_re_values G d_re_set_52 ?_
  refine j_iload_n 1 G d_re_set_55 rfl rfl ?_
  refine j_iload_n 3 G d_re_set_56 rfl rfl ?_
  refine j_ifeq G d_re_set_57 (tgt := 67) rfl ?_ ?_
  · refine j_iload_n 2 G d_re_set_67 rfl rfl ?_
    refine j_sipush G d_re_set_68 cs_255 ?_
    refine j_iand G d_re_set_71 ?_
    refine j_sub [0] (L1 := [(0, .ref (eO (xE X) 3))]) rfl ?_
    exact b_re_set_72 G σ (l2 &&& (255 : Int32)) l1
  · refine j_iload_n 2 G d_re_set_60 rfl rfl ?_
    refine j_ldc G d_re_set_61 kc_re_15 ?_
    refine j_iand G d_re_set_63 ?_
    refine j_goto G d_re_set_64 (tgt := 72) rfl ?_
    refine j_sub [0] (L1 := [(0, .ref (eO (xE X) 3))]) rfl ?_
    exact b_re_set_72 G σ (l2 &&& (65535 : Int32)) l1
set_option maxHeartbeats 4000000 in
set_option maxRecDepth 100000 in
theorem b_re_set_49 {X : Cx} (G : Gd X bc_re_set 4 R_reg none (rmm 0 0)) (σ : CS) (l1 l2 : Int32) : J wdC X (QV wdC X) 4 49 [(0, .ref (eO (xE X) 3)), (1, .int l1), (2, .int l2)] [] σ (re_set_49 σ l1 l2) := by
  unfold re_set_49
  refine j_iconst G d_re_set_49 ci_0 ?_
  exact b_re_set_50 G σ l1 l2 (0 : Int32)
set_option maxHeartbeats 4000000 in
set_option maxRecDepth 100000 in
theorem b_re_set {X : Cx} (G : Gd X bc_re_set 4 R_reg none (rmm 0 0)) (σ : CS) (a1 a2 : Int32) : J wdC X (QV wdC X) 4 0 [(0, .ref (eO (xE X) 3)), (1, .int a1), (2, .int a2)] [] σ (re_set σ a1 a2) := by
  unfold re_set
  refine j_iload_n 1 G d_re_set_0 rfl rfl ?_
  refine j_bipush G d_re_set_1 cb_9 ?_
  refine j_icne G d_re_set_3 (tgt := 34) rfl ?_ ?_
  · refine j_iload_n 1 G d_re_set_34 rfl rfl ?_
    refine j_iconst G d_re_set_35 ci_2 ?_
    refine j_iclt G d_re_set_36 (tgt := 49) rfl ?_ ?_
    · exact b_re_set_49 G σ a1 a2
    · refine j_iload_n 1 G d_re_set_39 rfl rfl ?_
      refine j_bipush G d_re_set_40 cb_6 ?_
      refine j_icgt G d_re_set_42 (tgt := 49) rfl ?_ ?_
      · exact b_re_set_49 G σ a1 a2
      · refine j_iconst G d_re_set_45 ci_1 ?_
        refine j_goto G d_re_set_46 (tgt := 50) rfl ?_
        exact b_re_set_50 G σ a1 a2 (1 : Int32)
  · refine j_aload_n 0 G d_re_set_6 rfl rfl ?_
    refine g_re_values G d_re_set_7 ?_
    refine j_iconst G d_re_set_10 ci_0 ?_
    refine j_iload_n 2 G d_re_set_11 rfl rfl ?_
    refine j_bipush G d_re_set_12 cb_8 ?_
    refine j_ishr G d_re_set_14 ?_
    refine j_sipush G d_re_set_15 cs_255 ?_
    refine j_iand G d_re_set_18 ?_
    refine j_nm (fun v1 => ?_)
    refine asc_Creg (j := 0) rfl rfl G d_re_set_19 ?_
    refine j_ns (fun s1 => ?_)
    refine j_aload_n 0 G d_re_set_20 rfl rfl ?_
    refine g_re_values G d_re_set_21 ?_
    refine j_iconst G d_re_set_24 ci_1 ?_
    refine j_iload_n 2 G d_re_set_25 rfl rfl ?_
    refine j_sipush G d_re_set_26 cs_255 ?_
    refine j_iand G d_re_set_29 ?_
    refine j_nm (fun v2 => ?_)
    refine asc_Creg (j := 1) rfl rfl G d_re_set_30 ?_
    refine j_ns (fun s2 => ?_)
    refine j_goto G d_re_set_31 (tgt := 73) rfl ?_
    refine j_sub [0] (L1 := [(0, .ref (eO (xE X) 3))]) rfl ?_
    exact b_re_set_73 G s2
set_option maxHeartbeats 4000000 in
set_option maxRecDepth 100000 in
theorem k_re_set {l : Launch} {E : Ev} {σ : CS} {a1 a2 : Int32} : CtV wdC l E y_re_set bc_re_set 4 none (rmm 0 0) [.ref (eO E 3), .int a1, .int a2] σ (re_set σ a1 a2) := ct_v (by decide) (Nat.le_of_ble_eq_true rfl) (fun X hE _ G => by subst hE; exact b_re_set G σ a1 a2)
def re_has_17 (σ : CS) (t0 : Int32) : Option (Int32 × CS) :=
gd (isB t0) (some (t0, σ))
def re_has (σ : CS) (a1 : Int32) : Option (Int32 × CS) :=
if ((cx_reg σ 8) &&& a1) = 0 then (re_has_17 σ (0 : Int32)) else (re_has_17 σ (1 : Int32))
set_option maxHeartbeats 4000000 in
set_option maxRecDepth 100000 in
theorem b_re_has_17 {X : Cx} (G : Gd X bc_re_has 2 R_reg (some .boolean) (rmm 0 0)) (σ : CS) (t0 : Int32) : J wdC X (QI wdC X) 2 17 [(0, .ref (eO (xE X) 3))] [.int t0] σ (re_has_17 σ t0) := by
  unfold re_has_17
  exact j_zret G d_re_has_17
set_option maxHeartbeats 4000000 in
set_option maxRecDepth 100000 in
theorem b_re_has {X : Cx} (G : Gd X bc_re_has 2 R_reg (some .boolean) (rmm 0 0)) (σ : CS) (a1 : Int32) : J wdC X (QI wdC X) 2 0 [(0, .ref (eO (xE X) 3)), (1, .int a1)] [] σ (re_has σ a1) := by
  unfold re_has
  refine j_aload_n 0 G d_re_has_0 rfl rfl ?_
  refine g_re_values G d_re_has_1 ?_
  refine j_bipush G d_re_has_4 cb_8 ?_
  refine alc_Creg (j := 8) rfl rfl G d_re_has_6 ?_
  refine j_iload_n 1 G d_re_has_7 rfl rfl ?_
  refine j_iand G d_re_has_8 ?_
  refine j_ifeq G d_re_has_9 (tgt := 16) rfl ?_ ?_
  · refine j_iconst G d_re_has_16 ci_0 ?_
    refine j_sub [0] (L1 := [(0, .ref (eO (xE X) 3))]) rfl ?_
    exact b_re_has_17 G σ (0 : Int32)
  · refine j_iconst G d_re_has_12 ci_1 ?_
    refine j_goto G d_re_has_13 (tgt := 17) rfl ?_
    refine j_sub [0] (L1 := [(0, .ref (eO (xE X) 3))]) rfl ?_
    exact b_re_has_17 G σ (1 : Int32)
set_option maxHeartbeats 4000000 in
set_option maxRecDepth 100000 in
theorem k_re_has {l : Launch} {E : Ev} {σ : CS} {a1 : Int32} : CtI wdC l E y_re_has bc_re_has 2 (some .boolean) (rmm 0 0) [.ref (eO E 3), .int a1] σ (re_has σ a1) := ct_i (by decide) (Nat.le_of_ble_eq_true rfl) (fun X hE _ G => by subst hE; exact b_re_has G σ a1)
def re_turn_33 (σ : CS) (t0 t1 : Int32) : Option (Int32 × CS) :=
gd (okI t1 9) (
ns (cy_reg σ (upd (cx_reg σ) t1.toNatClampNeg t0)) fun s1 =>
some ((0 : Int32), s1))
def re_turn (σ : CS) (a1 a2 : Int32) : Option (Int32 × CS) :=
if a2 = 0 then (re_turn_33 σ ((cx_reg σ 8) &&& (a1 ^^^ (-1 : Int32))) (8 : Int32)) else (re_turn_33 σ ((cx_reg σ 8) ||| a1) (8 : Int32))
set_option maxHeartbeats 4000000 in
set_option maxRecDepth 100000 in
theorem b_re_turn_33 {X : Cx} (G : Gd X bc_re_turn 3 R_reg none (rmm 0 0)) (σ : CS) (t0 t1 : Int32) : J wdC X (QV wdC X) 3 33 [(0, .ref (eO (xE X) 3))] [.int t0, .int t1, .ref (eO (xE X) 4)] σ (re_turn_33 σ t0 t1) := by
  unfold re_turn_33
  refine as_Creg G d_re_turn_33 ?_
  refine j_ns (fun s1 => ?_)
  exact j_vret G d_re_turn_34
set_option maxHeartbeats 4000000 in
set_option maxRecDepth 100000 in
theorem b_re_turn {X : Cx} (G : Gd X bc_re_turn 3 R_reg none (rmm 0 0)) (σ : CS) (a1 a2 : Int32) : J wdC X (QV wdC X) 3 0 [(0, .ref (eO (xE X) 3)), (1, .int a1), (2, .int a2)] [] σ (re_turn σ a1 a2) := by
  unfold re_turn
  refine j_aload_n 0 G d_re_turn_0 rfl rfl ?_
  refine g_re_values G d_re_turn_1 ?_
  refine j_bipush G d_re_turn_4 cb_8 ?_
  refine j_iload_n 2 G d_re_turn_6 rfl rfl ?_
  refine j_ifeq G d_re_turn_7 (tgt := 22) rfl ?_ ?_
  · refine j_aload_n 0 G d_re_turn_22 rfl rfl ?_
    refine g_re_values G d_re_turn_23 ?_
    refine j_bipush G d_re_turn_26 cb_8 ?_
    refine alc_Creg (j := 8) rfl rfl G d_re_turn_28 ?_
    refine j_iload_n 1 G d_re_turn_29 rfl rfl ?_
    refine j_iconst G d_re_turn_30 ci_m1 ?_
    refine j_ixor G d_re_turn_31 ?_
    refine j_iand G d_re_turn_32 ?_
    refine j_sub [0] (L1 := [(0, .ref (eO (xE X) 3))]) rfl ?_
    exact b_re_turn_33 G σ ((cx_reg σ 8) &&& (a1 ^^^ (-1 : Int32))) (8 : Int32)
  · refine j_aload_n 0 G d_re_turn_10 rfl rfl ?_
    refine g_re_values G d_re_turn_11 ?_
    refine j_bipush G d_re_turn_14 cb_8 ?_
    refine alc_Creg (j := 8) rfl rfl G d_re_turn_16 ?_
    refine j_iload_n 1 G d_re_turn_17 rfl rfl ?_
    refine j_ior G d_re_turn_18 ?_
    refine j_goto G d_re_turn_19 (tgt := 33) rfl ?_
    refine j_sub [0] (L1 := [(0, .ref (eO (xE X) 3))]) rfl ?_
    exact b_re_turn_33 G σ ((cx_reg σ 8) ||| a1) (8 : Int32)
set_option maxHeartbeats 4000000 in
set_option maxRecDepth 100000 in
theorem k_re_turn {l : Launch} {E : Ev} {σ : CS} {a1 a2 : Int32} : CtV wdC l E y_re_turn bc_re_turn 3 none (rmm 0 0) [.ref (eO E 3), .int a1, .int a2] σ (re_turn σ a1 a2) := ct_v (by decide) (Nat.le_of_ble_eq_true rfl) (fun X hE _ G => by subst hE; exact b_re_turn G σ a1 a2)
def re_carry (σ : CS) : Option (Int32 × CS) :=
some (((cx_reg σ 8) &&& (1 : Int32)), σ)
set_option maxHeartbeats 4000000 in
set_option maxRecDepth 100000 in
theorem b_re_carry {X : Cx} (G : Gd X bc_re_carry 1 R_reg (some .int) (rmm 0 0)) (σ : CS) : J wdC X (QI wdC X) 1 0 [(0, .ref (eO (xE X) 3))] [] σ (re_carry σ ) := by
  unfold re_carry
  refine j_aload_n 0 G d_re_carry_0 rfl rfl ?_
  refine g_re_values G d_re_carry_1 ?_
  refine j_bipush G d_re_carry_4 cb_8 ?_
  refine alc_Creg (j := 8) rfl rfl G d_re_carry_6 ?_
  refine j_iconst G d_re_carry_7 ci_1 ?_
  refine j_iand G d_re_carry_8 ?_
  exact j_iret G d_re_carry_9
set_option maxHeartbeats 4000000 in
set_option maxRecDepth 100000 in
theorem k_re_carry {l : Launch} {E : Ev} {σ : CS} : CtI wdC l E y_re_carry bc_re_carry 1 (some .int) (rmm 0 0) [.ref (eO E 3)] σ (re_carry σ ) := ct_i (by decide) (Nat.le_of_ble_eq_true rfl) (fun X hE _ G => by subst hE; exact b_re_carry G σ )
def re_setSign_22 (σ : CS) (l3 t0 : Int32) : Option (Int32 × CS) :=
nm ((((cx_reg σ 8) &&& (-13 : Int32)) ||| l3) ||| t0) fun v1 =>
ns (cy_reg σ (upd (cx_reg σ) 8 v1)) fun s1 =>
some ((0 : Int32), s1)
def re_setSign_9 (σ : CS) (l1 l2 t0 : Int32) : Option (Int32 × CS) :=
if (l1 &&& l2) = 0 then (re_setSign_22 σ t0 (0 : Int32)) else (re_setSign_22 σ t0 (8 : Int32))
def re_setSign (σ : CS) (a1 a2 : Int32) : Option (Int32 × CS) :=
if a1 = 0 then (re_setSign_9 σ a1 a2 (4 : Int32)) else (re_setSign_9 σ a1 a2 (0 : Int32))
set_option maxHeartbeats 4000000 in
set_option maxRecDepth 100000 in
theorem b_re_setSign_22 {X : Cx} (G : Gd X bc_re_setSign 5 R_reg none (rmm 0 0)) (σ : CS) (l3 t0 : Int32) : J wdC X (QV wdC X) 5 22 [(0, .ref (eO (xE X) 3)), (3, .int l3)] [.int t0] σ (re_setSign_22 σ l3 t0) := by
  unfold re_setSign_22
  refine j_istore [1, 2, 0] (L1 := [(0, .ref (eO (xE X) 3)), (3, .int l3), (4, .int t0)]) G d_re_setSign_22 (by decide) rfl ?_
  refine j_aload_n 0 G d_re_setSign_24 rfl rfl ?_
  refine g_re_values G d_re_setSign_25 ?_
  refine j_bipush G d_re_setSign_28 cb_8 ?_
  refine j_aload_n 0 G d_re_setSign_30 rfl rfl ?_
  refine g_re_values G d_re_setSign_31 ?_
  refine j_bipush G d_re_setSign_34 cb_8 ?_
  refine alc_Creg (j := 8) rfl rfl G d_re_setSign_36 ?_
  refine j_bipush G d_re_setSign_37 cb_m13 ?_
  refine j_iand G d_re_setSign_39 ?_
  refine j_iload_n 1 G d_re_setSign_40 rfl rfl ?_
  refine j_ior G d_re_setSign_41 ?_
  refine j_iload 2 G d_re_setSign_42 rfl ?_
  refine j_ior G d_re_setSign_44 ?_
  refine j_nm (fun v1 => ?_)
  refine asc_Creg (j := 8) rfl rfl G d_re_setSign_45 ?_
  refine j_ns (fun s1 => ?_)
  exact j_vret G d_re_setSign_46
set_option maxHeartbeats 4000000 in
set_option maxRecDepth 100000 in
theorem b_re_setSign_9 {X : Cx} (G : Gd X bc_re_setSign 5 R_reg none (rmm 0 0)) (σ : CS) (l1 l2 t0 : Int32) : J wdC X (QV wdC X) 5 9 [(0, .ref (eO (xE X) 3)), (1, .int l1), (2, .int l2)] [.int t0] σ (re_setSign_9 σ l1 l2 t0) := by
  unfold re_setSign_9
  refine j_istore_n [1, 2, 3, 0] (L1 := [(0, .ref (eO (xE X) 3)), (1, .int l1), (2, .int l2), (3, .int t0)]) G d_re_setSign_9 rfl (by decide) rfl ?_
  refine j_iload_n 1 G d_re_setSign_10 rfl rfl ?_
  refine j_iload_n 2 G d_re_setSign_11 rfl rfl ?_
  refine j_iand G d_re_setSign_12 ?_
  refine j_ifeq G d_re_setSign_13 (tgt := 21) rfl ?_ ?_
  · refine j_iconst G d_re_setSign_21 ci_0 ?_
    refine j_sub [0, 3] (L1 := [(0, .ref (eO (xE X) 3)), (3, .int t0)]) rfl ?_
    exact b_re_setSign_22 G σ t0 (0 : Int32)
  · refine j_bipush G d_re_setSign_16 cb_8 ?_
    refine j_goto G d_re_setSign_18 (tgt := 22) rfl ?_
    refine j_sub [0, 3] (L1 := [(0, .ref (eO (xE X) 3)), (3, .int t0)]) rfl ?_
    exact b_re_setSign_22 G σ t0 (8 : Int32)
set_option maxHeartbeats 4000000 in
set_option maxRecDepth 100000 in
theorem b_re_setSign {X : Cx} (G : Gd X bc_re_setSign 5 R_reg none (rmm 0 0)) (σ : CS) (a1 a2 : Int32) : J wdC X (QV wdC X) 5 0 [(0, .ref (eO (xE X) 3)), (1, .int a1), (2, .int a2)] [] σ (re_setSign σ a1 a2) := by
  unfold re_setSign
  refine j_iload_n 1 G d_re_setSign_0 rfl rfl ?_
  refine j_ifne G d_re_setSign_1 (tgt := 8) rfl ?_ ?_
  · refine j_iconst G d_re_setSign_8 ci_0 ?_
    exact b_re_setSign_9 G σ a1 a2 (0 : Int32)
  · refine j_iconst G d_re_setSign_4 ci_4 ?_
    refine j_goto G d_re_setSign_5 (tgt := 9) rfl ?_
    exact b_re_setSign_9 G σ a1 a2 (4 : Int32)
set_option maxHeartbeats 4000000 in
set_option maxRecDepth 100000 in
theorem k_re_setSign {l : Launch} {E : Ev} {σ : CS} {a1 a2 : Int32} : CtV wdC l E y_re_setSign bc_re_setSign 5 none (rmm 0 0) [.ref (eO E 3), .int a1, .int a2] σ (re_setSign σ a1 a2) := ct_v (by decide) (Nat.le_of_ble_eq_true rfl) (fun X hE _ G => by subst hE; exact b_re_setSign G σ a1 a2)
def re_meetsEven_136 (σ : CS) (t0 : Int32) : Option (Int32 × CS) :=
gd (isB t0) (some (t0, σ))
def re_meetsEven_107 (σ : CS) (t0 : Int32) : Option (Int32 × CS) :=
gd (isB t0) (some (t0, σ))
def re_meetsEven_79 (σ : CS) (t0 : Int32) : Option (Int32 × CS) :=
gd (isB t0) (some (t0, σ))
def re_meetsEven_121 (σ : CS) (t0 : Int32) : Option (Int32 × CS) :=
gd (isB t0) (some (t0, σ))
def re_meetsEven_156 (σ : CS) (t0 : Int32) : Option (Int32 × CS) :=
gd (isB t0) (some (t0, σ))
def re_meetsEven_155 (σ : CS) : Option (Int32 × CS) :=
re_meetsEven_156 σ (0 : Int32)
def re_meetsEven_93 (σ : CS) (t0 : Int32) : Option (Int32 × CS) :=
gd (isB t0) (some (t0, σ))
def re_meetsEven_19 (σ : CS) (l1 t0 : Int32) : Option (Int32 × CS) :=
swi l1 [((0 : Int32), 64, some ((1 : Int32), σ)),
 ((1 : Int32), 66, bd (re_has σ (5 : Int32)) fun v1 s1 =>
if v1 = 0 then (re_meetsEven_79 s1 (1 : Int32)) else (re_meetsEven_79 s1 (0 : Int32))),
 ((2 : Int32), 80, bd (re_has σ (1 : Int32)) fun v2 s2 =>
if v2 = 0 then (re_meetsEven_93 s2 (1 : Int32)) else (re_meetsEven_93 s2 (0 : Int32))),
 ((3 : Int32), 94, bd (re_has σ (4 : Int32)) fun v3 s3 =>
if v3 = 0 then (re_meetsEven_107 s3 (1 : Int32)) else (re_meetsEven_107 s3 (0 : Int32))),
 ((4 : Int32), 108, bd (re_has σ (2 : Int32)) fun v4 s4 =>
if v4 = 0 then (re_meetsEven_121 s4 (1 : Int32)) else (re_meetsEven_121 s4 (0 : Int32))),
 ((5 : Int32), 122, bd (re_has σ (8 : Int32)) fun v5 s5 =>
if v5 = 0 then (re_meetsEven_136 s5 (1 : Int32)) else (re_meetsEven_136 s5 (0 : Int32))),
 ((6 : Int32), 137, gd (isB t0) (some (t0, σ)))] (if t0 = 0 then (re_meetsEven_155 σ) else (bd (re_has σ (4 : Int32)) fun v6 s6 =>
if v6 = 0 then (re_meetsEven_156 s6 (1 : Int32)) else (re_meetsEven_155 s6)))
def re_meetsEven (σ : CS) (a1 : Int32) : Option (Int32 × CS) :=
bd (re_has σ (8 : Int32)) fun v1 s1 =>
bd (re_has s1 (2 : Int32)) fun v2 s2 =>
if v1 = v2 then (re_meetsEven_19 s2 a1 (1 : Int32)) else (re_meetsEven_19 s2 a1 (0 : Int32))
set_option maxHeartbeats 4000000 in
set_option maxRecDepth 100000 in
theorem b_re_meetsEven_136 {X : Cx} (G : Gd X bc_re_meetsEven 3 R_reg (some .boolean) (rmm 1 21)) (σ : CS) (t0 : Int32) : J wdC X (QI wdC X) 3 136 [(0, .ref (eO (xE X) 3))] [.int t0] σ (re_meetsEven_136 σ t0) := by
  unfold re_meetsEven_136
  exact j_zret G d_re_meetsEven_136
set_option maxHeartbeats 4000000 in
set_option maxRecDepth 100000 in
theorem b_re_meetsEven_107 {X : Cx} (G : Gd X bc_re_meetsEven 3 R_reg (some .boolean) (rmm 1 21)) (σ : CS) (t0 : Int32) : J wdC X (QI wdC X) 3 107 [(0, .ref (eO (xE X) 3))] [.int t0] σ (re_meetsEven_107 σ t0) := by
  unfold re_meetsEven_107
  exact j_zret G d_re_meetsEven_107
set_option maxHeartbeats 4000000 in
set_option maxRecDepth 100000 in
theorem b_re_meetsEven_79 {X : Cx} (G : Gd X bc_re_meetsEven 3 R_reg (some .boolean) (rmm 1 21)) (σ : CS) (t0 : Int32) : J wdC X (QI wdC X) 3 79 [(0, .ref (eO (xE X) 3))] [.int t0] σ (re_meetsEven_79 σ t0) := by
  unfold re_meetsEven_79
  exact j_zret G d_re_meetsEven_79
set_option maxHeartbeats 4000000 in
set_option maxRecDepth 100000 in
theorem b_re_meetsEven_121 {X : Cx} (G : Gd X bc_re_meetsEven 3 R_reg (some .boolean) (rmm 1 21)) (σ : CS) (t0 : Int32) : J wdC X (QI wdC X) 3 121 [(0, .ref (eO (xE X) 3))] [.int t0] σ (re_meetsEven_121 σ t0) := by
  unfold re_meetsEven_121
  exact j_zret G d_re_meetsEven_121
set_option maxHeartbeats 4000000 in
set_option maxRecDepth 100000 in
theorem b_re_meetsEven_156 {X : Cx} (G : Gd X bc_re_meetsEven 3 R_reg (some .boolean) (rmm 1 21)) (σ : CS) (t0 : Int32) : J wdC X (QI wdC X) 3 156 [(0, .ref (eO (xE X) 3))] [.int t0] σ (re_meetsEven_156 σ t0) := by
  unfold re_meetsEven_156
  exact j_zret G d_re_meetsEven_156
set_option maxHeartbeats 4000000 in
set_option maxRecDepth 100000 in
theorem b_re_meetsEven_155 {X : Cx} (G : Gd X bc_re_meetsEven 3 R_reg (some .boolean) (rmm 1 21)) (σ : CS) : J wdC X (QI wdC X) 3 155 [(0, .ref (eO (xE X) 3))] [] σ (re_meetsEven_155 σ ) := by
  unfold re_meetsEven_155
  refine j_iconst G d_re_meetsEven_155 ci_0 ?_
  exact b_re_meetsEven_156 G σ (0 : Int32)
set_option maxHeartbeats 4000000 in
set_option maxRecDepth 100000 in
theorem b_re_meetsEven_93 {X : Cx} (G : Gd X bc_re_meetsEven 3 R_reg (some .boolean) (rmm 1 21)) (σ : CS) (t0 : Int32) : J wdC X (QI wdC X) 3 93 [(0, .ref (eO (xE X) 3))] [.int t0] σ (re_meetsEven_93 σ t0) := by
  unfold re_meetsEven_93
  exact j_zret G d_re_meetsEven_93
set_option maxHeartbeats 4000000 in
set_option maxRecDepth 100000 in
theorem b_re_meetsEven_19 {X : Cx} (G : Gd X bc_re_meetsEven 3 R_reg (some .boolean) (rmm 1 21)) (σ : CS) (l1 t0 : Int32) : J wdC X (QI wdC X) 3 19 [(0, .ref (eO (xE X) 3)), (1, .int l1)] [.int t0] σ (re_meetsEven_19 σ l1 t0) := by
  unfold re_meetsEven_19
  refine j_istore_n [1, 2, 0] (L1 := [(0, .ref (eO (xE X) 3)), (1, .int l1), (2, .int t0)]) G d_re_meetsEven_19 rfl (by decide) rfl ?_
  refine j_iload_n 1 G d_re_meetsEven_20 rfl rfl ?_
  refine j_ts [(0, 64), (1, 66), (2, 80), (3, 94), (4, 108), (5, 122), (6, 137)] G d_re_meetsEven_21 (dt := 139) rfl (by decide +kernel) ⟨?_, ?_, ?_, ?_, ?_, ?_, ?_, trivial⟩ ?_
  · refine j_iconst G d_re_meetsEven_64 ci_1 ?_
    exact j_zretc (by decide) G d_re_meetsEven_65
  · refine j_aload_n 0 G d_re_meetsEven_66 rfl rfl ?_
    refine j_iconst G d_re_meetsEven_67 ci_5 ?_
    refine j_Vi1 G k_re_has mw_re_has lk_re_re_has rc_reg d_re_meetsEven_68 rfl (Nat.le_of_ble_eq_true rfl) (fun v1 s1 => ?_)
    refine j_ifne G d_re_meetsEven_71 (tgt := 78) rfl ?_ ?_
    · refine j_iconst G d_re_meetsEven_78 ci_0 ?_
      refine j_sub [0] (L1 := [(0, .ref (eO (xE X) 3))]) rfl ?_
      exact b_re_meetsEven_79 G s1 (0 : Int32)
    · refine j_iconst G d_re_meetsEven_74 ci_1 ?_
      refine j_goto G d_re_meetsEven_75 (tgt := 79) rfl ?_
      refine j_sub [0] (L1 := [(0, .ref (eO (xE X) 3))]) rfl ?_
      exact b_re_meetsEven_79 G s1 (1 : Int32)
  · refine j_aload_n 0 G d_re_meetsEven_80 rfl rfl ?_
    refine j_iconst G d_re_meetsEven_81 ci_1 ?_
    refine j_Vi1 G k_re_has mw_re_has lk_re_re_has rc_reg d_re_meetsEven_82 rfl (Nat.le_of_ble_eq_true rfl) (fun v2 s2 => ?_)
    refine j_ifne G d_re_meetsEven_85 (tgt := 92) rfl ?_ ?_
    · refine j_iconst G d_re_meetsEven_92 ci_0 ?_
      refine j_sub [0] (L1 := [(0, .ref (eO (xE X) 3))]) rfl ?_
      exact b_re_meetsEven_93 G s2 (0 : Int32)
    · refine j_iconst G d_re_meetsEven_88 ci_1 ?_
      refine j_goto G d_re_meetsEven_89 (tgt := 93) rfl ?_
      refine j_sub [0] (L1 := [(0, .ref (eO (xE X) 3))]) rfl ?_
      exact b_re_meetsEven_93 G s2 (1 : Int32)
  · refine j_aload_n 0 G d_re_meetsEven_94 rfl rfl ?_
    refine j_iconst G d_re_meetsEven_95 ci_4 ?_
    refine j_Vi1 G k_re_has mw_re_has lk_re_re_has rc_reg d_re_meetsEven_96 rfl (Nat.le_of_ble_eq_true rfl) (fun v3 s3 => ?_)
    refine j_ifne G d_re_meetsEven_99 (tgt := 106) rfl ?_ ?_
    · refine j_iconst G d_re_meetsEven_106 ci_0 ?_
      refine j_sub [0] (L1 := [(0, .ref (eO (xE X) 3))]) rfl ?_
      exact b_re_meetsEven_107 G s3 (0 : Int32)
    · refine j_iconst G d_re_meetsEven_102 ci_1 ?_
      refine j_goto G d_re_meetsEven_103 (tgt := 107) rfl ?_
      refine j_sub [0] (L1 := [(0, .ref (eO (xE X) 3))]) rfl ?_
      exact b_re_meetsEven_107 G s3 (1 : Int32)
  · refine j_aload_n 0 G d_re_meetsEven_108 rfl rfl ?_
    refine j_iconst G d_re_meetsEven_109 ci_2 ?_
    refine j_Vi1 G k_re_has mw_re_has lk_re_re_has rc_reg d_re_meetsEven_110 rfl (Nat.le_of_ble_eq_true rfl) (fun v4 s4 => ?_)
    refine j_ifne G d_re_meetsEven_113 (tgt := 120) rfl ?_ ?_
    · refine j_iconst G d_re_meetsEven_120 ci_0 ?_
      refine j_sub [0] (L1 := [(0, .ref (eO (xE X) 3))]) rfl ?_
      exact b_re_meetsEven_121 G s4 (0 : Int32)
    · refine j_iconst G d_re_meetsEven_116 ci_1 ?_
      refine j_goto G d_re_meetsEven_117 (tgt := 121) rfl ?_
      refine j_sub [0] (L1 := [(0, .ref (eO (xE X) 3))]) rfl ?_
      exact b_re_meetsEven_121 G s4 (1 : Int32)
  · refine j_aload_n 0 G d_re_meetsEven_122 rfl rfl ?_
    refine j_bipush G d_re_meetsEven_123 cb_8 ?_
    refine j_Vi1 G k_re_has mw_re_has lk_re_re_has rc_reg d_re_meetsEven_125 rfl (Nat.le_of_ble_eq_true rfl) (fun v5 s5 => ?_)
    refine j_ifne G d_re_meetsEven_128 (tgt := 135) rfl ?_ ?_
    · refine j_iconst G d_re_meetsEven_135 ci_0 ?_
      refine j_sub [0] (L1 := [(0, .ref (eO (xE X) 3))]) rfl ?_
      exact b_re_meetsEven_136 G s5 (0 : Int32)
    · refine j_iconst G d_re_meetsEven_131 ci_1 ?_
      refine j_goto G d_re_meetsEven_132 (tgt := 136) rfl ?_
      refine j_sub [0] (L1 := [(0, .ref (eO (xE X) 3))]) rfl ?_
      exact b_re_meetsEven_136 G s5 (1 : Int32)
  · refine j_iload_n 2 G d_re_meetsEven_137 rfl rfl ?_
    exact j_zret G d_re_meetsEven_138
  · refine j_iload_n 2 G d_re_meetsEven_139 rfl rfl ?_
    refine j_ifeq G d_re_meetsEven_140 (tgt := 155) rfl ?_ ?_
    · refine j_sub [0] (L1 := [(0, .ref (eO (xE X) 3))]) rfl ?_
      exact b_re_meetsEven_155 G σ
    · refine j_aload_n 0 G d_re_meetsEven_143 rfl rfl ?_
      refine j_iconst G d_re_meetsEven_144 ci_4 ?_
      refine j_Vi1 G k_re_has mw_re_has lk_re_re_has rc_reg d_re_meetsEven_145 rfl (Nat.le_of_ble_eq_true rfl) (fun v6 s6 => ?_)
      refine j_ifne G d_re_meetsEven_148 (tgt := 155) rfl ?_ ?_
      · refine j_sub [0] (L1 := [(0, .ref (eO (xE X) 3))]) rfl ?_
        exact b_re_meetsEven_155 G s6
      · refine j_iconst G d_re_meetsEven_151 ci_1 ?_
        refine j_goto G d_re_meetsEven_152 (tgt := 156) rfl ?_
        refine j_sub [0] (L1 := [(0, .ref (eO (xE X) 3))]) rfl ?_
        exact b_re_meetsEven_156 G s6 (1 : Int32)
set_option maxHeartbeats 4000000 in
set_option maxRecDepth 100000 in
theorem b_re_meetsEven {X : Cx} (G : Gd X bc_re_meetsEven 3 R_reg (some .boolean) (rmm 1 21)) (σ : CS) (a1 : Int32) : J wdC X (QI wdC X) 3 0 [(0, .ref (eO (xE X) 3)), (1, .int a1)] [] σ (re_meetsEven σ a1) := by
  unfold re_meetsEven
  refine j_aload_n 0 G d_re_meetsEven_0 rfl rfl ?_
  refine j_bipush G d_re_meetsEven_1 cb_8 ?_
  refine j_Vi1 G k_re_has mw_re_has lk_re_re_has rc_reg d_re_meetsEven_3 rfl (Nat.le_of_ble_eq_true rfl) (fun v1 s1 => ?_)
  refine j_aload_n 0 G d_re_meetsEven_6 rfl rfl ?_
  refine j_iconst G d_re_meetsEven_7 ci_2 ?_
  refine j_Vi1 G k_re_has mw_re_has lk_re_re_has rc_reg d_re_meetsEven_8 rfl (Nat.le_of_ble_eq_true rfl) (fun v2 s2 => ?_)
  refine j_icne G d_re_meetsEven_11 (tgt := 18) rfl ?_ ?_
  · refine j_iconst G d_re_meetsEven_18 ci_0 ?_
    exact b_re_meetsEven_19 G s2 a1 (0 : Int32)
  · refine j_iconst G d_re_meetsEven_14 ci_1 ?_
    refine j_goto G d_re_meetsEven_15 (tgt := 19) rfl ?_
    exact b_re_meetsEven_19 G s2 a1 (1 : Int32)
set_option maxHeartbeats 4000000 in
set_option maxRecDepth 100000 in
theorem k_re_meetsEven {l : Launch} {E : Ev} {σ : CS} {a1 : Int32} : CtI wdC l E y_re_meetsEven bc_re_meetsEven 3 (some .boolean) (rmm 1 21) [.ref (eO E 3), .int a1] σ (re_meetsEven σ a1) := ct_i (by decide) (Nat.le_of_ble_eq_true rfl) (fun X hE _ G => by subst hE; exact b_re_meetsEven G σ a1)
def re_meets_28 (σ : CS) (t0 : Int32) : Option (Int32 × CS) :=
gd (isB t0) (some (t0, σ))
def re_meets_11 (σ : CS) (l1 t0 : Int32) : Option (Int32 × CS) :=
bd (re_meetsEven σ (l1 >>> ((1 : Int32) &&& 31))) fun v1 s1 =>
if t0 = v1 then (re_meets_28 s1 (0 : Int32)) else (re_meets_28 s1 (1 : Int32))
def re_meets (σ : CS) (a1 : Int32) : Option (Int32 × CS) :=
if (a1 &&& (1 : Int32)) = 0 then (re_meets_11 σ a1 (0 : Int32)) else (re_meets_11 σ a1 (1 : Int32))
set_option maxHeartbeats 4000000 in
set_option maxRecDepth 100000 in
theorem b_re_meets_28 {X : Cx} (G : Gd X bc_re_meets 3 R_reg (some .boolean) (rmm 2 43)) (σ : CS) (t0 : Int32) : J wdC X (QI wdC X) 3 28 [(0, .ref (eO (xE X) 3))] [.int t0] σ (re_meets_28 σ t0) := by
  unfold re_meets_28
  exact j_zret G d_re_meets_28
set_option maxHeartbeats 4000000 in
set_option maxRecDepth 100000 in
theorem b_re_meets_11 {X : Cx} (G : Gd X bc_re_meets 3 R_reg (some .boolean) (rmm 2 43)) (σ : CS) (l1 t0 : Int32) : J wdC X (QI wdC X) 3 11 [(0, .ref (eO (xE X) 3)), (1, .int l1)] [.int t0] σ (re_meets_11 σ l1 t0) := by
  unfold re_meets_11
  refine j_istore_n [1, 2, 0] (L1 := [(0, .ref (eO (xE X) 3)), (1, .int l1), (2, .int t0)]) G d_re_meets_11 rfl (by decide) rfl ?_
  refine j_iload_n 2 G d_re_meets_12 rfl rfl ?_
  refine j_aload_n 0 G d_re_meets_13 rfl rfl ?_
  refine j_iload_n 1 G d_re_meets_14 rfl rfl ?_
  refine j_iconst G d_re_meets_15 ci_1 ?_
  refine j_ishr G d_re_meets_16 ?_
  refine j_Vi1 G k_re_meetsEven mw_re_meetsEven lk_re_re_meetsEven rc_reg d_re_meets_17 rfl (Nat.le_of_ble_eq_true rfl) (fun v1 s1 => ?_)
  refine j_iceq G d_re_meets_20 (tgt := 27) rfl ?_ ?_
  · refine j_iconst G d_re_meets_27 ci_0 ?_
    refine j_sub [0] (L1 := [(0, .ref (eO (xE X) 3))]) rfl ?_
    exact b_re_meets_28 G s1 (0 : Int32)
  · refine j_iconst G d_re_meets_23 ci_1 ?_
    refine j_goto G d_re_meets_24 (tgt := 28) rfl ?_
    refine j_sub [0] (L1 := [(0, .ref (eO (xE X) 3))]) rfl ?_
    exact b_re_meets_28 G s1 (1 : Int32)
set_option maxHeartbeats 4000000 in
set_option maxRecDepth 100000 in
theorem b_re_meets {X : Cx} (G : Gd X bc_re_meets 3 R_reg (some .boolean) (rmm 2 43)) (σ : CS) (a1 : Int32) : J wdC X (QI wdC X) 3 0 [(0, .ref (eO (xE X) 3)), (1, .int a1)] [] σ (re_meets σ a1) := by
  unfold re_meets
  refine j_iload_n 1 G d_re_meets_0 rfl rfl ?_
  refine j_iconst G d_re_meets_1 ci_1 ?_
  refine j_iand G d_re_meets_2 ?_
  refine j_ifeq G d_re_meets_3 (tgt := 10) rfl ?_ ?_
  · refine j_iconst G d_re_meets_10 ci_0 ?_
    exact b_re_meets_11 G σ a1 (0 : Int32)
  · refine j_iconst G d_re_meets_6 ci_1 ?_
    refine j_goto G d_re_meets_7 (tgt := 11) rfl ?_
    exact b_re_meets_11 G σ a1 (1 : Int32)
set_option maxHeartbeats 4000000 in
set_option maxRecDepth 100000 in
theorem k_re_meets {l : Launch} {E : Ev} {σ : CS} {a1 : Int32} : CtI wdC l E y_re_meets bc_re_meets 3 (some .boolean) (rmm 2 43) [.ref (eO E 3), .int a1] σ (re_meets σ a1) := ct_i (by decide) (Nat.le_of_ble_eq_true rfl) (fun X hE _ G => by subst hE; exact b_re_meets G σ a1)
def ar_pass (σ : CS) (a1 a2 : Int32) : Option (Int32 × CS) :=
bd (re_turn σ (2 : Int32) (0 : Int32)) fun _ s1 =>
bd (re_setSign s1 a1 a2) fun _ s2 =>
some (a1, s2)
set_option maxHeartbeats 4000000 in
set_option maxRecDepth 100000 in
theorem b_ar_pass {X : Cx} (G : Gd X bc_ar_pass 3 R_ari (some .int) (rmm 1 24)) (σ : CS) (a1 a2 : Int32) : J wdC X (QI wdC X) 3 0 [(0, .ref (eO (xE X) 5)), (1, .int a1), (2, .int a2)] [] σ (ar_pass σ a1 a2) := by
  unfold ar_pass
  refine j_aload_n 0 G d_ar_pass_0 rfl rfl ?_
  refine g_ar_registers G d_ar_pass_1 ?_
  refine j_iconst G d_ar_pass_4 ci_2 ?_
  refine j_iconst G d_ar_pass_5 ci_0 ?_
  refine j_Vv2 G k_re_turn mw_re_turn lk_ar_re_turn rc_reg d_ar_pass_6 rfl (Nat.le_of_ble_eq_true rfl) (fun _ s1 => ?_)
  refine j_aload_n 0 G d_ar_pass_9 rfl rfl ?_
  refine g_ar_registers G d_ar_pass_10 ?_
  refine j_iload_n 1 G d_ar_pass_13 rfl rfl ?_
  refine j_iload_n 2 G d_ar_pass_14 rfl rfl ?_
  refine j_Vv2 G k_re_setSign mw_re_setSign lk_ar_re_setSign rc_reg d_ar_pass_15 rfl (Nat.le_of_ble_eq_true rfl) (fun _ s2 => ?_)
  refine j_iload_n 1 G d_ar_pass_18 rfl rfl ?_
  exact j_iret G d_ar_pass_19
set_option maxHeartbeats 4000000 in
set_option maxRecDepth 100000 in
theorem k_ar_pass {l : Launch} {E : Ev} {σ : CS} {a1 a2 : Int32} : CtI wdC l E y_ar_pass bc_ar_pass 3 (some .int) (rmm 1 24) [.ref (eO E 5), .int a1, .int a2] σ (ar_pass σ a1 a2) := ct_i (by decide) (Nat.le_of_ble_eq_true rfl) (fun X hE _ G => by subst hE; exact b_ar_pass G σ a1 a2)
def ar_add_63 (σ : CS) (l4 l6 t0 t1 : Int32) : Option (Int32 × CS) :=
bd (re_turn σ t1 t0) fun _ s1 =>
bd (re_setSign s1 l6 l4) fun _ s2 =>
some (l6, s2)
def ar_add_43 (σ : CS) (l4 l5 l6 t0 t1 : Int32) : Option (Int32 × CS) :=
bd (re_turn σ t1 t0) fun _ s1 =>
if l5 = l6 then (ar_add_63 s1 l4 l6 (0 : Int32) (1 : Int32)) else (ar_add_63 s1 l4 l6 (1 : Int32) (1 : Int32))
def ar_add (σ : CS) (a1 a2 a3 a4 : Int32) : Option (Int32 × CS) :=
nm ((a1 + a2) + a3) fun v1 =>
nm (v1 &&& (((2 : Int32) * a4) - (1 : Int32))) fun v2 =>
if (((a1 ^^^ v2) &&& (a2 ^^^ v2)) &&& a4) = 0 then (ar_add_43 σ a4 v1 v2 (0 : Int32) (2 : Int32)) else (ar_add_43 σ a4 v1 v2 (1 : Int32) (2 : Int32))
set_option maxHeartbeats 4000000 in
set_option maxRecDepth 100000 in
theorem b_ar_add_63 {X : Cx} (G : Gd X bc_ar_add 7 R_ari (some .int) (rmm 1 24)) (σ : CS) (l4 l6 t0 t1 : Int32) : J wdC X (QI wdC X) 7 63 [(0, .ref (eO (xE X) 5)), (4, .int l4), (6, .int l6)] [.int t0, .int t1, .ref (eO (xE X) 3)] σ (ar_add_63 σ l4 l6 t0 t1) := by
  unfold ar_add_63
  refine j_Vv2 G k_re_turn mw_re_turn lk_ar_re_turn rc_reg d_ar_add_63 rfl (Nat.le_of_ble_eq_true rfl) (fun _ s1 => ?_)
  refine j_aload_n 0 G d_ar_add_66 rfl rfl ?_
  refine g_ar_registers G d_ar_add_67 ?_
  refine j_iload 2 G d_ar_add_70 rfl ?_
  refine j_iload 1 G d_ar_add_72 rfl ?_
  refine j_Vv2 G k_re_setSign mw_re_setSign lk_ar_re_setSign rc_reg d_ar_add_74 rfl (Nat.le_of_ble_eq_true rfl) (fun _ s2 => ?_)
  refine j_iload 2 G d_ar_add_77 rfl ?_
  exact j_iret G d_ar_add_79
set_option maxHeartbeats 4000000 in
set_option maxRecDepth 100000 in
theorem b_ar_add_43 {X : Cx} (G : Gd X bc_ar_add 7 R_ari (some .int) (rmm 1 24)) (σ : CS) (l4 l5 l6 t0 t1 : Int32) : J wdC X (QI wdC X) 7 43 [(0, .ref (eO (xE X) 5)), (4, .int l4), (5, .int l5), (6, .int l6)] [.int t0, .int t1, .ref (eO (xE X) 3)] σ (ar_add_43 σ l4 l5 l6 t0 t1) := by
  unfold ar_add_43
  refine j_Vv2 G k_re_turn mw_re_turn lk_ar_re_turn rc_reg d_ar_add_43 rfl (Nat.le_of_ble_eq_true rfl) (fun _ s1 => ?_)
  refine j_aload_n 0 G d_ar_add_46 rfl rfl ?_
  refine g_ar_registers G d_ar_add_47 ?_
  refine j_iconst G d_ar_add_50 ci_1 ?_
  refine j_iload 2 G d_ar_add_51 rfl ?_
  refine j_iload 3 G d_ar_add_53 rfl ?_
  refine j_iceq G d_ar_add_55 (tgt := 62) rfl ?_ ?_
  · refine j_iconst G d_ar_add_62 ci_0 ?_
    refine j_sub [0, 1, 3] (L1 := [(0, .ref (eO (xE X) 5)), (4, .int l4), (6, .int l6)]) rfl ?_
    exact b_ar_add_63 G s1 l4 l6 (0 : Int32) (1 : Int32)
  · refine j_iconst G d_ar_add_58 ci_1 ?_
    refine j_goto G d_ar_add_59 (tgt := 63) rfl ?_
    refine j_sub [0, 1, 3] (L1 := [(0, .ref (eO (xE X) 5)), (4, .int l4), (6, .int l6)]) rfl ?_
    exact b_ar_add_63 G s1 l4 l6 (1 : Int32) (1 : Int32)
set_option maxHeartbeats 4000000 in
set_option maxRecDepth 100000 in
theorem b_ar_add {X : Cx} (G : Gd X bc_ar_add 7 R_ari (some .int) (rmm 1 24)) (σ : CS) (a1 a2 a3 a4 : Int32) : J wdC X (QI wdC X) 7 0 [(0, .ref (eO (xE X) 5)), (1, .int a1), (2, .int a2), (3, .int a3), (4, .int a4)] [] σ (ar_add σ a1 a2 a3 a4) := by
  unfold ar_add
  refine j_iload_n 1 G d_ar_add_0 rfl rfl ?_
  refine j_iload_n 2 G d_ar_add_1 rfl rfl ?_
  refine j_iadd G d_ar_add_2 ?_
  refine j_iload_n 3 G d_ar_add_3 rfl rfl ?_
  refine j_iadd G d_ar_add_4 ?_
  refine j_nm (fun v1 => ?_)
  refine j_istore [1, 2, 3, 5, 0] (L1 := [(0, .ref (eO (xE X) 5)), (1, .int a1), (2, .int a2), (4, .int a4), (5, .int v1)]) G d_ar_add_5 (by decide) rfl ?_
  refine j_iload 4 G d_ar_add_7 rfl ?_
  refine j_iconst G d_ar_add_9 ci_2 ?_
  refine j_iload 3 G d_ar_add_10 rfl ?_
  refine j_imul G d_ar_add_12 ?_
  refine j_iconst G d_ar_add_13 ci_1 ?_
  refine j_isub G d_ar_add_14 ?_
  refine j_iand G d_ar_add_15 ?_
  refine j_nm (fun v2 => ?_)
  refine j_istore [1, 2, 3, 4, 5, 0] (L1 := [(0, .ref (eO (xE X) 5)), (1, .int a1), (2, .int a2), (4, .int a4), (5, .int v1), (6, .int v2)]) G d_ar_add_16 (by decide) rfl ?_
  refine j_aload_n 0 G d_ar_add_18 rfl rfl ?_
  refine g_ar_registers G d_ar_add_19 ?_
  refine j_iconst G d_ar_add_22 ci_2 ?_
  refine j_iload_n 1 G d_ar_add_23 rfl rfl ?_
  refine j_iload 5 G d_ar_add_24 rfl ?_
  refine j_ixor G d_ar_add_26 ?_
  refine j_iload_n 2 G d_ar_add_27 rfl rfl ?_
  refine j_iload 5 G d_ar_add_28 rfl ?_
  refine j_ixor G d_ar_add_30 ?_
  refine j_iand G d_ar_add_31 ?_
  refine j_iload 3 G d_ar_add_32 rfl ?_
  refine j_iand G d_ar_add_34 ?_
  refine j_ifeq G d_ar_add_35 (tgt := 42) rfl ?_ ?_
  · refine j_iconst G d_ar_add_42 ci_0 ?_
    refine j_sub [0, 3, 4, 5] (L1 := [(0, .ref (eO (xE X) 5)), (4, .int a4), (5, .int v1), (6, .int v2)]) rfl ?_
    exact b_ar_add_43 G σ a4 v1 v2 (0 : Int32) (2 : Int32)
  · refine j_iconst G d_ar_add_38 ci_1 ?_
    refine j_goto G d_ar_add_39 (tgt := 43) rfl ?_
    refine j_sub [0, 3, 4, 5] (L1 := [(0, .ref (eO (xE X) 5)), (4, .int a4), (5, .int v1), (6, .int v2)]) rfl ?_
    exact b_ar_add_43 G σ a4 v1 v2 (1 : Int32) (2 : Int32)
set_option maxHeartbeats 4000000 in
set_option maxRecDepth 100000 in
theorem k_ar_add {l : Launch} {E : Ev} {σ : CS} {a1 a2 a3 a4 : Int32} : CtI wdC l E y_ar_add bc_ar_add 7 (some .int) (rmm 1 24) [.ref (eO E 5), .int a1, .int a2, .int a3, .int a4] σ (ar_add σ a1 a2 a3 a4) := ct_i (by decide) (Nat.le_of_ble_eq_true rfl) (fun X hE _ G => by subst hE; exact b_ar_add G σ a1 a2 a3 a4)
def ar_subtract_60 (σ : CS) (l4 l6 t0 t1 : Int32) : Option (Int32 × CS) :=
bd (re_turn σ t1 t0) fun _ s1 =>
bd (re_setSign s1 l6 l4) fun _ s2 =>
some (l6, s2)
def ar_subtract_42 (σ : CS) (l4 l5 l6 t0 t1 : Int32) : Option (Int32 × CS) :=
bd (re_turn σ t1 t0) fun _ s1 =>
if 0 ≤ l5 then (ar_subtract_60 s1 l4 l6 (0 : Int32) (1 : Int32)) else (ar_subtract_60 s1 l4 l6 (1 : Int32) (1 : Int32))
def ar_subtract (σ : CS) (a1 a2 a3 a4 : Int32) : Option (Int32 × CS) :=
nm ((a1 - a2) - a3) fun v1 =>
nm (v1 &&& (((2 : Int32) * a4) - (1 : Int32))) fun v2 =>
if (((a1 ^^^ a2) &&& (a1 ^^^ v2)) &&& a4) = 0 then (ar_subtract_42 σ a4 v1 v2 (0 : Int32) (2 : Int32)) else (ar_subtract_42 σ a4 v1 v2 (1 : Int32) (2 : Int32))
set_option maxHeartbeats 4000000 in
set_option maxRecDepth 100000 in
theorem b_ar_subtract_60 {X : Cx} (G : Gd X bc_ar_subtract 7 R_ari (some .int) (rmm 1 24)) (σ : CS) (l4 l6 t0 t1 : Int32) : J wdC X (QI wdC X) 7 60 [(0, .ref (eO (xE X) 5)), (4, .int l4), (6, .int l6)] [.int t0, .int t1, .ref (eO (xE X) 3)] σ (ar_subtract_60 σ l4 l6 t0 t1) := by
  unfold ar_subtract_60
  refine j_Vv2 G k_re_turn mw_re_turn lk_ar_re_turn rc_reg d_ar_subtract_60 rfl (Nat.le_of_ble_eq_true rfl) (fun _ s1 => ?_)
  refine j_aload_n 0 G d_ar_subtract_63 rfl rfl ?_
  refine g_ar_registers G d_ar_subtract_64 ?_
  refine j_iload 2 G d_ar_subtract_67 rfl ?_
  refine j_iload 1 G d_ar_subtract_69 rfl ?_
  refine j_Vv2 G k_re_setSign mw_re_setSign lk_ar_re_setSign rc_reg d_ar_subtract_71 rfl (Nat.le_of_ble_eq_true rfl) (fun _ s2 => ?_)
  refine j_iload 2 G d_ar_subtract_74 rfl ?_
  exact j_iret G d_ar_subtract_76
set_option maxHeartbeats 4000000 in
set_option maxRecDepth 100000 in
theorem b_ar_subtract_42 {X : Cx} (G : Gd X bc_ar_subtract 7 R_ari (some .int) (rmm 1 24)) (σ : CS) (l4 l5 l6 t0 t1 : Int32) : J wdC X (QI wdC X) 7 42 [(0, .ref (eO (xE X) 5)), (4, .int l4), (5, .int l5), (6, .int l6)] [.int t0, .int t1, .ref (eO (xE X) 3)] σ (ar_subtract_42 σ l4 l5 l6 t0 t1) := by
  unfold ar_subtract_42
  refine j_Vv2 G k_re_turn mw_re_turn lk_ar_re_turn rc_reg d_ar_subtract_42 rfl (Nat.le_of_ble_eq_true rfl) (fun _ s1 => ?_)
  refine j_aload_n 0 G d_ar_subtract_45 rfl rfl ?_
  refine g_ar_registers G d_ar_subtract_46 ?_
  refine j_iconst G d_ar_subtract_49 ci_1 ?_
  refine j_iload 2 G d_ar_subtract_50 rfl ?_
  refine j_ifge G d_ar_subtract_52 (tgt := 59) rfl ?_ ?_
  · refine j_iconst G d_ar_subtract_59 ci_0 ?_
    refine j_sub [0, 1, 3] (L1 := [(0, .ref (eO (xE X) 5)), (4, .int l4), (6, .int l6)]) rfl ?_
    exact b_ar_subtract_60 G s1 l4 l6 (0 : Int32) (1 : Int32)
  · refine j_iconst G d_ar_subtract_55 ci_1 ?_
    refine j_goto G d_ar_subtract_56 (tgt := 60) rfl ?_
    refine j_sub [0, 1, 3] (L1 := [(0, .ref (eO (xE X) 5)), (4, .int l4), (6, .int l6)]) rfl ?_
    exact b_ar_subtract_60 G s1 l4 l6 (1 : Int32) (1 : Int32)
set_option maxHeartbeats 4000000 in
set_option maxRecDepth 100000 in
theorem b_ar_subtract {X : Cx} (G : Gd X bc_ar_subtract 7 R_ari (some .int) (rmm 1 24)) (σ : CS) (a1 a2 a3 a4 : Int32) : J wdC X (QI wdC X) 7 0 [(0, .ref (eO (xE X) 5)), (1, .int a1), (2, .int a2), (3, .int a3), (4, .int a4)] [] σ (ar_subtract σ a1 a2 a3 a4) := by
  unfold ar_subtract
  refine j_iload_n 1 G d_ar_subtract_0 rfl rfl ?_
  refine j_iload_n 2 G d_ar_subtract_1 rfl rfl ?_
  refine j_isub G d_ar_subtract_2 ?_
  refine j_iload_n 3 G d_ar_subtract_3 rfl rfl ?_
  refine j_isub G d_ar_subtract_4 ?_
  refine j_nm (fun v1 => ?_)
  refine j_istore [1, 2, 3, 5, 0] (L1 := [(0, .ref (eO (xE X) 5)), (1, .int a1), (2, .int a2), (4, .int a4), (5, .int v1)]) G d_ar_subtract_5 (by decide) rfl ?_
  refine j_iload 4 G d_ar_subtract_7 rfl ?_
  refine j_iconst G d_ar_subtract_9 ci_2 ?_
  refine j_iload 3 G d_ar_subtract_10 rfl ?_
  refine j_imul G d_ar_subtract_12 ?_
  refine j_iconst G d_ar_subtract_13 ci_1 ?_
  refine j_isub G d_ar_subtract_14 ?_
  refine j_iand G d_ar_subtract_15 ?_
  refine j_nm (fun v2 => ?_)
  refine j_istore [1, 2, 3, 4, 5, 0] (L1 := [(0, .ref (eO (xE X) 5)), (1, .int a1), (2, .int a2), (4, .int a4), (5, .int v1), (6, .int v2)]) G d_ar_subtract_16 (by decide) rfl ?_
  refine j_aload_n 0 G d_ar_subtract_18 rfl rfl ?_
  refine g_ar_registers G d_ar_subtract_19 ?_
  refine j_iconst G d_ar_subtract_22 ci_2 ?_
  refine j_iload_n 1 G d_ar_subtract_23 rfl rfl ?_
  refine j_iload_n 2 G d_ar_subtract_24 rfl rfl ?_
  refine j_ixor G d_ar_subtract_25 ?_
  refine j_iload_n 1 G d_ar_subtract_26 rfl rfl ?_
  refine j_iload 5 G d_ar_subtract_27 rfl ?_
  refine j_ixor G d_ar_subtract_29 ?_
  refine j_iand G d_ar_subtract_30 ?_
  refine j_iload 3 G d_ar_subtract_31 rfl ?_
  refine j_iand G d_ar_subtract_33 ?_
  refine j_ifeq G d_ar_subtract_34 (tgt := 41) rfl ?_ ?_
  · refine j_iconst G d_ar_subtract_41 ci_0 ?_
    refine j_sub [0, 3, 4, 5] (L1 := [(0, .ref (eO (xE X) 5)), (4, .int a4), (5, .int v1), (6, .int v2)]) rfl ?_
    exact b_ar_subtract_42 G σ a4 v1 v2 (0 : Int32) (2 : Int32)
  · refine j_iconst G d_ar_subtract_37 ci_1 ?_
    refine j_goto G d_ar_subtract_38 (tgt := 42) rfl ?_
    refine j_sub [0, 3, 4, 5] (L1 := [(0, .ref (eO (xE X) 5)), (4, .int a4), (5, .int v1), (6, .int v2)]) rfl ?_
    exact b_ar_subtract_42 G σ a4 v1 v2 (1 : Int32) (2 : Int32)
set_option maxHeartbeats 4000000 in
set_option maxRecDepth 100000 in
theorem k_ar_subtract {l : Launch} {E : Ev} {σ : CS} {a1 a2 a3 a4 : Int32} : CtI wdC l E y_ar_subtract bc_ar_subtract 7 (some .int) (rmm 1 24) [.ref (eO E 5), .int a1, .int a2, .int a3, .int a4] σ (ar_subtract σ a1 a2 a3 a4) := ct_i (by decide) (Nat.le_of_ble_eq_true rfl) (fun X hE _ G => by subst hE; exact b_ar_subtract G σ a1 a2 a3 a4)
def ar_addByte_27 (σ : CS) (l1 l2 l3 t0 t1 : Int32) : Option (Int32 × CS) :=
bd (re_turn σ t1 t0) fun _ s1 =>
bd (ar_add s1 l1 l2 l3 (128 : Int32)) fun v1 s2 =>
some (v1, s2)
def ar_addByte (σ : CS) (a1 a2 a3 : Int32) : Option (Int32 × CS) :=
if (((a1 &&& (15 : Int32)) + (a2 &&& (15 : Int32))) + a3) ≤ (15 : Int32) then (ar_addByte_27 σ a1 a2 a3 (0 : Int32) (32 : Int32)) else (ar_addByte_27 σ a1 a2 a3 (1 : Int32) (32 : Int32))
set_option maxHeartbeats 4000000 in
set_option maxRecDepth 100000 in
theorem b_ar_addByte_27 {X : Cx} (G : Gd X bc_ar_addByte 4 R_ari (some .int) (rmm 2 50)) (σ : CS) (l1 l2 l3 t0 t1 : Int32) : J wdC X (QI wdC X) 4 27 [(0, .ref (eO (xE X) 5)), (1, .int l1), (2, .int l2), (3, .int l3)] [.int t0, .int t1, .ref (eO (xE X) 3)] σ (ar_addByte_27 σ l1 l2 l3 t0 t1) := by
  unfold ar_addByte_27
  refine j_Vv2 G k_re_turn mw_re_turn lk_ar_re_turn rc_reg d_ar_addByte_27 rfl (Nat.le_of_ble_eq_true rfl) (fun _ s1 => ?_)
  refine j_aload_n 0 G d_ar_addByte_30 rfl rfl ?_
  refine j_iload_n 1 G d_ar_addByte_31 rfl rfl ?_
  refine j_iload_n 2 G d_ar_addByte_32 rfl rfl ?_
  refine j_iload_n 3 G d_ar_addByte_33 rfl rfl ?_
  refine j_sipush G d_ar_addByte_34 cs_128 ?_
  refine j_Vi4 G k_ar_add mw_ar_add lk_ar_ar_add rc_ari d_ar_addByte_37 rfl (Nat.le_of_ble_eq_true rfl) (fun v1 s2 => ?_)
  exact j_iret G d_ar_addByte_40
set_option maxHeartbeats 4000000 in
set_option maxRecDepth 100000 in
theorem b_ar_addByte {X : Cx} (G : Gd X bc_ar_addByte 4 R_ari (some .int) (rmm 2 50)) (σ : CS) (a1 a2 a3 : Int32) : J wdC X (QI wdC X) 4 0 [(0, .ref (eO (xE X) 5)), (1, .int a1), (2, .int a2), (3, .int a3)] [] σ (ar_addByte σ a1 a2 a3) := by
  unfold ar_addByte
  refine j_aload_n 0 G d_ar_addByte_0 rfl rfl ?_
  refine g_ar_registers G d_ar_addByte_1 ?_
  refine j_bipush G d_ar_addByte_4 cb_32 ?_
  refine j_iload_n 1 G d_ar_addByte_6 rfl rfl ?_
  refine j_bipush G d_ar_addByte_7 cb_15 ?_
  refine j_iand G d_ar_addByte_9 ?_
  refine j_iload_n 2 G d_ar_addByte_10 rfl rfl ?_
  refine j_bipush G d_ar_addByte_11 cb_15 ?_
  refine j_iand G d_ar_addByte_13 ?_
  refine j_iadd G d_ar_addByte_14 ?_
  refine j_iload_n 3 G d_ar_addByte_15 rfl rfl ?_
  refine j_iadd G d_ar_addByte_16 ?_
  refine j_bipush G d_ar_addByte_17 cb_15 ?_
  refine j_icle G d_ar_addByte_19 (tgt := 26) rfl ?_ ?_
  · refine j_iconst G d_ar_addByte_26 ci_0 ?_
    exact b_ar_addByte_27 G σ a1 a2 a3 (0 : Int32) (32 : Int32)
  · refine j_iconst G d_ar_addByte_22 ci_1 ?_
    refine j_goto G d_ar_addByte_23 (tgt := 27) rfl ?_
    exact b_ar_addByte_27 G σ a1 a2 a3 (1 : Int32) (32 : Int32)
set_option maxHeartbeats 4000000 in
set_option maxRecDepth 100000 in
theorem k_ar_addByte {l : Launch} {E : Ev} {σ : CS} {a1 a2 a3 : Int32} : CtI wdC l E y_ar_addByte bc_ar_addByte 4 (some .int) (rmm 2 50) [.ref (eO E 5), .int a1, .int a2, .int a3] σ (ar_addByte σ a1 a2 a3) := ct_i (by decide) (Nat.le_of_ble_eq_true rfl) (fun X hE _ G => by subst hE; exact b_ar_addByte G σ a1 a2 a3)
def ar_combine_144 (σ : CS) (l2 l3 : Int32) : Option (Int32 × CS) :=
bd (ar_addByte σ l2 l3 (0 : Int32)) fun v1 s1 =>
some (v1, s1)
def ar_combine_88 (σ : CS) (l2 l3 : Int32) : Option (Int32 × CS) :=
bd (ar_pass σ (l2 &&& l3) (128 : Int32)) fun v1 s1 =>
some (v1, s1)
def ar_combine_60 (σ : CS) (l2 l3 : Int32) : Option (Int32 × CS) :=
bd (ar_subtract σ l2 l3 (0 : Int32) (128 : Int32)) fun v1 s1 =>
some (v1, s1)
def ar_combine (σ : CS) (a1 a2 a3 : Int32) : Option (Int32 × CS) :=
swi a1 [((0 : Int32), 60, ar_combine_60 σ a2 a3),
 ((1 : Int32), 60, ar_combine_60 σ a2 a3),
 ((2 : Int32), 71, bd (re_carry σ) fun v1 s1 =>
bd (ar_subtract s1 a2 a3 v1 (128 : Int32)) fun v2 s2 =>
some (v2, s2)),
 ((4 : Int32), 88, ar_combine_88 σ a2 a3),
 ((5 : Int32), 88, ar_combine_88 σ a2 a3),
 ((6 : Int32), 99, bd (ar_pass σ a3 (128 : Int32)) fun v3 s3 =>
some (v3, s3)),
 ((8 : Int32), 108, bd (ar_pass σ (a2 ^^^ a3) (128 : Int32)) fun v4 s4 =>
some (v4, s4)),
 ((9 : Int32), 119, bd (re_carry σ) fun v5 s5 =>
bd (ar_addByte s5 a2 a3 v5) fun v6 s6 =>
some (v6, s6)),
 ((10 : Int32), 133, bd (ar_pass σ (a2 ||| a3) (128 : Int32)) fun v7 s7 =>
some (v7, s7))] (ar_combine_144 σ a2 a3)
set_option maxHeartbeats 4000000 in
set_option maxRecDepth 100000 in
theorem b_ar_combine_144 {X : Cx} (G : Gd X bc_ar_combine 4 R_ari (some .int) (rmm 3 73)) (σ : CS) (l2 l3 : Int32) : J wdC X (QI wdC X) 4 144 [(0, .ref (eO (xE X) 5)), (2, .int l2), (3, .int l3)] [] σ (ar_combine_144 σ l2 l3) := by
  unfold ar_combine_144
  refine j_aload_n 0 G d_ar_combine_144 rfl rfl ?_
  refine j_iload_n 1 G d_ar_combine_145 rfl rfl ?_
  refine j_iload_n 2 G d_ar_combine_146 rfl rfl ?_
  refine j_iconst G d_ar_combine_147 ci_0 ?_
  refine j_Vi3 G k_ar_addByte mw_ar_addByte lk_ar_ar_addByte rc_ari d_ar_combine_148 rfl (Nat.le_of_ble_eq_true rfl) (fun v1 s1 => ?_)
  exact j_iret G d_ar_combine_151
set_option maxHeartbeats 4000000 in
set_option maxRecDepth 100000 in
theorem b_ar_combine_88 {X : Cx} (G : Gd X bc_ar_combine 4 R_ari (some .int) (rmm 3 73)) (σ : CS) (l2 l3 : Int32) : J wdC X (QI wdC X) 4 88 [(0, .ref (eO (xE X) 5)), (2, .int l2), (3, .int l3)] [] σ (ar_combine_88 σ l2 l3) := by
  unfold ar_combine_88
  refine j_aload_n 0 G d_ar_combine_88 rfl rfl ?_
  refine j_iload_n 1 G d_ar_combine_89 rfl rfl ?_
  refine j_iload_n 2 G d_ar_combine_90 rfl rfl ?_
  refine j_iand G d_ar_combine_91 ?_
  refine j_sipush G d_ar_combine_92 cs_128 ?_
  refine j_Vi2 G k_ar_pass mw_ar_pass lk_ar_ar_pass rc_ari d_ar_combine_95 rfl (Nat.le_of_ble_eq_true rfl) (fun v1 s1 => ?_)
  exact j_iret G d_ar_combine_98
set_option maxHeartbeats 4000000 in
set_option maxRecDepth 100000 in
theorem b_ar_combine_60 {X : Cx} (G : Gd X bc_ar_combine 4 R_ari (some .int) (rmm 3 73)) (σ : CS) (l2 l3 : Int32) : J wdC X (QI wdC X) 4 60 [(0, .ref (eO (xE X) 5)), (2, .int l2), (3, .int l3)] [] σ (ar_combine_60 σ l2 l3) := by
  unfold ar_combine_60
  refine j_aload_n 0 G d_ar_combine_60 rfl rfl ?_
  refine j_iload_n 1 G d_ar_combine_61 rfl rfl ?_
  refine j_iload_n 2 G d_ar_combine_62 rfl rfl ?_
  refine j_iconst G d_ar_combine_63 ci_0 ?_
  refine j_sipush G d_ar_combine_64 cs_128 ?_
  refine j_Vi4 G k_ar_subtract mw_ar_subtract lk_ar_ar_subtract rc_ari d_ar_combine_67 rfl (Nat.le_of_ble_eq_true rfl) (fun v1 s1 => ?_)
  exact j_iret G d_ar_combine_70
set_option maxHeartbeats 4000000 in
set_option maxRecDepth 100000 in
theorem b_ar_combine {X : Cx} (G : Gd X bc_ar_combine 4 R_ari (some .int) (rmm 3 73)) (σ : CS) (a1 a2 a3 : Int32) : J wdC X (QI wdC X) 4 0 [(0, .ref (eO (xE X) 5)), (1, .int a1), (2, .int a2), (3, .int a3)] [] σ (ar_combine σ a1 a2 a3) := by
  unfold ar_combine
  refine j_iload_n 1 G d_ar_combine_0 rfl rfl ?_
  refine j_ts [(0, 60), (1, 60), (2, 71), (4, 88), (5, 88), (6, 99), (8, 108), (9, 119), (10, 133)] G d_ar_combine_1 (dt := 144) rfl (by decide +kernel) ⟨?_, ?_, ?_, ?_, ?_, ?_, ?_, ?_, ?_, trivial⟩ ?_
  · refine j_sub [0, 2, 3] (L1 := [(0, .ref (eO (xE X) 5)), (2, .int a2), (3, .int a3)]) rfl ?_
    exact b_ar_combine_60 G σ a2 a3
  · refine j_sub [0, 2, 3] (L1 := [(0, .ref (eO (xE X) 5)), (2, .int a2), (3, .int a3)]) rfl ?_
    exact b_ar_combine_60 G σ a2 a3
  · refine j_aload_n 0 G d_ar_combine_71 rfl rfl ?_
    refine j_iload_n 2 G d_ar_combine_72 rfl rfl ?_
    refine j_iload_n 3 G d_ar_combine_73 rfl rfl ?_
    refine j_aload_n 0 G d_ar_combine_74 rfl rfl ?_
    refine g_ar_registers G d_ar_combine_75 ?_
    refine j_Vi0 G k_re_carry mw_re_carry lk_ar_re_carry rc_reg d_ar_combine_78 rfl (Nat.le_of_ble_eq_true rfl) (fun v1 s1 => ?_)
    refine j_sipush G d_ar_combine_81 cs_128 ?_
    refine j_Vi4 G k_ar_subtract mw_ar_subtract lk_ar_ar_subtract rc_ari d_ar_combine_84 rfl (Nat.le_of_ble_eq_true rfl) (fun v2 s2 => ?_)
    exact j_iret G d_ar_combine_87
  · refine j_sub [0, 2, 3] (L1 := [(0, .ref (eO (xE X) 5)), (2, .int a2), (3, .int a3)]) rfl ?_
    exact b_ar_combine_88 G σ a2 a3
  · refine j_sub [0, 2, 3] (L1 := [(0, .ref (eO (xE X) 5)), (2, .int a2), (3, .int a3)]) rfl ?_
    exact b_ar_combine_88 G σ a2 a3
  · refine j_aload_n 0 G d_ar_combine_99 rfl rfl ?_
    refine j_iload_n 3 G d_ar_combine_100 rfl rfl ?_
    refine j_sipush G d_ar_combine_101 cs_128 ?_
    refine j_Vi2 G k_ar_pass mw_ar_pass lk_ar_ar_pass rc_ari d_ar_combine_104 rfl (Nat.le_of_ble_eq_true rfl) (fun v3 s3 => ?_)
    exact j_iret G d_ar_combine_107
  · refine j_aload_n 0 G d_ar_combine_108 rfl rfl ?_
    refine j_iload_n 2 G d_ar_combine_109 rfl rfl ?_
    refine j_iload_n 3 G d_ar_combine_110 rfl rfl ?_
    refine j_ixor G d_ar_combine_111 ?_
    refine j_sipush G d_ar_combine_112 cs_128 ?_
    refine j_Vi2 G k_ar_pass mw_ar_pass lk_ar_ar_pass rc_ari d_ar_combine_115 rfl (Nat.le_of_ble_eq_true rfl) (fun v4 s4 => ?_)
    exact j_iret G d_ar_combine_118
  · refine j_aload_n 0 G d_ar_combine_119 rfl rfl ?_
    refine j_iload_n 2 G d_ar_combine_120 rfl rfl ?_
    refine j_iload_n 3 G d_ar_combine_121 rfl rfl ?_
    refine j_aload_n 0 G d_ar_combine_122 rfl rfl ?_
    refine g_ar_registers G d_ar_combine_123 ?_
    refine j_Vi0 G k_re_carry mw_re_carry lk_ar_re_carry rc_reg d_ar_combine_126 rfl (Nat.le_of_ble_eq_true rfl) (fun v5 s5 => ?_)
    refine j_Vi3 G k_ar_addByte mw_ar_addByte lk_ar_ar_addByte rc_ari d_ar_combine_129 rfl (Nat.le_of_ble_eq_true rfl) (fun v6 s6 => ?_)
    exact j_iret G d_ar_combine_132
  · refine j_aload_n 0 G d_ar_combine_133 rfl rfl ?_
    refine j_iload_n 2 G d_ar_combine_134 rfl rfl ?_
    refine j_iload_n 3 G d_ar_combine_135 rfl rfl ?_
    refine j_ior G d_ar_combine_136 ?_
    refine j_sipush G d_ar_combine_137 cs_128 ?_
    refine j_Vi2 G k_ar_pass mw_ar_pass lk_ar_ar_pass rc_ari d_ar_combine_140 rfl (Nat.le_of_ble_eq_true rfl) (fun v7 s7 => ?_)
    exact j_iret G d_ar_combine_143
  · refine j_sub [0, 2, 3] (L1 := [(0, .ref (eO (xE X) 5)), (2, .int a2), (3, .int a3)]) rfl ?_
    exact b_ar_combine_144 G σ a2 a3
set_option maxHeartbeats 4000000 in
set_option maxRecDepth 100000 in
theorem k_ar_combine {l : Launch} {E : Ev} {σ : CS} {a1 a2 a3 : Int32} : CtI wdC l E y_ar_combine bc_ar_combine 4 (some .int) (rmm 3 73) [.ref (eO E 5), .int a1, .int a2, .int a3] σ (ar_combine σ a1 a2 a3) := ct_i (by decide) (Nat.le_of_ble_eq_true rfl) (fun X hE _ G => by subst hE; exact b_ar_combine G σ a1 a2 a3)
def ar_shiftDown_22 (σ : CS) (l3 t0 t1 : Int32) : Option (Int32 × CS) :=
bd (re_turn σ t1 t0) fun _ s1 =>
bd (re_setSign s1 l3 (128 : Int32)) fun _ s2 =>
some (l3, s2)
def ar_shiftDown (σ : CS) (a1 a2 : Int32) : Option (Int32 × CS) :=
nm ((a1 >>> ((1 : Int32) &&& 31)) ||| a2) fun v1 =>
if (a1 &&& (1 : Int32)) = 0 then (ar_shiftDown_22 σ v1 (0 : Int32) (1 : Int32)) else (ar_shiftDown_22 σ v1 (1 : Int32) (1 : Int32))
set_option maxHeartbeats 4000000 in
set_option maxRecDepth 100000 in
theorem b_ar_shiftDown_22 {X : Cx} (G : Gd X bc_ar_shiftDown 4 R_ari (some .int) (rmm 1 24)) (σ : CS) (l3 t0 t1 : Int32) : J wdC X (QI wdC X) 4 22 [(0, .ref (eO (xE X) 5)), (3, .int l3)] [.int t0, .int t1, .ref (eO (xE X) 3)] σ (ar_shiftDown_22 σ l3 t0 t1) := by
  unfold ar_shiftDown_22
  refine j_Vv2 G k_re_turn mw_re_turn lk_ar_re_turn rc_reg d_ar_shiftDown_22 rfl (Nat.le_of_ble_eq_true rfl) (fun _ s1 => ?_)
  refine j_aload_n 0 G d_ar_shiftDown_25 rfl rfl ?_
  refine g_ar_registers G d_ar_shiftDown_26 ?_
  refine j_iload_n 1 G d_ar_shiftDown_29 rfl rfl ?_
  refine j_sipush G d_ar_shiftDown_30 cs_128 ?_
  refine j_Vv2 G k_re_setSign mw_re_setSign lk_ar_re_setSign rc_reg d_ar_shiftDown_33 rfl (Nat.le_of_ble_eq_true rfl) (fun _ s2 => ?_)
  refine j_iload_n 1 G d_ar_shiftDown_36 rfl rfl ?_
  exact j_iret G d_ar_shiftDown_37
set_option maxHeartbeats 4000000 in
set_option maxRecDepth 100000 in
theorem b_ar_shiftDown {X : Cx} (G : Gd X bc_ar_shiftDown 4 R_ari (some .int) (rmm 1 24)) (σ : CS) (a1 a2 : Int32) : J wdC X (QI wdC X) 4 0 [(0, .ref (eO (xE X) 5)), (1, .int a1), (2, .int a2)] [] σ (ar_shiftDown σ a1 a2) := by
  unfold ar_shiftDown
  refine j_iload_n 1 G d_ar_shiftDown_0 rfl rfl ?_
  refine j_iconst G d_ar_shiftDown_1 ci_1 ?_
  refine j_ishr G d_ar_shiftDown_2 ?_
  refine j_iload_n 2 G d_ar_shiftDown_3 rfl rfl ?_
  refine j_ior G d_ar_shiftDown_4 ?_
  refine j_nm (fun v1 => ?_)
  refine j_istore_n [1, 2, 0] (L1 := [(0, .ref (eO (xE X) 5)), (1, .int a1), (3, .int v1)]) G d_ar_shiftDown_5 rfl (by decide) rfl ?_
  refine j_aload_n 0 G d_ar_shiftDown_6 rfl rfl ?_
  refine g_ar_registers G d_ar_shiftDown_7 ?_
  refine j_iconst G d_ar_shiftDown_10 ci_1 ?_
  refine j_iload_n 1 G d_ar_shiftDown_11 rfl rfl ?_
  refine j_iconst G d_ar_shiftDown_12 ci_1 ?_
  refine j_iand G d_ar_shiftDown_13 ?_
  refine j_ifeq G d_ar_shiftDown_14 (tgt := 21) rfl ?_ ?_
  · refine j_iconst G d_ar_shiftDown_21 ci_0 ?_
    refine j_sub [0, 2] (L1 := [(0, .ref (eO (xE X) 5)), (3, .int v1)]) rfl ?_
    exact b_ar_shiftDown_22 G σ v1 (0 : Int32) (1 : Int32)
  · refine j_iconst G d_ar_shiftDown_17 ci_1 ?_
    refine j_goto G d_ar_shiftDown_18 (tgt := 22) rfl ?_
    refine j_sub [0, 2] (L1 := [(0, .ref (eO (xE X) 5)), (3, .int v1)]) rfl ?_
    exact b_ar_shiftDown_22 G σ v1 (1 : Int32) (1 : Int32)
set_option maxHeartbeats 4000000 in
set_option maxRecDepth 100000 in
theorem k_ar_shiftDown {l : Launch} {E : Ev} {σ : CS} {a1 a2 : Int32} : CtI wdC l E y_ar_shiftDown bc_ar_shiftDown 4 (some .int) (rmm 1 24) [.ref (eO E 5), .int a1, .int a2] σ (ar_shiftDown σ a1 a2) := ct_i (by decide) (Nat.le_of_ble_eq_true rfl) (fun X hE _ G => by subst hE; exact b_ar_shiftDown G σ a1 a2)
def ar_shiftUp_53 (σ : CS) (l3 t0 t1 : Int32) : Option (Int32 × CS) :=
bd (re_turn σ t1 t0) fun _ s1 =>
bd (re_setSign s1 l3 (128 : Int32)) fun _ s2 =>
some (l3, s2)
def ar_shiftUp_28 (σ : CS) (l1 l3 t0 t1 : Int32) : Option (Int32 × CS) :=
bd (re_turn σ t1 t0) fun _ s1 =>
if ((l1 ^^^ (l1 <<< ((1 : Int32) &&& 31))) &&& (128 : Int32)) = 0 then (ar_shiftUp_53 s1 l3 (0 : Int32) (2 : Int32)) else (ar_shiftUp_53 s1 l3 (1 : Int32) (2 : Int32))
def ar_shiftUp (σ : CS) (a1 a2 : Int32) : Option (Int32 × CS) :=
nm (((a1 <<< ((1 : Int32) &&& 31)) &&& (255 : Int32)) ||| a2) fun v1 =>
if (a1 &&& (128 : Int32)) = 0 then (ar_shiftUp_28 σ a1 v1 (0 : Int32) (1 : Int32)) else (ar_shiftUp_28 σ a1 v1 (1 : Int32) (1 : Int32))
set_option maxHeartbeats 4000000 in
set_option maxRecDepth 100000 in
theorem b_ar_shiftUp_53 {X : Cx} (G : Gd X bc_ar_shiftUp 4 R_ari (some .int) (rmm 1 24)) (σ : CS) (l3 t0 t1 : Int32) : J wdC X (QI wdC X) 4 53 [(0, .ref (eO (xE X) 5)), (3, .int l3)] [.int t0, .int t1, .ref (eO (xE X) 3)] σ (ar_shiftUp_53 σ l3 t0 t1) := by
  unfold ar_shiftUp_53
  refine j_Vv2 G k_re_turn mw_re_turn lk_ar_re_turn rc_reg d_ar_shiftUp_53 rfl (Nat.le_of_ble_eq_true rfl) (fun _ s1 => ?_)
  refine j_aload_n 0 G d_ar_shiftUp_56 rfl rfl ?_
  refine g_ar_registers G d_ar_shiftUp_57 ?_
  refine j_iload_n 1 G d_ar_shiftUp_60 rfl rfl ?_
  refine j_sipush G d_ar_shiftUp_61 cs_128 ?_
  refine j_Vv2 G k_re_setSign mw_re_setSign lk_ar_re_setSign rc_reg d_ar_shiftUp_64 rfl (Nat.le_of_ble_eq_true rfl) (fun _ s2 => ?_)
  refine j_iload_n 1 G d_ar_shiftUp_67 rfl rfl ?_
  exact j_iret G d_ar_shiftUp_68
set_option maxHeartbeats 4000000 in
set_option maxRecDepth 100000 in
theorem b_ar_shiftUp_28 {X : Cx} (G : Gd X bc_ar_shiftUp 4 R_ari (some .int) (rmm 1 24)) (σ : CS) (l1 l3 t0 t1 : Int32) : J wdC X (QI wdC X) 4 28 [(0, .ref (eO (xE X) 5)), (1, .int l1), (3, .int l3)] [.int t0, .int t1, .ref (eO (xE X) 3)] σ (ar_shiftUp_28 σ l1 l3 t0 t1) := by
  unfold ar_shiftUp_28
  refine j_Vv2 G k_re_turn mw_re_turn lk_ar_re_turn rc_reg d_ar_shiftUp_28 rfl (Nat.le_of_ble_eq_true rfl) (fun _ s1 => ?_)
  refine j_aload_n 0 G d_ar_shiftUp_31 rfl rfl ?_
  refine g_ar_registers G d_ar_shiftUp_32 ?_
  refine j_iconst G d_ar_shiftUp_35 ci_2 ?_
  refine j_iload_n 1 G d_ar_shiftUp_36 rfl rfl ?_
  refine j_iload_n 1 G d_ar_shiftUp_37 rfl rfl ?_
  refine j_iconst G d_ar_shiftUp_38 ci_1 ?_
  refine j_ishl G d_ar_shiftUp_39 ?_
  refine j_ixor G d_ar_shiftUp_40 ?_
  refine j_sipush G d_ar_shiftUp_41 cs_128 ?_
  refine j_iand G d_ar_shiftUp_44 ?_
  refine j_ifeq G d_ar_shiftUp_45 (tgt := 52) rfl ?_ ?_
  · refine j_iconst G d_ar_shiftUp_52 ci_0 ?_
    refine j_sub [0, 2] (L1 := [(0, .ref (eO (xE X) 5)), (3, .int l3)]) rfl ?_
    exact b_ar_shiftUp_53 G s1 l3 (0 : Int32) (2 : Int32)
  · refine j_iconst G d_ar_shiftUp_48 ci_1 ?_
    refine j_goto G d_ar_shiftUp_49 (tgt := 53) rfl ?_
    refine j_sub [0, 2] (L1 := [(0, .ref (eO (xE X) 5)), (3, .int l3)]) rfl ?_
    exact b_ar_shiftUp_53 G s1 l3 (1 : Int32) (2 : Int32)
set_option maxHeartbeats 4000000 in
set_option maxRecDepth 100000 in
theorem b_ar_shiftUp {X : Cx} (G : Gd X bc_ar_shiftUp 4 R_ari (some .int) (rmm 1 24)) (σ : CS) (a1 a2 : Int32) : J wdC X (QI wdC X) 4 0 [(0, .ref (eO (xE X) 5)), (1, .int a1), (2, .int a2)] [] σ (ar_shiftUp σ a1 a2) := by
  unfold ar_shiftUp
  refine j_iload_n 1 G d_ar_shiftUp_0 rfl rfl ?_
  refine j_iconst G d_ar_shiftUp_1 ci_1 ?_
  refine j_ishl G d_ar_shiftUp_2 ?_
  refine j_sipush G d_ar_shiftUp_3 cs_255 ?_
  refine j_iand G d_ar_shiftUp_6 ?_
  refine j_iload_n 2 G d_ar_shiftUp_7 rfl rfl ?_
  refine j_ior G d_ar_shiftUp_8 ?_
  refine j_nm (fun v1 => ?_)
  refine j_istore_n [1, 2, 0] (L1 := [(0, .ref (eO (xE X) 5)), (1, .int a1), (3, .int v1)]) G d_ar_shiftUp_9 rfl (by decide) rfl ?_
  refine j_aload_n 0 G d_ar_shiftUp_10 rfl rfl ?_
  refine g_ar_registers G d_ar_shiftUp_11 ?_
  refine j_iconst G d_ar_shiftUp_14 ci_1 ?_
  refine j_iload_n 1 G d_ar_shiftUp_15 rfl rfl ?_
  refine j_sipush G d_ar_shiftUp_16 cs_128 ?_
  refine j_iand G d_ar_shiftUp_19 ?_
  refine j_ifeq G d_ar_shiftUp_20 (tgt := 27) rfl ?_ ?_
  · refine j_iconst G d_ar_shiftUp_27 ci_0 ?_
    exact b_ar_shiftUp_28 G σ a1 v1 (0 : Int32) (1 : Int32)
  · refine j_iconst G d_ar_shiftUp_23 ci_1 ?_
    refine j_goto G d_ar_shiftUp_24 (tgt := 28) rfl ?_
    exact b_ar_shiftUp_28 G σ a1 v1 (1 : Int32) (1 : Int32)
set_option maxHeartbeats 4000000 in
set_option maxRecDepth 100000 in
theorem k_ar_shiftUp {l : Launch} {E : Ev} {σ : CS} {a1 a2 : Int32} : CtI wdC l E y_ar_shiftUp bc_ar_shiftUp 4 (some .int) (rmm 1 24) [.ref (eO E 5), .int a1, .int a2] σ (ar_shiftUp σ a1 a2) := ct_i (by decide) (Nat.le_of_ble_eq_true rfl) (fun X hE _ G => by subst hE; exact b_ar_shiftUp G σ a1 a2)
def ar_count (σ : CS) (a1 a2 : Int32) : Option (Int32 × CS) :=
bd (re_turn σ (2 : Int32) a2) fun _ s1 =>
bd (re_setSign s1 a1 (128 : Int32)) fun _ s2 =>
some (a1, s2)
set_option maxHeartbeats 4000000 in
set_option maxRecDepth 100000 in
theorem b_ar_count {X : Cx} (G : Gd X bc_ar_count 3 R_ari (some .int) (rmm 1 24)) (σ : CS) (a1 a2 : Int32) : J wdC X (QI wdC X) 3 0 [(0, .ref (eO (xE X) 5)), (1, .int a1), (2, .int a2)] [] σ (ar_count σ a1 a2) := by
  unfold ar_count
  refine j_aload_n 0 G d_ar_count_0 rfl rfl ?_
  refine g_ar_registers G d_ar_count_1 ?_
  refine j_iconst G d_ar_count_4 ci_2 ?_
  refine j_iload_n 2 G d_ar_count_5 rfl rfl ?_
  refine j_Vv2 G k_re_turn mw_re_turn lk_ar_re_turn rc_reg d_ar_count_6 rfl (Nat.le_of_ble_eq_true rfl) (fun _ s1 => ?_)
  refine j_aload_n 0 G d_ar_count_9 rfl rfl ?_
  refine g_ar_registers G d_ar_count_10 ?_
  refine j_iload_n 1 G d_ar_count_13 rfl rfl ?_
  refine j_sipush G d_ar_count_14 cs_128 ?_
  refine j_Vv2 G k_re_setSign mw_re_setSign lk_ar_re_setSign rc_reg d_ar_count_17 rfl (Nat.le_of_ble_eq_true rfl) (fun _ s2 => ?_)
  refine j_iload_n 1 G d_ar_count_20 rfl rfl ?_
  exact j_iret G d_ar_count_21
set_option maxHeartbeats 4000000 in
set_option maxRecDepth 100000 in
theorem k_ar_count {l : Launch} {E : Ev} {σ : CS} {a1 a2 : Int32} : CtI wdC l E y_ar_count bc_ar_count 3 (some .int) (rmm 1 24) [.ref (eO E 5), .int a1, .int a2] σ (ar_count σ a1 a2) := ct_i (by decide) (Nat.le_of_ble_eq_true rfl) (fun X hE _ G => by subst hE; exact b_ar_count G σ a1 a2)
def ar_alter_217 (σ : CS) : Option (Int32 × CS) :=
bd (re_turn σ (1 : Int32) (0 : Int32)) fun _ s1 =>
bd (ar_pass s1 (0 : Int32) (128 : Int32)) fun v1 s2 =>
some (v1, s2)
def ar_alter_204 (σ : CS) (t0 t1 : Int32) : Option (Int32 × CS) :=
bd (ar_count σ t1 t0) fun v1 s1 =>
some (v1, s1)
def ar_alter_181 (σ : CS) (t0 t1 : Int32) : Option (Int32 × CS) :=
bd (ar_count σ t1 t0) fun v1 s1 =>
some (v1, s1)
def ar_alter (σ : CS) (a1 a2 : Int32) : Option (Int32 × CS) :=
swi a1 [((0 : Int32), 72, bd (ar_subtract σ (0 : Int32) a2 (0 : Int32) (128 : Int32)) fun v1 s1 =>
some (v1, s1)),
 ((3 : Int32), 83, bd (re_turn σ (1 : Int32) (1 : Int32)) fun _ s2 =>
bd (ar_pass s2 ((a2 ^^^ (-1 : Int32)) &&& (255 : Int32)) (128 : Int32)) fun v2 s3 =>
some (v2, s3)),
 ((4 : Int32), 107, bd (ar_shiftDown σ a2 (0 : Int32)) fun v3 s4 =>
some (v3, s4)),
 ((6 : Int32), 114, bd (re_carry σ) fun v4 s5 =>
bd (ar_shiftDown s5 a2 (v4 <<< ((7 : Int32) &&& 31))) fun v5 s6 =>
some (v5, s6)),
 ((7 : Int32), 130, bd (ar_shiftDown σ a2 (a2 &&& (128 : Int32))) fun v6 s7 =>
some (v6, s7)),
 ((8 : Int32), 141, bd (ar_shiftUp σ a2 (0 : Int32)) fun v7 s8 =>
some (v7, s8)),
 ((9 : Int32), 148, bd (re_carry σ) fun v8 s9 =>
bd (ar_shiftUp s9 a2 v8) fun v9 s10 =>
some (v9, s10)),
 ((10 : Int32), 161, if a2 = (128 : Int32) then (ar_alter_181 σ (1 : Int32) ((a2 - (1 : Int32)) &&& (255 : Int32))) else (ar_alter_181 σ (0 : Int32) ((a2 - (1 : Int32)) &&& (255 : Int32)))),
 ((12 : Int32), 185, if a2 = (127 : Int32) then (ar_alter_204 σ (1 : Int32) ((a2 + (1 : Int32)) &&& (255 : Int32))) else (ar_alter_204 σ (0 : Int32) ((a2 + (1 : Int32)) &&& (255 : Int32)))),
 ((13 : Int32), 208, bd (ar_pass σ a2 (128 : Int32)) fun v10 s11 =>
some (v10, s11))] (ar_alter_217 σ)
set_option maxHeartbeats 4000000 in
set_option maxRecDepth 100000 in
theorem b_ar_alter_217 {X : Cx} (G : Gd X bc_ar_alter 3 R_ari (some .int) (rmm 2 50)) (σ : CS) : J wdC X (QI wdC X) 3 217 [(0, .ref (eO (xE X) 5))] [] σ (ar_alter_217 σ ) := by
  unfold ar_alter_217
  refine j_aload_n 0 G d_ar_alter_217 rfl rfl ?_
  refine g_ar_registers G d_ar_alter_218 ?_
  refine j_iconst G d_ar_alter_221 ci_1 ?_
  refine j_iconst G d_ar_alter_222 ci_0 ?_
  refine j_Vv2 G k_re_turn mw_re_turn lk_ar_re_turn rc_reg d_ar_alter_223 rfl (Nat.le_of_ble_eq_true rfl) (fun _ s1 => ?_)
  refine j_aload_n 0 G d_ar_alter_226 rfl rfl ?_
  refine j_iconst G d_ar_alter_227 ci_0 ?_
  refine j_sipush G d_ar_alter_228 cs_128 ?_
  refine j_Vi2 G k_ar_pass mw_ar_pass lk_ar_ar_pass rc_ari d_ar_alter_231 rfl (Nat.le_of_ble_eq_true rfl) (fun v1 s2 => ?_)
  exact j_iret G d_ar_alter_234
set_option maxHeartbeats 4000000 in
set_option maxRecDepth 100000 in
theorem b_ar_alter_204 {X : Cx} (G : Gd X bc_ar_alter 3 R_ari (some .int) (rmm 2 50)) (σ : CS) (t0 t1 : Int32) : J wdC X (QI wdC X) 3 204 [(0, .ref (eO (xE X) 5))] [.int t0, .int t1, .ref (eO (xE X) 5)] σ (ar_alter_204 σ t0 t1) := by
  unfold ar_alter_204
  refine j_Vi2 G k_ar_count mw_ar_count lk_ar_ar_count rc_ari d_ar_alter_204 rfl (Nat.le_of_ble_eq_true rfl) (fun v1 s1 => ?_)
  exact j_iret G d_ar_alter_207
set_option maxHeartbeats 4000000 in
set_option maxRecDepth 100000 in
theorem b_ar_alter_181 {X : Cx} (G : Gd X bc_ar_alter 3 R_ari (some .int) (rmm 2 50)) (σ : CS) (t0 t1 : Int32) : J wdC X (QI wdC X) 3 181 [(0, .ref (eO (xE X) 5))] [.int t0, .int t1, .ref (eO (xE X) 5)] σ (ar_alter_181 σ t0 t1) := by
  unfold ar_alter_181
  refine j_Vi2 G k_ar_count mw_ar_count lk_ar_ar_count rc_ari d_ar_alter_181 rfl (Nat.le_of_ble_eq_true rfl) (fun v1 s1 => ?_)
  exact j_iret G d_ar_alter_184
set_option maxHeartbeats 4000000 in
set_option maxRecDepth 100000 in
theorem b_ar_alter {X : Cx} (G : Gd X bc_ar_alter 3 R_ari (some .int) (rmm 2 50)) (σ : CS) (a1 a2 : Int32) : J wdC X (QI wdC X) 3 0 [(0, .ref (eO (xE X) 5)), (1, .int a1), (2, .int a2)] [] σ (ar_alter σ a1 a2) := by
  unfold ar_alter
  refine j_iload_n 1 G d_ar_alter_0 rfl rfl ?_
  refine j_ts [(0, 72), (3, 83), (4, 107), (6, 114), (7, 130), (8, 141), (9, 148), (10, 161), (12, 185), (13, 208)] G d_ar_alter_1 (dt := 217) rfl (by decide +kernel) ⟨?_, ?_, ?_, ?_, ?_, ?_, ?_, ?_, ?_, ?_, trivial⟩ ?_
  · refine j_aload_n 0 G d_ar_alter_72 rfl rfl ?_
    refine j_iconst G d_ar_alter_73 ci_0 ?_
    refine j_iload_n 2 G d_ar_alter_74 rfl rfl ?_
    refine j_iconst G d_ar_alter_75 ci_0 ?_
    refine j_sipush G d_ar_alter_76 cs_128 ?_
    refine j_Vi4 G k_ar_subtract mw_ar_subtract lk_ar_ar_subtract rc_ari d_ar_alter_79 rfl (Nat.le_of_ble_eq_true rfl) (fun v1 s1 => ?_)
    exact j_iret G d_ar_alter_82
  · refine j_aload_n 0 G d_ar_alter_83 rfl rfl ?_
    refine g_ar_registers G d_ar_alter_84 ?_
    refine j_iconst G d_ar_alter_87 ci_1 ?_
    refine j_iconst G d_ar_alter_88 ci_1 ?_
    refine j_Vv2 G k_re_turn mw_re_turn lk_ar_re_turn rc_reg d_ar_alter_89 rfl (Nat.le_of_ble_eq_true rfl) (fun _ s2 => ?_)
    refine j_aload_n 0 G d_ar_alter_92 rfl rfl ?_
    refine j_iload_n 2 G d_ar_alter_93 rfl rfl ?_
    refine j_iconst G d_ar_alter_94 ci_m1 ?_
    refine j_ixor G d_ar_alter_95 ?_
    refine j_sipush G d_ar_alter_96 cs_255 ?_
    refine j_iand G d_ar_alter_99 ?_
    refine j_sipush G d_ar_alter_100 cs_128 ?_
    refine j_Vi2 G k_ar_pass mw_ar_pass lk_ar_ar_pass rc_ari d_ar_alter_103 rfl (Nat.le_of_ble_eq_true rfl) (fun v2 s3 => ?_)
    exact j_iret G d_ar_alter_106
  · refine j_aload_n 0 G d_ar_alter_107 rfl rfl ?_
    refine j_iload_n 2 G d_ar_alter_108 rfl rfl ?_
    refine j_iconst G d_ar_alter_109 ci_0 ?_
    refine j_Vi2 G k_ar_shiftDown mw_ar_shiftDown lk_ar_ar_shiftDown rc_ari d_ar_alter_110 rfl (Nat.le_of_ble_eq_true rfl) (fun v3 s4 => ?_)
    exact j_iret G d_ar_alter_113
  · refine j_aload_n 0 G d_ar_alter_114 rfl rfl ?_
    refine j_iload_n 2 G d_ar_alter_115 rfl rfl ?_
    refine j_aload_n 0 G d_ar_alter_116 rfl rfl ?_
    refine g_ar_registers G d_ar_alter_117 ?_
    refine j_Vi0 G k_re_carry mw_re_carry lk_ar_re_carry rc_reg d_ar_alter_120 rfl (Nat.le_of_ble_eq_true rfl) (fun v4 s5 => ?_)
    refine j_bipush G d_ar_alter_123 cb_7 ?_
    refine j_ishl G d_ar_alter_125 ?_
    refine j_Vi2 G k_ar_shiftDown mw_ar_shiftDown lk_ar_ar_shiftDown rc_ari d_ar_alter_126 rfl (Nat.le_of_ble_eq_true rfl) (fun v5 s6 => ?_)
    exact j_iret G d_ar_alter_129
  · refine j_aload_n 0 G d_ar_alter_130 rfl rfl ?_
    refine j_iload_n 2 G d_ar_alter_131 rfl rfl ?_
    refine j_iload_n 2 G d_ar_alter_132 rfl rfl ?_
    refine j_sipush G d_ar_alter_133 cs_128 ?_
    refine j_iand G d_ar_alter_136 ?_
    refine j_Vi2 G k_ar_shiftDown mw_ar_shiftDown lk_ar_ar_shiftDown rc_ari d_ar_alter_137 rfl (Nat.le_of_ble_eq_true rfl) (fun v6 s7 => ?_)
    exact j_iret G d_ar_alter_140
  · refine j_aload_n 0 G d_ar_alter_141 rfl rfl ?_
    refine j_iload_n 2 G d_ar_alter_142 rfl rfl ?_
    refine j_iconst G d_ar_alter_143 ci_0 ?_
    refine j_Vi2 G k_ar_shiftUp mw_ar_shiftUp lk_ar_ar_shiftUp rc_ari d_ar_alter_144 rfl (Nat.le_of_ble_eq_true rfl) (fun v7 s8 => ?_)
    exact j_iret G d_ar_alter_147
  · refine j_aload_n 0 G d_ar_alter_148 rfl rfl ?_
    refine j_iload_n 2 G d_ar_alter_149 rfl rfl ?_
    refine j_aload_n 0 G d_ar_alter_150 rfl rfl ?_
    refine g_ar_registers G d_ar_alter_151 ?_
    refine j_Vi0 G k_re_carry mw_re_carry lk_ar_re_carry rc_reg d_ar_alter_154 rfl (Nat.le_of_ble_eq_true rfl) (fun v8 s9 => ?_)
    refine j_Vi2 G k_ar_shiftUp mw_ar_shiftUp lk_ar_ar_shiftUp rc_ari d_ar_alter_157 rfl (Nat.le_of_ble_eq_true rfl) (fun v9 s10 => ?_)
    exact j_iret G d_ar_alter_160
  · refine j_aload_n 0 G d_ar_alter_161 rfl rfl ?_
    refine j_iload_n 2 G d_ar_alter_162 rfl rfl ?_
    refine j_iconst G d_ar_alter_163 ci_1 ?_
    refine j_isub G d_ar_alter_164 ?_
    refine j_sipush G d_ar_alter_165 cs_255 ?_
    refine j_iand G d_ar_alter_168 ?_
    refine j_iload_n 2 G d_ar_alter_169 rfl rfl ?_
    refine j_sipush G d_ar_alter_170 cs_128 ?_
    refine j_icne G d_ar_alter_173 (tgt := 180) rfl ?_ ?_
    · refine j_iconst G d_ar_alter_180 ci_0 ?_
      refine j_sub [0] (L1 := [(0, .ref (eO (xE X) 5))]) rfl ?_
      exact b_ar_alter_181 G σ (0 : Int32) ((a2 - (1 : Int32)) &&& (255 : Int32))
    · refine j_iconst G d_ar_alter_176 ci_1 ?_
      refine j_goto G d_ar_alter_177 (tgt := 181) rfl ?_
      refine j_sub [0] (L1 := [(0, .ref (eO (xE X) 5))]) rfl ?_
      exact b_ar_alter_181 G σ (1 : Int32) ((a2 - (1 : Int32)) &&& (255 : Int32))
  · refine j_aload_n 0 G d_ar_alter_185 rfl rfl ?_
    refine j_iload_n 2 G d_ar_alter_186 rfl rfl ?_
    refine j_iconst G d_ar_alter_187 ci_1 ?_
    refine j_iadd G d_ar_alter_188 ?_
    refine j_sipush G d_ar_alter_189 cs_255 ?_
    refine j_iand G d_ar_alter_192 ?_
    refine j_iload_n 2 G d_ar_alter_193 rfl rfl ?_
    refine j_bipush G d_ar_alter_194 cb_127 ?_
    refine j_icne G d_ar_alter_196 (tgt := 203) rfl ?_ ?_
    · refine j_iconst G d_ar_alter_203 ci_0 ?_
      refine j_sub [0] (L1 := [(0, .ref (eO (xE X) 5))]) rfl ?_
      exact b_ar_alter_204 G σ (0 : Int32) ((a2 + (1 : Int32)) &&& (255 : Int32))
    · refine j_iconst G d_ar_alter_199 ci_1 ?_
      refine j_goto G d_ar_alter_200 (tgt := 204) rfl ?_
      refine j_sub [0] (L1 := [(0, .ref (eO (xE X) 5))]) rfl ?_
      exact b_ar_alter_204 G σ (1 : Int32) ((a2 + (1 : Int32)) &&& (255 : Int32))
  · refine j_aload_n 0 G d_ar_alter_208 rfl rfl ?_
    refine j_iload_n 2 G d_ar_alter_209 rfl rfl ?_
    refine j_sipush G d_ar_alter_210 cs_128 ?_
    refine j_Vi2 G k_ar_pass mw_ar_pass lk_ar_ar_pass rc_ari d_ar_alter_213 rfl (Nat.le_of_ble_eq_true rfl) (fun v10 s11 => ?_)
    exact j_iret G d_ar_alter_216
  · refine j_sub [0] (L1 := [(0, .ref (eO (xE X) 5))]) rfl ?_
    exact b_ar_alter_217 G σ
set_option maxHeartbeats 4000000 in
set_option maxRecDepth 100000 in
theorem k_ar_alter {l : Launch} {E : Ev} {σ : CS} {a1 a2 : Int32} : CtI wdC l E y_ar_alter bc_ar_alter 3 (some .int) (rmm 2 50) [.ref (eO E 5), .int a1, .int a2] σ (ar_alter σ a1 a2) := ct_i (by decide) (Nat.le_of_ble_eq_true rfl) (fun X hE _ G => by subst hE; exact b_ar_alter G σ a1 a2)
def ar_adjustDecimal_97 (σ : CS) (l4 : Int32) : Option (Int32 × CS) :=
bd (re_set σ (0 : Int32) l4) fun _ s1 =>
bd (re_setSign s1 (l4 &&& (255 : Int32)) (128 : Int32)) fun _ s2 =>
some ((0 : Int32), s2)
def ar_adjustDecimal_80 (σ : CS) (l4 : Int32) : Option (Int32 × CS) :=
if l4 ≤ (255 : Int32) then (ar_adjustDecimal_97 σ l4) else (bd (re_turn σ (1 : Int32) (1 : Int32)) fun _ s1 =>
ar_adjustDecimal_97 s1 l4)
def ar_adjustDecimal_77 (σ : CS) (l4 : Int32) : Option (Int32 × CS) :=
ar_adjustDecimal_80 σ (l4 + Int32.ofInt 96)
def ar_adjustDecimal_50 (σ : CS) (l2 l3 l4 : Int32) : Option (Int32 × CS) :=
bd (re_has σ (1 : Int32)) fun v1 s1 =>
if v1 = 0 then (if (9 : Int32) < l2 then (ar_adjustDecimal_77 s1 l4) else (if l2 ≤ (8 : Int32) then (ar_adjustDecimal_80 s1 l4) else (if l3 = 0 then (ar_adjustDecimal_80 s1 l4) else (ar_adjustDecimal_77 s1 l4)))) else (ar_adjustDecimal_77 s1 l4)
def ar_adjustDecimal_47 (σ : CS) (l2 l3 l4 : Int32) : Option (Int32 × CS) :=
ar_adjustDecimal_50 σ l2 l3 (l4 + Int32.ofInt 6)
def ar_adjustDecimal_27 (σ : CS) (l1 l2 t0 : Int32) : Option (Int32 × CS) :=
bd (re_has σ (32 : Int32)) fun v1 s1 =>
if v1 = 0 then (if t0 = 0 then (ar_adjustDecimal_50 s1 l2 t0 l1) else (ar_adjustDecimal_47 s1 l2 t0 l1)) else (ar_adjustDecimal_47 s1 l2 t0 l1)
def ar_adjustDecimal (σ : CS) : Option (Int32 × CS) :=
bd (re_get σ (0 : Int32)) fun v1 s1 =>
nm (v1 >>> ((4 : Int32) &&& 31)) fun v2 =>
if (v1 &&& (15 : Int32)) ≤ (9 : Int32) then (ar_adjustDecimal_27 s1 v1 v2 (0 : Int32)) else (ar_adjustDecimal_27 s1 v1 v2 (1 : Int32))
set_option maxHeartbeats 4000000 in
set_option maxRecDepth 100000 in
theorem b_ar_adjustDecimal_97 {X : Cx} (G : Gd X bc_ar_adjustDecimal 5 R_ari none (rmm 1 24)) (σ : CS) (l4 : Int32) : J wdC X (QV wdC X) 5 97 [(0, .ref (eO (xE X) 5)), (4, .int l4)] [] σ (ar_adjustDecimal_97 σ l4) := by
  unfold ar_adjustDecimal_97
  refine j_aload_n 0 G d_ar_adjustDecimal_97 rfl rfl ?_
  refine g_ar_registers G d_ar_adjustDecimal_98 ?_
  refine j_iconst G d_ar_adjustDecimal_101 ci_0 ?_
  refine j_iload 1 G d_ar_adjustDecimal_102 rfl ?_
  refine j_Vv2 G k_re_set mw_re_set lk_ar_re_set rc_reg d_ar_adjustDecimal_104 rfl (Nat.le_of_ble_eq_true rfl) (fun _ s1 => ?_)
  refine j_aload_n 0 G d_ar_adjustDecimal_107 rfl rfl ?_
  refine g_ar_registers G d_ar_adjustDecimal_108 ?_
  refine j_iload 1 G d_ar_adjustDecimal_111 rfl ?_
  refine j_sipush G d_ar_adjustDecimal_113 cs_255 ?_
  refine j_iand G d_ar_adjustDecimal_116 ?_
  refine j_sipush G d_ar_adjustDecimal_117 cs_128 ?_
  refine j_Vv2 G k_re_setSign mw_re_setSign lk_ar_re_setSign rc_reg d_ar_adjustDecimal_120 rfl (Nat.le_of_ble_eq_true rfl) (fun _ s2 => ?_)
  exact j_vret G d_ar_adjustDecimal_123
set_option maxHeartbeats 4000000 in
set_option maxRecDepth 100000 in
theorem b_ar_adjustDecimal_80 {X : Cx} (G : Gd X bc_ar_adjustDecimal 5 R_ari none (rmm 1 24)) (σ : CS) (l4 : Int32) : J wdC X (QV wdC X) 5 80 [(0, .ref (eO (xE X) 5)), (4, .int l4)] [] σ (ar_adjustDecimal_80 σ l4) := by
  unfold ar_adjustDecimal_80
  refine j_iload 1 G d_ar_adjustDecimal_80 rfl ?_
  refine j_sipush G d_ar_adjustDecimal_82 cs_255 ?_
  refine j_icle G d_ar_adjustDecimal_85 (tgt := 97) rfl ?_ ?_
  · exact b_ar_adjustDecimal_97 G σ l4
  · refine j_aload_n 0 G d_ar_adjustDecimal_88 rfl rfl ?_
    refine g_ar_registers G d_ar_adjustDecimal_89 ?_
    refine j_iconst G d_ar_adjustDecimal_92 ci_1 ?_
    refine j_iconst G d_ar_adjustDecimal_93 ci_1 ?_
    refine j_Vv2 G k_re_turn mw_re_turn lk_ar_re_turn rc_reg d_ar_adjustDecimal_94 rfl (Nat.le_of_ble_eq_true rfl) (fun _ s1 => ?_)
    exact b_ar_adjustDecimal_97 G s1 l4
set_option maxHeartbeats 4000000 in
set_option maxRecDepth 100000 in
theorem b_ar_adjustDecimal_77 {X : Cx} (G : Gd X bc_ar_adjustDecimal 5 R_ari none (rmm 1 24)) (σ : CS) (l4 : Int32) : J wdC X (QV wdC X) 5 77 [(0, .ref (eO (xE X) 5)), (4, .int l4)] [] σ (ar_adjustDecimal_77 σ l4) := by
  unfold ar_adjustDecimal_77
  refine j_iinc 1 [1, 0] (L1 := [(0, .ref (eO (xE X) 5)), (4, .int (l4 + Int32.ofInt 96))]) G d_ar_adjustDecimal_77 rfl rfl (by decide) rfl ?_
  exact b_ar_adjustDecimal_80 G σ (l4 + Int32.ofInt 96)
set_option maxHeartbeats 4000000 in
set_option maxRecDepth 100000 in
theorem b_ar_adjustDecimal_50 {X : Cx} (G : Gd X bc_ar_adjustDecimal 5 R_ari none (rmm 1 24)) (σ : CS) (l2 l3 l4 : Int32) : J wdC X (QV wdC X) 5 50 [(0, .ref (eO (xE X) 5)), (2, .int l2), (3, .int l3), (4, .int l4)] [] σ (ar_adjustDecimal_50 σ l2 l3 l4) := by
  unfold ar_adjustDecimal_50
  refine j_aload_n 0 G d_ar_adjustDecimal_50 rfl rfl ?_
  refine g_ar_registers G d_ar_adjustDecimal_51 ?_
  refine j_iconst G d_ar_adjustDecimal_54 ci_1 ?_
  refine j_Vi1 G k_re_has mw_re_has lk_ar_re_has rc_reg d_ar_adjustDecimal_55 rfl (Nat.le_of_ble_eq_true rfl) (fun v1 s1 => ?_)
  refine j_ifne G d_ar_adjustDecimal_58 (tgt := 77) rfl ?_ ?_
  · refine j_sub [0, 3] (L1 := [(0, .ref (eO (xE X) 5)), (4, .int l4)]) rfl ?_
    exact b_ar_adjustDecimal_77 G s1 l4
  · refine j_iload_n 1 G d_ar_adjustDecimal_61 rfl rfl ?_
    refine j_bipush G d_ar_adjustDecimal_62 cb_9 ?_
    refine j_icgt G d_ar_adjustDecimal_64 (tgt := 77) rfl ?_ ?_
    · refine j_sub [0, 3] (L1 := [(0, .ref (eO (xE X) 5)), (4, .int l4)]) rfl ?_
      exact b_ar_adjustDecimal_77 G s1 l4
    · refine j_iload_n 1 G d_ar_adjustDecimal_67 rfl rfl ?_
      refine j_bipush G d_ar_adjustDecimal_68 cb_8 ?_
      refine j_icle G d_ar_adjustDecimal_70 (tgt := 80) rfl ?_ ?_
      · refine j_sub [0, 3] (L1 := [(0, .ref (eO (xE X) 5)), (4, .int l4)]) rfl ?_
        exact b_ar_adjustDecimal_80 G s1 l4
      · refine j_iload_n 2 G d_ar_adjustDecimal_73 rfl rfl ?_
        refine j_ifeq G d_ar_adjustDecimal_74 (tgt := 80) rfl ?_ ?_
        · refine j_sub [0, 3] (L1 := [(0, .ref (eO (xE X) 5)), (4, .int l4)]) rfl ?_
          exact b_ar_adjustDecimal_80 G s1 l4
        · refine j_sub [0, 3] (L1 := [(0, .ref (eO (xE X) 5)), (4, .int l4)]) rfl ?_
          exact b_ar_adjustDecimal_77 G s1 l4
set_option maxHeartbeats 4000000 in
set_option maxRecDepth 100000 in
theorem b_ar_adjustDecimal_47 {X : Cx} (G : Gd X bc_ar_adjustDecimal 5 R_ari none (rmm 1 24)) (σ : CS) (l2 l3 l4 : Int32) : J wdC X (QV wdC X) 5 47 [(0, .ref (eO (xE X) 5)), (2, .int l2), (3, .int l3), (4, .int l4)] [] σ (ar_adjustDecimal_47 σ l2 l3 l4) := by
  unfold ar_adjustDecimal_47
  refine j_iinc 3 [1, 2, 3, 0] (L1 := [(0, .ref (eO (xE X) 5)), (2, .int l2), (3, .int l3), (4, .int (l4 + Int32.ofInt 6))]) G d_ar_adjustDecimal_47 rfl rfl (by decide) rfl ?_
  exact b_ar_adjustDecimal_50 G σ l2 l3 (l4 + Int32.ofInt 6)
set_option maxHeartbeats 4000000 in
set_option maxRecDepth 100000 in
theorem b_ar_adjustDecimal_27 {X : Cx} (G : Gd X bc_ar_adjustDecimal 5 R_ari none (rmm 1 24)) (σ : CS) (l1 l2 t0 : Int32) : J wdC X (QV wdC X) 5 27 [(0, .ref (eO (xE X) 5)), (1, .int l1), (2, .int l2)] [.int t0] σ (ar_adjustDecimal_27 σ l1 l2 t0) := by
  unfold ar_adjustDecimal_27
  refine j_istore_n [1, 2, 3, 0] (L1 := [(0, .ref (eO (xE X) 5)), (1, .int l1), (2, .int l2), (3, .int t0)]) G d_ar_adjustDecimal_27 rfl (by decide) rfl ?_
  refine j_iload_n 1 G d_ar_adjustDecimal_28 rfl rfl ?_
  refine j_istore [1, 3, 4, 0] (L1 := [(0, .ref (eO (xE X) 5)), (2, .int l2), (3, .int t0), (4, .int l1)]) G d_ar_adjustDecimal_29 (by decide) rfl ?_
  refine j_aload_n 0 G d_ar_adjustDecimal_31 rfl rfl ?_
  refine g_ar_registers G d_ar_adjustDecimal_32 ?_
  refine j_bipush G d_ar_adjustDecimal_35 cb_32 ?_
  refine j_Vi1 G k_re_has mw_re_has lk_ar_re_has rc_reg d_ar_adjustDecimal_37 rfl (Nat.le_of_ble_eq_true rfl) (fun v1 s1 => ?_)
  refine j_ifne G d_ar_adjustDecimal_40 (tgt := 47) rfl ?_ ?_
  · exact b_ar_adjustDecimal_47 G s1 l2 t0 l1
  · refine j_iload_n 2 G d_ar_adjustDecimal_43 rfl rfl ?_
    refine j_ifeq G d_ar_adjustDecimal_44 (tgt := 50) rfl ?_ ?_
    · exact b_ar_adjustDecimal_50 G s1 l2 t0 l1
    · exact b_ar_adjustDecimal_47 G s1 l2 t0 l1
set_option maxHeartbeats 4000000 in
set_option maxRecDepth 100000 in
theorem b_ar_adjustDecimal {X : Cx} (G : Gd X bc_ar_adjustDecimal 5 R_ari none (rmm 1 24)) (σ : CS) : J wdC X (QV wdC X) 5 0 [(0, .ref (eO (xE X) 5))] [] σ (ar_adjustDecimal σ ) := by
  unfold ar_adjustDecimal
  refine j_aload_n 0 G d_ar_adjustDecimal_0 rfl rfl ?_
  refine g_ar_registers G d_ar_adjustDecimal_1 ?_
  refine j_iconst G d_ar_adjustDecimal_4 ci_0 ?_
  refine j_Vi1 G k_re_get mw_re_get lk_ar_re_get rc_reg d_ar_adjustDecimal_5 rfl (Nat.le_of_ble_eq_true rfl) (fun v1 s1 => ?_)
  refine j_istore_n [1, 0] (L1 := [(0, .ref (eO (xE X) 5)), (1, .int v1)]) G d_ar_adjustDecimal_8 rfl (by decide) rfl ?_
  refine j_iload_n 1 G d_ar_adjustDecimal_9 rfl rfl ?_
  refine j_iconst G d_ar_adjustDecimal_10 ci_4 ?_
  refine j_ishr G d_ar_adjustDecimal_11 ?_
  refine j_nm (fun v2 => ?_)
  refine j_istore_n [1, 2, 0] (L1 := [(0, .ref (eO (xE X) 5)), (1, .int v1), (2, .int v2)]) G d_ar_adjustDecimal_12 rfl (by decide) rfl ?_
  refine j_iload_n 1 G d_ar_adjustDecimal_13 rfl rfl ?_
  refine j_bipush G d_ar_adjustDecimal_14 cb_15 ?_
  refine j_iand G d_ar_adjustDecimal_16 ?_
  refine j_bipush G d_ar_adjustDecimal_17 cb_9 ?_
  refine j_icle G d_ar_adjustDecimal_19 (tgt := 26) rfl ?_ ?_
  · refine j_iconst G d_ar_adjustDecimal_26 ci_0 ?_
    exact b_ar_adjustDecimal_27 G s1 v1 v2 (0 : Int32)
  · refine j_iconst G d_ar_adjustDecimal_22 ci_1 ?_
    refine j_goto G d_ar_adjustDecimal_23 (tgt := 27) rfl ?_
    exact b_ar_adjustDecimal_27 G s1 v1 v2 (1 : Int32)
set_option maxHeartbeats 4000000 in
set_option maxRecDepth 100000 in
theorem k_ar_adjustDecimal {l : Launch} {E : Ev} {σ : CS} : CtV wdC l E y_ar_adjustDecimal bc_ar_adjustDecimal 5 none (rmm 1 24) [.ref (eO E 5)] σ (ar_adjustDecimal σ ) := ct_v (by decide) (Nat.le_of_ble_eq_true rfl) (fun X hE _ G => by subst hE; exact b_ar_adjustDecimal G σ )
def ar_extendSign_27 (σ : CS) (t0 t1 : Int32) : Option (Int32 × CS) :=
bd (re_set σ t1 t0) fun _ s1 =>
bd (re_get s1 (9 : Int32)) fun v1 s2 =>
bd (ar_pass s2 v1 (32768 : Int32)) fun v2 s3 =>
some ((0 : Int32), s3)
def ar_extendSign (σ : CS) : Option (Int32 × CS) :=
bd (re_get σ (1 : Int32)) fun v1 s1 =>
if (v1 &&& (128 : Int32)) = 0 then (ar_extendSign_27 s1 (0 : Int32) (0 : Int32)) else (ar_extendSign_27 s1 (255 : Int32) (0 : Int32))
set_option maxHeartbeats 4000000 in
set_option maxRecDepth 100000 in
theorem b_ar_extendSign_27 {X : Cx} (G : Gd X bc_ar_extendSign 1 R_ari none (rmm 2 46)) (σ : CS) (t0 t1 : Int32) : J wdC X (QV wdC X) 1 27 [(0, .ref (eO (xE X) 5))] [.int t0, .int t1, .ref (eO (xE X) 3)] σ (ar_extendSign_27 σ t0 t1) := by
  unfold ar_extendSign_27
  refine j_Vv2 G k_re_set mw_re_set lk_ar_re_set rc_reg d_ar_extendSign_27 rfl (Nat.le_of_ble_eq_true rfl) (fun _ s1 => ?_)
  refine j_aload_n 0 G d_ar_extendSign_30 rfl rfl ?_
  refine j_aload_n 0 G d_ar_extendSign_31 rfl rfl ?_
  refine g_ar_registers G d_ar_extendSign_32 ?_
  refine j_bipush G d_ar_extendSign_35 cb_9 ?_
  refine j_Vi1 G k_re_get mw_re_get lk_ar_re_get rc_reg d_ar_extendSign_37 rfl (Nat.le_of_ble_eq_true rfl) (fun v1 s2 => ?_)
  refine j_ldc G d_ar_extendSign_40 kc_ar_65 ?_
  refine j_Vi2 G k_ar_pass mw_ar_pass lk_ar_ar_pass rc_ari d_ar_extendSign_42 rfl (Nat.le_of_ble_eq_true rfl) (fun v2 s3 => ?_)
  refine j_pop G d_ar_extendSign_45 rfl ?_
  exact j_vret G d_ar_extendSign_46
set_option maxHeartbeats 4000000 in
set_option maxRecDepth 100000 in
theorem b_ar_extendSign {X : Cx} (G : Gd X bc_ar_extendSign 1 R_ari none (rmm 2 46)) (σ : CS) : J wdC X (QV wdC X) 1 0 [(0, .ref (eO (xE X) 5))] [] σ (ar_extendSign σ ) := by
  unfold ar_extendSign
  refine j_aload_n 0 G d_ar_extendSign_0 rfl rfl ?_
  refine g_ar_registers G d_ar_extendSign_1 ?_
  refine j_iconst G d_ar_extendSign_4 ci_0 ?_
  refine j_aload_n 0 G d_ar_extendSign_5 rfl rfl ?_
  refine g_ar_registers G d_ar_extendSign_6 ?_
  refine j_iconst G d_ar_extendSign_9 ci_1 ?_
  refine j_Vi1 G k_re_get mw_re_get lk_ar_re_get rc_reg d_ar_extendSign_10 rfl (Nat.le_of_ble_eq_true rfl) (fun v1 s1 => ?_)
  refine j_sipush G d_ar_extendSign_13 cs_128 ?_
  refine j_iand G d_ar_extendSign_16 ?_
  refine j_ifeq G d_ar_extendSign_17 (tgt := 26) rfl ?_ ?_
  · refine j_iconst G d_ar_extendSign_26 ci_0 ?_
    exact b_ar_extendSign_27 G s1 (0 : Int32) (0 : Int32)
  · refine j_sipush G d_ar_extendSign_20 cs_255 ?_
    refine j_goto G d_ar_extendSign_23 (tgt := 27) rfl ?_
    exact b_ar_extendSign_27 G s1 (255 : Int32) (0 : Int32)
set_option maxHeartbeats 4000000 in
set_option maxRecDepth 100000 in
theorem k_ar_extendSign {l : Launch} {E : Ev} {σ : CS} : CtV wdC l E y_ar_extendSign bc_ar_extendSign 1 none (rmm 2 46) [.ref (eO E 5)] σ (ar_extendSign σ ) := ct_v (by decide) (Nat.le_of_ble_eq_true rfl) (fun X hE _ G => by subst hE; exact b_ar_extendSign G σ )
def ar_multiply_63 (σ : CS) (t0 t1 : Int32) : Option (Int32 × CS) :=
bd (re_turn σ t1 t0) fun _ s1 =>
some ((0 : Int32), s1)
def ar_multiply_42 (σ : CS) (l1 t0 t1 : Int32) : Option (Int32 × CS) :=
bd (re_turn σ t1 t0) fun _ s1 =>
if (l1 &&& (128 : Int32)) = 0 then (ar_multiply_63 s1 (0 : Int32) (1 : Int32)) else (ar_multiply_63 s1 (1 : Int32) (1 : Int32))
def ar_multiply (σ : CS) : Option (Int32 × CS) :=
bd (re_get σ (0 : Int32)) fun v1 s1 =>
bd (re_get s1 (1 : Int32)) fun v2 s2 =>
nm (v1 * v2) fun v3 =>
bd (re_set s2 (9 : Int32) v3) fun _ s3 =>
if v3 = 0 then (ar_multiply_42 s3 v3 (1 : Int32) (4 : Int32)) else (ar_multiply_42 s3 v3 (0 : Int32) (4 : Int32))
set_option maxHeartbeats 4000000 in
set_option maxRecDepth 100000 in
theorem b_ar_multiply_63 {X : Cx} (G : Gd X bc_ar_multiply 2 R_ari none (rmm 1 23)) (σ : CS) (t0 t1 : Int32) : J wdC X (QV wdC X) 2 63 [(0, .ref (eO (xE X) 5))] [.int t0, .int t1, .ref (eO (xE X) 3)] σ (ar_multiply_63 σ t0 t1) := by
  unfold ar_multiply_63
  refine j_Vv2 G k_re_turn mw_re_turn lk_ar_re_turn rc_reg d_ar_multiply_63 rfl (Nat.le_of_ble_eq_true rfl) (fun _ s1 => ?_)
  exact j_vret G d_ar_multiply_66
set_option maxHeartbeats 4000000 in
set_option maxRecDepth 100000 in
theorem b_ar_multiply_42 {X : Cx} (G : Gd X bc_ar_multiply 2 R_ari none (rmm 1 23)) (σ : CS) (l1 t0 t1 : Int32) : J wdC X (QV wdC X) 2 42 [(0, .ref (eO (xE X) 5)), (1, .int l1)] [.int t0, .int t1, .ref (eO (xE X) 3)] σ (ar_multiply_42 σ l1 t0 t1) := by
  unfold ar_multiply_42
  refine j_Vv2 G k_re_turn mw_re_turn lk_ar_re_turn rc_reg d_ar_multiply_42 rfl (Nat.le_of_ble_eq_true rfl) (fun _ s1 => ?_)
  refine j_aload_n 0 G d_ar_multiply_45 rfl rfl ?_
  refine g_ar_registers G d_ar_multiply_46 ?_
  refine j_iconst G d_ar_multiply_49 ci_1 ?_
  refine j_iload_n 1 G d_ar_multiply_50 rfl rfl ?_
  refine j_sipush G d_ar_multiply_51 cs_128 ?_
  refine j_iand G d_ar_multiply_54 ?_
  refine j_ifeq G d_ar_multiply_55 (tgt := 62) rfl ?_ ?_
  · refine j_iconst G d_ar_multiply_62 ci_0 ?_
    refine j_sub [0] (L1 := [(0, .ref (eO (xE X) 5))]) rfl ?_
    exact b_ar_multiply_63 G s1 (0 : Int32) (1 : Int32)
  · refine j_iconst G d_ar_multiply_58 ci_1 ?_
    refine j_goto G d_ar_multiply_59 (tgt := 63) rfl ?_
    refine j_sub [0] (L1 := [(0, .ref (eO (xE X) 5))]) rfl ?_
    exact b_ar_multiply_63 G s1 (1 : Int32) (1 : Int32)
set_option maxHeartbeats 4000000 in
set_option maxRecDepth 100000 in
theorem b_ar_multiply {X : Cx} (G : Gd X bc_ar_multiply 2 R_ari none (rmm 1 23)) (σ : CS) : J wdC X (QV wdC X) 2 0 [(0, .ref (eO (xE X) 5))] [] σ (ar_multiply σ ) := by
  unfold ar_multiply
  refine j_aload_n 0 G d_ar_multiply_0 rfl rfl ?_
  refine g_ar_registers G d_ar_multiply_1 ?_
  refine j_iconst G d_ar_multiply_4 ci_0 ?_
  refine j_Vi1 G k_re_get mw_re_get lk_ar_re_get rc_reg d_ar_multiply_5 rfl (Nat.le_of_ble_eq_true rfl) (fun v1 s1 => ?_)
  refine j_aload_n 0 G d_ar_multiply_8 rfl rfl ?_
  refine g_ar_registers G d_ar_multiply_9 ?_
  refine j_iconst G d_ar_multiply_12 ci_1 ?_
  refine j_Vi1 G k_re_get mw_re_get lk_ar_re_get rc_reg d_ar_multiply_13 rfl (Nat.le_of_ble_eq_true rfl) (fun v2 s2 => ?_)
  refine j_imul G d_ar_multiply_16 ?_
  refine j_nm (fun v3 => ?_)
  refine j_istore_n [1, 0] (L1 := [(0, .ref (eO (xE X) 5)), (1, .int v3)]) G d_ar_multiply_17 rfl (by decide) rfl ?_
  refine j_aload_n 0 G d_ar_multiply_18 rfl rfl ?_
  refine g_ar_registers G d_ar_multiply_19 ?_
  refine j_bipush G d_ar_multiply_22 cb_9 ?_
  refine j_iload_n 1 G d_ar_multiply_24 rfl rfl ?_
  refine j_Vv2 G k_re_set mw_re_set lk_ar_re_set rc_reg d_ar_multiply_25 rfl (Nat.le_of_ble_eq_true rfl) (fun _ s3 => ?_)
  refine j_aload_n 0 G d_ar_multiply_28 rfl rfl ?_
  refine g_ar_registers G d_ar_multiply_29 ?_
  refine j_iconst G d_ar_multiply_32 ci_4 ?_
  refine j_iload_n 1 G d_ar_multiply_33 rfl rfl ?_
  refine j_ifne G d_ar_multiply_34 (tgt := 41) rfl ?_ ?_
  · refine j_iconst G d_ar_multiply_41 ci_0 ?_
    exact b_ar_multiply_42 G s3 v3 (0 : Int32) (4 : Int32)
  · refine j_iconst G d_ar_multiply_37 ci_1 ?_
    refine j_goto G d_ar_multiply_38 (tgt := 42) rfl ?_
    exact b_ar_multiply_42 G s3 v3 (1 : Int32) (4 : Int32)
set_option maxHeartbeats 4000000 in
set_option maxRecDepth 100000 in
theorem k_ar_multiply {l : Launch} {E : Ev} {σ : CS} : CtV wdC l E y_ar_multiply bc_ar_multiply 2 none (rmm 1 23) [.ref (eO E 5)] σ (ar_multiply σ ) := ct_v (by decide) (Nat.le_of_ble_eq_true rfl) (fun X hE _ G => by subst hE; exact b_ar_multiply G σ )
def tc_reset (σ : CS) : Option (Int32 × CS) :=
bd (re_set σ (7 : Int32) (0 : Int32)) fun _ s1 =>
bd (re_turn s1 (80 : Int32) (1 : Int32)) fun _ s2 =>
ns (cy_arm s2 (0 : Int32)) fun s3 =>
ns (cy_due s3 (0 : Int32)) fun s4 =>
ns (cy_wai s4 (0 : Int32)) fun s5 =>
bd (me_wordAt s5 (65534 : Int32)) fun v1 s6 =>
bd (re_set s6 (6 : Int32) v1) fun _ s7 =>
some ((0 : Int32), s7)
set_option maxHeartbeats 4000000 in
set_option maxRecDepth 100000 in
theorem b_tc_reset {X : Cx} (G : Gd X bc_tc_reset 1 R_chip none (rmm 1 23)) (σ : CS) : J wdC X (QV wdC X) 1 0 [(0, .ref (eO (xE X) 0))] [] σ (tc_reset σ ) := by
  unfold tc_reset
  refine j_aload_n 0 G d_tc_reset_0 rfl rfl ?_
  refine g_tc_registers G d_tc_reset_1 ?_
  refine j_bipush G d_tc_reset_4 cb_7 ?_
  refine j_iconst G d_tc_reset_6 ci_0 ?_
  refine j_Vv2 G k_re_set mw_re_set lk_tc_re_set rc_reg d_tc_reset_7 rfl (Nat.le_of_ble_eq_true rfl) (fun _ s1 => ?_)
  refine j_aload_n 0 G d_tc_reset_10 rfl rfl ?_
  refine g_tc_registers G d_tc_reset_11 ?_
  refine j_bipush G d_tc_reset_14 cb_80 ?_
  refine j_iconst G d_tc_reset_16 ci_1 ?_
  refine j_Vv2 G k_re_turn mw_re_turn lk_tc_re_turn rc_reg d_tc_reset_17 rfl (Nat.le_of_ble_eq_true rfl) (fun _ s2 => ?_)
  refine j_aload_n 0 G d_tc_reset_20 rfl rfl ?_
  refine j_iconst G d_tc_reset_21 ci_0 ?_
  refine pc_tc_nmiArmed (by decide) G d_tc_reset_22 ?_
  refine j_ns (fun s3 => ?_)
  refine j_aload_n 0 G d_tc_reset_25 rfl rfl ?_
  refine j_iconst G d_tc_reset_26 ci_0 ?_
  refine pc_tc_nmiDue (by decide) G d_tc_reset_27 ?_
  refine j_ns (fun s4 => ?_)
  refine j_aload_n 0 G d_tc_reset_30 rfl rfl ?_
  refine j_iconst G d_tc_reset_31 ci_0 ?_
  refine p_tc_waiting G d_tc_reset_32 ?_
  refine j_ns (fun s5 => ?_)
  refine j_aload_n 0 G d_tc_reset_35 rfl rfl ?_
  refine g_tc_registers G d_tc_reset_36 ?_
  refine j_bipush G d_tc_reset_39 cb_6 ?_
  refine j_aload_n 0 G d_tc_reset_41 rfl rfl ?_
  refine g_tc_memory G d_tc_reset_42 ?_
  refine j_ldc G d_tc_reset_45 kc_tc_55 ?_
  refine j_Vi1 G k_me_wordAt mw_me_wordAt lk_tc_me_wordAt rc_mem d_tc_reset_47 rfl (Nat.le_of_ble_eq_true rfl) (fun v1 s6 => ?_)
  refine j_Vv2 G k_re_set mw_re_set lk_tc_re_set rc_reg d_tc_reset_50 rfl (Nat.le_of_ble_eq_true rfl) (fun _ s7 => ?_)
  exact j_vret G d_tc_reset_53
set_option maxHeartbeats 4000000 in
set_option maxRecDepth 100000 in
theorem k_tc_reset {l : Launch} {E : Ev} {σ : CS} : CtV wdC l E y_tc_reset bc_tc_reset 1 none (rmm 1 23) [.ref (eO E 0)] σ (tc_reset σ ) := ct_v (by decide) (Nat.le_of_ble_eq_true rfl) (fun X hE _ G => by subst hE; exact b_tc_reset G σ )
def tc_poke_18 (σ : CS) : Option (Int32 × CS) :=
some ((0 : Int32), σ)
def tc_poke (σ : CS) (a1 a2 : Int32) : Option (Int32 × CS) :=
bd (me_has σ a1) fun v1 s1 =>
if v1 = 0 then (tc_poke_18 s1) else (if a2 < 0 then (tc_poke_18 s1) else (if a2 ≤ (255 : Int32) then (bd (me_setByte s1 a1 a2) fun _ s2 =>
some ((1 : Int32), s2)) else (tc_poke_18 s1)))
set_option maxHeartbeats 4000000 in
set_option maxRecDepth 100000 in
theorem b_tc_poke_18 {X : Cx} (G : Gd X bc_tc_poke 3 R_chip (some .boolean) (rmm 1 22)) (σ : CS) : J wdC X (QI wdC X) 3 18 [(0, .ref (eO (xE X) 0))] [] σ (tc_poke_18 σ ) := by
  unfold tc_poke_18
  refine j_iconst G d_tc_poke_18 ci_0 ?_
  exact j_zretc (by decide) G d_tc_poke_19
set_option maxHeartbeats 4000000 in
set_option maxRecDepth 100000 in
theorem b_tc_poke {X : Cx} (G : Gd X bc_tc_poke 3 R_chip (some .boolean) (rmm 1 22)) (σ : CS) (a1 a2 : Int32) : J wdC X (QI wdC X) 3 0 [(0, .ref (eO (xE X) 0)), (1, .int a1), (2, .int a2)] [] σ (tc_poke σ a1 a2) := by
  unfold tc_poke
  refine j_iload_n 1 G d_tc_poke_0 rfl rfl ?_
  refine j_Si1 G k_me_has mw_me_has lk_tc_me_has d_tc_poke_1 rfl (Nat.le_of_ble_eq_true rfl) (fun v1 s1 => ?_)
  refine j_ifeq G d_tc_poke_4 (tgt := 18) rfl ?_ ?_
  · refine j_sub [0] (L1 := [(0, .ref (eO (xE X) 0))]) rfl ?_
    exact b_tc_poke_18 G s1
  · refine j_iload_n 2 G d_tc_poke_7 rfl rfl ?_
    refine j_iflt G d_tc_poke_8 (tgt := 18) rfl ?_ ?_
    · refine j_sub [0] (L1 := [(0, .ref (eO (xE X) 0))]) rfl ?_
      exact b_tc_poke_18 G s1
    · refine j_iload_n 2 G d_tc_poke_11 rfl rfl ?_
      refine j_sipush G d_tc_poke_12 cs_255 ?_
      refine j_icle G d_tc_poke_15 (tgt := 20) rfl ?_ ?_
      · refine j_aload_n 0 G d_tc_poke_20 rfl rfl ?_
        refine g_tc_memory G d_tc_poke_21 ?_
        refine j_iload_n 1 G d_tc_poke_24 rfl rfl ?_
        refine j_iload_n 2 G d_tc_poke_25 rfl rfl ?_
        refine j_Vv2 G k_me_setByte mw_me_setByte lk_tc_me_setByte rc_mem d_tc_poke_26 rfl (Nat.le_of_ble_eq_true rfl) (fun _ s2 => ?_)
        refine j_iconst G d_tc_poke_29 ci_1 ?_
        exact j_zretc (by decide) G d_tc_poke_30
      · refine j_sub [0] (L1 := [(0, .ref (eO (xE X) 0))]) rfl ?_
        exact b_tc_poke_18 G s1
set_option maxHeartbeats 4000000 in
set_option maxRecDepth 100000 in
theorem k_tc_poke {l : Launch} {E : Ev} {σ : CS} {a1 a2 : Int32} : CtI wdC l E y_tc_poke bc_tc_poke 3 (some .boolean) (rmm 1 22) [.ref (eO E 0), .int a1, .int a2] σ (tc_poke σ a1 a2) := ct_i (by decide) (Nat.le_of_ble_eq_true rfl) (fun X hE _ G => by subst hE; exact b_tc_poke G σ a1 a2)
def tc_load_10 (σ : CS) : Option (Int32 × CS) :=
some ((0 : Int32), σ)
def tc_load_35 : Nat → CS → Int32 → Int32 → Int32 → Int32 → Option (Int32 × CS)
  | 0, _, _, _, _, _ => none
  | fu + 1, σ, l1, l2, l3, l4 =>
    if l3 ≤ l4 then (some ((1 : Int32), σ)) else (bd (me_setByte σ (l1 + l4) (l2 >>> (((8 : Int32) * ((l3 - (1 : Int32)) - l4)) &&& 31))) fun _ s1 =>
    tc_load_35 fu s1 l1 l2 l3 (l4 + Int32.ofInt 1))
def tc_load_30 (σ : CS) : Option (Int32 × CS) :=
some ((0 : Int32), σ)
def tc_load (σ : CS) (a1 a2 a3 : Int32) : Option (Int32 × CS) :=
if a3 < (1 : Int32) then (tc_load_10 σ) else (if a3 ≤ (4 : Int32) then (bd (me_has σ a1) fun v1 s1 =>
if v1 = 0 then (tc_load_30 s1) else (bd (me_has s1 ((a1 + a3) - (1 : Int32))) fun v2 s2 =>
if v2 = 0 then (tc_load_30 s2) else (tc_load_35 5 s2 a1 a2 a3 (0 : Int32)))) else (tc_load_10 σ))
set_option maxHeartbeats 4000000 in
set_option maxRecDepth 100000 in
theorem b_tc_load_10 {X : Cx} (G : Gd X bc_tc_load 5 R_chip (some .boolean) (rmm 1 22)) (σ : CS) : J wdC X (QI wdC X) 5 10 [(0, .ref (eO (xE X) 0))] [] σ (tc_load_10 σ ) := by
  unfold tc_load_10
  refine j_iconst G d_tc_load_10 ci_0 ?_
  exact j_zretc (by decide) G d_tc_load_11
set_option maxHeartbeats 4000000 in
set_option maxRecDepth 100000 in
theorem b_tc_load_35 {X : Cx} (G : Gd X bc_tc_load 5 R_chip (some .boolean) (rmm 1 22)) : ∀ (fu : Nat) (σ : CS) (l1 l2 l3 l4 : Int32), J wdC X (QI wdC X) 5 35 [(0, .ref (eO (xE X) 0)), (1, .int l1), (2, .int l2), (3, .int l3), (4, .int l4)] [] σ (tc_load_35 fu σ l1 l2 l3 l4) := by
  intro fu
  induction fu with
  | zero => intro σ l1 l2 l3 l4 o ho; cases ho
  | succ fu ih =>
    intro σ l1 l2 l3 l4
    unfold tc_load_35
    refine j_iload 4 G d_tc_load_35 rfl ?_
    refine j_iload_n 3 G d_tc_load_37 rfl rfl ?_
    refine j_icge G d_tc_load_38 (tgt := 69) rfl ?_ ?_
    · refine j_iconst G d_tc_load_69 ci_1 ?_
      exact j_zretc (by decide) G d_tc_load_70
    · refine j_aload_n 0 G d_tc_load_41 rfl rfl ?_
      refine g_tc_memory G d_tc_load_42 ?_
      refine j_iload_n 1 G d_tc_load_45 rfl rfl ?_
      refine j_iload 4 G d_tc_load_46 rfl ?_
      refine j_iadd G d_tc_load_48 ?_
      refine j_iload_n 2 G d_tc_load_49 rfl rfl ?_
      refine j_bipush G d_tc_load_50 cb_8 ?_
      refine j_iload_n 3 G d_tc_load_52 rfl rfl ?_
      refine j_iconst G d_tc_load_53 ci_1 ?_
      refine j_isub G d_tc_load_54 ?_
      refine j_iload 4 G d_tc_load_55 rfl ?_
      refine j_isub G d_tc_load_57 ?_
      refine j_imul G d_tc_load_58 ?_
      refine j_ishr G d_tc_load_59 ?_
      refine j_Vv2 G k_me_setByte mw_me_setByte lk_tc_me_setByte rc_mem d_tc_load_60 rfl (Nat.le_of_ble_eq_true rfl) (fun _ s1 => ?_)
      refine j_iinc 4 [1, 2, 3, 4, 0] (L1 := [(0, .ref (eO (xE X) 0)), (1, .int l1), (2, .int l2), (3, .int l3), (4, .int (l4 + Int32.ofInt 1))]) G d_tc_load_63 rfl rfl (by decide) rfl ?_
      refine j_goto G d_tc_load_66 (tgt := 35) rfl ?_
      exact ih s1 l1 l2 l3 (l4 + Int32.ofInt 1)
set_option maxHeartbeats 4000000 in
set_option maxRecDepth 100000 in
theorem b_tc_load_30 {X : Cx} (G : Gd X bc_tc_load 5 R_chip (some .boolean) (rmm 1 22)) (σ : CS) : J wdC X (QI wdC X) 5 30 [(0, .ref (eO (xE X) 0))] [] σ (tc_load_30 σ ) := by
  unfold tc_load_30
  refine j_iconst G d_tc_load_30 ci_0 ?_
  exact j_zretc (by decide) G d_tc_load_31
set_option maxHeartbeats 4000000 in
set_option maxRecDepth 100000 in
theorem b_tc_load {X : Cx} (G : Gd X bc_tc_load 5 R_chip (some .boolean) (rmm 1 22)) (σ : CS) (a1 a2 a3 : Int32) : J wdC X (QI wdC X) 5 0 [(0, .ref (eO (xE X) 0)), (1, .int a1), (2, .int a2), (3, .int a3)] [] σ (tc_load σ a1 a2 a3) := by
  unfold tc_load
  refine j_iload_n 3 G d_tc_load_0 rfl rfl ?_
  refine j_iconst G d_tc_load_1 ci_1 ?_
  refine j_iclt G d_tc_load_2 (tgt := 10) rfl ?_ ?_
  · refine j_sub [0] (L1 := [(0, .ref (eO (xE X) 0))]) rfl ?_
    exact b_tc_load_10 G σ
  · refine j_iload_n 3 G d_tc_load_5 rfl rfl ?_
    refine j_iconst G d_tc_load_6 ci_4 ?_
    refine j_icle G d_tc_load_7 (tgt := 12) rfl ?_ ?_
    · refine j_iload_n 1 G d_tc_load_12 rfl rfl ?_
      refine j_Si1 G k_me_has mw_me_has lk_tc_me_has d_tc_load_13 rfl (Nat.le_of_ble_eq_true rfl) (fun v1 s1 => ?_)
      refine j_ifeq G d_tc_load_16 (tgt := 30) rfl ?_ ?_
      · refine j_sub [0] (L1 := [(0, .ref (eO (xE X) 0))]) rfl ?_
        exact b_tc_load_30 G s1
      · refine j_iload_n 1 G d_tc_load_19 rfl rfl ?_
        refine j_iload_n 3 G d_tc_load_20 rfl rfl ?_
        refine j_iadd G d_tc_load_21 ?_
        refine j_iconst G d_tc_load_22 ci_1 ?_
        refine j_isub G d_tc_load_23 ?_
        refine j_Si1 G k_me_has mw_me_has lk_tc_me_has d_tc_load_24 rfl (Nat.le_of_ble_eq_true rfl) (fun v2 s2 => ?_)
        refine j_ifne G d_tc_load_27 (tgt := 32) rfl ?_ ?_
        · refine j_iconst G d_tc_load_32 ci_0 ?_
          refine j_istore [1, 2, 3, 4, 0] (L1 := [(0, .ref (eO (xE X) 0)), (1, .int a1), (2, .int a2), (3, .int a3), (4, .int (0 : Int32))]) G d_tc_load_33 (by decide) rfl ?_
          exact b_tc_load_35 G 5 s2 a1 a2 a3 (0 : Int32)
        · refine j_sub [0] (L1 := [(0, .ref (eO (xE X) 0))]) rfl ?_
          exact b_tc_load_30 G s2
    · refine j_sub [0] (L1 := [(0, .ref (eO (xE X) 0))]) rfl ?_
      exact b_tc_load_10 G σ
set_option maxHeartbeats 4000000 in
set_option maxRecDepth 100000 in
theorem k_tc_load {l : Launch} {E : Ev} {σ : CS} {a1 a2 a3 : Int32} : CtI wdC l E y_tc_load bc_tc_load 5 (some .boolean) (rmm 1 22) [.ref (eO E 0), .int a1, .int a2, .int a3] σ (tc_load σ a1 a2 a3) := ct_i (by decide) (Nat.le_of_ble_eq_true rfl) (fun X hE _ G => by subst hE; exact b_tc_load G σ a1 a2 a3)
def tc_peek_19 (σ : CS) (t0 : Int32) : Option (Int32 × CS) :=
some (t0, σ)
def tc_peek (σ : CS) (a1 : Int32) : Option (Int32 × CS) :=
bd (me_has σ a1) fun v1 s1 =>
if v1 = 0 then (tc_peek_19 s1 (-1 : Int32)) else (bd (me_byteAt s1 a1) fun v2 s2 =>
tc_peek_19 s2 v2)
set_option maxHeartbeats 4000000 in
set_option maxRecDepth 100000 in
theorem b_tc_peek_19 {X : Cx} (G : Gd X bc_tc_peek 2 R_chip (some .int) (rmm 1 21)) (σ : CS) (t0 : Int32) : J wdC X (QI wdC X) 2 19 [(0, .ref (eO (xE X) 0))] [.int t0] σ (tc_peek_19 σ t0) := by
  unfold tc_peek_19
  exact j_iret G d_tc_peek_19
set_option maxHeartbeats 4000000 in
set_option maxRecDepth 100000 in
theorem b_tc_peek {X : Cx} (G : Gd X bc_tc_peek 2 R_chip (some .int) (rmm 1 21)) (σ : CS) (a1 : Int32) : J wdC X (QI wdC X) 2 0 [(0, .ref (eO (xE X) 0)), (1, .int a1)] [] σ (tc_peek σ a1) := by
  unfold tc_peek
  refine j_iload_n 1 G d_tc_peek_0 rfl rfl ?_
  refine j_Si1 G k_me_has mw_me_has lk_tc_me_has d_tc_peek_1 rfl (Nat.le_of_ble_eq_true rfl) (fun v1 s1 => ?_)
  refine j_ifeq G d_tc_peek_4 (tgt := 18) rfl ?_ ?_
  · refine j_iconst G d_tc_peek_18 ci_m1 ?_
    refine j_sub [0] (L1 := [(0, .ref (eO (xE X) 0))]) rfl ?_
    exact b_tc_peek_19 G s1 (-1 : Int32)
  · refine j_aload_n 0 G d_tc_peek_7 rfl rfl ?_
    refine g_tc_memory G d_tc_peek_8 ?_
    refine j_iload_n 1 G d_tc_peek_11 rfl rfl ?_
    refine j_Vi1 G k_me_byteAt mw_me_byteAt lk_tc_me_byteAt rc_mem d_tc_peek_12 rfl (Nat.le_of_ble_eq_true rfl) (fun v2 s2 => ?_)
    refine j_goto G d_tc_peek_15 (tgt := 19) rfl ?_
    refine j_sub [0] (L1 := [(0, .ref (eO (xE X) 0))]) rfl ?_
    exact b_tc_peek_19 G s2 v2
set_option maxHeartbeats 4000000 in
set_option maxRecDepth 100000 in
theorem k_tc_peek {l : Launch} {E : Ev} {σ : CS} {a1 : Int32} : CtI wdC l E y_tc_peek bc_tc_peek 2 (some .int) (rmm 1 21) [.ref (eO E 0), .int a1] σ (tc_peek σ a1) := ct_i (by decide) (Nat.le_of_ble_eq_true rfl) (fun X hE _ G => by subst hE; exact b_tc_peek G σ a1)
