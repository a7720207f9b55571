def mo_interrupt_109 (σ : MS) (t0 t2 : Int32) : Option (Int32 × MS) :=
bd (mo_readWord σ t0) fun v1 s1 =>
gd (okI t2 9) (
ns (my_reg s1 (upd (mx_reg s1) t2.toNatClampNeg v1)) fun s2 =>
ns (my_wai s2 (0 : Int32)) fun s3 =>
some ((0 : Int32), s3))
def mo_interrupt_79 (σ : MS) (l1 t0 t1 t2 : Int32) : Option (Int32 × MS) :=
nm (t1 ||| t0) fun v1 =>
gd (okI t2 9) (
ns (my_reg σ (upd (mx_reg σ) t2.toNatClampNeg v1)) fun s1 =>
if l1 = 0 then (mo_interrupt_109 s1 (65532 : Int32) (6 : Int32)) else (if l1 = (1 : Int32) then (mo_interrupt_109 s1 (65526 : Int32) (6 : Int32)) else (mo_interrupt_109 s1 (65528 : Int32) (6 : Int32))))
def mo_interrupt_52 (σ : MS) (l1 : Int32) : Option (Int32 × MS) :=
if (2 : Int32) ≤ l1 then (mo_interrupt_79 σ l1 (0 : Int32) ((mx_reg σ 8) ||| (16 : Int32)) (8 : Int32)) else (mo_interrupt_79 σ l1 (64 : Int32) ((mx_reg σ 8) ||| (16 : Int32)) (8 : Int32))
def mo_interrupt_13 (σ : MS) (l1 t0 : Int32) : Option (Int32 × MS) :=
gd (isB t0) (
ns (my_due σ t0) fun s1 =>
if (mx_wai s1) = (2 : Int32) then (mo_interrupt_52 s1 l1) else (if l1 = (1 : Int32) then (bd (mo_flag s1 (128 : Int32) (0 : Int32)) fun _ s3 =>
bd (mo_pushAll s3 (5 : Int32) (129 : Int32)) fun _ s4 =>
mo_interrupt_52 s4 l1) else (bd (mo_pushState s1) fun _ s2 =>
mo_interrupt_52 s2 l1)))
def mo_interrupt (σ : MS) (a1 : Int32) : Option (Int32 × MS) :=
if a1 = 0 then (mo_interrupt_13 σ a1 (0 : Int32)) else (mo_interrupt_13 σ a1 (mx_due σ))
set_option maxHeartbeats 4000000 in
set_option maxRecDepth 100000 in
theorem b_mo_interrupt_109 {X : Cx} (G : Gd X bc_mo_interrupt 2 R_mod none (rmm 5 108)) (σ : MS) (t0 t2 : Int32) : J wdM X (QV wdM X) 2 109 [(0, .ref (eO (xE X) 0))] [.int t0, .ref (eO (xE X) 0), .int t2, .ref (eO (xE X) 2)] σ (mo_interrupt_109 σ t0 t2) := by
  unfold mo_interrupt_109
  refine j_Vi1 G k_mo_readWord mw_mo_readWord lk_mo_mo_readWord rc_mod d_mo_interrupt_109 rfl (Nat.le_of_ble_eq_true rfl) (fun v1 s1 => ?_)
  refine as_Mreg G d_mo_interrupt_112 ?_
  refine j_ns (fun s2 => ?_)
  refine j_aload_n 0 G d_mo_interrupt_113 rfl rfl ?_
  refine j_iconst G d_mo_interrupt_114 ci_0 ?_
  refine p_mo_waits G d_mo_interrupt_115 ?_
  refine j_ns (fun s3 => ?_)
  exact j_vret G d_mo_interrupt_118
set_option maxHeartbeats 4000000 in
set_option maxRecDepth 100000 in
theorem b_mo_interrupt_79 {X : Cx} (G : Gd X bc_mo_interrupt 2 R_mod none (rmm 5 108)) (σ : MS) (l1 t0 t1 t2 : Int32) : J wdM X (QV wdM X) 2 79 [(0, .ref (eO (xE X) 0)), (1, .int l1)] [.int t0, .int t1, .int t2, .ref (eO (xE X) 2)] σ (mo_interrupt_79 σ l1 t0 t1 t2) := by
  unfold mo_interrupt_79
  refine j_ior G d_mo_interrupt_79 ?_
  refine j_nm (fun v1 => ?_)
  refine as_Mreg G d_mo_interrupt_80 ?_
  refine j_ns (fun s1 => ?_)
  refine j_aload_n 0 G d_mo_interrupt_81 rfl rfl ?_
  refine g_mo_r G d_mo_interrupt_82 ?_
  refine j_bipush G d_mo_interrupt_85 cb_6 ?_
  refine j_aload_n 0 G d_mo_interrupt_87 rfl rfl ?_
  refine j_iload_n 1 G d_mo_interrupt_88 rfl rfl ?_
  refine j_ifne G d_mo_interrupt_89 (tgt := 97) rfl ?_ ?_
  · refine j_iload_n 1 G d_mo_interrupt_97 rfl rfl ?_
    refine j_iconst G d_mo_interrupt_98 ci_1 ?_
    refine j_icne G d_mo_interrupt_99 (tgt := 107) rfl ?_ ?_
    · refine j_ldc G d_mo_interrupt_107 kc_mo_216 ?_
      refine j_sub [0] (L1 := [(0, .ref (eO (xE X) 0))]) rfl ?_
      exact b_mo_interrupt_109 G s1 (65528 : Int32) (6 : Int32)
    · refine j_ldc G d_mo_interrupt_102 kc_mo_215 ?_
      refine j_goto G d_mo_interrupt_104 (tgt := 109) rfl ?_
      refine j_sub [0] (L1 := [(0, .ref (eO (xE X) 0))]) rfl ?_
      exact b_mo_interrupt_109 G s1 (65526 : Int32) (6 : Int32)
  · refine j_ldc G d_mo_interrupt_92 kc_mo_214 ?_
    refine j_goto G d_mo_interrupt_94 (tgt := 109) rfl ?_
    refine j_sub [0] (L1 := [(0, .ref (eO (xE X) 0))]) rfl ?_
    exact b_mo_interrupt_109 G s1 (65532 : Int32) (6 : Int32)
set_option maxHeartbeats 4000000 in
set_option maxRecDepth 100000 in
theorem b_mo_interrupt_52 {X : Cx} (G : Gd X bc_mo_interrupt 2 R_mod none (rmm 5 108)) (σ : MS) (l1 : Int32) : J wdM X (QV wdM X) 2 52 [(0, .ref (eO (xE X) 0)), (1, .int l1)] [] σ (mo_interrupt_52 σ l1) := by
  unfold mo_interrupt_52
  refine j_aload_n 0 G d_mo_interrupt_52 rfl rfl ?_
  refine g_mo_r G d_mo_interrupt_53 ?_
  refine j_bipush G d_mo_interrupt_56 cb_8 ?_
  refine j_aload_n 0 G d_mo_interrupt_58 rfl rfl ?_
  refine g_mo_r G d_mo_interrupt_59 ?_
  refine j_bipush G d_mo_interrupt_62 cb_8 ?_
  refine alc_Mreg (j := 8) rfl rfl G d_mo_interrupt_64 ?_
  refine j_bipush G d_mo_interrupt_65 cb_16 ?_
  refine j_ior G d_mo_interrupt_67 ?_
  refine j_iload_n 1 G d_mo_interrupt_68 rfl rfl ?_
  refine j_iconst G d_mo_interrupt_69 ci_2 ?_
  refine j_icge G d_mo_interrupt_70 (tgt := 78) rfl ?_ ?_
  · refine j_iconst G d_mo_interrupt_78 ci_0 ?_
    exact b_mo_interrupt_79 G σ l1 (0 : Int32) ((mx_reg σ 8) ||| (16 : Int32)) (8 : Int32)
  · refine j_bipush G d_mo_interrupt_73 cb_64 ?_
    refine j_goto G d_mo_interrupt_75 (tgt := 79) rfl ?_
    exact b_mo_interrupt_79 G σ l1 (64 : Int32) ((mx_reg σ 8) ||| (16 : Int32)) (8 : Int32)
set_option maxHeartbeats 4000000 in
set_option maxRecDepth 100000 in
theorem b_mo_interrupt_13 {X : Cx} (G : Gd X bc_mo_interrupt 2 R_mod none (rmm 5 108)) (σ : MS) (l1 t0 : Int32) : J wdM X (QV wdM X) 2 13 [(0, .ref (eO (xE X) 0)), (1, .int l1)] [.int t0, .ref (eO (xE X) 0)] σ (mo_interrupt_13 σ l1 t0) := by
  unfold mo_interrupt_13
  refine p_mo_due G d_mo_interrupt_13 ?_
  refine j_ns (fun s1 => ?_)
  refine j_aload_n 0 G d_mo_interrupt_16 rfl rfl ?_
  refine g_mo_waits G d_mo_interrupt_17 ?_
  refine j_iconst G d_mo_interrupt_20 ci_2 ?_
  refine j_iceq G d_mo_interrupt_21 (tgt := 52) rfl ?_ ?_
  · exact b_mo_interrupt_52 G s1 l1
  · refine j_iload_n 1 G d_mo_interrupt_24 rfl rfl ?_
    refine j_iconst G d_mo_interrupt_25 ci_1 ?_
    refine j_icne G d_mo_interrupt_26 (tgt := 48) rfl ?_ ?_
    · refine j_aload_n 0 G d_mo_interrupt_48 rfl rfl ?_
      refine j_Vv0 G k_mo_pushState mw_mo_pushState lk_mo_mo_pushState rc_mod d_mo_interrupt_49 rfl (Nat.le_of_ble_eq_true rfl) (fun _ s2 => ?_)
      exact b_mo_interrupt_52 G s2 l1
    · refine j_aload_n 0 G d_mo_interrupt_29 rfl rfl ?_
      refine j_sipush G d_mo_interrupt_30 cs_128 ?_
      refine j_iconst G d_mo_interrupt_33 ci_0 ?_
      refine j_Vv2 G k_mo_flag mw_mo_flag lk_mo_mo_flag rc_mod d_mo_interrupt_34 rfl (Nat.le_of_ble_eq_true rfl) (fun _ s3 => ?_)
      refine j_aload_n 0 G d_mo_interrupt_37 rfl rfl ?_
      refine j_iconst G d_mo_interrupt_38 ci_5 ?_
      refine j_sipush G d_mo_interrupt_39 cs_129 ?_
      refine j_Vv2 G k_mo_pushAll mw_mo_pushAll lk_mo_mo_pushAll rc_mod d_mo_interrupt_42 rfl (Nat.le_of_ble_eq_true rfl) (fun _ s4 => ?_)
      refine j_goto G d_mo_interrupt_45 (tgt := 52) rfl ?_
      exact b_mo_interrupt_52 G s4 l1
set_option maxHeartbeats 4000000 in
set_option maxRecDepth 100000 in
theorem b_mo_interrupt {X : Cx} (G : Gd X bc_mo_interrupt 2 R_mod none (rmm 5 108)) (σ : MS) (a1 : Int32) : J wdM X (QV wdM X) 2 0 [(0, .ref (eO (xE X) 0)), (1, .int a1)] [] σ (mo_interrupt σ a1) := by
  unfold mo_interrupt
  refine j_aload_n 0 G d_mo_interrupt_0 rfl rfl ?_
  refine j_iload_n 1 G d_mo_interrupt_1 rfl rfl ?_
  refine j_ifne G d_mo_interrupt_2 (tgt := 9) rfl ?_ ?_
  · refine j_aload_n 0 G d_mo_interrupt_9 rfl rfl ?_
    refine g_mo_due G d_mo_interrupt_10 ?_
    exact b_mo_interrupt_13 G σ a1 (mx_due σ)
  · refine j_iconst G d_mo_interrupt_5 ci_0 ?_
    refine j_goto G d_mo_interrupt_6 (tgt := 13) rfl ?_
    exact b_mo_interrupt_13 G σ a1 (0 : Int32)
set_option maxHeartbeats 4000000 in
set_option maxRecDepth 100000 in
theorem k_mo_interrupt {l : Launch} {E : Ev} {σ : MS} {a1 : Int32} : CtV wdM l E y_mo_interrupt bc_mo_interrupt 2 none (rmm 5 108) [.ref (eO E 0), .int a1] σ (mo_interrupt σ a1) := ct_v (by decide) (Nat.le_of_ble_eq_true rfl) (fun X hE _ G => by subst hE; exact b_mo_interrupt G σ a1)
def mo_step_104 (σ : MS) : Option (Int32 × MS) :=
some ((1 : Int32), σ)
def mo_step_123 (σ : MS) (t0 : Int32) : Option (Int32 × MS) :=
some (t0, σ)
def mo_step_106 (σ : MS) : Option (Int32 × MS) :=
ns (my_wai σ (0 : Int32)) fun s1 =>
bd (mo_instruct s1) fun v1 s2 =>
if v1 = 0 then (mo_step_123 s2 (2 : Int32)) else (mo_step_123 s2 (0 : Int32))
def mo_step_58 (σ : MS) (t0 : Int32) : Option (Int32 × MS) :=
if t0 < 0 then (if (mx_wai σ) = (2 : Int32) then (mo_step_104 σ) else (if (mx_wai σ) = (1 : Int32) then (if (mx_lev σ 1) = 0 then (if (mx_lev σ 2) = 0 then (mo_step_104 σ) else (mo_step_106 σ)) else (mo_step_106 σ)) else (mo_step_106 σ))) else (bd (mo_interrupt σ t0) fun _ s1 =>
some ((0 : Int32), s1))
def mo_step_57 (σ : MS) : Option (Int32 × MS) :=
mo_step_58 σ (-1 : Int32)
def mo_step_34 (σ : MS) : Option (Int32 × MS) :=
if (mx_lev σ 2) = (1 : Int32) then (bd (mo_is σ (16 : Int32)) fun v1 s1 =>
if v1 = 0 then (mo_step_58 s1 (2 : Int32)) else (mo_step_57 s1)) else (mo_step_57 σ)
def mo_step (σ : MS) : Option (Int32 × MS) :=
if (mx_due σ) = 0 then (if (mx_lev σ 1) = (1 : Int32) then (bd (mo_is σ (64 : Int32)) fun v1 s1 =>
if v1 = 0 then (mo_step_58 s1 (1 : Int32)) else (mo_step_34 s1)) else (mo_step_34 σ)) else (mo_step_58 σ (0 : Int32))
set_option maxHeartbeats 4000000 in
set_option maxRecDepth 100000 in
theorem b_mo_step_104 {X : Cx} (G : Gd X bc_mo_step 2 R_mod (some .int) (rmm 9 204)) (σ : MS) : J wdM X (QI wdM X) 2 104 [(0, .ref (eO (xE X) 0))] [] σ (mo_step_104 σ ) := by
  unfold mo_step_104
  refine j_iconst G d_mo_step_104 ci_1 ?_
  exact j_iret G d_mo_step_105
set_option maxHeartbeats 4000000 in
set_option maxRecDepth 100000 in
theorem b_mo_step_123 {X : Cx} (G : Gd X bc_mo_step 2 R_mod (some .int) (rmm 9 204)) (σ : MS) (t0 : Int32) : J wdM X (QI wdM X) 2 123 [(0, .ref (eO (xE X) 0))] [.int t0] σ (mo_step_123 σ t0) := by
  unfold mo_step_123
  exact j_iret G d_mo_step_123
set_option maxHeartbeats 4000000 in
set_option maxRecDepth 100000 in
theorem b_mo_step_106 {X : Cx} (G : Gd X bc_mo_step 2 R_mod (some .int) (rmm 9 204)) (σ : MS) : J wdM X (QI wdM X) 2 106 [(0, .ref (eO (xE X) 0))] [] σ (mo_step_106 σ ) := by
  unfold mo_step_106
  refine j_aload_n 0 G d_mo_step_106 rfl rfl ?_
  refine j_iconst G d_mo_step_107 ci_0 ?_
  refine p_mo_waits G d_mo_step_108 ?_
  refine j_ns (fun s1 => ?_)
  refine j_aload_n 0 G d_mo_step_111 rfl rfl ?_
  refine j_Vi0 G k_mo_instruct mw_mo_instruct lk_mo_mo_instruct rc_mod d_mo_step_112 rfl (Nat.le_of_ble_eq_true rfl) (fun v1 s2 => ?_)
  refine j_ifeq G d_mo_step_115 (tgt := 122) rfl ?_ ?_
  · refine j_iconst G d_mo_step_122 ci_2 ?_
    exact b_mo_step_123 G s2 (2 : Int32)
  · refine j_iconst G d_mo_step_118 ci_0 ?_
    refine j_goto G d_mo_step_119 (tgt := 123) rfl ?_
    exact b_mo_step_123 G s2 (0 : Int32)
set_option maxHeartbeats 4000000 in
set_option maxRecDepth 100000 in
theorem b_mo_step_58 {X : Cx} (G : Gd X bc_mo_step 2 R_mod (some .int) (rmm 9 204)) (σ : MS) (t0 : Int32) : J wdM X (QI wdM X) 2 58 [(0, .ref (eO (xE X) 0))] [.int t0] σ (mo_step_58 σ t0) := by
  unfold mo_step_58
  refine j_istore_n [1, 0] (L1 := [(0, .ref (eO (xE X) 0)), (1, .int t0)]) G d_mo_step_58 rfl (by decide) rfl ?_
  refine j_iload_n 1 G d_mo_step_59 rfl rfl ?_
  refine j_iflt G d_mo_step_60 (tgt := 70) rfl ?_ ?_
  · refine j_aload_n 0 G d_mo_step_70 rfl rfl ?_
    refine g_mo_waits G d_mo_step_71 ?_
    refine j_iconst G d_mo_step_74 ci_2 ?_
    refine j_iceq G d_mo_step_75 (tgt := 104) rfl ?_ ?_
    · refine j_sub [0] (L1 := [(0, .ref (eO (xE X) 0))]) rfl ?_
      exact b_mo_step_104 G σ
    · refine j_aload_n 0 G d_mo_step_78 rfl rfl ?_
      refine g_mo_waits G d_mo_step_79 ?_
      refine j_iconst G d_mo_step_82 ci_1 ?_
      refine j_icne G d_mo_step_83 (tgt := 106) rfl ?_ ?_
      · refine j_sub [0] (L1 := [(0, .ref (eO (xE X) 0))]) rfl ?_
        exact b_mo_step_106 G σ
      · refine j_aload_n 0 G d_mo_step_86 rfl rfl ?_
        refine g_mo_level G d_mo_step_87 ?_
        refine j_iconst G d_mo_step_90 ci_1 ?_
        refine alc_Mlev (j := 1) rfl rfl G d_mo_step_91 ?_
        refine j_ifne G d_mo_step_92 (tgt := 106) rfl ?_ ?_
        · refine j_sub [0] (L1 := [(0, .ref (eO (xE X) 0))]) rfl ?_
          exact b_mo_step_106 G σ
        · refine j_aload_n 0 G d_mo_step_95 rfl rfl ?_
          refine g_mo_level G d_mo_step_96 ?_
          refine j_iconst G d_mo_step_99 ci_2 ?_
          refine alc_Mlev (j := 2) rfl rfl G d_mo_step_100 ?_
          refine j_ifne G d_mo_step_101 (tgt := 106) rfl ?_ ?_
          · refine j_sub [0] (L1 := [(0, .ref (eO (xE X) 0))]) rfl ?_
            exact b_mo_step_106 G σ
          · refine j_sub [0] (L1 := [(0, .ref (eO (xE X) 0))]) rfl ?_
            exact b_mo_step_104 G σ
  · refine j_aload_n 0 G d_mo_step_63 rfl rfl ?_
    refine j_iload_n 1 G d_mo_step_64 rfl rfl ?_
    refine j_Vv1 G k_mo_interrupt mw_mo_interrupt lk_mo_mo_interrupt rc_mod d_mo_step_65 rfl (Nat.le_of_ble_eq_true rfl) (fun _ s1 => ?_)
    refine j_iconst G d_mo_step_68 ci_0 ?_
    exact j_iret G d_mo_step_69
set_option maxHeartbeats 4000000 in
set_option maxRecDepth 100000 in
theorem b_mo_step_57 {X : Cx} (G : Gd X bc_mo_step 2 R_mod (some .int) (rmm 9 204)) (σ : MS) : J wdM X (QI wdM X) 2 57 [(0, .ref (eO (xE X) 0))] [] σ (mo_step_57 σ ) := by
  unfold mo_step_57
  refine j_iconst G d_mo_step_57 ci_m1 ?_
  exact b_mo_step_58 G σ (-1 : Int32)
set_option maxHeartbeats 4000000 in
set_option maxRecDepth 100000 in
theorem b_mo_step_34 {X : Cx} (G : Gd X bc_mo_step 2 R_mod (some .int) (rmm 9 204)) (σ : MS) : J wdM X (QI wdM X) 2 34 [(0, .ref (eO (xE X) 0))] [] σ (mo_step_34 σ ) := by
  unfold mo_step_34
  refine j_aload_n 0 G d_mo_step_34 rfl rfl ?_
  refine g_mo_level G d_mo_step_35 ?_
  refine j_iconst G d_mo_step_38 ci_2 ?_
  refine alc_Mlev (j := 2) rfl rfl G d_mo_step_39 ?_
  refine j_iconst G d_mo_step_40 ci_1 ?_
  refine j_icne G d_mo_step_41 (tgt := 57) rfl ?_ ?_
  · exact b_mo_step_57 G σ
  · refine j_aload_n 0 G d_mo_step_44 rfl rfl ?_
    refine j_bipush G d_mo_step_45 cb_16 ?_
    refine j_Vi1 G k_mo_is mw_mo_is lk_mo_mo_is rc_mod d_mo_step_47 rfl (Nat.le_of_ble_eq_true rfl) (fun v1 s1 => ?_)
    refine j_ifne G d_mo_step_50 (tgt := 57) rfl ?_ ?_
    · exact b_mo_step_57 G s1
    · refine j_iconst G d_mo_step_53 ci_2 ?_
      refine j_goto G d_mo_step_54 (tgt := 58) rfl ?_
      exact b_mo_step_58 G s1 (2 : Int32)
set_option maxHeartbeats 4000000 in
set_option maxRecDepth 100000 in
theorem b_mo_step {X : Cx} (G : Gd X bc_mo_step 2 R_mod (some .int) (rmm 9 204)) (σ : MS) : J wdM X (QI wdM X) 2 0 [(0, .ref (eO (xE X) 0))] [] σ (mo_step σ ) := by
  unfold mo_step
  refine j_aload_n 0 G d_mo_step_0 rfl rfl ?_
  refine g_mo_due G d_mo_step_1 ?_
  refine j_ifeq G d_mo_step_4 (tgt := 11) rfl ?_ ?_
  · refine j_aload_n 0 G d_mo_step_11 rfl rfl ?_
    refine g_mo_level G d_mo_step_12 ?_
    refine j_iconst G d_mo_step_15 ci_1 ?_
    refine alc_Mlev (j := 1) rfl rfl G d_mo_step_16 ?_
    refine j_iconst G d_mo_step_17 ci_1 ?_
    refine j_icne G d_mo_step_18 (tgt := 34) rfl ?_ ?_
    · exact b_mo_step_34 G σ
    · refine j_aload_n 0 G d_mo_step_21 rfl rfl ?_
      refine j_bipush G d_mo_step_22 cb_64 ?_
      refine j_Vi1 G k_mo_is mw_mo_is lk_mo_mo_is rc_mod d_mo_step_24 rfl (Nat.le_of_ble_eq_true rfl) (fun v1 s1 => ?_)
      refine j_ifne G d_mo_step_27 (tgt := 34) rfl ?_ ?_
      · exact b_mo_step_34 G s1
      · refine j_iconst G d_mo_step_30 ci_1 ?_
        refine j_goto G d_mo_step_31 (tgt := 58) rfl ?_
        exact b_mo_step_58 G s1 (1 : Int32)
  · refine j_iconst G d_mo_step_7 ci_0 ?_
    refine j_goto G d_mo_step_8 (tgt := 58) rfl ?_
    exact b_mo_step_58 G σ (0 : Int32)
set_option maxHeartbeats 4000000 in
set_option maxRecDepth 100000 in
theorem k_mo_step {l : Launch} {E : Ev} {σ : MS} : CtI wdM l E y_mo_step bc_mo_step 2 (some .int) (rmm 9 204) [.ref (eO E 0)] σ (mo_step σ ) := ct_i (by decide) (Nat.le_of_ble_eq_true rfl) (fun X hE _ G => by subst hE; exact b_mo_step G σ )
def mo_run_37 (σ : MS) (l2 : Int32) : Option (Int32 × MS) :=
some (l2, σ)
def mo_run_16 : Nat → MS → Int32 → Int32 → Int32 → Option (Int32 × MS)
  | 0, _, _, _, _ => none
  | fu + 1, σ, l1, l2, l3 =>
    if l1 ≤ l2 then (mo_run_37 σ l2) else (if l3 = 0 then (bd (mo_step σ) fun v1 s1 =>
    nm (l2 + (1 : Int32)) fun v2 =>
    mo_run_16 fu s1 l1 v2 v1) else (mo_run_37 σ l2))
def mo_run (σ : MS) (a1 : Int32) : Option (Int32 × MS) :=
bd (mo_in σ a1 (1 : Int32) (50 : Int32)) fun v1 s1 =>
if v1 = 0 then (some ((-1 : Int32), s1)) else (mo_run_16 52 s1 a1 (0 : Int32) (0 : Int32))
set_option maxHeartbeats 4000000 in
set_option maxRecDepth 100000 in
theorem b_mo_run_37 {X : Cx} (G : Gd X bc_mo_run 4 R_mod (some .int) (rmm 10 225)) (σ : MS) (l2 : Int32) : J wdM X (QI wdM X) 4 37 [(0, .ref (eO (xE X) 0)), (2, .int l2)] [] σ (mo_run_37 σ l2) := by
  unfold mo_run_37
  refine j_iload_n 1 G d_mo_run_37 rfl rfl ?_
  exact j_iret G d_mo_run_38
set_option maxHeartbeats 4000000 in
set_option maxRecDepth 100000 in
theorem b_mo_run_16 {X : Cx} (G : Gd X bc_mo_run 4 R_mod (some .int) (rmm 10 225)) : ∀ (fu : Nat) (σ : MS) (l1 l2 l3 : Int32), J wdM X (QI wdM X) 4 16 [(0, .ref (eO (xE X) 0)), (1, .int l1), (2, .int l2), (3, .int l3)] [] σ (mo_run_16 fu σ l1 l2 l3) := by
  intro fu
  induction fu with
  | zero => intro σ l1 l2 l3 o ho; cases ho
  | succ fu ih =>
    intro σ l1 l2 l3
    unfold mo_run_16
    refine j_iload_n 2 G d_mo_run_16 rfl rfl ?_
    refine j_iload_n 1 G d_mo_run_17 rfl rfl ?_
    refine j_icge G d_mo_run_18 (tgt := 37) rfl ?_ ?_
    · refine j_sub [0, 2] (L1 := [(0, .ref (eO (xE X) 0)), (2, .int l2)]) rfl ?_
      exact b_mo_run_37 G σ l2
    · refine j_iload_n 3 G d_mo_run_21 rfl rfl ?_
      refine j_ifne G d_mo_run_22 (tgt := 37) rfl ?_ ?_
      · refine j_sub [0, 2] (L1 := [(0, .ref (eO (xE X) 0)), (2, .int l2)]) rfl ?_
        exact b_mo_run_37 G σ l2
      · refine j_aload_n 0 G d_mo_run_25 rfl rfl ?_
        refine j_Vi0 G k_mo_step mw_mo_step lk_mo_mo_step rc_mod d_mo_run_26 rfl (Nat.le_of_ble_eq_true rfl) (fun v1 s1 => ?_)
        refine j_istore_n [1, 2, 3, 0] (L1 := [(0, .ref (eO (xE X) 0)), (1, .int l1), (2, .int l2), (3, .int v1)]) G d_mo_run_29 rfl (by decide) rfl ?_
        refine j_iload_n 2 G d_mo_run_30 rfl rfl ?_
        refine j_iconst G d_mo_run_31 ci_1 ?_
        refine j_iadd G d_mo_run_32 ?_
        refine j_nm (fun v2 => ?_)
        refine j_istore_n [1, 2, 0, 3] (L1 := [(0, .ref (eO (xE X) 0)), (1, .int l1), (2, .int v2), (3, .int v1)]) G d_mo_run_33 rfl (by decide) rfl ?_
        refine j_goto G d_mo_run_34 (tgt := 16) rfl ?_
        exact ih s1 l1 v2 v1
set_option maxHeartbeats 4000000 in
set_option maxRecDepth 100000 in
theorem b_mo_run {X : Cx} (G : Gd X bc_mo_run 4 R_mod (some .int) (rmm 10 225)) (σ : MS) (a1 : Int32) : J wdM X (QI wdM X) 4 0 [(0, .ref (eO (xE X) 0)), (1, .int a1)] [] σ (mo_run σ a1) := by
  unfold mo_run
  refine j_iload_n 1 G d_mo_run_0 rfl rfl ?_
  refine j_iconst G d_mo_run_1 ci_1 ?_
  refine j_bipush G d_mo_run_2 cb_50 ?_
  refine j_Si3 G k_mo_in mw_mo_in lk_mo_mo_in d_mo_run_4 rfl (Nat.le_of_ble_eq_true rfl) (fun v1 s1 => ?_)
  refine j_ifne G d_mo_run_7 (tgt := 12) rfl ?_ ?_
  · refine j_iconst G d_mo_run_12 ci_0 ?_
    refine j_istore_n [1, 2, 0] (L1 := [(0, .ref (eO (xE X) 0)), (1, .int a1), (2, .int (0 : Int32))]) G d_mo_run_13 rfl (by decide) rfl ?_
    refine j_iconst G d_mo_run_14 ci_0 ?_
    refine j_istore_n [1, 2, 3, 0] (L1 := [(0, .ref (eO (xE X) 0)), (1, .int a1), (2, .int (0 : Int32)), (3, .int (0 : Int32))]) G d_mo_run_15 rfl (by decide) rfl ?_
    exact b_mo_run_16 G 52 s1 a1 (0 : Int32) (0 : Int32)
  · refine j_iconst G d_mo_run_10 ci_m1 ?_
    exact j_iret G d_mo_run_11
set_option maxHeartbeats 4000000 in
set_option maxRecDepth 100000 in
theorem k_mo_run {l : Launch} {E : Ev} {σ : MS} {a1 : Int32} : CtI wdM l E y_mo_run bc_mo_run 4 (some .int) (rmm 10 225) [.ref (eO E 0), .int a1] σ (mo_run σ a1) := ct_i (by decide) (Nat.le_of_ble_eq_true rfl) (fun X hE _ G => by subst hE; exact b_mo_run G σ a1)
def mo_reset (σ : MS) : Option (Int32 × MS) :=
ns (my_reg σ (upd (mx_reg σ) 7 (0 : Int32))) fun s1 =>
nm (((mx_reg s1 8) ||| (16 : Int32)) ||| (64 : Int32)) fun v1 =>
ns (my_reg s1 (upd (mx_reg s1) 8 v1)) fun s2 =>
ns (my_arm s2 (0 : Int32)) fun s3 =>
ns (my_due s3 (0 : Int32)) fun s4 =>
ns (my_wai s4 (0 : Int32)) fun s5 =>
bd (mo_readWord s5 (65534 : Int32)) fun v2 s6 =>
ns (my_reg s6 (upd (mx_reg s6) 6 v2)) fun s7 =>
some ((0 : Int32), s7)
set_option maxHeartbeats 4000000 in
set_option maxRecDepth 100000 in
theorem b_mo_reset {X : Cx} (G : Gd X bc_mo_reset 1 R_mod none (rmm 2 42)) (σ : MS) : J wdM X (QV wdM X) 1 0 [(0, .ref (eO (xE X) 0))] [] σ (mo_reset σ ) := by
  unfold mo_reset
  refine j_aload_n 0 G d_mo_reset_0 rfl rfl ?_
  refine g_mo_r G d_mo_reset_1 ?_
  refine j_bipush G d_mo_reset_4 cb_7 ?_
  refine j_iconst G d_mo_reset_6 ci_0 ?_
  refine asc_Mreg (j := 7) rfl rfl G d_mo_reset_7 ?_
  refine j_ns (fun s1 => ?_)
  refine j_aload_n 0 G d_mo_reset_8 rfl rfl ?_
  refine g_mo_r G d_mo_reset_9 ?_
  refine j_bipush G d_mo_reset_12 cb_8 ?_
  refine j_aload_n 0 G d_mo_reset_14 rfl rfl ?_
  refine g_mo_r G d_mo_reset_15 ?_
  refine j_bipush G d_mo_reset_18 cb_8 ?_
  refine alc_Mreg (j := 8) rfl rfl G d_mo_reset_20 ?_
  refine j_bipush G d_mo_reset_21 cb_16 ?_
  refine j_ior G d_mo_reset_23 ?_
  refine j_bipush G d_mo_reset_24 cb_64 ?_
  refine j_ior G d_mo_reset_26 ?_
  refine j_nm (fun v1 => ?_)
  refine asc_Mreg (j := 8) rfl rfl G d_mo_reset_27 ?_
  refine j_ns (fun s2 => ?_)
  refine j_aload_n 0 G d_mo_reset_28 rfl rfl ?_
  refine j_iconst G d_mo_reset_29 ci_0 ?_
  refine pc_mo_armed (by decide) G d_mo_reset_30 ?_
  refine j_ns (fun s3 => ?_)
  refine j_aload_n 0 G d_mo_reset_33 rfl rfl ?_
  refine j_iconst G d_mo_reset_34 ci_0 ?_
  refine pc_mo_due (by decide) G d_mo_reset_35 ?_
  refine j_ns (fun s4 => ?_)
  refine j_aload_n 0 G d_mo_reset_38 rfl rfl ?_
  refine j_iconst G d_mo_reset_39 ci_0 ?_
  refine p_mo_waits G d_mo_reset_40 ?_
  refine j_ns (fun s5 => ?_)
  refine j_aload_n 0 G d_mo_reset_43 rfl rfl ?_
  refine g_mo_r G d_mo_reset_44 ?_
  refine j_bipush G d_mo_reset_47 cb_6 ?_
  refine j_aload_n 0 G d_mo_reset_49 rfl rfl ?_
  refine j_ldc G d_mo_reset_50 kc_mo_227 ?_
  refine j_Vi1 G k_mo_readWord mw_mo_readWord lk_mo_mo_readWord rc_mod d_mo_reset_52 rfl (Nat.le_of_ble_eq_true rfl) (fun v2 s6 => ?_)
  refine asc_Mreg (j := 6) rfl rfl G d_mo_reset_55 ?_
  refine j_ns (fun s7 => ?_)
  exact j_vret G d_mo_reset_56
set_option maxHeartbeats 4000000 in
set_option maxRecDepth 100000 in
theorem k_mo_reset {l : Launch} {E : Ev} {σ : MS} : CtV wdM l E y_mo_reset bc_mo_reset 1 none (rmm 2 42) [.ref (eO E 0)] σ (mo_reset σ ) := ct_v (by decide) (Nat.le_of_ble_eq_true rfl) (fun X hE _ G => by subst hE; exact b_mo_reset G σ )
def mo_poke_22 (σ : MS) : Option (Int32 × MS) :=
some ((0 : Int32), σ)
def mo_poke (σ : MS) (a1 a2 : Int32) : Option (Int32 × MS) :=
bd (mo_in σ a1 (0 : Int32) (4095 : Int32)) fun v1 s1 =>
if v1 = 0 then (mo_poke_22 s1) else (bd (mo_in s1 a2 (0 : Int32) (255 : Int32)) fun v2 s2 =>
if v2 = 0 then (mo_poke_22 s2) else (gd (okI a1 4096) (
ns (my_mem s2 (upd (mx_mem s2) a1.toNatClampNeg a2)) fun s3 =>
some ((1 : Int32), s3))))
set_option maxHeartbeats 4000000 in
set_option maxRecDepth 100000 in
theorem b_mo_poke_22 {X : Cx} (G : Gd X bc_mo_poke 3 R_mod (some .boolean) (rmm 1 22)) (σ : MS) : J wdM X (QI wdM X) 3 22 [(0, .ref (eO (xE X) 0))] [] σ (mo_poke_22 σ ) := by
  unfold mo_poke_22
  refine j_iconst G d_mo_poke_22 ci_0 ?_
  exact j_zretc (by decide) G d_mo_poke_23
set_option maxHeartbeats 4000000 in
set_option maxRecDepth 100000 in
theorem b_mo_poke {X : Cx} (G : Gd X bc_mo_poke 3 R_mod (some .boolean) (rmm 1 22)) (σ : MS) (a1 a2 : Int32) : J wdM X (QI wdM X) 3 0 [(0, .ref (eO (xE X) 0)), (1, .int a1), (2, .int a2)] [] σ (mo_poke σ a1 a2) := by
  unfold mo_poke
  refine j_iload_n 1 G d_mo_poke_0 rfl rfl ?_
  refine j_iconst G d_mo_poke_1 ci_0 ?_
  refine j_sipush G d_mo_poke_2 cs_4095 ?_
  refine j_Si3 G k_mo_in mw_mo_in lk_mo_mo_in d_mo_poke_5 rfl (Nat.le_of_ble_eq_true rfl) (fun v1 s1 => ?_)
  refine j_ifeq G d_mo_poke_8 (tgt := 22) rfl ?_ ?_
  · refine j_sub [0] (L1 := [(0, .ref (eO (xE X) 0))]) rfl ?_
    exact b_mo_poke_22 G s1
  · refine j_iload_n 2 G d_mo_poke_11 rfl rfl ?_
    refine j_iconst G d_mo_poke_12 ci_0 ?_
    refine j_sipush G d_mo_poke_13 cs_255 ?_
    refine j_Si3 G k_mo_in mw_mo_in lk_mo_mo_in d_mo_poke_16 rfl (Nat.le_of_ble_eq_true rfl) (fun v2 s2 => ?_)
    refine j_ifne G d_mo_poke_19 (tgt := 24) rfl ?_ ?_
    · refine j_aload_n 0 G d_mo_poke_24 rfl rfl ?_
      refine g_mo_memory G d_mo_poke_25 ?_
      refine j_iload_n 1 G d_mo_poke_28 rfl rfl ?_
      refine j_iload_n 2 G d_mo_poke_29 rfl rfl ?_
      refine as_Mmem G d_mo_poke_30 ?_
      refine j_ns (fun s3 => ?_)
      refine j_iconst G d_mo_poke_31 ci_1 ?_
      exact j_zretc (by decide) G d_mo_poke_32
    · refine j_sub [0] (L1 := [(0, .ref (eO (xE X) 0))]) rfl ?_
      exact b_mo_poke_22 G s2
set_option maxHeartbeats 4000000 in
set_option maxRecDepth 100000 in
theorem k_mo_poke {l : Launch} {E : Ev} {σ : MS} {a1 a2 : Int32} : CtI wdM l E y_mo_poke bc_mo_poke 3 (some .boolean) (rmm 1 22) [.ref (eO E 0), .int a1, .int a2] σ (mo_poke σ a1 a2) := ct_i (by decide) (Nat.le_of_ble_eq_true rfl) (fun X hE _ G => by subst hE; exact b_mo_poke G σ a1 a2)
def mo_load_27 : Nat → MS → Int32 → Int32 → Int32 → Int32 → Option (Int32 × MS)
  | 0, _, _, _, _, _ => none
  | fu + 1, σ, l1, l2, l3, l4 =>
    if l3 ≤ l4 then (some ((1 : Int32), σ)) else (nm ((l2 >>> (((8 : Int32) * ((l3 - (1 : Int32)) - l4)) &&& 31)) &&& (255 : Int32)) fun v1 =>
    gd (okI (l1 + l4) 4096) (
    ns (my_mem σ (upd (mx_mem σ) (l1 + l4).toNatClampNeg v1)) fun s1 =>
    mo_load_27 fu s1 l1 l2 l3 (l4 + Int32.ofInt 1)))
def mo_load_22 (σ : MS) : Option (Int32 × MS) :=
some ((0 : Int32), σ)
def mo_load (σ : MS) (a1 a2 a3 : Int32) : Option (Int32 × MS) :=
bd (mo_in σ a3 (1 : Int32) (4 : Int32)) fun v1 s1 =>
if v1 = 0 then (mo_load_22 s1) else (if a1 < 0 then (mo_load_22 s1) else (if a1 ≤ ((4096 : Int32) - a3) then (mo_load_27 5 s1 a1 a2 a3 (0 : Int32)) else (mo_load_22 s1)))
set_option maxHeartbeats 4000000 in
set_option maxRecDepth 100000 in
theorem b_mo_load_27 {X : Cx} (G : Gd X bc_mo_load 5 R_mod (some .boolean) (rmm 1 22)) : ∀ (fu : Nat) (σ : MS) (l1 l2 l3 l4 : Int32), J wdM X (QI wdM X) 5 27 [(0, .ref (eO (xE X) 0)), (1, .int l1), (2, .int l2), (3, .int l3), (4, .int l4)] [] σ (mo_load_27 fu σ l1 l2 l3 l4) := by
  intro fu
  induction fu with
  | zero => intro σ l1 l2 l3 l4 o ho; cases ho
  | succ fu ih =>
    intro σ l1 l2 l3 l4
    unfold mo_load_27
    refine j_iload 4 G d_mo_load_27 rfl ?_
    refine j_iload_n 3 G d_mo_load_29 rfl rfl ?_
    refine j_icge G d_mo_load_30 (tgt := 63) rfl ?_ ?_
    · refine j_iconst G d_mo_load_63 ci_1 ?_
      exact j_zretc (by decide) G d_mo_load_64
    · refine j_aload_n 0 G d_mo_load_33 rfl rfl ?_
      refine g_mo_memory G d_mo_load_34 ?_
      refine j_iload_n 1 G d_mo_load_37 rfl rfl ?_
      refine j_iload 4 G d_mo_load_38 rfl ?_
      refine j_iadd G d_mo_load_40 ?_
      refine j_iload_n 2 G d_mo_load_41 rfl rfl ?_
      refine j_bipush G d_mo_load_42 cb_8 ?_
      refine j_iload_n 3 G d_mo_load_44 rfl rfl ?_
      refine j_iconst G d_mo_load_45 ci_1 ?_
      refine j_isub G d_mo_load_46 ?_
      refine j_iload 4 G d_mo_load_47 rfl ?_
      refine j_isub G d_mo_load_49 ?_
      refine j_imul G d_mo_load_50 ?_
      refine j_ishr G d_mo_load_51 ?_
      refine j_sipush G d_mo_load_52 cs_255 ?_
      refine j_iand G d_mo_load_55 ?_
      refine j_nm (fun v1 => ?_)
      refine as_Mmem G d_mo_load_56 ?_
      refine j_ns (fun s1 => ?_)
      refine j_iinc 4 [1, 2, 3, 4, 0] (L1 := [(0, .ref (eO (xE X) 0)), (1, .int l1), (2, .int l2), (3, .int l3), (4, .int (l4 + Int32.ofInt 1))]) G d_mo_load_57 rfl rfl (by decide) rfl ?_
      refine j_goto G d_mo_load_60 (tgt := 27) rfl ?_
      exact ih s1 l1 l2 l3 (l4 + Int32.ofInt 1)
set_option maxHeartbeats 4000000 in
set_option maxRecDepth 100000 in
theorem b_mo_load_22 {X : Cx} (G : Gd X bc_mo_load 5 R_mod (some .boolean) (rmm 1 22)) (σ : MS) : J wdM X (QI wdM X) 5 22 [(0, .ref (eO (xE X) 0))] [] σ (mo_load_22 σ ) := by
  unfold mo_load_22
  refine j_iconst G d_mo_load_22 ci_0 ?_
  exact j_zretc (by decide) G d_mo_load_23
set_option maxHeartbeats 4000000 in
set_option maxRecDepth 100000 in
theorem b_mo_load {X : Cx} (G : Gd X bc_mo_load 5 R_mod (some .boolean) (rmm 1 22)) (σ : MS) (a1 a2 a3 : Int32) : J wdM X (QI wdM X) 5 0 [(0, .ref (eO (xE X) 0)), (1, .int a1), (2, .int a2), (3, .int a3)] [] σ (mo_load σ a1 a2 a3) := by
  unfold mo_load
  refine j_iload_n 3 G d_mo_load_0 rfl rfl ?_
  refine j_iconst G d_mo_load_1 ci_1 ?_
  refine j_iconst G d_mo_load_2 ci_4 ?_
  refine j_Si3 G k_mo_in mw_mo_in lk_mo_mo_in d_mo_load_3 rfl (Nat.le_of_ble_eq_true rfl) (fun v1 s1 => ?_)
  refine j_ifeq G d_mo_load_6 (tgt := 22) rfl ?_ ?_
  · refine j_sub [0] (L1 := [(0, .ref (eO (xE X) 0))]) rfl ?_
    exact b_mo_load_22 G s1
  · refine j_iload_n 1 G d_mo_load_9 rfl rfl ?_
    refine j_iflt G d_mo_load_10 (tgt := 22) rfl ?_ ?_
    · refine j_sub [0] (L1 := [(0, .ref (eO (xE X) 0))]) rfl ?_
      exact b_mo_load_22 G s1
    · refine j_iload_n 1 G d_mo_load_13 rfl rfl ?_
      refine j_sipush G d_mo_load_14 cs_4096 ?_
      refine j_iload_n 3 G d_mo_load_17 rfl rfl ?_
      refine j_isub G d_mo_load_18 ?_
      refine j_icle G d_mo_load_19 (tgt := 24) rfl ?_ ?_
      · refine j_iconst G d_mo_load_24 ci_0 ?_
        refine j_istore [1, 2, 3, 4, 0] (L1 := [(0, .ref (eO (xE X) 0)), (1, .int a1), (2, .int a2), (3, .int a3), (4, .int (0 : Int32))]) G d_mo_load_25 (by decide) rfl ?_
        exact b_mo_load_27 G 5 s1 a1 a2 a3 (0 : Int32)
      · refine j_sub [0] (L1 := [(0, .ref (eO (xE X) 0))]) rfl ?_
        exact b_mo_load_22 G s1
set_option maxHeartbeats 4000000 in
set_option maxRecDepth 100000 in
theorem k_mo_load {l : Launch} {E : Ev} {σ : MS} {a1 a2 a3 : Int32} : CtI wdM l E y_mo_load bc_mo_load 5 (some .boolean) (rmm 1 22) [.ref (eO E 0), .int a1, .int a2, .int a3] σ (mo_load σ a1 a2 a3) := ct_i (by decide) (Nat.le_of_ble_eq_true rfl) (fun X hE _ G => by subst hE; exact b_mo_load G σ a1 a2 a3)
def mo_peek_21 (σ : MS) (t0 : Int32) : Option (Int32 × MS) :=
some (t0, σ)
def mo_peek (σ : MS) (a1 : Int32) : Option (Int32 × MS) :=
bd (mo_in σ a1 (0 : Int32) (4095 : Int32)) fun v1 s1 =>
if v1 = 0 then (mo_peek_21 s1 (-1 : Int32)) else (gd (okI a1 4096) (
nm (mx_mem s1 a1.toNatClampNeg) fun v2 =>
mo_peek_21 s1 v2))
set_option maxHeartbeats 4000000 in
set_option maxRecDepth 100000 in
theorem b_mo_peek_21 {X : Cx} (G : Gd X bc_mo_peek 2 R_mod (some .int) (rmm 1 22)) (σ : MS) (t0 : Int32) : J wdM X (QI wdM X) 2 21 [(0, .ref (eO (xE X) 0))] [.int t0] σ (mo_peek_21 σ t0) := by
  unfold mo_peek_21
  exact j_iret G d_mo_peek_21
set_option maxHeartbeats 4000000 in
set_option maxRecDepth 100000 in
theorem b_mo_peek {X : Cx} (G : Gd X bc_mo_peek 2 R_mod (some .int) (rmm 1 22)) (σ : MS) (a1 : Int32) : J wdM X (QI wdM X) 2 0 [(0, .ref (eO (xE X) 0)), (1, .int a1)] [] σ (mo_peek σ a1) := by
  unfold mo_peek
  refine j_iload_n 1 G d_mo_peek_0 rfl rfl ?_
  refine j_iconst G d_mo_peek_1 ci_0 ?_
  refine j_sipush G d_mo_peek_2 cs_4095 ?_
  refine j_Si3 G k_mo_in mw_mo_in lk_mo_mo_in d_mo_peek_5 rfl (Nat.le_of_ble_eq_true rfl) (fun v1 s1 => ?_)
  refine j_ifeq G d_mo_peek_8 (tgt := 20) rfl ?_ ?_
  · refine j_iconst G d_mo_peek_20 ci_m1 ?_
    refine j_sub [0] (L1 := [(0, .ref (eO (xE X) 0))]) rfl ?_
    exact b_mo_peek_21 G s1 (-1 : Int32)
  · refine j_aload_n 0 G d_mo_peek_11 rfl rfl ?_
    refine g_mo_memory G d_mo_peek_12 ?_
    refine j_iload_n 1 G d_mo_peek_15 rfl rfl ?_
    refine al_Mmem G d_mo_peek_16 ?_
    refine j_nm (fun v2 => ?_)
    refine j_goto G d_mo_peek_17 (tgt := 21) rfl ?_
    refine j_sub [0] (L1 := [(0, .ref (eO (xE X) 0))]) rfl ?_
    exact b_mo_peek_21 G s1 v2
set_option maxHeartbeats 4000000 in
set_option maxRecDepth 100000 in
theorem k_mo_peek {l : Launch} {E : Ev} {σ : MS} {a1 : Int32} : CtI wdM l E y_mo_peek bc_mo_peek 2 (some .int) (rmm 1 22) [.ref (eO E 0), .int a1] σ (mo_peek σ a1) := ct_i (by decide) (Nat.le_of_ble_eq_true rfl) (fun X hE _ G => by subst hE; exact b_mo_peek G σ a1)
def mo_setLine_58 (σ : MS) (l1 l2 t0 : Int32) : Option (Int32 × MS) :=
gd (isB t0) (
ns (my_due σ t0) fun s1 =>
gd (okI l1 3) (
ns (my_lev s1 (upd (mx_lev s1) l1.toNatClampNeg l2)) fun s2 =>
some ((1 : Int32), s2)))
def mo_setLine_57 (σ : MS) (l1 l2 : Int32) : Option (Int32 × MS) :=
mo_setLine_58 σ l1 l2 (0 : Int32)
def mo_setLine_18 (σ : MS) : Option (Int32 × MS) :=
some ((0 : Int32), σ)
def mo_setLine_53 (σ : MS) (l1 l2 : Int32) : Option (Int32 × MS) :=
mo_setLine_58 σ l1 l2 (1 : Int32)
def mo_setLine (σ : MS) (a1 a2 : Int32) : Option (Int32 × MS) :=
bd (mo_in σ a1 (0 : Int32) (2 : Int32)) fun v1 s1 =>
if v1 = 0 then (mo_setLine_18 s1) else (bd (mo_in s1 a2 (0 : Int32) (1 : Int32)) fun v2 s2 =>
if v2 = 0 then (mo_setLine_18 s2) else (if (mx_due s2) = 0 then (if a1 = 0 then (if a2 = (1 : Int32) then (if (mx_lev s2 0) = 0 then (if (mx_arm s2) = 0 then (mo_setLine_57 s2 a1 a2) else (mo_setLine_53 s2 a1 a2)) else (mo_setLine_57 s2 a1 a2)) else (mo_setLine_57 s2 a1 a2)) else (mo_setLine_57 s2 a1 a2)) else (mo_setLine_53 s2 a1 a2)))
set_option maxHeartbeats 4000000 in
set_option maxRecDepth 100000 in
theorem b_mo_setLine_58 {X : Cx} (G : Gd X bc_mo_setLine 3 R_mod (some .boolean) (rmm 1 22)) (σ : MS) (l1 l2 t0 : Int32) : J wdM X (QI wdM X) 3 58 [(0, .ref (eO (xE X) 0)), (1, .int l1), (2, .int l2)] [.int t0, .ref (eO (xE X) 0)] σ (mo_setLine_58 σ l1 l2 t0) := by
  unfold mo_setLine_58
  refine p_mo_due G d_mo_setLine_58 ?_
  refine j_ns (fun s1 => ?_)
  refine j_aload_n 0 G d_mo_setLine_61 rfl rfl ?_
  refine g_mo_level G d_mo_setLine_62 ?_
  refine j_iload_n 1 G d_mo_setLine_65 rfl rfl ?_
  refine j_iload_n 2 G d_mo_setLine_66 rfl rfl ?_
  refine as_Mlev G d_mo_setLine_67 ?_
  refine j_ns (fun s2 => ?_)
  refine j_iconst G d_mo_setLine_68 ci_1 ?_
  exact j_zretc (by decide) G d_mo_setLine_69
set_option maxHeartbeats 4000000 in
set_option maxRecDepth 100000 in
theorem b_mo_setLine_57 {X : Cx} (G : Gd X bc_mo_setLine 3 R_mod (some .boolean) (rmm 1 22)) (σ : MS) (l1 l2 : Int32) : J wdM X (QI wdM X) 3 57 [(0, .ref (eO (xE X) 0)), (1, .int l1), (2, .int l2)] [.ref (eO (xE X) 0)] σ (mo_setLine_57 σ l1 l2) := by
  unfold mo_setLine_57
  refine j_iconst G d_mo_setLine_57 ci_0 ?_
  exact b_mo_setLine_58 G σ l1 l2 (0 : Int32)
set_option maxHeartbeats 4000000 in
set_option maxRecDepth 100000 in
theorem b_mo_setLine_18 {X : Cx} (G : Gd X bc_mo_setLine 3 R_mod (some .boolean) (rmm 1 22)) (σ : MS) : J wdM X (QI wdM X) 3 18 [(0, .ref (eO (xE X) 0))] [] σ (mo_setLine_18 σ ) := by
  unfold mo_setLine_18
  refine j_iconst G d_mo_setLine_18 ci_0 ?_
  exact j_zretc (by decide) G d_mo_setLine_19
set_option maxHeartbeats 4000000 in
set_option maxRecDepth 100000 in
theorem b_mo_setLine_53 {X : Cx} (G : Gd X bc_mo_setLine 3 R_mod (some .boolean) (rmm 1 22)) (σ : MS) (l1 l2 : Int32) : J wdM X (QI wdM X) 3 53 [(0, .ref (eO (xE X) 0)), (1, .int l1), (2, .int l2)] [.ref (eO (xE X) 0)] σ (mo_setLine_53 σ l1 l2) := by
  unfold mo_setLine_53
  refine j_iconst G d_mo_setLine_53 ci_1 ?_
  refine j_goto G d_mo_setLine_54 (tgt := 58) rfl ?_
  exact b_mo_setLine_58 G σ l1 l2 (1 : Int32)
set_option maxHeartbeats 4000000 in
set_option maxRecDepth 100000 in
theorem b_mo_setLine {X : Cx} (G : Gd X bc_mo_setLine 3 R_mod (some .boolean) (rmm 1 22)) (σ : MS) (a1 a2 : Int32) : J wdM X (QI wdM X) 3 0 [(0, .ref (eO (xE X) 0)), (1, .int a1), (2, .int a2)] [] σ (mo_setLine σ a1 a2) := by
  unfold mo_setLine
  refine j_iload_n 1 G d_mo_setLine_0 rfl rfl ?_
  refine j_iconst G d_mo_setLine_1 ci_0 ?_
  refine j_iconst G d_mo_setLine_2 ci_2 ?_
  refine j_Si3 G k_mo_in mw_mo_in lk_mo_mo_in d_mo_setLine_3 rfl (Nat.le_of_ble_eq_true rfl) (fun v1 s1 => ?_)
  refine j_ifeq G d_mo_setLine_6 (tgt := 18) rfl ?_ ?_
  · refine j_sub [0] (L1 := [(0, .ref (eO (xE X) 0))]) rfl ?_
    exact b_mo_setLine_18 G s1
  · refine j_iload_n 2 G d_mo_setLine_9 rfl rfl ?_
    refine j_iconst G d_mo_setLine_10 ci_0 ?_
    refine j_iconst G d_mo_setLine_11 ci_1 ?_
    refine j_Si3 G k_mo_in mw_mo_in lk_mo_mo_in d_mo_setLine_12 rfl (Nat.le_of_ble_eq_true rfl) (fun v2 s2 => ?_)
    refine j_ifne G d_mo_setLine_15 (tgt := 20) rfl ?_ ?_
    · refine j_aload_n 0 G d_mo_setLine_20 rfl rfl ?_
      refine j_aload_n 0 G d_mo_setLine_21 rfl rfl ?_
      refine g_mo_due G d_mo_setLine_22 ?_
      refine j_ifne G d_mo_setLine_25 (tgt := 53) rfl ?_ ?_
      · exact b_mo_setLine_53 G s2 a1 a2
      · refine j_iload_n 1 G d_mo_setLine_28 rfl rfl ?_
        refine j_ifne G d_mo_setLine_29 (tgt := 57) rfl ?_ ?_
        · exact b_mo_setLine_57 G s2 a1 a2
        · refine j_iload_n 2 G d_mo_setLine_32 rfl rfl ?_
          refine j_iconst G d_mo_setLine_33 ci_1 ?_
          refine j_icne G d_mo_setLine_34 (tgt := 57) rfl ?_ ?_
          · exact b_mo_setLine_57 G s2 a1 a2
          · refine j_aload_n 0 G d_mo_setLine_37 rfl rfl ?_
            refine g_mo_level G d_mo_setLine_38 ?_
            refine j_iconst G d_mo_setLine_41 ci_0 ?_
            refine alc_Mlev (j := 0) rfl rfl G d_mo_setLine_42 ?_
            refine j_ifne G d_mo_setLine_43 (tgt := 57) rfl ?_ ?_
            · exact b_mo_setLine_57 G s2 a1 a2
            · refine j_aload_n 0 G d_mo_setLine_46 rfl rfl ?_
              refine g_mo_armed G d_mo_setLine_47 ?_
              refine j_ifeq G d_mo_setLine_50 (tgt := 57) rfl ?_ ?_
              · exact b_mo_setLine_57 G s2 a1 a2
              · exact b_mo_setLine_53 G s2 a1 a2
    · refine j_sub [0] (L1 := [(0, .ref (eO (xE X) 0))]) rfl ?_
      exact b_mo_setLine_18 G s2
set_option maxHeartbeats 4000000 in
set_option maxRecDepth 100000 in
theorem k_mo_setLine {l : Launch} {E : Ev} {σ : MS} {a1 a2 : Int32} : CtI wdM l E y_mo_setLine bc_mo_setLine 3 (some .boolean) (rmm 1 22) [.ref (eO E 0), .int a1, .int a2] σ (mo_setLine σ a1 a2) := ct_i (by decide) (Nat.le_of_ble_eq_true rfl) (fun X hE _ G => by subst hE; exact b_mo_setLine G σ a1 a2)
def mo_reg_20 (σ : MS) (t0 : Int32) : Option (Int32 × MS) :=
some (t0, σ)
def mo_reg (σ : MS) (a1 : Int32) : Option (Int32 × MS) :=
bd (mo_in σ a1 (0 : Int32) (8 : Int32)) fun v1 s1 =>
if v1 = 0 then (mo_reg_20 s1 (-1 : Int32)) else (gd (okI a1 9) (
nm (mx_reg s1 a1.toNatClampNeg) fun v2 =>
mo_reg_20 s1 v2))
set_option maxHeartbeats 4000000 in
set_option maxRecDepth 100000 in
theorem b_mo_reg_20 {X : Cx} (G : Gd X bc_mo_reg 2 R_mod (some .int) (rmm 1 22)) (σ : MS) (t0 : Int32) : J wdM X (QI wdM X) 2 20 [(0, .ref (eO (xE X) 0))] [.int t0] σ (mo_reg_20 σ t0) := by
  unfold mo_reg_20
  exact j_iret G d_mo_reg_20
set_option maxHeartbeats 4000000 in
set_option maxRecDepth 100000 in
theorem b_mo_reg {X : Cx} (G : Gd X bc_mo_reg 2 R_mod (some .int) (rmm 1 22)) (σ : MS) (a1 : Int32) : J wdM X (QI wdM X) 2 0 [(0, .ref (eO (xE X) 0)), (1, .int a1)] [] σ (mo_reg σ a1) := by
  unfold mo_reg
  refine j_iload_n 1 G d_mo_reg_0 rfl rfl ?_
  refine j_iconst G d_mo_reg_1 ci_0 ?_
  refine j_bipush G d_mo_reg_2 cb_8 ?_
  refine j_Si3 G k_mo_in mw_mo_in lk_mo_mo_in d_mo_reg_4 rfl (Nat.le_of_ble_eq_true rfl) (fun v1 s1 => ?_)
  refine j_ifeq G d_mo_reg_7 (tgt := 19) rfl ?_ ?_
  · refine j_iconst G d_mo_reg_19 ci_m1 ?_
    refine j_sub [0] (L1 := [(0, .ref (eO (xE X) 0))]) rfl ?_
    exact b_mo_reg_20 G s1 (-1 : Int32)
  · refine j_aload_n 0 G d_mo_reg_10 rfl rfl ?_
    refine g_mo_r G d_mo_reg_11 ?_
    refine j_iload_n 1 G d_mo_reg_14 rfl rfl ?_
    refine al_Mreg G d_mo_reg_15 ?_
    refine j_nm (fun v2 => ?_)
    refine j_goto G d_mo_reg_16 (tgt := 20) rfl ?_
    refine j_sub [0] (L1 := [(0, .ref (eO (xE X) 0))]) rfl ?_
    exact b_mo_reg_20 G s1 v2
set_option maxHeartbeats 4000000 in
set_option maxRecDepth 100000 in
theorem k_mo_reg {l : Launch} {E : Ev} {σ : MS} {a1 : Int32} : CtI wdM l E y_mo_reg bc_mo_reg 2 (some .int) (rmm 1 22) [.ref (eO E 0), .int a1] σ (mo_reg σ a1) := ct_i (by decide) (Nat.le_of_ble_eq_true rfl) (fun X hE _ G => by subst hE; exact b_mo_reg G σ a1)
def mo_put_36 (σ : MS) (t0 t1 t2 : Int32) : Option (Int32 × MS) :=
nm (t1 &&& t0) fun v1 =>
gd (okI t2 9) (
ns (my_reg σ (upd (mx_reg σ) t2.toNatClampNeg v1)) fun s1 =>
some ((1 : Int32), s1))
def mo_put (σ : MS) (a1 a2 : Int32) : Option (Int32 × MS) :=
bd (mo_in σ a1 (0 : Int32) (8 : Int32)) fun v1 s1 =>
if v1 = 0 then (some ((0 : Int32), s1)) else (bd (mo_in s1 a1 (2 : Int32) (6 : Int32)) fun v2 s2 =>
if v2 = 0 then (mo_put_36 s2 (255 : Int32) a2 a1) else (mo_put_36 s2 (65535 : Int32) a2 a1))
set_option maxHeartbeats 4000000 in
set_option maxRecDepth 100000 in
theorem b_mo_put_36 {X : Cx} (G : Gd X bc_mo_put 3 R_mod (some .boolean) (rmm 1 22)) (σ : MS) (t0 t1 t2 : Int32) : J wdM X (QI wdM X) 3 36 [(0, .ref (eO (xE X) 0))] [.int t0, .int t1, .int t2, .ref (eO (xE X) 2)] σ (mo_put_36 σ t0 t1 t2) := by
  unfold mo_put_36
  refine j_iand G d_mo_put_36 ?_
  refine j_nm (fun v1 => ?_)
  refine as_Mreg G d_mo_put_37 ?_
  refine j_ns (fun s1 => ?_)
  refine j_iconst G d_mo_put_38 ci_1 ?_
  exact j_zretc (by decide) G d_mo_put_39
set_option maxHeartbeats 4000000 in
set_option maxRecDepth 100000 in
theorem b_mo_put {X : Cx} (G : Gd X bc_mo_put 3 R_mod (some .boolean) (rmm 1 22)) (σ : MS) (a1 a2 : Int32) : J wdM X (QI wdM X) 3 0 [(0, .ref (eO (xE X) 0)), (1, .int a1), (2, .int a2)] [] σ (mo_put σ a1 a2) := by
  unfold mo_put
  refine j_iload_n 1 G d_mo_put_0 rfl rfl ?_
  refine j_iconst G d_mo_put_1 ci_0 ?_
  refine j_bipush G d_mo_put_2 cb_8 ?_
  refine j_Si3 G k_mo_in mw_mo_in lk_mo_mo_in d_mo_put_4 rfl (Nat.le_of_ble_eq_true rfl) (fun v1 s1 => ?_)
  refine j_ifne G d_mo_put_7 (tgt := 12) rfl ?_ ?_
  · refine j_aload_n 0 G d_mo_put_12 rfl rfl ?_
    refine g_mo_r G d_mo_put_13 ?_
    refine j_iload_n 1 G d_mo_put_16 rfl rfl ?_
    refine j_iload_n 2 G d_mo_put_17 rfl rfl ?_
    refine j_iload_n 1 G d_mo_put_18 rfl rfl ?_
    refine j_iconst G d_mo_put_19 ci_2 ?_
    refine j_bipush G d_mo_put_20 cb_6 ?_
    refine j_Si3 G k_mo_in mw_mo_in lk_mo_mo_in d_mo_put_22 rfl (Nat.le_of_ble_eq_true rfl) (fun v2 s2 => ?_)
    refine j_ifeq G d_mo_put_25 (tgt := 33) rfl ?_ ?_
    · refine j_sipush G d_mo_put_33 cs_255 ?_
      refine j_sub [0] (L1 := [(0, .ref (eO (xE X) 0))]) rfl ?_
      exact b_mo_put_36 G s2 (255 : Int32) a2 a1
    · refine j_ldc G d_mo_put_28 kc_mo_30 ?_
      refine j_goto G d_mo_put_30 (tgt := 36) rfl ?_
      refine j_sub [0] (L1 := [(0, .ref (eO (xE X) 0))]) rfl ?_
      exact b_mo_put_36 G s2 (65535 : Int32) a2 a1
  · refine j_iconst G d_mo_put_10 ci_0 ?_
    exact j_zretc (by decide) G d_mo_put_11
set_option maxHeartbeats 4000000 in
set_option maxRecDepth 100000 in
theorem k_mo_put {l : Launch} {E : Ev} {σ : MS} {a1 a2 : Int32} : CtI wdM l E y_mo_put bc_mo_put 3 (some .boolean) (rmm 1 22) [.ref (eO E 0), .int a1, .int a2] σ (mo_put σ a1 a2) := ct_i (by decide) (Nat.le_of_ble_eq_true rfl) (fun X hE _ G => by subst hE; exact b_mo_put G σ a1 a2)
def mo_waits (σ : MS) : Option (Int32 × MS) :=
some ((mx_wai σ), σ)
set_option maxHeartbeats 4000000 in
set_option maxRecDepth 100000 in
theorem b_mo_waits {X : Cx} (G : Gd X bc_mo_waits 1 R_mod (some .int) (rmm 0 0)) (σ : MS) : J wdM X (QI wdM X) 1 0 [(0, .ref (eO (xE X) 0))] [] σ (mo_waits σ ) := by
  unfold mo_waits
  refine j_aload_n 0 G d_mo_waits_0 rfl rfl ?_
  refine g_mo_waits G d_mo_waits_1 ?_
  exact j_iret G d_mo_waits_4
set_option maxHeartbeats 4000000 in
set_option maxRecDepth 100000 in
theorem k_mo_waits {l : Launch} {E : Ev} {σ : MS} : CtI wdM l E y_mo_waits bc_mo_waits 1 (some .int) (rmm 0 0) [.ref (eO E 0)] σ (mo_waits σ ) := ct_i (by decide) (Nat.le_of_ble_eq_true rfl) (fun X hE _ G => by subst hE; exact b_mo_waits G σ )
def mo_lines_24 (σ : MS) (t0 t1 : Int32) : Option (Int32 × MS) :=
nm (((t1 + t0) + ((4 : Int32) * (mx_lev σ 0))) + ((8 : Int32) * (mx_lev σ 1))) fun v1 =>
some ((v1 + ((16 : Int32) * (mx_lev σ 2))), σ)
def mo_lines_12 (σ : MS) (t0 : Int32) : Option (Int32 × MS) :=
if (mx_due σ) = 0 then (mo_lines_24 σ (0 : Int32) t0) else (mo_lines_24 σ (2 : Int32) t0)
def mo_lines (σ : MS) : Option (Int32 × MS) :=
if (mx_arm σ) = 0 then (mo_lines_12 σ (0 : Int32)) else (mo_lines_12 σ (1 : Int32))
set_option maxHeartbeats 4000000 in
set_option maxRecDepth 100000 in
theorem b_mo_lines_24 {X : Cx} (G : Gd X bc_mo_lines 1 R_mod (some .int) (rmm 0 0)) (σ : MS) (t0 t1 : Int32) : J wdM X (QI wdM X) 1 24 [(0, .ref (eO (xE X) 0))] [.int t0, .int t1] σ (mo_lines_24 σ t0 t1) := by
  unfold mo_lines_24
  refine j_iadd G d_mo_lines_24 ?_
  refine j_iconst G d_mo_lines_25 ci_4 ?_
  refine j_aload_n 0 G d_mo_lines_26 rfl rfl ?_
  refine g_mo_level G d_mo_lines_27 ?_
  refine j_iconst G d_mo_lines_30 ci_0 ?_
  refine alc_Mlev (j := 0) rfl rfl G d_mo_lines_31 ?_
  refine j_imul G d_mo_lines_32 ?_
  refine j_iadd G d_mo_lines_33 ?_
  refine j_bipush G d_mo_lines_34 cb_8 ?_
  refine j_aload_n 0 G d_mo_lines_36 rfl rfl ?_
  refine g_mo_level G d_mo_lines_37 ?_
  refine j_iconst G d_mo_lines_40 ci_1 ?_
  refine alc_Mlev (j := 1) rfl rfl G d_mo_lines_41 ?_
  refine j_imul G d_mo_lines_42 ?_
  refine j_iadd G d_mo_lines_43 ?_
  refine j_nm (fun v1 => ?_)
  refine j_bipush G d_mo_lines_44 cb_16 ?_
  refine j_aload_n 0 G d_mo_lines_46 rfl rfl ?_
  refine g_mo_level G d_mo_lines_47 ?_
  refine j_iconst G d_mo_lines_50 ci_2 ?_
  refine alc_Mlev (j := 2) rfl rfl G d_mo_lines_51 ?_
  refine j_imul G d_mo_lines_52 ?_
  refine j_iadd G d_mo_lines_53 ?_
  exact j_iret G d_mo_lines_54
set_option maxHeartbeats 4000000 in
set_option maxRecDepth 100000 in
theorem b_mo_lines_12 {X : Cx} (G : Gd X bc_mo_lines 1 R_mod (some .int) (rmm 0 0)) (σ : MS) (t0 : Int32) : J wdM X (QI wdM X) 1 12 [(0, .ref (eO (xE X) 0))] [.int t0] σ (mo_lines_12 σ t0) := by
  unfold mo_lines_12
  refine j_aload_n 0 G d_mo_lines_12 rfl rfl ?_
  refine g_mo_due G d_mo_lines_13 ?_
  refine j_ifeq G d_mo_lines_16 (tgt := 23) rfl ?_ ?_
  · refine j_iconst G d_mo_lines_23 ci_0 ?_
    exact b_mo_lines_24 G σ (0 : Int32) t0
  · refine j_iconst G d_mo_lines_19 ci_2 ?_
    refine j_goto G d_mo_lines_20 (tgt := 24) rfl ?_
    exact b_mo_lines_24 G σ (2 : Int32) t0
set_option maxHeartbeats 4000000 in
set_option maxRecDepth 100000 in
theorem b_mo_lines {X : Cx} (G : Gd X bc_mo_lines 1 R_mod (some .int) (rmm 0 0)) (σ : MS) : J wdM X (QI wdM X) 1 0 [(0, .ref (eO (xE X) 0))] [] σ (mo_lines σ ) := by
  unfold mo_lines
  refine j_aload_n 0 G d_mo_lines_0 rfl rfl ?_
  refine g_mo_armed G d_mo_lines_1 ?_
  refine j_ifeq G d_mo_lines_4 (tgt := 11) rfl ?_ ?_
  · refine j_iconst G d_mo_lines_11 ci_0 ?_
    exact b_mo_lines_12 G σ (0 : Int32)
  · refine j_iconst G d_mo_lines_7 ci_1 ?_
    refine j_goto G d_mo_lines_8 (tgt := 12) rfl ?_
    exact b_mo_lines_12 G σ (1 : Int32)
set_option maxHeartbeats 4000000 in
set_option maxRecDepth 100000 in
theorem k_mo_lines {l : Launch} {E : Ev} {σ : MS} : CtI wdM l E y_mo_lines bc_mo_lines 1 (some .int) (rmm 0 0) [.ref (eO E 0)] σ (mo_lines σ ) := ct_i (by decide) (Nat.le_of_ble_eq_true rfl) (fun X hE _ G => by subst hE; exact b_mo_lines G σ )
