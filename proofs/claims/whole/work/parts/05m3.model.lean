def mo_adjust_109 (σ : MS) (l4 t0 t1 : Int32) : Option (Int32 × MS) :=
bd (mo_flag σ t1 t0) fun _ s1 =>
nm (l4 &&& (255 : Int32)) fun v1 =>
ns (my_reg s1 (upd (mx_reg s1) 0 v1)) fun s2 =>
bd (mo_shows s2 (mx_reg s2 0) (0 : Int32)) fun _ s3 =>
some ((0 : Int32), s3)
def mo_adjust_104 (σ : MS) (l4 t0 : Int32) : Option (Int32 × MS) :=
mo_adjust_109 σ l4 (1 : Int32) t0
def mo_adjust_75 (σ : MS) (t0 : Int32) : Option (Int32 × MS) :=
nm ((mx_reg σ 0) + t0) fun v1 =>
bd (mo_is σ (1 : Int32)) fun v2 s1 =>
if v2 = 0 then (if v1 ≤ (255 : Int32) then (mo_adjust_109 s1 v1 (0 : Int32) (1 : Int32)) else (mo_adjust_104 s1 v1 (1 : Int32))) else (mo_adjust_104 s1 v1 (1 : Int32))
def mo_adjust_74 (σ : MS) (l3 : Int32) : Option (Int32 × MS) :=
mo_adjust_75 σ l3
def mo_adjust_67 (σ : MS) (l3 : Int32) : Option (Int32 × MS) :=
mo_adjust_75 σ (l3 + (96 : Int32))
def mo_adjust_40 (σ : MS) (l1 l2 t0 : Int32) : Option (Int32 × MS) :=
bd (mo_is σ (1 : Int32)) fun v1 s1 =>
if v1 = 0 then (if (9 : Int32) < l2 then (mo_adjust_67 s1 t0) else (if l2 ≤ (8 : Int32) then (mo_adjust_74 s1 t0) else (if l1 ≤ (9 : Int32) then (mo_adjust_74 s1 t0) else (mo_adjust_67 s1 t0)))) else (mo_adjust_67 s1 t0)
def mo_adjust_34 (σ : MS) (l1 l2 : Int32) : Option (Int32 × MS) :=
mo_adjust_40 σ l1 l2 (6 : Int32)
def mo_adjust (σ : MS) : Option (Int32 × MS) :=
nm ((mx_reg σ 0) &&& (15 : Int32)) fun v1 =>
nm ((mx_reg σ 0) >>> ((4 : Int32) &&& 31)) fun v2 =>
bd (mo_is σ (32 : Int32)) fun v3 s1 =>
if v3 = 0 then (if v1 ≤ (9 : Int32) then (mo_adjust_40 s1 v1 v2 (0 : Int32)) else (mo_adjust_34 s1 v1 v2)) else (mo_adjust_34 s1 v1 v2)
set_option maxHeartbeats 4000000 in
set_option maxRecDepth 100000 in
theorem b_mo_adjust_109 {X : Cx} (G : Gd X bc_mo_adjust 5 R_mod none (rmm 2 44)) (σ : MS) (l4 t0 t1 : Int32) : J wdM X (QV wdM X) 5 109 [(0, .ref (eO (xE X) 0)), (4, .int l4)] [.int t0, .int t1, .ref (eO (xE X) 0)] σ (mo_adjust_109 σ l4 t0 t1) := by
  unfold mo_adjust_109
  refine j_Vv2 G k_mo_flag mw_mo_flag lk_mo_mo_flag rc_mod d_mo_adjust_109 rfl (Nat.le_of_ble_eq_true rfl) (fun _ s1 => ?_)
  refine j_aload_n 0 G d_mo_adjust_112 rfl rfl ?_
  refine g_mo_r G d_mo_adjust_113 ?_
  refine j_iconst G d_mo_adjust_116 ci_0 ?_
  refine j_iload 1 G d_mo_adjust_117 rfl ?_
  refine j_sipush G d_mo_adjust_119 cs_255 ?_
  refine j_iand G d_mo_adjust_122 ?_
  refine j_nm (fun v1 => ?_)
  refine asc_Mreg (j := 0) rfl rfl G d_mo_adjust_123 ?_
  refine j_ns (fun s2 => ?_)
  refine j_aload_n 0 G d_mo_adjust_124 rfl rfl ?_
  refine j_aload_n 0 G d_mo_adjust_125 rfl rfl ?_
  refine g_mo_r G d_mo_adjust_126 ?_
  refine j_iconst G d_mo_adjust_129 ci_0 ?_
  refine alc_Mreg (j := 0) rfl rfl G d_mo_adjust_130 ?_
  refine j_iconst G d_mo_adjust_131 ci_0 ?_
  refine j_Vv2 G k_mo_shows mw_mo_shows lk_mo_mo_shows rc_mod d_mo_adjust_132 rfl (Nat.le_of_ble_eq_true rfl) (fun _ s3 => ?_)
  exact j_vret G d_mo_adjust_135
set_option maxHeartbeats 4000000 in
set_option maxRecDepth 100000 in
theorem b_mo_adjust_104 {X : Cx} (G : Gd X bc_mo_adjust 5 R_mod none (rmm 2 44)) (σ : MS) (l4 t0 : Int32) : J wdM X (QV wdM X) 5 104 [(0, .ref (eO (xE X) 0)), (4, .int l4)] [.int t0, .ref (eO (xE X) 0)] σ (mo_adjust_104 σ l4 t0) := by
  unfold mo_adjust_104
  refine j_iconst G d_mo_adjust_104 ci_1 ?_
  refine j_goto G d_mo_adjust_105 (tgt := 109) rfl ?_
  exact b_mo_adjust_109 G σ l4 (1 : Int32) t0
set_option maxHeartbeats 4000000 in
set_option maxRecDepth 100000 in
theorem b_mo_adjust_75 {X : Cx} (G : Gd X bc_mo_adjust 5 R_mod none (rmm 2 44)) (σ : MS) (t0 : Int32) : J wdM X (QV wdM X) 5 75 [(0, .ref (eO (xE X) 0))] [.int t0] σ (mo_adjust_75 σ t0) := by
  unfold mo_adjust_75
  refine j_istore_n [1, 0] (L1 := [(0, .ref (eO (xE X) 0)), (3, .int t0)]) G d_mo_adjust_75 rfl (by decide) rfl ?_
  refine j_aload_n 0 G d_mo_adjust_76 rfl rfl ?_
  refine g_mo_r G d_mo_adjust_77 ?_
  refine j_iconst G d_mo_adjust_80 ci_0 ?_
  refine alc_Mreg (j := 0) rfl rfl G d_mo_adjust_81 ?_
  refine j_iload_n 1 G d_mo_adjust_82 rfl rfl ?_
  refine j_iadd G d_mo_adjust_83 ?_
  refine j_nm (fun v1 => ?_)
  refine j_istore [1, 0] (L1 := [(0, .ref (eO (xE X) 0)), (4, .int v1)]) G d_mo_adjust_84 (by decide) rfl ?_
  refine j_aload_n 0 G d_mo_adjust_86 rfl rfl ?_
  refine j_iconst G d_mo_adjust_87 ci_1 ?_
  refine j_aload_n 0 G d_mo_adjust_88 rfl rfl ?_
  refine j_iconst G d_mo_adjust_89 ci_1 ?_
  refine j_Vi1 G k_mo_is mw_mo_is lk_mo_mo_is rc_mod d_mo_adjust_90 rfl (Nat.le_of_ble_eq_true rfl) (fun v2 s1 => ?_)
  refine j_ifne G d_mo_adjust_93 (tgt := 104) rfl ?_ ?_
  · exact b_mo_adjust_104 G s1 v1 (1 : Int32)
  · refine j_iload 1 G d_mo_adjust_96 rfl ?_
    refine j_sipush G d_mo_adjust_98 cs_255 ?_
    refine j_icle G d_mo_adjust_101 (tgt := 108) rfl ?_ ?_
    · refine j_iconst G d_mo_adjust_108 ci_0 ?_
      exact b_mo_adjust_109 G s1 v1 (0 : Int32) (1 : Int32)
    · exact b_mo_adjust_104 G s1 v1 (1 : Int32)
set_option maxHeartbeats 4000000 in
set_option maxRecDepth 100000 in
theorem b_mo_adjust_74 {X : Cx} (G : Gd X bc_mo_adjust 5 R_mod none (rmm 2 44)) (σ : MS) (l3 : Int32) : J wdM X (QV wdM X) 5 74 [(0, .ref (eO (xE X) 0)), (3, .int l3)] [] σ (mo_adjust_74 σ l3) := by
  unfold mo_adjust_74
  refine j_iload_n 1 G d_mo_adjust_74 rfl rfl ?_
  refine j_sub [0] (L1 := [(0, .ref (eO (xE X) 0))]) rfl ?_
  exact b_mo_adjust_75 G σ l3
set_option maxHeartbeats 4000000 in
set_option maxRecDepth 100000 in
theorem b_mo_adjust_67 {X : Cx} (G : Gd X bc_mo_adjust 5 R_mod none (rmm 2 44)) (σ : MS) (l3 : Int32) : J wdM X (QV wdM X) 5 67 [(0, .ref (eO (xE X) 0)), (3, .int l3)] [] σ (mo_adjust_67 σ l3) := by
  unfold mo_adjust_67
  refine j_iload_n 1 G d_mo_adjust_67 rfl rfl ?_
  refine j_bipush G d_mo_adjust_68 cb_96 ?_
  refine j_iadd G d_mo_adjust_70 ?_
  refine j_goto G d_mo_adjust_71 (tgt := 75) rfl ?_
  refine j_sub [0] (L1 := [(0, .ref (eO (xE X) 0))]) rfl ?_
  exact b_mo_adjust_75 G σ (l3 + (96 : Int32))
set_option maxHeartbeats 4000000 in
set_option maxRecDepth 100000 in
theorem b_mo_adjust_40 {X : Cx} (G : Gd X bc_mo_adjust 5 R_mod none (rmm 2 44)) (σ : MS) (l1 l2 t0 : Int32) : J wdM X (QV wdM X) 5 40 [(0, .ref (eO (xE X) 0)), (1, .int l1), (2, .int l2)] [.int t0] σ (mo_adjust_40 σ l1 l2 t0) := by
  unfold mo_adjust_40
  refine j_istore_n [1, 2, 3, 0] (L1 := [(0, .ref (eO (xE X) 0)), (1, .int l1), (2, .int l2), (3, .int t0)]) G d_mo_adjust_40 rfl (by decide) rfl ?_
  refine j_aload_n 0 G d_mo_adjust_41 rfl rfl ?_
  refine j_iconst G d_mo_adjust_42 ci_1 ?_
  refine j_Vi1 G k_mo_is mw_mo_is lk_mo_mo_is rc_mod d_mo_adjust_43 rfl (Nat.le_of_ble_eq_true rfl) (fun v1 s1 => ?_)
  refine j_ifne G d_mo_adjust_46 (tgt := 67) rfl ?_ ?_
  · refine j_sub [0, 3] (L1 := [(0, .ref (eO (xE X) 0)), (3, .int t0)]) rfl ?_
    exact b_mo_adjust_67 G s1 t0
  · refine j_iload_n 2 G d_mo_adjust_49 rfl rfl ?_
    refine j_bipush G d_mo_adjust_50 cb_9 ?_
    refine j_icgt G d_mo_adjust_52 (tgt := 67) rfl ?_ ?_
    · refine j_sub [0, 3] (L1 := [(0, .ref (eO (xE X) 0)), (3, .int t0)]) rfl ?_
      exact b_mo_adjust_67 G s1 t0
    · refine j_iload_n 2 G d_mo_adjust_55 rfl rfl ?_
      refine j_bipush G d_mo_adjust_56 cb_8 ?_
      refine j_icle G d_mo_adjust_58 (tgt := 74) rfl ?_ ?_
      · refine j_sub [0, 3] (L1 := [(0, .ref (eO (xE X) 0)), (3, .int t0)]) rfl ?_
        exact b_mo_adjust_74 G s1 t0
      · refine j_iload_n 1 G d_mo_adjust_61 rfl rfl ?_
        refine j_bipush G d_mo_adjust_62 cb_9 ?_
        refine j_icle G d_mo_adjust_64 (tgt := 74) rfl ?_ ?_
        · refine j_sub [0, 3] (L1 := [(0, .ref (eO (xE X) 0)), (3, .int t0)]) rfl ?_
          exact b_mo_adjust_74 G s1 t0
        · refine j_sub [0, 3] (L1 := [(0, .ref (eO (xE X) 0)), (3, .int t0)]) rfl ?_
          exact b_mo_adjust_67 G s1 t0
set_option maxHeartbeats 4000000 in
set_option maxRecDepth 100000 in
theorem b_mo_adjust_34 {X : Cx} (G : Gd X bc_mo_adjust 5 R_mod none (rmm 2 44)) (σ : MS) (l1 l2 : Int32) : J wdM X (QV wdM X) 5 34 [(0, .ref (eO (xE X) 0)), (1, .int l1), (2, .int l2)] [] σ (mo_adjust_34 σ l1 l2) := by
  unfold mo_adjust_34
  refine j_bipush G d_mo_adjust_34 cb_6 ?_
  refine j_goto G d_mo_adjust_36 (tgt := 40) rfl ?_
  exact b_mo_adjust_40 G σ l1 l2 (6 : Int32)
set_option maxHeartbeats 4000000 in
set_option maxRecDepth 100000 in
theorem b_mo_adjust {X : Cx} (G : Gd X bc_mo_adjust 5 R_mod none (rmm 2 44)) (σ : MS) : J wdM X (QV wdM X) 5 0 [(0, .ref (eO (xE X) 0))] [] σ (mo_adjust σ ) := by
  unfold mo_adjust
  refine j_aload_n 0 G d_mo_adjust_0 rfl rfl ?_
  refine g_mo_r G d_mo_adjust_1 ?_
  refine j_iconst G d_mo_adjust_4 ci_0 ?_
  refine alc_Mreg (j := 0) rfl rfl G d_mo_adjust_5 ?_
  refine j_bipush G d_mo_adjust_6 cb_15 ?_
  refine j_iand G d_mo_adjust_8 ?_
  refine j_nm (fun v1 => ?_)
  refine j_istore_n [1, 0] (L1 := [(0, .ref (eO (xE X) 0)), (1, .int v1)]) G d_mo_adjust_9 rfl (by decide) rfl ?_
  refine j_aload_n 0 G d_mo_adjust_10 rfl rfl ?_
  refine g_mo_r G d_mo_adjust_11 ?_
  refine j_iconst G d_mo_adjust_14 ci_0 ?_
  refine alc_Mreg (j := 0) rfl rfl G d_mo_adjust_15 ?_
  refine j_iconst G d_mo_adjust_16 ci_4 ?_
  refine j_ishr G d_mo_adjust_17 ?_
  refine j_nm (fun v2 => ?_)
  refine j_istore_n [1, 2, 0] (L1 := [(0, .ref (eO (xE X) 0)), (1, .int v1), (2, .int v2)]) G d_mo_adjust_18 rfl (by decide) rfl ?_
  refine j_aload_n 0 G d_mo_adjust_19 rfl rfl ?_
  refine j_bipush G d_mo_adjust_20 cb_32 ?_
  refine j_Vi1 G k_mo_is mw_mo_is lk_mo_mo_is rc_mod d_mo_adjust_22 rfl (Nat.le_of_ble_eq_true rfl) (fun v3 s1 => ?_)
  refine j_ifne G d_mo_adjust_25 (tgt := 34) rfl ?_ ?_
  · exact b_mo_adjust_34 G s1 v1 v2
  · refine j_iload_n 1 G d_mo_adjust_28 rfl rfl ?_
    refine j_bipush G d_mo_adjust_29 cb_9 ?_
    refine j_icle G d_mo_adjust_31 (tgt := 39) rfl ?_ ?_
    · refine j_iconst G d_mo_adjust_39 ci_0 ?_
      exact b_mo_adjust_40 G s1 v1 v2 (0 : Int32)
    · exact b_mo_adjust_34 G s1 v1 v2
set_option maxHeartbeats 4000000 in
set_option maxRecDepth 100000 in
theorem k_mo_adjust {l : Launch} {E : Ev} {σ : MS} : CtV wdM l E y_mo_adjust bc_mo_adjust 5 none (rmm 2 44) [.ref (eO E 0)] σ (mo_adjust σ ) := ct_v (by decide) (Nat.le_of_ble_eq_true rfl) (fun X hE _ G => by subst hE; exact b_mo_adjust G σ )
def mo_named_80 (σ : MS) (t0 : Int32) : Option (Int32 × MS) :=
some (t0, σ)
def mo_named_26 (σ : MS) (t0 t1 : Int32) : Option (Int32 × MS) :=
mo_named_80 σ (t1 - t0)
def mo_named_78 (σ : MS) : Option (Int32 × MS) :=
mo_named_80 σ (-2 : Int32)
def mo_named (σ : MS) (a1 : Int32) : Option (Int32 × MS) :=
if a1 = 0 then (mo_named_80 σ (-1 : Int32)) else (if (5 : Int32) < a1 then (if a1 < (8 : Int32) then (mo_named_78 σ) else (if (11 : Int32) < a1 then (mo_named_78 σ) else (if a1 = (8 : Int32) then (mo_named_80 σ (0 : Int32)) else (if a1 = (9 : Int32) then (mo_named_80 σ (1 : Int32)) else (if a1 = (10 : Int32) then (mo_named_80 σ (8 : Int32)) else (mo_named_80 σ (7 : Int32))))))) else (if a1 ≤ (5 : Int32) then (mo_named_26 σ (0 : Int32) (a1 + (1 : Int32))) else (mo_named_26 σ (1 : Int32) (a1 + (1 : Int32)))))
set_option maxHeartbeats 4000000 in
set_option maxRecDepth 100000 in
theorem b_mo_named_80 {X : Cx} (G : Gd X bc_mo_named 1 R_mod (some .int) (rmm 0 0)) (σ : MS) (t0 : Int32) : J wdM X (QI wdM X) 1 80 [] [.int t0] σ (mo_named_80 σ t0) := by
  unfold mo_named_80
  exact j_iret G d_mo_named_80
set_option maxHeartbeats 4000000 in
set_option maxRecDepth 100000 in
theorem b_mo_named_26 {X : Cx} (G : Gd X bc_mo_named 1 R_mod (some .int) (rmm 0 0)) (σ : MS) (t0 t1 : Int32) : J wdM X (QI wdM X) 1 26 [] [.int t0, .int t1] σ (mo_named_26 σ t0 t1) := by
  unfold mo_named_26
  refine j_isub G d_mo_named_26 ?_
  refine j_goto G d_mo_named_27 (tgt := 80) rfl ?_
  exact b_mo_named_80 G σ (t1 - t0)
set_option maxHeartbeats 4000000 in
set_option maxRecDepth 100000 in
theorem b_mo_named_78 {X : Cx} (G : Gd X bc_mo_named 1 R_mod (some .int) (rmm 0 0)) (σ : MS) : J wdM X (QI wdM X) 1 78 [] [] σ (mo_named_78 σ ) := by
  unfold mo_named_78
  refine j_bipush G d_mo_named_78 cb_m2 ?_
  exact b_mo_named_80 G σ (-2 : Int32)
set_option maxHeartbeats 4000000 in
set_option maxRecDepth 100000 in
theorem b_mo_named {X : Cx} (G : Gd X bc_mo_named 1 R_mod (some .int) (rmm 0 0)) (σ : MS) (a1 : Int32) : J wdM X (QI wdM X) 1 0 [(0, .int a1)] [] σ (mo_named σ a1) := by
  unfold mo_named
  refine j_iload_n 0 G d_mo_named_0 rfl rfl ?_
  refine j_ifne G d_mo_named_1 (tgt := 8) rfl ?_ ?_
  · refine j_iload_n 0 G d_mo_named_8 rfl rfl ?_
    refine j_iconst G d_mo_named_9 ci_5 ?_
    refine j_icgt G d_mo_named_10 (tgt := 30) rfl ?_ ?_
    · refine j_iload_n 0 G d_mo_named_30 rfl rfl ?_
      refine j_bipush G d_mo_named_31 cb_8 ?_
      refine j_iclt G d_mo_named_33 (tgt := 78) rfl ?_ ?_
      · refine j_sub [] (L1 := []) rfl ?_
        exact b_mo_named_78 G σ
      · refine j_iload_n 0 G d_mo_named_36 rfl rfl ?_
        refine j_bipush G d_mo_named_37 cb_11 ?_
        refine j_icgt G d_mo_named_39 (tgt := 78) rfl ?_ ?_
        · refine j_sub [] (L1 := []) rfl ?_
          exact b_mo_named_78 G σ
        · refine j_iload_n 0 G d_mo_named_42 rfl rfl ?_
          refine j_bipush G d_mo_named_43 cb_8 ?_
          refine j_icne G d_mo_named_45 (tgt := 52) rfl ?_ ?_
          · refine j_iload_n 0 G d_mo_named_52 rfl rfl ?_
            refine j_bipush G d_mo_named_53 cb_9 ?_
            refine j_icne G d_mo_named_55 (tgt := 62) rfl ?_ ?_
            · refine j_iload_n 0 G d_mo_named_62 rfl rfl ?_
              refine j_bipush G d_mo_named_63 cb_10 ?_
              refine j_icne G d_mo_named_65 (tgt := 73) rfl ?_ ?_
              · refine j_bipush G d_mo_named_73 cb_7 ?_
                refine j_goto G d_mo_named_75 (tgt := 80) rfl ?_
                refine j_sub [] (L1 := []) rfl ?_
                exact b_mo_named_80 G σ (7 : Int32)
              · refine j_bipush G d_mo_named_68 cb_8 ?_
                refine j_goto G d_mo_named_70 (tgt := 80) rfl ?_
                refine j_sub [] (L1 := []) rfl ?_
                exact b_mo_named_80 G σ (8 : Int32)
            · refine j_iconst G d_mo_named_58 ci_1 ?_
              refine j_goto G d_mo_named_59 (tgt := 80) rfl ?_
              refine j_sub [] (L1 := []) rfl ?_
              exact b_mo_named_80 G σ (1 : Int32)
          · refine j_iconst G d_mo_named_48 ci_0 ?_
            refine j_goto G d_mo_named_49 (tgt := 80) rfl ?_
            refine j_sub [] (L1 := []) rfl ?_
            exact b_mo_named_80 G σ (0 : Int32)
    · refine j_iload_n 0 G d_mo_named_13 rfl rfl ?_
      refine j_iconst G d_mo_named_14 ci_1 ?_
      refine j_iadd G d_mo_named_15 ?_
      refine j_iload_n 0 G d_mo_named_16 rfl rfl ?_
      refine j_iconst G d_mo_named_17 ci_5 ?_
      refine j_icle G d_mo_named_18 (tgt := 25) rfl ?_ ?_
      · refine j_iconst G d_mo_named_25 ci_0 ?_
        refine j_sub [] (L1 := []) rfl ?_
        exact b_mo_named_26 G σ (0 : Int32) (a1 + (1 : Int32))
      · refine j_iconst G d_mo_named_21 ci_1 ?_
        refine j_goto G d_mo_named_22 (tgt := 26) rfl ?_
        refine j_sub [] (L1 := []) rfl ?_
        exact b_mo_named_26 G σ (1 : Int32) (a1 + (1 : Int32))
  · refine j_iconst G d_mo_named_4 ci_m1 ?_
    refine j_goto G d_mo_named_5 (tgt := 80) rfl ?_
    refine j_sub [] (L1 := []) rfl ?_
    exact b_mo_named_80 G σ (-1 : Int32)
set_option maxHeartbeats 4000000 in
set_option maxRecDepth 100000 in
theorem k_mo_named {l : Launch} {E : Ev} {σ : MS} {a1 : Int32} : CtI wdM l E y_mo_named bc_mo_named 1 (some .int) (rmm 0 0) [.int a1] σ (mo_named σ a1) := ct_i (by decide) (Nat.le_of_ble_eq_true rfl) (fun X hE _ G => by subst hE; exact b_mo_named G σ a1)
def mo_get_17 (σ : MS) (t0 : Int32) : Option (Int32 × MS) :=
some (t0, σ)
def mo_get (σ : MS) (a1 : Int32) : Option (Int32 × MS) :=
if 0 ≤ a1 then (gd (okI a1 9) (
nm (mx_reg σ a1.toNatClampNeg) fun v1 =>
mo_get_17 σ v1)) else (bd (mo_d σ) fun v2 s1 =>
mo_get_17 s1 v2)
set_option maxHeartbeats 4000000 in
set_option maxRecDepth 100000 in
theorem b_mo_get_17 {X : Cx} (G : Gd X bc_mo_get 2 R_mod (some .int) (rmm 1 20)) (σ : MS) (t0 : Int32) : J wdM X (QI wdM X) 2 17 [(0, .ref (eO (xE X) 0))] [.int t0] σ (mo_get_17 σ t0) := by
  unfold mo_get_17
  exact j_iret G d_mo_get_17
set_option maxHeartbeats 4000000 in
set_option maxRecDepth 100000 in
theorem b_mo_get {X : Cx} (G : Gd X bc_mo_get 2 R_mod (some .int) (rmm 1 20)) (σ : MS) (a1 : Int32) : J wdM X (QI wdM X) 2 0 [(0, .ref (eO (xE X) 0)), (1, .int a1)] [] σ (mo_get σ a1) := by
  unfold mo_get
  refine j_iload_n 1 G d_mo_get_0 rfl rfl ?_
  refine j_ifge G d_mo_get_1 (tgt := 11) rfl ?_ ?_
  · refine j_aload_n 0 G d_mo_get_11 rfl rfl ?_
    refine g_mo_r G d_mo_get_12 ?_
    refine j_iload_n 1 G d_mo_get_15 rfl rfl ?_
    refine al_Mreg G d_mo_get_16 ?_
    refine j_nm (fun v1 => ?_)
    refine j_sub [0] (L1 := [(0, .ref (eO (xE X) 0))]) rfl ?_
    exact b_mo_get_17 G σ v1
  · refine j_aload_n 0 G d_mo_get_4 rfl rfl ?_
    refine j_Vi0 G k_mo_d mw_mo_d lk_mo_mo_d rc_mod d_mo_get_5 rfl (Nat.le_of_ble_eq_true rfl) (fun v2 s1 => ?_)
    refine j_goto G d_mo_get_8 (tgt := 17) rfl ?_
    refine j_sub [0] (L1 := [(0, .ref (eO (xE X) 0))]) rfl ?_
    exact b_mo_get_17 G s1 v2
set_option maxHeartbeats 4000000 in
set_option maxRecDepth 100000 in
theorem k_mo_get {l : Launch} {E : Ev} {σ : MS} {a1 : Int32} : CtI wdM l E y_mo_get bc_mo_get 2 (some .int) (rmm 1 20) [.ref (eO E 0), .int a1] σ (mo_get σ a1) := ct_i (by decide) (Nat.le_of_ble_eq_true rfl) (fun X hE _ G => by subst hE; exact b_mo_get G σ a1)
def mo_set_37 (σ : MS) (t0 : Int32) : Option (Int32 × MS) :=
gd (isB t0) (
ns (my_arm σ t0) fun s1 =>
some ((0 : Int32), s1))
def mo_set_32 (σ : MS) : Option (Int32 × MS) :=
mo_set_37 σ (1 : Int32)
def mo_set_19 (σ : MS) (l1 : Int32) : Option (Int32 × MS) :=
if (mx_arm σ) = 0 then (if l1 = (5 : Int32) then (mo_set_32 σ) else (mo_set_37 σ (0 : Int32))) else (mo_set_32 σ)
def mo_set (σ : MS) (a1 a2 : Int32) : Option (Int32 × MS) :=
if 0 ≤ a1 then (gd (okI a1 9) (
ns (my_reg σ (upd (mx_reg σ) a1.toNatClampNeg a2)) fun s1 =>
mo_set_19 s1 a1)) else (bd (mo_setD σ a2) fun _ s2 =>
mo_set_19 s2 a1)
set_option maxHeartbeats 4000000 in
set_option maxRecDepth 100000 in
theorem b_mo_set_37 {X : Cx} (G : Gd X bc_mo_set 3 R_mod none (rmm 1 21)) (σ : MS) (t0 : Int32) : J wdM X (QV wdM X) 3 37 [(0, .ref (eO (xE X) 0))] [.int t0, .ref (eO (xE X) 0)] σ (mo_set_37 σ t0) := by
  unfold mo_set_37
  refine p_mo_armed G d_mo_set_37 ?_
  refine j_ns (fun s1 => ?_)
  exact j_vret G d_mo_set_40
set_option maxHeartbeats 4000000 in
set_option maxRecDepth 100000 in
theorem b_mo_set_32 {X : Cx} (G : Gd X bc_mo_set 3 R_mod none (rmm 1 21)) (σ : MS) : J wdM X (QV wdM X) 3 32 [(0, .ref (eO (xE X) 0))] [.ref (eO (xE X) 0)] σ (mo_set_32 σ ) := by
  unfold mo_set_32
  refine j_iconst G d_mo_set_32 ci_1 ?_
  refine j_goto G d_mo_set_33 (tgt := 37) rfl ?_
  exact b_mo_set_37 G σ (1 : Int32)
set_option maxHeartbeats 4000000 in
set_option maxRecDepth 100000 in
theorem b_mo_set_19 {X : Cx} (G : Gd X bc_mo_set 3 R_mod none (rmm 1 21)) (σ : MS) (l1 : Int32) : J wdM X (QV wdM X) 3 19 [(0, .ref (eO (xE X) 0)), (1, .int l1)] [] σ (mo_set_19 σ l1) := by
  unfold mo_set_19
  refine j_aload_n 0 G d_mo_set_19 rfl rfl ?_
  refine j_aload_n 0 G d_mo_set_20 rfl rfl ?_
  refine g_mo_armed G d_mo_set_21 ?_
  refine j_ifne G d_mo_set_24 (tgt := 32) rfl ?_ ?_
  · refine j_sub [0] (L1 := [(0, .ref (eO (xE X) 0))]) rfl ?_
    exact b_mo_set_32 G σ
  · refine j_iload_n 1 G d_mo_set_27 rfl rfl ?_
    refine j_iconst G d_mo_set_28 ci_5 ?_
    refine j_icne G d_mo_set_29 (tgt := 36) rfl ?_ ?_
    · refine j_iconst G d_mo_set_36 ci_0 ?_
      refine j_sub [0] (L1 := [(0, .ref (eO (xE X) 0))]) rfl ?_
      exact b_mo_set_37 G σ (0 : Int32)
    · refine j_sub [0] (L1 := [(0, .ref (eO (xE X) 0))]) rfl ?_
      exact b_mo_set_32 G σ
set_option maxHeartbeats 4000000 in
set_option maxRecDepth 100000 in
theorem b_mo_set {X : Cx} (G : Gd X bc_mo_set 3 R_mod none (rmm 1 21)) (σ : MS) (a1 a2 : Int32) : J wdM X (QV wdM X) 3 0 [(0, .ref (eO (xE X) 0)), (1, .int a1), (2, .int a2)] [] σ (mo_set σ a1 a2) := by
  unfold mo_set
  refine j_iload_n 1 G d_mo_set_0 rfl rfl ?_
  refine j_ifge G d_mo_set_1 (tgt := 12) rfl ?_ ?_
  · refine j_aload_n 0 G d_mo_set_12 rfl rfl ?_
    refine g_mo_r G d_mo_set_13 ?_
    refine j_iload_n 1 G d_mo_set_16 rfl rfl ?_
    refine j_iload_n 2 G d_mo_set_17 rfl rfl ?_
    refine as_Mreg G d_mo_set_18 ?_
    refine j_ns (fun s1 => ?_)
    refine j_sub [0, 1] (L1 := [(0, .ref (eO (xE X) 0)), (1, .int a1)]) rfl ?_
    exact b_mo_set_19 G s1 a1
  · refine j_aload_n 0 G d_mo_set_4 rfl rfl ?_
    refine j_iload_n 2 G d_mo_set_5 rfl rfl ?_
    refine j_Vv1 G k_mo_setD mw_mo_setD lk_mo_mo_setD rc_mod d_mo_set_6 rfl (Nat.le_of_ble_eq_true rfl) (fun _ s2 => ?_)
    refine j_goto G d_mo_set_9 (tgt := 19) rfl ?_
    refine j_sub [0, 1] (L1 := [(0, .ref (eO (xE X) 0)), (1, .int a1)]) rfl ?_
    exact b_mo_set_19 G s2 a1
set_option maxHeartbeats 4000000 in
set_option maxRecDepth 100000 in
theorem k_mo_set {l : Launch} {E : Ev} {σ : MS} {a1 a2 : Int32} : CtV wdM l E y_mo_set bc_mo_set 3 none (rmm 1 21) [.ref (eO E 0), .int a1, .int a2] σ (mo_set σ a1 a2) := ct_v (by decide) (Nat.le_of_ble_eq_true rfl) (fun X hE _ G => by subst hE; exact b_mo_set G σ a1 a2)
def mo_exchange_138 (σ : MS) : Option (Int32 × MS) :=
some ((0 : Int32), σ)
def mo_exchange_93 (σ : MS) (l1 l3 l4 t0 : Int32) : Option (Int32 × MS) :=
gd (isB t0) (
ns (my_und σ t0) fun s1 =>
if (mx_und s1) = 0 then (bd (mo_get s1 l3) fun v1 s2 =>
bd (mo_get s2 l4) fun v2 s3 =>
bd (mo_set s3 l4 v1) fun _ s4 =>
if l1 = 0 then (mo_exchange_138 s4) else (bd (mo_set s4 l3 v2) fun _ s5 =>
mo_exchange_138 s5)) else (some ((0 : Int32), s1)))
def mo_exchange_88 (σ : MS) (l1 l3 l4 : Int32) : Option (Int32 × MS) :=
mo_exchange_93 σ l1 l3 l4 (1 : Int32)
def mo_exchange_65 (σ : MS) (l1 l3 l4 l5 t0 : Int32) : Option (Int32 × MS) :=
if l3 = (-2 : Int32) then (mo_exchange_88 σ l1 l3 l4) else (if l4 = (-2 : Int32) then (mo_exchange_88 σ l1 l3 l4) else (if l5 = t0 then (mo_exchange_93 σ l1 l3 l4 (0 : Int32)) else (mo_exchange_88 σ l1 l3 l4)))
def mo_exchange_60 (σ : MS) (l1 l3 l4 l5 : Int32) : Option (Int32 × MS) :=
mo_exchange_65 σ l1 l3 l4 l5 (1 : Int32)
def mo_exchange_41 (σ : MS) (l1 l3 l4 t0 : Int32) : Option (Int32 × MS) :=
if l4 = (-1 : Int32) then (mo_exchange_60 σ l1 l3 l4 t0) else (bd (mo_in σ l4 (2 : Int32) (6 : Int32)) fun v1 s1 =>
if v1 = 0 then (mo_exchange_65 s1 l1 l3 l4 t0 (0 : Int32)) else (mo_exchange_60 s1 l1 l3 l4 t0))
def mo_exchange_36 (σ : MS) (l1 l3 l4 : Int32) : Option (Int32 × MS) :=
mo_exchange_41 σ l1 l3 l4 (1 : Int32)
def mo_exchange (σ : MS) (a1 : Int32) : Option (Int32 × MS) :=
bd (mo_next σ) fun v1 s1 =>
bd (mo_named s1 (v1 >>> ((4 : Int32) &&& 31))) fun v2 s2 =>
bd (mo_named s2 (v1 &&& (15 : Int32))) fun v3 s3 =>
if v2 = (-1 : Int32) then (mo_exchange_36 s3 a1 v2 v3) else (bd (mo_in s3 v2 (2 : Int32) (6 : Int32)) fun v4 s4 =>
if v4 = 0 then (mo_exchange_41 s4 a1 v2 v3 (0 : Int32)) else (mo_exchange_36 s4 a1 v2 v3))
set_option maxHeartbeats 4000000 in
set_option maxRecDepth 100000 in
theorem b_mo_exchange_138 {X : Cx} (G : Gd X bc_mo_exchange 9 R_mod none (rmm 2 43)) (σ : MS) : J wdM X (QV wdM X) 9 138 [(0, .ref (eO (xE X) 0))] [] σ (mo_exchange_138 σ ) := by
  unfold mo_exchange_138
  exact j_vret G d_mo_exchange_138
set_option maxHeartbeats 4000000 in
set_option maxRecDepth 100000 in
theorem b_mo_exchange_93 {X : Cx} (G : Gd X bc_mo_exchange 9 R_mod none (rmm 2 43)) (σ : MS) (l1 l3 l4 t0 : Int32) : J wdM X (QV wdM X) 9 93 [(0, .ref (eO (xE X) 0)), (1, .int l1), (3, .int l3), (4, .int l4)] [.int t0, .ref (eO (xE X) 0)] σ (mo_exchange_93 σ l1 l3 l4 t0) := by
  unfold mo_exchange_93
  refine p_mo_undefined G d_mo_exchange_93 ?_
  refine j_ns (fun s1 => ?_)
  refine j_aload_n 0 G d_mo_exchange_96 rfl rfl ?_
  refine g_mo_undefined G d_mo_exchange_97 ?_
  refine j_ifeq G d_mo_exchange_100 (tgt := 104) rfl ?_ ?_
  · refine j_aload_n 0 G d_mo_exchange_104 rfl rfl ?_
    refine j_iload_n 2 G d_mo_exchange_105 rfl rfl ?_
    refine j_Vi1 G k_mo_get mw_mo_get lk_mo_mo_get rc_mod d_mo_exchange_106 rfl (Nat.le_of_ble_eq_true rfl) (fun v1 s2 => ?_)
    refine j_istore [1, 2, 3, 4, 0] (L1 := [(0, .ref (eO (xE X) 0)), (1, .int l1), (3, .int l3), (4, .int l4), (7, .int v1)]) G d_mo_exchange_109 (by decide) rfl ?_
    refine j_aload_n 0 G d_mo_exchange_111 rfl rfl ?_
    refine j_iload 3 G d_mo_exchange_112 rfl ?_
    refine j_Vi1 G k_mo_get mw_mo_get lk_mo_mo_get rc_mod d_mo_exchange_114 rfl (Nat.le_of_ble_eq_true rfl) (fun v2 s3 => ?_)
    refine j_istore [1, 2, 3, 4, 5, 0] (L1 := [(0, .ref (eO (xE X) 0)), (1, .int l1), (3, .int l3), (4, .int l4), (7, .int v1), (8, .int v2)]) G d_mo_exchange_117 (by decide) rfl ?_
    refine j_aload_n 0 G d_mo_exchange_119 rfl rfl ?_
    refine j_iload 3 G d_mo_exchange_120 rfl ?_
    refine j_iload 4 G d_mo_exchange_122 rfl ?_
    refine j_Vv2 G k_mo_set mw_mo_set lk_mo_mo_set rc_mod d_mo_exchange_124 rfl (Nat.le_of_ble_eq_true rfl) (fun _ s4 => ?_)
    refine j_iload_n 1 G d_mo_exchange_127 rfl rfl ?_
    refine j_ifeq G d_mo_exchange_128 (tgt := 138) rfl ?_ ?_
    · refine j_sub [0] (L1 := [(0, .ref (eO (xE X) 0))]) rfl ?_
      exact b_mo_exchange_138 G s4
    · refine j_aload_n 0 G d_mo_exchange_131 rfl rfl ?_
      refine j_iload_n 2 G d_mo_exchange_132 rfl rfl ?_
      refine j_iload 5 G d_mo_exchange_133 rfl ?_
      refine j_Vv2 G k_mo_set mw_mo_set lk_mo_mo_set rc_mod d_mo_exchange_135 rfl (Nat.le_of_ble_eq_true rfl) (fun _ s5 => ?_)
      refine j_sub [0] (L1 := [(0, .ref (eO (xE X) 0))]) rfl ?_
      exact b_mo_exchange_138 G s5
  · exact j_vret G d_mo_exchange_103
set_option maxHeartbeats 4000000 in
set_option maxRecDepth 100000 in
theorem b_mo_exchange_88 {X : Cx} (G : Gd X bc_mo_exchange 9 R_mod none (rmm 2 43)) (σ : MS) (l1 l3 l4 : Int32) : J wdM X (QV wdM X) 9 88 [(0, .ref (eO (xE X) 0)), (1, .int l1), (3, .int l3), (4, .int l4)] [.ref (eO (xE X) 0)] σ (mo_exchange_88 σ l1 l3 l4) := by
  unfold mo_exchange_88
  refine j_iconst G d_mo_exchange_88 ci_1 ?_
  refine j_goto G d_mo_exchange_89 (tgt := 93) rfl ?_
  exact b_mo_exchange_93 G σ l1 l3 l4 (1 : Int32)
set_option maxHeartbeats 4000000 in
set_option maxRecDepth 100000 in
theorem b_mo_exchange_65 {X : Cx} (G : Gd X bc_mo_exchange 9 R_mod none (rmm 2 43)) (σ : MS) (l1 l3 l4 l5 t0 : Int32) : J wdM X (QV wdM X) 9 65 [(0, .ref (eO (xE X) 0)), (1, .int l1), (3, .int l3), (4, .int l4), (5, .int l5)] [.int t0] σ (mo_exchange_65 σ l1 l3 l4 l5 t0) := by
  unfold mo_exchange_65
  refine j_istore [1, 2, 3, 4, 5, 0] (L1 := [(0, .ref (eO (xE X) 0)), (1, .int l1), (3, .int l3), (4, .int l4), (5, .int l5), (6, .int t0)]) G d_mo_exchange_65 (by decide) rfl ?_
  refine j_aload_n 0 G d_mo_exchange_67 rfl rfl ?_
  refine j_iload_n 2 G d_mo_exchange_68 rfl rfl ?_
  refine j_bipush G d_mo_exchange_69 cb_m2 ?_
  refine j_iceq G d_mo_exchange_71 (tgt := 88) rfl ?_ ?_
  · refine j_sub [0, 1, 2, 3] (L1 := [(0, .ref (eO (xE X) 0)), (1, .int l1), (3, .int l3), (4, .int l4)]) rfl ?_
    exact b_mo_exchange_88 G σ l1 l3 l4
  · refine j_iload 3 G d_mo_exchange_74 rfl ?_
    refine j_bipush G d_mo_exchange_76 cb_m2 ?_
    refine j_iceq G d_mo_exchange_78 (tgt := 88) rfl ?_ ?_
    · refine j_sub [0, 1, 2, 3] (L1 := [(0, .ref (eO (xE X) 0)), (1, .int l1), (3, .int l3), (4, .int l4)]) rfl ?_
      exact b_mo_exchange_88 G σ l1 l3 l4
    · refine j_iload 4 G d_mo_exchange_81 rfl ?_
      refine j_iload 5 G d_mo_exchange_83 rfl ?_
      refine j_iceq G d_mo_exchange_85 (tgt := 92) rfl ?_ ?_
      · refine j_iconst G d_mo_exchange_92 ci_0 ?_
        refine j_sub [0, 1, 2, 3] (L1 := [(0, .ref (eO (xE X) 0)), (1, .int l1), (3, .int l3), (4, .int l4)]) rfl ?_
        exact b_mo_exchange_93 G σ l1 l3 l4 (0 : Int32)
      · refine j_sub [0, 1, 2, 3] (L1 := [(0, .ref (eO (xE X) 0)), (1, .int l1), (3, .int l3), (4, .int l4)]) rfl ?_
        exact b_mo_exchange_88 G σ l1 l3 l4
set_option maxHeartbeats 4000000 in
set_option maxRecDepth 100000 in
theorem b_mo_exchange_60 {X : Cx} (G : Gd X bc_mo_exchange 9 R_mod none (rmm 2 43)) (σ : MS) (l1 l3 l4 l5 : Int32) : J wdM X (QV wdM X) 9 60 [(0, .ref (eO (xE X) 0)), (1, .int l1), (3, .int l3), (4, .int l4), (5, .int l5)] [] σ (mo_exchange_60 σ l1 l3 l4 l5) := by
  unfold mo_exchange_60
  refine j_iconst G d_mo_exchange_60 ci_1 ?_
  refine j_goto G d_mo_exchange_61 (tgt := 65) rfl ?_
  exact b_mo_exchange_65 G σ l1 l3 l4 l5 (1 : Int32)
set_option maxHeartbeats 4000000 in
set_option maxRecDepth 100000 in
theorem b_mo_exchange_41 {X : Cx} (G : Gd X bc_mo_exchange 9 R_mod none (rmm 2 43)) (σ : MS) (l1 l3 l4 t0 : Int32) : J wdM X (QV wdM X) 9 41 [(0, .ref (eO (xE X) 0)), (1, .int l1), (3, .int l3), (4, .int l4)] [.int t0] σ (mo_exchange_41 σ l1 l3 l4 t0) := by
  unfold mo_exchange_41
  refine j_istore [1, 2, 3, 4, 0] (L1 := [(0, .ref (eO (xE X) 0)), (1, .int l1), (3, .int l3), (4, .int l4), (5, .int t0)]) G d_mo_exchange_41 (by decide) rfl ?_
  refine j_iload 3 G d_mo_exchange_43 rfl ?_
  refine j_iconst G d_mo_exchange_45 ci_m1 ?_
  refine j_iceq G d_mo_exchange_46 (tgt := 60) rfl ?_ ?_
  · exact b_mo_exchange_60 G σ l1 l3 l4 t0
  · refine j_iload 3 G d_mo_exchange_49 rfl ?_
    refine j_iconst G d_mo_exchange_51 ci_2 ?_
    refine j_bipush G d_mo_exchange_52 cb_6 ?_
    refine j_Si3 G k_mo_in mw_mo_in lk_mo_mo_in d_mo_exchange_54 rfl (Nat.le_of_ble_eq_true rfl) (fun v1 s1 => ?_)
    refine j_ifeq G d_mo_exchange_57 (tgt := 64) rfl ?_ ?_
    · refine j_iconst G d_mo_exchange_64 ci_0 ?_
      exact b_mo_exchange_65 G s1 l1 l3 l4 t0 (0 : Int32)
    · exact b_mo_exchange_60 G s1 l1 l3 l4 t0
set_option maxHeartbeats 4000000 in
set_option maxRecDepth 100000 in
theorem b_mo_exchange_36 {X : Cx} (G : Gd X bc_mo_exchange 9 R_mod none (rmm 2 43)) (σ : MS) (l1 l3 l4 : Int32) : J wdM X (QV wdM X) 9 36 [(0, .ref (eO (xE X) 0)), (1, .int l1), (3, .int l3), (4, .int l4)] [] σ (mo_exchange_36 σ l1 l3 l4) := by
  unfold mo_exchange_36
  refine j_iconst G d_mo_exchange_36 ci_1 ?_
  refine j_goto G d_mo_exchange_37 (tgt := 41) rfl ?_
  exact b_mo_exchange_41 G σ l1 l3 l4 (1 : Int32)
set_option maxHeartbeats 4000000 in
set_option maxRecDepth 100000 in
theorem b_mo_exchange {X : Cx} (G : Gd X bc_mo_exchange 9 R_mod none (rmm 2 43)) (σ : MS) (a1 : Int32) : J wdM X (QV wdM X) 9 0 [(0, .ref (eO (xE X) 0)), (1, .int a1)] [] σ (mo_exchange σ a1) := by
  unfold mo_exchange
  refine j_aload_n 0 G d_mo_exchange_0 rfl rfl ?_
  refine j_Vi0 G k_mo_next mw_mo_next lk_mo_mo_next rc_mod d_mo_exchange_1 rfl (Nat.le_of_ble_eq_true rfl) (fun v1 s1 => ?_)
  refine j_istore_n [1, 2, 0] (L1 := [(0, .ref (eO (xE X) 0)), (1, .int a1), (2, .int v1)]) G d_mo_exchange_4 rfl (by decide) rfl ?_
  refine j_iload_n 2 G d_mo_exchange_5 rfl rfl ?_
  refine j_iconst G d_mo_exchange_6 ci_4 ?_
  refine j_ishr G d_mo_exchange_7 ?_
  refine j_Si1 G k_mo_named mw_mo_named lk_mo_mo_named d_mo_exchange_8 rfl (Nat.le_of_ble_eq_true rfl) (fun v2 s2 => ?_)
  refine j_istore_n [1, 2, 3, 0] (L1 := [(0, .ref (eO (xE X) 0)), (1, .int a1), (2, .int v1), (3, .int v2)]) G d_mo_exchange_11 rfl (by decide) rfl ?_
  refine j_iload_n 2 G d_mo_exchange_12 rfl rfl ?_
  refine j_bipush G d_mo_exchange_13 cb_15 ?_
  refine j_iand G d_mo_exchange_15 ?_
  refine j_Si1 G k_mo_named mw_mo_named lk_mo_mo_named d_mo_exchange_16 rfl (Nat.le_of_ble_eq_true rfl) (fun v3 s3 => ?_)
  refine j_istore [1, 2, 4, 0] (L1 := [(0, .ref (eO (xE X) 0)), (1, .int a1), (3, .int v2), (4, .int v3)]) G d_mo_exchange_19 (by decide) rfl ?_
  refine j_iload_n 2 G d_mo_exchange_21 rfl rfl ?_
  refine j_iconst G d_mo_exchange_22 ci_m1 ?_
  refine j_iceq G d_mo_exchange_23 (tgt := 36) rfl ?_ ?_
  · exact b_mo_exchange_36 G s3 a1 v2 v3
  · refine j_iload_n 2 G d_mo_exchange_26 rfl rfl ?_
    refine j_iconst G d_mo_exchange_27 ci_2 ?_
    refine j_bipush G d_mo_exchange_28 cb_6 ?_
    refine j_Si3 G k_mo_in mw_mo_in lk_mo_mo_in d_mo_exchange_30 rfl (Nat.le_of_ble_eq_true rfl) (fun v4 s4 => ?_)
    refine j_ifeq G d_mo_exchange_33 (tgt := 40) rfl ?_ ?_
    · refine j_iconst G d_mo_exchange_40 ci_0 ?_
      exact b_mo_exchange_41 G s4 a1 v2 v3 (0 : Int32)
    · exact b_mo_exchange_36 G s4 a1 v2 v3
set_option maxHeartbeats 4000000 in
set_option maxRecDepth 100000 in
theorem k_mo_exchange {l : Launch} {E : Ev} {σ : MS} {a1 : Int32} : CtV wdM l E y_mo_exchange bc_mo_exchange 9 none (rmm 2 43) [.ref (eO E 0), .int a1] σ (mo_exchange σ a1) := ct_v (by decide) (Nat.le_of_ble_eq_true rfl) (fun X hE _ G => by subst hE; exact b_mo_exchange G σ a1)
def mo_lea_62 (σ : MS) (t0 : Int32) : Option (Int32 × MS) :=
gd (isB t0) (
ns (my_arm σ t0) fun s1 =>
some ((0 : Int32), s1))
def mo_lea_57 (σ : MS) : Option (Int32 × MS) :=
mo_lea_62 σ (1 : Int32)
def mo_lea_44 (σ : MS) (l1 : Int32) : Option (Int32 × MS) :=
if (mx_arm σ) = 0 then (if l1 = (5 : Int32) then (mo_lea_57 σ) else (mo_lea_62 σ (0 : Int32))) else (mo_lea_57 σ)
def mo_lea_41 (σ : MS) (l1 t0 t1 : Int32) : Option (Int32 × MS) :=
bd (mo_flag σ t1 t0) fun _ s1 =>
mo_lea_44 s1 l1
def mo_lea_30 (σ : MS) (l1 l2 : Int32) : Option (Int32 × MS) :=
if l2 = 0 then (mo_lea_41 σ l1 (1 : Int32) (4 : Int32)) else (mo_lea_41 σ l1 (0 : Int32) (4 : Int32))
def mo_lea (σ : MS) (a1 : Int32) : Option (Int32 × MS) :=
bd (mo_byPostbyte σ) fun v1 s1 =>
if (mx_und s1) = 0 then (gd (okI a1 9) (
ns (my_reg s1 (upd (mx_reg s1) a1.toNatClampNeg v1)) fun s2 =>
if a1 = (2 : Int32) then (mo_lea_30 s2 a1 v1) else (if a1 = (3 : Int32) then (mo_lea_30 s2 a1 v1) else (mo_lea_44 s2 a1)))) else (some ((0 : Int32), s1))
set_option maxHeartbeats 4000000 in
set_option maxRecDepth 100000 in
theorem b_mo_lea_62 {X : Cx} (G : Gd X bc_mo_lea 3 R_mod none (rmm 4 89)) (σ : MS) (t0 : Int32) : J wdM X (QV wdM X) 3 62 [(0, .ref (eO (xE X) 0))] [.int t0, .ref (eO (xE X) 0)] σ (mo_lea_62 σ t0) := by
  unfold mo_lea_62
  refine p_mo_armed G d_mo_lea_62 ?_
  refine j_ns (fun s1 => ?_)
  exact j_vret G d_mo_lea_65
set_option maxHeartbeats 4000000 in
set_option maxRecDepth 100000 in
theorem b_mo_lea_57 {X : Cx} (G : Gd X bc_mo_lea 3 R_mod none (rmm 4 89)) (σ : MS) : J wdM X (QV wdM X) 3 57 [(0, .ref (eO (xE X) 0))] [.ref (eO (xE X) 0)] σ (mo_lea_57 σ ) := by
  unfold mo_lea_57
  refine j_iconst G d_mo_lea_57 ci_1 ?_
  refine j_goto G d_mo_lea_58 (tgt := 62) rfl ?_
  exact b_mo_lea_62 G σ (1 : Int32)
set_option maxHeartbeats 4000000 in
set_option maxRecDepth 100000 in
theorem b_mo_lea_44 {X : Cx} (G : Gd X bc_mo_lea 3 R_mod none (rmm 4 89)) (σ : MS) (l1 : Int32) : J wdM X (QV wdM X) 3 44 [(0, .ref (eO (xE X) 0)), (1, .int l1)] [] σ (mo_lea_44 σ l1) := by
  unfold mo_lea_44
  refine j_aload_n 0 G d_mo_lea_44 rfl rfl ?_
  refine j_aload_n 0 G d_mo_lea_45 rfl rfl ?_
  refine g_mo_armed G d_mo_lea_46 ?_
  refine j_ifne G d_mo_lea_49 (tgt := 57) rfl ?_ ?_
  · refine j_sub [0] (L1 := [(0, .ref (eO (xE X) 0))]) rfl ?_
    exact b_mo_lea_57 G σ
  · refine j_iload_n 1 G d_mo_lea_52 rfl rfl ?_
    refine j_iconst G d_mo_lea_53 ci_5 ?_
    refine j_icne G d_mo_lea_54 (tgt := 61) rfl ?_ ?_
    · refine j_iconst G d_mo_lea_61 ci_0 ?_
      refine j_sub [0] (L1 := [(0, .ref (eO (xE X) 0))]) rfl ?_
      exact b_mo_lea_62 G σ (0 : Int32)
    · refine j_sub [0] (L1 := [(0, .ref (eO (xE X) 0))]) rfl ?_
      exact b_mo_lea_57 G σ
set_option maxHeartbeats 4000000 in
set_option maxRecDepth 100000 in
theorem b_mo_lea_41 {X : Cx} (G : Gd X bc_mo_lea 3 R_mod none (rmm 4 89)) (σ : MS) (l1 t0 t1 : Int32) : J wdM X (QV wdM X) 3 41 [(0, .ref (eO (xE X) 0)), (1, .int l1)] [.int t0, .int t1, .ref (eO (xE X) 0)] σ (mo_lea_41 σ l1 t0 t1) := by
  unfold mo_lea_41
  refine j_Vv2 G k_mo_flag mw_mo_flag lk_mo_mo_flag rc_mod d_mo_lea_41 rfl (Nat.le_of_ble_eq_true rfl) (fun _ s1 => ?_)
  exact b_mo_lea_44 G s1 l1
set_option maxHeartbeats 4000000 in
set_option maxRecDepth 100000 in
theorem b_mo_lea_30 {X : Cx} (G : Gd X bc_mo_lea 3 R_mod none (rmm 4 89)) (σ : MS) (l1 l2 : Int32) : J wdM X (QV wdM X) 3 30 [(0, .ref (eO (xE X) 0)), (1, .int l1), (2, .int l2)] [] σ (mo_lea_30 σ l1 l2) := by
  unfold mo_lea_30
  refine j_aload_n 0 G d_mo_lea_30 rfl rfl ?_
  refine j_iconst G d_mo_lea_31 ci_4 ?_
  refine j_iload_n 2 G d_mo_lea_32 rfl rfl ?_
  refine j_ifne G d_mo_lea_33 (tgt := 40) rfl ?_ ?_
  · refine j_iconst G d_mo_lea_40 ci_0 ?_
    refine j_sub [0, 1] (L1 := [(0, .ref (eO (xE X) 0)), (1, .int l1)]) rfl ?_
    exact b_mo_lea_41 G σ l1 (0 : Int32) (4 : Int32)
  · refine j_iconst G d_mo_lea_36 ci_1 ?_
    refine j_goto G d_mo_lea_37 (tgt := 41) rfl ?_
    refine j_sub [0, 1] (L1 := [(0, .ref (eO (xE X) 0)), (1, .int l1)]) rfl ?_
    exact b_mo_lea_41 G σ l1 (1 : Int32) (4 : Int32)
set_option maxHeartbeats 4000000 in
set_option maxRecDepth 100000 in
theorem b_mo_lea {X : Cx} (G : Gd X bc_mo_lea 3 R_mod none (rmm 4 89)) (σ : MS) (a1 : Int32) : J wdM X (QV wdM X) 3 0 [(0, .ref (eO (xE X) 0)), (1, .int a1)] [] σ (mo_lea σ a1) := by
  unfold mo_lea
  refine j_aload_n 0 G d_mo_lea_0 rfl rfl ?_
  refine j_Vi0 G k_mo_byPostbyte mw_mo_byPostbyte lk_mo_mo_byPostbyte rc_mod d_mo_lea_1 rfl (Nat.le_of_ble_eq_true rfl) (fun v1 s1 => ?_)
  refine j_istore_n [1, 2, 0] (L1 := [(0, .ref (eO (xE X) 0)), (1, .int a1), (2, .int v1)]) G d_mo_lea_4 rfl (by decide) rfl ?_
  refine j_aload_n 0 G d_mo_lea_5 rfl rfl ?_
  refine g_mo_undefined G d_mo_lea_6 ?_
  refine j_ifeq G d_mo_lea_9 (tgt := 13) rfl ?_ ?_
  · refine j_aload_n 0 G d_mo_lea_13 rfl rfl ?_
    refine g_mo_r G d_mo_lea_14 ?_
    refine j_iload_n 1 G d_mo_lea_17 rfl rfl ?_
    refine j_iload_n 2 G d_mo_lea_18 rfl rfl ?_
    refine as_Mreg G d_mo_lea_19 ?_
    refine j_ns (fun s2 => ?_)
    refine j_iload_n 1 G d_mo_lea_20 rfl rfl ?_
    refine j_iconst G d_mo_lea_21 ci_2 ?_
    refine j_iceq G d_mo_lea_22 (tgt := 30) rfl ?_ ?_
    · exact b_mo_lea_30 G s2 a1 v1
    · refine j_iload_n 1 G d_mo_lea_25 rfl rfl ?_
      refine j_iconst G d_mo_lea_26 ci_3 ?_
      refine j_icne G d_mo_lea_27 (tgt := 44) rfl ?_ ?_
      · refine j_sub [0, 1] (L1 := [(0, .ref (eO (xE X) 0)), (1, .int a1)]) rfl ?_
        exact b_mo_lea_44 G s2 a1
      · exact b_mo_lea_30 G s2 a1 v1
  · exact j_vret G d_mo_lea_12
set_option maxHeartbeats 4000000 in
set_option maxRecDepth 100000 in
theorem k_mo_lea {l : Launch} {E : Ev} {σ : MS} {a1 : Int32} : CtV wdM l E y_mo_lea bc_mo_lea 3 none (rmm 4 89) [.ref (eO E 0), .int a1] σ (mo_lea σ a1) := ct_v (by decide) (Nat.le_of_ble_eq_true rfl) (fun X hE _ G => by subst hE; exact b_mo_lea G σ a1)
def mo_pushState (σ : MS) : Option (Int32 × MS) :=
bd (mo_flag σ (128 : Int32) (1 : Int32)) fun _ s1 =>
bd (mo_pushAll s1 (5 : Int32) (255 : Int32)) fun _ s2 =>
some ((0 : Int32), s2)
set_option maxHeartbeats 4000000 in
set_option maxRecDepth 100000 in
theorem b_mo_pushState {X : Cx} (G : Gd X bc_mo_pushState 1 R_mod none (rmm 4 88)) (σ : MS) : J wdM X (QV wdM X) 1 0 [(0, .ref (eO (xE X) 0))] [] σ (mo_pushState σ ) := by
  unfold mo_pushState
  refine j_aload_n 0 G d_mo_pushState_0 rfl rfl ?_
  refine j_sipush G d_mo_pushState_1 cs_128 ?_
  refine j_iconst G d_mo_pushState_4 ci_1 ?_
  refine j_Vv2 G k_mo_flag mw_mo_flag lk_mo_mo_flag rc_mod d_mo_pushState_5 rfl (Nat.le_of_ble_eq_true rfl) (fun _ s1 => ?_)
  refine j_aload_n 0 G d_mo_pushState_8 rfl rfl ?_
  refine j_iconst G d_mo_pushState_9 ci_5 ?_
  refine j_sipush G d_mo_pushState_10 cs_255 ?_
  refine j_Vv2 G k_mo_pushAll mw_mo_pushAll lk_mo_mo_pushAll rc_mod d_mo_pushState_13 rfl (Nat.le_of_ble_eq_true rfl) (fun _ s2 => ?_)
  exact j_vret G d_mo_pushState_16
set_option maxHeartbeats 4000000 in
set_option maxRecDepth 100000 in
theorem k_mo_pushState {l : Launch} {E : Ev} {σ : MS} : CtV wdM l E y_mo_pushState bc_mo_pushState 1 none (rmm 4 88) [.ref (eO E 0)] σ (mo_pushState σ ) := ct_v (by decide) (Nat.le_of_ble_eq_true rfl) (fun X hE _ G => by subst hE; exact b_mo_pushState G σ )
def mo_trap_28 (σ : MS) (l1 : Int32) : Option (Int32 × MS) :=
bd (mo_readWord σ l1) fun v1 s1 =>
ns (my_reg s1 (upd (mx_reg s1) 6 v1)) fun s2 =>
some ((0 : Int32), s2)
def mo_trap (σ : MS) (a1 a2 : Int32) : Option (Int32 × MS) :=
bd (mo_pushState σ) fun _ s1 =>
if a2 = 0 then (mo_trap_28 s1 a1) else (nm (((mx_reg s1 8) ||| (16 : Int32)) ||| (64 : Int32)) fun v1 =>
ns (my_reg s1 (upd (mx_reg s1) 8 v1)) fun s2 =>
mo_trap_28 s2 a1)
set_option maxHeartbeats 4000000 in
set_option maxRecDepth 100000 in
theorem b_mo_trap_28 {X : Cx} (G : Gd X bc_mo_trap 3 R_mod none (rmm 5 108)) (σ : MS) (l1 : Int32) : J wdM X (QV wdM X) 3 28 [(0, .ref (eO (xE X) 0)), (1, .int l1)] [] σ (mo_trap_28 σ l1) := by
  unfold mo_trap_28
  refine j_aload_n 0 G d_mo_trap_28 rfl rfl ?_
  refine g_mo_r G d_mo_trap_29 ?_
  refine j_bipush G d_mo_trap_32 cb_6 ?_
  refine j_aload_n 0 G d_mo_trap_34 rfl rfl ?_
  refine j_iload_n 1 G d_mo_trap_35 rfl rfl ?_
  refine j_Vi1 G k_mo_readWord mw_mo_readWord lk_mo_mo_readWord rc_mod d_mo_trap_36 rfl (Nat.le_of_ble_eq_true rfl) (fun v1 s1 => ?_)
  refine asc_Mreg (j := 6) rfl rfl G d_mo_trap_39 ?_
  refine j_ns (fun s2 => ?_)
  exact j_vret G d_mo_trap_40
set_option maxHeartbeats 4000000 in
set_option maxRecDepth 100000 in
theorem b_mo_trap {X : Cx} (G : Gd X bc_mo_trap 3 R_mod none (rmm 5 108)) (σ : MS) (a1 a2 : Int32) : J wdM X (QV wdM X) 3 0 [(0, .ref (eO (xE X) 0)), (1, .int a1), (2, .int a2)] [] σ (mo_trap σ a1 a2) := by
  unfold mo_trap
  refine j_aload_n 0 G d_mo_trap_0 rfl rfl ?_
  refine j_Vv0 G k_mo_pushState mw_mo_pushState lk_mo_mo_pushState rc_mod d_mo_trap_1 rfl (Nat.le_of_ble_eq_true rfl) (fun _ s1 => ?_)
  refine j_iload_n 2 G d_mo_trap_4 rfl rfl ?_
  refine j_ifeq G d_mo_trap_5 (tgt := 28) rfl ?_ ?_
  · refine j_sub [0, 1] (L1 := [(0, .ref (eO (xE X) 0)), (1, .int a1)]) rfl ?_
    exact b_mo_trap_28 G s1 a1
  · refine j_aload_n 0 G d_mo_trap_8 rfl rfl ?_
    refine g_mo_r G d_mo_trap_9 ?_
    refine j_bipush G d_mo_trap_12 cb_8 ?_
    refine j_aload_n 0 G d_mo_trap_14 rfl rfl ?_
    refine g_mo_r G d_mo_trap_15 ?_
    refine j_bipush G d_mo_trap_18 cb_8 ?_
    refine alc_Mreg (j := 8) rfl rfl G d_mo_trap_20 ?_
    refine j_bipush G d_mo_trap_21 cb_16 ?_
    refine j_ior G d_mo_trap_23 ?_
    refine j_bipush G d_mo_trap_24 cb_64 ?_
    refine j_ior G d_mo_trap_26 ?_
    refine j_nm (fun v1 => ?_)
    refine asc_Mreg (j := 8) rfl rfl G d_mo_trap_27 ?_
    refine j_ns (fun s2 => ?_)
    refine j_sub [0, 1] (L1 := [(0, .ref (eO (xE X) 0)), (1, .int a1)]) rfl ?_
    exact b_mo_trap_28 G s2 a1
set_option maxHeartbeats 4000000 in
set_option maxRecDepth 100000 in
theorem k_mo_trap {l : Launch} {E : Ev} {σ : MS} {a1 a2 : Int32} : CtV wdM l E y_mo_trap bc_mo_trap 3 none (rmm 5 108) [.ref (eO E 0), .int a1, .int a2] σ (mo_trap σ a1 a2) := ct_v (by decide) (Nat.le_of_ble_eq_true rfl) (fun X hE _ G => by subst hE; exact b_mo_trap G σ a1 a2)
def mo_multiply_48 (σ : MS) (t0 t1 : Int32) : Option (Int32 × MS) :=
bd (mo_flag σ t1 t0) fun _ s1 =>
some ((0 : Int32), s1)
def mo_multiply_30 (σ : MS) (l1 t0 t1 : Int32) : Option (Int32 × MS) :=
bd (mo_flag σ t1 t0) fun _ s1 =>
if (l1 &&& (128 : Int32)) = 0 then (mo_multiply_48 s1 (0 : Int32) (1 : Int32)) else (mo_multiply_48 s1 (1 : Int32) (1 : Int32))
def mo_multiply (σ : MS) : Option (Int32 × MS) :=
nm ((mx_reg σ 0) * (mx_reg σ 1)) fun v1 =>
bd (mo_setD σ v1) fun _ s1 =>
if v1 = 0 then (mo_multiply_30 s1 v1 (1 : Int32) (4 : Int32)) else (mo_multiply_30 s1 v1 (0 : Int32) (4 : Int32))
set_option maxHeartbeats 4000000 in
set_option maxRecDepth 100000 in
theorem b_mo_multiply_48 {X : Cx} (G : Gd X bc_mo_multiply 2 R_mod none (rmm 1 22)) (σ : MS) (t0 t1 : Int32) : J wdM X (QV wdM X) 2 48 [(0, .ref (eO (xE X) 0))] [.int t0, .int t1, .ref (eO (xE X) 0)] σ (mo_multiply_48 σ t0 t1) := by
  unfold mo_multiply_48
  refine j_Vv2 G k_mo_flag mw_mo_flag lk_mo_mo_flag rc_mod d_mo_multiply_48 rfl (Nat.le_of_ble_eq_true rfl) (fun _ s1 => ?_)
  exact j_vret G d_mo_multiply_51
set_option maxHeartbeats 4000000 in
set_option maxRecDepth 100000 in
theorem b_mo_multiply_30 {X : Cx} (G : Gd X bc_mo_multiply 2 R_mod none (rmm 1 22)) (σ : MS) (l1 t0 t1 : Int32) : J wdM X (QV wdM X) 2 30 [(0, .ref (eO (xE X) 0)), (1, .int l1)] [.int t0, .int t1, .ref (eO (xE X) 0)] σ (mo_multiply_30 σ l1 t0 t1) := by
  unfold mo_multiply_30
  refine j_Vv2 G k_mo_flag mw_mo_flag lk_mo_mo_flag rc_mod d_mo_multiply_30 rfl (Nat.le_of_ble_eq_true rfl) (fun _ s1 => ?_)
  refine j_aload_n 0 G d_mo_multiply_33 rfl rfl ?_
  refine j_iconst G d_mo_multiply_34 ci_1 ?_
  refine j_iload_n 1 G d_mo_multiply_35 rfl rfl ?_
  refine j_sipush G d_mo_multiply_36 cs_128 ?_
  refine j_iand G d_mo_multiply_39 ?_
  refine j_ifeq G d_mo_multiply_40 (tgt := 47) rfl ?_ ?_
  · refine j_iconst G d_mo_multiply_47 ci_0 ?_
    refine j_sub [0] (L1 := [(0, .ref (eO (xE X) 0))]) rfl ?_
    exact b_mo_multiply_48 G s1 (0 : Int32) (1 : Int32)
  · refine j_iconst G d_mo_multiply_43 ci_1 ?_
    refine j_goto G d_mo_multiply_44 (tgt := 48) rfl ?_
    refine j_sub [0] (L1 := [(0, .ref (eO (xE X) 0))]) rfl ?_
    exact b_mo_multiply_48 G s1 (1 : Int32) (1 : Int32)
set_option maxHeartbeats 4000000 in
set_option maxRecDepth 100000 in
theorem b_mo_multiply {X : Cx} (G : Gd X bc_mo_multiply 2 R_mod none (rmm 1 22)) (σ : MS) : J wdM X (QV wdM X) 2 0 [(0, .ref (eO (xE X) 0))] [] σ (mo_multiply σ ) := by
  unfold mo_multiply
  refine j_aload_n 0 G d_mo_multiply_0 rfl rfl ?_
  refine g_mo_r G d_mo_multiply_1 ?_
  refine j_iconst G d_mo_multiply_4 ci_0 ?_
  refine alc_Mreg (j := 0) rfl rfl G d_mo_multiply_5 ?_
  refine j_aload_n 0 G d_mo_multiply_6 rfl rfl ?_
  refine g_mo_r G d_mo_multiply_7 ?_
  refine j_iconst G d_mo_multiply_10 ci_1 ?_
  refine alc_Mreg (j := 1) rfl rfl G d_mo_multiply_11 ?_
  refine j_imul G d_mo_multiply_12 ?_
  refine j_nm (fun v1 => ?_)
  refine j_istore_n [1, 0] (L1 := [(0, .ref (eO (xE X) 0)), (1, .int v1)]) G d_mo_multiply_13 rfl (by decide) rfl ?_
  refine j_aload_n 0 G d_mo_multiply_14 rfl rfl ?_
  refine j_iload_n 1 G d_mo_multiply_15 rfl rfl ?_
  refine j_Vv1 G k_mo_setD mw_mo_setD lk_mo_mo_setD rc_mod d_mo_multiply_16 rfl (Nat.le_of_ble_eq_true rfl) (fun _ s1 => ?_)
  refine j_aload_n 0 G d_mo_multiply_19 rfl rfl ?_
  refine j_iconst G d_mo_multiply_20 ci_4 ?_
  refine j_iload_n 1 G d_mo_multiply_21 rfl rfl ?_
  refine j_ifne G d_mo_multiply_22 (tgt := 29) rfl ?_ ?_
  · refine j_iconst G d_mo_multiply_29 ci_0 ?_
    exact b_mo_multiply_30 G s1 v1 (0 : Int32) (4 : Int32)
  · refine j_iconst G d_mo_multiply_25 ci_1 ?_
    refine j_goto G d_mo_multiply_26 (tgt := 30) rfl ?_
    exact b_mo_multiply_30 G s1 v1 (1 : Int32) (4 : Int32)
set_option maxHeartbeats 4000000 in
set_option maxRecDepth 100000 in
theorem k_mo_multiply {l : Launch} {E : Ev} {σ : MS} : CtV wdM l E y_mo_multiply bc_mo_multiply 2 none (rmm 1 22) [.ref (eO E 0)] σ (mo_multiply σ ) := ct_v (by decide) (Nat.le_of_ble_eq_true rfl) (fun X hE _ G => by subst hE; exact b_mo_multiply G σ )
def mo_back_33 (σ : MS) (t0 t1 : Int32) : Option (Int32 × MS) :=
bd (mo_pullAll σ t1 t0) fun _ s1 =>
some ((0 : Int32), s1)
def mo_back (σ : MS) : Option (Int32 × MS) :=
bd (mo_pull σ (5 : Int32)) fun v1 s1 =>
ns (my_reg s1 (upd (mx_reg s1) 8 v1)) fun s2 =>
bd (mo_is s2 (128 : Int32)) fun v2 s3 =>
if v2 = 0 then (mo_back_33 s3 (128 : Int32) (5 : Int32)) else (mo_back_33 s3 (254 : Int32) (5 : Int32))
set_option maxHeartbeats 4000000 in
set_option maxRecDepth 100000 in
theorem b_mo_back_33 {X : Cx} (G : Gd X bc_mo_back 1 R_mod none (rmm 4 88)) (σ : MS) (t0 t1 : Int32) : J wdM X (QV wdM X) 1 33 [(0, .ref (eO (xE X) 0))] [.int t0, .int t1, .ref (eO (xE X) 0)] σ (mo_back_33 σ t0 t1) := by
  unfold mo_back_33
  refine j_Vv2 G k_mo_pullAll mw_mo_pullAll lk_mo_mo_pullAll rc_mod d_mo_back_33 rfl (Nat.le_of_ble_eq_true rfl) (fun _ s1 => ?_)
  exact j_vret G d_mo_back_36
set_option maxHeartbeats 4000000 in
set_option maxRecDepth 100000 in
theorem b_mo_back {X : Cx} (G : Gd X bc_mo_back 1 R_mod none (rmm 4 88)) (σ : MS) : J wdM X (QV wdM X) 1 0 [(0, .ref (eO (xE X) 0))] [] σ (mo_back σ ) := by
  unfold mo_back
  refine j_aload_n 0 G d_mo_back_0 rfl rfl ?_
  refine g_mo_r G d_mo_back_1 ?_
  refine j_bipush G d_mo_back_4 cb_8 ?_
  refine j_aload_n 0 G d_mo_back_6 rfl rfl ?_
  refine j_iconst G d_mo_back_7 ci_5 ?_
  refine j_Vi1 G k_mo_pull mw_mo_pull lk_mo_mo_pull rc_mod d_mo_back_8 rfl (Nat.le_of_ble_eq_true rfl) (fun v1 s1 => ?_)
  refine asc_Mreg (j := 8) rfl rfl G d_mo_back_11 ?_
  refine j_ns (fun s2 => ?_)
  refine j_aload_n 0 G d_mo_back_12 rfl rfl ?_
  refine j_iconst G d_mo_back_13 ci_5 ?_
  refine j_aload_n 0 G d_mo_back_14 rfl rfl ?_
  refine j_sipush G d_mo_back_15 cs_128 ?_
  refine j_Vi1 G k_mo_is mw_mo_is lk_mo_mo_is rc_mod d_mo_back_18 rfl (Nat.le_of_ble_eq_true rfl) (fun v2 s3 => ?_)
  refine j_ifeq G d_mo_back_21 (tgt := 30) rfl ?_ ?_
  · refine j_sipush G d_mo_back_30 cs_128 ?_
    exact b_mo_back_33 G s3 (128 : Int32) (5 : Int32)
  · refine j_sipush G d_mo_back_24 cs_254 ?_
    refine j_goto G d_mo_back_27 (tgt := 33) rfl ?_
    exact b_mo_back_33 G s3 (254 : Int32) (5 : Int32)
set_option maxHeartbeats 4000000 in
set_option maxRecDepth 100000 in
theorem k_mo_back {l : Launch} {E : Ev} {σ : MS} : CtV wdM l E y_mo_back bc_mo_back 1 none (rmm 4 88) [.ref (eO E 0)] σ (mo_back σ ) := ct_v (by decide) (Nat.le_of_ble_eq_true rfl) (fun X hE _ G => by subst hE; exact b_mo_back G σ )
def mo_last_136 (σ : MS) : Option (Int32 × MS) :=
some ((0 : Int32), σ)
def mo_last (σ : MS) (a1 : Int32) : Option (Int32 × MS) :=
if a1 = (57 : Int32) then (bd (mo_pullWord σ (5 : Int32)) fun v4 s10 =>
ns (my_reg s10 (upd (mx_reg s10) 6 v4)) fun s11 =>
mo_last_136 s11) else (if a1 = (58 : Int32) then (nm (((mx_reg σ 2) + (mx_reg σ 1)) &&& (65535 : Int32)) fun v3 =>
ns (my_reg σ (upd (mx_reg σ) 2 v3)) fun s9 =>
mo_last_136 s9) else (if a1 = (59 : Int32) then (bd (mo_back σ) fun _ s8 =>
mo_last_136 s8) else (if a1 = (60 : Int32) then (bd (mo_next σ) fun v1 s4 =>
nm ((mx_reg σ 8) &&& v1) fun v2 =>
ns (my_reg s4 (upd (mx_reg s4) 8 v2)) fun s5 =>
bd (mo_pushState s5) fun _ s6 =>
ns (my_wai s6 (2 : Int32)) fun s7 =>
mo_last_136 s7) else (if a1 = (61 : Int32) then (bd (mo_multiply σ) fun _ s3 =>
mo_last_136 s3) else (if a1 = (63 : Int32) then (bd (mo_trap σ (65530 : Int32) (1 : Int32)) fun _ s2 =>
mo_last_136 s2) else (ns (my_und σ (1 : Int32)) fun s1 =>
mo_last_136 s1))))))
set_option maxHeartbeats 4000000 in
set_option maxRecDepth 100000 in
theorem b_mo_last_136 {X : Cx} (G : Gd X bc_mo_last 2 R_mod none (rmm 6 130)) (σ : MS) : J wdM X (QV wdM X) 2 136 [(0, .ref (eO (xE X) 0))] [] σ (mo_last_136 σ ) := by
  unfold mo_last_136
  exact j_vret G d_mo_last_136
set_option maxHeartbeats 4000000 in
set_option maxRecDepth 100000 in
theorem b_mo_last {X : Cx} (G : Gd X bc_mo_last 2 R_mod none (rmm 6 130)) (σ : MS) (a1 : Int32) : J wdM X (QV wdM X) 2 0 [(0, .ref (eO (xE X) 0)), (1, .int a1)] [] σ (mo_last σ a1) := by
  unfold mo_last
  refine j_iload_n 1 G d_mo_last_0 rfl rfl ?_
  refine j_bipush G d_mo_last_1 cb_57 ?_
  refine j_icne G d_mo_last_3 (tgt := 21) rfl ?_ ?_
  · refine j_iload_n 1 G d_mo_last_21 rfl rfl ?_
    refine j_bipush G d_mo_last_22 cb_58 ?_
    refine j_icne G d_mo_last_24 (tgt := 52) rfl ?_ ?_
    · refine j_iload_n 1 G d_mo_last_52 rfl rfl ?_
      refine j_bipush G d_mo_last_53 cb_59 ?_
      refine j_icne G d_mo_last_55 (tgt := 65) rfl ?_ ?_
      · refine j_iload_n 1 G d_mo_last_65 rfl rfl ?_
        refine j_bipush G d_mo_last_66 cb_60 ?_
        refine j_icne G d_mo_last_68 (tgt := 102) rfl ?_ ?_
        · refine j_iload_n 1 G d_mo_last_102 rfl rfl ?_
          refine j_bipush G d_mo_last_103 cb_61 ?_
          refine j_icne G d_mo_last_105 (tgt := 115) rfl ?_ ?_
          · refine j_iload_n 1 G d_mo_last_115 rfl rfl ?_
            refine j_bipush G d_mo_last_116 cb_63 ?_
            refine j_icne G d_mo_last_118 (tgt := 131) rfl ?_ ?_
            · refine j_aload_n 0 G d_mo_last_131 rfl rfl ?_
              refine j_iconst G d_mo_last_132 ci_1 ?_
              refine pc_mo_undefined (by decide) G d_mo_last_133 ?_
              refine j_ns (fun s1 => ?_)
              refine j_sub [0] (L1 := [(0, .ref (eO (xE X) 0))]) rfl ?_
              exact b_mo_last_136 G s1
            · refine j_aload_n 0 G d_mo_last_121 rfl rfl ?_
              refine j_ldc G d_mo_last_122 kc_mo_190 ?_
              refine j_iconst G d_mo_last_124 ci_1 ?_
              refine j_Vv2 G k_mo_trap mw_mo_trap lk_mo_mo_trap rc_mod d_mo_last_125 rfl (Nat.le_of_ble_eq_true rfl) (fun _ s2 => ?_)
              refine j_goto G d_mo_last_128 (tgt := 136) rfl ?_
              refine j_sub [0] (L1 := [(0, .ref (eO (xE X) 0))]) rfl ?_
              exact b_mo_last_136 G s2
          · refine j_aload_n 0 G d_mo_last_108 rfl rfl ?_
            refine j_Vv0 G k_mo_multiply mw_mo_multiply lk_mo_mo_multiply rc_mod d_mo_last_109 rfl (Nat.le_of_ble_eq_true rfl) (fun _ s3 => ?_)
            refine j_goto G d_mo_last_112 (tgt := 136) rfl ?_
            refine j_sub [0] (L1 := [(0, .ref (eO (xE X) 0))]) rfl ?_
            exact b_mo_last_136 G s3
        · refine j_aload_n 0 G d_mo_last_71 rfl rfl ?_
          refine g_mo_r G d_mo_last_72 ?_
          refine j_bipush G d_mo_last_75 cb_8 ?_
          refine j_aload_n 0 G d_mo_last_77 rfl rfl ?_
          refine g_mo_r G d_mo_last_78 ?_
          refine j_bipush G d_mo_last_81 cb_8 ?_
          refine alc_Mreg (j := 8) rfl rfl G d_mo_last_83 ?_
          refine j_aload_n 0 G d_mo_last_84 rfl rfl ?_
          refine j_Vi0 G k_mo_next mw_mo_next lk_mo_mo_next rc_mod d_mo_last_85 rfl (Nat.le_of_ble_eq_true rfl) (fun v1 s4 => ?_)
          refine j_iand G d_mo_last_88 ?_
          refine j_nm (fun v2 => ?_)
          refine asc_Mreg (j := 8) rfl rfl G d_mo_last_89 ?_
          refine j_ns (fun s5 => ?_)
          refine j_aload_n 0 G d_mo_last_90 rfl rfl ?_
          refine j_Vv0 G k_mo_pushState mw_mo_pushState lk_mo_mo_pushState rc_mod d_mo_last_91 rfl (Nat.le_of_ble_eq_true rfl) (fun _ s6 => ?_)
          refine j_aload_n 0 G d_mo_last_94 rfl rfl ?_
          refine j_iconst G d_mo_last_95 ci_2 ?_
          refine p_mo_waits G d_mo_last_96 ?_
          refine j_ns (fun s7 => ?_)
          refine j_goto G d_mo_last_99 (tgt := 136) rfl ?_
          refine j_sub [0] (L1 := [(0, .ref (eO (xE X) 0))]) rfl ?_
          exact b_mo_last_136 G s7
      · refine j_aload_n 0 G d_mo_last_58 rfl rfl ?_
        refine j_Vv0 G k_mo_back mw_mo_back lk_mo_mo_back rc_mod d_mo_last_59 rfl (Nat.le_of_ble_eq_true rfl) (fun _ s8 => ?_)
        refine j_goto G d_mo_last_62 (tgt := 136) rfl ?_
        refine j_sub [0] (L1 := [(0, .ref (eO (xE X) 0))]) rfl ?_
        exact b_mo_last_136 G s8
    · refine j_aload_n 0 G d_mo_last_27 rfl rfl ?_
      refine g_mo_r G d_mo_last_28 ?_
      refine j_iconst G d_mo_last_31 ci_2 ?_
      refine j_aload_n 0 G d_mo_last_32 rfl rfl ?_
      refine g_mo_r G d_mo_last_33 ?_
      refine j_iconst G d_mo_last_36 ci_2 ?_
      refine alc_Mreg (j := 2) rfl rfl G d_mo_last_37 ?_
      refine j_aload_n 0 G d_mo_last_38 rfl rfl ?_
      refine g_mo_r G d_mo_last_39 ?_
      refine j_iconst G d_mo_last_42 ci_1 ?_
      refine alc_Mreg (j := 1) rfl rfl G d_mo_last_43 ?_
      refine j_iadd G d_mo_last_44 ?_
      refine j_ldc G d_mo_last_45 kc_mo_30 ?_
      refine j_iand G d_mo_last_47 ?_
      refine j_nm (fun v3 => ?_)
      refine asc_Mreg (j := 2) rfl rfl G d_mo_last_48 ?_
      refine j_ns (fun s9 => ?_)
      refine j_goto G d_mo_last_49 (tgt := 136) rfl ?_
      refine j_sub [0] (L1 := [(0, .ref (eO (xE X) 0))]) rfl ?_
      exact b_mo_last_136 G s9
  · refine j_aload_n 0 G d_mo_last_6 rfl rfl ?_
    refine g_mo_r G d_mo_last_7 ?_
    refine j_bipush G d_mo_last_10 cb_6 ?_
    refine j_aload_n 0 G d_mo_last_12 rfl rfl ?_
    refine j_iconst G d_mo_last_13 ci_5 ?_
    refine j_Vi1 G k_mo_pullWord mw_mo_pullWord lk_mo_mo_pullWord rc_mod d_mo_last_14 rfl (Nat.le_of_ble_eq_true rfl) (fun v4 s10 => ?_)
    refine asc_Mreg (j := 6) rfl rfl G d_mo_last_17 ?_
    refine j_ns (fun s11 => ?_)
    refine j_goto G d_mo_last_18 (tgt := 136) rfl ?_
    refine j_sub [0] (L1 := [(0, .ref (eO (xE X) 0))]) rfl ?_
    exact b_mo_last_136 G s11
set_option maxHeartbeats 4000000 in
set_option maxRecDepth 100000 in
theorem k_mo_last {l : Launch} {E : Ev} {σ : MS} {a1 : Int32} : CtV wdM l E y_mo_last bc_mo_last 2 none (rmm 6 130) [.ref (eO E 0), .int a1] σ (mo_last σ a1) := ct_v (by decide) (Nat.le_of_ble_eq_true rfl) (fun X hE _ G => by subst hE; exact b_mo_last G σ a1)
def mo_middle_330 (σ : MS) : Option (Int32 × MS) :=
some ((0 : Int32), σ)
def mo_middle_267 (σ : MS) (t0 : Int32) : Option (Int32 × MS) :=
bd (mo_lea σ t0) fun _ s1 =>
mo_middle_330 s1
def mo_middle_322 (σ : MS) : Option (Int32 × MS) :=
mo_middle_330 σ
def mo_middle_300 (σ : MS) (l1 l2 t0 : Int32) : Option (Int32 × MS) :=
if (l1 - l1 / (2 : Int32) * (2 : Int32)) = 0 then (bd (mo_pushAll σ t0 l2) fun _ s2 =>
mo_middle_322 s2) else (bd (mo_pullAll σ t0 l2) fun _ s1 =>
mo_middle_322 s1)
def mo_middle_218 (σ : MS) (t0 : Int32) : Option (Int32 × MS) :=
bd (mo_exchange σ t0) fun _ s1 =>
mo_middle_330 s1
def mo_middle_206 (σ : MS) (l1 : Int32) : Option (Int32 × MS) :=
if l1 = (30 : Int32) then (mo_middle_218 σ (1 : Int32)) else (mo_middle_218 σ (0 : Int32))
def mo_middle_180 (σ : MS) (t0 t1 : Int32) : Option (Int32 × MS) :=
gd (okI t1 9) (
ns (my_reg σ (upd (mx_reg σ) t1.toNatClampNeg t0)) fun s1 =>
bd (mo_d s1) fun v1 s2 =>
bd (mo_moved s2 v1 (1 : Int32)) fun v2 s3 =>
mo_middle_330 s3)
def mo_middle (σ : MS) (a1 : Int32) : Option (Int32 × MS) :=
if a1 = (18 : Int32) then (some ((0 : Int32), σ)) else (if a1 = (19 : Int32) then (ns (my_wai σ (1 : Int32)) fun s14 =>
mo_middle_330 s14) else (if a1 = (22 : Int32) then (bd (mo_branch σ (0 : Int32) (1 : Int32)) fun _ s13 =>
mo_middle_330 s13) else (if a1 = (23 : Int32) then (bd (mo_nextWord σ) fun v8 s10 =>
bd (mo_pushWord s10 (5 : Int32) (mx_reg s10 6)) fun _ s11 =>
nm (((mx_reg s11 6) + v8) &&& (65535 : Int32)) fun v9 =>
ns (my_reg s11 (upd (mx_reg s11) 6 v9)) fun s12 =>
mo_middle_330 s12) else (if a1 = (25 : Int32) then (bd (mo_adjust σ) fun _ s9 =>
mo_middle_330 s9) else (if a1 = (26 : Int32) then (bd (mo_next σ) fun v6 s7 =>
nm ((mx_reg σ 8) ||| v6) fun v7 =>
ns (my_reg s7 (upd (mx_reg s7) 8 v7)) fun s8 =>
mo_middle_330 s8) else (if a1 = (28 : Int32) then (bd (mo_next σ) fun v4 s5 =>
nm ((mx_reg σ 8) &&& v4) fun v5 =>
ns (my_reg s5 (upd (mx_reg s5) 8 v5)) fun s6 =>
mo_middle_330 s6) else (if a1 = (29 : Int32) then (if (mx_reg σ 1) < (128 : Int32) then (mo_middle_180 σ (0 : Int32) (0 : Int32)) else (mo_middle_180 σ (255 : Int32) (0 : Int32))) else (if a1 = (30 : Int32) then (mo_middle_206 σ a1) else (if a1 = (31 : Int32) then (mo_middle_206 σ a1) else (bd (mo_in σ a1 (48 : Int32) (51 : Int32)) fun v1 s1 =>
if v1 = 0 then (bd (mo_in s1 a1 (52 : Int32) (55 : Int32)) fun v2 s2 =>
if v2 = 0 then (bd (mo_last s2 a1) fun _ s3 =>
mo_middle_330 s3) else (bd (mo_next s2) fun v3 s4 =>
if (54 : Int32) ≤ a1 then (mo_middle_300 s4 a1 v3 (4 : Int32)) else (mo_middle_300 s4 a1 v3 (5 : Int32)))) else (if a1 = (48 : Int32) then (mo_middle_267 s1 (2 : Int32)) else (if a1 = (49 : Int32) then (mo_middle_267 s1 (3 : Int32)) else (if a1 = (50 : Int32) then (mo_middle_267 s1 (5 : Int32)) else (mo_middle_267 s1 (4 : Int32)))))))))))))))
set_option maxHeartbeats 4000000 in
set_option maxRecDepth 100000 in
theorem b_mo_middle_330 {X : Cx} (G : Gd X bc_mo_middle 4 R_mod none (rmm 7 151)) (σ : MS) : J wdM X (QV wdM X) 4 330 [(0, .ref (eO (xE X) 0))] [] σ (mo_middle_330 σ ) := by
  unfold mo_middle_330
  exact j_vret G d_mo_middle_330
set_option maxHeartbeats 4000000 in
set_option maxRecDepth 100000 in
theorem b_mo_middle_267 {X : Cx} (G : Gd X bc_mo_middle 4 R_mod none (rmm 7 151)) (σ : MS) (t0 : Int32) : J wdM X (QV wdM X) 4 267 [(0, .ref (eO (xE X) 0))] [.int t0, .ref (eO (xE X) 0)] σ (mo_middle_267 σ t0) := by
  unfold mo_middle_267
  refine j_Vv1 G k_mo_lea mw_mo_lea lk_mo_mo_lea rc_mod d_mo_middle_267 rfl (Nat.le_of_ble_eq_true rfl) (fun _ s1 => ?_)
  refine j_goto G d_mo_middle_270 (tgt := 330) rfl ?_
  exact b_mo_middle_330 G s1
set_option maxHeartbeats 4000000 in
set_option maxRecDepth 100000 in
theorem b_mo_middle_322 {X : Cx} (G : Gd X bc_mo_middle 4 R_mod none (rmm 7 151)) (σ : MS) : J wdM X (QV wdM X) 4 322 [(0, .ref (eO (xE X) 0))] [] σ (mo_middle_322 σ ) := by
  unfold mo_middle_322
  refine j_goto G d_mo_middle_322 (tgt := 330) rfl ?_
  exact b_mo_middle_330 G σ
set_option maxHeartbeats 4000000 in
set_option maxRecDepth 100000 in
theorem b_mo_middle_300 {X : Cx} (G : Gd X bc_mo_middle 4 R_mod none (rmm 7 151)) (σ : MS) (l1 l2 t0 : Int32) : J wdM X (QV wdM X) 4 300 [(0, .ref (eO (xE X) 0)), (1, .int l1), (2, .int l2)] [.int t0] σ (mo_middle_300 σ l1 l2 t0) := by
  unfold mo_middle_300
  refine j_istore_n [1, 2, 3, 0] (L1 := [(0, .ref (eO (xE X) 0)), (1, .int l1), (2, .int l2), (3, .int t0)]) G d_mo_middle_300 rfl (by decide) rfl ?_
  refine j_iload_n 1 G d_mo_middle_301 rfl rfl ?_
  refine j_iconst G d_mo_middle_302 ci_2 ?_
  refine j_irem G d_mo_middle_303 (by decide) ?_
  refine j_ifne G d_mo_middle_304 (tgt := 316) rfl ?_ ?_
  · refine j_aload_n 0 G d_mo_middle_316 rfl rfl ?_
    refine j_iload_n 3 G d_mo_middle_317 rfl rfl ?_
    refine j_iload_n 2 G d_mo_middle_318 rfl rfl ?_
    refine j_Vv2 G k_mo_pullAll mw_mo_pullAll lk_mo_mo_pullAll rc_mod d_mo_middle_319 rfl (Nat.le_of_ble_eq_true rfl) (fun _ s1 => ?_)
    refine j_sub [0] (L1 := [(0, .ref (eO (xE X) 0))]) rfl ?_
    exact b_mo_middle_322 G s1
  · refine j_aload_n 0 G d_mo_middle_307 rfl rfl ?_
    refine j_iload_n 3 G d_mo_middle_308 rfl rfl ?_
    refine j_iload_n 2 G d_mo_middle_309 rfl rfl ?_
    refine j_Vv2 G k_mo_pushAll mw_mo_pushAll lk_mo_mo_pushAll rc_mod d_mo_middle_310 rfl (Nat.le_of_ble_eq_true rfl) (fun _ s2 => ?_)
    refine j_goto G d_mo_middle_313 (tgt := 322) rfl ?_
    refine j_sub [0] (L1 := [(0, .ref (eO (xE X) 0))]) rfl ?_
    exact b_mo_middle_322 G s2
set_option maxHeartbeats 4000000 in
set_option maxRecDepth 100000 in
theorem b_mo_middle_218 {X : Cx} (G : Gd X bc_mo_middle 4 R_mod none (rmm 7 151)) (σ : MS) (t0 : Int32) : J wdM X (QV wdM X) 4 218 [(0, .ref (eO (xE X) 0))] [.int t0, .ref (eO (xE X) 0)] σ (mo_middle_218 σ t0) := by
  unfold mo_middle_218
  refine j_Vv1 G k_mo_exchange mw_mo_exchange lk_mo_mo_exchange rc_mod d_mo_middle_218 rfl (Nat.le_of_ble_eq_true rfl) (fun _ s1 => ?_)
  refine j_goto G d_mo_middle_221 (tgt := 330) rfl ?_
  exact b_mo_middle_330 G s1
set_option maxHeartbeats 4000000 in
set_option maxRecDepth 100000 in
theorem b_mo_middle_206 {X : Cx} (G : Gd X bc_mo_middle 4 R_mod none (rmm 7 151)) (σ : MS) (l1 : Int32) : J wdM X (QV wdM X) 4 206 [(0, .ref (eO (xE X) 0)), (1, .int l1)] [] σ (mo_middle_206 σ l1) := by
  unfold mo_middle_206
  refine j_aload_n 0 G d_mo_middle_206 rfl rfl ?_
  refine j_iload_n 1 G d_mo_middle_207 rfl rfl ?_
  refine j_bipush G d_mo_middle_208 cb_30 ?_
  refine j_icne G d_mo_middle_210 (tgt := 217) rfl ?_ ?_
  · refine j_iconst G d_mo_middle_217 ci_0 ?_
    refine j_sub [0] (L1 := [(0, .ref (eO (xE X) 0))]) rfl ?_
    exact b_mo_middle_218 G σ (0 : Int32)
  · refine j_iconst G d_mo_middle_213 ci_1 ?_
    refine j_goto G d_mo_middle_214 (tgt := 218) rfl ?_
    refine j_sub [0] (L1 := [(0, .ref (eO (xE X) 0))]) rfl ?_
    exact b_mo_middle_218 G σ (1 : Int32)
set_option maxHeartbeats 4000000 in
set_option maxRecDepth 100000 in
theorem b_mo_middle_180 {X : Cx} (G : Gd X bc_mo_middle 4 R_mod none (rmm 7 151)) (σ : MS) (t0 t1 : Int32) : J wdM X (QV wdM X) 4 180 [(0, .ref (eO (xE X) 0))] [.int t0, .int t1, .ref (eO (xE X) 2)] σ (mo_middle_180 σ t0 t1) := by
  unfold mo_middle_180
  refine as_Mreg G d_mo_middle_180 ?_
  refine j_ns (fun s1 => ?_)
  refine j_aload_n 0 G d_mo_middle_181 rfl rfl ?_
  refine j_aload_n 0 G d_mo_middle_182 rfl rfl ?_
  refine j_Vi0 G k_mo_d mw_mo_d lk_mo_mo_d rc_mod d_mo_middle_183 rfl (Nat.le_of_ble_eq_true rfl) (fun v1 s2 => ?_)
  refine j_iconst G d_mo_middle_186 ci_1 ?_
  refine j_Vi2 G k_mo_moved mw_mo_moved lk_mo_mo_moved rc_mod d_mo_middle_187 rfl (Nat.le_of_ble_eq_true rfl) (fun v2 s3 => ?_)
  refine j_pop G d_mo_middle_190 rfl ?_
  refine j_goto G d_mo_middle_191 (tgt := 330) rfl ?_
  exact b_mo_middle_330 G s3
set_option maxHeartbeats 4000000 in
set_option maxRecDepth 100000 in
theorem b_mo_middle {X : Cx} (G : Gd X bc_mo_middle 4 R_mod none (rmm 7 151)) (σ : MS) (a1 : Int32) : J wdM X (QV wdM X) 4 0 [(0, .ref (eO (xE X) 0)), (1, .int a1)] [] σ (mo_middle σ a1) := by
  unfold mo_middle
  refine j_iload_n 1 G d_mo_middle_0 rfl rfl ?_
  refine j_bipush G d_mo_middle_1 cb_18 ?_
  refine j_icne G d_mo_middle_3 (tgt := 7) rfl ?_ ?_
  · refine j_iload_n 1 G d_mo_middle_7 rfl rfl ?_
    refine j_bipush G d_mo_middle_8 cb_19 ?_
    refine j_icne G d_mo_middle_10 (tgt := 21) rfl ?_ ?_
    · refine j_iload_n 1 G d_mo_middle_21 rfl rfl ?_
      refine j_bipush G d_mo_middle_22 cb_22 ?_
      refine j_icne G d_mo_middle_24 (tgt := 36) rfl ?_ ?_
      · refine j_iload_n 1 G d_mo_middle_36 rfl rfl ?_
        refine j_bipush G d_mo_middle_37 cb_23 ?_
        refine j_icne G d_mo_middle_39 (tgt := 81) rfl ?_ ?_
        · refine j_iload_n 1 G d_mo_middle_81 rfl rfl ?_
          refine j_bipush G d_mo_middle_82 cb_25 ?_
          refine j_icne G d_mo_middle_84 (tgt := 94) rfl ?_ ?_
          · refine j_iload_n 1 G d_mo_middle_94 rfl rfl ?_
            refine j_bipush G d_mo_middle_95 cb_26 ?_
            refine j_icne G d_mo_middle_97 (tgt := 122) rfl ?_ ?_
            · refine j_iload_n 1 G d_mo_middle_122 rfl rfl ?_
              refine j_bipush G d_mo_middle_123 cb_28 ?_
              refine j_icne G d_mo_middle_125 (tgt := 150) rfl ?_ ?_
              · refine j_iload_n 1 G d_mo_middle_150 rfl rfl ?_
                refine j_bipush G d_mo_middle_151 cb_29 ?_
                refine j_icne G d_mo_middle_153 (tgt := 194) rfl ?_ ?_
                · refine j_iload_n 1 G d_mo_middle_194 rfl rfl ?_
                  refine j_bipush G d_mo_middle_195 cb_30 ?_
                  refine j_iceq G d_mo_middle_197 (tgt := 206) rfl ?_ ?_
                  · exact b_mo_middle_206 G σ a1
                  · refine j_iload_n 1 G d_mo_middle_200 rfl rfl ?_
                    refine j_bipush G d_mo_middle_201 cb_31 ?_
                    refine j_icne G d_mo_middle_203 (tgt := 224) rfl ?_ ?_
                    · refine j_iload_n 1 G d_mo_middle_224 rfl rfl ?_
                      refine j_bipush G d_mo_middle_225 cb_48 ?_
                      refine j_bipush G d_mo_middle_227 cb_51 ?_
                      refine j_Si3 G k_mo_in mw_mo_in lk_mo_mo_in d_mo_middle_229 rfl (Nat.le_of_ble_eq_true rfl) (fun v1 s1 => ?_)
                      refine j_ifeq G d_mo_middle_232 (tgt := 273) rfl ?_ ?_
                      · refine j_iload_n 1 G d_mo_middle_273 rfl rfl ?_
                        refine j_bipush G d_mo_middle_274 cb_52 ?_
                        refine j_bipush G d_mo_middle_276 cb_55 ?_
                        refine j_Si3 G k_mo_in mw_mo_in lk_mo_mo_in d_mo_middle_278 rfl (Nat.le_of_ble_eq_true rfl) (fun v2 s2 => ?_)
                        refine j_ifeq G d_mo_middle_281 (tgt := 325) rfl ?_ ?_
                        · refine j_aload_n 0 G d_mo_middle_325 rfl rfl ?_
                          refine j_iload_n 1 G d_mo_middle_326 rfl rfl ?_
                          refine j_Vv1 G k_mo_last mw_mo_last lk_mo_mo_last rc_mod d_mo_middle_327 rfl (Nat.le_of_ble_eq_true rfl) (fun _ s3 => ?_)
                          refine j_sub [0] (L1 := [(0, .ref (eO (xE X) 0))]) rfl ?_
                          exact b_mo_middle_330 G s3
                        · refine j_aload_n 0 G d_mo_middle_284 rfl rfl ?_
                          refine j_Vi0 G k_mo_next mw_mo_next lk_mo_mo_next rc_mod d_mo_middle_285 rfl (Nat.le_of_ble_eq_true rfl) (fun v3 s4 => ?_)
                          refine j_istore_n [1, 2, 0] (L1 := [(0, .ref (eO (xE X) 0)), (1, .int a1), (2, .int v3)]) G d_mo_middle_288 rfl (by decide) rfl ?_
                          refine j_iload_n 1 G d_mo_middle_289 rfl rfl ?_
                          refine j_bipush G d_mo_middle_290 cb_54 ?_
                          refine j_icge G d_mo_middle_292 (tgt := 299) rfl ?_ ?_
                          · refine j_iconst G d_mo_middle_299 ci_4 ?_
                            exact b_mo_middle_300 G s4 a1 v3 (4 : Int32)
                          · refine j_iconst G d_mo_middle_295 ci_5 ?_
                            refine j_goto G d_mo_middle_296 (tgt := 300) rfl ?_
                            exact b_mo_middle_300 G s4 a1 v3 (5 : Int32)
                      · refine j_aload_n 0 G d_mo_middle_235 rfl rfl ?_
                        refine j_iload_n 1 G d_mo_middle_236 rfl rfl ?_
                        refine j_bipush G d_mo_middle_237 cb_48 ?_
                        refine j_icne G d_mo_middle_239 (tgt := 246) rfl ?_ ?_
                        · refine j_iload_n 1 G d_mo_middle_246 rfl rfl ?_
                          refine j_bipush G d_mo_middle_247 cb_49 ?_
                          refine j_icne G d_mo_middle_249 (tgt := 256) rfl ?_ ?_
                          · refine j_iload_n 1 G d_mo_middle_256 rfl rfl ?_
                            refine j_bipush G d_mo_middle_257 cb_50 ?_
                            refine j_icne G d_mo_middle_259 (tgt := 266) rfl ?_ ?_
                            · refine j_iconst G d_mo_middle_266 ci_4 ?_
                              refine j_sub [0] (L1 := [(0, .ref (eO (xE X) 0))]) rfl ?_
                              exact b_mo_middle_267 G s1 (4 : Int32)
                            · refine j_iconst G d_mo_middle_262 ci_5 ?_
                              refine j_goto G d_mo_middle_263 (tgt := 267) rfl ?_
                              refine j_sub [0] (L1 := [(0, .ref (eO (xE X) 0))]) rfl ?_
                              exact b_mo_middle_267 G s1 (5 : Int32)
                          · refine j_iconst G d_mo_middle_252 ci_3 ?_
                            refine j_goto G d_mo_middle_253 (tgt := 267) rfl ?_
                            refine j_sub [0] (L1 := [(0, .ref (eO (xE X) 0))]) rfl ?_
                            exact b_mo_middle_267 G s1 (3 : Int32)
                        · refine j_iconst G d_mo_middle_242 ci_2 ?_
                          refine j_goto G d_mo_middle_243 (tgt := 267) rfl ?_
                          refine j_sub [0] (L1 := [(0, .ref (eO (xE X) 0))]) rfl ?_
                          exact b_mo_middle_267 G s1 (2 : Int32)
                    · exact b_mo_middle_206 G σ a1
                · refine j_aload_n 0 G d_mo_middle_156 rfl rfl ?_
                  refine g_mo_r G d_mo_middle_157 ?_
                  refine j_iconst G d_mo_middle_160 ci_0 ?_
                  refine j_aload_n 0 G d_mo_middle_161 rfl rfl ?_
                  refine g_mo_r G d_mo_middle_162 ?_
                  refine j_iconst G d_mo_middle_165 ci_1 ?_
                  refine alc_Mreg (j := 1) rfl rfl G d_mo_middle_166 ?_
                  refine j_sipush G d_mo_middle_167 cs_128 ?_
                  refine j_iclt G d_mo_middle_170 (tgt := 179) rfl ?_ ?_
                  · refine j_iconst G d_mo_middle_179 ci_0 ?_
                    refine j_sub [0] (L1 := [(0, .ref (eO (xE X) 0))]) rfl ?_
                    exact b_mo_middle_180 G σ (0 : Int32) (0 : Int32)
                  · refine j_sipush G d_mo_middle_173 cs_255 ?_
                    refine j_goto G d_mo_middle_176 (tgt := 180) rfl ?_
                    refine j_sub [0] (L1 := [(0, .ref (eO (xE X) 0))]) rfl ?_
                    exact b_mo_middle_180 G σ (255 : Int32) (0 : Int32)
              · refine j_aload_n 0 G d_mo_middle_128 rfl rfl ?_
                refine g_mo_r G d_mo_middle_129 ?_
                refine j_bipush G d_mo_middle_132 cb_8 ?_
                refine j_aload_n 0 G d_mo_middle_134 rfl rfl ?_
                refine g_mo_r G d_mo_middle_135 ?_
                refine j_bipush G d_mo_middle_138 cb_8 ?_
                refine alc_Mreg (j := 8) rfl rfl G d_mo_middle_140 ?_
                refine j_aload_n 0 G d_mo_middle_141 rfl rfl ?_
                refine j_Vi0 G k_mo_next mw_mo_next lk_mo_mo_next rc_mod d_mo_middle_142 rfl (Nat.le_of_ble_eq_true rfl) (fun v4 s5 => ?_)
                refine j_iand G d_mo_middle_145 ?_
                refine j_nm (fun v5 => ?_)
                refine asc_Mreg (j := 8) rfl rfl G d_mo_middle_146 ?_
                refine j_ns (fun s6 => ?_)
                refine j_goto G d_mo_middle_147 (tgt := 330) rfl ?_
                refine j_sub [0] (L1 := [(0, .ref (eO (xE X) 0))]) rfl ?_
                exact b_mo_middle_330 G s6
            · refine j_aload_n 0 G d_mo_middle_100 rfl rfl ?_
              refine g_mo_r G d_mo_middle_101 ?_
              refine j_bipush G d_mo_middle_104 cb_8 ?_
              refine j_aload_n 0 G d_mo_middle_106 rfl rfl ?_
              refine g_mo_r G d_mo_middle_107 ?_
              refine j_bipush G d_mo_middle_110 cb_8 ?_
              refine alc_Mreg (j := 8) rfl rfl G d_mo_middle_112 ?_
              refine j_aload_n 0 G d_mo_middle_113 rfl rfl ?_
              refine j_Vi0 G k_mo_next mw_mo_next lk_mo_mo_next rc_mod d_mo_middle_114 rfl (Nat.le_of_ble_eq_true rfl) (fun v6 s7 => ?_)
              refine j_ior G d_mo_middle_117 ?_
              refine j_nm (fun v7 => ?_)
              refine asc_Mreg (j := 8) rfl rfl G d_mo_middle_118 ?_
              refine j_ns (fun s8 => ?_)
              refine j_goto G d_mo_middle_119 (tgt := 330) rfl ?_
              refine j_sub [0] (L1 := [(0, .ref (eO (xE X) 0))]) rfl ?_
              exact b_mo_middle_330 G s8
          · refine j_aload_n 0 G d_mo_middle_87 rfl rfl ?_
            refine j_Vv0 G k_mo_adjust mw_mo_adjust lk_mo_mo_adjust rc_mod d_mo_middle_88 rfl (Nat.le_of_ble_eq_true rfl) (fun _ s9 => ?_)
            refine j_goto G d_mo_middle_91 (tgt := 330) rfl ?_
            refine j_sub [0] (L1 := [(0, .ref (eO (xE X) 0))]) rfl ?_
            exact b_mo_middle_330 G s9
        · refine j_aload_n 0 G d_mo_middle_42 rfl rfl ?_
          refine j_Vi0 G k_mo_nextWord mw_mo_nextWord lk_mo_mo_nextWord rc_mod d_mo_middle_43 rfl (Nat.le_of_ble_eq_true rfl) (fun v8 s10 => ?_)
          refine j_istore_n [1, 0] (L1 := [(0, .ref (eO (xE X) 0)), (2, .int v8)]) G d_mo_middle_46 rfl (by decide) rfl ?_
          refine j_aload_n 0 G d_mo_middle_47 rfl rfl ?_
          refine j_iconst G d_mo_middle_48 ci_5 ?_
          refine j_aload_n 0 G d_mo_middle_49 rfl rfl ?_
          refine g_mo_r G d_mo_middle_50 ?_
          refine j_bipush G d_mo_middle_53 cb_6 ?_
          refine alc_Mreg (j := 6) rfl rfl G d_mo_middle_55 ?_
          refine j_Vv2 G k_mo_pushWord mw_mo_pushWord lk_mo_mo_pushWord rc_mod d_mo_middle_56 rfl (Nat.le_of_ble_eq_true rfl) (fun _ s11 => ?_)
          refine j_aload_n 0 G d_mo_middle_59 rfl rfl ?_
          refine g_mo_r G d_mo_middle_60 ?_
          refine j_bipush G d_mo_middle_63 cb_6 ?_
          refine j_aload_n 0 G d_mo_middle_65 rfl rfl ?_
          refine g_mo_r G d_mo_middle_66 ?_
          refine j_bipush G d_mo_middle_69 cb_6 ?_
          refine alc_Mreg (j := 6) rfl rfl G d_mo_middle_71 ?_
          refine j_iload_n 1 G d_mo_middle_72 rfl rfl ?_
          refine j_iadd G d_mo_middle_73 ?_
          refine j_ldc G d_mo_middle_74 kc_mo_30 ?_
          refine j_iand G d_mo_middle_76 ?_
          refine j_nm (fun v9 => ?_)
          refine asc_Mreg (j := 6) rfl rfl G d_mo_middle_77 ?_
          refine j_ns (fun s12 => ?_)
          refine j_goto G d_mo_middle_78 (tgt := 330) rfl ?_
          refine j_sub [0] (L1 := [(0, .ref (eO (xE X) 0))]) rfl ?_
          exact b_mo_middle_330 G s12
      · refine j_aload_n 0 G d_mo_middle_27 rfl rfl ?_
        refine j_iconst G d_mo_middle_28 ci_0 ?_
        refine j_iconst G d_mo_middle_29 ci_1 ?_
        refine j_Vv2 G k_mo_branch mw_mo_branch lk_mo_mo_branch rc_mod d_mo_middle_30 rfl (Nat.le_of_ble_eq_true rfl) (fun _ s13 => ?_)
        refine j_goto G d_mo_middle_33 (tgt := 330) rfl ?_
        refine j_sub [0] (L1 := [(0, .ref (eO (xE X) 0))]) rfl ?_
        exact b_mo_middle_330 G s13
    · refine j_aload_n 0 G d_mo_middle_13 rfl rfl ?_
      refine j_iconst G d_mo_middle_14 ci_1 ?_
      refine p_mo_waits G d_mo_middle_15 ?_
      refine j_ns (fun s14 => ?_)
      refine j_goto G d_mo_middle_18 (tgt := 330) rfl ?_
      refine j_sub [0] (L1 := [(0, .ref (eO (xE X) 0))]) rfl ?_
      exact b_mo_middle_330 G s14
  · exact j_vret G d_mo_middle_6
set_option maxHeartbeats 4000000 in
set_option maxRecDepth 100000 in
theorem k_mo_middle {l : Launch} {E : Ev} {σ : MS} {a1 : Int32} : CtV wdM l E y_mo_middle bc_mo_middle 4 none (rmm 7 151) [.ref (eO E 0), .int a1] σ (mo_middle σ a1) := ct_v (by decide) (Nat.le_of_ble_eq_true rfl) (fun X hE _ G => by subst hE; exact b_mo_middle G σ a1)
def mo_behindTen_212 (σ : MS) : Option (Int32 × MS) :=
some ((0 : Int32), σ)
def mo_behindTen_207 (σ : MS) : Option (Int32 × MS) :=
ns (my_und σ (1 : Int32)) fun s1 =>
mo_behindTen_212 s1
def mo_behindTen_185 (σ : MS) (l1 l2 l3 : Int32) : Option (Int32 × MS) :=
if l1 < (192 : Int32) then (mo_behindTen_207 σ) else (if l3 = (15 : Int32) then (bd (mo_storeWord σ (5 : Int32) l2) fun _ s1 =>
mo_behindTen_212 s1) else (mo_behindTen_207 σ))
def mo_behindTen_163 (σ : MS) (l1 l2 l3 : Int32) : Option (Int32 × MS) :=
if l1 < (192 : Int32) then (mo_behindTen_185 σ l1 l2 l3) else (if l3 = (14 : Int32) then (bd (mo_loadWord σ (5 : Int32) l2) fun _ s1 =>
mo_behindTen_212 s1) else (mo_behindTen_185 σ l1 l2 l3))
def mo_behindTen_135 (σ : MS) (l1 l2 l3 : Int32) : Option (Int32 × MS) :=
bd (mo_in σ l1 (128 : Int32) (191 : Int32)) fun v1 s1 =>
if v1 = 0 then (mo_behindTen_163 s1 l1 l2 l3) else (if l3 = (15 : Int32) then (bd (mo_storeWord s1 (3 : Int32) l2) fun _ s2 =>
mo_behindTen_212 s2) else (mo_behindTen_163 s1 l1 l2 l3))
def mo_behindTen_107 (σ : MS) (l1 l2 l3 : Int32) : Option (Int32 × MS) :=
bd (mo_in σ l1 (128 : Int32) (191 : Int32)) fun v1 s1 =>
if v1 = 0 then (mo_behindTen_135 s1 l1 l2 l3) else (if l3 = (14 : Int32) then (bd (mo_loadWord s1 (3 : Int32) l2) fun _ s2 =>
mo_behindTen_212 s2) else (mo_behindTen_135 s1 l1 l2 l3))
def mo_behindTen_78 (σ : MS) (l1 l2 l3 : Int32) : Option (Int32 × MS) :=
bd (mo_in σ l1 (128 : Int32) (191 : Int32)) fun v1 s1 =>
if v1 = 0 then (mo_behindTen_107 s1 l1 l2 l3) else (if l3 = (12 : Int32) then (bd (mo_compare s1 (0 : Int32) (3 : Int32) l2) fun _ s2 =>
mo_behindTen_212 s2) else (mo_behindTen_107 s1 l1 l2 l3))
def mo_behindTen (σ : MS) (a1 : Int32) : Option (Int32 × MS) :=
nm ((a1 >>> ((4 : Int32) &&& 31)) &&& (3 : Int32)) fun v1 =>
nm (a1 &&& (15 : Int32)) fun v2 =>
bd (mo_in σ a1 (33 : Int32) (47 : Int32)) fun v3 s1 =>
if v3 = 0 then (if a1 = (63 : Int32) then (bd (mo_trap s1 (65524 : Int32) (0 : Int32)) fun _ s5 =>
mo_behindTen_212 s5) else (bd (mo_in s1 a1 (128 : Int32) (191 : Int32)) fun v4 s2 =>
if v4 = 0 then (mo_behindTen_78 s2 a1 v1 v2) else (if v2 = (3 : Int32) then (bd (mo_d s2) fun v5 s3 =>
bd (mo_compare s3 v5 (-1 : Int32) v1) fun _ s4 =>
mo_behindTen_212 s4) else (mo_behindTen_78 s2 a1 v1 v2)))) else (bd (mo_branch s1 v2 (1 : Int32)) fun _ s6 =>
mo_behindTen_212 s6)
set_option maxHeartbeats 4000000 in
set_option maxRecDepth 100000 in
theorem b_mo_behindTen_212 {X : Cx} (G : Gd X bc_mo_behindTen 4 R_mod none (rmm 7 155)) (σ : MS) : J wdM X (QV wdM X) 4 212 [(0, .ref (eO (xE X) 0))] [] σ (mo_behindTen_212 σ ) := by
  unfold mo_behindTen_212
  exact j_vret G d_mo_behindTen_212
set_option maxHeartbeats 4000000 in
set_option maxRecDepth 100000 in
theorem b_mo_behindTen_207 {X : Cx} (G : Gd X bc_mo_behindTen 4 R_mod none (rmm 7 155)) (σ : MS) : J wdM X (QV wdM X) 4 207 [(0, .ref (eO (xE X) 0))] [] σ (mo_behindTen_207 σ ) := by
  unfold mo_behindTen_207
  refine j_aload_n 0 G d_mo_behindTen_207 rfl rfl ?_
  refine j_iconst G d_mo_behindTen_208 ci_1 ?_
  refine pc_mo_undefined (by decide) G d_mo_behindTen_209 ?_
  refine j_ns (fun s1 => ?_)
  exact b_mo_behindTen_212 G s1
set_option maxHeartbeats 4000000 in
set_option maxRecDepth 100000 in
theorem b_mo_behindTen_185 {X : Cx} (G : Gd X bc_mo_behindTen 4 R_mod none (rmm 7 155)) (σ : MS) (l1 l2 l3 : Int32) : J wdM X (QV wdM X) 4 185 [(0, .ref (eO (xE X) 0)), (1, .int l1), (2, .int l2), (3, .int l3)] [] σ (mo_behindTen_185 σ l1 l2 l3) := by
  unfold mo_behindTen_185
  refine j_iload_n 1 G d_mo_behindTen_185 rfl rfl ?_
  refine j_sipush G d_mo_behindTen_186 cs_192 ?_
  refine j_iclt G d_mo_behindTen_189 (tgt := 207) rfl ?_ ?_
  · refine j_sub [0] (L1 := [(0, .ref (eO (xE X) 0))]) rfl ?_
    exact b_mo_behindTen_207 G σ
  · refine j_iload_n 3 G d_mo_behindTen_192 rfl rfl ?_
    refine j_bipush G d_mo_behindTen_193 cb_15 ?_
    refine j_icne G d_mo_behindTen_195 (tgt := 207) rfl ?_ ?_
    · refine j_sub [0] (L1 := [(0, .ref (eO (xE X) 0))]) rfl ?_
      exact b_mo_behindTen_207 G σ
    · refine j_aload_n 0 G d_mo_behindTen_198 rfl rfl ?_
      refine j_iconst G d_mo_behindTen_199 ci_5 ?_
      refine j_iload_n 2 G d_mo_behindTen_200 rfl rfl ?_
      refine j_Vv2 G k_mo_storeWord mw_mo_storeWord lk_mo_mo_storeWord rc_mod d_mo_behindTen_201 rfl (Nat.le_of_ble_eq_true rfl) (fun _ s1 => ?_)
      refine j_goto G d_mo_behindTen_204 (tgt := 212) rfl ?_
      refine j_sub [0] (L1 := [(0, .ref (eO (xE X) 0))]) rfl ?_
      exact b_mo_behindTen_212 G s1
set_option maxHeartbeats 4000000 in
set_option maxRecDepth 100000 in
theorem b_mo_behindTen_163 {X : Cx} (G : Gd X bc_mo_behindTen 4 R_mod none (rmm 7 155)) (σ : MS) (l1 l2 l3 : Int32) : J wdM X (QV wdM X) 4 163 [(0, .ref (eO (xE X) 0)), (1, .int l1), (2, .int l2), (3, .int l3)] [] σ (mo_behindTen_163 σ l1 l2 l3) := by
  unfold mo_behindTen_163
  refine j_iload_n 1 G d_mo_behindTen_163 rfl rfl ?_
  refine j_sipush G d_mo_behindTen_164 cs_192 ?_
  refine j_iclt G d_mo_behindTen_167 (tgt := 185) rfl ?_ ?_
  · exact b_mo_behindTen_185 G σ l1 l2 l3
  · refine j_iload_n 3 G d_mo_behindTen_170 rfl rfl ?_
    refine j_bipush G d_mo_behindTen_171 cb_14 ?_
    refine j_icne G d_mo_behindTen_173 (tgt := 185) rfl ?_ ?_
    · exact b_mo_behindTen_185 G σ l1 l2 l3
    · refine j_aload_n 0 G d_mo_behindTen_176 rfl rfl ?_
      refine j_iconst G d_mo_behindTen_177 ci_5 ?_
      refine j_iload_n 2 G d_mo_behindTen_178 rfl rfl ?_
      refine j_Vv2 G k_mo_loadWord mw_mo_loadWord lk_mo_mo_loadWord rc_mod d_mo_behindTen_179 rfl (Nat.le_of_ble_eq_true rfl) (fun _ s1 => ?_)
      refine j_goto G d_mo_behindTen_182 (tgt := 212) rfl ?_
      refine j_sub [0] (L1 := [(0, .ref (eO (xE X) 0))]) rfl ?_
      exact b_mo_behindTen_212 G s1
set_option maxHeartbeats 4000000 in
set_option maxRecDepth 100000 in
theorem b_mo_behindTen_135 {X : Cx} (G : Gd X bc_mo_behindTen 4 R_mod none (rmm 7 155)) (σ : MS) (l1 l2 l3 : Int32) : J wdM X (QV wdM X) 4 135 [(0, .ref (eO (xE X) 0)), (1, .int l1), (2, .int l2), (3, .int l3)] [] σ (mo_behindTen_135 σ l1 l2 l3) := by
  unfold mo_behindTen_135
  refine j_iload_n 1 G d_mo_behindTen_135 rfl rfl ?_
  refine j_sipush G d_mo_behindTen_136 cs_128 ?_
  refine j_sipush G d_mo_behindTen_139 cs_191 ?_
  refine j_Si3 G k_mo_in mw_mo_in lk_mo_mo_in d_mo_behindTen_142 rfl (Nat.le_of_ble_eq_true rfl) (fun v1 s1 => ?_)
  refine j_ifeq G d_mo_behindTen_145 (tgt := 163) rfl ?_ ?_
  · exact b_mo_behindTen_163 G s1 l1 l2 l3
  · refine j_iload_n 3 G d_mo_behindTen_148 rfl rfl ?_
    refine j_bipush G d_mo_behindTen_149 cb_15 ?_
    refine j_icne G d_mo_behindTen_151 (tgt := 163) rfl ?_ ?_
    · exact b_mo_behindTen_163 G s1 l1 l2 l3
    · refine j_aload_n 0 G d_mo_behindTen_154 rfl rfl ?_
      refine j_iconst G d_mo_behindTen_155 ci_3 ?_
      refine j_iload_n 2 G d_mo_behindTen_156 rfl rfl ?_
      refine j_Vv2 G k_mo_storeWord mw_mo_storeWord lk_mo_mo_storeWord rc_mod d_mo_behindTen_157 rfl (Nat.le_of_ble_eq_true rfl) (fun _ s2 => ?_)
      refine j_goto G d_mo_behindTen_160 (tgt := 212) rfl ?_
      refine j_sub [0] (L1 := [(0, .ref (eO (xE X) 0))]) rfl ?_
      exact b_mo_behindTen_212 G s2
set_option maxHeartbeats 4000000 in
set_option maxRecDepth 100000 in
theorem b_mo_behindTen_107 {X : Cx} (G : Gd X bc_mo_behindTen 4 R_mod none (rmm 7 155)) (σ : MS) (l1 l2 l3 : Int32) : J wdM X (QV wdM X) 4 107 [(0, .ref (eO (xE X) 0)), (1, .int l1), (2, .int l2), (3, .int l3)] [] σ (mo_behindTen_107 σ l1 l2 l3) := by
  unfold mo_behindTen_107
  refine j_iload_n 1 G d_mo_behindTen_107 rfl rfl ?_
  refine j_sipush G d_mo_behindTen_108 cs_128 ?_
  refine j_sipush G d_mo_behindTen_111 cs_191 ?_
  refine j_Si3 G k_mo_in mw_mo_in lk_mo_mo_in d_mo_behindTen_114 rfl (Nat.le_of_ble_eq_true rfl) (fun v1 s1 => ?_)
  refine j_ifeq G d_mo_behindTen_117 (tgt := 135) rfl ?_ ?_
  · exact b_mo_behindTen_135 G s1 l1 l2 l3
  · refine j_iload_n 3 G d_mo_behindTen_120 rfl rfl ?_
    refine j_bipush G d_mo_behindTen_121 cb_14 ?_
    refine j_icne G d_mo_behindTen_123 (tgt := 135) rfl ?_ ?_
    · exact b_mo_behindTen_135 G s1 l1 l2 l3
    · refine j_aload_n 0 G d_mo_behindTen_126 rfl rfl ?_
      refine j_iconst G d_mo_behindTen_127 ci_3 ?_
      refine j_iload_n 2 G d_mo_behindTen_128 rfl rfl ?_
      refine j_Vv2 G k_mo_loadWord mw_mo_loadWord lk_mo_mo_loadWord rc_mod d_mo_behindTen_129 rfl (Nat.le_of_ble_eq_true rfl) (fun _ s2 => ?_)
      refine j_goto G d_mo_behindTen_132 (tgt := 212) rfl ?_
      refine j_sub [0] (L1 := [(0, .ref (eO (xE X) 0))]) rfl ?_
      exact b_mo_behindTen_212 G s2
set_option maxHeartbeats 4000000 in
set_option maxRecDepth 100000 in
theorem b_mo_behindTen_78 {X : Cx} (G : Gd X bc_mo_behindTen 4 R_mod none (rmm 7 155)) (σ : MS) (l1 l2 l3 : Int32) : J wdM X (QV wdM X) 4 78 [(0, .ref (eO (xE X) 0)), (1, .int l1), (2, .int l2), (3, .int l3)] [] σ (mo_behindTen_78 σ l1 l2 l3) := by
  unfold mo_behindTen_78
  refine j_iload_n 1 G d_mo_behindTen_78 rfl rfl ?_
  refine j_sipush G d_mo_behindTen_79 cs_128 ?_
  refine j_sipush G d_mo_behindTen_82 cs_191 ?_
  refine j_Si3 G k_mo_in mw_mo_in lk_mo_mo_in d_mo_behindTen_85 rfl (Nat.le_of_ble_eq_true rfl) (fun v1 s1 => ?_)
  refine j_ifeq G d_mo_behindTen_88 (tgt := 107) rfl ?_ ?_
  · exact b_mo_behindTen_107 G s1 l1 l2 l3
  · refine j_iload_n 3 G d_mo_behindTen_91 rfl rfl ?_
    refine j_bipush G d_mo_behindTen_92 cb_12 ?_
    refine j_icne G d_mo_behindTen_94 (tgt := 107) rfl ?_ ?_
    · exact b_mo_behindTen_107 G s1 l1 l2 l3
    · refine j_aload_n 0 G d_mo_behindTen_97 rfl rfl ?_
      refine j_iconst G d_mo_behindTen_98 ci_0 ?_
      refine j_iconst G d_mo_behindTen_99 ci_3 ?_
      refine j_iload_n 2 G d_mo_behindTen_100 rfl rfl ?_
      refine j_Vv3 G k_mo_compare mw_mo_compare lk_mo_mo_compare rc_mod d_mo_behindTen_101 rfl (Nat.le_of_ble_eq_true rfl) (fun _ s2 => ?_)
      refine j_goto G d_mo_behindTen_104 (tgt := 212) rfl ?_
      refine j_sub [0] (L1 := [(0, .ref (eO (xE X) 0))]) rfl ?_
      exact b_mo_behindTen_212 G s2
set_option maxHeartbeats 4000000 in
set_option maxRecDepth 100000 in
theorem b_mo_behindTen {X : Cx} (G : Gd X bc_mo_behindTen 4 R_mod none (rmm 7 155)) (σ : MS) (a1 : Int32) : J wdM X (QV wdM X) 4 0 [(0, .ref (eO (xE X) 0)), (1, .int a1)] [] σ (mo_behindTen σ a1) := by
  unfold mo_behindTen
  refine j_iload_n 1 G d_mo_behindTen_0 rfl rfl ?_
  refine j_iconst G d_mo_behindTen_1 ci_4 ?_
  refine j_ishr G d_mo_behindTen_2 ?_
  refine j_iconst G d_mo_behindTen_3 ci_3 ?_
  refine j_iand G d_mo_behindTen_4 ?_
  refine j_nm (fun v1 => ?_)
  refine j_istore_n [1, 2, 0] (L1 := [(0, .ref (eO (xE X) 0)), (1, .int a1), (2, .int v1)]) G d_mo_behindTen_5 rfl (by decide) rfl ?_
  refine j_iload_n 1 G d_mo_behindTen_6 rfl rfl ?_
  refine j_bipush G d_mo_behindTen_7 cb_15 ?_
  refine j_iand G d_mo_behindTen_9 ?_
  refine j_nm (fun v2 => ?_)
  refine j_istore_n [1, 2, 3, 0] (L1 := [(0, .ref (eO (xE X) 0)), (1, .int a1), (2, .int v1), (3, .int v2)]) G d_mo_behindTen_10 rfl (by decide) rfl ?_
  refine j_iload_n 1 G d_mo_behindTen_11 rfl rfl ?_
  refine j_bipush G d_mo_behindTen_12 cb_33 ?_
  refine j_bipush G d_mo_behindTen_14 cb_47 ?_
  refine j_Si3 G k_mo_in mw_mo_in lk_mo_mo_in d_mo_behindTen_16 rfl (Nat.le_of_ble_eq_true rfl) (fun v3 s1 => ?_)
  refine j_ifeq G d_mo_behindTen_19 (tgt := 31) rfl ?_ ?_
  · refine j_iload_n 1 G d_mo_behindTen_31 rfl rfl ?_
    refine j_bipush G d_mo_behindTen_32 cb_63 ?_
    refine j_icne G d_mo_behindTen_34 (tgt := 47) rfl ?_ ?_
    · refine j_iload_n 1 G d_mo_behindTen_47 rfl rfl ?_
      refine j_sipush G d_mo_behindTen_48 cs_128 ?_
      refine j_sipush G d_mo_behindTen_51 cs_191 ?_
      refine j_Si3 G k_mo_in mw_mo_in lk_mo_mo_in d_mo_behindTen_54 rfl (Nat.le_of_ble_eq_true rfl) (fun v4 s2 => ?_)
      refine j_ifeq G d_mo_behindTen_57 (tgt := 78) rfl ?_ ?_
      · exact b_mo_behindTen_78 G s2 a1 v1 v2
      · refine j_iload_n 3 G d_mo_behindTen_60 rfl rfl ?_
        refine j_iconst G d_mo_behindTen_61 ci_3 ?_
        refine j_icne G d_mo_behindTen_62 (tgt := 78) rfl ?_ ?_
        · exact b_mo_behindTen_78 G s2 a1 v1 v2
        · refine j_aload_n 0 G d_mo_behindTen_65 rfl rfl ?_
          refine j_aload_n 0 G d_mo_behindTen_66 rfl rfl ?_
          refine j_Vi0 G k_mo_d mw_mo_d lk_mo_mo_d rc_mod d_mo_behindTen_67 rfl (Nat.le_of_ble_eq_true rfl) (fun v5 s3 => ?_)
          refine j_iconst G d_mo_behindTen_70 ci_m1 ?_
          refine j_iload_n 2 G d_mo_behindTen_71 rfl rfl ?_
          refine j_Vv3 G k_mo_compare mw_mo_compare lk_mo_mo_compare rc_mod d_mo_behindTen_72 rfl (Nat.le_of_ble_eq_true rfl) (fun _ s4 => ?_)
          refine j_goto G d_mo_behindTen_75 (tgt := 212) rfl ?_
          refine j_sub [0] (L1 := [(0, .ref (eO (xE X) 0))]) rfl ?_
          exact b_mo_behindTen_212 G s4
    · refine j_aload_n 0 G d_mo_behindTen_37 rfl rfl ?_
      refine j_ldc G d_mo_behindTen_38 kc_mo_194 ?_
      refine j_iconst G d_mo_behindTen_40 ci_0 ?_
      refine j_Vv2 G k_mo_trap mw_mo_trap lk_mo_mo_trap rc_mod d_mo_behindTen_41 rfl (Nat.le_of_ble_eq_true rfl) (fun _ s5 => ?_)
      refine j_goto G d_mo_behindTen_44 (tgt := 212) rfl ?_
      refine j_sub [0] (L1 := [(0, .ref (eO (xE X) 0))]) rfl ?_
      exact b_mo_behindTen_212 G s5
  · refine j_aload_n 0 G d_mo_behindTen_22 rfl rfl ?_
    refine j_iload_n 3 G d_mo_behindTen_23 rfl rfl ?_
    refine j_iconst G d_mo_behindTen_24 ci_1 ?_
    refine j_Vv2 G k_mo_branch mw_mo_branch lk_mo_mo_branch rc_mod d_mo_behindTen_25 rfl (Nat.le_of_ble_eq_true rfl) (fun _ s6 => ?_)
    refine j_goto G d_mo_behindTen_28 (tgt := 212) rfl ?_
    refine j_sub [0] (L1 := [(0, .ref (eO (xE X) 0))]) rfl ?_
    exact b_mo_behindTen_212 G s6
set_option maxHeartbeats 4000000 in
set_option maxRecDepth 100000 in
theorem k_mo_behindTen {l : Launch} {E : Ev} {σ : MS} {a1 : Int32} : CtV wdM l E y_mo_behindTen bc_mo_behindTen 4 none (rmm 7 155) [.ref (eO E 0), .int a1] σ (mo_behindTen σ a1) := ct_v (by decide) (Nat.le_of_ble_eq_true rfl) (fun X hE _ G => by subst hE; exact b_mo_behindTen G σ a1)
def mo_behindEleven_75 (σ : MS) : Option (Int32 × MS) :=
some ((0 : Int32), σ)
def mo_behindEleven_63 (σ : MS) (l2 t0 t1 : Int32) : Option (Int32 × MS) :=
bd (mo_compare σ t1 t0 l2) fun _ s1 =>
mo_behindEleven_75 s1
def mo_behindEleven_51 (σ : MS) (l2 l3 : Int32) : Option (Int32 × MS) :=
if l3 = (3 : Int32) then (mo_behindEleven_63 σ l2 (4 : Int32) (0 : Int32)) else (mo_behindEleven_63 σ l2 (5 : Int32) (0 : Int32))
def mo_behindEleven_70 (σ : MS) : Option (Int32 × MS) :=
ns (my_und σ (1 : Int32)) fun s1 =>
mo_behindEleven_75 s1
def mo_behindEleven (σ : MS) (a1 : Int32) : Option (Int32 × MS) :=
nm ((a1 >>> ((4 : Int32) &&& 31)) &&& (3 : Int32)) fun v1 =>
nm (a1 &&& (15 : Int32)) fun v2 =>
if a1 = (63 : Int32) then (bd (mo_trap σ (65522 : Int32) (0 : Int32)) fun _ s2 =>
mo_behindEleven_75 s2) else (bd (mo_in σ a1 (128 : Int32) (191 : Int32)) fun v3 s1 =>
if v3 = 0 then (mo_behindEleven_70 s1) else (if v2 = (3 : Int32) then (mo_behindEleven_51 s1 v1 v2) else (if v2 = (12 : Int32) then (mo_behindEleven_51 s1 v1 v2) else (mo_behindEleven_70 s1))))
set_option maxHeartbeats 4000000 in
set_option maxRecDepth 100000 in
theorem b_mo_behindEleven_75 {X : Cx} (G : Gd X bc_mo_behindEleven 4 R_mod none (rmm 7 155)) (σ : MS) : J wdM X (QV wdM X) 4 75 [(0, .ref (eO (xE X) 0))] [] σ (mo_behindEleven_75 σ ) := by
  unfold mo_behindEleven_75
  exact j_vret G d_mo_behindEleven_75
set_option maxHeartbeats 4000000 in
set_option maxRecDepth 100000 in
theorem b_mo_behindEleven_63 {X : Cx} (G : Gd X bc_mo_behindEleven 4 R_mod none (rmm 7 155)) (σ : MS) (l2 t0 t1 : Int32) : J wdM X (QV wdM X) 4 63 [(0, .ref (eO (xE X) 0)), (2, .int l2)] [.int t0, .int t1, .ref (eO (xE X) 0)] σ (mo_behindEleven_63 σ l2 t0 t1) := by
  unfold mo_behindEleven_63
  refine j_iload_n 1 G d_mo_behindEleven_63 rfl rfl ?_
  refine j_Vv3 G k_mo_compare mw_mo_compare lk_mo_mo_compare rc_mod d_mo_behindEleven_64 rfl (Nat.le_of_ble_eq_true rfl) (fun _ s1 => ?_)
  refine j_goto G d_mo_behindEleven_67 (tgt := 75) rfl ?_
  refine j_sub [0] (L1 := [(0, .ref (eO (xE X) 0))]) rfl ?_
  exact b_mo_behindEleven_75 G s1
set_option maxHeartbeats 4000000 in
set_option maxRecDepth 100000 in
theorem b_mo_behindEleven_51 {X : Cx} (G : Gd X bc_mo_behindEleven 4 R_mod none (rmm 7 155)) (σ : MS) (l2 l3 : Int32) : J wdM X (QV wdM X) 4 51 [(0, .ref (eO (xE X) 0)), (2, .int l2), (3, .int l3)] [] σ (mo_behindEleven_51 σ l2 l3) := by
  unfold mo_behindEleven_51
  refine j_aload_n 0 G d_mo_behindEleven_51 rfl rfl ?_
  refine j_iconst G d_mo_behindEleven_52 ci_0 ?_
  refine j_iload_n 2 G d_mo_behindEleven_53 rfl rfl ?_
  refine j_iconst G d_mo_behindEleven_54 ci_3 ?_
  refine j_icne G d_mo_behindEleven_55 (tgt := 62) rfl ?_ ?_
  · refine j_iconst G d_mo_behindEleven_62 ci_5 ?_
    refine j_sub [0, 1] (L1 := [(0, .ref (eO (xE X) 0)), (2, .int l2)]) rfl ?_
    exact b_mo_behindEleven_63 G σ l2 (5 : Int32) (0 : Int32)
  · refine j_iconst G d_mo_behindEleven_58 ci_4 ?_
    refine j_goto G d_mo_behindEleven_59 (tgt := 63) rfl ?_
    refine j_sub [0, 1] (L1 := [(0, .ref (eO (xE X) 0)), (2, .int l2)]) rfl ?_
    exact b_mo_behindEleven_63 G σ l2 (4 : Int32) (0 : Int32)
set_option maxHeartbeats 4000000 in
set_option maxRecDepth 100000 in
theorem b_mo_behindEleven_70 {X : Cx} (G : Gd X bc_mo_behindEleven 4 R_mod none (rmm 7 155)) (σ : MS) : J wdM X (QV wdM X) 4 70 [(0, .ref (eO (xE X) 0))] [] σ (mo_behindEleven_70 σ ) := by
  unfold mo_behindEleven_70
  refine j_aload_n 0 G d_mo_behindEleven_70 rfl rfl ?_
  refine j_iconst G d_mo_behindEleven_71 ci_1 ?_
  refine pc_mo_undefined (by decide) G d_mo_behindEleven_72 ?_
  refine j_ns (fun s1 => ?_)
  exact b_mo_behindEleven_75 G s1
set_option maxHeartbeats 4000000 in
set_option maxRecDepth 100000 in
theorem b_mo_behindEleven {X : Cx} (G : Gd X bc_mo_behindEleven 4 R_mod none (rmm 7 155)) (σ : MS) (a1 : Int32) : J wdM X (QV wdM X) 4 0 [(0, .ref (eO (xE X) 0)), (1, .int a1)] [] σ (mo_behindEleven σ a1) := by
  unfold mo_behindEleven
  refine j_iload_n 1 G d_mo_behindEleven_0 rfl rfl ?_
  refine j_iconst G d_mo_behindEleven_1 ci_4 ?_
  refine j_ishr G d_mo_behindEleven_2 ?_
  refine j_iconst G d_mo_behindEleven_3 ci_3 ?_
  refine j_iand G d_mo_behindEleven_4 ?_
  refine j_nm (fun v1 => ?_)
  refine j_istore_n [1, 2, 0] (L1 := [(0, .ref (eO (xE X) 0)), (1, .int a1), (2, .int v1)]) G d_mo_behindEleven_5 rfl (by decide) rfl ?_
  refine j_iload_n 1 G d_mo_behindEleven_6 rfl rfl ?_
  refine j_bipush G d_mo_behindEleven_7 cb_15 ?_
  refine j_iand G d_mo_behindEleven_9 ?_
  refine j_nm (fun v2 => ?_)
  refine j_istore_n [1, 2, 3, 0] (L1 := [(0, .ref (eO (xE X) 0)), (1, .int a1), (2, .int v1), (3, .int v2)]) G d_mo_behindEleven_10 rfl (by decide) rfl ?_
  refine j_iload_n 1 G d_mo_behindEleven_11 rfl rfl ?_
  refine j_bipush G d_mo_behindEleven_12 cb_63 ?_
  refine j_icne G d_mo_behindEleven_14 (tgt := 27) rfl ?_ ?_
  · refine j_iload_n 1 G d_mo_behindEleven_27 rfl rfl ?_
    refine j_sipush G d_mo_behindEleven_28 cs_128 ?_
    refine j_sipush G d_mo_behindEleven_31 cs_191 ?_
    refine j_Si3 G k_mo_in mw_mo_in lk_mo_mo_in d_mo_behindEleven_34 rfl (Nat.le_of_ble_eq_true rfl) (fun v3 s1 => ?_)
    refine j_ifeq G d_mo_behindEleven_37 (tgt := 70) rfl ?_ ?_
    · refine j_sub [0] (L1 := [(0, .ref (eO (xE X) 0))]) rfl ?_
      exact b_mo_behindEleven_70 G s1
    · refine j_iload_n 3 G d_mo_behindEleven_40 rfl rfl ?_
      refine j_iconst G d_mo_behindEleven_41 ci_3 ?_
      refine j_iceq G d_mo_behindEleven_42 (tgt := 51) rfl ?_ ?_
      · refine j_sub [0, 2, 3] (L1 := [(0, .ref (eO (xE X) 0)), (2, .int v1), (3, .int v2)]) rfl ?_
        exact b_mo_behindEleven_51 G s1 v1 v2
      · refine j_iload_n 3 G d_mo_behindEleven_45 rfl rfl ?_
        refine j_bipush G d_mo_behindEleven_46 cb_12 ?_
        refine j_icne G d_mo_behindEleven_48 (tgt := 70) rfl ?_ ?_
        · refine j_sub [0] (L1 := [(0, .ref (eO (xE X) 0))]) rfl ?_
          exact b_mo_behindEleven_70 G s1
        · refine j_sub [0, 2, 3] (L1 := [(0, .ref (eO (xE X) 0)), (2, .int v1), (3, .int v2)]) rfl ?_
          exact b_mo_behindEleven_51 G s1 v1 v2
  · refine j_aload_n 0 G d_mo_behindEleven_17 rfl rfl ?_
    refine j_ldc G d_mo_behindEleven_18 kc_mo_195 ?_
    refine j_iconst G d_mo_behindEleven_20 ci_0 ?_
    refine j_Vv2 G k_mo_trap mw_mo_trap lk_mo_mo_trap rc_mod d_mo_behindEleven_21 rfl (Nat.le_of_ble_eq_true rfl) (fun _ s2 => ?_)
    refine j_goto G d_mo_behindEleven_24 (tgt := 75) rfl ?_
    refine j_sub [0] (L1 := [(0, .ref (eO (xE X) 0))]) rfl ?_
    exact b_mo_behindEleven_75 G s2
set_option maxHeartbeats 4000000 in
set_option maxRecDepth 100000 in
theorem k_mo_behindEleven {l : Launch} {E : Ev} {σ : MS} {a1 : Int32} : CtV wdM l E y_mo_behindEleven bc_mo_behindEleven 4 none (rmm 7 155) [.ref (eO E 0), .int a1] σ (mo_behindEleven σ a1) := ct_v (by decide) (Nat.le_of_ble_eq_true rfl) (fun X hE _ G => by subst hE; exact b_mo_behindEleven G σ a1)
def mo_instruct_178 (σ : MS) (t0 : Int32) : Option (Int32 × MS) :=
gd (isB t0) (some (t0, σ))
def mo_instruct_166 (σ : MS) : Option (Int32 × MS) :=
if (mx_und σ) = 0 then (mo_instruct_178 σ (1 : Int32)) else (mo_instruct_178 σ (0 : Int32))
def mo_instruct_135 : Nat → MS → Int32 → Option (Int32 × MS)
  | 0, _, _ => none
  | fu + 1, σ, l2 =>
    if (9 : Int32) ≤ l2 then (mo_instruct_166 σ) else (if (mx_und σ) = 0 then (mo_instruct_166 σ) else (gd (okI l2 9) (
    nm (mx_bef σ l2.toNatClampNeg) fun v1 =>
    gd (okI l2 9) (
    ns (my_reg σ (upd (mx_reg σ) l2.toNatClampNeg v1)) fun s1 =>
    mo_instruct_135 fu s1 (l2 + Int32.ofInt 1)))))
def mo_instruct_133 (σ : MS) : Option (Int32 × MS) :=
mo_instruct_135 11 σ (0 : Int32)
def mo_instruct_97 (σ : MS) (l1 : Int32) : Option (Int32 × MS) :=
bd (mo_oneByte σ l1) fun _ s1 =>
mo_instruct_133 s1
def mo_instruct_2 : Nat → MS → Int32 → Option (Int32 × MS)
  | 0, _, _ => none
  | fu + 1, σ, l1 =>
    if (9 : Int32) ≤ l1 then (ns (my_und σ (0 : Int32)) fun s1 =>
    bd (mo_next s1) fun v1 s2 =>
    if v1 = (16 : Int32) then (bd (mo_next s2) fun v4 s9 =>
    bd (mo_behindTen s9 v4) fun _ s10 =>
    mo_instruct_133 s10) else (if v1 = (17 : Int32) then (bd (mo_next s2) fun v3 s7 =>
    bd (mo_behindEleven s7 v3) fun _ s8 =>
    mo_instruct_133 s8) else (if v1 < (128 : Int32) then (if v1 < (16 : Int32) then (mo_instruct_97 s2 v1) else (if v1 < (64 : Int32) then (bd (mo_in s2 v1 (32 : Int32) (47 : Int32)) fun v2 s3 =>
    if v2 = 0 then (bd (mo_middle s3 v1) fun _ s4 =>
    mo_instruct_133 s4) else (bd (mo_branch s3 (v1 &&& (15 : Int32)) (0 : Int32)) fun _ s5 =>
    mo_instruct_133 s5)) else (mo_instruct_97 s2 v1))) else (bd (mo_upper s2 v1) fun _ s6 =>
    mo_instruct_133 s6)))) else (gd (okI l1 9) (
    nm (mx_reg σ l1.toNatClampNeg) fun v5 =>
    gd (okI l1 9) (
    ns (my_bef σ (upd (mx_bef σ) l1.toNatClampNeg v5)) fun s11 =>
    mo_instruct_2 fu s11 (l1 + Int32.ofInt 1))))
def mo_instruct (σ : MS) : Option (Int32 × MS) :=
mo_instruct_2 11 σ (0 : Int32)
set_option maxHeartbeats 4000000 in
set_option maxRecDepth 100000 in
theorem b_mo_instruct_178 {X : Cx} (G : Gd X bc_mo_instruct 3 R_mod (some .boolean) (rmm 8 182)) (σ : MS) (t0 : Int32) : J wdM X (QI wdM X) 3 178 [(0, .ref (eO (xE X) 0))] [.int t0] σ (mo_instruct_178 σ t0) := by
  unfold mo_instruct_178
  exact j_zret G d_mo_instruct_178
set_option maxHeartbeats 4000000 in
set_option maxRecDepth 100000 in
theorem b_mo_instruct_166 {X : Cx} (G : Gd X bc_mo_instruct 3 R_mod (some .boolean) (rmm 8 182)) (σ : MS) : J wdM X (QI wdM X) 3 166 [(0, .ref (eO (xE X) 0))] [] σ (mo_instruct_166 σ ) := by
  unfold mo_instruct_166
  refine j_aload_n 0 G d_mo_instruct_166 rfl rfl ?_
  refine g_mo_undefined G d_mo_instruct_167 ?_
  refine j_ifne G d_mo_instruct_170 (tgt := 177) rfl ?_ ?_
  · refine j_iconst G d_mo_instruct_177 ci_0 ?_
    exact b_mo_instruct_178 G σ (0 : Int32)
  · refine j_iconst G d_mo_instruct_173 ci_1 ?_
    refine j_goto G d_mo_instruct_174 (tgt := 178) rfl ?_
    exact b_mo_instruct_178 G σ (1 : Int32)
set_option maxHeartbeats 4000000 in
set_option maxRecDepth 100000 in
theorem b_mo_instruct_135 {X : Cx} (G : Gd X bc_mo_instruct 3 R_mod (some .boolean) (rmm 8 182)) : ∀ (fu : Nat) (σ : MS) (l2 : Int32), J wdM X (QI wdM X) 3 135 [(0, .ref (eO (xE X) 0)), (2, .int l2)] [] σ (mo_instruct_135 fu σ l2) := by
  intro fu
  induction fu with
  | zero => intro σ l2 o ho; cases ho
  | succ fu ih =>
    intro σ l2
    unfold mo_instruct_135
    refine j_iload_n 1 G d_mo_instruct_135 rfl rfl ?_
    refine j_bipush G d_mo_instruct_136 cb_9 ?_
    refine j_icge G d_mo_instruct_138 (tgt := 166) rfl ?_ ?_
    · refine j_sub [0] (L1 := [(0, .ref (eO (xE X) 0))]) rfl ?_
      exact b_mo_instruct_166 G σ
    · refine j_aload_n 0 G d_mo_instruct_141 rfl rfl ?_
      refine g_mo_undefined G d_mo_instruct_142 ?_
      refine j_ifeq G d_mo_instruct_145 (tgt := 166) rfl ?_ ?_
      · refine j_sub [0] (L1 := [(0, .ref (eO (xE X) 0))]) rfl ?_
        exact b_mo_instruct_166 G σ
      · refine j_aload_n 0 G d_mo_instruct_148 rfl rfl ?_
        refine g_mo_r G d_mo_instruct_149 ?_
        refine j_iload_n 1 G d_mo_instruct_152 rfl rfl ?_
        refine j_aload_n 0 G d_mo_instruct_153 rfl rfl ?_
        refine g_mo_before G d_mo_instruct_154 ?_
        refine j_iload_n 1 G d_mo_instruct_157 rfl rfl ?_
        refine al_Mbef G d_mo_instruct_158 ?_
        refine j_nm (fun v1 => ?_)
        refine as_Mreg G d_mo_instruct_159 ?_
        refine j_ns (fun s1 => ?_)
        refine j_iinc 1 [1, 0] (L1 := [(0, .ref (eO (xE X) 0)), (2, .int (l2 + Int32.ofInt 1))]) G d_mo_instruct_160 rfl rfl (by decide) rfl ?_
        refine j_goto G d_mo_instruct_163 (tgt := 135) rfl ?_
        exact ih s1 (l2 + Int32.ofInt 1)
set_option maxHeartbeats 4000000 in
set_option maxRecDepth 100000 in
theorem b_mo_instruct_133 {X : Cx} (G : Gd X bc_mo_instruct 3 R_mod (some .boolean) (rmm 8 182)) (σ : MS) : J wdM X (QI wdM X) 3 133 [(0, .ref (eO (xE X) 0))] [] σ (mo_instruct_133 σ ) := by
  unfold mo_instruct_133
  refine j_iconst G d_mo_instruct_133 ci_0 ?_
  refine j_istore_n [1, 0] (L1 := [(0, .ref (eO (xE X) 0)), (2, .int (0 : Int32))]) G d_mo_instruct_134 rfl (by decide) rfl ?_
  exact b_mo_instruct_135 G 11 σ (0 : Int32)
set_option maxHeartbeats 4000000 in
set_option maxRecDepth 100000 in
theorem b_mo_instruct_97 {X : Cx} (G : Gd X bc_mo_instruct 3 R_mod (some .boolean) (rmm 8 182)) (σ : MS) (l1 : Int32) : J wdM X (QI wdM X) 3 97 [(0, .ref (eO (xE X) 0)), (1, .int l1)] [] σ (mo_instruct_97 σ l1) := by
  unfold mo_instruct_97
  refine j_aload_n 0 G d_mo_instruct_97 rfl rfl ?_
  refine j_iload_n 1 G d_mo_instruct_98 rfl rfl ?_
  refine j_Vv1 G k_mo_oneByte mw_mo_oneByte lk_mo_mo_oneByte rc_mod d_mo_instruct_99 rfl (Nat.le_of_ble_eq_true rfl) (fun _ s1 => ?_)
  refine j_goto G d_mo_instruct_102 (tgt := 133) rfl ?_
  refine j_sub [0] (L1 := [(0, .ref (eO (xE X) 0))]) rfl ?_
  exact b_mo_instruct_133 G s1
set_option maxHeartbeats 4000000 in
set_option maxRecDepth 100000 in
theorem b_mo_instruct_2 {X : Cx} (G : Gd X bc_mo_instruct 3 R_mod (some .boolean) (rmm 8 182)) : ∀ (fu : Nat) (σ : MS) (l1 : Int32), J wdM X (QI wdM X) 3 2 [(0, .ref (eO (xE X) 0)), (1, .int l1)] [] σ (mo_instruct_2 fu σ l1) := by
  intro fu
  induction fu with
  | zero => intro σ l1 o ho; cases ho
  | succ fu ih =>
    intro σ l1
    unfold mo_instruct_2
    refine j_iload_n 1 G d_mo_instruct_2 rfl rfl ?_
    refine j_bipush G d_mo_instruct_3 cb_9 ?_
    refine j_icge G d_mo_instruct_5 (tgt := 26) rfl ?_ ?_
    · refine j_aload_n 0 G d_mo_instruct_26 rfl rfl ?_
      refine j_iconst G d_mo_instruct_27 ci_0 ?_
      refine pc_mo_undefined (by decide) G d_mo_instruct_28 ?_
      refine j_ns (fun s1 => ?_)
      refine j_aload_n 0 G d_mo_instruct_31 rfl rfl ?_
      refine j_Vi0 G k_mo_next mw_mo_next lk_mo_mo_next rc_mod d_mo_instruct_32 rfl (Nat.le_of_ble_eq_true rfl) (fun v1 s2 => ?_)
      refine j_istore_n [1, 0] (L1 := [(0, .ref (eO (xE X) 0)), (1, .int v1)]) G d_mo_instruct_35 rfl (by decide) rfl ?_
      refine j_iload_n 1 G d_mo_instruct_36 rfl rfl ?_
      refine j_bipush G d_mo_instruct_37 cb_16 ?_
      refine j_icne G d_mo_instruct_39 (tgt := 53) rfl ?_ ?_
      · refine j_iload_n 1 G d_mo_instruct_53 rfl rfl ?_
        refine j_bipush G d_mo_instruct_54 cb_17 ?_
        refine j_icne G d_mo_instruct_56 (tgt := 70) rfl ?_ ?_
        · refine j_iload_n 1 G d_mo_instruct_70 rfl rfl ?_
          refine j_sipush G d_mo_instruct_71 cs_128 ?_
          refine j_iclt G d_mo_instruct_74 (tgt := 85) rfl ?_ ?_
          · refine j_iload_n 1 G d_mo_instruct_85 rfl rfl ?_
            refine j_bipush G d_mo_instruct_86 cb_16 ?_
            refine j_iclt G d_mo_instruct_88 (tgt := 97) rfl ?_ ?_
            · exact b_mo_instruct_97 G s2 v1
            · refine j_iload_n 1 G d_mo_instruct_91 rfl rfl ?_
              refine j_bipush G d_mo_instruct_92 cb_64 ?_
              refine j_iclt G d_mo_instruct_94 (tgt := 105) rfl ?_ ?_
              · refine j_iload_n 1 G d_mo_instruct_105 rfl rfl ?_
                refine j_bipush G d_mo_instruct_106 cb_32 ?_
                refine j_bipush G d_mo_instruct_108 cb_47 ?_
                refine j_Si3 G k_mo_in mw_mo_in lk_mo_mo_in d_mo_instruct_110 rfl (Nat.le_of_ble_eq_true rfl) (fun v2 s3 => ?_)
                refine j_ifeq G d_mo_instruct_113 (tgt := 128) rfl ?_ ?_
                · refine j_aload_n 0 G d_mo_instruct_128 rfl rfl ?_
                  refine j_iload_n 1 G d_mo_instruct_129 rfl rfl ?_
                  refine j_Vv1 G k_mo_middle mw_mo_middle lk_mo_mo_middle rc_mod d_mo_instruct_130 rfl (Nat.le_of_ble_eq_true rfl) (fun _ s4 => ?_)
                  refine j_sub [0] (L1 := [(0, .ref (eO (xE X) 0))]) rfl ?_
                  exact b_mo_instruct_133 G s4
                · refine j_aload_n 0 G d_mo_instruct_116 rfl rfl ?_
                  refine j_iload_n 1 G d_mo_instruct_117 rfl rfl ?_
                  refine j_bipush G d_mo_instruct_118 cb_15 ?_
                  refine j_iand G d_mo_instruct_120 ?_
                  refine j_iconst G d_mo_instruct_121 ci_0 ?_
                  refine j_Vv2 G k_mo_branch mw_mo_branch lk_mo_mo_branch rc_mod d_mo_instruct_122 rfl (Nat.le_of_ble_eq_true rfl) (fun _ s5 => ?_)
                  refine j_goto G d_mo_instruct_125 (tgt := 133) rfl ?_
                  refine j_sub [0] (L1 := [(0, .ref (eO (xE X) 0))]) rfl ?_
                  exact b_mo_instruct_133 G s5
              · exact b_mo_instruct_97 G s2 v1
          · refine j_aload_n 0 G d_mo_instruct_77 rfl rfl ?_
            refine j_iload_n 1 G d_mo_instruct_78 rfl rfl ?_
            refine j_Vv1 G k_mo_upper mw_mo_upper lk_mo_mo_upper rc_mod d_mo_instruct_79 rfl (Nat.le_of_ble_eq_true rfl) (fun _ s6 => ?_)
            refine j_goto G d_mo_instruct_82 (tgt := 133) rfl ?_
            refine j_sub [0] (L1 := [(0, .ref (eO (xE X) 0))]) rfl ?_
            exact b_mo_instruct_133 G s6
        · refine j_aload_n 0 G d_mo_instruct_59 rfl rfl ?_
          refine j_aload_n 0 G d_mo_instruct_60 rfl rfl ?_
          refine j_Vi0 G k_mo_next mw_mo_next lk_mo_mo_next rc_mod d_mo_instruct_61 rfl (Nat.le_of_ble_eq_true rfl) (fun v3 s7 => ?_)
          refine j_Vv1 G k_mo_behindEleven mw_mo_behindEleven lk_mo_mo_behindEleven rc_mod d_mo_instruct_64 rfl (Nat.le_of_ble_eq_true rfl) (fun _ s8 => ?_)
          refine j_goto G d_mo_instruct_67 (tgt := 133) rfl ?_
          refine j_sub [0] (L1 := [(0, .ref (eO (xE X) 0))]) rfl ?_
          exact b_mo_instruct_133 G s8
      · refine j_aload_n 0 G d_mo_instruct_42 rfl rfl ?_
        refine j_aload_n 0 G d_mo_instruct_43 rfl rfl ?_
        refine j_Vi0 G k_mo_next mw_mo_next lk_mo_mo_next rc_mod d_mo_instruct_44 rfl (Nat.le_of_ble_eq_true rfl) (fun v4 s9 => ?_)
        refine j_Vv1 G k_mo_behindTen mw_mo_behindTen lk_mo_mo_behindTen rc_mod d_mo_instruct_47 rfl (Nat.le_of_ble_eq_true rfl) (fun _ s10 => ?_)
        refine j_goto G d_mo_instruct_50 (tgt := 133) rfl ?_
        refine j_sub [0] (L1 := [(0, .ref (eO (xE X) 0))]) rfl ?_
        exact b_mo_instruct_133 G s10
    · refine j_aload_n 0 G d_mo_instruct_8 rfl rfl ?_
      refine g_mo_before G d_mo_instruct_9 ?_
      refine j_iload_n 1 G d_mo_instruct_12 rfl rfl ?_
      refine j_aload_n 0 G d_mo_instruct_13 rfl rfl ?_
      refine g_mo_r G d_mo_instruct_14 ?_
      refine j_iload_n 1 G d_mo_instruct_17 rfl rfl ?_
      refine al_Mreg G d_mo_instruct_18 ?_
      refine j_nm (fun v5 => ?_)
      refine as_Mbef G d_mo_instruct_19 ?_
      refine j_ns (fun s11 => ?_)
      refine j_iinc 1 [1, 0] (L1 := [(0, .ref (eO (xE X) 0)), (1, .int (l1 + Int32.ofInt 1))]) G d_mo_instruct_20 rfl rfl (by decide) rfl ?_
      refine j_goto G d_mo_instruct_23 (tgt := 2) rfl ?_
      exact ih s11 (l1 + Int32.ofInt 1)
set_option maxHeartbeats 4000000 in
set_option maxRecDepth 100000 in
theorem b_mo_instruct {X : Cx} (G : Gd X bc_mo_instruct 3 R_mod (some .boolean) (rmm 8 182)) (σ : MS) : J wdM X (QI wdM X) 3 0 [(0, .ref (eO (xE X) 0))] [] σ (mo_instruct σ ) := by
  unfold mo_instruct
  refine j_iconst G d_mo_instruct_0 ci_0 ?_
  refine j_istore_n [1, 0] (L1 := [(0, .ref (eO (xE X) 0)), (1, .int (0 : Int32))]) G d_mo_instruct_1 rfl (by decide) rfl ?_
  exact b_mo_instruct_2 G 11 σ (0 : Int32)
set_option maxHeartbeats 4000000 in
set_option maxRecDepth 100000 in
theorem k_mo_instruct {l : Launch} {E : Ev} {σ : MS} : CtI wdM l E y_mo_instruct bc_mo_instruct 3 (some .boolean) (rmm 8 182) [.ref (eO E 0)] σ (mo_instruct σ ) := ct_i (by decide) (Nat.le_of_ble_eq_true rfl) (fun X hE _ G => by subst hE; exact b_mo_instruct G σ )
