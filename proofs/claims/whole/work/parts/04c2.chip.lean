def tc_lineToServe_57 (σ : CS) : Option (Int32 × CS) :=
some ((-1 : Int32), σ)
def tc_lineToServe_33 (σ : CS) : Option (Int32 × CS) :=
if (cx_lev σ 2) = (1 : Int32) then (bd (re_has σ (16 : Int32)) fun v1 s1 =>
if v1 = 0 then (some ((2 : Int32), s1)) else (tc_lineToServe_57 s1)) else (tc_lineToServe_57 σ)
def tc_lineToServe (σ : CS) : Option (Int32 × CS) :=
if (cx_due σ) = 0 then (if (cx_lev σ 1) = (1 : Int32) then (bd (re_has σ (64 : Int32)) fun v1 s1 =>
if v1 = 0 then (some ((1 : Int32), s1)) else (tc_lineToServe_33 s1)) else (tc_lineToServe_33 σ)) else (some ((0 : Int32), σ))
set_option maxHeartbeats 4000000 in
set_option maxRecDepth 100000 in
theorem b_tc_lineToServe_57 {X : Cx} (G : Gd X bc_tc_lineToServe 1 R_chip (some .int) (rmm 1 21)) (σ : CS) : J wdC X (QI wdC X) 1 57 [(0, .ref (eO (xE X) 0))] [] σ (tc_lineToServe_57 σ ) := by
  unfold tc_lineToServe_57
  refine j_iconst G d_tc_lineToServe_57 ci_m1 ?_
  exact j_iret G d_tc_lineToServe_58
set_option maxHeartbeats 4000000 in
set_option maxRecDepth 100000 in
theorem b_tc_lineToServe_33 {X : Cx} (G : Gd X bc_tc_lineToServe 1 R_chip (some .int) (rmm 1 21)) (σ : CS) : J wdC X (QI wdC X) 1 33 [(0, .ref (eO (xE X) 0))] [] σ (tc_lineToServe_33 σ ) := by
  unfold tc_lineToServe_33
  refine j_aload_n 0 G d_tc_lineToServe_33 rfl rfl ?_
  refine g_tc_levels G d_tc_lineToServe_34 ?_
  refine j_iconst G d_tc_lineToServe_37 ci_2 ?_
  refine alc_Clev (j := 2) rfl rfl G d_tc_lineToServe_38 ?_
  refine j_iconst G d_tc_lineToServe_39 ci_1 ?_
  refine j_icne G d_tc_lineToServe_40 (tgt := 57) rfl ?_ ?_
  · exact b_tc_lineToServe_57 G σ
  · refine j_aload_n 0 G d_tc_lineToServe_43 rfl rfl ?_
    refine g_tc_registers G d_tc_lineToServe_44 ?_
    refine j_bipush G d_tc_lineToServe_47 cb_16 ?_
    refine j_Vi1 G k_re_has mw_re_has lk_tc_re_has rc_reg d_tc_lineToServe_49 rfl (Nat.le_of_ble_eq_true rfl) (fun v1 s1 => ?_)
    refine j_ifne G d_tc_lineToServe_52 (tgt := 57) rfl ?_ ?_
    · exact b_tc_lineToServe_57 G s1
    · refine j_iconst G d_tc_lineToServe_55 ci_2 ?_
      exact j_iret G d_tc_lineToServe_56
set_option maxHeartbeats 4000000 in
set_option maxRecDepth 100000 in
theorem b_tc_lineToServe {X : Cx} (G : Gd X bc_tc_lineToServe 1 R_chip (some .int) (rmm 1 21)) (σ : CS) : J wdC X (QI wdC X) 1 0 [(0, .ref (eO (xE X) 0))] [] σ (tc_lineToServe σ ) := by
  unfold tc_lineToServe
  refine j_aload_n 0 G d_tc_lineToServe_0 rfl rfl ?_
  refine g_tc_nmiDue G d_tc_lineToServe_1 ?_
  refine j_ifeq G d_tc_lineToServe_4 (tgt := 9) rfl ?_ ?_
  · refine j_aload_n 0 G d_tc_lineToServe_9 rfl rfl ?_
    refine g_tc_levels G d_tc_lineToServe_10 ?_
    refine j_iconst G d_tc_lineToServe_13 ci_1 ?_
    refine alc_Clev (j := 1) rfl rfl G d_tc_lineToServe_14 ?_
    refine j_iconst G d_tc_lineToServe_15 ci_1 ?_
    refine j_icne G d_tc_lineToServe_16 (tgt := 33) rfl ?_ ?_
    · exact b_tc_lineToServe_33 G σ
    · refine j_aload_n 0 G d_tc_lineToServe_19 rfl rfl ?_
      refine g_tc_registers G d_tc_lineToServe_20 ?_
      refine j_bipush G d_tc_lineToServe_23 cb_64 ?_
      refine j_Vi1 G k_re_has mw_re_has lk_tc_re_has rc_reg d_tc_lineToServe_25 rfl (Nat.le_of_ble_eq_true rfl) (fun v1 s1 => ?_)
      refine j_ifne G d_tc_lineToServe_28 (tgt := 33) rfl ?_ ?_
      · exact b_tc_lineToServe_33 G s1
      · refine j_iconst G d_tc_lineToServe_31 ci_1 ?_
        exact j_iret G d_tc_lineToServe_32
  · refine j_iconst G d_tc_lineToServe_7 ci_0 ?_
    exact j_iret G d_tc_lineToServe_8
set_option maxHeartbeats 4000000 in
set_option maxRecDepth 100000 in
theorem k_tc_lineToServe {l : Launch} {E : Ev} {σ : CS} : CtI wdC l E y_tc_lineToServe bc_tc_lineToServe 1 (some .int) (rmm 1 21) [.ref (eO E 0)] σ (tc_lineToServe σ ) := ct_i (by decide) (Nat.le_of_ble_eq_true rfl) (fun X hE _ G => by subst hE; exact b_tc_lineToServe G σ )
def tc_pushWord (σ : CS) (a1 a2 : Int32) : Option (Int32 × CS) :=
bd (re_get σ a1) fun v1 s1 =>
bd (re_set s1 a1 (v1 - (2 : Int32))) fun _ s2 =>
bd (re_get s2 a1) fun v2 s3 =>
bd (me_setWord s3 v2 a2) fun _ s4 =>
some ((0 : Int32), s4)
set_option maxHeartbeats 4000000 in
set_option maxRecDepth 100000 in
theorem b_tc_pushWord {X : Cx} (G : Gd X bc_tc_pushWord 3 R_chip none (rmm 1 23)) (σ : CS) (a1 a2 : Int32) : J wdC X (QV wdC X) 3 0 [(0, .ref (eO (xE X) 0)), (1, .int a1), (2, .int a2)] [] σ (tc_pushWord σ a1 a2) := by
  unfold tc_pushWord
  refine j_aload_n 0 G d_tc_pushWord_0 rfl rfl ?_
  refine g_tc_registers G d_tc_pushWord_1 ?_
  refine j_iload_n 1 G d_tc_pushWord_4 rfl rfl ?_
  refine j_aload_n 0 G d_tc_pushWord_5 rfl rfl ?_
  refine g_tc_registers G d_tc_pushWord_6 ?_
  refine j_iload_n 1 G d_tc_pushWord_9 rfl rfl ?_
  refine j_Vi1 G k_re_get mw_re_get lk_tc_re_get rc_reg d_tc_pushWord_10 rfl (Nat.le_of_ble_eq_true rfl) (fun v1 s1 => ?_)
  refine j_iconst G d_tc_pushWord_13 ci_2 ?_
  refine j_isub G d_tc_pushWord_14 ?_
  refine j_Vv2 G k_re_set mw_re_set lk_tc_re_set rc_reg d_tc_pushWord_15 rfl (Nat.le_of_ble_eq_true rfl) (fun _ s2 => ?_)
  refine j_aload_n 0 G d_tc_pushWord_18 rfl rfl ?_
  refine g_tc_memory G d_tc_pushWord_19 ?_
  refine j_aload_n 0 G d_tc_pushWord_22 rfl rfl ?_
  refine g_tc_registers G d_tc_pushWord_23 ?_
  refine j_iload_n 1 G d_tc_pushWord_26 rfl rfl ?_
  refine j_Vi1 G k_re_get mw_re_get lk_tc_re_get rc_reg d_tc_pushWord_27 rfl (Nat.le_of_ble_eq_true rfl) (fun v2 s3 => ?_)
  refine j_iload_n 2 G d_tc_pushWord_30 rfl rfl ?_
  refine j_Vv2 G k_me_setWord mw_me_setWord lk_tc_me_setWord rc_mem d_tc_pushWord_31 rfl (Nat.le_of_ble_eq_true rfl) (fun _ s4 => ?_)
  exact j_vret G d_tc_pushWord_34
set_option maxHeartbeats 4000000 in
set_option maxRecDepth 100000 in
theorem k_tc_pushWord {l : Launch} {E : Ev} {σ : CS} {a1 a2 : Int32} : CtV wdC l E y_tc_pushWord bc_tc_pushWord 3 none (rmm 1 23) [.ref (eO E 0), .int a1, .int a2] σ (tc_pushWord σ a1 a2) := ct_v (by decide) (Nat.le_of_ble_eq_true rfl) (fun X hE _ G => by subst hE; exact b_tc_pushWord G σ a1 a2)
def tc_otherStack_10 (σ : CS) (t0 : Int32) : Option (Int32 × CS) :=
some (t0, σ)
def tc_otherStack (σ : CS) (a1 : Int32) : Option (Int32 × CS) :=
if a1 = (5 : Int32) then (tc_otherStack_10 σ (4 : Int32)) else (tc_otherStack_10 σ (5 : Int32))
set_option maxHeartbeats 4000000 in
set_option maxRecDepth 100000 in
theorem b_tc_otherStack_10 {X : Cx} (G : Gd X bc_tc_otherStack 1 R_chip (some .int) (rmm 0 0)) (σ : CS) (t0 : Int32) : J wdC X (QI wdC X) 1 10 [] [.int t0] σ (tc_otherStack_10 σ t0) := by
  unfold tc_otherStack_10
  exact j_iret G d_tc_otherStack_10
set_option maxHeartbeats 4000000 in
set_option maxRecDepth 100000 in
theorem b_tc_otherStack {X : Cx} (G : Gd X bc_tc_otherStack 1 R_chip (some .int) (rmm 0 0)) (σ : CS) (a1 : Int32) : J wdC X (QI wdC X) 1 0 [(0, .int a1)] [] σ (tc_otherStack σ a1) := by
  unfold tc_otherStack
  refine j_iload_n 0 G d_tc_otherStack_0 rfl rfl ?_
  refine j_iconst G d_tc_otherStack_1 ci_5 ?_
  refine j_icne G d_tc_otherStack_2 (tgt := 9) rfl ?_ ?_
  · refine j_iconst G d_tc_otherStack_9 ci_5 ?_
    refine j_sub [] (L1 := []) rfl ?_
    exact b_tc_otherStack_10 G σ (5 : Int32)
  · refine j_iconst G d_tc_otherStack_5 ci_4 ?_
    refine j_goto G d_tc_otherStack_6 (tgt := 10) rfl ?_
    refine j_sub [] (L1 := []) rfl ?_
    exact b_tc_otherStack_10 G σ (4 : Int32)
set_option maxHeartbeats 4000000 in
set_option maxRecDepth 100000 in
theorem k_tc_otherStack {l : Launch} {E : Ev} {σ : CS} {a1 : Int32} : CtI wdC l E y_tc_otherStack bc_tc_otherStack 1 (some .int) (rmm 0 0) [.int a1] σ (tc_otherStack σ a1) := ct_i (by decide) (Nat.le_of_ble_eq_true rfl) (fun X hE _ G => by subst hE; exact b_tc_otherStack G σ a1)
def tc_pushByte (σ : CS) (a1 a2 : Int32) : Option (Int32 × CS) :=
bd (re_get σ a1) fun v1 s1 =>
bd (re_set s1 a1 (v1 - (1 : Int32))) fun _ s2 =>
bd (re_get s2 a1) fun v2 s3 =>
bd (me_setByte s3 v2 a2) fun _ s4 =>
some ((0 : Int32), s4)
set_option maxHeartbeats 4000000 in
set_option maxRecDepth 100000 in
theorem b_tc_pushByte {X : Cx} (G : Gd X bc_tc_pushByte 3 R_chip none (rmm 1 23)) (σ : CS) (a1 a2 : Int32) : J wdC X (QV wdC X) 3 0 [(0, .ref (eO (xE X) 0)), (1, .int a1), (2, .int a2)] [] σ (tc_pushByte σ a1 a2) := by
  unfold tc_pushByte
  refine j_aload_n 0 G d_tc_pushByte_0 rfl rfl ?_
  refine g_tc_registers G d_tc_pushByte_1 ?_
  refine j_iload_n 1 G d_tc_pushByte_4 rfl rfl ?_
  refine j_aload_n 0 G d_tc_pushByte_5 rfl rfl ?_
  refine g_tc_registers G d_tc_pushByte_6 ?_
  refine j_iload_n 1 G d_tc_pushByte_9 rfl rfl ?_
  refine j_Vi1 G k_re_get mw_re_get lk_tc_re_get rc_reg d_tc_pushByte_10 rfl (Nat.le_of_ble_eq_true rfl) (fun v1 s1 => ?_)
  refine j_iconst G d_tc_pushByte_13 ci_1 ?_
  refine j_isub G d_tc_pushByte_14 ?_
  refine j_Vv2 G k_re_set mw_re_set lk_tc_re_set rc_reg d_tc_pushByte_15 rfl (Nat.le_of_ble_eq_true rfl) (fun _ s2 => ?_)
  refine j_aload_n 0 G d_tc_pushByte_18 rfl rfl ?_
  refine g_tc_memory G d_tc_pushByte_19 ?_
  refine j_aload_n 0 G d_tc_pushByte_22 rfl rfl ?_
  refine g_tc_registers G d_tc_pushByte_23 ?_
  refine j_iload_n 1 G d_tc_pushByte_26 rfl rfl ?_
  refine j_Vi1 G k_re_get mw_re_get lk_tc_re_get rc_reg d_tc_pushByte_27 rfl (Nat.le_of_ble_eq_true rfl) (fun v2 s3 => ?_)
  refine j_iload_n 2 G d_tc_pushByte_30 rfl rfl ?_
  refine j_Vv2 G k_me_setByte mw_me_setByte lk_tc_me_setByte rc_mem d_tc_pushByte_31 rfl (Nat.le_of_ble_eq_true rfl) (fun _ s4 => ?_)
  exact j_vret G d_tc_pushByte_34
set_option maxHeartbeats 4000000 in
set_option maxRecDepth 100000 in
theorem k_tc_pushByte {l : Launch} {E : Ev} {σ : CS} {a1 a2 : Int32} : CtV wdC l E y_tc_pushByte bc_tc_pushByte 3 none (rmm 1 23) [.ref (eO E 0), .int a1, .int a2] σ (tc_pushByte σ a1 a2) := ct_v (by decide) (Nat.le_of_ble_eq_true rfl) (fun X hE _ G => by subst hE; exact b_tc_pushByte G σ a1 a2)
def tc_pushRegisters_164 (σ : CS) : Option (Int32 × CS) :=
some ((0 : Int32), σ)
def tc_pushRegisters_144 (σ : CS) (l1 l2 : Int32) : Option (Int32 × CS) :=
if (l2 &&& (1 : Int32)) = 0 then (tc_pushRegisters_164 σ) else (bd (re_get σ (8 : Int32)) fun v1 s1 =>
bd (tc_pushByte s1 l1 v1) fun _ s2 =>
tc_pushRegisters_164 s2)
def tc_pushRegisters_125 (σ : CS) (l1 l2 : Int32) : Option (Int32 × CS) :=
if (l2 &&& (2 : Int32)) = 0 then (tc_pushRegisters_144 σ l1 l2) else (bd (re_get σ (0 : Int32)) fun v1 s1 =>
bd (tc_pushByte s1 l1 v1) fun _ s2 =>
tc_pushRegisters_144 s2 l1 l2)
def tc_pushRegisters_106 (σ : CS) (l1 l2 : Int32) : Option (Int32 × CS) :=
if (l2 &&& (4 : Int32)) = 0 then (tc_pushRegisters_125 σ l1 l2) else (bd (re_get σ (1 : Int32)) fun v1 s1 =>
bd (tc_pushByte s1 l1 v1) fun _ s2 =>
tc_pushRegisters_125 s2 l1 l2)
def tc_pushRegisters_85 (σ : CS) (l1 l2 : Int32) : Option (Int32 × CS) :=
if (l2 &&& (8 : Int32)) = 0 then (tc_pushRegisters_106 σ l1 l2) else (bd (re_get σ (7 : Int32)) fun v1 s1 =>
bd (tc_pushByte s1 l1 v1) fun _ s2 =>
tc_pushRegisters_106 s2 l1 l2)
def tc_pushRegisters_65 (σ : CS) (l1 l2 : Int32) : Option (Int32 × CS) :=
if (l2 &&& (16 : Int32)) = 0 then (tc_pushRegisters_85 σ l1 l2) else (bd (re_get σ (2 : Int32)) fun v1 s1 =>
bd (tc_pushWord s1 l1 v1) fun _ s2 =>
tc_pushRegisters_85 s2 l1 l2)
def tc_pushRegisters_45 (σ : CS) (l1 l2 : Int32) : Option (Int32 × CS) :=
if (l2 &&& (32 : Int32)) = 0 then (tc_pushRegisters_65 σ l1 l2) else (bd (re_get σ (3 : Int32)) fun v1 s1 =>
bd (tc_pushWord s1 l1 v1) fun _ s2 =>
tc_pushRegisters_65 s2 l1 l2)
def tc_pushRegisters_22 (σ : CS) (l1 l2 : Int32) : Option (Int32 × CS) :=
if (l2 &&& (64 : Int32)) = 0 then (tc_pushRegisters_45 σ l1 l2) else (bd (tc_otherStack σ l1) fun v1 s1 =>
bd (re_get s1 v1) fun v2 s2 =>
bd (tc_pushWord s2 l1 v2) fun _ s3 =>
tc_pushRegisters_45 s3 l1 l2)
def tc_pushRegisters (σ : CS) (a1 a2 : Int32) : Option (Int32 × CS) :=
if (a2 &&& (128 : Int32)) = 0 then (tc_pushRegisters_22 σ a1 a2) else (bd (re_get σ (6 : Int32)) fun v1 s1 =>
bd (tc_pushWord s1 a1 v1) fun _ s2 =>
tc_pushRegisters_22 s2 a1 a2)
set_option maxHeartbeats 4000000 in
set_option maxRecDepth 100000 in
theorem b_tc_pushRegisters_164 {X : Cx} (G : Gd X bc_tc_pushRegisters 3 R_chip none (rmm 2 45)) (σ : CS) : J wdC X (QV wdC X) 3 164 [(0, .ref (eO (xE X) 0))] [] σ (tc_pushRegisters_164 σ ) := by
  unfold tc_pushRegisters_164
  exact j_vret G d_tc_pushRegisters_164
set_option maxHeartbeats 4000000 in
set_option maxRecDepth 100000 in
theorem b_tc_pushRegisters_144 {X : Cx} (G : Gd X bc_tc_pushRegisters 3 R_chip none (rmm 2 45)) (σ : CS) (l1 l2 : Int32) : J wdC X (QV wdC X) 3 144 [(0, .ref (eO (xE X) 0)), (1, .int l1), (2, .int l2)] [] σ (tc_pushRegisters_144 σ l1 l2) := by
  unfold tc_pushRegisters_144
  refine j_iload_n 2 G d_tc_pushRegisters_144 rfl rfl ?_
  refine j_iconst G d_tc_pushRegisters_145 ci_1 ?_
  refine j_iand G d_tc_pushRegisters_146 ?_
  refine j_ifeq G d_tc_pushRegisters_147 (tgt := 164) rfl ?_ ?_
  · refine j_sub [0] (L1 := [(0, .ref (eO (xE X) 0))]) rfl ?_
    exact b_tc_pushRegisters_164 G σ
  · refine j_aload_n 0 G d_tc_pushRegisters_150 rfl rfl ?_
    refine j_iload_n 1 G d_tc_pushRegisters_151 rfl rfl ?_
    refine j_aload_n 0 G d_tc_pushRegisters_152 rfl rfl ?_
    refine g_tc_registers G d_tc_pushRegisters_153 ?_
    refine j_bipush G d_tc_pushRegisters_156 cb_8 ?_
    refine j_Vi1 G k_re_get mw_re_get lk_tc_re_get rc_reg d_tc_pushRegisters_158 rfl (Nat.le_of_ble_eq_true rfl) (fun v1 s1 => ?_)
    refine j_Vv2 G k_tc_pushByte mw_tc_pushByte lk_tc_tc_pushByte rc_chip d_tc_pushRegisters_161 rfl (Nat.le_of_ble_eq_true rfl) (fun _ s2 => ?_)
    refine j_sub [0] (L1 := [(0, .ref (eO (xE X) 0))]) rfl ?_
    exact b_tc_pushRegisters_164 G s2
set_option maxHeartbeats 4000000 in
set_option maxRecDepth 100000 in
theorem b_tc_pushRegisters_125 {X : Cx} (G : Gd X bc_tc_pushRegisters 3 R_chip none (rmm 2 45)) (σ : CS) (l1 l2 : Int32) : J wdC X (QV wdC X) 3 125 [(0, .ref (eO (xE X) 0)), (1, .int l1), (2, .int l2)] [] σ (tc_pushRegisters_125 σ l1 l2) := by
  unfold tc_pushRegisters_125
  refine j_iload_n 2 G d_tc_pushRegisters_125 rfl rfl ?_
  refine j_iconst G d_tc_pushRegisters_126 ci_2 ?_
  refine j_iand G d_tc_pushRegisters_127 ?_
  refine j_ifeq G d_tc_pushRegisters_128 (tgt := 144) rfl ?_ ?_
  · exact b_tc_pushRegisters_144 G σ l1 l2
  · refine j_aload_n 0 G d_tc_pushRegisters_131 rfl rfl ?_
    refine j_iload_n 1 G d_tc_pushRegisters_132 rfl rfl ?_
    refine j_aload_n 0 G d_tc_pushRegisters_133 rfl rfl ?_
    refine g_tc_registers G d_tc_pushRegisters_134 ?_
    refine j_iconst G d_tc_pushRegisters_137 ci_0 ?_
    refine j_Vi1 G k_re_get mw_re_get lk_tc_re_get rc_reg d_tc_pushRegisters_138 rfl (Nat.le_of_ble_eq_true rfl) (fun v1 s1 => ?_)
    refine j_Vv2 G k_tc_pushByte mw_tc_pushByte lk_tc_tc_pushByte rc_chip d_tc_pushRegisters_141 rfl (Nat.le_of_ble_eq_true rfl) (fun _ s2 => ?_)
    exact b_tc_pushRegisters_144 G s2 l1 l2
set_option maxHeartbeats 4000000 in
set_option maxRecDepth 100000 in
theorem b_tc_pushRegisters_106 {X : Cx} (G : Gd X bc_tc_pushRegisters 3 R_chip none (rmm 2 45)) (σ : CS) (l1 l2 : Int32) : J wdC X (QV wdC X) 3 106 [(0, .ref (eO (xE X) 0)), (1, .int l1), (2, .int l2)] [] σ (tc_pushRegisters_106 σ l1 l2) := by
  unfold tc_pushRegisters_106
  refine j_iload_n 2 G d_tc_pushRegisters_106 rfl rfl ?_
  refine j_iconst G d_tc_pushRegisters_107 ci_4 ?_
  refine j_iand G d_tc_pushRegisters_108 ?_
  refine j_ifeq G d_tc_pushRegisters_109 (tgt := 125) rfl ?_ ?_
  · exact b_tc_pushRegisters_125 G σ l1 l2
  · refine j_aload_n 0 G d_tc_pushRegisters_112 rfl rfl ?_
    refine j_iload_n 1 G d_tc_pushRegisters_113 rfl rfl ?_
    refine j_aload_n 0 G d_tc_pushRegisters_114 rfl rfl ?_
    refine g_tc_registers G d_tc_pushRegisters_115 ?_
    refine j_iconst G d_tc_pushRegisters_118 ci_1 ?_
    refine j_Vi1 G k_re_get mw_re_get lk_tc_re_get rc_reg d_tc_pushRegisters_119 rfl (Nat.le_of_ble_eq_true rfl) (fun v1 s1 => ?_)
    refine j_Vv2 G k_tc_pushByte mw_tc_pushByte lk_tc_tc_pushByte rc_chip d_tc_pushRegisters_122 rfl (Nat.le_of_ble_eq_true rfl) (fun _ s2 => ?_)
    exact b_tc_pushRegisters_125 G s2 l1 l2
set_option maxHeartbeats 4000000 in
set_option maxRecDepth 100000 in
theorem b_tc_pushRegisters_85 {X : Cx} (G : Gd X bc_tc_pushRegisters 3 R_chip none (rmm 2 45)) (σ : CS) (l1 l2 : Int32) : J wdC X (QV wdC X) 3 85 [(0, .ref (eO (xE X) 0)), (1, .int l1), (2, .int l2)] [] σ (tc_pushRegisters_85 σ l1 l2) := by
  unfold tc_pushRegisters_85
  refine j_iload_n 2 G d_tc_pushRegisters_85 rfl rfl ?_
  refine j_bipush G d_tc_pushRegisters_86 cb_8 ?_
  refine j_iand G d_tc_pushRegisters_88 ?_
  refine j_ifeq G d_tc_pushRegisters_89 (tgt := 106) rfl ?_ ?_
  · exact b_tc_pushRegisters_106 G σ l1 l2
  · refine j_aload_n 0 G d_tc_pushRegisters_92 rfl rfl ?_
    refine j_iload_n 1 G d_tc_pushRegisters_93 rfl rfl ?_
    refine j_aload_n 0 G d_tc_pushRegisters_94 rfl rfl ?_
    refine g_tc_registers G d_tc_pushRegisters_95 ?_
    refine j_bipush G d_tc_pushRegisters_98 cb_7 ?_
    refine j_Vi1 G k_re_get mw_re_get lk_tc_re_get rc_reg d_tc_pushRegisters_100 rfl (Nat.le_of_ble_eq_true rfl) (fun v1 s1 => ?_)
    refine j_Vv2 G k_tc_pushByte mw_tc_pushByte lk_tc_tc_pushByte rc_chip d_tc_pushRegisters_103 rfl (Nat.le_of_ble_eq_true rfl) (fun _ s2 => ?_)
    exact b_tc_pushRegisters_106 G s2 l1 l2
set_option maxHeartbeats 4000000 in
set_option maxRecDepth 100000 in
theorem b_tc_pushRegisters_65 {X : Cx} (G : Gd X bc_tc_pushRegisters 3 R_chip none (rmm 2 45)) (σ : CS) (l1 l2 : Int32) : J wdC X (QV wdC X) 3 65 [(0, .ref (eO (xE X) 0)), (1, .int l1), (2, .int l2)] [] σ (tc_pushRegisters_65 σ l1 l2) := by
  unfold tc_pushRegisters_65
  refine j_iload_n 2 G d_tc_pushRegisters_65 rfl rfl ?_
  refine j_bipush G d_tc_pushRegisters_66 cb_16 ?_
  refine j_iand G d_tc_pushRegisters_68 ?_
  refine j_ifeq G d_tc_pushRegisters_69 (tgt := 85) rfl ?_ ?_
  · exact b_tc_pushRegisters_85 G σ l1 l2
  · refine j_aload_n 0 G d_tc_pushRegisters_72 rfl rfl ?_
    refine j_iload_n 1 G d_tc_pushRegisters_73 rfl rfl ?_
    refine j_aload_n 0 G d_tc_pushRegisters_74 rfl rfl ?_
    refine g_tc_registers G d_tc_pushRegisters_75 ?_
    refine j_iconst G d_tc_pushRegisters_78 ci_2 ?_
    refine j_Vi1 G k_re_get mw_re_get lk_tc_re_get rc_reg d_tc_pushRegisters_79 rfl (Nat.le_of_ble_eq_true rfl) (fun v1 s1 => ?_)
    refine j_Vv2 G k_tc_pushWord mw_tc_pushWord lk_tc_tc_pushWord rc_chip d_tc_pushRegisters_82 rfl (Nat.le_of_ble_eq_true rfl) (fun _ s2 => ?_)
    exact b_tc_pushRegisters_85 G s2 l1 l2
set_option maxHeartbeats 4000000 in
set_option maxRecDepth 100000 in
theorem b_tc_pushRegisters_45 {X : Cx} (G : Gd X bc_tc_pushRegisters 3 R_chip none (rmm 2 45)) (σ : CS) (l1 l2 : Int32) : J wdC X (QV wdC X) 3 45 [(0, .ref (eO (xE X) 0)), (1, .int l1), (2, .int l2)] [] σ (tc_pushRegisters_45 σ l1 l2) := by
  unfold tc_pushRegisters_45
  refine j_iload_n 2 G d_tc_pushRegisters_45 rfl rfl ?_
  refine j_bipush G d_tc_pushRegisters_46 cb_32 ?_
  refine j_iand G d_tc_pushRegisters_48 ?_
  refine j_ifeq G d_tc_pushRegisters_49 (tgt := 65) rfl ?_ ?_
  · exact b_tc_pushRegisters_65 G σ l1 l2
  · refine j_aload_n 0 G d_tc_pushRegisters_52 rfl rfl ?_
    refine j_iload_n 1 G d_tc_pushRegisters_53 rfl rfl ?_
    refine j_aload_n 0 G d_tc_pushRegisters_54 rfl rfl ?_
    refine g_tc_registers G d_tc_pushRegisters_55 ?_
    refine j_iconst G d_tc_pushRegisters_58 ci_3 ?_
    refine j_Vi1 G k_re_get mw_re_get lk_tc_re_get rc_reg d_tc_pushRegisters_59 rfl (Nat.le_of_ble_eq_true rfl) (fun v1 s1 => ?_)
    refine j_Vv2 G k_tc_pushWord mw_tc_pushWord lk_tc_tc_pushWord rc_chip d_tc_pushRegisters_62 rfl (Nat.le_of_ble_eq_true rfl) (fun _ s2 => ?_)
    exact b_tc_pushRegisters_65 G s2 l1 l2
set_option maxHeartbeats 4000000 in
set_option maxRecDepth 100000 in
theorem b_tc_pushRegisters_22 {X : Cx} (G : Gd X bc_tc_pushRegisters 3 R_chip none (rmm 2 45)) (σ : CS) (l1 l2 : Int32) : J wdC X (QV wdC X) 3 22 [(0, .ref (eO (xE X) 0)), (1, .int l1), (2, .int l2)] [] σ (tc_pushRegisters_22 σ l1 l2) := by
  unfold tc_pushRegisters_22
  refine j_iload_n 2 G d_tc_pushRegisters_22 rfl rfl ?_
  refine j_bipush G d_tc_pushRegisters_23 cb_64 ?_
  refine j_iand G d_tc_pushRegisters_25 ?_
  refine j_ifeq G d_tc_pushRegisters_26 (tgt := 45) rfl ?_ ?_
  · exact b_tc_pushRegisters_45 G σ l1 l2
  · refine j_aload_n 0 G d_tc_pushRegisters_29 rfl rfl ?_
    refine j_iload_n 1 G d_tc_pushRegisters_30 rfl rfl ?_
    refine j_aload_n 0 G d_tc_pushRegisters_31 rfl rfl ?_
    refine g_tc_registers G d_tc_pushRegisters_32 ?_
    refine j_iload_n 1 G d_tc_pushRegisters_35 rfl rfl ?_
    refine j_Si1 G k_tc_otherStack mw_tc_otherStack lk_tc_tc_otherStack d_tc_pushRegisters_36 rfl (Nat.le_of_ble_eq_true rfl) (fun v1 s1 => ?_)
    refine j_Vi1 G k_re_get mw_re_get lk_tc_re_get rc_reg d_tc_pushRegisters_39 rfl (Nat.le_of_ble_eq_true rfl) (fun v2 s2 => ?_)
    refine j_Vv2 G k_tc_pushWord mw_tc_pushWord lk_tc_tc_pushWord rc_chip d_tc_pushRegisters_42 rfl (Nat.le_of_ble_eq_true rfl) (fun _ s3 => ?_)
    exact b_tc_pushRegisters_45 G s3 l1 l2
set_option maxHeartbeats 4000000 in
set_option maxRecDepth 100000 in
theorem b_tc_pushRegisters {X : Cx} (G : Gd X bc_tc_pushRegisters 3 R_chip none (rmm 2 45)) (σ : CS) (a1 a2 : Int32) : J wdC X (QV wdC X) 3 0 [(0, .ref (eO (xE X) 0)), (1, .int a1), (2, .int a2)] [] σ (tc_pushRegisters σ a1 a2) := by
  unfold tc_pushRegisters
  refine j_iload_n 2 G d_tc_pushRegisters_0 rfl rfl ?_
  refine j_sipush G d_tc_pushRegisters_1 cs_128 ?_
  refine j_iand G d_tc_pushRegisters_4 ?_
  refine j_ifeq G d_tc_pushRegisters_5 (tgt := 22) rfl ?_ ?_
  · exact b_tc_pushRegisters_22 G σ a1 a2
  · refine j_aload_n 0 G d_tc_pushRegisters_8 rfl rfl ?_
    refine j_iload_n 1 G d_tc_pushRegisters_9 rfl rfl ?_
    refine j_aload_n 0 G d_tc_pushRegisters_10 rfl rfl ?_
    refine g_tc_registers G d_tc_pushRegisters_11 ?_
    refine j_bipush G d_tc_pushRegisters_14 cb_6 ?_
    refine j_Vi1 G k_re_get mw_re_get lk_tc_re_get rc_reg d_tc_pushRegisters_16 rfl (Nat.le_of_ble_eq_true rfl) (fun v1 s1 => ?_)
    refine j_Vv2 G k_tc_pushWord mw_tc_pushWord lk_tc_tc_pushWord rc_chip d_tc_pushRegisters_19 rfl (Nat.le_of_ble_eq_true rfl) (fun _ s2 => ?_)
    exact b_tc_pushRegisters_22 G s2 a1 a2
set_option maxHeartbeats 4000000 in
set_option maxRecDepth 100000 in
theorem k_tc_pushRegisters {l : Launch} {E : Ev} {σ : CS} {a1 a2 : Int32} : CtV wdC l E y_tc_pushRegisters bc_tc_pushRegisters 3 none (rmm 2 45) [.ref (eO E 0), .int a1, .int a2] σ (tc_pushRegisters σ a1 a2) := ct_v (by decide) (Nat.le_of_ble_eq_true rfl) (fun X hE _ G => by subst hE; exact b_tc_pushRegisters G σ a1 a2)
def tc_serve_68 (σ : CS) (l1 t0 : Int32) : Option (Int32 × CS) :=
bd (re_turn σ t0 (1 : Int32)) fun _ s1 =>
gd (okI l1 (tln 0)) (
bd (me_wordAt s1 (tvl 0 l1.toNatClampNeg)) fun v1 s2 =>
bd (re_set s2 (6 : Int32) v1) fun _ s3 =>
ns (cy_wai s3 (0 : Int32)) fun s4 =>
some ((0 : Int32), s4))
def tc_serve_52 (σ : CS) (l1 : Int32) : Option (Int32 × CS) :=
if l1 = (2 : Int32) then (tc_serve_68 σ l1 (16 : Int32)) else (tc_serve_68 σ l1 (80 : Int32))
def tc_serve_49 (σ : CS) (l1 t0 t1 : Int32) : Option (Int32 × CS) :=
bd (tc_pushRegisters σ t1 t0) fun _ s1 =>
tc_serve_52 s1 l1
def tc_serve_30 (σ : CS) (l1 t0 t1 : Int32) : Option (Int32 × CS) :=
bd (re_turn σ t1 t0) fun _ s1 =>
if l1 = (1 : Int32) then (tc_serve_49 s1 l1 (129 : Int32) (5 : Int32)) else (tc_serve_49 s1 l1 (255 : Int32) (5 : Int32))
def tc_serve (σ : CS) (a1 : Int32) : Option (Int32 × CS) :=
ns (cy_due σ (0 : Int32)) fun s1 =>
if (cx_wai s1) = (2 : Int32) then (tc_serve_52 s1 a1) else (if a1 = (1 : Int32) then (tc_serve_30 s1 a1 (0 : Int32) (128 : Int32)) else (tc_serve_30 s1 a1 (1 : Int32) (128 : Int32)))
set_option maxHeartbeats 4000000 in
set_option maxRecDepth 100000 in
theorem b_tc_serve_68 {X : Cx} (G : Gd X bc_tc_serve 2 R_chip none (rmm 3 67)) (σ : CS) (l1 t0 : Int32) : J wdC X (QV wdC X) 2 68 [(0, .ref (eO (xE X) 0)), (1, .int l1)] [.int t0, .ref (eO (xE X) 3)] σ (tc_serve_68 σ l1 t0) := by
  unfold tc_serve_68
  refine j_iconst G d_tc_serve_68 ci_1 ?_
  refine j_Vv2 G k_re_turn mw_re_turn lk_tc_re_turn rc_reg d_tc_serve_69 rfl (Nat.le_of_ble_eq_true rfl) (fun _ s1 => ?_)
  refine j_aload_n 0 G d_tc_serve_72 rfl rfl ?_
  refine g_tc_registers G d_tc_serve_73 ?_
  refine j_bipush G d_tc_serve_76 cb_6 ?_
  refine j_aload_n 0 G d_tc_serve_78 rfl rfl ?_
  refine g_tc_memory G d_tc_serve_79 ?_
  refine j_gets 0 (by decide) ks_tc_107 G d_tc_serve_82 ?_
  refine j_iload_n 1 G d_tc_serve_85 rfl rfl ?_
  refine j_tald 0 (by decide) G d_tc_serve_86 ?_
  refine j_Vi1 G k_me_wordAt mw_me_wordAt lk_tc_me_wordAt rc_mem d_tc_serve_87 rfl (Nat.le_of_ble_eq_true rfl) (fun v1 s2 => ?_)
  refine j_Vv2 G k_re_set mw_re_set lk_tc_re_set rc_reg d_tc_serve_90 rfl (Nat.le_of_ble_eq_true rfl) (fun _ s3 => ?_)
  refine j_aload_n 0 G d_tc_serve_93 rfl rfl ?_
  refine j_iconst G d_tc_serve_94 ci_0 ?_
  refine p_tc_waiting G d_tc_serve_95 ?_
  refine j_ns (fun s4 => ?_)
  exact j_vret G d_tc_serve_98
set_option maxHeartbeats 4000000 in
set_option maxRecDepth 100000 in
theorem b_tc_serve_52 {X : Cx} (G : Gd X bc_tc_serve 2 R_chip none (rmm 3 67)) (σ : CS) (l1 : Int32) : J wdC X (QV wdC X) 2 52 [(0, .ref (eO (xE X) 0)), (1, .int l1)] [] σ (tc_serve_52 σ l1) := by
  unfold tc_serve_52
  refine j_aload_n 0 G d_tc_serve_52 rfl rfl ?_
  refine g_tc_registers G d_tc_serve_53 ?_
  refine j_iload_n 1 G d_tc_serve_56 rfl rfl ?_
  refine j_iconst G d_tc_serve_57 ci_2 ?_
  refine j_icne G d_tc_serve_58 (tgt := 66) rfl ?_ ?_
  · refine j_bipush G d_tc_serve_66 cb_80 ?_
    exact b_tc_serve_68 G σ l1 (80 : Int32)
  · refine j_bipush G d_tc_serve_61 cb_16 ?_
    refine j_goto G d_tc_serve_63 (tgt := 68) rfl ?_
    exact b_tc_serve_68 G σ l1 (16 : Int32)
set_option maxHeartbeats 4000000 in
set_option maxRecDepth 100000 in
theorem b_tc_serve_49 {X : Cx} (G : Gd X bc_tc_serve 2 R_chip none (rmm 3 67)) (σ : CS) (l1 t0 t1 : Int32) : J wdC X (QV wdC X) 2 49 [(0, .ref (eO (xE X) 0)), (1, .int l1)] [.int t0, .int t1, .ref (eO (xE X) 0)] σ (tc_serve_49 σ l1 t0 t1) := by
  unfold tc_serve_49
  refine j_Vv2 G k_tc_pushRegisters mw_tc_pushRegisters lk_tc_tc_pushRegisters rc_chip d_tc_serve_49 rfl (Nat.le_of_ble_eq_true rfl) (fun _ s1 => ?_)
  exact b_tc_serve_52 G s1 l1
set_option maxHeartbeats 4000000 in
set_option maxRecDepth 100000 in
theorem b_tc_serve_30 {X : Cx} (G : Gd X bc_tc_serve 2 R_chip none (rmm 3 67)) (σ : CS) (l1 t0 t1 : Int32) : J wdC X (QV wdC X) 2 30 [(0, .ref (eO (xE X) 0)), (1, .int l1)] [.int t0, .int t1, .ref (eO (xE X) 3)] σ (tc_serve_30 σ l1 t0 t1) := by
  unfold tc_serve_30
  refine j_Vv2 G k_re_turn mw_re_turn lk_tc_re_turn rc_reg d_tc_serve_30 rfl (Nat.le_of_ble_eq_true rfl) (fun _ s1 => ?_)
  refine j_aload_n 0 G d_tc_serve_33 rfl rfl ?_
  refine j_iconst G d_tc_serve_34 ci_5 ?_
  refine j_iload_n 1 G d_tc_serve_35 rfl rfl ?_
  refine j_iconst G d_tc_serve_36 ci_1 ?_
  refine j_icne G d_tc_serve_37 (tgt := 46) rfl ?_ ?_
  · refine j_sipush G d_tc_serve_46 cs_255 ?_
    exact b_tc_serve_49 G s1 l1 (255 : Int32) (5 : Int32)
  · refine j_sipush G d_tc_serve_40 cs_129 ?_
    refine j_goto G d_tc_serve_43 (tgt := 49) rfl ?_
    exact b_tc_serve_49 G s1 l1 (129 : Int32) (5 : Int32)
set_option maxHeartbeats 4000000 in
set_option maxRecDepth 100000 in
theorem b_tc_serve {X : Cx} (G : Gd X bc_tc_serve 2 R_chip none (rmm 3 67)) (σ : CS) (a1 : Int32) : J wdC X (QV wdC X) 2 0 [(0, .ref (eO (xE X) 0)), (1, .int a1)] [] σ (tc_serve σ a1) := by
  unfold tc_serve
  refine j_aload_n 0 G d_tc_serve_0 rfl rfl ?_
  refine j_iconst G d_tc_serve_1 ci_0 ?_
  refine pc_tc_nmiDue (by decide) G d_tc_serve_2 ?_
  refine j_ns (fun s1 => ?_)
  refine j_aload_n 0 G d_tc_serve_5 rfl rfl ?_
  refine g_tc_waiting G d_tc_serve_6 ?_
  refine j_iconst G d_tc_serve_9 ci_2 ?_
  refine j_iceq G d_tc_serve_10 (tgt := 52) rfl ?_ ?_
  · exact b_tc_serve_52 G s1 a1
  · refine j_aload_n 0 G d_tc_serve_13 rfl rfl ?_
    refine g_tc_registers G d_tc_serve_14 ?_
    refine j_sipush G d_tc_serve_17 cs_128 ?_
    refine j_iload_n 1 G d_tc_serve_20 rfl rfl ?_
    refine j_iconst G d_tc_serve_21 ci_1 ?_
    refine j_iceq G d_tc_serve_22 (tgt := 29) rfl ?_ ?_
    · refine j_iconst G d_tc_serve_29 ci_0 ?_
      exact b_tc_serve_30 G s1 a1 (0 : Int32) (128 : Int32)
    · refine j_iconst G d_tc_serve_25 ci_1 ?_
      refine j_goto G d_tc_serve_26 (tgt := 30) rfl ?_
      exact b_tc_serve_30 G s1 a1 (1 : Int32) (128 : Int32)
set_option maxHeartbeats 4000000 in
set_option maxRecDepth 100000 in
theorem k_tc_serve {l : Launch} {E : Ev} {σ : CS} {a1 : Int32} : CtV wdC l E y_tc_serve bc_tc_serve 2 none (rmm 3 67) [.ref (eO E 0), .int a1] σ (tc_serve σ a1) := ct_v (by decide) (Nat.le_of_ble_eq_true rfl) (fun X hE _ G => by subst hE; exact b_tc_serve G σ a1)
def tc_staysWaiting_45 (σ : CS) (t0 : Int32) : Option (Int32 × CS) :=
gd (isB t0) (some (t0, σ))
def tc_staysWaiting_31 (σ : CS) (t0 : Int32) : Option (Int32 × CS) :=
gd (isB t0) (some (t0, σ))
def tc_staysWaiting_30 (σ : CS) : Option (Int32 × CS) :=
tc_staysWaiting_31 σ (0 : Int32)
def tc_staysWaiting (σ : CS) : Option (Int32 × CS) :=
if (cx_wai σ) = (1 : Int32) then (if (cx_lev σ 1) = 0 then (if (cx_lev σ 2) = 0 then (tc_staysWaiting_31 σ (1 : Int32)) else (tc_staysWaiting_30 σ)) else (tc_staysWaiting_30 σ)) else (if (cx_wai σ) = (2 : Int32) then (tc_staysWaiting_45 σ (1 : Int32)) else (tc_staysWaiting_45 σ (0 : Int32)))
set_option maxHeartbeats 4000000 in
set_option maxRecDepth 100000 in
theorem b_tc_staysWaiting_45 {X : Cx} (G : Gd X bc_tc_staysWaiting 1 R_chip (some .boolean) (rmm 0 0)) (σ : CS) (t0 : Int32) : J wdC X (QI wdC X) 1 45 [(0, .ref (eO (xE X) 0))] [.int t0] σ (tc_staysWaiting_45 σ t0) := by
  unfold tc_staysWaiting_45
  exact j_zret G d_tc_staysWaiting_45
set_option maxHeartbeats 4000000 in
set_option maxRecDepth 100000 in
theorem b_tc_staysWaiting_31 {X : Cx} (G : Gd X bc_tc_staysWaiting 1 R_chip (some .boolean) (rmm 0 0)) (σ : CS) (t0 : Int32) : J wdC X (QI wdC X) 1 31 [(0, .ref (eO (xE X) 0))] [.int t0] σ (tc_staysWaiting_31 σ t0) := by
  unfold tc_staysWaiting_31
  exact j_zret G d_tc_staysWaiting_31
set_option maxHeartbeats 4000000 in
set_option maxRecDepth 100000 in
theorem b_tc_staysWaiting_30 {X : Cx} (G : Gd X bc_tc_staysWaiting 1 R_chip (some .boolean) (rmm 0 0)) (σ : CS) : J wdC X (QI wdC X) 1 30 [(0, .ref (eO (xE X) 0))] [] σ (tc_staysWaiting_30 σ ) := by
  unfold tc_staysWaiting_30
  refine j_iconst G d_tc_staysWaiting_30 ci_0 ?_
  exact b_tc_staysWaiting_31 G σ (0 : Int32)
set_option maxHeartbeats 4000000 in
set_option maxRecDepth 100000 in
theorem b_tc_staysWaiting {X : Cx} (G : Gd X bc_tc_staysWaiting 1 R_chip (some .boolean) (rmm 0 0)) (σ : CS) : J wdC X (QI wdC X) 1 0 [(0, .ref (eO (xE X) 0))] [] σ (tc_staysWaiting σ ) := by
  unfold tc_staysWaiting
  refine j_aload_n 0 G d_tc_staysWaiting_0 rfl rfl ?_
  refine g_tc_waiting G d_tc_staysWaiting_1 ?_
  refine j_iconst G d_tc_staysWaiting_4 ci_1 ?_
  refine j_icne G d_tc_staysWaiting_5 (tgt := 32) rfl ?_ ?_
  · refine j_aload_n 0 G d_tc_staysWaiting_32 rfl rfl ?_
    refine g_tc_waiting G d_tc_staysWaiting_33 ?_
    refine j_iconst G d_tc_staysWaiting_36 ci_2 ?_
    refine j_icne G d_tc_staysWaiting_37 (tgt := 44) rfl ?_ ?_
    · refine j_iconst G d_tc_staysWaiting_44 ci_0 ?_
      exact b_tc_staysWaiting_45 G σ (0 : Int32)
    · refine j_iconst G d_tc_staysWaiting_40 ci_1 ?_
      refine j_goto G d_tc_staysWaiting_41 (tgt := 45) rfl ?_
      exact b_tc_staysWaiting_45 G σ (1 : Int32)
  · refine j_aload_n 0 G d_tc_staysWaiting_8 rfl rfl ?_
    refine g_tc_levels G d_tc_staysWaiting_9 ?_
    refine j_iconst G d_tc_staysWaiting_12 ci_1 ?_
    refine alc_Clev (j := 1) rfl rfl G d_tc_staysWaiting_13 ?_
    refine j_ifne G d_tc_staysWaiting_14 (tgt := 30) rfl ?_ ?_
    · exact b_tc_staysWaiting_30 G σ
    · refine j_aload_n 0 G d_tc_staysWaiting_17 rfl rfl ?_
      refine g_tc_levels G d_tc_staysWaiting_18 ?_
      refine j_iconst G d_tc_staysWaiting_21 ci_2 ?_
      refine alc_Clev (j := 2) rfl rfl G d_tc_staysWaiting_22 ?_
      refine j_ifne G d_tc_staysWaiting_23 (tgt := 30) rfl ?_ ?_
      · exact b_tc_staysWaiting_30 G σ
      · refine j_iconst G d_tc_staysWaiting_26 ci_1 ?_
        refine j_goto G d_tc_staysWaiting_27 (tgt := 31) rfl ?_
        exact b_tc_staysWaiting_31 G σ (1 : Int32)
set_option maxHeartbeats 4000000 in
set_option maxRecDepth 100000 in
theorem k_tc_staysWaiting {l : Launch} {E : Ev} {σ : CS} : CtI wdC l E y_tc_staysWaiting bc_tc_staysWaiting 1 (some .boolean) (rmm 0 0) [.ref (eO E 0)] σ (tc_staysWaiting σ ) := ct_i (by decide) (Nat.le_of_ble_eq_true rfl) (fun X hE _ G => by subst hE; exact b_tc_staysWaiting G σ )
def tc_fetchByte (σ : CS) : Option (Int32 × CS) :=
bd (re_get σ (6 : Int32)) fun v1 s1 =>
bd (re_set s1 (6 : Int32) (v1 + (1 : Int32))) fun _ s2 =>
bd (me_byteAt s2 v1) fun v2 s3 =>
some (v2, s3)
set_option maxHeartbeats 4000000 in
set_option maxRecDepth 100000 in
theorem b_tc_fetchByte {X : Cx} (G : Gd X bc_tc_fetchByte 2 R_chip (some .int) (rmm 1 23)) (σ : CS) : J wdC X (QI wdC X) 2 0 [(0, .ref (eO (xE X) 0))] [] σ (tc_fetchByte σ ) := by
  unfold tc_fetchByte
  refine j_aload_n 0 G d_tc_fetchByte_0 rfl rfl ?_
  refine g_tc_registers G d_tc_fetchByte_1 ?_
  refine j_bipush G d_tc_fetchByte_4 cb_6 ?_
  refine j_Vi1 G k_re_get mw_re_get lk_tc_re_get rc_reg d_tc_fetchByte_6 rfl (Nat.le_of_ble_eq_true rfl) (fun v1 s1 => ?_)
  refine j_istore_n [1, 0] (L1 := [(0, .ref (eO (xE X) 0)), (1, .int v1)]) G d_tc_fetchByte_9 rfl (by decide) rfl ?_
  refine j_aload_n 0 G d_tc_fetchByte_10 rfl rfl ?_
  refine g_tc_registers G d_tc_fetchByte_11 ?_
  refine j_bipush G d_tc_fetchByte_14 cb_6 ?_
  refine j_iload_n 1 G d_tc_fetchByte_16 rfl rfl ?_
  refine j_iconst G d_tc_fetchByte_17 ci_1 ?_
  refine j_iadd G d_tc_fetchByte_18 ?_
  refine j_Vv2 G k_re_set mw_re_set lk_tc_re_set rc_reg d_tc_fetchByte_19 rfl (Nat.le_of_ble_eq_true rfl) (fun _ s2 => ?_)
  refine j_aload_n 0 G d_tc_fetchByte_22 rfl rfl ?_
  refine g_tc_memory G d_tc_fetchByte_23 ?_
  refine j_iload_n 1 G d_tc_fetchByte_26 rfl rfl ?_
  refine j_Vi1 G k_me_byteAt mw_me_byteAt lk_tc_me_byteAt rc_mem d_tc_fetchByte_27 rfl (Nat.le_of_ble_eq_true rfl) (fun v2 s3 => ?_)
  exact j_iret G d_tc_fetchByte_30
set_option maxHeartbeats 4000000 in
set_option maxRecDepth 100000 in
theorem k_tc_fetchByte {l : Launch} {E : Ev} {σ : CS} : CtI wdC l E y_tc_fetchByte bc_tc_fetchByte 2 (some .int) (rmm 1 23) [.ref (eO E 0)] σ (tc_fetchByte σ ) := ct_i (by decide) (Nat.le_of_ble_eq_true rfl) (fun X hE _ G => by subst hE; exact b_tc_fetchByte G σ )
def tc_fetchCode (σ : CS) : Option (Int32 × CS) :=
bd (tc_fetchByte σ) fun v1 s1 =>
if v1 = (16 : Int32) then (bd (tc_fetchByte s1) fun v3 s3 =>
some (((256 : Int32) ||| v3), s3)) else (if v1 = (17 : Int32) then (bd (tc_fetchByte s1) fun v2 s2 =>
some (((512 : Int32) ||| v2), s2)) else (some (v1, s1)))
set_option maxHeartbeats 4000000 in
set_option maxRecDepth 100000 in
theorem b_tc_fetchCode {X : Cx} (G : Gd X bc_tc_fetchCode 2 R_chip (some .int) (rmm 2 44)) (σ : CS) : J wdC X (QI wdC X) 2 0 [(0, .ref (eO (xE X) 0))] [] σ (tc_fetchCode σ ) := by
  unfold tc_fetchCode
  refine j_aload_n 0 G d_tc_fetchCode_0 rfl rfl ?_
  refine j_Vi0 G k_tc_fetchByte mw_tc_fetchByte lk_tc_tc_fetchByte rc_chip d_tc_fetchCode_1 rfl (Nat.le_of_ble_eq_true rfl) (fun v1 s1 => ?_)
  refine j_istore_n [1, 0] (L1 := [(0, .ref (eO (xE X) 0)), (1, .int v1)]) G d_tc_fetchCode_4 rfl (by decide) rfl ?_
  refine j_iload_n 1 G d_tc_fetchCode_5 rfl rfl ?_
  refine j_bipush G d_tc_fetchCode_6 cb_16 ?_
  refine j_icne G d_tc_fetchCode_8 (tgt := 20) rfl ?_ ?_
  · refine j_iload_n 1 G d_tc_fetchCode_20 rfl rfl ?_
    refine j_bipush G d_tc_fetchCode_21 cb_17 ?_
    refine j_icne G d_tc_fetchCode_23 (tgt := 35) rfl ?_ ?_
    · refine j_iload_n 1 G d_tc_fetchCode_35 rfl rfl ?_
      exact j_iret G d_tc_fetchCode_36
    · refine j_sipush G d_tc_fetchCode_26 cs_512 ?_
      refine j_aload_n 0 G d_tc_fetchCode_29 rfl rfl ?_
      refine j_Vi0 G k_tc_fetchByte mw_tc_fetchByte lk_tc_tc_fetchByte rc_chip d_tc_fetchCode_30 rfl (Nat.le_of_ble_eq_true rfl) (fun v2 s2 => ?_)
      refine j_ior G d_tc_fetchCode_33 ?_
      exact j_iret G d_tc_fetchCode_34
  · refine j_sipush G d_tc_fetchCode_11 cs_256 ?_
    refine j_aload_n 0 G d_tc_fetchCode_14 rfl rfl ?_
    refine j_Vi0 G k_tc_fetchByte mw_tc_fetchByte lk_tc_tc_fetchByte rc_chip d_tc_fetchCode_15 rfl (Nat.le_of_ble_eq_true rfl) (fun v3 s3 => ?_)
    refine j_ior G d_tc_fetchCode_18 ?_
    exact j_iret G d_tc_fetchCode_19
set_option maxHeartbeats 4000000 in
set_option maxRecDepth 100000 in
theorem k_tc_fetchCode {l : Launch} {E : Ev} {σ : CS} : CtI wdC l E y_tc_fetchCode bc_tc_fetchCode 2 (some .int) (rmm 2 44) [.ref (eO E 0)] σ (tc_fetchCode σ ) := ct_i (by decide) (Nat.le_of_ble_eq_true rfl) (fun X hE _ G => by subst hE; exact b_tc_fetchCode G σ )
def tc_isIndexed_42 (σ : CS) (t0 : Int32) : Option (Int32 × CS) :=
gd (isB t0) (some (t0, σ))
def tc_isIndexed_41 (σ : CS) : Option (Int32 × CS) :=
tc_isIndexed_42 σ (0 : Int32)
def tc_isIndexed_37 (σ : CS) : Option (Int32 × CS) :=
tc_isIndexed_42 σ (1 : Int32)
def tc_isIndexed (σ : CS) (a1 : Int32) : Option (Int32 × CS) :=
nm ((a1 >>> ((4 : Int32) &&& 31)) &&& (15 : Int32)) fun v1 =>
if v1 = (6 : Int32) then (tc_isIndexed_37 σ) else (if v1 = (10 : Int32) then (tc_isIndexed_37 σ) else (if v1 = (14 : Int32) then (tc_isIndexed_37 σ) else (if a1 < (48 : Int32) then (tc_isIndexed_41 σ) else (if (51 : Int32) < a1 then (tc_isIndexed_41 σ) else (tc_isIndexed_37 σ)))))
set_option maxHeartbeats 4000000 in
set_option maxRecDepth 100000 in
theorem b_tc_isIndexed_42 {X : Cx} (G : Gd X bc_tc_isIndexed 2 R_chip (some .boolean) (rmm 0 0)) (σ : CS) (t0 : Int32) : J wdC X (QI wdC X) 2 42 [] [.int t0] σ (tc_isIndexed_42 σ t0) := by
  unfold tc_isIndexed_42
  exact j_zret G d_tc_isIndexed_42
set_option maxHeartbeats 4000000 in
set_option maxRecDepth 100000 in
theorem b_tc_isIndexed_41 {X : Cx} (G : Gd X bc_tc_isIndexed 2 R_chip (some .boolean) (rmm 0 0)) (σ : CS) : J wdC X (QI wdC X) 2 41 [] [] σ (tc_isIndexed_41 σ ) := by
  unfold tc_isIndexed_41
  refine j_iconst G d_tc_isIndexed_41 ci_0 ?_
  exact b_tc_isIndexed_42 G σ (0 : Int32)
set_option maxHeartbeats 4000000 in
set_option maxRecDepth 100000 in
theorem b_tc_isIndexed_37 {X : Cx} (G : Gd X bc_tc_isIndexed 2 R_chip (some .boolean) (rmm 0 0)) (σ : CS) : J wdC X (QI wdC X) 2 37 [] [] σ (tc_isIndexed_37 σ ) := by
  unfold tc_isIndexed_37
  refine j_iconst G d_tc_isIndexed_37 ci_1 ?_
  refine j_goto G d_tc_isIndexed_38 (tgt := 42) rfl ?_
  exact b_tc_isIndexed_42 G σ (1 : Int32)
set_option maxHeartbeats 4000000 in
set_option maxRecDepth 100000 in
theorem b_tc_isIndexed {X : Cx} (G : Gd X bc_tc_isIndexed 2 R_chip (some .boolean) (rmm 0 0)) (σ : CS) (a1 : Int32) : J wdC X (QI wdC X) 2 0 [(0, .int a1)] [] σ (tc_isIndexed σ a1) := by
  unfold tc_isIndexed
  refine j_iload_n 0 G d_tc_isIndexed_0 rfl rfl ?_
  refine j_iconst G d_tc_isIndexed_1 ci_4 ?_
  refine j_ishr G d_tc_isIndexed_2 ?_
  refine j_bipush G d_tc_isIndexed_3 cb_15 ?_
  refine j_iand G d_tc_isIndexed_5 ?_
  refine j_nm (fun v1 => ?_)
  refine j_istore_n [1, 0] (L1 := [(0, .int a1), (1, .int v1)]) G d_tc_isIndexed_6 rfl (by decide) rfl ?_
  refine j_iload_n 1 G d_tc_isIndexed_7 rfl rfl ?_
  refine j_bipush G d_tc_isIndexed_8 cb_6 ?_
  refine j_iceq G d_tc_isIndexed_10 (tgt := 37) rfl ?_ ?_
  · refine j_sub [] (L1 := []) rfl ?_
    exact b_tc_isIndexed_37 G σ
  · refine j_iload_n 1 G d_tc_isIndexed_13 rfl rfl ?_
    refine j_bipush G d_tc_isIndexed_14 cb_10 ?_
    refine j_iceq G d_tc_isIndexed_16 (tgt := 37) rfl ?_ ?_
    · refine j_sub [] (L1 := []) rfl ?_
      exact b_tc_isIndexed_37 G σ
    · refine j_iload_n 1 G d_tc_isIndexed_19 rfl rfl ?_
      refine j_bipush G d_tc_isIndexed_20 cb_14 ?_
      refine j_iceq G d_tc_isIndexed_22 (tgt := 37) rfl ?_ ?_
      · refine j_sub [] (L1 := []) rfl ?_
        exact b_tc_isIndexed_37 G σ
      · refine j_iload_n 0 G d_tc_isIndexed_25 rfl rfl ?_
        refine j_bipush G d_tc_isIndexed_26 cb_48 ?_
        refine j_iclt G d_tc_isIndexed_28 (tgt := 41) rfl ?_ ?_
        · refine j_sub [] (L1 := []) rfl ?_
          exact b_tc_isIndexed_41 G σ
        · refine j_iload_n 0 G d_tc_isIndexed_31 rfl rfl ?_
          refine j_bipush G d_tc_isIndexed_32 cb_51 ?_
          refine j_icgt G d_tc_isIndexed_34 (tgt := 41) rfl ?_ ?_
          · refine j_sub [] (L1 := []) rfl ?_
            exact b_tc_isIndexed_41 G σ
          · refine j_sub [] (L1 := []) rfl ?_
            exact b_tc_isIndexed_37 G σ
set_option maxHeartbeats 4000000 in
set_option maxRecDepth 100000 in
theorem k_tc_isIndexed {l : Launch} {E : Ev} {σ : CS} {a1 : Int32} : CtI wdC l E y_tc_isIndexed bc_tc_isIndexed 2 (some .boolean) (rmm 0 0) [.int a1] σ (tc_isIndexed σ a1) := ct_i (by decide) (Nat.le_of_ble_eq_true rfl) (fun X hE _ G => by subst hE; exact b_tc_isIndexed G σ a1)
def tc_isDefinedPostbyte_49 (σ : CS) (t0 : Int32) : Option (Int32 × CS) :=
gd (isB t0) (some (t0, σ))
def tc_isDefinedPostbyte_32 (σ : CS) (l0 t0 : Int32) : Option (Int32 × CS) :=
if ((t0 >>> ((l0 &&& (15 : Int32)) &&& 31)) &&& (1 : Int32)) = 0 then (tc_isDefinedPostbyte_49 σ (0 : Int32)) else (tc_isDefinedPostbyte_49 σ (1 : Int32))
def tc_isDefinedPostbyte_14 (σ : CS) : Option (Int32 × CS) :=
some ((1 : Int32), σ)
def tc_isDefinedPostbyte (σ : CS) (a1 : Int32) : Option (Int32 × CS) :=
if a1 < (128 : Int32) then (tc_isDefinedPostbyte_14 σ) else (if a1 = (159 : Int32) then (tc_isDefinedPostbyte_14 σ) else (if (a1 &&& (16 : Int32)) = 0 then (tc_isDefinedPostbyte_32 σ a1 (15231 : Int32)) else (tc_isDefinedPostbyte_32 σ a1 (15226 : Int32))))
set_option maxHeartbeats 4000000 in
set_option maxRecDepth 100000 in
theorem b_tc_isDefinedPostbyte_49 {X : Cx} (G : Gd X bc_tc_isDefinedPostbyte 2 R_chip (some .boolean) (rmm 0 0)) (σ : CS) (t0 : Int32) : J wdC X (QI wdC X) 2 49 [] [.int t0] σ (tc_isDefinedPostbyte_49 σ t0) := by
  unfold tc_isDefinedPostbyte_49
  exact j_zret G d_tc_isDefinedPostbyte_49
set_option maxHeartbeats 4000000 in
set_option maxRecDepth 100000 in
theorem b_tc_isDefinedPostbyte_32 {X : Cx} (G : Gd X bc_tc_isDefinedPostbyte 2 R_chip (some .boolean) (rmm 0 0)) (σ : CS) (l0 t0 : Int32) : J wdC X (QI wdC X) 2 32 [(0, .int l0)] [.int t0] σ (tc_isDefinedPostbyte_32 σ l0 t0) := by
  unfold tc_isDefinedPostbyte_32
  refine j_istore_n [1, 0] (L1 := [(0, .int l0), (1, .int t0)]) G d_tc_isDefinedPostbyte_32 rfl (by decide) rfl ?_
  refine j_iload_n 1 G d_tc_isDefinedPostbyte_33 rfl rfl ?_
  refine j_iload_n 0 G d_tc_isDefinedPostbyte_34 rfl rfl ?_
  refine j_bipush G d_tc_isDefinedPostbyte_35 cb_15 ?_
  refine j_iand G d_tc_isDefinedPostbyte_37 ?_
  refine j_ishr G d_tc_isDefinedPostbyte_38 ?_
  refine j_iconst G d_tc_isDefinedPostbyte_39 ci_1 ?_
  refine j_iand G d_tc_isDefinedPostbyte_40 ?_
  refine j_ifeq G d_tc_isDefinedPostbyte_41 (tgt := 48) rfl ?_ ?_
  · refine j_iconst G d_tc_isDefinedPostbyte_48 ci_0 ?_
    refine j_sub [] (L1 := []) rfl ?_
    exact b_tc_isDefinedPostbyte_49 G σ (0 : Int32)
  · refine j_iconst G d_tc_isDefinedPostbyte_44 ci_1 ?_
    refine j_goto G d_tc_isDefinedPostbyte_45 (tgt := 49) rfl ?_
    refine j_sub [] (L1 := []) rfl ?_
    exact b_tc_isDefinedPostbyte_49 G σ (1 : Int32)
set_option maxHeartbeats 4000000 in
set_option maxRecDepth 100000 in
theorem b_tc_isDefinedPostbyte_14 {X : Cx} (G : Gd X bc_tc_isDefinedPostbyte 2 R_chip (some .boolean) (rmm 0 0)) (σ : CS) : J wdC X (QI wdC X) 2 14 [] [] σ (tc_isDefinedPostbyte_14 σ ) := by
  unfold tc_isDefinedPostbyte_14
  refine j_iconst G d_tc_isDefinedPostbyte_14 ci_1 ?_
  exact j_zretc (by decide) G d_tc_isDefinedPostbyte_15
set_option maxHeartbeats 4000000 in
set_option maxRecDepth 100000 in
theorem b_tc_isDefinedPostbyte {X : Cx} (G : Gd X bc_tc_isDefinedPostbyte 2 R_chip (some .boolean) (rmm 0 0)) (σ : CS) (a1 : Int32) : J wdC X (QI wdC X) 2 0 [(0, .int a1)] [] σ (tc_isDefinedPostbyte σ a1) := by
  unfold tc_isDefinedPostbyte
  refine j_iload_n 0 G d_tc_isDefinedPostbyte_0 rfl rfl ?_
  refine j_sipush G d_tc_isDefinedPostbyte_1 cs_128 ?_
  refine j_iclt G d_tc_isDefinedPostbyte_4 (tgt := 14) rfl ?_ ?_
  · refine j_sub [] (L1 := []) rfl ?_
    exact b_tc_isDefinedPostbyte_14 G σ
  · refine j_iload_n 0 G d_tc_isDefinedPostbyte_7 rfl rfl ?_
    refine j_sipush G d_tc_isDefinedPostbyte_8 cs_159 ?_
    refine j_icne G d_tc_isDefinedPostbyte_11 (tgt := 16) rfl ?_ ?_
    · refine j_iload_n 0 G d_tc_isDefinedPostbyte_16 rfl rfl ?_
      refine j_bipush G d_tc_isDefinedPostbyte_17 cb_16 ?_
      refine j_iand G d_tc_isDefinedPostbyte_19 ?_
      refine j_ifne G d_tc_isDefinedPostbyte_20 (tgt := 29) rfl ?_ ?_
      · refine j_sipush G d_tc_isDefinedPostbyte_29 cs_15226 ?_
        exact b_tc_isDefinedPostbyte_32 G σ a1 (15226 : Int32)
      · refine j_sipush G d_tc_isDefinedPostbyte_23 cs_15231 ?_
        refine j_goto G d_tc_isDefinedPostbyte_26 (tgt := 32) rfl ?_
        exact b_tc_isDefinedPostbyte_32 G σ a1 (15231 : Int32)
    · refine j_sub [] (L1 := []) rfl ?_
      exact b_tc_isDefinedPostbyte_14 G σ
set_option maxHeartbeats 4000000 in
set_option maxRecDepth 100000 in
theorem k_tc_isDefinedPostbyte {l : Launch} {E : Ev} {σ : CS} {a1 : Int32} : CtI wdC l E y_tc_isDefinedPostbyte bc_tc_isDefinedPostbyte 2 (some .boolean) (rmm 0 0) [.int a1] σ (tc_isDefinedPostbyte σ a1) := ct_i (by decide) (Nat.le_of_ble_eq_true rfl) (fun X hE _ G => by subst hE; exact b_tc_isDefinedPostbyte G σ a1)
def tc_isDefinedPair_58 (σ : CS) (t0 : Int32) : Option (Int32 × CS) :=
gd (isB t0) (some (t0, σ))
def tc_isDefinedPair_57 (σ : CS) : Option (Int32 × CS) :=
tc_isDefinedPair_58 σ (0 : Int32)
def tc_isDefinedPair_30 (σ : CS) (l0 l1 t0 : Int32) : Option (Int32 × CS) :=
if t0 = 0 then (tc_isDefinedPair_57 σ) else (gd (okI l0 (tln 3)) (
if (tvl 3 l0.toNatClampNeg) = (-1 : Int32) then (tc_isDefinedPair_57 σ) else (gd (okI l1 (tln 3)) (
if (tvl 3 l1.toNatClampNeg) = (-1 : Int32) then (tc_isDefinedPair_57 σ) else (tc_isDefinedPair_58 σ (1 : Int32))))))
def tc_isDefinedPair_22 (σ : CS) (l0 l1 t0 t1 : Int32) : Option (Int32 × CS) :=
if t1 = t0 then (tc_isDefinedPair_30 σ l0 l1 (1 : Int32)) else (tc_isDefinedPair_30 σ l0 l1 (0 : Int32))
def tc_isDefinedPair_11 (σ : CS) (l0 l1 t0 : Int32) : Option (Int32 × CS) :=
if (8 : Int32) ≤ l1 then (tc_isDefinedPair_22 σ l0 l1 (0 : Int32) t0) else (tc_isDefinedPair_22 σ l0 l1 (1 : Int32) t0)
def tc_isDefinedPair (σ : CS) (a1 a2 : Int32) : Option (Int32 × CS) :=
if (8 : Int32) ≤ a1 then (tc_isDefinedPair_11 σ a1 a2 (0 : Int32)) else (tc_isDefinedPair_11 σ a1 a2 (1 : Int32))
set_option maxHeartbeats 4000000 in
set_option maxRecDepth 100000 in
theorem b_tc_isDefinedPair_58 {X : Cx} (G : Gd X bc_tc_isDefinedPair 3 R_chip (some .boolean) (rmm 0 0)) (σ : CS) (t0 : Int32) : J wdC X (QI wdC X) 3 58 [] [.int t0] σ (tc_isDefinedPair_58 σ t0) := by
  unfold tc_isDefinedPair_58
  exact j_zret G d_tc_isDefinedPair_58
set_option maxHeartbeats 4000000 in
set_option maxRecDepth 100000 in
theorem b_tc_isDefinedPair_57 {X : Cx} (G : Gd X bc_tc_isDefinedPair 3 R_chip (some .boolean) (rmm 0 0)) (σ : CS) : J wdC X (QI wdC X) 3 57 [] [] σ (tc_isDefinedPair_57 σ ) := by
  unfold tc_isDefinedPair_57
  refine j_iconst G d_tc_isDefinedPair_57 ci_0 ?_
  exact b_tc_isDefinedPair_58 G σ (0 : Int32)
set_option maxHeartbeats 4000000 in
set_option maxRecDepth 100000 in
theorem b_tc_isDefinedPair_30 {X : Cx} (G : Gd X bc_tc_isDefinedPair 3 R_chip (some .boolean) (rmm 0 0)) (σ : CS) (l0 l1 t0 : Int32) : J wdC X (QI wdC X) 3 30 [(0, .int l0), (1, .int l1)] [.int t0] σ (tc_isDefinedPair_30 σ l0 l1 t0) := by
  unfold tc_isDefinedPair_30
  refine j_istore_n [1, 2, 0] (L1 := [(0, .int l0), (1, .int l1), (2, .int t0)]) G d_tc_isDefinedPair_30 rfl (by decide) rfl ?_
  refine j_iload_n 2 G d_tc_isDefinedPair_31 rfl rfl ?_
  refine j_ifeq G d_tc_isDefinedPair_32 (tgt := 57) rfl ?_ ?_
  · refine j_sub [] (L1 := []) rfl ?_
    exact b_tc_isDefinedPair_57 G σ
  · refine j_gets 3 (by decide) ks_tc_129 G d_tc_isDefinedPair_35 ?_
    refine j_iload_n 0 G d_tc_isDefinedPair_38 rfl rfl ?_
    refine j_tald 3 (by decide) G d_tc_isDefinedPair_39 ?_
    refine j_iconst G d_tc_isDefinedPair_40 ci_m1 ?_
    refine j_iceq G d_tc_isDefinedPair_41 (tgt := 57) rfl ?_ ?_
    · refine j_sub [] (L1 := []) rfl ?_
      exact b_tc_isDefinedPair_57 G σ
    · refine j_gets 3 (by decide) ks_tc_129 G d_tc_isDefinedPair_44 ?_
      refine j_iload_n 1 G d_tc_isDefinedPair_47 rfl rfl ?_
      refine j_tald 3 (by decide) G d_tc_isDefinedPair_48 ?_
      refine j_iconst G d_tc_isDefinedPair_49 ci_m1 ?_
      refine j_iceq G d_tc_isDefinedPair_50 (tgt := 57) rfl ?_ ?_
      · refine j_sub [] (L1 := []) rfl ?_
        exact b_tc_isDefinedPair_57 G σ
      · refine j_iconst G d_tc_isDefinedPair_53 ci_1 ?_
        refine j_goto G d_tc_isDefinedPair_54 (tgt := 58) rfl ?_
        refine j_sub [] (L1 := []) rfl ?_
        exact b_tc_isDefinedPair_58 G σ (1 : Int32)
set_option maxHeartbeats 4000000 in
set_option maxRecDepth 100000 in
theorem b_tc_isDefinedPair_22 {X : Cx} (G : Gd X bc_tc_isDefinedPair 3 R_chip (some .boolean) (rmm 0 0)) (σ : CS) (l0 l1 t0 t1 : Int32) : J wdC X (QI wdC X) 3 22 [(0, .int l0), (1, .int l1)] [.int t0, .int t1] σ (tc_isDefinedPair_22 σ l0 l1 t0 t1) := by
  unfold tc_isDefinedPair_22
  refine j_icne G d_tc_isDefinedPair_22 (tgt := 29) rfl ?_ ?_
  · refine j_iconst G d_tc_isDefinedPair_29 ci_0 ?_
    exact b_tc_isDefinedPair_30 G σ l0 l1 (0 : Int32)
  · refine j_iconst G d_tc_isDefinedPair_25 ci_1 ?_
    refine j_goto G d_tc_isDefinedPair_26 (tgt := 30) rfl ?_
    exact b_tc_isDefinedPair_30 G σ l0 l1 (1 : Int32)
set_option maxHeartbeats 4000000 in
set_option maxRecDepth 100000 in
theorem b_tc_isDefinedPair_11 {X : Cx} (G : Gd X bc_tc_isDefinedPair 3 R_chip (some .boolean) (rmm 0 0)) (σ : CS) (l0 l1 t0 : Int32) : J wdC X (QI wdC X) 3 11 [(0, .int l0), (1, .int l1)] [.int t0] σ (tc_isDefinedPair_11 σ l0 l1 t0) := by
  unfold tc_isDefinedPair_11
  refine j_iload_n 1 G d_tc_isDefinedPair_11 rfl rfl ?_
  refine j_bipush G d_tc_isDefinedPair_12 cb_8 ?_
  refine j_icge G d_tc_isDefinedPair_14 (tgt := 21) rfl ?_ ?_
  · refine j_iconst G d_tc_isDefinedPair_21 ci_0 ?_
    exact b_tc_isDefinedPair_22 G σ l0 l1 (0 : Int32) t0
  · refine j_iconst G d_tc_isDefinedPair_17 ci_1 ?_
    refine j_goto G d_tc_isDefinedPair_18 (tgt := 22) rfl ?_
    exact b_tc_isDefinedPair_22 G σ l0 l1 (1 : Int32) t0
set_option maxHeartbeats 4000000 in
set_option maxRecDepth 100000 in
theorem b_tc_isDefinedPair {X : Cx} (G : Gd X bc_tc_isDefinedPair 3 R_chip (some .boolean) (rmm 0 0)) (σ : CS) (a1 a2 : Int32) : J wdC X (QI wdC X) 3 0 [(0, .int a1), (1, .int a2)] [] σ (tc_isDefinedPair σ a1 a2) := by
  unfold tc_isDefinedPair
  refine j_iload_n 0 G d_tc_isDefinedPair_0 rfl rfl ?_
  refine j_bipush G d_tc_isDefinedPair_1 cb_8 ?_
  refine j_icge G d_tc_isDefinedPair_3 (tgt := 10) rfl ?_ ?_
  · refine j_iconst G d_tc_isDefinedPair_10 ci_0 ?_
    exact b_tc_isDefinedPair_11 G σ a1 a2 (0 : Int32)
  · refine j_iconst G d_tc_isDefinedPair_6 ci_1 ?_
    refine j_goto G d_tc_isDefinedPair_7 (tgt := 11) rfl ?_
    exact b_tc_isDefinedPair_11 G σ a1 a2 (1 : Int32)
set_option maxHeartbeats 4000000 in
set_option maxRecDepth 100000 in
theorem k_tc_isDefinedPair {l : Launch} {E : Ev} {σ : CS} {a1 a2 : Int32} : CtI wdC l E y_tc_isDefinedPair bc_tc_isDefinedPair 3 (some .boolean) (rmm 0 0) [.int a1, .int a2] σ (tc_isDefinedPair σ a1 a2) := ct_i (by decide) (Nat.le_of_ble_eq_true rfl) (fun X hE _ G => by subst hE; exact b_tc_isDefinedPair G σ a1 a2)
def tc_isDefined_60 (σ : CS) (l2 : Int32) : Option (Int32 × CS) :=
bd (tc_isDefinedPair σ (l2 >>> ((4 : Int32) &&& 31)) (l2 &&& (15 : Int32))) fun v1 s1 =>
gd (isB v1) (some (v1, s1))
def tc_isDefined (σ : CS) (a1 : Int32) : Option (Int32 × CS) :=
gd (okI (a1 >>> ((4 : Int32) &&& 31)) (tln 2)) (
nm ((tvl 2 (a1 >>> ((4 : Int32) &&& 31)).toNatClampNeg) >>> ((a1 &&& (15 : Int32)) &&& 31)) fun v1 =>
if (v1 &&& (1 : Int32)) = 0 then (some ((0 : Int32), σ)) else (bd (re_get σ (6 : Int32)) fun v2 s1 =>
bd (me_byteAt s1 v2) fun v3 s2 =>
bd (tc_isIndexed s2 a1) fun v4 s3 =>
if v4 = 0 then (if a1 = (30 : Int32) then (tc_isDefined_60 s3 v3) else (if a1 = (31 : Int32) then (tc_isDefined_60 s3 v3) else (some ((1 : Int32), s3)))) else (bd (tc_isDefinedPostbyte s3 v3) fun v5 s4 =>
gd (isB v5) (some (v5, s4)))))
set_option maxHeartbeats 4000000 in
set_option maxRecDepth 100000 in
theorem b_tc_isDefined_60 {X : Cx} (G : Gd X bc_tc_isDefined 3 R_chip (some .boolean) (rmm 1 22)) (σ : CS) (l2 : Int32) : J wdC X (QI wdC X) 3 60 [(0, .ref (eO (xE X) 0)), (2, .int l2)] [] σ (tc_isDefined_60 σ l2) := by
  unfold tc_isDefined_60
  refine j_iload_n 1 G d_tc_isDefined_60 rfl rfl ?_
  refine j_iconst G d_tc_isDefined_61 ci_4 ?_
  refine j_ishr G d_tc_isDefined_62 ?_
  refine j_iload_n 1 G d_tc_isDefined_63 rfl rfl ?_
  refine j_bipush G d_tc_isDefined_64 cb_15 ?_
  refine j_iand G d_tc_isDefined_66 ?_
  refine j_Si2 G k_tc_isDefinedPair mw_tc_isDefinedPair lk_tc_tc_isDefinedPair d_tc_isDefined_67 rfl (Nat.le_of_ble_eq_true rfl) (fun v1 s1 => ?_)
  exact j_zret G d_tc_isDefined_70
set_option maxHeartbeats 4000000 in
set_option maxRecDepth 100000 in
theorem b_tc_isDefined {X : Cx} (G : Gd X bc_tc_isDefined 3 R_chip (some .boolean) (rmm 1 22)) (σ : CS) (a1 : Int32) : J wdC X (QI wdC X) 3 0 [(0, .ref (eO (xE X) 0)), (1, .int a1)] [] σ (tc_isDefined σ a1) := by
  unfold tc_isDefined
  refine j_gets 2 (by decide) ks_tc_116 G d_tc_isDefined_0 ?_
  refine j_iload_n 1 G d_tc_isDefined_3 rfl rfl ?_
  refine j_iconst G d_tc_isDefined_4 ci_4 ?_
  refine j_ishr G d_tc_isDefined_5 ?_
  refine j_tald 2 (by decide) G d_tc_isDefined_6 ?_
  refine j_iload_n 1 G d_tc_isDefined_7 rfl rfl ?_
  refine j_bipush G d_tc_isDefined_8 cb_15 ?_
  refine j_iand G d_tc_isDefined_10 ?_
  refine j_ishr G d_tc_isDefined_11 ?_
  refine j_nm (fun v1 => ?_)
  refine j_iconst G d_tc_isDefined_12 ci_1 ?_
  refine j_iand G d_tc_isDefined_13 ?_
  refine j_ifne G d_tc_isDefined_14 (tgt := 19) rfl ?_ ?_
  · refine j_aload_n 0 G d_tc_isDefined_19 rfl rfl ?_
    refine g_tc_memory G d_tc_isDefined_20 ?_
    refine j_aload_n 0 G d_tc_isDefined_23 rfl rfl ?_
    refine g_tc_registers G d_tc_isDefined_24 ?_
    refine j_bipush G d_tc_isDefined_27 cb_6 ?_
    refine j_Vi1 G k_re_get mw_re_get lk_tc_re_get rc_reg d_tc_isDefined_29 rfl (Nat.le_of_ble_eq_true rfl) (fun v2 s1 => ?_)
    refine j_Vi1 G k_me_byteAt mw_me_byteAt lk_tc_me_byteAt rc_mem d_tc_isDefined_32 rfl (Nat.le_of_ble_eq_true rfl) (fun v3 s2 => ?_)
    refine j_istore_n [1, 2, 0] (L1 := [(0, .ref (eO (xE X) 0)), (1, .int a1), (2, .int v3)]) G d_tc_isDefined_35 rfl (by decide) rfl ?_
    refine j_iload_n 1 G d_tc_isDefined_36 rfl rfl ?_
    refine j_Si1 G k_tc_isIndexed mw_tc_isIndexed lk_tc_tc_isIndexed d_tc_isDefined_37 rfl (Nat.le_of_ble_eq_true rfl) (fun v4 s3 => ?_)
    refine j_ifeq G d_tc_isDefined_40 (tgt := 48) rfl ?_ ?_
    · refine j_iload_n 1 G d_tc_isDefined_48 rfl rfl ?_
      refine j_bipush G d_tc_isDefined_49 cb_30 ?_
      refine j_iceq G d_tc_isDefined_51 (tgt := 60) rfl ?_ ?_
      · refine j_sub [0, 2] (L1 := [(0, .ref (eO (xE X) 0)), (2, .int v3)]) rfl ?_
        exact b_tc_isDefined_60 G s3 v3
      · refine j_iload_n 1 G d_tc_isDefined_54 rfl rfl ?_
        refine j_bipush G d_tc_isDefined_55 cb_31 ?_
        refine j_icne G d_tc_isDefined_57 (tgt := 71) rfl ?_ ?_
        · refine j_iconst G d_tc_isDefined_71 ci_1 ?_
          exact j_zretc (by decide) G d_tc_isDefined_72
        · refine j_sub [0, 2] (L1 := [(0, .ref (eO (xE X) 0)), (2, .int v3)]) rfl ?_
          exact b_tc_isDefined_60 G s3 v3
    · refine j_iload_n 2 G d_tc_isDefined_43 rfl rfl ?_
      refine j_Si1 G k_tc_isDefinedPostbyte mw_tc_isDefinedPostbyte lk_tc_tc_isDefinedPostbyte d_tc_isDefined_44 rfl (Nat.le_of_ble_eq_true rfl) (fun v5 s4 => ?_)
      exact j_zret G d_tc_isDefined_47
  · refine j_iconst G d_tc_isDefined_17 ci_0 ?_
    exact j_zretc (by decide) G d_tc_isDefined_18
set_option maxHeartbeats 4000000 in
set_option maxRecDepth 100000 in
theorem k_tc_isDefined {l : Launch} {E : Ev} {σ : CS} {a1 : Int32} : CtI wdC l E y_tc_isDefined bc_tc_isDefined 3 (some .boolean) (rmm 1 22) [.ref (eO E 0), .int a1] σ (tc_isDefined σ a1) := ct_i (by decide) (Nat.le_of_ble_eq_true rfl) (fun X hE _ G => by subst hE; exact b_tc_isDefined G σ a1)
def tc_fetchWord (σ : CS) : Option (Int32 × CS) :=
bd (re_get σ (6 : Int32)) fun v1 s1 =>
bd (re_set s1 (6 : Int32) (v1 + (2 : Int32))) fun _ s2 =>
bd (me_wordAt s2 v1) fun v2 s3 =>
some (v2, s3)
set_option maxHeartbeats 4000000 in
set_option maxRecDepth 100000 in
theorem b_tc_fetchWord {X : Cx} (G : Gd X bc_tc_fetchWord 2 R_chip (some .int) (rmm 1 23)) (σ : CS) : J wdC X (QI wdC X) 2 0 [(0, .ref (eO (xE X) 0))] [] σ (tc_fetchWord σ ) := by
  unfold tc_fetchWord
  refine j_aload_n 0 G d_tc_fetchWord_0 rfl rfl ?_
  refine g_tc_registers G d_tc_fetchWord_1 ?_
  refine j_bipush G d_tc_fetchWord_4 cb_6 ?_
  refine j_Vi1 G k_re_get mw_re_get lk_tc_re_get rc_reg d_tc_fetchWord_6 rfl (Nat.le_of_ble_eq_true rfl) (fun v1 s1 => ?_)
  refine j_istore_n [1, 0] (L1 := [(0, .ref (eO (xE X) 0)), (1, .int v1)]) G d_tc_fetchWord_9 rfl (by decide) rfl ?_
  refine j_aload_n 0 G d_tc_fetchWord_10 rfl rfl ?_
  refine g_tc_registers G d_tc_fetchWord_11 ?_
  refine j_bipush G d_tc_fetchWord_14 cb_6 ?_
  refine j_iload_n 1 G d_tc_fetchWord_16 rfl rfl ?_
  refine j_iconst G d_tc_fetchWord_17 ci_2 ?_
  refine j_iadd G d_tc_fetchWord_18 ?_
  refine j_Vv2 G k_re_set mw_re_set lk_tc_re_set rc_reg d_tc_fetchWord_19 rfl (Nat.le_of_ble_eq_true rfl) (fun _ s2 => ?_)
  refine j_aload_n 0 G d_tc_fetchWord_22 rfl rfl ?_
  refine g_tc_memory G d_tc_fetchWord_23 ?_
  refine j_iload_n 1 G d_tc_fetchWord_26 rfl rfl ?_
  refine j_Vi1 G k_me_wordAt mw_me_wordAt lk_tc_me_wordAt rc_mem d_tc_fetchWord_27 rfl (Nat.le_of_ble_eq_true rfl) (fun v2 s3 => ?_)
  exact j_iret G d_tc_fetchWord_30
set_option maxHeartbeats 4000000 in
set_option maxRecDepth 100000 in
theorem k_tc_fetchWord {l : Launch} {E : Ev} {σ : CS} : CtI wdC l E y_tc_fetchWord bc_tc_fetchWord 2 (some .int) (rmm 1 23) [.ref (eO E 0)] σ (tc_fetchWord σ ) := ct_i (by decide) (Nat.le_of_ble_eq_true rfl) (fun X hE _ G => by subst hE; exact b_tc_fetchWord G σ )
def tc_goOn (σ : CS) (a1 : Int32) : Option (Int32 × CS) :=
bd (re_get σ (6 : Int32)) fun v1 s1 =>
bd (re_set s1 (6 : Int32) (v1 + a1)) fun _ s2 =>
some ((0 : Int32), s2)
set_option maxHeartbeats 4000000 in
set_option maxRecDepth 100000 in
theorem b_tc_goOn {X : Cx} (G : Gd X bc_tc_goOn 2 R_chip none (rmm 1 23)) (σ : CS) (a1 : Int32) : J wdC X (QV wdC X) 2 0 [(0, .ref (eO (xE X) 0)), (1, .int a1)] [] σ (tc_goOn σ a1) := by
  unfold tc_goOn
  refine j_aload_n 0 G d_tc_goOn_0 rfl rfl ?_
  refine g_tc_registers G d_tc_goOn_1 ?_
  refine j_bipush G d_tc_goOn_4 cb_6 ?_
  refine j_aload_n 0 G d_tc_goOn_6 rfl rfl ?_
  refine g_tc_registers G d_tc_goOn_7 ?_
  refine j_bipush G d_tc_goOn_10 cb_6 ?_
  refine j_Vi1 G k_re_get mw_re_get lk_tc_re_get rc_reg d_tc_goOn_12 rfl (Nat.le_of_ble_eq_true rfl) (fun v1 s1 => ?_)
  refine j_iload_n 1 G d_tc_goOn_15 rfl rfl ?_
  refine j_iadd G d_tc_goOn_16 ?_
  refine j_Vv2 G k_re_set mw_re_set lk_tc_re_set rc_reg d_tc_goOn_17 rfl (Nat.le_of_ble_eq_true rfl) (fun _ s2 => ?_)
  exact j_vret G d_tc_goOn_20
set_option maxHeartbeats 4000000 in
set_option maxRecDepth 100000 in
theorem k_tc_goOn {l : Launch} {E : Ev} {σ : CS} {a1 : Int32} : CtV wdC l E y_tc_goOn bc_tc_goOn 2 none (rmm 1 23) [.ref (eO E 0), .int a1] σ (tc_goOn σ a1) := ct_v (by decide) (Nat.le_of_ble_eq_true rfl) (fun X hE _ G => by subst hE; exact b_tc_goOn G σ a1)
def tc_callRelative (σ : CS) (a1 : Int32) : Option (Int32 × CS) :=
bd (re_get σ (6 : Int32)) fun v1 s1 =>
bd (tc_pushWord s1 (5 : Int32) v1) fun _ s2 =>
bd (tc_goOn s2 a1) fun _ s3 =>
some ((0 : Int32), s3)
set_option maxHeartbeats 4000000 in
set_option maxRecDepth 100000 in
theorem b_tc_callRelative {X : Cx} (G : Gd X bc_tc_callRelative 2 R_chip none (rmm 2 45)) (σ : CS) (a1 : Int32) : J wdC X (QV wdC X) 2 0 [(0, .ref (eO (xE X) 0)), (1, .int a1)] [] σ (tc_callRelative σ a1) := by
  unfold tc_callRelative
  refine j_aload_n 0 G d_tc_callRelative_0 rfl rfl ?_
  refine j_iconst G d_tc_callRelative_1 ci_5 ?_
  refine j_aload_n 0 G d_tc_callRelative_2 rfl rfl ?_
  refine g_tc_registers G d_tc_callRelative_3 ?_
  refine j_bipush G d_tc_callRelative_6 cb_6 ?_
  refine j_Vi1 G k_re_get mw_re_get lk_tc_re_get rc_reg d_tc_callRelative_8 rfl (Nat.le_of_ble_eq_true rfl) (fun v1 s1 => ?_)
  refine j_Vv2 G k_tc_pushWord mw_tc_pushWord lk_tc_tc_pushWord rc_chip d_tc_callRelative_11 rfl (Nat.le_of_ble_eq_true rfl) (fun _ s2 => ?_)
  refine j_aload_n 0 G d_tc_callRelative_14 rfl rfl ?_
  refine j_iload_n 1 G d_tc_callRelative_15 rfl rfl ?_
  refine j_Vv1 G k_tc_goOn mw_tc_goOn lk_tc_tc_goOn rc_chip d_tc_callRelative_16 rfl (Nat.le_of_ble_eq_true rfl) (fun _ s3 => ?_)
  exact j_vret G d_tc_callRelative_19
set_option maxHeartbeats 4000000 in
set_option maxRecDepth 100000 in
theorem k_tc_callRelative {l : Launch} {E : Ev} {σ : CS} {a1 : Int32} : CtV wdC l E y_tc_callRelative bc_tc_callRelative 2 none (rmm 2 45) [.ref (eO E 0), .int a1] σ (tc_callRelative σ a1) := ct_v (by decide) (Nat.le_of_ble_eq_true rfl) (fun X hE _ G => by subst hE; exact b_tc_callRelative G σ a1)
def tc_become_19 (σ : CS) : Option (Int32 × CS) :=
some ((0 : Int32), σ)
def tc_become (σ : CS) (a1 a2 : Int32) : Option (Int32 × CS) :=
bd (re_set σ a1 a2) fun _ s1 =>
if a1 = (5 : Int32) then (ns (cy_arm s1 (1 : Int32)) fun s2 =>
tc_become_19 s2) else (tc_become_19 s1)
set_option maxHeartbeats 4000000 in
set_option maxRecDepth 100000 in
theorem b_tc_become_19 {X : Cx} (G : Gd X bc_tc_become 3 R_chip none (rmm 1 23)) (σ : CS) : J wdC X (QV wdC X) 3 19 [(0, .ref (eO (xE X) 0))] [] σ (tc_become_19 σ ) := by
  unfold tc_become_19
  exact j_vret G d_tc_become_19
set_option maxHeartbeats 4000000 in
set_option maxRecDepth 100000 in
theorem b_tc_become {X : Cx} (G : Gd X bc_tc_become 3 R_chip none (rmm 1 23)) (σ : CS) (a1 a2 : Int32) : J wdC X (QV wdC X) 3 0 [(0, .ref (eO (xE X) 0)), (1, .int a1), (2, .int a2)] [] σ (tc_become σ a1 a2) := by
  unfold tc_become
  refine j_aload_n 0 G d_tc_become_0 rfl rfl ?_
  refine g_tc_registers G d_tc_become_1 ?_
  refine j_iload_n 1 G d_tc_become_4 rfl rfl ?_
  refine j_iload_n 2 G d_tc_become_5 rfl rfl ?_
  refine j_Vv2 G k_re_set mw_re_set lk_tc_re_set rc_reg d_tc_become_6 rfl (Nat.le_of_ble_eq_true rfl) (fun _ s1 => ?_)
  refine j_iload_n 1 G d_tc_become_9 rfl rfl ?_
  refine j_iconst G d_tc_become_10 ci_5 ?_
  refine j_icne G d_tc_become_11 (tgt := 19) rfl ?_ ?_
  · refine j_sub [0] (L1 := [(0, .ref (eO (xE X) 0))]) rfl ?_
    exact b_tc_become_19 G s1
  · refine j_aload_n 0 G d_tc_become_14 rfl rfl ?_
    refine j_iconst G d_tc_become_15 ci_1 ?_
    refine pc_tc_nmiArmed (by decide) G d_tc_become_16 ?_
    refine j_ns (fun s2 => ?_)
    refine j_sub [0] (L1 := [(0, .ref (eO (xE X) 0))]) rfl ?_
    exact b_tc_become_19 G s2
set_option maxHeartbeats 4000000 in
set_option maxRecDepth 100000 in
theorem k_tc_become {l : Launch} {E : Ev} {σ : CS} {a1 a2 : Int32} : CtV wdC l E y_tc_become bc_tc_become 3 none (rmm 1 23) [.ref (eO E 0), .int a1, .int a2] σ (tc_become σ a1 a2) := ct_v (by decide) (Nat.le_of_ble_eq_true rfl) (fun X hE _ G => by subst hE; exact b_tc_become G σ a1 a2)
def tc_exchange (σ : CS) (a1 : Int32) : Option (Int32 × CS) :=
gd (okI (a1 >>> ((4 : Int32) &&& 31)) (tln 3)) (
nm (tvl 3 (a1 >>> ((4 : Int32) &&& 31)).toNatClampNeg) fun v1 =>
gd (okI (a1 &&& (15 : Int32)) (tln 3)) (
nm (tvl 3 (a1 &&& (15 : Int32)).toNatClampNeg) fun v2 =>
bd (re_get σ v1) fun v3 s1 =>
bd (re_get s1 v2) fun v4 s2 =>
bd (tc_become s2 v1 v4) fun _ s3 =>
bd (tc_become s3 v2 v3) fun _ s4 =>
some ((0 : Int32), s4)))
set_option maxHeartbeats 4000000 in
set_option maxRecDepth 100000 in
theorem b_tc_exchange {X : Cx} (G : Gd X bc_tc_exchange 5 R_chip none (rmm 2 45)) (σ : CS) (a1 : Int32) : J wdC X (QV wdC X) 5 0 [(0, .ref (eO (xE X) 0)), (1, .int a1)] [] σ (tc_exchange σ a1) := by
  unfold tc_exchange
  refine j_gets 3 (by decide) ks_tc_129 G d_tc_exchange_0 ?_
  refine j_iload_n 1 G d_tc_exchange_3 rfl rfl ?_
  refine j_iconst G d_tc_exchange_4 ci_4 ?_
  refine j_ishr G d_tc_exchange_5 ?_
  refine j_tald 3 (by decide) G d_tc_exchange_6 ?_
  refine j_nm (fun v1 => ?_)
  refine j_istore_n [1, 2, 0] (L1 := [(0, .ref (eO (xE X) 0)), (1, .int a1), (2, .int v1)]) G d_tc_exchange_7 rfl (by decide) rfl ?_
  refine j_gets 3 (by decide) ks_tc_129 G d_tc_exchange_8 ?_
  refine j_iload_n 1 G d_tc_exchange_11 rfl rfl ?_
  refine j_bipush G d_tc_exchange_12 cb_15 ?_
  refine j_iand G d_tc_exchange_14 ?_
  refine j_tald 3 (by decide) G d_tc_exchange_15 ?_
  refine j_nm (fun v2 => ?_)
  refine j_istore_n [1, 3, 0] (L1 := [(0, .ref (eO (xE X) 0)), (2, .int v1), (3, .int v2)]) G d_tc_exchange_16 rfl (by decide) rfl ?_
  refine j_aload_n 0 G d_tc_exchange_17 rfl rfl ?_
  refine g_tc_registers G d_tc_exchange_18 ?_
  refine j_iload_n 1 G d_tc_exchange_21 rfl rfl ?_
  refine j_Vi1 G k_re_get mw_re_get lk_tc_re_get rc_reg d_tc_exchange_22 rfl (Nat.le_of_ble_eq_true rfl) (fun v3 s1 => ?_)
  refine j_istore [1, 2, 3, 0] (L1 := [(0, .ref (eO (xE X) 0)), (2, .int v1), (3, .int v2), (4, .int v3)]) G d_tc_exchange_25 (by decide) rfl ?_
  refine j_aload_n 0 G d_tc_exchange_27 rfl rfl ?_
  refine j_iload_n 1 G d_tc_exchange_28 rfl rfl ?_
  refine j_aload_n 0 G d_tc_exchange_29 rfl rfl ?_
  refine g_tc_registers G d_tc_exchange_30 ?_
  refine j_iload_n 2 G d_tc_exchange_33 rfl rfl ?_
  refine j_Vi1 G k_re_get mw_re_get lk_tc_re_get rc_reg d_tc_exchange_34 rfl (Nat.le_of_ble_eq_true rfl) (fun v4 s2 => ?_)
  refine j_Vv2 G k_tc_become mw_tc_become lk_tc_tc_become rc_chip d_tc_exchange_37 rfl (Nat.le_of_ble_eq_true rfl) (fun _ s3 => ?_)
  refine j_aload_n 0 G d_tc_exchange_40 rfl rfl ?_
  refine j_iload_n 2 G d_tc_exchange_41 rfl rfl ?_
  refine j_iload 3 G d_tc_exchange_42 rfl ?_
  refine j_Vv2 G k_tc_become mw_tc_become lk_tc_tc_become rc_chip d_tc_exchange_44 rfl (Nat.le_of_ble_eq_true rfl) (fun _ s4 => ?_)
  exact j_vret G d_tc_exchange_47
set_option maxHeartbeats 4000000 in
set_option maxRecDepth 100000 in
theorem k_tc_exchange {l : Launch} {E : Ev} {σ : CS} {a1 : Int32} : CtV wdC l E y_tc_exchange bc_tc_exchange 5 none (rmm 2 45) [.ref (eO E 0), .int a1] σ (tc_exchange σ a1) := ct_v (by decide) (Nat.le_of_ble_eq_true rfl) (fun X hE _ G => by subst hE; exact b_tc_exchange G σ a1)
def tc_transfer (σ : CS) (a1 : Int32) : Option (Int32 × CS) :=
gd (okI (a1 &&& (15 : Int32)) (tln 3)) (
gd (okI (a1 >>> ((4 : Int32) &&& 31)) (tln 3)) (
bd (re_get σ (tvl 3 (a1 >>> ((4 : Int32) &&& 31)).toNatClampNeg)) fun v1 s1 =>
bd (tc_become s1 (tvl 3 (a1 &&& (15 : Int32)).toNatClampNeg) v1) fun _ s2 =>
some ((0 : Int32), s2)))
set_option maxHeartbeats 4000000 in
set_option maxRecDepth 100000 in
theorem b_tc_transfer {X : Cx} (G : Gd X bc_tc_transfer 2 R_chip none (rmm 2 45)) (σ : CS) (a1 : Int32) : J wdC X (QV wdC X) 2 0 [(0, .ref (eO (xE X) 0)), (1, .int a1)] [] σ (tc_transfer σ a1) := by
  unfold tc_transfer
  refine j_aload_n 0 G d_tc_transfer_0 rfl rfl ?_
  refine j_gets 3 (by decide) ks_tc_129 G d_tc_transfer_1 ?_
  refine j_iload_n 1 G d_tc_transfer_4 rfl rfl ?_
  refine j_bipush G d_tc_transfer_5 cb_15 ?_
  refine j_iand G d_tc_transfer_7 ?_
  refine j_tald 3 (by decide) G d_tc_transfer_8 ?_
  refine j_aload_n 0 G d_tc_transfer_9 rfl rfl ?_
  refine g_tc_registers G d_tc_transfer_10 ?_
  refine j_gets 3 (by decide) ks_tc_129 G d_tc_transfer_13 ?_
  refine j_iload_n 1 G d_tc_transfer_16 rfl rfl ?_
  refine j_iconst G d_tc_transfer_17 ci_4 ?_
  refine j_ishr G d_tc_transfer_18 ?_
  refine j_tald 3 (by decide) G d_tc_transfer_19 ?_
  refine j_Vi1 G k_re_get mw_re_get lk_tc_re_get rc_reg d_tc_transfer_20 rfl (Nat.le_of_ble_eq_true rfl) (fun v1 s1 => ?_)
  refine j_Vv2 G k_tc_become mw_tc_become lk_tc_tc_become rc_chip d_tc_transfer_23 rfl (Nat.le_of_ble_eq_true rfl) (fun _ s2 => ?_)
  exact j_vret G d_tc_transfer_26
set_option maxHeartbeats 4000000 in
set_option maxRecDepth 100000 in
theorem k_tc_transfer {l : Launch} {E : Ev} {σ : CS} {a1 : Int32} : CtV wdC l E y_tc_transfer bc_tc_transfer 2 none (rmm 2 45) [.ref (eO E 0), .int a1] σ (tc_transfer σ a1) := ct_v (by decide) (Nat.le_of_ble_eq_true rfl) (fun X hE _ G => by subst hE; exact b_tc_transfer G σ a1)
def tc_executeRowOne_192 (σ : CS) : Option (Int32 × CS) :=
some ((0 : Int32), σ)
def tc_executeRowOne (σ : CS) (a1 : Int32) : Option (Int32 × CS) :=
swi a1 [((3 : Int32), 68, ns (cy_wai σ (1 : Int32)) fun s1 =>
tc_executeRowOne_192 s1),
 ((6 : Int32), 76, bd (tc_fetchWord σ) fun v1 s2 =>
bd (tc_goOn s2 v1) fun _ s3 =>
tc_executeRowOne_192 s3),
 ((7 : Int32), 87, bd (tc_fetchWord σ) fun v2 s4 =>
bd (tc_callRelative s4 v2) fun _ s5 =>
tc_executeRowOne_192 s5),
 ((9 : Int32), 98, bd (ar_adjustDecimal σ) fun _ s6 =>
tc_executeRowOne_192 s6),
 ((10 : Int32), 108, bd (re_get σ (8 : Int32)) fun v3 s7 =>
bd (tc_fetchByte s7) fun v4 s8 =>
bd (re_set s8 (8 : Int32) (v3 ||| v4)) fun _ s9 =>
tc_executeRowOne_192 s9),
 ((12 : Int32), 134, bd (re_get σ (8 : Int32)) fun v5 s10 =>
bd (tc_fetchByte s10) fun v6 s11 =>
bd (re_set s11 (8 : Int32) (v5 &&& v6)) fun _ s12 =>
tc_executeRowOne_192 s12),
 ((13 : Int32), 160, bd (ar_extendSign σ) fun _ s13 =>
tc_executeRowOne_192 s13),
 ((14 : Int32), 170, bd (tc_fetchByte σ) fun v7 s14 =>
bd (tc_exchange s14 v7) fun _ s15 =>
tc_executeRowOne_192 s15),
 ((15 : Int32), 181, bd (tc_fetchByte σ) fun v8 s16 =>
bd (tc_transfer s16 v8) fun _ s17 =>
tc_executeRowOne_192 s17)] (tc_executeRowOne_192 σ)
set_option maxHeartbeats 4000000 in
set_option maxRecDepth 100000 in
theorem b_tc_executeRowOne_192 {X : Cx} (G : Gd X bc_tc_executeRowOne 2 R_chip none (rmm 3 69)) (σ : CS) : J wdC X (QV wdC X) 2 192 [(0, .ref (eO (xE X) 0))] [] σ (tc_executeRowOne_192 σ ) := by
  unfold tc_executeRowOne_192
  exact j_vret G d_tc_executeRowOne_192
set_option maxHeartbeats 4000000 in
set_option maxRecDepth 100000 in
theorem b_tc_executeRowOne {X : Cx} (G : Gd X bc_tc_executeRowOne 2 R_chip none (rmm 3 69)) (σ : CS) (a1 : Int32) : J wdC X (QV wdC X) 2 0 [(0, .ref (eO (xE X) 0)), (1, .int a1)] [] σ (tc_executeRowOne σ a1) := by
  unfold tc_executeRowOne
  refine j_iload_n 1 G d_tc_executeRowOne_0 rfl rfl ?_
  refine j_ts [(3, 68), (6, 76), (7, 87), (9, 98), (10, 108), (12, 134), (13, 160), (14, 170), (15, 181)] G d_tc_executeRowOne_1 (dt := 192) rfl (by decide +kernel) ⟨?_, ?_, ?_, ?_, ?_, ?_, ?_, ?_, ?_, trivial⟩ ?_
  · refine j_aload_n 0 G d_tc_executeRowOne_68 rfl rfl ?_
    refine j_iconst G d_tc_executeRowOne_69 ci_1 ?_
    refine p_tc_waiting G d_tc_executeRowOne_70 ?_
    refine j_ns (fun s1 => ?_)
    refine j_goto G d_tc_executeRowOne_73 (tgt := 192) rfl ?_
    refine j_sub [0] (L1 := [(0, .ref (eO (xE X) 0))]) rfl ?_
    exact b_tc_executeRowOne_192 G s1
  · refine j_aload_n 0 G d_tc_executeRowOne_76 rfl rfl ?_
    refine j_aload_n 0 G d_tc_executeRowOne_77 rfl rfl ?_
    refine j_Vi0 G k_tc_fetchWord mw_tc_fetchWord lk_tc_tc_fetchWord rc_chip d_tc_executeRowOne_78 rfl (Nat.le_of_ble_eq_true rfl) (fun v1 s2 => ?_)
    refine j_Vv1 G k_tc_goOn mw_tc_goOn lk_tc_tc_goOn rc_chip d_tc_executeRowOne_81 rfl (Nat.le_of_ble_eq_true rfl) (fun _ s3 => ?_)
    refine j_goto G d_tc_executeRowOne_84 (tgt := 192) rfl ?_
    refine j_sub [0] (L1 := [(0, .ref (eO (xE X) 0))]) rfl ?_
    exact b_tc_executeRowOne_192 G s3
  · refine j_aload_n 0 G d_tc_executeRowOne_87 rfl rfl ?_
    refine j_aload_n 0 G d_tc_executeRowOne_88 rfl rfl ?_
    refine j_Vi0 G k_tc_fetchWord mw_tc_fetchWord lk_tc_tc_fetchWord rc_chip d_tc_executeRowOne_89 rfl (Nat.le_of_ble_eq_true rfl) (fun v2 s4 => ?_)
    refine j_Vv1 G k_tc_callRelative mw_tc_callRelative lk_tc_tc_callRelative rc_chip d_tc_executeRowOne_92 rfl (Nat.le_of_ble_eq_true rfl) (fun _ s5 => ?_)
    refine j_goto G d_tc_executeRowOne_95 (tgt := 192) rfl ?_
    refine j_sub [0] (L1 := [(0, .ref (eO (xE X) 0))]) rfl ?_
    exact b_tc_executeRowOne_192 G s5
  · refine j_aload_n 0 G d_tc_executeRowOne_98 rfl rfl ?_
    refine g_tc_arithmetic G d_tc_executeRowOne_99 ?_
    refine j_Vv0 G k_ar_adjustDecimal mw_ar_adjustDecimal lk_tc_ar_adjustDecimal rc_ari d_tc_executeRowOne_102 rfl (Nat.le_of_ble_eq_true rfl) (fun _ s6 => ?_)
    refine j_goto G d_tc_executeRowOne_105 (tgt := 192) rfl ?_
    refine j_sub [0] (L1 := [(0, .ref (eO (xE X) 0))]) rfl ?_
    exact b_tc_executeRowOne_192 G s6
  · refine j_aload_n 0 G d_tc_executeRowOne_108 rfl rfl ?_
    refine g_tc_registers G d_tc_executeRowOne_109 ?_
    refine j_bipush G d_tc_executeRowOne_112 cb_8 ?_
    refine j_aload_n 0 G d_tc_executeRowOne_114 rfl rfl ?_
    refine g_tc_registers G d_tc_executeRowOne_115 ?_
    refine j_bipush G d_tc_executeRowOne_118 cb_8 ?_
    refine j_Vi1 G k_re_get mw_re_get lk_tc_re_get rc_reg d_tc_executeRowOne_120 rfl (Nat.le_of_ble_eq_true rfl) (fun v3 s7 => ?_)
    refine j_aload_n 0 G d_tc_executeRowOne_123 rfl rfl ?_
    refine j_Vi0 G k_tc_fetchByte mw_tc_fetchByte lk_tc_tc_fetchByte rc_chip d_tc_executeRowOne_124 rfl (Nat.le_of_ble_eq_true rfl) (fun v4 s8 => ?_)
    refine j_ior G d_tc_executeRowOne_127 ?_
    refine j_Vv2 G k_re_set mw_re_set lk_tc_re_set rc_reg d_tc_executeRowOne_128 rfl (Nat.le_of_ble_eq_true rfl) (fun _ s9 => ?_)
    refine j_goto G d_tc_executeRowOne_131 (tgt := 192) rfl ?_
    refine j_sub [0] (L1 := [(0, .ref (eO (xE X) 0))]) rfl ?_
    exact b_tc_executeRowOne_192 G s9
  · refine j_aload_n 0 G d_tc_executeRowOne_134 rfl rfl ?_
    refine g_tc_registers G d_tc_executeRowOne_135 ?_
    refine j_bipush G d_tc_executeRowOne_138 cb_8 ?_
    refine j_aload_n 0 G d_tc_executeRowOne_140 rfl rfl ?_
    refine g_tc_registers G d_tc_executeRowOne_141 ?_
    refine j_bipush G d_tc_executeRowOne_144 cb_8 ?_
    refine j_Vi1 G k_re_get mw_re_get lk_tc_re_get rc_reg d_tc_executeRowOne_146 rfl (Nat.le_of_ble_eq_true rfl) (fun v5 s10 => ?_)
    refine j_aload_n 0 G d_tc_executeRowOne_149 rfl rfl ?_
    refine j_Vi0 G k_tc_fetchByte mw_tc_fetchByte lk_tc_tc_fetchByte rc_chip d_tc_executeRowOne_150 rfl (Nat.le_of_ble_eq_true rfl) (fun v6 s11 => ?_)
    refine j_iand G d_tc_executeRowOne_153 ?_
    refine j_Vv2 G k_re_set mw_re_set lk_tc_re_set rc_reg d_tc_executeRowOne_154 rfl (Nat.le_of_ble_eq_true rfl) (fun _ s12 => ?_)
    refine j_goto G d_tc_executeRowOne_157 (tgt := 192) rfl ?_
    refine j_sub [0] (L1 := [(0, .ref (eO (xE X) 0))]) rfl ?_
    exact b_tc_executeRowOne_192 G s12
  · refine j_aload_n 0 G d_tc_executeRowOne_160 rfl rfl ?_
    refine g_tc_arithmetic G d_tc_executeRowOne_161 ?_
    refine j_Vv0 G k_ar_extendSign mw_ar_extendSign lk_tc_ar_extendSign rc_ari d_tc_executeRowOne_164 rfl (Nat.le_of_ble_eq_true rfl) (fun _ s13 => ?_)
    refine j_goto G d_tc_executeRowOne_167 (tgt := 192) rfl ?_
    refine j_sub [0] (L1 := [(0, .ref (eO (xE X) 0))]) rfl ?_
    exact b_tc_executeRowOne_192 G s13
  · refine j_aload_n 0 G d_tc_executeRowOne_170 rfl rfl ?_
    refine j_aload_n 0 G d_tc_executeRowOne_171 rfl rfl ?_
    refine j_Vi0 G k_tc_fetchByte mw_tc_fetchByte lk_tc_tc_fetchByte rc_chip d_tc_executeRowOne_172 rfl (Nat.le_of_ble_eq_true rfl) (fun v7 s14 => ?_)
    refine j_Vv1 G k_tc_exchange mw_tc_exchange lk_tc_tc_exchange rc_chip d_tc_executeRowOne_175 rfl (Nat.le_of_ble_eq_true rfl) (fun _ s15 => ?_)
    refine j_goto G d_tc_executeRowOne_178 (tgt := 192) rfl ?_
    refine j_sub [0] (L1 := [(0, .ref (eO (xE X) 0))]) rfl ?_
    exact b_tc_executeRowOne_192 G s15
  · refine j_aload_n 0 G d_tc_executeRowOne_181 rfl rfl ?_
    refine j_aload_n 0 G d_tc_executeRowOne_182 rfl rfl ?_
    refine j_Vi0 G k_tc_fetchByte mw_tc_fetchByte lk_tc_tc_fetchByte rc_chip d_tc_executeRowOne_183 rfl (Nat.le_of_ble_eq_true rfl) (fun v8 s16 => ?_)
    refine j_Vv1 G k_tc_transfer mw_tc_transfer lk_tc_tc_transfer rc_chip d_tc_executeRowOne_186 rfl (Nat.le_of_ble_eq_true rfl) (fun _ s17 => ?_)
    refine j_goto G d_tc_executeRowOne_189 (tgt := 192) rfl ?_
    refine j_sub [0] (L1 := [(0, .ref (eO (xE X) 0))]) rfl ?_
    exact b_tc_executeRowOne_192 G s17
  · refine j_sub [0] (L1 := [(0, .ref (eO (xE X) 0))]) rfl ?_
    exact b_tc_executeRowOne_192 G σ
set_option maxHeartbeats 4000000 in
set_option maxRecDepth 100000 in
theorem k_tc_executeRowOne {l : Launch} {E : Ev} {σ : CS} {a1 : Int32} : CtV wdC l E y_tc_executeRowOne bc_tc_executeRowOne 2 none (rmm 3 69) [.ref (eO E 0), .int a1] σ (tc_executeRowOne σ a1) := ct_v (by decide) (Nat.le_of_ble_eq_true rfl) (fun X hE _ G => by subst hE; exact b_tc_executeRowOne G σ a1)
def tc_branch_16 (σ : CS) : Option (Int32 × CS) :=
some ((0 : Int32), σ)
def tc_branch (σ : CS) (a1 a2 : Int32) : Option (Int32 × CS) :=
bd (re_meets σ a1) fun v1 s1 =>
if v1 = 0 then (tc_branch_16 s1) else (bd (tc_goOn s1 a2) fun _ s2 =>
tc_branch_16 s2)
set_option maxHeartbeats 4000000 in
set_option maxRecDepth 100000 in
theorem b_tc_branch_16 {X : Cx} (G : Gd X bc_tc_branch 3 R_chip none (rmm 3 65)) (σ : CS) : J wdC X (QV wdC X) 3 16 [(0, .ref (eO (xE X) 0))] [] σ (tc_branch_16 σ ) := by
  unfold tc_branch_16
  exact j_vret G d_tc_branch_16
set_option maxHeartbeats 4000000 in
set_option maxRecDepth 100000 in
theorem b_tc_branch {X : Cx} (G : Gd X bc_tc_branch 3 R_chip none (rmm 3 65)) (σ : CS) (a1 a2 : Int32) : J wdC X (QV wdC X) 3 0 [(0, .ref (eO (xE X) 0)), (1, .int a1), (2, .int a2)] [] σ (tc_branch σ a1 a2) := by
  unfold tc_branch
  refine j_aload_n 0 G d_tc_branch_0 rfl rfl ?_
  refine g_tc_registers G d_tc_branch_1 ?_
  refine j_iload_n 1 G d_tc_branch_4 rfl rfl ?_
  refine j_Vi1 G k_re_meets mw_re_meets lk_tc_re_meets rc_reg d_tc_branch_5 rfl (Nat.le_of_ble_eq_true rfl) (fun v1 s1 => ?_)
  refine j_ifeq G d_tc_branch_8 (tgt := 16) rfl ?_ ?_
  · refine j_sub [0] (L1 := [(0, .ref (eO (xE X) 0))]) rfl ?_
    exact b_tc_branch_16 G s1
  · refine j_aload_n 0 G d_tc_branch_11 rfl rfl ?_
    refine j_iload_n 2 G d_tc_branch_12 rfl rfl ?_
    refine j_Vv1 G k_tc_goOn mw_tc_goOn lk_tc_tc_goOn rc_chip d_tc_branch_13 rfl (Nat.le_of_ble_eq_true rfl) (fun _ s2 => ?_)
    refine j_sub [0] (L1 := [(0, .ref (eO (xE X) 0))]) rfl ?_
    exact b_tc_branch_16 G s2
set_option maxHeartbeats 4000000 in
set_option maxRecDepth 100000 in
theorem k_tc_branch {l : Launch} {E : Ev} {σ : CS} {a1 a2 : Int32} : CtV wdC l E y_tc_branch bc_tc_branch 3 none (rmm 3 65) [.ref (eO E 0), .int a1, .int a2] σ (tc_branch σ a1 a2) := ct_v (by decide) (Nat.le_of_ble_eq_true rfl) (fun X hE _ G => by subst hE; exact b_tc_branch G σ a1 a2)
def tc_addressByKind_228 (σ : CS) : Option (Int32 × CS) :=
bd (tc_fetchWord σ) fun v1 s1 =>
some (v1, s1)
def tc_addressByKind (σ : CS) (a1 a2 : Int32) : Option (Int32 × CS) :=
bd (re_get σ a2) fun v1 s1 =>
swi a1 [((0 : Int32), 80, bd (re_set s1 a2 (v1 + (1 : Int32))) fun _ s2 =>
some (v1, s2)),
 ((1 : Int32), 93, bd (re_set s1 a2 (v1 + (2 : Int32))) fun _ s3 =>
some (v1, s3)),
 ((2 : Int32), 106, bd (re_set s1 a2 (v1 - (1 : Int32))) fun _ s4 =>
some ((v1 - (1 : Int32)), s4)),
 ((3 : Int32), 121, bd (re_set s1 a2 (v1 - (2 : Int32))) fun _ s5 =>
some ((v1 - (2 : Int32)), s5)),
 ((4 : Int32), 136, some (v1, s1)),
 ((5 : Int32), 138, bd (re_get s1 (1 : Int32)) fun v2 s6 =>
some ((v1 + (v2.toInt8.toInt32)), s6)),
 ((6 : Int32), 150, bd (re_get s1 (0 : Int32)) fun v3 s7 =>
some ((v1 + (v3.toInt8.toInt32)), s7)),
 ((8 : Int32), 162, bd (tc_fetchByte s1) fun v4 s8 =>
some ((v1 + (v4.toInt8.toInt32)), s8)),
 ((9 : Int32), 170, bd (tc_fetchWord s1) fun v5 s9 =>
some ((v1 + v5), s9)),
 ((11 : Int32), 177, bd (re_get s1 (9 : Int32)) fun v6 s10 =>
some ((v1 + v6), s10)),
 ((12 : Int32), 189, bd (tc_fetchByte s1) fun v7 s11 =>
nm (v7.toInt8.toInt32) fun v8 =>
bd (re_get s11 (6 : Int32)) fun v9 s12 =>
some ((v9 + v8), s12)),
 ((13 : Int32), 209, bd (tc_fetchWord s1) fun v10 s13 =>
bd (re_get s13 (6 : Int32)) fun v11 s14 =>
some ((v11 + v10), s14))] (tc_addressByKind_228 s1)
set_option maxHeartbeats 4000000 in
set_option maxRecDepth 100000 in
theorem b_tc_addressByKind_228 {X : Cx} (G : Gd X bc_tc_addressByKind 5 R_chip (some .int) (rmm 2 44)) (σ : CS) : J wdC X (QI wdC X) 5 228 [(0, .ref (eO (xE X) 0))] [] σ (tc_addressByKind_228 σ ) := by
  unfold tc_addressByKind_228
  refine j_aload_n 0 G d_tc_addressByKind_228 rfl rfl ?_
  refine j_Vi0 G k_tc_fetchWord mw_tc_fetchWord lk_tc_tc_fetchWord rc_chip d_tc_addressByKind_229 rfl (Nat.le_of_ble_eq_true rfl) (fun v1 s1 => ?_)
  exact j_iret G d_tc_addressByKind_232
set_option maxHeartbeats 4000000 in
set_option maxRecDepth 100000 in
theorem b_tc_addressByKind {X : Cx} (G : Gd X bc_tc_addressByKind 5 R_chip (some .int) (rmm 2 44)) (σ : CS) (a1 a2 : Int32) : J wdC X (QI wdC X) 5 0 [(0, .ref (eO (xE X) 0)), (1, .int a1), (2, .int a2)] [] σ (tc_addressByKind σ a1 a2) := by
  unfold tc_addressByKind
  refine j_aload_n 0 G d_tc_addressByKind_0 rfl rfl ?_
  refine g_tc_registers G d_tc_addressByKind_1 ?_
  refine j_iload_n 2 G d_tc_addressByKind_4 rfl rfl ?_
  refine j_Vi1 G k_re_get mw_re_get lk_tc_re_get rc_reg d_tc_addressByKind_5 rfl (Nat.le_of_ble_eq_true rfl) (fun v1 s1 => ?_)
  refine j_istore_n [1, 2, 3, 0] (L1 := [(0, .ref (eO (xE X) 0)), (1, .int a1), (2, .int a2), (3, .int v1)]) G d_tc_addressByKind_8 rfl (by decide) rfl ?_
  refine j_iload_n 1 G d_tc_addressByKind_9 rfl rfl ?_
  refine j_ts [(0, 80), (1, 93), (2, 106), (3, 121), (4, 136), (5, 138), (6, 150), (8, 162), (9, 170), (11, 177), (12, 189), (13, 209)] G d_tc_addressByKind_10 (dt := 228) rfl (by decide +kernel) ⟨?_, ?_, ?_, ?_, ?_, ?_, ?_, ?_, ?_, ?_, ?_, ?_, trivial⟩ ?_
  · refine j_aload_n 0 G d_tc_addressByKind_80 rfl rfl ?_
    refine g_tc_registers G d_tc_addressByKind_81 ?_
    refine j_iload_n 2 G d_tc_addressByKind_84 rfl rfl ?_
    refine j_iload_n 3 G d_tc_addressByKind_85 rfl rfl ?_
    refine j_iconst G d_tc_addressByKind_86 ci_1 ?_
    refine j_iadd G d_tc_addressByKind_87 ?_
    refine j_Vv2 G k_re_set mw_re_set lk_tc_re_set rc_reg d_tc_addressByKind_88 rfl (Nat.le_of_ble_eq_true rfl) (fun _ s2 => ?_)
    refine j_iload_n 3 G d_tc_addressByKind_91 rfl rfl ?_
    exact j_iret G d_tc_addressByKind_92
  · refine j_aload_n 0 G d_tc_addressByKind_93 rfl rfl ?_
    refine g_tc_registers G d_tc_addressByKind_94 ?_
    refine j_iload_n 2 G d_tc_addressByKind_97 rfl rfl ?_
    refine j_iload_n 3 G d_tc_addressByKind_98 rfl rfl ?_
    refine j_iconst G d_tc_addressByKind_99 ci_2 ?_
    refine j_iadd G d_tc_addressByKind_100 ?_
    refine j_Vv2 G k_re_set mw_re_set lk_tc_re_set rc_reg d_tc_addressByKind_101 rfl (Nat.le_of_ble_eq_true rfl) (fun _ s3 => ?_)
    refine j_iload_n 3 G d_tc_addressByKind_104 rfl rfl ?_
    exact j_iret G d_tc_addressByKind_105
  · refine j_aload_n 0 G d_tc_addressByKind_106 rfl rfl ?_
    refine g_tc_registers G d_tc_addressByKind_107 ?_
    refine j_iload_n 2 G d_tc_addressByKind_110 rfl rfl ?_
    refine j_iload_n 3 G d_tc_addressByKind_111 rfl rfl ?_
    refine j_iconst G d_tc_addressByKind_112 ci_1 ?_
    refine j_isub G d_tc_addressByKind_113 ?_
    refine j_Vv2 G k_re_set mw_re_set lk_tc_re_set rc_reg d_tc_addressByKind_114 rfl (Nat.le_of_ble_eq_true rfl) (fun _ s4 => ?_)
    refine j_iload_n 3 G d_tc_addressByKind_117 rfl rfl ?_
    refine j_iconst G d_tc_addressByKind_118 ci_1 ?_
    refine j_isub G d_tc_addressByKind_119 ?_
    exact j_iret G d_tc_addressByKind_120
  · refine j_aload_n 0 G d_tc_addressByKind_121 rfl rfl ?_
    refine g_tc_registers G d_tc_addressByKind_122 ?_
    refine j_iload_n 2 G d_tc_addressByKind_125 rfl rfl ?_
    refine j_iload_n 3 G d_tc_addressByKind_126 rfl rfl ?_
    refine j_iconst G d_tc_addressByKind_127 ci_2 ?_
    refine j_isub G d_tc_addressByKind_128 ?_
    refine j_Vv2 G k_re_set mw_re_set lk_tc_re_set rc_reg d_tc_addressByKind_129 rfl (Nat.le_of_ble_eq_true rfl) (fun _ s5 => ?_)
    refine j_iload_n 3 G d_tc_addressByKind_132 rfl rfl ?_
    refine j_iconst G d_tc_addressByKind_133 ci_2 ?_
    refine j_isub G d_tc_addressByKind_134 ?_
    exact j_iret G d_tc_addressByKind_135
  · refine j_iload_n 3 G d_tc_addressByKind_136 rfl rfl ?_
    exact j_iret G d_tc_addressByKind_137
  · refine j_iload_n 3 G d_tc_addressByKind_138 rfl rfl ?_
    refine j_aload_n 0 G d_tc_addressByKind_139 rfl rfl ?_
    refine g_tc_registers G d_tc_addressByKind_140 ?_
    refine j_iconst G d_tc_addressByKind_143 ci_1 ?_
    refine j_Vi1 G k_re_get mw_re_get lk_tc_re_get rc_reg d_tc_addressByKind_144 rfl (Nat.le_of_ble_eq_true rfl) (fun v2 s6 => ?_)
    refine j_i2b G d_tc_addressByKind_147 ?_
    refine j_iadd G d_tc_addressByKind_148 ?_
    exact j_iret G d_tc_addressByKind_149
  · refine j_iload_n 3 G d_tc_addressByKind_150 rfl rfl ?_
    refine j_aload_n 0 G d_tc_addressByKind_151 rfl rfl ?_
    refine g_tc_registers G d_tc_addressByKind_152 ?_
    refine j_iconst G d_tc_addressByKind_155 ci_0 ?_
    refine j_Vi1 G k_re_get mw_re_get lk_tc_re_get rc_reg d_tc_addressByKind_156 rfl (Nat.le_of_ble_eq_true rfl) (fun v3 s7 => ?_)
    refine j_i2b G d_tc_addressByKind_159 ?_
    refine j_iadd G d_tc_addressByKind_160 ?_
    exact j_iret G d_tc_addressByKind_161
  · refine j_iload_n 3 G d_tc_addressByKind_162 rfl rfl ?_
    refine j_aload_n 0 G d_tc_addressByKind_163 rfl rfl ?_
    refine j_Vi0 G k_tc_fetchByte mw_tc_fetchByte lk_tc_tc_fetchByte rc_chip d_tc_addressByKind_164 rfl (Nat.le_of_ble_eq_true rfl) (fun v4 s8 => ?_)
    refine j_i2b G d_tc_addressByKind_167 ?_
    refine j_iadd G d_tc_addressByKind_168 ?_
    exact j_iret G d_tc_addressByKind_169
  · refine j_iload_n 3 G d_tc_addressByKind_170 rfl rfl ?_
    refine j_aload_n 0 G d_tc_addressByKind_171 rfl rfl ?_
    refine j_Vi0 G k_tc_fetchWord mw_tc_fetchWord lk_tc_tc_fetchWord rc_chip d_tc_addressByKind_172 rfl (Nat.le_of_ble_eq_true rfl) (fun v5 s9 => ?_)
    refine j_iadd G d_tc_addressByKind_175 ?_
    exact j_iret G d_tc_addressByKind_176
  · refine j_iload_n 3 G d_tc_addressByKind_177 rfl rfl ?_
    refine j_aload_n 0 G d_tc_addressByKind_178 rfl rfl ?_
    refine g_tc_registers G d_tc_addressByKind_179 ?_
    refine j_bipush G d_tc_addressByKind_182 cb_9 ?_
    refine j_Vi1 G k_re_get mw_re_get lk_tc_re_get rc_reg d_tc_addressByKind_184 rfl (Nat.le_of_ble_eq_true rfl) (fun v6 s10 => ?_)
    refine j_iadd G d_tc_addressByKind_187 ?_
    exact j_iret G d_tc_addressByKind_188
  · refine j_aload_n 0 G d_tc_addressByKind_189 rfl rfl ?_
    refine j_Vi0 G k_tc_fetchByte mw_tc_fetchByte lk_tc_tc_fetchByte rc_chip d_tc_addressByKind_190 rfl (Nat.le_of_ble_eq_true rfl) (fun v7 s11 => ?_)
    refine j_i2b G d_tc_addressByKind_193 ?_
    refine j_nm (fun v8 => ?_)
    refine j_istore [1, 0] (L1 := [(0, .ref (eO (xE X) 0)), (4, .int v8)]) G d_tc_addressByKind_194 (by decide) rfl ?_
    refine j_aload_n 0 G d_tc_addressByKind_196 rfl rfl ?_
    refine g_tc_registers G d_tc_addressByKind_197 ?_
    refine j_bipush G d_tc_addressByKind_200 cb_6 ?_
    refine j_Vi1 G k_re_get mw_re_get lk_tc_re_get rc_reg d_tc_addressByKind_202 rfl (Nat.le_of_ble_eq_true rfl) (fun v9 s12 => ?_)
    refine j_iload 1 G d_tc_addressByKind_205 rfl ?_
    refine j_iadd G d_tc_addressByKind_207 ?_
    exact j_iret G d_tc_addressByKind_208
  · refine j_aload_n 0 G d_tc_addressByKind_209 rfl rfl ?_
    refine j_Vi0 G k_tc_fetchWord mw_tc_fetchWord lk_tc_tc_fetchWord rc_chip d_tc_addressByKind_210 rfl (Nat.le_of_ble_eq_true rfl) (fun v10 s13 => ?_)
    refine j_istore [1, 0] (L1 := [(0, .ref (eO (xE X) 0)), (4, .int v10)]) G d_tc_addressByKind_213 (by decide) rfl ?_
    refine j_aload_n 0 G d_tc_addressByKind_215 rfl rfl ?_
    refine g_tc_registers G d_tc_addressByKind_216 ?_
    refine j_bipush G d_tc_addressByKind_219 cb_6 ?_
    refine j_Vi1 G k_re_get mw_re_get lk_tc_re_get rc_reg d_tc_addressByKind_221 rfl (Nat.le_of_ble_eq_true rfl) (fun v11 s14 => ?_)
    refine j_iload 1 G d_tc_addressByKind_224 rfl ?_
    refine j_iadd G d_tc_addressByKind_226 ?_
    exact j_iret G d_tc_addressByKind_227
  · refine j_sub [0] (L1 := [(0, .ref (eO (xE X) 0))]) rfl ?_
    exact b_tc_addressByKind_228 G s1
set_option maxHeartbeats 4000000 in
set_option maxRecDepth 100000 in
theorem k_tc_addressByKind {l : Launch} {E : Ev} {σ : CS} {a1 a2 : Int32} : CtI wdC l E y_tc_addressByKind bc_tc_addressByKind 5 (some .int) (rmm 2 44) [.ref (eO E 0), .int a1, .int a2] σ (tc_addressByKind σ a1 a2) := ct_i (by decide) (Nat.le_of_ble_eq_true rfl) (fun X hE _ G => by subst hE; exact b_tc_addressByKind G σ a1 a2)
def tc_indexedAddress_77 (σ : CS) (t0 : Int32) : Option (Int32 × CS) :=
some (t0, σ)
def tc_indexedAddress (σ : CS) : Option (Int32 × CS) :=
bd (tc_fetchByte σ) fun v1 s1 =>
nm ((2 : Int32) + ((v1 >>> ((5 : Int32) &&& 31)) &&& (3 : Int32))) fun v2 =>
if (128 : Int32) ≤ v1 then (bd (tc_addressByKind s1 (v1 &&& (15 : Int32)) v2) fun v3 s2 =>
nm (v3 &&& (65535 : Int32)) fun v4 =>
if (v1 &&& (16 : Int32)) = 0 then (tc_indexedAddress_77 s2 v4) else (bd (me_wordAt s2 v4) fun v5 s3 =>
tc_indexedAddress_77 s3 v5)) else (nm (((v1 &&& (31 : Int32)) ^^^ (16 : Int32)) - (16 : Int32)) fun v6 =>
bd (re_get s1 v2) fun v7 s4 =>
some (((v7 + v6) &&& (65535 : Int32)), s4))
set_option maxHeartbeats 4000000 in
set_option maxRecDepth 100000 in
theorem b_tc_indexedAddress_77 {X : Cx} (G : Gd X bc_tc_indexedAddress 4 R_chip (some .int) (rmm 3 68)) (σ : CS) (t0 : Int32) : J wdC X (QI wdC X) 4 77 [(0, .ref (eO (xE X) 0))] [.int t0] σ (tc_indexedAddress_77 σ t0) := by
  unfold tc_indexedAddress_77
  exact j_iret G d_tc_indexedAddress_77
set_option maxHeartbeats 4000000 in
set_option maxRecDepth 100000 in
theorem b_tc_indexedAddress {X : Cx} (G : Gd X bc_tc_indexedAddress 4 R_chip (some .int) (rmm 3 68)) (σ : CS) : J wdC X (QI wdC X) 4 0 [(0, .ref (eO (xE X) 0))] [] σ (tc_indexedAddress σ ) := by
  unfold tc_indexedAddress
  refine j_aload_n 0 G d_tc_indexedAddress_0 rfl rfl ?_
  refine j_Vi0 G k_tc_fetchByte mw_tc_fetchByte lk_tc_tc_fetchByte rc_chip d_tc_indexedAddress_1 rfl (Nat.le_of_ble_eq_true rfl) (fun v1 s1 => ?_)
  refine j_istore_n [1, 0] (L1 := [(0, .ref (eO (xE X) 0)), (1, .int v1)]) G d_tc_indexedAddress_4 rfl (by decide) rfl ?_
  refine j_iconst G d_tc_indexedAddress_5 ci_2 ?_
  refine j_iload_n 1 G d_tc_indexedAddress_6 rfl rfl ?_
  refine j_iconst G d_tc_indexedAddress_7 ci_5 ?_
  refine j_ishr G d_tc_indexedAddress_8 ?_
  refine j_iconst G d_tc_indexedAddress_9 ci_3 ?_
  refine j_iand G d_tc_indexedAddress_10 ?_
  refine j_iadd G d_tc_indexedAddress_11 ?_
  refine j_nm (fun v2 => ?_)
  refine j_istore_n [1, 2, 0] (L1 := [(0, .ref (eO (xE X) 0)), (1, .int v1), (2, .int v2)]) G d_tc_indexedAddress_12 rfl (by decide) rfl ?_
  refine j_iload_n 1 G d_tc_indexedAddress_13 rfl rfl ?_
  refine j_sipush G d_tc_indexedAddress_14 cs_128 ?_
  refine j_icge G d_tc_indexedAddress_17 (tgt := 45) rfl ?_ ?_
  · refine j_aload_n 0 G d_tc_indexedAddress_45 rfl rfl ?_
    refine j_iload_n 1 G d_tc_indexedAddress_46 rfl rfl ?_
    refine j_bipush G d_tc_indexedAddress_47 cb_15 ?_
    refine j_iand G d_tc_indexedAddress_49 ?_
    refine j_iload_n 2 G d_tc_indexedAddress_50 rfl rfl ?_
    refine j_Vi2 G k_tc_addressByKind mw_tc_addressByKind lk_tc_tc_addressByKind rc_chip d_tc_indexedAddress_51 rfl (Nat.le_of_ble_eq_true rfl) (fun v3 s2 => ?_)
    refine j_ldc G d_tc_indexedAddress_54 kc_tc_138 ?_
    refine j_iand G d_tc_indexedAddress_56 ?_
    refine j_nm (fun v4 => ?_)
    refine j_istore_n [1, 2, 0] (L1 := [(0, .ref (eO (xE X) 0)), (1, .int v1), (3, .int v4)]) G d_tc_indexedAddress_57 rfl (by decide) rfl ?_
    refine j_iload_n 1 G d_tc_indexedAddress_58 rfl rfl ?_
    refine j_bipush G d_tc_indexedAddress_59 cb_16 ?_
    refine j_iand G d_tc_indexedAddress_61 ?_
    refine j_ifne G d_tc_indexedAddress_62 (tgt := 69) rfl ?_ ?_
    · refine j_aload_n 0 G d_tc_indexedAddress_69 rfl rfl ?_
      refine g_tc_memory G d_tc_indexedAddress_70 ?_
      refine j_iload_n 2 G d_tc_indexedAddress_73 rfl rfl ?_
      refine j_Vi1 G k_me_wordAt mw_me_wordAt lk_tc_me_wordAt rc_mem d_tc_indexedAddress_74 rfl (Nat.le_of_ble_eq_true rfl) (fun v5 s3 => ?_)
      refine j_sub [0] (L1 := [(0, .ref (eO (xE X) 0))]) rfl ?_
      exact b_tc_indexedAddress_77 G s3 v5
    · refine j_iload_n 2 G d_tc_indexedAddress_65 rfl rfl ?_
      refine j_goto G d_tc_indexedAddress_66 (tgt := 77) rfl ?_
      refine j_sub [0] (L1 := [(0, .ref (eO (xE X) 0))]) rfl ?_
      exact b_tc_indexedAddress_77 G s2 v4
  · refine j_iload_n 1 G d_tc_indexedAddress_20 rfl rfl ?_
    refine j_bipush G d_tc_indexedAddress_21 cb_31 ?_
    refine j_iand G d_tc_indexedAddress_23 ?_
    refine j_bipush G d_tc_indexedAddress_24 cb_16 ?_
    refine j_ixor G d_tc_indexedAddress_26 ?_
    refine j_bipush G d_tc_indexedAddress_27 cb_16 ?_
    refine j_isub G d_tc_indexedAddress_29 ?_
    refine j_nm (fun v6 => ?_)
    refine j_istore_n [1, 3, 0] (L1 := [(0, .ref (eO (xE X) 0)), (2, .int v2), (3, .int v6)]) G d_tc_indexedAddress_30 rfl (by decide) rfl ?_
    refine j_aload_n 0 G d_tc_indexedAddress_31 rfl rfl ?_
    refine g_tc_registers G d_tc_indexedAddress_32 ?_
    refine j_iload_n 1 G d_tc_indexedAddress_35 rfl rfl ?_
    refine j_Vi1 G k_re_get mw_re_get lk_tc_re_get rc_reg d_tc_indexedAddress_36 rfl (Nat.le_of_ble_eq_true rfl) (fun v7 s4 => ?_)
    refine j_iload_n 2 G d_tc_indexedAddress_39 rfl rfl ?_
    refine j_iadd G d_tc_indexedAddress_40 ?_
    refine j_ldc G d_tc_indexedAddress_41 kc_tc_138 ?_
    refine j_iand G d_tc_indexedAddress_43 ?_
    exact j_iret G d_tc_indexedAddress_44
set_option maxHeartbeats 4000000 in
set_option maxRecDepth 100000 in
theorem k_tc_indexedAddress {l : Launch} {E : Ev} {σ : CS} : CtI wdC l E y_tc_indexedAddress bc_tc_indexedAddress 4 (some .int) (rmm 3 68) [.ref (eO E 0)] σ (tc_indexedAddress σ ) := ct_i (by decide) (Nat.le_of_ble_eq_true rfl) (fun X hE _ G => by subst hE; exact b_tc_indexedAddress G σ )
def tc_takeAddress_33 (σ : CS) : Option (Int32 × CS) :=
some ((0 : Int32), σ)
def tc_takeAddress_30 (σ : CS) (t0 t1 : Int32) : Option (Int32 × CS) :=
bd (re_turn σ t1 t0) fun _ s1 =>
tc_takeAddress_33 s1
def tc_takeAddress_16 (σ : CS) (l2 : Int32) : Option (Int32 × CS) :=
if l2 = 0 then (tc_takeAddress_30 σ (1 : Int32) (4 : Int32)) else (tc_takeAddress_30 σ (0 : Int32) (4 : Int32))
def tc_takeAddress (σ : CS) (a1 a2 : Int32) : Option (Int32 × CS) :=
bd (tc_become σ a1 a2) fun _ s1 =>
if a1 = (2 : Int32) then (tc_takeAddress_16 s1 a2) else (if a1 = (3 : Int32) then (tc_takeAddress_16 s1 a2) else (tc_takeAddress_33 s1))
set_option maxHeartbeats 4000000 in
set_option maxRecDepth 100000 in
theorem b_tc_takeAddress_33 {X : Cx} (G : Gd X bc_tc_takeAddress 3 R_chip none (rmm 2 45)) (σ : CS) : J wdC X (QV wdC X) 3 33 [(0, .ref (eO (xE X) 0))] [] σ (tc_takeAddress_33 σ ) := by
  unfold tc_takeAddress_33
  exact j_vret G d_tc_takeAddress_33
set_option maxHeartbeats 4000000 in
set_option maxRecDepth 100000 in
theorem b_tc_takeAddress_30 {X : Cx} (G : Gd X bc_tc_takeAddress 3 R_chip none (rmm 2 45)) (σ : CS) (t0 t1 : Int32) : J wdC X (QV wdC X) 3 30 [(0, .ref (eO (xE X) 0))] [.int t0, .int t1, .ref (eO (xE X) 3)] σ (tc_takeAddress_30 σ t0 t1) := by
  unfold tc_takeAddress_30
  refine j_Vv2 G k_re_turn mw_re_turn lk_tc_re_turn rc_reg d_tc_takeAddress_30 rfl (Nat.le_of_ble_eq_true rfl) (fun _ s1 => ?_)
  exact b_tc_takeAddress_33 G s1
set_option maxHeartbeats 4000000 in
set_option maxRecDepth 100000 in
theorem b_tc_takeAddress_16 {X : Cx} (G : Gd X bc_tc_takeAddress 3 R_chip none (rmm 2 45)) (σ : CS) (l2 : Int32) : J wdC X (QV wdC X) 3 16 [(0, .ref (eO (xE X) 0)), (2, .int l2)] [] σ (tc_takeAddress_16 σ l2) := by
  unfold tc_takeAddress_16
  refine j_aload_n 0 G d_tc_takeAddress_16 rfl rfl ?_
  refine g_tc_registers G d_tc_takeAddress_17 ?_
  refine j_iconst G d_tc_takeAddress_20 ci_4 ?_
  refine j_iload_n 1 G d_tc_takeAddress_21 rfl rfl ?_
  refine j_ifne G d_tc_takeAddress_22 (tgt := 29) rfl ?_ ?_
  · refine j_iconst G d_tc_takeAddress_29 ci_0 ?_
    refine j_sub [0] (L1 := [(0, .ref (eO (xE X) 0))]) rfl ?_
    exact b_tc_takeAddress_30 G σ (0 : Int32) (4 : Int32)
  · refine j_iconst G d_tc_takeAddress_25 ci_1 ?_
    refine j_goto G d_tc_takeAddress_26 (tgt := 30) rfl ?_
    refine j_sub [0] (L1 := [(0, .ref (eO (xE X) 0))]) rfl ?_
    exact b_tc_takeAddress_30 G σ (1 : Int32) (4 : Int32)
set_option maxHeartbeats 4000000 in
set_option maxRecDepth 100000 in
theorem b_tc_takeAddress {X : Cx} (G : Gd X bc_tc_takeAddress 3 R_chip none (rmm 2 45)) (σ : CS) (a1 a2 : Int32) : J wdC X (QV wdC X) 3 0 [(0, .ref (eO (xE X) 0)), (1, .int a1), (2, .int a2)] [] σ (tc_takeAddress σ a1 a2) := by
  unfold tc_takeAddress
  refine j_aload_n 0 G d_tc_takeAddress_0 rfl rfl ?_
  refine j_iload_n 1 G d_tc_takeAddress_1 rfl rfl ?_
  refine j_iload_n 2 G d_tc_takeAddress_2 rfl rfl ?_
  refine j_Vv2 G k_tc_become mw_tc_become lk_tc_tc_become rc_chip d_tc_takeAddress_3 rfl (Nat.le_of_ble_eq_true rfl) (fun _ s1 => ?_)
  refine j_iload_n 1 G d_tc_takeAddress_6 rfl rfl ?_
  refine j_iconst G d_tc_takeAddress_7 ci_2 ?_
  refine j_iceq G d_tc_takeAddress_8 (tgt := 16) rfl ?_ ?_
  · refine j_sub [0, 2] (L1 := [(0, .ref (eO (xE X) 0)), (2, .int a2)]) rfl ?_
    exact b_tc_takeAddress_16 G s1 a2
  · refine j_iload_n 1 G d_tc_takeAddress_11 rfl rfl ?_
    refine j_iconst G d_tc_takeAddress_12 ci_3 ?_
    refine j_icne G d_tc_takeAddress_13 (tgt := 33) rfl ?_ ?_
    · refine j_sub [0] (L1 := [(0, .ref (eO (xE X) 0))]) rfl ?_
      exact b_tc_takeAddress_33 G s1
    · refine j_sub [0, 2] (L1 := [(0, .ref (eO (xE X) 0)), (2, .int a2)]) rfl ?_
      exact b_tc_takeAddress_16 G s1 a2
set_option maxHeartbeats 4000000 in
set_option maxRecDepth 100000 in
theorem k_tc_takeAddress {l : Launch} {E : Ev} {σ : CS} {a1 a2 : Int32} : CtV wdC l E y_tc_takeAddress bc_tc_takeAddress 3 none (rmm 2 45) [.ref (eO E 0), .int a1, .int a2] σ (tc_takeAddress σ a1 a2) := ct_v (by decide) (Nat.le_of_ble_eq_true rfl) (fun X hE _ G => by subst hE; exact b_tc_takeAddress G σ a1 a2)
def tc_pullByte (σ : CS) (a1 : Int32) : Option (Int32 × CS) :=
bd (re_get σ a1) fun v1 s1 =>
bd (re_set s1 a1 (v1 + (1 : Int32))) fun _ s2 =>
bd (me_byteAt s2 v1) fun v2 s3 =>
some (v2, s3)
set_option maxHeartbeats 4000000 in
set_option maxRecDepth 100000 in
theorem b_tc_pullByte {X : Cx} (G : Gd X bc_tc_pullByte 3 R_chip (some .int) (rmm 1 23)) (σ : CS) (a1 : Int32) : J wdC X (QI wdC X) 3 0 [(0, .ref (eO (xE X) 0)), (1, .int a1)] [] σ (tc_pullByte σ a1) := by
  unfold tc_pullByte
  refine j_aload_n 0 G d_tc_pullByte_0 rfl rfl ?_
  refine g_tc_registers G d_tc_pullByte_1 ?_
  refine j_iload_n 1 G d_tc_pullByte_4 rfl rfl ?_
  refine j_Vi1 G k_re_get mw_re_get lk_tc_re_get rc_reg d_tc_pullByte_5 rfl (Nat.le_of_ble_eq_true rfl) (fun v1 s1 => ?_)
  refine j_istore_n [1, 2, 0] (L1 := [(0, .ref (eO (xE X) 0)), (1, .int a1), (2, .int v1)]) G d_tc_pullByte_8 rfl (by decide) rfl ?_
  refine j_aload_n 0 G d_tc_pullByte_9 rfl rfl ?_
  refine g_tc_registers G d_tc_pullByte_10 ?_
  refine j_iload_n 1 G d_tc_pullByte_13 rfl rfl ?_
  refine j_iload_n 2 G d_tc_pullByte_14 rfl rfl ?_
  refine j_iconst G d_tc_pullByte_15 ci_1 ?_
  refine j_iadd G d_tc_pullByte_16 ?_
  refine j_Vv2 G k_re_set mw_re_set lk_tc_re_set rc_reg d_tc_pullByte_17 rfl (Nat.le_of_ble_eq_true rfl) (fun _ s2 => ?_)
  refine j_aload_n 0 G d_tc_pullByte_20 rfl rfl ?_
  refine g_tc_memory G d_tc_pullByte_21 ?_
  refine j_iload_n 2 G d_tc_pullByte_24 rfl rfl ?_
  refine j_Vi1 G k_me_byteAt mw_me_byteAt lk_tc_me_byteAt rc_mem d_tc_pullByte_25 rfl (Nat.le_of_ble_eq_true rfl) (fun v2 s3 => ?_)
  exact j_iret G d_tc_pullByte_28
set_option maxHeartbeats 4000000 in
set_option maxRecDepth 100000 in
theorem k_tc_pullByte {l : Launch} {E : Ev} {σ : CS} {a1 : Int32} : CtI wdC l E y_tc_pullByte bc_tc_pullByte 3 (some .int) (rmm 1 23) [.ref (eO E 0), .int a1] σ (tc_pullByte σ a1) := ct_i (by decide) (Nat.le_of_ble_eq_true rfl) (fun X hE _ G => by subst hE; exact b_tc_pullByte G σ a1)
def tc_pullWord (σ : CS) (a1 : Int32) : Option (Int32 × CS) :=
bd (re_get σ a1) fun v1 s1 =>
bd (re_set s1 a1 (v1 + (2 : Int32))) fun _ s2 =>
bd (me_wordAt s2 v1) fun v2 s3 =>
some (v2, s3)
set_option maxHeartbeats 4000000 in
set_option maxRecDepth 100000 in
theorem b_tc_pullWord {X : Cx} (G : Gd X bc_tc_pullWord 3 R_chip (some .int) (rmm 1 23)) (σ : CS) (a1 : Int32) : J wdC X (QI wdC X) 3 0 [(0, .ref (eO (xE X) 0)), (1, .int a1)] [] σ (tc_pullWord σ a1) := by
  unfold tc_pullWord
  refine j_aload_n 0 G d_tc_pullWord_0 rfl rfl ?_
  refine g_tc_registers G d_tc_pullWord_1 ?_
  refine j_iload_n 1 G d_tc_pullWord_4 rfl rfl ?_
  refine j_Vi1 G k_re_get mw_re_get lk_tc_re_get rc_reg d_tc_pullWord_5 rfl (Nat.le_of_ble_eq_true rfl) (fun v1 s1 => ?_)
  refine j_istore_n [1, 2, 0] (L1 := [(0, .ref (eO (xE X) 0)), (1, .int a1), (2, .int v1)]) G d_tc_pullWord_8 rfl (by decide) rfl ?_
  refine j_aload_n 0 G d_tc_pullWord_9 rfl rfl ?_
  refine g_tc_registers G d_tc_pullWord_10 ?_
  refine j_iload_n 1 G d_tc_pullWord_13 rfl rfl ?_
  refine j_iload_n 2 G d_tc_pullWord_14 rfl rfl ?_
  refine j_iconst G d_tc_pullWord_15 ci_2 ?_
  refine j_iadd G d_tc_pullWord_16 ?_
  refine j_Vv2 G k_re_set mw_re_set lk_tc_re_set rc_reg d_tc_pullWord_17 rfl (Nat.le_of_ble_eq_true rfl) (fun _ s2 => ?_)
  refine j_aload_n 0 G d_tc_pullWord_20 rfl rfl ?_
  refine g_tc_memory G d_tc_pullWord_21 ?_
  refine j_iload_n 2 G d_tc_pullWord_24 rfl rfl ?_
  refine j_Vi1 G k_me_wordAt mw_me_wordAt lk_tc_me_wordAt rc_mem d_tc_pullWord_25 rfl (Nat.le_of_ble_eq_true rfl) (fun v2 s3 => ?_)
  exact j_iret G d_tc_pullWord_28
set_option maxHeartbeats 4000000 in
set_option maxRecDepth 100000 in
theorem k_tc_pullWord {l : Launch} {E : Ev} {σ : CS} {a1 : Int32} : CtI wdC l E y_tc_pullWord bc_tc_pullWord 3 (some .int) (rmm 1 23) [.ref (eO E 0), .int a1] σ (tc_pullWord σ a1) := ct_i (by decide) (Nat.le_of_ble_eq_true rfl) (fun X hE _ G => by subst hE; exact b_tc_pullWord G σ a1)
def tc_pullRegisters_161 (σ : CS) : Option (Int32 × CS) :=
some ((0 : Int32), σ)
def tc_pullRegisters_139 (σ : CS) (l1 l2 : Int32) : Option (Int32 × CS) :=
if (l2 &&& (128 : Int32)) = 0 then (tc_pullRegisters_161 σ) else (bd (tc_pullWord σ l1) fun v1 s1 =>
bd (re_set s1 (6 : Int32) v1) fun _ s2 =>
tc_pullRegisters_161 s2)
def tc_pullRegisters_119 (σ : CS) (l1 l2 : Int32) : Option (Int32 × CS) :=
if (l2 &&& (64 : Int32)) = 0 then (tc_pullRegisters_139 σ l1 l2) else (bd (tc_otherStack σ l1) fun v1 s1 =>
bd (tc_pullWord s1 l1) fun v2 s2 =>
bd (tc_become s2 v1 v2) fun _ s3 =>
tc_pullRegisters_139 s3 l1 l2)
def tc_pullRegisters_99 (σ : CS) (l1 l2 : Int32) : Option (Int32 × CS) :=
if (l2 &&& (32 : Int32)) = 0 then (tc_pullRegisters_119 σ l1 l2) else (bd (tc_pullWord σ l1) fun v1 s1 =>
bd (re_set s1 (3 : Int32) v1) fun _ s2 =>
tc_pullRegisters_119 s2 l1 l2)
def tc_pullRegisters_79 (σ : CS) (l1 l2 : Int32) : Option (Int32 × CS) :=
if (l2 &&& (16 : Int32)) = 0 then (tc_pullRegisters_99 σ l1 l2) else (bd (tc_pullWord σ l1) fun v1 s1 =>
bd (re_set s1 (2 : Int32) v1) fun _ s2 =>
tc_pullRegisters_99 s2 l1 l2)
def tc_pullRegisters_58 (σ : CS) (l1 l2 : Int32) : Option (Int32 × CS) :=
if (l2 &&& (8 : Int32)) = 0 then (tc_pullRegisters_79 σ l1 l2) else (bd (tc_pullByte σ l1) fun v1 s1 =>
bd (re_set s1 (7 : Int32) v1) fun _ s2 =>
tc_pullRegisters_79 s2 l1 l2)
def tc_pullRegisters_39 (σ : CS) (l1 l2 : Int32) : Option (Int32 × CS) :=
if (l2 &&& (4 : Int32)) = 0 then (tc_pullRegisters_58 σ l1 l2) else (bd (tc_pullByte σ l1) fun v1 s1 =>
bd (re_set s1 (1 : Int32) v1) fun _ s2 =>
tc_pullRegisters_58 s2 l1 l2)
def tc_pullRegisters_20 (σ : CS) (l1 l2 : Int32) : Option (Int32 × CS) :=
if (l2 &&& (2 : Int32)) = 0 then (tc_pullRegisters_39 σ l1 l2) else (bd (tc_pullByte σ l1) fun v1 s1 =>
bd (re_set s1 (0 : Int32) v1) fun _ s2 =>
tc_pullRegisters_39 s2 l1 l2)
def tc_pullRegisters (σ : CS) (a1 a2 : Int32) : Option (Int32 × CS) :=
if (a2 &&& (1 : Int32)) = 0 then (tc_pullRegisters_20 σ a1 a2) else (bd (tc_pullByte σ a1) fun v1 s1 =>
bd (re_set s1 (8 : Int32) v1) fun _ s2 =>
tc_pullRegisters_20 s2 a1 a2)
set_option maxHeartbeats 4000000 in
set_option maxRecDepth 100000 in
theorem b_tc_pullRegisters_161 {X : Cx} (G : Gd X bc_tc_pullRegisters 3 R_chip none (rmm 2 45)) (σ : CS) : J wdC X (QV wdC X) 3 161 [(0, .ref (eO (xE X) 0))] [] σ (tc_pullRegisters_161 σ ) := by
  unfold tc_pullRegisters_161
  exact j_vret G d_tc_pullRegisters_161
set_option maxHeartbeats 4000000 in
set_option maxRecDepth 100000 in
theorem b_tc_pullRegisters_139 {X : Cx} (G : Gd X bc_tc_pullRegisters 3 R_chip none (rmm 2 45)) (σ : CS) (l1 l2 : Int32) : J wdC X (QV wdC X) 3 139 [(0, .ref (eO (xE X) 0)), (1, .int l1), (2, .int l2)] [] σ (tc_pullRegisters_139 σ l1 l2) := by
  unfold tc_pullRegisters_139
  refine j_iload_n 2 G d_tc_pullRegisters_139 rfl rfl ?_
  refine j_sipush G d_tc_pullRegisters_140 cs_128 ?_
  refine j_iand G d_tc_pullRegisters_143 ?_
  refine j_ifeq G d_tc_pullRegisters_144 (tgt := 161) rfl ?_ ?_
  · refine j_sub [0] (L1 := [(0, .ref (eO (xE X) 0))]) rfl ?_
    exact b_tc_pullRegisters_161 G σ
  · refine j_aload_n 0 G d_tc_pullRegisters_147 rfl rfl ?_
    refine g_tc_registers G d_tc_pullRegisters_148 ?_
    refine j_bipush G d_tc_pullRegisters_151 cb_6 ?_
    refine j_aload_n 0 G d_tc_pullRegisters_153 rfl rfl ?_
    refine j_iload_n 1 G d_tc_pullRegisters_154 rfl rfl ?_
    refine j_Vi1 G k_tc_pullWord mw_tc_pullWord lk_tc_tc_pullWord rc_chip d_tc_pullRegisters_155 rfl (Nat.le_of_ble_eq_true rfl) (fun v1 s1 => ?_)
    refine j_Vv2 G k_re_set mw_re_set lk_tc_re_set rc_reg d_tc_pullRegisters_158 rfl (Nat.le_of_ble_eq_true rfl) (fun _ s2 => ?_)
    refine j_sub [0] (L1 := [(0, .ref (eO (xE X) 0))]) rfl ?_
    exact b_tc_pullRegisters_161 G s2
set_option maxHeartbeats 4000000 in
set_option maxRecDepth 100000 in
theorem b_tc_pullRegisters_119 {X : Cx} (G : Gd X bc_tc_pullRegisters 3 R_chip none (rmm 2 45)) (σ : CS) (l1 l2 : Int32) : J wdC X (QV wdC X) 3 119 [(0, .ref (eO (xE X) 0)), (1, .int l1), (2, .int l2)] [] σ (tc_pullRegisters_119 σ l1 l2) := by
  unfold tc_pullRegisters_119
  refine j_iload_n 2 G d_tc_pullRegisters_119 rfl rfl ?_
  refine j_bipush G d_tc_pullRegisters_120 cb_64 ?_
  refine j_iand G d_tc_pullRegisters_122 ?_
  refine j_ifeq G d_tc_pullRegisters_123 (tgt := 139) rfl ?_ ?_
  · exact b_tc_pullRegisters_139 G σ l1 l2
  · refine j_aload_n 0 G d_tc_pullRegisters_126 rfl rfl ?_
    refine j_iload_n 1 G d_tc_pullRegisters_127 rfl rfl ?_
    refine j_Si1 G k_tc_otherStack mw_tc_otherStack lk_tc_tc_otherStack d_tc_pullRegisters_128 rfl (Nat.le_of_ble_eq_true rfl) (fun v1 s1 => ?_)
    refine j_aload_n 0 G d_tc_pullRegisters_131 rfl rfl ?_
    refine j_iload_n 1 G d_tc_pullRegisters_132 rfl rfl ?_
    refine j_Vi1 G k_tc_pullWord mw_tc_pullWord lk_tc_tc_pullWord rc_chip d_tc_pullRegisters_133 rfl (Nat.le_of_ble_eq_true rfl) (fun v2 s2 => ?_)
    refine j_Vv2 G k_tc_become mw_tc_become lk_tc_tc_become rc_chip d_tc_pullRegisters_136 rfl (Nat.le_of_ble_eq_true rfl) (fun _ s3 => ?_)
    exact b_tc_pullRegisters_139 G s3 l1 l2
set_option maxHeartbeats 4000000 in
set_option maxRecDepth 100000 in
theorem b_tc_pullRegisters_99 {X : Cx} (G : Gd X bc_tc_pullRegisters 3 R_chip none (rmm 2 45)) (σ : CS) (l1 l2 : Int32) : J wdC X (QV wdC X) 3 99 [(0, .ref (eO (xE X) 0)), (1, .int l1), (2, .int l2)] [] σ (tc_pullRegisters_99 σ l1 l2) := by
  unfold tc_pullRegisters_99
  refine j_iload_n 2 G d_tc_pullRegisters_99 rfl rfl ?_
  refine j_bipush G d_tc_pullRegisters_100 cb_32 ?_
  refine j_iand G d_tc_pullRegisters_102 ?_
  refine j_ifeq G d_tc_pullRegisters_103 (tgt := 119) rfl ?_ ?_
  · exact b_tc_pullRegisters_119 G σ l1 l2
  · refine j_aload_n 0 G d_tc_pullRegisters_106 rfl rfl ?_
    refine g_tc_registers G d_tc_pullRegisters_107 ?_
    refine j_iconst G d_tc_pullRegisters_110 ci_3 ?_
    refine j_aload_n 0 G d_tc_pullRegisters_111 rfl rfl ?_
    refine j_iload_n 1 G d_tc_pullRegisters_112 rfl rfl ?_
    refine j_Vi1 G k_tc_pullWord mw_tc_pullWord lk_tc_tc_pullWord rc_chip d_tc_pullRegisters_113 rfl (Nat.le_of_ble_eq_true rfl) (fun v1 s1 => ?_)
    refine j_Vv2 G k_re_set mw_re_set lk_tc_re_set rc_reg d_tc_pullRegisters_116 rfl (Nat.le_of_ble_eq_true rfl) (fun _ s2 => ?_)
    exact b_tc_pullRegisters_119 G s2 l1 l2
set_option maxHeartbeats 4000000 in
set_option maxRecDepth 100000 in
theorem b_tc_pullRegisters_79 {X : Cx} (G : Gd X bc_tc_pullRegisters 3 R_chip none (rmm 2 45)) (σ : CS) (l1 l2 : Int32) : J wdC X (QV wdC X) 3 79 [(0, .ref (eO (xE X) 0)), (1, .int l1), (2, .int l2)] [] σ (tc_pullRegisters_79 σ l1 l2) := by
  unfold tc_pullRegisters_79
  refine j_iload_n 2 G d_tc_pullRegisters_79 rfl rfl ?_
  refine j_bipush G d_tc_pullRegisters_80 cb_16 ?_
  refine j_iand G d_tc_pullRegisters_82 ?_
  refine j_ifeq G d_tc_pullRegisters_83 (tgt := 99) rfl ?_ ?_
  · exact b_tc_pullRegisters_99 G σ l1 l2
  · refine j_aload_n 0 G d_tc_pullRegisters_86 rfl rfl ?_
    refine g_tc_registers G d_tc_pullRegisters_87 ?_
    refine j_iconst G d_tc_pullRegisters_90 ci_2 ?_
    refine j_aload_n 0 G d_tc_pullRegisters_91 rfl rfl ?_
    refine j_iload_n 1 G d_tc_pullRegisters_92 rfl rfl ?_
    refine j_Vi1 G k_tc_pullWord mw_tc_pullWord lk_tc_tc_pullWord rc_chip d_tc_pullRegisters_93 rfl (Nat.le_of_ble_eq_true rfl) (fun v1 s1 => ?_)
    refine j_Vv2 G k_re_set mw_re_set lk_tc_re_set rc_reg d_tc_pullRegisters_96 rfl (Nat.le_of_ble_eq_true rfl) (fun _ s2 => ?_)
    exact b_tc_pullRegisters_99 G s2 l1 l2
set_option maxHeartbeats 4000000 in
set_option maxRecDepth 100000 in
theorem b_tc_pullRegisters_58 {X : Cx} (G : Gd X bc_tc_pullRegisters 3 R_chip none (rmm 2 45)) (σ : CS) (l1 l2 : Int32) : J wdC X (QV wdC X) 3 58 [(0, .ref (eO (xE X) 0)), (1, .int l1), (2, .int l2)] [] σ (tc_pullRegisters_58 σ l1 l2) := by
  unfold tc_pullRegisters_58
  refine j_iload_n 2 G d_tc_pullRegisters_58 rfl rfl ?_
  refine j_bipush G d_tc_pullRegisters_59 cb_8 ?_
  refine j_iand G d_tc_pullRegisters_61 ?_
  refine j_ifeq G d_tc_pullRegisters_62 (tgt := 79) rfl ?_ ?_
  · exact b_tc_pullRegisters_79 G σ l1 l2
  · refine j_aload_n 0 G d_tc_pullRegisters_65 rfl rfl ?_
    refine g_tc_registers G d_tc_pullRegisters_66 ?_
    refine j_bipush G d_tc_pullRegisters_69 cb_7 ?_
    refine j_aload_n 0 G d_tc_pullRegisters_71 rfl rfl ?_
    refine j_iload_n 1 G d_tc_pullRegisters_72 rfl rfl ?_
    refine j_Vi1 G k_tc_pullByte mw_tc_pullByte lk_tc_tc_pullByte rc_chip d_tc_pullRegisters_73 rfl (Nat.le_of_ble_eq_true rfl) (fun v1 s1 => ?_)
    refine j_Vv2 G k_re_set mw_re_set lk_tc_re_set rc_reg d_tc_pullRegisters_76 rfl (Nat.le_of_ble_eq_true rfl) (fun _ s2 => ?_)
    exact b_tc_pullRegisters_79 G s2 l1 l2
set_option maxHeartbeats 4000000 in
set_option maxRecDepth 100000 in
theorem b_tc_pullRegisters_39 {X : Cx} (G : Gd X bc_tc_pullRegisters 3 R_chip none (rmm 2 45)) (σ : CS) (l1 l2 : Int32) : J wdC X (QV wdC X) 3 39 [(0, .ref (eO (xE X) 0)), (1, .int l1), (2, .int l2)] [] σ (tc_pullRegisters_39 σ l1 l2) := by
  unfold tc_pullRegisters_39
  refine j_iload_n 2 G d_tc_pullRegisters_39 rfl rfl ?_
  refine j_iconst G d_tc_pullRegisters_40 ci_4 ?_
  refine j_iand G d_tc_pullRegisters_41 ?_
  refine j_ifeq G d_tc_pullRegisters_42 (tgt := 58) rfl ?_ ?_
  · exact b_tc_pullRegisters_58 G σ l1 l2
  · refine j_aload_n 0 G d_tc_pullRegisters_45 rfl rfl ?_
    refine g_tc_registers G d_tc_pullRegisters_46 ?_
    refine j_iconst G d_tc_pullRegisters_49 ci_1 ?_
    refine j_aload_n 0 G d_tc_pullRegisters_50 rfl rfl ?_
    refine j_iload_n 1 G d_tc_pullRegisters_51 rfl rfl ?_
    refine j_Vi1 G k_tc_pullByte mw_tc_pullByte lk_tc_tc_pullByte rc_chip d_tc_pullRegisters_52 rfl (Nat.le_of_ble_eq_true rfl) (fun v1 s1 => ?_)
    refine j_Vv2 G k_re_set mw_re_set lk_tc_re_set rc_reg d_tc_pullRegisters_55 rfl (Nat.le_of_ble_eq_true rfl) (fun _ s2 => ?_)
    exact b_tc_pullRegisters_58 G s2 l1 l2
set_option maxHeartbeats 4000000 in
set_option maxRecDepth 100000 in
theorem b_tc_pullRegisters_20 {X : Cx} (G : Gd X bc_tc_pullRegisters 3 R_chip none (rmm 2 45)) (σ : CS) (l1 l2 : Int32) : J wdC X (QV wdC X) 3 20 [(0, .ref (eO (xE X) 0)), (1, .int l1), (2, .int l2)] [] σ (tc_pullRegisters_20 σ l1 l2) := by
  unfold tc_pullRegisters_20
  refine j_iload_n 2 G d_tc_pullRegisters_20 rfl rfl ?_
  refine j_iconst G d_tc_pullRegisters_21 ci_2 ?_
  refine j_iand G d_tc_pullRegisters_22 ?_
  refine j_ifeq G d_tc_pullRegisters_23 (tgt := 39) rfl ?_ ?_
  · exact b_tc_pullRegisters_39 G σ l1 l2
  · refine j_aload_n 0 G d_tc_pullRegisters_26 rfl rfl ?_
    refine g_tc_registers G d_tc_pullRegisters_27 ?_
    refine j_iconst G d_tc_pullRegisters_30 ci_0 ?_
    refine j_aload_n 0 G d_tc_pullRegisters_31 rfl rfl ?_
    refine j_iload_n 1 G d_tc_pullRegisters_32 rfl rfl ?_
    refine j_Vi1 G k_tc_pullByte mw_tc_pullByte lk_tc_tc_pullByte rc_chip d_tc_pullRegisters_33 rfl (Nat.le_of_ble_eq_true rfl) (fun v1 s1 => ?_)
    refine j_Vv2 G k_re_set mw_re_set lk_tc_re_set rc_reg d_tc_pullRegisters_36 rfl (Nat.le_of_ble_eq_true rfl) (fun _ s2 => ?_)
    exact b_tc_pullRegisters_39 G s2 l1 l2
set_option maxHeartbeats 4000000 in
set_option maxRecDepth 100000 in
theorem b_tc_pullRegisters {X : Cx} (G : Gd X bc_tc_pullRegisters 3 R_chip none (rmm 2 45)) (σ : CS) (a1 a2 : Int32) : J wdC X (QV wdC X) 3 0 [(0, .ref (eO (xE X) 0)), (1, .int a1), (2, .int a2)] [] σ (tc_pullRegisters σ a1 a2) := by
  unfold tc_pullRegisters
  refine j_iload_n 2 G d_tc_pullRegisters_0 rfl rfl ?_
  refine j_iconst G d_tc_pullRegisters_1 ci_1 ?_
  refine j_iand G d_tc_pullRegisters_2 ?_
  refine j_ifeq G d_tc_pullRegisters_3 (tgt := 20) rfl ?_ ?_
  · exact b_tc_pullRegisters_20 G σ a1 a2
  · refine j_aload_n 0 G d_tc_pullRegisters_6 rfl rfl ?_
    refine g_tc_registers G d_tc_pullRegisters_7 ?_
    refine j_bipush G d_tc_pullRegisters_10 cb_8 ?_
    refine j_aload_n 0 G d_tc_pullRegisters_12 rfl rfl ?_
    refine j_iload_n 1 G d_tc_pullRegisters_13 rfl rfl ?_
    refine j_Vi1 G k_tc_pullByte mw_tc_pullByte lk_tc_tc_pullByte rc_chip d_tc_pullRegisters_14 rfl (Nat.le_of_ble_eq_true rfl) (fun v1 s1 => ?_)
    refine j_Vv2 G k_re_set mw_re_set lk_tc_re_set rc_reg d_tc_pullRegisters_17 rfl (Nat.le_of_ble_eq_true rfl) (fun _ s2 => ?_)
    exact b_tc_pullRegisters_20 G s2 a1 a2
set_option maxHeartbeats 4000000 in
set_option maxRecDepth 100000 in
theorem k_tc_pullRegisters {l : Launch} {E : Ev} {σ : CS} {a1 a2 : Int32} : CtV wdC l E y_tc_pullRegisters bc_tc_pullRegisters 3 none (rmm 2 45) [.ref (eO E 0), .int a1, .int a2] σ (tc_pullRegisters σ a1 a2) := ct_v (by decide) (Nat.le_of_ble_eq_true rfl) (fun X hE _ G => by subst hE; exact b_tc_pullRegisters G σ a1 a2)
def tc_returnFromInterrupt_38 (σ : CS) (t0 t1 : Int32) : Option (Int32 × CS) :=
bd (tc_pullRegisters σ t1 t0) fun _ s1 =>
some ((0 : Int32), s1)
def tc_returnFromInterrupt (σ : CS) : Option (Int32 × CS) :=
bd (tc_pullByte σ (5 : Int32)) fun v1 s1 =>
bd (re_set s1 (8 : Int32) v1) fun _ s2 =>
bd (re_has s2 (128 : Int32)) fun v2 s3 =>
if v2 = 0 then (tc_returnFromInterrupt_38 s3 (128 : Int32) (5 : Int32)) else (tc_returnFromInterrupt_38 s3 (254 : Int32) (5 : Int32))
set_option maxHeartbeats 4000000 in
set_option maxRecDepth 100000 in
theorem b_tc_returnFromInterrupt_38 {X : Cx} (G : Gd X bc_tc_returnFromInterrupt 1 R_chip none (rmm 3 67)) (σ : CS) (t0 t1 : Int32) : J wdC X (QV wdC X) 1 38 [(0, .ref (eO (xE X) 0))] [.int t0, .int t1, .ref (eO (xE X) 0)] σ (tc_returnFromInterrupt_38 σ t0 t1) := by
  unfold tc_returnFromInterrupt_38
  refine j_Vv2 G k_tc_pullRegisters mw_tc_pullRegisters lk_tc_tc_pullRegisters rc_chip d_tc_returnFromInterrupt_38 rfl (Nat.le_of_ble_eq_true rfl) (fun _ s1 => ?_)
  exact j_vret G d_tc_returnFromInterrupt_41
set_option maxHeartbeats 4000000 in
set_option maxRecDepth 100000 in
theorem b_tc_returnFromInterrupt {X : Cx} (G : Gd X bc_tc_returnFromInterrupt 1 R_chip none (rmm 3 67)) (σ : CS) : J wdC X (QV wdC X) 1 0 [(0, .ref (eO (xE X) 0))] [] σ (tc_returnFromInterrupt σ ) := by
  unfold tc_returnFromInterrupt
  refine j_aload_n 0 G d_tc_returnFromInterrupt_0 rfl rfl ?_
  refine g_tc_registers G d_tc_returnFromInterrupt_1 ?_
  refine j_bipush G d_tc_returnFromInterrupt_4 cb_8 ?_
  refine j_aload_n 0 G d_tc_returnFromInterrupt_6 rfl rfl ?_
  refine j_iconst G d_tc_returnFromInterrupt_7 ci_5 ?_
  refine j_Vi1 G k_tc_pullByte mw_tc_pullByte lk_tc_tc_pullByte rc_chip d_tc_returnFromInterrupt_8 rfl (Nat.le_of_ble_eq_true rfl) (fun v1 s1 => ?_)
  refine j_Vv2 G k_re_set mw_re_set lk_tc_re_set rc_reg d_tc_returnFromInterrupt_11 rfl (Nat.le_of_ble_eq_true rfl) (fun _ s2 => ?_)
  refine j_aload_n 0 G d_tc_returnFromInterrupt_14 rfl rfl ?_
  refine j_iconst G d_tc_returnFromInterrupt_15 ci_5 ?_
  refine j_aload_n 0 G d_tc_returnFromInterrupt_16 rfl rfl ?_
  refine g_tc_registers G d_tc_returnFromInterrupt_17 ?_
  refine j_sipush G d_tc_returnFromInterrupt_20 cs_128 ?_
  refine j_Vi1 G k_re_has mw_re_has lk_tc_re_has rc_reg d_tc_returnFromInterrupt_23 rfl (Nat.le_of_ble_eq_true rfl) (fun v2 s3 => ?_)
  refine j_ifeq G d_tc_returnFromInterrupt_26 (tgt := 35) rfl ?_ ?_
  · refine j_sipush G d_tc_returnFromInterrupt_35 cs_128 ?_
    exact b_tc_returnFromInterrupt_38 G s3 (128 : Int32) (5 : Int32)
  · refine j_sipush G d_tc_returnFromInterrupt_29 cs_254 ?_
    refine j_goto G d_tc_returnFromInterrupt_32 (tgt := 38) rfl ?_
    exact b_tc_returnFromInterrupt_38 G s3 (254 : Int32) (5 : Int32)
set_option maxHeartbeats 4000000 in
set_option maxRecDepth 100000 in
theorem k_tc_returnFromInterrupt {l : Launch} {E : Ev} {σ : CS} : CtV wdC l E y_tc_returnFromInterrupt bc_tc_returnFromInterrupt 1 none (rmm 3 67) [.ref (eO E 0)] σ (tc_returnFromInterrupt σ ) := ct_v (by decide) (Nat.le_of_ble_eq_true rfl) (fun X hE _ G => by subst hE; exact b_tc_returnFromInterrupt G σ )
