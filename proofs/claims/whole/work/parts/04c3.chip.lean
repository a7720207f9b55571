def tc_waitForInterrupt (σ : CS) (a1 : Int32) : Option (Int32 × CS) :=
bd (re_get σ (8 : Int32)) fun v1 s1 =>
bd (re_set s1 (8 : Int32) ((v1 &&& a1) ||| (128 : Int32))) fun _ s2 =>
bd (tc_pushRegisters s2 (5 : Int32) (255 : Int32)) fun _ s3 =>
ns (cy_wai s3 (2 : Int32)) fun s4 =>
some ((0 : Int32), s4)
set_option maxHeartbeats 4000000 in
set_option maxRecDepth 100000 in
theorem b_tc_waitForInterrupt {X : Cx} (G : Gd X bc_tc_waitForInterrupt 2 R_chip none (rmm 3 67)) (σ : CS) (a1 : Int32) : J wdC X (QV wdC X) 2 0 [(0, .ref (eO (xE X) 0)), (1, .int a1)] [] σ (tc_waitForInterrupt σ a1) := by
  unfold tc_waitForInterrupt
  refine j_aload_n 0 G d_tc_waitForInterrupt_0 rfl rfl ?_
  refine g_tc_registers G d_tc_waitForInterrupt_1 ?_
  refine j_bipush G d_tc_waitForInterrupt_4 cb_8 ?_
  refine j_aload_n 0 G d_tc_waitForInterrupt_6 rfl rfl ?_
  refine g_tc_registers G d_tc_waitForInterrupt_7 ?_
  refine j_bipush G d_tc_waitForInterrupt_10 cb_8 ?_
  refine j_Vi1 G k_re_get mw_re_get lk_tc_re_get rc_reg d_tc_waitForInterrupt_12 rfl (Nat.le_of_ble_eq_true rfl) (fun v1 s1 => ?_)
  refine j_iload_n 1 G d_tc_waitForInterrupt_15 rfl rfl ?_
  refine j_iand G d_tc_waitForInterrupt_16 ?_
  refine j_sipush G d_tc_waitForInterrupt_17 cs_128 ?_
  refine j_ior G d_tc_waitForInterrupt_20 ?_
  refine j_Vv2 G k_re_set mw_re_set lk_tc_re_set rc_reg d_tc_waitForInterrupt_21 rfl (Nat.le_of_ble_eq_true rfl) (fun _ s2 => ?_)
  refine j_aload_n 0 G d_tc_waitForInterrupt_24 rfl rfl ?_
  refine j_iconst G d_tc_waitForInterrupt_25 ci_5 ?_
  refine j_sipush G d_tc_waitForInterrupt_26 cs_255 ?_
  refine j_Vv2 G k_tc_pushRegisters mw_tc_pushRegisters lk_tc_tc_pushRegisters rc_chip d_tc_waitForInterrupt_29 rfl (Nat.le_of_ble_eq_true rfl) (fun _ s3 => ?_)
  refine j_aload_n 0 G d_tc_waitForInterrupt_32 rfl rfl ?_
  refine j_iconst G d_tc_waitForInterrupt_33 ci_2 ?_
  refine p_tc_waiting G d_tc_waitForInterrupt_34 ?_
  refine j_ns (fun s4 => ?_)
  exact j_vret G d_tc_waitForInterrupt_37
set_option maxHeartbeats 4000000 in
set_option maxRecDepth 100000 in
theorem k_tc_waitForInterrupt {l : Launch} {E : Ev} {σ : CS} {a1 : Int32} : CtV wdC l E y_tc_waitForInterrupt bc_tc_waitForInterrupt 2 none (rmm 3 67) [.ref (eO E 0), .int a1] σ (tc_waitForInterrupt σ a1) := ct_v (by decide) (Nat.le_of_ble_eq_true rfl) (fun X hE _ G => by subst hE; exact b_tc_waitForInterrupt G σ a1)
def tc_softwareInterrupt_33 (σ : CS) (l1 : Int32) : Option (Int32 × CS) :=
gd (okI l1 (tln 1)) (
bd (me_wordAt σ (tvl 1 l1.toNatClampNeg)) fun v1 s1 =>
bd (re_set s1 (6 : Int32) v1) fun _ s2 =>
some ((0 : Int32), s2))
def tc_softwareInterrupt (σ : CS) (a1 : Int32) : Option (Int32 × CS) :=
bd (re_turn σ (128 : Int32) (1 : Int32)) fun _ s1 =>
bd (tc_pushRegisters s1 (5 : Int32) (255 : Int32)) fun _ s2 =>
if a1 = 0 then (bd (re_turn s2 (80 : Int32) (1 : Int32)) fun _ s3 =>
tc_softwareInterrupt_33 s3 a1) else (tc_softwareInterrupt_33 s2 a1)
set_option maxHeartbeats 4000000 in
set_option maxRecDepth 100000 in
theorem b_tc_softwareInterrupt_33 {X : Cx} (G : Gd X bc_tc_softwareInterrupt 2 R_chip none (rmm 3 67)) (σ : CS) (l1 : Int32) : J wdC X (QV wdC X) 2 33 [(0, .ref (eO (xE X) 0)), (1, .int l1)] [] σ (tc_softwareInterrupt_33 σ l1) := by
  unfold tc_softwareInterrupt_33
  refine j_aload_n 0 G d_tc_softwareInterrupt_33 rfl rfl ?_
  refine g_tc_registers G d_tc_softwareInterrupt_34 ?_
  refine j_bipush G d_tc_softwareInterrupt_37 cb_6 ?_
  refine j_aload_n 0 G d_tc_softwareInterrupt_39 rfl rfl ?_
  refine g_tc_memory G d_tc_softwareInterrupt_40 ?_
  refine j_gets 1 (by decide) ks_tc_110 G d_tc_softwareInterrupt_43 ?_
  refine j_iload_n 1 G d_tc_softwareInterrupt_46 rfl rfl ?_
  refine j_tald 1 (by decide) G d_tc_softwareInterrupt_47 ?_
  refine j_Vi1 G k_me_wordAt mw_me_wordAt lk_tc_me_wordAt rc_mem d_tc_softwareInterrupt_48 rfl (Nat.le_of_ble_eq_true rfl) (fun v1 s1 => ?_)
  refine j_Vv2 G k_re_set mw_re_set lk_tc_re_set rc_reg d_tc_softwareInterrupt_51 rfl (Nat.le_of_ble_eq_true rfl) (fun _ s2 => ?_)
  exact j_vret G d_tc_softwareInterrupt_54
set_option maxHeartbeats 4000000 in
set_option maxRecDepth 100000 in
theorem b_tc_softwareInterrupt {X : Cx} (G : Gd X bc_tc_softwareInterrupt 2 R_chip none (rmm 3 67)) (σ : CS) (a1 : Int32) : J wdC X (QV wdC X) 2 0 [(0, .ref (eO (xE X) 0)), (1, .int a1)] [] σ (tc_softwareInterrupt σ a1) := by
  unfold tc_softwareInterrupt
  refine j_aload_n 0 G d_tc_softwareInterrupt_0 rfl rfl ?_
  refine g_tc_registers G d_tc_softwareInterrupt_1 ?_
  refine j_sipush G d_tc_softwareInterrupt_4 cs_128 ?_
  refine j_iconst G d_tc_softwareInterrupt_7 ci_1 ?_
  refine j_Vv2 G k_re_turn mw_re_turn lk_tc_re_turn rc_reg d_tc_softwareInterrupt_8 rfl (Nat.le_of_ble_eq_true rfl) (fun _ s1 => ?_)
  refine j_aload_n 0 G d_tc_softwareInterrupt_11 rfl rfl ?_
  refine j_iconst G d_tc_softwareInterrupt_12 ci_5 ?_
  refine j_sipush G d_tc_softwareInterrupt_13 cs_255 ?_
  refine j_Vv2 G k_tc_pushRegisters mw_tc_pushRegisters lk_tc_tc_pushRegisters rc_chip d_tc_softwareInterrupt_16 rfl (Nat.le_of_ble_eq_true rfl) (fun _ s2 => ?_)
  refine j_iload_n 1 G d_tc_softwareInterrupt_19 rfl rfl ?_
  refine j_ifne G d_tc_softwareInterrupt_20 (tgt := 33) rfl ?_ ?_
  · exact b_tc_softwareInterrupt_33 G s2 a1
  · refine j_aload_n 0 G d_tc_softwareInterrupt_23 rfl rfl ?_
    refine g_tc_registers G d_tc_softwareInterrupt_24 ?_
    refine j_bipush G d_tc_softwareInterrupt_27 cb_80 ?_
    refine j_iconst G d_tc_softwareInterrupt_29 ci_1 ?_
    refine j_Vv2 G k_re_turn mw_re_turn lk_tc_re_turn rc_reg d_tc_softwareInterrupt_30 rfl (Nat.le_of_ble_eq_true rfl) (fun _ s3 => ?_)
    exact b_tc_softwareInterrupt_33 G s3 a1
set_option maxHeartbeats 4000000 in
set_option maxRecDepth 100000 in
theorem k_tc_softwareInterrupt {l : Launch} {E : Ev} {σ : CS} {a1 : Int32} : CtV wdC l E y_tc_softwareInterrupt bc_tc_softwareInterrupt 2 none (rmm 3 67) [.ref (eO E 0), .int a1] σ (tc_softwareInterrupt σ a1) := ct_v (by decide) (Nat.le_of_ble_eq_true rfl) (fun X hE _ G => by subst hE; exact b_tc_softwareInterrupt G σ a1)
def tc_executeRowThree_214 (σ : CS) : Option (Int32 × CS) :=
some ((0 : Int32), σ)
def tc_executeRowThree_72 (σ : CS) (l2 : Int32) : Option (Int32 × CS) :=
gd (okI l2 (tln 4)) (
bd (tc_indexedAddress σ) fun v1 s1 =>
bd (tc_takeAddress s1 (tvl 4 l2.toNatClampNeg) v1) fun _ s2 =>
tc_executeRowThree_214 s2)
def tc_executeRowThree_209 (σ : CS) (l1 : Int32) : Option (Int32 × CS) :=
bd (tc_softwareInterrupt σ l1) fun _ s1 =>
tc_executeRowThree_214 s1
def tc_executeRowThree (σ : CS) (a1 a2 : Int32) : Option (Int32 × CS) :=
swi a2 [((0 : Int32), 72, tc_executeRowThree_72 σ a2),
 ((1 : Int32), 72, tc_executeRowThree_72 σ a2),
 ((2 : Int32), 72, tc_executeRowThree_72 σ a2),
 ((3 : Int32), 72, tc_executeRowThree_72 σ a2),
 ((4 : Int32), 88, bd (tc_fetchByte σ) fun v1 s1 =>
bd (tc_pushRegisters s1 (5 : Int32) v1) fun _ s2 =>
tc_executeRowThree_214 s2),
 ((5 : Int32), 100, bd (tc_fetchByte σ) fun v2 s3 =>
bd (tc_pullRegisters s3 (5 : Int32) v2) fun _ s4 =>
tc_executeRowThree_214 s4),
 ((6 : Int32), 112, bd (tc_fetchByte σ) fun v3 s5 =>
bd (tc_pushRegisters s5 (4 : Int32) v3) fun _ s6 =>
tc_executeRowThree_214 s6),
 ((7 : Int32), 124, bd (tc_fetchByte σ) fun v4 s7 =>
bd (tc_pullRegisters s7 (4 : Int32) v4) fun _ s8 =>
tc_executeRowThree_214 s8),
 ((9 : Int32), 136, bd (tc_pullWord σ (5 : Int32)) fun v5 s9 =>
bd (re_set s9 (6 : Int32) v5) fun _ s10 =>
tc_executeRowThree_214 s10),
 ((10 : Int32), 153, bd (re_get σ (2 : Int32)) fun v6 s11 =>
bd (re_get s11 (1 : Int32)) fun v7 s12 =>
bd (re_set s12 (2 : Int32) (v6 + v7)) fun _ s13 =>
tc_executeRowThree_214 s13),
 ((11 : Int32), 181, bd (tc_returnFromInterrupt σ) fun _ s14 =>
tc_executeRowThree_214 s14),
 ((12 : Int32), 188, bd (tc_fetchByte σ) fun v8 s15 =>
bd (tc_waitForInterrupt s15 v8) fun _ s16 =>
tc_executeRowThree_214 s16),
 ((13 : Int32), 199, bd (ar_multiply σ) fun _ s17 =>
tc_executeRowThree_214 s17)] (tc_executeRowThree_209 σ a1)
set_option maxHeartbeats 4000000 in
set_option maxRecDepth 100000 in
theorem b_tc_executeRowThree_214 {X : Cx} (G : Gd X bc_tc_executeRowThree 3 R_chip none (rmm 4 91)) (σ : CS) : J wdC X (QV wdC X) 3 214 [(0, .ref (eO (xE X) 0))] [] σ (tc_executeRowThree_214 σ ) := by
  unfold tc_executeRowThree_214
  exact j_vret G d_tc_executeRowThree_214
set_option maxHeartbeats 4000000 in
set_option maxRecDepth 100000 in
theorem b_tc_executeRowThree_72 {X : Cx} (G : Gd X bc_tc_executeRowThree 3 R_chip none (rmm 4 91)) (σ : CS) (l2 : Int32) : J wdC X (QV wdC X) 3 72 [(0, .ref (eO (xE X) 0)), (2, .int l2)] [] σ (tc_executeRowThree_72 σ l2) := by
  unfold tc_executeRowThree_72
  refine j_aload_n 0 G d_tc_executeRowThree_72 rfl rfl ?_
  refine j_gets 4 (by decide) ks_tc_179 G d_tc_executeRowThree_73 ?_
  refine j_iload_n 1 G d_tc_executeRowThree_76 rfl rfl ?_
  refine j_tald 4 (by decide) G d_tc_executeRowThree_77 ?_
  refine j_aload_n 0 G d_tc_executeRowThree_78 rfl rfl ?_
  refine j_Vi0 G k_tc_indexedAddress mw_tc_indexedAddress lk_tc_tc_indexedAddress rc_chip d_tc_executeRowThree_79 rfl (Nat.le_of_ble_eq_true rfl) (fun v1 s1 => ?_)
  refine j_Vv2 G k_tc_takeAddress mw_tc_takeAddress lk_tc_tc_takeAddress rc_chip d_tc_executeRowThree_82 rfl (Nat.le_of_ble_eq_true rfl) (fun _ s2 => ?_)
  refine j_goto G d_tc_executeRowThree_85 (tgt := 214) rfl ?_
  refine j_sub [0] (L1 := [(0, .ref (eO (xE X) 0))]) rfl ?_
  exact b_tc_executeRowThree_214 G s2
set_option maxHeartbeats 4000000 in
set_option maxRecDepth 100000 in
theorem b_tc_executeRowThree_209 {X : Cx} (G : Gd X bc_tc_executeRowThree 3 R_chip none (rmm 4 91)) (σ : CS) (l1 : Int32) : J wdC X (QV wdC X) 3 209 [(0, .ref (eO (xE X) 0)), (1, .int l1)] [] σ (tc_executeRowThree_209 σ l1) := by
  unfold tc_executeRowThree_209
  refine j_aload_n 0 G d_tc_executeRowThree_209 rfl rfl ?_
  refine j_iload_n 1 G d_tc_executeRowThree_210 rfl rfl ?_
  refine j_Vv1 G k_tc_softwareInterrupt mw_tc_softwareInterrupt lk_tc_tc_softwareInterrupt rc_chip d_tc_executeRowThree_211 rfl (Nat.le_of_ble_eq_true rfl) (fun _ s1 => ?_)
  refine j_sub [0] (L1 := [(0, .ref (eO (xE X) 0))]) rfl ?_
  exact b_tc_executeRowThree_214 G s1
set_option maxHeartbeats 4000000 in
set_option maxRecDepth 100000 in
theorem b_tc_executeRowThree {X : Cx} (G : Gd X bc_tc_executeRowThree 3 R_chip none (rmm 4 91)) (σ : CS) (a1 a2 : Int32) : J wdC X (QV wdC X) 3 0 [(0, .ref (eO (xE X) 0)), (1, .int a1), (2, .int a2)] [] σ (tc_executeRowThree σ a1 a2) := by
  unfold tc_executeRowThree
  refine j_iload_n 2 G d_tc_executeRowThree_0 rfl rfl ?_
  refine j_ts [(0, 72), (1, 72), (2, 72), (3, 72), (4, 88), (5, 100), (6, 112), (7, 124), (9, 136), (10, 153), (11, 181), (12, 188), (13, 199)] G d_tc_executeRowThree_1 (dt := 209) rfl (by decide +kernel) ⟨?_, ?_, ?_, ?_, ?_, ?_, ?_, ?_, ?_, ?_, ?_, ?_, ?_, trivial⟩ ?_
  · refine j_sub [0, 2] (L1 := [(0, .ref (eO (xE X) 0)), (2, .int a2)]) rfl ?_
    exact b_tc_executeRowThree_72 G σ a2
  · refine j_sub [0, 2] (L1 := [(0, .ref (eO (xE X) 0)), (2, .int a2)]) rfl ?_
    exact b_tc_executeRowThree_72 G σ a2
  · refine j_sub [0, 2] (L1 := [(0, .ref (eO (xE X) 0)), (2, .int a2)]) rfl ?_
    exact b_tc_executeRowThree_72 G σ a2
  · refine j_sub [0, 2] (L1 := [(0, .ref (eO (xE X) 0)), (2, .int a2)]) rfl ?_
    exact b_tc_executeRowThree_72 G σ a2
  · refine j_aload_n 0 G d_tc_executeRowThree_88 rfl rfl ?_
    refine j_iconst G d_tc_executeRowThree_89 ci_5 ?_
    refine j_aload_n 0 G d_tc_executeRowThree_90 rfl rfl ?_
    refine j_Vi0 G k_tc_fetchByte mw_tc_fetchByte lk_tc_tc_fetchByte rc_chip d_tc_executeRowThree_91 rfl (Nat.le_of_ble_eq_true rfl) (fun v1 s1 => ?_)
    refine j_Vv2 G k_tc_pushRegisters mw_tc_pushRegisters lk_tc_tc_pushRegisters rc_chip d_tc_executeRowThree_94 rfl (Nat.le_of_ble_eq_true rfl) (fun _ s2 => ?_)
    refine j_goto G d_tc_executeRowThree_97 (tgt := 214) rfl ?_
    refine j_sub [0] (L1 := [(0, .ref (eO (xE X) 0))]) rfl ?_
    exact b_tc_executeRowThree_214 G s2
  · refine j_aload_n 0 G d_tc_executeRowThree_100 rfl rfl ?_
    refine j_iconst G d_tc_executeRowThree_101 ci_5 ?_
    refine j_aload_n 0 G d_tc_executeRowThree_102 rfl rfl ?_
    refine j_Vi0 G k_tc_fetchByte mw_tc_fetchByte lk_tc_tc_fetchByte rc_chip d_tc_executeRowThree_103 rfl (Nat.le_of_ble_eq_true rfl) (fun v2 s3 => ?_)
    refine j_Vv2 G k_tc_pullRegisters mw_tc_pullRegisters lk_tc_tc_pullRegisters rc_chip d_tc_executeRowThree_106 rfl (Nat.le_of_ble_eq_true rfl) (fun _ s4 => ?_)
    refine j_goto G d_tc_executeRowThree_109 (tgt := 214) rfl ?_
    refine j_sub [0] (L1 := [(0, .ref (eO (xE X) 0))]) rfl ?_
    exact b_tc_executeRowThree_214 G s4
  · refine j_aload_n 0 G d_tc_executeRowThree_112 rfl rfl ?_
    refine j_iconst G d_tc_executeRowThree_113 ci_4 ?_
    refine j_aload_n 0 G d_tc_executeRowThree_114 rfl rfl ?_
    refine j_Vi0 G k_tc_fetchByte mw_tc_fetchByte lk_tc_tc_fetchByte rc_chip d_tc_executeRowThree_115 rfl (Nat.le_of_ble_eq_true rfl) (fun v3 s5 => ?_)
    refine j_Vv2 G k_tc_pushRegisters mw_tc_pushRegisters lk_tc_tc_pushRegisters rc_chip d_tc_executeRowThree_118 rfl (Nat.le_of_ble_eq_true rfl) (fun _ s6 => ?_)
    refine j_goto G d_tc_executeRowThree_121 (tgt := 214) rfl ?_
    refine j_sub [0] (L1 := [(0, .ref (eO (xE X) 0))]) rfl ?_
    exact b_tc_executeRowThree_214 G s6
  · refine j_aload_n 0 G d_tc_executeRowThree_124 rfl rfl ?_
    refine j_iconst G d_tc_executeRowThree_125 ci_4 ?_
    refine j_aload_n 0 G d_tc_executeRowThree_126 rfl rfl ?_
    refine j_Vi0 G k_tc_fetchByte mw_tc_fetchByte lk_tc_tc_fetchByte rc_chip d_tc_executeRowThree_127 rfl (Nat.le_of_ble_eq_true rfl) (fun v4 s7 => ?_)
    refine j_Vv2 G k_tc_pullRegisters mw_tc_pullRegisters lk_tc_tc_pullRegisters rc_chip d_tc_executeRowThree_130 rfl (Nat.le_of_ble_eq_true rfl) (fun _ s8 => ?_)
    refine j_goto G d_tc_executeRowThree_133 (tgt := 214) rfl ?_
    refine j_sub [0] (L1 := [(0, .ref (eO (xE X) 0))]) rfl ?_
    exact b_tc_executeRowThree_214 G s8
  · refine j_aload_n 0 G d_tc_executeRowThree_136 rfl rfl ?_
    refine g_tc_registers G d_tc_executeRowThree_137 ?_
    refine j_bipush G d_tc_executeRowThree_140 cb_6 ?_
    refine j_aload_n 0 G d_tc_executeRowThree_142 rfl rfl ?_
    refine j_iconst G d_tc_executeRowThree_143 ci_5 ?_
    refine j_Vi1 G k_tc_pullWord mw_tc_pullWord lk_tc_tc_pullWord rc_chip d_tc_executeRowThree_144 rfl (Nat.le_of_ble_eq_true rfl) (fun v5 s9 => ?_)
    refine j_Vv2 G k_re_set mw_re_set lk_tc_re_set rc_reg d_tc_executeRowThree_147 rfl (Nat.le_of_ble_eq_true rfl) (fun _ s10 => ?_)
    refine j_goto G d_tc_executeRowThree_150 (tgt := 214) rfl ?_
    refine j_sub [0] (L1 := [(0, .ref (eO (xE X) 0))]) rfl ?_
    exact b_tc_executeRowThree_214 G s10
  · refine j_aload_n 0 G d_tc_executeRowThree_153 rfl rfl ?_
    refine g_tc_registers G d_tc_executeRowThree_154 ?_
    refine j_iconst G d_tc_executeRowThree_157 ci_2 ?_
    refine j_aload_n 0 G d_tc_executeRowThree_158 rfl rfl ?_
    refine g_tc_registers G d_tc_executeRowThree_159 ?_
    refine j_iconst G d_tc_executeRowThree_162 ci_2 ?_
    refine j_Vi1 G k_re_get mw_re_get lk_tc_re_get rc_reg d_tc_executeRowThree_163 rfl (Nat.le_of_ble_eq_true rfl) (fun v6 s11 => ?_)
    refine j_aload_n 0 G d_tc_executeRowThree_166 rfl rfl ?_
    refine g_tc_registers G d_tc_executeRowThree_167 ?_
    refine j_iconst G d_tc_executeRowThree_170 ci_1 ?_
    refine j_Vi1 G k_re_get mw_re_get lk_tc_re_get rc_reg d_tc_executeRowThree_171 rfl (Nat.le_of_ble_eq_true rfl) (fun v7 s12 => ?_)
    refine j_iadd G d_tc_executeRowThree_174 ?_
    refine j_Vv2 G k_re_set mw_re_set lk_tc_re_set rc_reg d_tc_executeRowThree_175 rfl (Nat.le_of_ble_eq_true rfl) (fun _ s13 => ?_)
    refine j_goto G d_tc_executeRowThree_178 (tgt := 214) rfl ?_
    refine j_sub [0] (L1 := [(0, .ref (eO (xE X) 0))]) rfl ?_
    exact b_tc_executeRowThree_214 G s13
  · refine j_aload_n 0 G d_tc_executeRowThree_181 rfl rfl ?_
    refine j_Vv0 G k_tc_returnFromInterrupt mw_tc_returnFromInterrupt lk_tc_tc_returnFromInterrupt rc_chip d_tc_executeRowThree_182 rfl (Nat.le_of_ble_eq_true rfl) (fun _ s14 => ?_)
    refine j_goto G d_tc_executeRowThree_185 (tgt := 214) rfl ?_
    refine j_sub [0] (L1 := [(0, .ref (eO (xE X) 0))]) rfl ?_
    exact b_tc_executeRowThree_214 G s14
  · refine j_aload_n 0 G d_tc_executeRowThree_188 rfl rfl ?_
    refine j_aload_n 0 G d_tc_executeRowThree_189 rfl rfl ?_
    refine j_Vi0 G k_tc_fetchByte mw_tc_fetchByte lk_tc_tc_fetchByte rc_chip d_tc_executeRowThree_190 rfl (Nat.le_of_ble_eq_true rfl) (fun v8 s15 => ?_)
    refine j_Vv1 G k_tc_waitForInterrupt mw_tc_waitForInterrupt lk_tc_tc_waitForInterrupt rc_chip d_tc_executeRowThree_193 rfl (Nat.le_of_ble_eq_true rfl) (fun _ s16 => ?_)
    refine j_goto G d_tc_executeRowThree_196 (tgt := 214) rfl ?_
    refine j_sub [0] (L1 := [(0, .ref (eO (xE X) 0))]) rfl ?_
    exact b_tc_executeRowThree_214 G s16
  · refine j_aload_n 0 G d_tc_executeRowThree_199 rfl rfl ?_
    refine g_tc_arithmetic G d_tc_executeRowThree_200 ?_
    refine j_Vv0 G k_ar_multiply mw_ar_multiply lk_tc_ar_multiply rc_ari d_tc_executeRowThree_203 rfl (Nat.le_of_ble_eq_true rfl) (fun _ s17 => ?_)
    refine j_goto G d_tc_executeRowThree_206 (tgt := 214) rfl ?_
    refine j_sub [0] (L1 := [(0, .ref (eO (xE X) 0))]) rfl ?_
    exact b_tc_executeRowThree_214 G s17
  · refine j_sub [0, 1] (L1 := [(0, .ref (eO (xE X) 0)), (1, .int a1)]) rfl ?_
    exact b_tc_executeRowThree_209 G σ a1
set_option maxHeartbeats 4000000 in
set_option maxRecDepth 100000 in
theorem k_tc_executeRowThree {l : Launch} {E : Ev} {σ : CS} {a1 a2 : Int32} : CtV wdC l E y_tc_executeRowThree bc_tc_executeRowThree 3 none (rmm 4 91) [.ref (eO E 0), .int a1, .int a2] σ (tc_executeRowThree σ a1 a2) := ct_v (by decide) (Nat.le_of_ble_eq_true rfl) (fun X hE _ G => by subst hE; exact b_tc_executeRowThree G σ a1 a2)
def tc_operandAddress (σ : CS) (a1 a2 : Int32) : Option (Int32 × CS) :=
swi a1 [((0 : Int32), 28, bd (re_get σ (6 : Int32)) fun v1 s1 =>
bd (re_set s1 (6 : Int32) (v1 + a2)) fun _ s2 =>
some (v1, s2)),
 ((1 : Int32), 52, bd (re_get σ (7 : Int32)) fun v2 s3 =>
bd (tc_fetchByte s3) fun v3 s4 =>
some (((v2 <<< ((8 : Int32) &&& 31)) ||| v3), s4)),
 ((2 : Int32), 70, bd (tc_indexedAddress σ) fun v4 s5 =>
some (v4, s5))] (bd (tc_fetchWord σ) fun v5 s6 =>
some (v5, s6))
set_option maxHeartbeats 4000000 in
set_option maxRecDepth 100000 in
theorem b_tc_operandAddress {X : Cx} (G : Gd X bc_tc_operandAddress 4 R_chip (some .int) (rmm 4 91)) (σ : CS) (a1 a2 : Int32) : J wdC X (QI wdC X) 4 0 [(0, .ref (eO (xE X) 0)), (1, .int a1), (2, .int a2)] [] σ (tc_operandAddress σ a1 a2) := by
  unfold tc_operandAddress
  refine j_iload_n 1 G d_tc_operandAddress_0 rfl rfl ?_
  refine j_ts [(0, 28), (1, 52), (2, 70)] G d_tc_operandAddress_1 (dt := 75) rfl (by decide +kernel) ⟨?_, ?_, ?_, trivial⟩ ?_
  · refine j_aload_n 0 G d_tc_operandAddress_28 rfl rfl ?_
    refine g_tc_registers G d_tc_operandAddress_29 ?_
    refine j_bipush G d_tc_operandAddress_32 cb_6 ?_
    refine j_Vi1 G k_re_get mw_re_get lk_tc_re_get rc_reg d_tc_operandAddress_34 rfl (Nat.le_of_ble_eq_true rfl) (fun v1 s1 => ?_)
    refine j_istore_n [1, 3, 0] (L1 := [(0, .ref (eO (xE X) 0)), (2, .int a2), (3, .int v1)]) G d_tc_operandAddress_37 rfl (by decide) rfl ?_
    refine j_aload_n 0 G d_tc_operandAddress_38 rfl rfl ?_
    refine g_tc_registers G d_tc_operandAddress_39 ?_
    refine j_bipush G d_tc_operandAddress_42 cb_6 ?_
    refine j_iload_n 2 G d_tc_operandAddress_44 rfl rfl ?_
    refine j_iload_n 1 G d_tc_operandAddress_45 rfl rfl ?_
    refine j_iadd G d_tc_operandAddress_46 ?_
    refine j_Vv2 G k_re_set mw_re_set lk_tc_re_set rc_reg d_tc_operandAddress_47 rfl (Nat.le_of_ble_eq_true rfl) (fun _ s2 => ?_)
    refine j_iload_n 2 G d_tc_operandAddress_50 rfl rfl ?_
    exact j_iret G d_tc_operandAddress_51
  · refine j_aload_n 0 G d_tc_operandAddress_52 rfl rfl ?_
    refine g_tc_registers G d_tc_operandAddress_53 ?_
    refine j_bipush G d_tc_operandAddress_56 cb_7 ?_
    refine j_Vi1 G k_re_get mw_re_get lk_tc_re_get rc_reg d_tc_operandAddress_58 rfl (Nat.le_of_ble_eq_true rfl) (fun v2 s3 => ?_)
    refine j_bipush G d_tc_operandAddress_61 cb_8 ?_
    refine j_ishl G d_tc_operandAddress_63 ?_
    refine j_aload_n 0 G d_tc_operandAddress_64 rfl rfl ?_
    refine j_Vi0 G k_tc_fetchByte mw_tc_fetchByte lk_tc_tc_fetchByte rc_chip d_tc_operandAddress_65 rfl (Nat.le_of_ble_eq_true rfl) (fun v3 s4 => ?_)
    refine j_ior G d_tc_operandAddress_68 ?_
    exact j_iret G d_tc_operandAddress_69
  · refine j_aload_n 0 G d_tc_operandAddress_70 rfl rfl ?_
    refine j_Vi0 G k_tc_indexedAddress mw_tc_indexedAddress lk_tc_tc_indexedAddress rc_chip d_tc_operandAddress_71 rfl (Nat.le_of_ble_eq_true rfl) (fun v4 s5 => ?_)
    exact j_iret G d_tc_operandAddress_74
  · refine j_aload_n 0 G d_tc_operandAddress_75 rfl rfl ?_
    refine j_Vi0 G k_tc_fetchWord mw_tc_fetchWord lk_tc_tc_fetchWord rc_chip d_tc_operandAddress_76 rfl (Nat.le_of_ble_eq_true rfl) (fun v5 s6 => ?_)
    exact j_iret G d_tc_operandAddress_79
set_option maxHeartbeats 4000000 in
set_option maxRecDepth 100000 in
theorem k_tc_operandAddress {l : Launch} {E : Ev} {σ : CS} {a1 a2 : Int32} : CtI wdC l E y_tc_operandAddress bc_tc_operandAddress 4 (some .int) (rmm 4 91) [.ref (eO E 0), .int a1, .int a2] σ (tc_operandAddress σ a1 a2) := ct_i (by decide) (Nat.le_of_ble_eq_true rfl) (fun X hE _ G => by subst hE; exact b_tc_operandAddress G σ a1 a2)
def tc_alterMemory_43 (σ : CS) : Option (Int32 × CS) :=
some ((0 : Int32), σ)
def tc_alterMemory (σ : CS) (a1 a2 : Int32) : Option (Int32 × CS) :=
if a1 = (14 : Int32) then (bd (re_set σ (6 : Int32) a2) fun _ s4 =>
tc_alterMemory_43 s4) else (bd (me_byteAt σ a2) fun v1 s1 =>
bd (ar_alter s1 a1 v1) fun v2 s2 =>
bd (me_setByte s2 a2 v2) fun _ s3 =>
tc_alterMemory_43 s3)
set_option maxHeartbeats 4000000 in
set_option maxRecDepth 100000 in
theorem b_tc_alterMemory_43 {X : Cx} (G : Gd X bc_tc_alterMemory 3 R_chip none (rmm 3 72)) (σ : CS) : J wdC X (QV wdC X) 3 43 [(0, .ref (eO (xE X) 0))] [] σ (tc_alterMemory_43 σ ) := by
  unfold tc_alterMemory_43
  exact j_vret G d_tc_alterMemory_43
set_option maxHeartbeats 4000000 in
set_option maxRecDepth 100000 in
theorem b_tc_alterMemory {X : Cx} (G : Gd X bc_tc_alterMemory 3 R_chip none (rmm 3 72)) (σ : CS) (a1 a2 : Int32) : J wdC X (QV wdC X) 3 0 [(0, .ref (eO (xE X) 0)), (1, .int a1), (2, .int a2)] [] σ (tc_alterMemory σ a1 a2) := by
  unfold tc_alterMemory
  refine j_iload_n 1 G d_tc_alterMemory_0 rfl rfl ?_
  refine j_bipush G d_tc_alterMemory_1 cb_14 ?_
  refine j_icne G d_tc_alterMemory_3 (tgt := 19) rfl ?_ ?_
  · refine j_aload_n 0 G d_tc_alterMemory_19 rfl rfl ?_
    refine g_tc_memory G d_tc_alterMemory_20 ?_
    refine j_iload_n 2 G d_tc_alterMemory_23 rfl rfl ?_
    refine j_aload_n 0 G d_tc_alterMemory_24 rfl rfl ?_
    refine g_tc_arithmetic G d_tc_alterMemory_25 ?_
    refine j_iload_n 1 G d_tc_alterMemory_28 rfl rfl ?_
    refine j_aload_n 0 G d_tc_alterMemory_29 rfl rfl ?_
    refine g_tc_memory G d_tc_alterMemory_30 ?_
    refine j_iload_n 2 G d_tc_alterMemory_33 rfl rfl ?_
    refine j_Vi1 G k_me_byteAt mw_me_byteAt lk_tc_me_byteAt rc_mem d_tc_alterMemory_34 rfl (Nat.le_of_ble_eq_true rfl) (fun v1 s1 => ?_)
    refine j_Vi2 G k_ar_alter mw_ar_alter lk_tc_ar_alter rc_ari d_tc_alterMemory_37 rfl (Nat.le_of_ble_eq_true rfl) (fun v2 s2 => ?_)
    refine j_Vv2 G k_me_setByte mw_me_setByte lk_tc_me_setByte rc_mem d_tc_alterMemory_40 rfl (Nat.le_of_ble_eq_true rfl) (fun _ s3 => ?_)
    refine j_sub [0] (L1 := [(0, .ref (eO (xE X) 0))]) rfl ?_
    exact b_tc_alterMemory_43 G s3
  · refine j_aload_n 0 G d_tc_alterMemory_6 rfl rfl ?_
    refine g_tc_registers G d_tc_alterMemory_7 ?_
    refine j_bipush G d_tc_alterMemory_10 cb_6 ?_
    refine j_iload_n 2 G d_tc_alterMemory_12 rfl rfl ?_
    refine j_Vv2 G k_re_set mw_re_set lk_tc_re_set rc_reg d_tc_alterMemory_13 rfl (Nat.le_of_ble_eq_true rfl) (fun _ s4 => ?_)
    refine j_goto G d_tc_alterMemory_16 (tgt := 43) rfl ?_
    refine j_sub [0] (L1 := [(0, .ref (eO (xE X) 0))]) rfl ?_
    exact b_tc_alterMemory_43 G s4
set_option maxHeartbeats 4000000 in
set_option maxRecDepth 100000 in
theorem k_tc_alterMemory {l : Launch} {E : Ev} {σ : CS} {a1 a2 : Int32} : CtV wdC l E y_tc_alterMemory bc_tc_alterMemory 3 none (rmm 3 72) [.ref (eO E 0), .int a1, .int a2] σ (tc_alterMemory σ a1 a2) := ct_v (by decide) (Nat.le_of_ble_eq_true rfl) (fun X hE _ G => by subst hE; exact b_tc_alterMemory G σ a1 a2)
def tc_executeLowerHalf_174 (σ : CS) : Option (Int32 × CS) :=
some ((0 : Int32), σ)
def tc_executeLowerHalf_80 (σ : CS) (t0 t1 : Int32) : Option (Int32 × CS) :=
bd (tc_branch σ t1 t0) fun _ s1 =>
tc_executeLowerHalf_174 s1
def tc_executeLowerHalf_167 (σ : CS) (t0 t2 : Int32) : Option (Int32 × CS) :=
bd (tc_operandAddress σ t0 (1 : Int32)) fun v1 s1 =>
bd (tc_alterMemory s1 t2 v1) fun _ s2 =>
tc_executeLowerHalf_174 s2
def tc_executeLowerHalf (σ : CS) (a1 : Int32) : Option (Int32 × CS) :=
nm (a1 >>> ((8 : Int32) &&& 31)) fun v1 =>
nm ((a1 >>> ((4 : Int32) &&& 31)) &&& (7 : Int32)) fun v2 =>
nm (a1 &&& (15 : Int32)) fun v3 =>
swi v2 [((1 : Int32), 52, bd (tc_executeRowOne σ v3) fun _ s1 =>
tc_executeLowerHalf_174 s1),
 ((2 : Int32), 61, if v1 = 0 then (bd (tc_fetchByte σ) fun v5 s3 =>
tc_executeLowerHalf_80 s3 (v5.toInt8.toInt32) v3) else (bd (tc_fetchWord σ) fun v4 s2 =>
tc_executeLowerHalf_80 s2 v4 v3)),
 ((3 : Int32), 86, bd (tc_executeRowThree σ v1 v3) fun _ s4 =>
tc_executeLowerHalf_174 s4),
 ((4 : Int32), 96, bd (re_get σ (0 : Int32)) fun v6 s5 =>
bd (ar_alter s5 v3 v6) fun v7 s6 =>
bd (re_set s6 (0 : Int32) v7) fun _ s7 =>
tc_executeLowerHalf_174 s7),
 ((5 : Int32), 124, bd (re_get σ (1 : Int32)) fun v8 s8 =>
bd (ar_alter s8 v3 v8) fun v9 s9 =>
bd (re_set s9 (1 : Int32) v9) fun _ s10 =>
tc_executeLowerHalf_174 s10)] (if v2 = 0 then (tc_executeLowerHalf_167 σ (1 : Int32) v3) else (tc_executeLowerHalf_167 σ (v2 &&& (3 : Int32)) v3))
set_option maxHeartbeats 4000000 in
set_option maxRecDepth 100000 in
theorem b_tc_executeLowerHalf_174 {X : Cx} (G : Gd X bc_tc_executeLowerHalf 5 R_chip none (rmm 5 114)) (σ : CS) : J wdC X (QV wdC X) 5 174 [(0, .ref (eO (xE X) 0))] [] σ (tc_executeLowerHalf_174 σ ) := by
  unfold tc_executeLowerHalf_174
  exact j_vret G d_tc_executeLowerHalf_174
set_option maxHeartbeats 4000000 in
set_option maxRecDepth 100000 in
theorem b_tc_executeLowerHalf_80 {X : Cx} (G : Gd X bc_tc_executeLowerHalf 5 R_chip none (rmm 5 114)) (σ : CS) (t0 t1 : Int32) : J wdC X (QV wdC X) 5 80 [(0, .ref (eO (xE X) 0))] [.int t0, .int t1, .ref (eO (xE X) 0)] σ (tc_executeLowerHalf_80 σ t0 t1) := by
  unfold tc_executeLowerHalf_80
  refine j_Vv2 G k_tc_branch mw_tc_branch lk_tc_tc_branch rc_chip d_tc_executeLowerHalf_80 rfl (Nat.le_of_ble_eq_true rfl) (fun _ s1 => ?_)
  refine j_goto G d_tc_executeLowerHalf_83 (tgt := 174) rfl ?_
  exact b_tc_executeLowerHalf_174 G s1
set_option maxHeartbeats 4000000 in
set_option maxRecDepth 100000 in
theorem b_tc_executeLowerHalf_167 {X : Cx} (G : Gd X bc_tc_executeLowerHalf 5 R_chip none (rmm 5 114)) (σ : CS) (t0 t2 : Int32) : J wdC X (QV wdC X) 5 167 [(0, .ref (eO (xE X) 0))] [.int t0, .ref (eO (xE X) 0), .int t2, .ref (eO (xE X) 0)] σ (tc_executeLowerHalf_167 σ t0 t2) := by
  unfold tc_executeLowerHalf_167
  refine j_iconst G d_tc_executeLowerHalf_167 ci_1 ?_
  refine j_Vi2 G k_tc_operandAddress mw_tc_operandAddress lk_tc_tc_operandAddress rc_chip d_tc_executeLowerHalf_168 rfl (Nat.le_of_ble_eq_true rfl) (fun v1 s1 => ?_)
  refine j_Vv2 G k_tc_alterMemory mw_tc_alterMemory lk_tc_tc_alterMemory rc_chip d_tc_executeLowerHalf_171 rfl (Nat.le_of_ble_eq_true rfl) (fun _ s2 => ?_)
  exact b_tc_executeLowerHalf_174 G s2
set_option maxHeartbeats 4000000 in
set_option maxRecDepth 100000 in
theorem b_tc_executeLowerHalf {X : Cx} (G : Gd X bc_tc_executeLowerHalf 5 R_chip none (rmm 5 114)) (σ : CS) (a1 : Int32) : J wdC X (QV wdC X) 5 0 [(0, .ref (eO (xE X) 0)), (1, .int a1)] [] σ (tc_executeLowerHalf σ a1) := by
  unfold tc_executeLowerHalf
  refine j_iload_n 1 G d_tc_executeLowerHalf_0 rfl rfl ?_
  refine j_bipush G d_tc_executeLowerHalf_1 cb_8 ?_
  refine j_ishr G d_tc_executeLowerHalf_3 ?_
  refine j_nm (fun v1 => ?_)
  refine j_istore_n [1, 2, 0] (L1 := [(0, .ref (eO (xE X) 0)), (1, .int a1), (2, .int v1)]) G d_tc_executeLowerHalf_4 rfl (by decide) rfl ?_
  refine j_iload_n 1 G d_tc_executeLowerHalf_5 rfl rfl ?_
  refine j_iconst G d_tc_executeLowerHalf_6 ci_4 ?_
  refine j_ishr G d_tc_executeLowerHalf_7 ?_
  refine j_bipush G d_tc_executeLowerHalf_8 cb_7 ?_
  refine j_iand G d_tc_executeLowerHalf_10 ?_
  refine j_nm (fun v2 => ?_)
  refine j_istore_n [1, 2, 3, 0] (L1 := [(0, .ref (eO (xE X) 0)), (1, .int a1), (2, .int v1), (3, .int v2)]) G d_tc_executeLowerHalf_11 rfl (by decide) rfl ?_
  refine j_iload_n 1 G d_tc_executeLowerHalf_12 rfl rfl ?_
  refine j_bipush G d_tc_executeLowerHalf_13 cb_15 ?_
  refine j_iand G d_tc_executeLowerHalf_15 ?_
  refine j_nm (fun v3 => ?_)
  refine j_istore [1, 3, 4, 0] (L1 := [(0, .ref (eO (xE X) 0)), (2, .int v1), (3, .int v2), (4, .int v3)]) G d_tc_executeLowerHalf_16 (by decide) rfl ?_
  refine j_iload_n 2 G d_tc_executeLowerHalf_18 rfl rfl ?_
  refine j_ts [(1, 52), (2, 61), (3, 86), (4, 96), (5, 124)] G d_tc_executeLowerHalf_19 (dt := 152) rfl (by decide +kernel) ⟨?_, ?_, ?_, ?_, ?_, trivial⟩ ?_
  · refine j_aload_n 0 G d_tc_executeLowerHalf_52 rfl rfl ?_
    refine j_iload 3 G d_tc_executeLowerHalf_53 rfl ?_
    refine j_Vv1 G k_tc_executeRowOne mw_tc_executeRowOne lk_tc_tc_executeRowOne rc_chip d_tc_executeLowerHalf_55 rfl (Nat.le_of_ble_eq_true rfl) (fun _ s1 => ?_)
    refine j_goto G d_tc_executeLowerHalf_58 (tgt := 174) rfl ?_
    refine j_sub [0] (L1 := [(0, .ref (eO (xE X) 0))]) rfl ?_
    exact b_tc_executeLowerHalf_174 G s1
  · refine j_aload_n 0 G d_tc_executeLowerHalf_61 rfl rfl ?_
    refine j_iload 3 G d_tc_executeLowerHalf_62 rfl ?_
    refine j_iload_n 1 G d_tc_executeLowerHalf_64 rfl rfl ?_
    refine j_ifne G d_tc_executeLowerHalf_65 (tgt := 76) rfl ?_ ?_
    · refine j_aload_n 0 G d_tc_executeLowerHalf_76 rfl rfl ?_
      refine j_Vi0 G k_tc_fetchWord mw_tc_fetchWord lk_tc_tc_fetchWord rc_chip d_tc_executeLowerHalf_77 rfl (Nat.le_of_ble_eq_true rfl) (fun v4 s2 => ?_)
      refine j_sub [0] (L1 := [(0, .ref (eO (xE X) 0))]) rfl ?_
      exact b_tc_executeLowerHalf_80 G s2 v4 v3
    · refine j_aload_n 0 G d_tc_executeLowerHalf_68 rfl rfl ?_
      refine j_Vi0 G k_tc_fetchByte mw_tc_fetchByte lk_tc_tc_fetchByte rc_chip d_tc_executeLowerHalf_69 rfl (Nat.le_of_ble_eq_true rfl) (fun v5 s3 => ?_)
      refine j_i2b G d_tc_executeLowerHalf_72 ?_
      refine j_goto G d_tc_executeLowerHalf_73 (tgt := 80) rfl ?_
      refine j_sub [0] (L1 := [(0, .ref (eO (xE X) 0))]) rfl ?_
      exact b_tc_executeLowerHalf_80 G s3 (v5.toInt8.toInt32) v3
  · refine j_aload_n 0 G d_tc_executeLowerHalf_86 rfl rfl ?_
    refine j_iload_n 1 G d_tc_executeLowerHalf_87 rfl rfl ?_
    refine j_iload 3 G d_tc_executeLowerHalf_88 rfl ?_
    refine j_Vv2 G k_tc_executeRowThree mw_tc_executeRowThree lk_tc_tc_executeRowThree rc_chip d_tc_executeLowerHalf_90 rfl (Nat.le_of_ble_eq_true rfl) (fun _ s4 => ?_)
    refine j_goto G d_tc_executeLowerHalf_93 (tgt := 174) rfl ?_
    refine j_sub [0] (L1 := [(0, .ref (eO (xE X) 0))]) rfl ?_
    exact b_tc_executeLowerHalf_174 G s4
  · refine j_aload_n 0 G d_tc_executeLowerHalf_96 rfl rfl ?_
    refine g_tc_registers G d_tc_executeLowerHalf_97 ?_
    refine j_iconst G d_tc_executeLowerHalf_100 ci_0 ?_
    refine j_aload_n 0 G d_tc_executeLowerHalf_101 rfl rfl ?_
    refine g_tc_arithmetic G d_tc_executeLowerHalf_102 ?_
    refine j_iload 3 G d_tc_executeLowerHalf_105 rfl ?_
    refine j_aload_n 0 G d_tc_executeLowerHalf_107 rfl rfl ?_
    refine g_tc_registers G d_tc_executeLowerHalf_108 ?_
    refine j_iconst G d_tc_executeLowerHalf_111 ci_0 ?_
    refine j_Vi1 G k_re_get mw_re_get lk_tc_re_get rc_reg d_tc_executeLowerHalf_112 rfl (Nat.le_of_ble_eq_true rfl) (fun v6 s5 => ?_)
    refine j_Vi2 G k_ar_alter mw_ar_alter lk_tc_ar_alter rc_ari d_tc_executeLowerHalf_115 rfl (Nat.le_of_ble_eq_true rfl) (fun v7 s6 => ?_)
    refine j_Vv2 G k_re_set mw_re_set lk_tc_re_set rc_reg d_tc_executeLowerHalf_118 rfl (Nat.le_of_ble_eq_true rfl) (fun _ s7 => ?_)
    refine j_goto G d_tc_executeLowerHalf_121 (tgt := 174) rfl ?_
    refine j_sub [0] (L1 := [(0, .ref (eO (xE X) 0))]) rfl ?_
    exact b_tc_executeLowerHalf_174 G s7
  · refine j_aload_n 0 G d_tc_executeLowerHalf_124 rfl rfl ?_
    refine g_tc_registers G d_tc_executeLowerHalf_125 ?_
    refine j_iconst G d_tc_executeLowerHalf_128 ci_1 ?_
    refine j_aload_n 0 G d_tc_executeLowerHalf_129 rfl rfl ?_
    refine g_tc_arithmetic G d_tc_executeLowerHalf_130 ?_
    refine j_iload 3 G d_tc_executeLowerHalf_133 rfl ?_
    refine j_aload_n 0 G d_tc_executeLowerHalf_135 rfl rfl ?_
    refine g_tc_registers G d_tc_executeLowerHalf_136 ?_
    refine j_iconst G d_tc_executeLowerHalf_139 ci_1 ?_
    refine j_Vi1 G k_re_get mw_re_get lk_tc_re_get rc_reg d_tc_executeLowerHalf_140 rfl (Nat.le_of_ble_eq_true rfl) (fun v8 s8 => ?_)
    refine j_Vi2 G k_ar_alter mw_ar_alter lk_tc_ar_alter rc_ari d_tc_executeLowerHalf_143 rfl (Nat.le_of_ble_eq_true rfl) (fun v9 s9 => ?_)
    refine j_Vv2 G k_re_set mw_re_set lk_tc_re_set rc_reg d_tc_executeLowerHalf_146 rfl (Nat.le_of_ble_eq_true rfl) (fun _ s10 => ?_)
    refine j_goto G d_tc_executeLowerHalf_149 (tgt := 174) rfl ?_
    refine j_sub [0] (L1 := [(0, .ref (eO (xE X) 0))]) rfl ?_
    exact b_tc_executeLowerHalf_174 G s10
  · refine j_aload_n 0 G d_tc_executeLowerHalf_152 rfl rfl ?_
    refine j_iload 3 G d_tc_executeLowerHalf_153 rfl ?_
    refine j_aload_n 0 G d_tc_executeLowerHalf_155 rfl rfl ?_
    refine j_iload_n 2 G d_tc_executeLowerHalf_156 rfl rfl ?_
    refine j_ifne G d_tc_executeLowerHalf_157 (tgt := 164) rfl ?_ ?_
    · refine j_iload_n 2 G d_tc_executeLowerHalf_164 rfl rfl ?_
      refine j_iconst G d_tc_executeLowerHalf_165 ci_3 ?_
      refine j_iand G d_tc_executeLowerHalf_166 ?_
      refine j_sub [0] (L1 := [(0, .ref (eO (xE X) 0))]) rfl ?_
      exact b_tc_executeLowerHalf_167 G σ (v2 &&& (3 : Int32)) v3
    · refine j_iconst G d_tc_executeLowerHalf_160 ci_1 ?_
      refine j_goto G d_tc_executeLowerHalf_161 (tgt := 167) rfl ?_
      refine j_sub [0] (L1 := [(0, .ref (eO (xE X) 0))]) rfl ?_
      exact b_tc_executeLowerHalf_167 G σ (1 : Int32) v3
set_option maxHeartbeats 4000000 in
set_option maxRecDepth 100000 in
theorem k_tc_executeLowerHalf {l : Launch} {E : Ev} {σ : CS} {a1 : Int32} : CtV wdC l E y_tc_executeLowerHalf bc_tc_executeLowerHalf 5 none (rmm 5 114) [.ref (eO E 0), .int a1] σ (tc_executeLowerHalf σ a1) := ct_v (by decide) (Nat.le_of_ble_eq_true rfl) (fun X hE _ G => by subst hE; exact b_tc_executeLowerHalf G σ a1)
def tc_call (σ : CS) (a1 : Int32) : Option (Int32 × CS) :=
bd (re_get σ (6 : Int32)) fun v1 s1 =>
bd (tc_pushWord s1 (5 : Int32) v1) fun _ s2 =>
bd (re_set s2 (6 : Int32) a1) fun _ s3 =>
some ((0 : Int32), s3)
set_option maxHeartbeats 4000000 in
set_option maxRecDepth 100000 in
theorem b_tc_call {X : Cx} (G : Gd X bc_tc_call 2 R_chip none (rmm 2 45)) (σ : CS) (a1 : Int32) : J wdC X (QV wdC X) 2 0 [(0, .ref (eO (xE X) 0)), (1, .int a1)] [] σ (tc_call σ a1) := by
  unfold tc_call
  refine j_aload_n 0 G d_tc_call_0 rfl rfl ?_
  refine j_iconst G d_tc_call_1 ci_5 ?_
  refine j_aload_n 0 G d_tc_call_2 rfl rfl ?_
  refine g_tc_registers G d_tc_call_3 ?_
  refine j_bipush G d_tc_call_6 cb_6 ?_
  refine j_Vi1 G k_re_get mw_re_get lk_tc_re_get rc_reg d_tc_call_8 rfl (Nat.le_of_ble_eq_true rfl) (fun v1 s1 => ?_)
  refine j_Vv2 G k_tc_pushWord mw_tc_pushWord lk_tc_tc_pushWord rc_chip d_tc_call_11 rfl (Nat.le_of_ble_eq_true rfl) (fun _ s2 => ?_)
  refine j_aload_n 0 G d_tc_call_14 rfl rfl ?_
  refine g_tc_registers G d_tc_call_15 ?_
  refine j_bipush G d_tc_call_18 cb_6 ?_
  refine j_iload_n 1 G d_tc_call_20 rfl rfl ?_
  refine j_Vv2 G k_re_set mw_re_set lk_tc_re_set rc_reg d_tc_call_21 rfl (Nat.le_of_ble_eq_true rfl) (fun _ s3 => ?_)
  exact j_vret G d_tc_call_24
set_option maxHeartbeats 4000000 in
set_option maxRecDepth 100000 in
theorem k_tc_call {l : Launch} {E : Ev} {σ : CS} {a1 : Int32} : CtV wdC l E y_tc_call bc_tc_call 2 none (rmm 2 45) [.ref (eO E 0), .int a1] σ (tc_call σ a1) := ct_v (by decide) (Nat.le_of_ble_eq_true rfl) (fun X hE _ G => by subst hE; exact b_tc_call G σ a1)
def tc_wordRegister_64 (σ : CS) (t0 : Int32) : Option (Int32 × CS) :=
some (t0, σ)
def tc_wordRegister_54 (σ : CS) (t0 : Int32) : Option (Int32 × CS) :=
some (t0, σ)
def tc_wordRegister_40 (σ : CS) (l0 l2 : Int32) : Option (Int32 × CS) :=
if l0 = (1 : Int32) then (if l2 = 0 then (tc_wordRegister_54 σ (3 : Int32)) else (tc_wordRegister_54 σ (5 : Int32))) else (if l2 = 0 then (tc_wordRegister_64 σ (2 : Int32)) else (tc_wordRegister_64 σ (4 : Int32)))
def tc_wordRegister_37 (σ : CS) : Option (Int32 × CS) :=
some ((9 : Int32), σ)
def tc_wordRegister_15 (σ : CS) (t0 : Int32) : Option (Int32 × CS) :=
some (t0, σ)
def tc_wordRegister (σ : CS) (a1 a2 a3 : Int32) : Option (Int32 × CS) :=
if a1 = (2 : Int32) then (if a2 = (3 : Int32) then (tc_wordRegister_15 σ (4 : Int32)) else (tc_wordRegister_15 σ (5 : Int32))) else (if a2 = (3 : Int32) then (tc_wordRegister_37 σ) else (if a2 = (13 : Int32) then (tc_wordRegister_37 σ) else (if a2 = (12 : Int32) then (if a3 = 0 then (tc_wordRegister_40 σ a1 a3) else (tc_wordRegister_37 σ)) else (tc_wordRegister_40 σ a1 a3))))
set_option maxHeartbeats 4000000 in
set_option maxRecDepth 100000 in
theorem b_tc_wordRegister_64 {X : Cx} (G : Gd X bc_tc_wordRegister 3 R_chip (some .int) (rmm 0 0)) (σ : CS) (t0 : Int32) : J wdC X (QI wdC X) 3 64 [] [.int t0] σ (tc_wordRegister_64 σ t0) := by
  unfold tc_wordRegister_64
  exact j_iret G d_tc_wordRegister_64
set_option maxHeartbeats 4000000 in
set_option maxRecDepth 100000 in
theorem b_tc_wordRegister_54 {X : Cx} (G : Gd X bc_tc_wordRegister 3 R_chip (some .int) (rmm 0 0)) (σ : CS) (t0 : Int32) : J wdC X (QI wdC X) 3 54 [] [.int t0] σ (tc_wordRegister_54 σ t0) := by
  unfold tc_wordRegister_54
  exact j_iret G d_tc_wordRegister_54
set_option maxHeartbeats 4000000 in
set_option maxRecDepth 100000 in
theorem b_tc_wordRegister_40 {X : Cx} (G : Gd X bc_tc_wordRegister 3 R_chip (some .int) (rmm 0 0)) (σ : CS) (l0 l2 : Int32) : J wdC X (QI wdC X) 3 40 [(0, .int l0), (2, .int l2)] [] σ (tc_wordRegister_40 σ l0 l2) := by
  unfold tc_wordRegister_40
  refine j_iload_n 0 G d_tc_wordRegister_40 rfl rfl ?_
  refine j_iconst G d_tc_wordRegister_41 ci_1 ?_
  refine j_icne G d_tc_wordRegister_42 (tgt := 55) rfl ?_ ?_
  · refine j_iload_n 1 G d_tc_wordRegister_55 rfl rfl ?_
    refine j_ifeq G d_tc_wordRegister_56 (tgt := 63) rfl ?_ ?_
    · refine j_iconst G d_tc_wordRegister_63 ci_2 ?_
      refine j_sub [] (L1 := []) rfl ?_
      exact b_tc_wordRegister_64 G σ (2 : Int32)
    · refine j_iconst G d_tc_wordRegister_59 ci_4 ?_
      refine j_goto G d_tc_wordRegister_60 (tgt := 64) rfl ?_
      refine j_sub [] (L1 := []) rfl ?_
      exact b_tc_wordRegister_64 G σ (4 : Int32)
  · refine j_iload_n 1 G d_tc_wordRegister_45 rfl rfl ?_
    refine j_ifeq G d_tc_wordRegister_46 (tgt := 53) rfl ?_ ?_
    · refine j_iconst G d_tc_wordRegister_53 ci_3 ?_
      refine j_sub [] (L1 := []) rfl ?_
      exact b_tc_wordRegister_54 G σ (3 : Int32)
    · refine j_iconst G d_tc_wordRegister_49 ci_5 ?_
      refine j_goto G d_tc_wordRegister_50 (tgt := 54) rfl ?_
      refine j_sub [] (L1 := []) rfl ?_
      exact b_tc_wordRegister_54 G σ (5 : Int32)
set_option maxHeartbeats 4000000 in
set_option maxRecDepth 100000 in
theorem b_tc_wordRegister_37 {X : Cx} (G : Gd X bc_tc_wordRegister 3 R_chip (some .int) (rmm 0 0)) (σ : CS) : J wdC X (QI wdC X) 3 37 [] [] σ (tc_wordRegister_37 σ ) := by
  unfold tc_wordRegister_37
  refine j_bipush G d_tc_wordRegister_37 cb_9 ?_
  exact j_iret G d_tc_wordRegister_39
set_option maxHeartbeats 4000000 in
set_option maxRecDepth 100000 in
theorem b_tc_wordRegister_15 {X : Cx} (G : Gd X bc_tc_wordRegister 3 R_chip (some .int) (rmm 0 0)) (σ : CS) (t0 : Int32) : J wdC X (QI wdC X) 3 15 [] [.int t0] σ (tc_wordRegister_15 σ t0) := by
  unfold tc_wordRegister_15
  exact j_iret G d_tc_wordRegister_15
set_option maxHeartbeats 4000000 in
set_option maxRecDepth 100000 in
theorem b_tc_wordRegister {X : Cx} (G : Gd X bc_tc_wordRegister 3 R_chip (some .int) (rmm 0 0)) (σ : CS) (a1 a2 a3 : Int32) : J wdC X (QI wdC X) 3 0 [(0, .int a1), (1, .int a2), (2, .int a3)] [] σ (tc_wordRegister σ a1 a2 a3) := by
  unfold tc_wordRegister
  refine j_iload_n 0 G d_tc_wordRegister_0 rfl rfl ?_
  refine j_iconst G d_tc_wordRegister_1 ci_2 ?_
  refine j_icne G d_tc_wordRegister_2 (tgt := 16) rfl ?_ ?_
  · refine j_iload_n 1 G d_tc_wordRegister_16 rfl rfl ?_
    refine j_iconst G d_tc_wordRegister_17 ci_3 ?_
    refine j_iceq G d_tc_wordRegister_18 (tgt := 37) rfl ?_ ?_
    · refine j_sub [] (L1 := []) rfl ?_
      exact b_tc_wordRegister_37 G σ
    · refine j_iload_n 1 G d_tc_wordRegister_21 rfl rfl ?_
      refine j_bipush G d_tc_wordRegister_22 cb_13 ?_
      refine j_iceq G d_tc_wordRegister_24 (tgt := 37) rfl ?_ ?_
      · refine j_sub [] (L1 := []) rfl ?_
        exact b_tc_wordRegister_37 G σ
      · refine j_iload_n 1 G d_tc_wordRegister_27 rfl rfl ?_
        refine j_bipush G d_tc_wordRegister_28 cb_12 ?_
        refine j_icne G d_tc_wordRegister_30 (tgt := 40) rfl ?_ ?_
        · refine j_sub [0, 2] (L1 := [(0, .int a1), (2, .int a3)]) rfl ?_
          exact b_tc_wordRegister_40 G σ a1 a3
        · refine j_iload_n 2 G d_tc_wordRegister_33 rfl rfl ?_
          refine j_ifeq G d_tc_wordRegister_34 (tgt := 40) rfl ?_ ?_
          · refine j_sub [0, 2] (L1 := [(0, .int a1), (2, .int a3)]) rfl ?_
            exact b_tc_wordRegister_40 G σ a1 a3
          · refine j_sub [] (L1 := []) rfl ?_
            exact b_tc_wordRegister_37 G σ
  · refine j_iload_n 1 G d_tc_wordRegister_5 rfl rfl ?_
    refine j_iconst G d_tc_wordRegister_6 ci_3 ?_
    refine j_icne G d_tc_wordRegister_7 (tgt := 14) rfl ?_ ?_
    · refine j_iconst G d_tc_wordRegister_14 ci_5 ?_
      refine j_sub [] (L1 := []) rfl ?_
      exact b_tc_wordRegister_15 G σ (5 : Int32)
    · refine j_iconst G d_tc_wordRegister_10 ci_4 ?_
      refine j_goto G d_tc_wordRegister_11 (tgt := 15) rfl ?_
      refine j_sub [] (L1 := []) rfl ?_
      exact b_tc_wordRegister_15 G σ (4 : Int32)
set_option maxHeartbeats 4000000 in
set_option maxRecDepth 100000 in
theorem k_tc_wordRegister {l : Launch} {E : Ev} {σ : CS} {a1 a2 a3 : Int32} : CtI wdC l E y_tc_wordRegister bc_tc_wordRegister 3 (some .int) (rmm 0 0) [.int a1, .int a2, .int a3] σ (tc_wordRegister σ a1 a2 a3) := ct_i (by decide) (Nat.le_of_ble_eq_true rfl) (fun X hE _ G => by subst hE; exact b_tc_wordRegister G σ a1 a2 a3)
def tc_operateOnWord_201 (σ : CS) : Option (Int32 × CS) :=
some ((0 : Int32), σ)
def tc_operateOnWord_183 (σ : CS) (l8 t0 : Int32) : Option (Int32 × CS) :=
if t0 = 0 then (bd (re_set σ (9 : Int32) l8) fun _ s1 =>
tc_operateOnWord_201 s1) else (tc_operateOnWord_201 σ)
def tc_operateOnWord_178 (σ : CS) (l8 : Int32) : Option (Int32 × CS) :=
tc_operateOnWord_183 σ l8 (1 : Int32)
def tc_operateOnWord_145 (σ : CS) (l1 l2 l4 l6 : Int32) : Option (Int32 × CS) :=
bd (me_wordAt σ l4) fun v1 s1 =>
bd (ar_subtract s1 l6 v1 (0 : Int32) (32768 : Int32)) fun v2 s2 =>
if l1 = 0 then (if l2 = (12 : Int32) then (tc_operateOnWord_178 s2 v2) else (tc_operateOnWord_183 s2 v2 (0 : Int32))) else (tc_operateOnWord_178 s2 v2)
def tc_operateOnWord_40 (σ : CS) (l1 l2 l3 l4 l5 l6 t0 : Int32) : Option (Int32 × CS) :=
if t0 = 0 then (if l2 < (13 : Int32) then (if l2 = (3 : Int32) then (if l3 = 0 then (tc_operateOnWord_145 σ l1 l2 l4 l6) else (bd (me_wordAt σ l4) fun v1 s1 =>
bd (ar_add s1 l6 v1 (0 : Int32) (32768 : Int32)) fun v2 s2 =>
bd (re_set s2 (9 : Int32) v2) fun _ s3 =>
tc_operateOnWord_201 s3)) else (tc_operateOnWord_145 σ l1 l2 l4 l6)) else (bd (ar_pass σ l6 (32768 : Int32)) fun v3 s4 =>
bd (me_setWord s4 l4 v3) fun _ s5 =>
tc_operateOnWord_201 s5)) else (bd (me_wordAt σ l4) fun v4 s6 =>
bd (ar_pass s6 v4 (32768 : Int32)) fun v5 s7 =>
bd (tc_become s7 l5 v5) fun _ s8 =>
tc_operateOnWord_201 s8)
def tc_operateOnWord_35 (σ : CS) (l1 l2 l3 l4 l5 l6 : Int32) : Option (Int32 × CS) :=
tc_operateOnWord_40 σ l1 l2 l3 l4 l5 l6 (1 : Int32)
def tc_operateOnWord_39 (σ : CS) (l1 l2 l3 l4 l5 l6 : Int32) : Option (Int32 × CS) :=
tc_operateOnWord_40 σ l1 l2 l3 l4 l5 l6 (0 : Int32)
def tc_operateOnWord (σ : CS) (a1 a2 a3 a4 : Int32) : Option (Int32 × CS) :=
bd (tc_wordRegister σ a1 a2 a3) fun v1 s1 =>
bd (re_get s1 v1) fun v2 s2 =>
if a2 = (14 : Int32) then (tc_operateOnWord_35 s2 a1 a2 a3 a4 v1 v2) else (if a2 = (12 : Int32) then (if a3 = 0 then (tc_operateOnWord_39 s2 a1 a2 a3 a4 v1 v2) else (tc_operateOnWord_35 s2 a1 a2 a3 a4 v1 v2)) else (tc_operateOnWord_39 s2 a1 a2 a3 a4 v1 v2))
set_option maxHeartbeats 4000000 in
set_option maxRecDepth 100000 in
theorem b_tc_operateOnWord_201 {X : Cx} (G : Gd X bc_tc_operateOnWord 10 R_chip none (rmm 2 50)) (σ : CS) : J wdC X (QV wdC X) 10 201 [(0, .ref (eO (xE X) 0))] [] σ (tc_operateOnWord_201 σ ) := by
  unfold tc_operateOnWord_201
  exact j_vret G d_tc_operateOnWord_201
set_option maxHeartbeats 4000000 in
set_option maxRecDepth 100000 in
theorem b_tc_operateOnWord_183 {X : Cx} (G : Gd X bc_tc_operateOnWord 10 R_chip none (rmm 2 50)) (σ : CS) (l8 t0 : Int32) : J wdC X (QV wdC X) 10 183 [(0, .ref (eO (xE X) 0)), (8, .int l8)] [.int t0] σ (tc_operateOnWord_183 σ l8 t0) := by
  unfold tc_operateOnWord_183
  refine j_istore [1, 2, 0] (L1 := [(0, .ref (eO (xE X) 0)), (8, .int l8), (9, .int t0)]) G d_tc_operateOnWord_183 (by decide) rfl ?_
  refine j_iload 2 G d_tc_operateOnWord_185 rfl ?_
  refine j_ifne G d_tc_operateOnWord_187 (tgt := 201) rfl ?_ ?_
  · refine j_sub [0] (L1 := [(0, .ref (eO (xE X) 0))]) rfl ?_
    exact b_tc_operateOnWord_201 G σ
  · refine j_aload_n 0 G d_tc_operateOnWord_190 rfl rfl ?_
    refine g_tc_registers G d_tc_operateOnWord_191 ?_
    refine j_bipush G d_tc_operateOnWord_194 cb_9 ?_
    refine j_iload 1 G d_tc_operateOnWord_196 rfl ?_
    refine j_Vv2 G k_re_set mw_re_set lk_tc_re_set rc_reg d_tc_operateOnWord_198 rfl (Nat.le_of_ble_eq_true rfl) (fun _ s1 => ?_)
    refine j_sub [0] (L1 := [(0, .ref (eO (xE X) 0))]) rfl ?_
    exact b_tc_operateOnWord_201 G s1
set_option maxHeartbeats 4000000 in
set_option maxRecDepth 100000 in
theorem b_tc_operateOnWord_178 {X : Cx} (G : Gd X bc_tc_operateOnWord 10 R_chip none (rmm 2 50)) (σ : CS) (l8 : Int32) : J wdC X (QV wdC X) 10 178 [(0, .ref (eO (xE X) 0)), (8, .int l8)] [] σ (tc_operateOnWord_178 σ l8) := by
  unfold tc_operateOnWord_178
  refine j_iconst G d_tc_operateOnWord_178 ci_1 ?_
  refine j_goto G d_tc_operateOnWord_179 (tgt := 183) rfl ?_
  exact b_tc_operateOnWord_183 G σ l8 (1 : Int32)
set_option maxHeartbeats 4000000 in
set_option maxRecDepth 100000 in
theorem b_tc_operateOnWord_145 {X : Cx} (G : Gd X bc_tc_operateOnWord 10 R_chip none (rmm 2 50)) (σ : CS) (l1 l2 l4 l6 : Int32) : J wdC X (QV wdC X) 10 145 [(0, .ref (eO (xE X) 0)), (1, .int l1), (2, .int l2), (4, .int l4), (6, .int l6)] [] σ (tc_operateOnWord_145 σ l1 l2 l4 l6) := by
  unfold tc_operateOnWord_145
  refine j_aload_n 0 G d_tc_operateOnWord_145 rfl rfl ?_
  refine g_tc_arithmetic G d_tc_operateOnWord_146 ?_
  refine j_iload 4 G d_tc_operateOnWord_149 rfl ?_
  refine j_aload_n 0 G d_tc_operateOnWord_151 rfl rfl ?_
  refine g_tc_memory G d_tc_operateOnWord_152 ?_
  refine j_iload 3 G d_tc_operateOnWord_155 rfl ?_
  refine j_Vi1 G k_me_wordAt mw_me_wordAt lk_tc_me_wordAt rc_mem d_tc_operateOnWord_157 rfl (Nat.le_of_ble_eq_true rfl) (fun v1 s1 => ?_)
  refine j_iconst G d_tc_operateOnWord_160 ci_0 ?_
  refine j_ldc G d_tc_operateOnWord_161 kc_tc_234 ?_
  refine j_Vi4 G k_ar_subtract mw_ar_subtract lk_tc_ar_subtract rc_ari d_tc_operateOnWord_163 rfl (Nat.le_of_ble_eq_true rfl) (fun v2 s2 => ?_)
  refine j_istore [1, 2, 3, 0] (L1 := [(0, .ref (eO (xE X) 0)), (1, .int l1), (2, .int l2), (8, .int v2)]) G d_tc_operateOnWord_166 (by decide) rfl ?_
  refine j_iload_n 1 G d_tc_operateOnWord_168 rfl rfl ?_
  refine j_ifne G d_tc_operateOnWord_169 (tgt := 178) rfl ?_ ?_
  · refine j_sub [0, 3] (L1 := [(0, .ref (eO (xE X) 0)), (8, .int v2)]) rfl ?_
    exact b_tc_operateOnWord_178 G s2 v2
  · refine j_iload_n 2 G d_tc_operateOnWord_172 rfl rfl ?_
    refine j_bipush G d_tc_operateOnWord_173 cb_12 ?_
    refine j_icne G d_tc_operateOnWord_175 (tgt := 182) rfl ?_ ?_
    · refine j_iconst G d_tc_operateOnWord_182 ci_0 ?_
      refine j_sub [0, 3] (L1 := [(0, .ref (eO (xE X) 0)), (8, .int v2)]) rfl ?_
      exact b_tc_operateOnWord_183 G s2 v2 (0 : Int32)
    · refine j_sub [0, 3] (L1 := [(0, .ref (eO (xE X) 0)), (8, .int v2)]) rfl ?_
      exact b_tc_operateOnWord_178 G s2 v2
set_option maxHeartbeats 4000000 in
set_option maxRecDepth 100000 in
theorem b_tc_operateOnWord_40 {X : Cx} (G : Gd X bc_tc_operateOnWord 10 R_chip none (rmm 2 50)) (σ : CS) (l1 l2 l3 l4 l5 l6 t0 : Int32) : J wdC X (QV wdC X) 10 40 [(0, .ref (eO (xE X) 0)), (1, .int l1), (2, .int l2), (3, .int l3), (4, .int l4), (5, .int l5), (6, .int l6)] [.int t0] σ (tc_operateOnWord_40 σ l1 l2 l3 l4 l5 l6 t0) := by
  unfold tc_operateOnWord_40
  refine j_istore [1, 2, 3, 4, 5, 6, 7, 0] (L1 := [(0, .ref (eO (xE X) 0)), (1, .int l1), (2, .int l2), (3, .int l3), (4, .int l4), (5, .int l5), (6, .int l6), (7, .int t0)]) G d_tc_operateOnWord_40 (by decide) rfl ?_
  refine j_iload 7 G d_tc_operateOnWord_42 rfl ?_
  refine j_ifeq G d_tc_operateOnWord_44 (tgt := 74) rfl ?_ ?_
  · refine j_iload_n 2 G d_tc_operateOnWord_74 rfl rfl ?_
    refine j_bipush G d_tc_operateOnWord_75 cb_13 ?_
    refine j_iclt G d_tc_operateOnWord_77 (tgt := 103) rfl ?_ ?_
    · refine j_iload_n 2 G d_tc_operateOnWord_103 rfl rfl ?_
      refine j_iconst G d_tc_operateOnWord_104 ci_3 ?_
      refine j_icne G d_tc_operateOnWord_105 (tgt := 145) rfl ?_ ?_
      · refine j_sub [0, 1, 2, 4, 6] (L1 := [(0, .ref (eO (xE X) 0)), (1, .int l1), (2, .int l2), (4, .int l4), (6, .int l6)]) rfl ?_
        exact b_tc_operateOnWord_145 G σ l1 l2 l4 l6
      · refine j_iload_n 3 G d_tc_operateOnWord_108 rfl rfl ?_
        refine j_ifeq G d_tc_operateOnWord_109 (tgt := 145) rfl ?_ ?_
        · refine j_sub [0, 1, 2, 4, 6] (L1 := [(0, .ref (eO (xE X) 0)), (1, .int l1), (2, .int l2), (4, .int l4), (6, .int l6)]) rfl ?_
          exact b_tc_operateOnWord_145 G σ l1 l2 l4 l6
        · refine j_aload_n 0 G d_tc_operateOnWord_112 rfl rfl ?_
          refine g_tc_registers G d_tc_operateOnWord_113 ?_
          refine j_bipush G d_tc_operateOnWord_116 cb_9 ?_
          refine j_aload_n 0 G d_tc_operateOnWord_118 rfl rfl ?_
          refine g_tc_arithmetic G d_tc_operateOnWord_119 ?_
          refine j_iload 6 G d_tc_operateOnWord_122 rfl ?_
          refine j_aload_n 0 G d_tc_operateOnWord_124 rfl rfl ?_
          refine g_tc_memory G d_tc_operateOnWord_125 ?_
          refine j_iload 4 G d_tc_operateOnWord_128 rfl ?_
          refine j_Vi1 G k_me_wordAt mw_me_wordAt lk_tc_me_wordAt rc_mem d_tc_operateOnWord_130 rfl (Nat.le_of_ble_eq_true rfl) (fun v1 s1 => ?_)
          refine j_iconst G d_tc_operateOnWord_133 ci_0 ?_
          refine j_ldc G d_tc_operateOnWord_134 kc_tc_234 ?_
          refine j_Vi4 G k_ar_add mw_ar_add lk_tc_ar_add rc_ari d_tc_operateOnWord_136 rfl (Nat.le_of_ble_eq_true rfl) (fun v2 s2 => ?_)
          refine j_Vv2 G k_re_set mw_re_set lk_tc_re_set rc_reg d_tc_operateOnWord_139 rfl (Nat.le_of_ble_eq_true rfl) (fun _ s3 => ?_)
          refine j_goto G d_tc_operateOnWord_142 (tgt := 201) rfl ?_
          refine j_sub [0] (L1 := [(0, .ref (eO (xE X) 0))]) rfl ?_
          exact b_tc_operateOnWord_201 G s3
    · refine j_aload_n 0 G d_tc_operateOnWord_80 rfl rfl ?_
      refine g_tc_memory G d_tc_operateOnWord_81 ?_
      refine j_iload 4 G d_tc_operateOnWord_84 rfl ?_
      refine j_aload_n 0 G d_tc_operateOnWord_86 rfl rfl ?_
      refine g_tc_arithmetic G d_tc_operateOnWord_87 ?_
      refine j_iload 6 G d_tc_operateOnWord_90 rfl ?_
      refine j_ldc G d_tc_operateOnWord_92 kc_tc_234 ?_
      refine j_Vi2 G k_ar_pass mw_ar_pass lk_tc_ar_pass rc_ari d_tc_operateOnWord_94 rfl (Nat.le_of_ble_eq_true rfl) (fun v3 s4 => ?_)
      refine j_Vv2 G k_me_setWord mw_me_setWord lk_tc_me_setWord rc_mem d_tc_operateOnWord_97 rfl (Nat.le_of_ble_eq_true rfl) (fun _ s5 => ?_)
      refine j_goto G d_tc_operateOnWord_100 (tgt := 201) rfl ?_
      refine j_sub [0] (L1 := [(0, .ref (eO (xE X) 0))]) rfl ?_
      exact b_tc_operateOnWord_201 G s5
  · refine j_aload_n 0 G d_tc_operateOnWord_47 rfl rfl ?_
    refine j_iload 5 G d_tc_operateOnWord_48 rfl ?_
    refine j_aload_n 0 G d_tc_operateOnWord_50 rfl rfl ?_
    refine g_tc_arithmetic G d_tc_operateOnWord_51 ?_
    refine j_aload_n 0 G d_tc_operateOnWord_54 rfl rfl ?_
    refine g_tc_memory G d_tc_operateOnWord_55 ?_
    refine j_iload 4 G d_tc_operateOnWord_58 rfl ?_
    refine j_Vi1 G k_me_wordAt mw_me_wordAt lk_tc_me_wordAt rc_mem d_tc_operateOnWord_60 rfl (Nat.le_of_ble_eq_true rfl) (fun v4 s6 => ?_)
    refine j_ldc G d_tc_operateOnWord_63 kc_tc_234 ?_
    refine j_Vi2 G k_ar_pass mw_ar_pass lk_tc_ar_pass rc_ari d_tc_operateOnWord_65 rfl (Nat.le_of_ble_eq_true rfl) (fun v5 s7 => ?_)
    refine j_Vv2 G k_tc_become mw_tc_become lk_tc_tc_become rc_chip d_tc_operateOnWord_68 rfl (Nat.le_of_ble_eq_true rfl) (fun _ s8 => ?_)
    refine j_goto G d_tc_operateOnWord_71 (tgt := 201) rfl ?_
    refine j_sub [0] (L1 := [(0, .ref (eO (xE X) 0))]) rfl ?_
    exact b_tc_operateOnWord_201 G s8
set_option maxHeartbeats 4000000 in
set_option maxRecDepth 100000 in
theorem b_tc_operateOnWord_35 {X : Cx} (G : Gd X bc_tc_operateOnWord 10 R_chip none (rmm 2 50)) (σ : CS) (l1 l2 l3 l4 l5 l6 : Int32) : J wdC X (QV wdC X) 10 35 [(0, .ref (eO (xE X) 0)), (1, .int l1), (2, .int l2), (3, .int l3), (4, .int l4), (5, .int l5), (6, .int l6)] [] σ (tc_operateOnWord_35 σ l1 l2 l3 l4 l5 l6) := by
  unfold tc_operateOnWord_35
  refine j_iconst G d_tc_operateOnWord_35 ci_1 ?_
  refine j_goto G d_tc_operateOnWord_36 (tgt := 40) rfl ?_
  exact b_tc_operateOnWord_40 G σ l1 l2 l3 l4 l5 l6 (1 : Int32)
set_option maxHeartbeats 4000000 in
set_option maxRecDepth 100000 in
theorem b_tc_operateOnWord_39 {X : Cx} (G : Gd X bc_tc_operateOnWord 10 R_chip none (rmm 2 50)) (σ : CS) (l1 l2 l3 l4 l5 l6 : Int32) : J wdC X (QV wdC X) 10 39 [(0, .ref (eO (xE X) 0)), (1, .int l1), (2, .int l2), (3, .int l3), (4, .int l4), (5, .int l5), (6, .int l6)] [] σ (tc_operateOnWord_39 σ l1 l2 l3 l4 l5 l6) := by
  unfold tc_operateOnWord_39
  refine j_iconst G d_tc_operateOnWord_39 ci_0 ?_
  exact b_tc_operateOnWord_40 G σ l1 l2 l3 l4 l5 l6 (0 : Int32)
set_option maxHeartbeats 4000000 in
set_option maxRecDepth 100000 in
theorem b_tc_operateOnWord {X : Cx} (G : Gd X bc_tc_operateOnWord 10 R_chip none (rmm 2 50)) (σ : CS) (a1 a2 a3 a4 : Int32) : J wdC X (QV wdC X) 10 0 [(0, .ref (eO (xE X) 0)), (1, .int a1), (2, .int a2), (3, .int a3), (4, .int a4)] [] σ (tc_operateOnWord σ a1 a2 a3 a4) := by
  unfold tc_operateOnWord
  refine j_iload_n 1 G d_tc_operateOnWord_0 rfl rfl ?_
  refine j_iload_n 2 G d_tc_operateOnWord_1 rfl rfl ?_
  refine j_iload_n 3 G d_tc_operateOnWord_2 rfl rfl ?_
  refine j_Si3 G k_tc_wordRegister mw_tc_wordRegister lk_tc_tc_wordRegister d_tc_operateOnWord_3 rfl (Nat.le_of_ble_eq_true rfl) (fun v1 s1 => ?_)
  refine j_istore [1, 2, 3, 4, 5, 0] (L1 := [(0, .ref (eO (xE X) 0)), (1, .int a1), (2, .int a2), (3, .int a3), (4, .int a4), (5, .int v1)]) G d_tc_operateOnWord_6 (by decide) rfl ?_
  refine j_aload_n 0 G d_tc_operateOnWord_8 rfl rfl ?_
  refine g_tc_registers G d_tc_operateOnWord_9 ?_
  refine j_iload 5 G d_tc_operateOnWord_12 rfl ?_
  refine j_Vi1 G k_re_get mw_re_get lk_tc_re_get rc_reg d_tc_operateOnWord_14 rfl (Nat.le_of_ble_eq_true rfl) (fun v2 s2 => ?_)
  refine j_istore [1, 2, 3, 4, 5, 6, 0] (L1 := [(0, .ref (eO (xE X) 0)), (1, .int a1), (2, .int a2), (3, .int a3), (4, .int a4), (5, .int v1), (6, .int v2)]) G d_tc_operateOnWord_17 (by decide) rfl ?_
  refine j_iload_n 2 G d_tc_operateOnWord_19 rfl rfl ?_
  refine j_bipush G d_tc_operateOnWord_20 cb_14 ?_
  refine j_iceq G d_tc_operateOnWord_22 (tgt := 35) rfl ?_ ?_
  · exact b_tc_operateOnWord_35 G s2 a1 a2 a3 a4 v1 v2
  · refine j_iload_n 2 G d_tc_operateOnWord_25 rfl rfl ?_
    refine j_bipush G d_tc_operateOnWord_26 cb_12 ?_
    refine j_icne G d_tc_operateOnWord_28 (tgt := 39) rfl ?_ ?_
    · exact b_tc_operateOnWord_39 G s2 a1 a2 a3 a4 v1 v2
    · refine j_iload_n 3 G d_tc_operateOnWord_31 rfl rfl ?_
      refine j_ifeq G d_tc_operateOnWord_32 (tgt := 39) rfl ?_ ?_
      · exact b_tc_operateOnWord_39 G s2 a1 a2 a3 a4 v1 v2
      · exact b_tc_operateOnWord_35 G s2 a1 a2 a3 a4 v1 v2
set_option maxHeartbeats 4000000 in
set_option maxRecDepth 100000 in
theorem k_tc_operateOnWord {l : Launch} {E : Ev} {σ : CS} {a1 a2 a3 a4 : Int32} : CtV wdC l E y_tc_operateOnWord bc_tc_operateOnWord 10 none (rmm 2 50) [.ref (eO E 0), .int a1, .int a2, .int a3, .int a4] σ (tc_operateOnWord σ a1 a2 a3 a4) := ct_v (by decide) (Nat.le_of_ble_eq_true rfl) (fun X hE _ G => by subst hE; exact b_tc_operateOnWord G σ a1 a2 a3 a4)
def tc_operateOnByte_89 (σ : CS) : Option (Int32 × CS) :=
some ((0 : Int32), σ)
def tc_operateOnByte_72 (σ : CS) (l2 l5 t0 : Int32) : Option (Int32 × CS) :=
if t0 = 0 then (bd (re_set σ l2 l5) fun _ s1 =>
tc_operateOnByte_89 s1) else (tc_operateOnByte_89 σ)
def tc_operateOnByte_67 (σ : CS) (l2 l5 : Int32) : Option (Int32 × CS) :=
tc_operateOnByte_72 σ l2 l5 (1 : Int32)
def tc_operateOnByte (σ : CS) (a1 a2 a3 : Int32) : Option (Int32 × CS) :=
bd (re_get σ a2) fun v1 s1 =>
if a1 = (7 : Int32) then (bd (ar_pass s1 v1 (128 : Int32)) fun v4 s4 =>
bd (me_setByte s4 a3 v4) fun _ s5 =>
some ((0 : Int32), s5)) else (bd (me_byteAt s1 a3) fun v2 s2 =>
bd (ar_combine s2 a1 v1 v2) fun v3 s3 =>
if a1 = (1 : Int32) then (tc_operateOnByte_67 s3 a2 v3) else (if a1 = (5 : Int32) then (tc_operateOnByte_67 s3 a2 v3) else (tc_operateOnByte_72 s3 a2 v3 (0 : Int32))))
set_option maxHeartbeats 4000000 in
set_option maxRecDepth 100000 in
theorem b_tc_operateOnByte_89 {X : Cx} (G : Gd X bc_tc_operateOnByte 7 R_chip none (rmm 4 96)) (σ : CS) : J wdC X (QV wdC X) 7 89 [(0, .ref (eO (xE X) 0))] [] σ (tc_operateOnByte_89 σ ) := by
  unfold tc_operateOnByte_89
  exact j_vret G d_tc_operateOnByte_89
set_option maxHeartbeats 4000000 in
set_option maxRecDepth 100000 in
theorem b_tc_operateOnByte_72 {X : Cx} (G : Gd X bc_tc_operateOnByte 7 R_chip none (rmm 4 96)) (σ : CS) (l2 l5 t0 : Int32) : J wdC X (QV wdC X) 7 72 [(0, .ref (eO (xE X) 0)), (2, .int l2), (5, .int l5)] [.int t0] σ (tc_operateOnByte_72 σ l2 l5 t0) := by
  unfold tc_operateOnByte_72
  refine j_istore [1, 2, 3, 0] (L1 := [(0, .ref (eO (xE X) 0)), (2, .int l2), (5, .int l5), (6, .int t0)]) G d_tc_operateOnByte_72 (by decide) rfl ?_
  refine j_iload 3 G d_tc_operateOnByte_74 rfl ?_
  refine j_ifne G d_tc_operateOnByte_76 (tgt := 89) rfl ?_ ?_
  · refine j_sub [0] (L1 := [(0, .ref (eO (xE X) 0))]) rfl ?_
    exact b_tc_operateOnByte_89 G σ
  · refine j_aload_n 0 G d_tc_operateOnByte_79 rfl rfl ?_
    refine g_tc_registers G d_tc_operateOnByte_80 ?_
    refine j_iload_n 1 G d_tc_operateOnByte_83 rfl rfl ?_
    refine j_iload 2 G d_tc_operateOnByte_84 rfl ?_
    refine j_Vv2 G k_re_set mw_re_set lk_tc_re_set rc_reg d_tc_operateOnByte_86 rfl (Nat.le_of_ble_eq_true rfl) (fun _ s1 => ?_)
    refine j_sub [0] (L1 := [(0, .ref (eO (xE X) 0))]) rfl ?_
    exact b_tc_operateOnByte_89 G s1
set_option maxHeartbeats 4000000 in
set_option maxRecDepth 100000 in
theorem b_tc_operateOnByte_67 {X : Cx} (G : Gd X bc_tc_operateOnByte 7 R_chip none (rmm 4 96)) (σ : CS) (l2 l5 : Int32) : J wdC X (QV wdC X) 7 67 [(0, .ref (eO (xE X) 0)), (2, .int l2), (5, .int l5)] [] σ (tc_operateOnByte_67 σ l2 l5) := by
  unfold tc_operateOnByte_67
  refine j_iconst G d_tc_operateOnByte_67 ci_1 ?_
  refine j_goto G d_tc_operateOnByte_68 (tgt := 72) rfl ?_
  exact b_tc_operateOnByte_72 G σ l2 l5 (1 : Int32)
set_option maxHeartbeats 4000000 in
set_option maxRecDepth 100000 in
theorem b_tc_operateOnByte {X : Cx} (G : Gd X bc_tc_operateOnByte 7 R_chip none (rmm 4 96)) (σ : CS) (a1 a2 a3 : Int32) : J wdC X (QV wdC X) 7 0 [(0, .ref (eO (xE X) 0)), (1, .int a1), (2, .int a2), (3, .int a3)] [] σ (tc_operateOnByte σ a1 a2 a3) := by
  unfold tc_operateOnByte
  refine j_aload_n 0 G d_tc_operateOnByte_0 rfl rfl ?_
  refine g_tc_registers G d_tc_operateOnByte_1 ?_
  refine j_iload_n 2 G d_tc_operateOnByte_4 rfl rfl ?_
  refine j_Vi1 G k_re_get mw_re_get lk_tc_re_get rc_reg d_tc_operateOnByte_5 rfl (Nat.le_of_ble_eq_true rfl) (fun v1 s1 => ?_)
  refine j_istore [1, 2, 3, 4, 0] (L1 := [(0, .ref (eO (xE X) 0)), (1, .int a1), (2, .int a2), (3, .int a3), (4, .int v1)]) G d_tc_operateOnByte_8 (by decide) rfl ?_
  refine j_iload_n 1 G d_tc_operateOnByte_10 rfl rfl ?_
  refine j_bipush G d_tc_operateOnByte_11 cb_7 ?_
  refine j_icne G d_tc_operateOnByte_13 (tgt := 37) rfl ?_ ?_
  · refine j_aload_n 0 G d_tc_operateOnByte_37 rfl rfl ?_
    refine g_tc_arithmetic G d_tc_operateOnByte_38 ?_
    refine j_iload_n 1 G d_tc_operateOnByte_41 rfl rfl ?_
    refine j_iload 4 G d_tc_operateOnByte_42 rfl ?_
    refine j_aload_n 0 G d_tc_operateOnByte_44 rfl rfl ?_
    refine g_tc_memory G d_tc_operateOnByte_45 ?_
    refine j_iload_n 3 G d_tc_operateOnByte_48 rfl rfl ?_
    refine j_Vi1 G k_me_byteAt mw_me_byteAt lk_tc_me_byteAt rc_mem d_tc_operateOnByte_49 rfl (Nat.le_of_ble_eq_true rfl) (fun v2 s2 => ?_)
    refine j_Vi3 G k_ar_combine mw_ar_combine lk_tc_ar_combine rc_ari d_tc_operateOnByte_52 rfl (Nat.le_of_ble_eq_true rfl) (fun v3 s3 => ?_)
    refine j_istore [1, 2, 3, 0] (L1 := [(0, .ref (eO (xE X) 0)), (1, .int a1), (2, .int a2), (5, .int v3)]) G d_tc_operateOnByte_55 (by decide) rfl ?_
    refine j_iload_n 1 G d_tc_operateOnByte_57 rfl rfl ?_
    refine j_iconst G d_tc_operateOnByte_58 ci_1 ?_
    refine j_iceq G d_tc_operateOnByte_59 (tgt := 67) rfl ?_ ?_
    · refine j_sub [0, 2, 3] (L1 := [(0, .ref (eO (xE X) 0)), (2, .int a2), (5, .int v3)]) rfl ?_
      exact b_tc_operateOnByte_67 G s3 a2 v3
    · refine j_iload_n 1 G d_tc_operateOnByte_62 rfl rfl ?_
      refine j_iconst G d_tc_operateOnByte_63 ci_5 ?_
      refine j_icne G d_tc_operateOnByte_64 (tgt := 71) rfl ?_ ?_
      · refine j_iconst G d_tc_operateOnByte_71 ci_0 ?_
        refine j_sub [0, 2, 3] (L1 := [(0, .ref (eO (xE X) 0)), (2, .int a2), (5, .int v3)]) rfl ?_
        exact b_tc_operateOnByte_72 G s3 a2 v3 (0 : Int32)
      · refine j_sub [0, 2, 3] (L1 := [(0, .ref (eO (xE X) 0)), (2, .int a2), (5, .int v3)]) rfl ?_
        exact b_tc_operateOnByte_67 G s3 a2 v3
  · refine j_aload_n 0 G d_tc_operateOnByte_16 rfl rfl ?_
    refine g_tc_memory G d_tc_operateOnByte_17 ?_
    refine j_iload_n 3 G d_tc_operateOnByte_20 rfl rfl ?_
    refine j_aload_n 0 G d_tc_operateOnByte_21 rfl rfl ?_
    refine g_tc_arithmetic G d_tc_operateOnByte_22 ?_
    refine j_iload 4 G d_tc_operateOnByte_25 rfl ?_
    refine j_sipush G d_tc_operateOnByte_27 cs_128 ?_
    refine j_Vi2 G k_ar_pass mw_ar_pass lk_tc_ar_pass rc_ari d_tc_operateOnByte_30 rfl (Nat.le_of_ble_eq_true rfl) (fun v4 s4 => ?_)
    refine j_Vv2 G k_me_setByte mw_me_setByte lk_tc_me_setByte rc_mem d_tc_operateOnByte_33 rfl (Nat.le_of_ble_eq_true rfl) (fun _ s5 => ?_)
    exact j_vret G d_tc_operateOnByte_36
set_option maxHeartbeats 4000000 in
set_option maxRecDepth 100000 in
theorem k_tc_operateOnByte {l : Launch} {E : Ev} {σ : CS} {a1 a2 a3 : Int32} : CtV wdC l E y_tc_operateOnByte bc_tc_operateOnByte 7 none (rmm 4 96) [.ref (eO E 0), .int a1, .int a2, .int a3] σ (tc_operateOnByte σ a1 a2 a3) := ct_v (by decide) (Nat.le_of_ble_eq_true rfl) (fun X hE _ G => by subst hE; exact b_tc_operateOnByte G σ a1 a2 a3)
def tc_executeUpperHalf_135 (σ : CS) : Option (Int32 × CS) :=
some ((0 : Int32), σ)
def tc_executeUpperHalf_130 (σ : CS) (l6 t0 t1 : Int32) : Option (Int32 × CS) :=
bd (tc_operateOnByte σ t1 t0 l6) fun _ s1 =>
tc_executeUpperHalf_135 s1
def tc_executeUpperHalf_100 (σ : CS) (l2 l3 l4 l5 l6 : Int32) : Option (Int32 × CS) :=
if l5 = 0 then (if l4 = 0 then (tc_executeUpperHalf_130 σ l6 (0 : Int32) l3) else (tc_executeUpperHalf_130 σ l6 (1 : Int32) l3)) else (bd (tc_operateOnWord σ l2 l3 l4 l6) fun _ s1 =>
tc_executeUpperHalf_135 s1)
def tc_executeUpperHalf_75 (σ : CS) (l2 l3 l4 l5 t0 t1 : Int32) : Option (Int32 × CS) :=
bd (tc_operandAddress σ t1 t0) fun v1 s1 =>
if l3 = (13 : Int32) then (if l4 = 0 then (bd (tc_call s1 v1) fun _ s2 =>
tc_executeUpperHalf_135 s2) else (tc_executeUpperHalf_100 s1 l2 l3 l4 l5 v1)) else (tc_executeUpperHalf_100 s1 l2 l3 l4 l5 v1)
def tc_executeUpperHalf_57 (σ : CS) (l1 l2 l3 l4 t0 : Int32) : Option (Int32 × CS) :=
if t0 = 0 then (tc_executeUpperHalf_75 σ l2 l3 l4 t0 (1 : Int32) ((l1 >>> ((4 : Int32) &&& 31)) &&& (3 : Int32))) else (tc_executeUpperHalf_75 σ l2 l3 l4 t0 (2 : Int32) ((l1 >>> ((4 : Int32) &&& 31)) &&& (3 : Int32)))
def tc_executeUpperHalf_52 (σ : CS) (l1 l2 l3 l4 : Int32) : Option (Int32 × CS) :=
tc_executeUpperHalf_57 σ l1 l2 l3 l4 (1 : Int32)
def tc_executeUpperHalf_39 (σ : CS) (l1 l2 l3 t0 : Int32) : Option (Int32 × CS) :=
if l3 = (3 : Int32) then (tc_executeUpperHalf_52 σ l1 l2 l3 t0) else (if l3 < (12 : Int32) then (tc_executeUpperHalf_57 σ l1 l2 l3 t0 (0 : Int32)) else (tc_executeUpperHalf_52 σ l1 l2 l3 t0))
def tc_executeUpperHalf (σ : CS) (a1 : Int32) : Option (Int32 × CS) :=
if a1 = (141 : Int32) then (bd (tc_fetchByte σ) fun v3 s1 =>
bd (tc_callRelative s1 (v3.toInt8.toInt32)) fun _ s2 =>
some ((0 : Int32), s2)) else (nm (a1 >>> ((8 : Int32) &&& 31)) fun v1 =>
nm (a1 &&& (15 : Int32)) fun v2 =>
if (a1 &&& (64 : Int32)) = 0 then (tc_executeUpperHalf_39 σ a1 v1 v2 (0 : Int32)) else (tc_executeUpperHalf_39 σ a1 v1 v2 (1 : Int32)))
set_option maxHeartbeats 4000000 in
set_option maxRecDepth 100000 in
theorem b_tc_executeUpperHalf_135 {X : Cx} (G : Gd X bc_tc_executeUpperHalf 7 R_chip none (rmm 5 122)) (σ : CS) : J wdC X (QV wdC X) 7 135 [(0, .ref (eO (xE X) 0))] [] σ (tc_executeUpperHalf_135 σ ) := by
  unfold tc_executeUpperHalf_135
  exact j_vret G d_tc_executeUpperHalf_135
set_option maxHeartbeats 4000000 in
set_option maxRecDepth 100000 in
theorem b_tc_executeUpperHalf_130 {X : Cx} (G : Gd X bc_tc_executeUpperHalf 7 R_chip none (rmm 5 122)) (σ : CS) (l6 t0 t1 : Int32) : J wdC X (QV wdC X) 7 130 [(0, .ref (eO (xE X) 0)), (6, .int l6)] [.int t0, .int t1, .ref (eO (xE X) 0)] σ (tc_executeUpperHalf_130 σ l6 t0 t1) := by
  unfold tc_executeUpperHalf_130
  refine j_iload 1 G d_tc_executeUpperHalf_130 rfl ?_
  refine j_Vv3 G k_tc_operateOnByte mw_tc_operateOnByte lk_tc_tc_operateOnByte rc_chip d_tc_executeUpperHalf_132 rfl (Nat.le_of_ble_eq_true rfl) (fun _ s1 => ?_)
  refine j_sub [0] (L1 := [(0, .ref (eO (xE X) 0))]) rfl ?_
  exact b_tc_executeUpperHalf_135 G s1
set_option maxHeartbeats 4000000 in
set_option maxRecDepth 100000 in
theorem b_tc_executeUpperHalf_100 {X : Cx} (G : Gd X bc_tc_executeUpperHalf 7 R_chip none (rmm 5 122)) (σ : CS) (l2 l3 l4 l5 l6 : Int32) : J wdC X (QV wdC X) 7 100 [(0, .ref (eO (xE X) 0)), (2, .int l2), (3, .int l3), (4, .int l4), (5, .int l5), (6, .int l6)] [] σ (tc_executeUpperHalf_100 σ l2 l3 l4 l5 l6) := by
  unfold tc_executeUpperHalf_100
  refine j_iload 4 G d_tc_executeUpperHalf_100 rfl ?_
  refine j_ifeq G d_tc_executeUpperHalf_102 (tgt := 118) rfl ?_ ?_
  · refine j_aload_n 0 G d_tc_executeUpperHalf_118 rfl rfl ?_
    refine j_iload_n 2 G d_tc_executeUpperHalf_119 rfl rfl ?_
    refine j_iload 3 G d_tc_executeUpperHalf_120 rfl ?_
    refine j_ifeq G d_tc_executeUpperHalf_122 (tgt := 129) rfl ?_ ?_
    · refine j_iconst G d_tc_executeUpperHalf_129 ci_0 ?_
      refine j_sub [0, 5] (L1 := [(0, .ref (eO (xE X) 0)), (6, .int l6)]) rfl ?_
      exact b_tc_executeUpperHalf_130 G σ l6 (0 : Int32) l3
    · refine j_iconst G d_tc_executeUpperHalf_125 ci_1 ?_
      refine j_goto G d_tc_executeUpperHalf_126 (tgt := 130) rfl ?_
      refine j_sub [0, 5] (L1 := [(0, .ref (eO (xE X) 0)), (6, .int l6)]) rfl ?_
      exact b_tc_executeUpperHalf_130 G σ l6 (1 : Int32) l3
  · refine j_aload_n 0 G d_tc_executeUpperHalf_105 rfl rfl ?_
    refine j_iload_n 1 G d_tc_executeUpperHalf_106 rfl rfl ?_
    refine j_iload_n 2 G d_tc_executeUpperHalf_107 rfl rfl ?_
    refine j_iload 3 G d_tc_executeUpperHalf_108 rfl ?_
    refine j_iload 5 G d_tc_executeUpperHalf_110 rfl ?_
    refine j_Vv4 G k_tc_operateOnWord mw_tc_operateOnWord lk_tc_tc_operateOnWord rc_chip d_tc_executeUpperHalf_112 rfl (Nat.le_of_ble_eq_true rfl) (fun _ s1 => ?_)
    refine j_goto G d_tc_executeUpperHalf_115 (tgt := 135) rfl ?_
    refine j_sub [0] (L1 := [(0, .ref (eO (xE X) 0))]) rfl ?_
    exact b_tc_executeUpperHalf_135 G s1
set_option maxHeartbeats 4000000 in
set_option maxRecDepth 100000 in
theorem b_tc_executeUpperHalf_75 {X : Cx} (G : Gd X bc_tc_executeUpperHalf 7 R_chip none (rmm 5 122)) (σ : CS) (l2 l3 l4 l5 t0 t1 : Int32) : J wdC X (QV wdC X) 7 75 [(0, .ref (eO (xE X) 0)), (2, .int l2), (3, .int l3), (4, .int l4), (5, .int l5)] [.int t0, .int t1, .ref (eO (xE X) 0)] σ (tc_executeUpperHalf_75 σ l2 l3 l4 l5 t0 t1) := by
  unfold tc_executeUpperHalf_75
  refine j_Vi2 G k_tc_operandAddress mw_tc_operandAddress lk_tc_tc_operandAddress rc_chip d_tc_executeUpperHalf_75 rfl (Nat.le_of_ble_eq_true rfl) (fun v1 s1 => ?_)
  refine j_istore [1, 2, 3, 4, 5, 0] (L1 := [(0, .ref (eO (xE X) 0)), (2, .int l2), (3, .int l3), (4, .int l4), (5, .int l5), (6, .int v1)]) G d_tc_executeUpperHalf_78 (by decide) rfl ?_
  refine j_iload_n 2 G d_tc_executeUpperHalf_80 rfl rfl ?_
  refine j_bipush G d_tc_executeUpperHalf_81 cb_13 ?_
  refine j_icne G d_tc_executeUpperHalf_83 (tgt := 100) rfl ?_ ?_
  · exact b_tc_executeUpperHalf_100 G s1 l2 l3 l4 l5 v1
  · refine j_iload 3 G d_tc_executeUpperHalf_86 rfl ?_
    refine j_ifne G d_tc_executeUpperHalf_88 (tgt := 100) rfl ?_ ?_
    · exact b_tc_executeUpperHalf_100 G s1 l2 l3 l4 l5 v1
    · refine j_aload_n 0 G d_tc_executeUpperHalf_91 rfl rfl ?_
      refine j_iload 5 G d_tc_executeUpperHalf_92 rfl ?_
      refine j_Vv1 G k_tc_call mw_tc_call lk_tc_tc_call rc_chip d_tc_executeUpperHalf_94 rfl (Nat.le_of_ble_eq_true rfl) (fun _ s2 => ?_)
      refine j_goto G d_tc_executeUpperHalf_97 (tgt := 135) rfl ?_
      refine j_sub [0] (L1 := [(0, .ref (eO (xE X) 0))]) rfl ?_
      exact b_tc_executeUpperHalf_135 G s2
set_option maxHeartbeats 4000000 in
set_option maxRecDepth 100000 in
theorem b_tc_executeUpperHalf_57 {X : Cx} (G : Gd X bc_tc_executeUpperHalf 7 R_chip none (rmm 5 122)) (σ : CS) (l1 l2 l3 l4 t0 : Int32) : J wdC X (QV wdC X) 7 57 [(0, .ref (eO (xE X) 0)), (1, .int l1), (2, .int l2), (3, .int l3), (4, .int l4)] [.int t0] σ (tc_executeUpperHalf_57 σ l1 l2 l3 l4 t0) := by
  unfold tc_executeUpperHalf_57
  refine j_istore [1, 2, 3, 4, 5, 0] (L1 := [(0, .ref (eO (xE X) 0)), (1, .int l1), (2, .int l2), (3, .int l3), (4, .int l4), (5, .int t0)]) G d_tc_executeUpperHalf_57 (by decide) rfl ?_
  refine j_aload_n 0 G d_tc_executeUpperHalf_59 rfl rfl ?_
  refine j_iload_n 1 G d_tc_executeUpperHalf_60 rfl rfl ?_
  refine j_iconst G d_tc_executeUpperHalf_61 ci_4 ?_
  refine j_ishr G d_tc_executeUpperHalf_62 ?_
  refine j_iconst G d_tc_executeUpperHalf_63 ci_3 ?_
  refine j_iand G d_tc_executeUpperHalf_64 ?_
  refine j_iload 5 G d_tc_executeUpperHalf_65 rfl ?_
  refine j_ifeq G d_tc_executeUpperHalf_67 (tgt := 74) rfl ?_ ?_
  · refine j_iconst G d_tc_executeUpperHalf_74 ci_1 ?_
    refine j_sub [0, 2, 3, 4, 5] (L1 := [(0, .ref (eO (xE X) 0)), (2, .int l2), (3, .int l3), (4, .int l4), (5, .int t0)]) rfl ?_
    exact b_tc_executeUpperHalf_75 G σ l2 l3 l4 t0 (1 : Int32) ((l1 >>> ((4 : Int32) &&& 31)) &&& (3 : Int32))
  · refine j_iconst G d_tc_executeUpperHalf_70 ci_2 ?_
    refine j_goto G d_tc_executeUpperHalf_71 (tgt := 75) rfl ?_
    refine j_sub [0, 2, 3, 4, 5] (L1 := [(0, .ref (eO (xE X) 0)), (2, .int l2), (3, .int l3), (4, .int l4), (5, .int t0)]) rfl ?_
    exact b_tc_executeUpperHalf_75 G σ l2 l3 l4 t0 (2 : Int32) ((l1 >>> ((4 : Int32) &&& 31)) &&& (3 : Int32))
set_option maxHeartbeats 4000000 in
set_option maxRecDepth 100000 in
theorem b_tc_executeUpperHalf_52 {X : Cx} (G : Gd X bc_tc_executeUpperHalf 7 R_chip none (rmm 5 122)) (σ : CS) (l1 l2 l3 l4 : Int32) : J wdC X (QV wdC X) 7 52 [(0, .ref (eO (xE X) 0)), (1, .int l1), (2, .int l2), (3, .int l3), (4, .int l4)] [] σ (tc_executeUpperHalf_52 σ l1 l2 l3 l4) := by
  unfold tc_executeUpperHalf_52
  refine j_iconst G d_tc_executeUpperHalf_52 ci_1 ?_
  refine j_goto G d_tc_executeUpperHalf_53 (tgt := 57) rfl ?_
  exact b_tc_executeUpperHalf_57 G σ l1 l2 l3 l4 (1 : Int32)
set_option maxHeartbeats 4000000 in
set_option maxRecDepth 100000 in
theorem b_tc_executeUpperHalf_39 {X : Cx} (G : Gd X bc_tc_executeUpperHalf 7 R_chip none (rmm 5 122)) (σ : CS) (l1 l2 l3 t0 : Int32) : J wdC X (QV wdC X) 7 39 [(0, .ref (eO (xE X) 0)), (1, .int l1), (2, .int l2), (3, .int l3)] [.int t0] σ (tc_executeUpperHalf_39 σ l1 l2 l3 t0) := by
  unfold tc_executeUpperHalf_39
  refine j_istore [1, 2, 3, 4, 0] (L1 := [(0, .ref (eO (xE X) 0)), (1, .int l1), (2, .int l2), (3, .int l3), (4, .int t0)]) G d_tc_executeUpperHalf_39 (by decide) rfl ?_
  refine j_iload_n 3 G d_tc_executeUpperHalf_41 rfl rfl ?_
  refine j_iconst G d_tc_executeUpperHalf_42 ci_3 ?_
  refine j_iceq G d_tc_executeUpperHalf_43 (tgt := 52) rfl ?_ ?_
  · exact b_tc_executeUpperHalf_52 G σ l1 l2 l3 t0
  · refine j_iload_n 3 G d_tc_executeUpperHalf_46 rfl rfl ?_
    refine j_bipush G d_tc_executeUpperHalf_47 cb_12 ?_
    refine j_iclt G d_tc_executeUpperHalf_49 (tgt := 56) rfl ?_ ?_
    · refine j_iconst G d_tc_executeUpperHalf_56 ci_0 ?_
      exact b_tc_executeUpperHalf_57 G σ l1 l2 l3 t0 (0 : Int32)
    · exact b_tc_executeUpperHalf_52 G σ l1 l2 l3 t0
set_option maxHeartbeats 4000000 in
set_option maxRecDepth 100000 in
theorem b_tc_executeUpperHalf {X : Cx} (G : Gd X bc_tc_executeUpperHalf 7 R_chip none (rmm 5 122)) (σ : CS) (a1 : Int32) : J wdC X (QV wdC X) 7 0 [(0, .ref (eO (xE X) 0)), (1, .int a1)] [] σ (tc_executeUpperHalf σ a1) := by
  unfold tc_executeUpperHalf
  refine j_iload_n 1 G d_tc_executeUpperHalf_0 rfl rfl ?_
  refine j_sipush G d_tc_executeUpperHalf_1 cs_141 ?_
  refine j_icne G d_tc_executeUpperHalf_4 (tgt := 17) rfl ?_ ?_
  · refine j_iload_n 1 G d_tc_executeUpperHalf_17 rfl rfl ?_
    refine j_bipush G d_tc_executeUpperHalf_18 cb_8 ?_
    refine j_ishr G d_tc_executeUpperHalf_20 ?_
    refine j_nm (fun v1 => ?_)
    refine j_istore_n [1, 2, 0] (L1 := [(0, .ref (eO (xE X) 0)), (1, .int a1), (2, .int v1)]) G d_tc_executeUpperHalf_21 rfl (by decide) rfl ?_
    refine j_iload_n 1 G d_tc_executeUpperHalf_22 rfl rfl ?_
    refine j_bipush G d_tc_executeUpperHalf_23 cb_15 ?_
    refine j_iand G d_tc_executeUpperHalf_25 ?_
    refine j_nm (fun v2 => ?_)
    refine j_istore_n [1, 2, 3, 0] (L1 := [(0, .ref (eO (xE X) 0)), (1, .int a1), (2, .int v1), (3, .int v2)]) G d_tc_executeUpperHalf_26 rfl (by decide) rfl ?_
    refine j_iload_n 1 G d_tc_executeUpperHalf_27 rfl rfl ?_
    refine j_bipush G d_tc_executeUpperHalf_28 cb_64 ?_
    refine j_iand G d_tc_executeUpperHalf_30 ?_
    refine j_ifeq G d_tc_executeUpperHalf_31 (tgt := 38) rfl ?_ ?_
    · refine j_iconst G d_tc_executeUpperHalf_38 ci_0 ?_
      exact b_tc_executeUpperHalf_39 G σ a1 v1 v2 (0 : Int32)
    · refine j_iconst G d_tc_executeUpperHalf_34 ci_1 ?_
      refine j_goto G d_tc_executeUpperHalf_35 (tgt := 39) rfl ?_
      exact b_tc_executeUpperHalf_39 G σ a1 v1 v2 (1 : Int32)
  · refine j_aload_n 0 G d_tc_executeUpperHalf_7 rfl rfl ?_
    refine j_aload_n 0 G d_tc_executeUpperHalf_8 rfl rfl ?_
    refine j_Vi0 G k_tc_fetchByte mw_tc_fetchByte lk_tc_tc_fetchByte rc_chip d_tc_executeUpperHalf_9 rfl (Nat.le_of_ble_eq_true rfl) (fun v3 s1 => ?_)
    refine j_i2b G d_tc_executeUpperHalf_12 ?_
    refine j_Vv1 G k_tc_callRelative mw_tc_callRelative lk_tc_tc_callRelative rc_chip d_tc_executeUpperHalf_13 rfl (Nat.le_of_ble_eq_true rfl) (fun _ s2 => ?_)
    exact j_vret G d_tc_executeUpperHalf_16
set_option maxHeartbeats 4000000 in
set_option maxRecDepth 100000 in
theorem k_tc_executeUpperHalf {l : Launch} {E : Ev} {σ : CS} {a1 : Int32} : CtV wdC l E y_tc_executeUpperHalf bc_tc_executeUpperHalf 7 none (rmm 5 122) [.ref (eO E 0), .int a1] σ (tc_executeUpperHalf σ a1) := ct_v (by decide) (Nat.le_of_ble_eq_true rfl) (fun X hE _ G => by subst hE; exact b_tc_executeUpperHalf G σ a1)
def tc_step_87 (σ : CS) : Option (Int32 × CS) :=
some ((0 : Int32), σ)
def tc_step (σ : CS) : Option (Int32 × CS) :=
bd (tc_lineToServe σ) fun v1 s1 =>
if v1 = (-1 : Int32) then (bd (tc_staysWaiting s1) fun v2 s2 =>
if v2 = 0 then (ns (cy_wai s2 (0 : Int32)) fun s3 =>
bd (re_get s3 (6 : Int32)) fun v3 s4 =>
bd (tc_fetchCode s4) fun v4 s5 =>
bd (tc_isDefined s5 v4) fun v5 s6 =>
if v5 = 0 then (bd (re_set s6 (6 : Int32) v3) fun _ s9 =>
some ((2 : Int32), s9)) else (if (v4 &&& (128 : Int32)) = 0 then (bd (tc_executeLowerHalf s6 v4) fun _ s8 =>
tc_step_87 s8) else (bd (tc_executeUpperHalf s6 v4) fun _ s7 =>
tc_step_87 s7))) else (some ((1 : Int32), s2))) else (bd (tc_serve s1 v1) fun _ s10 =>
some ((0 : Int32), s10))
set_option maxHeartbeats 4000000 in
set_option maxRecDepth 100000 in
theorem b_tc_step_87 {X : Cx} (G : Gd X bc_tc_step 4 R_chip (some .int) (rmm 6 148)) (σ : CS) : J wdC X (QI wdC X) 4 87 [(0, .ref (eO (xE X) 0))] [] σ (tc_step_87 σ ) := by
  unfold tc_step_87
  refine j_iconst G d_tc_step_87 ci_0 ?_
  exact j_iret G d_tc_step_88
set_option maxHeartbeats 4000000 in
set_option maxRecDepth 100000 in
theorem b_tc_step {X : Cx} (G : Gd X bc_tc_step 4 R_chip (some .int) (rmm 6 148)) (σ : CS) : J wdC X (QI wdC X) 4 0 [(0, .ref (eO (xE X) 0))] [] σ (tc_step σ ) := by
  unfold tc_step
  refine j_aload_n 0 G d_tc_step_0 rfl rfl ?_
  refine j_Vi0 G k_tc_lineToServe mw_tc_lineToServe lk_tc_tc_lineToServe rc_chip d_tc_step_1 rfl (Nat.le_of_ble_eq_true rfl) (fun v1 s1 => ?_)
  refine j_istore_n [1, 0] (L1 := [(0, .ref (eO (xE X) 0)), (1, .int v1)]) G d_tc_step_4 rfl (by decide) rfl ?_
  refine j_iload_n 1 G d_tc_step_5 rfl rfl ?_
  refine j_iconst G d_tc_step_6 ci_m1 ?_
  refine j_iceq G d_tc_step_7 (tgt := 17) rfl ?_ ?_
  · refine j_aload_n 0 G d_tc_step_17 rfl rfl ?_
    refine j_Vi0 G k_tc_staysWaiting mw_tc_staysWaiting lk_tc_tc_staysWaiting rc_chip d_tc_step_18 rfl (Nat.le_of_ble_eq_true rfl) (fun v2 s2 => ?_)
    refine j_ifeq G d_tc_step_21 (tgt := 26) rfl ?_ ?_
    · refine j_aload_n 0 G d_tc_step_26 rfl rfl ?_
      refine j_iconst G d_tc_step_27 ci_0 ?_
      refine p_tc_waiting G d_tc_step_28 ?_
      refine j_ns (fun s3 => ?_)
      refine j_aload_n 0 G d_tc_step_31 rfl rfl ?_
      refine g_tc_registers G d_tc_step_32 ?_
      refine j_bipush G d_tc_step_35 cb_6 ?_
      refine j_Vi1 G k_re_get mw_re_get lk_tc_re_get rc_reg d_tc_step_37 rfl (Nat.le_of_ble_eq_true rfl) (fun v3 s4 => ?_)
      refine j_istore_n [1, 0] (L1 := [(0, .ref (eO (xE X) 0)), (2, .int v3)]) G d_tc_step_40 rfl (by decide) rfl ?_
      refine j_aload_n 0 G d_tc_step_41 rfl rfl ?_
      refine j_Vi0 G k_tc_fetchCode mw_tc_fetchCode lk_tc_tc_fetchCode rc_chip d_tc_step_42 rfl (Nat.le_of_ble_eq_true rfl) (fun v4 s5 => ?_)
      refine j_istore_n [1, 2, 0] (L1 := [(0, .ref (eO (xE X) 0)), (2, .int v3), (3, .int v4)]) G d_tc_step_45 rfl (by decide) rfl ?_
      refine j_aload_n 0 G d_tc_step_46 rfl rfl ?_
      refine j_iload_n 2 G d_tc_step_47 rfl rfl ?_
      refine j_Vi1 G k_tc_isDefined mw_tc_isDefined lk_tc_tc_isDefined rc_chip d_tc_step_48 rfl (Nat.le_of_ble_eq_true rfl) (fun v5 s6 => ?_)
      refine j_ifne G d_tc_step_51 (tgt := 66) rfl ?_ ?_
      · refine j_iload_n 2 G d_tc_step_66 rfl rfl ?_
        refine j_sipush G d_tc_step_67 cs_128 ?_
        refine j_iand G d_tc_step_70 ?_
        refine j_ifne G d_tc_step_71 (tgt := 82) rfl ?_ ?_
        · refine j_aload_n 0 G d_tc_step_82 rfl rfl ?_
          refine j_iload_n 2 G d_tc_step_83 rfl rfl ?_
          refine j_Vv1 G k_tc_executeUpperHalf mw_tc_executeUpperHalf lk_tc_tc_executeUpperHalf rc_chip d_tc_step_84 rfl (Nat.le_of_ble_eq_true rfl) (fun _ s7 => ?_)
          refine j_sub [0] (L1 := [(0, .ref (eO (xE X) 0))]) rfl ?_
          exact b_tc_step_87 G s7
        · refine j_aload_n 0 G d_tc_step_74 rfl rfl ?_
          refine j_iload_n 2 G d_tc_step_75 rfl rfl ?_
          refine j_Vv1 G k_tc_executeLowerHalf mw_tc_executeLowerHalf lk_tc_tc_executeLowerHalf rc_chip d_tc_step_76 rfl (Nat.le_of_ble_eq_true rfl) (fun _ s8 => ?_)
          refine j_goto G d_tc_step_79 (tgt := 87) rfl ?_
          refine j_sub [0] (L1 := [(0, .ref (eO (xE X) 0))]) rfl ?_
          exact b_tc_step_87 G s8
      · refine j_aload_n 0 G d_tc_step_54 rfl rfl ?_
        refine g_tc_registers G d_tc_step_55 ?_
        refine j_bipush G d_tc_step_58 cb_6 ?_
        refine j_iload_n 1 G d_tc_step_60 rfl rfl ?_
        refine j_Vv2 G k_re_set mw_re_set lk_tc_re_set rc_reg d_tc_step_61 rfl (Nat.le_of_ble_eq_true rfl) (fun _ s9 => ?_)
        refine j_iconst G d_tc_step_64 ci_2 ?_
        exact j_iret G d_tc_step_65
    · refine j_iconst G d_tc_step_24 ci_1 ?_
      exact j_iret G d_tc_step_25
  · refine j_aload_n 0 G d_tc_step_10 rfl rfl ?_
    refine j_iload_n 1 G d_tc_step_11 rfl rfl ?_
    refine j_Vv1 G k_tc_serve mw_tc_serve lk_tc_tc_serve rc_chip d_tc_step_12 rfl (Nat.le_of_ble_eq_true rfl) (fun _ s10 => ?_)
    refine j_iconst G d_tc_step_15 ci_0 ?_
    exact j_iret G d_tc_step_16
set_option maxHeartbeats 4000000 in
set_option maxRecDepth 100000 in
theorem k_tc_step {l : Launch} {E : Ev} {σ : CS} : CtI wdC l E y_tc_step bc_tc_step 4 (some .int) (rmm 6 148) [.ref (eO E 0)] σ (tc_step σ ) := ct_i (by decide) (Nat.le_of_ble_eq_true rfl) (fun X hE _ G => by subst hE; exact b_tc_step G σ )
def tc_run_11 (σ : CS) : Option (Int32 × CS) :=
some ((-1 : Int32), σ)
def tc_run_15 : Nat → CS → Int32 → Int32 → Option (Int32 × CS)
  | 0, _, _, _ => none
  | fu + 1, σ, l1, l2 =>
    if l1 < l2 then (some (l1, σ)) else (bd (tc_step σ) fun v1 s1 =>
    if v1 = 0 then (tc_run_15 fu s1 l1 (l2 + Int32.ofInt 1)) else (some (l2, s1)))
def tc_run (σ : CS) (a1 : Int32) : Option (Int32 × CS) :=
if a1 < (1 : Int32) then (tc_run_11 σ) else (if a1 ≤ (50 : Int32) then (tc_run_15 52 σ a1 (1 : Int32)) else (tc_run_11 σ))
set_option maxHeartbeats 4000000 in
set_option maxRecDepth 100000 in
theorem b_tc_run_11 {X : Cx} (G : Gd X bc_tc_run 3 R_chip (some .int) (rmm 7 171)) (σ : CS) : J wdC X (QI wdC X) 3 11 [(0, .ref (eO (xE X) 0))] [] σ (tc_run_11 σ ) := by
  unfold tc_run_11
  refine j_iconst G d_tc_run_11 ci_m1 ?_
  exact j_iret G d_tc_run_12
set_option maxHeartbeats 4000000 in
set_option maxRecDepth 100000 in
theorem b_tc_run_15 {X : Cx} (G : Gd X bc_tc_run 3 R_chip (some .int) (rmm 7 171)) : ∀ (fu : Nat) (σ : CS) (l1 l2 : Int32), J wdC X (QI wdC X) 3 15 [(0, .ref (eO (xE X) 0)), (1, .int l1), (2, .int l2)] [] σ (tc_run_15 fu σ l1 l2) := by
  intro fu
  induction fu with
  | zero => intro σ l1 l2 o ho; cases ho
  | succ fu ih =>
    intro σ l1 l2
    unfold tc_run_15
    refine j_iload_n 2 G d_tc_run_15 rfl rfl ?_
    refine j_iload_n 1 G d_tc_run_16 rfl rfl ?_
    refine j_icgt G d_tc_run_17 (tgt := 35) rfl ?_ ?_
    · refine j_iload_n 1 G d_tc_run_35 rfl rfl ?_
      exact j_iret G d_tc_run_36
    · refine j_aload_n 0 G d_tc_run_20 rfl rfl ?_
      refine j_Vi0 G k_tc_step mw_tc_step lk_tc_tc_step rc_chip d_tc_run_21 rfl (Nat.le_of_ble_eq_true rfl) (fun v1 s1 => ?_)
      refine j_ifeq G d_tc_run_24 (tgt := 29) rfl ?_ ?_
      · refine j_iinc 2 [1, 2, 0] (L1 := [(0, .ref (eO (xE X) 0)), (1, .int l1), (2, .int (l2 + Int32.ofInt 1))]) G d_tc_run_29 rfl rfl (by decide) rfl ?_
        refine j_goto G d_tc_run_32 (tgt := 15) rfl ?_
        exact ih s1 l1 (l2 + Int32.ofInt 1)
      · refine j_iload_n 2 G d_tc_run_27 rfl rfl ?_
        exact j_iret G d_tc_run_28
set_option maxHeartbeats 4000000 in
set_option maxRecDepth 100000 in
theorem b_tc_run {X : Cx} (G : Gd X bc_tc_run 3 R_chip (some .int) (rmm 7 171)) (σ : CS) (a1 : Int32) : J wdC X (QI wdC X) 3 0 [(0, .ref (eO (xE X) 0)), (1, .int a1)] [] σ (tc_run σ a1) := by
  unfold tc_run
  refine j_iload_n 1 G d_tc_run_0 rfl rfl ?_
  refine j_iconst G d_tc_run_1 ci_1 ?_
  refine j_iclt G d_tc_run_2 (tgt := 11) rfl ?_ ?_
  · refine j_sub [0] (L1 := [(0, .ref (eO (xE X) 0))]) rfl ?_
    exact b_tc_run_11 G σ
  · refine j_iload_n 1 G d_tc_run_5 rfl rfl ?_
    refine j_bipush G d_tc_run_6 cb_50 ?_
    refine j_icle G d_tc_run_8 (tgt := 13) rfl ?_ ?_
    · refine j_iconst G d_tc_run_13 ci_1 ?_
      refine j_istore_n [1, 2, 0] (L1 := [(0, .ref (eO (xE X) 0)), (1, .int a1), (2, .int (1 : Int32))]) G d_tc_run_14 rfl (by decide) rfl ?_
      exact b_tc_run_15 G 52 σ a1 (1 : Int32)
    · refine j_sub [0] (L1 := [(0, .ref (eO (xE X) 0))]) rfl ?_
      exact b_tc_run_11 G σ
set_option maxHeartbeats 4000000 in
set_option maxRecDepth 100000 in
theorem k_tc_run {l : Launch} {E : Ev} {σ : CS} {a1 : Int32} : CtI wdC l E y_tc_run bc_tc_run 3 (some .int) (rmm 7 171) [.ref (eO E 0), .int a1] σ (tc_run σ a1) := ct_i (by decide) (Nat.le_of_ble_eq_true rfl) (fun X hE _ G => by subst hE; exact b_tc_run G σ a1)
def tc_setLine_18 (σ : CS) : Option (Int32 × CS) :=
some ((0 : Int32), σ)
def tc_setLine_46 (σ : CS) (l1 l2 : Int32) : Option (Int32 × CS) :=
gd (okI l1 3) (
ns (cy_lev σ (upd (cx_lev σ) l1.toNatClampNeg l2)) fun s1 =>
some ((1 : Int32), s1))
def tc_setLine (σ : CS) (a1 a2 : Int32) : Option (Int32 × CS) :=
if a1 < 0 then (tc_setLine_18 σ) else (if (3 : Int32) ≤ a1 then (tc_setLine_18 σ) else (if a2 < 0 then (tc_setLine_18 σ) else (if a2 ≤ (1 : Int32) then (if a1 = 0 then (if (cx_arm σ) = 0 then (tc_setLine_46 σ a1 a2) else (if a2 ≤ (cx_lev σ 0) then (tc_setLine_46 σ a1 a2) else (ns (cy_due σ (1 : Int32)) fun s1 =>
tc_setLine_46 s1 a1 a2))) else (tc_setLine_46 σ a1 a2)) else (tc_setLine_18 σ))))
set_option maxHeartbeats 4000000 in
set_option maxRecDepth 100000 in
theorem b_tc_setLine_18 {X : Cx} (G : Gd X bc_tc_setLine 3 R_chip (some .boolean) (rmm 0 0)) (σ : CS) : J wdC X (QI wdC X) 3 18 [(0, .ref (eO (xE X) 0))] [] σ (tc_setLine_18 σ ) := by
  unfold tc_setLine_18
  refine j_iconst G d_tc_setLine_18 ci_0 ?_
  exact j_zretc (by decide) G d_tc_setLine_19
set_option maxHeartbeats 4000000 in
set_option maxRecDepth 100000 in
theorem b_tc_setLine_46 {X : Cx} (G : Gd X bc_tc_setLine 3 R_chip (some .boolean) (rmm 0 0)) (σ : CS) (l1 l2 : Int32) : J wdC X (QI wdC X) 3 46 [(0, .ref (eO (xE X) 0)), (1, .int l1), (2, .int l2)] [] σ (tc_setLine_46 σ l1 l2) := by
  unfold tc_setLine_46
  refine j_aload_n 0 G d_tc_setLine_46 rfl rfl ?_
  refine g_tc_levels G d_tc_setLine_47 ?_
  refine j_iload_n 1 G d_tc_setLine_50 rfl rfl ?_
  refine j_iload_n 2 G d_tc_setLine_51 rfl rfl ?_
  refine as_Clev G d_tc_setLine_52 ?_
  refine j_ns (fun s1 => ?_)
  refine j_iconst G d_tc_setLine_53 ci_1 ?_
  exact j_zretc (by decide) G d_tc_setLine_54
set_option maxHeartbeats 4000000 in
set_option maxRecDepth 100000 in
theorem b_tc_setLine {X : Cx} (G : Gd X bc_tc_setLine 3 R_chip (some .boolean) (rmm 0 0)) (σ : CS) (a1 a2 : Int32) : J wdC X (QI wdC X) 3 0 [(0, .ref (eO (xE X) 0)), (1, .int a1), (2, .int a2)] [] σ (tc_setLine σ a1 a2) := by
  unfold tc_setLine
  refine j_iload_n 1 G d_tc_setLine_0 rfl rfl ?_
  refine j_iflt G d_tc_setLine_1 (tgt := 18) rfl ?_ ?_
  · refine j_sub [0] (L1 := [(0, .ref (eO (xE X) 0))]) rfl ?_
    exact b_tc_setLine_18 G σ
  · refine j_iload_n 1 G d_tc_setLine_4 rfl rfl ?_
    refine j_iconst G d_tc_setLine_5 ci_3 ?_
    refine j_icge G d_tc_setLine_6 (tgt := 18) rfl ?_ ?_
    · refine j_sub [0] (L1 := [(0, .ref (eO (xE X) 0))]) rfl ?_
      exact b_tc_setLine_18 G σ
    · refine j_iload_n 2 G d_tc_setLine_9 rfl rfl ?_
      refine j_iflt G d_tc_setLine_10 (tgt := 18) rfl ?_ ?_
      · refine j_sub [0] (L1 := [(0, .ref (eO (xE X) 0))]) rfl ?_
        exact b_tc_setLine_18 G σ
      · refine j_iload_n 2 G d_tc_setLine_13 rfl rfl ?_
        refine j_iconst G d_tc_setLine_14 ci_1 ?_
        refine j_icle G d_tc_setLine_15 (tgt := 20) rfl ?_ ?_
        · refine j_iload_n 1 G d_tc_setLine_20 rfl rfl ?_
          refine j_ifne G d_tc_setLine_21 (tgt := 46) rfl ?_ ?_
          · exact b_tc_setLine_46 G σ a1 a2
          · refine j_aload_n 0 G d_tc_setLine_24 rfl rfl ?_
            refine g_tc_nmiArmed G d_tc_setLine_25 ?_
            refine j_ifeq G d_tc_setLine_28 (tgt := 46) rfl ?_ ?_
            · exact b_tc_setLine_46 G σ a1 a2
            · refine j_iload_n 2 G d_tc_setLine_31 rfl rfl ?_
              refine j_aload_n 0 G d_tc_setLine_32 rfl rfl ?_
              refine g_tc_levels G d_tc_setLine_33 ?_
              refine j_iconst G d_tc_setLine_36 ci_0 ?_
              refine alc_Clev (j := 0) rfl rfl G d_tc_setLine_37 ?_
              refine j_icle G d_tc_setLine_38 (tgt := 46) rfl ?_ ?_
              · exact b_tc_setLine_46 G σ a1 a2
              · refine j_aload_n 0 G d_tc_setLine_41 rfl rfl ?_
                refine j_iconst G d_tc_setLine_42 ci_1 ?_
                refine pc_tc_nmiDue (by decide) G d_tc_setLine_43 ?_
                refine j_ns (fun s1 => ?_)
                exact b_tc_setLine_46 G s1 a1 a2
        · refine j_sub [0] (L1 := [(0, .ref (eO (xE X) 0))]) rfl ?_
          exact b_tc_setLine_18 G σ
set_option maxHeartbeats 4000000 in
set_option maxRecDepth 100000 in
theorem k_tc_setLine {l : Launch} {E : Ev} {σ : CS} {a1 a2 : Int32} : CtI wdC l E y_tc_setLine bc_tc_setLine 3 (some .boolean) (rmm 0 0) [.ref (eO E 0), .int a1, .int a2] σ (tc_setLine σ a1 a2) := ct_i (by decide) (Nat.le_of_ble_eq_true rfl) (fun X hE _ G => by subst hE; exact b_tc_setLine G σ a1 a2)
def tc_isFaceRegister_15 (σ : CS) (t0 : Int32) : Option (Int32 × CS) :=
gd (isB t0) (some (t0, σ))
def tc_isFaceRegister_14 (σ : CS) : Option (Int32 × CS) :=
tc_isFaceRegister_15 σ (0 : Int32)
def tc_isFaceRegister (σ : CS) (a1 : Int32) : Option (Int32 × CS) :=
if a1 < 0 then (tc_isFaceRegister_14 σ) else (if (9 : Int32) ≤ a1 then (tc_isFaceRegister_14 σ) else (tc_isFaceRegister_15 σ (1 : Int32)))
set_option maxHeartbeats 4000000 in
set_option maxRecDepth 100000 in
theorem b_tc_isFaceRegister_15 {X : Cx} (G : Gd X bc_tc_isFaceRegister 1 R_chip (some .boolean) (rmm 0 0)) (σ : CS) (t0 : Int32) : J wdC X (QI wdC X) 1 15 [] [.int t0] σ (tc_isFaceRegister_15 σ t0) := by
  unfold tc_isFaceRegister_15
  exact j_zret G d_tc_isFaceRegister_15
set_option maxHeartbeats 4000000 in
set_option maxRecDepth 100000 in
theorem b_tc_isFaceRegister_14 {X : Cx} (G : Gd X bc_tc_isFaceRegister 1 R_chip (some .boolean) (rmm 0 0)) (σ : CS) : J wdC X (QI wdC X) 1 14 [] [] σ (tc_isFaceRegister_14 σ ) := by
  unfold tc_isFaceRegister_14
  refine j_iconst G d_tc_isFaceRegister_14 ci_0 ?_
  exact b_tc_isFaceRegister_15 G σ (0 : Int32)
set_option maxHeartbeats 4000000 in
set_option maxRecDepth 100000 in
theorem b_tc_isFaceRegister {X : Cx} (G : Gd X bc_tc_isFaceRegister 1 R_chip (some .boolean) (rmm 0 0)) (σ : CS) (a1 : Int32) : J wdC X (QI wdC X) 1 0 [(0, .int a1)] [] σ (tc_isFaceRegister σ a1) := by
  unfold tc_isFaceRegister
  refine j_iload_n 0 G d_tc_isFaceRegister_0 rfl rfl ?_
  refine j_iflt G d_tc_isFaceRegister_1 (tgt := 14) rfl ?_ ?_
  · refine j_sub [] (L1 := []) rfl ?_
    exact b_tc_isFaceRegister_14 G σ
  · refine j_iload_n 0 G d_tc_isFaceRegister_4 rfl rfl ?_
    refine j_bipush G d_tc_isFaceRegister_5 cb_9 ?_
    refine j_icge G d_tc_isFaceRegister_7 (tgt := 14) rfl ?_ ?_
    · refine j_sub [] (L1 := []) rfl ?_
      exact b_tc_isFaceRegister_14 G σ
    · refine j_iconst G d_tc_isFaceRegister_10 ci_1 ?_
      refine j_goto G d_tc_isFaceRegister_11 (tgt := 15) rfl ?_
      refine j_sub [] (L1 := []) rfl ?_
      exact b_tc_isFaceRegister_15 G σ (1 : Int32)
set_option maxHeartbeats 4000000 in
set_option maxRecDepth 100000 in
theorem k_tc_isFaceRegister {l : Launch} {E : Ev} {σ : CS} {a1 : Int32} : CtI wdC l E y_tc_isFaceRegister bc_tc_isFaceRegister 1 (some .boolean) (rmm 0 0) [.int a1] σ (tc_isFaceRegister σ a1) := ct_i (by decide) (Nat.le_of_ble_eq_true rfl) (fun X hE _ G => by subst hE; exact b_tc_isFaceRegister G σ a1)
def tc_reg_19 (σ : CS) (t0 : Int32) : Option (Int32 × CS) :=
some (t0, σ)
def tc_reg (σ : CS) (a1 : Int32) : Option (Int32 × CS) :=
bd (tc_isFaceRegister σ a1) fun v1 s1 =>
if v1 = 0 then (tc_reg_19 s1 (-1 : Int32)) else (bd (re_get s1 a1) fun v2 s2 =>
tc_reg_19 s2 v2)
set_option maxHeartbeats 4000000 in
set_option maxRecDepth 100000 in
theorem b_tc_reg_19 {X : Cx} (G : Gd X bc_tc_reg 2 R_chip (some .int) (rmm 1 21)) (σ : CS) (t0 : Int32) : J wdC X (QI wdC X) 2 19 [(0, .ref (eO (xE X) 0))] [.int t0] σ (tc_reg_19 σ t0) := by
  unfold tc_reg_19
  exact j_iret G d_tc_reg_19
set_option maxHeartbeats 4000000 in
set_option maxRecDepth 100000 in
theorem b_tc_reg {X : Cx} (G : Gd X bc_tc_reg 2 R_chip (some .int) (rmm 1 21)) (σ : CS) (a1 : Int32) : J wdC X (QI wdC X) 2 0 [(0, .ref (eO (xE X) 0)), (1, .int a1)] [] σ (tc_reg σ a1) := by
  unfold tc_reg
  refine j_iload_n 1 G d_tc_reg_0 rfl rfl ?_
  refine j_Si1 G k_tc_isFaceRegister mw_tc_isFaceRegister lk_tc_tc_isFaceRegister d_tc_reg_1 rfl (Nat.le_of_ble_eq_true rfl) (fun v1 s1 => ?_)
  refine j_ifeq G d_tc_reg_4 (tgt := 18) rfl ?_ ?_
  · refine j_iconst G d_tc_reg_18 ci_m1 ?_
    refine j_sub [0] (L1 := [(0, .ref (eO (xE X) 0))]) rfl ?_
    exact b_tc_reg_19 G s1 (-1 : Int32)
  · refine j_aload_n 0 G d_tc_reg_7 rfl rfl ?_
    refine g_tc_registers G d_tc_reg_8 ?_
    refine j_iload_n 1 G d_tc_reg_11 rfl rfl ?_
    refine j_Vi1 G k_re_get mw_re_get lk_tc_re_get rc_reg d_tc_reg_12 rfl (Nat.le_of_ble_eq_true rfl) (fun v2 s2 => ?_)
    refine j_goto G d_tc_reg_15 (tgt := 19) rfl ?_
    refine j_sub [0] (L1 := [(0, .ref (eO (xE X) 0))]) rfl ?_
    exact b_tc_reg_19 G s2 v2
set_option maxHeartbeats 4000000 in
set_option maxRecDepth 100000 in
theorem k_tc_reg {l : Launch} {E : Ev} {σ : CS} {a1 : Int32} : CtI wdC l E y_tc_reg bc_tc_reg 2 (some .int) (rmm 1 21) [.ref (eO E 0), .int a1] σ (tc_reg σ a1) := ct_i (by decide) (Nat.le_of_ble_eq_true rfl) (fun X hE _ G => by subst hE; exact b_tc_reg G σ a1)
def tc_put (σ : CS) (a1 a2 : Int32) : Option (Int32 × CS) :=
bd (tc_isFaceRegister σ a1) fun v1 s1 =>
if v1 = 0 then (some ((0 : Int32), s1)) else (bd (re_set s1 a1 a2) fun _ s2 =>
some ((1 : Int32), s2))
set_option maxHeartbeats 4000000 in
set_option maxRecDepth 100000 in
theorem b_tc_put {X : Cx} (G : Gd X bc_tc_put 3 R_chip (some .boolean) (rmm 1 23)) (σ : CS) (a1 a2 : Int32) : J wdC X (QI wdC X) 3 0 [(0, .ref (eO (xE X) 0)), (1, .int a1), (2, .int a2)] [] σ (tc_put σ a1 a2) := by
  unfold tc_put
  refine j_iload_n 1 G d_tc_put_0 rfl rfl ?_
  refine j_Si1 G k_tc_isFaceRegister mw_tc_isFaceRegister lk_tc_tc_isFaceRegister d_tc_put_1 rfl (Nat.le_of_ble_eq_true rfl) (fun v1 s1 => ?_)
  refine j_ifne G d_tc_put_4 (tgt := 9) rfl ?_ ?_
  · refine j_aload_n 0 G d_tc_put_9 rfl rfl ?_
    refine g_tc_registers G d_tc_put_10 ?_
    refine j_iload_n 1 G d_tc_put_13 rfl rfl ?_
    refine j_iload_n 2 G d_tc_put_14 rfl rfl ?_
    refine j_Vv2 G k_re_set mw_re_set lk_tc_re_set rc_reg d_tc_put_15 rfl (Nat.le_of_ble_eq_true rfl) (fun _ s2 => ?_)
    refine j_iconst G d_tc_put_18 ci_1 ?_
    exact j_zretc (by decide) G d_tc_put_19
  · refine j_iconst G d_tc_put_7 ci_0 ?_
    exact j_zretc (by decide) G d_tc_put_8
set_option maxHeartbeats 4000000 in
set_option maxRecDepth 100000 in
theorem k_tc_put {l : Launch} {E : Ev} {σ : CS} {a1 a2 : Int32} : CtI wdC l E y_tc_put bc_tc_put 3 (some .boolean) (rmm 1 23) [.ref (eO E 0), .int a1, .int a2] σ (tc_put σ a1 a2) := ct_i (by decide) (Nat.le_of_ble_eq_true rfl) (fun X hE _ G => by subst hE; exact b_tc_put G σ a1 a2)
def tc_waits (σ : CS) : Option (Int32 × CS) :=
some ((cx_wai σ), σ)
set_option maxHeartbeats 4000000 in
set_option maxRecDepth 100000 in
theorem b_tc_waits {X : Cx} (G : Gd X bc_tc_waits 1 R_chip (some .int) (rmm 0 0)) (σ : CS) : J wdC X (QI wdC X) 1 0 [(0, .ref (eO (xE X) 0))] [] σ (tc_waits σ ) := by
  unfold tc_waits
  refine j_aload_n 0 G d_tc_waits_0 rfl rfl ?_
  refine g_tc_waiting G d_tc_waits_1 ?_
  exact j_iret G d_tc_waits_4
set_option maxHeartbeats 4000000 in
set_option maxRecDepth 100000 in
theorem k_tc_waits {l : Launch} {E : Ev} {σ : CS} : CtI wdC l E y_tc_waits bc_tc_waits 1 (some .int) (rmm 0 0) [.ref (eO E 0)] σ (tc_waits σ ) := ct_i (by decide) (Nat.le_of_ble_eq_true rfl) (fun X hE _ G => by subst hE; exact b_tc_waits G σ )
def tc_lines_25 (σ : CS) (l1 t0 : Int32) : Option (Int32 × CS) :=
nm (((l1 ||| t0) ||| ((cx_lev σ 0) <<< ((2 : Int32) &&& 31))) ||| ((cx_lev σ 1) <<< ((3 : Int32) &&& 31))) fun v1 =>
some ((v1 ||| ((cx_lev σ 2) <<< ((4 : Int32) &&& 31))), σ)
def tc_lines_12 (σ : CS) (t0 : Int32) : Option (Int32 × CS) :=
if (cx_due σ) = 0 then (tc_lines_25 σ t0 (0 : Int32)) else (tc_lines_25 σ t0 (2 : Int32))
def tc_lines (σ : CS) : Option (Int32 × CS) :=
if (cx_arm σ) = 0 then (tc_lines_12 σ (0 : Int32)) else (tc_lines_12 σ (1 : Int32))
set_option maxHeartbeats 4000000 in
set_option maxRecDepth 100000 in
theorem b_tc_lines_25 {X : Cx} (G : Gd X bc_tc_lines 3 R_chip (some .int) (rmm 0 0)) (σ : CS) (l1 t0 : Int32) : J wdC X (QI wdC X) 3 25 [(0, .ref (eO (xE X) 0)), (1, .int l1)] [.int t0] σ (tc_lines_25 σ l1 t0) := by
  unfold tc_lines_25
  refine j_istore_n [1, 2, 0] (L1 := [(0, .ref (eO (xE X) 0)), (1, .int l1), (2, .int t0)]) G d_tc_lines_25 rfl (by decide) rfl ?_
  refine j_iload_n 1 G d_tc_lines_26 rfl rfl ?_
  refine j_iload_n 2 G d_tc_lines_27 rfl rfl ?_
  refine j_ior G d_tc_lines_28 ?_
  refine j_aload_n 0 G d_tc_lines_29 rfl rfl ?_
  refine g_tc_levels G d_tc_lines_30 ?_
  refine j_iconst G d_tc_lines_33 ci_0 ?_
  refine alc_Clev (j := 0) rfl rfl G d_tc_lines_34 ?_
  refine j_iconst G d_tc_lines_35 ci_2 ?_
  refine j_ishl G d_tc_lines_36 ?_
  refine j_ior G d_tc_lines_37 ?_
  refine j_aload_n 0 G d_tc_lines_38 rfl rfl ?_
  refine g_tc_levels G d_tc_lines_39 ?_
  refine j_iconst G d_tc_lines_42 ci_1 ?_
  refine alc_Clev (j := 1) rfl rfl G d_tc_lines_43 ?_
  refine j_iconst G d_tc_lines_44 ci_3 ?_
  refine j_ishl G d_tc_lines_45 ?_
  refine j_ior G d_tc_lines_46 ?_
  refine j_nm (fun v1 => ?_)
  refine j_aload_n 0 G d_tc_lines_47 rfl rfl ?_
  refine g_tc_levels G d_tc_lines_48 ?_
  refine j_iconst G d_tc_lines_51 ci_2 ?_
  refine alc_Clev (j := 2) rfl rfl G d_tc_lines_52 ?_
  refine j_iconst G d_tc_lines_53 ci_4 ?_
  refine j_ishl G d_tc_lines_54 ?_
  refine j_ior G d_tc_lines_55 ?_
  exact j_iret G d_tc_lines_56
set_option maxHeartbeats 4000000 in
set_option maxRecDepth 100000 in
theorem b_tc_lines_12 {X : Cx} (G : Gd X bc_tc_lines 3 R_chip (some .int) (rmm 0 0)) (σ : CS) (t0 : Int32) : J wdC X (QI wdC X) 3 12 [(0, .ref (eO (xE X) 0))] [.int t0] σ (tc_lines_12 σ t0) := by
  unfold tc_lines_12
  refine j_istore_n [1, 0] (L1 := [(0, .ref (eO (xE X) 0)), (1, .int t0)]) G d_tc_lines_12 rfl (by decide) rfl ?_
  refine j_aload_n 0 G d_tc_lines_13 rfl rfl ?_
  refine g_tc_nmiDue G d_tc_lines_14 ?_
  refine j_ifeq G d_tc_lines_17 (tgt := 24) rfl ?_ ?_
  · refine j_iconst G d_tc_lines_24 ci_0 ?_
    exact b_tc_lines_25 G σ t0 (0 : Int32)
  · refine j_iconst G d_tc_lines_20 ci_2 ?_
    refine j_goto G d_tc_lines_21 (tgt := 25) rfl ?_
    exact b_tc_lines_25 G σ t0 (2 : Int32)
set_option maxHeartbeats 4000000 in
set_option maxRecDepth 100000 in
theorem b_tc_lines {X : Cx} (G : Gd X bc_tc_lines 3 R_chip (some .int) (rmm 0 0)) (σ : CS) : J wdC X (QI wdC X) 3 0 [(0, .ref (eO (xE X) 0))] [] σ (tc_lines σ ) := by
  unfold tc_lines
  refine j_aload_n 0 G d_tc_lines_0 rfl rfl ?_
  refine g_tc_nmiArmed G d_tc_lines_1 ?_
  refine j_ifeq G d_tc_lines_4 (tgt := 11) rfl ?_ ?_
  · refine j_iconst G d_tc_lines_11 ci_0 ?_
    exact b_tc_lines_12 G σ (0 : Int32)
  · refine j_iconst G d_tc_lines_7 ci_1 ?_
    refine j_goto G d_tc_lines_8 (tgt := 12) rfl ?_
    exact b_tc_lines_12 G σ (1 : Int32)
set_option maxHeartbeats 4000000 in
set_option maxRecDepth 100000 in
theorem k_tc_lines {l : Launch} {E : Ev} {σ : CS} : CtI wdC l E y_tc_lines bc_tc_lines 3 (some .int) (rmm 0 0) [.ref (eO E 0)] σ (tc_lines σ ) := ct_i (by decide) (Nat.le_of_ble_eq_true rfl) (fun X hE _ G => by subst hE; exact b_tc_lines G σ )
