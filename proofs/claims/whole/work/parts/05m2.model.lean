def mo_onByte_344 (σ : MS) (l4 : Int32) : Option (Int32 × MS) :=
some (l4, σ)
def mo_onByte_341 (σ : MS) (l4 t0 t1 : Int32) : Option (Int32 × MS) :=
bd (mo_flag σ t1 t0) fun _ s1 =>
mo_onByte_344 s1 l4
def mo_onByte_327 (σ : MS) (l2 l4 : Int32) : Option (Int32 × MS) :=
if l2 < (128 : Int32) then (mo_onByte_341 σ l4 (0 : Int32) (1 : Int32)) else (mo_onByte_341 σ l4 (1 : Int32) (1 : Int32))
def mo_onByte_315 (σ : MS) (l1 l2 l4 : Int32) : Option (Int32 × MS) :=
if l1 = (8 : Int32) then (mo_onByte_327 σ l2 l4) else (if l1 = (9 : Int32) then (mo_onByte_327 σ l2 l4) else (mo_onByte_344 σ l4))
def mo_onByte_312 (σ : MS) (l1 l2 l4 t0 t1 : Int32) : Option (Int32 × MS) :=
bd (mo_flag σ t1 t0) fun _ s1 =>
mo_onByte_315 s1 l1 l2 l4
def mo_onByte_289 (σ : MS) (l1 l2 l4 : Int32) : Option (Int32 × MS) :=
bd (mo_in σ l1 (4 : Int32) (7 : Int32)) fun v1 s1 =>
if v1 = 0 then (mo_onByte_315 s1 l1 l2 l4) else (if (l2 &&& (1 : Int32)) = 0 then (mo_onByte_312 s1 l1 l2 l4 (0 : Int32) (1 : Int32)) else (mo_onByte_312 s1 l1 l2 l4 (1 : Int32) (1 : Int32)))
def mo_onByte_277 (σ : MS) (l1 l2 l4 : Int32) : Option (Int32 × MS) :=
if l1 = (15 : Int32) then (bd (mo_flag σ (1 : Int32) (0 : Int32)) fun _ s1 =>
mo_onByte_289 s1 l1 l2 l4) else (mo_onByte_289 σ l1 l2 l4)
def mo_onByte_266 (σ : MS) (l1 l2 l4 : Int32) : Option (Int32 × MS) :=
if l1 = (3 : Int32) then (bd (mo_flag σ (1 : Int32) (1 : Int32)) fun _ s1 =>
mo_onByte_277 s1 l1 l2 l4) else (mo_onByte_277 σ l1 l2 l4)
def mo_onByte_263 (σ : MS) (l1 l2 l4 t0 t1 : Int32) : Option (Int32 × MS) :=
bd (mo_flag σ t1 t0) fun _ s1 =>
mo_onByte_266 s1 l1 l2 l4
def mo_onByte_244 (σ : MS) (l1 l2 l4 : Int32) : Option (Int32 × MS) :=
if l1 = (12 : Int32) then (if l2 = (127 : Int32) then (mo_onByte_263 σ l1 l2 l4 (1 : Int32) (2 : Int32)) else (mo_onByte_263 σ l1 l2 l4 (0 : Int32) (2 : Int32))) else (mo_onByte_266 σ l1 l2 l4)
def mo_onByte_241 (σ : MS) (l1 l2 l4 t0 t1 : Int32) : Option (Int32 × MS) :=
bd (mo_flag σ t1 t0) fun _ s1 =>
mo_onByte_244 s1 l1 l2 l4
def mo_onByte_221 (σ : MS) (l1 l2 l4 : Int32) : Option (Int32 × MS) :=
if l1 = (10 : Int32) then (if l2 = (128 : Int32) then (mo_onByte_241 σ l1 l2 l4 (1 : Int32) (2 : Int32)) else (mo_onByte_241 σ l1 l2 l4 (0 : Int32) (2 : Int32))) else (mo_onByte_244 σ l1 l2 l4)
def mo_onByte_218 (σ : MS) (l1 l2 l4 t0 t1 : Int32) : Option (Int32 × MS) :=
bd (mo_flag σ t1 t0) fun _ s1 =>
mo_onByte_221 s1 l1 l2 l4
def mo_onByte_198 (σ : MS) (l1 l2 l4 : Int32) : Option (Int32 × MS) :=
if (l2 >>> ((7 : Int32) &&& 31)) = ((l2 >>> ((6 : Int32) &&& 31)) &&& (1 : Int32)) then (mo_onByte_218 σ l1 l2 l4 (0 : Int32) (2 : Int32)) else (mo_onByte_218 σ l1 l2 l4 (1 : Int32) (2 : Int32))
def mo_onByte_186 (σ : MS) (l1 l2 l4 : Int32) : Option (Int32 × MS) :=
if l1 = (8 : Int32) then (mo_onByte_198 σ l1 l2 l4) else (if l1 = (9 : Int32) then (mo_onByte_198 σ l1 l2 l4) else (mo_onByte_221 σ l1 l2 l4))
def mo_onByte_180 (σ : MS) (l1 l2 l4 : Int32) : Option (Int32 × MS) :=
bd (mo_flag σ (2 : Int32) (0 : Int32)) fun _ s1 =>
mo_onByte_186 s1 l1 l2 l4
def mo_onByte_156 (σ : MS) (l1 l2 l4 : Int32) : Option (Int32 × MS) :=
bd (mo_shows σ l4 (0 : Int32)) fun _ s1 =>
if l1 = (3 : Int32) then (mo_onByte_180 s1 l1 l2 l4) else (if l1 = (13 : Int32) then (mo_onByte_180 s1 l1 l2 l4) else (if l1 = (15 : Int32) then (mo_onByte_180 s1 l1 l2 l4) else (mo_onByte_186 s1 l1 l2 l4)))
def mo_onByte_147 (σ : MS) (l1 l2 l4 : Int32) : Option (Int32 × MS) :=
if l1 = (15 : Int32) then (mo_onByte_156 σ l1 l2 (0 : Int32)) else (mo_onByte_156 σ l1 l2 l4)
def mo_onByte_132 (σ : MS) (l1 l2 l4 : Int32) : Option (Int32 × MS) :=
if l1 = (12 : Int32) then (nm ((l2 + (1 : Int32)) &&& (255 : Int32)) fun v1 =>
mo_onByte_147 σ l1 l2 v1) else (mo_onByte_147 σ l1 l2 l4)
def mo_onByte_117 (σ : MS) (l1 l2 l4 : Int32) : Option (Int32 × MS) :=
if l1 = (10 : Int32) then (nm ((l2 - (1 : Int32)) &&& (255 : Int32)) fun v1 =>
mo_onByte_132 σ l1 l2 v1) else (mo_onByte_132 σ l1 l2 l4)
def mo_onByte_100 (σ : MS) (l1 l2 l3 l4 : Int32) : Option (Int32 × MS) :=
if l1 = (9 : Int32) then (nm (((l2 <<< ((1 : Int32) &&& 31)) &&& (255 : Int32)) ||| l3) fun v1 =>
mo_onByte_117 σ l1 l2 v1) else (mo_onByte_117 σ l1 l2 l4)
def mo_onByte_85 (σ : MS) (l1 l2 l3 l4 : Int32) : Option (Int32 × MS) :=
if l1 = (8 : Int32) then (nm ((l2 <<< ((1 : Int32) &&& 31)) &&& (255 : Int32)) fun v1 =>
mo_onByte_100 σ l1 l2 l3 v1) else (mo_onByte_100 σ l1 l2 l3 l4)
def mo_onByte_68 (σ : MS) (l1 l2 l3 l4 : Int32) : Option (Int32 × MS) :=
if l1 = (7 : Int32) then (nm ((l2 >>> ((1 : Int32) &&& 31)) ||| (l2 &&& (128 : Int32))) fun v1 =>
mo_onByte_85 σ l1 l2 l3 v1) else (mo_onByte_85 σ l1 l2 l3 l4)
def mo_onByte_52 (σ : MS) (l1 l2 l3 l4 : Int32) : Option (Int32 × MS) :=
if l1 = (6 : Int32) then (nm ((l2 >>> ((1 : Int32) &&& 31)) ||| (l3 <<< ((7 : Int32) &&& 31))) fun v1 =>
mo_onByte_68 σ l1 l2 l3 v1) else (mo_onByte_68 σ l1 l2 l3 l4)
def mo_onByte_42 (σ : MS) (l1 l2 l3 l4 : Int32) : Option (Int32 × MS) :=
if l1 = (4 : Int32) then (nm (l2 >>> ((1 : Int32) &&& 31)) fun v1 =>
mo_onByte_52 σ l1 l2 l3 v1) else (mo_onByte_52 σ l1 l2 l3 l4)
def mo_onByte_13 (σ : MS) (l1 l2 t0 : Int32) : Option (Int32 × MS) :=
if l1 = 0 then (bd (mo_less σ (0 : Int32) l2 (0 : Int32) (0 : Int32)) fun v2 s1 =>
some (v2, s1)) else (if l1 = (3 : Int32) then (nm ((255 : Int32) - l2) fun v1 =>
mo_onByte_42 σ l1 l2 t0 v1) else (mo_onByte_42 σ l1 l2 t0 l2))
def mo_onByte (σ : MS) (a1 a2 : Int32) : Option (Int32 × MS) :=
bd (mo_is σ (1 : Int32)) fun v1 s1 =>
if v1 = 0 then (mo_onByte_13 s1 a1 a2 (0 : Int32)) else (mo_onByte_13 s1 a1 a2 (1 : Int32))
set_option maxHeartbeats 4000000 in
set_option maxRecDepth 100000 in
theorem b_mo_onByte_344 {X : Cx} (G : Gd X bc_mo_onByte 5 R_mod (some .int) (rmm 3 69)) (σ : MS) (l4 : Int32) : J wdM X (QI wdM X) 5 344 [(0, .ref (eO (xE X) 0)), (4, .int l4)] [] σ (mo_onByte_344 σ l4) := by
  unfold mo_onByte_344
  refine j_iload 1 G d_mo_onByte_344 rfl ?_
  exact j_iret G d_mo_onByte_346
set_option maxHeartbeats 4000000 in
set_option maxRecDepth 100000 in
theorem b_mo_onByte_341 {X : Cx} (G : Gd X bc_mo_onByte 5 R_mod (some .int) (rmm 3 69)) (σ : MS) (l4 t0 t1 : Int32) : J wdM X (QI wdM X) 5 341 [(0, .ref (eO (xE X) 0)), (4, .int l4)] [.int t0, .int t1, .ref (eO (xE X) 0)] σ (mo_onByte_341 σ l4 t0 t1) := by
  unfold mo_onByte_341
  refine j_Vv2 G k_mo_flag mw_mo_flag lk_mo_mo_flag rc_mod d_mo_onByte_341 rfl (Nat.le_of_ble_eq_true rfl) (fun _ s1 => ?_)
  exact b_mo_onByte_344 G s1 l4
set_option maxHeartbeats 4000000 in
set_option maxRecDepth 100000 in
theorem b_mo_onByte_327 {X : Cx} (G : Gd X bc_mo_onByte 5 R_mod (some .int) (rmm 3 69)) (σ : MS) (l2 l4 : Int32) : J wdM X (QI wdM X) 5 327 [(0, .ref (eO (xE X) 0)), (2, .int l2), (4, .int l4)] [] σ (mo_onByte_327 σ l2 l4) := by
  unfold mo_onByte_327
  refine j_aload_n 0 G d_mo_onByte_327 rfl rfl ?_
  refine j_iconst G d_mo_onByte_328 ci_1 ?_
  refine j_iload_n 1 G d_mo_onByte_329 rfl rfl ?_
  refine j_sipush G d_mo_onByte_330 cs_128 ?_
  refine j_iclt G d_mo_onByte_333 (tgt := 340) rfl ?_ ?_
  · refine j_iconst G d_mo_onByte_340 ci_0 ?_
    refine j_sub [0, 2] (L1 := [(0, .ref (eO (xE X) 0)), (4, .int l4)]) rfl ?_
    exact b_mo_onByte_341 G σ l4 (0 : Int32) (1 : Int32)
  · refine j_iconst G d_mo_onByte_336 ci_1 ?_
    refine j_goto G d_mo_onByte_337 (tgt := 341) rfl ?_
    refine j_sub [0, 2] (L1 := [(0, .ref (eO (xE X) 0)), (4, .int l4)]) rfl ?_
    exact b_mo_onByte_341 G σ l4 (1 : Int32) (1 : Int32)
set_option maxHeartbeats 4000000 in
set_option maxRecDepth 100000 in
theorem b_mo_onByte_315 {X : Cx} (G : Gd X bc_mo_onByte 5 R_mod (some .int) (rmm 3 69)) (σ : MS) (l1 l2 l4 : Int32) : J wdM X (QI wdM X) 5 315 [(0, .ref (eO (xE X) 0)), (1, .int l1), (2, .int l2), (4, .int l4)] [] σ (mo_onByte_315 σ l1 l2 l4) := by
  unfold mo_onByte_315
  refine j_iload_n 1 G d_mo_onByte_315 rfl rfl ?_
  refine j_bipush G d_mo_onByte_316 cb_8 ?_
  refine j_iceq G d_mo_onByte_318 (tgt := 327) rfl ?_ ?_
  · refine j_sub [0, 2, 3] (L1 := [(0, .ref (eO (xE X) 0)), (2, .int l2), (4, .int l4)]) rfl ?_
    exact b_mo_onByte_327 G σ l2 l4
  · refine j_iload_n 1 G d_mo_onByte_321 rfl rfl ?_
    refine j_bipush G d_mo_onByte_322 cb_9 ?_
    refine j_icne G d_mo_onByte_324 (tgt := 344) rfl ?_ ?_
    · refine j_sub [0, 3] (L1 := [(0, .ref (eO (xE X) 0)), (4, .int l4)]) rfl ?_
      exact b_mo_onByte_344 G σ l4
    · refine j_sub [0, 2, 3] (L1 := [(0, .ref (eO (xE X) 0)), (2, .int l2), (4, .int l4)]) rfl ?_
      exact b_mo_onByte_327 G σ l2 l4
set_option maxHeartbeats 4000000 in
set_option maxRecDepth 100000 in
theorem b_mo_onByte_312 {X : Cx} (G : Gd X bc_mo_onByte 5 R_mod (some .int) (rmm 3 69)) (σ : MS) (l1 l2 l4 t0 t1 : Int32) : J wdM X (QI wdM X) 5 312 [(0, .ref (eO (xE X) 0)), (1, .int l1), (2, .int l2), (4, .int l4)] [.int t0, .int t1, .ref (eO (xE X) 0)] σ (mo_onByte_312 σ l1 l2 l4 t0 t1) := by
  unfold mo_onByte_312
  refine j_Vv2 G k_mo_flag mw_mo_flag lk_mo_mo_flag rc_mod d_mo_onByte_312 rfl (Nat.le_of_ble_eq_true rfl) (fun _ s1 => ?_)
  exact b_mo_onByte_315 G s1 l1 l2 l4
set_option maxHeartbeats 4000000 in
set_option maxRecDepth 100000 in
theorem b_mo_onByte_289 {X : Cx} (G : Gd X bc_mo_onByte 5 R_mod (some .int) (rmm 3 69)) (σ : MS) (l1 l2 l4 : Int32) : J wdM X (QI wdM X) 5 289 [(0, .ref (eO (xE X) 0)), (1, .int l1), (2, .int l2), (4, .int l4)] [] σ (mo_onByte_289 σ l1 l2 l4) := by
  unfold mo_onByte_289
  refine j_iload_n 1 G d_mo_onByte_289 rfl rfl ?_
  refine j_iconst G d_mo_onByte_290 ci_4 ?_
  refine j_bipush G d_mo_onByte_291 cb_7 ?_
  refine j_Si3 G k_mo_in mw_mo_in lk_mo_mo_in d_mo_onByte_293 rfl (Nat.le_of_ble_eq_true rfl) (fun v1 s1 => ?_)
  refine j_ifeq G d_mo_onByte_296 (tgt := 315) rfl ?_ ?_
  · exact b_mo_onByte_315 G s1 l1 l2 l4
  · refine j_aload_n 0 G d_mo_onByte_299 rfl rfl ?_
    refine j_iconst G d_mo_onByte_300 ci_1 ?_
    refine j_iload_n 2 G d_mo_onByte_301 rfl rfl ?_
    refine j_iconst G d_mo_onByte_302 ci_1 ?_
    refine j_iand G d_mo_onByte_303 ?_
    refine j_ifeq G d_mo_onByte_304 (tgt := 311) rfl ?_ ?_
    · refine j_iconst G d_mo_onByte_311 ci_0 ?_
      exact b_mo_onByte_312 G s1 l1 l2 l4 (0 : Int32) (1 : Int32)
    · refine j_iconst G d_mo_onByte_307 ci_1 ?_
      refine j_goto G d_mo_onByte_308 (tgt := 312) rfl ?_
      exact b_mo_onByte_312 G s1 l1 l2 l4 (1 : Int32) (1 : Int32)
set_option maxHeartbeats 4000000 in
set_option maxRecDepth 100000 in
theorem b_mo_onByte_277 {X : Cx} (G : Gd X bc_mo_onByte 5 R_mod (some .int) (rmm 3 69)) (σ : MS) (l1 l2 l4 : Int32) : J wdM X (QI wdM X) 5 277 [(0, .ref (eO (xE X) 0)), (1, .int l1), (2, .int l2), (4, .int l4)] [] σ (mo_onByte_277 σ l1 l2 l4) := by
  unfold mo_onByte_277
  refine j_iload_n 1 G d_mo_onByte_277 rfl rfl ?_
  refine j_bipush G d_mo_onByte_278 cb_15 ?_
  refine j_icne G d_mo_onByte_280 (tgt := 289) rfl ?_ ?_
  · exact b_mo_onByte_289 G σ l1 l2 l4
  · refine j_aload_n 0 G d_mo_onByte_283 rfl rfl ?_
    refine j_iconst G d_mo_onByte_284 ci_1 ?_
    refine j_iconst G d_mo_onByte_285 ci_0 ?_
    refine j_Vv2 G k_mo_flag mw_mo_flag lk_mo_mo_flag rc_mod d_mo_onByte_286 rfl (Nat.le_of_ble_eq_true rfl) (fun _ s1 => ?_)
    exact b_mo_onByte_289 G s1 l1 l2 l4
set_option maxHeartbeats 4000000 in
set_option maxRecDepth 100000 in
theorem b_mo_onByte_266 {X : Cx} (G : Gd X bc_mo_onByte 5 R_mod (some .int) (rmm 3 69)) (σ : MS) (l1 l2 l4 : Int32) : J wdM X (QI wdM X) 5 266 [(0, .ref (eO (xE X) 0)), (1, .int l1), (2, .int l2), (4, .int l4)] [] σ (mo_onByte_266 σ l1 l2 l4) := by
  unfold mo_onByte_266
  refine j_iload_n 1 G d_mo_onByte_266 rfl rfl ?_
  refine j_iconst G d_mo_onByte_267 ci_3 ?_
  refine j_icne G d_mo_onByte_268 (tgt := 277) rfl ?_ ?_
  · exact b_mo_onByte_277 G σ l1 l2 l4
  · refine j_aload_n 0 G d_mo_onByte_271 rfl rfl ?_
    refine j_iconst G d_mo_onByte_272 ci_1 ?_
    refine j_iconst G d_mo_onByte_273 ci_1 ?_
    refine j_Vv2 G k_mo_flag mw_mo_flag lk_mo_mo_flag rc_mod d_mo_onByte_274 rfl (Nat.le_of_ble_eq_true rfl) (fun _ s1 => ?_)
    exact b_mo_onByte_277 G s1 l1 l2 l4
set_option maxHeartbeats 4000000 in
set_option maxRecDepth 100000 in
theorem b_mo_onByte_263 {X : Cx} (G : Gd X bc_mo_onByte 5 R_mod (some .int) (rmm 3 69)) (σ : MS) (l1 l2 l4 t0 t1 : Int32) : J wdM X (QI wdM X) 5 263 [(0, .ref (eO (xE X) 0)), (1, .int l1), (2, .int l2), (4, .int l4)] [.int t0, .int t1, .ref (eO (xE X) 0)] σ (mo_onByte_263 σ l1 l2 l4 t0 t1) := by
  unfold mo_onByte_263
  refine j_Vv2 G k_mo_flag mw_mo_flag lk_mo_mo_flag rc_mod d_mo_onByte_263 rfl (Nat.le_of_ble_eq_true rfl) (fun _ s1 => ?_)
  exact b_mo_onByte_266 G s1 l1 l2 l4
set_option maxHeartbeats 4000000 in
set_option maxRecDepth 100000 in
theorem b_mo_onByte_244 {X : Cx} (G : Gd X bc_mo_onByte 5 R_mod (some .int) (rmm 3 69)) (σ : MS) (l1 l2 l4 : Int32) : J wdM X (QI wdM X) 5 244 [(0, .ref (eO (xE X) 0)), (1, .int l1), (2, .int l2), (4, .int l4)] [] σ (mo_onByte_244 σ l1 l2 l4) := by
  unfold mo_onByte_244
  refine j_iload_n 1 G d_mo_onByte_244 rfl rfl ?_
  refine j_bipush G d_mo_onByte_245 cb_12 ?_
  refine j_icne G d_mo_onByte_247 (tgt := 266) rfl ?_ ?_
  · exact b_mo_onByte_266 G σ l1 l2 l4
  · refine j_aload_n 0 G d_mo_onByte_250 rfl rfl ?_
    refine j_iconst G d_mo_onByte_251 ci_2 ?_
    refine j_iload_n 2 G d_mo_onByte_252 rfl rfl ?_
    refine j_bipush G d_mo_onByte_253 cb_127 ?_
    refine j_icne G d_mo_onByte_255 (tgt := 262) rfl ?_ ?_
    · refine j_iconst G d_mo_onByte_262 ci_0 ?_
      exact b_mo_onByte_263 G σ l1 l2 l4 (0 : Int32) (2 : Int32)
    · refine j_iconst G d_mo_onByte_258 ci_1 ?_
      refine j_goto G d_mo_onByte_259 (tgt := 263) rfl ?_
      exact b_mo_onByte_263 G σ l1 l2 l4 (1 : Int32) (2 : Int32)
set_option maxHeartbeats 4000000 in
set_option maxRecDepth 100000 in
theorem b_mo_onByte_241 {X : Cx} (G : Gd X bc_mo_onByte 5 R_mod (some .int) (rmm 3 69)) (σ : MS) (l1 l2 l4 t0 t1 : Int32) : J wdM X (QI wdM X) 5 241 [(0, .ref (eO (xE X) 0)), (1, .int l1), (2, .int l2), (4, .int l4)] [.int t0, .int t1, .ref (eO (xE X) 0)] σ (mo_onByte_241 σ l1 l2 l4 t0 t1) := by
  unfold mo_onByte_241
  refine j_Vv2 G k_mo_flag mw_mo_flag lk_mo_mo_flag rc_mod d_mo_onByte_241 rfl (Nat.le_of_ble_eq_true rfl) (fun _ s1 => ?_)
  exact b_mo_onByte_244 G s1 l1 l2 l4
set_option maxHeartbeats 4000000 in
set_option maxRecDepth 100000 in
theorem b_mo_onByte_221 {X : Cx} (G : Gd X bc_mo_onByte 5 R_mod (some .int) (rmm 3 69)) (σ : MS) (l1 l2 l4 : Int32) : J wdM X (QI wdM X) 5 221 [(0, .ref (eO (xE X) 0)), (1, .int l1), (2, .int l2), (4, .int l4)] [] σ (mo_onByte_221 σ l1 l2 l4) := by
  unfold mo_onByte_221
  refine j_iload_n 1 G d_mo_onByte_221 rfl rfl ?_
  refine j_bipush G d_mo_onByte_222 cb_10 ?_
  refine j_icne G d_mo_onByte_224 (tgt := 244) rfl ?_ ?_
  · exact b_mo_onByte_244 G σ l1 l2 l4
  · refine j_aload_n 0 G d_mo_onByte_227 rfl rfl ?_
    refine j_iconst G d_mo_onByte_228 ci_2 ?_
    refine j_iload_n 2 G d_mo_onByte_229 rfl rfl ?_
    refine j_sipush G d_mo_onByte_230 cs_128 ?_
    refine j_icne G d_mo_onByte_233 (tgt := 240) rfl ?_ ?_
    · refine j_iconst G d_mo_onByte_240 ci_0 ?_
      exact b_mo_onByte_241 G σ l1 l2 l4 (0 : Int32) (2 : Int32)
    · refine j_iconst G d_mo_onByte_236 ci_1 ?_
      refine j_goto G d_mo_onByte_237 (tgt := 241) rfl ?_
      exact b_mo_onByte_241 G σ l1 l2 l4 (1 : Int32) (2 : Int32)
set_option maxHeartbeats 4000000 in
set_option maxRecDepth 100000 in
theorem b_mo_onByte_218 {X : Cx} (G : Gd X bc_mo_onByte 5 R_mod (some .int) (rmm 3 69)) (σ : MS) (l1 l2 l4 t0 t1 : Int32) : J wdM X (QI wdM X) 5 218 [(0, .ref (eO (xE X) 0)), (1, .int l1), (2, .int l2), (4, .int l4)] [.int t0, .int t1, .ref (eO (xE X) 0)] σ (mo_onByte_218 σ l1 l2 l4 t0 t1) := by
  unfold mo_onByte_218
  refine j_Vv2 G k_mo_flag mw_mo_flag lk_mo_mo_flag rc_mod d_mo_onByte_218 rfl (Nat.le_of_ble_eq_true rfl) (fun _ s1 => ?_)
  exact b_mo_onByte_221 G s1 l1 l2 l4
set_option maxHeartbeats 4000000 in
set_option maxRecDepth 100000 in
theorem b_mo_onByte_198 {X : Cx} (G : Gd X bc_mo_onByte 5 R_mod (some .int) (rmm 3 69)) (σ : MS) (l1 l2 l4 : Int32) : J wdM X (QI wdM X) 5 198 [(0, .ref (eO (xE X) 0)), (1, .int l1), (2, .int l2), (4, .int l4)] [] σ (mo_onByte_198 σ l1 l2 l4) := by
  unfold mo_onByte_198
  refine j_aload_n 0 G d_mo_onByte_198 rfl rfl ?_
  refine j_iconst G d_mo_onByte_199 ci_2 ?_
  refine j_iload_n 2 G d_mo_onByte_200 rfl rfl ?_
  refine j_bipush G d_mo_onByte_201 cb_7 ?_
  refine j_ishr G d_mo_onByte_203 ?_
  refine j_iload_n 2 G d_mo_onByte_204 rfl rfl ?_
  refine j_bipush G d_mo_onByte_205 cb_6 ?_
  refine j_ishr G d_mo_onByte_207 ?_
  refine j_iconst G d_mo_onByte_208 ci_1 ?_
  refine j_iand G d_mo_onByte_209 ?_
  refine j_iceq G d_mo_onByte_210 (tgt := 217) rfl ?_ ?_
  · refine j_iconst G d_mo_onByte_217 ci_0 ?_
    exact b_mo_onByte_218 G σ l1 l2 l4 (0 : Int32) (2 : Int32)
  · refine j_iconst G d_mo_onByte_213 ci_1 ?_
    refine j_goto G d_mo_onByte_214 (tgt := 218) rfl ?_
    exact b_mo_onByte_218 G σ l1 l2 l4 (1 : Int32) (2 : Int32)
set_option maxHeartbeats 4000000 in
set_option maxRecDepth 100000 in
theorem b_mo_onByte_186 {X : Cx} (G : Gd X bc_mo_onByte 5 R_mod (some .int) (rmm 3 69)) (σ : MS) (l1 l2 l4 : Int32) : J wdM X (QI wdM X) 5 186 [(0, .ref (eO (xE X) 0)), (1, .int l1), (2, .int l2), (4, .int l4)] [] σ (mo_onByte_186 σ l1 l2 l4) := by
  unfold mo_onByte_186
  refine j_iload_n 1 G d_mo_onByte_186 rfl rfl ?_
  refine j_bipush G d_mo_onByte_187 cb_8 ?_
  refine j_iceq G d_mo_onByte_189 (tgt := 198) rfl ?_ ?_
  · exact b_mo_onByte_198 G σ l1 l2 l4
  · refine j_iload_n 1 G d_mo_onByte_192 rfl rfl ?_
    refine j_bipush G d_mo_onByte_193 cb_9 ?_
    refine j_icne G d_mo_onByte_195 (tgt := 221) rfl ?_ ?_
    · exact b_mo_onByte_221 G σ l1 l2 l4
    · exact b_mo_onByte_198 G σ l1 l2 l4
set_option maxHeartbeats 4000000 in
set_option maxRecDepth 100000 in
theorem b_mo_onByte_180 {X : Cx} (G : Gd X bc_mo_onByte 5 R_mod (some .int) (rmm 3 69)) (σ : MS) (l1 l2 l4 : Int32) : J wdM X (QI wdM X) 5 180 [(0, .ref (eO (xE X) 0)), (1, .int l1), (2, .int l2), (4, .int l4)] [] σ (mo_onByte_180 σ l1 l2 l4) := by
  unfold mo_onByte_180
  refine j_aload_n 0 G d_mo_onByte_180 rfl rfl ?_
  refine j_iconst G d_mo_onByte_181 ci_2 ?_
  refine j_iconst G d_mo_onByte_182 ci_0 ?_
  refine j_Vv2 G k_mo_flag mw_mo_flag lk_mo_mo_flag rc_mod d_mo_onByte_183 rfl (Nat.le_of_ble_eq_true rfl) (fun _ s1 => ?_)
  exact b_mo_onByte_186 G s1 l1 l2 l4
set_option maxHeartbeats 4000000 in
set_option maxRecDepth 100000 in
theorem b_mo_onByte_156 {X : Cx} (G : Gd X bc_mo_onByte 5 R_mod (some .int) (rmm 3 69)) (σ : MS) (l1 l2 l4 : Int32) : J wdM X (QI wdM X) 5 156 [(0, .ref (eO (xE X) 0)), (1, .int l1), (2, .int l2), (4, .int l4)] [] σ (mo_onByte_156 σ l1 l2 l4) := by
  unfold mo_onByte_156
  refine j_aload_n 0 G d_mo_onByte_156 rfl rfl ?_
  refine j_iload 3 G d_mo_onByte_157 rfl ?_
  refine j_iconst G d_mo_onByte_159 ci_0 ?_
  refine j_Vv2 G k_mo_shows mw_mo_shows lk_mo_mo_shows rc_mod d_mo_onByte_160 rfl (Nat.le_of_ble_eq_true rfl) (fun _ s1 => ?_)
  refine j_iload_n 1 G d_mo_onByte_163 rfl rfl ?_
  refine j_iconst G d_mo_onByte_164 ci_3 ?_
  refine j_iceq G d_mo_onByte_165 (tgt := 180) rfl ?_ ?_
  · exact b_mo_onByte_180 G s1 l1 l2 l4
  · refine j_iload_n 1 G d_mo_onByte_168 rfl rfl ?_
    refine j_bipush G d_mo_onByte_169 cb_13 ?_
    refine j_iceq G d_mo_onByte_171 (tgt := 180) rfl ?_ ?_
    · exact b_mo_onByte_180 G s1 l1 l2 l4
    · refine j_iload_n 1 G d_mo_onByte_174 rfl rfl ?_
      refine j_bipush G d_mo_onByte_175 cb_15 ?_
      refine j_icne G d_mo_onByte_177 (tgt := 186) rfl ?_ ?_
      · exact b_mo_onByte_186 G s1 l1 l2 l4
      · exact b_mo_onByte_180 G s1 l1 l2 l4
set_option maxHeartbeats 4000000 in
set_option maxRecDepth 100000 in
theorem b_mo_onByte_147 {X : Cx} (G : Gd X bc_mo_onByte 5 R_mod (some .int) (rmm 3 69)) (σ : MS) (l1 l2 l4 : Int32) : J wdM X (QI wdM X) 5 147 [(0, .ref (eO (xE X) 0)), (1, .int l1), (2, .int l2), (4, .int l4)] [] σ (mo_onByte_147 σ l1 l2 l4) := by
  unfold mo_onByte_147
  refine j_iload_n 1 G d_mo_onByte_147 rfl rfl ?_
  refine j_bipush G d_mo_onByte_148 cb_15 ?_
  refine j_icne G d_mo_onByte_150 (tgt := 156) rfl ?_ ?_
  · exact b_mo_onByte_156 G σ l1 l2 l4
  · refine j_iconst G d_mo_onByte_153 ci_0 ?_
    refine j_istore [1, 2, 3, 0] (L1 := [(0, .ref (eO (xE X) 0)), (1, .int l1), (2, .int l2), (4, .int (0 : Int32))]) G d_mo_onByte_154 (by decide) rfl ?_
    exact b_mo_onByte_156 G σ l1 l2 (0 : Int32)
set_option maxHeartbeats 4000000 in
set_option maxRecDepth 100000 in
theorem b_mo_onByte_132 {X : Cx} (G : Gd X bc_mo_onByte 5 R_mod (some .int) (rmm 3 69)) (σ : MS) (l1 l2 l4 : Int32) : J wdM X (QI wdM X) 5 132 [(0, .ref (eO (xE X) 0)), (1, .int l1), (2, .int l2), (4, .int l4)] [] σ (mo_onByte_132 σ l1 l2 l4) := by
  unfold mo_onByte_132
  refine j_iload_n 1 G d_mo_onByte_132 rfl rfl ?_
  refine j_bipush G d_mo_onByte_133 cb_12 ?_
  refine j_icne G d_mo_onByte_135 (tgt := 147) rfl ?_ ?_
  · exact b_mo_onByte_147 G σ l1 l2 l4
  · refine j_iload_n 2 G d_mo_onByte_138 rfl rfl ?_
    refine j_iconst G d_mo_onByte_139 ci_1 ?_
    refine j_iadd G d_mo_onByte_140 ?_
    refine j_sipush G d_mo_onByte_141 cs_255 ?_
    refine j_iand G d_mo_onByte_144 ?_
    refine j_nm (fun v1 => ?_)
    refine j_istore [1, 2, 3, 0] (L1 := [(0, .ref (eO (xE X) 0)), (1, .int l1), (2, .int l2), (4, .int v1)]) G d_mo_onByte_145 (by decide) rfl ?_
    exact b_mo_onByte_147 G σ l1 l2 v1
set_option maxHeartbeats 4000000 in
set_option maxRecDepth 100000 in
theorem b_mo_onByte_117 {X : Cx} (G : Gd X bc_mo_onByte 5 R_mod (some .int) (rmm 3 69)) (σ : MS) (l1 l2 l4 : Int32) : J wdM X (QI wdM X) 5 117 [(0, .ref (eO (xE X) 0)), (1, .int l1), (2, .int l2), (4, .int l4)] [] σ (mo_onByte_117 σ l1 l2 l4) := by
  unfold mo_onByte_117
  refine j_iload_n 1 G d_mo_onByte_117 rfl rfl ?_
  refine j_bipush G d_mo_onByte_118 cb_10 ?_
  refine j_icne G d_mo_onByte_120 (tgt := 132) rfl ?_ ?_
  · exact b_mo_onByte_132 G σ l1 l2 l4
  · refine j_iload_n 2 G d_mo_onByte_123 rfl rfl ?_
    refine j_iconst G d_mo_onByte_124 ci_1 ?_
    refine j_isub G d_mo_onByte_125 ?_
    refine j_sipush G d_mo_onByte_126 cs_255 ?_
    refine j_iand G d_mo_onByte_129 ?_
    refine j_nm (fun v1 => ?_)
    refine j_istore [1, 2, 3, 0] (L1 := [(0, .ref (eO (xE X) 0)), (1, .int l1), (2, .int l2), (4, .int v1)]) G d_mo_onByte_130 (by decide) rfl ?_
    exact b_mo_onByte_132 G σ l1 l2 v1
set_option maxHeartbeats 4000000 in
set_option maxRecDepth 100000 in
theorem b_mo_onByte_100 {X : Cx} (G : Gd X bc_mo_onByte 5 R_mod (some .int) (rmm 3 69)) (σ : MS) (l1 l2 l3 l4 : Int32) : J wdM X (QI wdM X) 5 100 [(0, .ref (eO (xE X) 0)), (1, .int l1), (2, .int l2), (3, .int l3), (4, .int l4)] [] σ (mo_onByte_100 σ l1 l2 l3 l4) := by
  unfold mo_onByte_100
  refine j_iload_n 1 G d_mo_onByte_100 rfl rfl ?_
  refine j_bipush G d_mo_onByte_101 cb_9 ?_
  refine j_icne G d_mo_onByte_103 (tgt := 117) rfl ?_ ?_
  · refine j_sub [0, 1, 2, 4] (L1 := [(0, .ref (eO (xE X) 0)), (1, .int l1), (2, .int l2), (4, .int l4)]) rfl ?_
    exact b_mo_onByte_117 G σ l1 l2 l4
  · refine j_iload_n 2 G d_mo_onByte_106 rfl rfl ?_
    refine j_iconst G d_mo_onByte_107 ci_1 ?_
    refine j_ishl G d_mo_onByte_108 ?_
    refine j_sipush G d_mo_onByte_109 cs_255 ?_
    refine j_iand G d_mo_onByte_112 ?_
    refine j_iload_n 3 G d_mo_onByte_113 rfl rfl ?_
    refine j_ior G d_mo_onByte_114 ?_
    refine j_nm (fun v1 => ?_)
    refine j_istore [1, 2, 3, 0] (L1 := [(0, .ref (eO (xE X) 0)), (1, .int l1), (2, .int l2), (4, .int v1)]) G d_mo_onByte_115 (by decide) rfl ?_
    exact b_mo_onByte_117 G σ l1 l2 v1
set_option maxHeartbeats 4000000 in
set_option maxRecDepth 100000 in
theorem b_mo_onByte_85 {X : Cx} (G : Gd X bc_mo_onByte 5 R_mod (some .int) (rmm 3 69)) (σ : MS) (l1 l2 l3 l4 : Int32) : J wdM X (QI wdM X) 5 85 [(0, .ref (eO (xE X) 0)), (1, .int l1), (2, .int l2), (3, .int l3), (4, .int l4)] [] σ (mo_onByte_85 σ l1 l2 l3 l4) := by
  unfold mo_onByte_85
  refine j_iload_n 1 G d_mo_onByte_85 rfl rfl ?_
  refine j_bipush G d_mo_onByte_86 cb_8 ?_
  refine j_icne G d_mo_onByte_88 (tgt := 100) rfl ?_ ?_
  · exact b_mo_onByte_100 G σ l1 l2 l3 l4
  · refine j_iload_n 2 G d_mo_onByte_91 rfl rfl ?_
    refine j_iconst G d_mo_onByte_92 ci_1 ?_
    refine j_ishl G d_mo_onByte_93 ?_
    refine j_sipush G d_mo_onByte_94 cs_255 ?_
    refine j_iand G d_mo_onByte_97 ?_
    refine j_nm (fun v1 => ?_)
    refine j_istore [1, 2, 3, 4, 0] (L1 := [(0, .ref (eO (xE X) 0)), (1, .int l1), (2, .int l2), (3, .int l3), (4, .int v1)]) G d_mo_onByte_98 (by decide) rfl ?_
    exact b_mo_onByte_100 G σ l1 l2 l3 v1
set_option maxHeartbeats 4000000 in
set_option maxRecDepth 100000 in
theorem b_mo_onByte_68 {X : Cx} (G : Gd X bc_mo_onByte 5 R_mod (some .int) (rmm 3 69)) (σ : MS) (l1 l2 l3 l4 : Int32) : J wdM X (QI wdM X) 5 68 [(0, .ref (eO (xE X) 0)), (1, .int l1), (2, .int l2), (3, .int l3), (4, .int l4)] [] σ (mo_onByte_68 σ l1 l2 l3 l4) := by
  unfold mo_onByte_68
  refine j_iload_n 1 G d_mo_onByte_68 rfl rfl ?_
  refine j_bipush G d_mo_onByte_69 cb_7 ?_
  refine j_icne G d_mo_onByte_71 (tgt := 85) rfl ?_ ?_
  · exact b_mo_onByte_85 G σ l1 l2 l3 l4
  · refine j_iload_n 2 G d_mo_onByte_74 rfl rfl ?_
    refine j_iconst G d_mo_onByte_75 ci_1 ?_
    refine j_ishr G d_mo_onByte_76 ?_
    refine j_iload_n 2 G d_mo_onByte_77 rfl rfl ?_
    refine j_sipush G d_mo_onByte_78 cs_128 ?_
    refine j_iand G d_mo_onByte_81 ?_
    refine j_ior G d_mo_onByte_82 ?_
    refine j_nm (fun v1 => ?_)
    refine j_istore [1, 2, 3, 4, 0] (L1 := [(0, .ref (eO (xE X) 0)), (1, .int l1), (2, .int l2), (3, .int l3), (4, .int v1)]) G d_mo_onByte_83 (by decide) rfl ?_
    exact b_mo_onByte_85 G σ l1 l2 l3 v1
set_option maxHeartbeats 4000000 in
set_option maxRecDepth 100000 in
theorem b_mo_onByte_52 {X : Cx} (G : Gd X bc_mo_onByte 5 R_mod (some .int) (rmm 3 69)) (σ : MS) (l1 l2 l3 l4 : Int32) : J wdM X (QI wdM X) 5 52 [(0, .ref (eO (xE X) 0)), (1, .int l1), (2, .int l2), (3, .int l3), (4, .int l4)] [] σ (mo_onByte_52 σ l1 l2 l3 l4) := by
  unfold mo_onByte_52
  refine j_iload_n 1 G d_mo_onByte_52 rfl rfl ?_
  refine j_bipush G d_mo_onByte_53 cb_6 ?_
  refine j_icne G d_mo_onByte_55 (tgt := 68) rfl ?_ ?_
  · exact b_mo_onByte_68 G σ l1 l2 l3 l4
  · refine j_iload_n 2 G d_mo_onByte_58 rfl rfl ?_
    refine j_iconst G d_mo_onByte_59 ci_1 ?_
    refine j_ishr G d_mo_onByte_60 ?_
    refine j_iload_n 3 G d_mo_onByte_61 rfl rfl ?_
    refine j_bipush G d_mo_onByte_62 cb_7 ?_
    refine j_ishl G d_mo_onByte_64 ?_
    refine j_ior G d_mo_onByte_65 ?_
    refine j_nm (fun v1 => ?_)
    refine j_istore [1, 2, 3, 4, 0] (L1 := [(0, .ref (eO (xE X) 0)), (1, .int l1), (2, .int l2), (3, .int l3), (4, .int v1)]) G d_mo_onByte_66 (by decide) rfl ?_
    exact b_mo_onByte_68 G σ l1 l2 l3 v1
set_option maxHeartbeats 4000000 in
set_option maxRecDepth 100000 in
theorem b_mo_onByte_42 {X : Cx} (G : Gd X bc_mo_onByte 5 R_mod (some .int) (rmm 3 69)) (σ : MS) (l1 l2 l3 l4 : Int32) : J wdM X (QI wdM X) 5 42 [(0, .ref (eO (xE X) 0)), (1, .int l1), (2, .int l2), (3, .int l3), (4, .int l4)] [] σ (mo_onByte_42 σ l1 l2 l3 l4) := by
  unfold mo_onByte_42
  refine j_iload_n 1 G d_mo_onByte_42 rfl rfl ?_
  refine j_iconst G d_mo_onByte_43 ci_4 ?_
  refine j_icne G d_mo_onByte_44 (tgt := 52) rfl ?_ ?_
  · exact b_mo_onByte_52 G σ l1 l2 l3 l4
  · refine j_iload_n 2 G d_mo_onByte_47 rfl rfl ?_
    refine j_iconst G d_mo_onByte_48 ci_1 ?_
    refine j_ishr G d_mo_onByte_49 ?_
    refine j_nm (fun v1 => ?_)
    refine j_istore [1, 2, 3, 4, 0] (L1 := [(0, .ref (eO (xE X) 0)), (1, .int l1), (2, .int l2), (3, .int l3), (4, .int v1)]) G d_mo_onByte_50 (by decide) rfl ?_
    exact b_mo_onByte_52 G σ l1 l2 l3 v1
set_option maxHeartbeats 4000000 in
set_option maxRecDepth 100000 in
theorem b_mo_onByte_13 {X : Cx} (G : Gd X bc_mo_onByte 5 R_mod (some .int) (rmm 3 69)) (σ : MS) (l1 l2 t0 : Int32) : J wdM X (QI wdM X) 5 13 [(0, .ref (eO (xE X) 0)), (1, .int l1), (2, .int l2)] [.int t0] σ (mo_onByte_13 σ l1 l2 t0) := by
  unfold mo_onByte_13
  refine j_istore_n [1, 2, 3, 0] (L1 := [(0, .ref (eO (xE X) 0)), (1, .int l1), (2, .int l2), (3, .int t0)]) G d_mo_onByte_13 rfl (by decide) rfl ?_
  refine j_iload_n 2 G d_mo_onByte_14 rfl rfl ?_
  refine j_istore [1, 2, 3, 4, 0] (L1 := [(0, .ref (eO (xE X) 0)), (1, .int l1), (2, .int l2), (3, .int t0), (4, .int l2)]) G d_mo_onByte_15 (by decide) rfl ?_
  refine j_iload_n 1 G d_mo_onByte_17 rfl rfl ?_
  refine j_ifne G d_mo_onByte_18 (tgt := 30) rfl ?_ ?_
  · refine j_iload_n 1 G d_mo_onByte_30 rfl rfl ?_
    refine j_iconst G d_mo_onByte_31 ci_3 ?_
    refine j_icne G d_mo_onByte_32 (tgt := 42) rfl ?_ ?_
    · exact b_mo_onByte_42 G σ l1 l2 t0 l2
    · refine j_sipush G d_mo_onByte_35 cs_255 ?_
      refine j_iload_n 2 G d_mo_onByte_38 rfl rfl ?_
      refine j_isub G d_mo_onByte_39 ?_
      refine j_nm (fun v1 => ?_)
      refine j_istore [1, 2, 3, 4, 0] (L1 := [(0, .ref (eO (xE X) 0)), (1, .int l1), (2, .int l2), (3, .int t0), (4, .int v1)]) G d_mo_onByte_40 (by decide) rfl ?_
      exact b_mo_onByte_42 G σ l1 l2 t0 v1
  · refine j_aload_n 0 G d_mo_onByte_21 rfl rfl ?_
    refine j_iconst G d_mo_onByte_22 ci_0 ?_
    refine j_iload_n 2 G d_mo_onByte_23 rfl rfl ?_
    refine j_iconst G d_mo_onByte_24 ci_0 ?_
    refine j_iconst G d_mo_onByte_25 ci_0 ?_
    refine j_Vi4 G k_mo_less mw_mo_less lk_mo_mo_less rc_mod d_mo_onByte_26 rfl (Nat.le_of_ble_eq_true rfl) (fun v2 s1 => ?_)
    exact j_iret G d_mo_onByte_29
set_option maxHeartbeats 4000000 in
set_option maxRecDepth 100000 in
theorem b_mo_onByte {X : Cx} (G : Gd X bc_mo_onByte 5 R_mod (some .int) (rmm 3 69)) (σ : MS) (a1 a2 : Int32) : J wdM X (QI wdM X) 5 0 [(0, .ref (eO (xE X) 0)), (1, .int a1), (2, .int a2)] [] σ (mo_onByte σ a1 a2) := by
  unfold mo_onByte
  refine j_aload_n 0 G d_mo_onByte_0 rfl rfl ?_
  refine j_iconst G d_mo_onByte_1 ci_1 ?_
  refine j_Vi1 G k_mo_is mw_mo_is lk_mo_mo_is rc_mod d_mo_onByte_2 rfl (Nat.le_of_ble_eq_true rfl) (fun v1 s1 => ?_)
  refine j_ifeq G d_mo_onByte_5 (tgt := 12) rfl ?_ ?_
  · refine j_iconst G d_mo_onByte_12 ci_0 ?_
    exact b_mo_onByte_13 G s1 a1 a2 (0 : Int32)
  · refine j_iconst G d_mo_onByte_8 ci_1 ?_
    refine j_goto G d_mo_onByte_9 (tgt := 13) rfl ?_
    exact b_mo_onByte_13 G s1 a1 a2 (1 : Int32)
set_option maxHeartbeats 4000000 in
set_option maxRecDepth 100000 in
theorem k_mo_onByte {l : Launch} {E : Ev} {σ : MS} {a1 a2 : Int32} : CtI wdM l E y_mo_onByte bc_mo_onByte 5 (some .int) (rmm 3 69) [.ref (eO E 0), .int a1, .int a2] σ (mo_onByte σ a1 a2) := ct_i (by decide) (Nat.le_of_ble_eq_true rfl) (fun X hE _ G => by subst hE; exact b_mo_onByte G σ a1 a2)
def mo_oneByte_170 (σ : MS) : Option (Int32 × MS) :=
some ((0 : Int32), σ)
def mo_oneByte_114 (σ : MS) (l2 t0 : Int32) : Option (Int32 × MS) :=
bd (mo_address σ t0) fun v1 s1 =>
if (mx_und s1) = 0 then (if l2 = (14 : Int32) then (ns (my_reg s1 (upd (mx_reg s1) 6 v1)) fun s5 =>
some ((0 : Int32), s5)) else (bd (mo_read s1 v1) fun v2 s2 =>
bd (mo_onByte s2 l2 v2) fun v3 s3 =>
if l2 = (13 : Int32) then (mo_oneByte_170 s3) else (bd (mo_write s3 v1 v3) fun _ s4 =>
mo_oneByte_170 s4))) else (some ((0 : Int32), s1))
def mo_oneByte_64 (σ : MS) (l2 l3 l4 t0 : Int32) : Option (Int32 × MS) :=
gd (isB t0) (
ns (my_und σ t0) fun s1 =>
if (mx_und s1) = 0 then (if l4 = 0 then (if l3 = 0 then (mo_oneByte_114 s1 l2 (1 : Int32)) else (mo_oneByte_114 s1 l2 (l3 - (4 : Int32)))) else (gd (okI (l3 - (4 : Int32)) 9) (
nm (mx_reg s1 (l3 - (4 : Int32)).toNatClampNeg) fun v1 =>
bd (mo_onByte s1 l2 v1) fun v2 s2 =>
gd (okI (l3 - (4 : Int32)) 9) (
ns (my_reg s2 (upd (mx_reg s2) (l3 - (4 : Int32)).toNatClampNeg v2)) fun s3 =>
some ((0 : Int32), s3))))) else (some ((0 : Int32), s1)))
def mo_oneByte_59 (σ : MS) (l2 l3 l4 : Int32) : Option (Int32 × MS) :=
mo_oneByte_64 σ l2 l3 l4 (1 : Int32)
def mo_oneByte_63 (σ : MS) (l2 l3 l4 : Int32) : Option (Int32 × MS) :=
mo_oneByte_64 σ l2 l3 l4 (0 : Int32)
def mo_oneByte_24 (σ : MS) (l2 l3 t0 : Int32) : Option (Int32 × MS) :=
if l2 = (1 : Int32) then (mo_oneByte_59 σ l2 l3 t0) else (if l2 = (2 : Int32) then (mo_oneByte_59 σ l2 l3 t0) else (if l2 = (5 : Int32) then (mo_oneByte_59 σ l2 l3 t0) else (if l2 = (11 : Int32) then (mo_oneByte_59 σ l2 l3 t0) else (if l2 = (14 : Int32) then (if t0 = 0 then (mo_oneByte_63 σ l2 l3 t0) else (mo_oneByte_59 σ l2 l3 t0)) else (mo_oneByte_63 σ l2 l3 t0)))))
def mo_oneByte_19 (σ : MS) (l2 l3 : Int32) : Option (Int32 × MS) :=
mo_oneByte_24 σ l2 l3 (1 : Int32)
def mo_oneByte (σ : MS) (a1 : Int32) : Option (Int32 × MS) :=
nm (a1 &&& (15 : Int32)) fun v1 =>
nm (a1 >>> ((4 : Int32) &&& 31)) fun v2 =>
if v2 = (4 : Int32) then (mo_oneByte_19 σ v1 v2) else (if v2 = (5 : Int32) then (mo_oneByte_19 σ v1 v2) else (mo_oneByte_24 σ v1 v2 (0 : Int32)))
set_option maxHeartbeats 4000000 in
set_option maxRecDepth 100000 in
theorem b_mo_oneByte_170 {X : Cx} (G : Gd X bc_mo_oneByte 7 R_mod none (rmm 5 110)) (σ : MS) : J wdM X (QV wdM X) 7 170 [(0, .ref (eO (xE X) 0))] [] σ (mo_oneByte_170 σ ) := by
  unfold mo_oneByte_170
  exact j_vret G d_mo_oneByte_170
set_option maxHeartbeats 4000000 in
set_option maxRecDepth 100000 in
theorem b_mo_oneByte_114 {X : Cx} (G : Gd X bc_mo_oneByte 7 R_mod none (rmm 5 110)) (σ : MS) (l2 t0 : Int32) : J wdM X (QV wdM X) 7 114 [(0, .ref (eO (xE X) 0)), (2, .int l2)] [.int t0, .ref (eO (xE X) 0)] σ (mo_oneByte_114 σ l2 t0) := by
  unfold mo_oneByte_114
  refine j_Vi1 G k_mo_address mw_mo_address lk_mo_mo_address rc_mod d_mo_oneByte_114 rfl (Nat.le_of_ble_eq_true rfl) (fun v1 s1 => ?_)
  refine j_istore [1, 2, 0] (L1 := [(0, .ref (eO (xE X) 0)), (2, .int l2), (5, .int v1)]) G d_mo_oneByte_117 (by decide) rfl ?_
  refine j_aload_n 0 G d_mo_oneByte_119 rfl rfl ?_
  refine g_mo_undefined G d_mo_oneByte_120 ?_
  refine j_ifeq G d_mo_oneByte_123 (tgt := 127) rfl ?_ ?_
  · refine j_iload_n 1 G d_mo_oneByte_127 rfl rfl ?_
    refine j_bipush G d_mo_oneByte_128 cb_14 ?_
    refine j_icne G d_mo_oneByte_130 (tgt := 143) rfl ?_ ?_
    · refine j_aload_n 0 G d_mo_oneByte_143 rfl rfl ?_
      refine j_iload_n 1 G d_mo_oneByte_144 rfl rfl ?_
      refine j_aload_n 0 G d_mo_oneByte_145 rfl rfl ?_
      refine j_iload 2 G d_mo_oneByte_146 rfl ?_
      refine j_Vi1 G k_mo_read mw_mo_read lk_mo_mo_read rc_mod d_mo_oneByte_148 rfl (Nat.le_of_ble_eq_true rfl) (fun v2 s2 => ?_)
      refine j_Vi2 G k_mo_onByte mw_mo_onByte lk_mo_mo_onByte rc_mod d_mo_oneByte_151 rfl (Nat.le_of_ble_eq_true rfl) (fun v3 s3 => ?_)
      refine j_istore [1, 2, 3, 0] (L1 := [(0, .ref (eO (xE X) 0)), (2, .int l2), (5, .int v1), (6, .int v3)]) G d_mo_oneByte_154 (by decide) rfl ?_
      refine j_iload_n 1 G d_mo_oneByte_156 rfl rfl ?_
      refine j_bipush G d_mo_oneByte_157 cb_13 ?_
      refine j_iceq G d_mo_oneByte_159 (tgt := 170) rfl ?_ ?_
      · refine j_sub [0] (L1 := [(0, .ref (eO (xE X) 0))]) rfl ?_
        exact b_mo_oneByte_170 G s3
      · refine j_aload_n 0 G d_mo_oneByte_162 rfl rfl ?_
        refine j_iload 2 G d_mo_oneByte_163 rfl ?_
        refine j_iload 3 G d_mo_oneByte_165 rfl ?_
        refine j_Vv2 G k_mo_write mw_mo_write lk_mo_mo_write rc_mod d_mo_oneByte_167 rfl (Nat.le_of_ble_eq_true rfl) (fun _ s4 => ?_)
        refine j_sub [0] (L1 := [(0, .ref (eO (xE X) 0))]) rfl ?_
        exact b_mo_oneByte_170 G s4
    · refine j_aload_n 0 G d_mo_oneByte_133 rfl rfl ?_
      refine g_mo_r G d_mo_oneByte_134 ?_
      refine j_bipush G d_mo_oneByte_137 cb_6 ?_
      refine j_iload 2 G d_mo_oneByte_139 rfl ?_
      refine asc_Mreg (j := 6) rfl rfl G d_mo_oneByte_141 ?_
      refine j_ns (fun s5 => ?_)
      exact j_vret G d_mo_oneByte_142
  · exact j_vret G d_mo_oneByte_126
set_option maxHeartbeats 4000000 in
set_option maxRecDepth 100000 in
theorem b_mo_oneByte_64 {X : Cx} (G : Gd X bc_mo_oneByte 7 R_mod none (rmm 5 110)) (σ : MS) (l2 l3 l4 t0 : Int32) : J wdM X (QV wdM X) 7 64 [(0, .ref (eO (xE X) 0)), (2, .int l2), (3, .int l3), (4, .int l4)] [.int t0, .ref (eO (xE X) 0)] σ (mo_oneByte_64 σ l2 l3 l4 t0) := by
  unfold mo_oneByte_64
  refine p_mo_undefined G d_mo_oneByte_64 ?_
  refine j_ns (fun s1 => ?_)
  refine j_aload_n 0 G d_mo_oneByte_67 rfl rfl ?_
  refine g_mo_undefined G d_mo_oneByte_68 ?_
  refine j_ifeq G d_mo_oneByte_71 (tgt := 75) rfl ?_ ?_
  · refine j_iload 3 G d_mo_oneByte_75 rfl ?_
    refine j_ifeq G d_mo_oneByte_77 (tgt := 102) rfl ?_ ?_
    · refine j_aload_n 0 G d_mo_oneByte_102 rfl rfl ?_
      refine j_iload_n 2 G d_mo_oneByte_103 rfl rfl ?_
      refine j_ifne G d_mo_oneByte_104 (tgt := 111) rfl ?_ ?_
      · refine j_iload_n 2 G d_mo_oneByte_111 rfl rfl ?_
        refine j_iconst G d_mo_oneByte_112 ci_4 ?_
        refine j_isub G d_mo_oneByte_113 ?_
        refine j_sub [0, 1] (L1 := [(0, .ref (eO (xE X) 0)), (2, .int l2)]) rfl ?_
        exact b_mo_oneByte_114 G s1 l2 (l3 - (4 : Int32))
      · refine j_iconst G d_mo_oneByte_107 ci_1 ?_
        refine j_goto G d_mo_oneByte_108 (tgt := 114) rfl ?_
        refine j_sub [0, 1] (L1 := [(0, .ref (eO (xE X) 0)), (2, .int l2)]) rfl ?_
        exact b_mo_oneByte_114 G s1 l2 (1 : Int32)
    · refine j_aload_n 0 G d_mo_oneByte_80 rfl rfl ?_
      refine g_mo_r G d_mo_oneByte_81 ?_
      refine j_iload_n 2 G d_mo_oneByte_84 rfl rfl ?_
      refine j_iconst G d_mo_oneByte_85 ci_4 ?_
      refine j_isub G d_mo_oneByte_86 ?_
      refine j_aload_n 0 G d_mo_oneByte_87 rfl rfl ?_
      refine j_iload_n 1 G d_mo_oneByte_88 rfl rfl ?_
      refine j_aload_n 0 G d_mo_oneByte_89 rfl rfl ?_
      refine g_mo_r G d_mo_oneByte_90 ?_
      refine j_iload_n 2 G d_mo_oneByte_93 rfl rfl ?_
      refine j_iconst G d_mo_oneByte_94 ci_4 ?_
      refine j_isub G d_mo_oneByte_95 ?_
      refine al_Mreg G d_mo_oneByte_96 ?_
      refine j_nm (fun v1 => ?_)
      refine j_Vi2 G k_mo_onByte mw_mo_onByte lk_mo_mo_onByte rc_mod d_mo_oneByte_97 rfl (Nat.le_of_ble_eq_true rfl) (fun v2 s2 => ?_)
      refine as_Mreg G d_mo_oneByte_100 ?_
      refine j_ns (fun s3 => ?_)
      exact j_vret G d_mo_oneByte_101
  · exact j_vret G d_mo_oneByte_74
set_option maxHeartbeats 4000000 in
set_option maxRecDepth 100000 in
theorem b_mo_oneByte_59 {X : Cx} (G : Gd X bc_mo_oneByte 7 R_mod none (rmm 5 110)) (σ : MS) (l2 l3 l4 : Int32) : J wdM X (QV wdM X) 7 59 [(0, .ref (eO (xE X) 0)), (2, .int l2), (3, .int l3), (4, .int l4)] [.ref (eO (xE X) 0)] σ (mo_oneByte_59 σ l2 l3 l4) := by
  unfold mo_oneByte_59
  refine j_iconst G d_mo_oneByte_59 ci_1 ?_
  refine j_goto G d_mo_oneByte_60 (tgt := 64) rfl ?_
  exact b_mo_oneByte_64 G σ l2 l3 l4 (1 : Int32)
set_option maxHeartbeats 4000000 in
set_option maxRecDepth 100000 in
theorem b_mo_oneByte_63 {X : Cx} (G : Gd X bc_mo_oneByte 7 R_mod none (rmm 5 110)) (σ : MS) (l2 l3 l4 : Int32) : J wdM X (QV wdM X) 7 63 [(0, .ref (eO (xE X) 0)), (2, .int l2), (3, .int l3), (4, .int l4)] [.ref (eO (xE X) 0)] σ (mo_oneByte_63 σ l2 l3 l4) := by
  unfold mo_oneByte_63
  refine j_iconst G d_mo_oneByte_63 ci_0 ?_
  exact b_mo_oneByte_64 G σ l2 l3 l4 (0 : Int32)
set_option maxHeartbeats 4000000 in
set_option maxRecDepth 100000 in
theorem b_mo_oneByte_24 {X : Cx} (G : Gd X bc_mo_oneByte 7 R_mod none (rmm 5 110)) (σ : MS) (l2 l3 t0 : Int32) : J wdM X (QV wdM X) 7 24 [(0, .ref (eO (xE X) 0)), (2, .int l2), (3, .int l3)] [.int t0] σ (mo_oneByte_24 σ l2 l3 t0) := by
  unfold mo_oneByte_24
  refine j_istore [1, 2, 3, 0] (L1 := [(0, .ref (eO (xE X) 0)), (2, .int l2), (3, .int l3), (4, .int t0)]) G d_mo_oneByte_24 (by decide) rfl ?_
  refine j_aload_n 0 G d_mo_oneByte_26 rfl rfl ?_
  refine j_iload_n 1 G d_mo_oneByte_27 rfl rfl ?_
  refine j_iconst G d_mo_oneByte_28 ci_1 ?_
  refine j_iceq G d_mo_oneByte_29 (tgt := 59) rfl ?_ ?_
  · exact b_mo_oneByte_59 G σ l2 l3 t0
  · refine j_iload_n 1 G d_mo_oneByte_32 rfl rfl ?_
    refine j_iconst G d_mo_oneByte_33 ci_2 ?_
    refine j_iceq G d_mo_oneByte_34 (tgt := 59) rfl ?_ ?_
    · exact b_mo_oneByte_59 G σ l2 l3 t0
    · refine j_iload_n 1 G d_mo_oneByte_37 rfl rfl ?_
      refine j_iconst G d_mo_oneByte_38 ci_5 ?_
      refine j_iceq G d_mo_oneByte_39 (tgt := 59) rfl ?_ ?_
      · exact b_mo_oneByte_59 G σ l2 l3 t0
      · refine j_iload_n 1 G d_mo_oneByte_42 rfl rfl ?_
        refine j_bipush G d_mo_oneByte_43 cb_11 ?_
        refine j_iceq G d_mo_oneByte_45 (tgt := 59) rfl ?_ ?_
        · exact b_mo_oneByte_59 G σ l2 l3 t0
        · refine j_iload_n 1 G d_mo_oneByte_48 rfl rfl ?_
          refine j_bipush G d_mo_oneByte_49 cb_14 ?_
          refine j_icne G d_mo_oneByte_51 (tgt := 63) rfl ?_ ?_
          · exact b_mo_oneByte_63 G σ l2 l3 t0
          · refine j_iload 3 G d_mo_oneByte_54 rfl ?_
            refine j_ifeq G d_mo_oneByte_56 (tgt := 63) rfl ?_ ?_
            · exact b_mo_oneByte_63 G σ l2 l3 t0
            · exact b_mo_oneByte_59 G σ l2 l3 t0
set_option maxHeartbeats 4000000 in
set_option maxRecDepth 100000 in
theorem b_mo_oneByte_19 {X : Cx} (G : Gd X bc_mo_oneByte 7 R_mod none (rmm 5 110)) (σ : MS) (l2 l3 : Int32) : J wdM X (QV wdM X) 7 19 [(0, .ref (eO (xE X) 0)), (2, .int l2), (3, .int l3)] [] σ (mo_oneByte_19 σ l2 l3) := by
  unfold mo_oneByte_19
  refine j_iconst G d_mo_oneByte_19 ci_1 ?_
  refine j_goto G d_mo_oneByte_20 (tgt := 24) rfl ?_
  exact b_mo_oneByte_24 G σ l2 l3 (1 : Int32)
set_option maxHeartbeats 4000000 in
set_option maxRecDepth 100000 in
theorem b_mo_oneByte {X : Cx} (G : Gd X bc_mo_oneByte 7 R_mod none (rmm 5 110)) (σ : MS) (a1 : Int32) : J wdM X (QV wdM X) 7 0 [(0, .ref (eO (xE X) 0)), (1, .int a1)] [] σ (mo_oneByte σ a1) := by
  unfold mo_oneByte
  refine j_iload_n 1 G d_mo_oneByte_0 rfl rfl ?_
  refine j_bipush G d_mo_oneByte_1 cb_15 ?_
  refine j_iand G d_mo_oneByte_3 ?_
  refine j_nm (fun v1 => ?_)
  refine j_istore_n [1, 2, 0] (L1 := [(0, .ref (eO (xE X) 0)), (1, .int a1), (2, .int v1)]) G d_mo_oneByte_4 rfl (by decide) rfl ?_
  refine j_iload_n 1 G d_mo_oneByte_5 rfl rfl ?_
  refine j_iconst G d_mo_oneByte_6 ci_4 ?_
  refine j_ishr G d_mo_oneByte_7 ?_
  refine j_nm (fun v2 => ?_)
  refine j_istore_n [1, 3, 0] (L1 := [(0, .ref (eO (xE X) 0)), (2, .int v1), (3, .int v2)]) G d_mo_oneByte_8 rfl (by decide) rfl ?_
  refine j_iload_n 2 G d_mo_oneByte_9 rfl rfl ?_
  refine j_iconst G d_mo_oneByte_10 ci_4 ?_
  refine j_iceq G d_mo_oneByte_11 (tgt := 19) rfl ?_ ?_
  · exact b_mo_oneByte_19 G σ v1 v2
  · refine j_iload_n 2 G d_mo_oneByte_14 rfl rfl ?_
    refine j_iconst G d_mo_oneByte_15 ci_5 ?_
    refine j_icne G d_mo_oneByte_16 (tgt := 23) rfl ?_ ?_
    · refine j_iconst G d_mo_oneByte_23 ci_0 ?_
      exact b_mo_oneByte_24 G σ v1 v2 (0 : Int32)
    · exact b_mo_oneByte_19 G σ v1 v2
set_option maxHeartbeats 4000000 in
set_option maxRecDepth 100000 in
theorem k_mo_oneByte {l : Launch} {E : Ev} {σ : MS} {a1 : Int32} : CtV wdM l E y_mo_oneByte bc_mo_oneByte 7 none (rmm 5 110) [.ref (eO E 0), .int a1] σ (mo_oneByte σ a1) := ct_v (by decide) (Nat.le_of_ble_eq_true rfl) (fun X hE _ G => by subst hE; exact b_mo_oneByte G σ a1)
def mo_accumulate_279 (σ : MS) : Option (Int32 × MS) :=
some ((0 : Int32), σ)
def mo_accumulate_261 (σ : MS) (l2 l3 l7 : Int32) : Option (Int32 × MS) :=
if l3 = (1 : Int32) then (mo_accumulate_279 σ) else (if l3 = (5 : Int32) then (mo_accumulate_279 σ) else (gd (okI l2 9) (
ns (my_reg σ (upd (mx_reg σ) l2.toNatClampNeg l7)) fun s1 =>
mo_accumulate_279 s1)))
def mo_accumulate_243 (σ : MS) (l2 l3 l6 l7 : Int32) : Option (Int32 × MS) :=
if l3 = (11 : Int32) then (bd (mo_plus σ l7 l6 (0 : Int32) (0 : Int32)) fun v1 s1 =>
mo_accumulate_261 s1 l2 l3 v1) else (mo_accumulate_261 σ l2 l3 l7)
def mo_accumulate_225 (σ : MS) (l2 l3 l6 l7 : Int32) : Option (Int32 × MS) :=
if l3 = (10 : Int32) then (bd (mo_moved σ (l7 ||| l6) (0 : Int32)) fun v1 s1 =>
mo_accumulate_243 s1 l2 l3 l6 v1) else (mo_accumulate_243 σ l2 l3 l6 l7)
def mo_accumulate_206 (σ : MS) (l2 l3 l5 l6 l7 : Int32) : Option (Int32 × MS) :=
if l3 = (9 : Int32) then (bd (mo_plus σ l7 l6 l5 (0 : Int32)) fun v1 s1 =>
mo_accumulate_225 s1 l2 l3 l6 v1) else (mo_accumulate_225 σ l2 l3 l6 l7)
def mo_accumulate_188 (σ : MS) (l2 l3 l5 l6 l7 : Int32) : Option (Int32 × MS) :=
if l3 = (8 : Int32) then (bd (mo_moved σ (l7 ^^^ l6) (0 : Int32)) fun v1 s1 =>
mo_accumulate_206 s1 l2 l3 l5 l6 v1) else (mo_accumulate_206 σ l2 l3 l5 l6 l7)
def mo_accumulate_173 (σ : MS) (l2 l3 l5 l6 l7 : Int32) : Option (Int32 × MS) :=
if l3 = (6 : Int32) then (bd (mo_moved σ l6 (0 : Int32)) fun v1 s1 =>
mo_accumulate_188 s1 l2 l3 l5 l6 v1) else (mo_accumulate_188 σ l2 l3 l5 l6 l7)
def mo_accumulate_161 (σ : MS) (l2 l3 l5 l6 l7 : Int32) : Option (Int32 × MS) :=
bd (mo_moved σ (l7 &&& l6) (0 : Int32)) fun v1 s1 =>
mo_accumulate_173 s1 l2 l3 l5 l6 v1
def mo_accumulate_151 (σ : MS) (l2 l3 l5 l6 l7 : Int32) : Option (Int32 × MS) :=
if l3 = (4 : Int32) then (mo_accumulate_161 σ l2 l3 l5 l6 l7) else (if l3 = (5 : Int32) then (mo_accumulate_161 σ l2 l3 l5 l6 l7) else (mo_accumulate_173 σ l2 l3 l5 l6 l7))
def mo_accumulate_133 (σ : MS) (l2 l3 l5 l6 l7 : Int32) : Option (Int32 × MS) :=
if l3 = (2 : Int32) then (bd (mo_less σ l7 l6 l5 (0 : Int32)) fun v1 s1 =>
mo_accumulate_151 s1 l2 l3 l5 l6 v1) else (mo_accumulate_151 σ l2 l3 l5 l6 l7)
def mo_accumulate_121 (σ : MS) (l2 l3 l5 l6 l7 : Int32) : Option (Int32 × MS) :=
bd (mo_less σ l7 l6 (0 : Int32) (0 : Int32)) fun v1 s1 =>
mo_accumulate_133 s1 l2 l3 l5 l6 v1
def mo_accumulate_87 (σ : MS) : Option (Int32 × MS) :=
some ((0 : Int32), σ)
def mo_accumulate_44 (σ : MS) (l2 l4 t0 : Int32) : Option (Int32 × MS) :=
gd (isB t0) (
ns (my_und σ t0) fun s1 =>
if (mx_und s1) = 0 then (bd (mo_address s1 l4) fun v1 s2 =>
if (mx_und s2) = 0 then (gd (okI l2 9) (
nm (mx_reg s2 l2.toNatClampNeg) fun v2 =>
bd (mo_moved s2 v2 (0 : Int32)) fun v3 s3 =>
bd (mo_write s3 v1 v3) fun _ s4 =>
mo_accumulate_87 s4)) else (mo_accumulate_87 s2)) else (some ((0 : Int32), s1)))
def mo_accumulate_25 (σ : MS) (l2 l3 l4 t0 : Int32) : Option (Int32 × MS) :=
if l3 = (7 : Int32) then (if l4 = 0 then (mo_accumulate_44 σ l2 l4 (1 : Int32)) else (mo_accumulate_44 σ l2 l4 (0 : Int32))) else (bd (mo_operand σ l4) fun v1 s1 =>
if (mx_und s1) = 0 then (gd (okI l2 9) (
nm (mx_reg s1 l2.toNatClampNeg) fun v2 =>
if l3 = 0 then (mo_accumulate_121 s1 l2 l3 t0 v1 v2) else (if l3 = (1 : Int32) then (mo_accumulate_121 s1 l2 l3 t0 v1 v2) else (mo_accumulate_133 s1 l2 l3 t0 v1 v2)))) else (some ((0 : Int32), s1)))
def mo_accumulate (σ : MS) (a1 a2 : Int32) : Option (Int32 × MS) :=
nm (a1 &&& (15 : Int32)) fun v1 =>
nm ((a1 >>> ((4 : Int32) &&& 31)) &&& (3 : Int32)) fun v2 =>
bd (mo_is σ (1 : Int32)) fun v3 s1 =>
if v3 = 0 then (mo_accumulate_25 s1 a2 v1 v2 (0 : Int32)) else (mo_accumulate_25 s1 a2 v1 v2 (1 : Int32))
set_option maxHeartbeats 4000000 in
set_option maxRecDepth 100000 in
theorem b_mo_accumulate_279 {X : Cx} (G : Gd X bc_mo_accumulate 8 R_mod none (rmm 6 131)) (σ : MS) : J wdM X (QV wdM X) 8 279 [(0, .ref (eO (xE X) 0))] [] σ (mo_accumulate_279 σ ) := by
  unfold mo_accumulate_279
  exact j_vret G d_mo_accumulate_279
set_option maxHeartbeats 4000000 in
set_option maxRecDepth 100000 in
theorem b_mo_accumulate_261 {X : Cx} (G : Gd X bc_mo_accumulate 8 R_mod none (rmm 6 131)) (σ : MS) (l2 l3 l7 : Int32) : J wdM X (QV wdM X) 8 261 [(0, .ref (eO (xE X) 0)), (2, .int l2), (3, .int l3), (7, .int l7)] [] σ (mo_accumulate_261 σ l2 l3 l7) := by
  unfold mo_accumulate_261
  refine j_iload_n 2 G d_mo_accumulate_261 rfl rfl ?_
  refine j_iconst G d_mo_accumulate_262 ci_1 ?_
  refine j_iceq G d_mo_accumulate_263 (tgt := 279) rfl ?_ ?_
  · refine j_sub [0] (L1 := [(0, .ref (eO (xE X) 0))]) rfl ?_
    exact b_mo_accumulate_279 G σ
  · refine j_iload_n 2 G d_mo_accumulate_266 rfl rfl ?_
    refine j_iconst G d_mo_accumulate_267 ci_5 ?_
    refine j_iceq G d_mo_accumulate_268 (tgt := 279) rfl ?_ ?_
    · refine j_sub [0] (L1 := [(0, .ref (eO (xE X) 0))]) rfl ?_
      exact b_mo_accumulate_279 G σ
    · refine j_aload_n 0 G d_mo_accumulate_271 rfl rfl ?_
      refine g_mo_r G d_mo_accumulate_272 ?_
      refine j_iload_n 1 G d_mo_accumulate_275 rfl rfl ?_
      refine j_iload 3 G d_mo_accumulate_276 rfl ?_
      refine as_Mreg G d_mo_accumulate_278 ?_
      refine j_ns (fun s1 => ?_)
      refine j_sub [0] (L1 := [(0, .ref (eO (xE X) 0))]) rfl ?_
      exact b_mo_accumulate_279 G s1
set_option maxHeartbeats 4000000 in
set_option maxRecDepth 100000 in
theorem b_mo_accumulate_243 {X : Cx} (G : Gd X bc_mo_accumulate 8 R_mod none (rmm 6 131)) (σ : MS) (l2 l3 l6 l7 : Int32) : J wdM X (QV wdM X) 8 243 [(0, .ref (eO (xE X) 0)), (2, .int l2), (3, .int l3), (6, .int l6), (7, .int l7)] [] σ (mo_accumulate_243 σ l2 l3 l6 l7) := by
  unfold mo_accumulate_243
  refine j_iload_n 2 G d_mo_accumulate_243 rfl rfl ?_
  refine j_bipush G d_mo_accumulate_244 cb_11 ?_
  refine j_icne G d_mo_accumulate_246 (tgt := 261) rfl ?_ ?_
  · refine j_sub [0, 1, 2, 4] (L1 := [(0, .ref (eO (xE X) 0)), (2, .int l2), (3, .int l3), (7, .int l7)]) rfl ?_
    exact b_mo_accumulate_261 G σ l2 l3 l7
  · refine j_aload_n 0 G d_mo_accumulate_249 rfl rfl ?_
    refine j_iload 4 G d_mo_accumulate_250 rfl ?_
    refine j_iload 3 G d_mo_accumulate_252 rfl ?_
    refine j_iconst G d_mo_accumulate_254 ci_0 ?_
    refine j_iconst G d_mo_accumulate_255 ci_0 ?_
    refine j_Vi4 G k_mo_plus mw_mo_plus lk_mo_mo_plus rc_mod d_mo_accumulate_256 rfl (Nat.le_of_ble_eq_true rfl) (fun v1 s1 => ?_)
    refine j_istore [1, 2, 3, 0] (L1 := [(0, .ref (eO (xE X) 0)), (2, .int l2), (3, .int l3), (7, .int v1)]) G d_mo_accumulate_259 (by decide) rfl ?_
    exact b_mo_accumulate_261 G s1 l2 l3 v1
set_option maxHeartbeats 4000000 in
set_option maxRecDepth 100000 in
theorem b_mo_accumulate_225 {X : Cx} (G : Gd X bc_mo_accumulate 8 R_mod none (rmm 6 131)) (σ : MS) (l2 l3 l6 l7 : Int32) : J wdM X (QV wdM X) 8 225 [(0, .ref (eO (xE X) 0)), (2, .int l2), (3, .int l3), (6, .int l6), (7, .int l7)] [] σ (mo_accumulate_225 σ l2 l3 l6 l7) := by
  unfold mo_accumulate_225
  refine j_iload_n 2 G d_mo_accumulate_225 rfl rfl ?_
  refine j_bipush G d_mo_accumulate_226 cb_10 ?_
  refine j_icne G d_mo_accumulate_228 (tgt := 243) rfl ?_ ?_
  · exact b_mo_accumulate_243 G σ l2 l3 l6 l7
  · refine j_aload_n 0 G d_mo_accumulate_231 rfl rfl ?_
    refine j_iload 4 G d_mo_accumulate_232 rfl ?_
    refine j_iload 3 G d_mo_accumulate_234 rfl ?_
    refine j_ior G d_mo_accumulate_236 ?_
    refine j_iconst G d_mo_accumulate_237 ci_0 ?_
    refine j_Vi2 G k_mo_moved mw_mo_moved lk_mo_mo_moved rc_mod d_mo_accumulate_238 rfl (Nat.le_of_ble_eq_true rfl) (fun v1 s1 => ?_)
    refine j_istore [1, 2, 3, 4, 0] (L1 := [(0, .ref (eO (xE X) 0)), (2, .int l2), (3, .int l3), (6, .int l6), (7, .int v1)]) G d_mo_accumulate_241 (by decide) rfl ?_
    exact b_mo_accumulate_243 G s1 l2 l3 l6 v1
set_option maxHeartbeats 4000000 in
set_option maxRecDepth 100000 in
theorem b_mo_accumulate_206 {X : Cx} (G : Gd X bc_mo_accumulate 8 R_mod none (rmm 6 131)) (σ : MS) (l2 l3 l5 l6 l7 : Int32) : J wdM X (QV wdM X) 8 206 [(0, .ref (eO (xE X) 0)), (2, .int l2), (3, .int l3), (5, .int l5), (6, .int l6), (7, .int l7)] [] σ (mo_accumulate_206 σ l2 l3 l5 l6 l7) := by
  unfold mo_accumulate_206
  refine j_iload_n 2 G d_mo_accumulate_206 rfl rfl ?_
  refine j_bipush G d_mo_accumulate_207 cb_9 ?_
  refine j_icne G d_mo_accumulate_209 (tgt := 225) rfl ?_ ?_
  · refine j_sub [0, 1, 2, 4, 5] (L1 := [(0, .ref (eO (xE X) 0)), (2, .int l2), (3, .int l3), (6, .int l6), (7, .int l7)]) rfl ?_
    exact b_mo_accumulate_225 G σ l2 l3 l6 l7
  · refine j_aload_n 0 G d_mo_accumulate_212 rfl rfl ?_
    refine j_iload 5 G d_mo_accumulate_213 rfl ?_
    refine j_iload 4 G d_mo_accumulate_215 rfl ?_
    refine j_iload 3 G d_mo_accumulate_217 rfl ?_
    refine j_iconst G d_mo_accumulate_219 ci_0 ?_
    refine j_Vi4 G k_mo_plus mw_mo_plus lk_mo_mo_plus rc_mod d_mo_accumulate_220 rfl (Nat.le_of_ble_eq_true rfl) (fun v1 s1 => ?_)
    refine j_istore [1, 2, 3, 5, 0] (L1 := [(0, .ref (eO (xE X) 0)), (2, .int l2), (3, .int l3), (6, .int l6), (7, .int v1)]) G d_mo_accumulate_223 (by decide) rfl ?_
    exact b_mo_accumulate_225 G s1 l2 l3 l6 v1
set_option maxHeartbeats 4000000 in
set_option maxRecDepth 100000 in
theorem b_mo_accumulate_188 {X : Cx} (G : Gd X bc_mo_accumulate 8 R_mod none (rmm 6 131)) (σ : MS) (l2 l3 l5 l6 l7 : Int32) : J wdM X (QV wdM X) 8 188 [(0, .ref (eO (xE X) 0)), (2, .int l2), (3, .int l3), (5, .int l5), (6, .int l6), (7, .int l7)] [] σ (mo_accumulate_188 σ l2 l3 l5 l6 l7) := by
  unfold mo_accumulate_188
  refine j_iload_n 2 G d_mo_accumulate_188 rfl rfl ?_
  refine j_bipush G d_mo_accumulate_189 cb_8 ?_
  refine j_icne G d_mo_accumulate_191 (tgt := 206) rfl ?_ ?_
  · exact b_mo_accumulate_206 G σ l2 l3 l5 l6 l7
  · refine j_aload_n 0 G d_mo_accumulate_194 rfl rfl ?_
    refine j_iload 5 G d_mo_accumulate_195 rfl ?_
    refine j_iload 4 G d_mo_accumulate_197 rfl ?_
    refine j_ixor G d_mo_accumulate_199 ?_
    refine j_iconst G d_mo_accumulate_200 ci_0 ?_
    refine j_Vi2 G k_mo_moved mw_mo_moved lk_mo_mo_moved rc_mod d_mo_accumulate_201 rfl (Nat.le_of_ble_eq_true rfl) (fun v1 s1 => ?_)
    refine j_istore [1, 2, 3, 4, 5, 0] (L1 := [(0, .ref (eO (xE X) 0)), (2, .int l2), (3, .int l3), (5, .int l5), (6, .int l6), (7, .int v1)]) G d_mo_accumulate_204 (by decide) rfl ?_
    exact b_mo_accumulate_206 G s1 l2 l3 l5 l6 v1
set_option maxHeartbeats 4000000 in
set_option maxRecDepth 100000 in
theorem b_mo_accumulate_173 {X : Cx} (G : Gd X bc_mo_accumulate 8 R_mod none (rmm 6 131)) (σ : MS) (l2 l3 l5 l6 l7 : Int32) : J wdM X (QV wdM X) 8 173 [(0, .ref (eO (xE X) 0)), (2, .int l2), (3, .int l3), (5, .int l5), (6, .int l6), (7, .int l7)] [] σ (mo_accumulate_173 σ l2 l3 l5 l6 l7) := by
  unfold mo_accumulate_173
  refine j_iload_n 2 G d_mo_accumulate_173 rfl rfl ?_
  refine j_bipush G d_mo_accumulate_174 cb_6 ?_
  refine j_icne G d_mo_accumulate_176 (tgt := 188) rfl ?_ ?_
  · exact b_mo_accumulate_188 G σ l2 l3 l5 l6 l7
  · refine j_aload_n 0 G d_mo_accumulate_179 rfl rfl ?_
    refine j_iload 4 G d_mo_accumulate_180 rfl ?_
    refine j_iconst G d_mo_accumulate_182 ci_0 ?_
    refine j_Vi2 G k_mo_moved mw_mo_moved lk_mo_mo_moved rc_mod d_mo_accumulate_183 rfl (Nat.le_of_ble_eq_true rfl) (fun v1 s1 => ?_)
    refine j_istore [1, 2, 3, 4, 5, 0] (L1 := [(0, .ref (eO (xE X) 0)), (2, .int l2), (3, .int l3), (5, .int l5), (6, .int l6), (7, .int v1)]) G d_mo_accumulate_186 (by decide) rfl ?_
    exact b_mo_accumulate_188 G s1 l2 l3 l5 l6 v1
set_option maxHeartbeats 4000000 in
set_option maxRecDepth 100000 in
theorem b_mo_accumulate_161 {X : Cx} (G : Gd X bc_mo_accumulate 8 R_mod none (rmm 6 131)) (σ : MS) (l2 l3 l5 l6 l7 : Int32) : J wdM X (QV wdM X) 8 161 [(0, .ref (eO (xE X) 0)), (2, .int l2), (3, .int l3), (5, .int l5), (6, .int l6), (7, .int l7)] [] σ (mo_accumulate_161 σ l2 l3 l5 l6 l7) := by
  unfold mo_accumulate_161
  refine j_aload_n 0 G d_mo_accumulate_161 rfl rfl ?_
  refine j_iload 5 G d_mo_accumulate_162 rfl ?_
  refine j_iload 4 G d_mo_accumulate_164 rfl ?_
  refine j_iand G d_mo_accumulate_166 ?_
  refine j_iconst G d_mo_accumulate_167 ci_0 ?_
  refine j_Vi2 G k_mo_moved mw_mo_moved lk_mo_mo_moved rc_mod d_mo_accumulate_168 rfl (Nat.le_of_ble_eq_true rfl) (fun v1 s1 => ?_)
  refine j_istore [1, 2, 3, 4, 5, 0] (L1 := [(0, .ref (eO (xE X) 0)), (2, .int l2), (3, .int l3), (5, .int l5), (6, .int l6), (7, .int v1)]) G d_mo_accumulate_171 (by decide) rfl ?_
  exact b_mo_accumulate_173 G s1 l2 l3 l5 l6 v1
set_option maxHeartbeats 4000000 in
set_option maxRecDepth 100000 in
theorem b_mo_accumulate_151 {X : Cx} (G : Gd X bc_mo_accumulate 8 R_mod none (rmm 6 131)) (σ : MS) (l2 l3 l5 l6 l7 : Int32) : J wdM X (QV wdM X) 8 151 [(0, .ref (eO (xE X) 0)), (2, .int l2), (3, .int l3), (5, .int l5), (6, .int l6), (7, .int l7)] [] σ (mo_accumulate_151 σ l2 l3 l5 l6 l7) := by
  unfold mo_accumulate_151
  refine j_iload_n 2 G d_mo_accumulate_151 rfl rfl ?_
  refine j_iconst G d_mo_accumulate_152 ci_4 ?_
  refine j_iceq G d_mo_accumulate_153 (tgt := 161) rfl ?_ ?_
  · exact b_mo_accumulate_161 G σ l2 l3 l5 l6 l7
  · refine j_iload_n 2 G d_mo_accumulate_156 rfl rfl ?_
    refine j_iconst G d_mo_accumulate_157 ci_5 ?_
    refine j_icne G d_mo_accumulate_158 (tgt := 173) rfl ?_ ?_
    · exact b_mo_accumulate_173 G σ l2 l3 l5 l6 l7
    · exact b_mo_accumulate_161 G σ l2 l3 l5 l6 l7
set_option maxHeartbeats 4000000 in
set_option maxRecDepth 100000 in
theorem b_mo_accumulate_133 {X : Cx} (G : Gd X bc_mo_accumulate 8 R_mod none (rmm 6 131)) (σ : MS) (l2 l3 l5 l6 l7 : Int32) : J wdM X (QV wdM X) 8 133 [(0, .ref (eO (xE X) 0)), (2, .int l2), (3, .int l3), (5, .int l5), (6, .int l6), (7, .int l7)] [] σ (mo_accumulate_133 σ l2 l3 l5 l6 l7) := by
  unfold mo_accumulate_133
  refine j_iload_n 2 G d_mo_accumulate_133 rfl rfl ?_
  refine j_iconst G d_mo_accumulate_134 ci_2 ?_
  refine j_icne G d_mo_accumulate_135 (tgt := 151) rfl ?_ ?_
  · exact b_mo_accumulate_151 G σ l2 l3 l5 l6 l7
  · refine j_aload_n 0 G d_mo_accumulate_138 rfl rfl ?_
    refine j_iload 5 G d_mo_accumulate_139 rfl ?_
    refine j_iload 4 G d_mo_accumulate_141 rfl ?_
    refine j_iload 3 G d_mo_accumulate_143 rfl ?_
    refine j_iconst G d_mo_accumulate_145 ci_0 ?_
    refine j_Vi4 G k_mo_less mw_mo_less lk_mo_mo_less rc_mod d_mo_accumulate_146 rfl (Nat.le_of_ble_eq_true rfl) (fun v1 s1 => ?_)
    refine j_istore [1, 2, 3, 4, 5, 0] (L1 := [(0, .ref (eO (xE X) 0)), (2, .int l2), (3, .int l3), (5, .int l5), (6, .int l6), (7, .int v1)]) G d_mo_accumulate_149 (by decide) rfl ?_
    exact b_mo_accumulate_151 G s1 l2 l3 l5 l6 v1
set_option maxHeartbeats 4000000 in
set_option maxRecDepth 100000 in
theorem b_mo_accumulate_121 {X : Cx} (G : Gd X bc_mo_accumulate 8 R_mod none (rmm 6 131)) (σ : MS) (l2 l3 l5 l6 l7 : Int32) : J wdM X (QV wdM X) 8 121 [(0, .ref (eO (xE X) 0)), (2, .int l2), (3, .int l3), (5, .int l5), (6, .int l6), (7, .int l7)] [] σ (mo_accumulate_121 σ l2 l3 l5 l6 l7) := by
  unfold mo_accumulate_121
  refine j_aload_n 0 G d_mo_accumulate_121 rfl rfl ?_
  refine j_iload 5 G d_mo_accumulate_122 rfl ?_
  refine j_iload 4 G d_mo_accumulate_124 rfl ?_
  refine j_iconst G d_mo_accumulate_126 ci_0 ?_
  refine j_iconst G d_mo_accumulate_127 ci_0 ?_
  refine j_Vi4 G k_mo_less mw_mo_less lk_mo_mo_less rc_mod d_mo_accumulate_128 rfl (Nat.le_of_ble_eq_true rfl) (fun v1 s1 => ?_)
  refine j_istore [1, 2, 3, 4, 5, 0] (L1 := [(0, .ref (eO (xE X) 0)), (2, .int l2), (3, .int l3), (5, .int l5), (6, .int l6), (7, .int v1)]) G d_mo_accumulate_131 (by decide) rfl ?_
  exact b_mo_accumulate_133 G s1 l2 l3 l5 l6 v1
set_option maxHeartbeats 4000000 in
set_option maxRecDepth 100000 in
theorem b_mo_accumulate_87 {X : Cx} (G : Gd X bc_mo_accumulate 8 R_mod none (rmm 6 131)) (σ : MS) : J wdM X (QV wdM X) 8 87 [(0, .ref (eO (xE X) 0))] [] σ (mo_accumulate_87 σ ) := by
  unfold mo_accumulate_87
  exact j_vret G d_mo_accumulate_87
set_option maxHeartbeats 4000000 in
set_option maxRecDepth 100000 in
theorem b_mo_accumulate_44 {X : Cx} (G : Gd X bc_mo_accumulate 8 R_mod none (rmm 6 131)) (σ : MS) (l2 l4 t0 : Int32) : J wdM X (QV wdM X) 8 44 [(0, .ref (eO (xE X) 0)), (2, .int l2), (4, .int l4)] [.int t0, .ref (eO (xE X) 0)] σ (mo_accumulate_44 σ l2 l4 t0) := by
  unfold mo_accumulate_44
  refine p_mo_undefined G d_mo_accumulate_44 ?_
  refine j_ns (fun s1 => ?_)
  refine j_aload_n 0 G d_mo_accumulate_47 rfl rfl ?_
  refine g_mo_undefined G d_mo_accumulate_48 ?_
  refine j_ifeq G d_mo_accumulate_51 (tgt := 55) rfl ?_ ?_
  · refine j_aload_n 0 G d_mo_accumulate_55 rfl rfl ?_
    refine j_iload 2 G d_mo_accumulate_56 rfl ?_
    refine j_Vi1 G k_mo_address mw_mo_address lk_mo_mo_address rc_mod d_mo_accumulate_58 rfl (Nat.le_of_ble_eq_true rfl) (fun v1 s2 => ?_)
    refine j_istore [1, 2, 0] (L1 := [(0, .ref (eO (xE X) 0)), (2, .int l2), (6, .int v1)]) G d_mo_accumulate_61 (by decide) rfl ?_
    refine j_aload_n 0 G d_mo_accumulate_63 rfl rfl ?_
    refine g_mo_undefined G d_mo_accumulate_64 ?_
    refine j_ifne G d_mo_accumulate_67 (tgt := 87) rfl ?_ ?_
    · refine j_sub [0] (L1 := [(0, .ref (eO (xE X) 0))]) rfl ?_
      exact b_mo_accumulate_87 G s2
    · refine j_aload_n 0 G d_mo_accumulate_70 rfl rfl ?_
      refine j_iload 2 G d_mo_accumulate_71 rfl ?_
      refine j_aload_n 0 G d_mo_accumulate_73 rfl rfl ?_
      refine j_aload_n 0 G d_mo_accumulate_74 rfl rfl ?_
      refine g_mo_r G d_mo_accumulate_75 ?_
      refine j_iload_n 1 G d_mo_accumulate_78 rfl rfl ?_
      refine al_Mreg G d_mo_accumulate_79 ?_
      refine j_nm (fun v2 => ?_)
      refine j_iconst G d_mo_accumulate_80 ci_0 ?_
      refine j_Vi2 G k_mo_moved mw_mo_moved lk_mo_mo_moved rc_mod d_mo_accumulate_81 rfl (Nat.le_of_ble_eq_true rfl) (fun v3 s3 => ?_)
      refine j_Vv2 G k_mo_write mw_mo_write lk_mo_mo_write rc_mod d_mo_accumulate_84 rfl (Nat.le_of_ble_eq_true rfl) (fun _ s4 => ?_)
      refine j_sub [0] (L1 := [(0, .ref (eO (xE X) 0))]) rfl ?_
      exact b_mo_accumulate_87 G s4
  · exact j_vret G d_mo_accumulate_54
set_option maxHeartbeats 4000000 in
set_option maxRecDepth 100000 in
theorem b_mo_accumulate_25 {X : Cx} (G : Gd X bc_mo_accumulate 8 R_mod none (rmm 6 131)) (σ : MS) (l2 l3 l4 t0 : Int32) : J wdM X (QV wdM X) 8 25 [(0, .ref (eO (xE X) 0)), (2, .int l2), (3, .int l3), (4, .int l4)] [.int t0] σ (mo_accumulate_25 σ l2 l3 l4 t0) := by
  unfold mo_accumulate_25
  refine j_istore [1, 2, 3, 4, 0] (L1 := [(0, .ref (eO (xE X) 0)), (2, .int l2), (3, .int l3), (4, .int l4), (5, .int t0)]) G d_mo_accumulate_25 (by decide) rfl ?_
  refine j_iload_n 2 G d_mo_accumulate_27 rfl rfl ?_
  refine j_bipush G d_mo_accumulate_28 cb_7 ?_
  refine j_icne G d_mo_accumulate_30 (tgt := 88) rfl ?_ ?_
  · refine j_aload_n 0 G d_mo_accumulate_88 rfl rfl ?_
    refine j_iload 3 G d_mo_accumulate_89 rfl ?_
    refine j_Vi1 G k_mo_operand mw_mo_operand lk_mo_mo_operand rc_mod d_mo_accumulate_91 rfl (Nat.le_of_ble_eq_true rfl) (fun v1 s1 => ?_)
    refine j_istore [1, 2, 3, 5, 0] (L1 := [(0, .ref (eO (xE X) 0)), (2, .int l2), (3, .int l3), (5, .int t0), (6, .int v1)]) G d_mo_accumulate_94 (by decide) rfl ?_
    refine j_aload_n 0 G d_mo_accumulate_96 rfl rfl ?_
    refine g_mo_undefined G d_mo_accumulate_97 ?_
    refine j_ifeq G d_mo_accumulate_100 (tgt := 104) rfl ?_ ?_
    · refine j_aload_n 0 G d_mo_accumulate_104 rfl rfl ?_
      refine g_mo_r G d_mo_accumulate_105 ?_
      refine j_iload_n 1 G d_mo_accumulate_108 rfl rfl ?_
      refine al_Mreg G d_mo_accumulate_109 ?_
      refine j_nm (fun v2 => ?_)
      refine j_istore [1, 2, 3, 4, 5, 0] (L1 := [(0, .ref (eO (xE X) 0)), (2, .int l2), (3, .int l3), (5, .int t0), (6, .int v1), (7, .int v2)]) G d_mo_accumulate_110 (by decide) rfl ?_
      refine j_iload_n 2 G d_mo_accumulate_112 rfl rfl ?_
      refine j_ifeq G d_mo_accumulate_113 (tgt := 121) rfl ?_ ?_
      · exact b_mo_accumulate_121 G s1 l2 l3 t0 v1 v2
      · refine j_iload_n 2 G d_mo_accumulate_116 rfl rfl ?_
        refine j_iconst G d_mo_accumulate_117 ci_1 ?_
        refine j_icne G d_mo_accumulate_118 (tgt := 133) rfl ?_ ?_
        · exact b_mo_accumulate_133 G s1 l2 l3 t0 v1 v2
        · exact b_mo_accumulate_121 G s1 l2 l3 t0 v1 v2
    · exact j_vret G d_mo_accumulate_103
  · refine j_aload_n 0 G d_mo_accumulate_33 rfl rfl ?_
    refine j_iload 3 G d_mo_accumulate_34 rfl ?_
    refine j_ifne G d_mo_accumulate_36 (tgt := 43) rfl ?_ ?_
    · refine j_iconst G d_mo_accumulate_43 ci_0 ?_
      refine j_sub [0, 1, 3] (L1 := [(0, .ref (eO (xE X) 0)), (2, .int l2), (4, .int l4)]) rfl ?_
      exact b_mo_accumulate_44 G σ l2 l4 (0 : Int32)
    · refine j_iconst G d_mo_accumulate_39 ci_1 ?_
      refine j_goto G d_mo_accumulate_40 (tgt := 44) rfl ?_
      refine j_sub [0, 1, 3] (L1 := [(0, .ref (eO (xE X) 0)), (2, .int l2), (4, .int l4)]) rfl ?_
      exact b_mo_accumulate_44 G σ l2 l4 (1 : Int32)
set_option maxHeartbeats 4000000 in
set_option maxRecDepth 100000 in
theorem b_mo_accumulate {X : Cx} (G : Gd X bc_mo_accumulate 8 R_mod none (rmm 6 131)) (σ : MS) (a1 a2 : Int32) : J wdM X (QV wdM X) 8 0 [(0, .ref (eO (xE X) 0)), (1, .int a1), (2, .int a2)] [] σ (mo_accumulate σ a1 a2) := by
  unfold mo_accumulate
  refine j_iload_n 1 G d_mo_accumulate_0 rfl rfl ?_
  refine j_bipush G d_mo_accumulate_1 cb_15 ?_
  refine j_iand G d_mo_accumulate_3 ?_
  refine j_nm (fun v1 => ?_)
  refine j_istore_n [1, 2, 3, 0] (L1 := [(0, .ref (eO (xE X) 0)), (1, .int a1), (2, .int a2), (3, .int v1)]) G d_mo_accumulate_4 rfl (by decide) rfl ?_
  refine j_iload_n 1 G d_mo_accumulate_5 rfl rfl ?_
  refine j_iconst G d_mo_accumulate_6 ci_4 ?_
  refine j_ishr G d_mo_accumulate_7 ?_
  refine j_iconst G d_mo_accumulate_8 ci_3 ?_
  refine j_iand G d_mo_accumulate_9 ?_
  refine j_nm (fun v2 => ?_)
  refine j_istore [1, 3, 4, 0] (L1 := [(0, .ref (eO (xE X) 0)), (2, .int a2), (3, .int v1), (4, .int v2)]) G d_mo_accumulate_10 (by decide) rfl ?_
  refine j_aload_n 0 G d_mo_accumulate_12 rfl rfl ?_
  refine j_iconst G d_mo_accumulate_13 ci_1 ?_
  refine j_Vi1 G k_mo_is mw_mo_is lk_mo_mo_is rc_mod d_mo_accumulate_14 rfl (Nat.le_of_ble_eq_true rfl) (fun v3 s1 => ?_)
  refine j_ifeq G d_mo_accumulate_17 (tgt := 24) rfl ?_ ?_
  · refine j_iconst G d_mo_accumulate_24 ci_0 ?_
    exact b_mo_accumulate_25 G s1 a2 v1 v2 (0 : Int32)
  · refine j_iconst G d_mo_accumulate_20 ci_1 ?_
    refine j_goto G d_mo_accumulate_21 (tgt := 25) rfl ?_
    exact b_mo_accumulate_25 G s1 a2 v1 v2 (1 : Int32)
set_option maxHeartbeats 4000000 in
set_option maxRecDepth 100000 in
theorem k_mo_accumulate {l : Launch} {E : Ev} {σ : MS} {a1 a2 : Int32} : CtV wdM l E y_mo_accumulate bc_mo_accumulate 8 none (rmm 6 131) [.ref (eO E 0), .int a1, .int a2] σ (mo_accumulate σ a1 a2) := ct_v (by decide) (Nat.le_of_ble_eq_true rfl) (fun X hE _ G => by subst hE; exact b_mo_accumulate G σ a1 a2)
def mo_compare_30 (σ : MS) (l4 t0 : Int32) : Option (Int32 × MS) :=
bd (mo_less σ t0 l4 (0 : Int32) (1 : Int32)) fun v1 s1 =>
some ((0 : Int32), s1)
def mo_compare (σ : MS) (a1 a2 a3 : Int32) : Option (Int32 × MS) :=
bd (mo_wordOperand σ a3) fun v1 s1 =>
if (mx_und s1) = 0 then (if 0 ≤ a2 then (gd (okI a2 9) (
nm (mx_reg s1 a2.toNatClampNeg) fun v2 =>
mo_compare_30 s1 v1 v2)) else (mo_compare_30 s1 v1 a1)) else (some ((0 : Int32), s1))
set_option maxHeartbeats 4000000 in
set_option maxRecDepth 100000 in
theorem b_mo_compare_30 {X : Cx} (G : Gd X bc_mo_compare 5 R_mod none (rmm 6 131)) (σ : MS) (l4 t0 : Int32) : J wdM X (QV wdM X) 5 30 [(0, .ref (eO (xE X) 0)), (4, .int l4)] [.int t0, .ref (eO (xE X) 0)] σ (mo_compare_30 σ l4 t0) := by
  unfold mo_compare_30
  refine j_iload 1 G d_mo_compare_30 rfl ?_
  refine j_iconst G d_mo_compare_32 ci_0 ?_
  refine j_iconst G d_mo_compare_33 ci_1 ?_
  refine j_Vi4 G k_mo_less mw_mo_less lk_mo_mo_less rc_mod d_mo_compare_34 rfl (Nat.le_of_ble_eq_true rfl) (fun v1 s1 => ?_)
  refine j_pop G d_mo_compare_37 rfl ?_
  exact j_vret G d_mo_compare_38
set_option maxHeartbeats 4000000 in
set_option maxRecDepth 100000 in
theorem b_mo_compare {X : Cx} (G : Gd X bc_mo_compare 5 R_mod none (rmm 6 131)) (σ : MS) (a1 a2 a3 : Int32) : J wdM X (QV wdM X) 5 0 [(0, .ref (eO (xE X) 0)), (1, .int a1), (2, .int a2), (3, .int a3)] [] σ (mo_compare σ a1 a2 a3) := by
  unfold mo_compare
  refine j_aload_n 0 G d_mo_compare_0 rfl rfl ?_
  refine j_iload_n 3 G d_mo_compare_1 rfl rfl ?_
  refine j_Vi1 G k_mo_wordOperand mw_mo_wordOperand lk_mo_mo_wordOperand rc_mod d_mo_compare_2 rfl (Nat.le_of_ble_eq_true rfl) (fun v1 s1 => ?_)
  refine j_istore [1, 2, 3, 0] (L1 := [(0, .ref (eO (xE X) 0)), (1, .int a1), (2, .int a2), (4, .int v1)]) G d_mo_compare_5 (by decide) rfl ?_
  refine j_aload_n 0 G d_mo_compare_7 rfl rfl ?_
  refine g_mo_undefined G d_mo_compare_8 ?_
  refine j_ifeq G d_mo_compare_11 (tgt := 15) rfl ?_ ?_
  · refine j_aload_n 0 G d_mo_compare_15 rfl rfl ?_
    refine j_iload_n 2 G d_mo_compare_16 rfl rfl ?_
    refine j_ifge G d_mo_compare_17 (tgt := 24) rfl ?_ ?_
    · refine j_aload_n 0 G d_mo_compare_24 rfl rfl ?_
      refine g_mo_r G d_mo_compare_25 ?_
      refine j_iload_n 2 G d_mo_compare_28 rfl rfl ?_
      refine al_Mreg G d_mo_compare_29 ?_
      refine j_nm (fun v2 => ?_)
      refine j_sub [0, 3] (L1 := [(0, .ref (eO (xE X) 0)), (4, .int v1)]) rfl ?_
      exact b_mo_compare_30 G s1 v1 v2
    · refine j_iload_n 1 G d_mo_compare_20 rfl rfl ?_
      refine j_goto G d_mo_compare_21 (tgt := 30) rfl ?_
      refine j_sub [0, 3] (L1 := [(0, .ref (eO (xE X) 0)), (4, .int v1)]) rfl ?_
      exact b_mo_compare_30 G s1 v1 a1
  · exact j_vret G d_mo_compare_14
set_option maxHeartbeats 4000000 in
set_option maxRecDepth 100000 in
theorem k_mo_compare {l : Launch} {E : Ev} {σ : MS} {a1 a2 a3 : Int32} : CtV wdM l E y_mo_compare bc_mo_compare 5 none (rmm 6 131) [.ref (eO E 0), .int a1, .int a2, .int a3] σ (mo_compare σ a1 a2 a3) := ct_v (by decide) (Nat.le_of_ble_eq_true rfl) (fun X hE _ G => by subst hE; exact b_mo_compare G σ a1 a2 a3)
def mo_loadWord_58 (σ : MS) (t0 : Int32) : Option (Int32 × MS) :=
gd (isB t0) (
ns (my_arm σ t0) fun s1 =>
some ((0 : Int32), s1))
def mo_loadWord_53 (σ : MS) : Option (Int32 × MS) :=
mo_loadWord_58 σ (1 : Int32)
def mo_loadWord_40 (σ : MS) (l1 : Int32) : Option (Int32 × MS) :=
if (mx_arm σ) = 0 then (if l1 = (5 : Int32) then (mo_loadWord_53 σ) else (mo_loadWord_58 σ (0 : Int32))) else (mo_loadWord_53 σ)
def mo_loadWord (σ : MS) (a1 a2 : Int32) : Option (Int32 × MS) :=
bd (mo_wordOperand σ a2) fun v1 s1 =>
if (mx_und s1) = 0 then (bd (mo_moved s1 v1 (1 : Int32)) fun v2 s2 =>
if 0 ≤ a1 then (gd (okI a1 9) (
ns (my_reg s2 (upd (mx_reg s2) a1.toNatClampNeg v1)) fun s3 =>
mo_loadWord_40 s3 a1)) else (bd (mo_setD s2 v1) fun _ s4 =>
mo_loadWord_40 s4 a1)) else (some ((0 : Int32), s1))
set_option maxHeartbeats 4000000 in
set_option maxRecDepth 100000 in
theorem b_mo_loadWord_58 {X : Cx} (G : Gd X bc_mo_loadWord 4 R_mod none (rmm 6 131)) (σ : MS) (t0 : Int32) : J wdM X (QV wdM X) 4 58 [(0, .ref (eO (xE X) 0))] [.int t0, .ref (eO (xE X) 0)] σ (mo_loadWord_58 σ t0) := by
  unfold mo_loadWord_58
  refine p_mo_armed G d_mo_loadWord_58 ?_
  refine j_ns (fun s1 => ?_)
  exact j_vret G d_mo_loadWord_61
set_option maxHeartbeats 4000000 in
set_option maxRecDepth 100000 in
theorem b_mo_loadWord_53 {X : Cx} (G : Gd X bc_mo_loadWord 4 R_mod none (rmm 6 131)) (σ : MS) : J wdM X (QV wdM X) 4 53 [(0, .ref (eO (xE X) 0))] [.ref (eO (xE X) 0)] σ (mo_loadWord_53 σ ) := by
  unfold mo_loadWord_53
  refine j_iconst G d_mo_loadWord_53 ci_1 ?_
  refine j_goto G d_mo_loadWord_54 (tgt := 58) rfl ?_
  exact b_mo_loadWord_58 G σ (1 : Int32)
set_option maxHeartbeats 4000000 in
set_option maxRecDepth 100000 in
theorem b_mo_loadWord_40 {X : Cx} (G : Gd X bc_mo_loadWord 4 R_mod none (rmm 6 131)) (σ : MS) (l1 : Int32) : J wdM X (QV wdM X) 4 40 [(0, .ref (eO (xE X) 0)), (1, .int l1)] [] σ (mo_loadWord_40 σ l1) := by
  unfold mo_loadWord_40
  refine j_aload_n 0 G d_mo_loadWord_40 rfl rfl ?_
  refine j_aload_n 0 G d_mo_loadWord_41 rfl rfl ?_
  refine g_mo_armed G d_mo_loadWord_42 ?_
  refine j_ifne G d_mo_loadWord_45 (tgt := 53) rfl ?_ ?_
  · refine j_sub [0] (L1 := [(0, .ref (eO (xE X) 0))]) rfl ?_
    exact b_mo_loadWord_53 G σ
  · refine j_iload_n 1 G d_mo_loadWord_48 rfl rfl ?_
    refine j_iconst G d_mo_loadWord_49 ci_5 ?_
    refine j_icne G d_mo_loadWord_50 (tgt := 57) rfl ?_ ?_
    · refine j_iconst G d_mo_loadWord_57 ci_0 ?_
      refine j_sub [0] (L1 := [(0, .ref (eO (xE X) 0))]) rfl ?_
      exact b_mo_loadWord_58 G σ (0 : Int32)
    · refine j_sub [0] (L1 := [(0, .ref (eO (xE X) 0))]) rfl ?_
      exact b_mo_loadWord_53 G σ
set_option maxHeartbeats 4000000 in
set_option maxRecDepth 100000 in
theorem b_mo_loadWord {X : Cx} (G : Gd X bc_mo_loadWord 4 R_mod none (rmm 6 131)) (σ : MS) (a1 a2 : Int32) : J wdM X (QV wdM X) 4 0 [(0, .ref (eO (xE X) 0)), (1, .int a1), (2, .int a2)] [] σ (mo_loadWord σ a1 a2) := by
  unfold mo_loadWord
  refine j_aload_n 0 G d_mo_loadWord_0 rfl rfl ?_
  refine j_iload_n 2 G d_mo_loadWord_1 rfl rfl ?_
  refine j_Vi1 G k_mo_wordOperand mw_mo_wordOperand lk_mo_mo_wordOperand rc_mod d_mo_loadWord_2 rfl (Nat.le_of_ble_eq_true rfl) (fun v1 s1 => ?_)
  refine j_istore_n [1, 2, 0] (L1 := [(0, .ref (eO (xE X) 0)), (1, .int a1), (3, .int v1)]) G d_mo_loadWord_5 rfl (by decide) rfl ?_
  refine j_aload_n 0 G d_mo_loadWord_6 rfl rfl ?_
  refine g_mo_undefined G d_mo_loadWord_7 ?_
  refine j_ifeq G d_mo_loadWord_10 (tgt := 14) rfl ?_ ?_
  · refine j_aload_n 0 G d_mo_loadWord_14 rfl rfl ?_
    refine j_iload_n 2 G d_mo_loadWord_15 rfl rfl ?_
    refine j_iconst G d_mo_loadWord_16 ci_1 ?_
    refine j_Vi2 G k_mo_moved mw_mo_moved lk_mo_mo_moved rc_mod d_mo_loadWord_17 rfl (Nat.le_of_ble_eq_true rfl) (fun v2 s2 => ?_)
    refine j_pop G d_mo_loadWord_20 rfl ?_
    refine j_iload_n 1 G d_mo_loadWord_21 rfl rfl ?_
    refine j_ifge G d_mo_loadWord_22 (tgt := 33) rfl ?_ ?_
    · refine j_aload_n 0 G d_mo_loadWord_33 rfl rfl ?_
      refine g_mo_r G d_mo_loadWord_34 ?_
      refine j_iload_n 1 G d_mo_loadWord_37 rfl rfl ?_
      refine j_iload_n 2 G d_mo_loadWord_38 rfl rfl ?_
      refine as_Mreg G d_mo_loadWord_39 ?_
      refine j_ns (fun s3 => ?_)
      refine j_sub [0, 1] (L1 := [(0, .ref (eO (xE X) 0)), (1, .int a1)]) rfl ?_
      exact b_mo_loadWord_40 G s3 a1
    · refine j_aload_n 0 G d_mo_loadWord_25 rfl rfl ?_
      refine j_iload_n 2 G d_mo_loadWord_26 rfl rfl ?_
      refine j_Vv1 G k_mo_setD mw_mo_setD lk_mo_mo_setD rc_mod d_mo_loadWord_27 rfl (Nat.le_of_ble_eq_true rfl) (fun _ s4 => ?_)
      refine j_goto G d_mo_loadWord_30 (tgt := 40) rfl ?_
      refine j_sub [0, 1] (L1 := [(0, .ref (eO (xE X) 0)), (1, .int a1)]) rfl ?_
      exact b_mo_loadWord_40 G s4 a1
  · exact j_vret G d_mo_loadWord_13
set_option maxHeartbeats 4000000 in
set_option maxRecDepth 100000 in
theorem k_mo_loadWord {l : Launch} {E : Ev} {σ : MS} {a1 a2 : Int32} : CtV wdM l E y_mo_loadWord bc_mo_loadWord 4 none (rmm 6 131) [.ref (eO E 0), .int a1, .int a2] σ (mo_loadWord σ a1 a2) := ct_v (by decide) (Nat.le_of_ble_eq_true rfl) (fun X hE _ G => by subst hE; exact b_mo_loadWord G σ a1 a2)
def mo_storeWord_52 (σ : MS) (l3 t0 : Int32) : Option (Int32 × MS) :=
bd (mo_moved σ t0 (1 : Int32)) fun v1 s1 =>
bd (mo_writeWord s1 l3 t0) fun _ s2 =>
some ((0 : Int32), s2)
def mo_storeWord_10 (σ : MS) (l1 l2 t0 : Int32) : Option (Int32 × MS) :=
gd (isB t0) (
ns (my_und σ t0) fun s1 =>
if (mx_und s1) = 0 then (bd (mo_address s1 l2) fun v1 s2 =>
if (mx_und s2) = 0 then (if 0 ≤ l1 then (gd (okI l1 9) (
nm (mx_reg s2 l1.toNatClampNeg) fun v2 =>
mo_storeWord_52 s2 v1 v2)) else (bd (mo_d s2) fun v3 s3 =>
mo_storeWord_52 s3 v1 v3)) else (some ((0 : Int32), s2))) else (some ((0 : Int32), s1)))
def mo_storeWord (σ : MS) (a1 a2 : Int32) : Option (Int32 × MS) :=
if a2 = 0 then (mo_storeWord_10 σ a1 a2 (1 : Int32)) else (mo_storeWord_10 σ a1 a2 (0 : Int32))
set_option maxHeartbeats 4000000 in
set_option maxRecDepth 100000 in
theorem b_mo_storeWord_52 {X : Cx} (G : Gd X bc_mo_storeWord 5 R_mod none (rmm 5 110)) (σ : MS) (l3 t0 : Int32) : J wdM X (QV wdM X) 5 52 [(0, .ref (eO (xE X) 0)), (3, .int l3)] [.int t0] σ (mo_storeWord_52 σ l3 t0) := by
  unfold mo_storeWord_52
  refine j_istore [1, 2, 0] (L1 := [(0, .ref (eO (xE X) 0)), (3, .int l3), (4, .int t0)]) G d_mo_storeWord_52 (by decide) rfl ?_
  refine j_aload_n 0 G d_mo_storeWord_54 rfl rfl ?_
  refine j_iload 2 G d_mo_storeWord_55 rfl ?_
  refine j_iconst G d_mo_storeWord_57 ci_1 ?_
  refine j_Vi2 G k_mo_moved mw_mo_moved lk_mo_mo_moved rc_mod d_mo_storeWord_58 rfl (Nat.le_of_ble_eq_true rfl) (fun v1 s1 => ?_)
  refine j_pop G d_mo_storeWord_61 rfl ?_
  refine j_aload_n 0 G d_mo_storeWord_62 rfl rfl ?_
  refine j_iload_n 1 G d_mo_storeWord_63 rfl rfl ?_
  refine j_iload 2 G d_mo_storeWord_64 rfl ?_
  refine j_Vv2 G k_mo_writeWord mw_mo_writeWord lk_mo_mo_writeWord rc_mod d_mo_storeWord_66 rfl (Nat.le_of_ble_eq_true rfl) (fun _ s2 => ?_)
  exact j_vret G d_mo_storeWord_69
set_option maxHeartbeats 4000000 in
set_option maxRecDepth 100000 in
theorem b_mo_storeWord_10 {X : Cx} (G : Gd X bc_mo_storeWord 5 R_mod none (rmm 5 110)) (σ : MS) (l1 l2 t0 : Int32) : J wdM X (QV wdM X) 5 10 [(0, .ref (eO (xE X) 0)), (1, .int l1), (2, .int l2)] [.int t0, .ref (eO (xE X) 0)] σ (mo_storeWord_10 σ l1 l2 t0) := by
  unfold mo_storeWord_10
  refine p_mo_undefined G d_mo_storeWord_10 ?_
  refine j_ns (fun s1 => ?_)
  refine j_aload_n 0 G d_mo_storeWord_13 rfl rfl ?_
  refine g_mo_undefined G d_mo_storeWord_14 ?_
  refine j_ifeq G d_mo_storeWord_17 (tgt := 21) rfl ?_ ?_
  · refine j_aload_n 0 G d_mo_storeWord_21 rfl rfl ?_
    refine j_iload_n 2 G d_mo_storeWord_22 rfl rfl ?_
    refine j_Vi1 G k_mo_address mw_mo_address lk_mo_mo_address rc_mod d_mo_storeWord_23 rfl (Nat.le_of_ble_eq_true rfl) (fun v1 s2 => ?_)
    refine j_istore_n [1, 2, 0] (L1 := [(0, .ref (eO (xE X) 0)), (1, .int l1), (3, .int v1)]) G d_mo_storeWord_26 rfl (by decide) rfl ?_
    refine j_aload_n 0 G d_mo_storeWord_27 rfl rfl ?_
    refine g_mo_undefined G d_mo_storeWord_28 ?_
    refine j_ifeq G d_mo_storeWord_31 (tgt := 35) rfl ?_ ?_
    · refine j_iload_n 1 G d_mo_storeWord_35 rfl rfl ?_
      refine j_ifge G d_mo_storeWord_36 (tgt := 46) rfl ?_ ?_
      · refine j_aload_n 0 G d_mo_storeWord_46 rfl rfl ?_
        refine g_mo_r G d_mo_storeWord_47 ?_
        refine j_iload_n 1 G d_mo_storeWord_50 rfl rfl ?_
        refine al_Mreg G d_mo_storeWord_51 ?_
        refine j_nm (fun v2 => ?_)
        refine j_sub [0, 2] (L1 := [(0, .ref (eO (xE X) 0)), (3, .int v1)]) rfl ?_
        exact b_mo_storeWord_52 G s2 v1 v2
      · refine j_aload_n 0 G d_mo_storeWord_39 rfl rfl ?_
        refine j_Vi0 G k_mo_d mw_mo_d lk_mo_mo_d rc_mod d_mo_storeWord_40 rfl (Nat.le_of_ble_eq_true rfl) (fun v3 s3 => ?_)
        refine j_goto G d_mo_storeWord_43 (tgt := 52) rfl ?_
        refine j_sub [0, 2] (L1 := [(0, .ref (eO (xE X) 0)), (3, .int v1)]) rfl ?_
        exact b_mo_storeWord_52 G s3 v1 v3
    · exact j_vret G d_mo_storeWord_34
  · exact j_vret G d_mo_storeWord_20
set_option maxHeartbeats 4000000 in
set_option maxRecDepth 100000 in
theorem b_mo_storeWord {X : Cx} (G : Gd X bc_mo_storeWord 5 R_mod none (rmm 5 110)) (σ : MS) (a1 a2 : Int32) : J wdM X (QV wdM X) 5 0 [(0, .ref (eO (xE X) 0)), (1, .int a1), (2, .int a2)] [] σ (mo_storeWord σ a1 a2) := by
  unfold mo_storeWord
  refine j_aload_n 0 G d_mo_storeWord_0 rfl rfl ?_
  refine j_iload_n 2 G d_mo_storeWord_1 rfl rfl ?_
  refine j_ifne G d_mo_storeWord_2 (tgt := 9) rfl ?_ ?_
  · refine j_iconst G d_mo_storeWord_9 ci_0 ?_
    exact b_mo_storeWord_10 G σ a1 a2 (0 : Int32)
  · refine j_iconst G d_mo_storeWord_5 ci_1 ?_
    refine j_goto G d_mo_storeWord_6 (tgt := 10) rfl ?_
    exact b_mo_storeWord_10 G σ a1 a2 (1 : Int32)
set_option maxHeartbeats 4000000 in
set_option maxRecDepth 100000 in
theorem k_mo_storeWord {l : Launch} {E : Ev} {σ : MS} {a1 a2 : Int32} : CtV wdM l E y_mo_storeWord bc_mo_storeWord 5 none (rmm 5 110) [.ref (eO E 0), .int a1, .int a2] σ (mo_storeWord σ a1 a2) := ct_v (by decide) (Nat.le_of_ble_eq_true rfl) (fun X hE _ G => by subst hE; exact b_mo_storeWord G σ a1 a2)
def mo_addWord_43 (σ : MS) (t0 : Int32) : Option (Int32 × MS) :=
bd (mo_setD σ t0) fun _ s1 =>
some ((0 : Int32), s1)
def mo_addWord (σ : MS) (a1 a2 : Int32) : Option (Int32 × MS) :=
bd (mo_wordOperand σ a1) fun v1 s1 =>
if (mx_und s1) = 0 then (if a2 = 0 then (bd (mo_d s1) fun v2 s2 =>
bd (mo_plus s2 v2 v1 (0 : Int32) (1 : Int32)) fun v3 s3 =>
mo_addWord_43 s3 v3) else (bd (mo_d s1) fun v4 s4 =>
bd (mo_less s4 v4 v1 (0 : Int32) (1 : Int32)) fun v5 s5 =>
mo_addWord_43 s5 v5)) else (some ((0 : Int32), s1))
set_option maxHeartbeats 4000000 in
set_option maxRecDepth 100000 in
theorem b_mo_addWord_43 {X : Cx} (G : Gd X bc_mo_addWord 5 R_mod none (rmm 6 131)) (σ : MS) (t0 : Int32) : J wdM X (QV wdM X) 5 43 [(0, .ref (eO (xE X) 0))] [.int t0] σ (mo_addWord_43 σ t0) := by
  unfold mo_addWord_43
  refine j_istore [1, 0] (L1 := [(0, .ref (eO (xE X) 0)), (4, .int t0)]) G d_mo_addWord_43 (by decide) rfl ?_
  refine j_aload_n 0 G d_mo_addWord_45 rfl rfl ?_
  refine j_iload 1 G d_mo_addWord_46 rfl ?_
  refine j_Vv1 G k_mo_setD mw_mo_setD lk_mo_mo_setD rc_mod d_mo_addWord_48 rfl (Nat.le_of_ble_eq_true rfl) (fun _ s1 => ?_)
  exact j_vret G d_mo_addWord_51
set_option maxHeartbeats 4000000 in
set_option maxRecDepth 100000 in
theorem b_mo_addWord {X : Cx} (G : Gd X bc_mo_addWord 5 R_mod none (rmm 6 131)) (σ : MS) (a1 a2 : Int32) : J wdM X (QV wdM X) 5 0 [(0, .ref (eO (xE X) 0)), (1, .int a1), (2, .int a2)] [] σ (mo_addWord σ a1 a2) := by
  unfold mo_addWord
  refine j_aload_n 0 G d_mo_addWord_0 rfl rfl ?_
  refine j_iload_n 1 G d_mo_addWord_1 rfl rfl ?_
  refine j_Vi1 G k_mo_wordOperand mw_mo_wordOperand lk_mo_mo_wordOperand rc_mod d_mo_addWord_2 rfl (Nat.le_of_ble_eq_true rfl) (fun v1 s1 => ?_)
  refine j_istore_n [1, 3, 0] (L1 := [(0, .ref (eO (xE X) 0)), (2, .int a2), (3, .int v1)]) G d_mo_addWord_5 rfl (by decide) rfl ?_
  refine j_aload_n 0 G d_mo_addWord_6 rfl rfl ?_
  refine g_mo_undefined G d_mo_addWord_7 ?_
  refine j_ifeq G d_mo_addWord_10 (tgt := 14) rfl ?_ ?_
  · refine j_iload_n 1 G d_mo_addWord_14 rfl rfl ?_
    refine j_ifeq G d_mo_addWord_15 (tgt := 32) rfl ?_ ?_
    · refine j_aload_n 0 G d_mo_addWord_32 rfl rfl ?_
      refine j_aload_n 0 G d_mo_addWord_33 rfl rfl ?_
      refine j_Vi0 G k_mo_d mw_mo_d lk_mo_mo_d rc_mod d_mo_addWord_34 rfl (Nat.le_of_ble_eq_true rfl) (fun v2 s2 => ?_)
      refine j_iload_n 2 G d_mo_addWord_37 rfl rfl ?_
      refine j_iconst G d_mo_addWord_38 ci_0 ?_
      refine j_iconst G d_mo_addWord_39 ci_1 ?_
      refine j_Vi4 G k_mo_plus mw_mo_plus lk_mo_mo_plus rc_mod d_mo_addWord_40 rfl (Nat.le_of_ble_eq_true rfl) (fun v3 s3 => ?_)
      refine j_sub [0] (L1 := [(0, .ref (eO (xE X) 0))]) rfl ?_
      exact b_mo_addWord_43 G s3 v3
    · refine j_aload_n 0 G d_mo_addWord_18 rfl rfl ?_
      refine j_aload_n 0 G d_mo_addWord_19 rfl rfl ?_
      refine j_Vi0 G k_mo_d mw_mo_d lk_mo_mo_d rc_mod d_mo_addWord_20 rfl (Nat.le_of_ble_eq_true rfl) (fun v4 s4 => ?_)
      refine j_iload_n 2 G d_mo_addWord_23 rfl rfl ?_
      refine j_iconst G d_mo_addWord_24 ci_0 ?_
      refine j_iconst G d_mo_addWord_25 ci_1 ?_
      refine j_Vi4 G k_mo_less mw_mo_less lk_mo_mo_less rc_mod d_mo_addWord_26 rfl (Nat.le_of_ble_eq_true rfl) (fun v5 s5 => ?_)
      refine j_goto G d_mo_addWord_29 (tgt := 43) rfl ?_
      refine j_sub [0] (L1 := [(0, .ref (eO (xE X) 0))]) rfl ?_
      exact b_mo_addWord_43 G s5 v5
  · exact j_vret G d_mo_addWord_13
set_option maxHeartbeats 4000000 in
set_option maxRecDepth 100000 in
theorem k_mo_addWord {l : Launch} {E : Ev} {σ : MS} {a1 a2 : Int32} : CtV wdM l E y_mo_addWord bc_mo_addWord 5 none (rmm 6 131) [.ref (eO E 0), .int a1, .int a2] σ (mo_addWord σ a1 a2) := ct_v (by decide) (Nat.le_of_ble_eq_true rfl) (fun X hE _ G => by subst hE; exact b_mo_addWord G σ a1 a2)
def mo_call_36 (σ : MS) (l2 : Int32) : Option (Int32 × MS) :=
if (mx_und σ) = 0 then (bd (mo_pushWord σ (5 : Int32) (mx_reg σ 6)) fun _ s1 =>
ns (my_reg s1 (upd (mx_reg s1) 6 l2)) fun s2 =>
some ((0 : Int32), s2)) else (some ((0 : Int32), σ))
def mo_call (σ : MS) (a1 : Int32) : Option (Int32 × MS) :=
if a1 = 0 then (bd (mo_next σ) fun v2 s2 =>
bd (mo_signed s2 v2) fun v3 s3 =>
nm (((mx_reg s3 6) + v3) &&& (65535 : Int32)) fun v4 =>
mo_call_36 s3 v4) else (bd (mo_address σ a1) fun v1 s1 =>
mo_call_36 s1 v1)
set_option maxHeartbeats 4000000 in
set_option maxRecDepth 100000 in
theorem b_mo_call_36 {X : Cx} (G : Gd X bc_mo_call 4 R_mod none (rmm 5 110)) (σ : MS) (l2 : Int32) : J wdM X (QV wdM X) 4 36 [(0, .ref (eO (xE X) 0)), (2, .int l2)] [] σ (mo_call_36 σ l2) := by
  unfold mo_call_36
  refine j_aload_n 0 G d_mo_call_36 rfl rfl ?_
  refine g_mo_undefined G d_mo_call_37 ?_
  refine j_ifeq G d_mo_call_40 (tgt := 44) rfl ?_ ?_
  · refine j_aload_n 0 G d_mo_call_44 rfl rfl ?_
    refine j_iconst G d_mo_call_45 ci_5 ?_
    refine j_aload_n 0 G d_mo_call_46 rfl rfl ?_
    refine g_mo_r G d_mo_call_47 ?_
    refine j_bipush G d_mo_call_50 cb_6 ?_
    refine alc_Mreg (j := 6) rfl rfl G d_mo_call_52 ?_
    refine j_Vv2 G k_mo_pushWord mw_mo_pushWord lk_mo_mo_pushWord rc_mod d_mo_call_53 rfl (Nat.le_of_ble_eq_true rfl) (fun _ s1 => ?_)
    refine j_aload_n 0 G d_mo_call_56 rfl rfl ?_
    refine g_mo_r G d_mo_call_57 ?_
    refine j_bipush G d_mo_call_60 cb_6 ?_
    refine j_iload_n 1 G d_mo_call_62 rfl rfl ?_
    refine asc_Mreg (j := 6) rfl rfl G d_mo_call_63 ?_
    refine j_ns (fun s2 => ?_)
    exact j_vret G d_mo_call_64
  · exact j_vret G d_mo_call_43
set_option maxHeartbeats 4000000 in
set_option maxRecDepth 100000 in
theorem b_mo_call {X : Cx} (G : Gd X bc_mo_call 4 R_mod none (rmm 5 110)) (σ : MS) (a1 : Int32) : J wdM X (QV wdM X) 4 0 [(0, .ref (eO (xE X) 0)), (1, .int a1)] [] σ (mo_call σ a1) := by
  unfold mo_call
  refine j_iconst G d_mo_call_0 ci_0 ?_
  refine j_istore_n [1, 2] (L1 := [(0, .ref (eO (xE X) 0)), (1, .int a1)]) G d_mo_call_1 rfl (by decide) rfl ?_
  refine j_iload_n 1 G d_mo_call_2 rfl rfl ?_
  refine j_ifne G d_mo_call_3 (tgt := 30) rfl ?_ ?_
  · refine j_aload_n 0 G d_mo_call_30 rfl rfl ?_
    refine j_iload_n 1 G d_mo_call_31 rfl rfl ?_
    refine j_Vi1 G k_mo_address mw_mo_address lk_mo_mo_address rc_mod d_mo_call_32 rfl (Nat.le_of_ble_eq_true rfl) (fun v1 s1 => ?_)
    refine j_istore_n [1, 0] (L1 := [(0, .ref (eO (xE X) 0)), (2, .int v1)]) G d_mo_call_35 rfl (by decide) rfl ?_
    exact b_mo_call_36 G s1 v1
  · refine j_aload_n 0 G d_mo_call_6 rfl rfl ?_
    refine j_Vi0 G k_mo_next mw_mo_next lk_mo_mo_next rc_mod d_mo_call_7 rfl (Nat.le_of_ble_eq_true rfl) (fun v2 s2 => ?_)
    refine j_Si1 G k_mo_signed mw_mo_signed lk_mo_mo_signed d_mo_call_10 rfl (Nat.le_of_ble_eq_true rfl) (fun v3 s3 => ?_)
    refine j_istore_n [1, 0] (L1 := [(0, .ref (eO (xE X) 0)), (3, .int v3)]) G d_mo_call_13 rfl (by decide) rfl ?_
    refine j_aload_n 0 G d_mo_call_14 rfl rfl ?_
    refine g_mo_r G d_mo_call_15 ?_
    refine j_bipush G d_mo_call_18 cb_6 ?_
    refine alc_Mreg (j := 6) rfl rfl G d_mo_call_20 ?_
    refine j_iload_n 1 G d_mo_call_21 rfl rfl ?_
    refine j_iadd G d_mo_call_22 ?_
    refine j_ldc G d_mo_call_23 kc_mo_30 ?_
    refine j_iand G d_mo_call_25 ?_
    refine j_nm (fun v4 => ?_)
    refine j_istore_n [1, 0] (L1 := [(0, .ref (eO (xE X) 0)), (2, .int v4)]) G d_mo_call_26 rfl (by decide) rfl ?_
    refine j_goto G d_mo_call_27 (tgt := 36) rfl ?_
    exact b_mo_call_36 G s3 v4
set_option maxHeartbeats 4000000 in
set_option maxRecDepth 100000 in
theorem k_mo_call {l : Launch} {E : Ev} {σ : MS} {a1 : Int32} : CtV wdM l E y_mo_call bc_mo_call 4 none (rmm 5 110) [.ref (eO E 0), .int a1] σ (mo_call σ a1) := ct_v (by decide) (Nat.le_of_ble_eq_true rfl) (fun X hE _ G => by subst hE; exact b_mo_call G σ a1)
def mo_upper_181 (σ : MS) : Option (Int32 × MS) :=
some ((0 : Int32), σ)
def mo_upper_177 (σ : MS) (l3 t0 : Int32) : Option (Int32 × MS) :=
bd (mo_storeWord σ t0 l3) fun _ s1 =>
mo_upper_181 s1
def mo_upper_160 (σ : MS) (l2 l3 l4 : Int32) : Option (Int32 × MS) :=
if l2 = (15 : Int32) then (if l4 = 0 then (mo_upper_177 σ l3 (2 : Int32)) else (mo_upper_177 σ l3 (4 : Int32))) else (mo_upper_181 σ)
def mo_upper_156 (σ : MS) (l2 l3 l4 t0 : Int32) : Option (Int32 × MS) :=
bd (mo_loadWord σ t0 l3) fun _ s1 =>
mo_upper_160 s1 l2 l3 l4
def mo_upper_139 (σ : MS) (l2 l3 l4 : Int32) : Option (Int32 × MS) :=
if l2 = (14 : Int32) then (if l4 = 0 then (mo_upper_156 σ l2 l3 l4 (2 : Int32)) else (mo_upper_156 σ l2 l3 l4 (4 : Int32))) else (mo_upper_160 σ l2 l3 l4)
def mo_upper_123 (σ : MS) (l2 l3 l4 : Int32) : Option (Int32 × MS) :=
if l2 = (13 : Int32) then (if l4 = 0 then (bd (mo_call σ l3) fun _ s1 =>
mo_upper_139 s1 l2 l3 l4) else (mo_upper_139 σ l2 l3 l4)) else (mo_upper_139 σ l2 l3 l4)
def mo_upper_106 (σ : MS) (l2 l3 l4 : Int32) : Option (Int32 × MS) :=
if l2 = (13 : Int32) then (if l4 = 0 then (mo_upper_123 σ l2 l3 l4) else (bd (mo_storeWord σ (-1 : Int32) l3) fun _ s1 =>
mo_upper_123 s1 l2 l3 l4)) else (mo_upper_123 σ l2 l3 l4)
def mo_upper_88 (σ : MS) (l2 l3 l4 : Int32) : Option (Int32 × MS) :=
if l2 = (12 : Int32) then (if l4 = 0 then (bd (mo_compare σ (0 : Int32) (2 : Int32) l3) fun _ s1 =>
mo_upper_106 s1 l2 l3 l4) else (mo_upper_106 σ l2 l3 l4)) else (mo_upper_106 σ l2 l3 l4)
def mo_upper_71 (σ : MS) (l2 l3 l4 : Int32) : Option (Int32 × MS) :=
if l2 = (12 : Int32) then (if l4 = 0 then (mo_upper_88 σ l2 l3 l4) else (bd (mo_loadWord σ (-1 : Int32) l3) fun _ s1 =>
mo_upper_88 s1 l2 l3 l4)) else (mo_upper_88 σ l2 l3 l4)
def mo_upper_68 (σ : MS) (l2 l3 l4 t0 t1 : Int32) : Option (Int32 × MS) :=
bd (mo_addWord σ t1 t0) fun _ s1 =>
mo_upper_71 s1 l2 l3 l4
def mo_upper_51 (σ : MS) (l2 l3 l4 : Int32) : Option (Int32 × MS) :=
if l2 = (3 : Int32) then (if l4 = 0 then (mo_upper_68 σ l2 l3 l4 (1 : Int32) l3) else (mo_upper_68 σ l2 l3 l4 (0 : Int32) l3)) else (mo_upper_71 σ l2 l3 l4)
def mo_upper_48 (σ : MS) (l2 l3 l4 t0 t1 : Int32) : Option (Int32 × MS) :=
bd (mo_accumulate σ t1 t0) fun _ s1 =>
mo_upper_51 s1 l2 l3 l4
def mo_upper_23 (σ : MS) (l1 l2 l3 t0 : Int32) : Option (Int32 × MS) :=
if (12 : Int32) ≤ l2 then (mo_upper_51 σ l2 l3 t0) else (if l2 = (3 : Int32) then (mo_upper_51 σ l2 l3 t0) else (if t0 = 0 then (mo_upper_48 σ l2 l3 t0 (0 : Int32) l1) else (mo_upper_48 σ l2 l3 t0 (1 : Int32) l1)))
def mo_upper (σ : MS) (a1 : Int32) : Option (Int32 × MS) :=
nm (a1 &&& (15 : Int32)) fun v1 =>
nm ((a1 >>> ((4 : Int32) &&& 31)) &&& (3 : Int32)) fun v2 =>
if a1 < (192 : Int32) then (mo_upper_23 σ a1 v1 v2 (0 : Int32)) else (mo_upper_23 σ a1 v1 v2 (1 : Int32))
set_option maxHeartbeats 4000000 in
set_option maxRecDepth 100000 in
theorem b_mo_upper_181 {X : Cx} (G : Gd X bc_mo_upper 5 R_mod none (rmm 7 158)) (σ : MS) : J wdM X (QV wdM X) 5 181 [(0, .ref (eO (xE X) 0))] [] σ (mo_upper_181 σ ) := by
  unfold mo_upper_181
  exact j_vret G d_mo_upper_181
set_option maxHeartbeats 4000000 in
set_option maxRecDepth 100000 in
theorem b_mo_upper_177 {X : Cx} (G : Gd X bc_mo_upper 5 R_mod none (rmm 7 158)) (σ : MS) (l3 t0 : Int32) : J wdM X (QV wdM X) 5 177 [(0, .ref (eO (xE X) 0)), (3, .int l3)] [.int t0, .ref (eO (xE X) 0)] σ (mo_upper_177 σ l3 t0) := by
  unfold mo_upper_177
  refine j_iload_n 1 G d_mo_upper_177 rfl rfl ?_
  refine j_Vv2 G k_mo_storeWord mw_mo_storeWord lk_mo_mo_storeWord rc_mod d_mo_upper_178 rfl (Nat.le_of_ble_eq_true rfl) (fun _ s1 => ?_)
  refine j_sub [0] (L1 := [(0, .ref (eO (xE X) 0))]) rfl ?_
  exact b_mo_upper_181 G s1
set_option maxHeartbeats 4000000 in
set_option maxRecDepth 100000 in
theorem b_mo_upper_160 {X : Cx} (G : Gd X bc_mo_upper 5 R_mod none (rmm 7 158)) (σ : MS) (l2 l3 l4 : Int32) : J wdM X (QV wdM X) 5 160 [(0, .ref (eO (xE X) 0)), (2, .int l2), (3, .int l3), (4, .int l4)] [] σ (mo_upper_160 σ l2 l3 l4) := by
  unfold mo_upper_160
  refine j_iload_n 1 G d_mo_upper_160 rfl rfl ?_
  refine j_bipush G d_mo_upper_161 cb_15 ?_
  refine j_icne G d_mo_upper_163 (tgt := 181) rfl ?_ ?_
  · refine j_sub [0] (L1 := [(0, .ref (eO (xE X) 0))]) rfl ?_
    exact b_mo_upper_181 G σ
  · refine j_aload_n 0 G d_mo_upper_166 rfl rfl ?_
    refine j_iload 3 G d_mo_upper_167 rfl ?_
    refine j_ifeq G d_mo_upper_169 (tgt := 176) rfl ?_ ?_
    · refine j_iconst G d_mo_upper_176 ci_2 ?_
      refine j_sub [0, 2] (L1 := [(0, .ref (eO (xE X) 0)), (3, .int l3)]) rfl ?_
      exact b_mo_upper_177 G σ l3 (2 : Int32)
    · refine j_iconst G d_mo_upper_172 ci_4 ?_
      refine j_goto G d_mo_upper_173 (tgt := 177) rfl ?_
      refine j_sub [0, 2] (L1 := [(0, .ref (eO (xE X) 0)), (3, .int l3)]) rfl ?_
      exact b_mo_upper_177 G σ l3 (4 : Int32)
set_option maxHeartbeats 4000000 in
set_option maxRecDepth 100000 in
theorem b_mo_upper_156 {X : Cx} (G : Gd X bc_mo_upper 5 R_mod none (rmm 7 158)) (σ : MS) (l2 l3 l4 t0 : Int32) : J wdM X (QV wdM X) 5 156 [(0, .ref (eO (xE X) 0)), (2, .int l2), (3, .int l3), (4, .int l4)] [.int t0, .ref (eO (xE X) 0)] σ (mo_upper_156 σ l2 l3 l4 t0) := by
  unfold mo_upper_156
  refine j_iload_n 2 G d_mo_upper_156 rfl rfl ?_
  refine j_Vv2 G k_mo_loadWord mw_mo_loadWord lk_mo_mo_loadWord rc_mod d_mo_upper_157 rfl (Nat.le_of_ble_eq_true rfl) (fun _ s1 => ?_)
  exact b_mo_upper_160 G s1 l2 l3 l4
set_option maxHeartbeats 4000000 in
set_option maxRecDepth 100000 in
theorem b_mo_upper_139 {X : Cx} (G : Gd X bc_mo_upper 5 R_mod none (rmm 7 158)) (σ : MS) (l2 l3 l4 : Int32) : J wdM X (QV wdM X) 5 139 [(0, .ref (eO (xE X) 0)), (2, .int l2), (3, .int l3), (4, .int l4)] [] σ (mo_upper_139 σ l2 l3 l4) := by
  unfold mo_upper_139
  refine j_iload_n 1 G d_mo_upper_139 rfl rfl ?_
  refine j_bipush G d_mo_upper_140 cb_14 ?_
  refine j_icne G d_mo_upper_142 (tgt := 160) rfl ?_ ?_
  · exact b_mo_upper_160 G σ l2 l3 l4
  · refine j_aload_n 0 G d_mo_upper_145 rfl rfl ?_
    refine j_iload 3 G d_mo_upper_146 rfl ?_
    refine j_ifeq G d_mo_upper_148 (tgt := 155) rfl ?_ ?_
    · refine j_iconst G d_mo_upper_155 ci_2 ?_
      exact b_mo_upper_156 G σ l2 l3 l4 (2 : Int32)
    · refine j_iconst G d_mo_upper_151 ci_4 ?_
      refine j_goto G d_mo_upper_152 (tgt := 156) rfl ?_
      exact b_mo_upper_156 G σ l2 l3 l4 (4 : Int32)
set_option maxHeartbeats 4000000 in
set_option maxRecDepth 100000 in
theorem b_mo_upper_123 {X : Cx} (G : Gd X bc_mo_upper 5 R_mod none (rmm 7 158)) (σ : MS) (l2 l3 l4 : Int32) : J wdM X (QV wdM X) 5 123 [(0, .ref (eO (xE X) 0)), (2, .int l2), (3, .int l3), (4, .int l4)] [] σ (mo_upper_123 σ l2 l3 l4) := by
  unfold mo_upper_123
  refine j_iload_n 1 G d_mo_upper_123 rfl rfl ?_
  refine j_bipush G d_mo_upper_124 cb_13 ?_
  refine j_icne G d_mo_upper_126 (tgt := 139) rfl ?_ ?_
  · exact b_mo_upper_139 G σ l2 l3 l4
  · refine j_iload 3 G d_mo_upper_129 rfl ?_
    refine j_ifne G d_mo_upper_131 (tgt := 139) rfl ?_ ?_
    · exact b_mo_upper_139 G σ l2 l3 l4
    · refine j_aload_n 0 G d_mo_upper_134 rfl rfl ?_
      refine j_iload_n 2 G d_mo_upper_135 rfl rfl ?_
      refine j_Vv1 G k_mo_call mw_mo_call lk_mo_mo_call rc_mod d_mo_upper_136 rfl (Nat.le_of_ble_eq_true rfl) (fun _ s1 => ?_)
      exact b_mo_upper_139 G s1 l2 l3 l4
set_option maxHeartbeats 4000000 in
set_option maxRecDepth 100000 in
theorem b_mo_upper_106 {X : Cx} (G : Gd X bc_mo_upper 5 R_mod none (rmm 7 158)) (σ : MS) (l2 l3 l4 : Int32) : J wdM X (QV wdM X) 5 106 [(0, .ref (eO (xE X) 0)), (2, .int l2), (3, .int l3), (4, .int l4)] [] σ (mo_upper_106 σ l2 l3 l4) := by
  unfold mo_upper_106
  refine j_iload_n 1 G d_mo_upper_106 rfl rfl ?_
  refine j_bipush G d_mo_upper_107 cb_13 ?_
  refine j_icne G d_mo_upper_109 (tgt := 123) rfl ?_ ?_
  · exact b_mo_upper_123 G σ l2 l3 l4
  · refine j_iload 3 G d_mo_upper_112 rfl ?_
    refine j_ifeq G d_mo_upper_114 (tgt := 123) rfl ?_ ?_
    · exact b_mo_upper_123 G σ l2 l3 l4
    · refine j_aload_n 0 G d_mo_upper_117 rfl rfl ?_
      refine j_iconst G d_mo_upper_118 ci_m1 ?_
      refine j_iload_n 2 G d_mo_upper_119 rfl rfl ?_
      refine j_Vv2 G k_mo_storeWord mw_mo_storeWord lk_mo_mo_storeWord rc_mod d_mo_upper_120 rfl (Nat.le_of_ble_eq_true rfl) (fun _ s1 => ?_)
      exact b_mo_upper_123 G s1 l2 l3 l4
set_option maxHeartbeats 4000000 in
set_option maxRecDepth 100000 in
theorem b_mo_upper_88 {X : Cx} (G : Gd X bc_mo_upper 5 R_mod none (rmm 7 158)) (σ : MS) (l2 l3 l4 : Int32) : J wdM X (QV wdM X) 5 88 [(0, .ref (eO (xE X) 0)), (2, .int l2), (3, .int l3), (4, .int l4)] [] σ (mo_upper_88 σ l2 l3 l4) := by
  unfold mo_upper_88
  refine j_iload_n 1 G d_mo_upper_88 rfl rfl ?_
  refine j_bipush G d_mo_upper_89 cb_12 ?_
  refine j_icne G d_mo_upper_91 (tgt := 106) rfl ?_ ?_
  · exact b_mo_upper_106 G σ l2 l3 l4
  · refine j_iload 3 G d_mo_upper_94 rfl ?_
    refine j_ifne G d_mo_upper_96 (tgt := 106) rfl ?_ ?_
    · exact b_mo_upper_106 G σ l2 l3 l4
    · refine j_aload_n 0 G d_mo_upper_99 rfl rfl ?_
      refine j_iconst G d_mo_upper_100 ci_0 ?_
      refine j_iconst G d_mo_upper_101 ci_2 ?_
      refine j_iload_n 2 G d_mo_upper_102 rfl rfl ?_
      refine j_Vv3 G k_mo_compare mw_mo_compare lk_mo_mo_compare rc_mod d_mo_upper_103 rfl (Nat.le_of_ble_eq_true rfl) (fun _ s1 => ?_)
      exact b_mo_upper_106 G s1 l2 l3 l4
set_option maxHeartbeats 4000000 in
set_option maxRecDepth 100000 in
theorem b_mo_upper_71 {X : Cx} (G : Gd X bc_mo_upper 5 R_mod none (rmm 7 158)) (σ : MS) (l2 l3 l4 : Int32) : J wdM X (QV wdM X) 5 71 [(0, .ref (eO (xE X) 0)), (2, .int l2), (3, .int l3), (4, .int l4)] [] σ (mo_upper_71 σ l2 l3 l4) := by
  unfold mo_upper_71
  refine j_iload_n 1 G d_mo_upper_71 rfl rfl ?_
  refine j_bipush G d_mo_upper_72 cb_12 ?_
  refine j_icne G d_mo_upper_74 (tgt := 88) rfl ?_ ?_
  · exact b_mo_upper_88 G σ l2 l3 l4
  · refine j_iload 3 G d_mo_upper_77 rfl ?_
    refine j_ifeq G d_mo_upper_79 (tgt := 88) rfl ?_ ?_
    · exact b_mo_upper_88 G σ l2 l3 l4
    · refine j_aload_n 0 G d_mo_upper_82 rfl rfl ?_
      refine j_iconst G d_mo_upper_83 ci_m1 ?_
      refine j_iload_n 2 G d_mo_upper_84 rfl rfl ?_
      refine j_Vv2 G k_mo_loadWord mw_mo_loadWord lk_mo_mo_loadWord rc_mod d_mo_upper_85 rfl (Nat.le_of_ble_eq_true rfl) (fun _ s1 => ?_)
      exact b_mo_upper_88 G s1 l2 l3 l4
set_option maxHeartbeats 4000000 in
set_option maxRecDepth 100000 in
theorem b_mo_upper_68 {X : Cx} (G : Gd X bc_mo_upper 5 R_mod none (rmm 7 158)) (σ : MS) (l2 l3 l4 t0 t1 : Int32) : J wdM X (QV wdM X) 5 68 [(0, .ref (eO (xE X) 0)), (2, .int l2), (3, .int l3), (4, .int l4)] [.int t0, .int t1, .ref (eO (xE X) 0)] σ (mo_upper_68 σ l2 l3 l4 t0 t1) := by
  unfold mo_upper_68
  refine j_Vv2 G k_mo_addWord mw_mo_addWord lk_mo_mo_addWord rc_mod d_mo_upper_68 rfl (Nat.le_of_ble_eq_true rfl) (fun _ s1 => ?_)
  exact b_mo_upper_71 G s1 l2 l3 l4
set_option maxHeartbeats 4000000 in
set_option maxRecDepth 100000 in
theorem b_mo_upper_51 {X : Cx} (G : Gd X bc_mo_upper 5 R_mod none (rmm 7 158)) (σ : MS) (l2 l3 l4 : Int32) : J wdM X (QV wdM X) 5 51 [(0, .ref (eO (xE X) 0)), (2, .int l2), (3, .int l3), (4, .int l4)] [] σ (mo_upper_51 σ l2 l3 l4) := by
  unfold mo_upper_51
  refine j_iload_n 1 G d_mo_upper_51 rfl rfl ?_
  refine j_iconst G d_mo_upper_52 ci_3 ?_
  refine j_icne G d_mo_upper_53 (tgt := 71) rfl ?_ ?_
  · exact b_mo_upper_71 G σ l2 l3 l4
  · refine j_aload_n 0 G d_mo_upper_56 rfl rfl ?_
    refine j_iload_n 2 G d_mo_upper_57 rfl rfl ?_
    refine j_iload 3 G d_mo_upper_58 rfl ?_
    refine j_ifne G d_mo_upper_60 (tgt := 67) rfl ?_ ?_
    · refine j_iconst G d_mo_upper_67 ci_0 ?_
      exact b_mo_upper_68 G σ l2 l3 l4 (0 : Int32) l3
    · refine j_iconst G d_mo_upper_63 ci_1 ?_
      refine j_goto G d_mo_upper_64 (tgt := 68) rfl ?_
      exact b_mo_upper_68 G σ l2 l3 l4 (1 : Int32) l3
set_option maxHeartbeats 4000000 in
set_option maxRecDepth 100000 in
theorem b_mo_upper_48 {X : Cx} (G : Gd X bc_mo_upper 5 R_mod none (rmm 7 158)) (σ : MS) (l2 l3 l4 t0 t1 : Int32) : J wdM X (QV wdM X) 5 48 [(0, .ref (eO (xE X) 0)), (2, .int l2), (3, .int l3), (4, .int l4)] [.int t0, .int t1, .ref (eO (xE X) 0)] σ (mo_upper_48 σ l2 l3 l4 t0 t1) := by
  unfold mo_upper_48
  refine j_Vv2 G k_mo_accumulate mw_mo_accumulate lk_mo_mo_accumulate rc_mod d_mo_upper_48 rfl (Nat.le_of_ble_eq_true rfl) (fun _ s1 => ?_)
  exact b_mo_upper_51 G s1 l2 l3 l4
set_option maxHeartbeats 4000000 in
set_option maxRecDepth 100000 in
theorem b_mo_upper_23 {X : Cx} (G : Gd X bc_mo_upper 5 R_mod none (rmm 7 158)) (σ : MS) (l1 l2 l3 t0 : Int32) : J wdM X (QV wdM X) 5 23 [(0, .ref (eO (xE X) 0)), (1, .int l1), (2, .int l2), (3, .int l3)] [.int t0] σ (mo_upper_23 σ l1 l2 l3 t0) := by
  unfold mo_upper_23
  refine j_istore [1, 2, 3, 4, 0] (L1 := [(0, .ref (eO (xE X) 0)), (1, .int l1), (2, .int l2), (3, .int l3), (4, .int t0)]) G d_mo_upper_23 (by decide) rfl ?_
  refine j_iload_n 2 G d_mo_upper_25 rfl rfl ?_
  refine j_bipush G d_mo_upper_26 cb_12 ?_
  refine j_icge G d_mo_upper_28 (tgt := 51) rfl ?_ ?_
  · refine j_sub [0, 2, 3, 4] (L1 := [(0, .ref (eO (xE X) 0)), (2, .int l2), (3, .int l3), (4, .int t0)]) rfl ?_
    exact b_mo_upper_51 G σ l2 l3 t0
  · refine j_iload_n 2 G d_mo_upper_31 rfl rfl ?_
    refine j_iconst G d_mo_upper_32 ci_3 ?_
    refine j_iceq G d_mo_upper_33 (tgt := 51) rfl ?_ ?_
    · refine j_sub [0, 2, 3, 4] (L1 := [(0, .ref (eO (xE X) 0)), (2, .int l2), (3, .int l3), (4, .int t0)]) rfl ?_
      exact b_mo_upper_51 G σ l2 l3 t0
    · refine j_aload_n 0 G d_mo_upper_36 rfl rfl ?_
      refine j_iload_n 1 G d_mo_upper_37 rfl rfl ?_
      refine j_iload 4 G d_mo_upper_38 rfl ?_
      refine j_ifeq G d_mo_upper_40 (tgt := 47) rfl ?_ ?_
      · refine j_iconst G d_mo_upper_47 ci_0 ?_
        refine j_sub [0, 2, 3, 4] (L1 := [(0, .ref (eO (xE X) 0)), (2, .int l2), (3, .int l3), (4, .int t0)]) rfl ?_
        exact b_mo_upper_48 G σ l2 l3 t0 (0 : Int32) l1
      · refine j_iconst G d_mo_upper_43 ci_1 ?_
        refine j_goto G d_mo_upper_44 (tgt := 48) rfl ?_
        refine j_sub [0, 2, 3, 4] (L1 := [(0, .ref (eO (xE X) 0)), (2, .int l2), (3, .int l3), (4, .int t0)]) rfl ?_
        exact b_mo_upper_48 G σ l2 l3 t0 (1 : Int32) l1
set_option maxHeartbeats 4000000 in
set_option maxRecDepth 100000 in
theorem b_mo_upper {X : Cx} (G : Gd X bc_mo_upper 5 R_mod none (rmm 7 158)) (σ : MS) (a1 : Int32) : J wdM X (QV wdM X) 5 0 [(0, .ref (eO (xE X) 0)), (1, .int a1)] [] σ (mo_upper σ a1) := by
  unfold mo_upper
  refine j_iload_n 1 G d_mo_upper_0 rfl rfl ?_
  refine j_bipush G d_mo_upper_1 cb_15 ?_
  refine j_iand G d_mo_upper_3 ?_
  refine j_nm (fun v1 => ?_)
  refine j_istore_n [1, 2, 0] (L1 := [(0, .ref (eO (xE X) 0)), (1, .int a1), (2, .int v1)]) G d_mo_upper_4 rfl (by decide) rfl ?_
  refine j_iload_n 1 G d_mo_upper_5 rfl rfl ?_
  refine j_iconst G d_mo_upper_6 ci_4 ?_
  refine j_ishr G d_mo_upper_7 ?_
  refine j_iconst G d_mo_upper_8 ci_3 ?_
  refine j_iand G d_mo_upper_9 ?_
  refine j_nm (fun v2 => ?_)
  refine j_istore_n [1, 2, 3, 0] (L1 := [(0, .ref (eO (xE X) 0)), (1, .int a1), (2, .int v1), (3, .int v2)]) G d_mo_upper_10 rfl (by decide) rfl ?_
  refine j_iload_n 1 G d_mo_upper_11 rfl rfl ?_
  refine j_sipush G d_mo_upper_12 cs_192 ?_
  refine j_iclt G d_mo_upper_15 (tgt := 22) rfl ?_ ?_
  · refine j_iconst G d_mo_upper_22 ci_0 ?_
    exact b_mo_upper_23 G σ a1 v1 v2 (0 : Int32)
  · refine j_iconst G d_mo_upper_18 ci_1 ?_
    refine j_goto G d_mo_upper_19 (tgt := 23) rfl ?_
    exact b_mo_upper_23 G σ a1 v1 v2 (1 : Int32)
set_option maxHeartbeats 4000000 in
set_option maxRecDepth 100000 in
theorem k_mo_upper {l : Launch} {E : Ev} {σ : MS} {a1 : Int32} : CtV wdM l E y_mo_upper bc_mo_upper 5 none (rmm 7 158) [.ref (eO E 0), .int a1] σ (mo_upper σ a1) := ct_v (by decide) (Nat.le_of_ble_eq_true rfl) (fun X hE _ G => by subst hE; exact b_mo_upper G σ a1)
def mo_holds_165 (σ : MS) (t0 : Int32) : Option (Int32 × MS) :=
gd (isB t0) (some (t0, σ))
def mo_holds_157 (σ : MS) (t0 t1 : Int32) : Option (Int32 × MS) :=
if t1 = t0 then (mo_holds_165 σ (1 : Int32)) else (mo_holds_165 σ (0 : Int32))
def mo_holds_141 (σ : MS) (l1 t0 : Int32) : Option (Int32 × MS) :=
if (l1 &&& (1 : Int32)) = (1 : Int32) then (mo_holds_157 σ (1 : Int32) t0) else (mo_holds_157 σ (0 : Int32) t0)
def mo_holds_136 (σ : MS) (l1 : Int32) : Option (Int32 × MS) :=
mo_holds_141 σ l1 (1 : Int32)
def mo_holds_53 (σ : MS) (l1 : Int32) : Option (Int32 × MS) :=
mo_holds_141 σ l1 (1 : Int32)
def mo_holds_19 (σ : MS) (l1 t0 : Int32) : Option (Int32 × MS) :=
nm (l1 >>> ((1 : Int32) &&& 31)) fun v1 =>
if v1 = 0 then (mo_holds_141 σ l1 (0 : Int32)) else (if v1 = (1 : Int32) then (bd (mo_is σ (1 : Int32)) fun v7 s6 =>
if v7 = 0 then (bd (mo_is s6 (4 : Int32)) fun v8 s7 =>
if v8 = 0 then (mo_holds_141 s7 l1 (0 : Int32)) else (mo_holds_53 s7 l1)) else (mo_holds_53 s6 l1)) else (if v1 = (2 : Int32) then (bd (mo_is σ (1 : Int32)) fun v6 s5 =>
mo_holds_141 s5 l1 v6) else (if v1 = (3 : Int32) then (bd (mo_is σ (4 : Int32)) fun v5 s4 =>
mo_holds_141 s4 l1 v5) else (if v1 = (4 : Int32) then (bd (mo_is σ (2 : Int32)) fun v4 s3 =>
mo_holds_141 s3 l1 v4) else (if v1 = (5 : Int32) then (bd (mo_is σ (8 : Int32)) fun v3 s2 =>
mo_holds_141 s2 l1 v3) else (if v1 = (6 : Int32) then (mo_holds_141 σ l1 t0) else (bd (mo_is σ (4 : Int32)) fun v2 s1 =>
if v2 = 0 then (if t0 = 0 then (mo_holds_141 s1 l1 (0 : Int32)) else (mo_holds_136 s1 l1)) else (mo_holds_136 s1 l1))))))))
def mo_holds (σ : MS) (a1 : Int32) : Option (Int32 × MS) :=
bd (mo_is σ (8 : Int32)) fun v1 s1 =>
bd (mo_is s1 (2 : Int32)) fun v2 s2 =>
if v1 = v2 then (mo_holds_19 s2 a1 (0 : Int32)) else (mo_holds_19 s2 a1 (1 : Int32))
set_option maxHeartbeats 4000000 in
set_option maxRecDepth 100000 in
theorem b_mo_holds_165 {X : Cx} (G : Gd X bc_mo_holds 5 R_mod (some .boolean) (rmm 1 21)) (σ : MS) (t0 : Int32) : J wdM X (QI wdM X) 5 165 [(0, .ref (eO (xE X) 0))] [.int t0] σ (mo_holds_165 σ t0) := by
  unfold mo_holds_165
  exact j_zret G d_mo_holds_165
set_option maxHeartbeats 4000000 in
set_option maxRecDepth 100000 in
theorem b_mo_holds_157 {X : Cx} (G : Gd X bc_mo_holds 5 R_mod (some .boolean) (rmm 1 21)) (σ : MS) (t0 t1 : Int32) : J wdM X (QI wdM X) 5 157 [(0, .ref (eO (xE X) 0))] [.int t0, .int t1] σ (mo_holds_157 σ t0 t1) := by
  unfold mo_holds_157
  refine j_icne G d_mo_holds_157 (tgt := 164) rfl ?_ ?_
  · refine j_iconst G d_mo_holds_164 ci_0 ?_
    exact b_mo_holds_165 G σ (0 : Int32)
  · refine j_iconst G d_mo_holds_160 ci_1 ?_
    refine j_goto G d_mo_holds_161 (tgt := 165) rfl ?_
    exact b_mo_holds_165 G σ (1 : Int32)
set_option maxHeartbeats 4000000 in
set_option maxRecDepth 100000 in
theorem b_mo_holds_141 {X : Cx} (G : Gd X bc_mo_holds 5 R_mod (some .boolean) (rmm 1 21)) (σ : MS) (l1 t0 : Int32) : J wdM X (QI wdM X) 5 141 [(0, .ref (eO (xE X) 0)), (1, .int l1)] [.int t0] σ (mo_holds_141 σ l1 t0) := by
  unfold mo_holds_141
  refine j_istore [1, 2, 0] (L1 := [(0, .ref (eO (xE X) 0)), (1, .int l1), (4, .int t0)]) G d_mo_holds_141 (by decide) rfl ?_
  refine j_iload 2 G d_mo_holds_143 rfl ?_
  refine j_iload_n 1 G d_mo_holds_145 rfl rfl ?_
  refine j_iconst G d_mo_holds_146 ci_1 ?_
  refine j_iand G d_mo_holds_147 ?_
  refine j_iconst G d_mo_holds_148 ci_1 ?_
  refine j_icne G d_mo_holds_149 (tgt := 156) rfl ?_ ?_
  · refine j_iconst G d_mo_holds_156 ci_0 ?_
    refine j_sub [0] (L1 := [(0, .ref (eO (xE X) 0))]) rfl ?_
    exact b_mo_holds_157 G σ (0 : Int32) t0
  · refine j_iconst G d_mo_holds_152 ci_1 ?_
    refine j_goto G d_mo_holds_153 (tgt := 157) rfl ?_
    refine j_sub [0] (L1 := [(0, .ref (eO (xE X) 0))]) rfl ?_
    exact b_mo_holds_157 G σ (1 : Int32) t0
set_option maxHeartbeats 4000000 in
set_option maxRecDepth 100000 in
theorem b_mo_holds_136 {X : Cx} (G : Gd X bc_mo_holds 5 R_mod (some .boolean) (rmm 1 21)) (σ : MS) (l1 : Int32) : J wdM X (QI wdM X) 5 136 [(0, .ref (eO (xE X) 0)), (1, .int l1)] [] σ (mo_holds_136 σ l1) := by
  unfold mo_holds_136
  refine j_iconst G d_mo_holds_136 ci_1 ?_
  refine j_goto G d_mo_holds_137 (tgt := 141) rfl ?_
  exact b_mo_holds_141 G σ l1 (1 : Int32)
set_option maxHeartbeats 4000000 in
set_option maxRecDepth 100000 in
theorem b_mo_holds_53 {X : Cx} (G : Gd X bc_mo_holds 5 R_mod (some .boolean) (rmm 1 21)) (σ : MS) (l1 : Int32) : J wdM X (QI wdM X) 5 53 [(0, .ref (eO (xE X) 0)), (1, .int l1)] [] σ (mo_holds_53 σ l1) := by
  unfold mo_holds_53
  refine j_iconst G d_mo_holds_53 ci_1 ?_
  refine j_goto G d_mo_holds_54 (tgt := 141) rfl ?_
  exact b_mo_holds_141 G σ l1 (1 : Int32)
set_option maxHeartbeats 4000000 in
set_option maxRecDepth 100000 in
theorem b_mo_holds_19 {X : Cx} (G : Gd X bc_mo_holds 5 R_mod (some .boolean) (rmm 1 21)) (σ : MS) (l1 t0 : Int32) : J wdM X (QI wdM X) 5 19 [(0, .ref (eO (xE X) 0)), (1, .int l1)] [.int t0] σ (mo_holds_19 σ l1 t0) := by
  unfold mo_holds_19
  refine j_istore_n [1, 2, 0] (L1 := [(0, .ref (eO (xE X) 0)), (1, .int l1), (2, .int t0)]) G d_mo_holds_19 rfl (by decide) rfl ?_
  refine j_iload_n 1 G d_mo_holds_20 rfl rfl ?_
  refine j_iconst G d_mo_holds_21 ci_1 ?_
  refine j_ishr G d_mo_holds_22 ?_
  refine j_nm (fun v1 => ?_)
  refine j_istore_n [1, 2, 3, 0] (L1 := [(0, .ref (eO (xE X) 0)), (1, .int l1), (2, .int t0), (3, .int v1)]) G d_mo_holds_23 rfl (by decide) rfl ?_
  refine j_iload_n 3 G d_mo_holds_24 rfl rfl ?_
  refine j_ifne G d_mo_holds_25 (tgt := 32) rfl ?_ ?_
  · refine j_iload_n 3 G d_mo_holds_32 rfl rfl ?_
    refine j_iconst G d_mo_holds_33 ci_1 ?_
    refine j_icne G d_mo_holds_34 (tgt := 61) rfl ?_ ?_
    · refine j_iload_n 3 G d_mo_holds_61 rfl rfl ?_
      refine j_iconst G d_mo_holds_62 ci_2 ?_
      refine j_icne G d_mo_holds_63 (tgt := 74) rfl ?_ ?_
      · refine j_iload_n 3 G d_mo_holds_74 rfl rfl ?_
        refine j_iconst G d_mo_holds_75 ci_3 ?_
        refine j_icne G d_mo_holds_76 (tgt := 87) rfl ?_ ?_
        · refine j_iload_n 3 G d_mo_holds_87 rfl rfl ?_
          refine j_iconst G d_mo_holds_88 ci_4 ?_
          refine j_icne G d_mo_holds_89 (tgt := 100) rfl ?_ ?_
          · refine j_iload_n 3 G d_mo_holds_100 rfl rfl ?_
            refine j_iconst G d_mo_holds_101 ci_5 ?_
            refine j_icne G d_mo_holds_102 (tgt := 114) rfl ?_ ?_
            · refine j_iload_n 3 G d_mo_holds_114 rfl rfl ?_
              refine j_bipush G d_mo_holds_115 cb_6 ?_
              refine j_icne G d_mo_holds_117 (tgt := 124) rfl ?_ ?_
              · refine j_aload_n 0 G d_mo_holds_124 rfl rfl ?_
                refine j_iconst G d_mo_holds_125 ci_4 ?_
                refine j_Vi1 G k_mo_is mw_mo_is lk_mo_mo_is rc_mod d_mo_holds_126 rfl (Nat.le_of_ble_eq_true rfl) (fun v2 s1 => ?_)
                refine j_ifne G d_mo_holds_129 (tgt := 136) rfl ?_ ?_
                · refine j_sub [0, 1] (L1 := [(0, .ref (eO (xE X) 0)), (1, .int l1)]) rfl ?_
                  exact b_mo_holds_136 G s1 l1
                · refine j_iload_n 2 G d_mo_holds_132 rfl rfl ?_
                  refine j_ifeq G d_mo_holds_133 (tgt := 140) rfl ?_ ?_
                  · refine j_iconst G d_mo_holds_140 ci_0 ?_
                    refine j_sub [0, 1] (L1 := [(0, .ref (eO (xE X) 0)), (1, .int l1)]) rfl ?_
                    exact b_mo_holds_141 G s1 l1 (0 : Int32)
                  · refine j_sub [0, 1] (L1 := [(0, .ref (eO (xE X) 0)), (1, .int l1)]) rfl ?_
                    exact b_mo_holds_136 G s1 l1
              · refine j_iload_n 2 G d_mo_holds_120 rfl rfl ?_
                refine j_goto G d_mo_holds_121 (tgt := 141) rfl ?_
                refine j_sub [0, 1] (L1 := [(0, .ref (eO (xE X) 0)), (1, .int l1)]) rfl ?_
                exact b_mo_holds_141 G σ l1 t0
            · refine j_aload_n 0 G d_mo_holds_105 rfl rfl ?_
              refine j_bipush G d_mo_holds_106 cb_8 ?_
              refine j_Vi1 G k_mo_is mw_mo_is lk_mo_mo_is rc_mod d_mo_holds_108 rfl (Nat.le_of_ble_eq_true rfl) (fun v3 s2 => ?_)
              refine j_goto G d_mo_holds_111 (tgt := 141) rfl ?_
              refine j_sub [0, 1] (L1 := [(0, .ref (eO (xE X) 0)), (1, .int l1)]) rfl ?_
              exact b_mo_holds_141 G s2 l1 v3
          · refine j_aload_n 0 G d_mo_holds_92 rfl rfl ?_
            refine j_iconst G d_mo_holds_93 ci_2 ?_
            refine j_Vi1 G k_mo_is mw_mo_is lk_mo_mo_is rc_mod d_mo_holds_94 rfl (Nat.le_of_ble_eq_true rfl) (fun v4 s3 => ?_)
            refine j_goto G d_mo_holds_97 (tgt := 141) rfl ?_
            refine j_sub [0, 1] (L1 := [(0, .ref (eO (xE X) 0)), (1, .int l1)]) rfl ?_
            exact b_mo_holds_141 G s3 l1 v4
        · refine j_aload_n 0 G d_mo_holds_79 rfl rfl ?_
          refine j_iconst G d_mo_holds_80 ci_4 ?_
          refine j_Vi1 G k_mo_is mw_mo_is lk_mo_mo_is rc_mod d_mo_holds_81 rfl (Nat.le_of_ble_eq_true rfl) (fun v5 s4 => ?_)
          refine j_goto G d_mo_holds_84 (tgt := 141) rfl ?_
          refine j_sub [0, 1] (L1 := [(0, .ref (eO (xE X) 0)), (1, .int l1)]) rfl ?_
          exact b_mo_holds_141 G s4 l1 v5
      · refine j_aload_n 0 G d_mo_holds_66 rfl rfl ?_
        refine j_iconst G d_mo_holds_67 ci_1 ?_
        refine j_Vi1 G k_mo_is mw_mo_is lk_mo_mo_is rc_mod d_mo_holds_68 rfl (Nat.le_of_ble_eq_true rfl) (fun v6 s5 => ?_)
        refine j_goto G d_mo_holds_71 (tgt := 141) rfl ?_
        refine j_sub [0, 1] (L1 := [(0, .ref (eO (xE X) 0)), (1, .int l1)]) rfl ?_
        exact b_mo_holds_141 G s5 l1 v6
    · refine j_aload_n 0 G d_mo_holds_37 rfl rfl ?_
      refine j_iconst G d_mo_holds_38 ci_1 ?_
      refine j_Vi1 G k_mo_is mw_mo_is lk_mo_mo_is rc_mod d_mo_holds_39 rfl (Nat.le_of_ble_eq_true rfl) (fun v7 s6 => ?_)
      refine j_ifne G d_mo_holds_42 (tgt := 53) rfl ?_ ?_
      · refine j_sub [0, 1] (L1 := [(0, .ref (eO (xE X) 0)), (1, .int l1)]) rfl ?_
        exact b_mo_holds_53 G s6 l1
      · refine j_aload_n 0 G d_mo_holds_45 rfl rfl ?_
        refine j_iconst G d_mo_holds_46 ci_4 ?_
        refine j_Vi1 G k_mo_is mw_mo_is lk_mo_mo_is rc_mod d_mo_holds_47 rfl (Nat.le_of_ble_eq_true rfl) (fun v8 s7 => ?_)
        refine j_ifeq G d_mo_holds_50 (tgt := 57) rfl ?_ ?_
        · refine j_iconst G d_mo_holds_57 ci_0 ?_
          refine j_goto G d_mo_holds_58 (tgt := 141) rfl ?_
          refine j_sub [0, 1] (L1 := [(0, .ref (eO (xE X) 0)), (1, .int l1)]) rfl ?_
          exact b_mo_holds_141 G s7 l1 (0 : Int32)
        · refine j_sub [0, 1] (L1 := [(0, .ref (eO (xE X) 0)), (1, .int l1)]) rfl ?_
          exact b_mo_holds_53 G s7 l1
  · refine j_iconst G d_mo_holds_28 ci_0 ?_
    refine j_goto G d_mo_holds_29 (tgt := 141) rfl ?_
    refine j_sub [0, 1] (L1 := [(0, .ref (eO (xE X) 0)), (1, .int l1)]) rfl ?_
    exact b_mo_holds_141 G σ l1 (0 : Int32)
set_option maxHeartbeats 4000000 in
set_option maxRecDepth 100000 in
theorem b_mo_holds {X : Cx} (G : Gd X bc_mo_holds 5 R_mod (some .boolean) (rmm 1 21)) (σ : MS) (a1 : Int32) : J wdM X (QI wdM X) 5 0 [(0, .ref (eO (xE X) 0)), (1, .int a1)] [] σ (mo_holds σ a1) := by
  unfold mo_holds
  refine j_aload_n 0 G d_mo_holds_0 rfl rfl ?_
  refine j_bipush G d_mo_holds_1 cb_8 ?_
  refine j_Vi1 G k_mo_is mw_mo_is lk_mo_mo_is rc_mod d_mo_holds_3 rfl (Nat.le_of_ble_eq_true rfl) (fun v1 s1 => ?_)
  refine j_aload_n 0 G d_mo_holds_6 rfl rfl ?_
  refine j_iconst G d_mo_holds_7 ci_2 ?_
  refine j_Vi1 G k_mo_is mw_mo_is lk_mo_mo_is rc_mod d_mo_holds_8 rfl (Nat.le_of_ble_eq_true rfl) (fun v2 s2 => ?_)
  refine j_iceq G d_mo_holds_11 (tgt := 18) rfl ?_ ?_
  · refine j_iconst G d_mo_holds_18 ci_0 ?_
    exact b_mo_holds_19 G s2 a1 (0 : Int32)
  · refine j_iconst G d_mo_holds_14 ci_1 ?_
    refine j_goto G d_mo_holds_15 (tgt := 19) rfl ?_
    exact b_mo_holds_19 G s2 a1 (1 : Int32)
set_option maxHeartbeats 4000000 in
set_option maxRecDepth 100000 in
theorem k_mo_holds {l : Launch} {E : Ev} {σ : MS} {a1 : Int32} : CtI wdM l E y_mo_holds bc_mo_holds 5 (some .boolean) (rmm 1 21) [.ref (eO E 0), .int a1] σ (mo_holds σ a1) := ct_i (by decide) (Nat.le_of_ble_eq_true rfl) (fun X hE _ G => by subst hE; exact b_mo_holds G σ a1)
def mo_branch_55 (σ : MS) : Option (Int32 × MS) :=
some ((0 : Int32), σ)
def mo_branch_36 (σ : MS) (l3 : Int32) : Option (Int32 × MS) :=
nm (((mx_reg σ 6) + l3) &&& (65535 : Int32)) fun v1 =>
ns (my_reg σ (upd (mx_reg σ) 6 v1)) fun s1 =>
mo_branch_55 s1
def mo_branch_18 (σ : MS) (l1 t0 : Int32) : Option (Int32 × MS) :=
if l1 = 0 then (mo_branch_36 σ t0) else (if l1 ≤ (1 : Int32) then (mo_branch_55 σ) else (bd (mo_holds σ l1) fun v1 s1 =>
if v1 = 0 then (mo_branch_55 s1) else (mo_branch_36 s1 t0)))
def mo_branch (σ : MS) (a1 a2 : Int32) : Option (Int32 × MS) :=
if a2 = 0 then (bd (mo_next σ) fun v1 s1 =>
bd (mo_signed s1 v1) fun v2 s2 =>
mo_branch_18 s2 a1 v2) else (bd (mo_nextWord σ) fun v3 s3 =>
mo_branch_18 s3 a1 v3)
set_option maxHeartbeats 4000000 in
set_option maxRecDepth 100000 in
theorem b_mo_branch_55 {X : Cx} (G : Gd X bc_mo_branch 4 R_mod none (rmm 3 63)) (σ : MS) : J wdM X (QV wdM X) 4 55 [(0, .ref (eO (xE X) 0))] [] σ (mo_branch_55 σ ) := by
  unfold mo_branch_55
  exact j_vret G d_mo_branch_55
set_option maxHeartbeats 4000000 in
set_option maxRecDepth 100000 in
theorem b_mo_branch_36 {X : Cx} (G : Gd X bc_mo_branch 4 R_mod none (rmm 3 63)) (σ : MS) (l3 : Int32) : J wdM X (QV wdM X) 4 36 [(0, .ref (eO (xE X) 0)), (3, .int l3)] [] σ (mo_branch_36 σ l3) := by
  unfold mo_branch_36
  refine j_aload_n 0 G d_mo_branch_36 rfl rfl ?_
  refine g_mo_r G d_mo_branch_37 ?_
  refine j_bipush G d_mo_branch_40 cb_6 ?_
  refine j_aload_n 0 G d_mo_branch_42 rfl rfl ?_
  refine g_mo_r G d_mo_branch_43 ?_
  refine j_bipush G d_mo_branch_46 cb_6 ?_
  refine alc_Mreg (j := 6) rfl rfl G d_mo_branch_48 ?_
  refine j_iload_n 1 G d_mo_branch_49 rfl rfl ?_
  refine j_iadd G d_mo_branch_50 ?_
  refine j_ldc G d_mo_branch_51 kc_mo_30 ?_
  refine j_iand G d_mo_branch_53 ?_
  refine j_nm (fun v1 => ?_)
  refine asc_Mreg (j := 6) rfl rfl G d_mo_branch_54 ?_
  refine j_ns (fun s1 => ?_)
  refine j_sub [0] (L1 := [(0, .ref (eO (xE X) 0))]) rfl ?_
  exact b_mo_branch_55 G s1
set_option maxHeartbeats 4000000 in
set_option maxRecDepth 100000 in
theorem b_mo_branch_18 {X : Cx} (G : Gd X bc_mo_branch 4 R_mod none (rmm 3 63)) (σ : MS) (l1 t0 : Int32) : J wdM X (QV wdM X) 4 18 [(0, .ref (eO (xE X) 0)), (1, .int l1)] [.int t0] σ (mo_branch_18 σ l1 t0) := by
  unfold mo_branch_18
  refine j_istore_n [1, 2, 0] (L1 := [(0, .ref (eO (xE X) 0)), (1, .int l1), (3, .int t0)]) G d_mo_branch_18 rfl (by decide) rfl ?_
  refine j_iload_n 1 G d_mo_branch_19 rfl rfl ?_
  refine j_ifeq G d_mo_branch_20 (tgt := 36) rfl ?_ ?_
  · refine j_sub [0, 2] (L1 := [(0, .ref (eO (xE X) 0)), (3, .int t0)]) rfl ?_
    exact b_mo_branch_36 G σ t0
  · refine j_iload_n 1 G d_mo_branch_23 rfl rfl ?_
    refine j_iconst G d_mo_branch_24 ci_1 ?_
    refine j_icle G d_mo_branch_25 (tgt := 55) rfl ?_ ?_
    · refine j_sub [0] (L1 := [(0, .ref (eO (xE X) 0))]) rfl ?_
      exact b_mo_branch_55 G σ
    · refine j_aload_n 0 G d_mo_branch_28 rfl rfl ?_
      refine j_iload_n 1 G d_mo_branch_29 rfl rfl ?_
      refine j_Vi1 G k_mo_holds mw_mo_holds lk_mo_mo_holds rc_mod d_mo_branch_30 rfl (Nat.le_of_ble_eq_true rfl) (fun v1 s1 => ?_)
      refine j_ifeq G d_mo_branch_33 (tgt := 55) rfl ?_ ?_
      · refine j_sub [0] (L1 := [(0, .ref (eO (xE X) 0))]) rfl ?_
        exact b_mo_branch_55 G s1
      · refine j_sub [0, 2] (L1 := [(0, .ref (eO (xE X) 0)), (3, .int t0)]) rfl ?_
        exact b_mo_branch_36 G s1 t0
set_option maxHeartbeats 4000000 in
set_option maxRecDepth 100000 in
theorem b_mo_branch {X : Cx} (G : Gd X bc_mo_branch 4 R_mod none (rmm 3 63)) (σ : MS) (a1 a2 : Int32) : J wdM X (QV wdM X) 4 0 [(0, .ref (eO (xE X) 0)), (1, .int a1), (2, .int a2)] [] σ (mo_branch σ a1 a2) := by
  unfold mo_branch
  refine j_iload_n 2 G d_mo_branch_0 rfl rfl ?_
  refine j_ifeq G d_mo_branch_1 (tgt := 11) rfl ?_ ?_
  · refine j_aload_n 0 G d_mo_branch_11 rfl rfl ?_
    refine j_Vi0 G k_mo_next mw_mo_next lk_mo_mo_next rc_mod d_mo_branch_12 rfl (Nat.le_of_ble_eq_true rfl) (fun v1 s1 => ?_)
    refine j_Si1 G k_mo_signed mw_mo_signed lk_mo_mo_signed d_mo_branch_15 rfl (Nat.le_of_ble_eq_true rfl) (fun v2 s2 => ?_)
    refine j_sub [0, 1] (L1 := [(0, .ref (eO (xE X) 0)), (1, .int a1)]) rfl ?_
    exact b_mo_branch_18 G s2 a1 v2
  · refine j_aload_n 0 G d_mo_branch_4 rfl rfl ?_
    refine j_Vi0 G k_mo_nextWord mw_mo_nextWord lk_mo_mo_nextWord rc_mod d_mo_branch_5 rfl (Nat.le_of_ble_eq_true rfl) (fun v3 s3 => ?_)
    refine j_goto G d_mo_branch_8 (tgt := 18) rfl ?_
    refine j_sub [0, 1] (L1 := [(0, .ref (eO (xE X) 0)), (1, .int a1)]) rfl ?_
    exact b_mo_branch_18 G s3 a1 v3
set_option maxHeartbeats 4000000 in
set_option maxRecDepth 100000 in
theorem k_mo_branch {l : Launch} {E : Ev} {σ : MS} {a1 a2 : Int32} : CtV wdM l E y_mo_branch bc_mo_branch 4 none (rmm 3 63) [.ref (eO E 0), .int a1, .int a2] σ (mo_branch σ a1 a2) := ct_v (by decide) (Nat.le_of_ble_eq_true rfl) (fun X hE _ G => by subst hE; exact b_mo_branch G σ a1 a2)
