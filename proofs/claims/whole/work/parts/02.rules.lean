-- pure combinators
def gd {α : Type} (b : Bool) (m : Option α) : Option α := if b = true then m else none
def bd {S β : Type} (m : Option (Int32 × S)) (k : Int32 → S → Option β) : Option β := match m with
  | some o => k o.1 o.2
  | none => none
def nm {β : Type} (x : Int32) (k : Int32 → β) : β := k x
def ns {S β : Type} (x : S) (k : S → β) : β := k x
def okI (i : Int32) (n : Nat) : Bool := !(decide (i < 0)) && decide (i.toNatClampNeg < n)
def isB (v : Int32) : Bool := decide (v = 0) || decide (v = 1)
def swi {α : Type} (x : Int32) : List (Int32 × Nat × α) → α → α
  | [], d => d
  | c :: r, d => if x = c.1 then c.2.2 else swi x r d
def swt {α : Type} (x : Int32) : List (Int32 × Nat × α) → Nat → Nat
  | [], d => d
  | c :: r, d => if x = c.1 then c.2.1 else swt x r d
theorem gd_some {α : Type} {b : Bool} {m : Option α} {o : α} (h : gd b m = some o) : b = true ∧ m = some o := by
  unfold gd at h
  by_cases hb : b = true
  · rw [if_pos hb] at h; exact ⟨hb, h⟩
  · rw [if_neg hb] at h; cases h
theorem bd_some {S β : Type} {m : Option (Int32 × S)} {k : Int32 → S → Option β} {o : β} (h : bd m k = some o) : ∃ z, m = some z ∧ k z.1 z.2 = some o := by
  cases m with
  | none => cases h
  | some z => exact ⟨z, rfl, h⟩
theorem okI_in {i : Int32} {n : Nat} (h : okI i n = true) : vp_in i n := by
  unfold okI at h
  simp only [Bool.and_eq_true, Bool.not_eq_true', decide_eq_false_iff_not, decide_eq_true_eq] at h
  intro q
  rcases q with q | q
  · exact h.1 q
  · omega
theorem isB_ok {v : Int32} (h : isB v = true) : narrow .boolean (.int v) = .int v ∧ fits .boolean (.int v) = true := by
  unfold isB at h
  simp only [Bool.or_eq_true, decide_eq_true_eq] at h
  rcases h with rfl | rfl
  · exact ⟨rfl, by decide +kernel⟩
  · exact ⟨rfl, by decide +kernel⟩
-- static tables
def Sts (A : Nat → Prop) (tb : Nat → Nat) (U : State) (H : Heap) : Prop := ∀ k, k < 5 → va_Z R_chip (tnm k) "[I" (.ref (tb k)) A U H ∧ va_T .int (tb k) (tln k) (fun j => .int (tvl k j)) A U H
theorem Sts.moved {A : Nat → Prop} {tb : Nat → Nat} {u U : State} {H : Heap} (hvm : u.vm.Alike U.vm) (h : Sts A tb u H) : Sts A tb U H := fun k hk => ⟨(h k hk).1.moved hvm, (h k hk).2.moved hvm⟩
theorem Sts.kept {A : Nat → Prop} {tb : Nat → Nat} {U : State} {H H1 : Heap} (h : Sts A tb U H) (hq : ∀ a : Nat, a < H.size → ¬ A a → H1[a]? = H[a]?) : Sts A tb U H1 := fun k hk => ⟨(h k hk).1.kept hq, (h k hk).2.kept hq⟩
theorem Sts.less {A B : Nat → Prop} {tb : Nat → Nat} {U : State} {H : Heap} (h : Sts A tb U H) (hq : ∀ a : Nat, B a → A a) : Sts B tb U H := fun k hk => ⟨(h k hk).1.narrow hq, (h k hk).2.narrow hq⟩
-- the context of a walk
abbrev Ev : Type := va_G × (Nat → Prop) × ClassId × (Nat → Nat) × (Nat → Nat)
abbrev eD (E : Ev) : va_G := E.1
abbrev eA (E : Ev) : Nat → Prop := E.2.1
abbrev eC (E : Ev) : ClassId := E.2.2.1
abbrev eT (E : Ev) : Nat → Nat := E.2.2.2.1
abbrev eO (E : Ev) : Nat → Nat := E.2.2.2.2
abbrev Cx : Type := (Program × Launch × Env × Room × State) × (MethodId × Array Value × List Frame × Method × Code) × Ev
abbrev xp (X : Cx) : Program := X.1.1
abbrev xl (X : Cx) : Launch := X.1.2.1
abbrev xe (X : Cx) : Env := X.1.2.2.1
abbrev xR (X : Cx) : Room := X.1.2.2.2.1
abbrev xs (X : Cx) : State := X.1.2.2.2.2
abbrev xm (X : Cx) : MethodId := X.2.1.1
abbrev xa (X : Cx) : Array Value := X.2.1.2.1
abbrev xb (X : Cx) : List Frame := X.2.1.2.2.1
abbrev xh (X : Cx) : Method := X.2.1.2.2.2.1
abbrev xc (X : Cx) : Code := X.2.1.2.2.2.2
abbrev xE (X : Cx) : Ev := X.2.2
def Gd (X : Cx) (b : ByteArray) (nL : Nat) (own : String) (ret : Option FieldType) (rm : Room) : Prop :=
  (xp X).tables.exec = Jvm.exec ∧ (xc X).code = b ∧ (xc X).maxLocals = nL ∧ (xs X).vm.findClass own = some (xm X).cls ∧ (∀ w ∈ CW, w.before (xa X) (xs X) = true) ∧ (xh X).locks = false ∧ (xh X).sig.returnType = ret ∧ xR X = rm ∧ va_K (eD (xE X)) vwCl [(eC (xE X), .int)] (xs X) ∧ Sts (eA (xE X)) (eT (xE X)) (xs X) (xs X).heap
section
variable {X : Cx} {b : ByteArray} {nL : Nat} {own : String} {ret : Option FieldType} {rm : Room}
theorem Gd.x (G : Gd X b nL own ret rm) : (xp X).tables.exec = Jvm.exec := G.1
theorem Gd.c (G : Gd X b nL own ret rm) : (xc X).code = b := G.2.1
theorem Gd.n (G : Gd X b nL own ret rm) : (xc X).maxLocals = nL := G.2.2.1
theorem Gd.o (G : Gd X b nL own ret rm) : (xs X).vm.findClass own = some (xm X).cls := G.2.2.2.1
theorem Gd.t (G : Gd X b nL own ret rm) : ∀ w ∈ CW, w.before (xa X) (xs X) = true := G.2.2.2.2.1
theorem Gd.k (G : Gd X b nL own ret rm) : (xh X).locks = false := G.2.2.2.2.2.1
theorem Gd.r (G : Gd X b nL own ret rm) : (xh X).sig.returnType = ret := G.2.2.2.2.2.2.1
theorem Gd.R (G : Gd X b nL own ret rm) : xR X = rm := G.2.2.2.2.2.2.2.1
theorem Gd.K (G : Gd X b nL own ret rm) : va_K (eD (xE X)) vwCl [(eC (xE X), .int)] (xs X) := G.2.2.2.2.2.2.2.2.1
theorem Gd.S (G : Gd X b nL own ret rm) : Sts (eA (xE X)) (eT (xE X)) (xs X) (xs X).heap := G.2.2.2.2.2.2.2.2.2
end
abbrev WD (S : Type) : Type := (Nat → Nat) → ClassId → S → va_W
def J {S : Type} (wd : WD S) (X : Cx) (Q : Int32 × S → State → Prop) (nL pc : Nat) (L : List (Nat × Value)) (st : List Value) (σ : S) (mm : Option (Int32 × S)) : Prop :=
  ∀ o, mm = some o → ∀ (H : Heap) (locs : List Loc) (ls : Array Slot), va_P (eD (xE X)) vwCl (wd (eO (xE X)) (eC (xE X)) σ) H → va_D (eA (xE X)) (wd (eO (xE X)) (eC (xE X)) σ) → va_S (eA (xE X)) (xs X).heap H locs → lv_has ls nL L →
    W (xp X) (xl X) (xe X) (xR X) (xs X) (xm X) (xa X) (xb X) (xh X) (xc X) H locs 0 0 (Q o) (F0 (xm X) pc ls st)
def Okw {S : Type} (wd : WD S) (E : Ev) (σ : S) (U : State) : Prop := va_P (eD E) vwCl (wd (eO E) (eC E) σ) U.heap ∧ va_K (eD E) vwCl [(eC E, .int)] U ∧ va_D (eA E) (wd (eO E) (eC E) σ) ∧ Sts (eA E) (eT E) U U.heap
def QI {S : Type} (wd : WD S) (X : Cx) (o : Int32 × S) : State → Prop := MQ (xb X) (va_Qi (fun (r : Int32) (u : S) => r = o.1 ∧ u = o.2) (fun u t => Okw wd (xE X) u t) (eA (xE X))) (xa X) (xs X) 0 0 (eA (xE X))
def QV {S : Type} (wd : WD S) (X : Cx) (o : Int32 × S) : State → Prop := MQ (xb X) (va_Qv (fun (u : S) => u = o.2) (fun u t => Okw wd (xE X) u t) (eA (xE X))) (xa X) (xs X) 0 0 (eA (xE X))
def CtI {S : Type} (wd : WD S) (l : Launch) (E : Ev) (y : MethodName) (b : ByteArray) (n : Nat) (ret : Option FieldType) (rm : Room) (av : List Value) (σ : S) (mm : Option (Int32 × S)) : Prop := ∀ o, mm = some o → Met l y (Cond.code y b n ret :: CW) rm (va_Pc av (fun U => Okw wd E σ U)) (va_Qi (fun (r : Int32) (u : S) => r = o.1 ∧ u = o.2) (fun u t => Okw wd E u t) (eA E)) 0 0 (eA E)
def CtV {S : Type} (wd : WD S) (l : Launch) (E : Ev) (y : MethodName) (b : ByteArray) (n : Nat) (ret : Option FieldType) (rm : Room) (av : List Value) (σ : S) (mm : Option (Int32 × S)) : Prop := ∀ o, mm = some o → Met l y (Cond.code y b n ret :: CW) rm (va_Pc av (fun U => Okw wd E σ U)) (va_Qv (fun (u : S) => u = o.2) (fun u t => Okw wd E u t) (eA E)) 0 0 (eA E)
def rmm (f n : Nat) : Room := { frames := f, cells := 0, slots := 0, locals := n }
def rok (yf yl yn f n : Nat) : Bool := Nat.ble (yf + 1) f && Nat.ble (8 + (yn + 11) + yl) n
theorem rok_1 {yf yl yn f n : Nat} (h : rok yf yl yn f n = true) : (rmm yf yl).frames + 1 ≤ (rmm f n).frames ∧ 8 + (yn + 11) + (rmm yf yl).locals ≤ (rmm f n).locals := by
  unfold rok at h
  simp only [Bool.and_eq_true] at h
  exact ⟨Nat.le_of_ble_eq_true h.1, Nat.le_of_ble_eq_true h.2⟩
def Rcv {S : Type} (wd : WD S) (E : Ev) (a : Nat) (C : String) : Prop := ∀ σ : S, ∃ (q0 ci : Nat) (fs : List Value) (T : u_T) (N : Nat), (wd (eO E) (eC E) σ)[q0]? = some (a, .inr (ci, fs)) ∧ vwCl[ci]? = some (C, T, N)
theorem Okw.blind {S : Type} {wd : WD S} {E : Ev} {σ : S} {av : List Value} : FrameBlind (va_Pc av (fun U => Okw wd E σ U)) := fun a U g mk q => by
  obtain ⟨q0, qP, qK, qD, qS⟩ := q
  exact ⟨q0, qP, va_K.moved (u := U) (U := U.calling g mk a) (Vm.Alike.refl U.vm) qK, qD, Sts.moved (u := U) (U := U.calling g mk a) (Vm.Alike.refl U.vm) qS⟩
section
variable {S : Type} {wd : WD S} {X : Cx} {b : ByteArray} {nL pc : Nat} {own : String} {ret : Option FieldType} {rm : Room} {Q : Int32 × S → State → Prop} {L : List (Nat × Value)} {st : List Value} {σ : S} {mm m1 m2 : Option (Int32 × S)}
theorem okw_of (G : Gd X b nL own ret rm) {H : Heap} {locs : List Loc} (hP : va_P (eD (xE X)) vwCl (wd (eO (xE X)) (eC (xE X)) σ) H) (hD : va_D (eA (xE X)) (wd (eO (xE X)) (eC (xE X)) σ)) (hS : va_S (eA (xE X)) (xs X).heap H locs) {t : State} (ht : t.heap = H) (hA : (xs X).vm.Alike t.vm) : Okw wd (xE X) σ t :=
  ⟨by rw [ht]; exact hP, va_K.moved hA G.K, hD, by rw [ht]; exact Sts.moved hA (Sts.kept G.S hS.2.1)⟩
theorem j_iadd {x y : Int32} (G : Gd X b nL own ret rm) (hd : decode b pc = .ok (.iadd, 1)) (k : J wd X Q nL (pc + 1) L (.int (x + y) :: st) σ mm) : J wd X Q nL pc L (.int y :: .int x :: st) σ mm := fun o ho H locs ls hP hD hS hl => lv_iadd G.x G.c hd (k o ho H locs ls hP hD hS hl)
theorem j_isub {x y : Int32} (G : Gd X b nL own ret rm) (hd : decode b pc = .ok (.isub, 1)) (k : J wd X Q nL (pc + 1) L (.int (x - y) :: st) σ mm) : J wd X Q nL pc L (.int y :: .int x :: st) σ mm := fun o ho H locs ls hP hD hS hl => lv_isub G.x G.c hd (k o ho H locs ls hP hD hS hl)
theorem j_imul {x y : Int32} (G : Gd X b nL own ret rm) (hd : decode b pc = .ok (.imul, 1)) (k : J wd X Q nL (pc + 1) L (.int (x * y) :: st) σ mm) : J wd X Q nL pc L (.int y :: .int x :: st) σ mm := fun o ho H locs ls hP hD hS hl => lv_imul G.x G.c hd (k o ho H locs ls hP hD hS hl)
theorem j_iand {x y : Int32} (G : Gd X b nL own ret rm) (hd : decode b pc = .ok (.iand, 1)) (k : J wd X Q nL (pc + 1) L (.int (x &&& y) :: st) σ mm) : J wd X Q nL pc L (.int y :: .int x :: st) σ mm := fun o ho H locs ls hP hD hS hl => lv_iand G.x G.c hd (k o ho H locs ls hP hD hS hl)
theorem j_ior {x y : Int32} (G : Gd X b nL own ret rm) (hd : decode b pc = .ok (.ior, 1)) (k : J wd X Q nL (pc + 1) L (.int (x ||| y) :: st) σ mm) : J wd X Q nL pc L (.int y :: .int x :: st) σ mm := fun o ho H locs ls hP hD hS hl => lv_ior G.x G.c hd (k o ho H locs ls hP hD hS hl)
theorem j_ixor {x y : Int32} (G : Gd X b nL own ret rm) (hd : decode b pc = .ok (.ixor, 1)) (k : J wd X Q nL (pc + 1) L (.int (x ^^^ y) :: st) σ mm) : J wd X Q nL pc L (.int y :: .int x :: st) σ mm := fun o ho H locs ls hP hD hS hl => lv_ixor G.x G.c hd (k o ho H locs ls hP hD hS hl)
theorem j_ishl {x y : Int32} (G : Gd X b nL own ret rm) (hd : decode b pc = .ok (.ishl, 1)) (k : J wd X Q nL (pc + 1) L (.int (x <<< (y &&& 31)) :: st) σ mm) : J wd X Q nL pc L (.int y :: .int x :: st) σ mm := fun o ho H locs ls hP hD hS hl => lv_ishl G.x G.c hd (k o ho H locs ls hP hD hS hl)
theorem j_ishr {x y : Int32} (G : Gd X b nL own ret rm) (hd : decode b pc = .ok (.ishr, 1)) (k : J wd X Q nL (pc + 1) L (.int (x >>> (y &&& 31)) :: st) σ mm) : J wd X Q nL pc L (.int y :: .int x :: st) σ mm := fun o ho H locs ls hP hD hS hl => lv_ishr G.x G.c hd (k o ho H locs ls hP hD hS hl)
theorem j_irem {x y : Int32} (G : Gd X b nL own ret rm) (hd : decode b pc = .ok (.irem, 1)) (hy : ¬ y = 0) (k : J wd X Q nL (pc + 1) L (.int (x - x / y * y) :: st) σ mm) : J wd X Q nL pc L (.int y :: .int x :: st) σ mm := fun o ho H locs ls hP hD hS hl => lv_irem G.x G.c hd hy (k o ho H locs ls hP hD hS hl)
theorem j_i2b {x : Int32} (G : Gd X b nL own ret rm) (hd : decode b pc = .ok (.i2b, 1)) (k : J wd X Q nL (pc + 1) L (.int (x.toInt8.toInt32) :: st) σ mm) : J wd X Q nL pc L (.int x :: st) σ mm := fun o ho H locs ls hP hD hS hl => lv_i2b G.x G.c hd rfl (k o ho H locs ls hP hD hS hl)
theorem j_iconst {n : Int} {v : Int32} (G : Gd X b nL own ret rm) (hd : decode b pc = .ok (.iconst n, 1)) (hv : Int32.ofInt n = v) (k : J wd X Q nL (pc + 1) L (.int v :: st) σ mm) : J wd X Q nL pc L st σ mm := fun o ho H locs ls hP hD hS hl => lv_iconst G.x G.c hd hv (k o ho H locs ls hP hD hS hl)
theorem j_bipush {n : Int} {v : Int32} (G : Gd X b nL own ret rm) (hd : decode b pc = .ok (.bipush n, 2)) (hv : (Int8.ofInt n).toInt32 = v) (k : J wd X Q nL (pc + 2) L (.int v :: st) σ mm) : J wd X Q nL pc L st σ mm := fun o ho H locs ls hP hD hS hl => lv_bipush G.x G.c hd hv (k o ho H locs ls hP hD hS hl)
theorem j_sipush {n : Int} {v : Int32} (G : Gd X b nL own ret rm) (hd : decode b pc = .ok (.sipush n, 3)) (hv : (Int16.ofInt n).toInt32 = v) (k : J wd X Q nL (pc + 3) L (.int v :: st) σ mm) : J wd X Q nL pc L st σ mm := fun o ho H locs ls hP hD hS hl => lv_sipush G.x G.c hd hv (k o ho H locs ls hP hD hS hl)
theorem j_ldc {i : Nat} {v : Int32} (G : Gd X b nL own ret rm) (hd : decode b pc = .ok (.ldc i, 2)) (hw : Cond.constant own i v ∈ CW) (k : J wd X Q nL (pc + 2) L (.int v :: st) σ mm) : J wd X Q nL pc L st σ mm := fun o ho H locs ls hP hD hS hl => lv_ldc G.x G.c G.o (G.t _ hw) hd (k o ho H locs ls hP hD hS hl)
theorem j_ldc_w {i : Nat} {v : Int32} (G : Gd X b nL own ret rm) (hd : decode b pc = .ok (.ldc_w i, 3)) (hw : Cond.constant own i v ∈ CW) (k : J wd X Q nL (pc + 3) L (.int v :: st) σ mm) : J wd X Q nL pc L st σ mm := fun o ho H locs ls hP hD hS hl => lv_ldcw G.x G.c G.o (G.t _ hw) hd (k o ho H locs ls hP hD hS hl)
theorem j_dup {v : Value} (G : Gd X b nL own ret rm) (hd : decode b pc = .ok (.dup, 1)) (hv : v.category = 1) (k : J wd X Q nL (pc + 1) L (v :: v :: st) σ mm) : J wd X Q nL pc L (v :: st) σ mm := fun o ho H locs ls hP hD hS hl => lv_dup G.x G.c hd hv (k o ho H locs ls hP hD hS hl)
theorem j_pop {v : Value} (G : Gd X b nL own ret rm) (hd : decode b pc = .ok (.pop, 1)) (hv : v.category = 1) (k : J wd X Q nL (pc + 1) L st σ mm) : J wd X Q nL pc L (v :: st) σ mm := fun o ho H locs ls hP hD hS hl => lv_pop G.x G.c hd hv (k o ho H locs ls hP hD hS hl)
theorem j_goto {off : Int} {tgt : Nat} (G : Gd X b nL own ret rm) (hd : decode b pc = .ok (.goto off, 3)) (ht : (pc : Int) + off = (tgt : Int)) (k : J wd X Q nL tgt L st σ mm) : J wd X Q nL pc L st σ mm := fun o ho H locs ls hP hD hS hl => lv_goto G.x G.c hd ht (k o ho H locs ls hP hD hS hl)
theorem j_ifeq {x : Int32} {off : Int} {tgt : Nat} {mt mf : Option (Int32 × S)} (G : Gd X b nL own ret rm) (hd : decode b pc = .ok (.ifCond .eq off, 3)) (ht : (pc : Int) + off = (tgt : Int)) (kt : J wd X Q nL tgt L st σ mt) (kf : J wd X Q nL (pc + 3) L st σ mf) : J wd X Q nL pc L (.int x :: st) σ (if x = 0 then mt else mf) := fun o ho H locs ls hP hD hS hl => lv_if_eq G.x G.c hd ht (fun h => kt o (by rw [if_pos h] at ho; exact ho) H locs ls hP hD hS hl) (fun h => kf o (by rw [if_neg h] at ho; exact ho) H locs ls hP hD hS hl)
theorem j_ifne {x : Int32} {off : Int} {tgt : Nat} {mt mf : Option (Int32 × S)} (G : Gd X b nL own ret rm) (hd : decode b pc = .ok (.ifCond .ne off, 3)) (ht : (pc : Int) + off = (tgt : Int)) (kt : J wd X Q nL tgt L st σ mt) (kf : J wd X Q nL (pc + 3) L st σ mf) : J wd X Q nL pc L (.int x :: st) σ (if x = 0 then mf else mt) := fun o ho H locs ls hP hD hS hl => lv_if_ne G.x G.c hd ht (fun h => kt o (by rw [if_neg h] at ho; exact ho) H locs ls hP hD hS hl) (fun h => kf o (by rw [if_pos h] at ho; exact ho) H locs ls hP hD hS hl)
theorem j_iflt {x : Int32} {off : Int} {tgt : Nat} {mt mf : Option (Int32 × S)} (G : Gd X b nL own ret rm) (hd : decode b pc = .ok (.ifCond .lt off, 3)) (ht : (pc : Int) + off = (tgt : Int)) (kt : J wd X Q nL tgt L st σ mt) (kf : J wd X Q nL (pc + 3) L st σ mf) : J wd X Q nL pc L (.int x :: st) σ (if x < 0 then mt else mf) := fun o ho H locs ls hP hD hS hl => lv_if_lt G.x G.c hd ht (fun h => kt o (by rw [if_pos h] at ho; exact ho) H locs ls hP hD hS hl) (fun h => kf o (by rw [if_neg h] at ho; exact ho) H locs ls hP hD hS hl)
theorem j_ifge {x : Int32} {off : Int} {tgt : Nat} {mt mf : Option (Int32 × S)} (G : Gd X b nL own ret rm) (hd : decode b pc = .ok (.ifCond .ge off, 3)) (ht : (pc : Int) + off = (tgt : Int)) (kt : J wd X Q nL tgt L st σ mt) (kf : J wd X Q nL (pc + 3) L st σ mf) : J wd X Q nL pc L (.int x :: st) σ (if 0 ≤ x then mt else mf) := fun o ho H locs ls hP hD hS hl => lv_if_ge G.x G.c hd ht (fun h => kt o (by rw [if_pos h] at ho; exact ho) H locs ls hP hD hS hl) (fun h => kf o (by rw [if_neg h] at ho; exact ho) H locs ls hP hD hS hl)
theorem j_ifgt {x : Int32} {off : Int} {tgt : Nat} {mt mf : Option (Int32 × S)} (G : Gd X b nL own ret rm) (hd : decode b pc = .ok (.ifCond .gt off, 3)) (ht : (pc : Int) + off = (tgt : Int)) (kt : J wd X Q nL tgt L st σ mt) (kf : J wd X Q nL (pc + 3) L st σ mf) : J wd X Q nL pc L (.int x :: st) σ (if 0 < x then mt else mf) := fun o ho H locs ls hP hD hS hl => lv_if_gt G.x G.c hd ht (fun h => kt o (by rw [if_pos h] at ho; exact ho) H locs ls hP hD hS hl) (fun h => kf o (by rw [if_neg h] at ho; exact ho) H locs ls hP hD hS hl)
theorem j_ifle {x : Int32} {off : Int} {tgt : Nat} {mt mf : Option (Int32 × S)} (G : Gd X b nL own ret rm) (hd : decode b pc = .ok (.ifCond .le off, 3)) (ht : (pc : Int) + off = (tgt : Int)) (kt : J wd X Q nL tgt L st σ mt) (kf : J wd X Q nL (pc + 3) L st σ mf) : J wd X Q nL pc L (.int x :: st) σ (if x ≤ 0 then mt else mf) := fun o ho H locs ls hP hD hS hl => lv_if_le G.x G.c hd ht (fun h => kt o (by rw [if_pos h] at ho; exact ho) H locs ls hP hD hS hl) (fun h => kf o (by rw [if_neg h] at ho; exact ho) H locs ls hP hD hS hl)
theorem j_iceq {x y : Int32} {off : Int} {tgt : Nat} {mt mf : Option (Int32 × S)} (G : Gd X b nL own ret rm) (hd : decode b pc = .ok (.if_icmp .eq off, 3)) (ht : (pc : Int) + off = (tgt : Int)) (kt : J wd X Q nL tgt L st σ mt) (kf : J wd X Q nL (pc + 3) L st σ mf) : J wd X Q nL pc L (.int y :: .int x :: st) σ (if x = y then mt else mf) := fun o ho H locs ls hP hD hS hl => lv_icmp_eq G.x G.c hd ht (fun h => kt o (by rw [if_pos h] at ho; exact ho) H locs ls hP hD hS hl) (fun h => kf o (by rw [if_neg h] at ho; exact ho) H locs ls hP hD hS hl)
theorem j_icne {x y : Int32} {off : Int} {tgt : Nat} {mt mf : Option (Int32 × S)} (G : Gd X b nL own ret rm) (hd : decode b pc = .ok (.if_icmp .ne off, 3)) (ht : (pc : Int) + off = (tgt : Int)) (kt : J wd X Q nL tgt L st σ mt) (kf : J wd X Q nL (pc + 3) L st σ mf) : J wd X Q nL pc L (.int y :: .int x :: st) σ (if x = y then mf else mt) := fun o ho H locs ls hP hD hS hl => lv_icmp_ne G.x G.c hd ht (fun h => kt o (by rw [if_neg h] at ho; exact ho) H locs ls hP hD hS hl) (fun h => kf o (by rw [if_pos h] at ho; exact ho) H locs ls hP hD hS hl)
theorem j_iclt {x y : Int32} {off : Int} {tgt : Nat} {mt mf : Option (Int32 × S)} (G : Gd X b nL own ret rm) (hd : decode b pc = .ok (.if_icmp .lt off, 3)) (ht : (pc : Int) + off = (tgt : Int)) (kt : J wd X Q nL tgt L st σ mt) (kf : J wd X Q nL (pc + 3) L st σ mf) : J wd X Q nL pc L (.int y :: .int x :: st) σ (if x < y then mt else mf) := fun o ho H locs ls hP hD hS hl => lv_icmp_lt G.x G.c hd ht (fun h => kt o (by rw [if_pos h] at ho; exact ho) H locs ls hP hD hS hl) (fun h => kf o (by rw [if_neg h] at ho; exact ho) H locs ls hP hD hS hl)
theorem j_icge {x y : Int32} {off : Int} {tgt : Nat} {mt mf : Option (Int32 × S)} (G : Gd X b nL own ret rm) (hd : decode b pc = .ok (.if_icmp .ge off, 3)) (ht : (pc : Int) + off = (tgt : Int)) (kt : J wd X Q nL tgt L st σ mt) (kf : J wd X Q nL (pc + 3) L st σ mf) : J wd X Q nL pc L (.int y :: .int x :: st) σ (if y ≤ x then mt else mf) := fun o ho H locs ls hP hD hS hl => lv_icmp_ge G.x G.c hd ht (fun h => kt o (by rw [if_pos h] at ho; exact ho) H locs ls hP hD hS hl) (fun h => kf o (by rw [if_neg h] at ho; exact ho) H locs ls hP hD hS hl)
theorem j_icgt {x y : Int32} {off : Int} {tgt : Nat} {mt mf : Option (Int32 × S)} (G : Gd X b nL own ret rm) (hd : decode b pc = .ok (.if_icmp .gt off, 3)) (ht : (pc : Int) + off = (tgt : Int)) (kt : J wd X Q nL tgt L st σ mt) (kf : J wd X Q nL (pc + 3) L st σ mf) : J wd X Q nL pc L (.int y :: .int x :: st) σ (if y < x then mt else mf) := fun o ho H locs ls hP hD hS hl => lv_icmp_gt G.x G.c hd ht (fun h => kt o (by rw [if_pos h] at ho; exact ho) H locs ls hP hD hS hl) (fun h => kf o (by rw [if_neg h] at ho; exact ho) H locs ls hP hD hS hl)
theorem j_icle {x y : Int32} {off : Int} {tgt : Nat} {mt mf : Option (Int32 × S)} (G : Gd X b nL own ret rm) (hd : decode b pc = .ok (.if_icmp .le off, 3)) (ht : (pc : Int) + off = (tgt : Int)) (kt : J wd X Q nL tgt L st σ mt) (kf : J wd X Q nL (pc + 3) L st σ mf) : J wd X Q nL pc L (.int y :: .int x :: st) σ (if x ≤ y then mt else mf) := fun o ho H locs ls hP hD hS hl => lv_icmp_le G.x G.c hd ht (fun h => kt o (by rw [if_pos h] at ho; exact ho) H locs ls hP hD hS hl) (fun h => kf o (by rw [if_neg h] at ho; exact ho) H locs ls hP hD hS hl)
theorem j_iload_n {n : Fin 4} {i : Nat} {x : Int32} (k : Nat) (G : Gd X b nL own ret rm) (hd : decode b pc = .ok (.iload_n n, 1)) (hi : (n : Nat) = i) (hk : L[k]? = some (i, .int x)) (kj : J wd X Q nL (pc + 1) L (.int x :: st) σ mm) : J wd X Q nL pc L st σ mm := fun o ho H locs ls hP hD hS hl => lv_iload_n G.x G.c hd hi (lv_at hl k hk) (kj o ho H locs ls hP hD hS hl)
theorem j_iload {i : Nat} {x : Int32} (k : Nat) (G : Gd X b nL own ret rm) (hd : decode b pc = .ok (.iload i, 2)) (hk : L[k]? = some (i, .int x)) (kj : J wd X Q nL (pc + 2) L (.int x :: st) σ mm) : J wd X Q nL pc L st σ mm := fun o ho H locs ls hP hD hS hl => lv_iload G.x G.c hd (lv_at hl k hk) (kj o ho H locs ls hP hD hS hl)
theorem j_aload_n {n : Fin 4} {i : Nat} {x : Nat} (k : Nat) (G : Gd X b nL own ret rm) (hd : decode b pc = .ok (.aload_n n, 1)) (hi : (n : Nat) = i) (hk : L[k]? = some (i, .ref x)) (kj : J wd X Q nL (pc + 1) L (.ref x :: st) σ mm) : J wd X Q nL pc L st σ mm := fun o ho H locs ls hP hD hS hl => lv_aload_n G.x G.c hd hi (lv_at hl k hk) (kj o ho H locs ls hP hD hS hl)
def lsto (i : Nat) (v : Value) (L : List (Nat × Value)) : List (Nat × Value) := (i, v) :: L.filter (fun q => !(q.1 == i) && !(q.1 + 1 == i && q.2.category == 2))
theorem j_istore_n {n : Fin 4} {i : Nat} {x : Int32} {L1 : List (Nat × Value)} (ks : List Nat) (G : Gd X b nL own ret rm) (hd : decode b pc = .ok (.istore_n n, 1)) (hi : (n : Nat) = i) (hn : i < nL) (hL : lv_pick (lsto i (.int x) L) ks = L1) (kj : J wd X Q nL (pc + 1) L1 st σ mm) : J wd X Q nL pc L (.int x :: st) σ mm := fun o ho H locs ls hP hD hS hl => lv_istore_n G.x G.c hd hi hl hn rfl (fun ls1 hl1 => kj o ho H locs ls1 hP hD hS (lv_sub hl1 ks hL))
theorem j_istore {i : Nat} {x : Int32} {L1 : List (Nat × Value)} (ks : List Nat) (G : Gd X b nL own ret rm) (hd : decode b pc = .ok (.istore i, 2)) (hn : i < nL) (hL : lv_pick (lsto i (.int x) L) ks = L1) (kj : J wd X Q nL (pc + 2) L1 st σ mm) : J wd X Q nL pc L (.int x :: st) σ mm := fun o ho H locs ls hP hD hS hl => lv_istore G.x G.c hd hl hn rfl (fun ls1 hl1 => kj o ho H locs ls1 hP hD hS (lv_sub hl1 ks hL))
theorem j_iinc {i : Nat} {n : Int} {x v : Int32} {L1 : List (Nat × Value)} (k : Nat) (ks : List Nat) (G : Gd X b nL own ret rm) (hd : decode b pc = .ok (.iinc i n, 3)) (hk : L[k]? = some (i, .int x)) (hv : x + Int32.ofInt n = v) (hn : i < nL) (hL : lv_pick (lsto i (.int v) L) ks = L1) (kj : J wd X Q nL (pc + 3) L1 st σ mm) : J wd X Q nL pc L st σ mm := fun o ho H locs ls hP hD hS hl => lv_iinc G.x G.c hd hl hk hv hn rfl (fun ls1 hl1 => kj o ho H locs ls1 hP hD hS (lv_sub hl1 ks hL))
theorem j_sub {L1 : List (Nat × Value)} (ks : List Nat) (hL : lv_pick L ks = L1) (kj : J wd X Q nL pc L1 st σ mm) : J wd X Q nL pc L st σ mm := fun o ho H locs ls hP hD hS hl => kj o ho H locs ls hP hD hS (lv_sub hl ks hL)
theorem j_nm {x : Int32} {kk : Int32 → Option (Int32 × S)} (k : ∀ v : Int32, J wd X Q nL pc L (.int v :: st) σ (kk v)) : J wd X Q nL pc L (.int x :: st) σ (nm x kk) := k x
theorem j_ns {τ : S} {kk : S → Option (Int32 × S)} (k : ∀ v : S, J wd X Q nL pc L st v (kk v)) : J wd X Q nL pc L st τ (ns τ kk) := k τ
theorem j_iret {v : Int32} (G : Gd X b nL own (some .int) rm) (hd : decode b pc = .ok (.ireturn, 1)) : J wd X (QI wd X) nL pc L [.int v] σ (some (v, σ)) := fun o ho H locs ls hP hD hS hl => by
  cases ho
  exact W.iret (hlocks := G.k) G.x G.c G.r (fun t ht hW => ⟨⟨v, σ, rfl, ⟨rfl, rfl⟩, okw_of G hP hD hS ht hW.alike⟩, hS.F ht⟩) hS.2.2 hd
theorem j_zret {v : Int32} (G : Gd X b nL own (some .boolean) rm) (hd : decode b pc = .ok (.ireturn, 1)) : J wd X (QI wd X) nL pc L [.int v] σ (gd (isB v) (some (v, σ))) := fun o ho H locs ls hP hD hS hl => by
  obtain ⟨hv, ho⟩ := gd_some ho
  cases ho
  exact W.zret (hlocks := G.k) G.x G.c G.r (isB_ok hv).1 (fun t ht hW => ⟨⟨v, σ, rfl, ⟨rfl, rfl⟩, okw_of G hP hD hS ht hW.alike⟩, hS.F ht⟩) hS.2.2 hd
theorem j_zretc {v : Int32} (hv : isB v = true) (G : Gd X b nL own (some .boolean) rm) (hd : decode b pc = .ok (.ireturn, 1)) : J wd X (QI wd X) nL pc L [.int v] σ (some (v, σ)) := fun o ho H locs ls hP hD hS hl => by
  cases ho
  exact W.zret (hlocks := G.k) G.x G.c G.r (isB_ok hv).1 (fun t ht hW => ⟨⟨v, σ, rfl, ⟨rfl, rfl⟩, okw_of G hP hD hS ht hW.alike⟩, hS.F ht⟩) hS.2.2 hd
theorem j_vret (G : Gd X b nL own none rm) (hd : decode b pc = .ok (.return_, 1)) : J wd X (QV wd X) nL pc L [] σ (some (0, σ)) := fun o ho H locs ls hP hD hS hl => by
  cases ho
  exact W.vret (hlocks := G.k) G.x G.c G.r (fun t ht hW => ⟨⟨σ, rfl, rfl, okw_of G hP hD hS ht hW.alike⟩, hS.F ht⟩) hS.2.2 hd
theorem j_callVi {y : MethodName} {yb : ByteArray} {yn n f fl yf yl idx : Nat} {yret : Option FieldType} {a : Nat} {As rest st0 : List Value} {kk : Int32 → S → Option (Int32 × S)}
    (G : Gd X b nL own ret (rmm f fl)) (hM : CtI wd (xl X) (xE X) y yb yn yret (rmm yf yl) (.ref a :: As) σ m1) (hm : MwV y yb yn yret n) (hlk : Cond.methodLink own idx y ∈ CW) (hr : Rcv wd (xE X) a y.cls) (hn : As.length = n) (hst : st0 = As.reverse ++ .ref a :: rest) (hc : (rest.map fun v => v.category).sum ≤ 8) (hrm : rok yf yl yn f fl = true) (hd : decode b pc = .ok (.invokevirtual idx, 3)) (kj : ∀ (r : Int32) (u : S), J wd X Q nL (pc + 3) L (.int r :: rest) u (kk r u)) : J wd X Q nL pc L st0 σ (bd m1 kk) := fun o ho H locs ls hP hD hS hl => by
  obtain ⟨z, hz1, hz2⟩ := bd_some ho
  have hB : CallB (xR X) (xs X) (xa X) own idx y yb yn yret (Cond.code y yb yn yret :: CW) (rmm yf yl) 0 0 n := callB_of n G.t (cw_in (fun w hw => by
    rcases List.mem_cons.mp hw with rfl | h
    · exact hm.1.2.1
    · exact h)) rfl rfl rfl (G.t _ hm.1.1) (G.t _ hlk) hm.1.2.2 (by rw [G.R]; exact rok_1 hrm)
  obtain ⟨q0, ci, fs, T, N, hr1, hr2⟩ := hr σ
  refine va_calli (va_runV (Ts := CW) (C := y.cls) (b := a) (As := As) (rest := rest) ⟨G.x, G.c, G.n, G.o, G.t⟩ (hM z hz1) ⟨hB, G.t _ hm.2.1, G.t _ hm.2.2⟩ ⟨Okw.blind, va_recv G.K hP hr2 hr1, fun U hU hW => ⟨rfl, okw_of G hP hD hS hU hW.alike⟩⟩ rfl hn hl.1 hst (lv_room hc) hd ⟨Nat.zero_le _, Nat.zero_le _⟩) hS (fun q _ h => h) (fun q h => h) ?_
  intro r u t H1 locs1 ht hvm hpost hB1 hz hk hS1
  obtain ⟨h1, h2⟩ := hpost
  subst h1; subst h2
  obtain ⟨hP1, -, hD1, -⟩ := hB1
  rw [ht] at hP1
  exact kj z.1 z.2 o hz2 H1 locs1 ls hP1 hD1 hS1 hl
theorem j_callVv {y : MethodName} {yb : ByteArray} {yn n f fl yf yl idx : Nat} {yret : Option FieldType} {a : Nat} {As rest st0 : List Value} {kk : Int32 → S → Option (Int32 × S)}
    (G : Gd X b nL own ret (rmm f fl)) (hM : CtV wd (xl X) (xE X) y yb yn yret (rmm yf yl) (.ref a :: As) σ m1) (hm : MwV y yb yn yret n) (hlk : Cond.methodLink own idx y ∈ CW) (hr : Rcv wd (xE X) a y.cls) (hn : As.length = n) (hst : st0 = As.reverse ++ .ref a :: rest) (hc : (rest.map fun v => v.category).sum ≤ 8) (hrm : rok yf yl yn f fl = true) (hd : decode b pc = .ok (.invokevirtual idx, 3)) (kj : ∀ (z : Int32) (u : S), J wd X Q nL (pc + 3) L rest u (kk z u)) : J wd X Q nL pc L st0 σ (bd m1 kk) := fun o ho H locs ls hP hD hS hl => by
  obtain ⟨z, hz1, hz2⟩ := bd_some ho
  have hB : CallB (xR X) (xs X) (xa X) own idx y yb yn yret (Cond.code y yb yn yret :: CW) (rmm yf yl) 0 0 n := callB_of n G.t (cw_in (fun w hw => by
    rcases List.mem_cons.mp hw with rfl | h
    · exact hm.1.2.1
    · exact h)) rfl rfl rfl (G.t _ hm.1.1) (G.t _ hlk) hm.1.2.2 (by rw [G.R]; exact rok_1 hrm)
  obtain ⟨q0, ci, fs, T, N, hr1, hr2⟩ := hr σ
  refine va_callv (va_runV (Ts := CW) (C := y.cls) (b := a) (As := As) (rest := rest) ⟨G.x, G.c, G.n, G.o, G.t⟩ (hM z hz1) ⟨hB, G.t _ hm.2.1, G.t _ hm.2.2⟩ ⟨Okw.blind, va_recv G.K hP hr2 hr1, fun U hU hW => ⟨rfl, okw_of G hP hD hS hU hW.alike⟩⟩ rfl hn hl.1 hst (lv_room hc) hd ⟨Nat.zero_le _, Nat.zero_le _⟩) hS (fun q _ h => h) (fun q h => h) ?_
  intro u t H1 locs1 ht hvm hpost hB1 hz hk hS1
  subst hpost
  obtain ⟨hP1, -, hD1, -⟩ := hB1
  rw [ht] at hP1
  exact kj z.1 z.2 o hz2 H1 locs1 ls hP1 hD1 hS1 hl
theorem j_callSi {y : MethodName} {yb : ByteArray} {yn n f fl yf yl idx : Nat} {yret : Option FieldType} {As rest st0 : List Value} {kk : Int32 → S → Option (Int32 × S)}
    (G : Gd X b nL own ret (rmm f fl)) (hM : CtI wd (xl X) (xE X) y yb yn yret (rmm yf yl) (As) σ m1) (hm : MwS y yb yn yret n) (hlk : Cond.methodLink own idx y ∈ CW) (hn : As.length = n) (hst : st0 = As.reverse ++ rest) (hc : (rest.map fun v => v.category).sum ≤ 8) (hrm : rok yf yl yn f fl = true) (hd : decode b pc = .ok (.invokestatic idx, 3)) (kj : ∀ (r : Int32) (u : S), J wd X Q nL (pc + 3) L (.int r :: rest) u (kk r u)) : J wd X Q nL pc L st0 σ (bd m1 kk) := fun o ho H locs ls hP hD hS hl => by
  obtain ⟨z, hz1, hz2⟩ := bd_some ho
  have hB : CallB (xR X) (xs X) (xa X) own idx y yb yn yret (Cond.code y yb yn yret :: CW) (rmm yf yl) 0 0 n := callB_of n G.t (cw_in (fun w hw => by
    rcases List.mem_cons.mp hw with rfl | h
    · exact hm.1.2.1
    · exact h)) rfl rfl rfl (G.t _ hm.1.1) (G.t _ hlk) hm.1.2.2 (by rw [G.R]; exact rok_1 hrm)
  refine va_calli (va_runS (Ts := CW) (As := As) (rest := rest) ⟨G.x, G.c, G.n, G.o, G.t⟩ (hM z hz1) ⟨hB, G.t _ hm.2⟩ ⟨Okw.blind, fun U hU hW => ⟨rfl, okw_of G hP hD hS hU hW.alike⟩⟩ rfl hn hl.1 hst (lv_room hc) hd ⟨Nat.zero_le _, Nat.zero_le _⟩) hS (fun q _ h => h) (fun q h => h) ?_
  intro r u t H1 locs1 ht hvm hpost hB1 hz hk hS1
  obtain ⟨h1, h2⟩ := hpost
  subst h1; subst h2
  obtain ⟨hP1, -, hD1, -⟩ := hB1
  rw [ht] at hP1
  exact kj z.1 z.2 o hz2 H1 locs1 ls hP1 hD1 hS1 hl
theorem j_callSv {y : MethodName} {yb : ByteArray} {yn n f fl yf yl idx : Nat} {yret : Option FieldType} {As rest st0 : List Value} {kk : Int32 → S → Option (Int32 × S)}
    (G : Gd X b nL own ret (rmm f fl)) (hM : CtV wd (xl X) (xE X) y yb yn yret (rmm yf yl) (As) σ m1) (hm : MwS y yb yn yret n) (hlk : Cond.methodLink own idx y ∈ CW) (hn : As.length = n) (hst : st0 = As.reverse ++ rest) (hc : (rest.map fun v => v.category).sum ≤ 8) (hrm : rok yf yl yn f fl = true) (hd : decode b pc = .ok (.invokestatic idx, 3)) (kj : ∀ (z : Int32) (u : S), J wd X Q nL (pc + 3) L rest u (kk z u)) : J wd X Q nL pc L st0 σ (bd m1 kk) := fun o ho H locs ls hP hD hS hl => by
  obtain ⟨z, hz1, hz2⟩ := bd_some ho
  have hB : CallB (xR X) (xs X) (xa X) own idx y yb yn yret (Cond.code y yb yn yret :: CW) (rmm yf yl) 0 0 n := callB_of n G.t (cw_in (fun w hw => by
    rcases List.mem_cons.mp hw with rfl | h
    · exact hm.1.2.1
    · exact h)) rfl rfl rfl (G.t _ hm.1.1) (G.t _ hlk) hm.1.2.2 (by rw [G.R]; exact rok_1 hrm)
  refine va_callv (va_runS (Ts := CW) (As := As) (rest := rest) ⟨G.x, G.c, G.n, G.o, G.t⟩ (hM z hz1) ⟨hB, G.t _ hm.2⟩ ⟨Okw.blind, fun U hU hW => ⟨rfl, okw_of G hP hD hS hU hW.alike⟩⟩ rfl hn hl.1 hst (lv_room hc) hd ⟨Nat.zero_le _, Nat.zero_le _⟩) hS (fun q _ h => h) (fun q h => h) ?_
  intro u t H1 locs1 ht hvm hpost hB1 hz hk hS1
  subst hpost
  obtain ⟨hP1, -, hD1, -⟩ := hB1
  rw [ht] at hP1
  exact kj z.1 z.2 o hz2 H1 locs1 ls hP1 hD1 hS1 hl
theorem j_Vi0 {y : MethodName} {yb : ByteArray} {yn f fl yf yl idx : Nat} {yret : Option FieldType} {a : Nat} {rest : List Value} {kk : Int32 → S → Option (Int32 × S)} (G : Gd X b nL own ret (rmm f fl)) (hM : CtI wd (xl X) (xE X) y yb yn yret (rmm yf yl) (.ref a :: []) σ m1) (hm : MwV y yb yn yret 0) (hlk : Cond.methodLink own idx y ∈ CW) (hr : Rcv wd (xE X) a y.cls) (hd : decode b pc = .ok (.invokevirtual idx, 3)) (hrm : rok yf yl yn f fl = true) (hc : (rest.map fun v => v.category).sum ≤ 8) (kj : ∀ (r : Int32) (u : S), J wd X Q nL (pc + 3) L (.int r :: rest) u (kk r u)) : J wd X Q nL pc L (.ref a :: rest) σ (bd m1 kk) := j_callVi (As := []) G hM hm hlk hr rfl rfl hc hrm hd kj
theorem j_Vi1 {y : MethodName} {yb : ByteArray} {yn f fl yf yl idx : Nat} {yret : Option FieldType} {a : Nat} {a1 : Int32} {rest : List Value} {kk : Int32 → S → Option (Int32 × S)} (G : Gd X b nL own ret (rmm f fl)) (hM : CtI wd (xl X) (xE X) y yb yn yret (rmm yf yl) (.ref a :: [.int a1]) σ m1) (hm : MwV y yb yn yret 1) (hlk : Cond.methodLink own idx y ∈ CW) (hr : Rcv wd (xE X) a y.cls) (hd : decode b pc = .ok (.invokevirtual idx, 3)) (hrm : rok yf yl yn f fl = true) (hc : (rest.map fun v => v.category).sum ≤ 8) (kj : ∀ (r : Int32) (u : S), J wd X Q nL (pc + 3) L (.int r :: rest) u (kk r u)) : J wd X Q nL pc L (.int a1 :: .ref a :: rest) σ (bd m1 kk) := j_callVi (As := [.int a1]) G hM hm hlk hr rfl rfl hc hrm hd kj
theorem j_Vi2 {y : MethodName} {yb : ByteArray} {yn f fl yf yl idx : Nat} {yret : Option FieldType} {a : Nat} {a1 a2 : Int32} {rest : List Value} {kk : Int32 → S → Option (Int32 × S)} (G : Gd X b nL own ret (rmm f fl)) (hM : CtI wd (xl X) (xE X) y yb yn yret (rmm yf yl) (.ref a :: [.int a1, .int a2]) σ m1) (hm : MwV y yb yn yret 2) (hlk : Cond.methodLink own idx y ∈ CW) (hr : Rcv wd (xE X) a y.cls) (hd : decode b pc = .ok (.invokevirtual idx, 3)) (hrm : rok yf yl yn f fl = true) (hc : (rest.map fun v => v.category).sum ≤ 8) (kj : ∀ (r : Int32) (u : S), J wd X Q nL (pc + 3) L (.int r :: rest) u (kk r u)) : J wd X Q nL pc L (.int a2 :: .int a1 :: .ref a :: rest) σ (bd m1 kk) := j_callVi (As := [.int a1, .int a2]) G hM hm hlk hr rfl rfl hc hrm hd kj
theorem j_Vi3 {y : MethodName} {yb : ByteArray} {yn f fl yf yl idx : Nat} {yret : Option FieldType} {a : Nat} {a1 a2 a3 : Int32} {rest : List Value} {kk : Int32 → S → Option (Int32 × S)} (G : Gd X b nL own ret (rmm f fl)) (hM : CtI wd (xl X) (xE X) y yb yn yret (rmm yf yl) (.ref a :: [.int a1, .int a2, .int a3]) σ m1) (hm : MwV y yb yn yret 3) (hlk : Cond.methodLink own idx y ∈ CW) (hr : Rcv wd (xE X) a y.cls) (hd : decode b pc = .ok (.invokevirtual idx, 3)) (hrm : rok yf yl yn f fl = true) (hc : (rest.map fun v => v.category).sum ≤ 8) (kj : ∀ (r : Int32) (u : S), J wd X Q nL (pc + 3) L (.int r :: rest) u (kk r u)) : J wd X Q nL pc L (.int a3 :: .int a2 :: .int a1 :: .ref a :: rest) σ (bd m1 kk) := j_callVi (As := [.int a1, .int a2, .int a3]) G hM hm hlk hr rfl rfl hc hrm hd kj
theorem j_Vi4 {y : MethodName} {yb : ByteArray} {yn f fl yf yl idx : Nat} {yret : Option FieldType} {a : Nat} {a1 a2 a3 a4 : Int32} {rest : List Value} {kk : Int32 → S → Option (Int32 × S)} (G : Gd X b nL own ret (rmm f fl)) (hM : CtI wd (xl X) (xE X) y yb yn yret (rmm yf yl) (.ref a :: [.int a1, .int a2, .int a3, .int a4]) σ m1) (hm : MwV y yb yn yret 4) (hlk : Cond.methodLink own idx y ∈ CW) (hr : Rcv wd (xE X) a y.cls) (hd : decode b pc = .ok (.invokevirtual idx, 3)) (hrm : rok yf yl yn f fl = true) (hc : (rest.map fun v => v.category).sum ≤ 8) (kj : ∀ (r : Int32) (u : S), J wd X Q nL (pc + 3) L (.int r :: rest) u (kk r u)) : J wd X Q nL pc L (.int a4 :: .int a3 :: .int a2 :: .int a1 :: .ref a :: rest) σ (bd m1 kk) := j_callVi (As := [.int a1, .int a2, .int a3, .int a4]) G hM hm hlk hr rfl rfl hc hrm hd kj
theorem j_Vv0 {y : MethodName} {yb : ByteArray} {yn f fl yf yl idx : Nat} {yret : Option FieldType} {a : Nat} {rest : List Value} {kk : Int32 → S → Option (Int32 × S)} (G : Gd X b nL own ret (rmm f fl)) (hM : CtV wd (xl X) (xE X) y yb yn yret (rmm yf yl) (.ref a :: []) σ m1) (hm : MwV y yb yn yret 0) (hlk : Cond.methodLink own idx y ∈ CW) (hr : Rcv wd (xE X) a y.cls) (hd : decode b pc = .ok (.invokevirtual idx, 3)) (hrm : rok yf yl yn f fl = true) (hc : (rest.map fun v => v.category).sum ≤ 8) (kj : ∀ (z : Int32) (u : S), J wd X Q nL (pc + 3) L rest u (kk z u)) : J wd X Q nL pc L (.ref a :: rest) σ (bd m1 kk) := j_callVv (As := []) G hM hm hlk hr rfl rfl hc hrm hd kj
theorem j_Vv1 {y : MethodName} {yb : ByteArray} {yn f fl yf yl idx : Nat} {yret : Option FieldType} {a : Nat} {a1 : Int32} {rest : List Value} {kk : Int32 → S → Option (Int32 × S)} (G : Gd X b nL own ret (rmm f fl)) (hM : CtV wd (xl X) (xE X) y yb yn yret (rmm yf yl) (.ref a :: [.int a1]) σ m1) (hm : MwV y yb yn yret 1) (hlk : Cond.methodLink own idx y ∈ CW) (hr : Rcv wd (xE X) a y.cls) (hd : decode b pc = .ok (.invokevirtual idx, 3)) (hrm : rok yf yl yn f fl = true) (hc : (rest.map fun v => v.category).sum ≤ 8) (kj : ∀ (z : Int32) (u : S), J wd X Q nL (pc + 3) L rest u (kk z u)) : J wd X Q nL pc L (.int a1 :: .ref a :: rest) σ (bd m1 kk) := j_callVv (As := [.int a1]) G hM hm hlk hr rfl rfl hc hrm hd kj
theorem j_Vv2 {y : MethodName} {yb : ByteArray} {yn f fl yf yl idx : Nat} {yret : Option FieldType} {a : Nat} {a1 a2 : Int32} {rest : List Value} {kk : Int32 → S → Option (Int32 × S)} (G : Gd X b nL own ret (rmm f fl)) (hM : CtV wd (xl X) (xE X) y yb yn yret (rmm yf yl) (.ref a :: [.int a1, .int a2]) σ m1) (hm : MwV y yb yn yret 2) (hlk : Cond.methodLink own idx y ∈ CW) (hr : Rcv wd (xE X) a y.cls) (hd : decode b pc = .ok (.invokevirtual idx, 3)) (hrm : rok yf yl yn f fl = true) (hc : (rest.map fun v => v.category).sum ≤ 8) (kj : ∀ (z : Int32) (u : S), J wd X Q nL (pc + 3) L rest u (kk z u)) : J wd X Q nL pc L (.int a2 :: .int a1 :: .ref a :: rest) σ (bd m1 kk) := j_callVv (As := [.int a1, .int a2]) G hM hm hlk hr rfl rfl hc hrm hd kj
theorem j_Vv3 {y : MethodName} {yb : ByteArray} {yn f fl yf yl idx : Nat} {yret : Option FieldType} {a : Nat} {a1 a2 a3 : Int32} {rest : List Value} {kk : Int32 → S → Option (Int32 × S)} (G : Gd X b nL own ret (rmm f fl)) (hM : CtV wd (xl X) (xE X) y yb yn yret (rmm yf yl) (.ref a :: [.int a1, .int a2, .int a3]) σ m1) (hm : MwV y yb yn yret 3) (hlk : Cond.methodLink own idx y ∈ CW) (hr : Rcv wd (xE X) a y.cls) (hd : decode b pc = .ok (.invokevirtual idx, 3)) (hrm : rok yf yl yn f fl = true) (hc : (rest.map fun v => v.category).sum ≤ 8) (kj : ∀ (z : Int32) (u : S), J wd X Q nL (pc + 3) L rest u (kk z u)) : J wd X Q nL pc L (.int a3 :: .int a2 :: .int a1 :: .ref a :: rest) σ (bd m1 kk) := j_callVv (As := [.int a1, .int a2, .int a3]) G hM hm hlk hr rfl rfl hc hrm hd kj
theorem j_Vv4 {y : MethodName} {yb : ByteArray} {yn f fl yf yl idx : Nat} {yret : Option FieldType} {a : Nat} {a1 a2 a3 a4 : Int32} {rest : List Value} {kk : Int32 → S → Option (Int32 × S)} (G : Gd X b nL own ret (rmm f fl)) (hM : CtV wd (xl X) (xE X) y yb yn yret (rmm yf yl) (.ref a :: [.int a1, .int a2, .int a3, .int a4]) σ m1) (hm : MwV y yb yn yret 4) (hlk : Cond.methodLink own idx y ∈ CW) (hr : Rcv wd (xE X) a y.cls) (hd : decode b pc = .ok (.invokevirtual idx, 3)) (hrm : rok yf yl yn f fl = true) (hc : (rest.map fun v => v.category).sum ≤ 8) (kj : ∀ (z : Int32) (u : S), J wd X Q nL (pc + 3) L rest u (kk z u)) : J wd X Q nL pc L (.int a4 :: .int a3 :: .int a2 :: .int a1 :: .ref a :: rest) σ (bd m1 kk) := j_callVv (As := [.int a1, .int a2, .int a3, .int a4]) G hM hm hlk hr rfl rfl hc hrm hd kj
theorem j_Si1 {y : MethodName} {yb : ByteArray} {yn f fl yf yl idx : Nat} {yret : Option FieldType} {a1 : Int32} {rest : List Value} {kk : Int32 → S → Option (Int32 × S)} (G : Gd X b nL own ret (rmm f fl)) (hM : CtI wd (xl X) (xE X) y yb yn yret (rmm yf yl) ([.int a1]) σ m1) (hm : MwS y yb yn yret 1) (hlk : Cond.methodLink own idx y ∈ CW) (hd : decode b pc = .ok (.invokestatic idx, 3)) (hrm : rok yf yl yn f fl = true) (hc : (rest.map fun v => v.category).sum ≤ 8) (kj : ∀ (r : Int32) (u : S), J wd X Q nL (pc + 3) L (.int r :: rest) u (kk r u)) : J wd X Q nL pc L (.int a1 :: rest) σ (bd m1 kk) := j_callSi (As := [.int a1]) G hM hm hlk rfl rfl hc hrm hd kj
theorem j_Si2 {y : MethodName} {yb : ByteArray} {yn f fl yf yl idx : Nat} {yret : Option FieldType} {a1 a2 : Int32} {rest : List Value} {kk : Int32 → S → Option (Int32 × S)} (G : Gd X b nL own ret (rmm f fl)) (hM : CtI wd (xl X) (xE X) y yb yn yret (rmm yf yl) ([.int a1, .int a2]) σ m1) (hm : MwS y yb yn yret 2) (hlk : Cond.methodLink own idx y ∈ CW) (hd : decode b pc = .ok (.invokestatic idx, 3)) (hrm : rok yf yl yn f fl = true) (hc : (rest.map fun v => v.category).sum ≤ 8) (kj : ∀ (r : Int32) (u : S), J wd X Q nL (pc + 3) L (.int r :: rest) u (kk r u)) : J wd X Q nL pc L (.int a2 :: .int a1 :: rest) σ (bd m1 kk) := j_callSi (As := [.int a1, .int a2]) G hM hm hlk rfl rfl hc hrm hd kj
theorem j_Si3 {y : MethodName} {yb : ByteArray} {yn f fl yf yl idx : Nat} {yret : Option FieldType} {a1 a2 a3 : Int32} {rest : List Value} {kk : Int32 → S → Option (Int32 × S)} (G : Gd X b nL own ret (rmm f fl)) (hM : CtI wd (xl X) (xE X) y yb yn yret (rmm yf yl) ([.int a1, .int a2, .int a3]) σ m1) (hm : MwS y yb yn yret 3) (hlk : Cond.methodLink own idx y ∈ CW) (hd : decode b pc = .ok (.invokestatic idx, 3)) (hrm : rok yf yl yn f fl = true) (hc : (rest.map fun v => v.category).sum ≤ 8) (kj : ∀ (r : Int32) (u : S), J wd X Q nL (pc + 3) L (.int r :: rest) u (kk r u)) : J wd X Q nL pc L (.int a3 :: .int a2 :: .int a1 :: rest) σ (bd m1 kk) := j_callSi (As := [.int a1, .int a2, .int a3]) G hM hm hlk rfl rfl hc hrm hd kj
theorem j_Si4 {y : MethodName} {yb : ByteArray} {yn f fl yf yl idx : Nat} {yret : Option FieldType} {a1 a2 a3 a4 : Int32} {rest : List Value} {kk : Int32 → S → Option (Int32 × S)} (G : Gd X b nL own ret (rmm f fl)) (hM : CtI wd (xl X) (xE X) y yb yn yret (rmm yf yl) ([.int a1, .int a2, .int a3, .int a4]) σ m1) (hm : MwS y yb yn yret 4) (hlk : Cond.methodLink own idx y ∈ CW) (hd : decode b pc = .ok (.invokestatic idx, 3)) (hrm : rok yf yl yn f fl = true) (hc : (rest.map fun v => v.category).sum ≤ 8) (kj : ∀ (r : Int32) (u : S), J wd X Q nL (pc + 3) L (.int r :: rest) u (kk r u)) : J wd X Q nL pc L (.int a4 :: .int a3 :: .int a2 :: .int a1 :: rest) σ (bd m1 kk) := j_callSi (As := [.int a1, .int a2, .int a3, .int a4]) G hM hm hlk rfl rfl hc hrm hd kj
theorem j_Sv1 {y : MethodName} {yb : ByteArray} {yn f fl yf yl idx : Nat} {yret : Option FieldType} {a1 : Int32} {rest : List Value} {kk : Int32 → S → Option (Int32 × S)} (G : Gd X b nL own ret (rmm f fl)) (hM : CtV wd (xl X) (xE X) y yb yn yret (rmm yf yl) ([.int a1]) σ m1) (hm : MwS y yb yn yret 1) (hlk : Cond.methodLink own idx y ∈ CW) (hd : decode b pc = .ok (.invokestatic idx, 3)) (hrm : rok yf yl yn f fl = true) (hc : (rest.map fun v => v.category).sum ≤ 8) (kj : ∀ (z : Int32) (u : S), J wd X Q nL (pc + 3) L rest u (kk z u)) : J wd X Q nL pc L (.int a1 :: rest) σ (bd m1 kk) := j_callSv (As := [.int a1]) G hM hm hlk rfl rfl hc hrm hd kj
theorem j_Sv2 {y : MethodName} {yb : ByteArray} {yn f fl yf yl idx : Nat} {yret : Option FieldType} {a1 a2 : Int32} {rest : List Value} {kk : Int32 → S → Option (Int32 × S)} (G : Gd X b nL own ret (rmm f fl)) (hM : CtV wd (xl X) (xE X) y yb yn yret (rmm yf yl) ([.int a1, .int a2]) σ m1) (hm : MwS y yb yn yret 2) (hlk : Cond.methodLink own idx y ∈ CW) (hd : decode b pc = .ok (.invokestatic idx, 3)) (hrm : rok yf yl yn f fl = true) (hc : (rest.map fun v => v.category).sum ≤ 8) (kj : ∀ (z : Int32) (u : S), J wd X Q nL (pc + 3) L rest u (kk z u)) : J wd X Q nL pc L (.int a2 :: .int a1 :: rest) σ (bd m1 kk) := j_callSv (As := [.int a1, .int a2]) G hM hm hlk rfl rfl hc hrm hd kj
theorem j_Sv3 {y : MethodName} {yb : ByteArray} {yn f fl yf yl idx : Nat} {yret : Option FieldType} {a1 a2 a3 : Int32} {rest : List Value} {kk : Int32 → S → Option (Int32 × S)} (G : Gd X b nL own ret (rmm f fl)) (hM : CtV wd (xl X) (xE X) y yb yn yret (rmm yf yl) ([.int a1, .int a2, .int a3]) σ m1) (hm : MwS y yb yn yret 3) (hlk : Cond.methodLink own idx y ∈ CW) (hd : decode b pc = .ok (.invokestatic idx, 3)) (hrm : rok yf yl yn f fl = true) (hc : (rest.map fun v => v.category).sum ≤ 8) (kj : ∀ (z : Int32) (u : S), J wd X Q nL (pc + 3) L rest u (kk z u)) : J wd X Q nL pc L (.int a3 :: .int a2 :: .int a1 :: rest) σ (bd m1 kk) := j_callSv (As := [.int a1, .int a2, .int a3]) G hM hm hlk rfl rfl hc hrm hd kj
theorem j_Sv4 {y : MethodName} {yb : ByteArray} {yn f fl yf yl idx : Nat} {yret : Option FieldType} {a1 a2 a3 a4 : Int32} {rest : List Value} {kk : Int32 → S → Option (Int32 × S)} (G : Gd X b nL own ret (rmm f fl)) (hM : CtV wd (xl X) (xE X) y yb yn yret (rmm yf yl) ([.int a1, .int a2, .int a3, .int a4]) σ m1) (hm : MwS y yb yn yret 4) (hlk : Cond.methodLink own idx y ∈ CW) (hd : decode b pc = .ok (.invokestatic idx, 3)) (hrm : rok yf yl yn f fl = true) (hc : (rest.map fun v => v.category).sum ≤ 8) (kj : ∀ (z : Int32) (u : S), J wd X Q nL (pc + 3) L rest u (kk z u)) : J wd X Q nL pc L (.int a4 :: .int a3 :: .int a2 :: .int a1 :: rest) σ (bd m1 kk) := j_callSv (As := [.int a1, .int a2, .int a3, .int a4]) G hM hm hlk rfl rfl hc hrm hd kj
theorem j_get (q0 : Nat) {a ci idx : Nat} {fs : List Value} {C : String} {T : u_T} {N : Nat} {v : Value} (k : Nat) (he : (wd (eO (xE X)) (eC (xE X)) σ)[q0]? = some (a, .inr (ci, fs))) (hc : vwCl[ci]? = some (C, T, N)) (hin : ∀ w ∈ u_ws C T N, w ∈ CW) (hk : k < N) (hlk : Cond.fieldLink own idx C (T k).2.1 (T k).2.2.1 ∈ CW) (hdecl : (T k).1 = C) (hv : fs[k]? = some v) (G : Gd X b nL own ret rm) (hd : decode b pc = .ok (.getfield idx, 3)) (kj : J wd X Q nL (pc + 3) L (v :: st) σ mm) : J wd X Q nL pc L (.ref a :: st) σ mm := fun o ho H locs ls hP hD hS hl =>
  va_get (D := eD (xE X)) (ci := ci) (v := v) (C := C) (T := T) (N := N) G.x G.c G.t hin G.o G.K hP q0 he hc k hk (G.t _ hlk) (fun x9 h9 => by rw [hdecl] at h9; exact h9) hv hd (kj o ho H locs ls hP hD hS hl)
theorem j_put (q0 : Nat) {a ci idx : Nat} {fs : List Value} {C : String} {T : u_T} {N : Nat} {v : Value} {ty : FieldType} (k : Nat) (ty0 : Nat → FieldType) (he : (wd (eO (xE X)) (eC (xE X)) σ)[q0]? = some (a, .inr (ci, fs))) (hc : vwCl[ci]? = some (C, T, N)) (hin : ∀ w ∈ u_ws C T N, w ∈ CW) (hty : ∀ k, k < N → parseFieldDescriptor (T k).2.2.1 = some (ty0 k)) (hnm : ∀ a, a < N → ∀ b, b < N → a ≠ b → (T a).2.1 ≠ (T b).2.1) (hk : k < N) (hlk : Cond.fieldLink own idx C (T k).2.1 (T k).2.2.1 ∈ CW) (hdecl : (T k).1 = C) (hfin : (T k).2.2.2 = false) (hd0 : parseFieldDescriptor (T k).2.2.1 = some ty) (hn : narrow ty v = v) (hfit : fits ty v = true) (hl0 : k < fs.length) (σ1 : S) (hσ : (wd (eO (xE X)) (eC (xE X)) σ).set q0 (a, .inr (ci, fs.set k v)) = wd (eO (xE X)) (eC (xE X)) σ1) (G : Gd X b nL own ret rm) (hd : decode b pc = .ok (.putfield idx, 3)) (kj : J wd X Q nL (pc + 3) L st σ1 mm) : J wd X Q nL pc L (v :: .ref a :: st) σ mm := fun o ho H locs ls hP hD hS hl =>
  va_put (D := eD (xE X)) (ci := ci) (v := v) (ty := ty) (C := C) (T := T) (N := N) G.x G.c G.t hin ty0 hty hnm G.o G.K hP hD hS q0 he hc k hk (G.t _ hlk) (fun x9 h9 => by rw [hdecl] at h9; exact h9) hfin hd0 hn hfit hl0 hd (fun H1 locs1 hP1 hD1 hS1 => kj o ho H1 locs1 ls (hσ ▸ hP1) (hσ ▸ hD1) hS1 hl)
theorem j_ald (q0 : Nat) {a n : Nat} {f : Nat → Int32} {i : Int32} (ha : (wd (eO (xE X)) (eC (xE X)) σ)[q0]? = some (a, .inl (eC (xE X), n, .inl f))) (G : Gd X b nL own ret rm) (hd : decode b pc = .ok (.iaload, 1)) (kj : J wd X Q nL (pc + 1) L (.int (f i.toNatClampNeg) :: st) σ mm) : J wd X Q nL pc L (.int i :: .ref a :: st) σ (gd (okI i n) mm) := fun o ho H locs ls hP hD hS hl => by
  obtain ⟨hi, ho⟩ := gd_some ho
  exact va_iald G.x G.c G.K hP q0 0 ha rfl (okI_in hi) hd (kj o ho H locs ls hP hD hS hl)
theorem j_aldc (q0 : Nat) {a n j : Nat} {f : Nat → Int32} {i : Int32} (ha : (wd (eO (xE X)) (eC (xE X)) σ)[q0]? = some (a, .inl (eC (xE X), n, .inl f))) (hi : okI i n = true) (hj : i.toNatClampNeg = j) (G : Gd X b nL own ret rm) (hd : decode b pc = .ok (.iaload, 1)) (kj : J wd X Q nL (pc + 1) L (.int (f j) :: st) σ mm) : J wd X Q nL pc L (.int i :: .ref a :: st) σ mm := fun o ho H locs ls hP hD hS hl => by
  subst hj
  exact va_iald G.x G.c G.K hP q0 0 ha rfl (okI_in hi) hd (kj o ho H locs ls hP hD hS hl)
theorem j_ast (q0 : Nat) {a n : Nat} {f : Nat → Int32} {i x : Int32} (ha : (wd (eO (xE X)) (eC (xE X)) σ)[q0]? = some (a, .inl (eC (xE X), n, .inl f))) (σ1 : S) (hσ : (wd (eO (xE X)) (eC (xE X)) σ).set q0 (a, .inl (eC (xE X), n, .inl (upd f i.toNatClampNeg x))) = wd (eO (xE X)) (eC (xE X)) σ1) (G : Gd X b nL own ret rm) (hd : decode b pc = .ok (.iastore, 1)) (kj : J wd X Q nL (pc + 1) L st σ1 mm) : J wd X Q nL pc L (.int x :: .int i :: .ref a :: st) σ (gd (okI i n) mm) := fun o ho H locs ls hP hD hS hl => by
  obtain ⟨hi, ho⟩ := gd_some ho
  exact va_iast G.x G.c G.K hP hD hS q0 0 ha rfl (okI_in hi) hd (fun H1 locs1 hP1 hD1 hS1 => kj o ho H1 locs1 ls (hσ ▸ hP1) (hσ ▸ hD1) hS1 hl)
theorem j_astc (q0 : Nat) {a n j : Nat} {f : Nat → Int32} {i x : Int32} (ha : (wd (eO (xE X)) (eC (xE X)) σ)[q0]? = some (a, .inl (eC (xE X), n, .inl f))) (σ1 : S) (hi : okI i n = true) (hj : i.toNatClampNeg = j) (hσ : (wd (eO (xE X)) (eC (xE X)) σ).set q0 (a, .inl (eC (xE X), n, .inl (upd f j x))) = wd (eO (xE X)) (eC (xE X)) σ1) (G : Gd X b nL own ret rm) (hd : decode b pc = .ok (.iastore, 1)) (kj : J wd X Q nL (pc + 1) L st σ1 mm) : J wd X Q nL pc L (.int x :: .int i :: .ref a :: st) σ mm := fun o ho H locs ls hP hD hS hl => by
  subst hj
  exact va_iast G.x G.c G.K hP hD hS q0 0 ha rfl (okI_in hi) hd (fun H1 locs1 hP1 hD1 hS1 => kj o ho H1 locs1 ls (hσ ▸ hP1) (hσ ▸ hD1) hS1 hl)
theorem j_gets (k : Nat) {idx : Nat} (hk : k < 5) (hlk : Cond.fieldLink own idx R_chip (tnm k) "[I" ∈ CW) (G : Gd X b nL own ret rm) (hd : decode b pc = .ok (.getstatic idx, 3)) (kj : J wd X Q nL (pc + 3) L (.ref (eT (xE X) k) :: st) σ mm) : J wd X Q nL pc L st σ mm := fun o ho H locs ls hP hD hS hl =>
  va_gets G.x G.c (G.S k hk).1 hS G.o (G.t _ hlk) (fun _ h => h) hd (kj o ho H locs ls hP hD hS hl)
theorem j_tald (k : Nat) {i : Int32} (hk : k < 5) (G : Gd X b nL own ret rm) (hd : decode b pc = .ok (.iaload, 1)) (kj : J wd X Q nL (pc + 1) L (.int (tvl k i.toNatClampNeg) :: st) σ mm) : J wd X Q nL pc L (.int i :: .ref (eT (xE X) k) :: st) σ (gd (okI i (tln k)) mm) := fun o ho H locs ls hP hD hS hl => by
  obtain ⟨hi, ho⟩ := gd_some ho
  exact va_ti G.x G.c (G.S k hk).2 hS (okI_in hi) rfl hd (kj o ho H locs ls hP hD hS hl)
-- switches
def JA (wd : WD S) (X : Cx) (Q : Int32 × S → State → Prop) (nL : Nat) (L : List (Nat × Value)) (st : List Value) (σ : S) : List (Int32 × Nat × Option (Int32 × S)) → Prop
  | [] => True
  | (_, t, m) :: r => J wd X Q nL t L st σ m ∧ JA wd X Q nL L st σ r
theorem ja_at {dt : Nat} {md : Option (Int32 × S)} (hd : J wd X Q nL dt L st σ md) (x : Int32) : ∀ cs : List (Int32 × Nat × Option (Int32 × S)), JA wd X Q nL L st σ cs → J wd X Q nL (swt x cs dt) L st σ (swi x cs md)
  | [], _ => hd
  | c :: r, h => by
    by_cases hx : x = c.1
    · rw [swt, swi, if_pos hx, if_pos hx]; exact h.1
    · rw [swt, swi, if_neg hx, if_neg hx]; exact ja_at hd x r h.2
def swz (z : Int) : List (Int32 × Nat) → Nat → Nat
  | [], d => d
  | c :: r, d => if z = c.1.toInt then c.2 else swz z r d
def tck (pc : Nat) (dflt lo hi : Int) (offs : Array Int) (ks : List (Int32 × Nat)) (dt : Nat) : Bool :=
  decide ((pc : Int) + dflt = (dt : Int)) && ks.all (fun q => decide (lo ≤ q.1.toInt) && decide (q.1.toInt ≤ hi)) && (List.range (hi - lo + 1).toNat).all (fun j => decide (offs[j]? = some ((swz (lo + (j : Int)) ks dt : Int) - (pc : Int))))
theorem swz_swt {α : Type} (x : Int32) (dt : Nat) : ∀ cs : List (Int32 × Nat × α), swz x.toInt (cs.map (fun c => (c.1, c.2.1))) dt = swt x cs dt
  | [] => rfl
  | c :: r => by
    by_cases hx : x = c.1
    · rw [swt, if_pos hx, List.map_cons, swz, if_pos (by rw [hx])]
    · rw [swt, if_neg hx, List.map_cons, swz, if_neg (fun h => hx (Int32.toInt_inj.mp h))]
      exact swz_swt x dt r
theorem swt_out {α : Type} {x : Int32} {dt : Nat} : ∀ cs : List (Int32 × Nat × α), (∀ c ∈ cs, x ≠ c.1) → swt x cs dt = dt
  | [], _ => rfl
  | c :: r, h => by
    rw [swt, if_neg (h c List.mem_cons_self)]
    exact swt_out r (fun d hd => h d (List.mem_cons_of_mem _ hd))
theorem j_ts {x : Int32} {dflt lo hi : Int} {offs : Array Int} {len dt : Nat} {cs : List (Int32 × Nat × Option (Int32 × S))} {md : Option (Int32 × S)} (ks : List (Int32 × Nat)) (G : Gd X b nL own ret rm) (hd : decode b pc = .ok (.tableswitch dflt lo hi offs, len)) (hks : cs.map (fun c => (c.1, c.2.1)) = ks) (hck : tck pc dflt lo hi offs ks dt = true) (hcs : JA wd X Q nL L st σ cs) (hdf : J wd X Q nL dt L st σ md) : J wd X Q nL pc L (.int x :: st) σ (swi x cs md) := fun o ho H locs ls hP hD hS hl => by
  have key := ja_at hdf x cs hcs o ho H locs ls hP hD hS hl
  subst hks
  unfold tck at hck
  simp only [Bool.and_eq_true, decide_eq_true_eq, List.all_eq_true] at hck
  obtain ⟨⟨h1, h2⟩, h3⟩ := hck
  by_cases hr : x.toInt < lo ∨ hi < x.toInt
  · refine lv_tableOut G.x G.c hd hr (tgt := swt x cs dt) ?_ key
    rw [swt_out cs (fun c hc he => ?_)]
    · exact h1
    · have h4 := h2 (c.1, c.2.1) (List.mem_map.mpr ⟨c, hc, rfl⟩)
      subst he
      dsimp only at h4
      omega
  · have hlo : ¬ x.toInt < lo := fun h => hr (Or.inl h)
    have hhi : ¬ hi < x.toInt := fun h => hr (Or.inr h)
    have h5 := h3 (x.toInt - lo).toNat (List.mem_range.mpr (by omega))
    have h6 : lo + ((x.toInt - lo).toNat : Int) = x.toInt := by omega
    rw [h6, swz_swt] at h5
    refine lv_tableIn G.x G.c hd hlo hhi h5 (tgt := swt x cs dt) (by omega) key
end
theorem ct_i {S : Type} {wd : WD S} {l : Launch} {E : Ev} {y : MethodName} {b : ByteArray} {n f fl : Nat} {ret : Option FieldType} {av : List Value} {σ : S} {mm : Option (Int32 × S)} (hy : plainName y.cls = true) (hn : (lg_sl av).length ≤ n) (body : ∀ X : Cx, xE X = E → xl X = l → Gd X b n y.cls ret (rmm f fl) → J wd X (QI wd X) n 0 (lv_args 0 av) [] σ mm) : CtI wd l E y b n ret (rmm f fl) av σ mm := by
  intro o ho
  refine Met.ofW (cc := b) (maxL := n) (ret := ret) hy rfl ?_
  intro p e s m args below meth c s₁ B hml hv
  obtain ⟨rfl, hP, hK, hD, hS⟩ := hv
  have hl := lv_entry av (n := n) hn
  rw [lg_entry_eq]
  exact body ((p, l, e, rmm f fl, s), (m, av.toArray, below, meth, c), E) rfl rfl ⟨B.exec, B.bytes, hml, findClass_of_methodNamed B.named, fun w hw => atoms_spec (ws := Cond.code y b n ret :: CW) B.pre w (List.mem_cons_of_mem _ hw), B.notSynchronized, B.returns, rfl, hK, hS⟩ o ho s.heap [] _ hP hD va_S.rf hl
theorem ct_v {S : Type} {wd : WD S} {l : Launch} {E : Ev} {y : MethodName} {b : ByteArray} {n f fl : Nat} {ret : Option FieldType} {av : List Value} {σ : S} {mm : Option (Int32 × S)} (hy : plainName y.cls = true) (hn : (lg_sl av).length ≤ n) (body : ∀ X : Cx, xE X = E → xl X = l → Gd X b n y.cls ret (rmm f fl) → J wd X (QV wd X) n 0 (lv_args 0 av) [] σ mm) : CtV wd l E y b n ret (rmm f fl) av σ mm := by
  intro o ho
  refine Met.ofW (cc := b) (maxL := n) (ret := ret) hy rfl ?_
  intro p e s m args below meth c s₁ B hml hv
  obtain ⟨rfl, hP, hK, hD, hS⟩ := hv
  have hl := lv_entry av (n := n) hn
  rw [lg_entry_eq]
  exact body ((p, l, e, rmm f fl, s), (m, av.toArray, below, meth, c), E) rfl rfl ⟨B.exec, B.bytes, hml, findClass_of_methodNamed B.named, fun w hw => atoms_spec (ws := Cond.code y b n ret :: CW) B.pre w (List.mem_cons_of_mem _ hw), B.notSynchronized, B.returns, rfl, hK, hS⟩ o ho s.heap [] _ hP hD va_S.rf hl
