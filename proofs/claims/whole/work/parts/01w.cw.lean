-- the words that go through every call
def CW : List Cond := lw_tbl.filter goodWord
theorem cw_mem {w : Cond} (h1 : w ∈ lw_tbl) (h2 : goodWord w = true) : w ∈ CW := List.mem_filter.mpr ⟨h1, h2⟩
theorem cw_i {w : Cond} (i : Nat) (h1 : lw_tbl[i]? = some w) (h2 : goodWord w = true) : w ∈ CW := cw_mem (List.mem_of_getElem? h1) h2
theorem cw_good : ∀ w ∈ CW, goodWord w = true := fun _ h => (List.mem_filter.mp h).2
theorem cw_in {ws : List Cond} (h : ∀ w ∈ ws, w ∈ CW) : GoodIn CW ws := fun w hw => ⟨h w hw, good_of_word (cw_good w (h w hw))⟩
def Mw0 (y : MethodName) (b : ByteArray) (n : Nat) (ret : Option FieldType) (k : Nat) : Prop := Cond.initialized y.cls ∈ CW ∧ Cond.code y b n ret ∈ CW ∧ y.cls ≠ "java/lang/invoke/MethodHandle" ∧ y.cls ≠ "java/lang/invoke/VarHandle" ∧ (parseMethodDescriptor y.desc).map (fun d => d.parameters.length) = some k
def MwV (y : MethodName) (b : ByteArray) (n : Nat) (ret : Option FieldType) (k : Nat) : Prop := Mw0 y b n ret k ∧ Cond.instanceMethod y ∈ CW ∧ Cond.selects y.cls y y ∈ CW
def MwS (y : MethodName) (b : ByteArray) (n : Nat) (ret : Option FieldType) (k : Nat) : Prop := Mw0 y b n ret k ∧ Cond.static y ∈ CW
