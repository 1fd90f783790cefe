/-! words and links: what they say -/
def TWg : List Cond := lw_tbl.filter goodWord
theorem tw_mem {w : Cond} (i : Nat) (h : lw_tbl[i]? = some w) (g : goodWord w = true) : w ∈ TWg := List.mem_filter.mpr ⟨List.mem_of_getElem? h, g⟩
def nests : List (String × Nat × MethodName × String) := [(RX1, 58, yX6_isKey, RX6), (RX1, 81, yX6_isMap, RX6), (RX2, 53, yX6_isKey, RX6), (RX3, 38, yX6_isMap, RX6)]
def clC : Nat → String
  | 0 => RX0
  | 1 => RX1
  | 2 => RX3
  | 3 => RX4
  | 4 => RX5
  | 5 => RX6
  | _ => RX7
def clT : Nat → u_T
  | 0 => TX0
  | 1 => TX1
  | 2 => TX3
  | 3 => TX4
  | 4 => TX5
  | 5 => TX6
  | _ => TX7
def clN : Nat → Nat
  | 0 => 4
  | 1 => 5
  | 2 => 4
  | 3 => 3
  | 4 => 3
  | 5 => 7
  | _ => 20
/-- a list's words are all in another: by their places in lw_tbl -/
theorem cl_dec (ws : List Cond) (h : ws.all (fun w => decide (w ∈ lw_tbl) && goodWord w) = true) : ∀ w ∈ ws, w ∈ TWg := by
  intro w hw
  have h1 := List.all_eq_true.mp h w hw
  simp only [Bool.and_eq_true, decide_eq_true_eq] at h1
  exact List.mem_filter.mpr ⟨h1.1, h1.2⟩
/-- a field's link in a class's pool -/
def FL (own : String) (idx ci k : Nat) : Prop := ci < 7 ∧ k < clN ci ∧ Cond.fieldLink own idx (clT ci k).1 (clT ci k).2.1 (clT ci k).2.2.1 ∈ TWg
def LB (y : MethodName) (cc : ByteArray) (maxL : Nat) (ret : Option FieldType) (nA : Nat) : Prop := Cond.code y cc maxL ret ∈ TWg ∧ Cond.initialized y.cls ∈ TWg ∧ (y.cls ≠ "java/lang/invoke/MethodHandle" ∧ y.cls ≠ "java/lang/invoke/VarHandle" ∧ (parseMethodDescriptor y.desc).map (fun d => d.parameters.length) = some nA)
def LV (own : String) (idx : Nat) (C : String) (y : MethodName) : Prop := Cond.methodLink own idx y ∈ TWg ∧ Cond.instanceMethod y ∈ TWg ∧ Cond.selects C y y ∈ TWg
def LSt (own : String) (idx : Nat) (y : MethodName) : Prop := Cond.methodLink own idx y ∈ TWg ∧ Cond.static y ∈ TWg
def LN (own : String) (idx : Nat) (y : MethodName) (host : String) : Prop := (own, idx, y, host) ∈ nests ∧ Cond.static y ∈ TWg
