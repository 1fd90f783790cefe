/-! MY OWN LAYER: one memory of two functions (ints, references) over fixed shapes; a walk is told of it alone (WX), a method's contract too (CtI, CtV). -/
theorem tw_good : ∀ w ∈ TWg, (w.onTables && w.keeps) = true ∨ ∃ ty, w = .arrayClass ty := fun w h => good_of_word (List.mem_filter.mp h).2
def TWs (y : MethodName) (cc : ByteArray) (maxL : Nat) (ret : Option FieldType) : List Cond := .code y cc maxL ret :: TWg
theorem tw_sub {y : MethodName} {cc : ByteArray} {maxL : Nat} {ret : Option FieldType} (h : Cond.code y cc maxL ret ∈ TWg) : GoodIn TWg (TWs y cc maxL ret) := by
  intro w hw
  rcases List.mem_cons.mp hw with rfl | h2
  · exact ⟨h, tw_good _ h⟩
  · exact ⟨h2, tw_good _ h2⟩
abbrev Shp : Type := (ClassId × FieldType × Nat) ⊕ Nat
abbrev IM : Type := Nat → Nat → Int32
abbrev JM : Type := Nat → Nat → Option Nat
abbrev SM : Type := Nat → Option Shp
/-- which fields of a class of vwCl are references -/
def fK : Nat → List Bool
  | 0 => [true, true, true, false]
  | 1 => [true, true, true, true, false]
  | 2 => [true, false, false, false]
  | 3 => [true, true, false]
  | 4 => [true, false, false]
  | 5 => [true, true, true, true, true, false, false]
  | _ => [true, true, false, true, false, true, true, false, true, false, false, false, true, true, true, true, true, false, true, true]
def gmF (ci : Nat) (I : IM) (J : JM) (a : Nat) : List Value := (List.range (fK ci).length).map (fun k => if (fK ci).getD k false = true then va_rf (J a k) else .int (I a k))
def gmE (I : IM) (J : JM) (a : Nat) : Shp → va_E
  | .inl (cA, ty, n) => .inl (cA, n, if refKind ty = true then .inr (.inr (.inr (.inr (J a)))) else .inl (I a))
  | .inr ci => .inr (ci, gmF ci I J a)
def AKs (s : State) : Shp → Prop
  | .inl (cA, ty, _) => ArrOfT s cA ty ∧ va_RA s cA ty
  | .inr _ => True
theorem AKs.moved {u U : State} (hvm : u.vm.Alike U.vm) {sh : Shp} (h : AKs u sh) : AKs U sh := by
  rcases sh with ⟨cA, ty, n⟩ | ci
  · exact ⟨arrOfT_moved hvm h.1, h.2.moved hvm⟩
  · trivial
def HG (s : State) (D : va_G) (A : Nat → Prop) (N : Nat) (Sh : SM) (I : IM) (J : JM) (H : Heap) : Prop :=
  H.size = N ∧ ∀ a sh, Sh a = some sh → va_at D vwCl (a, gmE I J a sh) H ∧ A a ∧ AKs s sh
theorem HG.moved {u U : State} (hvm : u.vm.Alike U.vm) {D : va_G} {A : Nat → Prop} {N : Nat} {Sh : SM} {I : IM} {J : JM} {H : Heap} (h : HG u D A N Sh I J H) : HG U D A N Sh I J H :=
  ⟨h.1, fun a sh hs => ⟨(h.2 a sh hs).1, (h.2 a sh hs).2.1, (h.2 a sh hs).2.2.moved hvm⟩⟩
def KN (D : va_G) (U : State) : Prop := ∀ (c : Nat) (q : vw_C), vwCl[c]? = some q → u_Kn U q.1 q.2.1 q.2.2 (D.1 c) (D.2 c)
theorem KN.moved {D : va_G} {u U : State} (hvm : u.vm.Alike U.vm) (h : KN D u) : KN D U := fun c q hq => u_Kn_moved hvm (h c q hq)
def NW (U : State) : Prop := ∀ q ∈ nests, va_Nw (.methodLinkNest q.1 q.2.1 q.2.2.1 q.2.2.2) U
theorem NW.warm {s U : State} (hW : s.WarmedH U.vm) (h : NW s) : NW U := fun q hq => va_Nw.warmM hW (h q hq)
theorem NW.same {u U : State} (hv : u.vm = U.vm) (h : NW u) : NW U := fun q hq => va_Nw.same rfl hv (h q hq)
abbrev CxA : Type := Program × Launch × Env × Room × State × MethodId × Array Value × List Frame × Method × Code
abbrev Cx : Type := CxA × va_G × (Nat → Prop) × (State → Prop)
def rmD (d : Nat) : Room := { frames := d, cells := 0, slots := 0, locals := 40 * d }
/-- what holds all along a walk: the machine, the code, the words, the classes -/
def XK (X : Cx) (own : String) (cc : ByteArray) (nL : Nat) (d : Nat) : Prop :=
  X.1.1.tables.exec = Jvm.exec ∧ X.1.2.2.2.2.2.2.2.2.2.code = cc ∧ X.1.2.2.2.2.2.2.2.2.2.maxLocals = nL ∧ X.1.2.2.2.2.1.vm.findClass own = some X.1.2.2.2.2.2.1.cls ∧ (∀ w ∈ TWg, w.before X.1.2.2.2.2.2.2.1 X.1.2.2.2.2.1 = true) ∧ KN X.2.1 X.1.2.2.2.2.1 ∧ NW X.1.2.2.2.2.1 ∧ d ≤ X.1.2.2.2.1.frames ∧ 40 * d ≤ X.1.2.2.2.1.locals
def WX (X : Cx) (k n N : Nat) (Sh : SM) (I : IM) (J : JM) (pc : Nat) (l : List (Nat × Value)) (st : List Value) : Prop :=
  ∀ (H : Heap) (locs : List Loc) (ls : Array Slot), HG X.1.2.2.2.2.1 X.2.1 X.2.2.1 N Sh I J H → va_S X.2.2.1 X.1.2.2.2.2.1.heap H locs → lv_has ls X.1.2.2.2.2.2.2.2.2.2.maxLocals l →
    W X.1.1 X.1.2.1 X.1.2.2.1 X.1.2.2.2.1 X.1.2.2.2.2.1 X.1.2.2.2.2.2.1 X.1.2.2.2.2.2.2.1 X.1.2.2.2.2.2.2.2.1 X.1.2.2.2.2.2.2.2.2.1 X.1.2.2.2.2.2.2.2.2.2 H locs k n X.2.2.2 (F0 X.1.2.2.2.2.2.1 pc ls st)
def lget : List (Nat × Value) → Nat → Option Value
  | [], _ => none
  | q :: r, i => bif Nat.beq q.1 i then some q.2 else lget r i
theorem lget_mem : ∀ {l : List (Nat × Value)} {i : Nat} {v : Value}, lget l i = some v → (i, v) ∈ l
  | [], _, _, h => by cases h
  | q :: r, i, v, h => by
    unfold lget at h
    cases hb : Nat.beq q.1 i with
    | true =>
      rw [hb] at h
      have h1 : q.2 = v := Option.some.inj h
      have h2 := Nat.eq_of_beq_eq_true hb
      rw [← h1, ← h2]
      exact List.mem_cons_self
    | false =>
      rw [hb] at h
      exact List.mem_cons_of_mem _ (lget_mem h)
def lkeep (i : Nat) (q : Nat × Value) : Bool := !(q.1 == i) && !(q.1 + 1 == i && q.2.category == 2)
def ldel : List (Nat × Value) → Nat → List (Nat × Value)
  | [], _ => []
  | q :: r, i => bif Nat.beq q.1 i then ldel r i else bif (Nat.beq (q.1 + 1) i && Nat.beq q.2.category 2) then ldel r i else q :: ldel r i
def lput : List (Nat × Value) → Nat → Value → List (Nat × Value)
  | [], i, v => [(i, v)]
  | q :: r, i, v => bif Nat.beq q.1 i then (i, v) :: ldel r i else bif (Nat.beq (q.1 + 1) i && Nat.beq q.2.category 2) then lput r i v else q :: lput r i v
theorem lkeep_of {i : Nat} {q : Nat × Value} (h1 : Nat.beq q.1 i = false) (h2 : (Nat.beq (q.1 + 1) i && Nat.beq q.2.category 2) = false) : (!(q.1 == i) && !(q.1 + 1 == i && q.2.category == 2)) = true := by
  have hq : ∀ a b : Nat, (a == b) = Nat.beq a b := fun a b => by
    cases h : Nat.beq a b with
    | true => rw [Nat.eq_of_beq_eq_true h]; simp
    | false => simpa using Nat.ne_of_beq_eq_false h
  have e1 : (q.1 == i) = false := (hq _ _).trans h1
  have e2 : (q.1 + 1 == i && q.2.category == 2) = false := by rw [hq, hq]; exact h2
  rw [e1, e2]
  rfl
theorem ldel_mem : ∀ {l : List (Nat × Value)} {i : Nat} {q : Nat × Value}, q ∈ ldel l i → q ∈ l ∧ (!(q.1 == i) && !(q.1 + 1 == i && q.2.category == 2)) = true
  | [], _, _, h => by cases h
  | x :: r, i, q, h => by
    unfold ldel at h
    cases hb : Nat.beq x.1 i with
    | true =>
      rw [hb] at h
      have := ldel_mem (l := r) h
      exact ⟨List.mem_cons_of_mem _ this.1, this.2⟩
    | false =>
      rw [hb] at h
      cases hc : (Nat.beq (x.1 + 1) i && Nat.beq x.2.category 2) with
      | true =>
        rw [hc] at h
        have := ldel_mem (l := r) h
        exact ⟨List.mem_cons_of_mem _ this.1, this.2⟩
      | false =>
        rw [hc] at h
        rcases List.mem_cons.mp h with e | h
        · rw [e]
          exact ⟨List.mem_cons_self, lkeep_of hb hc⟩
        · have := ldel_mem (l := r) h
          exact ⟨List.mem_cons_of_mem _ this.1, this.2⟩
theorem lput_mem : ∀ {l : List (Nat × Value)} {i : Nat} {v : Value} {q : Nat × Value}, q ∈ lput l i v → q ∈ (i, v) :: l.filter (fun q => !(q.1 == i) && !(q.1 + 1 == i && q.2.category == 2))
  | [], _, _, _, h => h
  | x :: r, i, v, q, h => by
    unfold lput at h
    cases hb : Nat.beq x.1 i with
    | true =>
      rw [hb] at h
      rcases List.mem_cons.mp h with e | h
      · rw [e]
        exact List.mem_cons_self
      · have := ldel_mem h
        exact List.mem_cons_of_mem _ (List.mem_filter.mpr ⟨List.mem_cons_of_mem _ this.1, this.2⟩)
    | false =>
      rw [hb] at h
      cases hc : (Nat.beq (x.1 + 1) i && Nat.beq x.2.category 2) with
      | true =>
        rw [hc] at h
        rcases List.mem_cons.mp (lput_mem (l := r) h) with e | h
        · rw [e]
          exact List.mem_cons_self
        · exact List.mem_cons_of_mem _ (List.mem_filter.mpr ⟨List.mem_cons_of_mem _ (List.mem_filter.mp h).1, (List.mem_filter.mp h).2⟩)
      | false =>
        rw [hc] at h
        rcases List.mem_cons.mp h with e | h
        · rw [e]
          exact List.mem_cons_of_mem _ (List.mem_filter.mpr ⟨List.mem_cons_self, lkeep_of hb hc⟩)
        · rcases List.mem_cons.mp (lput_mem (l := r) h) with e | h
          · rw [e]
            exact List.mem_cons_self
          · exact List.mem_cons_of_mem _ (List.mem_filter.mpr ⟨List.mem_cons_of_mem _ (List.mem_filter.mp h).1, (List.mem_filter.mp h).2⟩)
theorem lv_put {ls : Array Slot} {nL i : Nat} {v : Value} {l : List (Nat × Value)} (h : lv_has ls nL ((i, v) :: l.filter (fun q => !(q.1 == i) && !(q.1 + 1 == i && q.2.category == 2)))) : lv_has ls nL (lput l i v) :=
  ⟨h.1, h.2.1, fun q hq => h.2.2 q (lput_mem hq)⟩
theorem lv_less {ls : Array Slot} {nL : Nat} {l l' : List (Nat × Value)} (h : lv_has ls nL l) (hs : ∀ q ∈ l', lget l q.1 = some q.2) : lv_has ls nL l' :=
  ⟨h.1, h.2.1, fun q hq => h.2.2 (q.1, q.2) (lget_mem (hs q hq))⟩
section WXR
variable {X : Cx} {own : String} {cc : ByteArray} {nL d : Nat} {k n N : Nat} {Sh : SM} {I : IM} {J : JM} {pc : Nat} {l : List (Nat × Value)} {st : List Value}
/-- fewer listed locals, in another order -/
theorem wx_loc {l' : List (Nat × Value)} (hs : ∀ q ∈ l', lget l q.1 = some q.2) (kk : WX X k n N Sh I J pc l' st) : WX X k n N Sh I J pc l st :=
  fun H locs ls h1 h2 h3 => kk H locs ls h1 h2 (lv_less h3 hs)
theorem wx_pc {pc' : Nat} (e : pc' = pc) (kk : WX X k n N Sh I J pc l st) : WX X k n N Sh I J pc' l st := e ▸ kk
theorem wx_st {st' : List Value} (e : st' = st) (kk : WX X k n N Sh I J pc l st) : WX X k n N Sh I J pc l st' := e ▸ kk
theorem wa_iconst (hX : XK X own cc nL d) {n1 : Int} {v : Int32} (hd : decode cc pc = .ok (.iconst n1, 1)) (hv : Int32.ofInt n1 = v) (kk : WX X k n N Sh I J (pc + 1) l (.int v :: st)) : WX X k n N Sh I J pc l st :=
  fun H locs ls h1 h2 h3 => lv_iconst hX.1 hX.2.1 hd hv (kk H locs ls h1 h2 h3)
theorem wa_bipush (hX : XK X own cc nL d) {n1 : Int} {v : Int32} (hd : decode cc pc = .ok (.bipush n1, 2)) (hv : (Int8.ofInt n1).toInt32 = v) (kk : WX X k n N Sh I J (pc + 2) l (.int v :: st)) : WX X k n N Sh I J pc l st :=
  fun H locs ls h1 h2 h3 => lv_bipush hX.1 hX.2.1 hd hv (kk H locs ls h1 h2 h3)
theorem wa_sipush (hX : XK X own cc nL d) {n1 : Int} {v : Int32} (hd : decode cc pc = .ok (.sipush n1, 3)) (hv : (Int16.ofInt n1).toInt32 = v) (kk : WX X k n N Sh I J (pc + 3) l (.int v :: st)) : WX X k n N Sh I J pc l st :=
  fun H locs ls h1 h2 h3 => lv_sipush hX.1 hX.2.1 hd hv (kk H locs ls h1 h2 h3)
theorem wa_ldc (hX : XK X own cc nL d) {index : Nat} {v : Int32} (hc : Cond.constant own index v ∈ TWg) (hd : decode cc pc = .ok (.ldc index, 2)) (kk : WX X k n N Sh I J (pc + 2) l (.int v :: st)) : WX X k n N Sh I J pc l st :=
  fun H locs ls h1 h2 h3 => lv_ldc hX.1 hX.2.1 hX.2.2.2.1 (hX.2.2.2.2.1 _ hc) hd (kk H locs ls h1 h2 h3)
theorem wa_iload_n (hX : XK X own cc nL d) {q : Fin 4} {x : Int32} (hd : decode cc pc = .ok (.iload_n q, 1)) (hl : lget l q.val = some (.int x)) (kk : WX X k n N Sh I J (pc + 1) l (.int x :: st)) : WX X k n N Sh I J pc l st :=
  fun H locs ls h1 h2 h3 => lv_iload_n hX.1 hX.2.1 hd rfl (h3.2.2 _ (lget_mem hl)) (kk H locs ls h1 h2 h3)
theorem wa_iload (hX : XK X own cc nL d) {q : Nat} {x : Int32} (hd : decode cc pc = .ok (.iload q, 2)) (hl : lget l q = some (.int x)) (kk : WX X k n N Sh I J (pc + 2) l (.int x :: st)) : WX X k n N Sh I J pc l st :=
  fun H locs ls h1 h2 h3 => lv_iload hX.1 hX.2.1 hd (h3.2.2 _ (lget_mem hl)) (kk H locs ls h1 h2 h3)
theorem wa_aload_n (hX : XK X own cc nL d) {q : Fin 4} {x : Nat} (hd : decode cc pc = .ok (.aload_n q, 1)) (hl : lget l q.val = some (.ref x)) (kk : WX X k n N Sh I J (pc + 1) l (.ref x :: st)) : WX X k n N Sh I J pc l st :=
  fun H locs ls h1 h2 h3 => lv_aload_n hX.1 hX.2.1 hd rfl (h3.2.2 _ (lget_mem hl)) (kk H locs ls h1 h2 h3)
theorem wa_aload (hX : XK X own cc nL d) {q : Nat} {x : Nat} (hd : decode cc pc = .ok (.aload q, 2)) (hl : lget l q = some (.ref x)) (kk : WX X k n N Sh I J (pc + 2) l (.ref x :: st)) : WX X k n N Sh I J pc l st :=
  fun H locs ls h1 h2 h3 => lv_aload hX.1 hX.2.1 hd (h3.2.2 _ (lget_mem hl)) (kk H locs ls h1 h2 h3)
theorem wa_istore_n (hX : XK X own cc nL d) {q : Fin 4} {x : Int32} (hd : decode cc pc = .ok (.istore_n q, 1)) (hn : q.val < nL) (kk : WX X k n N Sh I J (pc + 1) (lput l q.val (.int x)) st) : WX X k n N Sh I J pc l (.int x :: st) :=
  fun H locs ls h1 h2 h3 => lv_istore_n hX.1 hX.2.1 hd rfl h3 (by rw [hX.2.2.1]; exact hn) rfl (fun ls' h4 => kk H locs ls' h1 h2 (lv_put h4))
theorem wa_istore (hX : XK X own cc nL d) {q : Nat} {x : Int32} (hd : decode cc pc = .ok (.istore q, 2)) (hn : q < nL) (kk : WX X k n N Sh I J (pc + 2) (lput l q (.int x)) st) : WX X k n N Sh I J pc l (.int x :: st) :=
  fun H locs ls h1 h2 h3 => lv_istore hX.1 hX.2.1 hd h3 (by rw [hX.2.2.1]; exact hn) rfl (fun ls' h4 => kk H locs ls' h1 h2 (lv_put h4))
theorem wa_astore_n (hX : XK X own cc nL d) {q : Fin 4} {x : Nat} (hd : decode cc pc = .ok (.astore_n q, 1)) (hn : q.val < nL) (kk : WX X k n N Sh I J (pc + 1) (lput l q.val (.ref x)) st) : WX X k n N Sh I J pc l (.ref x :: st) :=
  fun H locs ls h1 h2 h3 => lv_astore_n hX.1 hX.2.1 hd rfl h3 (by rw [hX.2.2.1]; exact hn) rfl (fun ls' h4 => kk H locs ls' h1 h2 (lv_put h4))
theorem wa_astore (hX : XK X own cc nL d) {q : Nat} {x : Nat} (hd : decode cc pc = .ok (.astore q, 2)) (hn : q < nL) (kk : WX X k n N Sh I J (pc + 2) (lput l q (.ref x)) st) : WX X k n N Sh I J pc l (.ref x :: st) :=
  fun H locs ls h1 h2 h3 => lv_astore hX.1 hX.2.1 hd h3 (by rw [hX.2.2.1]; exact hn) rfl (fun ls' h4 => kk H locs ls' h1 h2 (lv_put h4))
theorem lget_ix : ∀ {l : List (Nat × Value)} {i : Nat} {v : Value}, lget l i = some v → ∃ j : Nat, l[j]? = some (i, v)
  | l, i, v, h => List.mem_iff_getElem?.mp (lget_mem h)
theorem wa_iinc (hX : XK X own cc nL d) {q : Nat} {n1 : Int} {x v : Int32} (hd : decode cc pc = .ok (.iinc q n1, 3)) (hl : lget l q = some (.int x)) (hv : x + Int32.ofInt n1 = v) (hn : q < nL) (kk : WX X k n N Sh I J (pc + 3) (lput l q (.int v)) st) : WX X k n N Sh I J pc l st :=
  fun H locs ls h1 h2 h3 => by
    obtain ⟨j, hj⟩ := lget_ix hl
    exact lv_iinc hX.1 hX.2.1 hd h3 hj hv (by rw [hX.2.2.1]; exact hn) rfl (fun ls' h4 => kk H locs ls' h1 h2 (lv_put h4))
theorem wa_iadd (hX : XK X own cc nL d) {x y : Int32} (hd : decode cc pc = .ok (.iadd, 1)) (kk : WX X k n N Sh I J (pc + 1) l (.int (x + y) :: st)) : WX X k n N Sh I J pc l (.int y :: .int x :: st) :=
  fun H locs ls h1 h2 h3 => lv_iadd hX.1 hX.2.1 hd (kk H locs ls h1 h2 h3)
theorem wa_isub (hX : XK X own cc nL d) {x y : Int32} (hd : decode cc pc = .ok (.isub, 1)) (kk : WX X k n N Sh I J (pc + 1) l (.int (x - y) :: st)) : WX X k n N Sh I J pc l (.int y :: .int x :: st) :=
  fun H locs ls h1 h2 h3 => lv_isub hX.1 hX.2.1 hd (kk H locs ls h1 h2 h3)
theorem wa_imul (hX : XK X own cc nL d) {x y : Int32} (hd : decode cc pc = .ok (.imul, 1)) (kk : WX X k n N Sh I J (pc + 1) l (.int (x * y) :: st)) : WX X k n N Sh I J pc l (.int y :: .int x :: st) :=
  fun H locs ls h1 h2 h3 => lv_imul hX.1 hX.2.1 hd (kk H locs ls h1 h2 h3)
theorem wa_iand (hX : XK X own cc nL d) {x y : Int32} (hd : decode cc pc = .ok (.iand, 1)) (kk : WX X k n N Sh I J (pc + 1) l (.int (x &&& y) :: st)) : WX X k n N Sh I J pc l (.int y :: .int x :: st) :=
  fun H locs ls h1 h2 h3 => lv_iand hX.1 hX.2.1 hd (kk H locs ls h1 h2 h3)
theorem wa_ior (hX : XK X own cc nL d) {x y : Int32} (hd : decode cc pc = .ok (.ior, 1)) (kk : WX X k n N Sh I J (pc + 1) l (.int (x ||| y) :: st)) : WX X k n N Sh I J pc l (.int y :: .int x :: st) :=
  fun H locs ls h1 h2 h3 => lv_ior hX.1 hX.2.1 hd (kk H locs ls h1 h2 h3)
theorem wa_ixor (hX : XK X own cc nL d) {x y : Int32} (hd : decode cc pc = .ok (.ixor, 1)) (kk : WX X k n N Sh I J (pc + 1) l (.int (x ^^^ y) :: st)) : WX X k n N Sh I J pc l (.int y :: .int x :: st) :=
  fun H locs ls h1 h2 h3 => lv_ixor hX.1 hX.2.1 hd (kk H locs ls h1 h2 h3)
theorem wa_ineg (hX : XK X own cc nL d) {x : Int32} (hd : decode cc pc = .ok (.ineg, 1)) (kk : WX X k n N Sh I J (pc + 1) l (.int (-x) :: st)) : WX X k n N Sh I J pc l (.int x :: st) :=
  fun H locs ls h1 h2 h3 => lv_ineg hX.1 hX.2.1 hd (kk H locs ls h1 h2 h3)
theorem wa_idiv (hX : XK X own cc nL d) {x y : Int32} (hd : decode cc pc = .ok (.idiv, 1)) (hne : ¬ y = 0) (kk : WX X k n N Sh I J (pc + 1) l (.int (x / y) :: st)) : WX X k n N Sh I J pc l (.int y :: .int x :: st) :=
  fun H locs ls h1 h2 h3 => lv_idiv hX.1 hX.2.1 hd hne (kk H locs ls h1 h2 h3)
theorem wa_irem (hX : XK X own cc nL d) {x y : Int32} (hd : decode cc pc = .ok (.irem, 1)) (hne : ¬ y = 0) (kk : WX X k n N Sh I J (pc + 1) l (.int (x - x / y * y) :: st)) : WX X k n N Sh I J pc l (.int y :: .int x :: st) :=
  fun H locs ls h1 h2 h3 => lv_irem hX.1 hX.2.1 hd hne (kk H locs ls h1 h2 h3)
theorem wa_ishl (hX : XK X own cc nL d) {x y : Int32} (hd : decode cc pc = .ok (.ishl, 1)) (kk : WX X k n N Sh I J (pc + 1) l (.int (x <<< (y &&& 31)) :: st)) : WX X k n N Sh I J pc l (.int y :: .int x :: st) :=
  fun H locs ls h1 h2 h3 => lv_ishl hX.1 hX.2.1 hd (kk H locs ls h1 h2 h3)
theorem wa_ishr (hX : XK X own cc nL d) {x y : Int32} (hd : decode cc pc = .ok (.ishr, 1)) (kk : WX X k n N Sh I J (pc + 1) l (.int (x >>> (y &&& 31)) :: st)) : WX X k n N Sh I J pc l (.int y :: .int x :: st) :=
  fun H locs ls h1 h2 h3 => lv_ishr hX.1 hX.2.1 hd (kk H locs ls h1 h2 h3)
theorem wa_dup (hX : XK X own cc nL d) {v : Value} (hd : decode cc pc = .ok (.dup, 1)) (hv : v.category = 1) (kk : WX X k n N Sh I J (pc + 1) l (v :: v :: st)) : WX X k n N Sh I J pc l (v :: st) :=
  fun H locs ls h1 h2 h3 => lv_dup hX.1 hX.2.1 hd hv (kk H locs ls h1 h2 h3)
theorem wa_pop (hX : XK X own cc nL d) {v : Value} (hd : decode cc pc = .ok (.pop, 1)) (hv : v.category = 1) (kk : WX X k n N Sh I J (pc + 1) l st) : WX X k n N Sh I J pc l (v :: st) :=
  fun H locs ls h1 h2 h3 => lv_pop hX.1 hX.2.1 hd hv (kk H locs ls h1 h2 h3)
theorem wa_goto (hX : XK X own cc nL d) {off : Int} {tgt : Nat} (hd : decode cc pc = .ok (.goto off, 3)) (ht : (pc : Int) + off = (tgt : Int)) (kk : WX X k n N Sh I J tgt l st) : WX X k n N Sh I J pc l st :=
  fun H locs ls h1 h2 h3 => lv_goto hX.1 hX.2.1 hd ht (kk H locs ls h1 h2 h3)
theorem wa_tabIn (hX : XK X own cc nL d) {dflt lo hi : Int} {offs : Array Int} {len : Nat} {x : Int32} {off : Int} {tgt : Nat} (hd : decode cc pc = .ok (.tableswitch dflt lo hi offs, len)) (h1 : ¬ x.toInt < lo) (h2 : ¬ hi < x.toInt) (ho : offs[(x.toInt - lo).toNat]? = some off) (ht : (pc : Int) + off = (tgt : Int)) (kk : WX X k n N Sh I J tgt l st) : WX X k n N Sh I J pc l (.int x :: st) :=
  fun H locs ls g1 g2 g3 => lv_tableIn hX.1 hX.2.1 hd h1 h2 ho ht (kk H locs ls g1 g2 g3)
theorem wa_tabOut (hX : XK X own cc nL d) {dflt lo hi : Int} {offs : Array Int} {len : Nat} {x : Int32} {tgt : Nat} (hd : decode cc pc = .ok (.tableswitch dflt lo hi offs, len)) (h : x.toInt < lo ∨ hi < x.toInt) (ht : (pc : Int) + dflt = (tgt : Int)) (kk : WX X k n N Sh I J tgt l st) : WX X k n N Sh I J pc l (.int x :: st) :=
  fun H locs ls g1 g2 g3 => lv_tableOut hX.1 hX.2.1 hd h ht (kk H locs ls g1 g2 g3)
theorem wa_if_eq (hX : XK X own cc nL d) {x : Int32} {off : Int} {tgt : Nat} (hd : decode cc pc = .ok (.ifCond .eq off, 3)) (ht : (pc : Int) + off = (tgt : Int)) (kt : x = 0 → WX X k n N Sh I J tgt l st) (kf : ¬ (x = 0) → WX X k n N Sh I J (pc + 3) l st) : WX X k n N Sh I J pc l (.int x :: st) :=
  fun H locs ls h1 h2 h3 => lv_if_eq hX.1 hX.2.1 hd ht (fun h => kt h H locs ls h1 h2 h3) (fun h => kf h H locs ls h1 h2 h3)
theorem wa_icmp_eq (hX : XK X own cc nL d) {x y : Int32} {off : Int} {tgt : Nat} (hd : decode cc pc = .ok (.if_icmp .eq off, 3)) (ht : (pc : Int) + off = (tgt : Int)) (kt : x = y → WX X k n N Sh I J tgt l st) (kf : ¬ (x = y) → WX X k n N Sh I J (pc + 3) l st) : WX X k n N Sh I J pc l (.int y :: .int x :: st) :=
  fun H locs ls h1 h2 h3 => lv_icmp_eq hX.1 hX.2.1 hd ht (fun h => kt h H locs ls h1 h2 h3) (fun h => kf h H locs ls h1 h2 h3)
theorem wa_if_ne (hX : XK X own cc nL d) {x : Int32} {off : Int} {tgt : Nat} (hd : decode cc pc = .ok (.ifCond .ne off, 3)) (ht : (pc : Int) + off = (tgt : Int)) (kt : ¬ x = 0 → WX X k n N Sh I J tgt l st) (kf : x = 0 → WX X k n N Sh I J (pc + 3) l st) : WX X k n N Sh I J pc l (.int x :: st) :=
  fun H locs ls h1 h2 h3 => lv_if_ne hX.1 hX.2.1 hd ht (fun h => kt h H locs ls h1 h2 h3) (fun h => kf h H locs ls h1 h2 h3)
theorem wa_icmp_ne (hX : XK X own cc nL d) {x y : Int32} {off : Int} {tgt : Nat} (hd : decode cc pc = .ok (.if_icmp .ne off, 3)) (ht : (pc : Int) + off = (tgt : Int)) (kt : ¬ x = y → WX X k n N Sh I J tgt l st) (kf : x = y → WX X k n N Sh I J (pc + 3) l st) : WX X k n N Sh I J pc l (.int y :: .int x :: st) :=
  fun H locs ls h1 h2 h3 => lv_icmp_ne hX.1 hX.2.1 hd ht (fun h => kt h H locs ls h1 h2 h3) (fun h => kf h H locs ls h1 h2 h3)
theorem wa_if_lt (hX : XK X own cc nL d) {x : Int32} {off : Int} {tgt : Nat} (hd : decode cc pc = .ok (.ifCond .lt off, 3)) (ht : (pc : Int) + off = (tgt : Int)) (kt : x < 0 → WX X k n N Sh I J tgt l st) (kf : ¬ (x < 0) → WX X k n N Sh I J (pc + 3) l st) : WX X k n N Sh I J pc l (.int x :: st) :=
  fun H locs ls h1 h2 h3 => lv_if_lt hX.1 hX.2.1 hd ht (fun h => kt h H locs ls h1 h2 h3) (fun h => kf h H locs ls h1 h2 h3)
theorem wa_icmp_lt (hX : XK X own cc nL d) {x y : Int32} {off : Int} {tgt : Nat} (hd : decode cc pc = .ok (.if_icmp .lt off, 3)) (ht : (pc : Int) + off = (tgt : Int)) (kt : x < y → WX X k n N Sh I J tgt l st) (kf : ¬ (x < y) → WX X k n N Sh I J (pc + 3) l st) : WX X k n N Sh I J pc l (.int y :: .int x :: st) :=
  fun H locs ls h1 h2 h3 => lv_icmp_lt hX.1 hX.2.1 hd ht (fun h => kt h H locs ls h1 h2 h3) (fun h => kf h H locs ls h1 h2 h3)
theorem wa_if_ge (hX : XK X own cc nL d) {x : Int32} {off : Int} {tgt : Nat} (hd : decode cc pc = .ok (.ifCond .ge off, 3)) (ht : (pc : Int) + off = (tgt : Int)) (kt : 0 ≤ x → WX X k n N Sh I J tgt l st) (kf : ¬ (0 ≤ x) → WX X k n N Sh I J (pc + 3) l st) : WX X k n N Sh I J pc l (.int x :: st) :=
  fun H locs ls h1 h2 h3 => lv_if_ge hX.1 hX.2.1 hd ht (fun h => kt h H locs ls h1 h2 h3) (fun h => kf h H locs ls h1 h2 h3)
theorem wa_icmp_ge (hX : XK X own cc nL d) {x y : Int32} {off : Int} {tgt : Nat} (hd : decode cc pc = .ok (.if_icmp .ge off, 3)) (ht : (pc : Int) + off = (tgt : Int)) (kt : y ≤ x → WX X k n N Sh I J tgt l st) (kf : ¬ (y ≤ x) → WX X k n N Sh I J (pc + 3) l st) : WX X k n N Sh I J pc l (.int y :: .int x :: st) :=
  fun H locs ls h1 h2 h3 => lv_icmp_ge hX.1 hX.2.1 hd ht (fun h => kt h H locs ls h1 h2 h3) (fun h => kf h H locs ls h1 h2 h3)
theorem wa_if_gt (hX : XK X own cc nL d) {x : Int32} {off : Int} {tgt : Nat} (hd : decode cc pc = .ok (.ifCond .gt off, 3)) (ht : (pc : Int) + off = (tgt : Int)) (kt : 0 < x → WX X k n N Sh I J tgt l st) (kf : ¬ (0 < x) → WX X k n N Sh I J (pc + 3) l st) : WX X k n N Sh I J pc l (.int x :: st) :=
  fun H locs ls h1 h2 h3 => lv_if_gt hX.1 hX.2.1 hd ht (fun h => kt h H locs ls h1 h2 h3) (fun h => kf h H locs ls h1 h2 h3)
theorem wa_icmp_gt (hX : XK X own cc nL d) {x y : Int32} {off : Int} {tgt : Nat} (hd : decode cc pc = .ok (.if_icmp .gt off, 3)) (ht : (pc : Int) + off = (tgt : Int)) (kt : y < x → WX X k n N Sh I J tgt l st) (kf : ¬ (y < x) → WX X k n N Sh I J (pc + 3) l st) : WX X k n N Sh I J pc l (.int y :: .int x :: st) :=
  fun H locs ls h1 h2 h3 => lv_icmp_gt hX.1 hX.2.1 hd ht (fun h => kt h H locs ls h1 h2 h3) (fun h => kf h H locs ls h1 h2 h3)
theorem wa_if_le (hX : XK X own cc nL d) {x : Int32} {off : Int} {tgt : Nat} (hd : decode cc pc = .ok (.ifCond .le off, 3)) (ht : (pc : Int) + off = (tgt : Int)) (kt : x ≤ 0 → WX X k n N Sh I J tgt l st) (kf : ¬ (x ≤ 0) → WX X k n N Sh I J (pc + 3) l st) : WX X k n N Sh I J pc l (.int x :: st) :=
  fun H locs ls h1 h2 h3 => lv_if_le hX.1 hX.2.1 hd ht (fun h => kt h H locs ls h1 h2 h3) (fun h => kf h H locs ls h1 h2 h3)
theorem wa_icmp_le (hX : XK X own cc nL d) {x y : Int32} {off : Int} {tgt : Nat} (hd : decode cc pc = .ok (.if_icmp .le off, 3)) (ht : (pc : Int) + off = (tgt : Int)) (kt : x ≤ y → WX X k n N Sh I J tgt l st) (kf : ¬ (x ≤ y) → WX X k n N Sh I J (pc + 3) l st) : WX X k n N Sh I J pc l (.int y :: .int x :: st) :=
  fun H locs ls h1 h2 h3 => lv_icmp_le hX.1 hX.2.1 hd ht (fun h => kt h H locs ls h1 h2 h3) (fun h => kf h H locs ls h1 h2 h3)
end WXR
