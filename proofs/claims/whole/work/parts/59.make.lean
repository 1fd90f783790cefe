/-! making objects and arrays: an array of arrays of ints; rows over my memory -/
def mF (h i : Nat) : Nat → Value := fun j => if j < i then .ref (h + 1 + j) else .null
def mS (U : State) (h : Nat) (cA cI : ClassId) (n k : Nat) : Nat → State
  | 0 => U.pushCell (arrV cA n (mF h 0))
  | i + 1 => ((mS U h cA cI n k i).pushCell (arrV cI k (fun _ => .int 0))).setCell h (arrV cA n (mF h (i + 1)))
theorem mF_s (h i : Nat) : updV (mF h i) i (.ref (h + 1 + i)) = mF h (i + 1) := by
  funext j
  show (if j = i then Value.ref (h + 1 + i) else if j < i then .ref (h + 1 + j) else .null) = if j < i + 1 then .ref (h + 1 + j) else .null
  by_cases e : j = i
  · subst e
    rw [if_pos rfl, if_pos (by omega)]
  · rw [if_neg e]
    by_cases e2 : j < i
    · rw [if_pos e2, if_pos (by omega)]
    · rw [if_neg e2, if_neg (by omega)]
theorem mS_ok (U : State) (h : Nat) (cA cI : ClassId) (n k : Nat) (hh : U.heap.size = h) : ∀ i, (mS U h cA cI n k i).heap.size = h + 1 + i ∧ (mS U h cA cI n k i).heap[h]? = some (arrV cA n (mF h i)) ∧ (∀ j, j < i → (mS U h cA cI n k i).heap[h + 1 + j]? = some (arrV cI k (fun _ => .int 0))) ∧ (∀ q, q < h → (mS U h cA cI n k i).heap[q]? = U.heap[q]?) ∧ (mS U h cA cI n k i).vm = U.vm ∧ (mS U h cA cI n k i).slotsUsed = U.slotsUsed + n + i * k
  | 0 => by
    refine ⟨?_, ?_, fun j hj => absurd hj (Nat.not_lt_zero j), fun q hq => ?_, rfl, ?_⟩
    · show (U.heap.push _).size = _
      rw [Array.size_push, hh]
    · show (U.heap.push _)[h]? = _
      rw [← hh]
      exact Array.getElem?_push_size
    · show (U.heap.push _)[q]? = _
      rw [Array.getElem?_push, if_neg (by omega)]
    · show U.slotsUsed + (arrV cA n (mF h 0)).slots.size = _
      rw [arrV_size]
      omega
  | i + 1 => by
    obtain ⟨a, b, c, d, v, u⟩ := mS_ok U h cA cI n k hh i
    refine ⟨?_, ?_, fun j hj => ?_, fun q hq => ?_, v, ?_⟩
    · show (((mS U h cA cI n k i).heap.push _).setIfInBounds h _).size = _
      rw [Array.size_setIfInBounds, Array.size_push, a]
      omega
    · show (((mS U h cA cI n k i).heap.push _).setIfInBounds h _)[h]? = _
      rw [Array.getElem?_setIfInBounds, if_pos rfl, if_pos (by rw [Array.size_push, a]; omega)]
    · show (((mS U h cA cI n k i).heap.push _).setIfInBounds h _)[h + 1 + j]? = _
      rw [Array.getElem?_setIfInBounds, if_neg (by omega), Array.getElem?_push, a]
      by_cases e : j = i
      · subst e
        rw [if_pos rfl]
      · rw [if_neg (by omega)]
        exact c j (by omega)
    · show (((mS U h cA cI n k i).heap.push _).setIfInBounds h _)[q]? = _
      rw [Array.getElem?_setIfInBounds, if_neg (by omega), Array.getElem?_push, if_neg (by omega)]
      exact d q hq
    · show (mS U h cA cI n k i).slotsUsed + (arrV cI k (fun _ => .int 0)).slots.size = _
      rw [arrV_size, u, Nat.succ_mul]
      omega
theorem mS_top (U : State) (f : JFrame) (h : Nat) (cA cI : ClassId) (n k : Nat) : ∀ i, mS (U.setTop f) h cA cI n k i = (mS U h cA cI n k i).setTop f
  | 0 => State.pushCell_setTop ..
  | i + 1 => by
    show ((mS (U.setTop f) h cA cI n k i).pushCell _).setCell h _ = (((mS U h cA cI n k i).pushCell _).setCell h _).setTop f
    rw [mS_top U f h cA cI n k i, State.pushCell_setTop, State.setCell_setTop]
theorem wm_inner {E : CtlPost} {e : Env} {d : Bool} {acts : List Action} {s : State} {cI cc : ClassId} {kI : Class} {k : Int32} (hkI : s.vm.classes[cI]? = some kI) (hkind : kI.kind = .array cc .int) (hk : ¬ k < 0) (hl : ¬ k.toNatClampNeg > e.platform.arrayLengthLimit)
    (hh : ¬ k.toNatClampNeg * componentBytes .int > e.platform.maxHeapBytes) (h1 : s.heap.size < e.platform.maxCells) (h2 : s.slotsUsed + k.toNatClampNeg ≤ e.platform.maxSlots) {Q : Addr → Pre} (hq : ∀ acts', Q s.heap.size d acts' (s.pushCell (arrV cI k.toNatClampNeg (fun _ => .int 0)))) : wp (multianewarray.make cI [k]) Q E e d acts s := by
  rw [multianewarray.make]
  simp only [wp_bind', W.ite, hk, if_false, wp_pure', W.theClass, hkI, hkind, Option.some.injEq, exists_eq_left']
  exact W.newArray_of hkI hkind hl hh h1 h2 rfl (fun acts' => by rw [arrV_new]; exact hq acts')
theorem wm_outer {E : CtlPost} {e : Env} {d : Bool} {acts : List Action} {s : State} {cA cI cc : ClassId} {kA kI : Class} {n k : Int32} (hkA : s.vm.classes[cA]? = some kA) (hkindA : kA.kind = .array cI (.array .int)) (hkI : s.vm.classes[cI]? = some kI) (hkind : kI.kind = .array cc .int) (hn : ¬ n < 0) (hk : ¬ k < 0)
    (hl1 : ¬ n.toNatClampNeg > e.platform.arrayLengthLimit) (hh1 : ¬ n.toNatClampNeg * componentBytes (.array .int) > e.platform.maxHeapBytes) (hl : ¬ k.toNatClampNeg > e.platform.arrayLengthLimit) (hh : ¬ k.toNatClampNeg * componentBytes .int > e.platform.maxHeapBytes)
    (h1 : s.heap.size + 1 + n.toNatClampNeg ≤ e.platform.maxCells) (h2 : s.slotsUsed + n.toNatClampNeg + n.toNatClampNeg * k.toNatClampNeg ≤ e.platform.maxSlots) {Q : Addr → Pre} (hq : ∀ d' acts', Q s.heap.size d' acts' (mS s s.heap.size cA cI n.toNatClampNeg k.toNatClampNeg n.toNatClampNeg)) : wp (multianewarray.make cA [n, k]) Q E e d acts s := by
  have hf : ([k].find? (· < 0)) = none := by simp [hk]
  rw [multianewarray.make]
  simp only [wp_bind', W.ite, hn, if_false, wp_pure', W.theClass, hkA, hkindA, Option.some.injEq, exists_eq_left']
  refine W.newArray_of hkA hkindA hl1 hh1 (by omega) (by have := Nat.zero_le (n.toNatClampNeg * k.toNatClampNeg); omega) rfl (fun acts1 => ?_)
  simp only [hf]
  rw [ite_self, wp_bind', Std.Legacy.Range.forIn_eq_forIn_range', show ([:n.toNatClampNeg] : Std.Legacy.Range).size = n.toNatClampNeg by simp [Std.Legacy.Range.size]]
  refine wp_forIn_inv (fun rest s' => ∃ i, i ≤ n.toNatClampNeg ∧ rest = List.range' i (n.toNatClampNeg - i) ∧ s' = mS s s.heap.size cA cI n.toNatClampNeg k.toNatClampNeg i) _ _ ⟨0, Nat.zero_le _, rfl, ?_⟩ ?_ ?_
  · rw [arrV_new]
    show _ = s.pushCell (arrV cA n.toNatClampNeg (mF s.heap.size 0))
    rw [show mF s.heap.size 0 = fun _ => Value.null from funext (fun j => if_neg (Nat.not_lt_zero j))]
  · rintro x rest s' d' acts' Q' ⟨i, hi, hr, rfl⟩ hnext
    have hlt : i < n.toNatClampNeg := by
      rcases Nat.lt_or_ge i n.toNatClampNeg with q | q
      · exact q
      · rw [show n.toNatClampNeg - i = 0 by omega] at hr
        cases hr
    rw [show n.toNatClampNeg - i = (n.toNatClampNeg - (i + 1)) + 1 by omega, List.range'_succ] at hr
    obtain ⟨rfl, hr⟩ := List.cons.inj hr
    obtain ⟨a, b, c, dd, v, u⟩ := mS_ok s s.heap.size cA cI n.toNatClampNeg k.toNatClampNeg rfl x
    have hmul : x * k.toNatClampNeg + k.toNatClampNeg ≤ n.toNatClampNeg * k.toNatClampNeg := by
      rw [← Nat.succ_mul]
      exact Nat.mul_le_mul_right _ hlt
    simp only [wp_bind']
    refine wm_inner (by rw [v]; exact hkI) hkind hk hl hh (by rw [a]; omega) (by rw [u]; omega) (fun acts2 => ?_)
    simp only [wp_bind', W.writeLoc, wp_pure']
    refine ⟨arrV cA n.toNatClampNeg (mF s.heap.size x), ?_, (fun q => by cases q), by rw [arrV_size]; exact hlt, ?_, hnext _ _ _ ⟨x + 1, hlt, hr, ?_⟩⟩
    · show ((mS s s.heap.size cA cI n.toNatClampNeg k.toNatClampNeg x).heap.push _)[s.heap.size]? = _
      rw [Array.getElem?_push, if_neg (by omega)]
      exact b
    · show State.fitsSlot _ cA .none x _ = true
      simp [State.fitsSlot, State.slotType?, v, hkA, hkindA]
      rfl
    · rw [a, arrV_store, mF_s]
      rfl
  · rintro s' d' acts' ⟨i, hi, hr, rfl⟩
    obtain rfl : i = n.toNatClampNeg := by
      rcases Nat.lt_or_ge i n.toNatClampNeg with q | q
      · rw [show n.toNatClampNeg - i = (n.toNatClampNeg - (i + 1)) + 1 by omega, List.range'_succ] at hr
        cases hr
      · omega
    simp only [wp_pure']
    exact hq _ _
theorem wm_stand {p : Program} {l : Launch} {e : Env} {R : Room} {s : State} {m : MethodId} {args : Array Value} {below : List Frame} {meth : Method} {c : Code} {T : State} {locs : List Loc} {cells slots : Nat} (X : Stand p l e R s m args below meth c T locs cells slots) (cA cI : ClassId) (n k : Nat) :
    ∀ i, ∃ locs', Stand p l e R s m args below meth c (mS T T.heap.size cA cI n k i) locs' (cells + 1 + i) (slots + n + i * k) ∧ ∀ x ∈ locs', x ∈ locs ∨ x.base = T.heap.size
  | 0 => by
    have h := X.pushed (arrV cA n (mF T.heap.size 0))
    rw [arrV_size] at h
    refine ⟨locs, ?_, fun x hx => Or.inl hx⟩
    rw [Nat.zero_mul]
    exact h
  | i + 1 => by
    obtain ⟨L, Xi, hL⟩ := wm_stand X cA cI n k i
    obtain ⟨a, b, cc, d, v, u⟩ := mS_ok T T.heap.size cA cI n k rfl i
    have h1 := Xi.pushed (arrV cI k (fun _ => .int 0))
    rw [arrV_size] at h1
    have hc : ((mS T T.heap.size cA cI n k i).pushCell (arrV cI k (fun _ => .int 0))).heap[T.heap.size]? = some (arrV cA n (mF T.heap.size i)) := by
      show ((mS T T.heap.size cA cI n k i).heap.push _)[T.heap.size]? = _
      rw [Array.getElem?_push, if_neg (by omega)]
      exact b
    have h2 := h1.stored hc i (.ref (T.heap.size + 1 + i))
    rw [arrV_store, mF_s] at h2
    refine ⟨L ++ [⟨T.heap.size, i⟩], ?_, fun x hx => ?_⟩
    · rw [show slots + n + (i + 1) * k = slots + n + i * k + k by rw [Nat.succ_mul]; omega]
      exact h2
    · rcases List.mem_append.mp hx with q | q
      · exact hL x q
      · rw [List.mem_singleton.mp q]
        exact Or.inr rfl
theorem wm_multi {p : Program} {l : Launch} {e : Env} {R : Room} {s : State} {m : MethodId} {args : Array Value} {below : List Frame} {meth : Method} {c : Code} {H : Heap} {locs : List Loc} {cells slots : Nat} {Q : State → Prop} {cc : ByteArray} (hexec : p.tables.exec = Jvm.exec) (hb : c.code = cc) {own : String} {index : Nat} (hown : s.vm.findClass own = some m.cls)
    (hclink : (Cond.classLink own index "[[I").before args s = true) (hover : (Cond.arrayOver (.array .int)).before args s = true) (harr : (Cond.arrayClass .int).before args s = true) {pc : Nat} {ls : Array Slot} {rest : List Value} {n k : Nat} (hn : n ≤ 1000) (hk : k ≤ 1000) (hdg : decode cc pc = .ok (.multianewarray index 2, 4))
    (hcells : cells + (1 + n) ≤ R.cells) (hslots : slots + (n + n * k) ≤ R.slots)
    (kk : ∀ (H' : Heap) (locs' : List Loc) (cA cI : ClassId), H'.size = H.size + 1 + n → H'[H.size]? = some (arrV cA n (mF H.size n)) → (∀ j, j < n → H'[H.size + 1 + j]? = some (arrV cI k (fun _ => .int 0))) → (∀ q, q < H.size → H'[q]? = H[q]?) → (∀ x ∈ locs', x ∈ locs ∨ x.base = H.size) →
      ArrOfT s cA (.array .int) → s.vm.findClass "[[I" = some cA → ArrOfT s cI .int → s.vm.findClass "[I" = some cI → W p l e R s m args below meth c H' locs' (cells + 1 + n) (slots + n + n * k) Q (F0 m (pc + 4) ls (.ref H.size :: rest))) : W p l e R s m args below meth c H locs cells slots Q (F0 m pc ls (.int (nI k) :: .int (nI n) :: rest)) := by
  intro T hT X
  subst hT
  subst hb
  have hn0 : (nI n).toNatClampNeg = n := nI_clamp (by omega)
  have hk0 : (nI k).toNatClampNeg = k := nI_clamp (by omega)
  obtain ⟨comp, cA, kA, hcomp, hidx, hkA, hkindA, hnameA⟩ := arrayOverA_spec hover
  obtain ⟨cI, kI, c2, hnI, hkI, hkindI⟩ := Cond.arrayClass_spec harr
  obtain rfl : cI = comp := Option.some.inj (hnI.symm.trans hcomp)
  have hpl : e.platform.magicAccessors = ({} : Platform).magicAccessors := by rw [X.admits.platform]
  obtain ⟨c0, hfc, hcl⟩ := Cond.classLink_spec hown hclink e.platform hpl
  obtain rfl : c0 = cA := Option.some.inj (hfc.symm.trans hnameA)
  obtain ⟨hg1, hwarm, hready⟩ := State.classEntry (e := e) X.warmed hcl
  generalize T.vm.noted m.cls index (.cls c0) = vm1 at hg1 hwarm hready
  have hal : s.vm.Alike vm1 := hwarm.alike
  obtain ⟨kA1, hkA1, heA⟩ := hal.2.2 _ _ hkA
  obtain ⟨kI1, hkI1, heI⟩ := hal.2.2 _ _ hkI
  obtain ⟨hr1, hr2⟩ := X.roomAbove hcells hslots
  obtain ⟨L, XF, hL⟩ := wm_stand (X.noted hwarm) c0 cI n k n
  obtain ⟨a, b, c9, d, v, u⟩ := mS_ok (T.setVm vm1) T.heap.size c0 cI n k rfl n
  obtain ⟨t, a1, b1⟩ := kk _ L c0 cI a b c9 d hL (fun N z => ⟨(fun k h => by cases h), kA, hkA, cI, hkindA⟩) hnameA (fun N z => ⟨(fun k h => by cases h), kI, hkI, c2, hkindI⟩) hnI (mS (T.setVm vm1) T.heap.size c0 cI n k n) rfl XF
  refine ⟨t, ?_, b1⟩
  have hl9 : 1000 ≤ e.platform.arrayLengthLimit := by rw [Launch.admits_arrayLengthLimit X.admits]; omega
  have hm9 : 4000 ≤ e.platform.maxHeapBytes := by rw [Launch.admits_maxHeapBytes X.admits]; omega
  jvm_step X.here [hexec, hdg]
  simp only [multianewarray.sem, wp_bind', W.resolveClassAt_links (State.method?_setTop (F0 m pc ls (.int (nI k) :: .int (nI n) :: rest)) X.here.top) hg1]
  rw [W.popN, if_neg (by decide)]
  refine ⟨F0 m pc ls (.int (nI k) :: .int (nI n) :: rest), State.topJava?_setTop' (s := T.setVm vm1) _ X.here.top, [.int (nI n), .int (nI k)], rest, rfl, rfl, ?_⟩
  simp only [List.mapM_cons, List.mapM_nil, wp_bind', wp_pure']
  have eS : ((T.setTop (F0 m pc ls (.int (nI k) :: .int (nI n) :: rest))).setVm vm1).setTop { F0 m pc ls (.int (nI k) :: .int (nI n) :: rest) with stack := rest } = (T.setVm vm1).setTop (F0 m pc ls rest) := by
    show ((T.setVm vm1).setTop _).setTop _ = _
    rw [State.setTop_setTop]
  rw [eS]
  refine wm_outer (kA := kA1) (kI := kI1) (cc := c2) (n := nI n) (k := nI k) hkA1 (by rw [heA]; exact hkindA) hkI1 (by rw [heI]; exact hkindI) (nI_pos (by omega)) (nI_pos (by omega)) (by rw [hn0]; omega) (by rw [hn0]; show ¬ n * 4 > _; omega) (by rw [hk0]; omega) (by rw [hk0]; show ¬ k * 4 > _; omega) (by rw [hn0]; show T.heap.size + 1 + n ≤ _; omega) (by rw [hn0, hk0]; show T.slotsUsed + n + n * k ≤ _; omega) (fun d' acts' => ?_)
  rw [hn0, hk0]
  show _
  rw [show ((T.setVm vm1).setTop (F0 m pc ls rest)).heap.size = T.heap.size from rfl, mS_top]
  simp only [wp_bind', W.mark, W.pushRef]
  refine ⟨F0 m pc ls rest, State.topJava?_setTop' (s := mS (T.setVm vm1) T.heap.size c0 cI n k n) _ XF.here.top, fun acts => ?_⟩
  rw [State.setTop_setTop, afterInstr_ok]
  exact a1
