/-! contracts, calls and returns over my memory -/
def PreG (D : va_G) (A : Nat → Prop) (N : Nat) (Sh : SM) (I : IM) (J : JM) (U : State) : Prop := HG U D A N Sh I J U.heap ∧ KN D U ∧ NW U
/-- a method that answers a whole number (or a truth), makes nothing: its contract -/
def CtI (l : Launch) (D : va_G) (A : Nat → Prop) (y : MethodName) (cc : ByteArray) (maxL : Nat) (ty : FieldType) (d : Nat) (N : Nat) (Sh : SM) (I : IM) (J : JM) (av : List Value) (Q : Int32 → IM → JM → Prop) : Prop :=
  Met l y (TWs y cc maxL (some ty)) (rmD d) (va_Pc av (PreG D A N Sh I J)) (va_Qi (fun (r : Int32) (u : IM × JM) => Q r u.1 u.2) (fun (u : IM × JM) t => PreG D A N Sh u.1 u.2 t) A) 0 0 A
/-- a void method's -/
def CtV (l : Launch) (D : va_G) (A : Nat → Prop) (y : MethodName) (cc : ByteArray) (maxL : Nat) (d : Nat) (N : Nat) (Sh : SM) (I : IM) (J : JM) (av : List Value) (Q : IM → JM → Prop) : Prop :=
  Met l y (TWs y cc maxL none) (rmD d) (va_Pc av (PreG D A N Sh I J)) (va_Qv (fun (u : IM × JM) => Q u.1 u.2) (fun (u : IM × JM) t => PreG D A N Sh u.1 u.2 t) A) 0 0 A
theorem ct_I {l : Launch} {D : va_G} {A : Nat → Prop} {y : MethodName} {cc : ByteArray} {maxL : Nat} {ty : FieldType} {d N : Nat} {Sh : SM} {I : IM} {J : JM} {av : List Value} {Q : Int32 → IM → JM → Prop} {l0 : List (Nat × Value)}
    (hy : plainName y.cls = true) (hav : (lg_sl av).length ≤ maxL) (hl0 : lv_args 0 av = l0) (hn : ∀ r I' J', Q r I' J' → narrow ty (.int r) = .int r)
    (body : ∀ X : Cx, XK X y.cls cc maxL d → (∀ (r : Int32) (I' : IM) (J' : JM) (pc : Nat) (l' : List (Nat × Value)), Q r I' J' → decode cc pc = .ok (.ireturn, 1) → WX X 0 0 N Sh I' J' pc l' [.int r]) → X.1.2.1 = l → X.2.1 = D → X.2.2.1 = A → WX X 0 0 N Sh I J 0 l0 []) : CtI l D A y cc maxL ty d N Sh I J av Q := by
  refine Met.ofW (cc := cc) (maxL := maxL) (ret := some ty) hy rfl ?_
  intro p e s m args below meth c s₁ B hml hv
  obtain ⟨rfl, hG, hK, hNW⟩ := hv
  have hts := atoms_spec (ws := TWs y cc maxL (some ty)) B.pre
  have hl := lv_entry av (n := maxL) hav
  rw [lg_entry_eq]
  generalize (lg_sl av ++ List.replicate (maxL - (lg_sl av).length) Slot.unset).toArray = ls at hl ⊢
  rw [hl0] at hl
  refine body ((p, l, e, rmD d, s, m, _, below, meth, c), D, A, _) ⟨B.exec, B.bytes, hml, findClass_of_methodNamed B.named, fun w hw => hts w (List.mem_cons_of_mem _ hw), hK, hNW, Nat.le_refl _, Nat.le_refl _⟩ ?_ rfl rfl rfl s.heap [] ls hG va_S.rf (by show lv_has ls c.maxLocals _; rw [hml]; exact hl)
  intro r I' J' pc l' hq hd H locs ls' h1 h2 h3
  exact W.zret B.exec B.bytes B.returns (hn r I' J' hq) (fun t ht hW => ⟨⟨r, (I', J'), rfl, hq, by rw [← ht] at h1; exact h1.moved hW.alike, hK.moved hW.alike, hNW.warm hW⟩, h2.F ht⟩) h2.2.2 hd B.notSynchronized
theorem ct_V {l : Launch} {D : va_G} {A : Nat → Prop} {y : MethodName} {cc : ByteArray} {maxL : Nat} {d N : Nat} {Sh : SM} {I : IM} {J : JM} {av : List Value} {Q : IM → JM → Prop} {l0 : List (Nat × Value)}
    (hy : plainName y.cls = true) (hav : (lg_sl av).length ≤ maxL) (hl0 : lv_args 0 av = l0)
    (body : ∀ X : Cx, XK X y.cls cc maxL d → (∀ (I' : IM) (J' : JM) (pc : Nat) (l' : List (Nat × Value)), Q I' J' → decode cc pc = .ok (.return_, 1) → WX X 0 0 N Sh I' J' pc l' []) → X.1.2.1 = l → X.2.1 = D → X.2.2.1 = A → WX X 0 0 N Sh I J 0 l0 []) : CtV l D A y cc maxL d N Sh I J av Q := by
  refine Met.ofW (cc := cc) (maxL := maxL) (ret := none) hy rfl ?_
  intro p e s m args below meth c s₁ B hml hv
  obtain ⟨rfl, hG, hK, hNW⟩ := hv
  have hts := atoms_spec (ws := TWs y cc maxL none) B.pre
  have hl := lv_entry av (n := maxL) hav
  rw [lg_entry_eq]
  generalize (lg_sl av ++ List.replicate (maxL - (lg_sl av).length) Slot.unset).toArray = ls at hl ⊢
  rw [hl0] at hl
  refine body ((p, l, e, rmD d, s, m, _, below, meth, c), D, A, _) ⟨B.exec, B.bytes, hml, findClass_of_methodNamed B.named, fun w hw => hts w (List.mem_cons_of_mem _ hw), hK, hNW, Nat.le_refl _, Nat.le_refl _⟩ ?_ rfl rfl rfl s.heap [] ls hG va_S.rf (by show lv_has ls c.maxLocals _; rw [hml]; exact hl)
  intro I' J' pc l' hq hd H locs ls' h1 h2 h3
  exact W.vret B.exec B.bytes B.returns (fun t ht hW => ⟨⟨(I', J'), rfl, hq, by rw [← ht] at h1; exact h1.moved hW.alike, hK.moved hW.alike, hNW.warm hW⟩, h2.F ht⟩) h2.2.2 hd B.notSynchronized
/-- a weaker end -/
theorem CtI.post {l : Launch} {D : va_G} {A : Nat → Prop} {y : MethodName} {cc : ByteArray} {maxL : Nat} {ty : FieldType} {d N : Nat} {Sh : SM} {I : IM} {J : JM} {av : List Value} {Q Q' : Int32 → IM → JM → Prop} (h : CtI l D A y cc maxL ty d N Sh I J av Q) (hq : ∀ r I' J', Q r I' J' → Q' r I' J') : CtI l D A y cc maxL ty d N Sh I J av Q' := by
  intro p e h1 h2 h3 s m args below h4 h5 h6 h7
  obtain ⟨t, o, g0, g1, g2, ⟨⟨r, u, a1, a2, a3⟩, a4⟩, g5⟩ := h p e h1 h2 h3 s m args below h4 h5 h6 h7
  exact ⟨t, o, g0, g1, g2, ⟨⟨r, u, a1, hq _ _ _ a2, a3⟩, a4⟩, g5⟩
theorem blindG {av : List Value} {D : va_G} {A : Nat → Prop} {N : Nat} {Sh : SM} {I : IM} {J : JM} : FrameBlind (va_Pc av (PreG D A N Sh I J)) := by
  rintro a U g mk ⟨q0, qG, qK, qN⟩
  exact ⟨q0, qG.moved (u := U) (U := U.calling g mk a) (Vm.Alike.refl U.vm), qK.moved (u := U) (U := U.calling g mk a) (Vm.Alike.refl U.vm), qN.same (u := U) (U := U.calling g mk a) rfl⟩
section WXC
variable {X : Cx} {own : String} {cc : ByteArray} {nL d : Nat} {k n N : Nat} {Sh : SM} {I : IM} {J : JM} {pc : Nat} {l : List (Nat × Value)} {st rest : List Value}
variable {y : MethodName} {cc' : ByteArray} {maxL d' idx nA : Nat} {ty : FieldType} {As : List Value}
theorem room_ok (hX : XK X own cc nL d) (hd' : d' + 1 ≤ d) (hm : maxL ≤ 20) : (rmD d').frames + 1 ≤ X.1.2.2.2.1.frames ∧ 8 + (maxL + 11) + (rmD d').locals ≤ X.1.2.2.2.1.locals := by
  have h1 := hX.2.2.2.2.2.2.2.1
  have h2 := hX.2.2.2.2.2.2.2.2
  refine ⟨Nat.le_trans hd' h1, Nat.le_trans ?_ h2⟩
  show 8 + (maxL + 11) + 40 * d' ≤ 40 * d
  omega
theorem pre_to (hX : XK X own cc nL d) {H : Heap} (h1 : HG X.1.2.2.2.2.1 X.2.1 X.2.2.1 N Sh I J H) : ∀ U : State, U.heap = H → X.1.2.2.2.2.1.WarmedH U.vm → PreG X.2.1 X.2.2.1 N Sh I J U :=
  fun U hU hW => ⟨by rw [hU]; exact h1.moved hW.alike, hX.2.2.2.2.2.1.moved hW.alike, hX.2.2.2.2.2.2.1.warm hW⟩
theorem wa_callVI (hX : XK X own cc nL d) {C : String} {ci b : Nat} {Q : Int32 → IM → JM → Prop} (hM : CtI X.1.2.1 X.2.1 X.2.2.1 y cc' maxL ty d' N Sh I J (.ref b :: As) Q) (hB : LB y cc' maxL (some ty) nA) (hL : LV own idx C y) (hd' : d' + 1 ≤ d) (hm : maxL ≤ 20) (hci : ci < 7 ∧ C = clC ci) (hsh : Sh b = some (.inr ci))
    (hn : As.length = nA) (hst : st = As.reverse ++ .ref b :: rest) (hcat : (rest.map fun v => v.category).sum ≤ 8) (hd : decode cc pc = .ok (.invokevirtual idx, 3)) (kk : ∀ r I' J', Q r I' J' → WX X k n N Sh I' J' (pc + 3) l (.int r :: rest)) (hk : k ≤ X.1.2.2.2.1.cells ∧ n ≤ X.1.2.2.2.1.slots := by first | assumption | exact ⟨Nat.zero_le _, Nat.zero_le _⟩) : WX X k n N Sh I J pc l st := by
  intro H locs ls h1 h2 h3
  have hts := hX.2.2.2.2.1
  have hz := (h1.2 b _ hsh).1
  refine va_calli (va_runV (As := As) (rest := rest) ⟨hX.1, hX.2.1, hX.2.2.1, hX.2.2.2.1, hts⟩ hM ⟨callB_of nA hts (tw_sub hB.1) rfl rfl rfl (hts _ hB.2.1) (hts _ hL.1) hB.2.2 (room_ok hX hd' hm), hts _ hL.2.1, hts _ hL.2.2⟩
    ⟨blindG, by rw [hci.2]; exact va_recv (no_K hX.2.2.2.2.2.1) (one_P hz) (ci := ci) (q0 := 0) (cl_get hci.1) rfl, fun U hU hW => ⟨rfl, pre_to hX h1 U hU hW⟩⟩ rfl hn (h3.1.trans hX.2.2.1) hst (lv_room hcat) hd hk) h2 (fun q _ h => h) (fun q h => h) (fun r u t H1 locs1 ht hvm hw hG hz1 hk1 hS => ?_)
  have hG1 := hG.1
  rw [ht] at hG1
  exact kk r u.1 u.2 hw H1 locs1 ls (hG1.moved hvm.symm) hS h3
theorem wa_callVV (hX : XK X own cc nL d) {C : String} {ci b : Nat} {Q : IM → JM → Prop} (hM : CtV X.1.2.1 X.2.1 X.2.2.1 y cc' maxL d' N Sh I J (.ref b :: As) Q) (hB : LB y cc' maxL none nA) (hL : LV own idx C y) (hd' : d' + 1 ≤ d) (hm : maxL ≤ 20) (hci : ci < 7 ∧ C = clC ci) (hsh : Sh b = some (.inr ci))
    (hn : As.length = nA) (hst : st = As.reverse ++ .ref b :: rest) (hcat : (rest.map fun v => v.category).sum ≤ 8) (hd : decode cc pc = .ok (.invokevirtual idx, 3)) (kk : ∀ I' J', Q I' J' → WX X k n N Sh I' J' (pc + 3) l rest) (hk : k ≤ X.1.2.2.2.1.cells ∧ n ≤ X.1.2.2.2.1.slots := by first | assumption | exact ⟨Nat.zero_le _, Nat.zero_le _⟩) : WX X k n N Sh I J pc l st := by
  intro H locs ls h1 h2 h3
  have hts := hX.2.2.2.2.1
  have hz := (h1.2 b _ hsh).1
  refine va_callv (va_runV (As := As) (rest := rest) ⟨hX.1, hX.2.1, hX.2.2.1, hX.2.2.2.1, hts⟩ hM ⟨callB_of nA hts (tw_sub hB.1) rfl rfl rfl (hts _ hB.2.1) (hts _ hL.1) hB.2.2 (room_ok hX hd' hm), hts _ hL.2.1, hts _ hL.2.2⟩
    ⟨blindG, by rw [hci.2]; exact va_recv (no_K hX.2.2.2.2.2.1) (one_P hz) (ci := ci) (q0 := 0) (cl_get hci.1) rfl, fun U hU hW => ⟨rfl, pre_to hX h1 U hU hW⟩⟩ rfl hn (h3.1.trans hX.2.2.1) hst (lv_room hcat) hd hk) h2 (fun q _ h => h) (fun q h => h) (fun u t H1 locs1 ht hvm hw hG hz1 hk1 hS => ?_)
  have hG1 := hG.1
  rw [ht] at hG1
  exact kk u.1 u.2 hw H1 locs1 ls (hG1.moved hvm.symm) hS h3
theorem wa_callSI (hX : XK X own cc nL d) {Q : Int32 → IM → JM → Prop} (hM : CtI X.1.2.1 X.2.1 X.2.2.1 y cc' maxL ty d' N Sh I J As Q) (hB : LB y cc' maxL (some ty) nA) (hL : LSt own idx y) (hd' : d' + 1 ≤ d) (hm : maxL ≤ 20)
    (hn : As.length = nA) (hst : st = As.reverse ++ rest) (hcat : (rest.map fun v => v.category).sum ≤ 8) (hd : decode cc pc = .ok (.invokestatic idx, 3)) (kk : ∀ r I' J', Q r I' J' → WX X k n N Sh I' J' (pc + 3) l (.int r :: rest)) (hk : k ≤ X.1.2.2.2.1.cells ∧ n ≤ X.1.2.2.2.1.slots := by first | assumption | exact ⟨Nat.zero_le _, Nat.zero_le _⟩) : WX X k n N Sh I J pc l st := by
  intro H locs ls h1 h2 h3
  have hts := hX.2.2.2.2.1
  refine va_calli (va_runS (As := As) (rest := rest) ⟨hX.1, hX.2.1, hX.2.2.1, hX.2.2.2.1, hts⟩ hM ⟨callB_of nA hts (tw_sub hB.1) rfl rfl rfl (hts _ hB.2.1) (hts _ hL.1) hB.2.2 (room_ok hX hd' hm), hts _ hL.2⟩
    ⟨blindG, fun U hU hW => ⟨rfl, pre_to hX h1 U hU hW⟩⟩ rfl hn (h3.1.trans hX.2.2.1) hst (lv_room hcat) hd hk) h2 (fun q _ h => h) (fun q h => h) (fun r u t H1 locs1 ht hvm hw hG hz1 hk1 hS => ?_)
  have hG1 := hG.1
  rw [ht] at hG1
  exact kk r u.1 u.2 hw H1 locs1 ls (hG1.moved hvm.symm) hS h3
theorem wa_callSV (hX : XK X own cc nL d) {Q : IM → JM → Prop} (hM : CtV X.1.2.1 X.2.1 X.2.2.1 y cc' maxL d' N Sh I J As Q) (hB : LB y cc' maxL none nA) (hL : LSt own idx y) (hd' : d' + 1 ≤ d) (hm : maxL ≤ 20)
    (hn : As.length = nA) (hst : st = As.reverse ++ rest) (hcat : (rest.map fun v => v.category).sum ≤ 8) (hd : decode cc pc = .ok (.invokestatic idx, 3)) (kk : ∀ I' J', Q I' J' → WX X k n N Sh I' J' (pc + 3) l rest) (hk : k ≤ X.1.2.2.2.1.cells ∧ n ≤ X.1.2.2.2.1.slots := by first | assumption | exact ⟨Nat.zero_le _, Nat.zero_le _⟩) : WX X k n N Sh I J pc l st := by
  intro H locs ls h1 h2 h3
  have hts := hX.2.2.2.2.1
  refine va_callv (va_runS (As := As) (rest := rest) ⟨hX.1, hX.2.1, hX.2.2.1, hX.2.2.2.1, hts⟩ hM ⟨callB_of nA hts (tw_sub hB.1) rfl rfl rfl (hts _ hB.2.1) (hts _ hL.1) hB.2.2 (room_ok hX hd' hm), hts _ hL.2⟩
    ⟨blindG, fun U hU hW => ⟨rfl, pre_to hX h1 U hU hW⟩⟩ rfl hn (h3.1.trans hX.2.2.1) hst (lv_room hcat) hd hk) h2 (fun q _ h => h) (fun q h => h) (fun u t H1 locs1 ht hvm hw hG hz1 hk1 hS => ?_)
  have hG1 := hG.1
  rw [ht] at hG1
  exact kk u.1 u.2 hw H1 locs1 ls (hG1.moved hvm.symm) hS h3
/-- a nest mate's private static method -/
theorem wa_callNI (hX : XK X own cc nL d) {host : String} {Q : Int32 → IM → JM → Prop} (hM : CtI X.1.2.1 X.2.1 X.2.2.1 y cc' maxL ty d' N Sh I J As Q) (hB : LB y cc' maxL (some ty) nA) (hL : LN own idx y host) (hd' : d' + 1 ≤ d) (hm : maxL ≤ 20)
    (hn : As.length = nA) (hst : st = As.reverse ++ rest) (hcat : (rest.map fun v => v.category).sum ≤ 8) (hd : decode cc pc = .ok (.invokestatic idx, 3)) (kk : ∀ r I' J', Q r I' J' → WX X k n N Sh I' J' (pc + 3) l (.int r :: rest)) (hk : k ≤ X.1.2.2.2.1.cells ∧ n ≤ X.1.2.2.2.1.slots := by first | assumption | exact ⟨Nat.zero_le _, Nat.zero_le _⟩) : WX X k n N Sh I J pc l st := by
  intro H locs ls h1 h2 h3
  have hts := hX.2.2.2.2.1
  refine va_calli (va_runSN (As := As) (rest := rest) ⟨hX.1, hX.2.1, hX.2.2.1, hX.2.2.2.1, hts⟩ hM ⟨va_cnB nA hts (tw_sub hB.1) rfl rfl rfl (hX.2.2.2.2.2.2.1 _ hL.1) (hts _ hB.2.1) hB.2.2 (room_ok hX hd' hm), hts _ hL.2, trivial⟩
    ⟨blindG, fun U hU hW => ⟨rfl, pre_to hX h1 U hU hW⟩⟩ rfl hn (h3.1.trans hX.2.2.1) hst (lv_room hcat) hd hk) h2 (fun q _ h => h) (fun q h => h) (fun r u t H1 locs1 ht hvm hw hG hz1 hk1 hS => ?_)
  have hG1 := hG.1
  rw [ht] at hG1
  exact kk r u.1 u.2 hw H1 locs1 ls (hG1.moved hvm.symm) hS h3
/-- Math.max -/
theorem wa_max (hX : XK X own cc nL d) {x y : Int32} (hL : Cond.methodLink own idx Lib.Math.max.name ∈ TWg) (hs : Cond.static Lib.Math.max.name ∈ TWg) (hi : Cond.initialized "java/lang/Math" ∈ TWg) (hc : Cond.code Lib.Math.max.name Lib.Math.max.code 2 (some .int) ∈ TWg) (hd1 : 1 ≤ d) (hcat : (rest.map fun v => v.category).sum ≤ 8) (hd : decode cc pc = .ok (.invokestatic idx, 3))
    (kk : WX X k n N Sh I J (pc + 3) l (.int (if x < y then y else x) :: rest)) (hk : k ≤ X.1.2.2.2.1.cells ∧ n ≤ X.1.2.2.2.1.slots := by first | assumption | exact ⟨Nat.zero_le _, Nat.zero_le _⟩) : WX X k n N Sh I J pc l (.int y :: .int x :: rest) := by
  intro H locs ls h1 h2 h3
  have hts := hX.2.2.2.2.1
  exact va_mmax hX.1 hX.2.1 h3.1.symm hX.2.2.2.1 (hts _ hL) (hts _ hs) (hts _ hi) (hts _ hc) (Nat.le_trans hd1 hX.2.2.2.2.2.2.2.1) (by have := hX.2.2.2.2.2.2.2.2; omega) hk.1 hk.2 hd (kk H locs ls h1 h2 h3)
end WXC
/-! kinds of contracts: pure ones (P), ones that change numbers alone (M, void: MV) -/
abbrev CtP (l : Launch) (D : va_G) (A : Nat → Prop) (y : MethodName) (cc : ByteArray) (maxL : Nat) (ty : FieldType) (d N : Nat) (Sh : SM) (I : IM) (J : JM) (av : List Value) (q : Int32 → Prop) : Prop := CtI l D A y cc maxL ty d N Sh I J av (fun r I' J' => q r ∧ I' = I ∧ J' = J)
abbrev CtM (l : Launch) (D : va_G) (A : Nat → Prop) (y : MethodName) (cc : ByteArray) (maxL : Nat) (ty : FieldType) (d N : Nat) (Sh : SM) (I : IM) (J : JM) (av : List Value) (q : Int32 → IM → Prop) : Prop := CtI l D A y cc maxL ty d N Sh I J av (fun r I' J' => q r I' ∧ J' = J)
abbrev CtW (l : Launch) (D : va_G) (A : Nat → Prop) (y : MethodName) (cc : ByteArray) (maxL : Nat) (d N : Nat) (Sh : SM) (I : IM) (J : JM) (av : List Value) (q : IM → Prop) : Prop := CtV l D A y cc maxL d N Sh I J av (fun I' J' => q I' ∧ J' = J)
def bI (b : Bool) : Int32 := bif b then nI 1 else nI 0
theorem bI_0 {b : Bool} : bI b = 0 ↔ b = false := by cases b <;> decide
theorem bI_n0 {b : Bool} : ¬ bI b = 0 ↔ b = true := by cases b <;> decide
theorem nar_B (b : Bool) : narrow .boolean (.int (bI b)) = .int (bI b) := by cases b <;> rfl
section WXD
variable {X : Cx} {own : String} {cc : ByteArray} {nL d : Nat} {k n N : Nat} {Sh : SM} {I : IM} {J : JM} {pc : Nat} {l : List (Nat × Value)} {st rest : List Value}
variable {y : MethodName} {cc' : ByteArray} {maxL d' idx nA : Nat} {ty : FieldType} {As : List Value}
theorem wa_vP (hX : XK X own cc nL d) {C : String} {ci b : Nat} {q : Int32 → Prop} (hM : CtP X.1.2.1 X.2.1 X.2.2.1 y cc' maxL ty d' N Sh I J (.ref b :: As) q) (hB : LB y cc' maxL (some ty) nA) (hL : LV own idx C y) (hd' : d' + 1 ≤ d) (hm : maxL ≤ 20) (hci : ci < 7 ∧ C = clC ci) (hsh : Sh b = some (.inr ci)) (hn : As.length = nA) (hst : st = As.reverse ++ .ref b :: rest) (hcat : (rest.map fun v => v.category).sum ≤ 8) (hd : decode cc pc = .ok (.invokevirtual idx, 3)) (kk : ∀ r, q r → WX X k n N Sh I J (pc + 3) l (.int r :: rest)) (hk : k ≤ X.1.2.2.2.1.cells ∧ n ≤ X.1.2.2.2.1.slots := by first | assumption | exact ⟨Nat.zero_le _, Nat.zero_le _⟩) : WX X k n N Sh I J pc l st :=
  wa_callVI hX hM hB hL hd' hm hci hsh hn hst hcat hd (fun r I' J' hq => by obtain ⟨h, rfl, rfl⟩ := hq; exact kk r h) hk
theorem wa_vM (hX : XK X own cc nL d) {C : String} {ci b : Nat} {q : Int32 → IM → Prop} (hM : CtM X.1.2.1 X.2.1 X.2.2.1 y cc' maxL ty d' N Sh I J (.ref b :: As) q) (hB : LB y cc' maxL (some ty) nA) (hL : LV own idx C y) (hd' : d' + 1 ≤ d) (hm : maxL ≤ 20) (hci : ci < 7 ∧ C = clC ci) (hsh : Sh b = some (.inr ci)) (hn : As.length = nA) (hst : st = As.reverse ++ .ref b :: rest) (hcat : (rest.map fun v => v.category).sum ≤ 8) (hd : decode cc pc = .ok (.invokevirtual idx, 3)) (kk : ∀ r I', q r I' → WX X k n N Sh I' J (pc + 3) l (.int r :: rest)) (hk : k ≤ X.1.2.2.2.1.cells ∧ n ≤ X.1.2.2.2.1.slots := by first | assumption | exact ⟨Nat.zero_le _, Nat.zero_le _⟩) : WX X k n N Sh I J pc l st :=
  wa_callVI hX hM hB hL hd' hm hci hsh hn hst hcat hd (fun r I' J' hq => by obtain ⟨h, rfl⟩ := hq; exact kk r I' h) hk
theorem wa_vW (hX : XK X own cc nL d) {C : String} {ci b : Nat} {q : IM → Prop} (hM : CtW X.1.2.1 X.2.1 X.2.2.1 y cc' maxL d' N Sh I J (.ref b :: As) q) (hB : LB y cc' maxL none nA) (hL : LV own idx C y) (hd' : d' + 1 ≤ d) (hm : maxL ≤ 20) (hci : ci < 7 ∧ C = clC ci) (hsh : Sh b = some (.inr ci)) (hn : As.length = nA) (hst : st = As.reverse ++ .ref b :: rest) (hcat : (rest.map fun v => v.category).sum ≤ 8) (hd : decode cc pc = .ok (.invokevirtual idx, 3)) (kk : ∀ I', q I' → WX X k n N Sh I' J (pc + 3) l rest) (hk : k ≤ X.1.2.2.2.1.cells ∧ n ≤ X.1.2.2.2.1.slots := by first | assumption | exact ⟨Nat.zero_le _, Nat.zero_le _⟩) : WX X k n N Sh I J pc l st :=
  wa_callVV hX hM hB hL hd' hm hci hsh hn hst hcat hd (fun I' J' hq => by obtain ⟨h, rfl⟩ := hq; exact kk I' h) hk
theorem wa_sP (hX : XK X own cc nL d) {q : Int32 → Prop} (hM : CtP X.1.2.1 X.2.1 X.2.2.1 y cc' maxL ty d' N Sh I J As q) (hB : LB y cc' maxL (some ty) nA) (hL : LSt own idx y) (hd' : d' + 1 ≤ d) (hm : maxL ≤ 20) (hn : As.length = nA) (hst : st = As.reverse ++ rest) (hcat : (rest.map fun v => v.category).sum ≤ 8) (hd : decode cc pc = .ok (.invokestatic idx, 3)) (kk : ∀ r, q r → WX X k n N Sh I J (pc + 3) l (.int r :: rest)) (hk : k ≤ X.1.2.2.2.1.cells ∧ n ≤ X.1.2.2.2.1.slots := by first | assumption | exact ⟨Nat.zero_le _, Nat.zero_le _⟩) : WX X k n N Sh I J pc l st :=
  wa_callSI hX hM hB hL hd' hm hn hst hcat hd (fun r I' J' hq => by obtain ⟨h, rfl, rfl⟩ := hq; exact kk r h) hk
theorem wa_sM (hX : XK X own cc nL d) {q : Int32 → IM → Prop} (hM : CtM X.1.2.1 X.2.1 X.2.2.1 y cc' maxL ty d' N Sh I J As q) (hB : LB y cc' maxL (some ty) nA) (hL : LSt own idx y) (hd' : d' + 1 ≤ d) (hm : maxL ≤ 20) (hn : As.length = nA) (hst : st = As.reverse ++ rest) (hcat : (rest.map fun v => v.category).sum ≤ 8) (hd : decode cc pc = .ok (.invokestatic idx, 3)) (kk : ∀ r I', q r I' → WX X k n N Sh I' J (pc + 3) l (.int r :: rest)) (hk : k ≤ X.1.2.2.2.1.cells ∧ n ≤ X.1.2.2.2.1.slots := by first | assumption | exact ⟨Nat.zero_le _, Nat.zero_le _⟩) : WX X k n N Sh I J pc l st :=
  wa_callSI hX hM hB hL hd' hm hn hst hcat hd (fun r I' J' hq => by obtain ⟨h, rfl⟩ := hq; exact kk r I' h) hk
theorem wa_sW (hX : XK X own cc nL d) {q : IM → Prop} (hM : CtW X.1.2.1 X.2.1 X.2.2.1 y cc' maxL d' N Sh I J As q) (hB : LB y cc' maxL none nA) (hL : LSt own idx y) (hd' : d' + 1 ≤ d) (hm : maxL ≤ 20) (hn : As.length = nA) (hst : st = As.reverse ++ rest) (hcat : (rest.map fun v => v.category).sum ≤ 8) (hd : decode cc pc = .ok (.invokestatic idx, 3)) (kk : ∀ I', q I' → WX X k n N Sh I' J (pc + 3) l rest) (hk : k ≤ X.1.2.2.2.1.cells ∧ n ≤ X.1.2.2.2.1.slots := by first | assumption | exact ⟨Nat.zero_le _, Nat.zero_le _⟩) : WX X k n N Sh I J pc l st :=
  wa_callSV hX hM hB hL hd' hm hn hst hcat hd (fun I' J' hq => by obtain ⟨h, rfl⟩ := hq; exact kk I' h) hk
theorem wa_nP (hX : XK X own cc nL d) {host : String} {q : Int32 → Prop} (hM : CtP X.1.2.1 X.2.1 X.2.2.1 y cc' maxL ty d' N Sh I J As q) (hB : LB y cc' maxL (some ty) nA) (hL : LN own idx y host) (hd' : d' + 1 ≤ d) (hm : maxL ≤ 20) (hn : As.length = nA) (hst : st = As.reverse ++ rest) (hcat : (rest.map fun v => v.category).sum ≤ 8) (hd : decode cc pc = .ok (.invokestatic idx, 3)) (kk : ∀ r, q r → WX X k n N Sh I J (pc + 3) l (.int r :: rest)) (hk : k ≤ X.1.2.2.2.1.cells ∧ n ≤ X.1.2.2.2.1.slots := by first | assumption | exact ⟨Nat.zero_le _, Nat.zero_le _⟩) : WX X k n N Sh I J pc l st :=
  wa_callNI hX hM hB hL hd' hm hn hst hcat hd (fun r I' J' hq => by obtain ⟨h, rfl, rfl⟩ := hq; exact kk r h) hk
theorem wa_nM (hX : XK X own cc nL d) {host : String} {q : Int32 → IM → Prop} (hM : CtM X.1.2.1 X.2.1 X.2.2.1 y cc' maxL ty d' N Sh I J As q) (hB : LB y cc' maxL (some ty) nA) (hL : LN own idx y host) (hd' : d' + 1 ≤ d) (hm : maxL ≤ 20) (hn : As.length = nA) (hst : st = As.reverse ++ rest) (hcat : (rest.map fun v => v.category).sum ≤ 8) (hd : decode cc pc = .ok (.invokestatic idx, 3)) (kk : ∀ r I', q r I' → WX X k n N Sh I' J (pc + 3) l (.int r :: rest)) (hk : k ≤ X.1.2.2.2.1.cells ∧ n ≤ X.1.2.2.2.1.slots := by first | assumption | exact ⟨Nat.zero_le _, Nat.zero_le _⟩) : WX X k n N Sh I J pc l st :=
  wa_callNI hX hM hB hL hd' hm hn hst hcat hd (fun r I' J' hq => by obtain ⟨h, rfl⟩ := hq; exact kk r I' h) hk
end WXD
