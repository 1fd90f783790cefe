/-! making over my memory: new, arrays, final fields, constructors -/
def sX (Sh : SM) (a : Nat) (sh : Shp) : SM := fun b => if b = a then some sh else Sh b
def jR (J : JM) (a : Nat) (f : Nat → Option Nat) : JM := fun b => if b = a then f else J b
theorem sX_s {Sh : SM} {a : Nat} {sh : Shp} : sX Sh a sh a = some sh := if_pos rfl
theorem sX_n {Sh : SM} {a b : Nat} {sh : Shp} (h : b ≠ a) : sX Sh a sh b = Sh b := if_neg h
theorem jR_s {J : JM} {a : Nat} {f : Nat → Option Nat} : jR J a f a = f := if_pos rfl
theorem jR_n {J : JM} {a b : Nat} {f : Nat → Option Nat} (h : b ≠ a) : jR J a f b = J b := if_neg h
theorem uJ_s {J : JM} {a k : Nat} {v : Option Nat} : uJ J a k v a k = v := by simp [uJ, va_up]
theorem uJ_k {J : JM} {a k j : Nat} {v : Option Nat} (h : j ≠ k) : uJ J a k v a j = J a j := by simp [uJ, va_up, h]
theorem uJ_n {J : JM} {a b k : Nat} {v : Option Nat} (h : b ≠ a) : uJ J a k v b = J b := by simp [uJ, h]
def AOI (U : State) : Prop := (Cond.arrayOver (.array .int)).before #[] U = true
theorem AOI.moved {u U : State} (hvm : u.vm.Alike U.vm) (h : AOI u) : AOI U := by
  obtain ⟨comp, c, k, h1, h2, h3, h4, h5⟩ := arrayOverA_spec h
  obtain ⟨k', hk', he⟩ := hvm.2.2 _ _ h3
  have hi : (U.vm.classes.findIdx? fun (x : Class) => match x.kind with | .array component _ => component == comp | _ => false) = some c := (hvm.findIdx?_eq _ (fun _ => rfl)).trans h2
  have hkind : k'.kind = .array comp (.array .int) := by rw [he]; exact h4
  have f1 : U.vm.findClass (FieldType.array .int).toString = some comp := by rw [hvm.findClass]; exact h1
  have f2 : U.vm.findClass ("[" ++ (FieldType.array .int).toString) = some c := by rw [hvm.findClass]; exact h5
  unfold AOI Cond.before Cond.holds
  simp only [Cond.value]
  rw [f1, Option.bind_some]
  refine (congrArg (fun o : Option Nat => (o.bind (fun c => (U.vm.classes[c]?).map fun (k : Class) => match k.kind with | .array _ ty => decide (ty = FieldType.array .int) && decide (U.vm.findClass ("[" ++ (FieldType.array .int).toString) = some c) | _ => false) == some true)) hi).trans ?_
  simp [hk', hkind, f2]
def AOS (U : State) : Prop := va_AO RX0 U ∧ va_AO RX4 U ∧ AOI U
theorem AOS.moved {u U : State} (hvm : u.vm.Alike U.vm) (h : AOS u) : AOS U := ⟨h.1.moved hvm, h.2.1.moved hvm, h.2.2.moved hvm⟩
/-- what holds where things are made -/
def XN (X : Cx) (mc ms : Nat) : Prop := (∀ q, X.1.2.2.2.2.1.heap.size ≤ q → X.2.2.1 q) ∧ AOS X.1.2.2.2.2.1 ∧ mc ≤ X.1.2.2.2.1.cells ∧ ms ≤ X.1.2.2.2.1.slots
def XI (X : Cx) : Prop := X.1.2.2.2.2.2.2.2.2.1.name = "<init>"
theorem HG.new {s : State} {D : va_G} {A : Nat → Prop} {N : Nat} {Sh : SM} {I I' : IM} {J J' : JM} {H H1 : Heap} {sh : Shp} (h : HG s D A N Sh I J H) (z : H1.size = N + 1) (oq : ∀ q, q < N → H1[q]? = H[q]?) (hnew : va_at D vwCl (N, gmE I' J' N sh) H1) (hA : A N) (hk : AKs s sh) (hi : ∀ b, b ≠ N → I' b = I b) (hj : ∀ b, b ≠ N → J' b = J b) : HG s D A (N + 1) (sX Sh N sh) I' J' H1 := by
  refine ⟨z, fun a sa ha => ?_⟩
  by_cases e : a = N
  · subst e
    rw [sX_s] at ha
    cases ha
    exact ⟨hnew, hA, hk⟩
  · rw [sX_n e] at ha
    have old := h.2 a sa ha
    have hlt : a < H.size := old.1.lt
    rw [h.1] at hlt
    refine ⟨?_, old.2⟩
    rw [gmE_congr (hi a e) (hj a e)]
    exact va_at.kept old.1 (oq a hlt)
theorem df_ok : ∀ ci, ci < 7 → ∀ j, j < clN ci → defaultValue (clTy ci j) = (if (fK ci).getD j false = true then Value.null else .int (nI 0)) := by
  intro ci h
  rcases (show ci = 0 ∨ ci = 1 ∨ ci = 2 ∨ ci = 3 ∨ ci = 4 ∨ ci = 5 ∨ ci = 6 by omega) with rfl | rfl | rfl | rfl | rfl | rfl | rfl
  · intro j hj
    rcases (show j = 0 ∨ j = 1 ∨ j = 2 ∨ j = 3 by have hj : j < 4 := hj; omega) with rfl | rfl | rfl | rfl <;> rfl
  · intro j hj
    rcases (show j = 0 ∨ j = 1 ∨ j = 2 ∨ j = 3 ∨ j = 4 by have hj : j < 5 := hj; omega) with rfl | rfl | rfl | rfl | rfl <;> rfl
  · intro j hj
    rcases (show j = 0 ∨ j = 1 ∨ j = 2 ∨ j = 3 by have hj : j < 4 := hj; omega) with rfl | rfl | rfl | rfl <;> rfl
  · intro j hj
    rcases (show j = 0 ∨ j = 1 ∨ j = 2 by have hj : j < 3 := hj; omega) with rfl | rfl | rfl <;> rfl
  · intro j hj
    rcases (show j = 0 ∨ j = 1 ∨ j = 2 by have hj : j < 3 := hj; omega) with rfl | rfl | rfl <;> rfl
  · intro j hj
    rcases (show j = 0 ∨ j = 1 ∨ j = 2 ∨ j = 3 ∨ j = 4 ∨ j = 5 ∨ j = 6 by have hj : j < 7 := hj; omega) with rfl | rfl | rfl | rfl | rfl | rfl | rfl <;> rfl
  · intro j hj
    rcases (show j = 0 ∨ j = 1 ∨ j = 2 ∨ j = 3 ∨ j = 4 ∨ j = 5 ∨ j = 6 ∨ j = 7 ∨ j = 8 ∨ j = 9 ∨ j = 10 ∨ j = 11 ∨ j = 12 ∨ j = 13 ∨ j = 14 ∨ j = 15 ∨ j = 16 ∨ j = 17 ∨ j = 18 ∨ j = 19 by have hj : j < 20 := hj; omega) with rfl | rfl | rfl | rfl | rfl | rfl | rfl | rfl | rfl | rfl | rfl | rfl | rfl | rfl | rfl | rfl | rfl | rfl | rfl | rfl <;> rfl
section WXN
variable {X : Cx} {own : String} {cc : ByteArray} {nL d : Nat} {k n N mc ms : Nat} {Sh : SM} {I : IM} {J : JM} {pc : Nat} {l : List (Nat × Value)} {st rest : List Value}
theorem wn_new (hX : XK X own cc nL d) (hN : XN X mc ms) {idx ci : Nat} (hci : ci < 7) (hl : Cond.classLink own idx (clC ci) ∈ TWg) (hin : Cond.instantiable (clC ci) (clN ci) ∈ TWg) (hini : Cond.initialized (clC ci) ∈ TWg) (hc1 : k + 1 ≤ mc) (hc2 : n + clN ci ≤ ms) (hd : decode cc pc = .ok (.new idx, 3))
    (kk : WX X (k + 1) (n + clN ci) (N + 1) (sX Sh N (.inr ci)) (uR I N (fun _ => nI 0)) (jR J N (fun _ => none)) (pc + 3) l (.ref N :: st)) : WX X k n N Sh I J pc l st := by
  intro H locs ls h1 h2 h3
  have hts := hX.2.2.2.2.1
  have hKn := hX.2.2.2.2.2.1 ci _ (cl_get hci)
  refine W.newcK hX.1 hX.2.1 hX.2.2.2.1 (hts _ hl) (hts _ hin) (hts _ hini) rfl hd (Nat.le_trans hc1 hN.2.2.1) (Nat.le_trans hc2 hN.2.2.2) hKn.2.1 (h := N) h1.1 fun H1 kC hkC e1 z1 o1 => ?_
  refine kk H1 locs ls (h1.new z1 o1 ⟨_, cl_get hci, (u_born (clTy ci) hts (cl_ws hci) hKn hkC e1 (cl_ty hci)).to (fun j hj => ?_)⟩ (hN.1 N (by rw [← h1.1]; exact h2.1)) trivial (fun b hb => uR_n hb) (fun b hb => jR_n hb)) ⟨Nat.le_trans h2.1 (by rw [z1, h1.1]; omega), fun q a b => (o1 q (by have := h2.1; have := h1.1; omega)).trans (h2.2.1 q a b), h2.2.2⟩ h3
  have e9 : (gmF ci (uR I N (fun _ => nI 0)) (jR J N (fun _ => none)) N).getD j .null = (if (fK ci).getD j false = true then Value.null else .int (nI 0)) := by
    rw [List.getD_eq_getElem?_getD, gmF_get (by rw [fK_len hci]; exact hj), Option.getD_some, uR_s, jR_s]
    split <;> rfl
  rw [df_ok ci hci j hj]
  exact e9.symm
theorem wn_newa (hX : XK X own cc nL d) (hN : XN X mc ms) {atype : ArrayType} {nn : Nat} (hat : atype = .int ∨ atype = .boolean ∨ atype = .char) (harr : Cond.arrayClass (newarray.typeOf atype) ∈ TWg) (hnn : nn ≤ 10000) (hc1 : k + 1 ≤ mc) (hc2 : n + nn ≤ ms) (hd : decode cc pc = .ok (.newarray atype, 2))
    (kk : ∀ cA, WX X (k + 1) (n + nn) (N + 1) (sX Sh N (.inl (cA, newarray.typeOf atype, nn))) (uR I N (fun _ => nI 0)) J (pc + 2) l (.ref N :: st)) : WX X k n N Sh I J pc l (.int (nI nn) :: st) := by
  intro H locs ls h1 h2 h3
  have hts := hX.2.2.2.2.1
  have hcl : (nI nn).toNatClampNeg = nn := nI_clamp (by omega)
  refine va_newaK hX.1 hX.2.1 (hts _ harr) (g := F0 X.1.2.2.2.2.2.1 pc ls (.int (nI nn) :: st)) rfl hd rfl (nI_pos (by omega)) hcl (by rcases hat with rfl | rfl | rfl <;> (show nn * _ ≤ _) <;> (first | (show nn * 4 ≤ _; omega) | (show nn * 1 ≤ _; omega) | (show nn * 2 ≤ _; omega))) (Nat.le_trans hc1 hN.2.2.1) (Nat.le_trans hc2 hN.2.2.2) (h := N) h1.1 fun H1 cA e1 z1 o1 hAr hNm => ?_
  refine kk cA H1 locs ls (h1.new z1 o1 ?_ (hN.1 N (by rw [← h1.1]; exact h2.1)) ⟨hAr, by rcases hat with rfl | rfl | rfl <;> exact hNm⟩ (fun b hb => uR_n hb) (fun b hb => rfl)) ⟨Nat.le_trans h2.1 (by rw [z1, h1.1]; omega), fun q a b => (o1 q (by have := h2.1; have := h1.1; omega)).trans (h2.2.1 q a b), h2.2.2⟩ h3
  show H1[N]? = some (vp_cell _ _)
  rw [e1]
  rcases hat with rfl | rfl | rfl <;> (show _ = some (arrV cA nn (fun j => .int (uR I N (fun _ => nI 0) N j)))) <;> rw [uR_s] <;> rfl
theorem wn_newq (hX : XK X own cc nL d) (hN : XN X mc ms) {idx nn : Nat} {C : String} (hao : va_AO C X.1.2.2.2.2.1) (hl : Cond.classLink own idx C ∈ TWg) (hnn : nn ≤ 10000) (hc1 : k + 1 ≤ mc) (hc2 : n + nn ≤ ms) (hd : decode cc pc = .ok (.anewarray idx, 3))
    (kk : ∀ cA, WX X (k + 1) (n + nn) (N + 1) (sX Sh N (.inl (cA, .object C, nn))) I (jR J N (fun _ => none)) (pc + 3) l (.ref N :: st)) : WX X k n N Sh I J pc l (.int (nI nn) :: st) := by
  intro H locs ls h1 h2 h3
  have hts := hX.2.2.2.2.1
  have hcl : (nI nn).toNatClampNeg = nn := nI_clamp (by omega)
  refine W.anew hX.1 hX.2.1 hX.2.2.2.1 (hts _ hl) (va_AO.use hao) (g := F0 X.1.2.2.2.2.2.1 pc ls (.int (nI nn) :: st)) rfl hd rfl (nI_pos (by omega)) (by rw [hcl]; omega) (Nat.le_trans hc1 hN.2.2.1) (by rw [hcl]; exact Nat.le_trans hc2 hN.2.2.2) fun cA kA comp f1 f2 f3 f4 => ?_
  rw [hcl]
  generalize hH1 : H.push ({ cls := cA, slots := Array.replicate nn .null, vm := .none } : Cell) = H1
  have z1 : H1.size = N + 1 := by rw [← hH1, Array.size_push, h1.1]
  have e1 : H1[N]? = some (arrV cA nn (fun _ => .null)) := by rw [← hH1, ← h1.1, Array.getElem?_push_size, ← arrV_new]
  have o1 : ∀ q : Nat, q < N → H1[q]? = H[q]? := fun q hq => by rw [← hH1, Array.getElem?_push, if_neg (by have := h1.1; omega)]
  rw [h1.1]
  refine kk cA H1 locs ls (h1.new z1 o1 ?_ (hN.1 N (by rw [← h1.1]; exact h2.1)) ⟨fun N z => ⟨(fun k h => by cases h), kA, f2, comp, f3⟩, kA, comp, f2, f3, f4, f1⟩ (fun b hb => rfl) (fun b hb => jR_n hb)) ⟨Nat.le_trans h2.1 (by rw [z1, h1.1]; omega), fun q a b => (o1 q (by have := h2.1; have := h1.1; omega)).trans (h2.2.1 q a b), h2.2.2⟩ h3
  show H1[N]? = some (vp_cell cA (nn, .inr (.inr (.inr (.inr (jR J N (fun _ => none) N))))))
  rw [e1, jR_s]
  rfl
/-- the shapes behind an array of arrays -/
def sM2 (Sh : SM) (a nn : Nat) (s1 s2 : Shp) : SM := fun b => if b = a then some s1 else if a < b ∧ b < a + 1 + nn then some s2 else Sh b
theorem sM2_s {Sh : SM} {a nn : Nat} {s1 s2 : Shp} : sM2 Sh a nn s1 s2 a = some s1 := if_pos rfl
theorem sM2_i {Sh : SM} {a nn b : Nat} {s1 s2 : Shp} (h : a < b ∧ b < a + 1 + nn) : sM2 Sh a nn s1 s2 b = some s2 := by
  unfold sM2
  rw [if_neg (by omega), if_pos h]
theorem sM2_n {Sh : SM} {a nn b : Nat} {s1 s2 : Shp} (h : b < a ∨ a + 1 + nn ≤ b) : sM2 Sh a nn s1 s2 b = Sh b := by
  unfold sM2
  rw [if_neg (by omega), if_neg (by omega)]
def iM2 (I : IM) (a nn : Nat) : IM := fun b => if a < b ∧ b < a + 1 + nn then (fun _ => nI 0) else I b
theorem iM2_i {I : IM} {a nn b : Nat} (h : a < b ∧ b < a + 1 + nn) : iM2 I a nn b = fun _ => nI 0 := if_pos h
theorem iM2_n {I : IM} {a nn b : Nat} (h : b ≤ a ∨ a + 1 + nn ≤ b) : iM2 I a nn b = I b := if_neg (by omega)
theorem wn_multi (hX : XK X own cc nL d) (hN : XN X mc ms) {idx nn mm : Nat} (hl : Cond.classLink own idx "[[I" ∈ TWg) (harr : Cond.arrayClass .int ∈ TWg) (hnn : nn ≤ 1000) (hmm : mm ≤ 1000) (hc1 : k + (1 + nn) ≤ mc) (hc2 : n + (nn + nn * mm) ≤ ms) (hd : decode cc pc = .ok (.multianewarray idx 2, 4))
    (kk : ∀ cA cI, WX X (k + 1 + nn) (n + nn + nn * mm) (N + 1 + nn) (sM2 Sh N nn (.inl (cA, .array .int, nn)) (.inl (cI, .int, mm))) (iM2 I N nn) (jR J N (fun j => if j < nn then some (N + 1 + j) else none)) (pc + 4) l (.ref N :: st)) : WX X k n N Sh I J pc l (.int (nI mm) :: .int (nI nn) :: st) := by
  intro H locs ls h1 h2 h3
  have hts := hX.2.2.2.2.1
  have hz := h1.1
  refine wm_multi hX.1 hX.2.1 hX.2.2.2.1 (hts _ hl) hN.2.1.2.2 (hts _ harr) hnn hmm hd (Nat.le_trans hc1 hN.2.2.1) (Nat.le_trans hc2 hN.2.2.2) fun H1 L cA cI z1 e1 f1 o1 hL a1 a2 a3 a4 => ?_
  rw [hz] at z1 e1 f1 o1 hL ⊢
  refine kk cA cI H1 L ls ⟨z1, fun a sa ha => ?_⟩ ⟨Nat.le_trans h2.1 (by rw [z1, hz]; omega), fun q a b => (o1 q (by have := h2.1; omega)).trans (h2.2.1 q a b), fun x hx => ?_⟩ h3
  · by_cases e : a = N
    · subst e
      rw [sM2_s] at ha
      cases ha
      refine ⟨?_, hN.1 a (by rw [← hz]; exact h2.1), a1, a2⟩
      show H1[a]? = some (vp_cell cA (nn, .inr (.inr (.inr (.inr (jR J a (fun j => if j < nn then some (a + 1 + j) else none) a))))))
      rw [e1, jR_s]
      show some (arrV cA nn (mF a nn)) = some (arrV cA nn (fun j => va_rf (if j < nn then some (a + 1 + j) else none)))
      congr 2
      funext j
      show (if j < nn then Value.ref (a + 1 + j) else .null) = va_rf (if j < nn then some (a + 1 + j) else none)
      split <;> rfl
    · by_cases e2 : N < a ∧ a < N + 1 + nn
      · rw [sM2_i e2] at ha
        cases ha
        refine ⟨?_, hN.1 a (by have := h2.1; omega), a3, a4⟩
        show H1[a]? = some (arrV cI mm (fun j => .int (iM2 I N nn a j)))
        rw [iM2_i e2]
        have := f1 (a - (N + 1)) (by omega)
        rw [show N + 1 + (a - (N + 1)) = a by omega] at this
        exact this
      · rw [sM2_n (by omega)] at ha
        have old := h1.2 a sa ha
        have hlt : a < H.size := old.1.lt
        refine ⟨?_, old.2⟩
        rw [gmE_congr (I := I) (J := J) (iM2_n (by omega)) (jR_n e)]
        exact va_at.kept old.1 (o1 a (by omega))
  · rcases hL x hx with q | q
    · exact h2.2.2 x q
    · rw [q]
      exact hN.1 N (by rw [← hz]; exact h2.1)
theorem wn_putF (hX : XK X own cc nL d) (hI : XI X) {idx ci kf a b : Nat} (hF : FL own idx ci kf) (hr : (fK ci).getD kf false = true) (hfin : (clT ci kf).2.2.2 = true) (hdecl : (clT ci kf).1 = own) (hn : narrow (clTy ci kf) (.ref b) = .ref b ∧ fits (clTy ci kf) (.ref b) = true) (hsh : Sh a = some (.inr ci)) (hd : decode cc pc = .ok (.putfield idx, 3))
    (kk : WX X k n N Sh I (uJ J a kf (some b)) (pc + 3) l st) : WX X k n N Sh I J pc l (.ref b :: .ref a :: st) := by
  intro H locs ls h1 h2 h3
  obtain ⟨hz, hA, hAK⟩ := h1.2 a _ hsh
  have hlen : kf < (fK ci).length := by rw [fK_len hF.1]; exact hF.2.1
  have hts := hX.2.2.2.2.1
  have hap := va_apart (own := own) hts (cl_ws hF.1) (clTy ci) (cl_ty hF.1) (cl_nm hF.1) (no_K hX.2.2.2.2.2.1) (cl_get hF.1)
  obtain ⟨r, g1, cell, q1, q2, q3, q4⟩ := hz
  have hrr : r = (clC ci, clT ci, clN ci) := Option.some.inj (g1.symm.trans (cl_get hF.1))
  subst hrr
  obtain ⟨hS, hfc, kC, hkC, hkind⟩ := hX.2.2.2.2.2.1 ci _ (cl_get hF.1)
  obtain ⟨cf, kfk, fi, f, hi, hsl⟩ := hS kf hF.2.1
  have hlay := hts _ (cl_ws hF.1 _ (u_in_lay hF.2.1))
  unfold u_lay at hlay
  rw [if_pos hfin] at hlay
  have hst := (u_facts hfc hkC (u_lays hts (cl_ws hF.1) hF.2.1) hi).1
  have hcf : X.1.2.2.2.2.2.1.cls = cf := by
    obtain ⟨_, _, c', _, _, _, -, -, hf', -, -, -, hown2, -⟩ := Cond.laysFinal_spec hlay
    have e1 : c' = cf := by have := hi.symm.trans hf'; simp at this; exact this.1.symm
    rw [hdecl] at hown2
    rw [← e1]
    exact Option.some.inj (hX.2.2.2.1.symm.trans hown2)
  have h6 := u_fits hfc hkC hkind (Or.inr hlay) hi (cl_ty hF.1 kf hF.2.1) hn.1 hn.2
  refine W.putFinK hX.1 hX.2.1 hX.2.2.2.1 (hts _ hF.2.2) hi hst hcf hI (by rw [q2]; exact h6) q1 q3 (by rw [hsl]; exact k2_hasslot (q4 kf hF.2.1)) rfl rfl hd fun H' e1 e2 e3 => ?_
  rw [hsl] at e1 ⊢
  refine kk H' _ ls (h1.set hsh ?_ e2 e3 (fun _ _ => rfl) (fun b hb => uJ_n hb)) (h2.put e2 e3 hA) h3
  refine ⟨_, cl_get hF.1, ?_⟩
  have e5 : (gmF ci I J a).set kf (va_rf (some b)) = gmF ci I (uJ J a kf (some b)) a := gmF_setJ hlen hr
  show t_OB a _ _ _ H' (vp_V (gmF ci I (uJ J a kf (some b)) a))
  rw [← e5]
  exact t_OB.to (V := updV (vp_V (gmF ci I J a)) kf (.ref b)) ⟨_, e1, q2, q3, t_set q4 hap hF.2.1 (.ref b)⟩ (fun j _ => vp_updV_set (by simpa [gmF] using hlen) (.ref b) j)
theorem wn_objInit (hX : XK X own cc nL d) {idx a : Nat} (hl : Cond.methodLink own idx Lib.objectInit ∈ TWg) (hin : Cond.instanceMethod Lib.objectInit ∈ TWg) (hco : Cond.code Lib.objectInit ⟨#[0xb1]⟩ 1 none ∈ TWg) (hd1 : 1 ≤ d) (hcat : (st.map fun v => v.category).sum ≤ 8) (hd : decode cc pc = .ok (.invokespecial idx, 3)) (kk : WX X k n N Sh I J (pc + 3) l st) : WX X k n N Sh I J pc l (.ref a :: st) := by
  intro H locs ls h1 h2 h3
  have hts := hX.2.2.2.2.1
  refine W.objInit hX.1 hX.2.1 hX.2.2.2.1 (hts _ hl) (hts _ hin) (hts _ hco) (g := F0 X.1.2.2.2.2.2.1 pc ls (.ref a :: st)) rfl h3.1 rfl hd (Nat.le_trans hd1 hX.2.2.2.2.2.2.2.1) ?_ ?_
  · have := hX.2.2.2.2.2.2.2.2
    show 2 * 0 + _ + 12 ≤ _
    omega
  · exact kk H locs ls h1 h2 h3
end WXN
def rmN (d mc ms : Nat) : Room := { frames := d, cells := mc, slots := ms, locals := 40 * d }
def PreN (D : va_G) (A : Nat → Prop) (N : Nat) (Sh : SM) (I : IM) (J : JM) (U : State) : Prop := PreG D A N Sh I J U ∧ AOS U
/-- a constructor's contract: mc cells of ms slots are new -/
def CtN (l : Launch) (D : va_G) (A : Nat → Prop) (y : MethodName) (cc : ByteArray) (maxL d mc ms N : Nat) (Sh : SM) (I : IM) (J : JM) (av : List Value) (Q : Nat → SM → IM → JM → Prop) : Prop :=
  Met l y (TWs y cc maxL none) (rmN d mc ms) (va_Pc av (PreN D A N Sh I J)) (va_Qv (fun (u : Nat × SM × IM × JM) => Q u.1 u.2.1 u.2.2.1 u.2.2.2) (fun (u : Nat × SM × IM × JM) t => PreG D A u.1 u.2.1 u.2.2.1 u.2.2.2 t) A) mc ms A
theorem ct_N {l : Launch} {D : va_G} {A : Nat → Prop} {y : MethodName} {cc : ByteArray} {maxL d mc ms N : Nat} {Sh : SM} {I : IM} {J : JM} {av : List Value} {Q : Nat → SM → IM → JM → Prop} {l0 : List (Nat × Value)}
    (hy : plainName y.cls = true) (hyi : y.name = "<init>") (hA : ∀ q, N ≤ q → A q) (hav : (lg_sl av).length ≤ maxL) (hl0 : lv_args 0 av = l0)
    (body : ∀ X : Cx, XK X y.cls cc maxL d → XN X mc ms → XI X → (∀ (N' : Nat) (Sh' : SM) (I' : IM) (J' : JM) (pc : Nat) (l' : List (Nat × Value)), Q N' Sh' I' J' → decode cc pc = .ok (.return_, 1) → WX X mc ms N' Sh' I' J' pc l' []) → X.1.2.1 = l → X.2.1 = D → X.2.2.1 = A → WX X 0 0 N Sh I J 0 l0 []) : CtN l D A y cc maxL d mc ms N Sh I J av Q := by
  refine Met.ofW (cc := cc) (maxL := maxL) (ret := none) hy rfl ?_
  intro p e s m args below meth c s₁ B hml hv
  obtain ⟨rfl, ⟨hG, hK, hNW⟩, hAO⟩ := hv
  have hts := atoms_spec (ws := TWs y cc maxL none) B.pre
  have hl := lv_entry av (n := maxL) hav
  rw [lg_entry_eq]
  generalize (lg_sl av ++ List.replicate (maxL - (lg_sl av).length) Slot.unset).toArray = ls at hl ⊢
  rw [hl0] at hl
  refine body ((p, l, e, rmN d mc ms, s, m, _, below, meth, c), D, A, _) ⟨B.exec, B.bytes, hml, findClass_of_methodNamed B.named, fun w hw => hts w (List.mem_cons_of_mem _ hw), hK, hNW, Nat.le_refl _, Nat.le_refl _⟩ ⟨fun q hq => hA q (by have h9 : s.heap.size = N := hG.1; have h8 : s.heap.size ≤ q := hq; omega), hAO, Nat.le_refl _, Nat.le_refl _⟩ ((name_of_methodNamed B.named B.method).1.trans hyi) ?_ rfl rfl rfl s.heap [] ls hG va_S.rf (by show lv_has ls c.maxLocals _; rw [hml]; exact hl)
  intro N' Sh' I' J' pc l' hq hd H locs ls' h1 h2 h3
  exact W.vret B.exec B.bytes B.returns (fun t ht hW => ⟨⟨(N', Sh', I', J'), rfl, hq, by rw [← ht] at h1; exact h1.moved hW.alike, hK.moved hW.alike, hNW.warm hW⟩, h2.F ht⟩) h2.2.2 hd B.notSynchronized
theorem blindN {av : List Value} {D : va_G} {A : Nat → Prop} {N : Nat} {Sh : SM} {I : IM} {J : JM} : FrameBlind (va_Pc av (PreN D A N Sh I J)) := by
  rintro a U g mk ⟨q0, ⟨qG, qK, qN⟩, qA⟩
  exact ⟨q0, ⟨qG.moved (u := U) (U := U.calling g mk a) (Vm.Alike.refl U.vm), qK.moved (u := U) (U := U.calling g mk a) (Vm.Alike.refl U.vm), qN.same (u := U) (U := U.calling g mk a) rfl⟩, qA.moved (u := U) (U := U.calling g mk a) (Vm.Alike.refl U.vm)⟩
section WXI
variable {X : Cx} {own : String} {cc : ByteArray} {nL d : Nat} {k n N mc ms : Nat} {Sh : SM} {I : IM} {J : JM} {pc : Nat} {l : List (Nat × Value)} {st rest : List Value}
theorem wn_init (hX : XK X own cc nL d) (hN : XN X mc ms) {y : MethodName} {cc' : ByteArray} {maxL d' mc' ms' idx nA b : Nat} {As : List Value} {Q : Nat → SM → IM → JM → Prop} (hM : CtN X.1.2.1 X.2.1 X.2.2.1 y cc' maxL d' mc' ms' N Sh I J (.ref b :: As) Q) (hB : LB y cc' maxL none nA) (hy1 : y.name = "<init>") (hL : Cond.methodLink own idx y ∈ TWg ∧ Cond.instanceMethod y ∈ TWg)
    (hd' : d' + 1 ≤ d) (hm : maxL ≤ 20) (hn : As.length = nA) (hst : st = As.reverse ++ .ref b :: rest) (hcat : (rest.map fun v => v.category).sum ≤ 8) (hd : decode cc pc = .ok (.invokespecial idx, 3)) (hk1 : k + mc' ≤ mc) (hk2 : n + ms' ≤ ms) (kk : ∀ N' Sh' I' J', Q N' Sh' I' J' → WX X (k + mc') (n + ms') N' Sh' I' J' (pc + 3) l rest) : WX X k n N Sh I J pc l st := by
  intro H locs ls h1 h2 h3
  have hts := hX.2.2.2.2.1
  have e1 := hX.2.2.2.2.2.2.2.1
  have e2 := hX.2.2.2.2.2.2.2.2
  refine va_callv (va_runI (As := As) (rest := rest) ⟨hX.1, hX.2.1, hX.2.2.1, hX.2.2.2.1, hts⟩ hM ⟨callB_of nA hts (tw_sub hB.1) rfl rfl rfl (hts _ hB.2.1) (hts _ hL.1) hB.2.2 ⟨Nat.le_trans hd' e1, Nat.le_trans (show 8 + (maxL + 11) + 40 * d' ≤ 40 * d by omega) e2⟩, hy1, hts _ hL.2⟩
    ⟨blindN, fun U hU hW => ⟨rfl, pre_to hX h1 U hU hW, hN.2.1.moved hW.alike⟩⟩ rfl hn (h3.1.trans hX.2.2.1) hst (lv_room hcat) hd ⟨Nat.le_trans hk1 hN.2.2.1, Nat.le_trans hk2 hN.2.2.2⟩) h2 (fun q _ h => h) (fun q h => h) (fun u t H1 locs1 ht hvm hw hG hz1 hk1 hS => ?_)
  have hG1 := hG.1
  rw [ht] at hG1
  exact kk u.1 u.2.1 u.2.2.1 u.2.2.2 hw H1 locs1 ls (hG1.moved hvm.symm) hS h3
end WXI
