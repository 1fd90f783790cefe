/-! the memory's instructions -/
def clTy : Nat → Nat → FieldType
  | 0 => tyX0
  | 1 => tyX1
  | 2 => tyX3
  | 3 => tyX4
  | 4 => tyX5
  | 5 => tyX6
  | _ => tyX7
theorem cl_get {ci : Nat} (h : ci < 7) : vwCl[ci]? = some (clC ci, clT ci, clN ci) := by
  rcases (show ci = 0 ∨ ci = 1 ∨ ci = 2 ∨ ci = 3 ∨ ci = 4 ∨ ci = 5 ∨ ci = 6 by omega) with rfl | rfl | rfl | rfl | rfl | rfl | rfl <;> rfl
theorem fK_len {ci : Nat} (h : ci < 7) : (fK ci).length = clN ci := by
  rcases (show ci = 0 ∨ ci = 1 ∨ ci = 2 ∨ ci = 3 ∨ ci = 4 ∨ ci = 5 ∨ ci = 6 by omega) with rfl | rfl | rfl | rfl | rfl | rfl | rfl <;> rfl
theorem cl_ty {ci : Nat} (h : ci < 7) : ∀ k, k < clN ci → parseFieldDescriptor (clT ci k).2.2.1 = some (clTy ci k) := by
  rcases (show ci = 0 ∨ ci = 1 ∨ ci = 2 ∨ ci = 3 ∨ ci = 4 ∨ ci = 5 ∨ ci = 6 by omega) with rfl | rfl | rfl | rfl | rfl | rfl | rfl
  · exact tyX0_ok
  · exact tyX1_ok
  · exact tyX3_ok
  · exact tyX4_ok
  · exact tyX5_ok
  · exact tyX6_ok
  · exact tyX7_ok
theorem cl_nm {ci : Nat} (h : ci < 7) : ∀ a, a < clN ci → ∀ b, b < clN ci → a ≠ b → (clT ci a).2.1 ≠ (clT ci b).2.1 := by
  rcases (show ci = 0 ∨ ci = 1 ∨ ci = 2 ∨ ci = 3 ∨ ci = 4 ∨ ci = 5 ∨ ci = 6 by omega) with rfl | rfl | rfl | rfl | rfl | rfl | rfl
  · exact nmX0
  · exact nmX1
  · exact nmX3
  · exact nmX4
  · exact nmX5
  · exact nmX6
  · exact nmX7
theorem cl_w0 : ∀ w ∈ u_ws RX0 TX0 4, w ∈ TWg := cl_dec _ (by decide +kernel)
theorem cl_w1 : ∀ w ∈ u_ws RX1 TX1 5, w ∈ TWg := cl_dec _ (by decide +kernel)
theorem cl_w2 : ∀ w ∈ u_ws RX3 TX3 4, w ∈ TWg := cl_dec _ (by decide +kernel)
theorem cl_w3 : ∀ w ∈ u_ws RX4 TX4 3, w ∈ TWg := cl_dec _ (by decide +kernel)
theorem cl_w4 : ∀ w ∈ u_ws RX5 TX5 3, w ∈ TWg := cl_dec _ (by decide +kernel)
theorem cl_w5 : ∀ w ∈ u_ws RX6 TX6 7, w ∈ TWg := cl_dec _ (by decide +kernel)
theorem cl_w6 : ∀ w ∈ u_ws RX7 TX7 20, w ∈ TWg := cl_dec _ (by decide +kernel)
theorem cl_ws {ci : Nat} (h : ci < 7) : ∀ w ∈ u_ws (clC ci) (clT ci) (clN ci), w ∈ TWg := by
  rcases (show ci = 0 ∨ ci = 1 ∨ ci = 2 ∨ ci = 3 ∨ ci = 4 ∨ ci = 5 ∨ ci = 6 by omega) with rfl | rfl | rfl | rfl | rfl | rfl | rfl
  · exact cl_w0
  · exact cl_w1
  · exact cl_w2
  · exact cl_w3
  · exact cl_w4
  · exact cl_w5
  · exact cl_w6
def uR (I : IM) (a : Nat) (f : Nat → Int32) : IM := fun b => if b = a then f else I b
def u2 (I : IM) (a k : Nat) (v : Int32) : IM := uR I a (upd (I a) k v)
def uJ (J : JM) (a k : Nat) (v : Option Nat) : JM := fun b => if b = a then va_up (J a) k v else J b
theorem uR_s {I : IM} {a : Nat} {f : Nat → Int32} : uR I a f a = f := if_pos rfl
theorem uR_n {I : IM} {a b : Nat} {f : Nat → Int32} (h : b ≠ a) : uR I a f b = I b := if_neg h
theorem u2_s {I : IM} {a k : Nat} {v : Int32} : u2 I a k v a k = v := by unfold u2; rw [uR_s]; exact if_pos rfl
theorem u2_n {I : IM} {a b k : Nat} {v : Int32} (h : b ≠ a) : u2 I a k v b = I b := uR_n h
theorem u2_k {I : IM} {a k j : Nat} {v : Int32} (h : j ≠ k) : u2 I a k v a j = I a j := by unfold u2; rw [uR_s]; exact if_neg h
theorem u2_a {I : IM} {a k : Nat} {v : Int32} : u2 I a k v a = upd (I a) k v := uR_s
theorem gmE_congr {I I' : IM} {J J' : JM} {b : Nat} (h1 : I' b = I b) (h2 : J' b = J b) (sh : Shp) : gmE I' J' b sh = gmE I J b sh := by
  rcases sh with ⟨cA, ty, n⟩ | ci
  · simp only [gmE, h1, h2]
  · simp only [gmE, gmF, h1, h2]
theorem HG.set {s : State} {D : va_G} {A : Nat → Prop} {N : Nat} {Sh : SM} {I I' : IM} {J J' : JM} {H H1 : Heap} {a : Nat} {sh : Shp} (h : HG s D A N Sh I J H) (hs : Sh a = some sh) (hnew : va_at D vwCl (a, gmE I' J' a sh) H1) (z : H1.size = H.size) (oq : ∀ q : Nat, q ≠ a → H1[q]? = H[q]?)
    (hi : ∀ b, b ≠ a → I' b = I b) (hj : ∀ b, b ≠ a → J' b = J b) : HG s D A N Sh I' J' H1 := by
  refine ⟨z.trans h.1, fun b sb hb => ?_⟩
  by_cases e : b = a
  · subst e
    have : sb = sh := Option.some.inj (hb.symm.trans hs)
    subst this
    exact ⟨hnew, (h.2 b sb hb).2⟩
  · refine ⟨?_, (h.2 b sb hb).2⟩
    rw [gmE_congr (hi b e) (hj b e)]
    exact va_at.kept (h.2 b sb hb).1 (oq b e)
theorem gmF_get {ci k : Nat} (hk : k < (fK ci).length) {I : IM} {J : JM} {a : Nat} : (gmF ci I J a)[k]? = some (if (fK ci).getD k false = true then va_rf (J a k) else .int (I a k)) := by
  simp [gmF, hk]
theorem gmF_setI {ci k : Nat} (hk : k < (fK ci).length) (hr : (fK ci).getD k false = false) {I : IM} {J : JM} {a : Nat} {v : Int32} : (gmF ci I J a).set k (.int v) = gmF ci (u2 I a k v) J a := by
  apply List.ext_getElem?
  intro j
  rw [List.getElem?_set]
  by_cases e : k = j
  · subst e
    rw [if_pos rfl, gmF_get hk, hr]
    have : k < (gmF ci I J a).length := by simpa [gmF] using hk
    simp only [this, ↓reduceIte, u2_s, Bool.false_eq_true]
  · rw [if_neg e]
    by_cases hj : j < (fK ci).length
    · rw [gmF_get hj, gmF_get hj, u2_k (fun h => e h.symm)]
    · rw [List.getElem?_eq_none (by simpa [gmF] using hj), List.getElem?_eq_none (by simpa [gmF] using hj)]
theorem gmF_setJ {ci k : Nat} (hk : k < (fK ci).length) (hr : (fK ci).getD k false = true) {I : IM} {J : JM} {a : Nat} {v : Option Nat} : (gmF ci I J a).set k (va_rf v) = gmF ci I (uJ J a k v) a := by
  apply List.ext_getElem?
  intro j
  rw [List.getElem?_set]
  have hs : uJ J a k v a k = v := by simp [uJ, va_up]
  by_cases e : k = j
  · subst e
    rw [if_pos rfl, gmF_get hk, hr]
    have : k < (gmF ci I J a).length := by simpa [gmF] using hk
    simp only [this, ↓reduceIte, hs]
  · rw [if_neg e]
    have hn : uJ J a k v a j = J a j := by simp [uJ, va_up, show j ≠ k from fun h => e h.symm]
    by_cases hj : j < (fK ci).length
    · rw [gmF_get hj, gmF_get hj, hn]
    · rw [List.getElem?_eq_none (by simpa [gmF] using hj), List.getElem?_eq_none (by simpa [gmF] using hj)]
def shI (Sh : SM) (a n : Nat) : Prop := ∃ cA, Sh a = some (.inl (cA, .int, n))
def shZ (Sh : SM) (a n : Nat) : Prop := ∃ cA, Sh a = some (.inl (cA, .boolean, n))
def shC (Sh : SM) (a n : Nat) : Prop := ∃ cA, Sh a = some (.inl (cA, .char, n))
def shR (Sh : SM) (a n : Nat) : Prop := ∃ cA ty, Sh a = some (.inl (cA, ty, n)) ∧ refKind ty = true
def shA (Sh : SM) (a : Nat) (C : String) (n : Nat) : Prop := ∃ cA, Sh a = some (.inl (cA, .object C, n))
section WXM
variable {X : Cx} {own : String} {cc : ByteArray} {nL d : Nat} {k n N : Nat} {Sh : SM} {I : IM} {J : JM} {pc : Nat} {l : List (Nat × Value)} {st : List Value}
theorem one_P {D : va_G} {q : Nat × va_E} {H : Heap} (h : va_at D vwCl q H) : va_P D vwCl [q] H := by
  intro i x hx
  have hz : i < 1 := (List.getElem?_eq_some_iff.mp hx).1
  rw [show i = 0 by omega] at hx
  cases hx
  exact h
theorem one_K {D : va_G} {s : State} (hK : KN D s) {cA : ClassId} {ty : FieldType} (h : ArrOfT s cA ty ∧ va_RA s cA ty) : va_K D vwCl [(cA, ty)] s := by
  refine ⟨hK, fun i x hx => ?_⟩
  have hz : i < 1 := (List.getElem?_eq_some_iff.mp hx).1
  rw [show i = 0 by omega] at hx
  cases hx
  exact h
theorem no_K {D : va_G} {s : State} (hK : KN D s) : va_K D vwCl [] s := ⟨hK, fun i x hx => by simp at hx⟩
theorem wa_getI (hX : XK X own cc nL d) {idx ci kf a : Nat} (hF : FL own idx ci kf) (hr : (fK ci).getD kf false = false) (hsh : Sh a = some (.inr ci)) (hd : decode cc pc = .ok (.getfield idx, 3)) (kk : WX X k n N Sh I J (pc + 3) l (.int (I a kf) :: st)) : WX X k n N Sh I J pc l (.ref a :: st) := by
  intro H locs ls h1 h2 h3
  have hz := (h1.2 a _ hsh).1
  exact va_get (ci := ci) (fs := gmF ci I J a) (v := .int (I a kf)) hX.1 hX.2.1 hX.2.2.2.2.1 (cl_ws hF.1) hX.2.2.2.1 (no_K hX.2.2.2.2.2.1) (one_P hz) 0 rfl (cl_get hF.1) kf hF.2.1 (hX.2.2.2.2.1 _ hF.2.2) (fun _ h => h)
    (by rw [gmF_get (by rw [fK_len hF.1]; exact hF.2.1), hr]; rfl) hd (kk H locs ls h1 h2 h3)
theorem wa_getR (hX : XK X own cc nL d) {idx ci kf a b : Nat} (hF : FL own idx ci kf) (hr : (fK ci).getD kf false = true) (hsh : Sh a = some (.inr ci)) (hj : J a kf = some b) (hd : decode cc pc = .ok (.getfield idx, 3)) (kk : WX X k n N Sh I J (pc + 3) l (.ref b :: st)) : WX X k n N Sh I J pc l (.ref a :: st) := by
  intro H locs ls h1 h2 h3
  have hz := (h1.2 a _ hsh).1
  exact va_get (ci := ci) (fs := gmF ci I J a) (v := .ref b) hX.1 hX.2.1 hX.2.2.2.2.1 (cl_ws hF.1) hX.2.2.2.1 (no_K hX.2.2.2.2.2.1) (one_P hz) 0 rfl (cl_get hF.1) kf hF.2.1 (hX.2.2.2.2.1 _ hF.2.2) (fun _ h => h)
    (by rw [gmF_get (by rw [fK_len hF.1]; exact hF.2.1), hr, if_pos rfl, hj]; rfl) hd (kk H locs ls h1 h2 h3)
theorem wa_putI (hX : XK X own cc nL d) {idx ci kf a : Nat} {v : Int32} (hF : FL own idx ci kf) (hr : (fK ci).getD kf false = false) (hfin : (clT ci kf).2.2.2 = false) (hn : narrow (clTy ci kf) (.int v) = .int v ∧ fits (clTy ci kf) (.int v) = true) (hsh : Sh a = some (.inr ci)) (hd : decode cc pc = .ok (.putfield idx, 3))
    (kk : WX X k n N Sh (u2 I a kf v) J (pc + 3) l st) : WX X k n N Sh I J pc l (.int v :: .ref a :: st) := by
  intro H locs ls h1 h2 h3
  obtain ⟨hz, hA, hAK⟩ := h1.2 a _ hsh
  have hlen : kf < (fK ci).length := by rw [fK_len hF.1]; exact hF.2.1
  have hts := hX.2.2.2.2.1
  have hap := va_apart (own := own) hts (cl_ws hF.1) (clTy ci) (cl_ty hF.1) (cl_nm hF.1) (no_K hX.2.2.2.2.2.1) (cl_get hF.1)
  obtain ⟨r, g1, cell, q1, q2, q3, q4⟩ := hz
  have hrr : r = (clC ci, clT ci, clN ci) := Option.some.inj (g1.symm.trans (cl_get hF.1))
  subst hrr
  obtain ⟨hS, hfc, kC, hkC, hkind⟩ := hX.2.2.2.2.2.1 ci _ (cl_get hF.1)
  obtain ⟨cf, kfk, fi, f, hi, hsl⟩ := hS kf hF.2.1
  have hlay := hts _ (cl_ws hF.1 _ (u_in_lay hF.2.1))
  unfold u_lay at hlay
  rw [if_neg (by rw [hfin]; decide)] at hlay
  have hst := (u_facts hfc hkC (u_lays hts (cl_ws hF.1) hF.2.1) hi).1
  have h6 := u_store hfc hkC hkind hlay hi (cl_ty hF.1 kf hF.2.1) hn.1 hn.2
  refine W.putK hX.1 hX.2.1 (f := f) ⟨hX.2.2.2.1, hts _ hF.2.2, ⟨_, _, _, hi⟩, hst⟩ (by rw [q2]; exact h6) q1 q3 (by rw [hsl]; exact k2_hasslot (q4 kf hF.2.1)) rfl rfl hd fun H' e1 e2 e3 => ?_
  rw [hsl] at e1 ⊢
  refine kk H' _ ls (h1.set hsh ?_ e2 e3 (fun b hb => u2_n hb) (fun _ _ => rfl)) (h2.put e2 e3 hA) h3
  refine ⟨_, cl_get hF.1, ?_⟩
  have e5 : (gmF ci I J a).set kf (.int v) = gmF ci (u2 I a kf v) J a := gmF_setI hlen hr
  show t_OB a _ _ _ H' (vp_V (gmF ci (u2 I a kf v) J a))
  rw [← e5]
  exact t_OB.to (V := updV (vp_V (gmF ci I J a)) kf (.int v)) ⟨_, e1, q2, q3, t_set q4 hap hF.2.1 (.int v)⟩ (fun j _ => vp_updV_set (by simpa [gmF] using hlen) (.int v) j)
theorem wa_iald (hX : XK X own cc nL d) {a j nn : Nat} (hsh : shI Sh a nn) {z : Int32} (hz : z = nI j) (hj : j < nn) (hnn : nn < 2 ^ 31) (hd : decode cc pc = .ok (.iaload, 1)) (kk : WX X k n N Sh I J (pc + 1) l (.int (I a j) :: st)) : WX X k n N Sh I J pc l (.int z :: .ref a :: st) := by
  intro H locs ls h1 h2 h3
  subst hz
  obtain ⟨cA, hsh⟩ := hsh
  obtain ⟨hz, hA, hAK⟩ := h1.2 a _ hsh
  refine va_iald (cA := cA) (n := nn) (f := I a) hX.1 hX.2.1 (one_K hX.2.2.2.2.2.1 hAK) (one_P hz) 0 0 rfl rfl (vp_in_nI hj hnn) hd ?_
  rw [nI_clamp (by omega)]
  exact kk H locs ls h1 h2 h3
theorem wa_zald (hX : XK X own cc nL d) {a j nn : Nat} (hsh : shZ Sh a nn) {z : Int32} (hz : z = nI j) (hj : j < nn) (hnn : nn < 2 ^ 31) (hd : decode cc pc = .ok (.baload, 1)) (kk : WX X k n N Sh I J (pc + 1) l (.int (I a j) :: st)) : WX X k n N Sh I J pc l (.int z :: .ref a :: st) := by
  intro H locs ls h1 h2 h3
  subst hz
  obtain ⟨cA, hsh⟩ := hsh
  obtain ⟨hz, hA, hAK⟩ := h1.2 a _ hsh
  refine va_zald (cA := cA) (n := nn) (f := I a) hX.1 hX.2.1 (one_K hX.2.2.2.2.2.1 hAK) (one_P hz) 0 0 rfl rfl (vp_in_nI hj hnn) hd ?_
  rw [nI_clamp (by omega)]
  exact kk H locs ls h1 h2 h3
theorem wa_cald (hX : XK X own cc nL d) {a j nn : Nat} (hsh : shC Sh a nn) {z : Int32} (hz : z = nI j) (hj : j < nn) (hnn : nn < 2 ^ 31) (hd : decode cc pc = .ok (.caload, 1)) (kk : WX X k n N Sh I J (pc + 1) l (.int (I a j) :: st)) : WX X k n N Sh I J pc l (.int z :: .ref a :: st) := by
  intro H locs ls h1 h2 h3
  subst hz
  obtain ⟨cA, hsh⟩ := hsh
  obtain ⟨hz, hA, hAK⟩ := h1.2 a _ hsh
  refine va_cald (cA := cA) (n := nn) (f := I a) hX.1 hX.2.1 (one_K hX.2.2.2.2.2.1 hAK) (one_P hz) 0 0 rfl rfl (vp_in_nI hj hnn) hd ?_
  rw [nI_clamp (by omega)]
  exact kk H locs ls h1 h2 h3
theorem wa_aald (hX : XK X own cc nL d) {a b j nn : Nat} (hsh : shR Sh a nn) {z : Int32} (hz : z = nI j) (hj : j < nn) (hnn : nn < 2 ^ 31) (hb : J a j = some b) (hd : decode cc pc = .ok (.aaload, 1)) (kk : WX X k n N Sh I J (pc + 1) l (.ref b :: st)) : WX X k n N Sh I J pc l (.int z :: .ref a :: st) := by
  intro H locs ls h1 h2 h3
  subst hz
  obtain ⟨cA, ty, hsh, hty⟩ := hsh
  obtain ⟨hz, hA, hAK⟩ := h1.2 a _ hsh
  have hz' : H[a]? = some (vp_cell cA (nn, .inr (.inr (.inr (.inr (J a)))))) := by
    have : gmE I J a (.inl (cA, ty, nn)) = .inl (cA, nn, .inr (.inr (.inr (.inr (J a))))) := by simp [gmE, hty]
    rw [this] at hz
    exact hz
  have hin : vp_in (nI j) nn := vp_in_nI hj hnn
  have hcl : (nI j).toNatClampNeg = j := nI_clamp (by omega)
  refine W.aald (v := .ref b) (ty := ty) hX.1 hX.2.1 hz' (hAK.1 nn (fun j => va_rf (J a j))) hty (fun q => by cases q) (by show ¬ (nI j < 0 ∨ (arrV _ _ _).slots.size ≤ _); rw [arrV_size]; exact hin) (by show (arrV _ _ _).slots[_]? = _; rw [hcl, arrV_read _ _ hj, hb]; rfl) rfl rfl hd ?_
  exact kk H locs ls h1 h2 h3
theorem wa_alen (hX : XK X own cc nL d) {a nn : Nat} {cA : ClassId} {ty : FieldType} (hsh : Sh a = some (.inl (cA, ty, nn))) (hd : decode cc pc = .ok (.arraylength, 1)) (kk : WX X k n N Sh I J (pc + 1) l (.int (nI nn) :: st)) : WX X k n N Sh I J pc l (.ref a :: st) := by
  intro H locs ls h1 h2 h3
  obtain ⟨hz, hA, hAK⟩ := h1.2 a _ hsh
  exact va_alen (cA := cA) (x := (nn, _)) hX.1 hX.2.1 (one_K hX.2.2.2.2.2.1 hAK) (one_P hz) 0 0 rfl rfl rfl hd (kk H locs ls h1 h2 h3)
theorem wa_iast (hX : XK X own cc nL d) {a j nn : Nat} {x : Int32} (hsh : shI Sh a nn) {z : Int32} (hz : z = nI j) (hj : j < nn) (hnn : nn < 2 ^ 31) (hd : decode cc pc = .ok (.iastore, 1)) (kk : WX X k n N Sh (u2 I a j x) J (pc + 1) l st) : WX X k n N Sh I J pc l (.int x :: .int z :: .ref a :: st) := by
  intro H locs ls h1 h2 h3
  subst hz
  obtain ⟨cA, hsh⟩ := hsh
  obtain ⟨hz, hA, hAK⟩ := h1.2 a _ hsh
  have hin : vp_in (nI j) nn := vp_in_nI hj hnn
  have hcl : (nI j).toNatClampNeg = j := nI_clamp (by omega)
  refine W.iast hX.1 hX.2.1 (cell := vp_cell cA (nn, .inl (I a))) hz (hAK.1 nn (fun j => .int (I a j))) (fun q => by cases q) (by show ¬ (nI j < 0 ∨ (arrV _ _ _).slots.size ≤ _); rw [arrV_size]; exact hin) rfl rfl hd fun H1 e z oq => ?_
  refine kk H1 _ ls (h1.set hsh ?_ z oq (fun b hb => u2_n hb) (fun _ _ => rfl)) (h2.put z oq hA) h3
  show H1[a]? = some (vp_cell cA (nn, .inl (u2 I a j x a)))
  rw [e, u2_a, hcl, vp_cell_i, vp_cell_i, arrV_store]
  congr 2
  funext q
  by_cases hq : q = j
  · subst hq
    simp [updV, upd, vp_nar]
    try rfl
  · simp [updV, upd, hq]
theorem wa_zast (hX : XK X own cc nL d) {a j nn : Nat} {x : Int32} (hsh : shZ Sh a nn) {z : Int32} (hz : z = nI j) (hj : j < nn) (hnn : nn < 2 ^ 31) (hd : decode cc pc = .ok (.bastore, 1)) (kk : WX X k n N Sh (u2 I a j (vp_nar .boolean x)) J (pc + 1) l st) : WX X k n N Sh I J pc l (.int x :: .int z :: .ref a :: st) := by
  intro H locs ls h1 h2 h3
  subst hz
  obtain ⟨cA, hsh⟩ := hsh
  obtain ⟨hz, hA, hAK⟩ := h1.2 a _ hsh
  have hin : vp_in (nI j) nn := vp_in_nI hj hnn
  have hcl : (nI j).toNatClampNeg = j := nI_clamp (by omega)
  refine W.zast hX.1 hX.2.1 (cell := vp_cell cA (nn, .inl (I a))) hz (hAK.1 nn (fun j => .int (I a j))) (fun q => by cases q) (by show ¬ (nI j < 0 ∨ (arrV _ _ _).slots.size ≤ _); rw [arrV_size]; exact hin) rfl rfl hd fun H1 e z oq => ?_
  refine kk H1 _ ls (h1.set hsh ?_ z oq (fun b hb => u2_n hb) (fun _ _ => rfl)) (h2.put z oq hA) h3
  show H1[a]? = some (vp_cell cA (nn, .inl (u2 I a j (vp_nar .boolean x) a)))
  rw [e, u2_a, hcl, vp_cell_i, vp_cell_i, arrV_store]
  congr 2
  funext q
  by_cases hq : q = j
  · subst hq
    simp [updV, upd, vp_nar]
    try rfl
  · simp [updV, upd, hq]
theorem wa_cast (hX : XK X own cc nL d) {a j nn : Nat} {x : Int32} (hsh : shC Sh a nn) {z : Int32} (hz : z = nI j) (hj : j < nn) (hnn : nn < 2 ^ 31) (hd : decode cc pc = .ok (.castore, 1)) (kk : WX X k n N Sh (u2 I a j (vp_nar .char x)) J (pc + 1) l st) : WX X k n N Sh I J pc l (.int x :: .int z :: .ref a :: st) := by
  intro H locs ls h1 h2 h3
  subst hz
  obtain ⟨cA, hsh⟩ := hsh
  obtain ⟨hz, hA, hAK⟩ := h1.2 a _ hsh
  have hin : vp_in (nI j) nn := vp_in_nI hj hnn
  have hcl : (nI j).toNatClampNeg = j := nI_clamp (by omega)
  refine W.cast hX.1 hX.2.1 (cell := vp_cell cA (nn, .inl (I a))) hz (hAK.1 nn (fun j => .int (I a j))) (fun q => by cases q) (by show ¬ (nI j < 0 ∨ (arrV _ _ _).slots.size ≤ _); rw [arrV_size]; exact hin) rfl rfl hd fun H1 e z oq => ?_
  refine kk H1 _ ls (h1.set hsh ?_ z oq (fun b hb => u2_n hb) (fun _ _ => rfl)) (h2.put z oq hA) h3
  show H1[a]? = some (vp_cell cA (nn, .inl (u2 I a j (vp_nar .char x) a)))
  rw [e, u2_a, hcl, vp_cell_i, vp_cell_i, arrV_store]
  congr 2
  funext q
  by_cases hq : q = j
  · subst hq
    simp [updV, upd, vp_nar]
    try rfl
  · simp [updV, upd, hq]
end WXM
