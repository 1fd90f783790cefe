/-! more rows: System.arraycopy of 16 ints, dup2, i2c, ldc_w, iushr -/
section WXE
variable {X : Cx} {own : String} {cc : ByteArray} {nL d : Nat} {k n N : Nat} {Sh : SM} {I : IM} {J : JM} {pc : Nat} {l : List (Nat × Value)} {st rest : List Value}
theorem wa_dup2 (hX : XK X own cc nL d) {v w : Value} (hd : decode cc pc = .ok (.dup2, 1)) (hv : v.category = 1) (hw : w.category = 1) (kk : WX X k n N Sh I J (pc + 1) l (v :: w :: v :: w :: st)) : WX X k n N Sh I J pc l (v :: w :: st) :=
  fun H locs ls h1 h2 h3 => lv_dup2_11 hX.1 hX.2.1 hd hv hw (kk H locs ls h1 h2 h3)
theorem wa_i2c (hX : XK X own cc nL d) {x v : Int32} (hd : decode cc pc = .ok (.i2c, 1)) (hv : (x.toUInt32 % 65536).toInt32 = v) (kk : WX X k n N Sh I J (pc + 1) l (.int v :: st)) : WX X k n N Sh I J pc l (.int x :: st) :=
  fun H locs ls h1 h2 h3 => lv_i2c hX.1 hX.2.1 hd hv (kk H locs ls h1 h2 h3)
theorem wa_ldcw (hX : XK X own cc nL d) {index : Nat} {v : Int32} (hc : Cond.constant own index v ∈ TWg) (hd : decode cc pc = .ok (.ldc_w index, 3)) (kk : WX X k n N Sh I J (pc + 3) l (.int v :: st)) : WX X k n N Sh I J pc l st :=
  fun H locs ls h1 h2 h3 => lv_ldcw hX.1 hX.2.1 hX.2.2.2.1 (hX.2.2.2.2.1 _ hc) hd (kk H locs ls h1 h2 h3)
theorem wa_iushr (hX : XK X own cc nL d) {x y : Int32} (hd : decode cc pc = .ok (.iushr, 1)) (kk : WX X k n N Sh I J (pc + 1) l (.int ((x.toUInt32 >>> (y.toUInt32 &&& Int32.toUInt32 31)).toInt32) :: st)) : WX X k n N Sh I J pc l (.int y :: .int x :: st) :=
  fun H locs ls h1 h2 h3 => lv_iushr hX.1 hX.2.1 hd rfl (kk H locs ls h1 h2 h3)
theorem cell_cpy (c : ClassId) (n : Nat) (f g : Nat → Int32) : vp_cell c (n, .inl (va_cpy f g 0 0 n)) = vp_cell c (n, .inl f) := by
  rw [vp_cell_i, vp_cell_i]
  unfold arrV
  congr 1
  apply Array.ext
  · simp
  · intro i h1 h2
    simp at h1 ⊢
    simp [va_cpy, h1]
theorem wa_copy16 (hX : XK X own cc nL d) {a0 a idx : Nat} (hL : Cond.methodLink own idx arraycopyName ∈ TWg) (hnt : Cond.native arraycopyName ∈ TWg) (hst : Cond.static arraycopyName ∈ TWg) (hini : Cond.initialized "java/lang/System" ∈ TWg) (hs0 : shI Sh a0 16) (hs1 : shI Sh a 16) (hd1 : 1 ≤ d) (hcat : (rest.map fun v => v.category).sum ≤ 8) (hd : decode cc pc = .ok (.invokestatic idx, 3))
    (kk : WX X k n N Sh (uR I a (I a0)) J (pc + 3) l rest) : WX X k n N Sh I J pc l (.int (nI 16) :: .int (nI 0) :: .ref a :: .int (nI 0) :: .ref a0 :: rest) := by
  intro H locs ls h1 h2 h3
  obtain ⟨cA, hsa⟩ := hs0
  obtain ⟨cB, hsb⟩ := hs1
  obtain ⟨hz0, -, hK0⟩ := h1.2 a0 _ hsa
  obtain ⟨hz1, hA1, hK1⟩ := h1.2 a _ hsb
  have hts := hX.2.2.2.2.1
  intro T hT X0
  have hc0 : H[a0]? = some (vp_cell cA (16, .inl (I a0))) := hz0
  have hc1 : H[a]? = some (vp_cell cB (16, .inl (I a))) := hz1
  obtain ⟨-, k0, hk0, cm0, hkk0⟩ := hK0.1 16 (fun j => .int (I a0 j))
  obtain ⟨-, k1, hk1, cm1, hkk1⟩ := hK1.1 16 (fun j => .int (I a j))
  have n0 : ¬ (nI 0 : Int32) < 0 := by decide
  have n16 : ¬ (nI 16 : Int32) < 0 := by decide
  have t0 : (nI 0 : Int32).toInt = 0 := by decide
  have t16 : (nI 16 : Int32).toInt = 16 := by decide
  have u0 : (nI 0 : Int32).toNatClampNeg = 0 := by decide
  have u16 : (nI 16 : Int32).toNatClampNeg = 16 := by decide
  have hnf : nativeFrameWords "java/lang/System" "arraycopy" 5 ≤ 20 := by decide +kernel
  have hloc : 2 * (F0 X.1.2.2.2.2.2.1 pc ls (.int (nI 16) :: .int (nI 0) :: .ref a :: .int (nI 0) :: .ref a0 :: rest)).monitorRoom + (rest.map fun v => v.category).sum + (nativeFrameWords "java/lang/System" "arraycopy" 5 + 11) ≤ X.1.2.2.2.1.locals := by
    refine Nat.le_trans ?_ hX.2.2.2.2.2.2.2.2
    show 2 * 0 + _ + _ ≤ 40 * d
    omega
  obtain ⟨vm', X', step⟩ := X0.arraycopy hX.1 hX.2.2.2.1 (hts _ hL) (hts _ hnt) (hts _ hst) (hts _ hini) (src := a0) (dst := a) (cs := vp_cell cA (16, .inl (I a0))) (cd := vp_cell cB (16, .inl (I a))) (srcPos := nI 0) (destPos := nI 0) (n := nI 16) (by rw [hT]; exact hc0) (by rw [hT]; exact hc1)
    (fun _ h => by cases h) (fun _ h => by cases h) (fun h => by cases h) (fun h => by cases h) hk0 hk1 hkk0 hkk1 (by simp [refKind]) n0 n0 n16
    (by rw [t0, t16]; show ¬ _ > ((arrV cA 16 (fun j => .int (I a0 j))).slots.size : Int); rw [arrV_size]; omega)
    (by rw [t0, t16]; show ¬ _ > ((arrV cB 16 (fun j => .int (I a j))).slots.size : Int); rw [arrV_size]; omega)
    (fun vm₁ _ i hi => by
      rw [u16] at hi
      have e : (vp_cell cA (16, .inl (I a0))).slots.getD ((nI 0 : Int32).toNatClampNeg + i) .null = .int (I a0 i) := by
        show (arrV cA 16 (fun j => .int (I a0 j))).slots.getD _ _ = _
        rw [u0, Nat.zero_add, Array.getD_eq_getD_getElem?, arrV_read _ _ hi]
        rfl
      refine ⟨?_, ?_⟩
      · rw [e]
        rfl
      · rw [e]
        exact trivial)
    (g := F0 X.1.2.2.2.2.2.1 pc ls (.int (nI 16) :: .int (nI 0) :: .ref a :: .int (nI 0) :: .ref a0 :: rest)) rfl h3.1 (rest := rest) rfl (by rw [hX.2.1]; exact hd) (Nat.le_trans hd1 hX.2.2.2.2.2.2.2.1) hloc
  have e1 : copied (vp_cell cA (16, .inl (I a0))) (vp_cell cB (16, .inl (I a))) (nI 0) (nI 0) (nI 16) = vp_cell cB (16, .inl (I a0)) := by
    have e0 : copied (vp_cell cA (16, .inl (I a0))) (vp_cell cB (16, .inl (I a))) (nI 0) (nI 0) (nI 16) = vp_cell cB (16, .inl (va_cpy (I a0) (I a) (nI 0 : Int32).toNatClampNeg (nI 0 : Int32).toNatClampNeg (nI 16 : Int32).toNatClampNeg)) := va_copied (fun z => .int z) cA cB (I a0) (I a) (by rw [u0, u16]; omega)
    rw [e0, u0, u16]
    exact cell_cpy cB 16 (I a0) (I a)
  rw [e1] at X' step
  have hl : a < H.size := (Array.getElem?_eq_some_iff.mp hc1).1
  have hheap : ((T.setVm vm').setCell a (vp_cell cB (16, .inl (I a0)))).heap = H.setIfInBounds a (vp_cell cB (16, .inl (I a0))) := by rw [← hT]; rfl
  have oq : ∀ q : Nat, q ≠ a → (H.setIfInBounds a (vp_cell cB (16, .inl (I a0))))[q]? = H[q]? := fun q hq => by simp [Array.getElem?_setIfInBounds, Ne.symm hq]
  obtain ⟨t, a1, b1⟩ := kk _ _ ls (h1.set (J' := J) hsb (show va_at X.2.1 vwCl (a, gmE (uR I a (I a0)) J a (.inl (cB, .int, 16))) (H.setIfInBounds a (vp_cell cB (16, .inl (I a0)))) from by
      show (H.setIfInBounds a (vp_cell cB (16, .inl (I a0))))[a]? = some (vp_cell cB (16, .inl (uR I a (I a0) a)))
      rw [uR_s]
      simp [Array.getElem?_setIfInBounds, hl]) (by simp) oq (fun b hb => uR_n hb) (fun _ _ => rfl)) ⟨by simp; exact h2.1, fun q g1 g2 => by
      rw [oq q (fun e => g2 (by rw [e]; exact hA1))]
      exact h2.2.1 q g1 g2, fun q hq => by
      rcases List.mem_append.mp hq with h | h
      · exact h2.2.2 q h
      · obtain ⟨z, -, hz⟩ := List.mem_map.mp h
        rw [← hz]
        exact hA1⟩ h3 _ hheap X'
  exact ⟨t, step t a1, b1⟩
def lall (l : List (Nat × Value)) : List (Nat × Value) → Prop
  | [] => True
  | q :: r => lget l q.1 = some q.2 ∧ lall l r
theorem lall_get {l : List (Nat × Value)} : ∀ {l' : List (Nat × Value)}, lall l l' → ∀ q ∈ l', lget l q.1 = some q.2
  | [], _, q, h => by cases h
  | x :: r, h, q, hq => by
    rcases List.mem_cons.mp hq with e | e
    · rw [e]; exact h.1
    · exact lall_get h.2 q e
/-- the listed locals that are wanted -/
theorem wx_sub {l' : List (Nat × Value)} (h : lall l l') (kk : WX X k n N Sh I J pc l' st) : WX X k n N Sh I J pc l st := wx_loc (lall_get h) kk
end WXE
