/-! Row: the methods that change a row; the two JDK methods in bytecode -/
def bcI (x : Int32) : Int32 :=
  let u := fun (x : Int32) (k : Nat) => ((x.toUInt32 >>> ((nI k).toUInt32 &&& Int32.toUInt32 31)).toInt32)
  let x1 := x - (u x 1 &&& 1431655765)
  let x2 := (x1 &&& 858993459) + (u x1 2 &&& 858993459)
  let x3 := (x2 + u x2 4) &&& 252645135
  let x4 := x3 + u x3 8
  let x5 := x4 + u x4 16
  x5 &&& nI 63
theorem kB265 : Cond.constant RJ6 265 1431655765 ∈ TWg := tw_dec (by decide +kernel)
theorem kB266 : Cond.constant RJ6 266 858993459 ∈ TWg := tw_dec (by decide +kernel)
theorem kB267 : Cond.constant RJ6 267 252645135 ∈ TWg := tw_dec (by decide +kernel)
set_option maxHeartbeats 4000000 in
set_option maxRecDepth 100000 in
theorem tJ6_bitCount_0f7a4 {l : Launch} {D : va_G} {A : Nat → Prop} {N : Nat} {Sh : SM} {J : JM} (I : IM) (x : Int32) : CtP l D A yJ6_bitCount_0f7a4 cJ6_bitCount_0f7a4 1 FieldType.int 0 N Sh I J [.int x] (fun r => r = bcI x) := by
  refine ct_I (l0 := [(0, .int x)]) (by decide +kernel) (Nat.le_of_ble_eq_true rfl) rfl (fun _ _ _ _ => rfl) ?_
  intro X hX hret _ _ _
  have hX : XK X RJ6 cJ6_bitCount_0f7a4 1 0 := hX
  refine wa_iload_n hX dJ6_bitCount_0f7a4_0 rfl ?_
  refine wa_iload_n hX dJ6_bitCount_0f7a4_1 rfl ?_
  refine wa_iconst (v := nI 1) hX dJ6_bitCount_0f7a4_2 (by decide) ?_
  refine wa_iushr hX dJ6_bitCount_0f7a4_3 ?_
  refine wa_ldcw hX kB265 dJ6_bitCount_0f7a4_4 ?_
  refine wa_iand hX dJ6_bitCount_0f7a4_7 ?_
  refine wa_isub hX dJ6_bitCount_0f7a4_8 ?_
  refine wa_istore_n hX dJ6_bitCount_0f7a4_9 (by decide) ?_
  refine wa_iload_n hX dJ6_bitCount_0f7a4_10 rfl ?_
  refine wa_ldcw hX kB266 dJ6_bitCount_0f7a4_11 ?_
  refine wa_iand hX dJ6_bitCount_0f7a4_14 ?_
  refine wa_iload_n hX dJ6_bitCount_0f7a4_15 rfl ?_
  refine wa_iconst (v := nI 2) hX dJ6_bitCount_0f7a4_16 (by decide) ?_
  refine wa_iushr hX dJ6_bitCount_0f7a4_17 ?_
  refine wa_ldcw hX kB266 dJ6_bitCount_0f7a4_18 ?_
  refine wa_iand hX dJ6_bitCount_0f7a4_21 ?_
  refine wa_iadd hX dJ6_bitCount_0f7a4_22 ?_
  refine wa_istore_n hX dJ6_bitCount_0f7a4_23 (by decide) ?_
  refine wa_iload_n hX dJ6_bitCount_0f7a4_24 rfl ?_
  refine wa_iload_n hX dJ6_bitCount_0f7a4_25 rfl ?_
  refine wa_iconst (v := nI 4) hX dJ6_bitCount_0f7a4_26 (by decide) ?_
  refine wa_iushr hX dJ6_bitCount_0f7a4_27 ?_
  refine wa_iadd hX dJ6_bitCount_0f7a4_28 ?_
  refine wa_ldcw hX kB267 dJ6_bitCount_0f7a4_29 ?_
  refine wa_iand hX dJ6_bitCount_0f7a4_32 ?_
  refine wa_istore_n hX dJ6_bitCount_0f7a4_33 (by decide) ?_
  refine wa_iload_n hX dJ6_bitCount_0f7a4_34 rfl ?_
  refine wa_iload_n hX dJ6_bitCount_0f7a4_35 rfl ?_
  refine wa_bipush (v := nI 8) hX dJ6_bitCount_0f7a4_36 (by decide) ?_
  refine wa_iushr hX dJ6_bitCount_0f7a4_38 ?_
  refine wa_iadd hX dJ6_bitCount_0f7a4_39 ?_
  refine wa_istore_n hX dJ6_bitCount_0f7a4_40 (by decide) ?_
  refine wa_iload_n hX dJ6_bitCount_0f7a4_41 rfl ?_
  refine wa_iload_n hX dJ6_bitCount_0f7a4_42 rfl ?_
  refine wa_bipush (v := nI 16) hX dJ6_bitCount_0f7a4_43 (by decide) ?_
  refine wa_iushr hX dJ6_bitCount_0f7a4_45 ?_
  refine wa_iadd hX dJ6_bitCount_0f7a4_46 ?_
  refine wa_istore_n hX dJ6_bitCount_0f7a4_47 (by decide) ?_
  refine wa_iload_n hX dJ6_bitCount_0f7a4_48 rfl ?_
  refine wa_bipush (v := nI 63) hX dJ6_bitCount_0f7a4_49 (by decide) ?_
  refine wa_iand hX dJ6_bitCount_0f7a4_51 ?_
  exact hret _ _ _ _ _ ⟨rfl, rfl, rfl⟩ dJ6_bitCount_0f7a4_52

set_option maxHeartbeats 4000000 in
set_option maxRecDepth 100000 in
theorem tJ7_fill_53178 {l : Launch} {D : va_G} {A : Nat → Prop} {N : Nat} {Sh : SM} {J : JM} (I : IM) {a n0 : Nat} {x : Int32} (hs : shI Sh a n0) (hn : n0 < 2 ^ 31) : CtW l D A yJ7_fill_53178 cJ7_fill_53178 4 0 N Sh I J [.ref a, .int x] (fun I' => I' = uR I a (rowN n0 (fun _ => x) (I a))) := by
  refine ct_V (l0 := [(0, .ref a), (1, .int x)]) (by decide +kernel) (Nat.le_of_ble_eq_true rfl) rfl ?_
  intro X hX hret _ _ _
  have hX : XK X RJ7 cJ7_fill_53178 4 0 := hX
  have lp : ∀ (n i : Nat), i + n = n0 → WX X 0 0 N Sh (uR I a (rowN i (fun _ => x) (I a))) J 5 [(0, .ref a), (1, .int x), (2, .int (nI i)), (3, .int (nI n0))] [] := by
    intro n
    induction n with
    | zero =>
      intro i  hi
      obtain rfl : n0 = i := by omega
      refine wa_iload_n hX dJ7_fill_53178_5 rfl ?_
      refine wa_iload_n hX dJ7_fill_53178_6 rfl ?_
      refine wa_icmp_ge (tgt := 20) hX dJ7_fill_53178_7 (by decide) (fun c_7 => ?_) (fun c_7 => absurd (Int32.le_refl _) c_7)
      exact hret _ _ _ _ ⟨rfl, rfl⟩ dJ7_fill_53178_20
    | succ n ih =>
      intro i  hi
      have hlt : i < n0 := by omega
      refine wa_iload_n hX dJ7_fill_53178_5 rfl ?_
      refine wa_iload_n hX dJ7_fill_53178_6 rfl ?_
      refine wa_icmp_ge (tgt := 20) hX dJ7_fill_53178_7 (by decide) (fun c_7 => absurd c_7 (nI_ge hlt hn)) (fun c_7 => ?_)
      refine wa_aload_n hX dJ7_fill_53178_10 rfl ?_
      refine wa_iload_n hX dJ7_fill_53178_11 rfl ?_
      refine wa_iload_n hX dJ7_fill_53178_12 rfl ?_
      refine wa_iast hX hs rfl hlt hn dJ7_fill_53178_13 ?_
      refine wa_iinc hX dJ7_fill_53178_14 rfl (inc1 _) (by decide) ?_
      refine wa_goto (tgt := 5) hX dJ7_fill_53178_17 (by decide) ?_
      refine wx_sub (l' := [(0, _), (1, _), (2, _), (3, _)]) ⟨rfl, rfl, rfl, rfl, trivial⟩ ?_
      rw [u2_row rfl]
      exact ih (i + 1) (by omega)
  obtain ⟨cA, hsA⟩ := hs
  refine wa_iconst (v := nI 0) hX dJ7_fill_53178_0 (by decide) ?_
  refine wa_istore_n hX dJ7_fill_53178_1 (by decide) ?_
  refine wa_aload_n hX dJ7_fill_53178_2 rfl ?_
  refine wa_alen hX hsA dJ7_fill_53178_3 ?_
  refine wa_istore_n hX dJ7_fill_53178_4 (by decide) ?_
  rw [row_0 (I := I) (a := a) (g := fun _ => x)]
  exact lp n0 0 (by omega)

set_option maxHeartbeats 4000000 in
set_option maxRecDepth 100000 in
theorem tX2_walkFar {l : Launch} {D : va_G} {A : Nat → Prop} {N : Nat} {Sh : SM} {J : JM} (I : IM) {a : Nat} {v : Nat → Nat} (hs : shI Sh a 16) (hv : RV (I a) v) {j n0 : Nat} (hj : j ≤ 16) (hn0 : n0 < 2 ^ 31) : CtP l D A yX2_walkFar cX2_walkFar 5 FieldType.int 2 N Sh I J [.ref a, .int (nI j), .int (nI n0)] (fun r => r = nI (itr v n0 j)) := by
  refine ct_I (l0 := [(0, .ref a), (1, .int (nI j)), (2, .int (nI n0))]) (by decide +kernel) (Nat.le_of_ble_eq_true rfl) rfl (fun _ _ _ _ => rfl) ?_
  intro X hX hret _ _ _
  have hX : XK X RX2 cX2_walkFar 5 2 := hX
  refine wa_iload_n hX dX2_walkFar_0 rfl ?_
  refine wa_bipush (v := nI 16) hX dX2_walkFar_1 (by decide) ?_
  refine wa_icmp_gt (tgt := 13) hX dX2_walkFar_3 (by decide) (fun c_3 => ?_) (fun c_3 => ?_)
  · skip
    have hgt : 16 < n0 := by
      rcases Nat.lt_or_ge 16 n0 with h | h
      · exact h
      · exact absurd c_3 (nI_nlt h (by decide))
    refine wa_aload_n hX dX2_walkFar_13 rfl ?_
    refine wa_iload_n hX dX2_walkFar_14 rfl ?_
    refine wa_bipush (v := nI 16) hX dX2_walkFar_15 (by decide) ?_
    refine wa_sP hX (tX2_walk I hs hv hj (show 16 < 2 ^ 31 by decide)) bX2_walk mX2_21 (by decide) (by decide) rfl rfl (Nat.le_of_ble_eq_true rfl) dX2_walkFar_17 (fun r_17 q_17 => ?_)
    subst q_17
    refine wa_istore_n hX dX2_walkFar_20 (by decide) ?_
    refine wa_aload_n hX dX2_walkFar_21 rfl ?_
    refine wa_iload_n hX dX2_walkFar_22 rfl ?_
    refine wa_sP hX (tX2_cycleOf I hs hv (itr_le hv 16 hj)) bX2_cycleOf mX2_25 (by decide) (by decide) rfl rfl (Nat.le_of_ble_eq_true rfl) dX2_walkFar_23 (fun r_23 q_23 => ?_)
    subst q_23
    refine wa_istore hX dX2_walkFar_26 (by decide) ?_
    refine wa_iload hX dX2_walkFar_28 rfl ?_
    refine wa_if_gt (tgt := 38) hX dX2_walkFar_30 (by decide) (fun c_30 => ?_) (fun c_30 => ?_)
    · skip
      have c1 : cyc v (itr v 16 j) ≠ 0 := by
        intro h
        rw [h] at c_30
        exact absurd c_30 (by decide)
      refine wa_aload_n hX dX2_walkFar_38 rfl ?_
      refine wa_iload_n hX dX2_walkFar_39 rfl ?_
      refine wa_iload_n hX dX2_walkFar_40 rfl ?_
      refine wa_bipush (v := nI 16) hX dX2_walkFar_41 (by decide) ?_
      refine wa_isub hX dX2_walkFar_43 ?_
      refine wa_iload hX dX2_walkFar_44 rfl ?_
      refine wa_irem hX dX2_walkFar_46 (nI_ne0 (Nat.pos_of_ne_zero c1) cyc_lt) ?_
      rw [pk_sub (Nat.le_of_lt hgt), pk_rem (by omega) (Nat.pos_of_ne_zero c1) cyc_lt]
      refine wa_sP hX (tX2_walk I hs hv (itr_le hv 16 hj) (show (n0 - 16) % cyc v (itr v 16 j) < 2 ^ 31 by have := Nat.mod_le (n0 - 16) (cyc v (itr v 16 j)); omega)) bX2_walk mX2_21 (by decide) (by decide) rfl rfl (Nat.le_of_ble_eq_true rfl) dX2_walkFar_47 (fun r_47 q_47 => ?_)
      exact hret _ _ _ _ _ ⟨(by rw [q_47, ← far_1 (Nat.le_of_lt hgt) hv hj c1]), rfl, rfl⟩ dX2_walkFar_50
    · skip
      have c1 : cyc v (itr v 16 j) = 0 := by
        rcases Nat.eq_zero_or_pos (cyc v (itr v 16 j)) with h | h
        · exact h
        · exact absurd (nI_lt h cyc_lt) c_30
      refine wa_bipush (v := nI 16) hX dX2_walkFar_33 (by decide) ?_
      refine wa_goto (tgt := 50) hX dX2_walkFar_35 (by decide) ?_
      exact hret _ _ _ _ _ ⟨(by rw [far_0 (Nat.le_of_lt hgt) hv hj c1]), rfl, rfl⟩ dX2_walkFar_50
  · skip
    refine wa_aload_n hX dX2_walkFar_6 rfl ?_
    refine wa_iload_n hX dX2_walkFar_7 rfl ?_
    refine wa_iload_n hX dX2_walkFar_8 rfl ?_
    refine wa_sP hX (tX2_walk I hs hv hj hn0) bX2_walk mX2_21 (by decide) (by decide) rfl rfl (Nat.le_of_ble_eq_true rfl) dX2_walkFar_9 (fun r_9 q_9 => ?_)
    exact hret _ _ _ _ _ ⟨q_9, rfl, rfl⟩ dX2_walkFar_12

set_option maxHeartbeats 4000000 in
set_option maxRecDepth 100000 in
theorem tX2_overlay {l : Launch} {D : va_G} {A : Nat → Prop} {N : Nat} {Sh : SM} {J : JM} (I : IM) {a b : Nat} (hs : shI Sh a 16) (hs2 : shI Sh b 16) (hne : b ≠ a) : CtW l D A yX2_overlay cX2_overlay 3 0 N Sh I J [.ref a, .ref b] (fun I' => I' = uR I a (rowN 16 (fun k => if I a k = nI 16 then I b k else I a k) (I a))) := by
  refine ct_V (l0 := [(0, .ref a), (1, .ref b)]) (by decide +kernel) (Nat.le_of_ble_eq_true rfl) rfl ?_
  intro X hX hret _ _ _
  have hX : XK X RX2 cX2_overlay 3 0 := hX
  have lp : ∀ (n i : Nat), i + n = 16 → WX X 0 0 N Sh (uR I a (rowN i (fun k => if I a k = nI 16 then I b k else I a k) (I a))) J 2 [(0, .ref a), (1, .ref b), (2, .int (nI i))] [] := by
    intro n
    induction n with
    | zero =>
      intro i  hi
      obtain rfl : 16 = i := by omega
      refine wa_iload_n hX dX2_overlay_2 rfl ?_
      refine wa_bipush (v := nI 16) hX dX2_overlay_3 (by decide) ?_
      refine wa_icmp_ge (tgt := 28) hX dX2_overlay_5 (by decide) (fun c_5 => ?_) (fun c_5 => absurd (Int32.le_refl _) c_5)
      exact hret _ _ _ _ ⟨rfl, rfl⟩ dX2_overlay_28
    | succ n ih =>
      intro i  hi
      have hlt : i < 16 := by omega
      refine wa_iload_n hX dX2_overlay_2 rfl ?_
      refine wa_bipush (v := nI 16) hX dX2_overlay_3 (by decide) ?_
      refine wa_icmp_ge (tgt := 28) hX dX2_overlay_5 (by decide) (fun c_5 => absurd c_5 (nI_ge hlt (by decide))) (fun c_5 => ?_)
      refine wa_aload_n hX dX2_overlay_8 rfl ?_
      refine wa_iload_n hX dX2_overlay_9 rfl ?_
      refine wa_iald hX hs rfl (by first | assumption | omega) (by decide) dX2_overlay_10 ?_
      refine wa_bipush (v := nI 16) hX dX2_overlay_11 (by decide) ?_
      refine wa_icmp_ne (tgt := 22) hX dX2_overlay_13 (by decide) (fun c_13 => ?_) (fun c_13 => ?_)
      · skip
        refine wa_iinc hX dX2_overlay_22 rfl (inc1 _) (by decide) ?_
        refine wa_goto (tgt := 2) hX dX2_overlay_25 (by decide) ?_
        refine wx_sub (l' := [(0, _), (1, _), (2, _)]) ⟨rfl, rfl, rfl, trivial⟩ ?_
        rw [row_e (by rw [rd_s] at c_13; simp [c_13])]
        exact ih (i + 1) (by omega)
      · skip
        refine wa_aload_n hX dX2_overlay_16 rfl ?_
        refine wa_iload_n hX dX2_overlay_17 rfl ?_
        refine wa_aload_n hX dX2_overlay_18 rfl ?_
        refine wa_iload_n hX dX2_overlay_19 rfl ?_
        refine wa_iald hX hs2 rfl (by first | assumption | omega) (by decide) dX2_overlay_20 ?_
        refine wa_iast hX hs rfl (by first | assumption | omega) (by decide) dX2_overlay_21 ?_
        refine wa_iinc hX dX2_overlay_22 rfl (inc1 _) (by decide) ?_
        refine wa_goto (tgt := 2) hX dX2_overlay_25 (by decide) ?_
        refine wx_sub (l' := [(0, _), (1, _), (2, _)]) ⟨rfl, rfl, rfl, trivial⟩ ?_
        rw [u2_row (by rw [rd_s] at c_13; rw [uR_n hne]; simp [c_13])]
        exact ih (i + 1) (by omega)
  refine wa_iconst (v := nI 0) hX dX2_overlay_0 (by decide) ?_
  refine wa_istore_n hX dX2_overlay_1 (by decide) ?_
  rw [row_0 (I := I) (a := a) (g := fun k => if I a k = nI 16 then I b k else I a k)]
  exact lp 16 0 (by omega)

set_option maxHeartbeats 4000000 in
set_option maxRecDepth 100000 in
theorem tX2_compose {l : Launch} {D : va_G} {A : Nat → Prop} {N : Nat} {Sh : SM} {J : JM} (I : IM) {a : Nat} {v : Nat → Nat} (hs : shI Sh a 16) (hv : RV (I a) v) {b : Nat} {w : Nat → Nat} (hs2 : shI Sh b 16) (hw : RV (I b) w) (hne : b ≠ a) : CtW l D A yX2_compose cX2_compose 3 1 N Sh I J [.ref a, .ref b] (fun I' => I' = uR I a (rowN 16 (fun k => nI (stp w (v k))) (I a))) := by
  refine ct_V (l0 := [(0, .ref a), (1, .ref b)]) (by decide +kernel) (Nat.le_of_ble_eq_true rfl) rfl ?_
  intro X hX hret _ _ _
  have hX : XK X RX2 cX2_compose 3 1 := hX
  have lp : ∀ (n i : Nat), i + n = 16 → WX X 0 0 N Sh (uR I a (rowN i (fun k => nI (stp w (v k))) (I a))) J 2 [(0, .ref a), (1, .ref b), (2, .int (nI i))] [] := by
    intro n
    induction n with
    | zero =>
      intro i  hi
      obtain rfl : 16 = i := by omega
      refine wa_iload_n hX dX2_compose_2 rfl ?_
      refine wa_bipush (v := nI 16) hX dX2_compose_3 (by decide) ?_
      refine wa_icmp_ge (tgt := 24) hX dX2_compose_5 (by decide) (fun c_5 => ?_) (fun c_5 => absurd (Int32.le_refl _) c_5)
      exact hret _ _ _ _ ⟨rfl, rfl⟩ dX2_compose_24
    | succ n ih =>
      intro i  hi
      have hlt : i < 16 := by omega
      refine wa_iload_n hX dX2_compose_2 rfl ?_
      refine wa_bipush (v := nI 16) hX dX2_compose_3 (by decide) ?_
      refine wa_icmp_ge (tgt := 24) hX dX2_compose_5 (by decide) (fun c_5 => absurd c_5 (nI_ge hlt (by decide))) (fun c_5 => ?_)
      refine wa_aload_n hX dX2_compose_8 rfl ?_
      refine wa_iload_n hX dX2_compose_9 rfl ?_
      refine wa_aload_n hX dX2_compose_10 rfl ?_
      refine wa_aload_n hX dX2_compose_11 rfl ?_
      refine wa_iload_n hX dX2_compose_12 rfl ?_
      refine wa_iald hX hs rfl (by first | assumption | omega) (by decide) dX2_compose_13 ?_
      rw [rd_s, (hv i hlt).1]
      refine wa_sP hX (tX2_step _ hs2 (v := w) (by rw [uR_n hne]; exact hw) (hv i hlt).2) bX2_step mX2_15 (by decide) (by decide) rfl rfl (Nat.le_of_ble_eq_true rfl) dX2_compose_14 (fun r_14 q_14 => ?_)
      refine wa_iast hX hs rfl (by first | assumption | omega) (by decide) dX2_compose_17 ?_
      refine wa_iinc hX dX2_compose_18 rfl (inc1 _) (by decide) ?_
      refine wa_goto (tgt := 2) hX dX2_compose_21 (by decide) ?_
      refine wx_sub (l' := [(0, _), (1, _), (2, _)]) ⟨rfl, rfl, rfl, trivial⟩ ?_
      rw [u2_row (by exact q_14)]
      exact ih (i + 1) (by omega)
  refine wa_iconst (v := nI 0) hX dX2_compose_0 (by decide) ?_
  refine wa_istore_n hX dX2_compose_1 (by decide) ?_
  rw [row_0 (I := I) (a := a) (g := fun k => nI (stp w (v k)))]
  exact lp 16 0 (by omega)

set_option maxHeartbeats 4000000 in
set_option maxRecDepth 100000 in
theorem tX2_power {l : Launch} {D : va_G} {A : Nat → Prop} {N : Nat} {Sh : SM} {J : JM} (I : IM) {a : Nat} {v : Nat → Nat} (hs : shI Sh a 16) (hv : RV (I a) v) {b n0 : Nat} (hs2 : shI Sh b 16) (hne : a ≠ b) (hn0 : n0 < 2 ^ 31) : CtW l D A yX2_power cX2_power 4 2 N Sh I J [.ref a, .int (nI n0), .ref b] (fun I' => I' = uR I b (rowN 16 (fun k => nI (itr v n0 k)) (I b))) := by
  refine ct_V (l0 := [(0, .ref a), (1, .int (nI n0)), (2, .ref b)]) (by decide +kernel) (Nat.le_of_ble_eq_true rfl) rfl ?_
  intro X hX hret _ _ _
  have hX : XK X RX2 cX2_power 4 2 := hX
  have lp : ∀ (n i : Nat), i + n = 16 → WX X 0 0 N Sh (uR I b (rowN i (fun k => nI (itr v n0 k)) (I b))) J 2 [(0, .ref a), (1, .int (nI n0)), (2, .ref b), (3, .int (nI i))] [] := by
    intro n
    induction n with
    | zero =>
      intro i  hi
      obtain rfl : 16 = i := by omega
      refine wa_iload_n hX dX2_power_2 rfl ?_
      refine wa_bipush (v := nI 16) hX dX2_power_3 (by decide) ?_
      refine wa_icmp_ge (tgt := 23) hX dX2_power_5 (by decide) (fun c_5 => ?_) (fun c_5 => absurd (Int32.le_refl _) c_5)
      exact hret _ _ _ _ ⟨rfl, rfl⟩ dX2_power_23
    | succ n ih =>
      intro i  hi
      have hlt : i < 16 := by omega
      refine wa_iload_n hX dX2_power_2 rfl ?_
      refine wa_bipush (v := nI 16) hX dX2_power_3 (by decide) ?_
      refine wa_icmp_ge (tgt := 23) hX dX2_power_5 (by decide) (fun c_5 => absurd c_5 (nI_ge hlt (by decide))) (fun c_5 => ?_)
      refine wa_aload_n hX dX2_power_8 rfl ?_
      refine wa_iload_n hX dX2_power_9 rfl ?_
      refine wa_aload_n hX dX2_power_10 rfl ?_
      refine wa_iload_n hX dX2_power_11 rfl ?_
      refine wa_iload_n hX dX2_power_12 rfl ?_
      refine wa_sP hX (tX2_walk _ hs (v := v) (by rw [uR_n hne]; exact hv) (show i ≤ 16 by omega) hn0) bX2_walk mX2_21 (by decide) (by decide) rfl rfl (Nat.le_of_ble_eq_true rfl) dX2_power_13 (fun r_13 q_13 => ?_)
      refine wa_iast hX hs2 rfl (by first | assumption | omega) (by decide) dX2_power_16 ?_
      refine wa_iinc hX dX2_power_17 rfl (inc1 _) (by decide) ?_
      refine wa_goto (tgt := 2) hX dX2_power_20 (by decide) ?_
      refine wx_sub (l' := [(0, _), (1, _), (2, _), (3, _)]) ⟨rfl, rfl, rfl, rfl, trivial⟩ ?_
      rw [u2_row (by exact q_13)]
      exact ih (i + 1) (by omega)
  refine wa_iconst (v := nI 0) hX dX2_power_0 (by decide) ?_
  refine wa_istore_n hX dX2_power_1 (by decide) ?_
  rw [row_0 (I := I) (a := b) (g := fun k => nI (itr v n0 k))]
  exact lp 16 0 (by omega)

set_option maxHeartbeats 4000000 in
set_option maxRecDepth 100000 in
theorem tX2_restrict {l : Launch} {D : va_G} {A : Nat → Prop} {N : Nat} {Sh : SM} {J : JM} (I : IM) {a : Nat} {x : Int32} (hs : shI Sh a 16) : CtW l D A yX2_restrict cX2_restrict 3 0 N Sh I J [.ref a, .int x] (fun I' => I' = uR I a (rowN 16 (fun k => if bt x k = true then I a k else nI 16) (I a))) := by
  refine ct_V (l0 := [(0, .ref a), (1, .int x)]) (by decide +kernel) (Nat.le_of_ble_eq_true rfl) rfl ?_
  intro X hX hret _ _ _
  have hX : XK X RX2 cX2_restrict 3 0 := hX
  have lp : ∀ (n i : Nat), i + n = 16 → WX X 0 0 N Sh (uR I a (rowN i (fun k => if bt x k = true then I a k else nI 16) (I a))) J 2 [(0, .ref a), (1, .int x), (2, .int (nI i))] [] := by
    intro n
    induction n with
    | zero =>
      intro i  hi
      obtain rfl : 16 = i := by omega
      refine wa_iload_n hX dX2_restrict_2 rfl ?_
      refine wa_bipush (v := nI 16) hX dX2_restrict_3 (by decide) ?_
      refine wa_icmp_ge (tgt := 27) hX dX2_restrict_5 (by decide) (fun c_5 => ?_) (fun c_5 => absurd (Int32.le_refl _) c_5)
      exact hret _ _ _ _ ⟨rfl, rfl⟩ dX2_restrict_27
    | succ n ih =>
      intro i  hi
      have hlt : i < 16 := by omega
      refine wa_iload_n hX dX2_restrict_2 rfl ?_
      refine wa_bipush (v := nI 16) hX dX2_restrict_3 (by decide) ?_
      refine wa_icmp_ge (tgt := 27) hX dX2_restrict_5 (by decide) (fun c_5 => absurd c_5 (nI_ge hlt (by decide))) (fun c_5 => ?_)
      refine wa_iload_n hX dX2_restrict_8 rfl ?_
      refine wa_iload_n hX dX2_restrict_9 rfl ?_
      refine wa_ishr hX dX2_restrict_10 ?_
      refine wa_iconst (v := nI 1) hX dX2_restrict_11 (by decide) ?_
      refine wa_iand hX dX2_restrict_12 ?_
      refine wa_if_ne (tgt := 21) hX dX2_restrict_13 (by decide) (fun c_13 => ?_) (fun c_13 => ?_)
      · skip
        have c1 : bt x i = true := by
          cases h : bt x i with
          | true => rfl
          | false => exact absurd ((bt_t0 (by omega) x).mpr h) c_13
        refine wa_iinc hX dX2_restrict_21 rfl (inc1 _) (by decide) ?_
        refine wa_goto (tgt := 2) hX dX2_restrict_24 (by decide) ?_
        refine wx_sub (l' := [(0, _), (1, _), (2, _)]) ⟨rfl, rfl, rfl, trivial⟩ ?_
        rw [row_e (by simp [c1])]
        exact ih (i + 1) (by omega)
      · skip
        have c1 := (bt_t0 (by omega) x).mp c_13
        refine wa_aload_n hX dX2_restrict_16 rfl ?_
        refine wa_iload_n hX dX2_restrict_17 rfl ?_
        refine wa_bipush (v := nI 16) hX dX2_restrict_18 (by decide) ?_
        refine wa_iast hX hs rfl (by first | assumption | omega) (by decide) dX2_restrict_20 ?_
        refine wa_iinc hX dX2_restrict_21 rfl (inc1 _) (by decide) ?_
        refine wa_goto (tgt := 2) hX dX2_restrict_24 (by decide) ?_
        refine wx_sub (l' := [(0, _), (1, _), (2, _)]) ⟨rfl, rfl, rfl, trivial⟩ ?_
        rw [u2_row (by simp [c1])]
        exact ih (i + 1) (by omega)
  refine wa_iconst (v := nI 0) hX dX2_restrict_0 (by decide) ?_
  refine wa_istore_n hX dX2_restrict_1 (by decide) ?_
  rw [row_0 (I := I) (a := a) (g := fun k => if bt x k = true then I a k else nI 16)]
  exact lp 16 0 (by omega)

/-- the set of the values of the first n keys -/
def imgS (v : Nat → Nat) : Nat → Int32
  | 0 => nI 0
  | n + 1 => if v n = 16 then imgS v n else imgS v n ||| b1 (nI (v n))
set_option maxHeartbeats 4000000 in
set_option maxRecDepth 100000 in
theorem tX2_image {l : Launch} {D : va_G} {A : Nat → Prop} {N : Nat} {Sh : SM} {J : JM} (I : IM) {a : Nat} {v : Nat → Nat} (hs : shI Sh a 16) (hv : RV (I a) v) : CtP l D A yX2_image cX2_image 3 FieldType.int 0 N Sh I J [.ref a] (fun r => r = imgS v 16) := by
  refine ct_I (l0 := [(0, .ref a)]) (by decide +kernel) (Nat.le_of_ble_eq_true rfl) rfl (fun _ _ _ _ => rfl) ?_
  intro X hX hret _ _ _
  have hX : XK X RX2 cX2_image 3 0 := hX
  have lp : ∀ (n i : Nat) (x : Int32), i + n = 16 → (x = imgS v i) → WX X 0 0 N Sh I J 4 [(0, .ref a), (1, .int x), (2, .int (nI i))] [] := by
    intro n
    induction n with
    | zero =>
      intro i x hi ex
      obtain rfl : 16 = i := by omega
      refine wa_iload_n hX dX2_image_4 rfl ?_
      refine wa_bipush (v := nI 16) hX dX2_image_5 (by decide) ?_
      refine wa_icmp_ge (tgt := 32) hX dX2_image_7 (by decide) (fun c_7 => ?_) (fun c_7 => absurd (Int32.le_refl _) c_7)
      refine wa_iload_n hX dX2_image_32 rfl ?_
      exact hret _ _ _ _ _ ⟨ex, rfl, rfl⟩ dX2_image_33
    | succ n ih =>
      intro i x hi ex
      have hlt : i < 16 := by omega
      refine wa_iload_n hX dX2_image_4 rfl ?_
      refine wa_bipush (v := nI 16) hX dX2_image_5 (by decide) ?_
      refine wa_icmp_ge (tgt := 32) hX dX2_image_7 (by decide) (fun c_7 => absurd c_7 (nI_ge hlt (by decide))) (fun c_7 => ?_)
      refine wa_aload_n hX dX2_image_10 rfl ?_
      refine wa_iload_n hX dX2_image_11 rfl ?_
      refine wa_iald hX (by assumption) rfl (by first | assumption | omega) (by decide) dX2_image_12 ?_
      rw [(hv i hlt).1]
      refine wa_bipush (v := nI 16) hX dX2_image_13 (by decide) ?_
      refine wa_icmp_eq (tgt := 26) hX dX2_image_15 (by decide) (fun c_15 => ?_) (fun c_15 => ?_)
      · skip
        have c1 := eq_of_nI c_15 (by have := (hv i hlt).2; omega) (by decide)
        refine wa_iinc hX dX2_image_26 rfl (inc1 _) (by decide) ?_
        refine wa_goto (tgt := 4) hX dX2_image_29 (by decide) ?_
        refine wx_sub (l' := [(0, _), (1, _), (2, _)]) ⟨rfl, rfl, rfl, trivial⟩ ?_
        exact ih (i + 1) _ (by omega) (by rw [ex]; simp [imgS, c1])
      · skip
        have c1 := ne_of_nI c_15
        refine wa_iload_n hX dX2_image_18 rfl ?_
        refine wa_iconst (v := nI 1) hX dX2_image_19 (by decide) ?_
        refine wa_aload_n hX dX2_image_20 rfl ?_
        refine wa_iload_n hX dX2_image_21 rfl ?_
        refine wa_iald hX (by assumption) rfl (by first | assumption | omega) (by decide) dX2_image_22 ?_
        rw [(hv i hlt).1]
        refine wa_ishl hX dX2_image_23 ?_
        refine wa_ior hX dX2_image_24 ?_
        refine wa_istore_n hX dX2_image_25 (by decide) ?_
        refine wa_iinc hX dX2_image_26 rfl (inc1 _) (by decide) ?_
        refine wa_goto (tgt := 4) hX dX2_image_29 (by decide) ?_
        refine wx_sub (l' := [(0, _), (1, _), (2, _)]) ⟨rfl, rfl, rfl, trivial⟩ ?_
        exact ih (i + 1) _ (by omega) (by rw [ex]; simp [imgS, c1, b1])
  refine wa_iconst (v := nI 0) hX dX2_image_0 (by decide) ?_
  refine wa_istore_n hX dX2_image_1 (by decide) ?_
  refine wa_iconst (v := nI 0) hX dX2_image_2 (by decide) ?_
  refine wa_istore_n hX dX2_image_3 (by decide) ?_
  exact lp 16 0 _ (by omega) rfl

set_option maxHeartbeats 4000000 in
set_option maxRecDepth 100000 in
theorem tX2_isOneToOne {l : Launch} {D : va_G} {A : Nat → Prop} {N : Nat} {Sh : SM} {J : JM} (I : IM) {a : Nat} {v : Nat → Nat} (hs : shI Sh a 16) (hv : RV (I a) v) : CtP l D A yX2_isOneToOne cX2_isOneToOne 2 FieldType.boolean 1 N Sh I J [.ref a] (fun r => r = bI (decide (bcI (imgS v 16) = nI 16 - bcI (bset (fun k => decide (I a k = nI 16)) 16)))) := by
  refine ct_I (l0 := [(0, .ref a)]) (by decide +kernel) (Nat.le_of_ble_eq_true rfl) rfl (fun _ _ _ h => by obtain ⟨rfl, _⟩ := h; exact nar_B _) ?_
  intro X hX hret _ _ _
  have hX : XK X RX2 cX2_isOneToOne 2 1 := hX
  refine wa_bipush (v := nI 16) hX dX2_isOneToOne_0 (by decide) ?_
  refine wa_aload_n hX dX2_isOneToOne_2 rfl ?_
  refine wa_sP hX (tX2_holes I hs) bX2_holes mX2_28 (by decide) (by decide) rfl rfl (Nat.le_of_ble_eq_true rfl) dX2_isOneToOne_3 (fun r_3 q_3 => ?_)
  subst q_3
  refine wa_sP hX (tJ6_bitCount_0f7a4 I (bset (fun k => decide (I a k = nI 16)) 16)) bJ6_bitCount_0f7a4 mX2_32 (by decide) (by decide) rfl rfl (Nat.le_of_ble_eq_true rfl) dX2_isOneToOne_6 (fun r_6 q_6 => ?_)
  subst q_6
  refine wa_isub hX dX2_isOneToOne_9 ?_
  refine wa_istore_n hX dX2_isOneToOne_10 (by decide) ?_
  refine wa_aload_n hX dX2_isOneToOne_11 rfl ?_
  refine wa_sP hX (tX2_image I hs hv) bX2_image mX2_38 (by decide) (by decide) rfl rfl (Nat.le_of_ble_eq_true rfl) dX2_isOneToOne_12 (fun r_12 q_12 => ?_)
  subst q_12
  refine wa_sP hX (tJ6_bitCount_0f7a4 I (imgS v 16)) bJ6_bitCount_0f7a4 mX2_32 (by decide) (by decide) rfl rfl (Nat.le_of_ble_eq_true rfl) dX2_isOneToOne_15 (fun r_15 q_15 => ?_)
  subst q_15
  refine wa_iload_n hX dX2_isOneToOne_18 rfl ?_
  refine wa_icmp_ne (tgt := 26) hX dX2_isOneToOne_19 (by decide) (fun c_19 => ?_) (fun c_19 => ?_)
  · skip
    refine wa_iconst (v := nI 0) hX dX2_isOneToOne_26 (by decide) ?_
    exact hret _ _ _ _ _ ⟨(by simp [bI, c_19]), rfl, rfl⟩ dX2_isOneToOne_27
  · skip
    refine wa_iconst (v := nI 1) hX dX2_isOneToOne_22 (by decide) ?_
    refine wa_goto (tgt := 27) hX dX2_isOneToOne_23 (by decide) ?_
    exact hret _ _ _ _ _ ⟨(by simp [bI, c_19]), rfl, rfl⟩ dX2_isOneToOne_27

theorem invS_s (v : Nat → Nat) (r i k : Nat) : invS v r (i + 1) k = if v i = k then (if anyB v i k = false ∨ r = 2 then i else if r ≠ 1 then 16 else invS v r i k) else invS v r i k := rfl
theorem inv_a {v : Nat → Nat} {r i : Nat} (h : anyB v i (v i) = false ∨ r = 2) : ∀ k, k < 16 → (fun k => nI (invS v r (i + 1) k)) k = if k = v i then nI i else (fun k => nI (invS v r i k)) k := by
  intro k hk
  by_cases e : k = v i
  · subst e
    simp only [↓reduceIte, invS_s]
    rw [if_pos h]
  · simp only [if_neg e, invS_s]
    rw [if_neg (fun q => e q.symm)]
theorem inv_b {v : Nat → Nat} {r i : Nat} (h : anyB v i (v i) = true) (h2 : r ≠ 2) (h1 : r ≠ 1) : ∀ k, k < 16 → (fun k => nI (invS v r (i + 1) k)) k = if k = v i then nI 16 else (fun k => nI (invS v r i k)) k := by
  intro k hk
  by_cases e : k = v i
  · subst e
    simp only [↓reduceIte, invS_s]
    rw [if_neg (fun q => q.elim (fun q => by rw [h] at q; cases q) h2), if_pos h1]
  · simp only [if_neg e, invS_s]
    rw [if_neg (fun q => e q.symm)]
theorem inv_c {v : Nat → Nat} {r i : Nat} (h : anyB v i (v i) = true) (h2 : r ≠ 2) (h1 : r = 1) : ∀ k, k < 16 → (fun k => nI (invS v r i k)) k = (fun k => nI (invS v r (i + 1) k)) k := by
  intro k hk
  simp only [invS_s]
  by_cases e : v i = k
  · subst e
    rw [if_pos rfl, if_neg (fun q => q.elim (fun q => by rw [h] at q; cases q) h2), if_neg (by omega)]
  · rw [if_neg e]
theorem inv_d {v : Nat → Nat} {r i : Nat} (h : ¬ v i < 16) : ∀ k, k < 16 → (fun k => nI (invS v r i k)) k = (fun k => nI (invS v r (i + 1) k)) k := by
  intro k hk
  simp only [invS_s]
  rw [if_neg (by omega)]
set_option maxHeartbeats 4000000 in
set_option maxRecDepth 100000 in
theorem tX2_inverse {l : Launch} {D : va_G} {A : Nat → Prop} {N : Nat} {Sh : SM} {J : JM} (I : IM) {a : Nat} {v : Nat → Nat} (hs : shI Sh a 16) (hv : RV (I a) v) {b r0 : Nat} (hs2 : shI Sh b 16) (hne : a ≠ b) (hr0 : r0 ≤ 2) : CtW l D A yX2_inverse cX2_inverse 7 1 N Sh I J [.ref a, .int (nI r0), .ref b] (fun I' => I' = uR I b (rowN 16 (fun k => nI (invS v r0 16 k)) (I b))) := by
  refine ct_V (l0 := [(0, .ref a), (1, .int (nI r0)), (2, .ref b)]) (by decide +kernel) (Nat.le_of_ble_eq_true rfl) rfl ?_
  intro X hX hret _ _ _
  have hX : XK X RX2 cX2_inverse 7 1 := hX
  obtain ⟨cA, hsA⟩ := hs2
  have hs2 : shI Sh b 16 := ⟨cA, hsA⟩
  have lp : ∀ (n i : Nat) (x3 : Int32), i + n = 16 → (x3 = mtI v i) → WX X 0 0 N Sh (uR I b (rowN 16 (fun k => nI (invS v r0 i k)) (I b))) J 11 [(0, .ref a), (1, .int (nI r0)), (2, .ref b), (3, .int x3), (4, .int (nI i))] [] := by
    intro n
    induction n with
    | zero =>
      intro i x3 hi em
      obtain rfl : 16 = i := by omega
      refine wa_iload hX dX2_inverse_11 rfl ?_
      refine wa_bipush (v := nI 16) hX dX2_inverse_13 (by decide) ?_
      refine wa_icmp_ge (tgt := 94) hX dX2_inverse_15 (by decide) (fun c_15 => ?_) (fun c_15 => absurd (Int32.le_refl _) c_15)
      exact hret _ _ _ _ ⟨rfl, rfl⟩ dX2_inverse_94
    | succ n ih =>
      intro i x3 hi em
      have hlt : i < 16 := by omega
      refine wa_iload hX dX2_inverse_11 rfl ?_
      refine wa_bipush (v := nI 16) hX dX2_inverse_13 (by decide) ?_
      refine wa_icmp_ge (tgt := 94) hX dX2_inverse_15 (by decide) (fun c_15 => absurd c_15 (nI_ge hlt (by decide))) (fun c_15 => ?_)
      subst em
      refine wa_aload_n hX dX2_inverse_18 rfl ?_
      refine wa_iload hX dX2_inverse_19 rfl ?_
      refine wa_iald hX hs rfl (by first | assumption | omega) (by decide) dX2_inverse_21 ?_
      rw [uR_n hne, (hv i hlt).1]
      refine wa_istore hX dX2_inverse_22 (by decide) ?_
      refine wa_iload hX dX2_inverse_24 rfl ?_
      refine wa_nP hX (tX6_isKey _ (nI (v i))) bX6_isKey mX2_53 (by decide) (by decide) rfl rfl (Nat.le_of_ble_eq_true rfl) dX2_inverse_26 (fun r_26 q_26 => ?_)
      subst q_26
      rw [inB_nI (by have := (hv i hlt).2; omega) (by decide)]
      refine wa_if_ne (tgt := 35) hX dX2_inverse_29 (by decide) (fun c_29 => ?_) (fun c_29 => ?_)
      · skip
        have hw : v i < 16 := by
          rcases Nat.lt_or_ge (v i) 16 with h | h
          · exact h
          · rw [decide_eq_false (by omega)] at c_29
            exact absurd rfl c_29
        have c0 := bt_mtI v hw i
        refine wa_iload_n hX dX2_inverse_35 rfl ?_
        refine wa_iload hX dX2_inverse_36 rfl ?_
        refine wa_ishr hX dX2_inverse_38 ?_
        refine wa_iconst (v := nI 1) hX dX2_inverse_39 (by decide) ?_
        refine wa_iand hX dX2_inverse_40 ?_
        refine wa_if_ne (tgt := 48) hX dX2_inverse_41 (by decide) (fun c_41 => ?_) (fun c_41 => ?_)
        · skip
          have c2 : anyB v i (v i) = true := by
            rw [← c0]
            cases h : bt (mtI v i) (v i) with
            | true => rfl
            | false => exact absurd ((bt_t0 (by omega) _).mpr h) c_41
          refine wa_iconst (v := nI 0) hX dX2_inverse_48 (by decide) ?_
          refine wa_istore hX dX2_inverse_49 (by decide) ?_
          refine wa_iload hX dX2_inverse_51 rfl ?_
          refine wa_if_ne (tgt := 61) hX dX2_inverse_53 (by decide) (fun c_53 => absurd rfl c_53) (fun c_53 => ?_)
          refine wa_iload_n hX dX2_inverse_56 rfl ?_
          refine wa_iconst (v := nI 2) hX dX2_inverse_57 (by decide) ?_
          refine wa_icmp_ne (tgt := 70) hX dX2_inverse_58 (by decide) (fun c_58 => ?_) (fun c_58 => ?_)
          · skip
            have c3 := ne_of_nI c_58
            refine wa_iload_n hX dX2_inverse_70 rfl ?_
            refine wa_iconst (v := nI 1) hX dX2_inverse_71 (by decide) ?_
            refine wa_icmp_eq (tgt := 81) hX dX2_inverse_72 (by decide) (fun c_72 => ?_) (fun c_72 => ?_)
            · skip
              have c4 := eq_of_nI c_72 (by omega) (by decide)
              refine wa_iload_n hX dX2_inverse_81 rfl ?_
              refine wa_iconst (v := nI 1) hX dX2_inverse_82 (by decide) ?_
              refine wa_iload hX dX2_inverse_83 rfl ?_
              refine wa_ishl hX dX2_inverse_85 ?_
              refine wa_ior hX dX2_inverse_86 ?_
              refine wa_istore_n hX dX2_inverse_87 (by decide) ?_
              refine wa_iinc hX dX2_inverse_88 rfl (inc1 _) (by decide) ?_
              refine wa_goto (tgt := 11) hX dX2_inverse_91 (by decide) ?_
              refine wx_sub (l' := [(0, _), (1, _), (2, _), (3, _), (4, _)]) ⟨rfl, rfl, rfl, rfl, rfl, trivial⟩ ?_
              rw [row_cg (n := 16) (inv_c (r := r0) c2 c3 c4)]
              exact ih (i + 1) _ (by omega) (by simp [mtI, hw, b1])
            · skip
              have c4 := ne_of_nI c_72
              refine wa_aload_n hX dX2_inverse_75 rfl ?_
              refine wa_iload hX dX2_inverse_76 rfl ?_
              refine wa_bipush (v := nI 16) hX dX2_inverse_78 (by decide) ?_
              refine wa_iast hX hs2 rfl hw (by decide) dX2_inverse_80 ?_
              refine wa_iload_n hX dX2_inverse_81 rfl ?_
              refine wa_iconst (v := nI 1) hX dX2_inverse_82 (by decide) ?_
              refine wa_iload hX dX2_inverse_83 rfl ?_
              refine wa_ishl hX dX2_inverse_85 ?_
              refine wa_ior hX dX2_inverse_86 ?_
              refine wa_istore_n hX dX2_inverse_87 (by decide) ?_
              refine wa_iinc hX dX2_inverse_88 rfl (inc1 _) (by decide) ?_
              refine wa_goto (tgt := 11) hX dX2_inverse_91 (by decide) ?_
              refine wx_sub (l' := [(0, _), (1, _), (2, _), (3, _), (4, _)]) ⟨rfl, rfl, rfl, rfl, rfl, trivial⟩ ?_
              rw [row_up hw (inv_b (r := r0) c2 c3 c4)]
              exact ih (i + 1) _ (by omega) (by simp [mtI, hw, b1])
          · skip
            have c3 := eq_of_nI c_58 (by omega) (by decide)
            refine wa_aload_n hX dX2_inverse_61 rfl ?_
            refine wa_iload hX dX2_inverse_62 rfl ?_
            refine wa_iload hX dX2_inverse_64 rfl ?_
            refine wa_iast hX hs2 rfl hw (by decide) dX2_inverse_66 ?_
            refine wa_goto (tgt := 81) hX dX2_inverse_67 (by decide) ?_
            refine wa_iload_n hX dX2_inverse_81 rfl ?_
            refine wa_iconst (v := nI 1) hX dX2_inverse_82 (by decide) ?_
            refine wa_iload hX dX2_inverse_83 rfl ?_
            refine wa_ishl hX dX2_inverse_85 ?_
            refine wa_ior hX dX2_inverse_86 ?_
            refine wa_istore_n hX dX2_inverse_87 (by decide) ?_
            refine wa_iinc hX dX2_inverse_88 rfl (inc1 _) (by decide) ?_
            refine wa_goto (tgt := 11) hX dX2_inverse_91 (by decide) ?_
            refine wx_sub (l' := [(0, _), (1, _), (2, _), (3, _), (4, _)]) ⟨rfl, rfl, rfl, rfl, rfl, trivial⟩ ?_
            rw [row_up hw (inv_a (r := r0) (Or.inr c3))]
            exact ih (i + 1) _ (by omega) (by simp [mtI, hw, b1])
        · skip
          have c2 : anyB v i (v i) = false := by rw [← c0]; exact (bt_t0 (by omega) _).mp c_41
          refine wa_iconst (v := nI 1) hX dX2_inverse_44 (by decide) ?_
          refine wa_goto (tgt := 49) hX dX2_inverse_45 (by decide) ?_
          refine wa_istore hX dX2_inverse_49 (by decide) ?_
          refine wa_iload hX dX2_inverse_51 rfl ?_
          refine wa_if_ne (tgt := 61) hX dX2_inverse_53 (by decide) (fun c_53 => ?_) (fun c_53 => absurd c_53 (by decide))
          refine wa_aload_n hX dX2_inverse_61 rfl ?_
          refine wa_iload hX dX2_inverse_62 rfl ?_
          refine wa_iload hX dX2_inverse_64 rfl ?_
          refine wa_iast hX hs2 rfl hw (by decide) dX2_inverse_66 ?_
          refine wa_goto (tgt := 81) hX dX2_inverse_67 (by decide) ?_
          refine wa_iload_n hX dX2_inverse_81 rfl ?_
          refine wa_iconst (v := nI 1) hX dX2_inverse_82 (by decide) ?_
          refine wa_iload hX dX2_inverse_83 rfl ?_
          refine wa_ishl hX dX2_inverse_85 ?_
          refine wa_ior hX dX2_inverse_86 ?_
          refine wa_istore_n hX dX2_inverse_87 (by decide) ?_
          refine wa_iinc hX dX2_inverse_88 rfl (inc1 _) (by decide) ?_
          refine wa_goto (tgt := 11) hX dX2_inverse_91 (by decide) ?_
          refine wx_sub (l' := [(0, _), (1, _), (2, _), (3, _), (4, _)]) ⟨rfl, rfl, rfl, rfl, rfl, trivial⟩ ?_
          rw [row_up hw (inv_a (r := r0) (Or.inl c2))]
          exact ih (i + 1) _ (by omega) (by simp [mtI, hw, b1])
      · skip
        have hw : ¬ v i < 16 := by
          intro h
          rw [decide_eq_true h] at c_29
          exact absurd c_29 (by decide)
        refine wa_goto (tgt := 88) hX dX2_inverse_32 (by decide) ?_
        refine wa_iinc hX dX2_inverse_88 rfl (inc1 _) (by decide) ?_
        refine wa_goto (tgt := 11) hX dX2_inverse_91 (by decide) ?_
        refine wx_sub (l' := [(0, _), (1, _), (2, _), (3, _), (4, _)]) ⟨rfl, rfl, rfl, rfl, rfl, trivial⟩ ?_
        rw [row_cg (n := 16) (inv_d (r := r0) hw)]
        exact ih (i + 1) _ (by omega) (by simp [mtI, hw, b1])
  refine wa_aload_n hX dX2_inverse_0 rfl ?_
  refine wa_bipush (v := nI 16) hX dX2_inverse_1 (by decide) ?_
  refine wa_sW hX (tJ7_fill_53178 I (x := nI 16) hs2 (by decide)) bJ7_fill_53178 mX2_47 (by decide) (by decide) rfl rfl (Nat.le_of_ble_eq_true rfl) dX2_inverse_3 (fun I_3 q_3 => ?_)
  subst q_3
  refine wa_iconst (v := nI 0) hX dX2_inverse_6 (by decide) ?_
  refine wa_istore_n hX dX2_inverse_7 (by decide) ?_
  refine wa_iconst (v := nI 0) hX dX2_inverse_8 (by decide) ?_
  refine wa_istore hX dX2_inverse_9 (by decide) ?_
  exact lp 16 0 _ (by omega) rfl

