/-! the constructors of the class, leaves first -/
theorem kOI : Cond.instanceMethod Lib.objectInit ∈ TWg := tw_dec (by decide +kernel)
theorem kOC : Cond.code Lib.objectInit ⟨#[0xb1]⟩ 1 none ∈ TWg := tw_dec (by decide +kernel)
theorem oL0 : Cond.methodLink RX0 3 Lib.objectInit ∈ TWg := tw_dec (by decide +kernel)
theorem oL3 : Cond.methodLink RX3 3 Lib.objectInit ∈ TWg := tw_dec (by decide +kernel)
theorem oL4 : Cond.methodLink RX4 3 Lib.objectInit ∈ TWg := tw_dec (by decide +kernel)
theorem oL5 : Cond.methodLink RX5 3 Lib.objectInit ∈ TWg := tw_dec (by decide +kernel)
theorem oL1 : Cond.methodLink RX1 3 Lib.objectInit ∈ TWg := tw_dec (by decide +kernel)
theorem oL6 : Cond.methodLink RX6 1 Lib.objectInit ∈ TWg := tw_dec (by decide +kernel)
theorem oL7 : Cond.methodLink RX7 1 Lib.objectInit ∈ TWg := tw_dec (by decide +kernel)
theorem cl0_9 : Cond.classLink RX0 9 "[[I" ∈ TWg := tw_dec (by decide +kernel)
theorem cl3_9 : Cond.classLink RX3 9 "[[I" ∈ TWg := tw_dec (by decide +kernel)
theorem cl1_18 : Cond.classLink RX1 18 "[[I" ∈ TWg := tw_dec (by decide +kernel)
theorem cl4_9 : Cond.classLink RX4 9 RX0 ∈ TWg := tw_dec (by decide +kernel)
theorem cl4_18 : Cond.classLink RX4 18 RX3 ∈ TWg := tw_dec (by decide +kernel)
theorem cl1_9 : Cond.classLink RX1 9 RX5 ∈ TWg := tw_dec (by decide +kernel)
theorem cl6_7 : Cond.classLink RX6 7 RX4 ∈ TWg := tw_dec (by decide +kernel)
theorem cl6_23 : Cond.classLink RX6 23 RX1 ∈ TWg := tw_dec (by decide +kernel)
theorem kN0 : Cond.instantiable RX0 4 ∈ TWg := tw_dec (by decide +kernel)
theorem kI0 : Cond.initialized RX0 ∈ TWg := tw_dec (by decide +kernel)
theorem kN3 : Cond.instantiable RX3 4 ∈ TWg := tw_dec (by decide +kernel)
theorem kI3 : Cond.initialized RX3 ∈ TWg := tw_dec (by decide +kernel)
theorem kN4 : Cond.instantiable RX4 3 ∈ TWg := tw_dec (by decide +kernel)
theorem kI4 : Cond.initialized RX4 ∈ TWg := tw_dec (by decide +kernel)
theorem kN5 : Cond.instantiable RX5 3 ∈ TWg := tw_dec (by decide +kernel)
theorem kI5 : Cond.initialized RX5 ∈ TWg := tw_dec (by decide +kernel)
theorem kN1 : Cond.instantiable RX1 5 ∈ TWg := tw_dec (by decide +kernel)
theorem kI1 : Cond.initialized RX1 ∈ TWg := tw_dec (by decide +kernel)
theorem kN6 : Cond.instantiable RX6 7 ∈ TWg := tw_dec (by decide +kernel)
theorem kI6 : Cond.initialized RX6 ∈ TWg := tw_dec (by decide +kernel)
theorem kN7 : Cond.instantiable RX7 20 ∈ TWg := tw_dec (by decide +kernel)
theorem kI7 : Cond.initialized RX7 ∈ TWg := tw_dec (by decide +kernel)
theorem kA_int : Cond.arrayClass .int ∈ TWg := tw_dec (by decide +kernel)
theorem kA_boolean : Cond.arrayClass .boolean ∈ TWg := tw_dec (by decide +kernel)
theorem kA_char : Cond.arrayClass .char ∈ TWg := tw_dec (by decide +kernel)
theorem iL4_17 : Cond.methodLink RX4 17 yX0_init ∈ TWg ∧ Cond.instanceMethod yX0_init ∈ TWg := ⟨tw_dec (by decide +kernel), tw_dec (by decide +kernel)⟩
theorem iL4_20 : Cond.methodLink RX4 20 yX3_init ∈ TWg ∧ Cond.instanceMethod yX3_init ∈ TWg := ⟨tw_dec (by decide +kernel), tw_dec (by decide +kernel)⟩
theorem iL1_11 : Cond.methodLink RX1 11 yX5_init ∈ TWg ∧ Cond.instanceMethod yX5_init ∈ TWg := ⟨tw_dec (by decide +kernel), tw_dec (by decide +kernel)⟩
theorem iL6_9 : Cond.methodLink RX6 9 yX4_init ∈ TWg ∧ Cond.instanceMethod yX4_init ∈ TWg := ⟨tw_dec (by decide +kernel), tw_dec (by decide +kernel)⟩
theorem iL6_25 : Cond.methodLink RX6 25 yX1_init ∈ TWg ∧ Cond.instanceMethod yX1_init ∈ TWg := ⟨tw_dec (by decide +kernel), tw_dec (by decide +kernel)⟩
def OLD (a : Nat) (Sh : SM) (I : IM) (J : JM) (Sh' : SM) (I' : IM) (J' : JM) : Prop := (∀ b, b ≤ a → Sh' b = Sh b) ∧ ∀ b, b < a → I' b = I b ∧ J' b = J b
theorem PL.cg {Sh Sh' : SM} {J J' : JM} {a : Nat} (h : PL Sh J a) (hs : ∀ b, a ≤ b → b < a + 8 → Sh' b = Sh b) (hj : ∀ b, a ≤ b → b < a + 8 → J' b = J b) : PL Sh' J' a := by
  obtain ⟨h0, h1, h2, h3, ⟨c1, t1, h4, h4'⟩, h5, ⟨c2, h6⟩, ⟨c3, h7⟩⟩ := h
  have e0 := hj a (by omega) (by omega)
  have e1 := hj (a + 1) (by omega) (by omega)
  exact ⟨by rw [hs a (by omega) (by omega)]; exact h0, by rw [e0]; exact h1, by rw [e0]; exact h2, by rw [e0]; exact h3, ⟨c1, t1, by rw [hs _ (by omega) (by omega)]; exact h4, h4'⟩, fun j hj2 => ⟨by rw [e1]; exact (h5 j hj2).1, by
    obtain ⟨c4, h8⟩ := (h5 j hj2).2
    exact ⟨c4, by rw [hs _ (by omega) (by omega)]; exact h8⟩⟩, ⟨c2, by rw [hs _ (by omega) (by omega)]; exact h6⟩, ⟨c3, by rw [hs _ (by omega) (by omega)]; exact h7⟩⟩
theorem QL.cg {Sh Sh' : SM} {J J' : JM} {a : Nat} (h : QL Sh J a) (hs : ∀ b, a ≤ b → b < a + 8 → Sh' b = Sh b) (hj : ∀ b, a ≤ b → b < a + 8 → J' b = J b) : QL Sh' J' a := by
  obtain ⟨h0, h1, ⟨c1, t1, h2, h2'⟩, h3⟩ := h
  refine ⟨by rw [hs a (by omega) (by omega)]; exact h0, by rw [hj a (by omega) (by omega)]; exact h1, ⟨c1, t1, by rw [hs _ (by omega) (by omega)]; exact h2, h2'⟩, fun j hj2 => ⟨by rw [hj (a + 1) (by omega) (by omega)]; exact (h3 j hj2).1, ?_⟩⟩
  obtain ⟨c4, h8⟩ := (h3 j hj2).2
  exact ⟨c4, by rw [hs _ (by omega) (by omega)]; exact h8⟩
theorem SL.cg {Sh Sh' : SM} {J J' : JM} {a : Nat} (h : SL Sh J a) (hs : ∀ b, a ≤ b → b < a + 58 → Sh' b = Sh b) (hj : ∀ b, a ≤ b → b < a + 58 → J' b = J b) : SL Sh' J' a := by
  obtain ⟨h0, h1, h2, ⟨⟨c1, h3⟩, h4⟩, h5⟩ := h
  have e0 := hj a (by omega) (by omega)
  exact ⟨by rw [hs a (by omega) (by omega)]; exact h0, by rw [e0]; exact h1, by rw [e0]; exact h2, ⟨⟨c1, by rw [hs _ (by omega) (by omega)]; exact h3⟩, fun j hj2 => ⟨by rw [hj (a + 1) (by omega) (by omega)]; exact (h4 j hj2).1, (h4 j hj2).2.cg (fun b q1 q2 => hs b (by omega) (by omega)) (fun b q1 q2 => hj b (by omega) (by omega))⟩⟩, h5.cg (fun b q1 q2 => hs b (by omega) (by omega)) (fun b q1 q2 => hj b (by omega) (by omega))⟩
def S0A : AS := ((fun _ => 0, fun _ _ => false, fun _ _ _ => 0), 0, (0, 0, 0, fun _ _ => 0))
set_option maxHeartbeats 4000000 in
set_option maxRecDepth 100000 in
theorem nX0 {l : Launch} {D : va_G} {A : Nat → Prop} {Sh : SM} {J : JM} (I : IM) {a : Nat} (hA : ∀ q, a + 1 ≤ q → A q) (hsh : Sh a = some (.inr 0)) : CtN l D A yX0_init cX0_init 1 1 7 88 (a + 1) Sh I J [.ref a] (fun N' Sh' I' J' => N' = a + 8 ∧ OLD a Sh I J Sh' I' J' ∧ PL Sh' J' a ∧ PS I' a 0 (fun _ => false) (fun _ _ => 0)) := by
  refine ct_N (l0 := [(0, .ref a)]) (by decide +kernel) rfl hA (Nat.le_of_ble_eq_true rfl) rfl ?_
  intro X hX hN hXI hret el eD eA
  subst el eD eA
  have hX : XK X RX0 cX0_init 1 1 := hX
  have hc := hN.2.2.1
  have hs := hN.2.2.2
  refine wa_aload_n hX dX0_init_0 rfl ?_
  refine wn_objInit hX oL0 kOI kOC (by decide) (Nat.le_of_ble_eq_true rfl) dX0_init_1 ?_
  refine wa_aload_n hX dX0_init_4 rfl ?_
  refine wa_iconst (v := nI 4) hX dX0_init_5 (by decide) ?_
  refine wa_bipush (v := nI 16) hX dX0_init_6 (by decide) ?_
  refine wn_multi hX hN (nn := 4) (mm := 16) cl0_9 kA_int (by decide) (by decide) (by decide) (by decide) dX0_init_8 (fun cA cI => ?_)
  refine wn_putF hX hXI fX0_11 rfl rfl rfl ⟨rfl, rfl⟩ (by (repeat rw [sX_n (by omega)]); (try rw [sM2_n (by omega)]); (repeat rw [sX_n (by omega)]); exact hsh) dX0_init_12 ?_
  refine wa_aload_n hX dX0_init_15 rfl ?_
  refine wa_iconst (v := nI 4) hX dX0_init_16 (by decide) ?_
  refine wn_newa hX hN (atype := .boolean) (nn := 4) (by first | exact Or.inl rfl | exact Or.inr (Or.inl rfl) | exact Or.inr (Or.inr rfl)) kA_boolean (by decide) (by decide) (by decide) dX0_init_17 (fun cZ => ?_)
  rw [show a + 1 + 1 + 4 = a + 6 from rfl]
  refine wn_putF hX hXI fX0_16 rfl rfl rfl ⟨rfl, rfl⟩ (by (repeat rw [sX_n (by omega)]); (try rw [sM2_n (by omega)]); (repeat rw [sX_n (by omega)]); exact hsh) dX0_init_19 ?_
  refine wa_aload_n hX dX0_init_22 rfl ?_
  refine wa_bipush (v := nI 16) hX dX0_init_23 (by decide) ?_
  refine wn_newa hX hN (atype := .int) (nn := 16) (by first | exact Or.inl rfl | exact Or.inr (Or.inl rfl) | exact Or.inr (Or.inr rfl)) kA_int (by decide) (by decide) (by decide) dX0_init_25 (fun cV => ?_)
  rw [show a + 6 + 1 = a + 7 from rfl]
  refine wn_putF hX hXI fX0_20 rfl rfl rfl ⟨rfl, rfl⟩ (by (repeat rw [sX_n (by omega)]); (try rw [sM2_n (by omega)]); (repeat rw [sX_n (by omega)]); exact hsh) dX0_init_27 ?_
  refine wa_aload_n hX dX0_init_30 rfl ?_
  refine wa_iconst (v := nI 0) hX dX0_init_31 (by decide) ?_
  refine wa_putI hX fX0_24 rfl rfl ⟨rfl, rfl⟩ (by (repeat rw [sX_n (by omega)]); (try rw [sM2_n (by omega)]); (repeat rw [sX_n (by omega)]); exact hsh) dX0_init_32 ?_
  refine wa_aload_n hX dX0_init_35 rfl ?_
  refine wa_getR hX fX0_20 rfl (by (repeat rw [sX_n (by omega)]); (try rw [sM2_n (by omega)]); (repeat rw [sX_n (by omega)]); exact hsh) uJ_s dX0_init_36 ?_
  refine wa_bipush (v := nI 16) hX dX0_init_39 (by decide) ?_
  refine wa_sW (hk := ⟨by omega, by omega⟩) hX (tJ7_fill_53178 _ (a := a + 7) ⟨cV, sX_s⟩ (by decide)) bJ7_fill_53178 mX0_28 (by decide) (by decide) rfl rfl (Nat.le_of_ble_eq_true rfl) dX0_init_41 (fun I_41 q_41 => ?_)
  subst q_41
  refine hret _ _ _ _ _ _ ⟨rfl, ⟨fun b hb => ?_, fun b hb => ⟨?_, ?_⟩⟩, ⟨?_, ?_, ?_, uJ_s, ⟨cA, .array .int, ?_, rfl⟩, fun j hj => ⟨?_, ⟨cI, ?_⟩⟩, ⟨cZ, ?_⟩, ⟨cV, sX_s⟩⟩, ⟨⟨⟨Nat.zero_le _, ?_⟩, fun j hj => ?_, fun j hj k hk => ⟨?_, Nat.zero_le _⟩⟩, fun k hk => ?_⟩⟩ dX0_init_44
  · rw [sX_n (by omega), sX_n (by omega), sM2_n (by omega)]
  · rw [uR_n (by omega), u2_n (by omega), uR_n (by omega), uR_n (by omega), iM2_n (by omega)]
  · rw [uJ_n (by omega), uJ_n (by omega), uJ_n (by omega), jR_n (by omega)]
  · rw [sX_n (by omega), sX_n (by omega), sM2_n (by omega)]; exact hsh
  · rw [uJ_k (by decide), uJ_k (by decide)]; exact uJ_s
  · rw [uJ_k (by decide)]; exact uJ_s
  · rw [sX_n (by omega), sX_n (by omega)]; exact sM2_s
  · rw [uJ_n (by omega), uJ_n (by omega), uJ_n (by omega), jR_s, if_pos hj]
  · rw [sX_n (by omega), sX_n (by omega)]; exact sM2_i (by omega)
  · rw [sX_n (by omega)]; exact sX_s
  · rw [uR_n (by omega)]; exact u2_s
  · rw [uR_n (by omega), u2_n (by omega), uR_n (by omega), uR_s]; rfl
  · rw [uR_n (by omega), u2_n (by omega), uR_n (by omega), uR_n (by omega), iM2_i (by omega)]
  · rw [uR_s, rowN_in hk]; rfl

set_option maxHeartbeats 4000000 in
set_option maxRecDepth 100000 in
theorem nX3 {l : Launch} {D : va_G} {A : Nat → Prop} {Sh : SM} {J : JM} (I : IM) {a : Nat} (hA : ∀ q, a + 1 ≤ q → A q) (hsh : Sh a = some (.inr 2)) : CtN l D A yX3_init cX3_init 1 1 7 102 (a + 1) Sh I J [.ref a] (fun N' Sh' I' J' => N' = a + 8 ∧ OLD a Sh I J Sh' I' J' ∧ QL Sh' J' a ∧ KV I' a 0 0 0 (fun _ _ => 0)) := by
  refine ct_N (l0 := [(0, .ref a)]) (by decide +kernel) rfl hA (Nat.le_of_ble_eq_true rfl) rfl ?_
  intro X hX hN hXI hret el eD eA
  subst el eD eA
  have hX : XK X RX3 cX3_init 1 1 := hX
  have hc := hN.2.2.1
  have hs := hN.2.2.2
  refine wa_aload_n hX dX3_init_0 rfl ?_
  refine wn_objInit hX oL3 kOI kOC (by decide) (Nat.le_of_ble_eq_true rfl) dX3_init_1 ?_
  refine wa_aload_n hX dX3_init_4 rfl ?_
  refine wa_bipush (v := nI 6) hX dX3_init_5 (by decide) ?_
  refine wa_bipush (v := nI 16) hX dX3_init_7 (by decide) ?_
  refine wn_multi hX hN (nn := 6) (mm := 16) cl3_9 kA_int (by decide) (by decide) (by decide) (by decide) dX3_init_9 (fun cA cI => ?_)
  refine wn_putF hX hXI fX3_11 rfl rfl rfl ⟨rfl, rfl⟩ (by rw [sM2_n (by omega)]; exact hsh) dX3_init_13 ?_
  refine wa_aload_n hX dX3_init_16 rfl ?_
  refine wa_iconst (v := -1) hX dX3_init_17 (by decide) ?_
  refine wa_putI hX fX3_16 rfl rfl ⟨rfl, rfl⟩ (by rw [sM2_n (by omega)]; exact hsh) dX3_init_18 ?_
  refine wa_aload_n hX dX3_init_21 rfl ?_
  refine wa_iconst (v := nI 0) hX dX3_init_22 (by decide) ?_
  refine wa_putI hX fX3_20 rfl rfl ⟨rfl, rfl⟩ (by rw [sM2_n (by omega)]; exact hsh) dX3_init_23 ?_
  refine wa_aload_n hX dX3_init_26 rfl ?_
  refine wa_iconst (v := nI 0) hX dX3_init_27 (by decide) ?_
  refine wa_putI hX fX3_23 rfl rfl ⟨rfl, rfl⟩ (by rw [sM2_n (by omega)]; exact hsh) dX3_init_28 ?_
  refine hret _ _ _ _ _ _ ⟨rfl, ⟨fun b hb => sM2_n (by omega), fun b hb => ⟨?_, ?_⟩⟩, ⟨?_, uJ_s, ⟨cA, _, sM2_s, rfl⟩, fun j hj => ⟨?_, ⟨cI, sM2_i (by omega)⟩⟩⟩, ⟨⟨Nat.zero_le _, ?_⟩, ⟨by decide, ?_⟩, u2_s, fun m hm k hk => ⟨?_, Nat.zero_le _⟩⟩⟩ dX3_init_31
  · rw [u2_n (by omega), u2_n (by omega), u2_n (by omega), iM2_n (by omega)]
  · rw [uJ_n (by omega), jR_n (by omega)]
  · rw [sM2_n (by omega)]; exact hsh
  · rw [uJ_n (by omega), jR_s, if_pos hj]
  · rw [u2_k (by decide), u2_k (by decide), u2_s]; decide
  · rw [u2_k (by decide)]; exact u2_s
  · rw [u2_n (by omega), u2_n (by omega), u2_n (by omega), iM2_i (by omega)]

set_option maxHeartbeats 4000000 in
set_option maxRecDepth 100000 in
theorem nX5 {l : Launch} {D : va_G} {A : Nat → Prop} {Sh : SM} {J : JM} (I : IM) {a : Nat} (hA : ∀ q, a + 1 ≤ q → A q) (hsh : Sh a = some (.inr 4)) : CtN l D A yX5_init cX5_init 1 1 1 60 (a + 1) Sh I J [.ref a] (fun N' Sh' I' J' => N' = a + 2 ∧ OLD a Sh I J Sh' I' J' ∧ TX Sh' J' a ∧ T0 I' a 0 (fun _ => 0)) := by
  refine ct_N (l0 := [(0, .ref a)]) (by decide +kernel) rfl hA (Nat.le_of_ble_eq_true rfl) rfl ?_
  intro X hX hN hXI hret el eD eA
  subst el eD eA
  have hX : XK X RX5 cX5_init 1 1 := hX
  have hc := hN.2.2.1
  have hs := hN.2.2.2
  refine wa_aload_n hX dX5_init_0 rfl ?_
  refine wn_objInit hX oL5 kOI kOC (by decide) (Nat.le_of_ble_eq_true rfl) dX5_init_1 ?_
  refine wa_aload_n hX dX5_init_4 rfl ?_
  refine wa_bipush (v := nI 60) hX dX5_init_5 (by decide) ?_
  refine wn_newa hX hN (atype := .char) (nn := 60) (by first | exact Or.inl rfl | exact Or.inr (Or.inl rfl) | exact Or.inr (Or.inr rfl)) kA_char (by decide) (by decide) (by decide) dX5_init_7 (fun cA => ?_)
  refine wn_putF hX hXI fX5_9 rfl rfl rfl ⟨rfl, rfl⟩ (by rw [sX_n (by omega)]; exact hsh) dX5_init_9 ?_
  refine wa_aload_n hX dX5_init_12 rfl ?_
  refine wa_iconst (v := nI 0) hX dX5_init_13 (by decide) ?_
  refine wa_putI hX fX5_15 rfl rfl ⟨rfl, rfl⟩ (by rw [sX_n (by omega)]; exact hsh) dX5_init_14 ?_
  refine wa_aload_n hX dX5_init_17 rfl ?_
  refine wa_iconst (v := nI 0) hX dX5_init_18 (by decide) ?_
  refine wa_putI hX fX5_19 rfl rfl ⟨rfl, rfl⟩ (by rw [sX_n (by omega)]; exact hsh) dX5_init_19 ?_
  refine hret _ _ _ _ _ _ ⟨rfl, ⟨fun b hb => sX_n (by omega), fun b hb => ⟨?_, uJ_n (by omega)⟩⟩, ⟨?_, uJ_s, ⟨cA, sX_s⟩⟩, ⟨⟨by decide, ?_⟩, fun j hj => absurd hj (Nat.not_lt_zero j)⟩⟩ dX5_init_22
  · rw [u2_n (by omega), u2_n (by omega), uR_n (by omega)]
  · rw [sX_n (by omega)]; exact hsh
  · rw [u2_k (by decide)]; exact u2_s

