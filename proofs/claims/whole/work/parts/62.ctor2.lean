/-! the constructors of State, Reader, PileMaps and PileMapsModel -/
def F0S : FS := (S0A, (0, fun _ => S0A), (false, S0A), (0, fun _ => 0))
theorem SV.old {I I' : IM} {b : Nat} {S : AS} (h : SV I b S) (hk : ∀ q, q < b + 58 → I' q = I q) : SV I' b S := h.keep (fun q _ h2 => hk q h2)
set_option maxHeartbeats 4000000 in
set_option maxRecDepth 100000 in
theorem nX4 {l : Launch} {D : va_G} {A : Nat → Prop} {Sh : SM} {J : JM} (I : IM) {a : Nat} (hA : ∀ q, a + 1 ≤ q → A q) (hsh : Sh a = some (.inr 3)) : CtN l D A yX4_init cX4_init 2 2 57 664 (a + 1) Sh I J [.ref a] (fun N' Sh' I' J' => N' = a + 58 ∧ OLD a Sh I J Sh' I' J' ∧ SL Sh' J' a ∧ SV I' a S0A) := by
  refine ct_N (l0 := [(0, .ref a)]) (by decide +kernel) rfl hA (Nat.le_of_ble_eq_true rfl) rfl ?_
  intro X hX hN hXI hret el eD eA
  subst el eD eA
  have hX : XK X RX4 cX4_init 2 2 := hX
  have hc := hN.2.2.1
  have hs := hN.2.2.2
  have lp : ∀ (n i : Nat), i + n = 6 → ∀ (Sh1 : SM) (I1 : IM) (J1 : JM), (∀ x, x ≤ a → Sh1 x = Sh x) → shA Sh1 (a + 1) RX0 6 → (∀ x, x < a → I1 x = I x ∧ J1 x = J x) → J1 a 0 = some (a + 1) → (∀ j, j < i → J1 (a + 1) j = some (a + 2 + 8 * j) ∧ PL Sh1 J1 (a + 2 + 8 * j) ∧ PS I1 (a + 2 + 8 * j) 0 (fun _ => false) (fun _ _ => 0)) → WX X (1 + 8 * i) (6 + 92 * i) (a + 2 + 8 * i) Sh1 I1 J1 15 [(0, .ref a), (1, .int (nI i))] [] := by
    intro n
    induction n with
    | zero =>
      intro i hi Sh1 I1 J1 h1 h2 h3 h4 h5
      obtain rfl : 6 = i := by omega
      have hsh1 : Sh1 a = some (.inr 3) := (h1 a (Nat.le_refl _)).trans hsh
      rw [show a + 2 + 8 * 6 = a + 50 from rfl, show 1 + 8 * 6 = 49 from rfl, show 6 + 92 * 6 = 558 from rfl]
      refine wa_iload_n hX dX4_init_15 rfl ?_
      refine wa_bipush (v := nI 6) hX dX4_init_16 (by decide) ?_
      refine wa_icmp_ge (tgt := 40) hX dX4_init_18 (by decide) (fun c_18 => ?_) (fun c_18 => absurd (Int32.le_refl _) c_18)
      refine wa_aload_n hX dX4_init_40 rfl ?_
      refine wn_new hX hN (ci := 2) (by decide) cl4_18 kN3 kI3 (by first | omega | decide) (by first | (show _ + 4 ≤ _; omega) | decide) dX4_init_41 ?_
      refine wa_dup hX dX4_init_44 rfl ?_
      refine wn_init hX hN (nX3 _ (a := a + 50) (fun q hq => hA q (by omega)) sX_s) bX3_init rfl iL4_20 (by decide) (by decide) rfl rfl (Nat.le_of_ble_eq_true rfl) dX4_init_45 (by first | omega | decide) (by first | omega | decide) (fun N_45 S_45 I_45 J_45 q_45 => ?_)
      obtain ⟨eN, ⟨o1, o2⟩, hQL, hKV⟩ := q_45
      subst eN
      have hsh3 : S_45 a = some (.inr 3) := by rw [o1 a (by omega), sX_n (by omega)]; exact hsh1
      refine wn_putF hX hXI fX4_21 rfl rfl rfl ⟨rfl, rfl⟩ hsh3 dX4_init_48 ?_
      refine wa_aload_n hX dX4_init_51 rfl ?_
      refine wa_iconst (v := nI 0) hX dX4_init_52 (by decide) ?_
      refine wa_putI hX fX4_25 rfl rfl ⟨rfl, rfl⟩ hsh3 dX4_init_53 ?_
      obtain ⟨c9, e9⟩ := h2
      have hpl : ∀ j, j < 6 → J_45 (a + 1) j = some (a + 2 + 8 * j) ∧ PL S_45 J_45 (a + 2 + 8 * j) ∧ PS I_45 (a + 2 + 8 * j) 0 (fun _ => false) (fun _ _ => 0) := by
        intro j hj
        obtain ⟨b1, b2, b3⟩ := h5 j hj
        exact ⟨by rw [(o2 _ (by omega)).2, jR_n (by omega)]; exact b1, b2.cg (fun x q1 q2 => by rw [o1 x (by omega), sX_n (by omega)]) (fun x q1 q2 => by rw [(o2 x (by omega)).2, jR_n (by omega)]), b3.keep (fun x q1 q2 => by rw [(o2 x (by omega)).1, uR_n (by omega)])⟩
      refine hret _ _ _ _ _ _ ⟨rfl, ⟨fun x hx => ?_, fun x hx => ⟨?_, ?_⟩⟩, ⟨hsh3, ?_, uJ_s, ⟨⟨c9, ?_⟩, fun j hj => ⟨?_, ?_⟩⟩, ?_⟩, ⟨fun m hm => ?_, ?_, u2_s, Nat.zero_le _⟩⟩ dX4_init_56
      · rw [o1 x (by omega), sX_n (by omega)]; exact h1 x hx
      · rw [u2_n (by omega), (o2 x (by omega)).1, uR_n (by omega)]; exact (h3 x hx).1
      · rw [uJ_n (by omega), (o2 x (by omega)).2, jR_n (by omega)]; exact (h3 x hx).2
      · rw [uJ_k (by decide), (o2 a (by omega)).2, jR_n (by omega)]; exact h4
      · rw [o1 _ (by omega), sX_n (by omega)]; exact e9
      · rw [uJ_n (by omega)]; exact (hpl j hj).1
      · exact (hpl j hj).2.1.cg (fun _ _ _ => rfl) (fun x q1 _ => uJ_n (by omega))
      · exact hQL.cg (fun _ _ _ => rfl) (fun x q1 _ => uJ_n (by omega))
      · exact (hpl m hm).2.2.keep (fun x q1 _ => u2_n (by omega))
      · exact hKV.keep (fun x q1 _ => u2_n (by omega))
    | succ n ih =>
      intro i hi Sh1 I1 J1 h1 h2 h3 h4 h5
      have hsh1 : Sh1 a = some (.inr 3) := (h1 a (Nat.le_refl _)).trans hsh
      refine wa_iload_n hX dX4_init_15 rfl ?_
      refine wa_bipush (v := nI 6) hX dX4_init_16 (by decide) ?_
      refine wa_icmp_ge (tgt := 40) hX dX4_init_18 (by decide) (fun c_18 => absurd c_18 (nI_ge (show i < 6 by omega) (by decide))) (fun c_18 => ?_)
      refine wa_aload_n hX dX4_init_21 rfl ?_
      refine wa_getR hX fX4_11 rfl hsh1 h4 dX4_init_22 ?_
      refine wa_iload_n hX dX4_init_25 rfl ?_
      refine wn_new hX hN (ci := 0) (by decide) cl4_9 kN0 kI0 (by first | omega | decide) (by first | (show _ + 4 ≤ _; omega) | decide) dX4_init_26 ?_
      refine wa_dup hX dX4_init_29 rfl ?_
      refine wn_init hX hN (nX0 _ (a := a + 2 + 8 * i) (fun q hq => hA q (by omega)) sX_s) bX0_init rfl iL4_17 (by decide) (by decide) rfl rfl (Nat.le_of_ble_eq_true rfl) dX4_init_30 (by first | omega | decide) (by show 6 + 92 * i + 4 + 88 ≤ 664; omega) (fun N_30 S_30 I_30 J_30 q_30 => ?_)
      obtain ⟨eN, ⟨o1, o2⟩, hPL, hPS⟩ := q_30
      subst eN
      have hcell : shA S_30 (a + 1) RX0 6 := by
        obtain ⟨c9, e9⟩ := h2
        exact ⟨c9, by rw [o1 _ (by omega), sX_n (by omega)]; exact e9⟩
      refine wa_aast (ci := 0) hX hcell (by decide) hPL.1 rfl (show i < 6 by omega) (by decide) dX4_init_33 ?_
      refine wa_iinc hX dX4_init_34 rfl (inc1 _) (by decide) ?_
      refine wa_goto (tgt := 15) hX dX4_init_37 (by decide) ?_
      rw [show 1 + 8 * i + 1 + 7 = 1 + 8 * (i + 1) by omega, show 6 + 92 * i + clN 0 + 88 = 6 + 92 * (i + 1) by show 6 + 92 * i + 4 + 88 = _; omega, show a + 2 + 8 * i + 8 = a + 2 + 8 * (i + 1) by omega]
      refine wx_sub (l' := [(0, _), (1, _)]) ⟨rfl, rfl, trivial⟩ ?_
      refine ih (i + 1) (by omega) _ _ _ (fun x hx => by rw [o1 x (by omega), sX_n (by omega)]; exact h1 x hx) hcell (fun x hx => ⟨by rw [(o2 x (by omega)).1, uR_n (by omega)]; exact (h3 x hx).1, by rw [uJ_n (by omega), (o2 x (by omega)).2, jR_n (by omega)]; exact (h3 x hx).2⟩) (by rw [uJ_n (by omega), (o2 a (by omega)).2, jR_n (by omega)]; exact h4) (fun j hj => ?_)
      by_cases e : j = i
      · subst e
        exact ⟨uJ_s, hPL.cg (fun _ _ _ => rfl) (fun x q1 _ => uJ_n (by omega)), hPS⟩
      · obtain ⟨b1, b2, b3⟩ := h5 j (by omega)
        refine ⟨by rw [uJ_k e, (o2 _ (by omega)).2, jR_n (by omega)]; exact b1, b2.cg (fun x q1 q2 => by rw [o1 x (by omega), sX_n (by omega)]) (fun x q1 q2 => by rw [uJ_n (by omega), (o2 x (by omega)).2, jR_n (by omega)]), b3.keep (fun x q1 q2 => by rw [(o2 x (by omega)).1, uR_n (by omega)])⟩
  refine wa_aload_n hX dX4_init_0 rfl ?_
  refine wn_objInit hX oL4 kOI kOC (by decide) (Nat.le_of_ble_eq_true rfl) dX4_init_1 ?_
  refine wa_aload_n hX dX4_init_4 rfl ?_
  refine wa_bipush (v := nI 6) hX dX4_init_5 (by decide) ?_
  refine wn_newq hX hN (C := RX0) (nn := 6) hN.2.1.1 cl4_9 (by decide) (by decide) (by decide) dX4_init_7 (fun cA => ?_)
  refine wn_putF hX hXI fX4_11 rfl rfl rfl ⟨rfl, rfl⟩ (by rw [sX_n (by omega)]; exact hsh) dX4_init_10 ?_
  refine wa_iconst (v := nI 0) hX dX4_init_13 (by decide) ?_
  refine wa_istore_n hX dX4_init_14 (by decide) ?_
  exact lp 6 0 rfl _ _ _ (fun x hx => sX_n (by omega)) ⟨cA, sX_s⟩ (fun x hx => ⟨rfl, by rw [uJ_n (by omega), jR_n (by omega)]⟩) uJ_s (fun j hj => absurd hj (Nat.not_lt_zero j))

set_option maxHeartbeats 4000000 in
set_option maxRecDepth 100000 in
theorem nX1 {l : Launch} {D : va_G} {A : Nat → Prop} {Sh : SM} {J : JM} (I : IM) {a : Nat} (hA : ∀ q, a + 1 ≤ q → A q) (hsh : Sh a = some (.inr 1)) : CtN l D A yX1_init cX1_init 1 2 15 265 (a + 1) Sh I J [.ref a] (fun N' Sh' I' J' => N' = a + 16 ∧ OLD a Sh I J Sh' I' J' ∧ RY Sh' J' a ∧ T0 I' (a + 1) 0 (fun _ => 0)) := by
  refine ct_N (l0 := [(0, .ref a)]) (by decide +kernel) rfl hA (Nat.le_of_ble_eq_true rfl) rfl ?_
  intro X hX hN hXI hret el eD eA
  subst el eD eA
  have hX : XK X RX1 cX1_init 1 2 := hX
  have hc := hN.2.2.1
  have hs := hN.2.2.2
  refine wa_aload_n hX dX1_init_0 rfl ?_
  refine wn_objInit hX oL1 kOI kOC (by decide) (Nat.le_of_ble_eq_true rfl) dX1_init_1 ?_
  refine wa_aload_n hX dX1_init_4 rfl ?_
  refine wn_new hX hN (ci := 4) (by decide) cl1_9 kN5 kI5 (by first | omega | decide) (by first | (show _ + 3 ≤ _; omega) | decide) dX1_init_5 ?_
  refine wa_dup hX dX1_init_8 rfl ?_
  refine wn_init hX hN (nX5 _ (a := a + 1) (fun q hq => hA q (by omega)) sX_s) bX5_init rfl iL1_11 (by decide) (by decide) rfl rfl (Nat.le_of_ble_eq_true rfl) dX1_init_9 (by first | omega | decide) (by first | omega | decide) (fun N_9 S_9 I_9 J_9 q_9 => ?_)
  obtain ⟨eN, ⟨o1, o2⟩, hTX, hT0⟩ := q_9
  subst eN
  have hsh3 : S_9 a = some (.inr 1) := by rw [o1 a (by omega), sX_n (by omega)]; exact hsh
  rw [show a + 1 + 2 = a + 3 from rfl]
  refine wn_putF hX hXI fX1_12 rfl rfl rfl ⟨rfl, rfl⟩ hsh3 dX1_init_12 ?_
  refine wa_aload_n hX dX1_init_15 rfl ?_
  refine wa_bipush (v := nI 10) hX dX1_init_16 (by decide) ?_
  refine wa_bipush (v := nI 16) hX dX1_init_18 (by decide) ?_
  refine wn_multi hX hN (nn := 10) (mm := 16) cl1_18 kA_int (by decide) (by decide) (by decide) (by decide) dX1_init_20 (fun cA cI => ?_)
  refine wn_putF hX hXI fX1_20 rfl rfl rfl ⟨rfl, rfl⟩ (by (repeat rw [sX_n (by omega)]); (try rw [sM2_n (by omega)]); exact hsh3) dX1_init_24 ?_
  refine wa_aload_n hX dX1_init_27 rfl ?_
  refine wa_bipush (v := nI 16) hX dX1_init_28 (by decide) ?_
  refine wn_newa hX hN (atype := .int) (nn := 16) (by first | exact Or.inl rfl | exact Or.inr (Or.inl rfl) | exact Or.inr (Or.inr rfl)) kA_int (by decide) (by decide) (by decide) dX1_init_30 (fun cW => ?_)
  rw [show a + 3 + 1 + 10 = a + 14 from rfl]
  refine wn_putF hX hXI fX1_23 rfl rfl rfl ⟨rfl, rfl⟩ (by (repeat rw [sX_n (by omega)]); (try rw [sM2_n (by omega)]); exact hsh3) dX1_init_32 ?_
  refine wa_aload_n hX dX1_init_35 rfl ?_
  refine wa_bipush (v := nI 16) hX dX1_init_36 (by decide) ?_
  refine wn_newa hX hN (atype := .int) (nn := 16) (by first | exact Or.inl rfl | exact Or.inr (Or.inl rfl) | exact Or.inr (Or.inr rfl)) kA_int (by decide) (by decide) (by decide) dX1_init_38 (fun cV => ?_)
  rw [show a + 14 + 1 = a + 15 from rfl]
  refine wn_putF hX hXI fX1_27 rfl rfl rfl ⟨rfl, rfl⟩ (by (repeat rw [sX_n (by omega)]); (try rw [sM2_n (by omega)]); exact hsh3) dX1_init_40 ?_
  refine wa_aload_n hX dX1_init_43 rfl ?_
  refine wa_iconst (v := -1) hX dX1_init_44 (by decide) ?_
  refine wa_putI hX fX1_30 rfl rfl ⟨rfl, rfl⟩ (by (repeat rw [sX_n (by omega)]); (try rw [sM2_n (by omega)]); exact hsh3) dX1_init_45 ?_
  have eI : ∀ x, x < a + 3 → x ≠ a → u2 (uR (uR (iM2 I_9 (a + 3) 10) (a + 14) (fun _ => nI 0)) (a + 15) (fun _ => nI 0)) a 4 (-1) x = I_9 x := fun x hx e => by rw [u2_n e, uR_n (by omega), uR_n (by omega), iM2_n (by omega)]
  have eJ : ∀ x, x < a + 3 → x ≠ a → uJ (uJ (uJ (jR (uJ J_9 a 0 (some (a + 1))) (a + 3) (fun j => if j < 10 then some (a + 3 + 1 + j) else none)) a 1 (some (a + 3))) a 2 (some (a + 14))) a 3 (some (a + 15)) x = J_9 x := fun x hx e => by rw [uJ_n e, uJ_n e, uJ_n e, jR_n (by omega), uJ_n e]
  have eS : ∀ x, x < a + 3 → sX (sX (sM2 S_9 (a + 3) 10 (.inl (cA, .array .int, 10)) (.inl (cI, .int, 16))) (a + 14) (.inl (cW, newarray.typeOf .int, 16))) (a + 15) (.inl (cV, newarray.typeOf .int, 16)) x = S_9 x := fun x hx => by rw [sX_n (by omega), sX_n (by omega), sM2_n (by omega)]
  obtain ⟨t0, t1, ⟨c8, t2⟩⟩ := hTX
  refine hret _ _ _ _ _ _ ⟨rfl, ⟨fun x hx => ?_, fun x hx => ⟨?_, ?_⟩⟩, ⟨?_, ?_, ?_, ?_, uJ_s, ?_, ?_, ⟨c8, ?_⟩, ⟨cA, .array .int, ?_, rfl⟩, fun j hj => ⟨?_, ⟨cI, ?_⟩⟩, ⟨cW, ?_⟩, ⟨cV, sX_s⟩⟩, ⟨⟨by decide, ?_⟩, fun j hj => absurd hj (Nat.not_lt_zero j)⟩⟩ dX1_init_48
  · rw [eS x (by omega), o1 x (by omega), sX_n (by omega)]
  · rw [eI x (by omega) (by omega), (o2 x (by omega)).1, uR_n (by omega)]
  · rw [eJ x (by omega) (by omega), (o2 x (by omega)).2, jR_n (by omega)]
  · rw [eS a (by omega)]; exact hsh3
  · rw [uJ_k (by decide), uJ_k (by decide), uJ_k (by decide), jR_n (by omega)]; exact uJ_s
  · rw [uJ_k (by decide), uJ_k (by decide)]; exact uJ_s
  · rw [uJ_k (by decide)]; exact uJ_s
  · rw [eS _ (by omega)]; exact t0
  · rw [eJ _ (by omega) (by omega)]; exact t1
  · rw [eS _ (by omega)]; exact t2
  · rw [sX_n (by omega), sX_n (by omega)]; exact sM2_s
  · rw [uJ_n (by omega), uJ_n (by omega), uJ_n (by omega), jR_s, if_pos hj]
  · rw [sX_n (by omega), sX_n (by omega)]; exact sM2_i (by omega)
  · rw [sX_n (by omega)]; exact sX_s
  · rw [eI _ (by omega) (by omega)]; exact hT0.1.2

theorem RY.sh {Sh Sh' : SM} {J J' : JM} {r : Nat} (h : RY Sh J r) (hs : ∀ b, r ≤ b → b < r + 16 → Sh' b = Sh b) (hj : ∀ b, r ≤ b → b < r + 16 → J' b = J b) : RY Sh' J' r := by
  obtain ⟨h0, h1, h2, h3, h4, h5, h6, ⟨c1, h7⟩, ⟨c2, t2, h8, h8'⟩, h9, ⟨c3, h10⟩, ⟨c4, h11⟩⟩ := h
  have e0 := hj r (by omega) (by omega)
  exact ⟨by rw [hs r (by omega) (by omega)]; exact h0, by rw [e0]; exact h1, by rw [e0]; exact h2, by rw [e0]; exact h3, by rw [e0]; exact h4, by rw [hs _ (by omega) (by omega)]; exact h5, by rw [hj _ (by omega) (by omega)]; exact h6, ⟨c1, by rw [hs _ (by omega) (by omega)]; exact h7⟩, ⟨c2, t2, by rw [hs _ (by omega) (by omega)]; exact h8, h8'⟩, fun j hj2 => ⟨by rw [hj _ (by omega) (by omega)]; exact (h9 j hj2).1, by
    obtain ⟨c5, h12⟩ := (h9 j hj2).2
    exact ⟨c5, by rw [hs _ (by omega) (by omega)]; exact h12⟩⟩, ⟨c3, by rw [hs _ (by omega) (by omega)]; exact h10⟩, ⟨c4, by rw [hs _ (by omega) (by omega)]; exact h11⟩⟩
set_option maxHeartbeats 4000000 in
set_option maxRecDepth 100000 in
theorem nX6 {l : Launch} {D : va_G} {A : Nat → Prop} {Sh : SM} {J : JM} (I : IM) {a : Nat} (hA : ∀ q, a + 1 ≤ q → A q) (hsh : Sh a = some (.inr 5)) : CtN l D A yX6_init cX6_init 2 3 366 4291 (a + 1) Sh I J [.ref a] (fun N' Sh' I' J' => N' = a + 367 ∧ OLD a Sh I J Sh' I' J' ∧ GV Sh' I' J' a F0S) := by
  refine ct_N (l0 := [(0, .ref a)]) (by decide +kernel) rfl hA (Nat.le_of_ble_eq_true rfl) rfl ?_
  intro X hX hN hXI hret el eD eA
  subst el eD eA
  have hX : XK X RX6 cX6_init 2 3 := hX
  have hc := hN.2.2.1
  have hs := hN.2.2.2
  have lp : ∀ (n i : Nat), i + n = 4 → ∀ (Sh1 : SM) (I1 : IM) (J1 : JM), (∀ x, x ≤ a → Sh1 x = Sh x) → shA Sh1 (a + 59) RX4 4 → (∀ x, x < a → I1 x = I x ∧ J1 x = J x) → (J1 a 0 = some (a + 1) ∧ J1 a 1 = some (a + 59)) → SL Sh1 J1 (a + 1) → SV I1 (a + 1) S0A → (∀ j, j < i → J1 (a + 59) j = some (a + 60 + 58 * j) ∧ SL Sh1 J1 (a + 60 + 58 * j)) → WX X (59 + 58 * i) (671 + 667 * i) (a + 60 + 58 * i) Sh1 I1 J1 25 [(0, .ref a), (1, .int (nI i))] [] := by
    intro n
    induction n with
    | zero =>
      intro i hi Sh1 I1 J1 h1 h2 h3 h4 h5 h6 h7
      obtain rfl : 4 = i := by omega
      have hsh1 : Sh1 a = some (.inr 5) := (h1 a (Nat.le_refl _)).trans hsh
      rw [show a + 60 + 58 * 4 = a + 292 from rfl, show 59 + 58 * 4 = 291 from rfl, show 671 + 667 * 4 = 3339 from rfl]
      refine wa_iload_n hX dX6_init_25 rfl ?_
      refine wa_iconst (v := nI 4) hX dX6_init_26 (by decide) ?_
      refine wa_icmp_ge (tgt := 49) hX dX6_init_27 (by decide) (fun c_27 => ?_) (fun c_27 => absurd (Int32.le_refl _) c_27)
      refine wa_aload_n hX dX6_init_49 rfl ?_
      refine wn_new hX hN (ci := 3) (by decide) cl6_7 kN4 kI4 (by first | omega | decide) (by first | (show _ + 3 ≤ _; omega) | decide) dX6_init_50 ?_
      refine wa_dup hX dX6_init_53 rfl ?_
      refine wn_init hX hN (nX4 _ (a := a + 292) (fun q hq => hA q (by omega)) sX_s) bX4_init rfl iL6_9 (by decide) (by decide) rfl rfl (Nat.le_of_ble_eq_true rfl) dX6_init_54 (by first | omega | decide) (by first | omega | decide) (fun N_54 S_54 I_54 J_54 q_54 => ?_)
      obtain ⟨eN, ⟨o1, o2⟩, hKL, hKV⟩ := q_54
      subst eN
      have hsh3 : S_54 a = some (.inr 5) := by rw [o1 a (by omega), sX_n (by omega)]; exact hsh1
      rw [show a + 292 + 58 = a + 350 from rfl]
      refine wn_putF hX hXI fX6_20 rfl rfl rfl ⟨rfl, rfl⟩ hsh3 dX6_init_57 ?_
      refine wa_aload_n hX dX6_init_60 rfl ?_
      refine wn_new hX hN (ci := 1) (by decide) cl6_23 kN1 kI1 (by first | omega | decide) (by first | (show _ + 5 ≤ _; omega) | decide) dX6_init_61 ?_
      refine wa_dup hX dX6_init_64 rfl ?_
      refine wn_init hX hN (nX1 _ (a := a + 350) (fun q hq => hA q (by omega)) sX_s) bX1_init rfl iL6_25 (by decide) (by decide) rfl rfl (Nat.le_of_ble_eq_true rfl) dX6_init_65 (by first | omega | decide) (by first | omega | decide) (fun N_65 S_65 I_65 J_65 q_65 => ?_)
      obtain ⟨eN, ⟨o3, o4⟩, hRY, hTT⟩ := q_65
      subst eN
      have hsh5 : S_65 a = some (.inr 5) := by rw [o3 a (by omega), sX_n (by omega)]; exact hsh3
      rw [show a + 350 + 16 = a + 366 from rfl]
      refine wn_putF hX hXI fX6_26 rfl rfl rfl ⟨rfl, rfl⟩ hsh5 dX6_init_68 ?_
      refine wa_aload_n hX dX6_init_71 rfl ?_
      refine wa_bipush (v := nI 15) hX dX6_init_72 (by decide) ?_
      refine wn_newa hX hN (atype := .int) (nn := 15) (by first | exact Or.inl rfl | exact Or.inr (Or.inl rfl) | exact Or.inr (Or.inr rfl)) kA_int (by decide) (by decide) (by decide) dX6_init_74 (fun cD => ?_)
      refine wn_putF hX hXI fX6_30 rfl rfl rfl ⟨rfl, rfl⟩ (by rw [sX_n (by omega)]; exact hsh5) dX6_init_76 ?_
      refine wa_aload_n hX dX6_init_79 rfl ?_
      refine wa_iconst (v := nI 0) hX dX6_init_80 (by decide) ?_
      refine wa_putI hX fX6_34 rfl rfl ⟨rfl, rfl⟩ (by rw [sX_n (by omega)]; exact hsh5) dX6_init_81 ?_
      refine wa_aload_n hX dX6_init_84 rfl ?_
      refine wa_iconst (v := nI 0) hX dX6_init_85 (by decide) ?_
      refine wa_putI hX fX6_38 rfl rfl ⟨rfl, rfl⟩ (by rw [sX_n (by omega)]; exact hsh5) dX6_init_86 ?_
      have eS : ∀ x, x < a + 292 → sX S_65 (a + 366) (.inl (cD, newarray.typeOf .int, 15)) x = Sh1 x := fun x hx => by rw [sX_n (by omega), o3 x (by omega), sX_n (by omega), o1 x (by omega), sX_n (by omega)]
      have eJ : ∀ x, x < a + 292 → x ≠ a → uJ (uJ J_65 a 3 (some (a + 350))) a 4 (some (a + 366)) x = J1 x := fun x hx e => by rw [uJ_n e, uJ_n e, (o4 x (by omega)).2, jR_n (by omega), uJ_n e, (o2 x (by omega)).2, jR_n (by omega)]
      have eI : ∀ x, x < a + 292 → x ≠ a → u2 (u2 (uR I_65 (a + 366) (fun _ => nI 0)) a 5 (nI 0)) a 6 (nI 0) x = I1 x := fun x hx e => by rw [u2_n e, u2_n e, uR_n (by omega), (o4 x (by omega)).1, uR_n (by omega), (o2 x (by omega)).1, uR_n (by omega)]
      have eJa : ∀ k, k ≠ 4 → k ≠ 3 → k ≠ 2 → uJ (uJ J_65 a 3 (some (a + 350))) a 4 (some (a + 366)) a k = J1 a k := fun k k4 k3 k2 => by rw [uJ_k k4, uJ_k k3, (o4 a (by omega)).2, jR_n (by omega), uJ_k k2, (o2 a (by omega)).2, jR_n (by omega)]
      obtain ⟨c9, e9⟩ := h2
      refine hret _ _ _ _ _ _ ⟨rfl, ⟨fun x hx => ?_, fun x hx => ⟨?_, ?_⟩⟩, ⟨⟨?_, ⟨?_, ?_, ?_, ?_, uJ_s⟩, ⟨cD, sX_s⟩, ?_, ?_, ⟨c9, ?_⟩, fun i hi => ?_, ?_⟩, ?_, ⟨Nat.zero_le _, ?_⟩, ⟨fun i => i, ⟨fun i hi => ⟨hi, ?_⟩, fun i j _ _ e => e⟩, fun i hi => absurd hi (Nat.not_lt_zero i)⟩, ⟨u2_s, fun h => by cases h⟩, ?_⟩⟩ dX6_init_89
      · rw [eS x (by omega)]; exact h1 x hx
      · rw [eI x (by omega) (by omega)]; exact (h3 x hx).1
      · rw [eJ x (by omega) (by omega)]; exact (h3 x hx).2
      · rw [sX_n (by omega)]; exact hsh5
      · rw [eJa 0 (by decide) (by decide) (by decide)]; exact h4.1
      · rw [eJa 1 (by decide) (by decide) (by decide)]; exact h4.2
      · rw [uJ_k (by decide), uJ_k (by decide), (o4 a (by omega)).2, jR_n (by omega)]; exact uJ_s
      · rw [uJ_k (by decide)]; exact uJ_s
      · exact h5.cg (fun x q1 q2 => eS x (by omega)) (fun x q1 q2 => eJ x (by omega) (by omega))
      · exact hKL.cg (fun x q1 q2 => by rw [sX_n (by omega), o3 x (by omega), sX_n (by omega)]) (fun x q1 q2 => by rw [uJ_n (by omega), uJ_n (by omega), (o4 x (by omega)).2, jR_n (by omega), uJ_n (by omega)])
      · rw [eS _ (by omega)]; exact e9
      · exact (h7 i hi).2.cg (fun x q1 q2 => eS x (by omega)) (fun x q1 q2 => eJ x (by omega) (by omega))
      · exact hRY.sh (fun x q1 q2 => sX_n (by omega)) (fun x q1 q2 => by rw [uJ_n (by omega), uJ_n (by omega)])
      · exact h6.keep (fun x q1 q2 => eI x (by omega) (by omega))
      · rw [u2_k (by decide)]; exact u2_s
      · rw [eJ _ (by omega) (by omega)]; exact (h7 i hi).1
      · exact ⟨⟨by decide, by rw [u2_n (by omega), u2_n (by omega), uR_n (by omega)]; exact hTT.1.2⟩, fun j hj => absurd hj (Nat.not_lt_zero j)⟩
    | succ n ih =>
      intro i hi Sh1 I1 J1 h1 h2 h3 h4 h5 h6 h7
      have hsh1 : Sh1 a = some (.inr 5) := (h1 a (Nat.le_refl _)).trans hsh
      refine wa_iload_n hX dX6_init_25 rfl ?_
      refine wa_iconst (v := nI 4) hX dX6_init_26 (by decide) ?_
      refine wa_icmp_ge (tgt := 49) hX dX6_init_27 (by decide) (fun c_27 => absurd c_27 (nI_ge (show i < 4 by omega) (by decide))) (fun c_27 => ?_)
      refine wa_aload_n hX dX6_init_30 rfl ?_
      refine wa_getR hX fX6_16 rfl hsh1 h4.2 dX6_init_31 ?_
      refine wa_iload_n hX dX6_init_34 rfl ?_
      refine wn_new hX hN (ci := 3) (by decide) cl6_7 kN4 kI4 (by first | omega | decide) (by first | (show _ + 3 ≤ _; omega) | decide) dX6_init_35 ?_
      refine wa_dup hX dX6_init_38 rfl ?_
      refine wn_init hX hN (nX4 _ (a := a + 60 + 58 * i) (fun q hq => hA q (by omega)) sX_s) bX4_init rfl iL6_9 (by decide) (by decide) rfl rfl (Nat.le_of_ble_eq_true rfl) dX6_init_39 (by first | omega | decide) (by show 671 + 667 * i + 3 + 664 ≤ 4291; omega) (fun N_39 S_39 I_39 J_39 q_39 => ?_)
      obtain ⟨eN, ⟨o1, o2⟩, hSL, hSV⟩ := q_39
      subst eN
      have hcell : shA S_39 (a + 59) RX4 4 := by
        obtain ⟨c9, e9⟩ := h2
        exact ⟨c9, by rw [o1 _ (by omega), sX_n (by omega)]; exact e9⟩
      refine wa_aast (ci := 3) hX hcell (by decide) hSL.1 rfl (show i < 4 by omega) (by decide) dX6_init_42 ?_
      refine wa_iinc hX dX6_init_43 rfl (inc1 _) (by decide) ?_
      refine wa_goto (tgt := 25) hX dX6_init_46 (by decide) ?_
      rw [show 59 + 58 * i + 1 + 57 = 59 + 58 * (i + 1) by omega, show 671 + 667 * i + clN 3 + 664 = 671 + 667 * (i + 1) by show 671 + 667 * i + 3 + 664 = _; omega, show a + 60 + 58 * i + 58 = a + 60 + 58 * (i + 1) by omega]
      refine wx_sub (l' := [(0, _), (1, _)]) ⟨rfl, rfl, trivial⟩ ?_
      refine ih (i + 1) (by omega) _ _ _ (fun x hx => by rw [o1 x (by omega), sX_n (by omega)]; exact h1 x hx) hcell (fun x hx => ⟨by rw [(o2 x (by omega)).1, uR_n (by omega)]; exact (h3 x hx).1, by rw [uJ_n (by omega), (o2 x (by omega)).2, jR_n (by omega)]; exact (h3 x hx).2⟩) (by rw [uJ_n (by omega), (o2 a (by omega)).2, jR_n (by omega)]; exact h4) (h5.cg (fun x q1 q2 => by rw [o1 x (by omega), sX_n (by omega)]) (fun x q1 q2 => by rw [uJ_n (by omega), (o2 x (by omega)).2, jR_n (by omega)])) (h6.keep (fun x q1 q2 => by rw [(o2 x (by omega)).1, uR_n (by omega)])) (fun j hj => ?_)
      by_cases e : j = i
      · subst e
        exact ⟨uJ_s, hSL.cg (fun _ _ _ => rfl) (fun x q1 _ => uJ_n (by omega))⟩
      · obtain ⟨b1, b2⟩ := h7 j (by omega)
        refine ⟨by rw [uJ_k e, (o2 _ (by omega)).2, jR_n (by omega)]; exact b1, b2.cg (fun x q1 q2 => by rw [o1 x (by omega), sX_n (by omega)]) (fun x q1 q2 => by rw [uJ_n (by omega), (o2 x (by omega)).2, jR_n (by omega)])⟩
  refine wa_aload_n hX dX6_init_0 rfl ?_
  refine wn_objInit hX oL6 kOI kOC (by decide) (Nat.le_of_ble_eq_true rfl) dX6_init_1 ?_
  refine wa_aload_n hX dX6_init_4 rfl ?_
  refine wn_new hX hN (ci := 3) (by decide) cl6_7 kN4 kI4 (by first | omega | decide) (by first | (show _ + 3 ≤ _; omega) | decide) dX6_init_5 ?_
  refine wa_dup hX dX6_init_8 rfl ?_
  refine wn_init hX hN (nX4 _ (a := a + 1) (fun q hq => hA q (by omega)) sX_s) bX4_init rfl iL6_9 (by decide) (by decide) rfl rfl (Nat.le_of_ble_eq_true rfl) dX6_init_9 (by first | omega | decide) (by first | omega | decide) (fun N_9 S_9 I_9 J_9 q_9 => ?_)
  obtain ⟨eN, ⟨o1, o2⟩, hSL, hSV⟩ := q_9
  subst eN
  have hsh1 : S_9 a = some (.inr 5) := by rw [o1 a (by omega), sX_n (by omega)]; exact hsh
  rw [show a + 1 + 58 = a + 59 from rfl]
  refine wn_putF hX hXI fX6_10 rfl rfl rfl ⟨rfl, rfl⟩ hsh1 dX6_init_12 ?_
  refine wa_aload_n hX dX6_init_15 rfl ?_
  refine wa_iconst (v := nI 4) hX dX6_init_16 (by decide) ?_
  refine wn_newq hX hN (C := RX4) (nn := 4) hN.2.1.2.1 cl6_7 (by decide) (by decide) (by decide) dX6_init_17 (fun cA => ?_)
  refine wn_putF hX hXI fX6_16 rfl rfl rfl ⟨rfl, rfl⟩ (by rw [sX_n (by omega)]; exact hsh1) dX6_init_20 ?_
  refine wa_iconst (v := nI 0) hX dX6_init_23 (by decide) ?_
  refine wa_istore_n hX dX6_init_24 (by decide) ?_
  refine lp 4 0 rfl _ _ _ (fun x hx => by rw [sX_n (by omega), o1 x (by omega), sX_n (by omega)]) ⟨cA, sX_s⟩ (fun x hx => ⟨by rw [(o2 x (by omega)).1, uR_n (by omega)], by rw [uJ_n (by omega), jR_n (by omega), uJ_n (by omega), (o2 x (by omega)).2, jR_n (by omega)]⟩) ⟨by rw [uJ_k (by decide), jR_n (by omega)]; exact uJ_s, uJ_s⟩ (hSL.cg (fun x q1 q2 => sX_n (by omega)) (fun x q1 q2 => by rw [uJ_n (by omega), jR_n (by omega), uJ_n (by omega)])) hSV (fun j hj => absurd hj (Nat.not_lt_zero j))

set_option maxHeartbeats 4000000 in
set_option maxRecDepth 100000 in
theorem nX7 {l : Launch} {D : va_G} {A : Nat → Prop} {Sh : SM} {J : JM} (I : IM) {a : Nat} (hA : ∀ q, a + 1 ≤ q → A q) (hsh : Sh a = some (.inr 6)) (hI0 : ∀ j, I a j = nI 0) : CtN l D A yX7_init cX7_init 1 1 13 3393 (a + 1) Sh I J [.ref a] (fun N' Sh' I' J' => N' = a + 14 ∧ OLD a Sh I J Sh' I' J' ∧ MV Sh' I' J' a F0S) := by
  refine ct_N (l0 := [(0, .ref a)]) (by decide +kernel) rfl hA (Nat.le_of_ble_eq_true rfl) rfl ?_
  intro X hX hN hXI hret el eD eA
  subst el eD eA
  have hX : XK X RX7 cX7_init 1 1 := hX
  have hc := hN.2.2.1
  have hs := hN.2.2.2
  refine wa_aload_n hX dX7_init_0 rfl ?_
  refine wn_objInit hX oL7 kOI kOC (by decide) (Nat.le_of_ble_eq_true rfl) dX7_init_1 ?_
  refine wa_aload_n hX dX7_init_4 rfl ?_
  refine wa_sipush (v := nI 514) hX dX7_init_5 (by decide) ?_
  refine wn_newa hX hN (atype := .int) (nn := 514) (by first | exact Or.inl rfl | exact Or.inr (Or.inl rfl) | exact Or.inr (Or.inr rfl)) kA_int (by decide) (by decide) (by decide) dX7_init_8 (fun cc0 => ?_)
  refine wn_putF hX hXI fX7_7 rfl rfl rfl ⟨rfl, rfl⟩ (by (repeat rw [sX_n (by omega)]); exact hsh) dX7_init_10 ?_
  refine wa_aload_n hX dX7_init_13 rfl ?_
  refine wa_sipush (v := nI 2056) hX dX7_init_14 (by decide) ?_
  refine wn_newa hX hN (atype := .int) (nn := 2056) (by first | exact Or.inl rfl | exact Or.inr (Or.inl rfl) | exact Or.inr (Or.inr rfl)) kA_int (by decide) (by decide) (by decide) dX7_init_17 (fun cc1 => ?_)
  rw [show a + 1 + 1 = a + 2 from rfl]
  refine wn_putF hX hXI fX7_13 rfl rfl rfl ⟨rfl, rfl⟩ (by (repeat rw [sX_n (by omega)]); exact hsh) dX7_init_19 ?_
  refine wa_aload_n hX dX7_init_22 rfl ?_
  refine wa_sipush (v := nI 514) hX dX7_init_23 (by decide) ?_
  refine wn_newa hX hN (atype := .int) (nn := 514) (by first | exact Or.inl rfl | exact Or.inr (Or.inl rfl) | exact Or.inr (Or.inr rfl)) kA_int (by decide) (by decide) (by decide) dX7_init_26 (fun cc2 => ?_)
  rw [show a + 2 + 1 = a + 3 from rfl]
  refine wn_putF hX hXI fX7_16 rfl rfl rfl ⟨rfl, rfl⟩ (by (repeat rw [sX_n (by omega)]); exact hsh) dX7_init_28 ?_
  refine wa_aload_n hX dX7_init_31 rfl ?_
  refine wa_bipush (v := nI 16) hX dX7_init_32 (by decide) ?_
  refine wn_newa hX hN (atype := .int) (nn := 16) (by first | exact Or.inl rfl | exact Or.inr (Or.inl rfl) | exact Or.inr (Or.inr rfl)) kA_int (by decide) (by decide) (by decide) dX7_init_34 (fun cc3 => ?_)
  rw [show a + 3 + 1 = a + 4 from rfl]
  refine wn_putF hX hXI fX7_19 rfl rfl rfl ⟨rfl, rfl⟩ (by (repeat rw [sX_n (by omega)]); exact hsh) dX7_init_36 ?_
  refine wa_aload_n hX dX7_init_39 rfl ?_
  refine wa_bipush (v := nI 16) hX dX7_init_40 (by decide) ?_
  refine wn_newa hX hN (atype := .int) (nn := 16) (by first | exact Or.inl rfl | exact Or.inr (Or.inl rfl) | exact Or.inr (Or.inr rfl)) kA_int (by decide) (by decide) (by decide) dX7_init_42 (fun cc4 => ?_)
  rw [show a + 4 + 1 = a + 5 from rfl]
  refine wn_putF hX hXI fX7_22 rfl rfl rfl ⟨rfl, rfl⟩ (by (repeat rw [sX_n (by omega)]); exact hsh) dX7_init_44 ?_
  refine wa_aload_n hX dX7_init_47 rfl ?_
  refine wa_bipush (v := nI 60) hX dX7_init_48 (by decide) ?_
  refine wn_newa hX hN (atype := .char) (nn := 60) (by first | exact Or.inl rfl | exact Or.inr (Or.inl rfl) | exact Or.inr (Or.inr rfl)) kA_char (by decide) (by decide) (by decide) dX7_init_50 (fun cc5 => ?_)
  rw [show a + 5 + 1 = a + 6 from rfl]
  refine wn_putF hX hXI fX7_25 rfl rfl rfl ⟨rfl, rfl⟩ (by (repeat rw [sX_n (by omega)]); exact hsh) dX7_init_52 ?_
  refine wa_aload_n hX dX7_init_55 rfl ?_
  refine wa_bipush (v := nI 16) hX dX7_init_56 (by decide) ?_
  refine wn_newa hX hN (atype := .int) (nn := 16) (by first | exact Or.inl rfl | exact Or.inr (Or.inl rfl) | exact Or.inr (Or.inr rfl)) kA_int (by decide) (by decide) (by decide) dX7_init_58 (fun cc6 => ?_)
  rw [show a + 6 + 1 = a + 7 from rfl]
  refine wn_putF hX hXI fX7_29 rfl rfl rfl ⟨rfl, rfl⟩ (by (repeat rw [sX_n (by omega)]); exact hsh) dX7_init_60 ?_
  refine wa_aload_n hX dX7_init_63 rfl ?_
  refine wa_bipush (v := nI 80) hX dX7_init_64 (by decide) ?_
  refine wn_newa hX hN (atype := .int) (nn := 80) (by first | exact Or.inl rfl | exact Or.inr (Or.inl rfl) | exact Or.inr (Or.inr rfl)) kA_int (by decide) (by decide) (by decide) dX7_init_66 (fun cc7 => ?_)
  rw [show a + 7 + 1 = a + 8 from rfl]
  refine wn_putF hX hXI fX7_32 rfl rfl rfl ⟨rfl, rfl⟩ (by (repeat rw [sX_n (by omega)]); exact hsh) dX7_init_68 ?_
  refine wa_aload_n hX dX7_init_71 rfl ?_
  refine wa_iconst (v := nI 5) hX dX7_init_72 (by decide) ?_
  refine wn_newa hX hN (atype := .boolean) (nn := 5) (by first | exact Or.inl rfl | exact Or.inr (Or.inl rfl) | exact Or.inr (Or.inr rfl)) kA_boolean (by decide) (by decide) (by decide) dX7_init_73 (fun cc8 => ?_)
  rw [show a + 8 + 1 = a + 9 from rfl]
  refine wn_putF hX hXI fX7_35 rfl rfl rfl ⟨rfl, rfl⟩ (by (repeat rw [sX_n (by omega)]); exact hsh) dX7_init_75 ?_
  refine wa_aload_n hX dX7_init_78 rfl ?_
  refine wa_bipush (v := nI 80) hX dX7_init_79 (by decide) ?_
  refine wn_newa hX hN (atype := .int) (nn := 80) (by first | exact Or.inl rfl | exact Or.inr (Or.inl rfl) | exact Or.inr (Or.inr rfl)) kA_int (by decide) (by decide) (by decide) dX7_init_81 (fun cc9 => ?_)
  rw [show a + 9 + 1 = a + 10 from rfl]
  refine wn_putF hX hXI fX7_39 rfl rfl rfl ⟨rfl, rfl⟩ (by (repeat rw [sX_n (by omega)]); exact hsh) dX7_init_83 ?_
  refine wa_aload_n hX dX7_init_86 rfl ?_
  refine wa_iconst (v := nI 5) hX dX7_init_87 (by decide) ?_
  refine wn_newa hX hN (atype := .boolean) (nn := 5) (by first | exact Or.inl rfl | exact Or.inr (Or.inl rfl) | exact Or.inr (Or.inr rfl)) kA_boolean (by decide) (by decide) (by decide) dX7_init_88 (fun cc10 => ?_)
  rw [show a + 10 + 1 = a + 11 from rfl]
  refine wn_putF hX hXI fX7_42 rfl rfl rfl ⟨rfl, rfl⟩ (by (repeat rw [sX_n (by omega)]); exact hsh) dX7_init_90 ?_
  refine wa_aload_n hX dX7_init_93 rfl ?_
  refine wa_bipush (v := nI 16) hX dX7_init_94 (by decide) ?_
  refine wn_newa hX hN (atype := .int) (nn := 16) (by first | exact Or.inl rfl | exact Or.inr (Or.inl rfl) | exact Or.inr (Or.inr rfl)) kA_int (by decide) (by decide) (by decide) dX7_init_96 (fun cc11 => ?_)
  rw [show a + 11 + 1 = a + 12 from rfl]
  refine wn_putF hX hXI fX7_45 rfl rfl rfl ⟨rfl, rfl⟩ (by (repeat rw [sX_n (by omega)]); exact hsh) dX7_init_98 ?_
  refine wa_aload_n hX dX7_init_101 rfl ?_
  refine wa_bipush (v := nI 15) hX dX7_init_102 (by decide) ?_
  refine wn_newa hX hN (atype := .int) (nn := 15) (by first | exact Or.inl rfl | exact Or.inr (Or.inl rfl) | exact Or.inr (Or.inr rfl)) kA_int (by decide) (by decide) (by decide) dX7_init_104 (fun cc12 => ?_)
  rw [show a + 12 + 1 = a + 13 from rfl]
  refine wn_putF hX hXI fX7_48 rfl rfl rfl ⟨rfl, rfl⟩ (by (repeat rw [sX_n (by omega)]); exact hsh) dX7_init_106 ?_
  have z1 : ∀ {x : Nat}, (uR (uR (uR (uR (uR (uR (uR (uR (uR (uR (uR (uR (uR I (a + 1) (fun _ => nI 0)) (a + 2) (fun _ => nI 0)) (a + 3) (fun _ => nI 0)) (a + 4) (fun _ => nI 0)) (a + 5) (fun _ => nI 0)) (a + 6) (fun _ => nI 0)) (a + 7) (fun _ => nI 0)) (a + 8) (fun _ => nI 0)) (a + 9) (fun _ => nI 0)) (a + 10) (fun _ => nI 0)) (a + 11) (fun _ => nI 0)) (a + 12) (fun _ => nI 0)) (a + 13) (fun _ => nI 0)) (a + 1) x = nI 0 := fun {x} => by rw [uR_n (by omega), uR_n (by omega), uR_n (by omega), uR_n (by omega), uR_n (by omega), uR_n (by omega), uR_n (by omega), uR_n (by omega), uR_n (by omega), uR_n (by omega), uR_n (by omega), uR_n (by omega), uR_s]
  refine hret _ _ _ _ _ _ ⟨rfl, ⟨fun x hx => ?_, fun x hx => ⟨?_, ?_⟩⟩, ⟨⟨?_, ⟨by rw [uJ_k (by decide), uJ_k (by decide), uJ_k (by decide), uJ_k (by decide), uJ_k (by decide), uJ_k (by decide), uJ_k (by decide), uJ_k (by decide), uJ_k (by decide), uJ_k (by decide), uJ_k (by decide), uJ_k (by decide)]; exact uJ_s, by rw [uJ_k (by decide), uJ_k (by decide), uJ_k (by decide), uJ_k (by decide), uJ_k (by decide), uJ_k (by decide), uJ_k (by decide), uJ_k (by decide), uJ_k (by decide), uJ_k (by decide), uJ_k (by decide)]; exact uJ_s, by rw [uJ_k (by decide), uJ_k (by decide), uJ_k (by decide), uJ_k (by decide), uJ_k (by decide), uJ_k (by decide), uJ_k (by decide), uJ_k (by decide), uJ_k (by decide), uJ_k (by decide)]; exact uJ_s, by rw [uJ_k (by decide), uJ_k (by decide), uJ_k (by decide), uJ_k (by decide), uJ_k (by decide), uJ_k (by decide), uJ_k (by decide), uJ_k (by decide), uJ_k (by decide)]; exact uJ_s, by rw [uJ_k (by decide), uJ_k (by decide), uJ_k (by decide), uJ_k (by decide), uJ_k (by decide), uJ_k (by decide), uJ_k (by decide), uJ_k (by decide)]; exact uJ_s, by rw [uJ_k (by decide), uJ_k (by decide), uJ_k (by decide), uJ_k (by decide), uJ_k (by decide), uJ_k (by decide), uJ_k (by decide)]; exact uJ_s, by rw [uJ_k (by decide), uJ_k (by decide), uJ_k (by decide), uJ_k (by decide), uJ_k (by decide), uJ_k (by decide)]; exact uJ_s, by rw [uJ_k (by decide), uJ_k (by decide), uJ_k (by decide), uJ_k (by decide), uJ_k (by decide)]; exact uJ_s, by rw [uJ_k (by decide), uJ_k (by decide), uJ_k (by decide), uJ_k (by decide)]; exact uJ_s, by rw [uJ_k (by decide), uJ_k (by decide), uJ_k (by decide)]; exact uJ_s, by rw [uJ_k (by decide), uJ_k (by decide)]; exact uJ_s, by rw [uJ_k (by decide)]; exact uJ_s, by exact uJ_s⟩, ⟨⟨cc0, by rw [sX_n (by omega), sX_n (by omega), sX_n (by omega), sX_n (by omega), sX_n (by omega), sX_n (by omega), sX_n (by omega), sX_n (by omega), sX_n (by omega), sX_n (by omega), sX_n (by omega), sX_n (by omega)]; exact sX_s⟩, ⟨cc1, by rw [sX_n (by omega), sX_n (by omega), sX_n (by omega), sX_n (by omega), sX_n (by omega), sX_n (by omega), sX_n (by omega), sX_n (by omega), sX_n (by omega), sX_n (by omega), sX_n (by omega)]; exact sX_s⟩, ⟨cc2, by rw [sX_n (by omega), sX_n (by omega), sX_n (by omega), sX_n (by omega), sX_n (by omega), sX_n (by omega), sX_n (by omega), sX_n (by omega), sX_n (by omega), sX_n (by omega)]; exact sX_s⟩, ⟨cc3, by rw [sX_n (by omega), sX_n (by omega), sX_n (by omega), sX_n (by omega), sX_n (by omega), sX_n (by omega), sX_n (by omega), sX_n (by omega), sX_n (by omega)]; exact sX_s⟩, ⟨cc4, by rw [sX_n (by omega), sX_n (by omega), sX_n (by omega), sX_n (by omega), sX_n (by omega), sX_n (by omega), sX_n (by omega), sX_n (by omega)]; exact sX_s⟩, ⟨cc5, by rw [sX_n (by omega), sX_n (by omega), sX_n (by omega), sX_n (by omega), sX_n (by omega), sX_n (by omega), sX_n (by omega)]; exact sX_s⟩, ⟨cc6, by rw [sX_n (by omega), sX_n (by omega), sX_n (by omega), sX_n (by omega), sX_n (by omega), sX_n (by omega)]; exact sX_s⟩, ⟨cc7, by rw [sX_n (by omega), sX_n (by omega), sX_n (by omega), sX_n (by omega), sX_n (by omega)]; exact sX_s⟩, ⟨cc8, by rw [sX_n (by omega), sX_n (by omega), sX_n (by omega), sX_n (by omega)]; exact sX_s⟩, ⟨cc9, by rw [sX_n (by omega), sX_n (by omega), sX_n (by omega)]; exact sX_s⟩, ⟨cc10, by rw [sX_n (by omega), sX_n (by omega)]; exact sX_s⟩, ⟨cc11, by rw [sX_n (by omega)]; exact sX_s⟩, ⟨cc12, by exact sX_s⟩⟩⟩, ?_, ⟨Nat.zero_le _, ?_⟩, fun i hi => absurd hi (Nat.not_lt_zero i), ⟨?_, fun h => by cases h⟩, ⟨⟨by decide, ?_⟩, fun j hj => absurd hj (Nat.not_lt_zero j)⟩⟩⟩ dX7_init_109
  · rw [sX_n (by omega), sX_n (by omega), sX_n (by omega), sX_n (by omega), sX_n (by omega), sX_n (by omega), sX_n (by omega), sX_n (by omega), sX_n (by omega), sX_n (by omega), sX_n (by omega), sX_n (by omega), sX_n (by omega)]
  · rw [uR_n (by omega), uR_n (by omega), uR_n (by omega), uR_n (by omega), uR_n (by omega), uR_n (by omega), uR_n (by omega), uR_n (by omega), uR_n (by omega), uR_n (by omega), uR_n (by omega), uR_n (by omega), uR_n (by omega)]
  · rw [uJ_n (by omega), uJ_n (by omega), uJ_n (by omega), uJ_n (by omega), uJ_n (by omega), uJ_n (by omega), uJ_n (by omega), uJ_n (by omega), uJ_n (by omega), uJ_n (by omega), uJ_n (by omega), uJ_n (by omega), uJ_n (by omega)]
  · rw [sX_n (by omega), sX_n (by omega), sX_n (by omega), sX_n (by omega), sX_n (by omega), sX_n (by omega), sX_n (by omega), sX_n (by omega), sX_n (by omega), sX_n (by omega), sX_n (by omega), sX_n (by omega), sX_n (by omega)]; exact hsh
  · exact ⟨fun m hm => ⟨⟨Nat.zero_le _, z1⟩, fun l hl => z1, fun l hl k hk => ⟨z1, Nat.zero_le _⟩⟩, ⟨z1, Nat.zero_le _⟩, ⟨z1, Nat.zero_le _⟩, ⟨z1, by decide⟩, z1, fun m hm k hk => ⟨z1, Nat.zero_le _⟩⟩
  · rw [uR_n (by omega), uR_n (by omega), uR_n (by omega), uR_n (by omega), uR_n (by omega), uR_n (by omega), uR_n (by omega), uR_n (by omega), uR_n (by omega), uR_n (by omega), uR_n (by omega), uR_n (by omega), uR_n (by omega)]; exact hI0 2
  · rw [uR_n (by omega), uR_n (by omega), uR_n (by omega), uR_n (by omega), uR_n (by omega), uR_n (by omega), uR_n (by omega), uR_n (by omega), uR_n (by omega), uR_n (by omega), uR_n (by omega), uR_n (by omega), uR_n (by omega)]; exact hI0 4
  · rw [uR_n (by omega), uR_n (by omega), uR_n (by omega), uR_n (by omega), uR_n (by omega), uR_n (by omega), uR_n (by omega), uR_n (by omega), uR_n (by omega), uR_n (by omega), uR_n (by omega), uR_n (by omega), uR_n (by omega)]; exact hI0 7

