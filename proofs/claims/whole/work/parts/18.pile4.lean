/-! Pile: moveLayer, becomeOneLayer, copyFrom -/
def mvF {α : Type} (f : Nat → α) (la pl : Nat) : Nat → α := if la ≤ pl then mvU f la (pl - la) else mvD f la (la - pl)
theorem mvF_u {α : Type} {f : Nat → α} {la pl : Nat} (h : la ≤ pl) : mvF f la pl = mvU f la (pl - la) := if_pos h
theorem mvF_d {α : Type} {f : Nat → α} {la pl : Nat} (h : pl ≤ la) : mvF f la pl = mvD f la (la - pl) := by
  by_cases e : la ≤ pl
  · rw [mvF_u e, show pl - la = 0 by omega, show la - pl = 0 by omega]; rfl
  · exact if_neg e
theorem nI_nle2 {a b : Nat} (h : a < b) (hb : b < 2 ^ 31) : ¬ nI b ≤ nI a := nI_ge h hb
set_option maxHeartbeats 4000000 in
set_option maxRecDepth 100000 in
theorem tX0_moveLayer {l : Launch} {D : va_G} {A : Nat → Prop} {N : Nat} {Sh : SM} {J : JM} (I : IM) {a : Nat} (hP : PL Sh J a) {hg : Nat} {on : Nat → Bool} {en : Nat → Nat → Nat} (hV : PV I a hg on en) {la pl : Nat} (hla : la < 4) (hpl : pl < 4) : CtW l D A yX0_moveLayer cX0_moveLayer 4 1 N Sh I J [.ref a, .int (nI la), .int (nI pl)] (fun I' => PV I' a hg (mvF on la pl) (mvF en la pl) ∧ Fr a 7 I I') := by
  refine ct_V (l0 := [(0, .ref a), (1, .int (nI la)), (2, .int (nI pl))]) (by decide +kernel) (Nat.le_of_ble_eq_true rfl) rfl ?_
  intro X hX hret _ _ _
  have hX : XK X RX0 cX0_moveLayer 4 1 := hX
  obtain ⟨h0, hj0, hj1, hj2, hr, hrow, hz, hv7⟩ := id hP
  have hg4 := hV.1.1
  rcases Nat.lt_or_ge la pl with hlt | hge
  · have lpu : ∀ (n k : Nat), la + k + n = pl → ∀ (I1 : IM), PV I1 a hg (mvU on la k) (mvU en la k) → Fr a 7 I I1 → WX X 0 0 N Sh I1 J 2 [(0, .ref a), (1, .int (nI la)), (2, .int (nI pl)), (3, .int (nI (la + k)))] [] := by
      intro n
      induction n with
      | zero =>
        intro k hk I1 h1 h2
        refine wa_iload_n hX dX0_moveLayer_2 rfl ?_
        refine wa_iload_n hX dX0_moveLayer_3 rfl ?_
        refine wa_icmp_ge (tgt := 18) hX dX0_moveLayer_4 (by decide) (fun c_4 => ?_) (fun c_4 => absurd (by rw [show la + k = pl by omega]; exact Int32.le_refl _) c_4)
        refine wa_iload_n hX dX0_moveLayer_18 rfl ?_
        refine wa_istore_n hX dX0_moveLayer_19 (by decide) ?_
        refine wa_iload_n hX dX0_moveLayer_20 rfl ?_
        refine wa_iload_n hX dX0_moveLayer_21 rfl ?_
        refine wa_icmp_le (tgt := 38) hX dX0_moveLayer_22 (by decide) (fun c_22 => ?_) (fun c_22 => absurd (nI_le (by omega) (by omega)) c_22)
        exact hret _ _ _ _ ⟨by rw [mvF_u (Nat.le_of_lt hlt), mvF_u (Nat.le_of_lt hlt), show pl - la = k by omega]; exact ⟨h1, h2⟩, rfl⟩ dX0_moveLayer_38
      | succ n ih =>
        intro k hk I1 h1 h2
        refine wa_iload_n hX dX0_moveLayer_2 rfl ?_
        refine wa_iload_n hX dX0_moveLayer_3 rfl ?_
        refine wa_icmp_ge (tgt := 18) hX dX0_moveLayer_4 (by decide) (fun c_4 => absurd c_4 (nI_ge (show la + k < pl by omega) (by omega))) (fun c_4 => ?_)
        refine wa_aload_n hX dX0_moveLayer_7 rfl ?_
        refine wa_iload_n hX dX0_moveLayer_8 rfl ?_
        refine wa_vW hX (tX0_swapWithNext _ hP h1 (la := la + k) (by omega)) bX0_swapWithNext mX0_51 (by decide) (by decide) (ci := 0) ⟨by decide, rfl⟩ (by assumption) rfl rfl (Nat.le_of_ble_eq_true rfl) dX0_moveLayer_9 (fun I_9 q_9 => ?_)
        refine wa_iinc hX dX0_moveLayer_12 rfl (inc1 _) (by decide) ?_
        refine wa_goto (tgt := 2) hX dX0_moveLayer_15 (by decide) ?_
        refine wx_sub (l' := [(0, _), (1, _), (2, _), (3, _)]) ⟨rfl, rfl, rfl, rfl, trivial⟩ ?_
        exact ih (k + 1) (by omega) _ q_9.1 (h2.tr q_9.2)
    refine wa_iload_n hX dX0_moveLayer_0 rfl ?_
    refine wa_istore_n hX dX0_moveLayer_1 (by decide) ?_
    refine wx_sub (l' := [(0, _), (1, _), (2, _), (3, _)]) ⟨rfl, rfl, rfl, rfl, trivial⟩ ?_
    exact lpu (pl - la) 0 (by omega) _ hV Fr.rf
  · have lpd : ∀ (n t : Nat), pl + n + t = la → ∀ (I1 : IM), PV I1 a hg (mvD on la t) (mvD en la t) → Fr a 7 I I1 → WX X 0 0 N Sh I1 J 20 [(0, .ref a), (1, .int (nI la)), (2, .int (nI pl)), (3, .int (nI (la - t)))] [] := by
      intro n
      induction n with
      | zero =>
        intro t ht I1 h1 h2
        refine wa_iload_n hX dX0_moveLayer_20 rfl ?_
        refine wa_iload_n hX dX0_moveLayer_21 rfl ?_
        refine wa_icmp_le (tgt := 38) hX dX0_moveLayer_22 (by decide) (fun c_22 => ?_) (fun c_22 => absurd (by rw [show la - t = pl by omega]; exact Int32.le_refl _) c_22)
        exact hret _ _ _ _ ⟨by rw [mvF_d hge, mvF_d hge, show la - pl = t by omega]; exact ⟨h1, h2⟩, rfl⟩ dX0_moveLayer_38
      | succ n ih =>
        intro t ht I1 h1 h2
        refine wa_iload_n hX dX0_moveLayer_20 rfl ?_
        refine wa_iload_n hX dX0_moveLayer_21 rfl ?_
        refine wa_icmp_le (tgt := 38) hX dX0_moveLayer_22 (by decide) (fun c_22 => absurd c_22 (nI_nle2 (show pl < la - t by omega) (by omega))) (fun c_22 => ?_)
        refine wa_aload_n hX dX0_moveLayer_25 rfl ?_
        refine wa_iload_n hX dX0_moveLayer_26 rfl ?_
        refine wa_iconst (v := nI 1) hX dX0_moveLayer_27 (by decide) ?_
        refine wa_isub hX dX0_moveLayer_28 ?_
        have e5 : nI (la - t) - nI 1 = nI (la - t - 1) := pk_sub (show 1 ≤ la - t by omega)
        rw [e5]
        refine wa_vW hX (tX0_swapWithNext _ hP h1 (la := la - t - 1) (by omega)) bX0_swapWithNext mX0_51 (by decide) (by decide) (ci := 0) ⟨by decide, rfl⟩ (by assumption) rfl rfl (Nat.le_of_ble_eq_true rfl) dX0_moveLayer_29 (fun I_29 q_29 => ?_)
        refine wa_iinc hX dX0_moveLayer_32 rfl (show nI (la - t) + Int32.ofInt (-1) = nI (la - (t + 1)) by rw [show la - t = la - (t + 1) + 1 by omega]; exact dec1 _) (by decide) ?_
        refine wa_goto (tgt := 20) hX dX0_moveLayer_35 (by decide) ?_
        refine wx_sub (l' := [(0, _), (1, _), (2, _), (3, _)]) ⟨rfl, rfl, rfl, rfl, trivial⟩ ?_
        exact ih (t + 1) (by omega) _ q_29.1 (h2.tr q_29.2)
    refine wa_iload_n hX dX0_moveLayer_0 rfl ?_
    refine wa_istore_n hX dX0_moveLayer_1 (by decide) ?_
    refine wa_iload_n hX dX0_moveLayer_2 rfl ?_
    refine wa_iload_n hX dX0_moveLayer_3 rfl ?_
    refine wa_icmp_ge (tgt := 18) hX dX0_moveLayer_4 (by decide) (fun c_4 => ?_) (fun c_4 => absurd (nI_le hge (by omega)) c_4)
    refine wa_iload_n hX dX0_moveLayer_18 rfl ?_
    refine wa_istore_n hX dX0_moveLayer_19 (by decide) ?_
    refine wx_sub (l' := [(0, _), (1, _), (2, _), (3, _)]) ⟨rfl, rfl, rfl, rfl, trivial⟩ ?_
    exact lpd (la - pl) 0 (by omega) _ hV Fr.rf

theorem one_en {w : Nat → Nat} : ∀ {n : Nat}, (∀ k, k < n → w k ≤ 16) → cnt (fun k => !decide ((if w k = 16 then 17 else w k) = 17)) n = cnt (fun k => !decide (w k = 16)) n := fun h => cnt_congr (fun k hk => by
  have := h k hk
  by_cases e : w k = 16
  · simp [e]
  · simp [e, show ¬ w k = 17 by omega])
set_option maxHeartbeats 4000000 in
set_option maxRecDepth 100000 in
theorem tX0_becomeOneLayer {l : Launch} {D : va_G} {A : Nat → Prop} {N : Nat} {Sh : SM} {J : JM} (I : IM) {a : Nat} (hP : PL Sh J a) {hg : Nat} {on : Nat → Bool} {en : Nat → Nat → Nat} (hV : PV I a hg on en) {b : Nat} {w : Nat → Nat} (hs : shI Sh b 16) (hb : b < a ∨ a + 7 ≤ b) (hw : ∀ k, k < 16 → I b k = nI (w k) ∧ w k ≤ 16) : CtM l D A yX0_becomeOneLayer cX0_becomeOneLayer 3 FieldType.int 2 N Sh I J [.ref a, .ref b] (fun r I' => r = nI (cnt (fun k => !decide (w k = 16)) 16) ∧ PS I' a 1 (upF on 0 true) (upF en 0 (fun k => if w k = 16 then 17 else w k)) ∧ Fr a 8 I I') := by
  refine ct_I (l0 := [(0, .ref a), (1, .ref b)]) (by decide +kernel) (Nat.le_of_ble_eq_true rfl) rfl (fun _ _ _ _ => rfl) ?_
  intro X hX hret _ _ _
  have hX : XK X RX0 cX0_becomeOneLayer 3 2 := hX
  obtain ⟨h0, hj0, hj1, hj2, hr, hrow, hz, hv7⟩ := id hP
  have hg4 := hV.1.1
  have lp : ∀ (n i : Nat), i + n = 16 → WX X 0 0 N Sh (uR I (a + 2 + 0) (rowN i (fun k => nI (if w k = 16 then 17 else w k)) (I (a + 2 + 0)))) J 2 [(0, .ref a), (1, .ref b), (2, .int (nI i))] [] := by
    intro n
    induction n with
    | zero =>
      intro i  hi
      obtain rfl : 16 = i := by omega
      refine wa_iload_n hX dX0_becomeOneLayer_2 rfl ?_
      refine wa_bipush (v := nI 16) hX dX0_becomeOneLayer_3 (by decide) ?_
      refine wa_icmp_ge (tgt := 38) hX dX0_becomeOneLayer_5 (by decide) (fun c_5 => ?_) (fun c_5 => absurd (Int32.le_refl _) c_5)
      refine wa_aload_n hX dX0_becomeOneLayer_38 rfl ?_
      refine wa_getR hX fX0_16 rfl (by assumption) (by assumption) dX0_becomeOneLayer_39 ?_
      refine wa_iconst (v := nI 0) hX dX0_becomeOneLayer_42 (by decide) ?_
      refine wa_iconst (v := nI 1) hX dX0_becomeOneLayer_43 (by decide) ?_
      refine wa_zast hX (by assumption) rfl (show 0 < 4 by decide) (by decide) dX0_becomeOneLayer_44 ?_
      refine wa_aload_n hX dX0_becomeOneLayer_45 rfl ?_
      refine wa_iconst (v := nI 1) hX dX0_becomeOneLayer_46 (by decide) ?_
      refine wa_putI hX fX0_24 rfl rfl ⟨rfl, rfl⟩ (by assumption) dX0_becomeOneLayer_47 ?_
      have hV1 : PV (u2 (u2 (uR I (a + 2 + 0) (rowN 16 (fun k => nI (if w k = 16 then 17 else w k)) (I (a + 2 + 0)))) (a + 6) 0 (vp_nar .boolean (nI 1))) a 3 (nI 1)) a 1 (upF on 0 true) (upF en 0 (fun k => if w k = 16 then 17 else w k)) := by
        refine ⟨⟨by omega, u2_s⟩, fun l hl => ?_, fun l hl k hk => ?_⟩
        · rw [u2_n (by omega)]
          by_cases e : l = 0
          · subst e; rw [u2_s]; simp [upF, nar_1]
          · rw [u2_k e, uR_n (by omega), hV.2.1 l hl]; simp [upF, e]
        · rw [u2_n (by omega), u2_n (by omega)]
          by_cases e : l = 0
          · subst e; rw [uR_s, rowN_in hk]; exact ⟨by simp [upF], by have := (hw k hk).2; simp only [upF, ↓reduceIte]; split <;> omega⟩
          · rw [uR_n (by omega)]; simp only [upF, if_neg e]; exact hV.2.2 l hl k hk
      have hs1 := settled hV1
      refine wa_aload_n hX dX0_becomeOneLayer_50 rfl ?_
      refine wa_vM hX (tX0_settle _ hP hV1) bX0_settle mX0_44 (by decide) (by decide) (ci := 0) ⟨by decide, rfl⟩ (by assumption) rfl rfl (Nat.le_of_ble_eq_true rfl) dX0_becomeOneLayer_51 (fun r_51 I_51 q_51 => ?_)
      obtain ⟨-, hI⟩ := q_51
      rw [← hI] at hs1
      refine wa_pop hX dX0_becomeOneLayer_54 rfl ?_
      refine wa_aload_n hX dX0_becomeOneLayer_55 rfl ?_
      refine wa_iconst (v := nI 0) hX dX0_becomeOneLayer_56 (by decide) ?_
      refine wa_vP hX (vX0_entriesIn _ hP hs1.1 (show 0 < 4 by decide)) bX0_entriesIn mX0_48 (by decide) (by decide) (ci := 0) ⟨by decide, rfl⟩ (by assumption) rfl rfl (Nat.le_of_ble_eq_true rfl) dX0_becomeOneLayer_57 (fun r_57 q_57 => ?_)
      exact hret _ _ _ _ _ ⟨⟨by rw [q_57, ← one_en (fun k hk => (hw k hk).2)]; simp only [enV, upF, ↓reduceIte], hs1, by rw [hI]; exact Fr.tr (Fr.tr (Fr.tr (Fr.uR (by omega) (by omega)) (Fr.u2 (by omega) (by omega))) (Fr.u2 (Nat.le_refl _) (by omega))) (Fr.uR (by omega) (by omega))⟩, rfl⟩ dX0_becomeOneLayer_60
    | succ n ih =>
      intro i  hi
      have hlt : i < 16 := by omega
      refine wa_iload_n hX dX0_becomeOneLayer_2 rfl ?_
      refine wa_bipush (v := nI 16) hX dX0_becomeOneLayer_3 (by decide) ?_
      refine wa_icmp_ge (tgt := 38) hX dX0_becomeOneLayer_5 (by decide) (fun c_5 => absurd c_5 (nI_ge hlt (by decide))) (fun c_5 => ?_)
      refine wa_aload_n hX dX0_becomeOneLayer_8 rfl ?_
      refine wa_getR hX fX0_11 rfl (by assumption) (by assumption) dX0_becomeOneLayer_9 ?_
      refine wa_iconst (v := nI 0) hX dX0_becomeOneLayer_12 (by decide) ?_
      refine wa_aald hX (by assumption) rfl (show 0 < 4 by decide) (by decide) (hrow 0 (by decide)).1 dX0_becomeOneLayer_13 ?_
      refine wa_iload_n hX dX0_becomeOneLayer_14 rfl ?_
      refine wa_aload_n hX dX0_becomeOneLayer_15 rfl ?_
      refine wa_iload_n hX dX0_becomeOneLayer_16 rfl ?_
      refine wa_iald hX hs rfl (by first | assumption | omega) (by decide) dX0_becomeOneLayer_17 ?_
      rw [uR_n (by omega), (hw i hlt).1]
      refine wa_bipush (v := nI 16) hX dX0_becomeOneLayer_18 (by decide) ?_
      refine wa_icmp_ne (tgt := 28) hX dX0_becomeOneLayer_20 (by decide) (fun c_20 => ?_) (fun c_20 => ?_)
      · skip
        have c1 := ne_of_nI c_20
        refine wa_aload_n hX dX0_becomeOneLayer_28 rfl ?_
        refine wa_iload_n hX dX0_becomeOneLayer_29 rfl ?_
        refine wa_iald hX hs rfl (by first | assumption | omega) (by decide) dX0_becomeOneLayer_30 ?_
        rw [uR_n (by omega), (hw i hlt).1]
        refine wa_iast hX (hrow 0 (by decide)).2 rfl (by first | assumption | omega) (by decide) dX0_becomeOneLayer_31 ?_
        refine wa_iinc hX dX0_becomeOneLayer_32 rfl (inc1 _) (by decide) ?_
        refine wa_goto (tgt := 2) hX dX0_becomeOneLayer_35 (by decide) ?_
        refine wx_sub (l' := [(0, _), (1, _), (2, _)]) ⟨rfl, rfl, rfl, trivial⟩ ?_
        rw [u2_row (by simp [c1])]
        exact ih (i + 1) (by omega)
      · skip
        have c1 := eq_of_nI c_20 (by have := (hw i hlt).2; omega) (by decide)
        refine wa_bipush (v := nI 17) hX dX0_becomeOneLayer_23 (by decide) ?_
        refine wa_goto (tgt := 31) hX dX0_becomeOneLayer_25 (by decide) ?_
        refine wa_iast hX (hrow 0 (by decide)).2 rfl (by first | assumption | omega) (by decide) dX0_becomeOneLayer_31 ?_
        refine wa_iinc hX dX0_becomeOneLayer_32 rfl (inc1 _) (by decide) ?_
        refine wa_goto (tgt := 2) hX dX0_becomeOneLayer_35 (by decide) ?_
        refine wx_sub (l' := [(0, _), (1, _), (2, _)]) ⟨rfl, rfl, rfl, trivial⟩ ?_
        rw [u2_row (by simp [c1])]
        exact ih (i + 1) (by omega)
  refine wa_iconst (v := nI 0) hX dX0_becomeOneLayer_0 (by decide) ?_
  refine wa_istore_n hX dX0_becomeOneLayer_1 (by decide) ?_
  rw [row_0 (I := I) (a := a + 2 + 0) (g := (fun k => nI (if w k = 16 then 17 else w k)))]
  exact lp 16 0 (by omega)

set_option maxHeartbeats 4000000 in
set_option maxRecDepth 100000 in
theorem tX0_copyFrom {l : Launch} {D : va_G} {A : Nat → Prop} {N : Nat} {Sh : SM} {J : JM} (I : IM) {a b : Nat} (hP : PL Sh J a) (hP2 : PL Sh J b) (hd : b + 8 ≤ a ∨ a + 8 ≤ b) {hg : Nat} {on : Nat → Bool} {en : Nat → Nat → Nat} (hV : PS I b hg on en) : CtW l D A yX0_copyFrom cX0_copyFrom 3 2 N Sh I J [.ref a, .ref b] (fun I' => PS I' a hg on en ∧ Fr a 8 I I') := by
  refine ct_V (l0 := [(0, .ref a), (1, .ref b)]) (by decide +kernel) (Nat.le_of_ble_eq_true rfl) rfl ?_
  intro X hX hret _ _ _
  have hX : XK X RX0 cX0_copyFrom 3 2 := hX
  obtain ⟨h0, hj0, hj1, hj2, hr, hrow, hz, hv7⟩ := id hP
  obtain ⟨g0, gj0, gj1, gj2, gr, grow, gz, gv7⟩ := id hP2
  have lp : ∀ (n i : Nat) (I1 : IM), i + n = 4 → (Fr a 8 I I1) → (∀ l, l < i → I1 (a + 6) l = bI (on l)) → (∀ l, l < i → ∀ k, k < 16 → I1 (a + 2 + l) k = nI (en l k) ∧ en l k ≤ 17) → WX X 0 0 N Sh I1 J 2 [(0, .ref a), (1, .ref b), (2, .int (nI i))] [] := by
    intro n
    induction n with
    | zero =>
      intro i I1 hi hF h1 h2
      obtain rfl : 4 = i := by omega
      refine wa_iload_n hX dX0_copyFrom_2 rfl ?_
      refine wa_iconst (v := nI 4) hX dX0_copyFrom_3 (by decide) ?_
      refine wa_icmp_ge (tgt := 40) hX dX0_copyFrom_4 (by decide) (fun c_4 => ?_) (fun c_4 => absurd (Int32.le_refl _) c_4)
      refine wa_aload_n hX dX0_copyFrom_40 rfl ?_
      refine wa_getR hX fX0_20 rfl g0 gj2 dX0_copyFrom_41 ?_
      refine wa_aload_n hX dX0_copyFrom_44 rfl ?_
      refine wa_getR hX fX0_20 rfl h0 hj2 dX0_copyFrom_45 ?_
      refine wa_sW hX (tX2_copy _ gv7 hv7) bX2_copy mX0_34 (by decide) (by decide) rfl rfl (Nat.le_of_ble_eq_true rfl) dX0_copyFrom_48 (fun I_48 q_48 => ?_)
      subst q_48
      refine wa_aload_n hX dX0_copyFrom_51 rfl ?_
      refine wa_aload_n hX dX0_copyFrom_52 rfl ?_
      refine wa_getI hX fX0_24 rfl g0 dX0_copyFrom_53 ?_
      rw [uR_n (b := b) (by omega), hF.n (c := b) (by omega), hV.1.1.2]
      refine wa_putI hX fX0_24 rfl rfl ⟨rfl, rfl⟩ h0 dX0_copyFrom_56 ?_
      refine hret _ _ _ _ ⟨⟨⟨⟨⟨hV.1.1.1, u2_s⟩, fun l hl => ?_, fun l hl k hk => ?_⟩, fun k hk => ?_⟩, ?_⟩, rfl⟩ dX0_copyFrom_59
      · rw [u2_n (by omega), uR_n (by omega)]; exact h1 l hl
      · rw [u2_n (by omega), uR_n (by omega)]; exact h2 l hl k hk
      · rw [u2_n (by omega), uR_s, hF.n (by omega)]; exact hV.2 k hk
      · exact hF.tr (Fr.tr (Fr.uR (by omega) (by omega)) (Fr.u2 (Nat.le_refl _) (by omega)))
    | succ n ih =>
      intro i I1 hi hF h1 h2
      have hlt : i < 4 := by omega
      refine wa_iload_n hX dX0_copyFrom_2 rfl ?_
      refine wa_iconst (v := nI 4) hX dX0_copyFrom_3 (by decide) ?_
      refine wa_icmp_ge (tgt := 40) hX dX0_copyFrom_4 (by decide) (fun c_4 => absurd c_4 (nI_ge hlt (by decide))) (fun c_4 => ?_)
      refine wa_aload_n hX dX0_copyFrom_7 rfl ?_
      refine wa_getR hX fX0_11 rfl g0 gj0 dX0_copyFrom_8 ?_
      refine wa_iload_n hX dX0_copyFrom_11 rfl ?_
      refine wa_aald hX gr rfl (by first | assumption | omega) (by decide) (grow i hlt).1 dX0_copyFrom_12 ?_
      refine wa_aload_n hX dX0_copyFrom_13 rfl ?_
      refine wa_getR hX fX0_11 rfl h0 hj0 dX0_copyFrom_14 ?_
      refine wa_iload_n hX dX0_copyFrom_17 rfl ?_
      refine wa_aald hX hr rfl (by first | assumption | omega) (by decide) (hrow i hlt).1 dX0_copyFrom_18 ?_
      refine wa_sW hX (tX2_copy _ (grow i hlt).2 (hrow i hlt).2) bX2_copy mX0_34 (by decide) (by decide) rfl rfl (Nat.le_of_ble_eq_true rfl) dX0_copyFrom_19 (fun I_19 q_19 => ?_)
      subst q_19
      refine wa_aload_n hX dX0_copyFrom_22 rfl ?_
      refine wa_getR hX fX0_16 rfl h0 hj1 dX0_copyFrom_23 ?_
      refine wa_iload_n hX dX0_copyFrom_26 rfl ?_
      refine wa_aload_n hX dX0_copyFrom_27 rfl ?_
      refine wa_getR hX fX0_16 rfl g0 gj1 dX0_copyFrom_28 ?_
      refine wa_iload_n hX dX0_copyFrom_31 rfl ?_
      refine wa_zald hX gz rfl (by first | assumption | omega) (by decide) dX0_copyFrom_32 ?_
      rw [uR_n (b := b + 6) (by omega), hF.n (c := b + 6) (by omega), hV.1.2.1 i hlt]
      refine wa_zast hX hz rfl (by first | assumption | omega) (by decide) dX0_copyFrom_33 ?_
      refine wa_iinc hX dX0_copyFrom_34 rfl (inc1 _) (by decide) ?_
      refine wa_goto (tgt := 2) hX dX0_copyFrom_37 (by decide) ?_
      refine wx_sub (l' := [(0, _), (1, _), (2, _)]) ⟨rfl, rfl, rfl, trivial⟩ ?_
      rw [nar_b]
      refine ih (i + 1) _ (by omega) (hF.tr (Fr.tr (Fr.uR (by omega) (by omega)) (Fr.u2 (by omega) (by omega)))) (fun l hl => ?_) (fun l hl k hk => ?_)
      · by_cases e : l = i
        · subst e; rw [u2_s]
        · rw [u2_k e, uR_n (by omega)]; exact h1 l (by omega)
      · rw [u2_n (by omega)]
        by_cases e : l = i
        · subst e; rw [uR_s, hF.n (by omega)]; exact hV.1.2.2 l hlt k hk
        · rw [uR_n (by omega)]; exact h2 l (by omega) k hk
  refine wa_iconst (v := nI 0) hX dX0_copyFrom_0 (by decide) ?_
  refine wa_istore_n hX dX0_copyFrom_1 (by decide) ?_
  exact lp 4 0 _ (by omega) Fr.rf (fun l hl => absurd hl (by omega)) (fun l hl => absurd hl (by omega))

