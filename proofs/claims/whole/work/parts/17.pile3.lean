/-! Pile: the methods that change it -/
theorem nar_b (b : Bool) : vp_nar .boolean (bI b) = bI b := by cases b <;> rfl
theorem nar_1 : vp_nar .boolean (nI 1) = bI true := rfl
theorem Fr.n {c : Nat} {I I' : IM} {a n : Nat} (h : Fr a n I I') (hc : c < a ∨ a + n ≤ c) : I' c = I c := h c hc
theorem swap_row {I : IM} {r1 r2 i : Nat} {f1 f2 : Nat → Int32} (hne : r1 ≠ r2) : u2 (u2 (uR (uR I r1 (rowN i f2 f1)) r2 (rowN i f1 f2)) r1 i (f2 i)) r2 i (f1 i) = uR (uR I r1 (rowN (i + 1) f2 f1)) r2 (rowN (i + 1) f1 f2) := by
  funext b
  by_cases e2 : b = r2
  · subst e2
    rw [u2_a, u2_n (Ne.symm hne), uR_s, uR_s, rowN_s]
  · rw [u2_n e2, uR_n e2]
    by_cases e1 : b = r1
    · subst e1
      rw [u2_a, uR_n e2, uR_s, uR_s, rowN_s]
    · rw [u2_n e1, uR_n e2, uR_n e1, uR_n e1]
theorem settled {I : IM} {a hg : Nat} {on : Nat → Bool} {en : Nat → Nat → Nat} (hV : PV I a hg on en) : PS (uR I (a + 7) (rowN 16 (fun k => nI (valV hg on en k)) (I (a + 7)))) a hg on en :=
  ⟨hV.keep (fun b h1 h2 => uR_n (by omega)), fun k hk => by rw [uR_s, rowN_in hk]⟩
set_option maxHeartbeats 4000000 in
set_option maxRecDepth 100000 in
theorem tX0_settle {l : Launch} {D : va_G} {A : Nat → Prop} {N : Nat} {Sh : SM} {J : JM} (I : IM) {a : Nat} (hP : PL Sh J a) {hg : Nat} {on : Nat → Bool} {en : Nat → Nat → Nat} (hV : PV I a hg on en) : CtM l D A yX0_settle cX0_settle 5 FieldType.int 1 N Sh I J [.ref a] (fun r I' => r = nI (cnt (fun k => !decide (I (a + 7) k = nI (valV hg on en k))) 16) ∧ I' = (uR I (a + 7) (rowN 16 (fun k => nI (valV hg on en k)) (I (a + 7))))) := by
  refine ct_I (l0 := [(0, .ref a)]) (by decide +kernel) (Nat.le_of_ble_eq_true rfl) rfl (fun _ _ _ _ => rfl) ?_
  intro X hX hret _ _ _
  have hX : XK X RX0 cX0_settle 5 1 := hX
  obtain ⟨h0, hj0, hj1, hj2, hr, hrow, hz, hv7⟩ := id hP
  have hg4 := hV.1.1
  have lp : ∀ (n i : Nat) (x : Int32), i + n = 16 → (x = nI (cnt (fun k => !decide (I (a + 7) k = nI (valV hg on en k))) i)) → WX X 0 0 N Sh (uR I (a + 7) (rowN i (fun k => nI (valV hg on en k)) (I (a + 7)))) J 4 [(0, .ref a), (1, .int x), (2, .int (nI i))] [] := by
    intro n
    induction n with
    | zero =>
      intro i x hi ex
      obtain rfl : 16 = i := by omega
      refine wa_iload_n hX dX0_settle_4 rfl ?_
      refine wa_bipush (v := nI 16) hX dX0_settle_5 (by decide) ?_
      refine wa_icmp_ge (tgt := 64) hX dX0_settle_7 (by decide) (fun c_7 => ?_) (fun c_7 => absurd (Int32.le_refl _) c_7)
      refine wa_iload_n hX dX0_settle_64 rfl ?_
      exact hret _ _ _ _ _ ⟨⟨ex, rfl⟩, rfl⟩ dX0_settle_65
    | succ n ih =>
      intro i x hi ex
      have hlt : i < 16 := by omega
      refine wa_iload_n hX dX0_settle_4 rfl ?_
      refine wa_bipush (v := nI 16) hX dX0_settle_5 (by decide) ?_
      refine wa_icmp_ge (tgt := 64) hX dX0_settle_7 (by decide) (fun c_7 => absurd c_7 (nI_ge hlt (by decide))) (fun c_7 => ?_)
      refine wa_aload_n hX dX0_settle_10 rfl ?_
      refine wa_iload_n hX dX0_settle_11 rfl ?_
      refine wa_vP hX (vX0_tellingLayer _ hP (hV.keep (fun b h1 h2 => uR_n (by omega))) hlt) bX0_tellingLayer mX0_40 (by decide) (by decide) (ci := 0) ⟨by decide, rfl⟩ (by assumption) rfl rfl (Nat.le_of_ble_eq_true rfl) dX0_settle_12 (fun r_12 q_12 => ?_)
      have ht := telV_le hg on en i
      subst q_12
      refine wa_istore_n hX dX0_settle_15 (by decide) ?_
      refine wa_iload_n hX dX0_settle_16 rfl ?_
      refine wa_iconst (v := -1) hX dX0_settle_17 (by decide) ?_
      refine wa_icmp_ne (tgt := 26) hX dX0_settle_18 (by decide) (fun c_18 => ?_) (fun c_18 => ?_)
      · skip
        have c1 : telV hg on en i ≠ 0 := fun e => c_18 ((nI_m1 (by omega)).mpr e)
        have e3 : nI (telV hg on en i) + Int32.ofInt (-1) = nI (telV hg on en i - 1) := by
          obtain ⟨t, e⟩ : ∃ t, telV hg on en i = t + 1 := ⟨telV hg on en i - 1, by omega⟩
          rw [e, dec1, Nat.add_sub_cancel]
        refine wa_aload_n hX dX0_settle_26 rfl ?_
        refine wa_getR hX fX0_11 rfl (by assumption) (by assumption) dX0_settle_27 ?_
        refine wa_iload_n hX dX0_settle_30 rfl ?_
        refine wa_aald hX (by assumption) e3 (show telV hg on en i - 1 < 4 by omega) (by decide) (hrow _ (by omega)).1 dX0_settle_31 ?_
        refine wa_iload_n hX dX0_settle_32 rfl ?_
        refine wa_iald hX (hrow _ (by omega)).2 rfl (by first | assumption | omega) (by decide) dX0_settle_33 ?_
        rw [uR_n (by omega), (hV.2.2 _ (by omega) i hlt).1, show en (telV hg on en i - 1) i = valV hg on en i by simp [valV, c1]]
        refine wa_istore hX dX0_settle_34 (by decide) ?_
        refine wa_aload_n hX dX0_settle_36 rfl ?_
        refine wa_getR hX fX0_20 rfl (by assumption) (by assumption) dX0_settle_37 ?_
        refine wa_iload_n hX dX0_settle_40 rfl ?_
        refine wa_iald hX (by assumption) rfl (by first | assumption | omega) (by decide) dX0_settle_41 ?_
        rw [rd_s]
        refine wa_iload hX dX0_settle_42 rfl ?_
        refine wa_icmp_eq (tgt := 50) hX dX0_settle_44 (by decide) (fun c_44 => ?_) (fun c_44 => ?_)
        · skip
          refine wa_aload_n hX dX0_settle_50 rfl ?_
          refine wa_getR hX fX0_20 rfl (by assumption) (by assumption) dX0_settle_51 ?_
          refine wa_iload_n hX dX0_settle_54 rfl ?_
          refine wa_iload hX dX0_settle_55 rfl ?_
          refine wa_iast hX (by assumption) rfl (by first | assumption | omega) (by decide) dX0_settle_57 ?_
          refine wa_iinc hX dX0_settle_58 rfl (inc1 _) (by decide) ?_
          refine wa_goto (tgt := 4) hX dX0_settle_61 (by decide) ?_
          refine wx_sub (l' := [(0, _), (1, _), (2, _)]) ⟨rfl, rfl, rfl, trivial⟩ ?_
          rw [u2_row rfl]
          exact ih (i + 1) _ (by omega) (by rw [ex]; exact cnt_if (by simp [c_44]))
        · skip
          refine wa_iinc hX dX0_settle_47 rfl rfl (by decide) ?_
          refine wa_aload_n hX dX0_settle_50 rfl ?_
          refine wa_getR hX fX0_20 rfl (by assumption) (by assumption) dX0_settle_51 ?_
          refine wa_iload_n hX dX0_settle_54 rfl ?_
          refine wa_iload hX dX0_settle_55 rfl ?_
          refine wa_iast hX (by assumption) rfl (by first | assumption | omega) (by decide) dX0_settle_57 ?_
          refine wa_iinc hX dX0_settle_58 rfl (inc1 _) (by decide) ?_
          refine wa_goto (tgt := 4) hX dX0_settle_61 (by decide) ?_
          refine wx_sub (l' := [(0, _), (1, _), (2, _)]) ⟨rfl, rfl, rfl, trivial⟩ ?_
          rw [u2_row rfl]
          exact ih (i + 1) _ (by omega) (by rw [ex]; exact cnt_it (by simp [c_44]))
      · skip
        have c1 : telV hg on en i = 0 := (nI_m1 (by omega)).mp c_18
        refine wa_bipush (v := nI 16) hX dX0_settle_21 (by decide) ?_
        refine wa_goto (tgt := 34) hX dX0_settle_23 (by decide) ?_
        rw [show nI 16 = nI (valV hg on en i) by simp [valV, c1]]
        refine wa_istore hX dX0_settle_34 (by decide) ?_
        refine wa_aload_n hX dX0_settle_36 rfl ?_
        refine wa_getR hX fX0_20 rfl (by assumption) (by assumption) dX0_settle_37 ?_
        refine wa_iload_n hX dX0_settle_40 rfl ?_
        refine wa_iald hX (by assumption) rfl (by first | assumption | omega) (by decide) dX0_settle_41 ?_
        rw [rd_s]
        refine wa_iload hX dX0_settle_42 rfl ?_
        refine wa_icmp_eq (tgt := 50) hX dX0_settle_44 (by decide) (fun c_44 => ?_) (fun c_44 => ?_)
        · skip
          refine wa_aload_n hX dX0_settle_50 rfl ?_
          refine wa_getR hX fX0_20 rfl (by assumption) (by assumption) dX0_settle_51 ?_
          refine wa_iload_n hX dX0_settle_54 rfl ?_
          refine wa_iload hX dX0_settle_55 rfl ?_
          refine wa_iast hX (by assumption) rfl (by first | assumption | omega) (by decide) dX0_settle_57 ?_
          refine wa_iinc hX dX0_settle_58 rfl (inc1 _) (by decide) ?_
          refine wa_goto (tgt := 4) hX dX0_settle_61 (by decide) ?_
          refine wx_sub (l' := [(0, _), (1, _), (2, _)]) ⟨rfl, rfl, rfl, trivial⟩ ?_
          rw [u2_row rfl]
          exact ih (i + 1) _ (by omega) (by rw [ex]; exact cnt_if (by simp [c_44]))
        · skip
          refine wa_iinc hX dX0_settle_47 rfl rfl (by decide) ?_
          refine wa_aload_n hX dX0_settle_50 rfl ?_
          refine wa_getR hX fX0_20 rfl (by assumption) (by assumption) dX0_settle_51 ?_
          refine wa_iload_n hX dX0_settle_54 rfl ?_
          refine wa_iload hX dX0_settle_55 rfl ?_
          refine wa_iast hX (by assumption) rfl (by first | assumption | omega) (by decide) dX0_settle_57 ?_
          refine wa_iinc hX dX0_settle_58 rfl (inc1 _) (by decide) ?_
          refine wa_goto (tgt := 4) hX dX0_settle_61 (by decide) ?_
          refine wx_sub (l' := [(0, _), (1, _), (2, _)]) ⟨rfl, rfl, rfl, trivial⟩ ?_
          rw [u2_row rfl]
          exact ih (i + 1) _ (by omega) (by rw [ex]; exact cnt_it (by simp [c_44]))
  refine wa_iconst (v := nI 0) hX dX0_settle_0 (by decide) ?_
  refine wa_istore_n hX dX0_settle_1 (by decide) ?_
  refine wa_iconst (v := nI 0) hX dX0_settle_2 (by decide) ?_
  refine wa_istore_n hX dX0_settle_3 (by decide) ?_
  rw [row_0 (I := I) (a := a + 7) (g := fun k => nI (valV hg on en k))]
  exact lp 16 0 _ (by omega) rfl

set_option maxHeartbeats 4000000 in
set_option maxRecDepth 100000 in
theorem tX0_removeTop {l : Launch} {D : va_G} {A : Nat → Prop} {N : Nat} {Sh : SM} {J : JM} (I : IM) {a : Nat} (hP : PL Sh J a) {hg : Nat} {on : Nat → Bool} {en : Nat → Nat → Nat} (hV : PV I a (hg + 1) on en) : CtM l D A yX0_removeTop cX0_removeTop 1 FieldType.int 2 N Sh I J [.ref a] (fun r I' => r = nI (enV en hg) ∧ PS I' a hg on en ∧ Fr a 8 I I') := by
  refine ct_I (l0 := [(0, .ref a)]) (by decide +kernel) (Nat.le_of_ble_eq_true rfl) rfl (fun _ _ _ _ => rfl) ?_
  intro X hX hret _ _ _
  have hX : XK X RX0 cX0_removeTop 1 2 := hX
  obtain ⟨h0, hj0, hj1, hj2, hr, hrow, hz, hv7⟩ := id hP
  have hg4 := hV.1.1
  refine wa_aload_n hX dX0_removeTop_0 rfl ?_
  refine wa_getI hX fX0_24 rfl (by assumption) dX0_removeTop_1 ?_
  rw [hV.1.2]
  refine wa_if_gt (tgt := 9) hX dX0_removeTop_4 (by decide) (fun c_4 => ?_) (fun c_4 => absurd (nI_lt (show 0 < hg + 1 by omega) (by omega)) c_4)
  refine wa_aload_n hX dX0_removeTop_9 rfl ?_
  refine wa_dup hX dX0_removeTop_10 rfl ?_
  refine wa_getI hX fX0_24 rfl (by assumption) dX0_removeTop_11 ?_
  rw [hV.1.2]
  refine wa_iconst (v := nI 1) hX dX0_removeTop_14 (by decide) ?_
  refine wa_isub hX dX0_removeTop_15 ?_
  rw [show nI (hg + 1) - nI 1 = nI hg from nI_pred hg]
  refine wa_putI hX fX0_24 rfl rfl ⟨rfl, rfl⟩ (by assumption) dX0_removeTop_16 ?_
  have hV1 : PV (u2 I a 3 (nI hg)) a hg on en := ⟨⟨by omega, u2_s⟩, fun l hl => by rw [u2_n (by omega)]; exact hV.2.1 l hl, fun l hl k hk => by rw [u2_n (by omega)]; exact hV.2.2 l hl k hk⟩
  have hs1 := settled hV1
  refine wa_aload_n hX dX0_removeTop_19 rfl ?_
  refine wa_vM hX (tX0_settle _ hP hV1) bX0_settle mX0_44 (by decide) (by decide) (ci := 0) ⟨by decide, rfl⟩ (by assumption) rfl rfl (Nat.le_of_ble_eq_true rfl) dX0_removeTop_20 (fun r_20 I_20 q_20 => ?_)
  obtain ⟨-, hI⟩ := q_20
  rw [← hI] at hs1
  refine wa_pop hX dX0_removeTop_23 rfl ?_
  refine wa_aload_n hX dX0_removeTop_24 rfl ?_
  refine wa_aload_n hX dX0_removeTop_25 rfl ?_
  refine wa_getI hX fX0_24 rfl (by assumption) dX0_removeTop_26 ?_
  rw [hs1.1.1.2]
  refine wa_vP hX (vX0_entriesIn _ hP hs1.1 (show hg < 4 by omega)) bX0_entriesIn mX0_48 (by decide) (by decide) (ci := 0) ⟨by decide, rfl⟩ (by assumption) rfl rfl (Nat.le_of_ble_eq_true rfl) dX0_removeTop_29 (fun r_29 q_29 => ?_)
  exact hret _ _ _ _ _ ⟨⟨q_29, hs1, by rw [hI]; exact Fr.tr (Fr.u2 (Nat.le_refl _) (by omega)) (Fr.uR (by omega) (by omega))⟩, rfl⟩ dX0_removeTop_32

set_option maxHeartbeats 4000000 in
set_option maxRecDepth 100000 in
theorem tX0_addLayer {l : Launch} {D : va_G} {A : Nat → Prop} {N : Nat} {Sh : SM} {J : JM} (I : IM) {a : Nat} (hP : PL Sh J a) {hg : Nat} {on : Nat → Bool} {en : Nat → Nat → Nat} (hV : PV I a hg on en) (hh : hg < 4) {b : Nat} {w : Nat → Nat} (hs : shI Sh b 16) (hb : b < a ∨ a + 7 ≤ b) (hw : ∀ k, k < 16 → I b k = nI (w k) ∧ w k ≤ 17) : CtW l D A yX0_addLayer cX0_addLayer 2 2 N Sh I J [.ref a, .ref b] (fun I' => PS I' a (hg + 1) (upF on hg true) (upF en hg w) ∧ Fr a 8 I I') := by
  refine ct_V (l0 := [(0, .ref a), (1, .ref b)]) (by decide +kernel) (Nat.le_of_ble_eq_true rfl) rfl ?_
  intro X hX hret _ _ _
  have hX : XK X RX0 cX0_addLayer 2 2 := hX
  obtain ⟨h0, hj0, hj1, hj2, hr, hrow, hz, hv7⟩ := id hP
  have hg4 := hV.1.1
  refine wa_aload_n hX dX0_addLayer_0 rfl ?_
  refine wa_getI hX fX0_24 rfl (by assumption) dX0_addLayer_1 ?_
  refine wa_iconst (v := nI 4) hX dX0_addLayer_4 (by decide) ?_
  rw [hV.1.2]
  refine wa_icmp_lt (tgt := 9) hX dX0_addLayer_5 (by decide) (fun c_5 => ?_) (fun c_5 => absurd (nI_lt hh (by decide)) c_5)
  refine wa_aload_n hX dX0_addLayer_9 rfl ?_
  refine wa_aload_n hX dX0_addLayer_10 rfl ?_
  refine wa_getR hX fX0_11 rfl (by assumption) (by assumption) dX0_addLayer_11 ?_
  refine wa_aload_n hX dX0_addLayer_14 rfl ?_
  refine wa_getI hX fX0_24 rfl (by assumption) dX0_addLayer_15 ?_
  rw [hV.1.2]
  refine wa_aald hX (by assumption) rfl hh (by decide) (hrow hg hh).1 dX0_addLayer_18 ?_
  refine wa_sW hX (tX2_copy I hs (hrow hg hh).2) bX2_copy mX0_34 (by decide) (by decide) rfl rfl (Nat.le_of_ble_eq_true rfl) dX0_addLayer_19 (fun I_19 q_19 => ?_)
  subst q_19
  refine wa_aload_n hX dX0_addLayer_22 rfl ?_
  refine wa_getR hX fX0_16 rfl (by assumption) (by assumption) dX0_addLayer_23 ?_
  refine wa_aload_n hX dX0_addLayer_26 rfl ?_
  refine wa_getI hX fX0_24 rfl (by assumption) dX0_addLayer_27 ?_
  rw [uR_n (by omega), hV.1.2]
  refine wa_iconst (v := nI 1) hX dX0_addLayer_30 (by decide) ?_
  refine wa_zast hX (by assumption) rfl hh (by decide) dX0_addLayer_31 ?_
  refine wa_aload_n hX dX0_addLayer_32 rfl ?_
  refine wa_dup hX dX0_addLayer_33 rfl ?_
  refine wa_getI hX fX0_24 rfl (by assumption) dX0_addLayer_34 ?_
  rw [u2_n (by omega), uR_n (by omega), hV.1.2]
  refine wa_iconst (v := nI 1) hX dX0_addLayer_37 (by decide) ?_
  refine wa_iadd hX dX0_addLayer_38 ?_
  rw [show nI hg + nI 1 = nI (hg + 1) from nI_add hg 1]
  refine wa_putI hX fX0_24 rfl rfl ⟨rfl, rfl⟩ (by assumption) dX0_addLayer_39 ?_
  have hV1 : PV (u2 (u2 (uR I (a + 2 + hg) (I b)) (a + 6) hg (vp_nar .boolean (nI 1))) a 3 (nI (hg + 1))) a (hg + 1) (upF on hg true) (upF en hg w) := by
    refine ⟨⟨by omega, u2_s⟩, fun l hl => ?_, fun l hl k hk => ?_⟩
    · rw [u2_n (by omega)]
      by_cases e : l = hg
      · subst e; rw [u2_s]; simp [upF, nar_1]
      · rw [u2_k e, uR_n (by omega), hV.2.1 l hl]; simp [upF, e]
    · rw [u2_n (by omega), u2_n (by omega)]
      by_cases e : l = hg
      · subst e; rw [uR_s]; simp only [upF, ↓reduceIte]; exact hw k hk
      · rw [uR_n (by omega)]; simp only [upF, if_neg e]; exact hV.2.2 l hl k hk
  have hs1 := settled hV1
  refine wa_aload_n hX dX0_addLayer_42 rfl ?_
  refine wa_vM hX (tX0_settle _ hP hV1) bX0_settle mX0_44 (by decide) (by decide) (ci := 0) ⟨by decide, rfl⟩ (by assumption) rfl rfl (Nat.le_of_ble_eq_true rfl) dX0_addLayer_43 (fun r_43 I_43 q_43 => ?_)
  obtain ⟨-, hI⟩ := q_43
  rw [← hI] at hs1
  refine wa_pop hX dX0_addLayer_46 rfl ?_
  exact hret _ _ _ _ ⟨⟨hs1, by rw [hI]; exact Fr.tr (Fr.tr (Fr.tr (Fr.uR (by omega) (by omega)) (Fr.u2 (by omega) (by omega))) (Fr.u2 (Nat.le_refl _) (by omega))) (Fr.uR (by omega) (by omega))⟩, rfl⟩ dX0_addLayer_47

theorem rd_1 {I : IM} {r1 r2 i j : Nat} {f g : Nat → Int32} (hne : r1 ≠ r2) : uR (uR I r1 (rowN i g f)) r2 (rowN j f g) r1 i = f i := by rw [uR_n hne, uR_s, rowN_out (Nat.le_refl i)]
theorem rd_2 {I : IM} {r1 r2 i : Nat} {f g h : Nat → Int32} {v : Int32} {i1 : Nat} (hne : r1 ≠ r2) : u2 (uR (uR I r1 h) r2 (rowN i f g)) r1 i1 v r2 i = g i := by rw [u2_n (Ne.symm hne), uR_s, rowN_out (Nat.le_refl i)]
theorem rd_3 {I : IM} {r2 i : Nat} {f g : Nat → Int32} : uR I r2 (rowN i f g) r2 i = g i := by rw [uR_s, rowN_out (Nat.le_refl i)]
set_option maxHeartbeats 4000000 in
set_option maxRecDepth 100000 in
theorem tX0_swapWithNext {l : Launch} {D : va_G} {A : Nat → Prop} {N : Nat} {Sh : SM} {J : JM} (I : IM) {a : Nat} (hP : PL Sh J a) {hg : Nat} {on : Nat → Bool} {en : Nat → Nat → Nat} (hV : PV I a hg on en) {la : Nat} (hla : la + 1 < 4) : CtW l D A yX0_swapWithNext cX0_swapWithNext 4 0 N Sh I J [.ref a, .int (nI la)] (fun I' => PV I' a hg (swF on la) (swF en la) ∧ Fr a 7 I I') := by
  refine ct_V (l0 := [(0, .ref a), (1, .int (nI la))]) (by decide +kernel) (Nat.le_of_ble_eq_true rfl) rfl ?_
  intro X hX hret _ _ _
  have hX : XK X RX0 cX0_swapWithNext 4 0 := hX
  obtain ⟨h0, hj0, hj1, hj2, hr, hrow, hz, hv7⟩ := id hP
  have hg4 := hV.1.1
  have lp : ∀ (n i : Nat), i + n = 16 → WX X 0 0 N Sh (uR (uR I (a + 2 + la) (rowN i (I (a + 2 + (la + 1))) (I (a + 2 + la)))) (a + 2 + (la + 1)) (rowN i (I (a + 2 + la)) (I (a + 2 + (la + 1))))) J 14 [(0, .ref a), (1, .int (nI la)), (2, .int (nI i))] [] := by
    intro n
    induction n with
    | zero =>
      intro i  hi
      obtain rfl : 16 = i := by omega
      refine wa_iload_n hX dX0_swapWithNext_14 rfl ?_
      refine wa_bipush (v := nI 16) hX dX0_swapWithNext_15 (by decide) ?_
      refine wa_icmp_ge (tgt := 64) hX dX0_swapWithNext_17 (by decide) (fun c_17 => ?_) (fun c_17 => absurd (Int32.le_refl _) c_17)
      refine wa_aload_n hX dX0_swapWithNext_64 rfl ?_
      refine wa_getR hX fX0_16 rfl (by assumption) (by assumption) dX0_swapWithNext_65 ?_
      refine wa_iload_n hX dX0_swapWithNext_68 rfl ?_
      refine wa_zald hX (by assumption) rfl (show la < 4 by omega) (by decide) dX0_swapWithNext_69 ?_
      rw [uR_n (by omega), uR_n (by omega), hV.2.1 la (by omega)]
      refine wa_istore_n hX dX0_swapWithNext_70 (by decide) ?_
      refine wa_aload_n hX dX0_swapWithNext_71 rfl ?_
      refine wa_getR hX fX0_16 rfl (by assumption) (by assumption) dX0_swapWithNext_72 ?_
      refine wa_iload_n hX dX0_swapWithNext_75 rfl ?_
      refine wa_aload_n hX dX0_swapWithNext_76 rfl ?_
      refine wa_getR hX fX0_16 rfl (by assumption) (by assumption) dX0_swapWithNext_77 ?_
      refine wa_iload_n hX dX0_swapWithNext_80 rfl ?_
      refine wa_iconst (v := nI 1) hX dX0_swapWithNext_81 (by decide) ?_
      refine wa_iadd hX dX0_swapWithNext_82 ?_
      refine wa_zald hX (by assumption) (nI_add la 1) hla (by decide) dX0_swapWithNext_83 ?_
      rw [uR_n (by omega), uR_n (by omega), hV.2.1 (la + 1) hla]
      refine wa_zast hX (by assumption) rfl (show la < 4 by omega) (by decide) dX0_swapWithNext_84 ?_
      refine wa_aload_n hX dX0_swapWithNext_85 rfl ?_
      refine wa_getR hX fX0_16 rfl (by assumption) (by assumption) dX0_swapWithNext_86 ?_
      refine wa_iload_n hX dX0_swapWithNext_89 rfl ?_
      refine wa_iconst (v := nI 1) hX dX0_swapWithNext_90 (by decide) ?_
      refine wa_iadd hX dX0_swapWithNext_91 ?_
      refine wa_iload_n hX dX0_swapWithNext_92 rfl ?_
      refine wa_zast hX (by assumption) (nI_add la 1) hla (by decide) dX0_swapWithNext_93 ?_
      rw [nar_b, nar_b]
      refine hret _ _ _ _ ⟨⟨⟨⟨hV.1.1, ?_⟩, fun l hl => ?_, fun l hl k hk => ?_⟩, ?_⟩, rfl⟩ dX0_swapWithNext_94
      · rw [u2_n (by omega), u2_n (by omega), uR_n (by omega), uR_n (by omega)]; exact hV.1.2
      · by_cases e1 : l = la + 1
        · subst e1; rw [u2_s]; simp [swF]
        · rw [u2_k e1]
          by_cases e2 : l = la
          · subst e2; rw [u2_s]; simp [swF]
          · rw [u2_k e2, uR_n (by omega), uR_n (by omega), hV.2.1 l hl]; simp [swF, e1, e2]
      · rw [u2_n (by omega), u2_n (by omega)]
        by_cases e1 : l = la + 1
        · subst e1; rw [uR_s, rowN_in hk]; simp only [swF, Nat.succ_ne_self, ↓reduceIte]; exact hV.2.2 la (by omega) k hk
        · rw [uR_n (by omega)]
          by_cases e2 : l = la
          · subst e2; rw [uR_s, rowN_in hk]; simp only [swF, ↓reduceIte]; exact hV.2.2 (l + 1) hla k hk
          · rw [uR_n (by omega)]; simp only [swF, if_neg e1, if_neg e2]; exact hV.2.2 l hl k hk
      · exact Fr.tr (Fr.tr (Fr.uR (by omega) (by omega)) (Fr.uR (by omega) (by omega))) (Fr.tr (Fr.u2 (by omega) (by omega)) (Fr.u2 (by omega) (by omega)))
    | succ n ih =>
      intro i  hi
      have hlt : i < 16 := by omega
      refine wa_iload_n hX dX0_swapWithNext_14 rfl ?_
      refine wa_bipush (v := nI 16) hX dX0_swapWithNext_15 (by decide) ?_
      refine wa_icmp_ge (tgt := 64) hX dX0_swapWithNext_17 (by decide) (fun c_17 => absurd c_17 (nI_ge hlt (by decide))) (fun c_17 => ?_)
      refine wa_aload_n hX dX0_swapWithNext_20 rfl ?_
      refine wa_getR hX fX0_11 rfl (by assumption) (by assumption) dX0_swapWithNext_21 ?_
      refine wa_iload_n hX dX0_swapWithNext_24 rfl ?_
      refine wa_aald hX (by assumption) rfl (show la < 4 by omega) (by decide) (hrow la (by omega)).1 dX0_swapWithNext_25 ?_
      refine wa_iload_n hX dX0_swapWithNext_26 rfl ?_
      refine wa_iald hX (hrow la (by omega)).2 rfl (by first | assumption | omega) (by decide) dX0_swapWithNext_27 ?_
      rw [rd_1 (by omega)]
      refine wa_istore_n hX dX0_swapWithNext_28 (by decide) ?_
      refine wa_aload_n hX dX0_swapWithNext_29 rfl ?_
      refine wa_getR hX fX0_11 rfl (by assumption) (by assumption) dX0_swapWithNext_30 ?_
      refine wa_iload_n hX dX0_swapWithNext_33 rfl ?_
      refine wa_aald hX (by assumption) rfl (show la < 4 by omega) (by decide) (hrow la (by omega)).1 dX0_swapWithNext_34 ?_
      refine wa_iload_n hX dX0_swapWithNext_35 rfl ?_
      refine wa_aload_n hX dX0_swapWithNext_36 rfl ?_
      refine wa_getR hX fX0_11 rfl (by assumption) (by assumption) dX0_swapWithNext_37 ?_
      refine wa_iload_n hX dX0_swapWithNext_40 rfl ?_
      refine wa_iconst (v := nI 1) hX dX0_swapWithNext_41 (by decide) ?_
      refine wa_iadd hX dX0_swapWithNext_42 ?_
      refine wa_aald hX (by assumption) (nI_add la 1) hla (by decide) (hrow (la + 1) hla).1 dX0_swapWithNext_43 ?_
      refine wa_iload_n hX dX0_swapWithNext_44 rfl ?_
      refine wa_iald hX (hrow (la + 1) hla).2 rfl (by first | assumption | omega) (by decide) dX0_swapWithNext_45 ?_
      rw [rd_3]
      refine wa_iast hX (hrow la (by omega)).2 rfl (by first | assumption | omega) (by decide) dX0_swapWithNext_46 ?_
      refine wa_aload_n hX dX0_swapWithNext_47 rfl ?_
      refine wa_getR hX fX0_11 rfl (by assumption) (by assumption) dX0_swapWithNext_48 ?_
      refine wa_iload_n hX dX0_swapWithNext_51 rfl ?_
      refine wa_iconst (v := nI 1) hX dX0_swapWithNext_52 (by decide) ?_
      refine wa_iadd hX dX0_swapWithNext_53 ?_
      refine wa_aald hX (by assumption) (nI_add la 1) hla (by decide) (hrow (la + 1) hla).1 dX0_swapWithNext_54 ?_
      refine wa_iload_n hX dX0_swapWithNext_55 rfl ?_
      refine wa_iload_n hX dX0_swapWithNext_56 rfl ?_
      refine wa_iast hX (hrow (la + 1) hla).2 rfl (by first | assumption | omega) (by decide) dX0_swapWithNext_57 ?_
      refine wa_iinc hX dX0_swapWithNext_58 rfl (inc1 _) (by decide) ?_
      refine wa_goto (tgt := 14) hX dX0_swapWithNext_61 (by decide) ?_
      refine wx_sub (l' := [(0, _), (1, _), (2, _)]) ⟨rfl, rfl, rfl, trivial⟩ ?_
      rw [swap_row (by omega)]
      exact ih (i + 1) (by omega)
  refine wa_iload_n hX dX0_swapWithNext_0 rfl ?_
  refine wa_if_lt (tgt := 11) hX dX0_swapWithNext_1 (by decide) (fun c_1 => absurd c_1 (nI_pos (by omega))) (fun c_1 => ?_)
  refine wa_iload_n hX dX0_swapWithNext_4 rfl ?_
  refine wa_iconst (v := nI 1) hX dX0_swapWithNext_5 (by decide) ?_
  refine wa_iadd hX dX0_swapWithNext_6 ?_
  refine wa_iconst (v := nI 4) hX dX0_swapWithNext_7 (by decide) ?_
  refine wa_icmp_lt (tgt := 12) hX dX0_swapWithNext_8 (by decide) (fun c_8 => ?_) (fun c_8 => absurd (show nI la + nI 1 < nI 4 by rw [nI_add]; exact nI_lt hla (by decide)) c_8)
  refine wa_iconst (v := nI 0) hX dX0_swapWithNext_12 (by decide) ?_
  refine wa_istore_n hX dX0_swapWithNext_13 (by decide) ?_
  have e0 : I = (uR (uR I (a + 2 + la) (rowN 0 (I (a + 2 + (la + 1))) (I (a + 2 + la)))) (a + 2 + (la + 1)) (rowN 0 (I (a + 2 + la)) (I (a + 2 + (la + 1))))) := by rw [rowN_0, rowN_0, uR_self, uR_self]
  rw [e0]
  exact lp 16 0 (by omega)

