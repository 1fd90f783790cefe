/-! the text, on both sides -/
def typF (F : FS) (x : Int32) : Int32 × FS := if gL F < 60 then (nI (gL F + 1), (F.1, F.2.1, F.2.2.1, (gL F + 1, upF (gT F) (gL F) (tn x)))) else (-3, F)
def clrF (F : FS) : Int32 × FS := (nI (gL F), (F.1, F.2.1, F.2.2.1, (0, gT F)))
theorem nar_c {c : Nat} (h : c < 65536) : vp_nar .char (nI c) = nI c := by
  unfold vp_nar
  rw [(pk_charN h).1]
set_option maxHeartbeats 4000000 in
set_option maxRecDepth 100000 in
theorem tX7_type {l : Launch} {D : va_G} {A : Nat → Prop} {N : Nat} {Sh : SM} {J : JM} (I : IM) {Q : Nat} {F : FS} (hG : MV Sh I J Q F) {c : Nat} (hc : c < 65536) : CtM l D A yX7_type cX7_type 2 FieldType.int 0 N Sh I J [.ref Q, .int (nI c)] (fun r I' => AM Sh I J Q (typF F (nI c)) r I') := by
  refine ct_I (l0 := [(0, .ref Q), (1, .int (nI c))]) (by decide +kernel) (Nat.le_of_ble_eq_true rfl) rfl (fun _ _ _ _ => rfl) ?_
  intro X hX hret _ _ _
  have hX : XK X RX7 cX7_type 2 0 := hX
  obtain ⟨hM, hV, ⟨hc1, hc2⟩, hp, hkk, hT⟩ := id hG
  obtain ⟨q0, ⟨qj0, qj1, qj3, qj5, qj6, qj8, qj12, qj13, qj14, qj15, qj16, qj18, qj19⟩, ⟨qs1, qs2, qs3, qs4, qs5, qs6, qs7, qs8, qs9, qs10, qs11, qs12, qs13⟩⟩ := id hM
  refine wa_aload_n hX dX7_type_0 rfl ?_
  refine wa_getI hX fX7_131 rfl (by assumption) dX7_type_1 ?_
  rw [hT.1.2]
  refine wa_bipush (v := nI 60) hX dX7_type_4 (by decide) ?_
  refine wa_icmp_ne (tgt := 12) hX dX7_type_6 (by decide) (fun c_6 => ?_) (fun c_6 => ?_)
  · skip
    have c1 : gL F < 60 := by have := ne_of_nI c_6; have := hT.1.1; omega
    refine wa_aload_n hX dX7_type_12 rfl ?_
    refine wa_getR hX fX7_25 rfl (by assumption) (by assumption) dX7_type_13 ?_
    refine wa_aload_n hX dX7_type_16 rfl ?_
    refine wa_getI hX fX7_131 rfl (by assumption) dX7_type_17 ?_
    refine wa_iload_n hX dX7_type_20 rfl ?_
    rw [hT.1.2]
    refine wa_cast hX (by assumption) rfl c1 (by decide) dX7_type_21 ?_
    refine wa_aload_n hX dX7_type_22 rfl ?_
    refine wa_dup hX dX7_type_23 rfl ?_
    refine wa_getI hX fX7_131 rfl (by assumption) dX7_type_24 ?_
    rw [nar_c hc]
    rw [u2_n (b := Q) (by omega), hT.1.2]
    refine wa_iconst (v := nI 1) hX dX7_type_27 (by decide) ?_
    refine wa_iadd hX dX7_type_28 ?_
    rw [show nI (gL F) + nI 1 = nI (gL F + 1) from nI_add _ 1]
    refine wa_putI hX fX7_131 rfl rfl ⟨rfl, rfl⟩ (by assumption) dX7_type_29 ?_
    refine wa_aload_n hX dX7_type_32 rfl ?_
    refine wa_getI hX fX7_131 rfl (by assumption) dX7_type_33 ?_
    refine hret _ _ _ _ _ ⟨?_, rfl⟩ dX7_type_36
    unfold typF
    rw [if_pos c1]
    refine ⟨u2_s, ⟨hM, by rw [u2_n (by omega), u2_n (by omega)]; exact hV, ⟨hc1, by rw [u2_k (by decide), u2_n (by omega)]; exact hc2⟩, fun i hi => by rw [u2_n (by omega), u2_n (by omega)]; exact hp i hi, ⟨by rw [u2_k (by decide), u2_n (by omega)]; exact hkk.1, fun hh => by rw [u2_n (by omega), u2_n (by omega)]; exact hkk.2 hh⟩, ⟨⟨by show gL F + 1 ≤ 60; omega, u2_s⟩, fun j hj => ?_⟩⟩, fun b hb => by rw [u2_n (by omega), u2_n (by omega)]⟩
    have hj : j < gL F + 1 := hj
    rw [u2_n (by omega)]
    show _ = nI (upF (gT F) (gL F) (tn (nI c)) j) ∧ upF (gT F) (gL F) (tn (nI c)) j < 65536
    rw [tn_nI (by omega)]
    by_cases e : j = gL F
    · subst e; rw [u2_s]; exact ⟨by simp [upF], by simp [upF, hc]⟩
    · rw [u2_k e]; simp only [upF, if_neg e]; exact hT.2 j (by omega)
  · skip
    have c1 : ¬ gL F < 60 := by have := eq_of_nI c_6 (by have := hT.1.1; omega) (by decide); omega
    refine wa_bipush (v := -3) hX dX7_type_9 (by decide) ?_
    exact hret _ _ _ _ _ ⟨AM.no hG (c := -3) (by unfold typF; rw [if_neg c1]) rfl, rfl⟩ dX7_type_11

set_option maxHeartbeats 4000000 in
set_option maxRecDepth 100000 in
theorem tX7_clearText {l : Launch} {D : va_G} {A : Nat → Prop} {N : Nat} {Sh : SM} {J : JM} (I : IM) {Q : Nat} {F : FS} (hG : MV Sh I J Q F) : CtM l D A yX7_clearText cX7_clearText 2 FieldType.int 0 N Sh I J [.ref Q] (fun r I' => AM Sh I J Q (clrF F) r I') := by
  refine ct_I (l0 := [(0, .ref Q)]) (by decide +kernel) (Nat.le_of_ble_eq_true rfl) rfl (fun _ _ _ _ => rfl) ?_
  intro X hX hret _ _ _
  have hX : XK X RX7 cX7_clearText 2 0 := hX
  obtain ⟨hM, hV, ⟨hc1, hc2⟩, hp, hkk, hT⟩ := id hG
  obtain ⟨q0, ⟨qj0, qj1, qj3, qj5, qj6, qj8, qj12, qj13, qj14, qj15, qj16, qj18, qj19⟩, ⟨qs1, qs2, qs3, qs4, qs5, qs6, qs7, qs8, qs9, qs10, qs11, qs12, qs13⟩⟩ := id hM
  refine wa_aload_n hX dX7_clearText_0 rfl ?_
  refine wa_getI hX fX7_131 rfl (by assumption) dX7_clearText_1 ?_
  rw [hT.1.2]
  refine wa_istore_n hX dX7_clearText_4 (by decide) ?_
  refine wa_aload_n hX dX7_clearText_5 rfl ?_
  refine wa_iconst (v := nI 0) hX dX7_clearText_6 (by decide) ?_
  refine wa_putI hX fX7_131 rfl rfl ⟨rfl, rfl⟩ (by assumption) dX7_clearText_7 ?_
  refine wa_iload_n hX dX7_clearText_10 rfl ?_
  refine hret _ _ _ _ _ ⟨?_, rfl⟩ dX7_clearText_11
  unfold clrF
  exact ⟨rfl, ⟨hM, by rw [u2_n (by omega)]; exact hV, ⟨hc1, by rw [u2_k (by decide)]; exact hc2⟩, fun i hi => by rw [u2_n (by omega)]; exact hp i hi, ⟨by rw [u2_k (by decide)]; exact hkk.1, fun hh => by rw [u2_n (by omega)]; exact hkk.2 hh⟩, ⟨⟨Nat.zero_le _, u2_s⟩, fun j hj => absurd hj (Nat.not_lt_zero j)⟩⟩, fun b hb => u2_n (by omega)⟩

