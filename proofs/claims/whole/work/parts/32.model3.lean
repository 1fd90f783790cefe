/-! PileMapsModel: the acts without a text -/
def AM (Sh : SM) (I : IM) (J : JM) (Q : Nat) (p : Int32 × FS) (r : Int32) (I' : IM) : Prop := r = p.1 ∧ MV Sh I' J Q p.2 ∧ ∀ b, b < Q ∨ Q + 14 ≤ b → I' b = I b
theorem AM.no {Sh : SM} {I : IM} {J : JM} {Q : Nat} {F : FS} {c r : Int32} {p : Int32 × FS} (hG : MV Sh I J Q F) (hp : p = (c, F)) (hr : r = c) : AM Sh I J Q p r I := by
  subst hp
  exact ⟨hr, hG, fun _ _ => rfl⟩
theorem MV.now {Sh : SM} {I I' : IM} {J : JM} {Q : Nat} {F : FS} {S : AS} (h : MV Sh I J Q F) (hS : VF (I' (Q + 1)) S) (hk : ∀ b, b = Q ∨ b = Q + 2 ∨ b = Q + 3 ∨ b = Q + 6 → I' b = I b) : MV Sh I' J Q (wN F S) := by
  obtain ⟨hM, hV, ⟨hc1, hc2⟩, hp, hkk, hT⟩ := h
  have e0 := hk Q (by omega)
  have e2 := hk (Q + 2) (by omega)
  have e3 := hk (Q + 3) (by omega)
  have e6 := hk (Q + 6) (by omega)
  exact ⟨hM, hS, ⟨hc1, by rw [e0]; exact hc2⟩, fun i hi => by rw [e2]; exact hp i hi, ⟨by rw [e0]; exact hkk.1, fun hh => by rw [e3]; exact hkk.2 hh⟩, ⟨⟨hT.1.1, by rw [e0]; exact hT.1.2⟩, fun j hj => by rw [e6]; exact hT.2 j hj⟩⟩
theorem aE_sM {S : AS} {m hg : Nat} {on : Nat → Bool} {en : Nat → Nat → Nat} : aE (sM S m hg on en) m = en := if_pos rfl
theorem aO_sM {S : AS} {m hg : Nat} {on : Nat → Bool} {en : Nat → Nat → Nat} : aO (sM S m hg on en) m = on := if_pos rfl
theorem aH_sM {S : AS} {m hg : Nat} {on : Nat → Bool} {en : Nat → Nat → Nat} : aH (sM S m hg on en) m = hg := if_pos rfl
theorem aV_sM {S : AS} {m hg : Nat} {on : Nat → Bool} {en : Nat → Nat → Nat} : aV (sM S m hg on en) m = valV hg on en := by
  unfold aV
  rw [aE_sM, aO_sM, aH_sM]
theorem upF_upF {α : Type} {f : Nat → α} {m : Nat} {x y : α} : upF (upF f m x) m y = upF f m y := by
  funext j
  by_cases e : j = m <;> simp [upF, e]
theorem sM_sM {S : AS} {m h1 h2 : Nat} {o1 o2 : Nat → Bool} {e1 e2 : Nat → Nat → Nat} : sM (sM S m h1 o1 e1) m h2 o2 e2 = sM S m h2 o2 e2 := by
  show ((upF (upF (aH S) m h1) m h2, upF (upF (aO S) m o1) m o2, upF (upF (aE S) m e1) m e2), S.2) = _
  rw [upF_upF, upF_upF, upF_upF]
  rfl
theorem VF.rule {f g : Nat → Int32} {S : AS} (h : VF f S) {r : Nat} (hr : r ≤ 2) (e1 : g 414 = nI r) (e : ∀ x, x ≠ 414 → g x = f x) : VF g (sR S r) := by
  obtain ⟨h1, h2, h3, h4, h5, h6⟩ := h
  exact ⟨fun m hm => ⟨⟨(h1 m hm).1.1, by rw [e _ (by omega)]; exact (h1 m hm).1.2⟩, fun l hl => by rw [e _ (by omega)]; exact (h1 m hm).2.1 l hl, fun l hl k hk => by rw [e _ (by omega)]; exact (h1 m hm).2.2 l hl k hk⟩,
    ⟨e1, hr⟩, by rw [e _ (by omega)]; exact h3, by rw [e _ (by omega)]; exact h4, by rw [e _ (by omega)]; exact h5, fun m hm k hk => by rw [e _ (by omega)]; exact h6 m hm k hk⟩
theorem VF.sec {f g : Nat → Int32} {S : AS} (h : VF f S) {hid sus ask : Nat} {kn : Nat → Nat → Nat} (e : ∀ x, x < 415 → g x = f x) (e1 : g 415 = nI hid ∧ hid ≤ 6) (e2 : g 416 = nI sus ∧ sus < 64) (e3 : g 417 = nI ask) (e4 : ∀ m, m < 6 → ∀ k, k < 16 → g (418 + 16 * m + k) = nI (kn m k) ∧ kn m k ≤ 16) : VF g (sK S hid sus ask kn) := by
  obtain ⟨h1, h2, h3, h4, h5, h6⟩ := h
  exact ⟨fun m hm => ⟨⟨(h1 m hm).1.1, by rw [e _ (by omega)]; exact (h1 m hm).1.2⟩, fun l hl => by rw [e _ (by omega)]; exact (h1 m hm).2.1 l hl, fun l hl k hk => by rw [e _ (by omega)]; exact (h1 m hm).2.2 l hl k hk⟩,
    by rw [e _ (by omega)]; exact h2, e1, e2, e3, e4⟩
set_option maxHeartbeats 4000000 in
set_option maxRecDepth 100000 in
theorem tX7_pop {l : Launch} {D : va_G} {A : Nat → Prop} {N : Nat} {Sh : SM} {J : JM} (I : IM) {Q : Nat} {F : FS} (hG : MV Sh I J Q F) (x : Int32) : CtM l D A yX7_pop cX7_pop 2 FieldType.int 3 N Sh I J [.ref Q, .int x] (fun r I' => AM Sh I J Q (popF F x) r I') := by
  refine ct_I (l0 := [(0, .ref Q), (1, .int x)]) (by decide +kernel) (Nat.le_of_ble_eq_true rfl) rfl (fun _ _ _ _ => rfl) ?_
  intro X hX hret _ _ _
  have hX : XK X RX7 cX7_pop 2 3 := hX
  obtain ⟨hM, hV, ⟨hc1, hc2⟩, hp, hkk, hT⟩ := id hG
  obtain ⟨q0, ⟨qj0, qj1, qj3, qj5, qj6, qj8, qj12, qj13, qj14, qj15, qj16, qj18, qj19⟩, ⟨qs1, qs2, qs3, qs4, qs5, qs6, qs7, qs8, qs9, qs10, qs11, qs12, qs13⟩⟩ := id hM
  refine wa_iload_n hX dX7_pop_0 rfl ?_
  refine wa_sP hX (tX7_noMap I x) bX7_noMap mX7_55 (by decide) (by decide) rfl rfl (Nat.le_of_ble_eq_true rfl) dX7_pop_1 (fun r_1 q_1 => ?_)
  subst q_1
  refine wa_if_eq (tgt := 9) hX dX7_pop_4 (by decide) (fun c_4 => ?_) (fun c_4 => ?_)
  · skip
    have n_4 : inB 6 x = true := by have := bI_0.mp c_4; simpa using this
    obtain ⟨m, hm, em⟩ := inB_t (by decide) n_4
    subst em
    refine wa_aload_n hX dX7_pop_9 rfl ?_
    refine wa_getR hX fX7_7 rfl (by assumption) (by assumption) dX7_pop_10 ?_
    refine wa_sipush (v := nI 408) hX dX7_pop_13 (by decide) ?_
    refine wa_iload_n hX dX7_pop_16 rfl ?_
    refine wa_iadd hX dX7_pop_17 ?_
    refine wa_iald hX (by assumption) (nI_add 408 m) (show 408 + m < 514 by omega) (by decide) dX7_pop_18 ?_
    rw [(hV.1 m hm).1.2]
    refine wa_if_ne (tgt := 25) hX dX7_pop_19 (by decide) (fun c_19 => ?_) (fun c_19 => ?_)
    · skip
      have c1 : aH (gN F) m ≠ 0 := fun e => c_19 (by rw [e]; rfl)
      refine wa_aload_n hX dX7_pop_25 rfl ?_
      refine wa_vW hX (tX7_record I hG) bX7_record mX7_88 (by decide) (by decide) (ci := 6) ⟨by decide, rfl⟩ (by assumption) rfl rfl (Nat.le_of_ble_eq_true rfl) dX7_pop_26 (fun I_26 q_26 => ?_)
      obtain ⟨hG1, hF1, hq1, hn1⟩ := q_26
      have hV1 : VF (I_26 (Q + 1)) (gN F) := hG1.2.1
      refine wa_aload_n hX dX7_pop_29 rfl ?_
      refine wa_getR hX fX7_7 rfl (by assumption) (by assumption) dX7_pop_30 ?_
      refine wa_sipush (v := nI 408) hX dX7_pop_33 (by decide) ?_
      refine wa_iload_n hX dX7_pop_36 rfl ?_
      refine wa_iadd hX dX7_pop_37 ?_
      refine wa_dup2 hX dX7_pop_38 rfl rfl ?_
      refine wa_iald hX (by assumption) (nI_add 408 m) (show 408 + m < 514 by omega) (by decide) dX7_pop_39 ?_
      refine wa_iconst (v := nI 1) hX dX7_pop_40 (by decide) ?_
      refine wa_isub hX dX7_pop_41 ?_
      rw [(hV1.1 m hm).1.2, show nI (aH (gN F) m) - nI 1 = nI (aH (gN F) m - 1) from pk_sub (by omega)]
      refine wa_iast hX (by assumption) (nI_add 408 m) (show 408 + m < 514 by omega) (by decide) dX7_pop_42 ?_
      have h4 := (hV.1 m hm).1.1
      have hW : VF (u2 I_26 (Q + 1) (408 + m) (nI (aH (gN F) m - 1)) (Q + 1)) (sM (gN F) m (aH (gN F) m - 1) (aO (gN F) m) (aE (gN F) m)) := by
        rw [u2_a]
        refine hV1.sM hm (by omega) (if_pos rfl) (fun l hl => ?_) (fun l hl k hk => ?_) (fun x hx n1 n2 n3 => if_neg n1)
        · exact (if_neg (by omega)).trans ((hV1.1 m hm).2.1 l hl)
        · have e9 : upd (I_26 (Q + 1)) (408 + m) (nI (aH (gN F) m - 1)) (16 * (4 * m + l) + k) = I_26 (Q + 1) (16 * (4 * m + l) + k) := if_neg (by omega)
          rw [e9]; exact (hV1.1 m hm).2.2 l hl k hk
      refine wa_aload_n hX dX7_pop_43 rfl ?_
      refine wa_iload_n hX dX7_pop_44 rfl ?_
      refine wa_aload_n hX dX7_pop_45 rfl ?_
      refine wa_getR hX fX7_7 rfl (by assumption) (by assumption) dX7_pop_46 ?_
      refine wa_sipush (v := nI 408) hX dX7_pop_49 (by decide) ?_
      refine wa_iload_n hX dX7_pop_52 rfl ?_
      refine wa_iadd hX dX7_pop_53 ?_
      refine wa_iald hX (by assumption) (nI_add 408 m) (show 408 + m < 514 by omega) (by decide) dX7_pop_54 ?_
      refine wa_iconst (v := nI 0) hX dX7_pop_55 (by decide) ?_
      rw [u2_s]
      refine wa_vP hX (tX7_entries _ hM hW hm (la := aH (gN F) m - 1) (kd := 0) (by omega) (by decide)) bX7_entries mX7_78 (by decide) (by decide) (ci := 6) ⟨by decide, rfl⟩ (by assumption) rfl rfl (Nat.le_of_ble_eq_true rfl) dX7_pop_56 (fun r_56 q_56 => ?_)
      rw [ent_0, aE_sM] at q_56
      refine hret _ _ _ _ _ ⟨?_, rfl⟩ dX7_pop_59
      unfold popF
      rw [onA_in hm (by decide), if_neg c1]
      exact ⟨q_56, hG1.now hW (fun b hb => u2_n (by omega)), fun b hb => (u2_n (by omega)).trans (hF1 b (by omega))⟩
    · skip
      have c1 : aH (gN F) m = 0 := eq_of_nI c_19 (by have := (hV.1 m hm).1.1; omega) (by decide)
      refine wa_bipush (v := -5) hX dX7_pop_22 (by decide) ?_
      exact hret _ _ _ _ _ ⟨AM.no hG (c := -5) (by unfold popF; rw [onA_in hm (by decide), if_pos c1]) rfl, rfl⟩ dX7_pop_24
  · skip
    have n_4 : inB 6 x = false := by have := bI_n0.mp c_4; simpa using this
    refine wa_iconst (v := -1) hX dX7_pop_7 (by decide) ?_
    exact hret _ _ _ _ _ ⟨AM.no hG (c := -1) (by unfold popF; exact onA_out n_4) rfl, rfl⟩ dX7_pop_8

set_option maxHeartbeats 4000000 in
set_option maxRecDepth 100000 in
theorem tX7_turn {l : Launch} {D : va_G} {A : Nat → Prop} {N : Nat} {Sh : SM} {J : JM} (I : IM) {Q : Nat} {F : FS} (hG : MV Sh I J Q F) (x y : Int32) (z : Bool) : CtM l D A yX7_turn cX7_turn 4 FieldType.int 4 N Sh I J [.ref Q, .int x, .int y, .int (bI z)] (fun r I' => AM Sh I J Q (turnF F x y z) r I') := by
  refine ct_I (l0 := [(0, .ref Q), (1, .int x), (2, .int y), (3, .int (bI z))]) (by decide +kernel) (Nat.le_of_ble_eq_true rfl) rfl (fun _ _ _ _ => rfl) ?_
  intro X hX hret _ _ _
  have hX : XK X RX7 cX7_turn 4 4 := hX
  obtain ⟨hM, hV, ⟨hc1, hc2⟩, hp, hkk, hT⟩ := id hG
  obtain ⟨q0, ⟨qj0, qj1, qj3, qj5, qj6, qj8, qj12, qj13, qj14, qj15, qj16, qj18, qj19⟩, ⟨qs1, qs2, qs3, qs4, qs5, qs6, qs7, qs8, qs9, qs10, qs11, qs12, qs13⟩⟩ := id hM
  refine wa_aload_n hX dX7_turn_0 rfl ?_
  refine wa_iload_n hX dX7_turn_1 rfl ?_
  refine wa_iload_n hX dX7_turn_2 rfl ?_
  refine wa_vP hX (tX7_noLayer I hM hV x y) bX7_noLayer mX7_91 (by decide) (by decide) (ci := 6) ⟨by decide, rfl⟩ (by assumption) rfl rfl (Nat.le_of_ble_eq_true rfl) dX7_turn_3 (fun r_3 q_3 => ?_)
  subst q_3
  refine wa_if_eq (tgt := 11) hX dX7_turn_6 (by decide) (fun c_6 => ?_) (fun c_6 => ?_)
  · skip
    have n_6 : layB (gN F) x y = true := by have := bI_0.mp c_6; simpa using this
    obtain ⟨m, la, hm, hla, em, el⟩ := layB_t (fun m hm => (hV.1 m hm).1.1) n_6
    subst em
    subst el
    have h4 := (hV.1 m hm).1.1
    refine wa_aload_n hX dX7_turn_11 rfl ?_
    refine wa_iload_n hX dX7_turn_12 rfl ?_
    refine wa_iload_n hX dX7_turn_13 rfl ?_
    refine wa_vP hX (tX7_isOn I hM hV hm (show la < 4 by omega)) bX7_isOn mX7_63 (by decide) (by decide) (ci := 6) ⟨by decide, rfl⟩ (by assumption) rfl rfl (Nat.le_of_ble_eq_true rfl) dX7_turn_14 (fun r_14 q_14 => ?_)
    subst q_14
    refine wa_iload_n hX dX7_turn_17 rfl ?_
    refine wa_icmp_ne (tgt := 24) hX dX7_turn_18 (by decide) (fun c_18 => ?_) (fun c_18 => ?_)
    · skip
      have c1 : ¬ aO (gN F) m la = z := fun e => c_18 (by rw [e])
      refine wa_aload_n hX dX7_turn_24 rfl ?_
      refine wa_vW hX (tX7_record I hG) bX7_record mX7_88 (by decide) (by decide) (ci := 6) ⟨by decide, rfl⟩ (by assumption) rfl rfl (Nat.le_of_ble_eq_true rfl) dX7_turn_25 (fun I_25 q_25 => ?_)
      obtain ⟨hG1, hF1, hq1, hn1⟩ := q_25
      have hV1 : VF (I_25 (Q + 1)) (gN F) := hG1.2.1
      refine wa_aload_n hX dX7_turn_28 rfl ?_
      refine wa_iload_n hX dX7_turn_29 rfl ?_
      refine wa_vW hX (tX7_remembers _ hM hV1 hm) bX7_remembers mX7_94 (by decide) (by decide) (ci := 6) ⟨by decide, rfl⟩ (by assumption) rfl rfl (Nat.le_of_ble_eq_true rfl) dX7_turn_30 (fun I_30 q_30 => ?_)
      subst q_30
      refine wa_aload_n hX dX7_turn_33 rfl ?_
      refine wa_getR hX fX7_7 rfl (by assumption) (by assumption) dX7_turn_34 ?_
      refine wa_sipush (v := nI 384) hX dX7_turn_37 (by decide) ?_
      refine wa_iconst (v := nI 4) hX dX7_turn_40 (by decide) ?_
      refine wa_iload_n hX dX7_turn_41 rfl ?_
      refine wa_imul hX dX7_turn_42 ?_
      refine wa_iadd hX dX7_turn_43 ?_
      refine wa_iload_n hX dX7_turn_44 rfl ?_
      refine wa_iadd hX dX7_turn_45 ?_
      refine wa_iload_n hX dX7_turn_46 rfl ?_
      refine wa_if_eq (tgt := 54) hX dX7_turn_47 (by decide) (fun c_47 => ?_) (fun c_47 => ?_)
      · skip
        have c2 := bI_0.mp c_47
        refine wa_iconst (v := nI 0) hX dX7_turn_54 (by decide) ?_
        rw [show nI 0 = bI z by rw [c2]; rfl]
        refine wa_iast hX (by assumption) (ixo m la) (show 384 + 4 * m + la < 514 by omega) (by decide) dX7_turn_55 ?_
        have hW : VF (u2 (uR I_25 (Q + 4) (rowN 16 (fun k => nI (aV (gN F) m k)) (I_25 (Q + 4)))) (Q + 1) (384 + 4 * m + la) (bI z) (Q + 1)) (sM (gN F) m (aH (gN F) m) (upF (aO (gN F) m) la z) (aE (gN F) m)) := by
          rw [u2_a, uR_n (by omega)]
          refine hV1.sM hm h4 ((if_neg (by omega)).trans (hV1.1 m hm).1.2) (fun l hl => ?_) (fun l hl k hk => ?_) (fun x hx n1 n2 n3 => if_neg (by omega))
          · by_cases e : l = la
            · subst e; simp only [upF, ↓reduceIte]; exact if_pos rfl
            · have e9 : upd (I_25 (Q + 1)) (384 + 4 * m + la) (bI z) (384 + 4 * m + l) = I_25 (Q + 1) (384 + 4 * m + l) := if_neg (by omega)
              rw [e9]; simp only [upF, if_neg e]; exact (hV1.1 m hm).2.1 l hl
          · have e9 : upd (I_25 (Q + 1)) (384 + 4 * m + la) (bI z) (16 * (4 * m + l) + k) = I_25 (Q + 1) (16 * (4 * m + l) + k) := if_neg (by omega)
            rw [e9]; exact (hV1.1 m hm).2.2 l hl k hk
        refine wa_aload_n hX dX7_turn_56 rfl ?_
        refine wa_iload_n hX dX7_turn_57 rfl ?_
        refine wa_vP hX (tX7_changed _ hM hW (w := aV (gN F) m) hm (fun k hk => ⟨by rw [u2_n (by omega), uR_s, rowN_in hk], hV1.val hm hk⟩)) bX7_changed mX7_98 (by decide) (by decide) (ci := 6) ⟨by decide, rfl⟩ (by assumption) rfl rfl (Nat.le_of_ble_eq_true rfl) dX7_turn_58 (fun r_58 q_58 => ?_)
        rw [aV_sM] at q_58
        refine hret _ _ _ _ _ ⟨?_, rfl⟩ dX7_turn_61
        unfold turnF
        rw [onAL_t hm hla h4, if_neg c1]
        exact ⟨q_58, hG1.now hW (fun b hb => by rw [u2_n (by omega), uR_n (by omega)]), fun b hb => by rw [u2_n (by omega), uR_n (by omega)]; exact hF1 b (by omega)⟩
      · skip
        have c2 := bI_n0.mp c_47
        refine wa_iconst (v := nI 1) hX dX7_turn_50 (by decide) ?_
        refine wa_goto (tgt := 55) hX dX7_turn_51 (by decide) ?_
        rw [show nI 1 = bI z by rw [c2]; rfl]
        refine wa_iast hX (by assumption) (ixo m la) (show 384 + 4 * m + la < 514 by omega) (by decide) dX7_turn_55 ?_
        have hW : VF (u2 (uR I_25 (Q + 4) (rowN 16 (fun k => nI (aV (gN F) m k)) (I_25 (Q + 4)))) (Q + 1) (384 + 4 * m + la) (bI z) (Q + 1)) (sM (gN F) m (aH (gN F) m) (upF (aO (gN F) m) la z) (aE (gN F) m)) := by
          rw [u2_a, uR_n (by omega)]
          refine hV1.sM hm h4 ((if_neg (by omega)).trans (hV1.1 m hm).1.2) (fun l hl => ?_) (fun l hl k hk => ?_) (fun x hx n1 n2 n3 => if_neg (by omega))
          · by_cases e : l = la
            · subst e; simp only [upF, ↓reduceIte]; exact if_pos rfl
            · have e9 : upd (I_25 (Q + 1)) (384 + 4 * m + la) (bI z) (384 + 4 * m + l) = I_25 (Q + 1) (384 + 4 * m + l) := if_neg (by omega)
              rw [e9]; simp only [upF, if_neg e]; exact (hV1.1 m hm).2.1 l hl
          · have e9 : upd (I_25 (Q + 1)) (384 + 4 * m + la) (bI z) (16 * (4 * m + l) + k) = I_25 (Q + 1) (16 * (4 * m + l) + k) := if_neg (by omega)
            rw [e9]; exact (hV1.1 m hm).2.2 l hl k hk
        refine wa_aload_n hX dX7_turn_56 rfl ?_
        refine wa_iload_n hX dX7_turn_57 rfl ?_
        refine wa_vP hX (tX7_changed _ hM hW (w := aV (gN F) m) hm (fun k hk => ⟨by rw [u2_n (by omega), uR_s, rowN_in hk], hV1.val hm hk⟩)) bX7_changed mX7_98 (by decide) (by decide) (ci := 6) ⟨by decide, rfl⟩ (by assumption) rfl rfl (Nat.le_of_ble_eq_true rfl) dX7_turn_58 (fun r_58 q_58 => ?_)
        rw [aV_sM] at q_58
        refine hret _ _ _ _ _ ⟨?_, rfl⟩ dX7_turn_61
        unfold turnF
        rw [onAL_t hm hla h4, if_neg c1]
        exact ⟨q_58, hG1.now hW (fun b hb => by rw [u2_n (by omega), uR_n (by omega)]), fun b hb => by rw [u2_n (by omega), uR_n (by omega)]; exact hF1 b (by omega)⟩
    · skip
      have c1 : aO (gN F) m la = z := bI_eq.mp c_18
      refine wa_bipush (v := -5) hX dX7_turn_21 (by decide) ?_
      exact hret _ _ _ _ _ ⟨AM.no hG (c := -5) (by unfold turnF; rw [onAL_t hm hla h4, if_pos c1]) rfl, rfl⟩ dX7_turn_23
  · skip
    have n_6 : layB (gN F) x y = false := by have := bI_n0.mp c_6; simpa using this
    refine wa_iconst (v := -1) hX dX7_turn_9 (by decide) ?_
    exact hret _ _ _ _ _ ⟨AM.no hG (c := -1) (by unfold turnF; exact onAL_f n_6) rfl, rfl⟩ dX7_turn_10

set_option maxHeartbeats 4000000 in
set_option maxRecDepth 100000 in
theorem tX7_setEntry {l : Launch} {D : va_G} {A : Nat → Prop} {N : Nat} {Sh : SM} {J : JM} (I : IM) {Q : Nat} {F : FS} (hG : MV Sh I J Q F) (x y z w : Int32) : CtM l D A yX7_setEntry cX7_setEntry 6 FieldType.int 3 N Sh I J [.ref Q, .int x, .int y, .int z, .int w] (fun r I' => AM Sh I J Q (setF F x y z w) r I') := by
  refine ct_I (l0 := [(0, .ref Q), (1, .int x), (2, .int y), (3, .int z), (4, .int w)]) (by decide +kernel) (Nat.le_of_ble_eq_true rfl) rfl (fun _ _ _ _ => rfl) ?_
  intro X hX hret _ _ _
  have hX : XK X RX7 cX7_setEntry 6 3 := hX
  obtain ⟨hM, hV, ⟨hc1, hc2⟩, hp, hkk, hT⟩ := id hG
  obtain ⟨q0, ⟨qj0, qj1, qj3, qj5, qj6, qj8, qj12, qj13, qj14, qj15, qj16, qj18, qj19⟩, ⟨qs1, qs2, qs3, qs4, qs5, qs6, qs7, qs8, qs9, qs10, qs11, qs12, qs13⟩⟩ := id hM
  refine wa_aload_n hX dX7_setEntry_0 rfl ?_
  refine wa_iload_n hX dX7_setEntry_1 rfl ?_
  refine wa_iload_n hX dX7_setEntry_2 rfl ?_
  refine wa_vP hX (tX7_noLayer I hM hV x y) bX7_noLayer mX7_91 (by decide) (by decide) (ci := 6) ⟨by decide, rfl⟩ (by assumption) rfl rfl (Nat.le_of_ble_eq_true rfl) dX7_setEntry_3 (fun r_3 q_3 => ?_)
  subst q_3
  refine wa_if_ne (tgt := 16) hX dX7_setEntry_6 (by decide) (fun c_6 => ?_) (fun c_6 => ?_)
  · skip
    have n_6 : layB (gN F) x y = false := by have := bI_n0.mp c_6; simpa using this
    refine wa_iconst (v := -1) hX dX7_setEntry_16 (by decide) ?_
    exact hret _ _ _ _ _ ⟨AM.no hG (c := -1) (by unfold setF; exact onAL_f n_6) rfl, rfl⟩ dX7_setEntry_17
  · skip
    have n_6 : layB (gN F) x y = true := by have := bI_0.mp c_6; simpa using this
    obtain ⟨m, la, hm, hla, em, el⟩ := layB_t (fun m hm => (hV.1 m hm).1.1) n_6
    subst em
    subst el
    have h4 := (hV.1 m hm).1.1
    refine wa_iload_n hX dX7_setEntry_9 rfl ?_
    refine wa_sP hX (tX7_noKey I z) bX7_noKey mX7_106 (by decide) (by decide) rfl rfl (Nat.le_of_ble_eq_true rfl) dX7_setEntry_10 (fun r_10 q_10 => ?_)
    subst q_10
    refine wa_if_eq (tgt := 18) hX dX7_setEntry_13 (by decide) (fun c_13 => ?_) (fun c_13 => ?_)
    · skip
      have n_13 : inB 16 z = true := by have := bI_0.mp c_13; simpa using this
      obtain ⟨k, hk, ek⟩ := inB_t (by decide) n_13
      subst ek
      refine wa_iload hX dX7_setEntry_18 rfl ?_
      refine wa_iconst (v := nI 0) hX dX7_setEntry_20 (by decide) ?_
      refine wa_bipush (v := nI 17) hX dX7_setEntry_21 (by decide) ?_
      refine wa_sP hX (tX7_in I w (nI 0) (nI 17)) bX7_in mX7_51 (by decide) (by decide) rfl rfl (Nat.le_of_ble_eq_true rfl) dX7_setEntry_23 (fun r_23 q_23 => ?_)
      rw [inR_B w (by decide)] at q_23
      subst q_23
      refine wa_if_ne (tgt := 32) hX dX7_setEntry_26 (by decide) (fun c_26 => ?_) (fun c_26 => ?_)
      · skip
        obtain ⟨e0, he0, ee⟩ := inB_t (by decide) (bI_n0.mp c_26)
        subst ee
        refine wa_aload_n hX dX7_setEntry_32 rfl ?_
        refine wa_getR hX fX7_7 rfl (by assumption) (by assumption) dX7_setEntry_33 ?_
        refine wa_iload_n hX dX7_setEntry_36 rfl ?_
        refine wa_iload_n hX dX7_setEntry_37 rfl ?_
        refine wa_iload_n hX dX7_setEntry_38 rfl ?_
        refine wa_sP hX (tX7_cell I m la k) bX7_cell mX7_67 (by decide) (by decide) rfl rfl (Nat.le_of_ble_eq_true rfl) dX7_setEntry_39 (fun r_39 q_39 => ?_)
        subst q_39
        refine wa_iald hX (by assumption) rfl (show 16 * (4 * m + la) + k < 514 by omega) (by decide) dX7_setEntry_42 ?_
        have h5 := (hV.1 m hm).2.2 la (by omega) k hk
        rw [h5.1]
        refine wa_istore hX dX7_setEntry_43 (by decide) ?_
        refine wa_iload hX dX7_setEntry_45 rfl ?_
        refine wa_iload hX dX7_setEntry_47 rfl ?_
        refine wa_icmp_ne (tgt := 55) hX dX7_setEntry_49 (by decide) (fun c_49 => ?_) (fun c_49 => ?_)
        · skip
          have c1 := ne_of_nI c_49
          refine wa_aload_n hX dX7_setEntry_55 rfl ?_
          refine wa_vW hX (tX7_record I hG) bX7_record mX7_88 (by decide) (by decide) (ci := 6) ⟨by decide, rfl⟩ (by assumption) rfl rfl (Nat.le_of_ble_eq_true rfl) dX7_setEntry_56 (fun I_56 q_56 => ?_)
          obtain ⟨hG1, hF1, hq1, hn1⟩ := q_56
          have hV1 : VF (I_56 (Q + 1)) (gN F) := hG1.2.1
          refine wa_aload_n hX dX7_setEntry_59 rfl ?_
          refine wa_getR hX fX7_7 rfl (by assumption) (by assumption) dX7_setEntry_60 ?_
          refine wa_iload_n hX dX7_setEntry_63 rfl ?_
          refine wa_iload_n hX dX7_setEntry_64 rfl ?_
          refine wa_iload_n hX dX7_setEntry_65 rfl ?_
          refine wa_sP hX (tX7_cell _ m la k) bX7_cell mX7_67 (by decide) (by decide) rfl rfl (Nat.le_of_ble_eq_true rfl) dX7_setEntry_66 (fun r_66 q_66 => ?_)
          subst q_66
          refine wa_iload hX dX7_setEntry_69 rfl ?_
          refine wa_iast hX (by assumption) rfl (show 16 * (4 * m + la) + k < 514 by omega) (by decide) dX7_setEntry_71 ?_
          refine wa_iload hX dX7_setEntry_72 rfl ?_
          have hW : VF (u2 I_56 (Q + 1) (16 * (4 * m + la) + k) (nI e0) (Q + 1)) (sM (gN F) m (aH (gN F) m) (aO (gN F) m) (upF (aE (gN F) m) la (upF (aE (gN F) m la) k e0))) := by
            rw [u2_a]
            refine hV1.sM hm h4 ((if_neg (by omega)).trans (hV1.1 m hm).1.2) (fun l hl => (if_neg (by omega)).trans ((hV1.1 m hm).2.1 l hl)) (fun l hl k2 hk2 => ?_) (fun x hx n1 n2 n3 => if_neg (by omega))
            by_cases e : l = la
            · subst e
              by_cases e2 : k2 = k
              · subst e2; have e9 : upd (I_56 (Q + 1)) (16 * (4 * m + l) + k2) (nI e0) (16 * (4 * m + l) + k2) = nI e0 := if_pos rfl
                rw [e9]; exact ⟨by simp [upF], by simp only [upF, ↓reduceIte]; omega⟩
              · have e9 : upd (I_56 (Q + 1)) (16 * (4 * m + l) + k) (nI e0) (16 * (4 * m + l) + k2) = I_56 (Q + 1) (16 * (4 * m + l) + k2) := if_neg (by omega)
                rw [e9]; simp only [upF, ↓reduceIte, if_neg e2]; exact (hV1.1 m hm).2.2 l hl k2 hk2
            · have e9 : upd (I_56 (Q + 1)) (16 * (4 * m + la) + k) (nI e0) (16 * (4 * m + l) + k2) = I_56 (Q + 1) (16 * (4 * m + l) + k2) := if_neg (by omega)
              rw [e9]; simp only [upF, if_neg e]; exact (hV1.1 m hm).2.2 l hl k2 hk2
          refine hret _ _ _ _ _ ⟨?_, rfl⟩ dX7_setEntry_74
          unfold setF
          rw [onAL_t hm hla h4, onA_in hk (by decide), onA_in he0 (by decide), if_neg c1]
          exact ⟨rfl, hG1.now hW (fun b hb => u2_n (by omega)), fun b hb => (u2_n (by omega)).trans (hF1 b (by omega))⟩
        · skip
          have c1 := eq_of_nI c_49 (by omega) (by omega)
          refine wa_bipush (v := -5) hX dX7_setEntry_52 (by decide) ?_
          exact hret _ _ _ _ _ ⟨AM.no hG (c := -5) (by unfold setF; rw [onAL_t hm hla h4, onA_in hk (by decide), onA_in he0 (by decide), if_pos c1]) rfl, rfl⟩ dX7_setEntry_54
      · skip
        have n_26 := bI_0.mp c_26
        refine wa_bipush (v := -2) hX dX7_setEntry_29 (by decide) ?_
        exact hret _ _ _ _ _ ⟨AM.no hG (c := -2) (by unfold setF; rw [onAL_t hm hla h4, onA_in hk (by decide)]; exact onA_out n_26) rfl, rfl⟩ dX7_setEntry_31
    · skip
      have n_13 : inB 16 z = false := by have := bI_n0.mp c_13; simpa using this
      refine wa_iconst (v := -1) hX dX7_setEntry_16 (by decide) ?_
      exact hret _ _ _ _ _ ⟨AM.no hG (c := -1) (by unfold setF; rw [onAL_t hm hla h4]; exact onA_out n_13) rfl, rfl⟩ dX7_setEntry_17

set_option maxHeartbeats 4000000 in
set_option maxRecDepth 100000 in
theorem tX7_flatten {l : Launch} {D : va_G} {A : Nat → Prop} {N : Nat} {Sh : SM} {J : JM} (I : IM) {Q : Nat} {F : FS} (hG : MV Sh I J Q F) (x : Int32) : CtM l D A yX7_flatten cX7_flatten 3 FieldType.int 4 N Sh I J [.ref Q, .int x] (fun r I' => AM Sh I J Q (flatF F x) r I') := by
  refine ct_I (l0 := [(0, .ref Q), (1, .int x)]) (by decide +kernel) (Nat.le_of_ble_eq_true rfl) rfl (fun _ _ _ _ => rfl) ?_
  intro X hX hret _ _ _
  have hX : XK X RX7 cX7_flatten 3 4 := hX
  obtain ⟨hM, hV, ⟨hc1, hc2⟩, hp, hkk, hT⟩ := id hG
  obtain ⟨q0, ⟨qj0, qj1, qj3, qj5, qj6, qj8, qj12, qj13, qj14, qj15, qj16, qj18, qj19⟩, ⟨qs1, qs2, qs3, qs4, qs5, qs6, qs7, qs8, qs9, qs10, qs11, qs12, qs13⟩⟩ := id hM
  refine wa_iload_n hX dX7_flatten_0 rfl ?_
  refine wa_sP hX (tX7_noMap I x) bX7_noMap mX7_55 (by decide) (by decide) rfl rfl (Nat.le_of_ble_eq_true rfl) dX7_flatten_1 (fun r_1 q_1 => ?_)
  subst q_1
  refine wa_if_eq (tgt := 9) hX dX7_flatten_4 (by decide) (fun c_4 => ?_) (fun c_4 => ?_)
  · skip
    have n_4 : inB 6 x = true := by have := bI_0.mp c_4; simpa using this
    obtain ⟨m, hm, em⟩ := inB_t (by decide) n_4
    subst em
    refine wa_aload_n hX dX7_flatten_9 rfl ?_
    refine wa_getR hX fX7_7 rfl (by assumption) (by assumption) dX7_flatten_10 ?_
    refine wa_sipush (v := nI 408) hX dX7_flatten_13 (by decide) ?_
    refine wa_iload_n hX dX7_flatten_16 rfl ?_
    refine wa_iadd hX dX7_flatten_17 ?_
    refine wa_iald hX (by assumption) (nI_add 408 m) (show 408 + m < 514 by omega) (by decide) dX7_flatten_18 ?_
    rw [(hV.1 m hm).1.2]
    have h4 := (hV.1 m hm).1.1
    refine wa_istore_n hX dX7_flatten_19 (by decide) ?_
    refine wa_iload_n hX dX7_flatten_20 rfl ?_
    refine wa_if_eq (tgt := 48) hX dX7_flatten_21 (by decide) (fun c_21 => ?_) (fun c_21 => ?_)
    · skip
      have c1 : aH (gN F) m = 0 := eq_of_nI c_21 (by omega) (by decide)
      have cf : flatV (aH (gN F) m) (aO (gN F) m) (aE (gN F) m) = true := by simp [flatV, c1]
      refine wa_bipush (v := -5) hX dX7_flatten_48 (by decide) ?_
      exact hret _ _ _ _ _ ⟨AM.no hG (c := -5) (by unfold flatF; rw [onA_in hm (by decide), if_pos cf]) rfl, rfl⟩ dX7_flatten_50
    · skip
      have c1 : aH (gN F) m ≠ 0 := fun e => c_21 (by rw [e]; rfl)
      refine wa_iload_n hX dX7_flatten_24 rfl ?_
      refine wa_iconst (v := nI 1) hX dX7_flatten_25 (by decide) ?_
      refine wa_icmp_ne (tgt := 51) hX dX7_flatten_26 (by decide) (fun c_26 => ?_) (fun c_26 => ?_)
      · skip
        have c2 := ne_of_nI c_26
        have cf : flatV (aH (gN F) m) (aO (gN F) m) (aE (gN F) m) = false := by simp [flatV, c1, c2]
        refine wa_aload_n hX dX7_flatten_51 rfl ?_
        refine wa_vW hX (tX7_record I hG) bX7_record mX7_88 (by decide) (by decide) (ci := 6) ⟨by decide, rfl⟩ (by assumption) rfl rfl (Nat.le_of_ble_eq_true rfl) dX7_flatten_52 (fun I_52 q_52 => ?_)
        obtain ⟨hG1, hF1, hq1, hn1⟩ := q_52
        have hV1 : VF (I_52 (Q + 1)) (gN F) := hG1.2.1
        refine wa_aload_n hX dX7_flatten_55 rfl ?_
        refine wa_iload_n hX dX7_flatten_56 rfl ?_
        refine wa_vW hX (tX7_remembers _ hM hV1 hm) bX7_remembers mX7_94 (by decide) (by decide) (ci := 6) ⟨by decide, rfl⟩ (by assumption) rfl rfl (Nat.le_of_ble_eq_true rfl) dX7_flatten_57 (fun I_57 q_57 => ?_)
        subst q_57
        refine wa_aload_n hX dX7_flatten_60 rfl ?_
        refine wa_iload_n hX dX7_flatten_61 rfl ?_
        refine wa_aload_n hX dX7_flatten_62 rfl ?_
        refine wa_getR hX fX7_19 rfl (by assumption) (by assumption) dX7_flatten_63 ?_
        refine wa_vM hX (tX7_becomes _ hM (S := gN F) (by rw [uR_n (by omega)]; exact hV1) hm (b := Q + 4) (w := aV (gN F) m) qs4 (by omega) (fun k hk => ⟨by rw [uR_s, rowN_in hk], hV1.val hm hk⟩)) bX7_becomes mX7_109 (by decide) (by decide) (ci := 6) ⟨by decide, rfl⟩ (by assumption) rfl rfl (Nat.le_of_ble_eq_true rfl) dX7_flatten_66 (fun r_66 I_66 q_66 => ?_)
        obtain ⟨w0, w1, w2⟩ := q_66
        refine hret _ _ _ _ _ ⟨?_, rfl⟩ dX7_flatten_69
        unfold flatF
        rw [onA_in hm (by decide), if_neg (by rw [cf]; decide)]
        exact ⟨w0, hG1.now w1 (fun b hb => by rw [w2.n (by omega), uR_n (by omega)]), fun b hb => by rw [w2.n (by omega), uR_n (by omega)]; exact hF1 b (by omega)⟩
      · skip
        have c2 := eq_of_nI c_26 (by omega) (by decide)
        refine wa_aload_n hX dX7_flatten_29 rfl ?_
        refine wa_iload_n hX dX7_flatten_30 rfl ?_
        refine wa_iconst (v := nI 0) hX dX7_flatten_31 (by decide) ?_
        refine wa_vP hX (tX7_isOn I hM hV hm (show 0 < 4 by decide)) bX7_isOn mX7_63 (by decide) (by decide) (ci := 6) ⟨by decide, rfl⟩ (by assumption) rfl rfl (Nat.le_of_ble_eq_true rfl) dX7_flatten_32 (fun r_32 q_32 => ?_)
        subst q_32
        refine wa_if_eq (tgt := 51) hX dX7_flatten_35 (by decide) (fun c_35 => ?_) (fun c_35 => ?_)
        · skip
          have c3 := bI_0.mp c_35
          have cf : flatV (aH (gN F) m) (aO (gN F) m) (aE (gN F) m) = false := by simp [flatV, c1, c3]
          refine wa_aload_n hX dX7_flatten_51 rfl ?_
          refine wa_vW hX (tX7_record I hG) bX7_record mX7_88 (by decide) (by decide) (ci := 6) ⟨by decide, rfl⟩ (by assumption) rfl rfl (Nat.le_of_ble_eq_true rfl) dX7_flatten_52 (fun I_52 q_52 => ?_)
          obtain ⟨hG1, hF1, hq1, hn1⟩ := q_52
          have hV1 : VF (I_52 (Q + 1)) (gN F) := hG1.2.1
          refine wa_aload_n hX dX7_flatten_55 rfl ?_
          refine wa_iload_n hX dX7_flatten_56 rfl ?_
          refine wa_vW hX (tX7_remembers _ hM hV1 hm) bX7_remembers mX7_94 (by decide) (by decide) (ci := 6) ⟨by decide, rfl⟩ (by assumption) rfl rfl (Nat.le_of_ble_eq_true rfl) dX7_flatten_57 (fun I_57 q_57 => ?_)
          subst q_57
          refine wa_aload_n hX dX7_flatten_60 rfl ?_
          refine wa_iload_n hX dX7_flatten_61 rfl ?_
          refine wa_aload_n hX dX7_flatten_62 rfl ?_
          refine wa_getR hX fX7_19 rfl (by assumption) (by assumption) dX7_flatten_63 ?_
          refine wa_vM hX (tX7_becomes _ hM (S := gN F) (by rw [uR_n (by omega)]; exact hV1) hm (b := Q + 4) (w := aV (gN F) m) qs4 (by omega) (fun k hk => ⟨by rw [uR_s, rowN_in hk], hV1.val hm hk⟩)) bX7_becomes mX7_109 (by decide) (by decide) (ci := 6) ⟨by decide, rfl⟩ (by assumption) rfl rfl (Nat.le_of_ble_eq_true rfl) dX7_flatten_66 (fun r_66 I_66 q_66 => ?_)
          obtain ⟨w0, w1, w2⟩ := q_66
          refine hret _ _ _ _ _ ⟨?_, rfl⟩ dX7_flatten_69
          unfold flatF
          rw [onA_in hm (by decide), if_neg (by rw [cf]; decide)]
          exact ⟨w0, hG1.now w1 (fun b hb => by rw [w2.n (by omega), uR_n (by omega)]), fun b hb => by rw [w2.n (by omega), uR_n (by omega)]; exact hF1 b (by omega)⟩
        · skip
          have c3 := bI_n0.mp c_35
          refine wa_aload_n hX dX7_flatten_38 rfl ?_
          refine wa_iload_n hX dX7_flatten_39 rfl ?_
          refine wa_iconst (v := nI 0) hX dX7_flatten_40 (by decide) ?_
          refine wa_iconst (v := nI 1) hX dX7_flatten_41 (by decide) ?_
          refine wa_vP hX (tX7_entries I hM hV hm (show 0 < 4 by decide) (show 1 ≤ 2 by decide)) bX7_entries mX7_78 (by decide) (by decide) (ci := 6) ⟨by decide, rfl⟩ (by assumption) rfl rfl (Nat.le_of_ble_eq_true rfl) dX7_flatten_42 (fun r_42 q_42 => ?_)
          rw [ent_1] at q_42
          subst q_42
          refine wa_if_ne (tgt := 51) hX dX7_flatten_45 (by decide) (fun c_45 => ?_) (fun c_45 => ?_)
          · skip
            have c4 : cnt (fun k => decide (aE (gN F) m 0 k = 16)) 16 ≠ 0 := fun e => c_45 (by rw [e]; rfl)
            have cf : flatV (aH (gN F) m) (aO (gN F) m) (aE (gN F) m) = false := by simp [flatV, c1, c4]
            refine wa_aload_n hX dX7_flatten_51 rfl ?_
            refine wa_vW hX (tX7_record I hG) bX7_record mX7_88 (by decide) (by decide) (ci := 6) ⟨by decide, rfl⟩ (by assumption) rfl rfl (Nat.le_of_ble_eq_true rfl) dX7_flatten_52 (fun I_52 q_52 => ?_)
            obtain ⟨hG1, hF1, hq1, hn1⟩ := q_52
            have hV1 : VF (I_52 (Q + 1)) (gN F) := hG1.2.1
            refine wa_aload_n hX dX7_flatten_55 rfl ?_
            refine wa_iload_n hX dX7_flatten_56 rfl ?_
            refine wa_vW hX (tX7_remembers _ hM hV1 hm) bX7_remembers mX7_94 (by decide) (by decide) (ci := 6) ⟨by decide, rfl⟩ (by assumption) rfl rfl (Nat.le_of_ble_eq_true rfl) dX7_flatten_57 (fun I_57 q_57 => ?_)
            subst q_57
            refine wa_aload_n hX dX7_flatten_60 rfl ?_
            refine wa_iload_n hX dX7_flatten_61 rfl ?_
            refine wa_aload_n hX dX7_flatten_62 rfl ?_
            refine wa_getR hX fX7_19 rfl (by assumption) (by assumption) dX7_flatten_63 ?_
            refine wa_vM hX (tX7_becomes _ hM (S := gN F) (by rw [uR_n (by omega)]; exact hV1) hm (b := Q + 4) (w := aV (gN F) m) qs4 (by omega) (fun k hk => ⟨by rw [uR_s, rowN_in hk], hV1.val hm hk⟩)) bX7_becomes mX7_109 (by decide) (by decide) (ci := 6) ⟨by decide, rfl⟩ (by assumption) rfl rfl (Nat.le_of_ble_eq_true rfl) dX7_flatten_66 (fun r_66 I_66 q_66 => ?_)
            obtain ⟨w0, w1, w2⟩ := q_66
            refine hret _ _ _ _ _ ⟨?_, rfl⟩ dX7_flatten_69
            unfold flatF
            rw [onA_in hm (by decide), if_neg (by rw [cf]; decide)]
            exact ⟨w0, hG1.now w1 (fun b hb => by rw [w2.n (by omega), uR_n (by omega)]), fun b hb => by rw [w2.n (by omega), uR_n (by omega)]; exact hF1 b (by omega)⟩
          · skip
            have c4 : cnt (fun k => decide (aE (gN F) m 0 k = 16)) 16 = 0 := eq_of_nI c_45 (by have := cnt_le (fun k => decide (aE (gN F) m 0 k = 16)) 16; omega) (by decide)
            have cf : flatV (aH (gN F) m) (aO (gN F) m) (aE (gN F) m) = true := by simp [flatV, c2, c3, c4]
            refine wa_bipush (v := -5) hX dX7_flatten_48 (by decide) ?_
            exact hret _ _ _ _ _ ⟨AM.no hG (c := -5) (by unfold flatF; rw [onA_in hm (by decide), if_pos cf]) rfl, rfl⟩ dX7_flatten_50
  · skip
    have n_4 : inB 6 x = false := by have := bI_n0.mp c_4; simpa using this
    refine wa_iconst (v := -1) hX dX7_flatten_7 (by decide) ?_
    exact hret _ _ _ _ _ ⟨AM.no hG (c := -1) (by unfold flatF; exact onA_out n_4) rfl, rfl⟩ dX7_flatten_8

set_option maxHeartbeats 4000000 in
set_option maxRecDepth 100000 in
theorem tX7_setRule {l : Launch} {D : va_G} {A : Nat → Prop} {N : Nat} {Sh : SM} {J : JM} (I : IM) {Q : Nat} {F : FS} (hG : MV Sh I J Q F) (x : Int32) : CtM l D A yX7_setRule cX7_setRule 3 FieldType.int 3 N Sh I J [.ref Q, .int x] (fun r I' => AM Sh I J Q (ruleF F x) r I') := by
  refine ct_I (l0 := [(0, .ref Q), (1, .int x)]) (by decide +kernel) (Nat.le_of_ble_eq_true rfl) rfl (fun _ _ _ _ => rfl) ?_
  intro X hX hret _ _ _
  have hX : XK X RX7 cX7_setRule 3 3 := hX
  obtain ⟨hM, hV, ⟨hc1, hc2⟩, hp, hkk, hT⟩ := id hG
  obtain ⟨q0, ⟨qj0, qj1, qj3, qj5, qj6, qj8, qj12, qj13, qj14, qj15, qj16, qj18, qj19⟩, ⟨qs1, qs2, qs3, qs4, qs5, qs6, qs7, qs8, qs9, qs10, qs11, qs12, qs13⟩⟩ := id hM
  refine wa_iload_n hX dX7_setRule_0 rfl ?_
  refine wa_iconst (v := nI 0) hX dX7_setRule_1 (by decide) ?_
  refine wa_iconst (v := nI 2) hX dX7_setRule_2 (by decide) ?_
  refine wa_sP hX (tX7_in I x (nI 0) (nI 2)) bX7_in mX7_51 (by decide) (by decide) rfl rfl (Nat.le_of_ble_eq_true rfl) dX7_setRule_3 (fun r_3 q_3 => ?_)
  rw [inR_B x (by decide)] at q_3
  subst q_3
  refine wa_if_ne (tgt := 12) hX dX7_setRule_6 (by decide) (fun c_6 => ?_) (fun c_6 => ?_)
  · skip
    obtain ⟨e0, he0, ee⟩ := inB_t (by decide) (bI_n0.mp c_6)
    subst ee
    refine wa_aload_n hX dX7_setRule_12 rfl ?_
    refine wa_getR hX fX7_7 rfl (by assumption) (by assumption) dX7_setRule_13 ?_
    refine wa_sipush (v := nI 414) hX dX7_setRule_16 (by decide) ?_
    refine wa_iald hX (by assumption) rfl (show 414 < 514 by decide) (by decide) dX7_setRule_19 ?_
    rw [hV.2.1.1]
    refine wa_istore_n hX dX7_setRule_20 (by decide) ?_
    refine wa_iload_n hX dX7_setRule_21 rfl ?_
    refine wa_iload_n hX dX7_setRule_22 rfl ?_
    refine wa_icmp_ne (tgt := 29) hX dX7_setRule_23 (by decide) (fun c_23 => ?_) (fun c_23 => ?_)
    · skip
      have c1 := ne_of_nI c_23
      refine wa_aload_n hX dX7_setRule_29 rfl ?_
      refine wa_vW hX (tX7_record I hG) bX7_record mX7_88 (by decide) (by decide) (ci := 6) ⟨by decide, rfl⟩ (by assumption) rfl rfl (Nat.le_of_ble_eq_true rfl) dX7_setRule_30 (fun I_30 q_30 => ?_)
      obtain ⟨hG1, hF1, hq1, hn1⟩ := q_30
      have hV1 : VF (I_30 (Q + 1)) (gN F) := hG1.2.1
      refine wa_aload_n hX dX7_setRule_33 rfl ?_
      refine wa_getR hX fX7_7 rfl (by assumption) (by assumption) dX7_setRule_34 ?_
      refine wa_sipush (v := nI 414) hX dX7_setRule_37 (by decide) ?_
      refine wa_iload_n hX dX7_setRule_40 rfl ?_
      refine wa_iast hX (by assumption) rfl (show 414 < 514 by decide) (by decide) dX7_setRule_41 ?_
      refine wa_iload_n hX dX7_setRule_42 rfl ?_
      refine hret _ _ _ _ _ ⟨?_, rfl⟩ dX7_setRule_43
      unfold ruleF
      rw [onA_in he0 (by decide), if_neg c1]
      exact ⟨rfl, hG1.now (by rw [u2_a]; exact hV1.rule (by omega) (if_pos rfl) (fun x hx => if_neg hx)) (fun b hb => u2_n (by omega)), fun b hb => (u2_n (by omega)).trans (hF1 b (by omega))⟩
    · skip
      have c1 := eq_of_nI c_23 (by have := hV.2.1.2; omega) (by omega)
      refine wa_bipush (v := -5) hX dX7_setRule_26 (by decide) ?_
      exact hret _ _ _ _ _ ⟨AM.no hG (c := -5) (by unfold ruleF; rw [onA_in he0 (by decide), if_pos c1]) rfl, rfl⟩ dX7_setRule_28
  · skip
    have n_6 := bI_0.mp c_6
    refine wa_bipush (v := -2) hX dX7_setRule_9 (by decide) ?_
    exact hret _ _ _ _ _ ⟨AM.no hG (c := -2) (by unfold ruleF; exact onA_out n_6) rfl, rfl⟩ dX7_setRule_11

set_option maxHeartbeats 4000000 in
set_option maxRecDepth 100000 in
theorem tX7_undo {l : Launch} {D : va_G} {A : Nat → Prop} {N : Nat} {Sh : SM} {J : JM} (I : IM) {Q : Nat} {F : FS} (hG : MV Sh I J Q F) : CtM l D A yX7_undo cX7_undo 2 FieldType.int 1 N Sh I J [.ref Q] (fun r I' => AM Sh I J Q (undoF F) r I') := by
  refine ct_I (l0 := [(0, .ref Q)]) (by decide +kernel) (Nat.le_of_ble_eq_true rfl) rfl (fun _ _ _ _ => rfl) ?_
  intro X hX hret _ _ _
  have hX : XK X RX7 cX7_undo 2 1 := hX
  obtain ⟨hM, hV, ⟨hc1, hc2⟩, hp, hkk, hT⟩ := id hG
  obtain ⟨q0, ⟨qj0, qj1, qj3, qj5, qj6, qj8, qj12, qj13, qj14, qj15, qj16, qj18, qj19⟩, ⟨qs1, qs2, qs3, qs4, qs5, qs6, qs7, qs8, qs9, qs10, qs11, qs12, qs13⟩⟩ := id hM
  have lp : ∀ (I1 : IM), gC F ≠ 0 → I1 = u2 I Q 2 (nI (gC F - 1)) → WX X 0 0 N Sh I1 J 22 [(0, .ref Q), (1, .int (nI 0))] [] := by
    intro I1 c1 e1
    have d2 : I1 Q 2 = nI (gC F - 1) := by rw [e1]; exact u2_s
    have dn : ∀ b, b ≠ Q → I1 b = I b := fun b hb => by rw [e1]; exact u2_n hb
    have dq : ∀ j, j ≠ 2 → I1 Q j = I Q j := fun j hj => by rw [e1]; exact u2_k hj
    have lq : ∀ (n i : Nat), i + n = 514 → WX X 0 0 N Sh (uR I1 (Q + 1) (rowN i (fun x => I1 (Q + 2) (514 * (gC F - 1) + x)) (I1 (Q + 1)))) J 22 [(0, .ref Q), (1, .int (nI i))] [] := by
      intro n
      induction n with
      | zero =>
        intro i  hi
        obtain rfl : 514 = i := by omega
        refine wa_iload_n hX dX7_undo_22 rfl ?_
        refine wa_sipush (v := nI 514) hX dX7_undo_23 (by decide) ?_
        refine wa_icmp_ge (tgt := 56) hX dX7_undo_26 (by decide) (fun c_26 => ?_) (fun c_26 => absurd (Int32.le_refl _) c_26)
        refine wa_aload_n hX dX7_undo_56 rfl ?_
        refine wa_getI hX fX7_59 rfl (by assumption) dX7_undo_57 ?_
        rw [uR_n (b := Q) (by omega), d2]
        refine hret _ _ _ _ _ ⟨?_, rfl⟩ dX7_undo_60
        unfold undoF
        rw [if_neg c1]
        refine ⟨rfl, ⟨hM, ?_, ⟨by show gC F - 1 ≤ 4; omega, by rw [uR_n (by omega)]; exact d2⟩, fun i hi => ?_, ⟨by rw [uR_n (by omega), dq 4 (by decide)]; exact hkk.1, fun hh => by rw [uR_n (by omega), dn (Q + 3) (by omega)]; exact hkk.2 hh⟩, ⟨⟨hT.1.1, by rw [uR_n (by omega), dq 7 (by decide)]; exact hT.1.2⟩, fun j hj => by rw [uR_n (by omega), dn (Q + 6) (by omega)]; exact hT.2 j hj⟩⟩, fun b hb => by rw [uR_n (by omega)]; exact dn b (by omega)⟩
        · rw [uR_s]
          exact (hp (gC F - 1) (by omega)).cg (fun x hx => by rw [rowN_in hx, dn (Q + 2) (by omega)])
        · have hi : i < gC F - 1 := hi
          rw [uR_n (by omega), dn (Q + 2) (by omega)]
          exact hp i (by omega)
      | succ n ih =>
        intro i  hi
        have hlt : i < 514 := by omega
        refine wa_iload_n hX dX7_undo_22 rfl ?_
        refine wa_sipush (v := nI 514) hX dX7_undo_23 (by decide) ?_
        refine wa_icmp_ge (tgt := 56) hX dX7_undo_26 (by decide) (fun c_26 => absurd c_26 (nI_ge hlt (by decide))) (fun c_26 => ?_)
        refine wa_aload_n hX dX7_undo_29 rfl ?_
        refine wa_getR hX fX7_7 rfl (by assumption) (by assumption) dX7_undo_30 ?_
        refine wa_iload_n hX dX7_undo_33 rfl ?_
        refine wa_aload_n hX dX7_undo_34 rfl ?_
        refine wa_getR hX fX7_13 rfl (by assumption) (by assumption) dX7_undo_35 ?_
        refine wa_sipush (v := nI 514) hX dX7_undo_38 (by decide) ?_
        refine wa_aload_n hX dX7_undo_41 rfl ?_
        refine wa_getI hX fX7_59 rfl (by assumption) dX7_undo_42 ?_
        rw [uR_n (b := Q) (by omega), d2]
        refine wa_imul hX dX7_undo_45 ?_
        refine wa_iload_n hX dX7_undo_46 rfl ?_
        refine wa_iadd hX dX7_undo_47 ?_
        refine wa_iald hX (by assumption) (i514 (gC F - 1) i) (show 514 * (gC F - 1) + i < 2056 by omega) (by decide) dX7_undo_48 ?_
        rw [uR_n (b := Q + 2) (by omega)]
        refine wa_iast hX (by assumption) rfl (show i < 514 by omega) (by decide) dX7_undo_49 ?_
        refine wa_iinc hX dX7_undo_50 rfl (inc1 _) (by decide) ?_
        refine wa_goto (tgt := 22) hX dX7_undo_53 (by decide) ?_
        refine wx_sub (l' := [(0, _), (1, _)]) ⟨rfl, rfl, trivial⟩ ?_
        rw [u2_row rfl]
        exact ih (i + 1) (by omega)
    rw [row_0 (I := I1) (a := Q + 1) (g := fun x => I1 (Q + 2) (514 * (gC F - 1) + x))]
    exact lq 514 0 (by omega)
  refine wa_aload_n hX dX7_undo_0 rfl ?_
  refine wa_getI hX fX7_59 rfl (by assumption) dX7_undo_1 ?_
  rw [hc2]
  refine wa_if_ne (tgt := 10) hX dX7_undo_4 (by decide) (fun c_4 => ?_) (fun c_4 => ?_)
  · skip
    have c1 : gC F ≠ 0 := fun e => c_4 (by rw [e]; rfl)
    refine wa_aload_n hX dX7_undo_10 rfl ?_
    refine wa_dup hX dX7_undo_11 rfl ?_
    refine wa_getI hX fX7_59 rfl (by assumption) dX7_undo_12 ?_
    rw [hc2]
    refine wa_iconst (v := nI 1) hX dX7_undo_15 (by decide) ?_
    refine wa_isub hX dX7_undo_16 ?_
    rw [show nI (gC F) - nI 1 = nI (gC F - 1) from pk_sub (by omega)]
    refine wa_putI hX fX7_59 rfl rfl ⟨rfl, rfl⟩ (by assumption) dX7_undo_17 ?_
    refine wa_iconst (v := nI 0) hX dX7_undo_20 (by decide) ?_
    refine wa_istore_n hX dX7_undo_21 (by decide) ?_
    refine wx_sub (l' := [(0, _), (1, _)]) ⟨rfl, rfl, trivial⟩ ?_
    exact lp _ c1 rfl
  · skip
    have c1 : gC F = 0 := eq_of_nI c_4 (by omega) (by decide)
    refine wa_bipush (v := -5) hX dX7_undo_7 (by decide) ?_
    exact hret _ _ _ _ _ ⟨AM.no hG (c := -5) (by unfold undoF; rw [if_pos c1]) rfl, rfl⟩ dX7_undo_9

set_option maxHeartbeats 4000000 in
set_option maxRecDepth 100000 in
theorem tX7_keep {l : Launch} {D : va_G} {A : Nat → Prop} {N : Nat} {Sh : SM} {J : JM} (I : IM) {Q : Nat} {F : FS} (hG : MV Sh I J Q F) : CtM l D A yX7_keep cX7_keep 2 FieldType.int 1 N Sh I J [.ref Q] (fun r I' => AM Sh I J Q (keepF F) r I') := by
  refine ct_I (l0 := [(0, .ref Q)]) (by decide +kernel) (Nat.le_of_ble_eq_true rfl) rfl (fun _ _ _ _ => rfl) ?_
  intro X hX hret _ _ _
  have hX : XK X RX7 cX7_keep 2 1 := hX
  obtain ⟨hM, hV, ⟨hc1, hc2⟩, hp, hkk, hT⟩ := id hG
  obtain ⟨q0, ⟨qj0, qj1, qj3, qj5, qj6, qj8, qj12, qj13, qj14, qj15, qj16, qj18, qj19⟩, ⟨qs1, qs2, qs3, qs4, qs5, qs6, qs7, qs8, qs9, qs10, qs11, qs12, qs13⟩⟩ := id hM
  have lp : ∀ (n i : Nat), i + n = 514 → WX X 0 0 N Sh (uR I (Q + 3) (rowN i (I (Q + 1)) (I (Q + 3)))) J 2 [(0, .ref Q), (1, .int (nI i))] [] := by
    intro n
    induction n with
    | zero =>
      intro i  hi
      obtain rfl : 514 = i := by omega
      refine wa_iload_n hX dX7_keep_2 rfl ?_
      refine wa_sipush (v := nI 514) hX dX7_keep_3 (by decide) ?_
      refine wa_icmp_ge (tgt := 27) hX dX7_keep_6 (by decide) (fun c_6 => ?_) (fun c_6 => absurd (Int32.le_refl _) c_6)
      refine wa_aload_n hX dX7_keep_27 rfl ?_
      refine wa_iconst (v := nI 1) hX dX7_keep_28 (by decide) ?_
      refine wa_putI hX fX7_176 rfl rfl ⟨rfl, rfl⟩ (by assumption) dX7_keep_29 ?_
      refine wa_aload_n hX dX7_keep_32 rfl ?_
      refine wa_vP hX (tX7_layers _ hM (S := gN F) (by rw [u2_n (by omega), uR_n (by omega)]; exact hV)) bX7_layers mX7_180 (by decide) (by decide) (ci := 6) ⟨by decide, rfl⟩ (by assumption) rfl rfl (Nat.le_of_ble_eq_true rfl) dX7_keep_33 (fun r_33 q_33 => ?_)
      refine hret _ _ _ _ _ ⟨?_, rfl⟩ dX7_keep_36
      unfold keepF
      refine ⟨q_33, ⟨hM, by rw [u2_n (by omega), uR_n (by omega)]; exact hV, ⟨hc1, by rw [u2_k (by decide), uR_n (by omega)]; exact hc2⟩, fun i hi => by rw [u2_n (by omega), uR_n (by omega)]; exact hp i hi, ⟨u2_s, fun _ => ?_⟩, ⟨⟨hT.1.1, by rw [u2_k (by decide), uR_n (by omega)]; exact hT.1.2⟩, fun j hj => by rw [u2_n (by omega), uR_n (by omega)]; exact hT.2 j hj⟩⟩, fun b hb => by rw [u2_n (by omega), uR_n (by omega)]⟩
      rw [u2_n (by omega), uR_s]
      exact hV.cg (fun x hx => rowN_in hx)
    | succ n ih =>
      intro i  hi
      have hlt : i < 514 := by omega
      refine wa_iload_n hX dX7_keep_2 rfl ?_
      refine wa_sipush (v := nI 514) hX dX7_keep_3 (by decide) ?_
      refine wa_icmp_ge (tgt := 27) hX dX7_keep_6 (by decide) (fun c_6 => absurd c_6 (nI_ge hlt (by decide))) (fun c_6 => ?_)
      refine wa_aload_n hX dX7_keep_9 rfl ?_
      refine wa_getR hX fX7_16 rfl (by assumption) (by assumption) dX7_keep_10 ?_
      refine wa_iload_n hX dX7_keep_13 rfl ?_
      refine wa_aload_n hX dX7_keep_14 rfl ?_
      refine wa_getR hX fX7_7 rfl (by assumption) (by assumption) dX7_keep_15 ?_
      refine wa_iload_n hX dX7_keep_18 rfl ?_
      refine wa_iald hX (by assumption) rfl (by first | assumption | omega) (by decide) dX7_keep_19 ?_
      rw [uR_n (b := Q + 1) (by omega)]
      refine wa_iast hX (by assumption) rfl (show i < 514 by omega) (by decide) dX7_keep_20 ?_
      refine wa_iinc hX dX7_keep_21 rfl (inc1 _) (by decide) ?_
      refine wa_goto (tgt := 2) hX dX7_keep_24 (by decide) ?_
      refine wx_sub (l' := [(0, _), (1, _)]) ⟨rfl, rfl, trivial⟩ ?_
      rw [u2_row rfl]
      exact ih (i + 1) (by omega)
  refine wa_iconst (v := nI 0) hX dX7_keep_0 (by decide) ?_
  refine wa_istore_n hX dX7_keep_1 (by decide) ?_
  rw [row_0 (I := I) (a := Q + 3) (g := I (Q + 1))]
  exact lp 514 0 (by omega)

set_option maxHeartbeats 4000000 in
set_option maxRecDepth 100000 in
theorem tX7_restore {l : Launch} {D : va_G} {A : Nat → Prop} {N : Nat} {Sh : SM} {J : JM} (I : IM) {Q : Nat} {F : FS} (hG : MV Sh I J Q F) : CtM l D A yX7_restore cX7_restore 2 FieldType.int 1 N Sh I J [.ref Q] (fun r I' => AM Sh I J Q (restF F) r I') := by
  refine ct_I (l0 := [(0, .ref Q)]) (by decide +kernel) (Nat.le_of_ble_eq_true rfl) rfl (fun _ _ _ _ => rfl) ?_
  intro X hX hret _ _ _
  have hX : XK X RX7 cX7_restore 2 1 := hX
  obtain ⟨hM, hV, ⟨hc1, hc2⟩, hp, hkk, hT⟩ := id hG
  obtain ⟨q0, ⟨qj0, qj1, qj3, qj5, qj6, qj8, qj12, qj13, qj14, qj15, qj16, qj18, qj19⟩, ⟨qs1, qs2, qs3, qs4, qs5, qs6, qs7, qs8, qs9, qs10, qs11, qs12, qs13⟩⟩ := id hM
  have lp : ∀ (I1 : IM), gH F = true → MV Sh I1 J Q (recF F) → (∀ b, b < Q ∨ Q + 3 ≤ b → I1 b = I b) → WX X 0 0 N Sh I1 J 16 [(0, .ref Q), (1, .int (nI 0))] [] := by
    intro I1 c1 hG1 hF1
    have lq : ∀ (n i : Nat), i + n = 514 → WX X 0 0 N Sh (uR I1 (Q + 1) (rowN i (I1 (Q + 3)) (I1 (Q + 1)))) J 16 [(0, .ref Q), (1, .int (nI i))] [] := by
      intro n
      induction n with
      | zero =>
        intro i  hi
        obtain rfl : 514 = i := by omega
        refine wa_iload_n hX dX7_restore_16 rfl ?_
        refine wa_sipush (v := nI 514) hX dX7_restore_17 (by decide) ?_
        refine wa_icmp_ge (tgt := 41) hX dX7_restore_20 (by decide) (fun c_20 => ?_) (fun c_20 => absurd (Int32.le_refl _) c_20)
        refine wa_aload_n hX dX7_restore_41 rfl ?_
        refine wa_vP hX (tX7_layers _ hM (S := gK F) (by rw [uR_s]; exact (hG1.2.2.2.2.1.2 c1).cg (fun x hx => rowN_in hx))) bX7_layers mX7_180 (by decide) (by decide) (ci := 6) ⟨by decide, rfl⟩ (by assumption) rfl rfl (Nat.le_of_ble_eq_true rfl) dX7_restore_42 (fun r_42 q_42 => ?_)
        refine hret _ _ _ _ _ ⟨?_, rfl⟩ dX7_restore_45
        unfold restF
        rw [if_pos c1]
        exact ⟨q_42, hG1.now (by rw [uR_s]; exact (hG1.2.2.2.2.1.2 c1).cg (fun x hx => rowN_in hx)) (fun b hb => uR_n (by omega)), fun b hb => (uR_n (by omega)).trans (hF1 b (by omega))⟩
      | succ n ih =>
        intro i  hi
        have hlt : i < 514 := by omega
        refine wa_iload_n hX dX7_restore_16 rfl ?_
        refine wa_sipush (v := nI 514) hX dX7_restore_17 (by decide) ?_
        refine wa_icmp_ge (tgt := 41) hX dX7_restore_20 (by decide) (fun c_20 => absurd c_20 (nI_ge hlt (by decide))) (fun c_20 => ?_)
        refine wa_aload_n hX dX7_restore_23 rfl ?_
        refine wa_getR hX fX7_7 rfl (by assumption) (by assumption) dX7_restore_24 ?_
        refine wa_iload_n hX dX7_restore_27 rfl ?_
        refine wa_aload_n hX dX7_restore_28 rfl ?_
        refine wa_getR hX fX7_16 rfl (by assumption) (by assumption) dX7_restore_29 ?_
        refine wa_iload_n hX dX7_restore_32 rfl ?_
        refine wa_iald hX (by assumption) rfl (by first | assumption | omega) (by decide) dX7_restore_33 ?_
        rw [uR_n (b := Q + 3) (by omega)]
        refine wa_iast hX (by assumption) rfl (show i < 514 by omega) (by decide) dX7_restore_34 ?_
        refine wa_iinc hX dX7_restore_35 rfl (inc1 _) (by decide) ?_
        refine wa_goto (tgt := 16) hX dX7_restore_38 (by decide) ?_
        refine wx_sub (l' := [(0, _), (1, _)]) ⟨rfl, rfl, trivial⟩ ?_
        rw [u2_row rfl]
        exact ih (i + 1) (by omega)
    rw [row_0 (I := I1) (a := Q + 1) (g := I1 (Q + 3))]
    exact lq 514 0 (by omega)
  refine wa_aload_n hX dX7_restore_0 rfl ?_
  refine wa_getI hX fX7_176 rfl (by assumption) dX7_restore_1 ?_
  rw [hkk.1]
  refine wa_if_ne (tgt := 10) hX dX7_restore_4 (by decide) (fun c_4 => ?_) (fun c_4 => ?_)
  · skip
    have c1 := bI_n0.mp c_4
    refine wa_aload_n hX dX7_restore_10 rfl ?_
    refine wa_vW hX (tX7_record I hG) bX7_record mX7_88 (by decide) (by decide) (ci := 6) ⟨by decide, rfl⟩ (by assumption) rfl rfl (Nat.le_of_ble_eq_true rfl) dX7_restore_11 (fun I_11 q_11 => ?_)
    obtain ⟨hG1, hF1, hq1, hn1⟩ := q_11
    have hV1 : VF (I_11 (Q + 1)) (gN F) := hG1.2.1
    refine wa_iconst (v := nI 0) hX dX7_restore_14 (by decide) ?_
    refine wa_istore_n hX dX7_restore_15 (by decide) ?_
    refine wx_sub (l' := [(0, _), (1, _)]) ⟨rfl, rfl, trivial⟩ ?_
    exact lp _ c1 hG1 hF1
  · skip
    have c1 := bI_0.mp c_4
    refine wa_bipush (v := -5) hX dX7_restore_7 (by decide) ?_
    exact hret _ _ _ _ _ ⟨AM.no hG (c := -5) (by unfold restF; rw [if_neg (by rw [c1]; decide)]) rfl, rfl⟩ dX7_restore_9

