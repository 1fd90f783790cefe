/-! PileMapsModel: push, assign, gives -/
theorem MV.rd {Sh : SM} {I I' : IM} {J : JM} {Q : Nat} {F : FS} (h : MV Sh I J Q F) (h1 : ∀ j, j ≠ 9 → j ≠ 10 → j ≠ 11 → j ≠ 17 → I' Q j = I Q j) (h2 : ∀ b, b = Q + 1 ∨ b = Q + 2 ∨ b = Q + 3 ∨ b = Q + 6 → I' b = I b) : MV Sh I' J Q F := by
  obtain ⟨hM, hV, ⟨hc1, hc2⟩, hp, hkk, hT⟩ := h
  exact ⟨hM, by rw [h2 _ (by omega)]; exact hV, ⟨hc1, by rw [h1 2 (by decide) (by decide) (by decide) (by decide)]; exact hc2⟩, fun i hi => by rw [h2 (Q + 2) (by omega)]; exact hp i hi, ⟨by rw [h1 4 (by decide) (by decide) (by decide) (by decide)]; exact hkk.1, fun hh => by rw [h2 (Q + 3) (by omega)]; exact hkk.2 hh⟩, ⟨⟨hT.1.1, by rw [h1 7 (by decide) (by decide) (by decide) (by decide)]; exact hT.1.2⟩, fun j hj => by rw [h2 (Q + 6) (by omega)]; exact hT.2 j hj⟩⟩
theorem of_some {α : Type} {res : Option α × Nat} {r : Int32} (h : r = bI res.1.isSome) (hx : ¬ r = 0) : ∃ a q, res = (some a, q) := by
  rcases res with ⟨_ | a, q⟩
  · exact absurd h hx
  · exact ⟨a, q, rfl⟩
theorem of_none {α : Type} {res : Option α × Nat} {r : Int32} (h : r = bI res.1.isSome) (hx : r = 0) : ∃ q, res = (none, q) := by
  rcases res with ⟨_ | a, q⟩
  · exact ⟨q, rfl⟩
  · exact absurd (show nI 1 = 0 from h.symm.trans hx) (by decide)
set_option maxHeartbeats 4000000 in
set_option maxRecDepth 100000 in
theorem tX7_push {l : Launch} {D : va_G} {A : Nat → Prop} {N : Nat} {Sh : SM} {J : JM} (I : IM) {Q : Nat} {F : FS} (hG : MV Sh I J Q F) (x : Int32) : CtM l D A yX7_push cX7_push 4 FieldType.int 4 N Sh I J [.ref Q, .int x] (fun r I' => AM Sh I J Q (pushF F x) r I') := by
  refine ct_I (l0 := [(0, .ref Q), (1, .int x)]) (by decide +kernel) (Nat.le_of_ble_eq_true rfl) rfl (fun _ _ _ _ => rfl) ?_
  intro X hX hret _ _ _
  have hX : XK X RX7 cX7_push 4 4 := hX
  obtain ⟨hM, hV, ⟨hc1, hc2⟩, hp, hkk, hT⟩ := id hG
  obtain ⟨q0, ⟨qj0, qj1, qj3, qj5, qj6, qj8, qj12, qj13, qj14, qj15, qj16, qj18, qj19⟩, ⟨qs1, qs2, qs3, qs4, qs5, qs6, qs7, qs8, qs9, qs10, qs11, qs12, qs13⟩⟩ := id hM
  refine wa_iload_n hX dX7_push_0 rfl ?_
  refine wa_sP hX (tX7_noMap I x) bX7_noMap mX7_55 (by decide) (by decide) rfl rfl (Nat.le_of_ble_eq_true rfl) dX7_push_1 (fun r_1 q_1 => ?_)
  subst q_1
  refine wa_if_eq (tgt := 9) hX dX7_push_4 (by decide) (fun c_4 => ?_) (fun c_4 => ?_)
  · skip
    have n_4 : inB 6 x = true := by have := bI_0.mp c_4; simpa using this
    obtain ⟨m, hm, em⟩ := inB_t (by decide) n_4
    subst em
    refine wa_aload_n hX dX7_push_9 rfl ?_
    refine wa_vM hX (tX7_isLayerText _ hM hT) bX7_isLayerText mX7_81 (by decide) (by decide) (ci := 6) ⟨by decide, rfl⟩ q0 rfl rfl (Nat.le_of_ble_eq_true rfl) dX7_push_10 (fun r_10 I_10 q_10 => ?_)
    obtain ⟨w0, w1, w2, w3⟩ := q_10
    have hG2 : MV Sh I_10 J Q F := hG.rd (fun j a b _ _ => w2.1 j a b) (fun b hb => w2.2 b (by omega) (by omega))
    have hV2 := hG2.2.1
    refine wa_if_ne (tgt := 24) hX dX7_push_13 (by decide) (fun c_13 => ?_) (fun c_13 => ?_)
    · skip
      obtain ⟨w, q, ew⟩ := of_some w0 c_13
      have hw := w3 w (by rw [ew])
      have h4 := (hV2.1 m hm).1.1
      refine wa_aload_n hX dX7_push_24 rfl ?_
      refine wa_getR hX fX7_7 rfl q0 qj0 dX7_push_25 ?_
      refine wa_sipush (v := nI 408) hX dX7_push_28 (by decide) ?_
      refine wa_iload_n hX dX7_push_31 rfl ?_
      refine wa_iadd hX dX7_push_32 ?_
      refine wa_iald hX qs1 (nI_add 408 m) (show 408 + m < 514 by omega) (by decide) dX7_push_33 ?_
      rw [(hV2.1 m hm).1.2]
      refine wa_istore_n hX dX7_push_34 (by decide) ?_
      refine wa_iload_n hX dX7_push_35 rfl ?_
      refine wa_iconst (v := nI 4) hX dX7_push_36 (by decide) ?_
      refine wa_icmp_ne (tgt := 43) hX dX7_push_37 (by decide) (fun c_37 => ?_) (fun c_37 => ?_)
      · skip
        have c1 : aH (gN F) m < 4 := by have := ne_of_nI c_37; omega
        refine wa_aload_n hX dX7_push_43 rfl ?_
        refine wa_vW hX (tX7_record _ hG2) bX7_record mX7_88 (by decide) (by decide) (ci := 6) ⟨by decide, rfl⟩ q0 rfl rfl (Nat.le_of_ble_eq_true rfl) dX7_push_44 (fun I_44 q_44 => ?_)
        obtain ⟨hG1, hF1, hq1, hn1⟩ := q_44
        have hV1 : VF (I_44 (Q + 1)) (gN F) := hG1.2.1
        have hw4 : ∀ k, k < 16 → I_44 (Q + 5) k = nI (w k) ∧ w k ≤ 17 := fun k hk => by rw [hF1 (Q + 5) (by omega)]; exact hw k hk
        have lp : ∀ (n i : Nat), i + n = 16 → WX X 0 0 N Sh (uR I_44 (Q + 1) (segN (16 * (4 * m + aH (gN F) m)) i (fun k => nI (w k)) (I_44 (Q + 1)))) J 49 [(0, .ref Q), (1, .int (nI m)), (2, .int (nI (aH (gN F) m))), (3, .int (nI i))] [] := by
          intro n
          induction n with
          | zero =>
            intro i  hi
            obtain rfl : 16 = i := by omega
            refine wa_iload_n hX dX7_push_49 rfl ?_
            refine wa_bipush (v := nI 16) hX dX7_push_50 (by decide) ?_
            refine wa_icmp_ge (tgt := 78) hX dX7_push_52 (by decide) (fun c_52 => ?_) (fun c_52 => absurd (Int32.le_refl _) c_52)
            refine wa_aload_n hX dX7_push_78 rfl ?_
            refine wa_getR hX fX7_7 rfl q0 qj0 dX7_push_79 ?_
            refine wa_sipush (v := nI 384) hX dX7_push_82 (by decide) ?_
            refine wa_iconst (v := nI 4) hX dX7_push_85 (by decide) ?_
            refine wa_iload_n hX dX7_push_86 rfl ?_
            refine wa_imul hX dX7_push_87 ?_
            refine wa_iadd hX dX7_push_88 ?_
            refine wa_iload_n hX dX7_push_89 rfl ?_
            refine wa_iadd hX dX7_push_90 ?_
            refine wa_iconst (v := nI 1) hX dX7_push_91 (by decide) ?_
            refine wa_iast hX qs1 (ixo m _) (show 384 + 4 * m + aH (gN F) m < 514 by omega) (by decide) dX7_push_92 ?_
            refine wa_aload_n hX dX7_push_93 rfl ?_
            refine wa_getR hX fX7_7 rfl q0 qj0 dX7_push_94 ?_
            refine wa_sipush (v := nI 408) hX dX7_push_97 (by decide) ?_
            refine wa_iload_n hX dX7_push_100 rfl ?_
            refine wa_iadd hX dX7_push_101 ?_
            refine wa_dup2 hX dX7_push_102 rfl rfl ?_
            refine wa_iald hX qs1 (nI_add 408 m) (show 408 + m < 514 by omega) (by decide) dX7_push_103 ?_
            rw [u2_k (by omega), uR_s, seg_out (by omega), (hV1.1 m hm).1.2]
            refine wa_iconst (v := nI 1) hX dX7_push_104 (by decide) ?_
            refine wa_iadd hX dX7_push_105 ?_
            rw [show nI (aH (gN F) m) + nI 1 = nI (aH (gN F) m + 1) from nI_add _ 1]
            refine wa_iast hX qs1 (nI_add 408 m) (show 408 + m < 514 by omega) (by decide) dX7_push_106 ?_
            refine wa_aload_n hX dX7_push_107 rfl ?_
            refine wa_getR hX fX7_7 rfl q0 qj0 dX7_push_108 ?_
            refine wa_sipush (v := nI 408) hX dX7_push_111 (by decide) ?_
            refine wa_iload_n hX dX7_push_114 rfl ?_
            refine wa_iadd hX dX7_push_115 ?_
            refine wa_iald hX qs1 (nI_add 408 m) (show 408 + m < 514 by omega) (by decide) dX7_push_116 ?_
            have hS : VF ((u2 (u2 (uR I_44 (Q + 1) (segN (16 * (4 * m + aH (gN F) m)) 16 (fun k => nI (w k)) (I_44 (Q + 1)))) (Q + 1) (384 + 4 * m + aH (gN F) m) (nI 1)) (Q + 1) (408 + m) (nI (aH (gN F) m + 1))) (Q + 1)) (sM (gN F) m (aH (gN F) m + 1) (upF (aO (gN F) m) (aH (gN F) m) true) (upF (aE (gN F) m) (aH (gN F) m) w)) := by
              refine VF.sM hV1 hm (by omega) u2_s (fun l hl => ?_) (fun l hl k hk => ?_) (fun x h1 h2 h3 h5 => ?_)
              · rw [u2_k (by omega)]
                by_cases e : l = aH (gN F) m
                · subst e; rw [u2_s]; simp only [upF, ↓reduceIte]; rfl
                · rw [u2_k (by omega), uR_s, seg_out (by omega)]; simp only [upF, if_neg e]; exact (hV1.1 m hm).2.1 l hl
              · rw [u2_k (by omega), u2_k (by omega), uR_s]
                by_cases e : l = aH (gN F) m
                · subst e; rw [seg_in hk]; simp only [upF, ↓reduceIte]; exact ⟨trivial, (hw4 k hk).2⟩
                · rw [seg_out (by omega)]; simp only [upF, if_neg e]; exact (hV1.1 m hm).2.2 l hl k hk
              · rw [u2_k (by omega), u2_k (by omega), uR_s, seg_out (by omega)]
            refine hret _ _ _ _ _ ⟨?_, rfl⟩ dX7_push_117
            unfold pushF
            rw [onA_in hm (by decide), pusM_s ew c1]
            refine ⟨u2_s, hG1.now hS (fun b hb => by rw [u2_n (by omega), u2_n (by omega), uR_n (by omega)]), fun b hb => ?_⟩
            rw [u2_n (by omega), u2_n (by omega), uR_n (by omega), hF1 b (by omega)]
            exact w2.2 b (by omega) (by omega)
          | succ n ih =>
            intro i  hi
            have hlt : i < 16 := by omega
            refine wa_iload_n hX dX7_push_49 rfl ?_
            refine wa_bipush (v := nI 16) hX dX7_push_50 (by decide) ?_
            refine wa_icmp_ge (tgt := 78) hX dX7_push_52 (by decide) (fun c_52 => absurd c_52 (nI_ge hlt (by decide))) (fun c_52 => ?_)
            refine wa_aload_n hX dX7_push_55 rfl ?_
            refine wa_getR hX fX7_7 rfl q0 qj0 dX7_push_56 ?_
            refine wa_iload_n hX dX7_push_59 rfl ?_
            refine wa_iload_n hX dX7_push_60 rfl ?_
            refine wa_iload_n hX dX7_push_61 rfl ?_
            refine wa_sP hX (tX7_cell _ m (aH (gN F) m) i) bX7_cell mX7_67 (by decide) (by decide) rfl rfl (Nat.le_of_ble_eq_true rfl) dX7_push_62 (fun r_62 q_62 => ?_)
            subst q_62
            refine wa_aload_n hX dX7_push_65 rfl ?_
            refine wa_getR hX fX7_22 rfl q0 qj6 dX7_push_66 ?_
            refine wa_iload_n hX dX7_push_69 rfl ?_
            refine wa_iald hX qs5 rfl (by first | assumption | omega) (by decide) dX7_push_70 ?_
            rw [uR_n (b := Q + 5) (by omega), (hw4 i (by omega)).1]
            refine wa_iast hX qs1 rfl (show 16 * (4 * m + aH (gN F) m) + i < 514 by omega) (by decide) dX7_push_71 ?_
            refine wa_iinc hX dX7_push_72 rfl (inc1 _) (by decide) ?_
            refine wa_goto (tgt := 49) hX dX7_push_75 (by decide) ?_
            refine wx_sub (l' := [(0, _), (1, _), (2, _), (3, _)]) ⟨rfl, rfl, rfl, rfl, trivial⟩ ?_
            rw [u2_seg rfl]
            exact ih (i + 1) (by omega)
        refine wa_iconst (v := nI 0) hX dX7_push_47 (by decide) ?_
        refine wa_istore_n hX dX7_push_48 (by decide) ?_
        have e0 : I_44 = (uR I_44 (Q + 1) (segN (16 * (4 * m + aH (gN F) m)) 0 (fun k => nI (w k)) (I_44 (Q + 1)))) := by rw [seg_0, uR_self]
        rw (occs := .pos [1]) [e0]
        refine wx_sub (l' := [(0, _), (1, _), (2, _), (3, _)]) ⟨rfl, rfl, rfl, rfl, trivial⟩ ?_
        exact lp 16 0 (by omega)
      · skip
        have c1 : ¬ aH (gN F) m < 4 := by have := eq_of_nI c_37 (by omega) (by decide); omega
        refine wa_bipush (v := -3) hX dX7_push_40 (by decide) ?_
        refine hret _ _ _ _ _ ⟨?_, rfl⟩ dX7_push_42
        unfold pushF
        rw [onA_in hm (by decide), pusM_f ew c1]
        exact ⟨rfl, hG2, fun b hb => w2.2 b (by omega) (by omega)⟩
    · skip
      obtain ⟨q, ew⟩ := of_none w0 c_13
      refine wa_bipush (v := -100) hX dX7_push_16 (by decide) ?_
      refine wa_aload_n hX dX7_push_18 rfl ?_
      refine wa_getI hX fX7_85 rfl q0 dX7_push_19 ?_
      rw [w1, ew]
      refine wa_isub hX dX7_push_22 ?_
      refine hret _ _ _ _ _ ⟨?_, rfl⟩ dX7_push_23
      unfold pushF
      rw [onA_in hm (by decide), pusM_n ew]
      exact ⟨rfl, hG2, fun b hb => w2.2 b (by omega) (by omega)⟩
  · skip
    have n_4 : inB 6 x = false := by have := bI_n0.mp c_4; simpa using this
    refine wa_iconst (v := -1) hX dX7_push_7 (by decide) ?_
    exact hret _ _ _ _ _ ⟨AM.no hG (c := -1) (by unfold pushF; exact onA_out n_4) rfl, rfl⟩ dX7_push_8

set_option maxHeartbeats 4000000 in
set_option maxRecDepth 100000 in
theorem tX7_assign {l : Launch} {D : va_G} {A : Nat → Prop} {N : Nat} {Sh : SM} {J : JM} (I : IM) {Q : Nat} {F : FS} (hG : MV Sh I J Q F) : CtM l D A yX7_assign cX7_assign 1 FieldType.int 6 N Sh I J [.ref Q] (fun r I' => AM Sh I J Q (assF F) r I') := by
  refine ct_I (l0 := [(0, .ref Q)]) (by decide +kernel) (Nat.le_of_ble_eq_true rfl) rfl (fun _ _ _ _ => rfl) ?_
  intro X hX hret _ _ _
  have hX : XK X RX7 cX7_assign 1 6 := hX
  obtain ⟨hM, hV, ⟨hc1, hc2⟩, hp, hkk, hT⟩ := id hG
  obtain ⟨q0, ⟨qj0, qj1, qj3, qj5, qj6, qj8, qj12, qj13, qj14, qj15, qj16, qj18, qj19⟩, ⟨qs1, qs2, qs3, qs4, qs5, qs6, qs7, qs8, qs9, qs10, qs11, qs12, qs13⟩⟩ := id hM
  refine wa_aload_n hX dX7_assign_0 rfl ?_
  refine wa_vM hX (tX7_isExpressionText _ hM hT hV) bX7_isExpressionText mX7_113 (by decide) (by decide) (ci := 6) ⟨by decide, rfl⟩ q0 rfl rfl (Nat.le_of_ble_eq_true rfl) dX7_assign_1 (fun r_1 I_1 q_1 => ?_)
  obtain ⟨w0, w1, w2, w3⟩ := q_1
  have hG2 : MV Sh I_1 J Q F := hG.rd w2.1 (fun b hb => w2.2 b (by omega) (by omega))
  have hFr : ∀ b, b < Q ∨ Q + 14 ≤ b → I_1 b = I b := fun b hb => w2.2 b (by omega) (by omega)
  refine wa_if_ne (tgt := 15) hX dX7_assign_4 (by decide) (fun c_4 => ?_) (fun c_4 => ?_)
  · skip
    obtain ⟨⟨m, w⟩, q, ew⟩ := of_some w0 c_4
    obtain ⟨w4, hm, hw⟩ := w3 m w (by rw [ew])
    refine wa_aload_n hX dX7_assign_15 rfl ?_
    refine wa_vW hX (tX7_record _ hG2) bX7_record mX7_88 (by decide) (by decide) (ci := 6) ⟨by decide, rfl⟩ q0 rfl rfl (Nat.le_of_ble_eq_true rfl) dX7_assign_16 (fun I_16 q_16 => ?_)
    obtain ⟨hG1, hF1, hq1, hn1⟩ := q_16
    have hV1 : VF (I_16 (Q + 1)) (gN F) := hG1.2.1
    refine wa_aload_n hX dX7_assign_19 rfl ?_
    refine wa_aload_n hX dX7_assign_20 rfl ?_
    refine wa_getI hX fX7_116 rfl q0 dX7_assign_21 ?_
    rw [hq1 11 (by decide), w4]
    refine wa_aload_n hX dX7_assign_24 rfl ?_
    refine wa_getR hX fX7_29 rfl q0 qj12 dX7_assign_25 ?_
    refine wa_vM hX (tX7_becomes _ hM (S := gN F) hV1 hm (b := Q + 7) (w := w) qs7 (by omega) (fun k hk => by rw [hF1 (Q + 7) (by omega)]; exact hw k hk)) bX7_becomes mX7_109 (by decide) (by decide) (ci := 6) ⟨by decide, rfl⟩ q0 rfl rfl (Nat.le_of_ble_eq_true rfl) dX7_assign_28 (fun r_28 I_28 q_28 => ?_)
    obtain ⟨w5, w6, w7⟩ := q_28
    refine hret _ _ _ _ _ ⟨?_, rfl⟩ dX7_assign_31
    rw [assF_s ew]
    exact ⟨w5, hG1.now w6 (fun b hb => w7.n (by omega)), fun b hb => by rw [w7.n (by omega), hF1 b (by omega)]; exact hFr b hb⟩
  · skip
    obtain ⟨q, ew⟩ := of_none w0 c_4
    refine wa_bipush (v := -100) hX dX7_assign_7 (by decide) ?_
    refine wa_aload_n hX dX7_assign_9 rfl ?_
    refine wa_getI hX fX7_85 rfl q0 dX7_assign_10 ?_
    rw [w1, ew]
    refine wa_isub hX dX7_assign_13 ?_
    refine hret _ _ _ _ _ ⟨?_, rfl⟩ dX7_assign_14
    rw [assF_n ew]
    exact ⟨rfl, hG2, hFr⟩

set_option maxHeartbeats 4000000 in
set_option maxRecDepth 100000 in
theorem tX7_gives {l : Launch} {D : va_G} {A : Nat → Prop} {N : Nat} {Sh : SM} {J : JM} (I : IM) {Q : Nat} {F : FS} (hG : MV Sh I J Q F) (x : Int32) : CtM l D A yX7_gives cX7_gives 2 FieldType.int 6 N Sh I J [.ref Q, .int x] (fun r I' => AM Sh I J Q (onB 16 x (fun k => givF F k) (-1), F) r I') := by
  refine ct_I (l0 := [(0, .ref Q), (1, .int x)]) (by decide +kernel) (Nat.le_of_ble_eq_true rfl) rfl (fun _ _ _ _ => rfl) ?_
  intro X hX hret _ _ _
  have hX : XK X RX7 cX7_gives 2 6 := hX
  obtain ⟨hM, hV, ⟨hc1, hc2⟩, hp, hkk, hT⟩ := id hG
  obtain ⟨q0, ⟨qj0, qj1, qj3, qj5, qj6, qj8, qj12, qj13, qj14, qj15, qj16, qj18, qj19⟩, ⟨qs1, qs2, qs3, qs4, qs5, qs6, qs7, qs8, qs9, qs10, qs11, qs12, qs13⟩⟩ := id hM
  refine wa_iload_n hX dX7_gives_0 rfl ?_
  refine wa_sP hX (tX7_noKey I x) bX7_noKey mX7_106 (by decide) (by decide) rfl rfl (Nat.le_of_ble_eq_true rfl) dX7_gives_1 (fun r_1 q_1 => ?_)
  subst q_1
  refine wa_if_eq (tgt := 9) hX dX7_gives_4 (by decide) (fun c_4 => ?_) (fun c_4 => ?_)
  · skip
    have n_4 : inB 16 x = true := by have := bI_0.mp c_4; simpa using this
    obtain ⟨k, hk, ek⟩ := inB_t (by decide) n_4
    subst ek
    refine wa_aload_n hX dX7_gives_9 rfl ?_
    refine wa_vM hX (tX7_isExpressionText _ hM hT hV) bX7_isExpressionText mX7_113 (by decide) (by decide) (ci := 6) ⟨by decide, rfl⟩ q0 rfl rfl (Nat.le_of_ble_eq_true rfl) dX7_gives_10 (fun r_10 I_10 q_10 => ?_)
    obtain ⟨w0, w1, w2, w3⟩ := q_10
    have hG2 : MV Sh I_10 J Q F := hG.rd w2.1 (fun b hb => w2.2 b (by omega) (by omega))
    have hFr : ∀ b, b < Q ∨ Q + 14 ≤ b → I_10 b = I b := fun b hb => w2.2 b (by omega) (by omega)
    refine wa_if_ne (tgt := 24) hX dX7_gives_13 (by decide) (fun c_13 => ?_) (fun c_13 => ?_)
    · skip
      obtain ⟨⟨m, w⟩, q, ew⟩ := of_some w0 c_13
      obtain ⟨w4, hm, hw⟩ := w3 m w (by rw [ew])
      have hwk := (hw k hk).2
      refine wa_aload_n hX dX7_gives_24 rfl ?_
      refine wa_getR hX fX7_29 rfl q0 qj12 dX7_gives_25 ?_
      refine wa_iload_n hX dX7_gives_28 rfl ?_
      refine wa_iald hX qs7 rfl hk (by decide) dX7_gives_29 ?_
      rw [(hw k hk).1]
      refine wa_bipush (v := nI 16) hX dX7_gives_30 (by decide) ?_
      refine wa_icmp_ne (tgt := 40) hX dX7_gives_32 (by decide) (fun c_32 => ?_) (fun c_32 => ?_)
      · skip
        have c1 : ¬ nI (w k) = nI 16 := c_32
        refine wa_aload_n hX dX7_gives_40 rfl ?_
        refine wa_getR hX fX7_29 rfl q0 qj12 dX7_gives_41 ?_
        refine wa_iload_n hX dX7_gives_44 rfl ?_
        refine wa_iald hX qs7 rfl hk (by decide) dX7_gives_45 ?_
        rw [(hw k hk).1]
        refine hret _ _ _ _ _ ⟨?_, rfl⟩ dX7_gives_46
        rw [onB_in hk (by decide), givF_s ew]
        exact ⟨by unfold orN; rw [if_neg c1], hG2, hFr⟩
      · skip
        have c1 : nI (w k) = nI 16 := c_32
        refine wa_bipush (v := -5) hX dX7_gives_35 (by decide) ?_
        refine wa_goto (tgt := 46) hX dX7_gives_37 (by decide) ?_
        refine hret _ _ _ _ _ ⟨?_, rfl⟩ dX7_gives_46
        rw [onB_in hk (by decide), givF_s ew]
        exact ⟨by unfold orN; rw [if_pos c1], hG2, hFr⟩
    · skip
      obtain ⟨q, ew⟩ := of_none w0 c_13
      refine wa_bipush (v := -100) hX dX7_gives_16 (by decide) ?_
      refine wa_aload_n hX dX7_gives_18 rfl ?_
      refine wa_getI hX fX7_85 rfl q0 dX7_gives_19 ?_
      rw [w1, ew]
      refine wa_isub hX dX7_gives_22 ?_
      refine hret _ _ _ _ _ ⟨?_, rfl⟩ dX7_gives_23
      rw [onB_in hk (by decide), givF_n ew]
      exact ⟨rfl, hG2, hFr⟩
  · skip
    have n_4 : inB 16 x = false := by have := bI_n0.mp c_4; simpa using this
    refine wa_iconst (v := -1) hX dX7_gives_7 (by decide) ?_
    exact hret _ _ _ _ _ ⟨AM.no hG (c := -1) (by rw [onB_out n_4]) rfl, rfl⟩ dX7_gives_8

