/-! PileMapsModel: ask, hide -/
set_option maxHeartbeats 4000000 in
set_option maxRecDepth 100000 in
theorem tX7_ask {l : Launch} {D : va_G} {A : Nat → Prop} {N : Nat} {Sh : SM} {J : JM} (I : IM) {Q : Nat} {F : FS} (hG : MV Sh I J Q F) (x : Int32) : CtM l D A yX7_ask cX7_ask 4 FieldType.int 3 N Sh I J [.ref Q, .int x] (fun r I' => AM Sh I J Q (askF F x) r I') := by
  refine ct_I (l0 := [(0, .ref Q), (1, .int x)]) (by decide +kernel) (Nat.le_of_ble_eq_true rfl) rfl (fun _ _ _ _ => rfl) ?_
  intro X hX hret _ _ _
  have hX : XK X RX7 cX7_ask 4 3 := hX
  obtain ⟨hM, hV, ⟨hc1, hc2⟩, hp, hkk, hT⟩ := id hG
  obtain ⟨q0, ⟨qj0, qj1, qj3, qj5, qj6, qj8, qj12, qj13, qj14, qj15, qj16, qj18, qj19⟩, ⟨qs1, qs2, qs3, qs4, qs5, qs6, qs7, qs8, qs9, qs10, qs11, qs12, qs13⟩⟩ := id hM
  refine wa_iload_n hX dX7_ask_0 rfl ?_
  refine wa_sP hX (tX7_noKey I x) bX7_noKey mX7_106 (by decide) (by decide) rfl rfl (Nat.le_of_ble_eq_true rfl) dX7_ask_1 (fun r_1 q_1 => ?_)
  subst q_1
  refine wa_if_eq (tgt := 9) hX dX7_ask_4 (by decide) (fun c_4 => ?_) (fun c_4 => ?_)
  · skip
    have n_4 : inB 16 x = true := by have := bI_0.mp c_4; simpa using this
    obtain ⟨k, hk, ek⟩ := inB_t (by decide) n_4
    subst ek
    refine wa_aload_n hX dX7_ask_9 rfl ?_
    refine wa_getR hX fX7_7 rfl (by assumption) (by assumption) dX7_ask_10 ?_
    refine wa_sipush (v := nI 415) hX dX7_ask_13 (by decide) ?_
    refine wa_iald hX (by assumption) rfl (show 415 < 514 by decide) (by decide) dX7_ask_16 ?_
    rw [hV.2.2.1.1]
    refine wa_if_ne (tgt := 23) hX dX7_ask_17 (by decide) (fun c_17 => ?_) (fun c_17 => ?_)
    · skip
      have c1 : aHid (gN F) ≠ 0 := fun e => c_17 (by rw [e]; rfl)
      obtain ⟨h, eh⟩ : ∃ h, aHid (gN F) = h + 1 := ⟨aHid (gN F) - 1, by omega⟩
      have h6 := hV.2.2.1.2
      refine wa_aload_n hX dX7_ask_23 rfl ?_
      refine wa_vW hX (tX7_record I hG) bX7_record mX7_88 (by decide) (by decide) (ci := 6) ⟨by decide, rfl⟩ (by first | exact hM.1 | assumption) rfl rfl (Nat.le_of_ble_eq_true rfl) dX7_ask_24 (fun I_24 q_24 => ?_)
      obtain ⟨hG1, hF1, hq1, hn1⟩ := q_24
      have hV1 : VF (I_24 (Q + 1)) (gN F) := hG1.2.1
      refine wa_aload_n hX dX7_ask_27 rfl ?_
      refine wa_aload_n hX dX7_ask_28 rfl ?_
      refine wa_getR hX fX7_7 rfl (by assumption) (by assumption) dX7_ask_29 ?_
      refine wa_sipush (v := nI 415) hX dX7_ask_32 (by decide) ?_
      refine wa_iald hX (by assumption) rfl (show 415 < 514 by decide) (by decide) dX7_ask_35 ?_
      refine wa_iconst (v := nI 1) hX dX7_ask_36 (by decide) ?_
      rw [hV1.2.2.1.1, eh]
      refine wa_isub hX dX7_ask_37 ?_
      rw [show nI (h + 1) - nI 1 = nI h from nI_pred h]
      refine wa_iload_n hX dX7_ask_38 rfl ?_
      refine wa_vP hX (tX7_known _ hM hV1 (show h < 6 by omega) hk) bX7_known mX7_122 (by decide) (by decide) (ci := 6) ⟨by decide, rfl⟩ (by first | exact hM.1 | assumption) rfl rfl (Nat.le_of_ble_eq_true rfl) dX7_ask_39 (fun r_39 q_39 => ?_)
      subst q_39
      refine wa_istore_n hX dX7_ask_42 (by decide) ?_
      refine wa_iconst (v := nI 0) hX dX7_ask_43 (by decide) ?_
      refine wa_istore_n hX dX7_ask_44 (by decide) ?_
      refine wx_sub (l' := [(0, _), (1, _), (2, _), (3, _)]) ⟨rfl, rfl, rfl, rfl, trivial⟩ ?_
      have lp : ∀ (n i : Nat) (I1 : IM), i + n = 6 → (VF (I1 (Q + 1)) (sK (gN F) (h + 1) (ansV (aSus (gN F)) (aKn (gN F)) h k i) (aAsk (gN F)) (aKn (gN F)))) → (∀ b, b ≠ Q + 1 → I1 b = I_24 b) → WX X 0 0 N Sh I1 J 45 [(0, .ref Q), (1, .int (nI k)), (2, .int (nI (aKn (gN F) h k))), (3, .int (nI i))] [] := by
        intro n
        induction n with
        | zero =>
          intro i I1 hi hW hK
          obtain rfl : 6 = i := by omega
          refine wa_iload_n hX dX7_ask_45 rfl ?_
          refine wa_bipush (v := nI 6) hX dX7_ask_46 (by decide) ?_
          refine wa_icmp_ge (tgt := 89) hX dX7_ask_48 (by decide) (fun c_48 => ?_) (fun c_48 => absurd (Int32.le_refl _) c_48)
          refine wa_aload_n hX dX7_ask_89 rfl ?_
          refine wa_getR hX fX7_7 rfl (by assumption) (by assumption) dX7_ask_90 ?_
          refine wa_sipush (v := nI 417) hX dX7_ask_93 (by decide) ?_
          refine wa_dup2 hX dX7_ask_96 rfl rfl ?_
          refine wa_iald hX (by assumption) rfl (show 417 < 514 by decide) (by decide) dX7_ask_97 ?_
          have haa : I1 (Q + 1) 417 = nI (aAsk (gN F)) := hW.2.2.2.2.1
          rw [haa]
          refine wa_iconst (v := nI 1) hX dX7_ask_98 (by decide) ?_
          refine wa_iadd hX dX7_ask_99 ?_
          rw [show nI (aAsk (gN F)) + nI 1 = nI (aAsk (gN F) + 1) from nI_add _ 1]
          refine wa_iast hX (by assumption) rfl (show 417 < 514 by decide) (by decide) dX7_ask_100 ?_
          refine wa_iload_n hX dX7_ask_101 rfl ?_
          refine hret _ _ _ _ _ ⟨?_, rfl⟩ dX7_ask_102
          unfold askF
          rw [onA_in hk (by decide), if_neg (by omega), eh, Nat.add_sub_cancel]
          refine ⟨rfl, hG1.now ?_ (fun b hb => (u2_n (by omega)).trans (hK b (by omega))), fun b hb => ((u2_n (by omega)).trans (hK b (by omega))).trans (hF1 b (by omega))⟩
          have e9 : sK (gN F) (h + 1) (ansV (aSus (gN F)) (aKn (gN F)) h k 6) (aAsk (gN F) + 1) (aKn (gN F)) = sK (sK (gN F) (h + 1) (ansV (aSus (gN F)) (aKn (gN F)) h k 6) (aAsk (gN F)) (aKn (gN F))) (h + 1) (ansV (aSus (gN F)) (aKn (gN F)) h k 6) (aAsk (gN F) + 1) (aKn (gN F)) := rfl
          rw [e9, u2_a]
          have oth : ∀ x, x ≠ 417 → upd (I1 (Q + 1)) 417 (nI (aAsk (gN F) + 1)) x = I1 (Q + 1) x := fun x hx => if_neg hx
          exact hW.sec (fun x hx => oth x (by omega)) (by rw [oth 415 (by decide)]; exact hW.2.2.1) (by rw [oth 416 (by decide)]; exact hW.2.2.2.1) (if_pos rfl) (fun a ha b hb => by rw [oth _ (by omega)]; exact hW.2.2.2.2.2 a ha b hb)
        | succ n ih =>
          intro i I1 hi hW hK
          have hlt : i < 6 := by omega
          refine wa_iload_n hX dX7_ask_45 rfl ?_
          refine wa_bipush (v := nI 6) hX dX7_ask_46 (by decide) ?_
          refine wa_icmp_ge (tgt := 89) hX dX7_ask_48 (by decide) (fun c_48 => absurd c_48 (nI_ge hlt (by decide))) (fun c_48 => ?_)
          refine wa_aload_n hX dX7_ask_51 rfl ?_
          refine wa_getR hX fX7_7 rfl (by assumption) (by assumption) dX7_ask_52 ?_
          refine wa_sipush (v := nI 416) hX dX7_ask_55 (by decide) ?_
          refine wa_dup2 hX dX7_ask_58 rfl rfl ?_
          refine wa_iald hX (by assumption) rfl (show 416 < 514 by decide) (by decide) dX7_ask_59 ?_
          have hsu : I1 (Q + 1) 416 = nI (ansV (aSus (gN F)) (aKn (gN F)) h k i) ∧ ansV (aSus (gN F)) (aKn (gN F)) h k i < 64 := hW.2.2.2.1
          rw [hsu.1]
          refine wa_aload_n hX dX7_ask_60 rfl ?_
          refine wa_iload_n hX dX7_ask_61 rfl ?_
          refine wa_iload_n hX dX7_ask_62 rfl ?_
          refine wa_vP hX (tX7_known _ hM hW hlt hk) bX7_known mX7_122 (by decide) (by decide) (ci := 6) ⟨by decide, rfl⟩ (by first | exact hM.1 | assumption) rfl rfl (Nat.le_of_ble_eq_true rfl) dX7_ask_63 (fun r_63 q_63 => ?_)
          have q_63 : r_63 = nI (aKn (gN F) i k) := q_63
          subst q_63
          refine wa_iload_n hX dX7_ask_66 rfl ?_
          refine wa_icmp_ne (tgt := 75) hX dX7_ask_67 (by decide) (fun c_67 => ?_) (fun c_67 => ?_)
          · skip
            have c2 := ne_of_nI c_67
            refine wa_bipush (v := nI 63) hX dX7_ask_75 (by decide) ?_
            refine wa_iconst (v := nI 1) hX dX7_ask_77 (by decide) ?_
            refine wa_iload_n hX dX7_ask_78 rfl ?_
            refine wa_ishl hX dX7_ask_79 ?_
            refine wa_isub hX dX7_ask_80 ?_
            refine wa_iand hX dX7_ask_81 ?_
            rw [(clr_c _ hsu.2 i hlt).2.1]
            refine wa_iast hX (by assumption) rfl (show 416 < 514 by decide) (by decide) dX7_ask_82 ?_
            refine wa_iinc hX dX7_ask_83 rfl (inc1 _) (by decide) ?_
            refine wa_goto (tgt := 45) hX dX7_ask_86 (by decide) ?_
            refine wx_sub (l' := [(0, _), (1, _), (2, _), (3, _)]) ⟨rfl, rfl, rfl, rfl, trivial⟩ ?_
            refine ih (i + 1) _ (by omega) ?_ (fun b hb => (u2_n hb).trans (hK b hb))
            rw [ansV_f c2, u2_a]
            have oth : ∀ v x, x ≠ 416 → upd (I1 (Q + 1)) 416 v x = I1 (Q + 1) x := fun v x hx => if_neg hx
            exact VF.sec (S := sK (gN F) (h + 1) (ansV (aSus (gN F)) (aKn (gN F)) h k i) (aAsk (gN F)) (aKn (gN F))) hW (fun x hx => oth _ x (by omega)) (by rw [oth _ 415 (by decide)]; exact hW.2.2.1) ⟨if_pos rfl, (clr_c _ hsu.2 i hlt).2.2⟩ (by rw [oth _ 417 (by decide)]; exact hW.2.2.2.2.1) (fun a ha b hb => by rw [oth _ _ (by omega)]; exact hW.2.2.2.2.2 a ha b hb)
          · skip
            have c2 := eq_of_nI c_67 (by have := (hV.2.2.2.2.2 i hlt k hk).2; omega) (by have := (hV.2.2.2.2.2 h (by omega) k hk).2; omega)
            refine wa_bipush (v := nI 63) hX dX7_ask_70 (by decide) ?_
            refine wa_goto (tgt := 81) hX dX7_ask_72 (by decide) ?_
            refine wa_iand hX dX7_ask_81 ?_
            refine wa_iast hX (by assumption) rfl (show 416 < 514 by decide) (by decide) dX7_ask_82 ?_
            refine wa_iinc hX dX7_ask_83 rfl (inc1 _) (by decide) ?_
            refine wa_goto (tgt := 45) hX dX7_ask_86 (by decide) ?_
            refine wx_sub (l' := [(0, _), (1, _), (2, _), (3, _)]) ⟨rfl, rfl, rfl, rfl, trivial⟩ ?_
            have e63 := clr_63 _ hsu.2
            refine ih (i + 1) _ (by omega) ?_ (fun b hb => (u2_n hb).trans (hK b hb))
            rw [ansV_t c2, u2_a]
            have oth : ∀ v x, x ≠ 416 → upd (I1 (Q + 1)) 416 v x = I1 (Q + 1) x := fun v x hx => if_neg hx
            exact VF.sec (S := sK (gN F) (h + 1) (ansV (aSus (gN F)) (aKn (gN F)) h k i) (aAsk (gN F)) (aKn (gN F))) hW (fun x hx => oth _ x (by omega)) (by rw [oth _ 415 (by decide)]; exact hW.2.2.1) ⟨(if_pos rfl).trans e63, hsu.2⟩ (by rw [oth _ 417 (by decide)]; exact hW.2.2.2.2.1) (fun a ha b hb => by rw [oth _ _ (by omega)]; exact hW.2.2.2.2.2 a ha b hb)
      have hS0 : sK (gN F) (h + 1) (aSus (gN F)) (aAsk (gN F)) (aKn (gN F)) = gN F := by
        rw [← eh]
        rfl
      exact lp 6 0 _ (by omega) (by show VF _ (sK (gN F) (h + 1) (aSus (gN F)) (aAsk (gN F)) (aKn (gN F))); rw [hS0]; exact hV1) (fun _ _ => rfl)
    · skip
      have c1 : aHid (gN F) = 0 := eq_of_nI c_17 (by have := hV.2.2.1.2; omega) (by decide)
      refine wa_bipush (v := -4) hX dX7_ask_20 (by decide) ?_
      exact hret _ _ _ _ _ ⟨AM.no hG (c := -4) (by unfold askF; rw [onA_in hk (by decide), if_pos c1]) rfl, rfl⟩ dX7_ask_22
  · skip
    have n_4 : inB 16 x = false := by have := bI_n0.mp c_4; simpa using this
    refine wa_iconst (v := -1) hX dX7_ask_7 (by decide) ?_
    exact hret _ _ _ _ _ ⟨AM.no hG (c := -1) (by unfold askF; exact onA_out n_4) rfl, rfl⟩ dX7_ask_8

