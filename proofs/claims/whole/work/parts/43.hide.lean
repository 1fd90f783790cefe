/-! PileMapsModel: hide -/
def kmF (S : AS) (n : Nat) : Nat → Nat → Nat := fun a b => if 16 * a + b < n then aV S a b else aKn S a b
set_option maxHeartbeats 4000000 in
set_option maxRecDepth 100000 in
theorem tX7_hide {l : Launch} {D : va_G} {A : Nat → Prop} {N : Nat} {Sh : SM} {J : JM} (I : IM) {Q : Nat} {F : FS} (hG : MV Sh I J Q F) (x y : Int32) : CtM l D A yX7_hide cX7_hide 5 FieldType.int 4 N Sh I J [.ref Q, .int x, .int y] (fun r I' => AM Sh I J Q (hideF F x y) r I') := by
  refine ct_I (l0 := [(0, .ref Q), (1, .int x), (2, .int y)]) (by decide +kernel) (Nat.le_of_ble_eq_true rfl) rfl (fun _ _ _ _ => rfl) ?_
  intro X hX hret _ _ _
  have hX : XK X RX7 cX7_hide 5 4 := hX
  obtain ⟨hM, hV, ⟨hc1, hc2⟩, hp, hkk, hT⟩ := id hG
  obtain ⟨q0, ⟨qj0, qj1, qj3, qj5, qj6, qj8, qj12, qj13, qj14, qj15, qj16, qj18, qj19⟩, ⟨qs1, qs2, qs3, qs4, qs5, qs6, qs7, qs8, qs9, qs10, qs11, qs12, qs13⟩⟩ := id hM
  refine wa_iload_n hX dX7_hide_0 rfl ?_
  refine wa_sP hX (tX7_noMap I x) bX7_noMap mX7_55 (by decide) (by decide) rfl rfl (Nat.le_of_ble_eq_true rfl) dX7_hide_1 (fun r_1 q_1 => ?_)
  subst q_1
  refine wa_if_eq (tgt := 9) hX dX7_hide_4 (by decide) (fun c_4 => ?_) (fun c_4 => ?_)
  · skip
    have n_4 : inB 6 x = true := by have := bI_0.mp c_4; simpa using this
    obtain ⟨m, hm, em⟩ := inB_t (by decide) n_4
    subst em
    refine wa_iload_n hX dX7_hide_9 rfl ?_
    refine wa_iconst (v := nI 1) hX dX7_hide_10 (by decide) ?_
    refine wa_bipush (v := nI 63) hX dX7_hide_11 (by decide) ?_
    refine wa_sP hX (tX7_in I y (nI 1) (nI 63)) bX7_in mX7_51 (by decide) (by decide) rfl rfl (Nat.le_of_ble_eq_true rfl) dX7_hide_13 (fun r_13 q_13 => ?_)
    subst q_13
    refine wa_if_eq (tgt := 27) hX dX7_hide_16 (by decide) (fun c_16 => ?_) (fun c_16 => ?_)
    · skip
      have n1 := bI_0.mp c_16
      have c0 : hideF F (nI m) y = (-2, F) := by
        unfold hideF
        rw [onA_in hm (by decide)]
        cases e : inB 64 y with
        | false => exact onA_out e
        | true =>
          obtain ⟨s1, hs1, e2⟩ := inB_t (by decide) e
          subst e2
          rw [onA_in hs1 (by decide)]
          by_cases q : s1 = 0
          · rw [if_pos q]
          · exact absurd (show inR (nI s1) (nI 1) (nI 63) = true from decide_eq_true ⟨nI_nlt (by omega) (by omega), nI_nlt (by omega) (by decide)⟩) (by rw [n1]; decide)
      refine wa_bipush (v := -2) hX dX7_hide_27 (by decide) ?_
      exact hret _ _ _ _ _ ⟨AM.no hG (c := -2) c0 rfl, rfl⟩ dX7_hide_29
    · skip
      have n1 : ¬ y < nI 1 ∧ ¬ nI 63 < y := of_decide_eq_true (bI_n0.mp c_16)
      obtain ⟨s1, hs1, es1⟩ := nI_of2 (n := 63) (by decide) (show ¬ y < 0 from fun h => n1.1 (Int32.lt_trans h (by decide))) (Int32.not_lt.mp n1.2)
      subst es1
      have h0 : s1 ≠ 0 := fun e => n1.1 (by rw [e]; decide)
      refine wa_iload_n hX dX7_hide_19 rfl ?_
      refine wa_iload_n hX dX7_hide_20 rfl ?_
      refine wa_ishr hX dX7_hide_21 ?_
      refine wa_iconst (v := nI 1) hX dX7_hide_22 (by decide) ?_
      refine wa_iand hX dX7_hide_23 ?_
      refine wa_if_ne (tgt := 30) hX dX7_hide_24 (by decide) (fun c_24 => ?_) (fun c_24 => ?_)
      · skip
        have c1 : bt (nI s1) m = true := by
          cases e : bt (nI s1) m with
          | true => rfl
          | false => exact absurd ((bt_t0 (by omega) _).mpr e) c_24
        refine wa_aload_n hX dX7_hide_30 rfl ?_
        refine wa_vW hX (tX7_record I hG) bX7_record mX7_88 (by decide) (by decide) (ci := 6) ⟨by decide, rfl⟩ (by first | exact hM.1 | assumption) rfl rfl (Nat.le_of_ble_eq_true rfl) dX7_hide_31 (fun I_31 q_31 => ?_)
        obtain ⟨hG1, hF1, hq1, hn1⟩ := q_31
        have hV1 : VF (I_31 (Q + 1)) (gN F) := hG1.2.1
        refine wa_aload_n hX dX7_hide_34 rfl ?_
        refine wa_getR hX fX7_7 rfl (by assumption) (by assumption) dX7_hide_35 ?_
        refine wa_sipush (v := nI 415) hX dX7_hide_38 (by decide) ?_
        refine wa_iload_n hX dX7_hide_41 rfl ?_
        refine wa_iconst (v := nI 1) hX dX7_hide_42 (by decide) ?_
        refine wa_iadd hX dX7_hide_43 ?_
        rw [show nI m + nI 1 = nI (m + 1) from nI_add _ 1]
        refine wa_iast hX (by assumption) rfl (show 415 < 514 by decide) (by decide) dX7_hide_44 ?_
        refine wa_aload_n hX dX7_hide_45 rfl ?_
        refine wa_getR hX fX7_7 rfl (by assumption) (by assumption) dX7_hide_46 ?_
        refine wa_sipush (v := nI 416) hX dX7_hide_49 (by decide) ?_
        refine wa_iload_n hX dX7_hide_52 rfl ?_
        refine wa_iast hX (by assumption) rfl (show 416 < 514 by decide) (by decide) dX7_hide_53 ?_
        refine wa_aload_n hX dX7_hide_54 rfl ?_
        refine wa_getR hX fX7_7 rfl (by assumption) (by assumption) dX7_hide_55 ?_
        refine wa_sipush (v := nI 417) hX dX7_hide_58 (by decide) ?_
        refine wa_iconst (v := nI 0) hX dX7_hide_61 (by decide) ?_
        refine wa_iast hX (by assumption) rfl (show 417 < 514 by decide) (by decide) dX7_hide_62 ?_
        refine wa_iconst (v := nI 0) hX dX7_hide_63 (by decide) ?_
        refine wa_istore_n hX dX7_hide_64 (by decide) ?_
        have lp : ∀ (n i : Nat) (I2 : IM), i + n = 6 → (VF (I2 (Q + 1)) (sK (gN F) (m + 1) s1 0 (kmF (gN F) (16 * i)))) → (∀ b, b ≠ Q + 1 → I2 b = I_31 b) → WX X 0 0 N Sh I2 J 65 [(0, .ref Q), (1, .int (nI m)), (2, .int (nI s1)), (3, .int (nI i))] [] := by
          intro n
          induction n with
          | zero =>
            intro i I2 hi hW hK
            obtain rfl : 6 = i := by omega
            refine wa_iload_n hX dX7_hide_65 rfl ?_
            refine wa_bipush (v := nI 6) hX dX7_hide_66 (by decide) ?_
            refine wa_icmp_ge (tgt := 116) hX dX7_hide_68 (by decide) (fun c_68 => ?_) (fun c_68 => absurd (Int32.le_refl _) c_68)
            refine wa_iload_n hX dX7_hide_116 rfl ?_
            refine wa_sP hX (tX7_bits _ (nI s1)) bX7_bits mX7_119 (by decide) (by decide) rfl rfl (Nat.le_of_ble_eq_true rfl) dX7_hide_117 (fun r_117 q_117 => ?_)
            rw [bc_64 s1 (by omega)] at q_117
            refine hret _ _ _ _ _ ⟨?_, rfl⟩ dX7_hide_120
            unfold hideF
            rw [onA_in hm (by decide), onA_in (show s1 < 64 by omega) (by decide), if_neg h0, if_pos c1]
            refine ⟨q_117, hG1.now ?_ (fun b hb => hK b (by omega)), fun b hb => (hK b (by omega)).trans (hF1 b (by omega))⟩
            refine VF.sec (S := (sK (gN F) (m + 1) s1 0 (kmF (gN F) (16 * 6)))) hW (fun x hx => rfl) hW.2.2.1 hW.2.2.2.1 hW.2.2.2.2.1 (fun a ha b hb => ?_)
            have h9 := hW.2.2.2.2.2 a ha b hb
            rw [show aKn (sK (gN F) (m + 1) s1 0 (kmF (gN F) (16 * 6))) a b = aV (gN F) a b from if_pos (by omega)] at h9
            exact h9
          | succ n ih =>
            intro i I2 hi hW hK
            have hlt : i < 6 := by omega
            refine wa_iload_n hX dX7_hide_65 rfl ?_
            refine wa_bipush (v := nI 6) hX dX7_hide_66 (by decide) ?_
            refine wa_icmp_ge (tgt := 116) hX dX7_hide_68 (by decide) (fun c_68 => absurd c_68 (nI_ge hlt (by decide))) (fun c_68 => ?_)
            refine wa_iconst (v := nI 0) hX dX7_hide_71 (by decide) ?_
            refine wa_istore hX dX7_hide_72 (by decide) ?_
            have hlti : i < 6 := hlt
            have li : ∀ (n k : Nat) (I3 : IM), k + n = 16 → (VF (I3 (Q + 1)) (sK (gN F) (m + 1) s1 0 (kmF (gN F) (16 * i + k)))) → (∀ b, b ≠ Q + 1 → I3 b = I_31 b) → WX X 0 0 N Sh I3 J 74 [(0, .ref Q), (1, .int (nI m)), (2, .int (nI s1)), (3, .int (nI i)), (4, .int (nI k))] [] := by
              intro n
              induction n with
              | zero =>
                intro k I3 hi hW hK
                obtain rfl : 16 = k := by omega
                refine wa_iload hX dX7_hide_74 rfl ?_
                refine wa_bipush (v := nI 16) hX dX7_hide_76 (by decide) ?_
                refine wa_icmp_ge (tgt := 110) hX dX7_hide_78 (by decide) (fun c_78 => ?_) (fun c_78 => absurd (Int32.le_refl _) c_78)
                refine wa_iinc hX dX7_hide_110 rfl (inc1 _) (by decide) ?_
                refine wa_goto (tgt := 65) hX dX7_hide_113 (by decide) ?_
                refine wx_sub (l' := [(0, _), (1, _), (2, _), (3, _)]) ⟨rfl, rfl, rfl, rfl, trivial⟩ ?_
                exact ih (i + 1) I3 (by omega) (by rw [show 16 * (i + 1) = 16 * i + 16 by omega]; exact hW) hK
              | succ n ih =>
                intro k I3 hi hW hK
                have hlt : k < 16 := by omega
                refine wa_iload hX dX7_hide_74 rfl ?_
                refine wa_bipush (v := nI 16) hX dX7_hide_76 (by decide) ?_
                refine wa_icmp_ge (tgt := 110) hX dX7_hide_78 (by decide) (fun c_78 => absurd c_78 (nI_ge hlt (by decide))) (fun c_78 => ?_)
                refine wa_aload_n hX dX7_hide_81 rfl ?_
                refine wa_getR hX fX7_7 rfl (by assumption) (by assumption) dX7_hide_82 ?_
                refine wa_sipush (v := nI 418) hX dX7_hide_85 (by decide) ?_
                refine wa_bipush (v := nI 16) hX dX7_hide_88 (by decide) ?_
                refine wa_iload_n hX dX7_hide_90 rfl ?_
                refine wa_imul hX dX7_hide_91 ?_
                refine wa_iadd hX dX7_hide_92 ?_
                refine wa_iload hX dX7_hide_93 rfl ?_
                refine wa_iadd hX dX7_hide_95 ?_
                refine wa_aload_n hX dX7_hide_96 rfl ?_
                refine wa_iload_n hX dX7_hide_97 rfl ?_
                refine wa_iload hX dX7_hide_98 rfl ?_
                refine wa_vP hX (tX7_value _ hM hW hlti hlt) bX7_value mX7_75 (by decide) (by decide) (ci := 6) ⟨by decide, rfl⟩ (by first | exact hM.1 | assumption) rfl rfl (Nat.le_of_ble_eq_true rfl) dX7_hide_100 (fun r_100 q_100 => ?_)
                have q_100 : r_100 = nI (aV (sK (gN F) (m + 1) s1 0 (kmF (gN F) (16 * i + k))) i k) := q_100
                rw [show aV (sK (gN F) (m + 1) s1 0 (kmF (gN F) (16 * i + k))) = aV (gN F) from aV_1 rfl] at q_100
                subst q_100
                refine wa_iast hX (by assumption) (ixk i k) (show 418 + 16 * i + k < 514 by omega) (by decide) dX7_hide_103 ?_
                refine wa_iinc hX dX7_hide_104 rfl (inc1 _) (by decide) ?_
                refine wa_goto (tgt := 74) hX dX7_hide_107 (by decide) ?_
                refine wx_sub (l' := [(0, _), (1, _), (2, _), (3, _), (4, _)]) ⟨rfl, rfl, rfl, rfl, rfl, trivial⟩ ?_
                refine ih (k + 1) _ (by omega) ?_ (fun b hb => (u2_n hb).trans (hK b hb))
                rw [u2_a]
                have oth : ∀ x, x ≠ 418 + 16 * i + k → upd (I3 (Q + 1)) (418 + 16 * i + k) (nI (aV (gN F) i k)) x = I3 (Q + 1) x := fun x hx => if_neg hx
                refine VF.sec (S := (sK (gN F) (m + 1) s1 0 (kmF (gN F) (16 * i + k)))) hW (fun x hx => oth x (by omega)) (by rw [oth 415 (by omega)]; exact hW.2.2.1) (by rw [oth 416 (by omega)]; exact hW.2.2.2.1) (by rw [oth 417 (by omega)]; exact hW.2.2.2.2.1) (fun a ha b hb => ?_)
                by_cases e : a = i ∧ b = k
                · obtain ⟨rfl, rfl⟩ := e
                  rw [show kmF (gN F) (16 * a + (b + 1)) a b = aV (gN F) a b from if_pos (by omega)]
                  exact ⟨if_pos rfl, hV1.val ha hb⟩
                · rw [oth _ (by omega)]
                  have h9 := hW.2.2.2.2.2 a ha b hb
                  rw [show kmF (gN F) (16 * i + (k + 1)) a b = kmF (gN F) (16 * i + k) a b by
                    unfold kmF
                    by_cases e2 : 16 * a + b < 16 * i + k
                    · rw [if_pos e2, if_pos (by omega)]
                    · rw [if_neg e2, if_neg (by omega)]]
                  exact h9
            refine wx_sub (l' := [(0, _), (1, _), (2, _), (3, _), (4, _)]) ⟨rfl, rfl, rfl, rfl, rfl, trivial⟩ ?_
            exact li 16 0 I2 (by omega) hW hK
        refine wx_sub (l' := [(0, _), (1, _), (2, _), (3, _)]) ⟨rfl, rfl, rfl, rfl, trivial⟩ ?_
        refine lp 6 0 _ (by omega) ?_ (fun b hb => by rw [u2_n hb, u2_n hb, u2_n hb])
        rw [u2_a, u2_a, u2_a]
        have oth : ∀ x, x ≠ 415 → x ≠ 416 → x ≠ 417 → upd (upd (upd (I_31 (Q + 1)) 415 (nI (m + 1))) 416 (nI s1)) 417 (nI 0) x = I_31 (Q + 1) x := fun x h1 h2 h3 => (if_neg h3).trans ((if_neg h2).trans (if_neg h1))
        refine VF.sec hV1 (fun x hx => oth x (by omega) (by omega) (by omega)) ⟨rfl, by omega⟩ ⟨rfl, by omega⟩ rfl (fun a ha b hb => ?_)
        rw [oth _ (by omega) (by omega) (by omega), show kmF (gN F) (16 * 0) a b = aKn (gN F) a b from if_neg (by omega)]
        exact hV1.2.2.2.2.2 a ha b hb
      · skip
        have c1 := (bt_t0 (by omega) _).mp c_24
        have c0 : hideF F (nI m) (nI s1) = (-2, F) := by
          unfold hideF
          rw [onA_in hm (by decide), onA_in (show s1 < 64 by omega) (by decide), if_neg h0, if_neg (by rw [c1]; decide)]
        refine wa_bipush (v := -2) hX dX7_hide_27 (by decide) ?_
        exact hret _ _ _ _ _ ⟨AM.no hG (c := -2) c0 rfl, rfl⟩ dX7_hide_29
  · skip
    have n_4 : inB 6 x = false := by have := bI_n0.mp c_4; simpa using this
    refine wa_iconst (v := -1) hX dX7_hide_7 (by decide) ?_
    exact hret _ _ _ _ _ ⟨AM.no hG (c := -1) (by unfold hideF; exact onA_out n_4) rfl, rfl⟩ dX7_hide_8

