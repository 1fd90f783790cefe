/-! PileMaps: the hidden map, the history, what is counted, the text -/
def hideF (F : FS) (x y : Int32) : Int32 × FS := onA 6 x (fun m => onA 64 y (fun s => if s = 0 then (-2, F) else if bt (nI s) m = true then (bcI (nI s), wN (recF F) (sK (gN F) (m + 1) s 0 (aV (gN F)))) else (-2, F)) (-2, F)) (-1, F)
theorem sus_0 {s m : Nat} (h : s = 0) : bt (nI s) m = false := by subst h; exact b_0 m
set_option maxHeartbeats 4000000 in
set_option maxRecDepth 100000 in
theorem tX6_hide {l : Launch} {D : va_G} {A : Nat → Prop} {N : Nat} {Sh : SM} {J : JM} (I : IM) {B : Nat} {F : FS} (hG : GV Sh I J B F) (x y : Int32) : CtI l D A yX6_hide cX6_hide 3 FieldType.int 5 N Sh I J [.ref B, .int x, .int y] (fun r I' J' => AC Sh I J B (hideF F x y) r I' J') := by
  refine ct_I (l0 := [(0, .ref B), (1, .int x), (2, .int y)]) (by decide +kernel) (Nat.le_of_ble_eq_true rfl) rfl (fun _ _ _ _ => rfl) ?_
  intro X hX hret _ _ _
  have hX : XK X RX6 cX6_hide 3 5 := hX
  obtain ⟨hM, hV, ⟨hc1, hc2⟩, hpast, hkk, hT⟩ := id hG
  obtain ⟨m0, ⟨mj0, mj1, mj2, mj3, mj4⟩, mdf, mS, mK, mPa, mPs, mR⟩ := id hM
  obtain ⟨s0, sj0, sj1, sA, sQ⟩ := id mS
  have spr := sA.r
  obtain ⟨-, spile⟩ := id sA
  refine wa_iload_n hX dX6_hide_0 rfl ?_
  refine wa_sP hX (tX6_isMap I x) bX6_isMap mX6_42 (by decide) (by decide) rfl rfl (Nat.le_of_ble_eq_true rfl) dX6_hide_1 (fun r_1 q_1 => ?_)
  subst q_1
  refine wa_if_ne (tgt := 9) hX dX6_hide_4 (by decide) (fun c_4 => ?_) (fun c_4 => ?_)
  · skip
    obtain ⟨m, hm, em⟩ := inB_t (by decide) (bI_n0.mp c_4)
    subst em
    refine wa_iload_n hX dX6_hide_9 rfl ?_
    refine wa_iconst (v := nI 1) hX dX6_hide_10 (by decide) ?_
    refine wa_icmp_lt (tgt := 28) hX dX6_hide_11 (by decide) (fun c_11 => ?_) (fun c_11 => ?_)
    · skip
      have c0 : hideF F (nI m) y = (-2, F) := by
        unfold hideF
        rw [onA_in hm (by decide)]
        cases e : inB 64 y with
        | false => exact onA_out e
        | true =>
          obtain ⟨s1, hs1, e2⟩ := inB_t (by decide) e
          subst e2
          rw [onA_in hs1 (by decide)]
          have : s1 = 0 := by
            rcases Nat.eq_zero_or_pos s1 with q | q
            · exact q
            · exact absurd c_11 (nI_nlt q (by omega))
          rw [if_pos this]
      refine wa_bipush (v := -2) hX dX6_hide_28 (by decide) ?_
      exact hret _ _ _ _ _ (AC.no hG (c := -2) c0 rfl) dX6_hide_30
    · skip
      refine wa_iload_n hX dX6_hide_14 rfl ?_
      refine wa_bipush (v := nI 63) hX dX6_hide_15 (by decide) ?_
      refine wa_icmp_gt (tgt := 28) hX dX6_hide_17 (by decide) (fun c_17 => ?_) (fun c_17 => ?_)
      · skip
        have c0 : hideF F (nI m) y = (-2, F) := by
          unfold hideF
          rw [onA_in hm (by decide)]
          exact onA_out (Bool.eq_false_iff.mpr (fun h => by obtain ⟨j, hj, e⟩ := inB_t (by decide) h; rw [e] at c_17; exact absurd c_17 (nI_nlt (show j ≤ 63 by omega) (by decide))))
        refine wa_bipush (v := -2) hX dX6_hide_28 (by decide) ?_
        exact hret _ _ _ _ _ (AC.no hG (c := -2) c0 rfl) dX6_hide_30
      · skip
        obtain ⟨s1, hs1, es1⟩ := nI_of2 (n := 63) (by decide) (show ¬ y < 0 from fun h => c_11 (Int32.lt_trans h (by decide))) (Int32.not_lt.mp c_17)
        subst es1
        have h0 : s1 ≠ 0 := fun e => c_11 (by rw [e]; decide)
        refine wa_iload_n hX dX6_hide_20 rfl ?_
        refine wa_iload_n hX dX6_hide_21 rfl ?_
        refine wa_ishr hX dX6_hide_22 ?_
        refine wa_iconst (v := nI 1) hX dX6_hide_23 (by decide) ?_
        refine wa_iand hX dX6_hide_24 ?_
        refine wa_if_ne (tgt := 31) hX dX6_hide_25 (by decide) (fun c_25 => ?_) (fun c_25 => ?_)
        · skip
          have c1 : bt (nI s1) m = true := by
            cases e : bt (nI s1) m with
            | true => rfl
            | false => exact absurd ((bt_t0 (by omega) _).mpr e) c_25
          refine wa_aload_n hX dX6_hide_31 rfl ?_
          refine wa_callVV hX (tX6_record I hG) bX6_record mX6_59 (by decide) (by decide) (ci := 5) ⟨by decide, rfl⟩ m0 rfl rfl (Nat.le_of_ble_eq_true rfl) dX6_hide_32 (fun I_32 J_32 q_32 => ?_)
          obtain ⟨hG1, hJ1, hF1⟩ := q_32
          obtain ⟨hM1, hV1, ⟨hd1, hd2⟩, hpast1, hkk1, hT1⟩ := id hG1
          obtain ⟨n0, ⟨nj0, nj1, nj2, nj3, nj4⟩, ndf, nS, nK, nPa, nPs, nR⟩ := id hM1
          obtain ⟨t0, tj0, tj1, tA, tQ⟩ := id nS
          have tpr := tA.r
          obtain ⟨-, tpile⟩ := id tA
          have hV1 : SV I_32 (B + 1) (gN F) := hV1
          refine wa_aload_n hX dX6_hide_35 rfl ?_
          refine wa_getR hX fX6_10 rfl n0 nj0 dX6_hide_36 ?_
          refine wa_getR hX fX6_115 rfl t0 tj1 dX6_hide_39 ?_
          refine wa_iload_n hX dX6_hide_42 rfl ?_
          refine wa_iload_n hX dX6_hide_43 rfl ?_
          refine wa_aload_n hX dX6_hide_44 rfl ?_
          refine wa_getR hX fX6_10 rfl n0 nj0 dX6_hide_45 ?_
          refine wa_getR hX fX6_50 rfl t0 tj0 dX6_hide_48 ?_
          refine wa_vW hX (tX3_start _ tQ tA (by omega) hm (show s1 < 64 by omega) (kn := aV (gN F)) (fun j hj => (hV1.1 j hj).rv)) bX3_start mX6_119 (by decide) (by decide) (ci := 2) ⟨by decide, rfl⟩ tQ.1 rfl rfl (Nat.le_of_ble_eq_true rfl) dX6_hide_51 (fun I_51 q_51 => ?_)
          obtain ⟨w1, w2⟩ := q_51
          refine wa_iload_n hX dX6_hide_54 rfl ?_
          refine wa_sP hX (tJ6_bitCount_0f7a4 _ (nI s1)) bJ6_bitCount_0f7a4 mX6_125 (by decide) (by decide) rfl rfl (Nat.le_of_ble_eq_true rfl) dX6_hide_55 (fun r_55 q_55 => ?_)
          refine hret _ _ _ _ _ ?_ dX6_hide_58
          unfold hideF
          rw [onA_in hm (by decide), onA_in (show s1 < 64 by omega) (by decide), if_neg h0, if_pos c1]
          exact ⟨q_55, hG1.now (hV1.sec w1 w2) (w2.in (by omega) (by omega)), hJ1, hF1.tr (w2.in (by omega) (by omega))⟩
        · skip
          have c1 := (bt_t0 (by omega) _).mp c_25
          have c0 : hideF F (nI m) (nI s1) = (-2, F) := by
            unfold hideF
            rw [onA_in hm (by decide), onA_in (show s1 < 64 by omega) (by decide), if_neg h0, if_neg (by rw [c1]; decide)]
          refine wa_bipush (v := -2) hX dX6_hide_28 (by decide) ?_
          exact hret _ _ _ _ _ (AC.no hG (c := -2) c0 rfl) dX6_hide_30
  · skip
    have n_4 := bI_0.mp c_4
    refine wa_iconst (v := -1) hX dX6_hide_7 (by decide) ?_
    exact hret _ _ _ _ _ (AC.no hG (c := -1) (by unfold hideF; exact onA_out n_4) rfl) dX6_hide_8

def askF (F : FS) (x : Int32) : Int32 × FS := onA 16 x (fun k => if aHid (gN F) = 0 then (-4, F) else (nI (aKn (gN F) (aHid (gN F) - 1) k), wN (recF F) (sK (gN F) (aHid (gN F)) (ansV (aSus (gN F)) (aKn (gN F)) (aHid (gN F) - 1) k 6) (aAsk (gN F) + 1) (aKn (gN F))))) (-1, F)
set_option maxHeartbeats 4000000 in
set_option maxRecDepth 100000 in
theorem tX6_ask {l : Launch} {D : va_G} {A : Nat → Prop} {N : Nat} {Sh : SM} {J : JM} (I : IM) {B : Nat} {F : FS} (hG : GV Sh I J B F) (x : Int32) : CtI l D A yX6_ask cX6_ask 2 FieldType.int 5 N Sh I J [.ref B, .int x] (fun r I' J' => AC Sh I J B (askF F x) r I' J') := by
  refine ct_I (l0 := [(0, .ref B), (1, .int x)]) (by decide +kernel) (Nat.le_of_ble_eq_true rfl) rfl (fun _ _ _ _ => rfl) ?_
  intro X hX hret _ _ _
  have hX : XK X RX6 cX6_ask 2 5 := hX
  obtain ⟨hM, hV, ⟨hc1, hc2⟩, hpast, hkk, hT⟩ := id hG
  obtain ⟨m0, ⟨mj0, mj1, mj2, mj3, mj4⟩, mdf, mS, mK, mPa, mPs, mR⟩ := id hM
  obtain ⟨s0, sj0, sj1, sA, sQ⟩ := id mS
  have spr := sA.r
  obtain ⟨-, spile⟩ := id sA
  refine wa_iload_n hX dX6_ask_0 rfl ?_
  refine wa_sP hX (tX6_isKey I x) bX6_isKey mX6_87 (by decide) (by decide) rfl rfl (Nat.le_of_ble_eq_true rfl) dX6_ask_1 (fun r_1 q_1 => ?_)
  subst q_1
  refine wa_if_ne (tgt := 9) hX dX6_ask_4 (by decide) (fun c_4 => ?_) (fun c_4 => ?_)
  · skip
    obtain ⟨k, hk, ek⟩ := inB_t (by decide) (bI_n0.mp c_4)
    subst ek
    refine wa_aload_n hX dX6_ask_9 rfl ?_
    refine wa_getR hX fX6_10 rfl m0 mj0 dX6_ask_10 ?_
    refine wa_getR hX fX6_115 rfl s0 sj1 dX6_ask_13 ?_
    refine wa_vP hX (tX3_isRunning I sQ hV.2.1) bX3_isRunning mX6_131 (by decide) (by decide) (ci := 2) ⟨by decide, rfl⟩ sQ.1 rfl rfl (Nat.le_of_ble_eq_true rfl) dX6_ask_16 (fun r_16 q_16 => ?_)
    subst q_16
    refine wa_if_ne (tgt := 25) hX dX6_ask_19 (by decide) (fun c_19 => ?_) (fun c_19 => ?_)
    · skip
      have c1 : aHid (gN F) ≠ 0 := by have := of_decide_eq_true (bI_n0.mp c_19); omega
      refine wa_aload_n hX dX6_ask_25 rfl ?_
      refine wa_callVV hX (tX6_record I hG) bX6_record mX6_59 (by decide) (by decide) (ci := 5) ⟨by decide, rfl⟩ m0 rfl rfl (Nat.le_of_ble_eq_true rfl) dX6_ask_26 (fun I_26 J_26 q_26 => ?_)
      obtain ⟨hG1, hJ1, hF1⟩ := q_26
      obtain ⟨hM1, hV1, ⟨hd1, hd2⟩, hpast1, hkk1, hT1⟩ := id hG1
      obtain ⟨n0, ⟨nj0, nj1, nj2, nj3, nj4⟩, ndf, nS, nK, nPa, nPs, nR⟩ := id hM1
      obtain ⟨t0, tj0, tj1, tA, tQ⟩ := id nS
      have tpr := tA.r
      obtain ⟨-, tpile⟩ := id tA
      have hV1 : SV I_26 (B + 1) (gN F) := hV1
      refine wa_aload_n hX dX6_ask_29 rfl ?_
      refine wa_getR hX fX6_10 rfl n0 nj0 dX6_ask_30 ?_
      refine wa_getR hX fX6_115 rfl t0 tj1 dX6_ask_33 ?_
      refine wa_iload_n hX dX6_ask_36 rfl ?_
      refine wa_vM hX (tX3_answer _ tQ (h := aHid (gN F) - 1) (by have h9 := hV1.2.1; rw [show aHid (gN F) - 1 + 1 = aHid (gN F) by omega]; exact h9) hk) bX3_answer mX6_134 (by decide) (by decide) (ci := 2) ⟨by decide, rfl⟩ tQ.1 rfl rfl (Nat.le_of_ble_eq_true rfl) dX6_ask_37 (fun r_37 I_37 q_37 => ?_)
      obtain ⟨w0, w1, w2⟩ := q_37
      rw [show aHid (gN F) - 1 + 1 = aHid (gN F) by omega] at w1
      refine hret _ _ _ _ _ ?_ dX6_ask_40
      unfold askF
      rw [onA_in hk (by decide), if_neg c1]
      exact ⟨w0, hG1.now (hV1.sec w1 (w2.in (by omega) (by omega))) (w2.in (by omega) (by omega)), hJ1, hF1.tr (w2.in (by omega) (by omega))⟩
    · skip
      have c1 : aHid (gN F) = 0 := by have := of_decide_eq_false (bI_0.mp c_19); omega
      refine wa_bipush (v := -4) hX dX6_ask_22 (by decide) ?_
      exact hret _ _ _ _ _ (AC.no hG (c := -4) (by unfold askF; rw [onA_in hk (by decide), if_pos c1]) rfl) dX6_ask_24
  · skip
    have n_4 := bI_0.mp c_4
    refine wa_iconst (v := -1) hX dX6_ask_7 (by decide) ?_
    exact hret _ _ _ _ _ (AC.no hG (c := -1) (by unfold askF; exact onA_out n_4) rfl) dX6_ask_8

def undoF (F : FS) : Int32 × FS := if gC F = 0 then (-5, F) else (nI (gC F - 1), (gP F (gC F - 1), (gC F - 1, gP F), F.2.2))
set_option maxHeartbeats 4000000 in
set_option maxRecDepth 100000 in
theorem tX6_undo {l : Launch} {D : va_G} {A : Nat → Prop} {N : Nat} {Sh : SM} {J : JM} (I : IM) {B : Nat} {F : FS} (hG : GV Sh I J B F) : CtI l D A yX6_undo cX6_undo 1 FieldType.int 4 N Sh I J [.ref B] (fun r I' J' => AC Sh I J B (undoF F) r I' J') := by
  refine ct_I (l0 := [(0, .ref B)]) (by decide +kernel) (Nat.le_of_ble_eq_true rfl) rfl (fun _ _ _ _ => rfl) ?_
  intro X hX hret _ _ _
  have hX : XK X RX6 cX6_undo 1 4 := hX
  obtain ⟨hM, hV, ⟨hc1, hc2⟩, hpast, hkk, hT⟩ := id hG
  obtain ⟨m0, ⟨mj0, mj1, mj2, mj3, mj4⟩, mdf, mS, mK, mPa, mPs, mR⟩ := id hM
  obtain ⟨s0, sj0, sj1, sA, sQ⟩ := id mS
  have spr := sA.r
  obtain ⟨-, spile⟩ := id sA
  refine wa_aload_n hX dX6_undo_0 rfl ?_
  refine wa_getI hX fX6_34 rfl m0 dX6_undo_1 ?_
  rw [hc2]
  refine wa_if_le (tgt := 15) hX dX6_undo_4 (by decide) (fun c_4 => ?_) (fun c_4 => ?_)
  · skip
    have c1 : gC F = 0 := by
      rcases Nat.eq_zero_or_pos (gC F) with e | e
      · exact e
      · exact absurd c_4 (nI_nle e (by omega))
    refine wa_bipush (v := -5) hX dX6_undo_15 (by decide) ?_
    exact hret _ _ _ _ _ (AC.no hG (c := -5) (by unfold undoF; rw [if_pos c1]) rfl) dX6_undo_17
  · skip
    have c1 : gC F ≠ 0 := fun e => c_4 (by rw [e]; decide)
    refine wa_aload_n hX dX6_undo_7 rfl ?_
    refine wa_getI hX fX6_34 rfl m0 dX6_undo_8 ?_
    refine wa_iconst (v := nI 4) hX dX6_undo_11 (by decide) ?_
    rw [hc2]
    refine wa_icmp_le (tgt := 18) hX dX6_undo_12 (by decide) (fun c_12 => ?_) (fun c_12 => absurd (nI_le hc1 (by decide)) c_12)
    refine wa_aload_n hX dX6_undo_18 rfl ?_
    refine wa_dup hX dX6_undo_19 rfl ?_
    refine wa_getI hX fX6_34 rfl m0 dX6_undo_20 ?_
    refine wa_iconst (v := nI 1) hX dX6_undo_23 (by decide) ?_
    rw [hc2]
    refine wa_isub hX dX6_undo_24 ?_
    rw [show nI (gC F) - nI 1 = nI (gC F - 1) from pk_sub (by omega)]
    refine wa_putI hX fX6_34 rfl rfl ⟨rfl, rfl⟩ m0 dX6_undo_25 ?_
    refine wa_aload_n hX dX6_undo_28 rfl ?_
    refine wa_getR hX fX6_10 rfl m0 mj0 dX6_undo_29 ?_
    refine wa_aload_n hX dX6_undo_32 rfl ?_
    refine wa_getR hX fX6_16 rfl m0 mj1 dX6_undo_33 ?_
    refine wa_aload_n hX dX6_undo_36 rfl ?_
    refine wa_getI hX fX6_34 rfl m0 dX6_undo_37 ?_
    rw [show u2 I B 5 (nI (gC F - 1)) B 5 = nI (gC F - 1) from u2_s]
    obtain ⟨σ, hσ, hp⟩ := hpast
    obtain ⟨hs1, hs2⟩ := hσ.1 (gC F - 1) (by omega)
    have hp1 := hp (gC F - 1) (by omega)
    refine wa_aald hX (show shR Sh (B + 59) 4 by obtain ⟨cA, e⟩ := mPa; exact ⟨cA, _, e, rfl⟩) rfl (show gC F - 1 < 4 by omega) (by decide) hs2 dX6_undo_40 ?_
    refine wa_vW hX (tX4_copyFrom _ mS (mPs _ hs1) (by omega) (hp1.keep (fun q h1 h2 => u2_n (by omega)))) bX4_copyFrom mX6_150 (by decide) (by decide) (ci := 3) ⟨by decide, rfl⟩ s0 rfl rfl (Nat.le_of_ble_eq_true rfl) dX6_undo_41 (fun I_41 q_41 => ?_)
    obtain ⟨w1, w2⟩ := q_41
    refine wa_aload_n hX dX6_undo_44 rfl ?_
    refine wa_getI hX fX6_34 rfl m0 dX6_undo_45 ?_
    rw [w2.n (c := B) (by omega), show u2 I B 5 (nI (gC F - 1)) B 5 = nI (gC F - 1) from u2_s]
    refine hret _ _ _ _ _ ?_ dX6_undo_48
    unfold undoF
    rw [if_neg c1]
    refine ⟨rfl, ⟨hM, w1, ⟨by show gC F - 1 ≤ 4; omega, by rw [w2.n (c := B) (by omega)]; exact u2_s⟩, ⟨σ, hσ, fun i hi => ?_⟩, ⟨by rw [w2.n (c := B) (by omega), u2_k (by decide)]; exact hkk.1, fun hh => ((hkk.2 hh).keep (fun q h1 h2 => u2_n (by omega))).keep (fun q h1 h2 => w2.n (by omega))⟩, hT.keep (by rw [w2.n (by omega), u2_n (by omega)]) (by rw [w2.n (by omega), u2_n (by omega)])⟩, JE.rf, Fr.tr (Fr.u2 (Nat.le_refl _) (by omega)) (w2.in (by omega) (by omega))⟩
    have hi : i < gC F - 1 := hi
    have h7 := hσ.1 i (by omega)
    exact ((hp i (by omega)).keep (fun q h1 h2 => u2_n (by omega))).keep (fun q h1 h2 => w2.n (by omega))

def keepF (F : FS) : Int32 × FS := (nI (sumN (aH (gN F)) 6), (gN F, F.2.1, (true, gN F), F.2.2.2))
set_option maxHeartbeats 4000000 in
set_option maxRecDepth 100000 in
theorem tX6_keep {l : Launch} {D : va_G} {A : Nat → Prop} {N : Nat} {Sh : SM} {J : JM} (I : IM) {B : Nat} {F : FS} (hG : GV Sh I J B F) : CtI l D A yX6_keep cX6_keep 1 FieldType.int 4 N Sh I J [.ref B] (fun r I' J' => AC Sh I J B (keepF F) r I' J') := by
  refine ct_I (l0 := [(0, .ref B)]) (by decide +kernel) (Nat.le_of_ble_eq_true rfl) rfl (fun _ _ _ _ => rfl) ?_
  intro X hX hret _ _ _
  have hX : XK X RX6 cX6_keep 1 4 := hX
  obtain ⟨hM, hV, ⟨hc1, hc2⟩, hpast, hkk, hT⟩ := id hG
  obtain ⟨m0, ⟨mj0, mj1, mj2, mj3, mj4⟩, mdf, mS, mK, mPa, mPs, mR⟩ := id hM
  obtain ⟨s0, sj0, sj1, sA, sQ⟩ := id mS
  have spr := sA.r
  obtain ⟨-, spile⟩ := id sA
  refine wa_aload_n hX dX6_keep_0 rfl ?_
  refine wa_getR hX fX6_20 rfl m0 mj2 dX6_keep_1 ?_
  refine wa_aload_n hX dX6_keep_4 rfl ?_
  refine wa_getR hX fX6_10 rfl m0 mj0 dX6_keep_5 ?_
  refine wa_vW hX (tX4_copyFrom _ mK mS (by omega) hV) bX4_copyFrom mX6_150 (by decide) (by decide) (ci := 3) ⟨by decide, rfl⟩ mK.1 rfl rfl (Nat.le_of_ble_eq_true rfl) dX6_keep_8 (fun I_8 q_8 => ?_)
  obtain ⟨w1, w2⟩ := q_8
  refine wa_aload_n hX dX6_keep_11 rfl ?_
  refine wa_iconst (v := nI 1) hX dX6_keep_12 (by decide) ?_
  refine wa_putI hX fX6_38 rfl rfl ⟨rfl, rfl⟩ m0 dX6_keep_13 ?_
  refine wa_aload_n hX dX6_keep_16 rfl ?_
  refine wa_getR hX fX6_10 rfl m0 mj0 dX6_keep_17 ?_
  refine wa_vP hX (tX4_layers _ mS ((hV.keep (fun q h1 h2 => w2.n (by omega))).keep (fun q h1 h2 => u2_n (by omega)))) bX4_layers mX6_154 (by decide) (by decide) (ci := 3) ⟨by decide, rfl⟩ s0 rfl rfl (Nat.le_of_ble_eq_true rfl) dX6_keep_20 (fun r_20 q_20 => ?_)
  refine hret _ _ _ _ _ ?_ dX6_keep_23
  unfold keepF
  obtain ⟨σ, hσ, hp⟩ := hpast
  refine ⟨q_20, ⟨hM, (hV.keep (fun q h1 h2 => w2.n (by omega))).keep (fun q h1 h2 => u2_n (by omega)), ⟨hc1, by rw [u2_k (by decide), w2.n (c := B) (by omega)]; exact hc2⟩, ⟨σ, hσ, fun i hi => ?_⟩, ⟨u2_s, fun _ => w1.keep (fun q h1 h2 => u2_n (by omega))⟩, hT.keep (by rw [u2_n (by omega), w2.n (by omega)]) (by rw [u2_n (by omega), w2.n (by omega)])⟩, JE.rf, Fr.tr (w2.in (by omega) (by omega)) (Fr.u2 (Nat.le_refl _) (by omega))⟩
  have hi : i < gC F := hi
  have h7 := hσ.1 i (by omega)
  exact ((hp i hi).keep (fun q h1 h2 => w2.n (by omega))).keep (fun q h1 h2 => u2_n (by omega))

def restF (F : FS) : Int32 × FS := if gH F = true then (nI (sumN (aH (gK F)) 6), wN (recF F) (gK F)) else (-5, F)
set_option maxHeartbeats 4000000 in
set_option maxRecDepth 100000 in
theorem tX6_restore {l : Launch} {D : va_G} {A : Nat → Prop} {N : Nat} {Sh : SM} {J : JM} (I : IM) {B : Nat} {F : FS} (hG : GV Sh I J B F) : CtI l D A yX6_restore cX6_restore 1 FieldType.int 5 N Sh I J [.ref B] (fun r I' J' => AC Sh I J B (restF F) r I' J') := by
  refine ct_I (l0 := [(0, .ref B)]) (by decide +kernel) (Nat.le_of_ble_eq_true rfl) rfl (fun _ _ _ _ => rfl) ?_
  intro X hX hret _ _ _
  have hX : XK X RX6 cX6_restore 1 5 := hX
  obtain ⟨hM, hV, ⟨hc1, hc2⟩, hpast, hkk, hT⟩ := id hG
  obtain ⟨m0, ⟨mj0, mj1, mj2, mj3, mj4⟩, mdf, mS, mK, mPa, mPs, mR⟩ := id hM
  obtain ⟨s0, sj0, sj1, sA, sQ⟩ := id mS
  have spr := sA.r
  obtain ⟨-, spile⟩ := id sA
  refine wa_aload_n hX dX6_restore_0 rfl ?_
  refine wa_getI hX fX6_38 rfl m0 dX6_restore_1 ?_
  rw [hkk.1]
  refine wa_if_ne (tgt := 10) hX dX6_restore_4 (by decide) (fun c_4 => ?_) (fun c_4 => ?_)
  · skip
    have c1 := bI_n0.mp c_4
    refine wa_aload_n hX dX6_restore_10 rfl ?_
    refine wa_callVV hX (tX6_record I hG) bX6_record mX6_59 (by decide) (by decide) (ci := 5) ⟨by decide, rfl⟩ m0 rfl rfl (Nat.le_of_ble_eq_true rfl) dX6_restore_11 (fun I_11 J_11 q_11 => ?_)
    obtain ⟨hG1, hJ1, hF1⟩ := q_11
    obtain ⟨hM1, hV1, ⟨hd1, hd2⟩, hpast1, hkk1, hT1⟩ := id hG1
    obtain ⟨n0, ⟨nj0, nj1, nj2, nj3, nj4⟩, ndf, nS, nK, nPa, nPs, nR⟩ := id hM1
    obtain ⟨t0, tj0, tj1, tA, tQ⟩ := id nS
    have tpr := tA.r
    obtain ⟨-, tpile⟩ := id tA
    have hV1 : SV I_11 (B + 1) (gN F) := hV1
    refine wa_aload_n hX dX6_restore_14 rfl ?_
    refine wa_getR hX fX6_10 rfl n0 nj0 dX6_restore_15 ?_
    refine wa_aload_n hX dX6_restore_18 rfl ?_
    refine wa_getR hX fX6_20 rfl n0 nj2 dX6_restore_19 ?_
    refine wa_vW hX (tX4_copyFrom _ nS nK (by omega) (hkk1.2 c1)) bX4_copyFrom mX6_150 (by decide) (by decide) (ci := 3) ⟨by decide, rfl⟩ t0 rfl rfl (Nat.le_of_ble_eq_true rfl) dX6_restore_22 (fun I_22 q_22 => ?_)
    obtain ⟨w1, w2⟩ := q_22
    refine wa_aload_n hX dX6_restore_25 rfl ?_
    refine wa_getR hX fX6_10 rfl n0 nj0 dX6_restore_26 ?_
    refine wa_vP hX (tX4_layers _ nS w1) bX4_layers mX6_154 (by decide) (by decide) (ci := 3) ⟨by decide, rfl⟩ t0 rfl rfl (Nat.le_of_ble_eq_true rfl) dX6_restore_29 (fun r_29 q_29 => ?_)
    refine hret _ _ _ _ _ ?_ dX6_restore_32
    unfold restF
    rw [if_pos c1]
    exact ⟨q_29, hG1.now w1 w2, hJ1, hF1.tr (w2.in (by omega) (by omega))⟩
  · skip
    have c1 := bI_0.mp c_4
    refine wa_bipush (v := -5) hX dX6_restore_7 (by decide) ?_
    exact hret _ _ _ _ _ (AC.no hG (c := -5) (by unfold restF; rw [if_neg (by rw [c1]; decide)]) rfl) dX6_restore_9

def splF (S : AS) (k w : Nat) : Int32 := if w = 0 then nI (grpV (aSus S) (aKn S) k) else nI (gstV (aSus S) (aKn S) k)
set_option maxHeartbeats 4000000 in
set_option maxRecDepth 100000 in
theorem tX6_split {l : Launch} {D : va_G} {A : Nat → Prop} {N : Nat} {Sh : SM} {J : JM} (I : IM) {B : Nat} (hM : ML Sh J B) {S : AS} (hV : SV I (B + 1) S) (x y : Int32) : CtP l D A yX6_split cX6_split 3 FieldType.int 3 N Sh I J [.ref B, .int x, .int y] (fun r => r = onB 16 x (fun k => onB 2 y (fun w => if aHid S = 0 then -4 else splF S k w) (-2)) (-1)) := by
  refine ct_I (l0 := [(0, .ref B), (1, .int x), (2, .int y)]) (by decide +kernel) (Nat.le_of_ble_eq_true rfl) rfl (fun _ _ _ _ => rfl) ?_
  intro X hX hret _ _ _
  have hX : XK X RX6 cX6_split 3 3 := hX
  obtain ⟨m0, ⟨mj0, mj1, mj2, mj3, mj4⟩, mdf, mS, mK, mPa, mPs, mR⟩ := id hM
  obtain ⟨s0, sj0, sj1, sA, sQ⟩ := id mS
  refine wa_iload_n hX dX6_split_0 rfl ?_
  refine wa_sP hX (tX6_isKey I x) bX6_isKey mX6_87 (by decide) (by decide) rfl rfl (Nat.le_of_ble_eq_true rfl) dX6_split_1 (fun r_1 q_1 => ?_)
  subst q_1
  refine wa_if_ne (tgt := 9) hX dX6_split_4 (by decide) (fun c_4 => ?_) (fun c_4 => ?_)
  · skip
    obtain ⟨k, hk, ek⟩ := inB_t (by decide) (bI_n0.mp c_4)
    subst ek
    refine wa_iload_n hX dX6_split_9 rfl ?_
    refine wa_if_lt (tgt := 18) hX dX6_split_10 (by decide) (fun c_10 => ?_) (fun c_10 => ?_)
    · skip
      refine wa_bipush (v := -2) hX dX6_split_18 (by decide) ?_
      exact hret _ _ _ _ _ ⟨(by rw [onB_in hk (by decide)]; exact (onB_out (by simp [inB, c_10])).symm), rfl, rfl⟩ dX6_split_20
    · skip
      refine wa_iload_n hX dX6_split_13 rfl ?_
      refine wa_iconst (v := nI 1) hX dX6_split_14 (by decide) ?_
      refine wa_icmp_le (tgt := 21) hX dX6_split_15 (by decide) (fun c_15 => ?_) (fun c_15 => ?_)
      · skip
        obtain ⟨w0, hw0, ew⟩ := nI_of2 (n := 1) (by decide) c_10 c_15
        subst ew
        refine wa_aload_n hX dX6_split_21 rfl ?_
        refine wa_getR hX fX6_10 rfl m0 mj0 dX6_split_22 ?_
        refine wa_getR hX fX6_115 rfl s0 sj1 dX6_split_25 ?_
        refine wa_vP hX (tX3_isRunning I sQ hV.2.1) bX3_isRunning mX6_131 (by decide) (by decide) (ci := 2) ⟨by decide, rfl⟩ sQ.1 rfl rfl (Nat.le_of_ble_eq_true rfl) dX6_split_28 (fun r_28 q_28 => ?_)
        subst q_28
        refine wa_if_ne (tgt := 37) hX dX6_split_31 (by decide) (fun c_31 => ?_) (fun c_31 => ?_)
        · skip
          have c1 : aHid S ≠ 0 := by have := of_decide_eq_true (bI_n0.mp c_31); omega
          refine wa_iload_n hX dX6_split_37 rfl ?_
          refine wa_if_ne (tgt := 55) hX dX6_split_38 (by decide) (fun c_38 => ?_) (fun c_38 => ?_)
          · skip
            have c2 : w0 ≠ 0 := fun e => c_38 (by rw [e]; rfl)
            refine wa_aload_n hX dX6_split_55 rfl ?_
            refine wa_getR hX fX6_10 rfl m0 mj0 dX6_split_56 ?_
            refine wa_getR hX fX6_115 rfl s0 sj1 dX6_split_59 ?_
            refine wa_iload_n hX dX6_split_62 rfl ?_
            refine wa_vP hX (tX3_greatestGroup I sQ hV.2.1 hk) bX3_greatestGroup mX6_242 (by decide) (by decide) (ci := 2) ⟨by decide, rfl⟩ sQ.1 rfl rfl (Nat.le_of_ble_eq_true rfl) dX6_split_63 (fun r_63 q_63 => ?_)
            exact hret _ _ _ _ _ ⟨(by rw [onB_in hk (by decide), onB_in (show w0 < 2 by omega) (by decide), if_neg c1]; unfold splF; rw [if_neg c2]; exact q_63), rfl, rfl⟩ dX6_split_66
          · skip
            have c2 : w0 = 0 := eq_of_nI c_38 (by omega) (by decide)
            refine wa_aload_n hX dX6_split_41 rfl ?_
            refine wa_getR hX fX6_10 rfl m0 mj0 dX6_split_42 ?_
            refine wa_getR hX fX6_115 rfl s0 sj1 dX6_split_45 ?_
            refine wa_iload_n hX dX6_split_48 rfl ?_
            refine wa_vP hX (tX3_groups I sQ hV.2.1 hk) bX3_groups mX6_239 (by decide) (by decide) (ci := 2) ⟨by decide, rfl⟩ sQ.1 rfl rfl (Nat.le_of_ble_eq_true rfl) dX6_split_49 (fun r_49 q_49 => ?_)
            refine wa_goto (tgt := 66) hX dX6_split_52 (by decide) ?_
            exact hret _ _ _ _ _ ⟨(by rw [onB_in hk (by decide), onB_in (show w0 < 2 by omega) (by decide), if_neg c1]; unfold splF; rw [if_pos c2]; exact q_49), rfl, rfl⟩ dX6_split_66
        · skip
          have c1 : aHid S = 0 := by have := of_decide_eq_false (bI_0.mp c_31); omega
          refine wa_bipush (v := -4) hX dX6_split_34 (by decide) ?_
          exact hret _ _ _ _ _ ⟨(by rw [onB_in hk (by decide), onB_in (show w0 < 2 by omega) (by decide), if_pos c1]), rfl, rfl⟩ dX6_split_36
      · skip
        refine wa_bipush (v := -2) hX dX6_split_18 (by decide) ?_
        exact hret _ _ _ _ _ ⟨(by rw [onB_in hk (by decide)]; exact (onB_out (Bool.eq_false_iff.mpr (fun h => by obtain ⟨j, hj, e⟩ := inB_t (by decide) h; rw [e] at c_15; exact absurd (nI_le (show j ≤ 1 by omega) (by decide)) c_15))).symm), rfl, rfl⟩ dX6_split_20
  · skip
    have n_4 := bI_0.mp c_4
    refine wa_iconst (v := -1) hX dX6_split_7 (by decide) ?_
    exact hret _ _ _ _ _ ⟨(by rw [onB_out n_4]), rfl, rfl⟩ dX6_split_8

def abkF (sus : Nat) (kn : Nat → Nat → Nat) (w : Nat) : Int32 := if w = 3 then nI (bstV sus kn) else if w = 4 then nI (gstV sus kn (bstV sus kn)) else nI (grpV sus kn (bstV sus kn))
set_option maxHeartbeats 4000000 in
set_option maxRecDepth 100000 in
theorem tX6_aboutBestKey {l : Launch} {D : va_G} {A : Nat → Prop} {N : Nat} {Sh : SM} {J : JM} (I : IM) {c : Nat} (hQ : QL Sh J c) {hid sus ask : Nat} {kn : Nat → Nat → Nat} (hV : KV I c hid sus ask kn) {w : Nat} (hw : w < 6) : CtP l D A yX6_aboutBestKey cX6_aboutBestKey 3 FieldType.int 5 N Sh I J [.ref c, .int (nI w)] (fun r => r = abkF sus kn w) := by
  refine ct_I (l0 := [(0, .ref c), (1, .int (nI w))]) (by decide +kernel) (Nat.le_of_ble_eq_true rfl) rfl (fun _ _ _ _ => rfl) ?_
  intro X hX hret _ _ _
  have hX : XK X RX6 cX6_aboutBestKey 3 5 := hX
  refine wa_aload_n hX dX6_aboutBestKey_0 rfl ?_
  refine wa_vP hX (tX3_bestKey I hQ hV) bX3_bestKey mX6_254 (by decide) (by decide) (ci := 2) ⟨by decide, rfl⟩ hQ.1 rfl rfl (Nat.le_of_ble_eq_true rfl) dX6_aboutBestKey_1 (fun r_1 q_1 => ?_)
  subst q_1
  have hb : bstV sus kn ≤ 15 := bst_le sus kn 15
  refine wa_istore_n hX dX6_aboutBestKey_4 (by decide) ?_
  refine wa_iload_n hX dX6_aboutBestKey_5 rfl ?_
  refine wa_iconst (v := nI 3) hX dX6_aboutBestKey_6 (by decide) ?_
  refine wa_icmp_ne (tgt := 12) hX dX6_aboutBestKey_7 (by decide) (fun c_7 => ?_) (fun c_7 => ?_)
  · skip
    have c1 := ne_of_nI c_7
    refine wa_iload_n hX dX6_aboutBestKey_12 rfl ?_
    refine wa_iconst (v := nI 4) hX dX6_aboutBestKey_13 (by decide) ?_
    refine wa_icmp_ne (tgt := 25) hX dX6_aboutBestKey_14 (by decide) (fun c_14 => ?_) (fun c_14 => ?_)
    · skip
      have c2 := ne_of_nI c_14
      refine wa_aload_n hX dX6_aboutBestKey_25 rfl ?_
      refine wa_iload_n hX dX6_aboutBestKey_26 rfl ?_
      refine wa_vP hX (tX3_groups I hQ hV (show bstV sus kn < 16 by omega)) bX3_groups mX6_239 (by decide) (by decide) (ci := 2) ⟨by decide, rfl⟩ hQ.1 rfl rfl (Nat.le_of_ble_eq_true rfl) dX6_aboutBestKey_27 (fun r_27 q_27 => ?_)
      exact hret _ _ _ _ _ ⟨(by unfold abkF; rw [if_neg c1, if_neg c2]; exact q_27), rfl, rfl⟩ dX6_aboutBestKey_30
    · skip
      have c2 := eq_of_nI c_14 (by omega) (by decide)
      refine wa_aload_n hX dX6_aboutBestKey_17 rfl ?_
      refine wa_iload_n hX dX6_aboutBestKey_18 rfl ?_
      refine wa_vP hX (tX3_greatestGroup I hQ hV (show bstV sus kn < 16 by omega)) bX3_greatestGroup mX6_242 (by decide) (by decide) (ci := 2) ⟨by decide, rfl⟩ hQ.1 rfl rfl (Nat.le_of_ble_eq_true rfl) dX6_aboutBestKey_19 (fun r_19 q_19 => ?_)
      refine wa_goto (tgt := 30) hX dX6_aboutBestKey_22 (by decide) ?_
      exact hret _ _ _ _ _ ⟨(by unfold abkF; rw [if_neg c1, if_pos c2]; exact q_19), rfl, rfl⟩ dX6_aboutBestKey_30
  · skip
    have c1 := eq_of_nI c_7 (by omega) (by decide)
    refine wa_iload_n hX dX6_aboutBestKey_10 rfl ?_
    exact hret _ _ _ _ _ ⟨(by simp [abkF, c1]), rfl, rfl⟩ dX6_aboutBestKey_11

def hidF (S : AS) (w : Nat) : Int32 := if aHid S = 0 then -4 else match w with
  | 0 => nI (aSus S)
  | 1 => nI (aAsk S)
  | 2 => bI (fndV (aSus S) (aKn S) (aHid S - 1))
  | w + 3 => if fndV (aSus S) (aKn S) (aHid S - 1) = true then -5 else abkF (aSus S) (aKn S) (w + 3)
set_option maxHeartbeats 4000000 in
set_option maxRecDepth 100000 in
theorem tX6_hidden {l : Launch} {D : va_G} {A : Nat → Prop} {N : Nat} {Sh : SM} {J : JM} (I : IM) {B : Nat} (hM : ML Sh J B) {S : AS} (hV : SV I (B + 1) S) (x : Int32) : CtP l D A yX6_hidden cX6_hidden 3 FieldType.int 6 N Sh I J [.ref B, .int x] (fun r => r = onB 6 x (fun w => hidF S w) (-2)) := by
  refine ct_I (l0 := [(0, .ref B), (1, .int x)]) (by decide +kernel) (Nat.le_of_ble_eq_true rfl) rfl (fun _ _ _ _ => rfl) ?_
  intro X hX hret _ _ _
  have hX : XK X RX6 cX6_hidden 3 6 := hX
  obtain ⟨m0, ⟨mj0, mj1, mj2, mj3, mj4⟩, mdf, mS, mK, mPa, mPs, mR⟩ := id hM
  obtain ⟨s0, sj0, sj1, sA, sQ⟩ := id mS
  refine wa_iload_n hX dX6_hidden_0 rfl ?_
  refine wa_if_lt (tgt := 9) hX dX6_hidden_1 (by decide) (fun c_1 => ?_) (fun c_1 => ?_)
  · skip
    refine wa_bipush (v := -2) hX dX6_hidden_9 (by decide) ?_
    exact hret _ _ _ _ _ ⟨(by exact (onB_out (by simp [inB, c_1])).symm), rfl, rfl⟩ dX6_hidden_11
  · skip
    refine wa_iload_n hX dX6_hidden_4 rfl ?_
    refine wa_iconst (v := nI 5) hX dX6_hidden_5 (by decide) ?_
    refine wa_icmp_le (tgt := 12) hX dX6_hidden_6 (by decide) (fun c_6 => ?_) (fun c_6 => ?_)
    · skip
      obtain ⟨w0, hw0, ew⟩ := nI_of2 (n := 5) (by decide) c_1 c_6
      subst ew
      refine wa_aload_n hX dX6_hidden_12 rfl ?_
      refine wa_getR hX fX6_10 rfl m0 mj0 dX6_hidden_13 ?_
      refine wa_getR hX fX6_115 rfl s0 sj1 dX6_hidden_16 ?_
      refine wa_astore_n hX dX6_hidden_19 (by decide) ?_
      refine wa_aload_n hX dX6_hidden_20 rfl ?_
      refine wa_vP hX (tX3_isRunning I sQ hV.2.1) bX3_isRunning mX6_131 (by decide) (by decide) (ci := 2) ⟨by decide, rfl⟩ sQ.1 rfl rfl (Nat.le_of_ble_eq_true rfl) dX6_hidden_21 (fun r_21 q_21 => ?_)
      subst q_21
      refine wa_if_ne (tgt := 30) hX dX6_hidden_24 (by decide) (fun c_24 => ?_) (fun c_24 => ?_)
      · skip
        have c1 : aHid S ≠ 0 := by have := of_decide_eq_true (bI_n0.mp c_24); omega
        have c1t : decide (0 < aHid S) = true := bI_n0.mp c_24
        refine wa_iload_n hX dX6_hidden_30 rfl ?_
        rcases (show w0 = 0 ∨ w0 = 1 ∨ w0 = 2 ∨ 3 ≤ w0 by omega) with rfl | rfl | rfl | hw1
        · skip
          refine wa_tabIn (off := 25) (tgt := 56) hX dX6_hidden_31 (by decide) (by decide) (by decide) (by decide) ?_
          refine wa_aload_n hX dX6_hidden_56 rfl ?_
          refine wa_getI hX fX6_226 rfl sQ.1 dX6_hidden_57 ?_
          exact hret _ _ _ _ _ ⟨(by rw [onB_in (by decide) (by decide)]; unfold hidF; rw [if_neg c1]; exact hV.2.1.2.1.2), rfl, rfl⟩ dX6_hidden_60
        · skip
          refine wa_tabIn (off := 30) (tgt := 61) hX dX6_hidden_31 (by decide) (by decide) (by decide) (by decide) ?_
          refine wa_aload_n hX dX6_hidden_61 rfl ?_
          refine wa_getI hX fX6_229 rfl sQ.1 dX6_hidden_62 ?_
          exact hret _ _ _ _ _ ⟨(by rw [onB_in (by decide) (by decide)]; unfold hidF; rw [if_neg c1]; exact hV.2.1.2.2.1), rfl, rfl⟩ dX6_hidden_65
        · skip
          refine wa_tabIn (off := 35) (tgt := 66) hX dX6_hidden_31 (by decide) (by decide) (by decide) (by decide) ?_
          refine wa_aload_n hX dX6_hidden_66 rfl ?_
          refine wa_vP hX (tX3_isFound I sQ hV.2.1) bX3_isFound mX6_232 (by decide) (by decide) (ci := 2) ⟨by decide, rfl⟩ sQ.1 rfl rfl (Nat.le_of_ble_eq_true rfl) dX6_hidden_67 (fun r_67 q_67 => ?_)
          rw [c1t, Bool.true_and] at q_67
          subst q_67
          refine wa_if_eq (tgt := 77) hX dX6_hidden_70 (by decide) (fun c_70 => ?_) (fun c_70 => ?_)
          · skip
            have c2 := bI_0.mp c_70
            refine wa_iconst (v := nI 0) hX dX6_hidden_77 (by decide) ?_
            exact hret _ _ _ _ _ ⟨(by rw [onB_in (by decide) (by decide)]; unfold hidF; rw [if_neg c1]; show nI 0 = bI (fndV (aSus S) (aKn S) (aHid S - 1)); rw [c2]; rfl), rfl, rfl⟩ dX6_hidden_78
          · skip
            have c2 := bI_n0.mp c_70
            refine wa_iconst (v := nI 1) hX dX6_hidden_73 (by decide) ?_
            refine wa_goto (tgt := 78) hX dX6_hidden_74 (by decide) ?_
            exact hret _ _ _ _ _ ⟨(by rw [onB_in (by decide) (by decide)]; unfold hidF; rw [if_neg c1]; show nI 1 = bI (fndV (aSus S) (aKn S) (aHid S - 1)); rw [c2]; rfl), rfl, rfl⟩ dX6_hidden_78
        · skip
          obtain ⟨v, rfl⟩ : ∃ v, w0 = v + 3 := ⟨w0 - 3, by omega⟩
          have hw1 : v + 3 < 6 := by omega
          refine wa_tabOut (tgt := 79) hX dX6_hidden_31 (Or.inr (by rw [nI_toInt (by omega)]; omega)) (by decide) ?_
          refine wa_aload_n hX dX6_hidden_79 rfl ?_
          refine wa_vP hX (tX3_isFound I sQ hV.2.1) bX3_isFound mX6_232 (by decide) (by decide) (ci := 2) ⟨by decide, rfl⟩ sQ.1 rfl rfl (Nat.le_of_ble_eq_true rfl) dX6_hidden_80 (fun r_80 q_80 => ?_)
          rw [c1t, Bool.true_and] at q_80
          subst q_80
          refine wa_if_eq (tgt := 91) hX dX6_hidden_83 (by decide) (fun c_83 => ?_) (fun c_83 => ?_)
          · skip
            have c2 := bI_0.mp c_83
            refine wa_aload_n hX dX6_hidden_91 rfl ?_
            refine wa_iload_n hX dX6_hidden_92 rfl ?_
            refine wa_sP hX (tX6_aboutBestKey I sQ hV.2.1 (show v + 3 < 6 by omega)) bX6_aboutBestKey mX6_235 (by decide) (by decide) rfl rfl (Nat.le_of_ble_eq_true rfl) dX6_hidden_93 (fun r_93 q_93 => ?_)
            exact hret _ _ _ _ _ ⟨(by rw [onB_in hw1 (by decide)]; unfold hidF; rw [if_neg c1]; show r_93 = if fndV (aSus S) (aKn S) (aHid S - 1) = true then -5 else abkF (aSus S) (aKn S) (v + 3); rw [if_neg (by rw [c2]; decide)]; exact q_93), rfl, rfl⟩ dX6_hidden_96
          · skip
            have c2 := bI_n0.mp c_83
            refine wa_bipush (v := -5) hX dX6_hidden_86 (by decide) ?_
            refine wa_goto (tgt := 96) hX dX6_hidden_88 (by decide) ?_
            exact hret _ _ _ _ _ ⟨(by rw [onB_in hw1 (by decide)]; unfold hidF; rw [if_neg c1]; show -5 = if fndV (aSus S) (aKn S) (aHid S - 1) = true then -5 else abkF (aSus S) (aKn S) (v + 3); rw [if_pos c2]), rfl, rfl⟩ dX6_hidden_96
      · skip
        have c1 : aHid S = 0 := by have := of_decide_eq_false (bI_0.mp c_24); omega
        refine wa_bipush (v := -4) hX dX6_hidden_27 (by decide) ?_
        exact hret _ _ _ _ _ ⟨(by rw [onB_in (show w0 < 6 by omega) (by decide)]; unfold hidF; rw [if_pos c1]), rfl, rfl⟩ dX6_hidden_29
    · skip
      refine wa_bipush (v := -2) hX dX6_hidden_9 (by decide) ?_
      exact hret _ _ _ _ _ ⟨(by exact (onB_out (Bool.eq_false_iff.mpr (fun h => by obtain ⟨j, hj, e⟩ := inB_t (by decide) h; rw [e] at c_6; exact absurd (nI_le (show j ≤ 5 by omega) (by decide)) c_6))).symm), rfl, rfl⟩ dX6_hidden_11

def cntF (F : FS) (w : Nat) : Int32 := match w with
  | 0 => nI (aR (gN F))
  | 1 => nI (sumN (aH (gN F)) 6)
  | 2 => nI (sumN (fun m => sumN (enV (aE (gN F) m)) (aH (gN F) m)) 6)
  | 3 => nI (sumN (fun m => sumN (shV (aH (gN F) m) (aO (gN F) m) (aE (gN F) m)) (aH (gN F) m)) 6)
  | 4 => nI (cnt (twinV (gN F)) 6)
  | 5 => nI (gC F)
  | 6 => nI (gL F)
  | _ => -2
set_option maxHeartbeats 4000000 in
set_option maxRecDepth 100000 in
theorem tX6_count {l : Launch} {D : va_G} {A : Nat → Prop} {N : Nat} {Sh : SM} {J : JM} (I : IM) {B : Nat} {F : FS} (hG : GV Sh I J B F) (x : Int32) : CtP l D A yX6_count cX6_count 2 FieldType.int 4 N Sh I J [.ref B, .int x] (fun r => r = cntF F (swI 7 x)) := by
  refine ct_I (l0 := [(0, .ref B), (1, .int x)]) (by decide +kernel) (Nat.le_of_ble_eq_true rfl) rfl (fun _ _ _ _ => rfl) ?_
  intro X hX hret _ _ _
  have hX : XK X RX6 cX6_count 2 4 := hX
  obtain ⟨hM, hV, ⟨hc1, hc2⟩, hpast, hkk, hT⟩ := id hG
  obtain ⟨m0, ⟨mj0, mj1, mj2, mj3, mj4⟩, mdf, mS, mK, mPa, mPs, mR⟩ := id hM
  obtain ⟨s0, sj0, sj1, sA, sQ⟩ := id mS
  have spr := sA.r
  obtain ⟨-, spile⟩ := id sA
  refine wa_iload_n hX dX6_count_0 rfl ?_
  rcases sw_in x 7 (by decide) with hsw | ⟨jsw, hsw1, hsw2⟩
  · skip
    refine wa_tabOut (tgt := 100) hX dX6_count_1 hsw (by decide) ?_
    refine wa_bipush (v := -2) hX dX6_count_100 (by decide) ?_
    exact hret _ _ _ _ _ ⟨(by rw [swI_out (n := 7) (by decide) hsw]; rfl), rfl, rfl⟩ dX6_count_102
  · subst hsw2
    rcases (show jsw = 0 ∨ jsw = 1 ∨ jsw = 2 ∨ jsw = 3 ∨ jsw = 4 ∨ jsw = 5 ∨ jsw = 6 by omega) with rfl | rfl | rfl | rfl | rfl | rfl | rfl
    · skip
      refine wa_tabIn (off := 43) (tgt := 44) hX dX6_count_1 (by decide) (by decide) (by decide) (by decide) ?_
      refine wa_aload_n hX dX6_count_44 rfl ?_
      refine wa_getR hX fX6_10 rfl m0 mj0 dX6_count_45 ?_
      refine wa_getI hX fX6_112 rfl s0 dX6_count_48 ?_
      exact hret _ _ _ _ _ ⟨(by rw [swI_in (show 0 < 7 by decide) (by decide)]; exact hV.2.2.1), rfl, rfl⟩ dX6_count_51
    · skip
      refine wa_tabIn (off := 51) (tgt := 52) hX dX6_count_1 (by decide) (by decide) (by decide) (by decide) ?_
      refine wa_aload_n hX dX6_count_52 rfl ?_
      refine wa_getR hX fX6_10 rfl m0 mj0 dX6_count_53 ?_
      refine wa_vP hX (tX4_layers I mS hV) bX4_layers mX6_154 (by decide) (by decide) (ci := 3) ⟨by decide, rfl⟩ s0 rfl rfl (Nat.le_of_ble_eq_true rfl) dX6_count_56 (fun r_56 q_56 => ?_)
      exact hret _ _ _ _ _ ⟨(by rw [swI_in (show 1 < 7 by decide) (by decide)]; exact q_56), rfl, rfl⟩ dX6_count_59
    · skip
      refine wa_tabIn (off := 59) (tgt := 60) hX dX6_count_1 (by decide) (by decide) (by decide) (by decide) ?_
      refine wa_aload_n hX dX6_count_60 rfl ?_
      refine wa_getR hX fX6_10 rfl m0 mj0 dX6_count_61 ?_
      refine wa_vP hX (tX4_entriesOfAll I mS hV) bX4_entriesOfAll mX6_245 (by decide) (by decide) (ci := 3) ⟨by decide, rfl⟩ s0 rfl rfl (Nat.le_of_ble_eq_true rfl) dX6_count_64 (fun r_64 q_64 => ?_)
      exact hret _ _ _ _ _ ⟨(by rw [swI_in (show 2 < 7 by decide) (by decide)]; exact q_64), rfl, rfl⟩ dX6_count_67
    · skip
      refine wa_tabIn (off := 67) (tgt := 68) hX dX6_count_1 (by decide) (by decide) (by decide) (by decide) ?_
      refine wa_aload_n hX dX6_count_68 rfl ?_
      refine wa_getR hX fX6_10 rfl m0 mj0 dX6_count_69 ?_
      refine wa_vP hX (tX4_shadowedOfAll I mS hV) bX4_shadowedOfAll mX6_248 (by decide) (by decide) (ci := 3) ⟨by decide, rfl⟩ s0 rfl rfl (Nat.le_of_ble_eq_true rfl) dX6_count_72 (fun r_72 q_72 => ?_)
      exact hret _ _ _ _ _ ⟨(by rw [swI_in (show 3 < 7 by decide) (by decide)]; exact q_72), rfl, rfl⟩ dX6_count_75
    · skip
      refine wa_tabIn (off := 75) (tgt := 76) hX dX6_count_1 (by decide) (by decide) (by decide) (by decide) ?_
      refine wa_aload_n hX dX6_count_76 rfl ?_
      refine wa_getR hX fX6_10 rfl m0 mj0 dX6_count_77 ?_
      refine wa_vP hX (tX4_repeatedMaps I mS hV) bX4_repeatedMaps mX6_251 (by decide) (by decide) (ci := 3) ⟨by decide, rfl⟩ s0 rfl rfl (Nat.le_of_ble_eq_true rfl) dX6_count_80 (fun r_80 q_80 => ?_)
      exact hret _ _ _ _ _ ⟨(by rw [swI_in (show 4 < 7 by decide) (by decide)]; exact q_80), rfl, rfl⟩ dX6_count_83
    · skip
      refine wa_tabIn (off := 83) (tgt := 84) hX dX6_count_1 (by decide) (by decide) (by decide) (by decide) ?_
      refine wa_aload_n hX dX6_count_84 rfl ?_
      refine wa_getI hX fX6_34 rfl m0 dX6_count_85 ?_
      exact hret _ _ _ _ _ ⟨(by rw [swI_in (show 5 < 7 by decide) (by decide)]; exact hc2), rfl, rfl⟩ dX6_count_88
    · skip
      refine wa_tabIn (off := 88) (tgt := 89) hX dX6_count_1 (by decide) (by decide) (by decide) (by decide) ?_
      refine wa_aload_n hX dX6_count_89 rfl ?_
      refine wa_getR hX fX6_26 rfl m0 mj3 dX6_count_90 ?_
      refine wa_getR hX fX6_137 rfl mR.1 mR.2.1 dX6_count_93 ?_
      refine wa_getI hX fX6_147 rfl mR.2.2.2.2.2.1 dX6_count_96 ?_
      exact hret _ _ _ _ _ ⟨(by rw [swI_in (show 6 < 7 by decide) (by decide)]; exact hT.1.2), rfl, rfl⟩ dX6_count_99

