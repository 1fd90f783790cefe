/-! Reader: an assignment; PileMaps: push, assign, gives, type, clearText -/
def ASQ (r : Nat) (I : IM) (res : Option (Nat × RW) × Nat) (x : Int32) (I' : IM) : Prop := x = oP res ∧ (∀ b, b ≠ r → b ≠ r + 1 → (b < r + 4 ∨ r + 16 ≤ b) → I' b = I b) ∧ I' (r + 1) 1 = I (r + 1) 1 ∧ ∀ m w, res.1 = some (m, w) → I' r 4 = nI m ∧ m < 6 ∧ RV (I' (r + 15)) w
theorem ASQ.n {r q : Nat} {I I' : IM} {res : Option (Nat × RW) × Nat} {x : Int32} (h : res = (none, q)) (hx : x = nI q) (h1 : ∀ b, b ≠ r → b ≠ r + 1 → (b < r + 4 ∨ r + 16 ≤ b) → I' b = I b) (h2 : I' (r + 1) 1 = I (r + 1) 1) : ASQ r I res x I' := by
  subst h
  exact ⟨hx, h1, h2, fun m w h => by cases h⟩
theorem ASQ.s {r q m : Nat} {w : RW} {I I' : IM} {res : Option (Nat × RW) × Nat} {x : Int32} (h : res = (some (m, w), q)) (hx : x = -1) (h1 : ∀ b, b ≠ r → b ≠ r + 1 → (b < r + 4 ∨ r + 16 ≤ b) → I' b = I b) (h2 : I' (r + 1) 1 = I (r + 1) 1) (h3 : I' r 4 = nI m ∧ m < 6 ∧ RV (I' (r + 15)) w) : ASQ r I res x I' := by
  subst h
  exact ⟨hx, h1, h2, fun m w h => by cases h; exact h3⟩
theorem asn_0 {L : Nat} {ch : Nat → Nat} {R : Nat} {mv : Nat → RW} (h : bw L ch 0 65 70 = false) : asnF L ch R mv = (none, 0) := by
  unfold asnF
  rw [if_neg (by rw [h]; decide)]
theorem asn_1 {L : Nat} {ch : Nat → Nat} {R : Nat} {mv : Nat → RW} (h : bw L ch 0 65 70 = true) (h2 : sg L ch 1 61 = false) : asnF L ch R mv = (none, 1) := by
  unfold asnF
  rw [if_pos h, if_neg (by rw [h2]; decide)]
theorem asn_2 {L : Nat} {ch : Nat → Nat} {R : Nat} {mv : Nat → RW} (h : bw L ch 0 65 70 = true) (h2 : sg L ch 1 61 = true) : asnF L ch R mv = bnd (terF L ch (facF L ch R mv 4) 60 hol 2) (fun v q => if L ≤ q then (some (ch 0 - 65, v), q) else (none, q)) := by
  unfold asnF
  rw [if_pos h, if_pos h2]
  rfl
theorem asn_le {L : Nat} {ch : Nat → Nat} {R : Nat} {mv : Nat → RW} : (asnF L ch R mv).2 ≤ L ∨ (asnF L ch R mv).2 = 0 := by
  cases h : bw L ch 0 65 70 with
  | false => right; rw [asn_0 h]
  | true =>
    have h1 := bw_t.mp h
    cases h2 : sg L ch 1 61 with
    | false => left; rw [asn_1 h h2]; show 1 ≤ L; omega
    | true =>
      left
      have h3 := sg_t.mp h2
      rw [asn_2 h h2]
      obtain ⟨x, q, e, h4, h5⟩ := ter_c (ch := ch) (fac_c (ch := ch) (R := R) (mv := mv) (L := L) 4) 60 hol (show 2 ≤ L by omega)
      rcases x with _ | x
      · rw [bnd_n e]; exact h5
      · rw [bnd_s e]
        split <;> exact h5
set_option maxHeartbeats 4000000 in
set_option maxRecDepth 100000 in
theorem tX1_readAssignment {l : Launch} {D : va_G} {A : Nat → Prop} {N : Nat} {Sh : SM} {J : JM} (I : IM) {r sb : Nat} (hRX : RX Sh J r) (hS : SL Sh J sb) (hsb : sb + 58 ≤ r) {S : AS} {L : Nat} {ch : Nat → Nat} (hT0 : T0 I (r + 1) L ch) (hV : SV I sb S) : CtM l D A yX1_readAssignment cX1_readAssignment 2 FieldType.int 15 N Sh I J [.ref r, .ref sb] (fun x I' => ASQ r I (asnF L ch (aR S) (aV S)) x I') := by
  refine ct_I (l0 := [(0, .ref r), (1, .ref sb)]) (by decide +kernel) (Nat.le_of_ble_eq_true rfl) rfl (fun _ _ _ _ => rfl) ?_
  intro X hX hret _ _ _
  have hX : XK X RX1 cX1_readAssignment 2 15 := hX
  obtain ⟨r0, ⟨rj0, rj1, rj2, rj3⟩, rT, rR, rrs, rw0, rs15⟩ := id hRX
  obtain ⟨s0, sj0, sj1, sA, sQ⟩ := id hS
  have spr := sA.r
  obtain ⟨-, spile⟩ := id sA
  refine wa_aload_n hX dX1_readAssignment_0 rfl ?_
  refine wa_getR hX fX1_12 rfl r0 rj0 dX1_readAssignment_1 ?_
  refine wa_iconst (v := nI 0) hX dX1_readAssignment_4 (by decide) ?_
  refine wa_putI hX fX1_34 rfl rfl ⟨rfl, rfl⟩ rT.1 dX1_readAssignment_5 ?_
  have hTa := hT0.at0
  refine wa_aload_n hX dX1_readAssignment_8 rfl ?_
  refine wa_aload_n hX dX1_readAssignment_9 rfl ?_
  refine wa_getR hX fX1_12 rfl r0 rj0 dX1_readAssignment_10 ?_
  refine wa_vM hX (tX5_takeMap _ rT hTa) bX5_takeMap mX1_62 (by decide) (by decide) (ci := 4) ⟨by decide, rfl⟩ rT.1 rfl rfl (Nat.le_of_ble_eq_true rfl) dX1_readAssignment_13 (fun r_13 I_13 q_13 => ?_)
  obtain ⟨w0, w1⟩ := q_13
  rw [u2_u2] at w1
  subst w1
  refine wa_putI hX fX1_30 rfl rfl ⟨rfl, rfl⟩ r0 dX1_readAssignment_16 ?_
  refine wa_aload_n hX dX1_readAssignment_19 rfl ?_
  refine wa_getI hX fX1_30 rfl r0 dX1_readAssignment_20 ?_
  rw [u2_s]
  refine wa_iconst (v := -1) hX dX1_readAssignment_23 (by decide) ?_
  refine wa_icmp_eq (tgt := 52) hX dX1_readAssignment_24 (by decide) (fun c_24 => ?_) (fun c_24 => ?_)
  · skip
    have n1 : bw L ch 0 65 70 = false := by
      cases e : bw L ch 0 65 70 with
      | false => rfl
      | true => rw [e] at w0; have w0 : r_13 = nI (ch 0 - 65) := w0; rw [w0] at c_24; exact absurd c_24 (nI_nm1 (by have := bw_t.mp e; omega))
    rw [n1]
    refine wa_aload_n hX dX1_readAssignment_52 rfl ?_
    refine wa_getR hX fX1_12 rfl r0 rj0 dX1_readAssignment_53 ?_
    refine wa_getI hX fX1_34 rfl rT.1 dX1_readAssignment_56 ?_
    exact hret _ _ _ _ _ ⟨ASQ.n (asn_0 n1) (by rw [u2_n (by omega)]; exact u2_s) (fun b a1 a2 a3 => by rw [u2_n a1, u2_n a2]) (by rw [u2_n (by omega), u2_k (by decide)]), rfl⟩ dX1_readAssignment_59
  · skip
    have n1 : bw L ch 0 65 70 = true := by
      cases e : bw L ch 0 65 70 with
      | true => rfl
      | false => rw [e] at w0; exact absurd w0 c_24
    have n1x := bw_t.mp n1
    rw [n1] at w0
    have w0 : r_13 = nI (ch 0 - 65) := w0
    rw [n1]
    have hTb : TT (u2 (u2 I (r + 1) 2 (nI (adv true 0))) r 4 r_13) (r + 1) L ch 1 := by
      have h9 := hTa.mv (show 1 ≤ L by omega)
      rw [u2_u2] at h9
      exact h9.cg (u2_n (by omega)) (u2_n (by omega))
    refine wa_aload_n hX dX1_readAssignment_27 rfl ?_
    refine wa_getR hX fX1_12 rfl r0 rj0 dX1_readAssignment_28 ?_
    refine wa_bipush (v := nI 61) hX dX1_readAssignment_31 (by decide) ?_
    refine wa_vM hX (tX5_take _ rT hTb (show 61 < 65536 by decide)) bX5_take mX1_50 (by decide) (by decide) (ci := 4) ⟨by decide, rfl⟩ rT.1 rfl rfl (Nat.le_of_ble_eq_true rfl) dX1_readAssignment_33 (fun r_33 I_33 q_33 => ?_)
    obtain ⟨w2, w3⟩ := q_33
    subst w2
    refine wa_if_eq (tgt := 52) hX dX1_readAssignment_36 (by decide) (fun c_36 => ?_) (fun c_36 => ?_)
    · skip
      have n2 := bI_0.mp c_36
      rw [n2] at w3
      have w3 : I_33 = u2 (u2 I (r + 1) 2 (nI (adv true 0))) r 4 r_13 := w3.trans hTb.stay
      subst w3
      refine wa_aload_n hX dX1_readAssignment_52 rfl ?_
      refine wa_getR hX fX1_12 rfl r0 rj0 dX1_readAssignment_53 ?_
      refine wa_getI hX fX1_34 rfl rT.1 dX1_readAssignment_56 ?_
      exact hret _ _ _ _ _ ⟨ASQ.n (asn_1 n1 n2) (by rw [u2_n (by omega)]; exact u2_s) (fun b a1 a2 a3 => by rw [u2_n a1, u2_n a2]) (by rw [u2_n (by omega), u2_k (by decide)]), rfl⟩ dX1_readAssignment_59
    · skip
      have n2 := bI_n0.mp c_36
      have n2x := sg_t.mp n2
      rw [n2] at w3
      have w3 : I_33 = u2 (u2 (u2 I (r + 1) 2 (nI (adv true 0))) r 4 r_13) (r + 1) 2 (nI 2) := w3
      have hTc := hTb.mv (show 2 ≤ L by omega)
      rw [← w3] at hTc
      have f3 : ∀ b, b ≠ r → b ≠ r + 1 → I_33 b = I b := fun b a1 a2 => by rw [w3, u2_n a2, u2_n a1, u2_n a2]
      have f4 : I_33 (r + 1) 1 = I (r + 1) 1 := by rw [w3, u2_k (by decide), u2_n (by omega), u2_k (by decide)]
      have f5 : I_33 r 4 = nI (ch 0 - 65) := by rw [w3, u2_n (by omega), u2_s, w0]
      have hV3 : SV I_33 sb S := hV.keep (fun b h1 h2 => f3 b (by omega) (by omega))
      have hA := asn_2 (R := aR S) (mv := aV S) n1 n2
      clear w3
      refine wa_aload_n hX dX1_readAssignment_39 rfl ?_
      refine wa_aload_n hX dX1_readAssignment_40 rfl ?_
      refine wa_aload_n hX dX1_readAssignment_41 rfl ?_
      refine wa_getR hX fX1_27 rfl r0 rj3 dX1_readAssignment_42 ?_
      refine wa_iconst (v := nI 0) hX dX1_readAssignment_45 (by decide) ?_
      refine wa_vM hX (tX1_readExpression _ hRX hS hsb (oo := 0) (b := 4) rfl (fac_all hRX hS hsb 4 0 rfl) hTc hV3 (Or.inl rfl)) bX1_readExpression mX1_65 (by decide) (by decide) (ci := 1) ⟨by decide, rfl⟩ r0 rfl rfl (Nat.le_of_ble_eq_true rfl) dX1_readAssignment_46 (fun r_46 I_46 q_46 => ?_)
      refine wa_if_ne (tgt := 60) hX dX1_readAssignment_49 (by decide) (fun c_49 => ?_) (fun c_49 => ?_)
      · skip
        obtain ⟨w, q, ef, hF, hv⟩ := q_46.t c_49
        have hqL : q ≤ L := by
          obtain ⟨x, q9, e9, _, h9⟩ := ter_c (ch := ch) (fac_c (ch := ch) (R := aR S) (mv := aV S) (L := L) 4) 60 hol (show 2 ≤ L by omega)
          rw [e9] at ef; cases ef; exact h9
        have hTd := hTc.xf hF hqL (by omega)
        rw [bnd_s ef] at hA
        have f6 : ∀ b, b ≠ r → b ≠ r + 1 → (b < r + 4 ∨ r + 16 ≤ b) → I_46 b = I b := fun b a1 a2 a3 => by rw [hF.2 b a2 (by omega) (by omega)]; exact f3 b a1 a2
        have f7 : I_46 (r + 1) 1 = I (r + 1) 1 := by rw [hF.1]; exact f4
        refine wa_aload_n hX dX1_readAssignment_60 rfl ?_
        refine wa_getR hX fX1_12 rfl r0 rj0 dX1_readAssignment_61 ?_
        refine wa_vP hX (tX5_isAtEnd _ rT hTd) bX5_isAtEnd mX1_47 (by decide) (by decide) (ci := 4) ⟨by decide, rfl⟩ rT.1 rfl rfl (Nat.le_of_ble_eq_true rfl) dX1_readAssignment_64 (fun r_64 q_64 => ?_)
        subst q_64
        refine wa_if_eq (tgt := 74) hX dX1_readAssignment_67 (by decide) (fun c_67 => ?_) (fun c_67 => ?_)
        · skip
          have n3 : ¬ L ≤ q := of_decide_eq_false (bI_0.mp c_67)
          rw [if_neg n3] at hA
          refine wa_aload_n hX dX1_readAssignment_74 rfl ?_
          refine wa_getR hX fX1_12 rfl r0 rj0 dX1_readAssignment_75 ?_
          refine wa_getI hX fX1_34 rfl rT.1 dX1_readAssignment_78 ?_
          exact hret _ _ _ _ _ ⟨ASQ.n (hA) hTd.2.1.2 (f6) (f7), rfl⟩ dX1_readAssignment_81
        · skip
          have n3 : L ≤ q := of_decide_eq_true (bI_n0.mp c_67)
          rw [if_pos n3] at hA
          refine wa_iconst (v := -1) hX dX1_readAssignment_70 (by decide) ?_
          refine wa_goto (tgt := 81) hX dX1_readAssignment_71 (by decide) ?_
          exact hret _ _ _ _ _ ⟨ASQ.s hA rfl f6 f7 ⟨by rw [hF.2 r (by omega) (by omega) (by omega)]; exact f5, by omega, hv⟩, rfl⟩ dX1_readAssignment_81
      · skip
        obtain ⟨q, ef, hF⟩ := q_46.f c_49
        rw [bnd_n ef] at hA
        have f6 : ∀ b, b ≠ r → b ≠ r + 1 → (b < r + 4 ∨ r + 16 ≤ b) → I_46 b = I b := fun b a1 a2 a3 => by rw [hF.2 b a2 (by omega) (by omega)]; exact f3 b a1 a2
        have f7 : I_46 (r + 1) 1 = I (r + 1) 1 := by rw [hF.1]; exact f4
        refine wa_aload_n hX dX1_readAssignment_52 rfl ?_
        refine wa_getR hX fX1_12 rfl r0 rj0 dX1_readAssignment_53 ?_
        refine wa_getI hX fX1_34 rfl rT.1 dX1_readAssignment_56 ?_
        exact hret _ _ _ _ _ ⟨ASQ.n (hA) (by rw [hF.1]; exact if_pos rfl) (f6) (f7), rfl⟩ dX1_readAssignment_59

set_option maxHeartbeats 4000000 in
set_option maxRecDepth 100000 in
theorem rX6_record {l : Launch} {D : va_G} {A : Nat → Prop} {N : Nat} {Sh : SM} {J : JM} (I : IM) {B : Nat} {F : FS} (hG : GV Sh I J B F) : CtV l D A yX6_record cX6_record 1 4 N Sh I J [.ref B] (fun I' J' => GV Sh I' J' B (recF F) ∧ JE (B + 59) J J' ∧ Fr B 292 I I') := by
  refine ct_V (l0 := [(0, .ref B)]) (by decide +kernel) (Nat.le_of_ble_eq_true rfl) rfl ?_
  intro X hX hret _ _ _
  have hX : XK X RX6 cX6_record 1 4 := hX
  obtain ⟨hM, hV, ⟨hc1, hc2⟩, ⟨σ, hσ, hp⟩, hkk, hT⟩ := id hG
  obtain ⟨m0, ⟨mj0, mj1, mj2, mj3, mj4⟩, mdf, mS, mK, mPa, mPs, mR⟩ := id hM
  refine wa_aload_n hX dX6_record_0 rfl ?_
  refine wa_getI hX fX6_34 rfl m0 dX6_record_1 ?_
  rw [hc2]
  refine wa_iconst (v := nI 4) hX dX6_record_4 (by decide) ?_
  refine wa_icmp_lt (tgt := 12) hX dX6_record_5 (by decide) (fun c_5 => ?_) (fun c_5 => ?_)
  · skip
    have hlt : gC F < 4 := by
      rcases Nat.lt_or_ge (gC F) 4 with q | q
      · exact q
      · exact absurd c_5 (nI_nlt q (by omega))
    obtain ⟨hs1, hs2⟩ := hσ.1 (gC F) hlt
    refine wa_aload_n hX dX6_record_12 rfl ?_
    refine wa_getR hX fX6_16 rfl m0 mj1 dX6_record_13 ?_
    refine wa_aload_n hX dX6_record_16 rfl ?_
    refine wa_getI hX fX6_34 rfl m0 dX6_record_17 ?_
    rw [hc2]
    refine wa_aald hX (show shR Sh (B + 59) 4 by obtain ⟨cA, e⟩ := mPa; exact ⟨cA, _, e, rfl⟩) rfl hlt (by decide) hs2 dX6_record_20 ?_
    refine wa_aload_n hX dX6_record_21 rfl ?_
    refine wa_getR hX fX6_10 rfl m0 mj0 dX6_record_22 ?_
    refine wa_vW hX (tX4_copyFrom _ (mPs _ hs1) mS (by omega) hV) bX4_copyFrom mX6_150 (by decide) (by decide) (ci := 3) ⟨by decide, rfl⟩ (mPs _ hs1).1 rfl rfl (Nat.le_of_ble_eq_true rfl) dX6_record_25 (fun I_25 q_25 => ?_)
    obtain ⟨w1, w2⟩ := q_25
    refine wa_aload_n hX dX6_record_28 rfl ?_
    refine wa_dup hX dX6_record_29 rfl ?_
    refine wa_getI hX fX6_34 rfl m0 dX6_record_30 ?_
    refine wa_iconst (v := nI 1) hX dX6_record_33 (by decide) ?_
    rw [w2.n (c := B) (by omega), hc2]
    refine wa_iadd hX dX6_record_34 ?_
    rw [show nI (gC F) + nI 1 = nI (gC F + 1) from nI_add _ 1]
    refine wa_putI hX fX6_34 rfl rfl ⟨rfl, rfl⟩ m0 dX6_record_35 ?_
    refine hret _ _ _ _ ⟨⟨hM, ?_, ?_, ⟨σ, hσ, fun i hi => ?_⟩, ⟨?_, fun hh => ?_⟩, ?_⟩, JE.rf, ?_⟩ dX6_record_38
    · exact (hV.keep (fun q h1 h2 => w2.n (by omega))).keep (fun q h1 h2 => u2_n (by omega))
    · show gC (recF F) ≤ 4 ∧ _ = nI (gC (recF F))
      rw [show gC (recF F) = gC F + 1 by simp [gC, recF, recP, show F.2.1.1 < 4 from hlt]]
      exact ⟨by omega, u2_s⟩
    · rw [show gC (recF F) = gC F + 1 by simp [gC, recF, recP, show F.2.1.1 < 4 from hlt]] at hi
      rw [show gP (recF F) = upF (gP F) (gC F) (gN F) by simp [gP, gC, gN, recF, recP, show F.2.1.1 < 4 from hlt]]
      refine SV.keep (I := I_25) ?_ (fun q h1 h2 => u2_n (by omega))
      by_cases e : i = gC F
      · subst e; simp only [upF, ↓reduceIte]; exact w1
      · simp only [upF, if_neg e]
        have h7 := hσ.1 i (by omega)
        have h8 : σ i ≠ σ (gC F) := fun q => e (hσ.2 i (gC F) (by omega) hlt q)
        exact (hp i (by omega)).keep (fun q h1 h2 => w2.n (by omega))
    · rw [u2_k (by decide), w2.n (c := B) (by omega)]; exact hkk.1
    · exact ((hkk.2 hh).keep (fun q h1 h2 => w2.n (by omega))).keep (fun q h1 h2 => u2_n (by omega))
    · exact hT.keep (by rw [u2_n (by omega), w2.n (by omega)]) (by rw [u2_n (by omega), w2.n (by omega)])
    · exact Fr.tr (w2.in (by omega) (by omega)) (Fr.u2 (Nat.le_refl _) (by omega))
  · skip
    have hlt : gC F = 4 := by
      rcases Nat.lt_or_ge (gC F) 4 with q | q
      · exact absurd (nI_lt q (by decide)) c_5
      · omega
    refine wa_aload_n hX dX6_record_8 rfl ?_
    refine wa_callVV hX (tX6_dropOldest I hM hσ) bX6_dropOldest mX6_257 (by decide) (by decide) (ci := 5) ⟨by decide, rfl⟩ m0 rfl rfl (Nat.le_of_ble_eq_true rfl) dX6_record_9 (fun I_9 J_9 q_9 => ?_)
    obtain ⟨hI, hJ, hn⟩ := q_9
    have hM2 := hM.mv hJ
    obtain ⟨m0, ⟨mj0, mj1, mj2, mj3, mj4⟩, mdf, mS, mK, mPa, mPs, mR⟩ := id hM2
    have hs2 := hn 3 (by decide)
    rw [if_pos rfl] at hs2
    obtain ⟨hs1, -⟩ := hσ.1 0 (by decide)
    have hV2 : SV I_9 (B + 1) (gN F) := hV.keep (fun q h1 h2 => by rw [hI]; exact u2_n (by omega))
    refine wa_aload_n hX dX6_record_12 rfl ?_
    refine wa_getR hX fX6_16 rfl m0 mj1 dX6_record_13 ?_
    refine wa_aload_n hX dX6_record_16 rfl ?_
    refine wa_getI hX fX6_34 rfl m0 dX6_record_17 ?_
    rw [show I_9 B 5 = nI 3 by rw [hI]; exact u2_s]
    refine wa_aald hX (show shR Sh (B + 59) 4 by obtain ⟨cA, e⟩ := mPa; exact ⟨cA, _, e, rfl⟩) rfl (show 3 < 4 by decide) (by decide) hs2 dX6_record_20 ?_
    refine wa_aload_n hX dX6_record_21 rfl ?_
    refine wa_getR hX fX6_10 rfl m0 mj0 dX6_record_22 ?_
    refine wa_vW hX (tX4_copyFrom _ (mPs _ hs1) mS (by omega) hV2) bX4_copyFrom mX6_150 (by decide) (by decide) (ci := 3) ⟨by decide, rfl⟩ (mPs _ hs1).1 rfl rfl (Nat.le_of_ble_eq_true rfl) dX6_record_25 (fun I_25 q_25 => ?_)
    obtain ⟨w1, w2⟩ := q_25
    refine wa_aload_n hX dX6_record_28 rfl ?_
    refine wa_dup hX dX6_record_29 rfl ?_
    refine wa_getI hX fX6_34 rfl m0 dX6_record_30 ?_
    refine wa_iconst (v := nI 1) hX dX6_record_33 (by decide) ?_
    rw [w2.n (c := B) (by omega), show I_9 B 5 = nI 3 by rw [hI]; exact u2_s]
    refine wa_iadd hX dX6_record_34 ?_
    rw [show nI 3 + nI 1 = nI 4 from nI_add _ 1]
    refine wa_putI hX fX6_34 rfl rfl ⟨rfl, rfl⟩ m0 dX6_record_35 ?_
    have f0 : ∀ b, b ≠ B → I_9 b = I b := fun b hb => by rw [hI]; exact u2_n hb
    refine hret _ _ _ _ ⟨⟨hM2, ?_, ?_, ⟨fun i => σ (if i = 3 then 0 else i + 1), ⟨fun i hi => ⟨(hσ.1 _ (by split <;> omega)).1, hn i hi⟩, fun i j hi hj e => ?_⟩, fun i hi => ?_⟩, ⟨?_, fun hh => ?_⟩, ?_⟩, hJ, ?_⟩ dX6_record_38
    · exact (hV2.keep (fun q h1 h2 => w2.n (by omega))).keep (fun q h1 h2 => u2_n (by omega))
    · show gC (recF F) ≤ 4 ∧ _ = nI (gC (recF F))
      rw [show gC (recF F) = 4 by simp [gC, recF, recP, show ¬ F.2.1.1 < 4 by have : F.2.1.1 = 4 := hlt; omega]]
      exact ⟨by omega, u2_s⟩
    · have h7 := hσ.2 _ _ (by split <;> omega) (by split <;> omega) e
      split at h7 <;> split at h7 <;> omega
    · rw [show gC (recF F) = 4 by simp [gC, recF, recP, show ¬ F.2.1.1 < 4 by have : F.2.1.1 = 4 := hlt; omega]] at hi
      rw [show gP (recF F) = (fun i => if i = 3 then gN F else gP F (i + 1)) by simp [gP, gC, gN, recF, recP, show ¬ F.2.1.1 < 4 by have : F.2.1.1 = 4 := hlt; omega]]
      refine SV.keep (I := I_25) ?_ (fun q h1 h2 => u2_n (by omega))
      by_cases e : i = 3
      · subst e; simp only [↓reduceIte]; exact w1
      · simp only [if_neg e]
        have h7 := hσ.1 (i + 1) (by omega)
        have h8 : σ (i + 1) ≠ σ 0 := fun q => by have := hσ.2 (i + 1) 0 (by omega) (by decide) q; omega
        exact ((hp (i + 1) (by omega)).keep (fun q h1 h2 => f0 q (by omega))).keep (fun q h1 h2 => w2.n (by omega))
    · rw [u2_k (by decide), w2.n (c := B) (by omega), hI, u2_k (by decide)]; exact hkk.1
    · exact (((hkk.2 hh).keep (fun q h1 h2 => f0 q (by omega))).keep (fun q h1 h2 => w2.n (by omega))).keep (fun q h1 h2 => u2_n (by omega))
    · exact hT.keep (by rw [u2_n (by omega), w2.n (by omega), f0 _ (by omega)]) (by rw [u2_n (by omega), w2.n (by omega), f0 _ (by omega)])
    · rw [hI] at w2
      exact Fr.tr (Fr.u2 (Nat.le_refl _) (by omega)) (Fr.tr (w2.in (by omega) (by omega)) (Fr.u2 (Nat.le_refl _) (by omega)))

theorem GV.rd {Sh : SM} {I I' : IM} {J : JM} {B : Nat} {F : FS} (h : GV Sh I J B F) (hF : ∀ b, b < B + 350 → I' b = I b) (e1 : I' (B + 351) 1 = I (B + 351) 1) (e2 : I' (B + 352) = I (B + 352)) : GV Sh I' J B F := by
  obtain ⟨hM, hV, ⟨hc1, hc2⟩, ⟨σ, hσ, hp⟩, hkk, hT⟩ := h
  exact ⟨hM, hV.keep (fun q h1 h2 => hF q (by omega)), ⟨hc1, by rw [hF B (by omega)]; exact hc2⟩, ⟨σ, hσ, fun i hi => by
    have h7 := hσ.1 i (by omega)
    exact (hp i hi).keep (fun q h1 h2 => hF q (by omega))⟩, ⟨by rw [hF B (by omega)]; exact hkk.1, fun hh => (hkk.2 hh).keep (fun q h1 h2 => hF q (by omega))⟩, ⟨⟨hT.1.1, by rw [e1]; exact hT.1.2⟩, fun j hj => by rw [e2]; exact hT.2 j hj⟩⟩
def assF (F : FS) : Int32 × FS := match asnF (gL F) (gT F) (aR (gN F)) (aV (gN F)) with
  | (none, q) => (-100 - nI q, F)
  | (some (m, w), _) => (nI (valN w), wN (recF F) (oneM (gN F) m w))
theorem assF_n {F : FS} {q : Nat} (h : asnF (gL F) (gT F) (aR (gN F)) (aV (gN F)) = (none, q)) : assF F = (-100 - nI q, F) := by unfold assF; rw [h]
theorem assF_s {F : FS} {q m : Nat} {w : RW} (h : asnF (gL F) (gT F) (aR (gN F)) (aV (gN F)) = (some (m, w), q)) : assF F = (nI (valN w), wN (recF F) (oneM (gN F) m w)) := by unfold assF; rw [h]
def givF (F : FS) (k : Nat) : Int32 := match asnF (gL F) (gT F) (aR (gN F)) (aV (gN F)) with
  | (none, q) => -100 - nI q
  | (some (_, w), _) => orN (nI (w k))
theorem givF_n {F : FS} {k q : Nat} (h : asnF (gL F) (gT F) (aR (gN F)) (aV (gN F)) = (none, q)) : givF F k = -100 - nI q := by unfold givF; rw [h]
theorem givF_s {F : FS} {k q m : Nat} {w : RW} (h : asnF (gL F) (gT F) (aR (gN F)) (aV (gN F)) = (some (m, w), q)) : givF F k = orN (nI (w k)) := by unfold givF; rw [h]
def pusM (F : FS) (m : Nat) : Int32 × FS := match lytF (gL F) (gT F) 60 (fun _ => 17) 0 with
  | (none, q) => (-100 - nI q, F)
  | (some w, _) => if aH (gN F) m < 4 then (nI (aH (gN F) m + 1), wN (recF F) (sM (gN F) m (aH (gN F) m + 1) (upF (aO (gN F) m) (aH (gN F) m) true) (upF (aE (gN F) m) (aH (gN F) m) w))) else (-3, F)
theorem pusM_n {F : FS} {m q : Nat} (h : lytF (gL F) (gT F) 60 (fun _ => 17) 0 = (none, q)) : pusM F m = (-100 - nI q, F) := by unfold pusM; rw [h]
theorem pusM_s {F : FS} {m q : Nat} {w : RW} (h : lytF (gL F) (gT F) 60 (fun _ => 17) 0 = (some w, q)) (h4 : aH (gN F) m < 4) : pusM F m = (nI (aH (gN F) m + 1), wN (recF F) (sM (gN F) m (aH (gN F) m + 1) (upF (aO (gN F) m) (aH (gN F) m) true) (upF (aE (gN F) m) (aH (gN F) m) w))) := by
  unfold pusM
  rw [h]
  exact if_pos h4
theorem pusM_f {F : FS} {m q : Nat} {w : RW} (h : lytF (gL F) (gT F) 60 (fun _ => 17) 0 = (some w, q)) (h4 : ¬ aH (gN F) m < 4) : pusM F m = (-3, F) := by
  unfold pusM
  rw [h]
  exact if_neg h4
def pushF (F : FS) (x : Int32) : Int32 × FS := onA 6 x (fun m => pusM F m) (-1, F)
theorem lyt_le {L : Nat} {ch : Nat → Nat} : ∀ (n : Nat) (w : RW) {p : Nat}, p ≤ L → (lytF L ch n w p).2 ≤ L
  | 0, _, _, h => h
  | n + 1, w, p, h => by
    rw [lyt_s]
    rcases ent_c (ch := ch) h with ⟨q, e, h1, h2⟩ | ⟨k, v, q, e, h1, h2, h3, h4⟩
    · rw [bnd_n e]; exact h2
    · rw [bnd_s e]
      by_cases e1 : L ≤ q
      · rw [if_pos e1]; exact h2
      · rw [if_neg e1]
        by_cases e2 : sg L ch q 44 = true
        · rw [if_pos e2]
          have := sg_t.mp e2
          exact lyt_le n _ (by omega)
        · rw [if_neg e2]; exact h2
theorem oP_n {α : Type} {x : Option α × Nat} {r : Int32} (h : r = oP x) (hx : ¬ r = -1) : ∃ q, x = (none, q) ∧ r = nI q := by
  rcases x with ⟨_ | a, q⟩
  · exact ⟨q, rfl, h⟩
  · exact absurd h hx
theorem oP_s {α : Type} {x : Option α × Nat} {r : Int32} (h : r = oP x) (hx : r = -1) (hq : x.2 < 2 ^ 31) : ∃ a q, x = (some a, q) := by
  rcases x with ⟨_ | a, q⟩
  · exact absurd (h.symm.trans hx) (nI_nm1 hq)
  · exact ⟨a, q, rfl⟩
set_option maxHeartbeats 4000000 in
set_option maxRecDepth 100000 in
theorem tX6_push {l : Launch} {D : va_G} {A : Nat → Prop} {N : Nat} {Sh : SM} {J : JM} (I : IM) {B : Nat} {F : FS} (hG : GV Sh I J B F) (x : Int32) : CtI l D A yX6_push cX6_push 4 FieldType.int 5 N Sh I J [.ref B, .int x] (fun r I' J' => AC Sh I J B (pushF F x) r I' J') := by
  refine ct_I (l0 := [(0, .ref B), (1, .int x)]) (by decide +kernel) (Nat.le_of_ble_eq_true rfl) rfl (fun _ _ _ _ => rfl) ?_
  intro X hX hret _ _ _
  have hX : XK X RX6 cX6_push 4 5 := hX
  obtain ⟨hM, hV, ⟨hc1, hc2⟩, hpast, hkk, hT⟩ := id hG
  obtain ⟨m0, ⟨mj0, mj1, mj2, mj3, mj4⟩, mdf, mS, mK, mPa, mPs, mR⟩ := id hM
  obtain ⟨s0, sj0, sj1, sA, sQ⟩ := id mS
  have spr := sA.r
  obtain ⟨-, spile⟩ := id sA
  have hRX := mR.rx
  have hT0 : T0 I (B + 350 + 1) (gL F) (gT F) := ⟨hT.1, hT.2⟩
  refine wa_iload_n hX dX6_push_0 rfl ?_
  refine wa_sP hX (tX6_isMap I x) bX6_isMap mX6_42 (by decide) (by decide) rfl rfl (Nat.le_of_ble_eq_true rfl) dX6_push_1 (fun r_1 q_1 => ?_)
  subst q_1
  refine wa_if_ne (tgt := 9) hX dX6_push_4 (by decide) (fun c_4 => ?_) (fun c_4 => ?_)
  · skip
    obtain ⟨m, hm, em⟩ := inB_t (by decide) (bI_n0.mp c_4)
    subst em
    refine wa_aload_n hX dX6_push_9 rfl ?_
    refine wa_getR hX fX6_26 rfl m0 mj3 dX6_push_10 ?_
    refine wa_vM hX (tX1_readLayer _ hRX hT0) bX1_readLayer mX6_46 (by decide) (by decide) (ci := 1) ⟨by decide, rfl⟩ hRX.1 rfl rfl (Nat.le_of_ble_eq_true rfl) dX6_push_13 (fun r_13 I_13 q_13 => ?_)
    obtain ⟨w0, w1, w2, w3⟩ := q_13
    have hG2 : GV Sh I_13 J B F := hG.rd (fun b hb => w2 b (by omega) (by omega)) (w1.1.2.trans hT.1.2.symm) (w2 (B + 352) (by omega) (by omega))
    have hFr : Fr B 367 I I_13 := fun b hb => w2 b (by omega) (by omega)
    have hV2 := hG2.2.1
    refine wa_istore_n hX dX6_push_16 (by decide) ?_
    refine wa_iload_n hX dX6_push_17 rfl ?_
    refine wa_iconst (v := -1) hX dX6_push_18 (by decide) ?_
    refine wa_icmp_eq (tgt := 27) hX dX6_push_19 (by decide) (fun c_19 => ?_) (fun c_19 => ?_)
    · skip
      obtain ⟨w, q, ew⟩ := oP_s w0 c_19 (by have := lyt_le (L := gL F) (ch := gT F) 60 (fun _ => 17) (Nat.zero_le _); have := hT.1.1; omega)
      have hw := w3 w (by rw [ew])
      refine wa_aload_n hX dX6_push_27 rfl ?_
      refine wa_getR hX fX6_10 rfl m0 mj0 dX6_push_28 ?_
      refine wa_getR hX fX6_50 rfl s0 sj0 dX6_push_31 ?_
      refine wa_iload_n hX dX6_push_34 rfl ?_
      refine wa_aald hX spr rfl hm (by decide) (spile m hm).1 dX6_push_35 ?_
      refine wa_astore_n hX dX6_push_36 (by decide) ?_
      refine wa_aload_n hX dX6_push_37 rfl ?_
      refine wa_getI hX fX6_54 rfl (spile m hm).2.1 dX6_push_38 ?_
      rw [(hV2.1 m hm).1.1.2]
      refine wa_iconst (v := nI 4) hX dX6_push_41 (by decide) ?_
      refine wa_icmp_lt (tgt := 48) hX dX6_push_42 (by decide) (fun c_42 => ?_) (fun c_42 => ?_)
      · skip
        have c1 : aH (gN F) m < 4 := by
          rcases Nat.lt_or_ge (aH (gN F) m) 4 with q | q
          · exact q
          · exact absurd c_42 (nI_nlt q (by have := hV.h4 m hm; omega))
        refine wa_aload_n hX dX6_push_48 rfl ?_
        refine wa_callVV hX (rX6_record _ hG2) bX6_record mX6_59 (by decide) (by decide) (ci := 5) ⟨by decide, rfl⟩ m0 rfl rfl (Nat.le_of_ble_eq_true rfl) dX6_push_49 (fun I_49 J_49 q_49 => ?_)
        obtain ⟨hG1, hJ1, hF1⟩ := q_49
        obtain ⟨hM1, hV1, ⟨hd1, hd2⟩, hpast1, hkk1, hT1⟩ := id hG1
        obtain ⟨n0, ⟨nj0, nj1, nj2, nj3, nj4⟩, ndf, nS, nK, nPa, nPs, nR⟩ := id hM1
        obtain ⟨t0, tj0, tj1, tA, tQ⟩ := id nS
        have tpr := tA.r
        obtain ⟨-, tpile⟩ := id tA
        have nRX := nR.rx
        have hV1 : SV I_49 (B + 1) (gN F) := hV1
        refine wa_aload_n hX dX6_push_52 rfl ?_
        refine wa_aload_n hX dX6_push_53 rfl ?_
        refine wa_getR hX fX6_26 rfl n0 nj3 dX6_push_54 ?_
        refine wa_getR hX fX6_62 rfl nRX.1 nRX.2.1.2.2.2 dX6_push_57 ?_
        refine wa_vW hX (tX0_addLayer _ (tpile m hm).2 (hV1.1 m hm).1 c1 nRX.2.2.2.2.2.2 (by omega) (w := w) (fun k hk => by rw [hF1 (B + 350 + 15) (by omega)]; exact hw k hk)) bX0_addLayer mX6_65 (by decide) (by decide) (ci := 0) ⟨by decide, rfl⟩ (tpile m hm).2.1 rfl rfl (Nat.le_of_ble_eq_true rfl) dX6_push_60 (fun I_60 q_60 => ?_)
        obtain ⟨w4, w5⟩ := q_60
        refine wa_aload_n hX dX6_push_63 rfl ?_
        refine wa_getI hX fX6_54 rfl (tpile m hm).2.1 dX6_push_64 ?_
        refine hret _ _ _ _ _ ?_ dX6_push_67
        unfold pushF
        rw [onA_in hm (by decide), pusM_s ew c1]
        exact ⟨w4.1.1.2, hG1.now (hV1.pile hm w4 w5) (w5.in (by omega) (by omega)), hJ1, hFr.tr (Fr.tr (hF1.in (by omega) (by omega)) (w5.in (by omega) (by omega)))⟩
      · skip
        have c1 : ¬ aH (gN F) m < 4 := fun q => c_42 (nI_lt q (by decide))
        refine wa_bipush (v := -3) hX dX6_push_45 (by decide) ?_
        refine hret _ _ _ _ _ ?_ dX6_push_47
        unfold pushF
        rw [onA_in hm (by decide), pusM_f ew c1]
        exact ⟨rfl, hG2, JE.rf, hFr⟩
    · skip
      obtain ⟨q, ew, er⟩ := oP_n w0 c_19
      refine wa_bipush (v := -100) hX dX6_push_22 (by decide) ?_
      refine wa_iload_n hX dX6_push_24 rfl ?_
      refine wa_isub hX dX6_push_25 ?_
      refine hret _ _ _ _ _ ?_ dX6_push_26
      unfold pushF
      rw [onA_in hm (by decide), pusM_n ew]
      exact ⟨by rw [er], hG2, JE.rf, hFr⟩
  · skip
    have n_4 := bI_0.mp c_4
    refine wa_iconst (v := -1) hX dX6_push_7 (by decide) ?_
    exact hret _ _ _ _ _ (AC.no hG (c := -1) (by unfold pushF; exact onA_out n_4) rfl) dX6_push_8

set_option maxHeartbeats 4000000 in
set_option maxRecDepth 100000 in
theorem tX6_assign {l : Launch} {D : va_G} {A : Nat → Prop} {N : Nat} {Sh : SM} {J : JM} (I : IM) {B : Nat} {F : FS} (hG : GV Sh I J B F) : CtI l D A yX6_assign cX6_assign 3 FieldType.int 16 N Sh I J [.ref B] (fun r I' J' => AC Sh I J B (assF F) r I' J') := by
  refine ct_I (l0 := [(0, .ref B)]) (by decide +kernel) (Nat.le_of_ble_eq_true rfl) rfl (fun _ _ _ _ => rfl) ?_
  intro X hX hret _ _ _
  have hX : XK X RX6 cX6_assign 3 16 := hX
  obtain ⟨hM, hV, ⟨hc1, hc2⟩, hpast, hkk, hT⟩ := id hG
  obtain ⟨m0, ⟨mj0, mj1, mj2, mj3, mj4⟩, mdf, mS, mK, mPa, mPs, mR⟩ := id hM
  obtain ⟨s0, sj0, sj1, sA, sQ⟩ := id mS
  have spr := sA.r
  obtain ⟨-, spile⟩ := id sA
  have hRX := mR.rx
  have hT0 : T0 I (B + 350 + 1) (gL F) (gT F) := ⟨hT.1, hT.2⟩
  refine wa_aload_n hX dX6_assign_0 rfl ?_
  refine wa_getR hX fX6_26 rfl m0 mj3 dX6_assign_1 ?_
  refine wa_aload_n hX dX6_assign_4 rfl ?_
  refine wa_getR hX fX6_10 rfl m0 mj0 dX6_assign_5 ?_
  refine wa_vM hX (tX1_readAssignment _ hRX mS (by omega) hT0 hV) bX1_readAssignment mX6_105 (by decide) (by decide) (ci := 1) ⟨by decide, rfl⟩ hRX.1 rfl rfl (Nat.le_of_ble_eq_true rfl) dX6_assign_8 (fun r_8 I_8 q_8 => ?_)
  obtain ⟨w0, w1, w2, w3⟩ := q_8
  have hG2 : GV Sh I_8 J B F := hG.rd (fun b hb => w1 b (by omega) (by omega) (by omega)) w2 (w1 (B + 352) (by omega) (by omega) (by omega))
  have hFr : Fr B 367 I I_8 := fun b hb => w1 b (by omega) (by omega) (by omega)
  have hq0 : (asnF (gL F) (gT F) (aR (gN F)) (aV (gN F))).2 < 2 ^ 31 := by have := asn_le (L := gL F) (ch := gT F) (R := aR (gN F)) (mv := aV (gN F)); have := hT.1.1; omega
  refine wa_istore_n hX dX6_assign_11 (by decide) ?_
  refine wa_iload_n hX dX6_assign_12 rfl ?_
  refine wa_iconst (v := -1) hX dX6_assign_13 (by decide) ?_
  refine wa_icmp_eq (tgt := 22) hX dX6_assign_14 (by decide) (fun c_14 => ?_) (fun c_14 => ?_)
  · skip
    obtain ⟨⟨m, w⟩, q, ew⟩ := oP_s w0 c_14 hq0
    obtain ⟨w4, hm, hw⟩ := w3 m w (by rw [ew])
    refine wa_aload_n hX dX6_assign_22 rfl ?_
    refine wa_getR hX fX6_26 rfl m0 mj3 dX6_assign_23 ?_
    refine wa_getI hX fX6_109 rfl hRX.1 dX6_assign_26 ?_
    rw [w4]
    refine wa_istore_n hX dX6_assign_29 (by decide) ?_
    refine wa_iload_n hX dX6_assign_30 rfl ?_
    refine wa_sP hX (tX6_isMap _ (nI m)) bX6_isMap mX6_42 (by decide) (by decide) rfl rfl (Nat.le_of_ble_eq_true rfl) dX6_assign_31 (fun r_31 q_31 => ?_)
    subst q_31
    refine wa_if_ne (tgt := 39) hX dX6_assign_34 (by decide) (fun c_34 => ?_) (fun c_34 => absurd c_34 (by rw [inB_nI (by omega) (by decide), decide_eq_true hm]; decide))
    refine wa_aload_n hX dX6_assign_39 rfl ?_
    refine wa_callVV hX (rX6_record _ hG2) bX6_record mX6_59 (by decide) (by decide) (ci := 5) ⟨by decide, rfl⟩ m0 rfl rfl (Nat.le_of_ble_eq_true rfl) dX6_assign_40 (fun I_40 J_40 q_40 => ?_)
    obtain ⟨hG1, hJ1, hF1⟩ := q_40
    obtain ⟨hM1, hV1, ⟨hd1, hd2⟩, hpast1, hkk1, hT1⟩ := id hG1
    obtain ⟨n0, ⟨nj0, nj1, nj2, nj3, nj4⟩, ndf, nS, nK, nPa, nPs, nR⟩ := id hM1
    obtain ⟨t0, tj0, tj1, tA, tQ⟩ := id nS
    have tpr := tA.r
    obtain ⟨-, tpile⟩ := id tA
    have nRX := nR.rx
    have hV1 : SV I_40 (B + 1) (gN F) := hV1
    refine wa_aload_n hX dX6_assign_43 rfl ?_
    refine wa_getR hX fX6_10 rfl n0 nj0 dX6_assign_44 ?_
    refine wa_getR hX fX6_50 rfl t0 tj0 dX6_assign_47 ?_
    refine wa_iload_n hX dX6_assign_50 rfl ?_
    refine wa_aald hX tpr rfl hm (by decide) (tpile m hm).1 dX6_assign_51 ?_
    refine wa_aload_n hX dX6_assign_52 rfl ?_
    refine wa_getR hX fX6_26 rfl n0 nj3 dX6_assign_53 ?_
    refine wa_getR hX fX6_62 rfl nRX.1 nRX.2.1.2.2.2 dX6_assign_56 ?_
    refine wa_vM hX (tX0_becomeOneLayer _ (tpile m hm).2 (hV1.1 m hm).1 nRX.2.2.2.2.2.2 (by omega) (w := w) (fun k hk => by rw [hF1 (B + 350 + 15) (by omega)]; exact hw k hk)) bX0_becomeOneLayer mX6_101 (by decide) (by decide) (ci := 0) ⟨by decide, rfl⟩ (tpile m hm).2.1 rfl rfl (Nat.le_of_ble_eq_true rfl) dX6_assign_59 (fun r_59 I_59 q_59 => ?_)
    obtain ⟨w5, w6, w7⟩ := q_59
    refine hret _ _ _ _ _ ?_ dX6_assign_62
    rw [assF_s ew]
    exact ⟨w5, hG1.now (hV1.pile hm w6 w7) (w7.in (by omega) (by omega)), hJ1, hFr.tr (Fr.tr (hF1.in (by omega) (by omega)) (w7.in (by omega) (by omega)))⟩
  · skip
    obtain ⟨q, ew, er⟩ := oP_n w0 c_14
    refine wa_bipush (v := -100) hX dX6_assign_17 (by decide) ?_
    refine wa_iload_n hX dX6_assign_19 rfl ?_
    refine wa_isub hX dX6_assign_20 ?_
    refine hret _ _ _ _ _ ?_ dX6_assign_21
    rw [assF_n ew]
    exact ⟨by rw [er], hG2, JE.rf, hFr⟩

set_option maxHeartbeats 4000000 in
set_option maxRecDepth 100000 in
theorem tX6_gives {l : Launch} {D : va_G} {A : Nat → Prop} {N : Nat} {Sh : SM} {J : JM} (I : IM) {B : Nat} {F : FS} (hG : GV Sh I J B F) (x : Int32) : CtI l D A yX6_gives cX6_gives 3 FieldType.int 16 N Sh I J [.ref B, .int x] (fun r I' J' => AC Sh I J B (onB 16 x (fun k => givF F k) (-1), F) r I' J') := by
  refine ct_I (l0 := [(0, .ref B), (1, .int x)]) (by decide +kernel) (Nat.le_of_ble_eq_true rfl) rfl (fun _ _ _ _ => rfl) ?_
  intro X hX hret _ _ _
  have hX : XK X RX6 cX6_gives 3 16 := hX
  obtain ⟨hM, hV, ⟨hc1, hc2⟩, hpast, hkk, hT⟩ := id hG
  obtain ⟨m0, ⟨mj0, mj1, mj2, mj3, mj4⟩, mdf, mS, mK, mPa, mPs, mR⟩ := id hM
  obtain ⟨s0, sj0, sj1, sA, sQ⟩ := id mS
  have spr := sA.r
  obtain ⟨-, spile⟩ := id sA
  have hRX := mR.rx
  have hT0 : T0 I (B + 350 + 1) (gL F) (gT F) := ⟨hT.1, hT.2⟩
  refine wa_iload_n hX dX6_gives_0 rfl ?_
  refine wa_sP hX (tX6_isKey I x) bX6_isKey mX6_87 (by decide) (by decide) rfl rfl (Nat.le_of_ble_eq_true rfl) dX6_gives_1 (fun r_1 q_1 => ?_)
  subst q_1
  refine wa_if_ne (tgt := 9) hX dX6_gives_4 (by decide) (fun c_4 => ?_) (fun c_4 => ?_)
  · skip
    obtain ⟨k, hk, ek⟩ := inB_t (by decide) (bI_n0.mp c_4)
    subst ek
    refine wa_aload_n hX dX6_gives_9 rfl ?_
    refine wa_getR hX fX6_26 rfl m0 mj3 dX6_gives_10 ?_
    refine wa_aload_n hX dX6_gives_13 rfl ?_
    refine wa_getR hX fX6_10 rfl m0 mj0 dX6_gives_14 ?_
    refine wa_vM hX (tX1_readAssignment _ hRX mS (by omega) hT0 hV) bX1_readAssignment mX6_105 (by decide) (by decide) (ci := 1) ⟨by decide, rfl⟩ hRX.1 rfl rfl (Nat.le_of_ble_eq_true rfl) dX6_gives_17 (fun r_17 I_17 q_17 => ?_)
    obtain ⟨w0, w1, w2, w3⟩ := q_17
    have hG2 : GV Sh I_17 J B F := hG.rd (fun b hb => w1 b (by omega) (by omega) (by omega)) w2 (w1 (B + 352) (by omega) (by omega) (by omega))
    have hFr : Fr B 367 I I_17 := fun b hb => w1 b (by omega) (by omega) (by omega)
    have hq0 : (asnF (gL F) (gT F) (aR (gN F)) (aV (gN F))).2 < 2 ^ 31 := by have := asn_le (L := gL F) (ch := gT F) (R := aR (gN F)) (mv := aV (gN F)); have := hT.1.1; omega
    refine wa_istore_n hX dX6_gives_20 (by decide) ?_
    refine wa_iload_n hX dX6_gives_21 rfl ?_
    refine wa_iconst (v := -1) hX dX6_gives_22 (by decide) ?_
    refine wa_icmp_eq (tgt := 31) hX dX6_gives_23 (by decide) (fun c_23 => ?_) (fun c_23 => ?_)
    · skip
      obtain ⟨⟨m, w⟩, q, ew⟩ := oP_s w0 c_23 hq0
      obtain ⟨w4, hm, hw⟩ := w3 m w (by rw [ew])
      refine wa_aload_n hX dX6_gives_31 rfl ?_
      refine wa_getR hX fX6_26 rfl m0 mj3 dX6_gives_32 ?_
      refine wa_getR hX fX6_62 rfl hRX.1 hRX.2.1.2.2.2 dX6_gives_35 ?_
      refine wa_iload_n hX dX6_gives_38 rfl ?_
      refine wa_iald hX hRX.2.2.2.2.2.2 rfl hk (by decide) dX6_gives_39 ?_
      rw [(hw k hk).1]
      refine wa_sP hX (tX6_orNone _ _) bX6_orNone mX6_157 (by decide) (by decide) rfl rfl (Nat.le_of_ble_eq_true rfl) dX6_gives_40 (fun r_40 q_40 => ?_)
      subst q_40
      refine hret _ _ _ _ _ ?_ dX6_gives_43
      rw [onB_in hk (by decide), givF_s ew]
      exact ⟨rfl, hG2, JE.rf, hFr⟩
    · skip
      obtain ⟨q, ew, er⟩ := oP_n w0 c_23
      refine wa_bipush (v := -100) hX dX6_gives_26 (by decide) ?_
      refine wa_iload_n hX dX6_gives_28 rfl ?_
      refine wa_isub hX dX6_gives_29 ?_
      refine hret _ _ _ _ _ ?_ dX6_gives_30
      rw [onB_in hk (by decide), givF_n ew]
      exact ⟨by rw [er], hG2, JE.rf, hFr⟩
  · skip
    have n_4 := bI_0.mp c_4
    refine wa_iconst (v := -1) hX dX6_gives_7 (by decide) ?_
    exact hret _ _ _ _ _ (AC.no hG (c := -1) (by rw [onB_out n_4]) rfl) dX6_gives_8

set_option maxHeartbeats 4000000 in
set_option maxRecDepth 100000 in
theorem tX5_add {l : Launch} {D : va_G} {A : Nat → Prop} {N : Nat} {Sh : SM} {J : JM} (I : IM) {t : Nat} (hX5 : TX Sh J t) {L : Nat} {ch : Nat → Nat} (hT : T0 I t L ch) {c : Nat} (hc : c < 65536) : CtM l D A yX5_add cX5_add 2 FieldType.boolean 0 N Sh I J [.ref t, .int (nI c)] (fun r I' => r = bI (decide (L < 60)) ∧ I' = (if L < 60 then u2 (u2 I (t + 1) L (nI c)) t 1 (nI (L + 1)) else I)) := by
  refine ct_I (l0 := [(0, .ref t), (1, .int (nI c))]) (by decide +kernel) (Nat.le_of_ble_eq_true rfl) rfl (fun _ _ _ h => by obtain ⟨⟨rfl, _⟩, _⟩ := h; exact nar_B _) ?_
  intro X hX hret _ _ _
  have hX : XK X RX5 cX5_add 2 0 := hX
  obtain ⟨t0, tj0, ts⟩ := id hX5
  obtain ⟨⟨hL, hl2⟩, hch⟩ := id hT
  refine wa_aload_n hX dX5_add_0 rfl ?_
  refine wa_getI hX fX5_15 rfl t0 dX5_add_1 ?_
  rw [hl2]
  refine wa_if_lt (tgt := 16) hX dX5_add_4 (by decide) (fun c_4 => absurd c_4 (nI_pos (by omega))) (fun c_4 => ?_)
  refine wa_aload_n hX dX5_add_7 rfl ?_
  refine wa_getI hX fX5_15 rfl t0 dX5_add_8 ?_
  rw [hl2]
  refine wa_bipush (v := nI 60) hX dX5_add_11 (by decide) ?_
  refine wa_icmp_lt (tgt := 18) hX dX5_add_13 (by decide) (fun c_13 => ?_) (fun c_13 => ?_)
  · skip
    have c1 : L < 60 := by
      rcases Nat.lt_or_ge L 60 with q | q
      · exact q
      · exact absurd c_13 (nI_nlt q (by omega))
    refine wa_aload_n hX dX5_add_18 rfl ?_
    refine wa_getR hX fX5_9 rfl t0 tj0 dX5_add_19 ?_
    refine wa_aload_n hX dX5_add_22 rfl ?_
    refine wa_getI hX fX5_15 rfl t0 dX5_add_23 ?_
    rw [hl2]
    refine wa_iload_n hX dX5_add_26 rfl ?_
    refine wa_cast hX ts rfl c1 (by decide) dX5_add_27 ?_
    rw [nar_c hc]
    refine wa_aload_n hX dX5_add_28 rfl ?_
    refine wa_dup hX dX5_add_29 rfl ?_
    refine wa_getI hX fX5_15 rfl t0 dX5_add_30 ?_
    rw [u2_n (b := t) (by omega), hl2]
    refine wa_iconst (v := nI 1) hX dX5_add_33 (by decide) ?_
    refine wa_iadd hX dX5_add_34 ?_
    rw [show nI L + nI 1 = nI (L + 1) from nI_add _ 1]
    refine wa_putI hX fX5_15 rfl rfl ⟨rfl, rfl⟩ t0 dX5_add_35 ?_
    refine wa_iconst (v := nI 1) hX dX5_add_38 (by decide) ?_
    exact hret _ _ _ _ _ ⟨⟨by rw [decide_eq_true c1]; rfl, by rw [if_pos c1]⟩, rfl⟩ dX5_add_39
  · skip
    have c1 : ¬ L < 60 := fun q => c_13 (nI_lt q (by decide))
    refine wa_iconst (v := nI 0) hX dX5_add_16 (by decide) ?_
    exact hret _ _ _ _ _ ⟨⟨by rw [decide_eq_false c1]; rfl, by rw [if_neg c1]⟩, rfl⟩ dX5_add_17

set_option maxHeartbeats 4000000 in
set_option maxRecDepth 100000 in
theorem tX6_type {l : Launch} {D : va_G} {A : Nat → Prop} {N : Nat} {Sh : SM} {J : JM} (I : IM) {B : Nat} {F : FS} (hG : GV Sh I J B F) {c : Nat} (hc : c < 65536) : CtI l D A yX6_type cX6_type 2 FieldType.int 1 N Sh I J [.ref B, .int (nI c)] (fun r I' J' => AC Sh I J B (typF F (nI c)) r I' J') := by
  refine ct_I (l0 := [(0, .ref B), (1, .int (nI c))]) (by decide +kernel) (Nat.le_of_ble_eq_true rfl) rfl (fun _ _ _ _ => rfl) ?_
  intro X hX hret _ _ _
  have hX : XK X RX6 cX6_type 2 1 := hX
  obtain ⟨hM, hV, ⟨hc1, hc2⟩, hpast, hkk, hT⟩ := id hG
  obtain ⟨m0, ⟨mj0, mj1, mj2, mj3, mj4⟩, mdf, mS, mK, mPa, mPs, mR⟩ := id hM
  obtain ⟨s0, sj0, sj1, sA, sQ⟩ := id mS
  have spr := sA.r
  obtain ⟨-, spile⟩ := id sA
  have hRX := mR.rx
  have hT0 : T0 I (B + 350 + 1) (gL F) (gT F) := ⟨hT.1, hT.2⟩
  refine wa_aload_n hX dX6_type_0 rfl ?_
  refine wa_getR hX fX6_26 rfl m0 mj3 dX6_type_1 ?_
  refine wa_getR hX fX6_137 rfl hRX.1 hRX.2.1.1 dX6_type_4 ?_
  refine wa_iload_n hX dX6_type_7 rfl ?_
  refine wa_vM hX (tX5_add _ hRX.2.2.1 hT0 hc) bX5_add mX6_141 (by decide) (by decide) (ci := 4) ⟨by decide, rfl⟩ hRX.2.2.1.1 rfl rfl (Nat.le_of_ble_eq_true rfl) dX6_type_8 (fun r_8 I_8 q_8 => ?_)
  obtain ⟨w0, w1⟩ := q_8
  subst w0
  refine wa_if_eq (tgt := 27) hX dX6_type_11 (by decide) (fun c_11 => ?_) (fun c_11 => ?_)
  · skip
    have c1 : ¬ gL F < 60 := of_decide_eq_false (bI_0.mp c_11)
    rw [if_neg c1] at w1
    subst w1
    refine wa_bipush (v := -3) hX dX6_type_27 (by decide) ?_
    exact hret _ _ _ _ _ (AC.no hG (c := -3) (by unfold typF; rw [if_neg c1]) rfl) dX6_type_29
  · skip
    have c1 : gL F < 60 := of_decide_eq_true (bI_n0.mp c_11)
    rw [if_pos c1] at w1
    refine wa_aload_n hX dX6_type_14 rfl ?_
    refine wa_getR hX fX6_26 rfl m0 mj3 dX6_type_15 ?_
    refine wa_getR hX fX6_137 rfl hRX.1 hRX.2.1.1 dX6_type_18 ?_
    refine wa_getI hX fX6_147 rfl hRX.2.2.1.1 dX6_type_21 ?_
    refine wa_goto (tgt := 29) hX dX6_type_24 (by decide) ?_
    refine hret _ _ _ _ _ ?_ dX6_type_29
    unfold typF
    rw [if_pos c1]
    have f0 : ∀ b, b ≠ B + 351 → b ≠ B + 352 → I_8 b = I b := fun b a1 a2 => by rw [w1, u2_n a1, u2_n a2]
    have f1 : I_8 (B + 351) 1 = nI (gL F + 1) := by rw [w1]; exact u2_s
    refine ⟨f1, ?_, JE.rf, fun b hb => f0 b (by omega) (by omega)⟩
    obtain ⟨σ, hσ, hp⟩ := hpast
    refine ⟨hM, hV.keep (fun q h1 h2 => f0 q (by omega) (by omega)), ⟨hc1, by rw [f0 B (by omega) (by omega)]; exact hc2⟩, ⟨σ, hσ, fun i hi => ?_⟩, ⟨by rw [f0 B (by omega) (by omega)]; exact hkk.1, fun hh => (hkk.2 hh).keep (fun q h1 h2 => f0 q (by omega) (by omega))⟩, ⟨⟨by show gL F + 1 ≤ 60; omega, f1⟩, fun j hj => ?_⟩⟩
    · have h7 := hσ.1 i (by have : gC F ≤ 4 := hc1; have hi : i < gC F := hi; omega)
      exact (hp i hi).keep (fun q h1 h2 => f0 q (by omega) (by omega))
    · have hj : j < gL F + 1 := hj
      have f2 : I_8 (B + 352) = upd (I (B + 352)) (gL F) (nI c) := by rw [w1, u2_n (by omega)]; exact u2_a
      show I_8 (B + 352) j = nI (upF (gT F) (gL F) (tn (nI c)) j) ∧ upF (gT F) (gL F) (tn (nI c)) j < 65536
      rw [tn_nI (by omega), f2]
      by_cases e : j = gL F
      · subst e; simp only [upF, upd, ↓reduceIte]; exact ⟨trivial, hc⟩
      · simp only [upF, upd, if_neg e]; exact hT.2 j (by omega)

set_option maxHeartbeats 4000000 in
set_option maxRecDepth 100000 in
theorem tX6_clearText {l : Launch} {D : va_G} {A : Nat → Prop} {N : Nat} {Sh : SM} {J : JM} (I : IM) {B : Nat} {F : FS} (hG : GV Sh I J B F) : CtI l D A yX6_clearText cX6_clearText 2 FieldType.int 1 N Sh I J [.ref B] (fun r I' J' => AC Sh I J B (clrF F) r I' J') := by
  refine ct_I (l0 := [(0, .ref B)]) (by decide +kernel) (Nat.le_of_ble_eq_true rfl) rfl (fun _ _ _ _ => rfl) ?_
  intro X hX hret _ _ _
  have hX : XK X RX6 cX6_clearText 2 1 := hX
  obtain ⟨hM, hV, ⟨hc1, hc2⟩, hpast, hkk, hT⟩ := id hG
  obtain ⟨m0, ⟨mj0, mj1, mj2, mj3, mj4⟩, mdf, mS, mK, mPa, mPs, mR⟩ := id hM
  obtain ⟨s0, sj0, sj1, sA, sQ⟩ := id mS
  have spr := sA.r
  obtain ⟨-, spile⟩ := id sA
  have hRX := mR.rx
  have hT0 : T0 I (B + 350 + 1) (gL F) (gT F) := ⟨hT.1, hT.2⟩
  refine wa_aload_n hX dX6_clearText_0 rfl ?_
  refine wa_getR hX fX6_26 rfl m0 mj3 dX6_clearText_1 ?_
  refine wa_getR hX fX6_137 rfl hRX.1 hRX.2.1.1 dX6_clearText_4 ?_
  refine wa_getI hX fX6_147 rfl hRX.2.2.1.1 dX6_clearText_7 ?_
  refine wa_istore_n hX dX6_clearText_10 (by decide) ?_
  refine wa_aload_n hX dX6_clearText_11 rfl ?_
  refine wa_getR hX fX6_26 rfl m0 mj3 dX6_clearText_12 ?_
  refine wa_getR hX fX6_137 rfl hRX.1 hRX.2.1.1 dX6_clearText_15 ?_
  refine wa_iconst (v := nI 0) hX dX6_clearText_18 (by decide) ?_
  refine wa_putI hX fX6_147 rfl rfl ⟨rfl, rfl⟩ hRX.2.2.1.1 dX6_clearText_19 ?_
  refine wa_iload_n hX dX6_clearText_22 rfl ?_
  refine hret _ _ _ _ _ ?_ dX6_clearText_23
  unfold clrF
  obtain ⟨σ, hσ, hp⟩ := hpast
  refine ⟨hT.1.2, ⟨hM, hV.keep (fun q h1 h2 => u2_n (by omega)), ⟨hc1, by rw [u2_n (by omega)]; exact hc2⟩, ⟨σ, hσ, fun i hi => ?_⟩, ⟨by rw [u2_n (by omega)]; exact hkk.1, fun hh => (hkk.2 hh).keep (fun q h1 h2 => u2_n (by omega))⟩, ⟨⟨Nat.zero_le _, u2_s⟩, fun j hj => absurd hj (Nat.not_lt_zero j)⟩⟩, JE.rf, fun b hb => u2_n (by omega)⟩
  have h7 := hσ.1 i (by have : gC F ≤ 4 := hc1; have hi : i < gC F := hi; omega)
  exact (hp i hi).keep (fun q h1 h2 => u2_n (by omega))

