/-! probes on both sides -/
set_option maxHeartbeats 4000000 in
set_option maxRecDepth 100000 in
theorem tX6_collectDifferences {l : Launch} {D : va_G} {A : Nat → Prop} {N : Nat} {Sh : SM} {J : JM} (I : IM) {B : Nat} (hM : ML Sh J B) {S : AS} (hV : SV I (B + 1) S) {s : Nat} (hs : s < 64) : CtM l D A yX6_collectDifferences cX6_collectDifferences 7 FieldType.int 1 N Sh I J [.ref B, .int (nI s)] (fun r I' => r = nI (prs S s).length ∧ DL (I' (B + 366)) (prs S s) ∧ ∀ b, b ≠ B + 366 → I' b = I b) := by
  refine ct_I (l0 := [(0, .ref B), (1, .int (nI s))]) (by decide +kernel) (Nat.le_of_ble_eq_true rfl) rfl (fun _ _ _ _ => rfl) ?_
  intro X hX hret _ _ _
  have hX : XK X RX6 cX6_collectDifferences 7 1 := hX
  obtain ⟨m0, ⟨mj0, mj1, mj2, mj3, mj4⟩, mdf, mS, mK, mPa, mPs, mR⟩ := id hM
  obtain ⟨s0, sj0, sj1, sA, sQ⟩ := id mS
  have spr := sA.r
  obtain ⟨-, spile⟩ := id sA
  have lp : ∀ (n m : Nat) (I1 : IM), m + n = 6 → (∀ b, b ≠ B + 366 → I1 b = I b) → (DL (I1 (B + 366)) (prO S s m)) → WX X 0 0 N Sh I1 J 4 [(0, .ref B), (1, .int (nI s)), (2, .int (nI (prO S s m).length)), (3, .int (nI m))] [] := by
    intro n
    induction n with
    | zero =>
      intro m I1 hi hI hD
      obtain rfl : 6 = m := by omega
      refine wa_iload_n hX dX6_collectDifferences_4 rfl ?_
      refine wa_bipush (v := nI 6) hX dX6_collectDifferences_5 (by decide) ?_
      refine wa_icmp_ge (tgt := 118) hX dX6_collectDifferences_7 (by decide) (fun c_7 => ?_) (fun c_7 => absurd (Int32.le_refl _) c_7)
      refine wa_iload_n hX dX6_collectDifferences_118 rfl ?_
      exact hret _ _ _ _ _ ⟨⟨rfl, hD, hI⟩, rfl⟩ dX6_collectDifferences_119
    | succ n ih =>
      intro m I1 hi hI hD
      have hm6 : m < 6 := by omega
      have nxt : ∀ (I1 : IM), (∀ b, b ≠ B + 366 → I1 b = I b) → DL (I1 (B + 366)) (prI S s m (prO S s m) m) → WX X 0 0 N Sh I1 J 4 [(0, .ref B), (1, .int (nI s)), (2, .int (nI (prI S s m (prO S s m) m).length)), (3, .int (nI (m + 1)))] [] := fun I1 hI hD => ih (m + 1) I1 (by omega) hI hD
      have li : ∀ (n1 p : Nat) (I1 : IM), p + n1 = m → (∀ b, b ≠ B + 366 → I1 b = I b) → (DL (I1 (B + 366)) (prI S s m (prO S s m) p)) → WX X 0 0 N Sh I1 J 13 [(0, .ref B), (1, .int (nI s)), (2, .int (nI (prI S s m (prO S s m) p).length)), (3, .int (nI m)), (4, .int (nI p))] [] := by
        intro n1
        induction n1 with
        | zero =>
          intro p I1 hi hI hD
          obtain rfl : m = p := by omega
          refine wa_iload hX dX6_collectDifferences_13 rfl ?_
          refine wa_iload_n hX dX6_collectDifferences_15 rfl ?_
          refine wa_icmp_ge (tgt := 112) hX dX6_collectDifferences_16 (by decide) (fun c_16 => ?_) (fun c_16 => absurd (Int32.le_refl _) c_16)
          refine wa_iinc hX dX6_collectDifferences_112 rfl (inc1 _) (by decide) ?_
          refine wa_goto (tgt := 4) hX dX6_collectDifferences_115 (by decide) ?_
          refine wx_sub (l' := [(0, _), (1, _), (2, _), (3, _)]) ⟨rfl, rfl, rfl, rfl, trivial⟩ ?_
          exact nxt _ hI hD
        | succ n1 ihj =>
          intro p I1 hi hI hD
          have hlt : p < m := by omega
          have hp6 : p < 6 := by omega
          refine wa_iload hX dX6_collectDifferences_13 rfl ?_
          refine wa_iload_n hX dX6_collectDifferences_15 rfl ?_
          refine wa_icmp_ge (tgt := 112) hX dX6_collectDifferences_16 (by decide) (fun c_16 => absurd c_16 (nI_ge hlt (by omega))) (fun c_16 => ?_)
          refine wa_iload_n hX dX6_collectDifferences_19 rfl ?_
          refine wa_iload_n hX dX6_collectDifferences_20 rfl ?_
          refine wa_ishr hX dX6_collectDifferences_21 ?_
          refine wa_iconst (v := nI 1) hX dX6_collectDifferences_22 (by decide) ?_
          refine wa_iand hX dX6_collectDifferences_23 ?_
          rw [bt_v (by omega) (nI s), bt_nat (by omega)]
          refine wa_iconst (v := nI 1) hX dX6_collectDifferences_24 (by decide) ?_
          refine wa_icmp_ne (tgt := 42) hX dX6_collectDifferences_25 (by decide) (fun c_25 => ?_) (fun c_25 => ?_)
          · skip
            have n1 : s.testBit m = false := by
              cases e : s.testBit m with
              | false => rfl
              | true => rw [e, if_pos rfl] at c_25; exact absurd rfl c_25
            refine wa_iconst (v := nI 0) hX dX6_collectDifferences_42 (by decide) ?_
            refine wa_istore hX dX6_collectDifferences_43 (by decide) ?_
            refine wa_iload hX dX6_collectDifferences_45 rfl ?_
            refine wa_if_eq (tgt := 81) hX dX6_collectDifferences_47 (by decide) (fun c_47 => ?_) (fun c_47 => absurd rfl c_47)
            refine wa_iconst (v := nI 0) hX dX6_collectDifferences_81 (by decide) ?_
            refine wa_istore hX dX6_collectDifferences_82 (by decide) ?_
            refine wa_iload hX dX6_collectDifferences_84 rfl ?_
            refine wa_if_le (tgt := 106) hX dX6_collectDifferences_86 (by decide) (fun c_86 => ?_) (fun c_86 => absurd (Int32.le_refl _) c_86)
            refine wa_iinc hX dX6_collectDifferences_106 rfl (inc1 _) (by decide) ?_
            refine wa_goto (tgt := 13) hX dX6_collectDifferences_109 (by decide) ?_
            refine wx_sub (l' := [(0, _), (1, _), (2, _), (3, _), (4, _)]) ⟨rfl, rfl, rfl, rfl, rfl, trivial⟩ ?_
            rw [show (prI S s m (prO S s m) p).length = (prI S s m (prO S s m) (p + 1)).length by rw [prI_f (by unfold askP; rw [n1]; rfl)]]
            exact ihj (p + 1) _ (by omega) hI (by rw [prI_f (by unfold askP; rw [n1]; rfl)]; exact hD)
          · skip
            have n1 : s.testBit m = true := by
              cases e : s.testBit m with
              | true => rfl
              | false => rw [e, if_neg (by decide)] at c_25; exact absurd c_25 (by decide)
            refine wa_iload_n hX dX6_collectDifferences_28 rfl ?_
            refine wa_iload hX dX6_collectDifferences_29 rfl ?_
            refine wa_ishr hX dX6_collectDifferences_31 ?_
            refine wa_iconst (v := nI 1) hX dX6_collectDifferences_32 (by decide) ?_
            refine wa_iand hX dX6_collectDifferences_33 ?_
            rw [bt_v (by omega) (nI s), bt_nat (by omega)]
            refine wa_iconst (v := nI 1) hX dX6_collectDifferences_34 (by decide) ?_
            refine wa_icmp_ne (tgt := 42) hX dX6_collectDifferences_35 (by decide) (fun c_35 => ?_) (fun c_35 => ?_)
            · skip
              have n2 : s.testBit p = false := by
                cases e : s.testBit p with
                | false => rfl
                | true => rw [e, if_pos rfl] at c_35; exact absurd rfl c_35
              refine wa_iconst (v := nI 0) hX dX6_collectDifferences_42 (by decide) ?_
              refine wa_istore hX dX6_collectDifferences_43 (by decide) ?_
              refine wa_iload hX dX6_collectDifferences_45 rfl ?_
              refine wa_if_eq (tgt := 81) hX dX6_collectDifferences_47 (by decide) (fun c_47 => ?_) (fun c_47 => absurd rfl c_47)
              refine wa_iconst (v := nI 0) hX dX6_collectDifferences_81 (by decide) ?_
              refine wa_istore hX dX6_collectDifferences_82 (by decide) ?_
              refine wa_iload hX dX6_collectDifferences_84 rfl ?_
              refine wa_if_le (tgt := 106) hX dX6_collectDifferences_86 (by decide) (fun c_86 => ?_) (fun c_86 => absurd (Int32.le_refl _) c_86)
              refine wa_iinc hX dX6_collectDifferences_106 rfl (inc1 _) (by decide) ?_
              refine wa_goto (tgt := 13) hX dX6_collectDifferences_109 (by decide) ?_
              refine wx_sub (l' := [(0, _), (1, _), (2, _), (3, _), (4, _)]) ⟨rfl, rfl, rfl, rfl, rfl, trivial⟩ ?_
              rw [show (prI S s m (prO S s m) p).length = (prI S s m (prO S s m) (p + 1)).length by rw [prI_f (by unfold askP; rw [n2, Bool.and_false]; rfl)]]
              exact ihj (p + 1) _ (by omega) hI (by rw [prI_f (by unfold askP; rw [n2, Bool.and_false]; rfl)]; exact hD)
            · skip
              have n2 : s.testBit p = true := by
                cases e : s.testBit p with
                | true => rfl
                | false => rw [e, if_neg (by decide)] at c_35; exact absurd c_35 (by decide)
              refine wa_iconst (v := nI 1) hX dX6_collectDifferences_38 (by decide) ?_
              refine wa_goto (tgt := 43) hX dX6_collectDifferences_39 (by decide) ?_
              refine wa_istore hX dX6_collectDifferences_43 (by decide) ?_
              refine wa_iload hX dX6_collectDifferences_45 rfl ?_
              refine wa_if_eq (tgt := 81) hX dX6_collectDifferences_47 (by decide) (fun c_47 => absurd c_47 (by decide)) (fun c_47 => ?_)
              refine wa_aload_n hX dX6_collectDifferences_50 rfl ?_
              refine wa_getR hX fX6_10 rfl m0 mj0 dX6_collectDifferences_51 ?_
              refine wa_getR hX fX6_50 rfl s0 sj0 dX6_collectDifferences_54 ?_
              refine wa_iload_n hX dX6_collectDifferences_57 rfl ?_
              refine wa_aald hX spr rfl hm6 (by decide) (spile m hm6).1 dX6_collectDifferences_58 ?_
              refine wa_getR hX fX6_98 rfl (spile m hm6).2.1 (spile m hm6).2.2.2.2.1 dX6_collectDifferences_59 ?_
              refine wa_aload_n hX dX6_collectDifferences_62 rfl ?_
              refine wa_getR hX fX6_10 rfl m0 mj0 dX6_collectDifferences_63 ?_
              refine wa_getR hX fX6_50 rfl s0 sj0 dX6_collectDifferences_66 ?_
              refine wa_iload hX dX6_collectDifferences_69 rfl ?_
              refine wa_aald hX spr rfl hp6 (by decide) (spile p hp6).1 dX6_collectDifferences_71 ?_
              refine wa_getR hX fX6_98 rfl (spile p hp6).2.1 (spile p hp6).2.2.2.2.1 dX6_collectDifferences_72 ?_
              refine wa_sP hX (tX2_difference I1 (spile m hm6).2.2.2.2.2.2.2.2 (spile p hp6).2.2.2.2.2.2.2.2) bX2_difference mX6_214 (by decide) (by decide) rfl rfl (Nat.le_of_ble_eq_true rfl) dX6_collectDifferences_75 (fun r_75 q_75 => ?_)
              rw [rv_diff (show RV (I1 (B + 1 + 2 + 8 * m + 7)) (aV S m) by rw [hI _ (by omega)]; exact (hV.1 m hm6).rv) (show RV (I1 (B + 1 + 2 + 8 * p + 7)) (aV S p) by rw [hI _ (by omega)]; exact (hV.1 p hp6).rv)] at q_75
              have q_75 : r_75 = nI (dfN (aV S m) (aV S p)) := q_75.trans (diff_N _ _)
              subst q_75
              have hd9 := dfN_lt (aV S m) (aV S p)
              refine wa_goto (tgt := 82) hX dX6_collectDifferences_78 (by decide) ?_
              refine wa_istore hX dX6_collectDifferences_82 (by decide) ?_
              refine wa_iload hX dX6_collectDifferences_84 rfl ?_
              refine wa_if_le (tgt := 106) hX dX6_collectDifferences_86 (by decide) (fun c_86 => ?_) (fun c_86 => ?_)
              · skip
                have n3 : dfN (aV S m) (aV S p) = 0 := by have := (nI_leI (by omega) (by decide)).mp (show nI (dfN (aV S m) (aV S p)) ≤ nI 0 from c_86); omega
                refine wa_iinc hX dX6_collectDifferences_106 rfl (inc1 _) (by decide) ?_
                refine wa_goto (tgt := 13) hX dX6_collectDifferences_109 (by decide) ?_
                refine wx_sub (l' := [(0, _), (1, _), (2, _), (3, _), (4, _)]) ⟨rfl, rfl, rfl, rfl, rfl, trivial⟩ ?_
                rw [show (prI S s m (prO S s m) p).length = (prI S s m (prO S s m) (p + 1)).length by rw [prI_f (by unfold askP; rw [decide_eq_true n3]; exact Bool.and_false _)]]
                exact ihj (p + 1) _ (by omega) hI (by rw [prI_f (by unfold askP; rw [decide_eq_true n3]; exact Bool.and_false _)]; exact hD)
              · skip
                have n3 : ¬ dfN (aV S m) (aV S p) = 0 := fun e => c_86 (by rw [e]; exact Int32.le_refl _)
                refine wa_iload_n hX dX6_collectDifferences_89 rfl ?_
                refine wa_bipush (v := nI 15) hX dX6_collectDifferences_90 (by decide) ?_
                refine wa_icmp_ge (tgt := 106) hX dX6_collectDifferences_92 (by decide) (fun c_92 => absurd c_92 (nI_ge (prI_15 hm6 hlt) (by decide))) (fun c_92 => ?_)
                refine wa_aload_n hX dX6_collectDifferences_95 rfl ?_
                refine wa_getR hX fX6_30 rfl m0 mj4 dX6_collectDifferences_96 ?_
                refine wa_iload_n hX dX6_collectDifferences_99 rfl ?_
                refine wa_iload hX dX6_collectDifferences_100 rfl ?_
                refine wa_iast hX mdf rfl (prI_15 hm6 hlt) (by decide) dX6_collectDifferences_102 ?_
                refine wa_iinc hX dX6_collectDifferences_103 rfl (inc1 _) (by decide) ?_
                refine wa_iinc hX dX6_collectDifferences_106 rfl (inc1 _) (by decide) ?_
                refine wa_goto (tgt := 13) hX dX6_collectDifferences_109 (by decide) ?_
                refine wx_sub (l' := [(0, _), (1, _), (2, _), (3, _), (4, _)]) ⟨rfl, rfl, rfl, rfl, rfl, trivial⟩ ?_
                rw [show (prI S s m (prO S s m) p).length + 1 = (prI S s m (prO S s m) (p + 1)).length by rw [prI_t (by unfold askP; rw [n1, n2, decide_eq_false n3]; rfl), List.length_append]; rfl]
                exact ihj (p + 1) _ (by omega) (fun b hb => by rw [u2_n hb]; exact hI b hb) (by rw [prI_t (by unfold askP; rw [n1, n2, decide_eq_false n3]; rfl), u2_a]; exact hD.app)
      refine wa_iload_n hX dX6_collectDifferences_4 rfl ?_
      refine wa_bipush (v := nI 6) hX dX6_collectDifferences_5 (by decide) ?_
      refine wa_icmp_ge (tgt := 118) hX dX6_collectDifferences_7 (by decide) (fun c_7 => absurd c_7 (nI_ge hm6 (by decide))) (fun c_7 => ?_)
      refine wa_iconst (v := nI 0) hX dX6_collectDifferences_10 (by decide) ?_
      refine wa_istore hX dX6_collectDifferences_11 (by decide) ?_
      exact li m 0 _ (by omega) hI hD
  refine wa_iconst (v := nI 0) hX dX6_collectDifferences_0 (by decide) ?_
  refine wa_istore_n hX dX6_collectDifferences_1 (by decide) ?_
  refine wa_iconst (v := nI 0) hX dX6_collectDifferences_2 (by decide) ?_
  refine wa_istore_n hX dX6_collectDifferences_3 (by decide) ?_
  exact lp 6 0 _ (by omega) (fun _ _ => rfl) (fun i hi => absurd hi (Nat.not_lt_zero i))

set_option maxHeartbeats 4000000 in
set_option maxRecDepth 100000 in
theorem tX6_tellsApart {l : Launch} {D : va_G} {A : Nat → Prop} {N : Nat} {Sh : SM} {J : JM} (I : IM) {B : Nat} (hM : ML Sh J B) {l1 : List Nat} (hD : DL (I (B + 366)) l1) (h15 : l1.length ≤ 15) (hok : ∀ d ∈ l1, 0 < d ∧ d < 65536) {k : Nat} (hk : k < 65536) : CtP l D A yX6_tellsApart cX6_tellsApart 4 FieldType.boolean 0 N Sh I J [.ref B, .int (nI k), .int (nI l1.length)] (fun r => r = bI (tsB l1 k)) := by
  refine ct_I (l0 := [(0, .ref B), (1, .int (nI k)), (2, .int (nI l1.length))]) (by decide +kernel) (Nat.le_of_ble_eq_true rfl) rfl (fun _ _ _ h => by obtain ⟨rfl, _⟩ := h; exact nar_B _) ?_
  intro X hX hret _ _ _
  have hX : XK X RX6 cX6_tellsApart 4 0 := hX
  obtain ⟨m0, ⟨mj0, mj1, mj2, mj3, mj4⟩, mdf, mS, mK, mPa, mPs, mR⟩ := id hM
  have lp : ∀ (n i : Nat), i + n = l1.length → (tsN l1 k i = true) → WX X 0 0 N Sh I J 2 [(0, .ref B), (1, .int (nI k)), (2, .int (nI l1.length)), (3, .int (nI i))] [] := by
    intro n
    induction n with
    | zero =>
      intro i  hi ht
      obtain rfl : l1.length = i := by omega
      refine wa_iload_n hX dX6_tellsApart_2 rfl ?_
      refine wa_iload_n hX dX6_tellsApart_3 rfl ?_
      refine wa_icmp_ge (tgt := 32) hX dX6_tellsApart_4 (by decide) (fun c_4 => ?_) (fun c_4 => absurd (Int32.le_refl _) c_4)
      refine wa_iconst (v := nI 1) hX dX6_tellsApart_32 (by decide) ?_
      exact hret _ _ _ _ _ ⟨by rw [ts_N, ht]; rfl, rfl, rfl⟩ dX6_tellsApart_33
    | succ n ih =>
      intro i  hi ht
      have hlt : i < l1.length := by omega
      refine wa_iload_n hX dX6_tellsApart_2 rfl ?_
      refine wa_iload_n hX dX6_tellsApart_3 rfl ?_
      refine wa_icmp_ge (tgt := 32) hX dX6_tellsApart_4 (by decide) (fun c_4 => absurd c_4 (nI_ge hlt (by omega))) (fun c_4 => ?_)
      refine wa_iload_n hX dX6_tellsApart_7 rfl ?_
      refine wa_bipush (v := nI 15) hX dX6_tellsApart_8 (by decide) ?_
      refine wa_icmp_ge (tgt := 32) hX dX6_tellsApart_10 (by decide) (fun c_10 => absurd c_10 (nI_ge (show i < 15 by omega) (by decide))) (fun c_10 => ?_)
      refine wa_aload_n hX dX6_tellsApart_13 rfl ?_
      refine wa_getR hX fX6_30 rfl m0 mj4 dX6_tellsApart_14 ?_
      refine wa_iload_n hX dX6_tellsApart_17 rfl ?_
      refine wa_iald hX mdf rfl (show i < 15 by omega) (by decide) dX6_tellsApart_18 ?_
      rw [hD i hlt]
      refine wa_iload_n hX dX6_tellsApart_19 rfl ?_
      refine wa_iand hX dX6_tellsApart_20 ?_
      rw [nx_an]
      have hb9 : (l1.getD i 0 &&& k) < 65536 := Nat.lt_of_le_of_lt Nat.and_le_left (hok _ (by rw [ld_e hlt]; exact List.getElem_mem hlt)).2
      refine wa_if_ne (tgt := 26) hX dX6_tellsApart_21 (by decide) (fun c_21 => ?_) (fun c_21 => ?_)
      · skip
        have n1 : (l1.getD i 0 &&& k) ≠ 0 := fun e => c_21 (by rw [e]; rfl)
        refine wa_iinc hX dX6_tellsApart_26 rfl (inc1 _) (by decide) ?_
        refine wa_goto (tgt := 2) hX dX6_tellsApart_29 (by decide) ?_
        refine wx_sub (l' := [(0, _), (1, _), (2, _), (3, _)]) ⟨rfl, rfl, rfl, rfl, trivial⟩ ?_
        exact ih (i + 1) (by omega) (by show (tsN l1 k i && !decide ((l1.getD i 0 &&& k) = 0)) = true; rw [ht, decide_eq_false n1]; rfl)
      · skip
        have n1 : (l1.getD i 0 &&& k) = 0 := eq_of_nI (show nI _ = nI 0 from c_21) (by omega) (by decide)
        refine wa_iconst (v := nI 0) hX dX6_tellsApart_24 (by decide) ?_
        exact hret _ _ _ _ _ ⟨by rw [show tsB l1 k = false from Bool.eq_false_iff.mpr (fun e => (tsN_all l1 k l1.length).mp ((ts_N l1 k).symm.trans e) i hlt n1)]; rfl, rfl, rfl⟩ dX6_tellsApart_25
  refine wa_iconst (v := nI 0) hX dX6_tellsApart_0 (by decide) ?_
  refine wa_istore_n hX dX6_tellsApart_1 (by decide) ?_
  exact lp l1.length 0 (by omega) rfl

theorem nx_le (x : Int32) : ¬ (nI 0 : Int32) < nI 0 := by decide
set_option maxHeartbeats 4000000 in
set_option maxRecDepth 100000 in
theorem tX6_nextSetOfSameSize {l : Launch} {D : va_G} {A : Nat → Prop} {N : Nat} {Sh : SM} {J : JM} (I : IM) {k : Nat} (hk : k < 65536) : CtP l D A yX6_nextSetOfSameSize cX6_nextSetOfSameSize 3 FieldType.int 0 N Sh I J [.int (nI k)] (fun r => r = nI (nxG k)) := by
  refine ct_I (l0 := [(0, .int (nI k))]) (by decide +kernel) (Nat.le_of_ble_eq_true rfl) rfl (fun _ _ _ _ => rfl) ?_
  intro X hX hret _ _ _
  have hX : XK X RX6 cX6_nextSetOfSameSize 3 0 := hX
  refine wa_iload_n hX dX6_nextSetOfSameSize_0 rfl ?_
  refine wa_iload_n hX dX6_nextSetOfSameSize_1 rfl ?_
  refine wa_ineg hX dX6_nextSetOfSameSize_2 ?_
  refine wa_iand hX dX6_nextSetOfSameSize_3 ?_
  refine wa_istore_n hX dX6_nextSetOfSameSize_4 (by decide) ?_
  refine wa_iload_n hX dX6_nextSetOfSameSize_5 rfl ?_
  refine wa_if_gt (tgt := 13) hX dX6_nextSetOfSameSize_6 (by decide) (fun c_6 => ?_) (fun c_6 => ?_)
  · skip
    have h0 : 0 < k := by
      rcases Nat.eq_zero_or_pos k with e | e
      · subst e; exact absurd c_6 (by decide)
      · exact e
    obtain ⟨a1, a2, a3, a4, a5⟩ := nxI_ok hk h0
    refine wa_iload_n hX dX6_nextSetOfSameSize_13 rfl ?_
    refine wa_iload_n hX dX6_nextSetOfSameSize_14 rfl ?_
    refine wa_iadd hX dX6_nextSetOfSameSize_15 ?_
    refine wa_istore_n hX dX6_nextSetOfSameSize_16 (by decide) ?_
    refine wa_iload_n hX dX6_nextSetOfSameSize_17 rfl ?_
    refine wa_iload_n hX dX6_nextSetOfSameSize_18 rfl ?_
    refine wa_iload_n hX dX6_nextSetOfSameSize_19 rfl ?_
    refine wa_ixor hX dX6_nextSetOfSameSize_20 ?_
    refine wa_iconst (v := nI 2) hX dX6_nextSetOfSameSize_21 (by decide) ?_
    refine wa_ishr hX dX6_nextSetOfSameSize_22 ?_
    refine wa_iload_n hX dX6_nextSetOfSameSize_23 rfl ?_
    refine wa_idiv hX dX6_nextSetOfSameSize_24 (by rw [a1]; exact nI_ne0 a2 (by omega)) ?_
    refine wa_ior hX dX6_nextSetOfSameSize_25 ?_
    exact hret _ _ _ _ _ ⟨by rw [nxG_s h0, ← a5]; rfl, rfl, rfl⟩ dX6_nextSetOfSameSize_26
  · skip
    have h0 : k = 0 := by
      rcases Nat.eq_zero_or_pos k with e | e
      · exact e
      · obtain ⟨a1, a2, a3, a4, a5⟩ := nxI_ok hk e
        exact absurd (by rw [a1]; exact nI_lt a2 (by omega)) c_6
    subst h0
    refine wa_ldcw (v := nI 65536) hX kX6_266 dX6_nextSetOfSameSize_9 ?_
    exact hret _ _ _ _ _ ⟨rfl, rfl, rfl⟩ dX6_nextSetOfSameSize_12

theorem st_sz : ∀ s, s < 16 → (nI 1 <<< (nI s &&& 31)) - nI 1 = nI (2 ^ s - 1) := by decide +kernel
theorem st_le : ∀ s, s < 16 → 2 ^ s - 1 < 65536 := by decide
def LSQ (l : List Nat) (sz : Nat) (x : Int32) : Prop := (∃ r, r < 65536 ∧ x = nI r ∧ tsB l r = true ∧ pcN r = sz ∧ ∀ j, j < 65536 → pcN j = sz → tsB l j = true → r ≤ j) ∨ (x = nI 65536 ∧ ∀ j, j < 65536 → pcN j = sz → tsB l j = false)
theorem nxG_lt {k : Nat} (hk : k < 65536) : nxG k < 131072 := by
  rcases Nat.eq_zero_or_pos k with e | e
  · subst e; decide
  · rw [nxG_s e]; exact (nxI_ok hk e).2.2.2.1
set_option maxHeartbeats 4000000 in
set_option maxRecDepth 100000 in
theorem tX6_leastSetOfSize {l : Launch} {D : va_G} {A : Nat → Prop} {N : Nat} {Sh : SM} {J : JM} (I : IM) {B : Nat} (hM : ML Sh J B) {l1 : List Nat} (hD : DL (I (B + 366)) l1) (h15 : l1.length ≤ 15) (hok : ∀ d ∈ l1, 0 < d ∧ d < 65536) {sz : Nat} (hsz : sz < 16) : CtP l D A yX6_leastSetOfSize cX6_leastSetOfSize 5 FieldType.int 1 N Sh I J [.ref B, .int (nI sz), .int (nI l1.length)] (fun x => LSQ l1 sz x) := by
  refine ct_I (l0 := [(0, .ref B), (1, .int (nI sz)), (2, .int (nI l1.length))]) (by decide +kernel) (Nat.le_of_ble_eq_true rfl) rfl (fun _ _ _ _ => rfl) ?_
  intro X hX hret _ _ _
  have hX : XK X RX6 cX6_leastSetOfSize 5 1 := hX
  obtain ⟨m0, ⟨mj0, mj1, mj2, mj3, mj4⟩, mdf, mS, mK, mPa, mPs, mR⟩ := id hM
  have lp : ∀ (n k t : Nat), 131072 ≤ k + n → t ≤ k → k < 131072 → (k < 65536 → pcN k = sz) → (∀ j, j < k → j < 65536 → pcN j = sz → tsB l1 j = false) → WX X 0 0 N Sh I J 9 [(0, .ref B), (1, .int (nI sz)), (2, .int (nI l1.length)), (3, .int (nI k)), (4, .int (nI t))] [] := by
    intro n
    induction n with
    | zero =>
      intro k t hn ht hk
      omega
    | succ n ih =>
      intro k t hn ht hk hpc hall
      refine wa_iload hX dX6_leastSetOfSize_9 rfl ?_
      refine wa_ldc (v := nI 65535) hX kX6_225 dX6_leastSetOfSize_11 ?_
      refine wa_icmp_gt (tgt := 44) hX dX6_leastSetOfSize_13 (by decide) (fun c_13 => ?_) (fun c_13 => ?_)
      · skip
        have n0 : 65536 ≤ k := by have := (nI_ltI (by decide) (by omega)).mp c_13; omega
        refine wa_ldcw (v := nI 65536) hX kX6_266 dX6_leastSetOfSize_44 ?_
        exact hret _ _ _ _ _ ⟨Or.inr ⟨rfl, fun j h1 h2 => hall j (by omega) h1 h2⟩, rfl, rfl⟩ dX6_leastSetOfSize_47
      · skip
        refine wa_iload_n hX dX6_leastSetOfSize_16 rfl ?_
        refine wa_ldc (v := nI 65535) hX kX6_225 dX6_leastSetOfSize_17 ?_
        refine wa_icmp_gt (tgt := 44) hX dX6_leastSetOfSize_19 (by decide) (fun c_19 => ?_) (fun c_19 => ?_)
        · skip
          have n0 : 65536 ≤ k := by have := (nI_ltI (by decide) (by omega)).mp c_19; omega
          refine wa_ldcw (v := nI 65536) hX kX6_266 dX6_leastSetOfSize_44 ?_
          exact hret _ _ _ _ _ ⟨Or.inr ⟨rfl, fun j h1 h2 => hall j (by omega) h1 h2⟩, rfl, rfl⟩ dX6_leastSetOfSize_47
        · skip
          have n0 : k < 65536 := by
            rcases Nat.lt_or_ge k 65536 with q | q
            · exact q
            · exact absurd (nI_lt (show 65535 < k by omega) (by omega)) c_19
          have hg := gos_nx n0
          have hpk := hpc n0
          refine wa_aload_n hX dX6_leastSetOfSize_22 rfl ?_
          refine wa_iload_n hX dX6_leastSetOfSize_23 rfl ?_
          refine wa_iload_n hX dX6_leastSetOfSize_24 rfl ?_
          refine wa_vP hX (tX6_tellsApart I hM hD h15 hok n0) bX6_tellsApart mX6_260 (by decide) (by decide) (ci := 5) ⟨by decide, rfl⟩ m0 rfl rfl (Nat.le_of_ble_eq_true rfl) dX6_leastSetOfSize_25 (fun r_25 q_25 => ?_)
          subst q_25
          refine wa_if_eq (tgt := 33) hX dX6_leastSetOfSize_28 (by decide) (fun c_28 => ?_) (fun c_28 => ?_)
          · skip
            have n1 := bI_0.mp c_28
            refine wa_iload_n hX dX6_leastSetOfSize_33 rfl ?_
            refine wa_sP hX (tX6_nextSetOfSameSize I n0) bX6_nextSetOfSameSize mX6_263 (by decide) (by decide) rfl rfl (Nat.le_of_ble_eq_true rfl) dX6_leastSetOfSize_34 (fun r_34 q_34 => ?_)
            subst q_34
            refine wa_istore_n hX dX6_leastSetOfSize_37 (by decide) ?_
            refine wa_iinc hX dX6_leastSetOfSize_38 rfl (inc1 _) (by decide) ?_
            refine wa_goto (tgt := 9) hX dX6_leastSetOfSize_41 (by decide) ?_
            refine wx_sub (l' := [(0, _), (1, _), (2, _), (3, _), (4, _)]) ⟨rfl, rfl, rfl, rfl, rfl, trivial⟩ ?_
            refine ih (nxG k) (t + 1) (by omega) (by omega) (nxG_lt n0) (fun h => (hg.2.1 h).trans hpk) (fun j h1 h2 h3 => ?_)
            rcases (show j < k ∨ j = k ∨ k < j by omega) with q | q | q
            · exact hall j q h2 h3
            · rw [q]; exact n1
            · exact absurd (h3.trans hpk.symm) (hg.2.2 j q h1 h2)
          · skip
            have n1 := bI_n0.mp c_28
            refine wa_iload_n hX dX6_leastSetOfSize_31 rfl ?_
            refine hret _ _ _ _ _ ⟨Or.inl ⟨k, n0, rfl, n1, hpk, fun j h1 h2 h3 => ?_⟩, rfl, rfl⟩ dX6_leastSetOfSize_32
            rcases Nat.lt_or_ge j k with q | q
            · rw [hall j q h1 h2] at h3; cases h3
            · exact q
  refine wa_iconst (v := nI 1) hX dX6_leastSetOfSize_0 (by decide) ?_
  refine wa_iload_n hX dX6_leastSetOfSize_1 rfl ?_
  refine wa_ishl hX dX6_leastSetOfSize_2 ?_
  refine wa_iconst (v := nI 1) hX dX6_leastSetOfSize_3 (by decide) ?_
  refine wa_isub hX dX6_leastSetOfSize_4 ?_
  rw [st_sz sz hsz]
  refine wa_istore_n hX dX6_leastSetOfSize_5 (by decide) ?_
  refine wa_iconst (v := nI 0) hX dX6_leastSetOfSize_6 (by decide) ?_
  refine wa_istore hX dX6_leastSetOfSize_7 (by decide) ?_
  have hst := st_le sz hsz
  refine lp 131072 (2 ^ sz - 1) 0 (by omega) (Nat.zero_le _) (by omega) (fun _ => gos_st sz (by omega)) (fun j h1 h2 h3 => ?_)
  have := gos_min (j + 1) j (by omega) h2
  rw [h3] at this
  omega

theorem lt_n1 {x : Int32} (h : x < 0) : x < nI 1 := by
  rw [Int32.lt_iff_toInt_lt] at h ⊢
  rw [nI_toInt (by decide)]
  have : (0 : Int32).toInt = 0 := by decide
  omega
theorem prA {x : Int32} (h : x < nI 1) {f : Nat → Int32} : onB 64 x (fun s => if s = 0 then -2 else f s) (-2) = -2 := by
  cases e : inB 64 x with
  | false => exact onB_out e
  | true =>
    obtain ⟨s, hs, e2⟩ := inB_t (by decide) e
    subst e2
    rw [onB_in hs (by decide)]
    have := (nI_ltI (by omega) (by decide)).mp h
    exact if_pos (by omega)
theorem prB {x : Int32} (h : ¬ x ≤ nI 63) {f : Nat → Int32} : onB 64 x (fun s => if s = 0 then -2 else f s) (-2) = -2 := by
  cases e : inB 64 x with
  | false => exact onB_out e
  | true =>
    obtain ⟨s, hs, e2⟩ := inB_t (by decide) e
    subst e2
    exact absurd ((nI_leI (by omega) (by decide)).mpr (by omega)) h
theorem prC {x : Int32} (h : ¬ x < nI 1) (h2 : x ≤ nI 63) : ∃ s, s < 64 ∧ 0 < s ∧ x = nI s := by
  rcases pk_ix x (show 64 < 2 ^ 31 by decide) with q | q | ⟨s, q, e⟩
  · exact absurd (lt_n1 q) h
  · exact absurd (Int32.le_trans q h2) (by decide)
  · subst e
    refine ⟨s, q, ?_, rfl⟩
    rcases Nat.eq_zero_or_pos s with e | e
    · subst e; exact absurd (by decide) h
    · exact e
set_option maxHeartbeats 4000000 in
set_option maxRecDepth 100000 in
theorem tX6_probes {l : Launch} {D : va_G} {A : Nat → Prop} {N : Nat} {Sh : SM} {J : JM} (I : IM) {B : Nat} {F : FS} (hG : GV Sh I J B F) (x : Int32) : CtI l D A yX6_probes cX6_probes 5 FieldType.int 2 N Sh I J [.ref B, .int x] (fun r I' J' => AC Sh I J B (onB 64 x (fun s => if s = 0 then -2 else prbF (gN F) s) (-2), F) r I' J') := by
  refine ct_I (l0 := [(0, .ref B), (1, .int x)]) (by decide +kernel) (Nat.le_of_ble_eq_true rfl) rfl (fun _ _ _ _ => rfl) ?_
  intro X hX hret _ _ _
  have hX : XK X RX6 cX6_probes 5 2 := hX
  obtain ⟨hM, hV, ⟨hc1, hc2⟩, hpast, hkk, hT⟩ := id hG
  obtain ⟨m0, ⟨mj0, mj1, mj2, mj3, mj4⟩, mdf, mS, mK, mPa, mPs, mR⟩ := id hM
  have tail : ∀ (s : Nat) (I1 : IM), s < 64 → 0 < s → x = nI s → GV Sh I1 J B F → DL (I1 (B + 366)) (prs (gN F) s) → (∀ b, b ≠ B + 366 → I1 b = I b) → WX X 0 0 N Sh I1 J 20 [(0, .ref B), (1, .int (nI s)), (2, .int (nI (prs (gN F) s).length))] [] := by
    intro s I1 hs hs0 ex hG2 w1 w2
    subst ex
    have lp : ∀ (n i : Nat), i + n = 16 → (∀ j, j < 65536 → pcN j < i → tsB (prs (gN F) s) j = false) → WX X 0 0 N Sh I1 J 22 [(0, .ref B), (1, .int (nI s)), (2, .int (nI (prs (gN F) s).length)), (3, .int (nI i))] [] := by
      intro n
      induction n with
      | zero =>
        intro i  hi hno
        obtain rfl : 16 = i := by omega
        refine wa_iload_n hX dX6_probes_22 rfl ?_
        refine wa_bipush (v := nI 16) hX dX6_probes_23 (by decide) ?_
        refine wa_icmp_ge (tgt := 52) hX dX6_probes_25 (by decide) (fun c_25 => ?_) (fun c_25 => absurd (Int32.le_refl _) c_25)
        refine wa_ldc (v := nI 65535) hX kX6_225 dX6_probes_52 ?_
        have hls : lsP (prs (gN F) s) 65535 := by
          refine ⟨by decide, ts_all (prO_ok 6), fun j h1 h2 => ?_⟩
          by_cases e : j = 65535
          · subst e; exact Or.inr ⟨rfl, Nat.le_refl _⟩
          · rw [hno j h1 (pc_16 (by omega))] at h2; cases h2
        exact hret _ _ _ _ _ ⟨by rw [onB_in hs (by decide), if_neg (by omega)]; unfold prbF; rw [← lsP_one hls (sc_ls (prO_ok 6))], hG2, JE.rf, fun b hb => w2 b (by omega)⟩ dX6_probes_54
      | succ n ih =>
        intro i  hi hno
        have hlt : i < 16 := by omega
        refine wa_iload_n hX dX6_probes_22 rfl ?_
        refine wa_bipush (v := nI 16) hX dX6_probes_23 (by decide) ?_
        refine wa_icmp_ge (tgt := 52) hX dX6_probes_25 (by decide) (fun c_25 => absurd c_25 (nI_ge hlt (by decide))) (fun c_25 => ?_)
        refine wa_aload_n hX dX6_probes_28 rfl ?_
        refine wa_iload_n hX dX6_probes_29 rfl ?_
        refine wa_iload_n hX dX6_probes_30 rfl ?_
        refine wa_vP hX (tX6_leastSetOfSize I1 hM w1 (prs_15 _ _) (prO_ok 6) hlt) bX6_leastSetOfSize mX6_221 (by decide) (by decide) (ci := 5) ⟨by decide, rfl⟩ m0 rfl rfl (Nat.le_of_ble_eq_true rfl) dX6_probes_31 (fun r_31 q_31 => ?_)
        refine wa_istore hX dX6_probes_34 (by decide) ?_
        refine wa_iload hX dX6_probes_36 rfl ?_
        refine wa_ldc (v := nI 65535) hX kX6_225 dX6_probes_38 ?_
        refine wa_icmp_gt (tgt := 46) hX dX6_probes_40 (by decide) (fun c_40 => ?_) (fun c_40 => ?_)
        · skip
          have hnone : ∀ j, j < 65536 → pcN j = i → tsB (prs (gN F) s) j = false := by
            rcases q_31 with ⟨r, a1, a2, _⟩ | ⟨_, a⟩
            · rw [a2] at c_40
              have := (nI_ltI (by decide) (by omega)).mp c_40
              omega
            · exact a
          refine wa_iinc hX dX6_probes_46 rfl (inc1 _) (by decide) ?_
          refine wa_goto (tgt := 22) hX dX6_probes_49 (by decide) ?_
          refine wx_sub (l' := [(0, _), (1, _), (2, _), (3, _)]) ⟨rfl, rfl, rfl, rfl, trivial⟩ ?_
          refine ih (i + 1) (by omega) (fun j h1 h2 => ?_)
          rcases (show pcN j < i ∨ pcN j = i by omega) with q | q
          · exact hno j h1 q
          · exact hnone j h1 q
        · skip
          obtain ⟨r, a1, a2, a3, a4, a5⟩ : ∃ r, r < 65536 ∧ r_31 = nI r ∧ tsB (prs (gN F) s) r = true ∧ pcN r = i ∧ ∀ j, j < 65536 → pcN j = i → tsB (prs (gN F) s) j = true → r ≤ j := by
            rcases q_31 with a | ⟨a, _⟩
            · exact a
            · rw [a] at c_40; exact absurd (by decide) c_40
          subst a2
          refine wa_iload hX dX6_probes_43 rfl ?_
          have hls : lsP (prs (gN F) s) r := by
            refine ⟨a1, a3, fun j h1 h2 => ?_⟩
            rcases (show pcN j < i ∨ pcN j = i ∨ i < pcN j by omega) with q | q | q
            · rw [hno j h1 q] at h2; cases h2
            · exact Or.inr ⟨a4.trans q.symm, a5 j h1 q h2⟩
            · exact Or.inl (by omega)
          exact hret _ _ _ _ _ ⟨by rw [onB_in hs (by decide), if_neg (by omega)]; unfold prbF; rw [← lsP_one hls (sc_ls (prO_ok 6))], hG2, JE.rf, fun b hb => w2 b (by omega)⟩ dX6_probes_45
    refine wa_iconst (v := nI 0) hX dX6_probes_20 (by decide) ?_
    refine wa_istore_n hX dX6_probes_21 (by decide) ?_
    exact lp 16 0 (by omega) (fun j _ h => absurd h (Nat.not_lt_zero _))
  refine wa_iload_n hX dX6_probes_0 rfl ?_
  refine wa_iconst (v := nI 1) hX dX6_probes_1 (by decide) ?_
  refine wa_icmp_lt (tgt := 11) hX dX6_probes_2 (by decide) (fun c_2 => ?_) (fun c_2 => ?_)
  · skip
    have hres := prA c_2 (f := prbF (gN F))
    refine wa_bipush (v := -2) hX dX6_probes_11 (by decide) ?_
    exact hret _ _ _ _ _ (AC.no hG (c := -2) (by rw [hres]) rfl) dX6_probes_13
  · skip
    refine wa_iload_n hX dX6_probes_5 rfl ?_
    refine wa_bipush (v := nI 63) hX dX6_probes_6 (by decide) ?_
    refine wa_icmp_le (tgt := 14) hX dX6_probes_8 (by decide) (fun c_8 => ?_) (fun c_8 => ?_)
    · skip
      obtain ⟨s, hs, hs0, ex⟩ := prC c_2 c_8
      refine wa_aload_n hX dX6_probes_14 rfl ?_
      refine wa_iload_n hX dX6_probes_15 rfl ?_
      rw [ex]
      refine wa_vM hX (tX6_collectDifferences I hM hV hs) bX6_collectDifferences mX6_218 (by decide) (by decide) (ci := 5) ⟨by decide, rfl⟩ m0 rfl rfl (Nat.le_of_ble_eq_true rfl) dX6_probes_16 (fun r_16 I_16 q_16 => ?_)
      obtain ⟨w0, w1, w2⟩ := q_16
      subst w0
      refine wa_istore_n hX dX6_probes_19 (by decide) ?_
      refine wx_sub (l' := [(0, _), (1, _), (2, _)]) ⟨rfl, rfl, rfl, trivial⟩ ?_
      exact tail s _ hs hs0 ex (hG.rd (fun b hb => w2 b (by omega)) (by rw [w2 _ (by omega)]) (w2 _ (by omega))) w1 w2
    · skip
      have hres := prB c_8 (f := prbF (gN F))
      refine wa_bipush (v := -2) hX dX6_probes_11 (by decide) ?_
      exact hret _ _ _ _ _ (AC.no hG (c := -2) (by rw [hres]) rfl) dX6_probes_13

