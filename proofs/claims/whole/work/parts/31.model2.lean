/-! PileMapsModel: record, rows remembered, the hidden map -/
def TM (I : IM) (Q len : Nat) (ch : Nat → Nat) : Prop := (len ≤ 60 ∧ I Q 7 = nI len) ∧ ∀ j, j < len → I (Q + 6) j = nI (ch j) ∧ ch j < 65536
def MV (Sh : SM) (I : IM) (J : JM) (Q : Nat) (F : FS) : Prop := MM Sh J Q ∧ VF (I (Q + 1)) (gN F) ∧ (gC F ≤ 4 ∧ I Q 2 = nI (gC F)) ∧ (∀ i, i < gC F → VF (fun x => I (Q + 2) (514 * i + x)) (gP F i)) ∧ (I Q 4 = bI (gH F) ∧ (gH F = true → VF (I (Q + 3)) (gK F))) ∧ TM I Q (gL F) (gT F)
def segN (b i : Nat) (g f : Nat → Int32) : Nat → Int32 := fun x => if b ≤ x ∧ x < b + i then g (x - b) else f x
theorem seg_0 (b : Nat) (g f : Nat → Int32) : segN b 0 g f = f := by
  funext x
  exact if_neg (by omega)
theorem seg_in {b i x : Nat} {g f : Nat → Int32} (h : x < i) : segN b i g f (b + x) = g x := by
  unfold segN
  rw [if_pos ⟨by omega, by omega⟩, Nat.add_sub_cancel_left]
theorem seg_out {b i x : Nat} {g f : Nat → Int32} (h : x < b ∨ b + i ≤ x) : segN b i g f x = f x := if_neg (by omega)
theorem seg_s (b i : Nat) (g f : Nat → Int32) : upd (segN b i g f) (b + i) (g i) = segN b (i + 1) g f := by
  funext x
  by_cases e : x = b + i
  · subst e
    rw [seg_in (by omega)]
    exact if_pos rfl
  · have h1 : upd (segN b i g f) (b + i) (g i) x = segN b i g f x := if_neg e
    rw [h1]
    unfold segN
    by_cases h : b ≤ x ∧ x < b + i
    · rw [if_pos h, if_pos (by omega)]
    · rw [if_neg h, if_neg (by omega)]
theorem u2_seg {I : IM} {a b i : Nat} {g f : Nat → Int32} {v : Int32} (h : v = g i) : u2 (uR I a (segN b i g f)) a (b + i) v = uR I a (segN b (i + 1) g f) := by
  unfold u2
  rw [uR_uR, uR_s, h, seg_s]
theorem recP_lt {F : FS} (h : gC F < 4) : recP F = (gC F + 1, upF (gP F) (gC F) (gN F)) := if_pos h
theorem recP_ge {F : FS} (h : ¬ gC F < 4) : recP F = (4, fun i => if i = 3 then gN F else gP F (i + 1)) := if_neg h
theorem i514 (c x : Nat) : nI 514 * nI c + nI x = nI (514 * c + x) := by rw [pk_mul, nI_add]
set_option maxHeartbeats 4000000 in
set_option maxRecDepth 100000 in
theorem tX7_record {l : Launch} {D : va_G} {A : Nat → Prop} {N : Nat} {Sh : SM} {J : JM} (I : IM) {Q : Nat} {F : FS} (hG : MV Sh I J Q F) : CtW l D A yX7_record cX7_record 2 0 N Sh I J [.ref Q] (fun I' => MV Sh I' J Q (recF F) ∧ (∀ b, b < Q ∨ Q + 3 ≤ b → I' b = I b) ∧ (∀ j, j ≠ 2 → I' Q j = I Q j) ∧ I' (Q + 1) = I (Q + 1)) := by
  refine ct_V (l0 := [(0, .ref Q)]) (by decide +kernel) (Nat.le_of_ble_eq_true rfl) rfl ?_
  intro X hX hret _ _ _
  have hX : XK X RX7 cX7_record 2 0 := hX
  obtain ⟨hM, hV, ⟨hc1, hc2⟩, hp, hkk, hT⟩ := id hG
  obtain ⟨q0, ⟨qj0, qj1, qj3, qj5, qj6, qj8, qj12, qj13, qj14, qj15, qj16, qj18, qj19⟩, ⟨qs1, qs2, qs3, qs4, qs5, qs6, qs7, qs8, qs9, qs10, qs11, qs12, qs13⟩⟩ := id hM
  have tail : ∀ (I2 : IM) (c : Nat) (P : Nat → AS), c < 4 → I2 Q 2 = nI c → I2 (Q + 1) = I (Q + 1) → (∀ j, j ≠ 2 → I2 Q j = I Q j) → (∀ b, b < Q ∨ Q + 3 ≤ b → I2 b = I b) → (∀ i, i < c → VF (fun x => I2 (Q + 2) (514 * i + x)) (P i)) → gC (recF F) = c + 1 → (∀ i, gP (recF F) i = if i = c then gN F else P i) → WX X 0 0 N Sh I2 J 49 [(0, .ref Q)] [] := by
    intro I2 c P hlt4 hc hq1 hqo hoth hP hF2 hF3
    have h4 : c + 1 ≤ 4 := by omega
    have lp2 : ∀ (n i : Nat), i + n = 514 → WX X 0 0 N Sh (uR I2 (Q + 2) (segN (514 * c) i (I (Q + 1)) (I2 (Q + 2)))) J 51 [(0, .ref Q), (1, .int (nI i))] [] := by
      intro n
      induction n with
      | zero =>
        intro i  hi
        obtain rfl : 514 = i := by omega
        refine wa_iload_n hX dX7_record_51 rfl ?_
        refine wa_sipush (v := nI 514) hX dX7_record_52 (by decide) ?_
        refine wa_icmp_ge (tgt := 85) hX dX7_record_55 (by decide) (fun c_55 => ?_) (fun c_55 => absurd (Int32.le_refl _) c_55)
        refine wa_aload_n hX dX7_record_85 rfl ?_
        refine wa_dup hX dX7_record_86 rfl ?_
        refine wa_getI hX fX7_59 rfl (by assumption) dX7_record_87 ?_
        rw [uR_n (b := Q) (by omega), hc]
        refine wa_iconst (v := nI 1) hX dX7_record_90 (by decide) ?_
        refine wa_iadd hX dX7_record_91 ?_
        rw [show nI c + nI 1 = nI (c + 1) from nI_add c 1]
        refine wa_putI hX fX7_59 rfl rfl ⟨rfl, rfl⟩ (by assumption) dX7_record_92 ?_
        refine hret _ _ _ _ ⟨⟨⟨hM, ?_, ⟨by rw [hF2]; exact h4, by rw [hF2]; exact u2_s⟩, ?_, ⟨?_, fun hh => ?_⟩, ?_⟩, ?_, ?_, ?_⟩, rfl⟩ dX7_record_95
        · show VF (u2 (uR I2 (Q + 2) _) Q 2 (nI (c + 1)) (Q + 1)) (gN F)
          rw [u2_n (by omega), uR_n (by omega), hq1]
          exact hV
        · intro i hi
          rw [hF2] at hi
          have e : (fun x => u2 (uR I2 (Q + 2) (segN (514 * c) 514 (I (Q + 1)) (I2 (Q + 2)))) Q 2 (nI (c + 1)) (Q + 2) (514 * i + x)) = fun x => segN (514 * c) 514 (I (Q + 1)) (I2 (Q + 2)) (514 * i + x) := by
            funext x
            rw [u2_n (by omega), uR_s]
          rw [e]
          have e2 : gP (recF F) i = if i = c then gN F else P i := by rw [hF3]
          rw [e2]
          by_cases q : i = c
          · subst q
            rw [if_pos rfl]
            exact hV.cg (fun x hx => seg_in hx)
          · rw [if_neg q]
            exact (hP i (by omega)).cg (fun x hx => seg_out (by omega))
        · rw [u2_k (by decide), uR_n (by omega), hqo 4 (by decide)]; exact hkk.1
        · rw [u2_n (by omega), uR_n (by omega), hoth (Q + 3) (by omega)]; exact hkk.2 hh
        · refine ⟨⟨hT.1.1, by rw [u2_k (by decide), uR_n (by omega), hqo 7 (by decide)]; exact hT.1.2⟩, fun j hj => by rw [u2_n (by omega), uR_n (by omega), hoth (Q + 6) (by omega)]; exact hT.2 j hj⟩
        · intro b hb
          rw [u2_n (by omega), uR_n (by omega)]
          exact hoth b (by omega)
        · intro j hj
          rw [u2_k hj, uR_n (by omega)]
          exact hqo j hj
        · rw [u2_n (by omega), uR_n (by omega)]; exact hq1
      | succ n ih =>
        intro i  hi
        have hlt : i < 514 := by omega
        refine wa_iload_n hX dX7_record_51 rfl ?_
        refine wa_sipush (v := nI 514) hX dX7_record_52 (by decide) ?_
        refine wa_icmp_ge (tgt := 85) hX dX7_record_55 (by decide) (fun c_55 => absurd c_55 (nI_ge hlt (by decide))) (fun c_55 => ?_)
        refine wa_aload_n hX dX7_record_58 rfl ?_
        refine wa_getR hX fX7_13 rfl (by assumption) (by assumption) dX7_record_59 ?_
        refine wa_sipush (v := nI 514) hX dX7_record_62 (by decide) ?_
        refine wa_aload_n hX dX7_record_65 rfl ?_
        refine wa_getI hX fX7_59 rfl (by assumption) dX7_record_66 ?_
        rw [uR_n (b := Q) (by omega), hc]
        refine wa_imul hX dX7_record_69 ?_
        refine wa_iload_n hX dX7_record_70 rfl ?_
        refine wa_iadd hX dX7_record_71 ?_
        refine wa_aload_n hX dX7_record_72 rfl ?_
        refine wa_getR hX fX7_7 rfl (by assumption) (by assumption) dX7_record_73 ?_
        refine wa_iload_n hX dX7_record_76 rfl ?_
        refine wa_iald hX (by assumption) rfl (by first | assumption | omega) (by decide) dX7_record_77 ?_
        rw [uR_n (b := Q + 1) (by omega), hq1]
        refine wa_iast hX (by assumption) (i514 c i) (show 514 * c + i < 2056 by omega) (by decide) dX7_record_78 ?_
        refine wa_iinc hX dX7_record_79 rfl (inc1 _) (by decide) ?_
        refine wa_goto (tgt := 51) hX dX7_record_82 (by decide) ?_
        refine wx_sub (l' := [(0, _), (1, _)]) ⟨rfl, rfl, trivial⟩ ?_
        rw [u2_seg rfl]
        exact ih (i + 1) (by omega)
    refine wa_iconst (v := nI 0) hX dX7_record_49 (by decide) ?_
    refine wa_istore_n hX dX7_record_50 (by decide) ?_
    have e0 : I2 = uR I2 (Q + 2) (segN (514 * c) 0 (I (Q + 1)) (I2 (Q + 2))) := by rw [seg_0, uR_self]
    rw (occs := .pos [1]) [e0]
    exact lp2 514 0 (by omega)
  refine wa_aload_n hX dX7_record_0 rfl ?_
  refine wa_getI hX fX7_59 rfl (by assumption) dX7_record_1 ?_
  rw [hc2]
  refine wa_iconst (v := nI 4) hX dX7_record_4 (by decide) ?_
  refine wa_icmp_ne (tgt := 49) hX dX7_record_5 (by decide) (fun c_5 => ?_) (fun c_5 => ?_)
  · have hlt := ne_of_nI c_5
    exact tail I (gC F) (gP F) (by omega) hc2 rfl (fun _ _ => rfl) (fun _ _ => rfl) hp (by show (recP F).1 = _; rw [recP_lt (by omega)]) (fun i => by show (recP F).2 i = _; rw [recP_lt (by omega)]; rfl)
  · have hlt : gC F = 4 := eq_of_nI c_5 (by omega) (by decide)
    have lp1 : ∀ (n i : Nat), i + n = 1542 → WX X 0 0 N Sh (uR I (Q + 2) (rowN i (fun x => I (Q + 2) (x + 514)) (I (Q + 2)))) J 10 [(0, .ref Q), (1, .int (nI i))] [] := by
      intro n
      induction n with
      | zero =>
        intro i  hi
        obtain rfl : 1542 = i := by omega
        refine wa_iload_n hX dX7_record_10 rfl ?_
        refine wa_sipush (v := nI 1542) hX dX7_record_11 (by decide) ?_
        refine wa_icmp_ge (tgt := 39) hX dX7_record_14 (by decide) (fun c_14 => ?_) (fun c_14 => absurd (Int32.le_refl _) c_14)
        refine wa_aload_n hX dX7_record_39 rfl ?_
        refine wa_dup hX dX7_record_40 rfl ?_
        refine wa_getI hX fX7_59 rfl (by assumption) dX7_record_41 ?_
        rw [uR_n (b := Q) (by omega), hc2, hlt]
        refine wa_iconst (v := nI 1) hX dX7_record_44 (by decide) ?_
        refine wa_isub hX dX7_record_45 ?_
        rw [show nI 4 - nI 1 = nI 3 from pk_sub (by decide)]
        refine wa_putI hX fX7_59 rfl rfl ⟨rfl, rfl⟩ (by assumption) dX7_record_46 ?_
        refine wx_sub (l' := [(0, _)]) ⟨rfl, trivial⟩ ?_
        refine tail _ 3 (fun i => gP F (i + 1)) (by decide) u2_s (by rw [u2_n (by omega), uR_n (by omega)]) (fun j hj => by rw [u2_k hj, uR_n (by omega)]) (fun b hb => by rw [u2_n (by omega), uR_n (by omega)]) (fun i hi => ?_) (by show (recP F).1 = 4; rw [recP_ge (by omega)]) (fun i => by show (recP F).2 i = _; rw [recP_ge (by omega)])
        refine (hp (i + 1) (by omega)).cg (fun x hx => ?_)
        show u2 _ Q 2 (nI 3) (Q + 2) (514 * i + x) = _
        rw [u2_n (by omega), uR_s, rowN_in (by omega), show 514 * i + x + 514 = 514 * (i + 1) + x by omega]
      | succ n ih =>
        intro i  hi
        have hlt : i < 1542 := by omega
        refine wa_iload_n hX dX7_record_10 rfl ?_
        refine wa_sipush (v := nI 1542) hX dX7_record_11 (by decide) ?_
        refine wa_icmp_ge (tgt := 39) hX dX7_record_14 (by decide) (fun c_14 => absurd c_14 (nI_ge hlt (by decide))) (fun c_14 => ?_)
        refine wa_aload_n hX dX7_record_17 rfl ?_
        refine wa_getR hX fX7_13 rfl (by assumption) (by assumption) dX7_record_18 ?_
        refine wa_iload_n hX dX7_record_21 rfl ?_
        refine wa_aload_n hX dX7_record_22 rfl ?_
        refine wa_getR hX fX7_13 rfl (by assumption) (by assumption) dX7_record_23 ?_
        refine wa_iload_n hX dX7_record_26 rfl ?_
        refine wa_sipush (v := nI 514) hX dX7_record_27 (by decide) ?_
        refine wa_iadd hX dX7_record_30 ?_
        refine wa_iald hX (by assumption) (nI_add i 514) (show i + 514 < 2056 by omega) (by decide) dX7_record_31 ?_
        rw [uR_s, rowN_out (show i ≤ i + 514 by omega)]
        refine wa_iast hX (by assumption) rfl (show i < 2056 by omega) (by decide) dX7_record_32 ?_
        refine wa_iinc hX dX7_record_33 rfl (inc1 _) (by decide) ?_
        refine wa_goto (tgt := 10) hX dX7_record_36 (by decide) ?_
        refine wx_sub (l' := [(0, _), (1, _)]) ⟨rfl, rfl, trivial⟩ ?_
        rw [u2_row rfl]
        exact ih (i + 1) (by omega)
    refine wa_iconst (v := nI 0) hX dX7_record_8 (by decide) ?_
    refine wa_istore_n hX dX7_record_9 (by decide) ?_
    rw [row_0 (I := I) (a := Q + 2) (g := fun x => I (Q + 2) (x + 514))]
    exact lp1 1542 0 (by omega)

set_option maxHeartbeats 4000000 in
set_option maxRecDepth 100000 in
theorem tX7_remembers {l : Launch} {D : va_G} {A : Nat → Prop} {N : Nat} {Sh : SM} {J : JM} (I : IM) {Q : Nat} (hM : MM Sh J Q) {S : AS} (hV : VF (I (Q + 1)) S) {m : Nat} (hm : m < 6) : CtW l D A yX7_remembers cX7_remembers 3 3 N Sh I J [.ref Q, .int (nI m)] (fun I' => I' = uR I (Q + 4) (rowN 16 (fun k => nI (aV S m k)) (I (Q + 4)))) := by
  refine ct_V (l0 := [(0, .ref Q), (1, .int (nI m))]) (by decide +kernel) (Nat.le_of_ble_eq_true rfl) rfl ?_
  intro X hX hret _ _ _
  have hX : XK X RX7 cX7_remembers 3 3 := hX
  obtain ⟨q0, ⟨qj0, qj1, qj3, qj5, qj6, qj8, qj12, qj13, qj14, qj15, qj16, qj18, qj19⟩, ⟨qs1, qs2, qs3, qs4, qs5, qs6, qs7, qs8, qs9, qs10, qs11, qs12, qs13⟩⟩ := id hM
  have lp : ∀ (n i : Nat), i + n = 16 → WX X 0 0 N Sh (uR I (Q + 4) (rowN i (fun k => nI (aV S m k)) (I (Q + 4)))) J 2 [(0, .ref Q), (1, .int (nI m)), (2, .int (nI i))] [] := by
    intro n
    induction n with
    | zero =>
      intro i  hi
      obtain rfl : 16 = i := by omega
      refine wa_iload_n hX dX7_remembers_2 rfl ?_
      refine wa_bipush (v := nI 16) hX dX7_remembers_3 (by decide) ?_
      refine wa_icmp_ge (tgt := 26) hX dX7_remembers_5 (by decide) (fun c_5 => ?_) (fun c_5 => absurd (Int32.le_refl _) c_5)
      exact hret _ _ _ _ ⟨rfl, rfl⟩ dX7_remembers_26
    | succ n ih =>
      intro i  hi
      have hlt : i < 16 := by omega
      refine wa_iload_n hX dX7_remembers_2 rfl ?_
      refine wa_bipush (v := nI 16) hX dX7_remembers_3 (by decide) ?_
      refine wa_icmp_ge (tgt := 26) hX dX7_remembers_5 (by decide) (fun c_5 => absurd c_5 (nI_ge hlt (by decide))) (fun c_5 => ?_)
      refine wa_aload_n hX dX7_remembers_8 rfl ?_
      refine wa_getR hX fX7_19 rfl (by assumption) (by assumption) dX7_remembers_9 ?_
      refine wa_iload_n hX dX7_remembers_12 rfl ?_
      refine wa_aload_n hX dX7_remembers_13 rfl ?_
      refine wa_iload_n hX dX7_remembers_14 rfl ?_
      refine wa_iload_n hX dX7_remembers_15 rfl ?_
      refine wa_vP hX (tX7_value _ hM (S := S) (by rw [uR_n (by omega)]; exact hV) hm hlt) bX7_value mX7_75 (by decide) (by decide) (ci := 6) ⟨by decide, rfl⟩ (by assumption) rfl rfl (Nat.le_of_ble_eq_true rfl) dX7_remembers_16 (fun r_16 q_16 => ?_)
      refine wa_iast hX (by assumption) rfl (by first | assumption | omega) (by decide) dX7_remembers_19 ?_
      refine wa_iinc hX dX7_remembers_20 rfl (inc1 _) (by decide) ?_
      refine wa_goto (tgt := 2) hX dX7_remembers_23 (by decide) ?_
      refine wx_sub (l' := [(0, _), (1, _), (2, _)]) ⟨rfl, rfl, rfl, trivial⟩ ?_
      rw [u2_row (by exact q_16)]
      exact ih (i + 1) (by omega)
  refine wa_iconst (v := nI 0) hX dX7_remembers_0 (by decide) ?_
  refine wa_istore_n hX dX7_remembers_1 (by decide) ?_
  rw [row_0 (I := I) (a := Q + 4) (g := fun k => nI (aV S m k))]
  exact lp 16 0 (by omega)

set_option maxHeartbeats 4000000 in
set_option maxRecDepth 100000 in
theorem tX7_changed {l : Launch} {D : va_G} {A : Nat → Prop} {N : Nat} {Sh : SM} {J : JM} (I : IM) {Q : Nat} (hM : MM Sh J Q) {S : AS} (hV : VF (I (Q + 1)) S) {m : Nat} {w : Nat → Nat} (hm : m < 6) (hw : ∀ k, k < 16 → I (Q + 4) k = nI (w k) ∧ w k ≤ 16) : CtP l D A yX7_changed cX7_changed 4 FieldType.int 3 N Sh I J [.ref Q, .int (nI m)] (fun r => r = nI (chgV w (aV S m))) := by
  refine ct_I (l0 := [(0, .ref Q), (1, .int (nI m))]) (by decide +kernel) (Nat.le_of_ble_eq_true rfl) rfl (fun _ _ _ _ => rfl) ?_
  intro X hX hret _ _ _
  have hX : XK X RX7 cX7_changed 4 3 := hX
  obtain ⟨q0, ⟨qj0, qj1, qj3, qj5, qj6, qj8, qj12, qj13, qj14, qj15, qj16, qj18, qj19⟩, ⟨qs1, qs2, qs3, qs4, qs5, qs6, qs7, qs8, qs9, qs10, qs11, qs12, qs13⟩⟩ := id hM
  have lp : ∀ (n i : Nat) (x : Int32), i + n = 16 → (x = nI (cnt (fun k => !decide (w k = aV S m k)) i)) → WX X 0 0 N Sh I J 4 [(0, .ref Q), (1, .int (nI m)), (2, .int x), (3, .int (nI i))] [] := by
    intro n
    induction n with
    | zero =>
      intro i x hi ex
      obtain rfl : 16 = i := by omega
      refine wa_iload_n hX dX7_changed_4 rfl ?_
      refine wa_bipush (v := nI 16) hX dX7_changed_5 (by decide) ?_
      refine wa_icmp_ge (tgt := 39) hX dX7_changed_7 (by decide) (fun c_7 => ?_) (fun c_7 => absurd (Int32.le_refl _) c_7)
      refine wa_iload_n hX dX7_changed_39 rfl ?_
      exact hret _ _ _ _ _ ⟨ex, rfl, rfl⟩ dX7_changed_40
    | succ n ih =>
      intro i x hi ex
      have hlt : i < 16 := by omega
      refine wa_iload_n hX dX7_changed_4 rfl ?_
      refine wa_bipush (v := nI 16) hX dX7_changed_5 (by decide) ?_
      refine wa_icmp_ge (tgt := 39) hX dX7_changed_7 (by decide) (fun c_7 => absurd c_7 (nI_ge hlt (by decide))) (fun c_7 => ?_)
      refine wa_iload_n hX dX7_changed_10 rfl ?_
      refine wa_aload_n hX dX7_changed_11 rfl ?_
      refine wa_getR hX fX7_19 rfl (by assumption) (by assumption) dX7_changed_12 ?_
      refine wa_iload_n hX dX7_changed_15 rfl ?_
      refine wa_iald hX (by assumption) rfl (by first | assumption | omega) (by decide) dX7_changed_16 ?_
      rw [(hw i hlt).1]
      refine wa_aload_n hX dX7_changed_17 rfl ?_
      refine wa_iload_n hX dX7_changed_18 rfl ?_
      refine wa_iload_n hX dX7_changed_19 rfl ?_
      refine wa_vP hX (tX7_value I hM hV hm hlt) bX7_value mX7_75 (by decide) (by decide) (ci := 6) ⟨by decide, rfl⟩ (by assumption) rfl rfl (Nat.le_of_ble_eq_true rfl) dX7_changed_20 (fun r_20 q_20 => ?_)
      have hv9 := hV.val hm hlt
      have hw9 := (hw i hlt).2
      subst q_20
      refine wa_icmp_ne (tgt := 30) hX dX7_changed_23 (by decide) (fun c_23 => ?_) (fun c_23 => ?_)
      · skip
        have c1 := ne_of_nI c_23
        refine wa_iconst (v := nI 1) hX dX7_changed_30 (by decide) ?_
        refine wa_iadd hX dX7_changed_31 ?_
        refine wa_istore_n hX dX7_changed_32 (by decide) ?_
        refine wa_iinc hX dX7_changed_33 rfl (inc1 _) (by decide) ?_
        refine wa_goto (tgt := 4) hX dX7_changed_36 (by decide) ?_
        refine wx_sub (l' := [(0, _), (1, _), (2, _), (3, _)]) ⟨rfl, rfl, rfl, rfl, trivial⟩ ?_
        exact ih (i + 1) _ (by omega) (by rw [ex]; exact (nI_add _ 1).trans (congrArg nI (cnt_t (p := fun k => !decide (w k = aV S m k)) (by simp [c1])).symm))
      · skip
        have c1 := eq_of_nI c_23 (by omega) (by omega)
        refine wa_iconst (v := nI 0) hX dX7_changed_26 (by decide) ?_
        refine wa_goto (tgt := 31) hX dX7_changed_27 (by decide) ?_
        refine wa_iadd hX dX7_changed_31 ?_
        refine wa_istore_n hX dX7_changed_32 (by decide) ?_
        refine wa_iinc hX dX7_changed_33 rfl (inc1 _) (by decide) ?_
        refine wa_goto (tgt := 4) hX dX7_changed_36 (by decide) ?_
        refine wx_sub (l' := [(0, _), (1, _), (2, _), (3, _)]) ⟨rfl, rfl, rfl, rfl, trivial⟩ ?_
        exact ih (i + 1) _ (by omega) (by rw [ex]; exact (nI_add _ 0).trans (congrArg nI (cnt_f (p := fun k => !decide (w k = aV S m k)) (by simp [c1])).symm))
  refine wa_iconst (v := nI 0) hX dX7_changed_0 (by decide) ?_
  refine wa_istore_n hX dX7_changed_1 (by decide) ?_
  refine wa_iconst (v := nI 0) hX dX7_changed_2 (by decide) ?_
  refine wa_istore_n hX dX7_changed_3 (by decide) ?_
  exact lp 16 0 _ (by omega) rfl

theorem VF.sM {f g : Nat → Int32} {S : AS} {m hg : Nat} {on : Nat → Bool} {en : Nat → Nat → Nat} (h : VF f S) (hm : m < 6) (h4 : hg ≤ 4) (e1 : g (408 + m) = nI hg) (e2 : ∀ l, l < 4 → g (384 + 4 * m + l) = bI (on l)) (e3 : ∀ l, l < 4 → ∀ k, k < 16 → g (16 * (4 * m + l) + k) = nI (en l k) ∧ en l k ≤ 17)
    (e4 : ∀ x, x < 514 → x ≠ 408 + m → (x < 384 + 4 * m ∨ 384 + 4 * m + 4 ≤ x) → (x < 64 * m ∨ 64 * m + 64 ≤ x) → g x = f x) : VF g (sM S m hg on en) := by
  obtain ⟨h1, h2, h3, h4', h5, h6⟩ := h
  refine ⟨fun j hj => ?_, by rw [e4 _ (by omega) (by omega) (by omega) (by omega)]; exact h2, by rw [e4 _ (by omega) (by omega) (by omega) (by omega)]; exact h3, by rw [e4 _ (by omega) (by omega) (by omega) (by omega)]; exact h4', by rw [e4 _ (by omega) (by omega) (by omega) (by omega)]; exact h5, fun j hj k hk => by rw [e4 _ (by omega) (by omega) (by omega) (by omega)]; exact h6 j hj k hk⟩
  show (upF (aH S) m hg j ≤ 4 ∧ g (408 + j) = nI (upF (aH S) m hg j)) ∧ (∀ l, l < 4 → g (384 + 4 * j + l) = bI (upF (aO S) m on j l)) ∧ ∀ l, l < 4 → ∀ k, k < 16 → g (16 * (4 * j + l) + k) = nI (upF (aE S) m en j l k) ∧ upF (aE S) m en j l k ≤ 17
  by_cases e : j = m
  · subst e
    simp only [upF, ↓reduceIte]
    exact ⟨⟨h4, e1⟩, e2, e3⟩
  · simp only [upF, if_neg e]
    exact ⟨⟨(h1 j hj).1.1, by rw [e4 _ (by omega) (by omega) (by omega) (by omega)]; exact (h1 j hj).1.2⟩, fun l hl => by rw [e4 _ (by omega) (by omega) (by omega) (by omega)]; exact (h1 j hj).2.1 l hl, fun l hl k hk => by rw [e4 _ (by omega) (by omega) (by omega) (by omega)]; exact (h1 j hj).2.2 l hl k hk⟩
theorem ix3 (m : Nat) : nI 384 + nI 4 * nI m = nI (384 + 4 * m) := by rw [pk_mul, nI_add]
set_option maxHeartbeats 4000000 in
set_option maxRecDepth 100000 in
theorem tX7_becomes {l : Launch} {D : va_G} {A : Nat → Prop} {N : Nat} {Sh : SM} {J : JM} (I : IM) {Q : Nat} (hM : MM Sh J Q) {S : AS} (hV : VF (I (Q + 1)) S) {m b : Nat} {w : Nat → Nat} (hm : m < 6) (hb : shI Sh b 16) (hne : b ≠ Q + 1) (hw : ∀ k, k < 16 → I b k = nI (w k) ∧ w k ≤ 16) : CtM l D A yX7_becomes cX7_becomes 5 FieldType.int 1 N Sh I J [.ref Q, .int (nI m), .ref b] (fun r I' => r = nI (valN w) ∧ VF (I' (Q + 1)) (oneM S m w) ∧ Fr (Q + 1) 1 I I') := by
  refine ct_I (l0 := [(0, .ref Q), (1, .int (nI m)), (2, .ref b)]) (by decide +kernel) (Nat.le_of_ble_eq_true rfl) rfl (fun _ _ _ _ => rfl) ?_
  intro X hX hret _ _ _
  have hX : XK X RX7 cX7_becomes 5 1 := hX
  obtain ⟨q0, ⟨qj0, qj1, qj3, qj5, qj6, qj8, qj12, qj13, qj14, qj15, qj16, qj18, qj19⟩, ⟨qs1, qs2, qs3, qs4, qs5, qs6, qs7, qs8, qs9, qs10, qs11, qs12, qs13⟩⟩ := id hM
  have lp : ∀ (n i : Nat) (x : Int32), i + n = 16 → (x = nI (cnt (fun k => !decide (w k = 16)) i)) → WX X 0 0 N Sh (uR (u2 (u2 I (Q + 1) (408 + m) (nI 1)) (Q + 1) (384 + 4 * m) (nI 1)) (Q + 1) (segN (16 * (4 * m + 0)) i (fun k => nI (if w k = 16 then 17 else w k)) ((u2 (u2 I (Q + 1) (408 + m) (nI 1)) (Q + 1) (384 + 4 * m) (nI 1)) (Q + 1)))) J 29 [(0, .ref Q), (1, .int (nI m)), (2, .ref b), (3, .int x), (4, .int (nI i))] [] := by
    intro n
    induction n with
    | zero =>
      intro i x hi ex
      obtain rfl : 16 = i := by omega
      refine wa_iload hX dX7_becomes_29 rfl ?_
      refine wa_bipush (v := nI 16) hX dX7_becomes_31 (by decide) ?_
      refine wa_icmp_ge (tgt := 89) hX dX7_becomes_33 (by decide) (fun c_33 => ?_) (fun c_33 => absurd (Int32.le_refl _) c_33)
      refine wa_iload_n hX dX7_becomes_89 rfl ?_
      refine hret _ _ _ _ _ ⟨⟨ex, ?_, Fr.tr (Fr.tr (Fr.u2 (Nat.le_refl _) (by omega)) (Fr.u2 (Nat.le_refl _) (by omega))) (Fr.uR (Nat.le_refl _) (by omega))⟩, rfl⟩ dX7_becomes_90
      rw [uR_s]
      refine hV.sM hm (by decide) ?_ (fun l hl => ?_) (fun l hl k hk => ?_) (fun x hx n1 n2 n3 => ?_)
      · rw [seg_out (by omega), u2_k (by omega), u2_s]
      · rw [seg_out (by omega)]
        by_cases e : l = 0
        · subst e; rw [show 384 + 4 * m + 0 = 384 + 4 * m from rfl, u2_s]; simp [upF]; rfl
        · rw [u2_k (by omega), u2_k (by omega), (hV.1 m hm).2.1 l hl]; simp [upF, e]
      · by_cases e : l = 0
        · subst e; rw [seg_in hk]; exact ⟨by simp [upF], by have := (hw k hk).2; simp only [upF, ↓reduceIte]; split <;> omega⟩
        · rw [seg_out (by omega), u2_k (by omega), u2_k (by omega)]; simp only [upF, if_neg e]; exact (hV.1 m hm).2.2 l hl k hk
      · rw [seg_out (by omega), u2_k (by omega), u2_k (by omega)]
    | succ n ih =>
      intro i x hi ex
      have hlt : i < 16 := by omega
      refine wa_iload hX dX7_becomes_29 rfl ?_
      refine wa_bipush (v := nI 16) hX dX7_becomes_31 (by decide) ?_
      refine wa_icmp_ge (tgt := 89) hX dX7_becomes_33 (by decide) (fun c_33 => absurd c_33 (nI_ge hlt (by decide))) (fun c_33 => ?_)
      refine wa_aload_n hX dX7_becomes_36 rfl ?_
      refine wa_getR hX fX7_7 rfl (by assumption) (by assumption) dX7_becomes_37 ?_
      refine wa_iload_n hX dX7_becomes_40 rfl ?_
      refine wa_iconst (v := nI 0) hX dX7_becomes_41 (by decide) ?_
      refine wa_iload hX dX7_becomes_42 rfl ?_
      refine wa_sP hX (tX7_cell _ m 0 i) bX7_cell mX7_67 (by decide) (by decide) rfl rfl (Nat.le_of_ble_eq_true rfl) dX7_becomes_44 (fun r_44 q_44 => ?_)
      subst q_44
      refine wa_aload_n hX dX7_becomes_47 rfl ?_
      refine wa_iload hX dX7_becomes_48 rfl ?_
      refine wa_iald hX hb rfl (by first | assumption | omega) (by decide) dX7_becomes_50 ?_
      rw [uR_n hne, u2_n hne, u2_n hne, (hw i hlt).1]
      refine wa_bipush (v := nI 16) hX dX7_becomes_51 (by decide) ?_
      refine wa_icmp_ne (tgt := 61) hX dX7_becomes_53 (by decide) (fun c_53 => ?_) (fun c_53 => ?_)
      · skip
        have c1 := ne_of_nI c_53
        refine wa_aload_n hX dX7_becomes_61 rfl ?_
        refine wa_iload hX dX7_becomes_62 rfl ?_
        refine wa_iald hX hb rfl (by first | assumption | omega) (by decide) dX7_becomes_64 ?_
        rw [uR_n hne, u2_n hne, u2_n hne, (hw i hlt).1]
        refine wa_iast hX (by assumption) rfl (show 16 * (4 * m + 0) + i < 514 by omega) (by decide) dX7_becomes_65 ?_
        rw [u2_seg (by simp [c1])]
        refine wa_iload_n hX dX7_becomes_66 rfl ?_
        refine wa_aload_n hX dX7_becomes_67 rfl ?_
        refine wa_iload hX dX7_becomes_68 rfl ?_
        refine wa_iald hX hb rfl (by first | assumption | omega) (by decide) dX7_becomes_70 ?_
        rw [uR_n hne, u2_n hne, u2_n hne, (hw i hlt).1]
        refine wa_bipush (v := nI 16) hX dX7_becomes_71 (by decide) ?_
        refine wa_icmp_ne (tgt := 80) hX dX7_becomes_73 (by decide) (fun c_73 => ?_) (fun c_73 => absurd c_73 (nI_ne c1 (by have := (hw i hlt).2; omega) (by decide)))
        refine wa_iconst (v := nI 1) hX dX7_becomes_80 (by decide) ?_
        refine wa_iadd hX dX7_becomes_81 ?_
        refine wa_istore_n hX dX7_becomes_82 (by decide) ?_
        refine wa_iinc hX dX7_becomes_83 rfl (inc1 _) (by decide) ?_
        refine wa_goto (tgt := 29) hX dX7_becomes_86 (by decide) ?_
        refine wx_sub (l' := [(0, _), (1, _), (2, _), (3, _), (4, _)]) ⟨rfl, rfl, rfl, rfl, rfl, trivial⟩ ?_
        exact ih (i + 1) _ (by omega) (by rw [ex]; exact (nI_add _ 1).trans (congrArg nI (cnt_t (p := fun k => !decide (w k = 16)) (by simp [c1])).symm))
      · skip
        have c1 := eq_of_nI c_53 (by have := (hw i hlt).2; omega) (by decide)
        refine wa_bipush (v := nI 17) hX dX7_becomes_56 (by decide) ?_
        refine wa_goto (tgt := 65) hX dX7_becomes_58 (by decide) ?_
        refine wa_iast hX (by assumption) rfl (show 16 * (4 * m + 0) + i < 514 by omega) (by decide) dX7_becomes_65 ?_
        rw [u2_seg (by simp [c1])]
        refine wa_iload_n hX dX7_becomes_66 rfl ?_
        refine wa_aload_n hX dX7_becomes_67 rfl ?_
        refine wa_iload hX dX7_becomes_68 rfl ?_
        refine wa_iald hX hb rfl (by first | assumption | omega) (by decide) dX7_becomes_70 ?_
        rw [uR_n hne, u2_n hne, u2_n hne, (hw i hlt).1]
        refine wa_bipush (v := nI 16) hX dX7_becomes_71 (by decide) ?_
        refine wa_icmp_ne (tgt := 80) hX dX7_becomes_73 (by decide) (fun c_73 => absurd (by rw [c1]) c_73) (fun c_73 => ?_)
        refine wa_iconst (v := nI 0) hX dX7_becomes_76 (by decide) ?_
        refine wa_goto (tgt := 81) hX dX7_becomes_77 (by decide) ?_
        refine wa_iadd hX dX7_becomes_81 ?_
        refine wa_istore_n hX dX7_becomes_82 (by decide) ?_
        refine wa_iinc hX dX7_becomes_83 rfl (inc1 _) (by decide) ?_
        refine wa_goto (tgt := 29) hX dX7_becomes_86 (by decide) ?_
        refine wx_sub (l' := [(0, _), (1, _), (2, _), (3, _), (4, _)]) ⟨rfl, rfl, rfl, rfl, rfl, trivial⟩ ?_
        exact ih (i + 1) _ (by omega) (by rw [ex]; exact (nI_add _ 0).trans (congrArg nI (cnt_f (p := fun k => !decide (w k = 16)) (by simp [c1])).symm))
  refine wa_aload_n hX dX7_becomes_0 rfl ?_
  refine wa_getR hX fX7_7 rfl (by assumption) (by assumption) dX7_becomes_1 ?_
  refine wa_sipush (v := nI 408) hX dX7_becomes_4 (by decide) ?_
  refine wa_iload_n hX dX7_becomes_7 rfl ?_
  refine wa_iadd hX dX7_becomes_8 ?_
  refine wa_iconst (v := nI 1) hX dX7_becomes_9 (by decide) ?_
  refine wa_iast hX (by assumption) (nI_add 408 m) (show 408 + m < 514 by omega) (by decide) dX7_becomes_10 ?_
  refine wa_aload_n hX dX7_becomes_11 rfl ?_
  refine wa_getR hX fX7_7 rfl (by assumption) (by assumption) dX7_becomes_12 ?_
  refine wa_sipush (v := nI 384) hX dX7_becomes_15 (by decide) ?_
  refine wa_iconst (v := nI 4) hX dX7_becomes_18 (by decide) ?_
  refine wa_iload_n hX dX7_becomes_19 rfl ?_
  refine wa_imul hX dX7_becomes_20 ?_
  refine wa_iadd hX dX7_becomes_21 ?_
  refine wa_iconst (v := nI 1) hX dX7_becomes_22 (by decide) ?_
  refine wa_iast hX (by assumption) (ix3 m) (show 384 + 4 * m < 514 by omega) (by decide) dX7_becomes_23 ?_
  refine wa_iconst (v := nI 0) hX dX7_becomes_24 (by decide) ?_
  refine wa_istore_n hX dX7_becomes_25 (by decide) ?_
  refine wa_iconst (v := nI 0) hX dX7_becomes_26 (by decide) ?_
  refine wa_istore hX dX7_becomes_27 (by decide) ?_
  have e0 : (u2 (u2 I (Q + 1) (408 + m) (nI 1)) (Q + 1) (384 + 4 * m) (nI 1)) = (uR (u2 (u2 I (Q + 1) (408 + m) (nI 1)) (Q + 1) (384 + 4 * m) (nI 1)) (Q + 1) (segN (16 * (4 * m + 0)) 0 (fun k => nI (if w k = 16 then 17 else w k)) ((u2 (u2 I (Q + 1) (408 + m) (nI 1)) (Q + 1) (384 + 4 * m) (nI 1)) (Q + 1)))) := by rw [seg_0, uR_self]
  rw [e0]
  exact lp 16 0 _ (by omega) rfl

set_option maxHeartbeats 4000000 in
set_option maxRecDepth 100000 in
theorem tX7_known {l : Launch} {D : va_G} {A : Nat → Prop} {N : Nat} {Sh : SM} {J : JM} (I : IM) {Q : Nat} (hM : MM Sh J Q) {S : AS} (hV : VF (I (Q + 1)) S) {m k : Nat} (hm : m < 6) (hk : k < 16) : CtP l D A yX7_known cX7_known 3 FieldType.int 0 N Sh I J [.ref Q, .int (nI m), .int (nI k)] (fun r => r = nI (aKn S m k)) := by
  refine ct_I (l0 := [(0, .ref Q), (1, .int (nI m)), (2, .int (nI k))]) (by decide +kernel) (Nat.le_of_ble_eq_true rfl) rfl (fun _ _ _ _ => rfl) ?_
  intro X hX hret _ _ _
  have hX : XK X RX7 cX7_known 3 0 := hX
  obtain ⟨q0, ⟨qj0, qj1, qj3, qj5, qj6, qj8, qj12, qj13, qj14, qj15, qj16, qj18, qj19⟩, ⟨qs1, qs2, qs3, qs4, qs5, qs6, qs7, qs8, qs9, qs10, qs11, qs12, qs13⟩⟩ := id hM
  refine wa_aload_n hX dX7_known_0 rfl ?_
  refine wa_getR hX fX7_7 rfl (by assumption) (by assumption) dX7_known_1 ?_
  refine wa_sipush (v := nI 418) hX dX7_known_4 (by decide) ?_
  refine wa_bipush (v := nI 16) hX dX7_known_7 (by decide) ?_
  refine wa_iload_n hX dX7_known_9 rfl ?_
  refine wa_imul hX dX7_known_10 ?_
  refine wa_iadd hX dX7_known_11 ?_
  refine wa_iload_n hX dX7_known_12 rfl ?_
  refine wa_iadd hX dX7_known_13 ?_
  refine wa_iald hX (by assumption) (ixk m k) (show 418 + 16 * m + k < 514 by omega) (by decide) dX7_known_14 ?_
  exact hret _ _ _ _ _ ⟨((hV.2.2.2.2.2 m hm k hk).1), rfl, rfl⟩ dX7_known_15

set_option maxHeartbeats 4000000 in
set_option maxRecDepth 100000 in
theorem tX7_isSuspect {l : Launch} {D : va_G} {A : Nat → Prop} {N : Nat} {Sh : SM} {J : JM} (I : IM) {Q : Nat} (hM : MM Sh J Q) {S : AS} (hV : VF (I (Q + 1)) S) {m : Nat} (hm : m < 6) : CtP l D A yX7_isSuspect cX7_isSuspect 2 FieldType.boolean 0 N Sh I J [.ref Q, .int (nI m)] (fun r => r = bI (bt (nI (aSus S)) m)) := by
  refine ct_I (l0 := [(0, .ref Q), (1, .int (nI m))]) (by decide +kernel) (Nat.le_of_ble_eq_true rfl) rfl (fun _ _ _ h => by obtain ⟨rfl, _⟩ := h; exact nar_B _) ?_
  intro X hX hret _ _ _
  have hX : XK X RX7 cX7_isSuspect 2 0 := hX
  obtain ⟨q0, ⟨qj0, qj1, qj3, qj5, qj6, qj8, qj12, qj13, qj14, qj15, qj16, qj18, qj19⟩, ⟨qs1, qs2, qs3, qs4, qs5, qs6, qs7, qs8, qs9, qs10, qs11, qs12, qs13⟩⟩ := id hM
  refine wa_aload_n hX dX7_isSuspect_0 rfl ?_
  refine wa_getR hX fX7_7 rfl (by assumption) (by assumption) dX7_isSuspect_1 ?_
  refine wa_sipush (v := nI 416) hX dX7_isSuspect_4 (by decide) ?_
  refine wa_iald hX (by assumption) rfl (show 416 < 514 by decide) (by decide) dX7_isSuspect_7 ?_
  rw [hV.2.2.2.1.1]
  refine wa_iload_n hX dX7_isSuspect_8 rfl ?_
  refine wa_ishr hX dX7_isSuspect_9 ?_
  refine wa_iconst (v := nI 1) hX dX7_isSuspect_10 (by decide) ?_
  refine wa_iand hX dX7_isSuspect_11 ?_
  refine wa_iconst (v := nI 1) hX dX7_isSuspect_12 (by decide) ?_
  refine wa_icmp_ne (tgt := 20) hX dX7_isSuspect_13 (by decide) (fun c_13 => ?_) (fun c_13 => ?_)
  · skip
    have c1 : bt (nI (aSus S)) m = false := Bool.eq_false_iff.mpr (fun h => c_13 ((bt_t1 (by omega) _).mpr h))
    refine wa_iconst (v := nI 0) hX dX7_isSuspect_20 (by decide) ?_
    exact hret _ _ _ _ _ ⟨(by rw [c1]; rfl), rfl, rfl⟩ dX7_isSuspect_21
  · skip
    have c1 := (bt_t1 (by omega) _).mp c_13
    refine wa_iconst (v := nI 1) hX dX7_isSuspect_16 (by decide) ?_
    refine wa_goto (tgt := 21) hX dX7_isSuspect_17 (by decide) ?_
    exact hret _ _ _ _ _ ⟨(by rw [c1]; rfl), rfl, rfl⟩ dX7_isSuspect_21

theorem fnd_s {a : Bool} {p : Nat → Nat} {q : Nat → Nat} {k : Nat} (c1 : a = true) (ea : (true && !allB (fun k => decide (p k = q k)) k) = false) (c2 : p k = q k) : (a && !allB (fun k => decide (p k = q k)) (k + 1)) = false := by
  have e3 : allB (fun k => decide (p k = q k)) k = true := by simpa using ea
  unfold allB
  rw [c1, e3]
  simp [c2]
set_option maxHeartbeats 4000000 in
set_option maxRecDepth 100000 in
theorem tX7_isFound {l : Launch} {D : va_G} {A : Nat → Prop} {N : Nat} {Sh : SM} {J : JM} (I : IM) {Q : Nat} (hM : MM Sh J Q) {S : AS} (hV : VF (I (Q + 1)) S) {h : Nat} (hh : aHid S = h + 1) : CtP l D A yX7_isFound cX7_isFound 4 FieldType.boolean 1 N Sh I J [.ref Q] (fun r => r = bI (fndV (aSus S) (aKn S) h)) := by
  refine ct_I (l0 := [(0, .ref Q)]) (by decide +kernel) (Nat.le_of_ble_eq_true rfl) rfl (fun _ _ _ h => by obtain ⟨rfl, _⟩ := h; exact nar_B _) ?_
  intro X hX hret _ _ _
  have hX : XK X RX7 cX7_isFound 4 1 := hX
  obtain ⟨q0, ⟨qj0, qj1, qj3, qj5, qj6, qj8, qj12, qj13, qj14, qj15, qj16, qj18, qj19⟩, ⟨qs1, qs2, qs3, qs4, qs5, qs6, qs7, qs8, qs9, qs10, qs11, qs12, qs13⟩⟩ := id hM
  have h6 := hV.2.2.1.2
  have hI4 := hV.2.2.1.1
  rw [hh] at h6 hI4
  have lp : ∀ (n i : Nat), i + n = 6 → allB (fun m => !(bt (nI (aSus S)) m && !allB (fun k => decide (aKn S m k = aKn S h k)) 16)) i = true → WX X 0 0 N Sh I J 13 [(0, .ref Q), (1, .int (nI h)), (2, .int (nI i))] [] := by
    intro n
    induction n with
    | zero =>
      intro i hi ea
      obtain rfl : 6 = i := by omega
      refine wa_iload_n hX dX7_isFound_13 rfl ?_
      refine wa_bipush (v := nI 6) hX dX7_isFound_14 (by decide) ?_
      refine wa_icmp_ge (tgt := 64) hX dX7_isFound_16 (by decide) (fun c_16 => ?_) (fun c_16 => absurd (Int32.le_refl _) c_16)
      refine wa_iconst (v := nI 1) hX dX7_isFound_64 (by decide) ?_
      exact hret _ _ _ _ _ ⟨(by rw [show fndV (aSus S) (aKn S) h = true from ea]; rfl), rfl, rfl⟩ dX7_isFound_65
    | succ n ih =>
      intro i hi ea
      have hi6 : i < 6 := by omega
      have nxt : (bt (nI (aSus S)) i && !allB (fun k => decide (aKn S i k = aKn S h k)) 16) = false → WX X 0 0 N Sh I J 58 [(0, .ref Q), (1, .int (nI h)), (2, .int (nI i)), (3, .int (nI 16))] [] := by
        intro en
        refine wa_iinc hX dX7_isFound_58 rfl (inc1 _) (by decide) ?_
        refine wa_goto (tgt := 13) hX dX7_isFound_61 (by decide) ?_
        refine wx_sub (l' := [(0, _), (1, _), (2, _)]) ⟨rfl, rfl, rfl, trivial⟩ ?_
        exact ih (i + 1) (by omega) (by unfold allB; rw [ea, en]; rfl)
      have li : ∀ (n k : Nat), k + n = 16 → ((bt (nI (aSus S)) i && !allB (fun k => decide (aKn S i k = aKn S h k)) k) = false) → WX X 0 0 N Sh I J 21 [(0, .ref Q), (1, .int (nI h)), (2, .int (nI i)), (3, .int (nI k))] [] := by
        intro n
        induction n with
        | zero =>
          intro k  hi ea
          obtain rfl : 16 = k := by omega
          refine wa_iload_n hX dX7_isFound_21 rfl ?_
          refine wa_bipush (v := nI 16) hX dX7_isFound_22 (by decide) ?_
          refine wa_icmp_ge (tgt := 58) hX dX7_isFound_24 (by decide) (fun c_24 => ?_) (fun c_24 => absurd (Int32.le_refl _) c_24)
          exact nxt ea
        | succ n ih =>
          intro k  hi ea
          have hlt : k < 16 := by omega
          refine wa_iload_n hX dX7_isFound_21 rfl ?_
          refine wa_bipush (v := nI 16) hX dX7_isFound_22 (by decide) ?_
          refine wa_icmp_ge (tgt := 58) hX dX7_isFound_24 (by decide) (fun c_24 => absurd c_24 (nI_ge hlt (by decide))) (fun c_24 => ?_)
          refine wa_aload_n hX dX7_isFound_27 rfl ?_
          refine wa_iload_n hX dX7_isFound_28 rfl ?_
          refine wa_vP hX (tX7_isSuspect I hM hV hi6) bX7_isSuspect mX7_125 (by decide) (by decide) (ci := 6) ⟨by decide, rfl⟩ (by assumption) rfl rfl (Nat.le_of_ble_eq_true rfl) dX7_isFound_29 (fun r_29 q_29 => ?_)
          subst q_29
          refine wa_if_eq (tgt := 52) hX dX7_isFound_32 (by decide) (fun c_32 => ?_) (fun c_32 => ?_)
          · skip
            have c1 := bI_0.mp c_32
            refine wa_iinc hX dX7_isFound_52 rfl (inc1 _) (by decide) ?_
            refine wa_goto (tgt := 21) hX dX7_isFound_55 (by decide) ?_
            refine wx_sub (l' := [(0, _), (1, _), (2, _), (3, _)]) ⟨rfl, rfl, rfl, rfl, trivial⟩ ?_
            exact ih (k + 1) (by omega) (by rw [c1]; rfl)
          · skip
            have c1 := bI_n0.mp c_32
            refine wa_aload_n hX dX7_isFound_35 rfl ?_
            refine wa_iload_n hX dX7_isFound_36 rfl ?_
            refine wa_iload_n hX dX7_isFound_37 rfl ?_
            refine wa_vP hX (tX7_known I hM hV hi6 hlt) bX7_known mX7_122 (by decide) (by decide) (ci := 6) ⟨by decide, rfl⟩ (by assumption) rfl rfl (Nat.le_of_ble_eq_true rfl) dX7_isFound_38 (fun r_38 q_38 => ?_)
            subst q_38
            refine wa_aload_n hX dX7_isFound_41 rfl ?_
            refine wa_iload_n hX dX7_isFound_42 rfl ?_
            refine wa_iload_n hX dX7_isFound_43 rfl ?_
            refine wa_vP hX (tX7_known I hM hV (show h < 6 by omega) hlt) bX7_known mX7_122 (by decide) (by decide) (ci := 6) ⟨by decide, rfl⟩ (by assumption) rfl rfl (Nat.le_of_ble_eq_true rfl) dX7_isFound_44 (fun r_44 q_44 => ?_)
            subst q_44
            have a1 := (hV.2.2.2.2.2 i hi6 k hlt).2
            have a2 := (hV.2.2.2.2.2 h (by omega) k hlt).2
            refine wa_icmp_eq (tgt := 52) hX dX7_isFound_47 (by decide) (fun c_47 => ?_) (fun c_47 => ?_)
            · skip
              have c2 := eq_of_nI c_47 (by omega) (by omega)
              refine wa_iinc hX dX7_isFound_52 rfl (inc1 _) (by decide) ?_
              refine wa_goto (tgt := 21) hX dX7_isFound_55 (by decide) ?_
              refine wx_sub (l' := [(0, _), (1, _), (2, _), (3, _)]) ⟨rfl, rfl, rfl, rfl, trivial⟩ ?_
              exact ih (k + 1) (by omega) (by rw [c1] at ea; exact fnd_s c1 ea c2)
            · skip
              have c2 := ne_of_nI c_47
              refine wa_iconst (v := nI 0) hX dX7_isFound_50 (by decide) ?_
              exact hret _ _ _ _ _ ⟨(by rw [show fndV (aSus S) (aKn S) h = false from allB_f hi6 (by rw [allB_f (p := fun k => decide (aKn S i k = aKn S h k)) hlt (by simp [c2]), c1]; rfl)]; rfl), rfl, rfl⟩ dX7_isFound_51
      refine wa_iload_n hX dX7_isFound_13 rfl ?_
      refine wa_bipush (v := nI 6) hX dX7_isFound_14 (by decide) ?_
      refine wa_icmp_ge (tgt := 64) hX dX7_isFound_16 (by decide) (fun c_16 => absurd c_16 (nI_ge hi6 (by decide))) (fun c_16 => ?_)
      refine wa_iconst (v := nI 0) hX dX7_isFound_19 (by decide) ?_
      refine wa_istore_n hX dX7_isFound_20 (by decide) ?_
      exact li 16 0 (by omega) (by simp [allB])
  refine wa_aload_n hX dX7_isFound_0 rfl ?_
  refine wa_getR hX fX7_7 rfl (by assumption) (by assumption) dX7_isFound_1 ?_
  refine wa_sipush (v := nI 415) hX dX7_isFound_4 (by decide) ?_
  refine wa_iald hX (by assumption) rfl (show 415 < 514 by decide) (by decide) dX7_isFound_7 ?_
  rw [hI4]
  refine wa_iconst (v := nI 1) hX dX7_isFound_8 (by decide) ?_
  refine wa_isub hX dX7_isFound_9 ?_
  rw [show nI (h + 1) - nI 1 = nI h from nI_pred h]
  refine wa_istore_n hX dX7_isFound_10 (by decide) ?_
  refine wa_iconst (v := nI 0) hX dX7_isFound_11 (by decide) ?_
  refine wa_istore_n hX dX7_isFound_12 (by decide) ?_
  exact lp 6 0 (by omega) rfl

