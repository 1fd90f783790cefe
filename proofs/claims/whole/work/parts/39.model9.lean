/-! PileMapsModel: swaps, lift, hide, ask, the text; the class's text -/
def swG {α : Type} (f : Nat → α) (a b : Nat) : Nat → α := fun l => if l = a then f b else if l = b then f a else f l
theorem swG_u {α : Type} (f : Nat → α) (a : Nat) : swG f a (a + 1) = swF f a := rfl
theorem swG_d {α : Type} (f : Nat → α) (a : Nat) : swG f (a + 1) a = swF f a := by
  funext l
  by_cases e1 : l = a
  · subst e1
    simp [swG, swF]
  · by_cases e2 : l = a + 1
    · subst e2; simp [swG, swF]
    · simp [swG, swF, e1, e2]
/-- the first i places at b1 and at b2 are exchanged -/
def sgR (b1 b2 i : Nat) (f : Nat → Int32) : Nat → Int32 := fun x => if b1 ≤ x ∧ x < b1 + i then f (b2 + (x - b1)) else if b2 ≤ x ∧ x < b2 + i then f (b1 + (x - b2)) else f x
theorem sg_0 (b1 b2 : Nat) (f : Nat → Int32) : sgR b1 b2 0 f = f := by
  funext x
  unfold sgR
  rw [if_neg (by omega), if_neg (by omega)]
theorem sg_1 {b1 b2 i x : Nat} {f : Nat → Int32} (h : x < i) : sgR b1 b2 i f (b1 + x) = f (b2 + x) := by
  unfold sgR
  rw [if_pos ⟨by omega, by omega⟩, Nat.add_sub_cancel_left]
theorem sg_2 {b1 b2 i x : Nat} {f : Nat → Int32} (hd : b1 + 16 ≤ b2 ∨ b2 + 16 ≤ b1) (hi : i ≤ 16) (h : x < i) : sgR b1 b2 i f (b2 + x) = f (b1 + x) := by
  unfold sgR
  rw [if_neg (by omega), if_pos ⟨by omega, by omega⟩, Nat.add_sub_cancel_left]
theorem sg_o {b1 b2 i x : Nat} {f : Nat → Int32} (h1 : x < b1 ∨ b1 + i ≤ x) (h2 : x < b2 ∨ b2 + i ≤ x) : sgR b1 b2 i f x = f x := by
  unfold sgR
  rw [if_neg (by omega), if_neg (by omega)]
theorem sg_s {b1 b2 i : Nat} {f : Nat → Int32} (hd : b1 + 16 ≤ b2 ∨ b2 + 16 ≤ b1) (hi : i < 16) : upd (upd (sgR b1 b2 i f) (b1 + i) (f (b2 + i))) (b2 + i) (f (b1 + i)) = sgR b1 b2 (i + 1) f := by
  funext x
  by_cases e2 : x = b2 + i
  · subst e2
    rw [sg_2 hd (by omega) (by omega)]
    exact if_pos rfl
  · have h1 : ∀ g : Nat → Int32, upd g (b2 + i) (f (b1 + i)) x = g x := fun g => if_neg e2
    rw [h1]
    by_cases e1 : x = b1 + i
    · subst e1
      rw [sg_1 (by omega)]
      exact if_pos rfl
    · have h2 : ∀ g : Nat → Int32, upd g (b1 + i) (f (b2 + i)) x = g x := fun g => if_neg e1
      rw [h2]
      unfold sgR
      by_cases c1 : b1 ≤ x ∧ x < b1 + i
      · rw [if_pos c1, if_pos (show b1 ≤ x ∧ x < b1 + (i + 1) by omega)]
      · rw [if_neg c1, if_neg (show ¬ (b1 ≤ x ∧ x < b1 + (i + 1)) by omega)]
        by_cases c2 : b2 ≤ x ∧ x < b2 + i
        · rw [if_pos c2, if_pos (show b2 ≤ x ∧ x < b2 + (i + 1) by omega)]
        · rw [if_neg c2, if_neg (show ¬ (b2 ≤ x ∧ x < b2 + (i + 1)) by omega)]
theorem u2_sg {I : IM} {a b1 b2 i : Nat} {f : Nat → Int32} (hd : b1 + 16 ≤ b2 ∨ b2 + 16 ≤ b1) (hi : i < 16) : u2 (u2 (uR I a (sgR b1 b2 i f)) a (b1 + i) (f (b2 + i))) a (b2 + i) (f (b1 + i)) = uR I a (sgR b1 b2 (i + 1) f) := by
  funext b
  by_cases e : b = a
  · subst e
    rw [u2_a, u2_a, uR_s, uR_s, sg_s hd hi]
  · rw [u2_n e, u2_n e, uR_n e, uR_n e]
set_option maxHeartbeats 4000000 in
set_option maxRecDepth 100000 in
theorem tX7_swaps {l : Launch} {D : va_G} {A : Nat → Prop} {N : Nat} {Sh : SM} {J : JM} (I : IM) {Q : Nat} (hM : MM Sh J Q) {S : AS} (hV : VF (I (Q + 1)) S) {m la lb : Nat} (hm : m < 6) (hla : la < 4) (hlb : lb < 4) (hne : la ≠ lb) : CtW l D A yX7_swaps cX7_swaps 6 1 N Sh I J [.ref Q, .int (nI m), .int (nI la), .int (nI lb)] (fun I' => VF (I' (Q + 1)) (sM S m (aH S m) (swG (aO S m) la lb) (swG (aE S m) la lb)) ∧ Fr (Q + 1) 1 I I') := by
  refine ct_V (l0 := [(0, .ref Q), (1, .int (nI m)), (2, .int (nI la)), (3, .int (nI lb))]) (by decide +kernel) (Nat.le_of_ble_eq_true rfl) rfl ?_
  intro X hX hret _ _ _
  have hX : XK X RX7 cX7_swaps 6 1 := hX
  obtain ⟨q0, ⟨qj0, qj1, qj3, qj5, qj6, qj8, qj12, qj13, qj14, qj15, qj16, qj18, qj19⟩, ⟨qs1, qs2, qs3, qs4, qs5, qs6, qs7, qs8, qs9, qs10, qs11, qs12, qs13⟩⟩ := id hM
  have hd : 16 * (4 * m + la) + 16 ≤ 16 * (4 * m + lb) ∨ 16 * (4 * m + lb) + 16 ≤ 16 * (4 * m + la) := by omega
  have lp : ∀ (n i : Nat), i + n = 16 → WX X 0 0 N Sh (uR I (Q + 1) (sgR (16 * (4 * m + la)) (16 * (4 * m + lb)) i (I (Q + 1)))) J 3 [(0, .ref Q), (1, .int (nI m)), (2, .int (nI la)), (3, .int (nI lb)), (4, .int (nI i))] [] := by
    intro n
    induction n with
    | zero =>
      intro i  hi
      obtain rfl : 16 = i := by omega
      refine wa_iload hX dX7_swaps_3 rfl ?_
      refine wa_bipush (v := nI 16) hX dX7_swaps_5 (by decide) ?_
      refine wa_icmp_ge (tgt := 68) hX dX7_swaps_7 (by decide) (fun c_7 => ?_) (fun c_7 => absurd (Int32.le_refl _) c_7)
      refine wa_aload_n hX dX7_swaps_68 rfl ?_
      refine wa_getR hX fX7_7 rfl (by assumption) (by assumption) dX7_swaps_69 ?_
      refine wa_sipush (v := nI 384) hX dX7_swaps_72 (by decide) ?_
      refine wa_iconst (v := nI 4) hX dX7_swaps_75 (by decide) ?_
      refine wa_iload_n hX dX7_swaps_76 rfl ?_
      refine wa_imul hX dX7_swaps_77 ?_
      refine wa_iadd hX dX7_swaps_78 ?_
      refine wa_iload_n hX dX7_swaps_79 rfl ?_
      refine wa_iadd hX dX7_swaps_80 ?_
      refine wa_iald hX (by assumption) (ixo m la) (show 384 + 4 * m + la < 514 by omega) (by decide) dX7_swaps_81 ?_
      rw [uR_s, sg_o (by omega) (by omega), (hV.1 m hm).2.1 la hla]
      refine wa_istore hX dX7_swaps_82 (by decide) ?_
      refine wa_aload_n hX dX7_swaps_84 rfl ?_
      refine wa_getR hX fX7_7 rfl (by assumption) (by assumption) dX7_swaps_85 ?_
      refine wa_sipush (v := nI 384) hX dX7_swaps_88 (by decide) ?_
      refine wa_iconst (v := nI 4) hX dX7_swaps_91 (by decide) ?_
      refine wa_iload_n hX dX7_swaps_92 rfl ?_
      refine wa_imul hX dX7_swaps_93 ?_
      refine wa_iadd hX dX7_swaps_94 ?_
      refine wa_iload_n hX dX7_swaps_95 rfl ?_
      refine wa_iadd hX dX7_swaps_96 ?_
      refine wa_aload_n hX dX7_swaps_97 rfl ?_
      refine wa_getR hX fX7_7 rfl (by assumption) (by assumption) dX7_swaps_98 ?_
      refine wa_sipush (v := nI 384) hX dX7_swaps_101 (by decide) ?_
      refine wa_iconst (v := nI 4) hX dX7_swaps_104 (by decide) ?_
      refine wa_iload_n hX dX7_swaps_105 rfl ?_
      refine wa_imul hX dX7_swaps_106 ?_
      refine wa_iadd hX dX7_swaps_107 ?_
      refine wa_iload_n hX dX7_swaps_108 rfl ?_
      refine wa_iadd hX dX7_swaps_109 ?_
      refine wa_iald hX (by assumption) (ixo m lb) (show 384 + 4 * m + lb < 514 by omega) (by decide) dX7_swaps_110 ?_
      rw [uR_s, sg_o (by omega) (by omega), (hV.1 m hm).2.1 lb hlb]
      refine wa_iast hX (by assumption) (ixo m la) (show 384 + 4 * m + la < 514 by omega) (by decide) dX7_swaps_111 ?_
      refine wa_aload_n hX dX7_swaps_112 rfl ?_
      refine wa_getR hX fX7_7 rfl (by assumption) (by assumption) dX7_swaps_113 ?_
      refine wa_sipush (v := nI 384) hX dX7_swaps_116 (by decide) ?_
      refine wa_iconst (v := nI 4) hX dX7_swaps_119 (by decide) ?_
      refine wa_iload_n hX dX7_swaps_120 rfl ?_
      refine wa_imul hX dX7_swaps_121 ?_
      refine wa_iadd hX dX7_swaps_122 ?_
      refine wa_iload_n hX dX7_swaps_123 rfl ?_
      refine wa_iadd hX dX7_swaps_124 ?_
      refine wa_iload hX dX7_swaps_125 rfl ?_
      refine wa_iast hX (by assumption) (ixo m lb) (show 384 + 4 * m + lb < 514 by omega) (by decide) dX7_swaps_127 ?_
      refine hret _ _ _ _ ⟨⟨?_, Fr.tr (Fr.uR (Nat.le_refl _) (by omega)) (Fr.tr (Fr.u2 (Nat.le_refl _) (by omega)) (Fr.u2 (Nat.le_refl _) (by omega)))⟩, rfl⟩ dX7_swaps_128
      rw [u2_a, u2_a, uR_s]
      have o1 : ∀ g : Nat → Int32, ∀ x, x ≠ 384 + 4 * m + lb → upd g (384 + 4 * m + lb) (bI (aO S m la)) x = g x := fun g x hx => if_neg hx
      have o2 : ∀ g : Nat → Int32, ∀ x, x ≠ 384 + 4 * m + la → upd g (384 + 4 * m + la) (bI (aO S m lb)) x = g x := fun g x hx => if_neg hx
      refine hV.sM hm (hV.1 m hm).1.1 ?_ (fun l hl => ?_) (fun l hl k hk => ?_) (fun x hx n1 n2 n3 => ?_)
      · rw [o1 _ _ (by omega), o2 _ _ (by omega), sg_o (by omega) (by omega)]; exact (hV.1 m hm).1.2
      · by_cases e2 : l = lb
        · subst e2; simp only [swG, if_neg (Ne.symm hne), ↓reduceIte]; exact if_pos rfl
        · rw [o1 _ _ (by omega)]
          by_cases e1 : l = la
          · subst e1; simp only [swG, ↓reduceIte]; exact if_pos rfl
          · rw [o2 _ _ (by omega), sg_o (by omega) (by omega), (hV.1 m hm).2.1 l hl]; simp only [swG, if_neg e1, if_neg e2]
      · rw [o1 _ _ (by omega), o2 _ _ (by omega)]
        by_cases e1 : l = la
        · subst e1; rw [sg_1 hk]; simp only [swG, ↓reduceIte]; exact (hV.1 m hm).2.2 lb hlb k hk
        · by_cases e2 : l = lb
          · subst e2; rw [sg_2 hd (by decide) hk]; simp only [swG, if_neg e1, ↓reduceIte]; exact (hV.1 m hm).2.2 la hla k hk
          · rw [sg_o (by omega) (by omega)]; simp only [swG, if_neg e1, if_neg e2]; exact (hV.1 m hm).2.2 l hl k hk
      · rw [o1 _ _ (by omega), o2 _ _ (by omega), sg_o (by omega) (by omega)]
    | succ n ih =>
      intro i  hi
      have hlt : i < 16 := by omega
      refine wa_iload hX dX7_swaps_3 rfl ?_
      refine wa_bipush (v := nI 16) hX dX7_swaps_5 (by decide) ?_
      refine wa_icmp_ge (tgt := 68) hX dX7_swaps_7 (by decide) (fun c_7 => absurd c_7 (nI_ge hlt (by decide))) (fun c_7 => ?_)
      refine wa_aload_n hX dX7_swaps_10 rfl ?_
      refine wa_getR hX fX7_7 rfl (by assumption) (by assumption) dX7_swaps_11 ?_
      refine wa_iload_n hX dX7_swaps_14 rfl ?_
      refine wa_iload_n hX dX7_swaps_15 rfl ?_
      refine wa_iload hX dX7_swaps_16 rfl ?_
      refine wa_sP hX (tX7_cell _ m la i) bX7_cell mX7_67 (by decide) (by decide) rfl rfl (Nat.le_of_ble_eq_true rfl) dX7_swaps_18 (fun r_18 q_18 => ?_)
      subst q_18
      refine wa_iald hX (by assumption) rfl (show 16 * (4 * m + la) + i < 514 by omega) (by decide) dX7_swaps_21 ?_
      rw [uR_s, sg_o (x := 16 * (4 * m + la) + i) (by omega) (by omega)]
      refine wa_istore hX dX7_swaps_22 (by decide) ?_
      refine wa_aload_n hX dX7_swaps_24 rfl ?_
      refine wa_getR hX fX7_7 rfl (by assumption) (by assumption) dX7_swaps_25 ?_
      refine wa_iload_n hX dX7_swaps_28 rfl ?_
      refine wa_iload_n hX dX7_swaps_29 rfl ?_
      refine wa_iload hX dX7_swaps_30 rfl ?_
      refine wa_sP hX (tX7_cell _ m la i) bX7_cell mX7_67 (by decide) (by decide) rfl rfl (Nat.le_of_ble_eq_true rfl) dX7_swaps_32 (fun r_32 q_32 => ?_)
      subst q_32
      refine wa_aload_n hX dX7_swaps_35 rfl ?_
      refine wa_getR hX fX7_7 rfl (by assumption) (by assumption) dX7_swaps_36 ?_
      refine wa_iload_n hX dX7_swaps_39 rfl ?_
      refine wa_iload_n hX dX7_swaps_40 rfl ?_
      refine wa_iload hX dX7_swaps_41 rfl ?_
      refine wa_sP hX (tX7_cell _ m lb i) bX7_cell mX7_67 (by decide) (by decide) rfl rfl (Nat.le_of_ble_eq_true rfl) dX7_swaps_43 (fun r_43 q_43 => ?_)
      subst q_43
      refine wa_iald hX (by assumption) rfl (show 16 * (4 * m + lb) + i < 514 by omega) (by decide) dX7_swaps_46 ?_
      rw [uR_s, sg_o (x := 16 * (4 * m + lb) + i) (by omega) (by omega)]
      refine wa_iast hX (by assumption) rfl (show 16 * (4 * m + la) + i < 514 by omega) (by decide) dX7_swaps_47 ?_
      refine wa_aload_n hX dX7_swaps_48 rfl ?_
      refine wa_getR hX fX7_7 rfl (by assumption) (by assumption) dX7_swaps_49 ?_
      refine wa_iload_n hX dX7_swaps_52 rfl ?_
      refine wa_iload_n hX dX7_swaps_53 rfl ?_
      refine wa_iload hX dX7_swaps_54 rfl ?_
      refine wa_sP hX (tX7_cell _ m lb i) bX7_cell mX7_67 (by decide) (by decide) rfl rfl (Nat.le_of_ble_eq_true rfl) dX7_swaps_56 (fun r_56 q_56 => ?_)
      subst q_56
      refine wa_iload hX dX7_swaps_59 rfl ?_
      refine wa_iast hX (by assumption) rfl (show 16 * (4 * m + lb) + i < 514 by omega) (by decide) dX7_swaps_61 ?_
      refine wa_iinc hX dX7_swaps_62 rfl (inc1 _) (by decide) ?_
      refine wa_goto (tgt := 3) hX dX7_swaps_65 (by decide) ?_
      refine wx_sub (l' := [(0, _), (1, _), (2, _), (3, _), (4, _)]) ⟨rfl, rfl, rfl, rfl, rfl, trivial⟩ ?_
      rw [u2_sg hd hlt]
      exact ih (i + 1) (by omega)
  refine wa_iconst (v := nI 0) hX dX7_swaps_0 (by decide) ?_
  refine wa_istore hX dX7_swaps_1 (by decide) ?_
  have e0 : I = (uR I (Q + 1) (sgR (16 * (4 * m + la)) (16 * (4 * m + lb)) 0 (I (Q + 1)))) := by rw [sg_0, uR_self]
  rw (occs := .pos [1]) [e0]
  exact lp 16 0 (by omega)

theorem upF_id {α : Type} {f : Nat → α} {m : Nat} : upF f m (f m) = f := by
  funext j
  by_cases e : j = m
  · subst e; simp [upF]
  · simp [upF, e]
set_option maxHeartbeats 4000000 in
set_option maxRecDepth 100000 in
theorem tX7_lift {l : Launch} {D : va_G} {A : Nat → Prop} {N : Nat} {Sh : SM} {J : JM} (I : IM) {Q : Nat} {F : FS} (hG : MV Sh I J Q F) (x y z : Int32) : CtM l D A yX7_lift cX7_lift 6 FieldType.int 4 N Sh I J [.ref Q, .int x, .int y, .int z] (fun r I' => AM Sh I J Q (liftF F x y z) r I') := by
  refine ct_I (l0 := [(0, .ref Q), (1, .int x), (2, .int y), (3, .int z)]) (by decide +kernel) (Nat.le_of_ble_eq_true rfl) rfl (fun _ _ _ _ => rfl) ?_
  intro X hX hret _ _ _
  have hX : XK X RX7 cX7_lift 6 4 := hX
  obtain ⟨hM, hV, ⟨hc1, hc2⟩, hp, hkk, hT⟩ := id hG
  obtain ⟨q0, ⟨qj0, qj1, qj3, qj5, qj6, qj8, qj12, qj13, qj14, qj15, qj16, qj18, qj19⟩, ⟨qs1, qs2, qs3, qs4, qs5, qs6, qs7, qs8, qs9, qs10, qs11, qs12, qs13⟩⟩ := id hM
  refine wa_aload_n hX dX7_lift_0 rfl ?_
  refine wa_iload_n hX dX7_lift_1 rfl ?_
  refine wa_iload_n hX dX7_lift_2 rfl ?_
  refine wa_vP hX (tX7_noLayer I hM hV x y) bX7_noLayer mX7_91 (by decide) (by decide) (ci := 6) ⟨by decide, rfl⟩ (by first | exact hM.1 | assumption) rfl rfl (Nat.le_of_ble_eq_true rfl) dX7_lift_3 (fun r_3 q_3 => ?_)
  subst q_3
  refine wa_if_eq (tgt := 11) hX dX7_lift_6 (by decide) (fun c_6 => ?_) (fun c_6 => ?_)
  · skip
    have n_6 : layB (gN F) x y = true := by have := bI_0.mp c_6; simpa using this
    obtain ⟨m, la, hm, hla, em, el⟩ := layB_t (fun m hm => (hV.1 m hm).1.1) n_6
    subst em
    subst el
    have h4 := (hV.1 m hm).1.1
    refine wa_iload_n hX dX7_lift_11 rfl ?_
    refine wa_iconst (v := nI 0) hX dX7_lift_12 (by decide) ?_
    refine wa_aload_n hX dX7_lift_13 rfl ?_
    refine wa_getR hX fX7_7 rfl (by assumption) (by assumption) dX7_lift_14 ?_
    refine wa_sipush (v := nI 408) hX dX7_lift_17 (by decide) ?_
    refine wa_iload_n hX dX7_lift_20 rfl ?_
    refine wa_iadd hX dX7_lift_21 ?_
    refine wa_iald hX (by assumption) (nI_add 408 m) (show 408 + m < 514 by omega) (by decide) dX7_lift_22 ?_
    rw [(hV.1 m hm).1.2]
    refine wa_iconst (v := nI 1) hX dX7_lift_23 (by decide) ?_
    refine wa_isub hX dX7_lift_24 ?_
    rw [sub1]
    refine wa_sP hX (tX7_in I z (nI 0) (nI (aH (gN F) m) + Int32.ofInt (-1))) bX7_in mX7_51 (by decide) (by decide) rfl rfl (Nat.le_of_ble_eq_true rfl) dX7_lift_25 (fun r_25 q_25 => ?_)
    rw [inR_M z (by omega)] at q_25
    subst q_25
    refine wa_if_ne (tgt := 34) hX dX7_lift_28 (by decide) (fun c_28 => ?_) (fun c_28 => ?_)
    · skip
      obtain ⟨pl, hpl, ep⟩ := inB_t (by omega) (bI_n0.mp c_28)
      subst ep
      refine wa_iload_n hX dX7_lift_34 rfl ?_
      refine wa_iload_n hX dX7_lift_35 rfl ?_
      refine wa_icmp_ne (tgt := 42) hX dX7_lift_36 (by decide) (fun c_36 => ?_) (fun c_36 => ?_)
      · skip
        have c1 : la ≠ pl := fun e => (ne_of_nI c_36) e.symm
        refine wa_aload_n hX dX7_lift_42 rfl ?_
        refine wa_vW hX (tX7_record I hG) bX7_record mX7_88 (by decide) (by decide) (ci := 6) ⟨by decide, rfl⟩ (by first | exact hM.1 | assumption) rfl rfl (Nat.le_of_ble_eq_true rfl) dX7_lift_43 (fun I_43 q_43 => ?_)
        obtain ⟨hG1, hF1, hq1, hn1⟩ := q_43
        have hV1 : VF (I_43 (Q + 1)) (gN F) := hG1.2.1
        refine wa_aload_n hX dX7_lift_46 rfl ?_
        refine wa_iload_n hX dX7_lift_47 rfl ?_
        refine wa_vW hX (tX7_remembers _ hM hV1 hm) bX7_remembers mX7_94 (by decide) (by decide) (ci := 6) ⟨by decide, rfl⟩ (by first | exact hM.1 | assumption) rfl rfl (Nat.le_of_ble_eq_true rfl) dX7_lift_48 (fun I_48 q_48 => ?_)
        subst q_48
        refine wa_iload_n hX dX7_lift_51 rfl ?_
        refine wa_istore hX dX7_lift_52 (by decide) ?_
        refine wx_sub (l' := [(0, _), (1, _), (2, _), (3, _), (4, _)]) ⟨rfl, rfl, rfl, rfl, rfl, trivial⟩ ?_
        have lu : ∀ (n t : Nat), la + t + n = pl → ∀ (I2 : IM), VF (I2 (Q + 1)) (sM (gN F) m (aH (gN F) m) (mvU (aO (gN F) m) la t) (mvU (aE (gN F) m) la t)) → (∀ b, b ≠ Q + 1 → I2 b = (uR I_43 (Q + 4) (rowN 16 (fun k => nI (aV (gN F) m k)) (I_43 (Q + 4)))) b) → WX X 0 0 N Sh I2 J 54 [(0, .ref Q), (1, .int (nI m)), (2, .int (nI la)), (3, .int (nI pl)), (4, .int (nI (la + t)))] [] := by
          intro n
          induction n with
          | zero =>
            intro t ht I2 hW hK0
            have hK : ∀ b, b ≠ Q + 1 → b ≠ Q + 4 → I2 b = I_43 b := fun b h1 h2 => by rw [hK0 b h1]; exact uR_n h2
            have hB : ∀ k, k < 16 → I2 (Q + 4) k = nI (aV (gN F) m k) ∧ aV (gN F) m k ≤ 16 := fun k hk => ⟨by rw [hK0 (Q + 4) (by omega), uR_s, rowN_in hk], hV1.val hm hk⟩
            refine wa_iload hX dX7_lift_54 rfl ?_
            refine wa_iload_n hX dX7_lift_56 rfl ?_
            refine wa_icmp_eq (tgt := 95) hX dX7_lift_57 (by decide) (fun c_57 => ?_) (fun c_57 => absurd (by rw [show la + t = pl by omega]) c_57)
            refine wa_aload_n hX dX7_lift_95 rfl ?_
            refine wa_iload_n hX dX7_lift_96 rfl ?_
            refine wa_vP hX (tX7_changed _ hM hW (w := aV (gN F) m) hm hB) bX7_changed mX7_98 (by decide) (by decide) (ci := 6) ⟨by decide, rfl⟩ (by first | exact hM.1 | assumption) rfl rfl (Nat.le_of_ble_eq_true rfl) dX7_lift_97 (fun r_97 q_97 => ?_)
            rw [aV_sM] at q_97
            refine hret _ _ _ _ _ ⟨?_, rfl⟩ dX7_lift_100
            unfold liftF
            rw [onAL_t hm hla h4, onA_in hpl (by omega), if_neg c1]
            rw [mvF_u (f := aO (gN F) m) (show la ≤ pl by omega), mvF_u (f := aE (gN F) m) (show la ≤ pl by omega), show pl - la = t by omega]
            exact ⟨q_97, hG1.now hW (fun b hb => hK b (by omega) (by omega)), fun b hb => (hK b (by omega) (by omega)).trans (hF1 b (by omega))⟩
          | succ n ih =>
            intro t ht I2 hW hK
            refine wa_iload hX dX7_lift_54 rfl ?_
            refine wa_iload_n hX dX7_lift_56 rfl ?_
            refine wa_icmp_eq (tgt := 95) hX dX7_lift_57 (by decide) (fun c_57 => absurd c_57 (nI_ne (show la + t ≠ pl by omega) (by omega) (by omega))) (fun c_57 => ?_)
            refine wa_iload hX dX7_lift_60 rfl ?_
            refine wa_iload_n hX dX7_lift_62 rfl ?_
            refine wa_icmp_ge (tgt := 73) hX dX7_lift_63 (by decide) (fun c_63 => absurd c_63 (nI_ge (show la + t < pl by omega) (by omega))) (fun c_63 => ?_)
            refine wa_iload hX dX7_lift_66 rfl ?_
            refine wa_iconst (v := nI 1) hX dX7_lift_68 (by decide) ?_
            refine wa_iadd hX dX7_lift_69 ?_
            refine wa_goto (tgt := 77) hX dX7_lift_70 (by decide) ?_
            rw [show nI (la + t) + nI 1 = nI (la + t + 1) from nI_add _ 1]
            refine wa_istore hX dX7_lift_77 (by decide) ?_
            refine wa_aload_n hX dX7_lift_79 rfl ?_
            refine wa_iload_n hX dX7_lift_80 rfl ?_
            refine wa_iload hX dX7_lift_81 rfl ?_
            refine wa_iload hX dX7_lift_83 rfl ?_
            refine wa_vW hX (tX7_swaps _ hM hW hm (la := la + t) (lb := la + t + 1) (by omega) (by omega) (by omega)) bX7_swaps mX7_102 (by decide) (by decide) (ci := 6) ⟨by decide, rfl⟩ (by first | exact hM.1 | assumption) rfl rfl (Nat.le_of_ble_eq_true rfl) dX7_lift_85 (fun I_85 q_85 => ?_)
            obtain ⟨w1, w2⟩ := q_85
            rw [aH_sM, aO_sM, aE_sM, sM_sM] at w1
            rw [swG_u, swG_u] at w1
            refine wa_iload hX dX7_lift_88 rfl ?_
            refine wa_istore hX dX7_lift_90 (by decide) ?_
            refine wa_goto (tgt := 54) hX dX7_lift_92 (by decide) ?_
            refine wx_sub (l' := [(0, _), (1, _), (2, _), (3, _), (4, _)]) ⟨rfl, rfl, rfl, rfl, rfl, trivial⟩ ?_
            exact ih (t + 1) (by omega) _ w1 (fun b hb => (w2.n (by omega)).trans (hK b hb))
        have ld : ∀ (n t : Nat), pl + n + t = la → ∀ (I2 : IM), VF (I2 (Q + 1)) (sM (gN F) m (aH (gN F) m) (mvD (aO (gN F) m) la t) (mvD (aE (gN F) m) la t)) → (∀ b, b ≠ Q + 1 → I2 b = (uR I_43 (Q + 4) (rowN 16 (fun k => nI (aV (gN F) m k)) (I_43 (Q + 4)))) b) → WX X 0 0 N Sh I2 J 54 [(0, .ref Q), (1, .int (nI m)), (2, .int (nI la)), (3, .int (nI pl)), (4, .int (nI (la - t)))] [] := by
          intro n
          induction n with
          | zero =>
            intro t ht I2 hW hK0
            have hK : ∀ b, b ≠ Q + 1 → b ≠ Q + 4 → I2 b = I_43 b := fun b h1 h2 => by rw [hK0 b h1]; exact uR_n h2
            have hB : ∀ k, k < 16 → I2 (Q + 4) k = nI (aV (gN F) m k) ∧ aV (gN F) m k ≤ 16 := fun k hk => ⟨by rw [hK0 (Q + 4) (by omega), uR_s, rowN_in hk], hV1.val hm hk⟩
            refine wa_iload hX dX7_lift_54 rfl ?_
            refine wa_iload_n hX dX7_lift_56 rfl ?_
            refine wa_icmp_eq (tgt := 95) hX dX7_lift_57 (by decide) (fun c_57 => ?_) (fun c_57 => absurd (by rw [show la - t = pl by omega]) c_57)
            refine wa_aload_n hX dX7_lift_95 rfl ?_
            refine wa_iload_n hX dX7_lift_96 rfl ?_
            refine wa_vP hX (tX7_changed _ hM hW (w := aV (gN F) m) hm hB) bX7_changed mX7_98 (by decide) (by decide) (ci := 6) ⟨by decide, rfl⟩ (by first | exact hM.1 | assumption) rfl rfl (Nat.le_of_ble_eq_true rfl) dX7_lift_97 (fun r_97 q_97 => ?_)
            rw [aV_sM] at q_97
            refine hret _ _ _ _ _ ⟨?_, rfl⟩ dX7_lift_100
            unfold liftF
            rw [onAL_t hm hla h4, onA_in hpl (by omega), if_neg c1]
            rw [mvF_d (f := aO (gN F) m) (show pl ≤ la by omega), mvF_d (f := aE (gN F) m) (show pl ≤ la by omega), show la - pl = t by omega]
            exact ⟨q_97, hG1.now hW (fun b hb => hK b (by omega) (by omega)), fun b hb => (hK b (by omega) (by omega)).trans (hF1 b (by omega))⟩
          | succ n ih =>
            intro t ht I2 hW hK
            refine wa_iload hX dX7_lift_54 rfl ?_
            refine wa_iload_n hX dX7_lift_56 rfl ?_
            refine wa_icmp_eq (tgt := 95) hX dX7_lift_57 (by decide) (fun c_57 => absurd c_57 (nI_ne (show la - t ≠ pl by omega) (by omega) (by omega))) (fun c_57 => ?_)
            refine wa_iload hX dX7_lift_60 rfl ?_
            refine wa_iload_n hX dX7_lift_62 rfl ?_
            refine wa_icmp_ge (tgt := 73) hX dX7_lift_63 (by decide) (fun c_63 => ?_) (fun c_63 => absurd (nI_le (show pl ≤ la - t by omega) (by omega)) c_63)
            refine wa_iload hX dX7_lift_73 rfl ?_
            refine wa_iconst (v := nI 1) hX dX7_lift_75 (by decide) ?_
            refine wa_isub hX dX7_lift_76 ?_
            rw [show nI (la - t) - nI 1 = nI (la - t - 1) from pk_sub (by omega)]
            refine wa_istore hX dX7_lift_77 (by decide) ?_
            refine wa_aload_n hX dX7_lift_79 rfl ?_
            refine wa_iload_n hX dX7_lift_80 rfl ?_
            refine wa_iload hX dX7_lift_81 rfl ?_
            refine wa_iload hX dX7_lift_83 rfl ?_
            refine wa_vW hX (tX7_swaps _ hM hW hm (la := la - t) (lb := la - t - 1) (by omega) (by omega) (by omega)) bX7_swaps mX7_102 (by decide) (by decide) (ci := 6) ⟨by decide, rfl⟩ (by first | exact hM.1 | assumption) rfl rfl (Nat.le_of_ble_eq_true rfl) dX7_lift_85 (fun I_85 q_85 => ?_)
            obtain ⟨w1, w2⟩ := q_85
            rw [aH_sM, aO_sM, aE_sM, sM_sM] at w1
            have e7 : la - t = la - t - 1 + 1 := by omega
            have w1 : VF (I_85 (Q + 1)) (sM (gN F) m (aH (gN F) m) (swF (mvD (aO (gN F) m) la t) (la - t - 1)) (swF (mvD (aE (gN F) m) la t) (la - t - 1))) := by
              rw [← swG_d, ← swG_d, ← e7]
              exact w1
            refine wa_iload hX dX7_lift_88 rfl ?_
            refine wa_istore hX dX7_lift_90 (by decide) ?_
            refine wa_goto (tgt := 54) hX dX7_lift_92 (by decide) ?_
            refine wx_sub (l' := [(0, _), (1, _), (2, _), (3, _), (4, _)]) ⟨rfl, rfl, rfl, rfl, rfl, trivial⟩ ?_
            exact ih (t + 1) (by omega) _ w1 (fun b hb => (w2.n (by omega)).trans (hK b hb))
        have hS0 : sM (gN F) m (aH (gN F) m) (aO (gN F) m) (aE (gN F) m) = gN F := by
          show ((upF (aH (gN F)) m (aH (gN F) m), upF (aO (gN F)) m (aO (gN F) m), upF (aE (gN F)) m (aE (gN F) m)), (gN F).2) = gN F
          rw [upF_id, upF_id, upF_id]
          rfl
        have hW0 : VF ((uR I_43 (Q + 4) (rowN 16 (fun k => nI (aV (gN F) m k)) (I_43 (Q + 4)))) (Q + 1)) (sM (gN F) m (aH (gN F) m) (aO (gN F) m) (aE (gN F) m)) := by rw [uR_n (by omega), hS0]; exact hV1
        rcases Nat.lt_or_ge la pl with hlt | hge
        · exact lu (pl - la) 0 (by omega) _ hW0 (fun _ _ => rfl)
        · exact ld (la - pl) 0 (by omega) _ hW0 (fun _ _ => rfl)
      · skip
        have c1 : la = pl := (eq_of_nI c_36 (by omega) (by omega)).symm
        refine wa_bipush (v := -5) hX dX7_lift_39 (by decide) ?_
        exact hret _ _ _ _ _ ⟨AM.no hG (c := -5) (by unfold liftF; rw [onAL_t hm hla h4, onA_in hpl (by omega), if_pos c1]) rfl, rfl⟩ dX7_lift_41
    · skip
      have n_28 := bI_0.mp c_28
      refine wa_bipush (v := -2) hX dX7_lift_31 (by decide) ?_
      exact hret _ _ _ _ _ ⟨AM.no hG (c := -2) (by unfold liftF; rw [onAL_t hm hla h4]; exact onA_out n_28) rfl, rfl⟩ dX7_lift_33
  · skip
    have n_6 : layB (gN F) x y = false := by have := bI_n0.mp c_6; simpa using this
    refine wa_iconst (v := -1) hX dX7_lift_9 (by decide) ?_
    exact hret _ _ _ _ _ ⟨AM.no hG (c := -1) (by unfold liftF; exact onAL_f n_6) rfl, rfl⟩ dX7_lift_10

