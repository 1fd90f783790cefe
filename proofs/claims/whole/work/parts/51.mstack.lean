/-! PileMapsModel: the stack of open brackets; joins, underlies, the signs behind a factor -/
def RLf (I : IM) (Q i : Nat) (x : RW × Option RW) : Prop := (∃ ho : Bool, I (Q + 9) i = bI ho ∧ (ho = true → ∀ k, k < 16 → I (Q + 8) (16 * i + k) = nI (x.1 k) ∧ x.1 k ≤ 16) ∧ (ho = false → x.1 = hol)) ∧ I (Q + 11) i = bI x.2.isSome ∧ ∀ w, x.2 = some w → ∀ k, k < 16 → I (Q + 10) (16 * i + k) = nI (w k) ∧ w k ≤ 16
def SKP (I : IM) (Q : Nat) : SK → Prop
  | [] => True
  | x :: rest => RLf I Q rest.length x ∧ SKP I Q rest
/-- a level of the stack is worked upon -/
def LFf (Q dd : Nat) (I I' : IM) : Prop := (∀ b, b < Q + 7 ∨ Q + 12 < b → I' b = I b) ∧ (∀ j, j ≠ dd → I' (Q + 9) j = I (Q + 9) j ∧ I' (Q + 11) j = I (Q + 11) j) ∧ ∀ j, j < 16 * dd ∨ 16 * dd + 16 ≤ j → I' (Q + 8) j = I (Q + 8) j ∧ I' (Q + 10) j = I (Q + 10) j
theorem LFf.tr {Q dd : Nat} {I I1 I2 : IM} (h1 : LFf Q dd I I1) (h2 : LFf Q dd I1 I2) : LFf Q dd I I2 :=
  ⟨fun b hb => (h2.1 b hb).trans (h1.1 b hb), fun j hj => ⟨(h2.2.1 j hj).1.trans (h1.2.1 j hj).1, (h2.2.1 j hj).2.trans (h1.2.1 j hj).2⟩, fun j hj => ⟨(h2.2.2 j hj).1.trans (h1.2.2 j hj).1, (h2.2.2 j hj).2.trans (h1.2.2 j hj).2⟩⟩
theorem RLf.cg {I I' : IM} {Q i : Nat} {x : RW × Option RW} (h : RLf I Q i x) (h1 : I' (Q + 9) i = I (Q + 9) i) (h2 : I' (Q + 11) i = I (Q + 11) i) (h3 : ∀ k, k < 16 → I' (Q + 8) (16 * i + k) = I (Q + 8) (16 * i + k)) (h4 : ∀ k, k < 16 → I' (Q + 10) (16 * i + k) = I (Q + 10) (16 * i + k)) : RLf I' Q i x := by
  obtain ⟨⟨ho, a1, a2, a3⟩, a4, a5⟩ := h
  exact ⟨⟨ho, by rw [h1]; exact a1, fun e k hk => by rw [h3 k hk]; exact a2 e k hk, a3⟩, by rw [h2]; exact a4, fun w hw k hk => by rw [h4 k hk]; exact a5 w hw k hk⟩
theorem RLf.lf {I I' : IM} {Q i dd : Nat} {x : RW × Option RW} (h : RLf I Q i x) (hF : LFf Q dd I I') (hi : i < dd) : RLf I' Q i x :=
  h.cg (hF.2.1 i (by omega)).1 (hF.2.1 i (by omega)).2 (fun k hk => (hF.2.2 _ (by omega)).1) (fun k hk => (hF.2.2 _ (by omega)).2)
theorem SKP.lf {I I' : IM} {Q dd : Nat} (hF : LFf Q dd I I') : ∀ {st : SK}, SKP I Q st → st.length ≤ dd → SKP I' Q st
  | [], _, _ => trivial
  | x :: rest, h, hl => ⟨h.1.lf hF (by simp at hl; omega), SKP.lf hF h.2 (by simp at hl; omega)⟩
theorem SKP.cg {I I' : IM} {Q : Nat} (h1 : I' (Q + 8) = I (Q + 8)) (h2 : I' (Q + 9) = I (Q + 9)) (h3 : I' (Q + 10) = I (Q + 10)) (h4 : I' (Q + 11) = I (Q + 11)) : ∀ {st : SK}, SKP I Q st → SKP I' Q st
  | [], _ => trivial
  | x :: rest, h => ⟨h.1.cg (by rw [h2]) (by rw [h4]) (fun k hk => by rw [h1]) (fun k hk => by rw [h3]), SKP.cg h1 h2 h3 h4 h.2⟩
theorem nar_0 : vp_nar .boolean (nI 0) = bI false := rfl
theorem uu_row {I : IM} {a b x y : Nat} {f g : Nat → Int32} {v w : Int32} (hne : a ≠ b) : u2 (u2 (uR (uR I a f) b g) a x v) b y w = uR (uR I a (upd f x v)) b (upd g y w) := by
  funext c
  by_cases e : c = b
  · subst e
    rw [u2_a, u2_n (Ne.symm hne), uR_s, uR_s]
  · rw [u2_n e, uR_n e]
    by_cases e2 : c = a
    · subst e2
      rw [u2_a, uR_n e, uR_s, uR_s]
    · rw [u2_n e2, uR_n e, uR_n e2, uR_n e2]
theorem uu_g {I : IM} {a b s i : Nat} {G f g : Nat → Int32} {v : Int32} (hne : a ≠ b) (h : v = G i) : u2 (u2 (uR (uR I a (segN s i G f)) b (rowN i G g)) a (s + i) v) b i v = uR (uR I a (segN s (i + 1) G f)) b (rowN (i + 1) G g) := by
  rw [uu_row hne, h, seg_s, rowN_s]
theorem cmpO_s (w v : RW) (k : Nat) : cmpO (some w) v k = if w k < 16 then v (w k) else 16 := rfl
theorem hol_o (t : RW) (k : Nat) : overR hol t k = t k := if_pos rfl
set_option maxHeartbeats 4000000 in
set_option maxRecDepth 100000 in
theorem tX7_joins {l : Launch} {D : va_G} {A : Nat → Prop} {N : Nat} {Sh : SM} {J : JM} (I : IM) {Q : Nat} (hM : MM Sh J Q) {x : RW × Option RW} {dd : Nat} (hdd : dd < 5) (hd : I Q 17 = nI dd) (hRL : RLf I Q dd x) {v : RW} (hv : RV (I (Q + 7)) v) : CtW l D A yX7_joins cX7_joins 4 1 N Sh I J [.ref Q] (fun I' => RV (I' (Q + 7)) (cmpO x.2 v) ∧ RLf I' Q dd (x.1, some (cmpO x.2 v)) ∧ LFf Q dd I I') := by
  refine ct_V (l0 := [(0, .ref Q)]) (by decide +kernel) (Nat.le_of_ble_eq_true rfl) rfl ?_
  intro X hX hret _ _ _
  have hX : XK X RX7 cX7_joins 4 1 := hX
  obtain ⟨q0, ⟨qj0, qj1, qj3, qj5, qj6, qj8, qj12, qj13, qj14, qj15, qj16, qj18, qj19⟩, ⟨qs1, qs2, qs3, qs4, qs5, qs6, qs7, qs8, qs9, qs10, qs11, qs12, qs13⟩⟩ := id hM
  have hcl : ∀ k, k < 16 → cmpO x.2 v k ≤ 16 := by
    intro k hk
    cases ew : x.2 with
    | none => exact (hv k hk).2
    | some w =>
      rw [cmpO_s]
      split
      · rename_i h9; exact (hv _ h9).2
      · exact Nat.le_refl _
  have tail : ∀ (I2 : IM), RV (I2 (Q + 7)) (cmpO x.2 v) → (∀ b, b ≠ Q + 7 → b ≠ Q + 12 → I2 b = I b) → WX X 0 0 N Sh I2 J 79 [(0, .ref Q)] [] := by
    intro I2 hv2 f2
    have hd2 : I2 Q 17 = nI dd := by rw [f2 Q (by omega) (by omega)]; exact hd
    have l2 : ∀ (n i : Nat), i + n = 16 → WX X 0 0 N Sh (uR I2 (Q + 10) (segN (16 * dd) i (I2 (Q + 7)) (I2 (Q + 10)))) J 81 [(0, .ref Q), (1, .int (nI i))] [] := by
      intro n
      induction n with
      | zero =>
        intro i  hi
        obtain rfl : 16 = i := by omega
        refine wa_iload_n hX dX7_joins_81 rfl ?_
        refine wa_bipush (v := nI 16) hX dX7_joins_82 (by decide) ?_
        refine wa_icmp_ge (tgt := 113) hX dX7_joins_84 (by decide) (fun c_84 => ?_) (fun c_84 => absurd (Int32.le_refl _) c_84)
        refine wa_aload_n hX dX7_joins_113 rfl ?_
        refine wa_getR hX fX7_42 rfl q0 qj16 dX7_joins_114 ?_
        refine wa_aload_n hX dX7_joins_117 rfl ?_
        refine wa_getI hX fX7_152 rfl q0 dX7_joins_118 ?_
        rw [uR_n (b := Q) (by omega), hd2]
        refine wa_iconst (v := nI 1) hX dX7_joins_121 (by decide) ?_
        refine wa_zast hX qs11 rfl hdd (by decide) dX7_joins_122 ?_
        refine hret _ _ _ _ ⟨⟨?_, ⟨?_, ?_, fun w hw k hk => ?_⟩, ⟨fun b hb => ?_, fun j hj => ⟨?_, ?_⟩, fun j hj => ⟨?_, ?_⟩⟩⟩, rfl⟩ dX7_joins_123
        · rw [u2_n (by omega), uR_n (by omega)]; exact hv2
        · obtain ⟨ho, a1, a2, a3⟩ := hRL.1
          exact ⟨ho, by rw [u2_n (by omega), uR_n (by omega), f2 _ (by omega) (by omega)]; exact a1, fun e k hk => by rw [u2_n (by omega), uR_n (by omega), f2 _ (by omega) (by omega)]; exact a2 e k hk, a3⟩
        · exact u2_s
        · cases hw
          rw [u2_n (by omega), uR_s, seg_in hk]
          exact hv2 k hk
        · rw [u2_n (by omega), uR_n (by omega)]; exact f2 b (by omega) (by omega)
        · rw [u2_n (by omega), uR_n (by omega), f2 _ (by omega) (by omega)]
        · rw [u2_k hj, uR_n (by omega), f2 _ (by omega) (by omega)]
        · rw [u2_n (by omega), uR_n (by omega), f2 _ (by omega) (by omega)]
        · rw [u2_n (by omega), uR_s, seg_out hj, f2 _ (by omega) (by omega)]
      | succ n ih =>
        intro i  hi
        have hlt : i < 16 := by omega
        refine wa_iload_n hX dX7_joins_81 rfl ?_
        refine wa_bipush (v := nI 16) hX dX7_joins_82 (by decide) ?_
        refine wa_icmp_ge (tgt := 113) hX dX7_joins_84 (by decide) (fun c_84 => absurd c_84 (nI_ge hlt (by decide))) (fun c_84 => ?_)
        refine wa_aload_n hX dX7_joins_87 rfl ?_
        refine wa_getR hX fX7_39 rfl q0 qj15 dX7_joins_88 ?_
        refine wa_bipush (v := nI 16) hX dX7_joins_91 (by decide) ?_
        refine wa_aload_n hX dX7_joins_93 rfl ?_
        refine wa_getI hX fX7_152 rfl q0 dX7_joins_94 ?_
        rw [uR_n (b := Q) (by omega), hd2]
        refine wa_imul hX dX7_joins_97 ?_
        refine wa_iload_n hX dX7_joins_98 rfl ?_
        refine wa_iadd hX dX7_joins_99 ?_
        refine wa_aload_n hX dX7_joins_100 rfl ?_
        refine wa_getR hX fX7_29 rfl q0 qj12 dX7_joins_101 ?_
        refine wa_iload_n hX dX7_joins_104 rfl ?_
        refine wa_iald hX qs7 rfl (by first | assumption | omega) (by decide) dX7_joins_105 ?_
        rw [uR_n (b := Q + 7) (by omega)]
        refine wa_iast hX qs10 (by rw [pk_mul, nI_add]) (show 16 * dd + i < 80 by omega) (by decide) dX7_joins_106 ?_
        refine wa_iinc hX dX7_joins_107 rfl (inc1 _) (by decide) ?_
        refine wa_goto (tgt := 81) hX dX7_joins_110 (by decide) ?_
        refine wx_sub (l' := [(0, _), (1, _)]) ⟨rfl, rfl, trivial⟩ ?_
        rw [u2_seg rfl]
        exact ih (i + 1) (by omega)
    refine wa_iconst (v := nI 0) hX dX7_joins_79 (by decide) ?_
    refine wa_istore_n hX dX7_joins_80 (by decide) ?_
    have e0 : I2 = uR I2 (Q + 10) (segN (16 * dd) 0 (I2 (Q + 7)) (I2 (Q + 10))) := by rw [seg_0, uR_self]
    rw (occs := .pos [1]) [e0]
    exact l2 16 0 (by omega)
  have lp : ∀ (n i : Nat), i + n = 16 → WX X 0 0 N Sh (uR I (Q + 12) (rowN i (fun k => nI ((cmpO x.2 v) k)) (I (Q + 12)))) J 2 [(0, .ref Q), (1, .int (nI i))] [] := by
    intro n
    induction n with
    | zero =>
      intro i  hi
      obtain rfl : 16 = i := by omega
      refine wa_iload_n hX dX7_joins_2 rfl ?_
      refine wa_bipush (v := nI 16) hX dX7_joins_3 (by decide) ?_
      refine wa_icmp_ge (tgt := 75) hX dX7_joins_5 (by decide) (fun c_5 => ?_) (fun c_5 => absurd (Int32.le_refl _) c_5)
      refine wa_aload_n hX dX7_joins_75 rfl ?_
      refine wa_vW hX (tX7_settles _ hM) bX7_settles mX7_149 (by decide) (by decide) (ci := 6) ⟨by decide, rfl⟩ q0 rfl rfl (Nat.le_of_ble_eq_true rfl) dX7_joins_76 (fun I_76 q_76 => ?_)
      subst q_76
      refine wx_sub (l' := [(0, _)]) ⟨rfl, trivial⟩ ?_
      refine tail _ (fun k hk => ?_) (fun b a1 a2 => by rw [uR_n a1, uR_n a2])
      rw [uR_s, rowN_in hk, uR_s, rowN_in hk]
      exact ⟨rfl, hcl k hk⟩
    | succ n ih =>
      intro i  hi
      have hlt : i < 16 := by omega
      refine wa_iload_n hX dX7_joins_2 rfl ?_
      refine wa_bipush (v := nI 16) hX dX7_joins_3 (by decide) ?_
      refine wa_icmp_ge (tgt := 75) hX dX7_joins_5 (by decide) (fun c_5 => absurd c_5 (nI_ge hlt (by decide))) (fun c_5 => ?_)
      refine wa_bipush (v := nI 16) hX dX7_joins_8 (by decide) ?_
      refine wa_aload_n hX dX7_joins_10 rfl ?_
      refine wa_getI hX fX7_152 rfl q0 dX7_joins_11 ?_
      rw [uR_n (b := Q) (by omega), hd]
      refine wa_imul hX dX7_joins_14 ?_
      refine wa_iload_n hX dX7_joins_15 rfl ?_
      refine wa_iadd hX dX7_joins_16 ?_
      rw [pk_mul, nI_add]
      refine wa_istore_n hX dX7_joins_17 (by decide) ?_
      refine wa_aload_n hX dX7_joins_18 rfl ?_
      refine wa_getR hX fX7_39 rfl q0 qj15 dX7_joins_19 ?_
      refine wa_iload_n hX dX7_joins_22 rfl ?_
      refine wa_iald hX qs10 rfl (show 16 * dd + i < 80 by omega) (by decide) dX7_joins_23 ?_
      rw [uR_n (b := Q + 10) (by omega)]
      refine wa_istore_n hX dX7_joins_24 (by decide) ?_
      refine wa_aload_n hX dX7_joins_25 rfl ?_
      refine wa_getR hX fX7_45 rfl q0 qj18 dX7_joins_26 ?_
      refine wa_iload_n hX dX7_joins_29 rfl ?_
      refine wa_aload_n hX dX7_joins_30 rfl ?_
      refine wa_getR hX fX7_42 rfl q0 qj16 dX7_joins_31 ?_
      refine wa_aload_n hX dX7_joins_34 rfl ?_
      refine wa_getI hX fX7_152 rfl q0 dX7_joins_35 ?_
      rw [uR_n (b := Q) (by omega), hd]
      refine wa_zald hX qs11 rfl hdd (by decide) dX7_joins_38 ?_
      rw [uR_n (b := Q + 11) (by omega), hRL.2.1]
      refine wa_if_ne (tgt := 51) hX dX7_joins_39 (by decide) (fun c_39 => ?_) (fun c_39 => ?_)
      · skip
        obtain ⟨w, ew⟩ : ∃ w, x.2 = some w := Option.isSome_iff_exists.mp (bI_n0.mp c_39)
        have hw := hRL.2.2 w ew i (by omega)
        refine wa_iload_n hX dX7_joins_51 rfl ?_
        refine wa_bipush (v := nI 16) hX dX7_joins_52 (by decide) ?_
        rw [hw.1]
        refine wa_icmp_ne (tgt := 62) hX dX7_joins_54 (by decide) (fun c_54 => ?_) (fun c_54 => ?_)
        · skip
          have d1 : w i ≠ 16 := ne_of_nI c_54
          refine wa_aload_n hX dX7_joins_62 rfl ?_
          refine wa_getR hX fX7_29 rfl q0 qj12 dX7_joins_63 ?_
          refine wa_iload_n hX dX7_joins_66 rfl ?_
          refine wa_iald hX qs7 rfl (show w i < 16 by omega) (by decide) dX7_joins_67 ?_
          rw [uR_n (b := Q + 7) (by omega), (hv (w i) (by omega)).1]
          refine wa_iast hX qs12 rfl (by first | assumption | omega) (by decide) dX7_joins_68 ?_
          refine wa_iinc hX dX7_joins_69 rfl (inc1 _) (by decide) ?_
          refine wa_goto (tgt := 2) hX dX7_joins_72 (by decide) ?_
          refine wx_sub (l' := [(0, _), (1, _)]) ⟨rfl, rfl, trivial⟩ ?_
          rw [u2_row (i := i) (show _ = nI (cmpO x.2 v i) by rw [ew, cmpO_s, if_pos (by omega)])]
          exact ih (i + 1) (by omega)
        · skip
          have d1 : w i = 16 := eq_of_nI c_54 (by omega) (by decide)
          refine wa_bipush (v := nI 16) hX dX7_joins_57 (by decide) ?_
          refine wa_goto (tgt := 68) hX dX7_joins_59 (by decide) ?_
          refine wa_iast hX qs12 rfl (by first | assumption | omega) (by decide) dX7_joins_68 ?_
          refine wa_iinc hX dX7_joins_69 rfl (inc1 _) (by decide) ?_
          refine wa_goto (tgt := 2) hX dX7_joins_72 (by decide) ?_
          refine wx_sub (l' := [(0, _), (1, _)]) ⟨rfl, rfl, trivial⟩ ?_
          rw [u2_row (i := i) (show _ = nI (cmpO x.2 v i) by rw [ew, cmpO_s, if_neg (by omega)])]
          exact ih (i + 1) (by omega)
      · skip
        have ew : x.2 = none := Option.not_isSome_iff_eq_none.mp (by rw [bI_0.mp c_39]; decide)
        refine wa_aload_n hX dX7_joins_42 rfl ?_
        refine wa_getR hX fX7_29 rfl q0 qj12 dX7_joins_43 ?_
        refine wa_iload_n hX dX7_joins_46 rfl ?_
        refine wa_iald hX qs7 rfl (by first | assumption | omega) (by decide) dX7_joins_47 ?_
        rw [uR_n (b := Q + 7) (by omega), (hv i (by omega)).1]
        refine wa_goto (tgt := 68) hX dX7_joins_48 (by decide) ?_
        refine wa_iast hX qs12 rfl (by first | assumption | omega) (by decide) dX7_joins_68 ?_
        refine wa_iinc hX dX7_joins_69 rfl (inc1 _) (by decide) ?_
        refine wa_goto (tgt := 2) hX dX7_joins_72 (by decide) ?_
        refine wx_sub (l' := [(0, _), (1, _)]) ⟨rfl, rfl, trivial⟩ ?_
        rw [u2_row (i := i) (show _ = nI (cmpO x.2 v i) by rw [ew]; rfl)]
        exact ih (i + 1) (by omega)
  refine wa_iconst (v := nI 0) hX dX7_joins_0 (by decide) ?_
  refine wa_istore_n hX dX7_joins_1 (by decide) ?_
  have e0 : I = uR I (Q + 12) (rowN 0 (fun k => nI ((cmpO x.2 v) k)) (I (Q + 12))) := row_0
  rw (occs := .pos [1]) [e0]
  exact lp 16 0 (by omega)

set_option maxHeartbeats 4000000 in
set_option maxRecDepth 100000 in
theorem tX7_underlies {l : Launch} {D : va_G} {A : Nat → Prop} {N : Nat} {Sh : SM} {J : JM} (I : IM) {Q : Nat} (hM : MM Sh J Q) {x : RW × Option RW} {dd : Nat} (hdd : dd < 5) (hd : I Q 17 = nI dd) (hRL : RLf I Q dd x) {v : RW} (hv : RV (I (Q + 7)) v) : CtW l D A yX7_underlies cX7_underlies 3 2 N Sh I J [.ref Q] (fun I' => RV (I' (Q + 7)) (overR x.1 (cmpO x.2 v)) ∧ RLf I' Q dd ((overR x.1 (cmpO x.2 v)), none) ∧ LFf Q dd I I') := by
  refine ct_V (l0 := [(0, .ref Q)]) (by decide +kernel) (Nat.le_of_ble_eq_true rfl) rfl ?_
  intro X hX hret _ _ _
  have hX : XK X RX7 cX7_underlies 3 2 := hX
  obtain ⟨q0, ⟨qj0, qj1, qj3, qj5, qj6, qj8, qj12, qj13, qj14, qj15, qj16, qj18, qj19⟩, ⟨qs1, qs2, qs3, qs4, qs5, qs6, qs7, qs8, qs9, qs10, qs11, qs12, qs13⟩⟩ := id hM
  have tail : ∀ (I1 : IM), RV (I1 (Q + 7)) (cmpO x.2 v) → RLf I1 Q dd (x.1, some (cmpO x.2 v)) → LFf Q dd I I1 → WX X 0 0 N Sh I1 J 4 [(0, .ref Q)] [] := by
    intro I1 hv1 hRL1 hL1
    have hd1 : I1 Q 17 = nI dd := by rw [hL1.1 Q (by omega)]; exact hd
    obtain ⟨⟨ho, hho, hh1, hh2⟩, -, -⟩ := hRL1
    have hgl : ∀ k, k < 16 → overR x.1 (cmpO x.2 v) k ≤ 16 := by
      intro k hk
      show (if x.1 k = 16 then cmpO x.2 v k else x.1 k) ≤ 16
      split
      · exact (hv1 k hk).2
      · rename_i h9
        cases ho with
        | true => exact (hh1 rfl k hk).2
        | false => exact absurd (by rw [show x.1 = hol from hh2 rfl]; rfl) h9
    have lp : ∀ (n i : Nat), i + n = 16 → WX X 0 0 N Sh (uR (uR I1 (Q + 8) (segN (16 * dd) i (fun k => nI ((overR x.1 (cmpO x.2 v)) k)) (I1 (Q + 8)))) (Q + 7) (rowN i (fun k => nI ((overR x.1 (cmpO x.2 v)) k)) (I1 (Q + 7)))) J 6 [(0, .ref Q), (1, .int (nI i))] [] := by
      intro n
      induction n with
      | zero =>
        intro i  hi
        obtain rfl : 16 = i := by omega
        refine wa_iload_n hX dX7_underlies_6 rfl ?_
        refine wa_bipush (v := nI 16) hX dX7_underlies_7 (by decide) ?_
        refine wa_icmp_ge (tgt := 84) hX dX7_underlies_9 (by decide) (fun c_9 => ?_) (fun c_9 => absurd (Int32.le_refl _) c_9)
        refine wa_aload_n hX dX7_underlies_84 rfl ?_
        refine wa_getR hX fX7_35 rfl q0 qj14 dX7_underlies_85 ?_
        refine wa_aload_n hX dX7_underlies_88 rfl ?_
        refine wa_getI hX fX7_152 rfl q0 dX7_underlies_89 ?_
        rw [uR_n (b := Q) (by omega), uR_n (b := Q) (by omega), hd1]
        refine wa_iconst (v := nI 1) hX dX7_underlies_92 (by decide) ?_
        refine wa_zast hX qs9 rfl hdd (by decide) dX7_underlies_93 ?_
        refine wa_aload_n hX dX7_underlies_94 rfl ?_
        refine wa_getR hX fX7_42 rfl q0 qj16 dX7_underlies_95 ?_
        refine wa_aload_n hX dX7_underlies_98 rfl ?_
        refine wa_getI hX fX7_152 rfl q0 dX7_underlies_99 ?_
        rw [u2_n (b := Q) (by omega), uR_n (b := Q) (by omega), uR_n (b := Q) (by omega), hd1]
        refine wa_iconst (v := nI 0) hX dX7_underlies_102 (by decide) ?_
        refine wa_zast hX qs11 rfl hdd (by decide) dX7_underlies_103 ?_
        refine hret _ _ _ _ ⟨⟨fun k hk => ?_, ⟨⟨true, ?_, fun _ k hk => ?_, fun h => by cases h⟩, ?_, fun w hw => by cases hw⟩, hL1.tr ⟨fun b hb => ?_, fun j hj => ⟨?_, ?_⟩, fun j hj => ⟨?_, ?_⟩⟩⟩, rfl⟩ dX7_underlies_104
        · rw [u2_n (by omega), u2_n (by omega), uR_s, rowN_in hk]; exact ⟨rfl, hgl k hk⟩
        · rw [u2_n (by omega)]; exact u2_s
        · rw [u2_n (by omega), u2_n (by omega), uR_n (by omega), uR_s, seg_in hk]; exact ⟨rfl, hgl k hk⟩
        · exact u2_s
        · rw [u2_n (by omega), u2_n (by omega), uR_n (by omega), uR_n (by omega)]
        · rw [u2_n (by omega), u2_k hj, uR_n (by omega), uR_n (by omega)]
        · rw [u2_k hj, u2_n (by omega), uR_n (by omega), uR_n (by omega)]
        · rw [u2_n (by omega), u2_n (by omega), uR_n (by omega), uR_s, seg_out hj]
        · rw [u2_n (by omega), u2_n (by omega), uR_n (by omega), uR_n (by omega)]
      | succ n ih =>
        intro i  hi
        have hlt : i < 16 := by omega
        refine wa_iload_n hX dX7_underlies_6 rfl ?_
        refine wa_bipush (v := nI 16) hX dX7_underlies_7 (by decide) ?_
        refine wa_icmp_ge (tgt := 84) hX dX7_underlies_9 (by decide) (fun c_9 => absurd c_9 (nI_ge hlt (by decide))) (fun c_9 => ?_)
        refine wa_bipush (v := nI 16) hX dX7_underlies_12 (by decide) ?_
        refine wa_aload_n hX dX7_underlies_14 rfl ?_
        refine wa_getI hX fX7_152 rfl q0 dX7_underlies_15 ?_
        rw [uR_n (b := Q) (by omega), uR_n (b := Q) (by omega), hd1]
        refine wa_imul hX dX7_underlies_18 ?_
        refine wa_iload_n hX dX7_underlies_19 rfl ?_
        refine wa_iadd hX dX7_underlies_20 ?_
        rw [pk_mul, nI_add]
        refine wa_istore_n hX dX7_underlies_21 (by decide) ?_
        refine wa_aload_n hX dX7_underlies_22 rfl ?_
        refine wa_getR hX fX7_32 rfl q0 qj13 dX7_underlies_23 ?_
        refine wa_iload_n hX dX7_underlies_26 rfl ?_
        refine wa_aload_n hX dX7_underlies_27 rfl ?_
        refine wa_getR hX fX7_35 rfl q0 qj14 dX7_underlies_28 ?_
        refine wa_aload_n hX dX7_underlies_31 rfl ?_
        refine wa_getI hX fX7_152 rfl q0 dX7_underlies_32 ?_
        rw [uR_n (b := Q) (by omega), uR_n (b := Q) (by omega), hd1]
        refine wa_zald hX qs9 rfl hdd (by decide) dX7_underlies_35 ?_
        rw [uR_n (b := Q + 9) (by omega), uR_n (b := Q + 9) (by omega), hho]
        refine wa_if_eq (tgt := 50) hX dX7_underlies_36 (by decide) (fun c_36 => ?_) (fun c_36 => ?_)
        · skip
          have d1 : ho = false := bI_0.mp c_36
          have d2 : x.1 i = 16 := by rw [hh2 d1]; rfl
          refine wa_aload_n hX dX7_underlies_50 rfl ?_
          refine wa_getR hX fX7_29 rfl q0 qj12 dX7_underlies_51 ?_
          refine wa_iload_n hX dX7_underlies_54 rfl ?_
          refine wa_iald hX qs7 rfl (by first | assumption | omega) (by decide) dX7_underlies_55 ?_
          rw [uR_s, rowN_out (Nat.le_refl i), (hv1 i (by omega)).1]
          refine wa_goto (tgt := 65) hX dX7_underlies_56 (by decide) ?_
          refine wa_iast hX qs8 rfl (show 16 * dd + i < 80 by omega) (by decide) dX7_underlies_65 ?_
          refine wa_aload_n hX dX7_underlies_66 rfl ?_
          refine wa_getR hX fX7_29 rfl q0 qj12 dX7_underlies_67 ?_
          refine wa_iload_n hX dX7_underlies_70 rfl ?_
          refine wa_aload_n hX dX7_underlies_71 rfl ?_
          refine wa_getR hX fX7_32 rfl q0 qj13 dX7_underlies_72 ?_
          refine wa_iload_n hX dX7_underlies_75 rfl ?_
          refine wa_iald hX qs8 rfl (show 16 * dd + i < 80 by omega) (by decide) dX7_underlies_76 ?_
          rw [u2_s]
          refine wa_iast hX qs7 rfl (by first | assumption | omega) (by decide) dX7_underlies_77 ?_
          refine wa_iinc hX dX7_underlies_78 rfl (inc1 _) (by decide) ?_
          refine wa_goto (tgt := 6) hX dX7_underlies_81 (by decide) ?_
          refine wx_sub (l' := [(0, _), (1, _)]) ⟨rfl, rfl, trivial⟩ ?_
          rw [uu_g (i := i) (by omega) (show _ = nI ((overR x.1 (cmpO x.2 v)) i) by show _ = nI (if x.1 i = 16 then cmpO x.2 v i else x.1 i); rw [if_pos d2])]
          exact ih (i + 1) (by omega)
        · skip
          have d1 : ho = true := bI_n0.mp c_36
          have hov := hh1 d1
          refine wa_aload_n hX dX7_underlies_39 rfl ?_
          refine wa_getR hX fX7_32 rfl q0 qj13 dX7_underlies_40 ?_
          refine wa_iload_n hX dX7_underlies_43 rfl ?_
          refine wa_iald hX qs8 rfl (show 16 * dd + i < 80 by omega) (by decide) dX7_underlies_44 ?_
          rw [uR_n (b := Q + 8) (by omega), uR_s, seg_out (by omega), (hov i (by omega)).1]
          refine wa_bipush (v := nI 16) hX dX7_underlies_45 (by decide) ?_
          refine wa_icmp_ne (tgt := 59) hX dX7_underlies_47 (by decide) (fun c_47 => ?_) (fun c_47 => ?_)
          · skip
            have d2 : x.1 i ≠ 16 := ne_of_nI c_47
            refine wa_aload_n hX dX7_underlies_59 rfl ?_
            refine wa_getR hX fX7_32 rfl q0 qj13 dX7_underlies_60 ?_
            refine wa_iload_n hX dX7_underlies_63 rfl ?_
            refine wa_iald hX qs8 rfl (show 16 * dd + i < 80 by omega) (by decide) dX7_underlies_64 ?_
            rw [uR_n (b := Q + 8) (by omega), uR_s, seg_out (by omega), (hov i (by omega)).1]
            refine wa_iast hX qs8 rfl (show 16 * dd + i < 80 by omega) (by decide) dX7_underlies_65 ?_
            refine wa_aload_n hX dX7_underlies_66 rfl ?_
            refine wa_getR hX fX7_29 rfl q0 qj12 dX7_underlies_67 ?_
            refine wa_iload_n hX dX7_underlies_70 rfl ?_
            refine wa_aload_n hX dX7_underlies_71 rfl ?_
            refine wa_getR hX fX7_32 rfl q0 qj13 dX7_underlies_72 ?_
            refine wa_iload_n hX dX7_underlies_75 rfl ?_
            refine wa_iald hX qs8 rfl (show 16 * dd + i < 80 by omega) (by decide) dX7_underlies_76 ?_
            rw [u2_s]
            refine wa_iast hX qs7 rfl (by first | assumption | omega) (by decide) dX7_underlies_77 ?_
            refine wa_iinc hX dX7_underlies_78 rfl (inc1 _) (by decide) ?_
            refine wa_goto (tgt := 6) hX dX7_underlies_81 (by decide) ?_
            refine wx_sub (l' := [(0, _), (1, _)]) ⟨rfl, rfl, trivial⟩ ?_
            rw [uu_g (i := i) (by omega) (show _ = nI ((overR x.1 (cmpO x.2 v)) i) by show _ = nI (if x.1 i = 16 then cmpO x.2 v i else x.1 i); rw [if_neg d2])]
            exact ih (i + 1) (by omega)
          · skip
            have d2 : x.1 i = 16 := eq_of_nI c_47 (by have h9 : x.1 i ≤ 16 := (hov i (by omega)).2; omega) (by decide)
            refine wa_aload_n hX dX7_underlies_50 rfl ?_
            refine wa_getR hX fX7_29 rfl q0 qj12 dX7_underlies_51 ?_
            refine wa_iload_n hX dX7_underlies_54 rfl ?_
            refine wa_iald hX qs7 rfl (by first | assumption | omega) (by decide) dX7_underlies_55 ?_
            rw [uR_s, rowN_out (Nat.le_refl i), (hv1 i (by omega)).1]
            refine wa_goto (tgt := 65) hX dX7_underlies_56 (by decide) ?_
            refine wa_iast hX qs8 rfl (show 16 * dd + i < 80 by omega) (by decide) dX7_underlies_65 ?_
            refine wa_aload_n hX dX7_underlies_66 rfl ?_
            refine wa_getR hX fX7_29 rfl q0 qj12 dX7_underlies_67 ?_
            refine wa_iload_n hX dX7_underlies_70 rfl ?_
            refine wa_aload_n hX dX7_underlies_71 rfl ?_
            refine wa_getR hX fX7_32 rfl q0 qj13 dX7_underlies_72 ?_
            refine wa_iload_n hX dX7_underlies_75 rfl ?_
            refine wa_iald hX qs8 rfl (show 16 * dd + i < 80 by omega) (by decide) dX7_underlies_76 ?_
            rw [u2_s]
            refine wa_iast hX qs7 rfl (by first | assumption | omega) (by decide) dX7_underlies_77 ?_
            refine wa_iinc hX dX7_underlies_78 rfl (inc1 _) (by decide) ?_
            refine wa_goto (tgt := 6) hX dX7_underlies_81 (by decide) ?_
            refine wx_sub (l' := [(0, _), (1, _)]) ⟨rfl, rfl, trivial⟩ ?_
            rw [uu_g (i := i) (by omega) (show _ = nI ((overR x.1 (cmpO x.2 v)) i) by show _ = nI (if x.1 i = 16 then cmpO x.2 v i else x.1 i); rw [if_pos d2])]
            exact ih (i + 1) (by omega)
    refine wa_iconst (v := nI 0) hX dX7_underlies_4 (by decide) ?_
    refine wa_istore_n hX dX7_underlies_5 (by decide) ?_
    have e0 : I1 = uR (uR I1 (Q + 8) (segN (16 * dd) 0 (fun k => nI ((overR x.1 (cmpO x.2 v)) k)) (I1 (Q + 8)))) (Q + 7) (rowN 0 (fun k => nI ((overR x.1 (cmpO x.2 v)) k)) (I1 (Q + 7))) := by rw [seg_0, rowN_0, uR_self, uR_self]
    rw (occs := .pos [1]) [e0]
    exact lp 16 0 (by omega)
  refine wa_aload_n hX dX7_underlies_0 rfl ?_
  refine wa_vW hX (tX7_joins I hM hdd hd hRL hv) bX7_joins mX7_155 (by decide) (by decide) (ci := 6) ⟨by decide, rfl⟩ q0 rfl rfl (Nat.le_of_ble_eq_true rfl) dX7_underlies_1 (fun I_1 q_1 => ?_)
  obtain ⟨w0, w1, w2⟩ := q_1
  exact tail _ w0 w1 w2

set_option maxHeartbeats 4000000 in
set_option maxRecDepth 100000 in
theorem tX7_takesSigns {l : Launch} {D : va_G} {A : Nat → Prop} {N : Nat} {Sh : SM} {J : JM} (I : IM) {Q : Nat} (hM : MM Sh J Q) {L : Nat} {ch : Nat → Nat} {p : Nat} (hQ : TQ I Q L ch p) {v : RW} (hv : RV (I (Q + 7)) v) {S : AS} (hV : VF (I (Q + 1)) S) {R : Nat} (hR : aR S = R) : CtM l D A yX7_takesSigns cX7_takesSigns 2 FieldType.boolean 4 N Sh I J [.ref Q] (fun x I' => EMf Q I (sgnF L ch R 60 v p) x I') := by
  refine ct_I (l0 := [(0, .ref Q)]) (by decide +kernel) (Nat.le_of_ble_eq_true rfl) rfl (fun _ _ _ h => by obtain ⟨⟨rfl, _⟩, _⟩ := h; exact nar_B _) ?_
  intro X hX hret _ _ _
  have hX : XK X RX7 cX7_takesSigns 2 4 := hX
  obtain ⟨q0, ⟨qj0, qj1, qj3, qj5, qj6, qj8, qj12, qj13, qj14, qj15, qj16, qj18, qj19⟩, ⟨qs1, qs2, qs3, qs4, qs5, qs6, qs7, qs8, qs9, qs10, qs11, qs12, qs13⟩⟩ := id hM
  obtain ⟨⟨⟨hL, hl2⟩, hch⟩, hp1, hp2⟩ := id hQ
  have tail : ∀ (I1 : IM) (v1 : RW) (p1 : Nat), TQ I1 Q L ch p1 → MQf Q p1 I I1 → RV (I1 (Q + 7)) v1 → (some v1, p1) = sgnF L ch R 60 v p → WX X 0 0 N Sh I1 J 2 [(0, .ref Q), (1, .int (nI 0))] [] := by
    intro I1 v1 p1 hQ1 hF1 hv1 hRs
    refine wa_iload_n hX dX7_takesSigns_2 rfl ?_
    refine wa_if_eq (tgt := 96) hX dX7_takesSigns_3 (by decide) (fun c_3 => ?_) (fun c_3 => absurd rfl c_3)
    refine wa_iconst (v := nI 1) hX dX7_takesSigns_96 (by decide) ?_
    exact hret _ _ _ _ _ ⟨EMf.s hRs.symm hF1 hv1, rfl⟩ dX7_takesSigns_97
  have lp : ∀ (n : Nat) (I1 : IM) (v1 : RW) (p1 : Nat), L < p1 + n → TQ I1 Q L ch p1 → MQf Q p1 I I1 → RV (I1 (Q + 7)) v1 → sgnF L ch R 60 v1 p1 = sgnF L ch R 60 v p → WX X 0 0 N Sh I1 J 2 [(0, .ref Q), (1, .int (nI 1))] [] := by
    intro n
    induction n with
    | zero =>
      intro I1 v1 p1 hn hQ1
      have := hQ1.2.1
      omega
    | succ n ih =>
      intro I1 v1 p1 hn hQ1 hF1 hv1 hRs
      rw [sgn_s 59 v1 p1] at hRs
      refine wa_iload_n hX dX7_takesSigns_2 rfl ?_
      refine wa_if_eq (tgt := 96) hX dX7_takesSigns_3 (by decide) (fun c_3 => absurd c_3 (by decide)) (fun c_3 => ?_)
      refine wa_aload_n hX dX7_takesSigns_6 rfl ?_
      refine wa_bipush (v := nI 126) hX dX7_takesSigns_7 (by decide) ?_
      refine wa_vM hX (tX7_takes _ hM hQ1 (show 126 < 65536 by decide)) bX7_takes mX7_146 (by decide) (by decide) (ci := 6) ⟨by decide, rfl⟩ q0 rfl rfl (Nat.le_of_ble_eq_true rfl) dX7_takesSigns_9 (fun r_9 I_9 q_9 => ?_)
      obtain ⟨w2, w3⟩ := q_9
      subst w2
      refine wa_if_eq (tgt := 22) hX dX7_takesSigns_12 (by decide) (fun c_12 => ?_) (fun c_12 => ?_)
      · skip
        have n1 := bI_0.mp c_12
        rw [n1] at w3
        have w3 : I_9 = I1 := w3.trans hQ1.stay
        rw [w3]
        rw [if_neg (by rw [n1]; decide)] at hRs
        refine wa_aload_n hX dX7_takesSigns_22 rfl ?_
        refine wa_bipush (v := nI 94) hX dX7_takesSigns_23 (by decide) ?_
        refine wa_vM hX (tX7_takes _ hM hQ1 (show 94 < 65536 by decide)) bX7_takes mX7_146 (by decide) (by decide) (ci := 6) ⟨by decide, rfl⟩ q0 rfl rfl (Nat.le_of_ble_eq_true rfl) dX7_takesSigns_25 (fun r_25 I_25 q_25 => ?_)
        obtain ⟨w2, w3⟩ := q_25
        subst w2
        refine wa_if_eq (tgt := 73) hX dX7_takesSigns_28 (by decide) (fun c_28 => ?_) (fun c_28 => ?_)
        · skip
          have n2 := bI_0.mp c_28
          rw [n2] at w3
          have w3 : I_25 = I1 := w3.trans hQ1.stay
          rw [w3]
          rw [if_neg (by rw [n2]; decide)] at hRs
          refine wa_aload_n hX dX7_takesSigns_73 rfl ?_
          refine wa_bipush (v := nI 123) hX dX7_takesSigns_74 (by decide) ?_
          refine wa_vM hX (tX7_takes _ hM hQ1 (show 123 < 65536 by decide)) bX7_takes mX7_146 (by decide) (by decide) (ci := 6) ⟨by decide, rfl⟩ q0 rfl rfl (Nat.le_of_ble_eq_true rfl) dX7_takesSigns_76 (fun r_76 I_76 q_76 => ?_)
          obtain ⟨w2, w3⟩ := q_76
          subst w2
          refine wa_if_eq (tgt := 91) hX dX7_takesSigns_79 (by decide) (fun c_79 => ?_) (fun c_79 => ?_)
          · skip
            have n4 := bI_0.mp c_79
            rw [n4] at w3
            have w3 : I_76 = I1 := w3.trans hQ1.stay
            rw [w3]
            rw [if_neg (by rw [n4]; decide)] at hRs
            refine wa_iconst (v := nI 0) hX dX7_takesSigns_91 (by decide) ?_
            refine wa_istore_n hX dX7_takesSigns_92 (by decide) ?_
            refine wa_goto (tgt := 2) hX dX7_takesSigns_93 (by decide) ?_
            refine wx_sub (l' := [(0, _), (1, _)]) ⟨rfl, rfl, trivial⟩ ?_
            exact tail _ v1 p1 hQ1 hF1 hv1 hRs
          · skip
            have n4 := bI_n0.mp c_79
            have n4x := sg_t.mp n4
            rw [n4] at w3
            have w3 : I_76 = u2 I1 Q 9 (nI (p1 + 1)) := w3
            subst w3
            rw [if_pos n4] at hRs
            have hQ2 := hQ1.mv (show p1 + 1 ≤ L by omega)
            have hF2 := hF1.tr (MQf.u (q := p1 + 1))
            have hv2 : RV (u2 I1 Q 9 (nI (p1 + 1)) (Q + 7)) v1 := by rw [u2_n (by omega)]; exact hv1
            refine wa_aload_n hX dX7_takesSigns_82 rfl ?_
            refine wa_vM hX (tX7_takesSet _ hM hQ2 hv2) bX7_takesSet mX7_164 (by decide) (by decide) (ci := 6) ⟨by decide, rfl⟩ q0 rfl rfl (Nat.le_of_ble_eq_true rfl) dX7_takesSigns_83 (fun r_83 I_83 q_83 => ?_)
            have hRb : bnd (bnd (kstF L ch 60 (nI 0) (p1 + 1)) (fun s q => (some (resR s v1), q))) (fun w q => sgnF L ch R 59 w q) = sgnF L ch R 60 v p := by rw [bnd_as]; exact hRs
            refine wa_if_ne (tgt := 2) hX dX7_takesSigns_86 (by decide) (fun c_86 => ?_) (fun c_86 => ?_)
            · skip
              obtain ⟨w, q, ew, hF5, hv5⟩ := q_83.t c_86
              rw [bnd_s ew] at hRb
              have hqL : q ≤ L ∧ p1 + 1 ≤ q := by
                rcases set_c (ch := ch) 60 (nI 0) (show p1 + 1 ≤ L by omega) with ⟨q2, e4, h4, h5⟩ | ⟨x, q2, e4, h4, h5⟩
                · rw [bnd_n e4] at ew; cases ew
                · rw [bnd_s e4] at ew; cases ew; exact ⟨h5, by omega⟩
              rw [sgn_fuel 59 60 _ hqL.1 (by omega) (by omega)] at hRb
              refine wx_sub (l' := [(0, _), (1, _)]) ⟨rfl, rfl, trivial⟩ ?_
              exact ih _ w q (by omega) (hQ2.mq hF5 hqL.1) (hF2.tr hF5) hv5 hRb
            · skip
              obtain ⟨q, ew, hF5⟩ := q_83.f c_86
              rw [bnd_n ew] at hRb
              refine wa_iconst (v := nI 0) hX dX7_takesSigns_89 (by decide) ?_
              exact hret _ _ _ _ _ ⟨EMf.n hRb.symm (hF2.tr hF5), rfl⟩ dX7_takesSigns_90
        · skip
          have n2 := bI_n0.mp c_28
          have n2x := sg_t.mp n2
          rw [n2] at w3
          have w3 : I_25 = u2 I1 Q 9 (nI (p1 + 1)) := w3
          subst w3
          rw [if_pos n2] at hRs
          have hQ2 := hQ1.mv (show p1 + 1 ≤ L by omega)
          have hF2 := hF1.tr (MQf.u (q := p1 + 1))
          have hv2 : RV (u2 I1 Q 9 (nI (p1 + 1)) (Q + 7)) v1 := by rw [u2_n (by omega)]; exact hv1
          refine wa_aload_n hX dX7_takesSigns_31 rfl ?_
          refine wa_bipush (v := nI 48) hX dX7_takesSigns_32 (by decide) ?_
          refine wa_bipush (v := nI 57) hX dX7_takesSigns_34 (by decide) ?_
          refine wa_vP hX (tX7_isBetween _ hM hQ2 (show 48 < 65536 by decide) (show 57 < 65536 by decide)) bX7_isBetween mX7_137 (by decide) (by decide) (ci := 6) ⟨by decide, rfl⟩ q0 rfl rfl (Nat.le_of_ble_eq_true rfl) dX7_takesSigns_36 (fun r_36 q_36 => ?_)
          subst q_36
          refine wa_if_ne (tgt := 44) hX dX7_takesSigns_39 (by decide) (fun c_39 => ?_) (fun c_39 => ?_)
          · skip
            have n3 := bI_n0.mp c_39
            have n3x := bw_t.mp n3
            rw [if_pos n3, sgn_fuel 59 60 _ (by omega) (by omega) (by omega)] at hRs
            refine wa_aload_n hX dX7_takesSigns_44 rfl ?_
            refine wa_aload_n hX dX7_takesSigns_45 rfl ?_
            refine wa_getR hX fX7_25 rfl q0 qj8 dX7_takesSigns_46 ?_
            refine wa_aload_n hX dX7_takesSigns_49 rfl ?_
            refine wa_getI hX fX7_85 rfl q0 dX7_takesSigns_50 ?_
            rw [hQ2.2.2]
            refine wa_cald hX qs6 rfl (show p1 + 1 < 60 by omega) (by decide) dX7_takesSigns_53 ?_
            rw [(hQ2.1.2 (p1 + 1) n3x.1).1]
            refine wa_bipush (v := nI 48) hX dX7_takesSigns_54 (by decide) ?_
            refine wa_isub hX dX7_takesSigns_56 ?_
            rw [isc n3x.2.1 (by omega)]
            refine wa_vW hX (tX7_repeats _ hM hv2 (show ch (p1 + 1) - 48 < 2 ^ 31 by omega)) bX7_repeats mX7_161 (by decide) (by decide) (ci := 6) ⟨by decide, rfl⟩ q0 rfl rfl (Nat.le_of_ble_eq_true rfl) dX7_takesSigns_57 (fun I_57 q_57 => ?_)
            obtain ⟨w4, w5⟩ := q_57
            refine wa_aload_n hX dX7_takesSigns_60 rfl ?_
            refine wa_dup hX dX7_takesSigns_61 rfl ?_
            refine wa_getI hX fX7_85 rfl q0 dX7_takesSigns_62 ?_
            rw [show I_57 Q 9 = nI (p1 + 1) by rw [w5 Q (by omega) (by omega)]; exact u2_s]
            refine wa_iconst (v := nI 1) hX dX7_takesSigns_65 (by decide) ?_
            refine wa_iadd hX dX7_takesSigns_66 ?_
            rw [show nI (p1 + 1) + nI 1 = nI (p1 + 2) from nI_add _ 1]
            refine wa_putI hX fX7_85 rfl rfl ⟨rfl, rfl⟩ q0 dX7_takesSigns_67 ?_
            refine wa_goto (tgt := 2) hX dX7_takesSigns_70 (by decide) ?_
            refine wx_sub (l' := [(0, _), (1, _)]) ⟨rfl, rfl, trivial⟩ ?_
            exact ih _ _ (p1 + 2) (by omega) ((hQ2.cf w5).mv (by omega)) ((hF2.cf w5).tr MQf.u) (by rw [u2_n (by omega)]; exact w4) hRs
          · skip
            have n3 := bI_0.mp c_39
            rw [if_neg (by rw [n3]; decide)] at hRs
            refine wa_iconst (v := nI 0) hX dX7_takesSigns_42 (by decide) ?_
            exact hret _ _ _ _ _ ⟨EMf.n hRs.symm hF2, rfl⟩ dX7_takesSigns_43
      · skip
        have n1 := bI_n0.mp c_12
        have n1x := sg_t.mp n1
        rw [n1] at w3
        have w3 : I_9 = u2 I1 Q 9 (nI (p1 + 1)) := w3
        subst w3
        rw [if_pos n1] at hRs
        have hQ2 := hQ1.mv (show p1 + 1 ≤ L by omega)
        have hF2 := hF1.tr (MQf.u (q := p1 + 1))
        have hv2 : RV (u2 I1 Q 9 (nI (p1 + 1)) (Q + 7)) v1 := by rw [u2_n (by omega)]; exact hv1
        rw [sgn_fuel 59 60 _ (by omega) (by omega) (by omega)] at hRs
        refine wa_aload_n hX dX7_takesSigns_15 rfl ?_
        refine wa_vW hX (tX7_inverts _ hM hv2 (S := S) (by rw [hF2.2.2 (Q + 1) (by omega) (by omega) (by omega)]; exact hV) hR) bX7_inverts mX7_158 (by decide) (by decide) (ci := 6) ⟨by decide, rfl⟩ q0 rfl rfl (Nat.le_of_ble_eq_true rfl) dX7_takesSigns_16 (fun I_16 q_16 => ?_)
        obtain ⟨w4, w5⟩ := q_16
        refine wa_goto (tgt := 2) hX dX7_takesSigns_19 (by decide) ?_
        refine wx_sub (l' := [(0, _), (1, _)]) ⟨rfl, rfl, trivial⟩ ?_
        exact ih _ _ (p1 + 1) (by omega) (hQ2.cf w5) (hF2.cf w5) w4 hRs
  refine wa_iconst (v := nI 1) hX dX7_takesSigns_0 (by decide) ?_
  refine wa_istore_n hX dX7_takesSigns_1 (by decide) ?_
  exact lp 61 _ v p (by omega) hQ (MQf.rf hQ.2.2) hv rfl

