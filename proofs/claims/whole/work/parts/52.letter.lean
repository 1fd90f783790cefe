/-! PileMapsModel: a letter behind open brackets; the whole expression -/
def STK (I : IM) (Q L : Nat) (ch : Nat → Nat) (S : AS) (m : Nat) (x : RW × Option RW) (rest : SK) (p : Nat) : Prop := TQ I Q L ch p ∧ SKP I Q (x :: rest) ∧ (I Q 17 = nI rest.length ∧ rest.length ≤ 4) ∧ I Q 11 = nI m ∧ VF (I (Q + 1)) S
def FRQ (Q : Nat) (I I' : IM) : Prop := (∀ j, j ≠ 9 → j ≠ 10 → j ≠ 11 → j ≠ 17 → I' Q j = I Q j) ∧ ∀ b, b ≠ Q → (b < Q + 7 ∨ Q + 12 < b) → I' b = I b
theorem FRQ.rf {Q : Nat} {I : IM} : FRQ Q I I := ⟨fun _ _ _ _ _ => rfl, fun _ _ _ => rfl⟩
theorem FRQ.tr {Q : Nat} {I I1 I2 : IM} (h1 : FRQ Q I I1) (h2 : FRQ Q I1 I2) : FRQ Q I I2 := ⟨fun j a b c d => (h2.1 j a b c d).trans (h1.1 j a b c d), fun b a c => (h2.2 b a c).trans (h1.2 b a c)⟩
theorem MQf.fr {Q q : Nat} {I I' : IM} (h : MQf Q q I I') : FRQ Q I I' := ⟨fun j a b _ _ => h.2.1 j a b, fun b a c => h.2.2 b a (by omega) (by omega)⟩
theorem LFf.fr {Q dd : Nat} {I I' : IM} (h : LFf Q dd I I') : FRQ Q I I' := ⟨fun j _ _ _ _ => by rw [h.1 Q (by omega)], fun b _ c => h.1 b (by omega)⟩
theorem TQ.lf {I I' : IM} {Q L dd : Nat} {ch : Nat → Nat} {p : Nat} (h : TQ I Q L ch p) (hF : LFf Q dd I I') : TQ I' Q L ch p := by
  have e0 := hF.1 Q (by omega)
  exact ⟨⟨⟨h.1.1.1, by rw [e0]; exact h.1.1.2⟩, fun j hj => by rw [hF.1 (Q + 6) (by omega)]; exact h.1.2 j hj⟩, h.2.1, by rw [e0]; exact h.2.2⟩
/-- the row, the place and the key may have changed -/
theorem STK.mq {I I' : IM} {Q L m p q : Nat} {ch : Nat → Nat} {S : AS} {x : RW × Option RW} {rest : SK} (h : STK I Q L ch S m x rest p) (hF : MQf Q q I I') (hq : q ≤ L) : STK I' Q L ch S m x rest q :=
  ⟨h.1.mq hF hq, SKP.cg (hF.2.2 _ (by omega) (by omega) (by omega)) (hF.2.2 _ (by omega) (by omega) (by omega)) (hF.2.2 _ (by omega) (by omega) (by omega)) (hF.2.2 _ (by omega) (by omega) (by omega)) h.2.1, ⟨by rw [hF.2.1 17 (by decide) (by decide)]; exact h.2.2.1.1, h.2.2.1.2⟩, by rw [hF.2.1 11 (by decide) (by decide)]; exact h.2.2.2.1, by rw [hF.2.2 (Q + 1) (by omega) (by omega) (by omega)]; exact h.2.2.2.2⟩
/-- the top of the stack has become another one -/
theorem STK.top {I I' : IM} {Q L m p : Nat} {ch : Nat → Nat} {S : AS} {x y : RW × Option RW} {rest : SK} (h : STK I Q L ch S m x rest p) (hF : LFf Q rest.length I I') (hy : RLf I' Q rest.length y) : STK I' Q L ch S m y rest p :=
  ⟨h.1.lf hF, ⟨hy, SKP.lf hF h.2.1.2 (Nat.le_refl _)⟩, ⟨by rw [hF.1 Q (by omega)]; exact h.2.2.1.1, h.2.2.1.2⟩, by rw [hF.1 Q (by omega)]; exact h.2.2.2.1, by rw [hF.1 (Q + 1) (by omega)]; exact h.2.2.2.2⟩
/-- a bracket is closed -/
theorem STK.pop {I : IM} {Q L m p : Nat} {ch : Nat → Nat} {S : AS} {x y : RW × Option RW} {rest : SK} (h : STK I Q L ch S m x (y :: rest) p) : STK (u2 I Q 17 (nI rest.length)) Q L ch S m y rest p :=
  ⟨⟨⟨⟨h.1.1.1.1, by rw [u2_k (by decide)]; exact h.1.1.1.2⟩, fun j hj => by rw [u2_n (by omega)]; exact h.1.1.2 j hj⟩, h.1.2.1, by rw [u2_k (by decide)]; exact h.1.2.2⟩, SKP.cg (u2_n (by omega)) (u2_n (by omega)) (u2_n (by omega)) (u2_n (by omega)) h.2.1.2, ⟨u2_s, by have := h.2.2.1.2; simp at this; omega⟩, by rw [u2_k (by decide)]; exact h.2.2.2.1, by rw [u2_n (by omega)]; exact h.2.2.2.2⟩
/-- a bracket is opened -/
theorem STK.push {I : IM} {Q L m p : Nat} {ch : Nat → Nat} {S : AS} {x : RW × Option RW} {rest : SK} (h : STK I Q L ch S m x rest p) (hl : rest.length < 4) : STK (u2 (u2 (u2 I Q 17 (nI (rest.length + 1))) (Q + 9) (rest.length + 1) (bI false)) (Q + 11) (rest.length + 1) (bI false)) Q L ch S m (hol, none) (x :: rest) p := by
  refine ⟨⟨⟨⟨h.1.1.1.1, by rw [u2_n (by omega), u2_n (by omega), u2_k (by decide)]; exact h.1.1.1.2⟩, fun j hj => by rw [u2_n (by omega), u2_n (by omega), u2_n (by omega)]; exact h.1.1.2 j hj⟩, h.1.2.1, by rw [u2_n (by omega), u2_n (by omega), u2_k (by decide)]; exact h.1.2.2⟩, ⟨⟨⟨false, ?_, (fun h => by cases h), fun _ => rfl⟩, ?_, fun w hw => by cases hw⟩, ?_⟩, ⟨by rw [u2_n (by omega), u2_n (by omega)]; exact u2_s, by simp; omega⟩, by rw [u2_n (by omega), u2_n (by omega), u2_k (by decide)]; exact h.2.2.2.1, by rw [u2_n (by omega), u2_n (by omega), u2_n (by omega)]; exact h.2.2.2.2⟩
  · rw [u2_n (by omega)]; exact u2_s
  · exact u2_s
  · exact SKP.lf (dd := rest.length + 1) (I := u2 I Q 17 (nI (rest.length + 1))) ⟨fun b hb => by rw [u2_n (by omega), u2_n (by omega)], fun j hj => ⟨by rw [u2_n (by omega), u2_k hj], by rw [u2_k hj, u2_n (by omega)]⟩, fun j hj => ⟨by rw [u2_n (by omega), u2_n (by omega)], by rw [u2_n (by omega), u2_n (by omega)]⟩⟩ (SKP.cg (u2_n (by omega)) (u2_n (by omega)) (u2_n (by omega)) (u2_n (by omega)) h.2.1) (by simp)
theorem fr_push {I : IM} {Q n : Nat} {v x y : Int32} : FRQ Q I (u2 (u2 (u2 I Q 17 v) (Q + 9) n x) (Q + 11) n y) := ⟨fun j _ _ _ d => by rw [u2_n (by omega), u2_n (by omega), u2_k d], fun b a c => by rw [u2_n (by omega), u2_n (by omega), u2_n a]⟩
theorem fr_pop {I : IM} {Q : Nat} {v : Int32} : FRQ Q I (u2 I Q 17 v) := ⟨fun j _ _ _ d => u2_k d, fun b a _ => u2_n a⟩
def TLQ (Q L : Nat) (ch : Nat → Nat) (S : AS) (m : Nat) (x : RW × Option RW) (rest : SK) (p : Nat) (I : IM) (r : Int32) (I' : IM) : Prop := ∃ (x2 : RW × Option RW) (rest2 : SK) (p2 : Nat), FRQ Q I I' ∧ facD L ch (aR S) (aV S) x rest p = facD L ch (aR S) (aV S) x2 rest2 p2 ∧ p ≤ p2 ∧ ((r = nI 0 ∧ STK I' Q L ch S m x2 rest2 p2 ∧ facD L ch (aR S) (aV S) x2 rest2 p2 = (none, p2)) ∨ (r = nI 1 ∧ bw L ch p2 65 70 = true ∧ STK I' Q L ch S m x2 rest2 (p2 + 1) ∧ RV (I' (Q + 7)) (aV S (ch p2 - 65))))
set_option maxHeartbeats 4000000 in
set_option maxRecDepth 100000 in
theorem tX7_takesLetter {l : Launch} {D : va_G} {A : Nat → Prop} {N : Nat} {Sh : SM} {J : JM} (I : IM) {Q : Nat} (hM : MM Sh J Q) {L : Nat} {ch : Nat → Nat} {S : AS} {m : Nat} {x : RW × Option RW} {rest : SK} {p : Nat} (hK : STK I Q L ch S m x rest p) (hp1 : 1 ≤ p) : CtM l D A yX7_takesLetter cX7_takesLetter 2 FieldType.boolean 3 N Sh I J [.ref Q] (fun r I' => TLQ Q L ch S m x rest p I r I') := by
  refine ct_I (l0 := [(0, .ref Q)]) (by decide +kernel) (Nat.le_of_ble_eq_true rfl) rfl (fun _ _ _ h => by obtain ⟨⟨_, _, _, _, _, _, h⟩, _⟩ := h; rcases h with ⟨rfl, _⟩ | ⟨rfl, _⟩ <;> rfl) ?_
  intro X hX hret _ _ _
  have hX : XK X RX7 cX7_takesLetter 2 3 := hX
  obtain ⟨q0, ⟨qj0, qj1, qj3, qj5, qj6, qj8, qj12, qj13, qj14, qj15, qj16, qj18, qj19⟩, ⟨qs1, qs2, qs3, qs4, qs5, qs6, qs7, qs8, qs9, qs10, qs11, qs12, qs13⟩⟩ := id hM
  have tail : ∀ (I1 : IM) (x1 : RW × Option RW) (rest1 : SK) (p1 : Nat), STK I1 Q L ch S m x1 rest1 p1 → FRQ Q I I1 → facD L ch (aR S) (aV S) x rest p = facD L ch (aR S) (aV S) x1 rest1 p1 → p ≤ p1 → (4 ≤ rest1.length ∨ sg L ch p1 40 = false) → WX X 0 0 N Sh I1 J 50 [(0, .ref Q)] [] := by
    intro I1 x1 rest1 p1 hK1 hF1 hE hle hno
    refine wa_aload_n hX dX7_takesLetter_50 rfl ?_
    refine wa_bipush (v := nI 65) hX dX7_takesLetter_51 (by decide) ?_
    refine wa_bipush (v := nI 70) hX dX7_takesLetter_53 (by decide) ?_
    refine wa_vP hX (tX7_isBetween _ hM hK1.1 (show 65 < 65536 by decide) (show 70 < 65536 by decide)) bX7_isBetween mX7_137 (by decide) (by decide) (ci := 6) ⟨by decide, rfl⟩ q0 rfl rfl (Nat.le_of_ble_eq_true rfl) dX7_takesLetter_55 (fun r_55 q_55 => ?_)
    subst q_55
    refine wa_if_ne (tgt := 63) hX dX7_takesLetter_58 (by decide) (fun c_58 => ?_) (fun c_58 => ?_)
    · skip
      have n1 := bI_n0.mp c_58
      have n1x := bw_t.mp n1
      have hL60 := hK1.1.1.1.1
      have lv : ∀ (n i : Nat), i + n = 16 → WX X 0 0 N Sh (uR I1 (Q + 7) (rowN i (fun k => nI (aV S (ch p1 - 65) k)) (I1 (Q + 7)))) J 65 [(0, .ref Q), (1, .int (nI i))] [] := by
        intro n
        induction n with
        | zero =>
          intro i  hi
          obtain rfl : 16 = i := by omega
          refine wa_iload_n hX dX7_takesLetter_65 rfl ?_
          refine wa_bipush (v := nI 16) hX dX7_takesLetter_66 (by decide) ?_
          refine wa_icmp_ge (tgt := 100) hX dX7_takesLetter_68 (by decide) (fun c_68 => ?_) (fun c_68 => absurd (Int32.le_refl _) c_68)
          refine wa_aload_n hX dX7_takesLetter_100 rfl ?_
          refine wa_dup hX dX7_takesLetter_101 rfl ?_
          refine wa_getI hX fX7_85 rfl q0 dX7_takesLetter_102 ?_
          rw [uR_n (b := Q) (by omega), hK1.1.2.2]
          refine wa_iconst (v := nI 1) hX dX7_takesLetter_105 (by decide) ?_
          refine wa_iadd hX dX7_takesLetter_106 ?_
          rw [show nI p1 + nI 1 = nI (p1 + 1) from nI_add _ 1]
          refine wa_putI hX fX7_85 rfl rfl ⟨rfl, rfl⟩ q0 dX7_takesLetter_107 ?_
          refine wa_iconst (v := nI 1) hX dX7_takesLetter_110 (by decide) ?_
          have hFa : MQf Q (p1 + 1) I1 (u2 (uR I1 (Q + 7) (rowN 16 (fun k => nI (aV S (ch p1 - 65) k)) (I1 (Q + 7)))) Q 9 (nI (p1 + 1))) := ((MQf.rf hK1.1.2.2).cf (fun b a1 _ => uR_n a1)).tr MQf.u
          refine hret _ _ _ _ _ ⟨⟨x1, rest1, p1, hF1.tr hFa.fr, hE, hle, Or.inr ⟨rfl, n1, hK1.mq hFa (by omega), fun k hk => ?_⟩⟩, rfl⟩ dX7_takesLetter_111
          rw [u2_n (by omega), uR_s, rowN_in hk]
          exact ⟨rfl, hK1.2.2.2.2.val (by omega) hk⟩
        | succ n ih =>
          intro i  hi
          have hlt : i < 16 := by omega
          refine wa_iload_n hX dX7_takesLetter_65 rfl ?_
          refine wa_bipush (v := nI 16) hX dX7_takesLetter_66 (by decide) ?_
          refine wa_icmp_ge (tgt := 100) hX dX7_takesLetter_68 (by decide) (fun c_68 => absurd c_68 (nI_ge hlt (by decide))) (fun c_68 => ?_)
          refine wa_aload_n hX dX7_takesLetter_71 rfl ?_
          refine wa_getR hX fX7_29 rfl q0 qj12 dX7_takesLetter_72 ?_
          refine wa_iload_n hX dX7_takesLetter_75 rfl ?_
          refine wa_aload_n hX dX7_takesLetter_76 rfl ?_
          refine wa_aload_n hX dX7_takesLetter_77 rfl ?_
          refine wa_getR hX fX7_25 rfl q0 qj8 dX7_takesLetter_78 ?_
          refine wa_aload_n hX dX7_takesLetter_81 rfl ?_
          refine wa_getI hX fX7_85 rfl q0 dX7_takesLetter_82 ?_
          rw [uR_n (b := Q) (by omega), hK1.1.2.2]
          refine wa_cald hX qs6 rfl (show p1 < 60 by omega) (by decide) dX7_takesLetter_85 ?_
          rw [uR_n (b := Q + 6) (by omega), (hK1.1.1.2 p1 n1x.1).1]
          refine wa_bipush (v := nI 65) hX dX7_takesLetter_86 (by decide) ?_
          refine wa_isub hX dX7_takesLetter_88 ?_
          refine wa_iload_n hX dX7_takesLetter_89 rfl ?_
          rw [isc n1x.2.1 (by omega)]
          refine wa_vP hX (tX7_value _ hM (S := S) (by rw [uR_n (by omega)]; exact hK1.2.2.2.2) (m := ch p1 - 65) (k := i) (by omega) (by omega)) bX7_value mX7_75 (by decide) (by decide) (ci := 6) ⟨by decide, rfl⟩ q0 rfl rfl (Nat.le_of_ble_eq_true rfl) dX7_takesLetter_90 (fun r_90 q_90 => ?_)
          subst q_90
          refine wa_iast hX qs7 rfl (by first | assumption | omega) (by decide) dX7_takesLetter_93 ?_
          refine wa_iinc hX dX7_takesLetter_94 rfl (inc1 _) (by decide) ?_
          refine wa_goto (tgt := 65) hX dX7_takesLetter_97 (by decide) ?_
          refine wx_sub (l' := [(0, _), (1, _)]) ⟨rfl, rfl, trivial⟩ ?_
          rw [u2_row (i := i) (g := fun k => nI (aV S (ch p1 - 65) k)) rfl]
          exact ih (i + 1) (by omega)
      refine wa_iconst (v := nI 0) hX dX7_takesLetter_63 (by decide) ?_
      refine wa_istore_n hX dX7_takesLetter_64 (by decide) ?_
      have e0 : I1 = uR I1 (Q + 7) (rowN 0 (fun k => nI (aV S (ch p1 - 65) k)) (I1 (Q + 7))) := row_0
      rw (occs := .pos [1]) [e0]
      refine wx_sub (l' := [(0, _), (1, _)]) ⟨rfl, rfl, trivial⟩ ?_
      exact lv 16 0 (by omega)
    · skip
      have n1 := bI_0.mp c_58
      refine wa_iconst (v := nI 0) hX dX7_takesLetter_61 (by decide) ?_
      exact hret _ _ _ _ _ ⟨⟨x1, rest1, p1, hF1, hE, hle, Or.inl ⟨rfl, hK1, fac_no x1 rest1 n1 hno⟩⟩, rfl⟩ dX7_takesLetter_62
  have lp : ∀ (n : Nat) (I1 : IM) (x1 : RW × Option RW) (rest1 : SK) (p1 : Nat), rest1.length + n = 4 → STK I1 Q L ch S m x1 rest1 p1 → FRQ Q I I1 → facD L ch (aR S) (aV S) x rest p = facD L ch (aR S) (aV S) x1 rest1 p1 → p ≤ p1 → WX X 0 0 N Sh I1 J 0 [(0, .ref Q)] [] := by
    intro n
    induction n with
    | zero =>
      intro I1 x1 rest1 p1 hn hK1 hF1 hE hle
      have hd1 := hK1.2.2.1.1
      refine wa_aload_n hX dX7_takesLetter_0 rfl ?_
      refine wa_getI hX fX7_152 rfl q0 dX7_takesLetter_1 ?_
      rw [hd1]
      refine wa_iconst (v := nI 4) hX dX7_takesLetter_4 (by decide) ?_
      refine wa_icmp_ge (tgt := 50) hX dX7_takesLetter_5 (by decide) (fun c_5 => ?_) (fun c_5 => absurd ((nI_leI (by decide) (by omega)).mpr (by omega)) c_5)
      refine wx_sub (l' := [(0, _)]) ⟨rfl, trivial⟩ ?_
      exact tail _ x1 rest1 p1 hK1 hF1 hE hle (Or.inl (by omega))
    | succ n ih =>
      intro I1 x1 rest1 p1 hn hK1 hF1 hE hle
      have hd1 := hK1.2.2.1.1
      refine wa_aload_n hX dX7_takesLetter_0 rfl ?_
      refine wa_getI hX fX7_152 rfl q0 dX7_takesLetter_1 ?_
      rw [hd1]
      refine wa_iconst (v := nI 4) hX dX7_takesLetter_4 (by decide) ?_
      refine wa_icmp_ge (tgt := 50) hX dX7_takesLetter_5 (by decide) (fun c_5 => ?_) (fun c_5 => ?_)
      · skip
        have n0 : 4 ≤ rest1.length := (nI_leI (by decide) (by omega)).mp c_5
        refine wx_sub (l' := [(0, _)]) ⟨rfl, trivial⟩ ?_
        exact tail _ x1 rest1 p1 hK1 hF1 hE hle (Or.inl n0)
      · skip
        have n0 : rest1.length < 4 := Nat.lt_of_not_le (fun h => c_5 ((nI_leI (by decide) (by omega)).mpr h))
        refine wa_aload_n hX dX7_takesLetter_8 rfl ?_
        refine wa_bipush (v := nI 40) hX dX7_takesLetter_9 (by decide) ?_
        refine wa_vM hX (tX7_takes _ hM hK1.1 (show 40 < 65536 by decide)) bX7_takes mX7_146 (by decide) (by decide) (ci := 6) ⟨by decide, rfl⟩ q0 rfl rfl (Nat.le_of_ble_eq_true rfl) dX7_takesLetter_11 (fun r_11 I_11 q_11 => ?_)
        obtain ⟨w2, w3⟩ := q_11
        subst w2
        refine wa_if_eq (tgt := 50) hX dX7_takesLetter_14 (by decide) (fun c_14 => ?_) (fun c_14 => ?_)
        · skip
          have n1 := bI_0.mp c_14
          rw [n1] at w3
          have w3 : I_11 = I1 := w3.trans hK1.1.stay
          rw [w3]
          refine wx_sub (l' := [(0, _)]) ⟨rfl, trivial⟩ ?_
          exact tail _ x1 rest1 p1 hK1 hF1 hE hle (Or.inr n1)
        · skip
          have n1 := bI_n0.mp c_14
          have n1x := sg_t.mp n1
          rw [n1] at w3
          have w3 : I_11 = u2 I1 Q 9 (nI (p1 + 1)) := w3
          subst w3
          have hK2 : STK (u2 I1 Q 9 (nI (p1 + 1))) Q L ch S m x1 rest1 (p1 + 1) := hK1.mq MQf.u (by omega)
          refine wa_aload_n hX dX7_takesLetter_17 rfl ?_
          refine wa_dup hX dX7_takesLetter_18 rfl ?_
          refine wa_getI hX fX7_152 rfl q0 dX7_takesLetter_19 ?_
          rw [show (u2 I1 Q 9 (nI (p1 + 1))) Q 17 = nI rest1.length from hK2.2.2.1.1]
          refine wa_iconst (v := nI 1) hX dX7_takesLetter_22 (by decide) ?_
          refine wa_iadd hX dX7_takesLetter_23 ?_
          rw [show nI rest1.length + nI 1 = nI (rest1.length + 1) from nI_add _ 1]
          refine wa_putI hX fX7_152 rfl rfl ⟨rfl, rfl⟩ q0 dX7_takesLetter_24 ?_
          refine wa_aload_n hX dX7_takesLetter_27 rfl ?_
          refine wa_getR hX fX7_35 rfl q0 qj14 dX7_takesLetter_28 ?_
          refine wa_aload_n hX dX7_takesLetter_31 rfl ?_
          refine wa_getI hX fX7_152 rfl q0 dX7_takesLetter_32 ?_
          rw [u2_s]
          refine wa_iconst (v := nI 0) hX dX7_takesLetter_35 (by decide) ?_
          refine wa_zast hX qs9 rfl (show rest1.length + 1 < 5 by omega) (by decide) dX7_takesLetter_36 ?_
          rw [nar_0]
          refine wa_aload_n hX dX7_takesLetter_37 rfl ?_
          refine wa_getR hX fX7_42 rfl q0 qj16 dX7_takesLetter_38 ?_
          refine wa_aload_n hX dX7_takesLetter_41 rfl ?_
          refine wa_getI hX fX7_152 rfl q0 dX7_takesLetter_42 ?_
          rw [u2_n (b := Q) (by omega), u2_s]
          refine wa_iconst (v := nI 0) hX dX7_takesLetter_45 (by decide) ?_
          refine wa_zast hX qs11 rfl (show rest1.length + 1 < 5 by omega) (by decide) dX7_takesLetter_46 ?_
          rw [nar_0]
          refine wa_goto (tgt := 0) hX dX7_takesLetter_47 (by decide) ?_
          refine wx_sub (l' := [(0, _)]) ⟨rfl, trivial⟩ ?_
          exact ih _ (hol, none) (x1 :: rest1) (p1 + 1) (by simp; omega) (hK2.push n0) (hF1.tr ((MQf.u (q := p1 + 1)).fr.tr fr_push)) (hE.trans (fac_open hK1.1.1.1.1 x1 rest1 (by omega) n0 n1)) (by omega)
  exact lp (4 - rest.length) I x rest p (by have := hK.2.2.1.2; omega) hK FRQ.rf rfl (Nat.le_refl _)

