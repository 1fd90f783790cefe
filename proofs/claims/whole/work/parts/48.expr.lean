/-! Reader: an expression and a factor, by the open brackets -/
theorem SV.xf {I I' : IM} {r o1 ia q sb : Nat} {S : AS} (h : SV I sb S) (hF : XF r o1 ia q I I') (hd : sb + 58 ≤ r) (hia : r ≤ ia) : SV I' sb S := h.keep (fun b h1 h2 => hF.2 b (by omega) (by omega) (by omega))
theorem fac_l {L : Nat} {ch : Nat → Nat} {R : Nat} {mv : Nat → RW} {p : Nat} (b : Nat) (h : bw L ch p 65 70 = true) : facF L ch R mv b p = sgnF L ch R 60 (mv (ch p - 65)) (p + 1) := by
  cases b with
  | zero => unfold facF; rw [if_pos h]
  | succ b => unfold facF; rw [if_pos h]
theorem fac_z {L : Nat} {ch : Nat → Nat} {R : Nat} {mv : Nat → RW} {p : Nat} (b : Nat) (h : bw L ch p 65 70 = false) (h2 : b = 0 ∨ sg L ch p 40 = false) : facF L ch R mv b p = (none, p) := by
  cases b with
  | zero => unfold facF; rw [if_neg (by rw [h]; decide)]
  | succ b => unfold facF; rw [if_neg (by rw [h]; decide), if_neg (by rw [h2.resolve_left (by omega)]; decide)]
theorem fac_p {L : Nat} {ch : Nat → Nat} {R : Nat} {mv : Nat → RW} {p : Nat} (b : Nat) (h : bw L ch p 65 70 = false) (h2 : sg L ch p 40 = true) : facF L ch R mv (b + 1) p = bnd (terF L ch (facF L ch R mv b) 60 hol (p + 1)) (fun v q => if sg L ch q 41 = true then sgnF L ch R 60 v (q + 1) else (none, q)) := by
  conv => lhs; unfold facF
  rw [if_neg (by rw [h]; decide), if_pos h2]
  rfl
def FacC (l : Launch) (D : va_G) (A : Nat → Prop) (N : Nat) (Sh : SM) (J : JM) (r sb : Nat) (S : AS) (L : Nat) (ch : Nat → Nat) (oo b : Nat) : Prop := ∀ (I : IM) (p ia : Nat), TT I (r + 1) L ch p → SV I sb S → (r + 4 ≤ ia ∧ ia < r + 4 + 2 * (oo + 1)) →
  CtM l D A yX1_readFactor cX1_readFactor 5 FieldType.boolean (5 + 2 * b) N Sh I J [.ref r, .ref sb, .ref ia, .int (nI oo)] (fun x I' => EQ r (oo + 1) ia I (facF L ch (aR S) (aV S) b p) x I')
def ExpC (l : Launch) (D : va_G) (A : Nat → Prop) (N : Nat) (Sh : SM) (J : JM) (r sb : Nat) (S : AS) (L : Nat) (ch : Nat → Nat) (oo b : Nat) : Prop := ∀ (I : IM) (p ia : Nat), TT I (r + 1) L ch p → SV I sb S → (ia = r + 15 ∨ (r + 4 ≤ ia ∧ ia < r + 4 + 2 * oo)) →
  CtM l D A yX1_readExpression cX1_readExpression 8 FieldType.boolean (6 + 2 * b) N Sh I J [.ref r, .ref sb, .ref ia, .int (nI oo)] (fun x I' => EQ r oo ia I (terF L ch (facF L ch (aR S) (aV S) b) 60 hol p) x I')
theorem EQ.n {r o ia q : Nat} {I I' : IM} {res : Option RW × Nat} (h : res = (none, q)) (hF : XF r o ia q I I') : EQ r o ia I res (nI 0) I' := by
  subst h
  exact ⟨rfl, hF, fun w h => by cases h⟩
theorem EQ.s {r o ia q : Nat} {I I' : IM} {res : Option RW × Nat} {w : RW} (h : res = (some w, q)) (hF : XF r o ia q I I') (hv : RV (I' ia) w) : EQ r o ia I res (nI 1) I' := by
  subst h
  exact ⟨rfl, hF, fun w h => by cases h; exact hv⟩
theorem EQ.f {r o ia : Nat} {I I' : IM} {res : Option RW × Nat} {x : Int32} (h : EQ r o ia I res x I') (hx : x = 0) : ∃ q, res = (none, q) ∧ XF r o ia q I I' := by
  obtain ⟨h1, h2, h3⟩ := h
  rcases res with ⟨_ | w, q⟩
  · exact ⟨q, rfl, h2⟩
  · exact absurd (show nI 1 = 0 from h1.symm.trans hx) (by decide)
theorem EQ.t {r o ia : Nat} {I I' : IM} {res : Option RW × Nat} {x : Int32} (h : EQ r o ia I res x I') (hx : ¬ x = 0) : ∃ w q, res = (some w, q) ∧ XF r o ia q I I' ∧ RV (I' ia) w := by
  obtain ⟨h1, h2, h3⟩ := h
  rcases res with ⟨_ | w, q⟩
  · exact absurd h1 hx
  · exact ⟨w, q, rfl, h2, h3 w rfl⟩
theorem EQ.c {r o ia : Nat} {I I' : IM} {res : Option RW × Nat} {x : Int32} (h : EQ r o ia I res x I') : (∃ q, res = (none, q) ∧ x = nI 0 ∧ XF r o ia q I I') ∨ ∃ w q, res = (some w, q) ∧ x = nI 1 ∧ XF r o ia q I I' ∧ RV (I' ia) w := by
  obtain ⟨h1, h2, h3⟩ := h
  rcases res with ⟨_ | w, q⟩
  · exact Or.inl ⟨q, rfl, h1, h2⟩
  · exact Or.inr ⟨w, q, rfl, h1, h2, h3 w rfl⟩
set_option maxHeartbeats 4000000 in
set_option maxRecDepth 100000 in
theorem tX1_readExpression {l : Launch} {D : va_G} {A : Nat → Prop} {N : Nat} {Sh : SM} {J : JM} (I : IM) {r sb : Nat} (hRX : RX Sh J r) (hS : SL Sh J sb) (hsb : sb + 58 ≤ r) {S : AS} {L : Nat} {ch : Nat → Nat} {oo b : Nat} (hob : oo + b = 4) (hfac : FacC l D A N Sh J r sb S L ch oo b) {p ia : Nat} (hT : TT I (r + 1) L ch p) (hV : SV I sb S) (hia : ia = r + 15 ∨ (r + 4 ≤ ia ∧ ia < r + 4 + 2 * oo)) : CtM l D A yX1_readExpression cX1_readExpression 8 FieldType.boolean (6 + 2 * b) N Sh I J [.ref r, .ref sb, .ref ia, .int (nI oo)] (fun x I' => EQ r oo ia I (terF L ch (facF L ch (aR S) (aV S) b) 60 hol p) x I') := by
  refine ct_I (l0 := [(0, .ref r), (1, .ref sb), (2, .ref ia), (3, .int (nI oo))]) (by decide +kernel) (Nat.le_of_ble_eq_true rfl) rfl (fun _ _ _ h => by obtain ⟨⟨rfl, _⟩, _⟩ := h; exact nar_B _) ?_
  intro X hX hret el eD eA
  subst el eD eA
  have hX : XK X RX1 cX1_readExpression 8 (6 + 2 * b) := hX
  obtain ⟨r0, ⟨rj0, rj1, rj2, rj3⟩, rT, rR, rrs, rw0, rs15⟩ := id hRX
  obtain ⟨s0, sj0, sj1, sA, sQ⟩ := id hS
  have spr := sA.r
  obtain ⟨-, spile⟩ := id sA
  have hiaS : shI Sh ia 16 := by
    rcases hia with e | e
    · rw [e]; exact rs15
    · have := (rrs (ia - (r + 4)) (by omega)).2
      rw [show r + 4 + (ia - (r + 4)) = ia by omega] at this
      exact this
  have hp1 := hT.2.1.1
  have hL60 := hT.1.1
  have lp : ∀ (n i : Nat) (I1 : IM) (a : RW) (p1 : Nat), i + n = 60 → TT I1 (r + 1) L ch p1 → RV (I1 ia) a → XF r oo ia p1 I I1 → terF L ch (facF L ch (aR S) (aV S) b) n a p1 = terF L ch (facF L ch (aR S) (aV S) b) 60 hol p → WX X 0 0 N Sh I1 J 42 [(0, .ref r), (1, .ref sb), (2, .ref ia), (3, .int (nI oo)), (4, .ref (r + 4 + 2 * oo)), (5, .ref (r + 4 + (2 * oo + 1))), (6, .int (nI i))] [] := by
    intro n
    induction n with
    | zero =>
      intro i I1 a p1 hi hT1 ha hF hR
      obtain rfl : 60 = i := by omega
      refine wa_iload hX dX1_readExpression_42 rfl ?_
      refine wa_bipush (v := nI 60) hX dX1_readExpression_44 (by decide) ?_
      refine wa_icmp_ge (tgt := 136) hX dX1_readExpression_46 (by decide) (fun c_46 => ?_) (fun c_46 => absurd (Int32.le_refl _) c_46)
      refine wa_iconst (v := nI 1) hX dX1_readExpression_136 (by decide) ?_
      have hR : (some a, p1) = terF L ch (facF L ch (aR S) (aV S) b) 60 hol p := hR
      exact hret _ _ _ _ _ ⟨EQ.s hR.symm hF ha, rfl⟩ dX1_readExpression_137
    | succ n ih =>
      intro i I1 a p1 hi hT1 ha hF hR
      have hi6 : i < 60 := by omega
      have nxt : ∀ (I2 : IM) (t2 : RW) (q2 : Nat), TT I2 (r + 1) L ch q2 → RV (I2 (r + 4 + 2 * oo)) t2 → RV (I2 ia) a → XF r oo ia q2 I I2 → (if sg L ch q2 47 = true then terF L ch (facF L ch (aR S) (aV S) b) n (overR a t2) (q2 + 1) else (some (overR a t2), q2)) = terF L ch (facF L ch (aR S) (aV S) b) 60 hol p → WX X 0 0 N Sh I2 J 110 [(0, .ref r), (1, .ref sb), (2, .ref ia), (3, .int (nI oo)), (4, .ref (r + 4 + 2 * oo)), (5, .ref (r + 4 + (2 * oo + 1))), (6, .int (nI i))] [] := by
        intro I2 t2 q2 hT2 ht2 ha2 hF2 hR2
        refine wa_aload_n hX dX1_readExpression_110 rfl ?_
        refine wa_aload hX dX1_readExpression_111 rfl ?_
        refine wa_sW hX (tX2_overlay _ hiaS (rrs (2 * oo) (by omega)).2 (by omega)) bX2_overlay mX1_78 (by omega) (by decide) rfl rfl (Nat.le_of_ble_eq_true rfl) dX1_readExpression_113 (fun I_113 q_113 => ?_)
        subst q_113
        have hv3 : RV ((uR I2 ia (rowN 16 (fun k => if I2 ia k = nI 16 then I2 (r + 4 + 2 * oo) k else I2 ia k) (I2 ia))) ia) (overR a t2) := fun k hk => by
          rw [uR_s, rowN_in hk, (ha2 k hk).1]
          show (if nI (a k) = nI 16 then _ else _) = nI (if a k = 16 then t2 k else a k) ∧ (if a k = 16 then t2 k else a k) ≤ 16
          by_cases e : a k = 16
          · rw [if_pos (by rw [e]), if_pos e]; exact ht2 k hk
          · rw [if_neg (nI_ne e (by have := (ha2 k hk).2; omega) (by decide)), if_neg e]; exact ⟨rfl, (ha2 k hk).2⟩
        have hT3 : TT (uR I2 ia (rowN 16 (fun k => if I2 ia k = nI 16 then I2 (r + 4 + 2 * oo) k else I2 ia k) (I2 ia))) (r + 1) L ch q2 := hT2.cg (uR_n (by omega)) (uR_n (by omega))
        have hF3 : XF r oo ia q2 I (uR I2 ia (rowN 16 (fun k => if I2 ia k = nI 16 then I2 (r + 4 + 2 * oo) k else I2 ia k) (I2 ia))) := hF2.cg (uR_n (by omega)) (fun b a1 a2 a3 => uR_n a2)
        refine wa_aload_n hX dX1_readExpression_116 rfl ?_
        refine wa_getR hX fX1_12 rfl r0 rj0 dX1_readExpression_117 ?_
        refine wa_bipush (v := nI 47) hX dX1_readExpression_120 (by decide) ?_
        refine wa_vM hX (tX5_take _ rT hT3 (show 47 < 65536 by decide)) bX5_take mX1_50 (by omega) (by decide) (ci := 4) ⟨by decide, rfl⟩ rT.1 rfl rfl (Nat.le_of_ble_eq_true rfl) dX1_readExpression_122 (fun r_122 I_122 q_122 => ?_)
        obtain ⟨w2, w3⟩ := q_122
        subst w2
        refine wa_if_ne (tgt := 130) hX dX1_readExpression_125 (by decide) (fun c_125 => ?_) (fun c_125 => ?_)
        · skip
          have n1 := bI_n0.mp c_125
          have n1x := sg_t.mp n1
          rw [n1] at w3
          have w3 : I_122 = u2 (uR I2 ia (rowN 16 (fun k => if I2 ia k = nI 16 then I2 (r + 4 + 2 * oo) k else I2 ia k) (I2 ia))) (r + 1) 2 (nI (q2 + 1)) := w3
          subst w3
          rw [if_pos n1] at hR2
          refine wa_iinc hX dX1_readExpression_130 rfl (inc1 _) (by decide) ?_
          refine wa_goto (tgt := 42) hX dX1_readExpression_133 (by decide) ?_
          refine wx_sub (l' := [(0, _), (1, _), (2, _), (3, _), (4, _), (5, _), (6, _)]) ⟨rfl, rfl, rfl, rfl, rfl, rfl, rfl, trivial⟩ ?_
          exact ih (i + 1) _ (overR a t2) (q2 + 1) (by omega) (hT3.mv (by omega)) (fun k hk => by rw [u2_n (by omega)]; exact hv3 k hk) (hF3.tr XF.u2 (Nat.le_refl _) (Or.inl rfl)) hR2
        · skip
          have n1 := bI_0.mp c_125
          rw [n1] at w3
          rw [if_neg (by rw [n1]; decide)] at hR2
          have w3 : I_122 = (uR I2 ia (rowN 16 (fun k => if I2 ia k = nI 16 then I2 (r + 4 + 2 * oo) k else I2 ia k) (I2 ia))) := w3.trans hT3.stay
          subst w3
          refine wa_iconst (v := nI 1) hX dX1_readExpression_128 (by decide) ?_
          exact hret _ _ _ _ _ ⟨EQ.s hR2.symm hF3 hv3, rfl⟩ dX1_readExpression_129
      have li : ∀ (m1 j : Nat) (I2 : IM) (t2 : RW) (q2 : Nat), j + m1 = 60 → (TT I2 (r + 1) L ch q2) → (RV (I2 (r + 4 + 2 * oo)) t2) → (RV (I2 ia) a) → (XF r oo ia q2 I I2) → (bnd (facsF L ch (facF L ch (aR S) (aV S) b) m1 t2 q2) (fun t2 q2 => if sg L ch q2 47 = true then terF L ch (facF L ch (aR S) (aV S) b) n (overR a t2) (q2 + 1) else (some (overR a t2), q2)) = terF L ch (facF L ch (aR S) (aV S) b) 60 hol p) → WX X 0 0 N Sh I2 J 65 [(0, .ref r), (1, .ref sb), (2, .ref ia), (3, .int (nI oo)), (4, .ref (r + 4 + 2 * oo)), (5, .ref (r + 4 + (2 * oo + 1))), (6, .int (nI i)), (7, .int (nI j))] [] := by
        intro m1
        induction m1 with
        | zero =>
          intro j I2 t2 q2 hi hT2 ht2 ha2 hF2 hR2
          obtain rfl : 60 = j := by omega
          refine wa_iload hX dX1_readExpression_65 rfl ?_
          refine wa_bipush (v := nI 60) hX dX1_readExpression_67 (by decide) ?_
          refine wa_icmp_ge (tgt := 110) hX dX1_readExpression_69 (by decide) (fun c_69 => ?_) (fun c_69 => absurd (Int32.le_refl _) c_69)
          refine wx_sub (l' := [(0, _), (1, _), (2, _), (3, _), (4, _), (5, _), (6, _)]) ⟨rfl, rfl, rfl, rfl, rfl, rfl, rfl, trivial⟩ ?_
          exact nxt _ t2 q2 hT2 ht2 ha2 hF2 hR2
        | succ m1 ihj =>
          intro j I2 t2 q2 hi hT2 ht2 ha2 hF2 hR2
          have hlt : j < 60 := by omega
          refine wa_iload hX dX1_readExpression_65 rfl ?_
          refine wa_bipush (v := nI 60) hX dX1_readExpression_67 (by decide) ?_
          refine wa_icmp_ge (tgt := 110) hX dX1_readExpression_69 (by decide) (fun c_69 => absurd c_69 (nI_ge hlt (by decide))) (fun c_69 => ?_)
          refine wa_aload_n hX dX1_readExpression_72 rfl ?_
          refine wa_getR hX fX1_12 rfl r0 rj0 dX1_readExpression_73 ?_
          refine wa_bipush (v := nI 46) hX dX1_readExpression_76 (by decide) ?_
          refine wa_vM hX (tX5_take _ rT hT2 (show 46 < 65536 by decide)) bX5_take mX1_50 (by omega) (by decide) (ci := 4) ⟨by decide, rfl⟩ rT.1 rfl rfl (Nat.le_of_ble_eq_true rfl) dX1_readExpression_78 (fun r_78 I_78 q_78 => ?_)
          obtain ⟨w2, w3⟩ := q_78
          subst w2
          refine wa_if_eq (tgt := 110) hX dX1_readExpression_81 (by decide) (fun c_81 => ?_) (fun c_81 => ?_)
          · skip
            have n1 := bI_0.mp c_81
            rw [n1] at w3
            have w3 : I_78 = I2 := w3.trans hT2.stay
            rw [w3]
            rw [facs_s m1 t2 q2, if_neg (by rw [n1]; decide)] at hR2
            refine wx_sub (l' := [(0, _), (1, _), (2, _), (3, _), (4, _), (5, _), (6, _)]) ⟨rfl, rfl, rfl, rfl, rfl, rfl, rfl, trivial⟩ ?_
            exact nxt _ t2 q2 hT2 ht2 ha2 hF2 hR2
          · skip
            have n1 := bI_n0.mp c_81
            have n1x := sg_t.mp n1
            rw [n1] at w3
            have w3 : I_78 = u2 I2 (r + 1) 2 (nI (q2 + 1)) := w3
            subst w3
            rw [facs_s m1 t2 q2, if_pos n1, bnd_as] at hR2
            have hT4 := hT2.mv (show q2 + 1 ≤ L by omega)
            have hF4 := hF2.tr XF.u2 (Nat.le_refl _) (Or.inl rfl) (q := q2 + 1) (I2 := u2 I2 (r + 1) 2 (nI (q2 + 1)))
            refine wa_aload_n hX dX1_readExpression_84 rfl ?_
            refine wa_aload_n hX dX1_readExpression_85 rfl ?_
            refine wa_aload hX dX1_readExpression_86 rfl ?_
            refine wa_iload_n hX dX1_readExpression_88 rfl ?_
            refine wa_vM hX (hfac _ _ (r + 4 + (2 * oo + 1)) hT4 (hV.xf hF4 hsb (by omega)) (by omega)) bX1_readFactor mX1_69 (by omega) (by decide) (ci := 1) ⟨by decide, rfl⟩ r0 rfl rfl (Nat.le_of_ble_eq_true rfl) dX1_readExpression_89 (fun r_89 I_89 q_89 => ?_)
            refine wa_if_ne (tgt := 97) hX dX1_readExpression_92 (by decide) (fun c_92 => ?_) (fun c_92 => ?_)
            · skip
              obtain ⟨f, q3, ef, hF5, hf5⟩ := q_89.t c_92
              obtain ⟨hq3, hq4⟩ : q2 + 1 ≤ q3 ∧ q3 ≤ L := by
                rcases fac_c (ch := ch) (R := aR S) (mv := aV S) (L := L) b (q2 + 1) (by omega) with ⟨q, e, h1, h2⟩ | ⟨x, q, e, h1, h2⟩
                · rw [e] at ef; cases ef
                · rw [e] at ef; cases ef; exact ⟨by omega, h2⟩
              rw [bnd_s ef] at hR2
              have hT5 := hT4.xf hF5 hq4 (by omega)
              have hF6 := hF4.tr hF5 (show oo ≤ oo + 1 by omega) (Or.inr (by omega))
              have ht5 : RV (I_89 (r + 4 + 2 * oo)) t2 := by
                rw [hF5.2 _ (by omega) (by omega) (by omega), u2_n (by omega)]
                exact ht2
              have ha5 : RV (I_89 ia) a := by
                rw [hF5.2 _ (by omega) (by omega) (by omega), u2_n (by omega)]
                exact ha2
              refine wa_aload hX dX1_readExpression_97 rfl ?_
              refine wa_aload hX dX1_readExpression_99 rfl ?_
              refine wa_sW hX (tX2_compose _ (rrs (2 * oo) (by omega)).2 ht5 (rrs (2 * oo + 1) (by omega)).2 hf5 (by omega)) bX2_compose mX1_72 (by omega) (by decide) rfl rfl (Nat.le_of_ble_eq_true rfl) dX1_readExpression_101 (fun I_101 q_101 => ?_)
              subst q_101
              refine wa_iinc hX dX1_readExpression_104 rfl (inc1 _) (by decide) ?_
              refine wa_goto (tgt := 65) hX dX1_readExpression_107 (by decide) ?_
              refine wx_sub (l' := [(0, _), (1, _), (2, _), (3, _), (4, _), (5, _), (6, _), (7, _)]) ⟨rfl, rfl, rfl, rfl, rfl, rfl, rfl, rfl, trivial⟩ ?_
              refine ihj (j + 1) _ (compR t2 f) q3 (by omega) (hT5.cg (uR_n (by omega)) (uR_n (by omega))) (fun k hk => ?_) (by rw [uR_n (by omega)]; exact ha5) (hF6.cg (uR_n (by omega)) (fun b a1 a2 a3 => uR_n (by omega))) hR2
              rw [uR_s, rowN_in hk]
              exact ⟨rfl, stp_le hf5 _⟩
            · skip
              obtain ⟨q3, ef, hF5⟩ := q_89.f c_92
              rw [bnd_n ef] at hR2
              refine wa_iconst (v := nI 0) hX dX1_readExpression_95 (by decide) ?_
              exact hret _ _ _ _ _ ⟨EQ.n hR2.symm (hF4.tr hF5 (show oo ≤ oo + 1 by omega) (Or.inr (by omega))), rfl⟩ dX1_readExpression_96
      refine wa_iload hX dX1_readExpression_42 rfl ?_
      refine wa_bipush (v := nI 60) hX dX1_readExpression_44 (by decide) ?_
      refine wa_icmp_ge (tgt := 136) hX dX1_readExpression_46 (by decide) (fun c_46 => absurd c_46 (nI_ge hi6 (by decide))) (fun c_46 => ?_)
      refine wa_aload_n hX dX1_readExpression_49 rfl ?_
      refine wa_aload_n hX dX1_readExpression_50 rfl ?_
      refine wa_aload hX dX1_readExpression_51 rfl ?_
      refine wa_iload_n hX dX1_readExpression_53 rfl ?_
      refine wa_vM hX (hfac I1 p1 (r + 4 + 2 * oo) hT1 (hV.xf hF hsb (by omega)) (by omega)) bX1_readFactor mX1_69 (by omega) (by decide) (ci := 1) ⟨by decide, rfl⟩ r0 rfl rfl (Nat.le_of_ble_eq_true rfl) dX1_readExpression_54 (fun r_54 I_54 q_54 => ?_)
      refine wa_if_ne (tgt := 62) hX dX1_readExpression_57 (by decide) (fun c_57 => ?_) (fun c_57 => ?_)
      · skip
        obtain ⟨t, q, ef, hF1, ht1⟩ := q_54.t c_57
        obtain ⟨hq1, hq2⟩ : p1 ≤ q ∧ q ≤ L := by
          rcases fac_c (ch := ch) (R := aR S) (mv := aV S) (L := L) b p1 hT1.2.1.1 with ⟨q, e, h1, h2⟩ | ⟨x, q, e, h1, h2⟩
          · rw [e] at ef; cases ef
          · rw [e] at ef; cases ef; exact ⟨by omega, h2⟩
        rw [ter_s n a p1, bnd_s ef] at hR
        have ha1 : RV (I_54 ia) a := by
          rw [hF1.2 _ (by omega) (by omega) (by omega)]
          exact ha
        refine wa_iconst (v := nI 0) hX dX1_readExpression_62 (by decide) ?_
        refine wa_istore hX dX1_readExpression_63 (by decide) ?_
        refine wx_sub (l' := [(0, _), (1, _), (2, _), (3, _), (4, _), (5, _), (6, _), (7, _)]) ⟨rfl, rfl, rfl, rfl, rfl, rfl, rfl, rfl, trivial⟩ ?_
        exact li 60 0 _ t q (by omega) (hT1.xf hF1 hq2 (by omega)) ht1 ha1 (hF.tr hF1 (show oo ≤ oo + 1 by omega) (Or.inr (by omega))) hR
      · skip
        obtain ⟨q, ef, hF1⟩ := q_54.f c_57
        rw [ter_s n a p1, bnd_n ef] at hR
        refine wa_iconst (v := nI 0) hX dX1_readExpression_60 (by decide) ?_
        exact hret _ _ _ _ _ ⟨EQ.n hR.symm (hF.tr hF1 (show oo ≤ oo + 1 by omega) (Or.inr (by omega))), rfl⟩ dX1_readExpression_61
  refine wa_iload_n hX dX1_readExpression_0 rfl ?_
  refine wa_if_lt (tgt := 9) hX dX1_readExpression_1 (by decide) (fun c_1 => absurd c_1 (nI_pos (by omega))) (fun c_1 => ?_)
  refine wa_iload_n hX dX1_readExpression_4 rfl ?_
  refine wa_iconst (v := nI 4) hX dX1_readExpression_5 (by decide) ?_
  refine wa_icmp_le (tgt := 11) hX dX1_readExpression_6 (by decide) (fun c_6 => ?_) (fun c_6 => absurd ((nI_leI (by omega) (by decide)).mpr (by omega)) c_6)
  refine wa_aload_n hX dX1_readExpression_11 rfl ?_
  refine wa_getR hX fX1_20 rfl r0 rj1 dX1_readExpression_12 ?_
  refine wa_iconst (v := nI 2) hX dX1_readExpression_15 (by decide) ?_
  refine wa_iload_n hX dX1_readExpression_16 rfl ?_
  refine wa_imul hX dX1_readExpression_17 ?_
  refine wa_aald hX rR (pk_mul 2 oo) (show 2 * oo < 10 by omega) (by decide) (rrs (2 * oo) (by omega)).1 dX1_readExpression_18 ?_
  refine wa_astore hX dX1_readExpression_19 (by decide) ?_
  refine wa_aload_n hX dX1_readExpression_21 rfl ?_
  refine wa_getR hX fX1_20 rfl r0 rj1 dX1_readExpression_22 ?_
  refine wa_iconst (v := nI 2) hX dX1_readExpression_25 (by decide) ?_
  refine wa_iload_n hX dX1_readExpression_26 rfl ?_
  refine wa_imul hX dX1_readExpression_27 ?_
  refine wa_iconst (v := nI 1) hX dX1_readExpression_28 (by decide) ?_
  refine wa_iadd hX dX1_readExpression_29 ?_
  refine wa_aald hX rR (by rw [pk_mul]; exact nI_add _ 1) (show 2 * oo + 1 < 10 by omega) (by decide) (rrs (2 * oo + 1) (by omega)).1 dX1_readExpression_30 ?_
  refine wa_astore hX dX1_readExpression_31 (by decide) ?_
  refine wa_aload_n hX dX1_readExpression_33 rfl ?_
  refine wa_bipush (v := nI 16) hX dX1_readExpression_34 (by decide) ?_
  refine wa_sW hX (tJ7_fill_53178 _ hiaS (by decide)) bJ7_fill_53178 mX1_37 (by omega) (by decide) rfl rfl (Nat.le_of_ble_eq_true rfl) dX1_readExpression_36 (fun I_36 q_36 => ?_)
  subst q_36
  refine wa_iconst (v := nI 0) hX dX1_readExpression_39 (by decide) ?_
  refine wa_istore hX dX1_readExpression_40 (by decide) ?_
  refine wx_sub (l' := [(0, _), (1, _), (2, _), (3, _), (4, _), (5, _), (6, _)]) ⟨rfl, rfl, rfl, rfl, rfl, rfl, rfl, trivial⟩ ?_
  exact lp 60 0 _ hol p (by omega) (hT.cg (uR_n (by omega)) (uR_n (by omega))) (fun k hk => by rw [uR_s, rowN_in hk]; exact ⟨rfl, Nat.le_refl _⟩) ((XF.rf hT).cg (uR_n (by omega)) (fun b a1 a2 a3 => uR_n a2)) rfl

set_option maxHeartbeats 4000000 in
set_option maxRecDepth 100000 in
theorem tX1_readFactor {l : Launch} {D : va_G} {A : Nat → Prop} {N : Nat} {Sh : SM} {J : JM} (I : IM) {r sb : Nat} (hRX : RX Sh J r) (hS : SL Sh J sb) (hsb : sb + 58 ≤ r) {S : AS} {L : Nat} {ch : Nat → Nat} {oo b : Nat} (hob : oo + b = 4) (hexp : ∀ b1, b = b1 + 1 → ExpC l D A N Sh J r sb S L ch (oo + 1) b1) {p ia : Nat} (hT : TT I (r + 1) L ch p) (hV : SV I sb S) (hia : r + 4 ≤ ia ∧ ia < r + 4 + 2 * (oo + 1)) : CtM l D A yX1_readFactor cX1_readFactor 5 FieldType.boolean (5 + 2 * b) N Sh I J [.ref r, .ref sb, .ref ia, .int (nI oo)] (fun x I' => EQ r (oo + 1) ia I (facF L ch (aR S) (aV S) b p) x I') := by
  refine ct_I (l0 := [(0, .ref r), (1, .ref sb), (2, .ref ia), (3, .int (nI oo))]) (by decide +kernel) (Nat.le_of_ble_eq_true rfl) rfl (fun _ _ _ h => by obtain ⟨⟨rfl, _⟩, _⟩ := h; exact nar_B _) ?_
  intro X hX hret el eD eA
  subst el eD eA
  have hX : XK X RX1 cX1_readFactor 5 (5 + 2 * b) := hX
  obtain ⟨r0, ⟨rj0, rj1, rj2, rj3⟩, rT, rR, rrs, rw0, rs15⟩ := id hRX
  obtain ⟨s0, sj0, sj1, sA, sQ⟩ := id hS
  have spr := sA.r
  obtain ⟨-, spile⟩ := id sA
  have hiaS : shI Sh ia 16 := by
    have := (rrs (ia - (r + 4)) (by omega)).2
    rw [show r + 4 + (ia - (r + 4)) = ia by omega] at this
    exact this
  have hp1 := hT.2.1.1
  have hL60 := hT.1.1
  refine wa_aload_n hX dX1_readFactor_0 rfl ?_
  refine wa_getR hX fX1_12 rfl r0 rj0 dX1_readFactor_1 ?_
  refine wa_vM hX (tX5_takeMap _ rT hT) bX5_takeMap mX1_62 (by omega) (by decide) (ci := 4) ⟨by decide, rfl⟩ rT.1 rfl rfl (Nat.le_of_ble_eq_true rfl) dX1_readFactor_4 (fun r_4 I_4 q_4 => ?_)
  obtain ⟨w0, w1⟩ := q_4
  refine wa_istore hX dX1_readFactor_7 (by decide) ?_
  refine wa_iload hX dX1_readFactor_9 rfl ?_
  refine wa_nP hX (tX6_isMap _ r_4) bX6_isMap mX1_81 (by omega) (by decide) rfl rfl (Nat.le_of_ble_eq_true rfl) dX1_readFactor_11 (fun r_11 q_11 => ?_)
  subst q_11
  refine wa_if_eq (tgt := 41) hX dX1_readFactor_14 (by decide) (fun c_14 => ?_) (fun c_14 => ?_)
  · skip
    have n0 := bI_0.mp c_14
    have n1 : bw L ch p 65 70 = false := by
      cases e : bw L ch p 65 70 with
      | false => rfl
      | true =>
        have ex := bw_t.mp e
        rw [e] at w0
        have w0 : r_4 = nI (ch p - 65) := w0
        rw [w0, inB_nI (by omega) (by decide), decide_eq_true (by omega)] at n0
        cases n0
    rw [n1] at w1
    have w1 : I_4 = I := w1.trans hT.stay
    rw [w1]
    refine wa_iload_n hX dX1_readFactor_41 rfl ?_
    refine wa_iconst (v := nI 4) hX dX1_readFactor_42 (by decide) ?_
    refine wa_icmp_ge (tgt := 58) hX dX1_readFactor_43 (by decide) (fun c_43 => ?_) (fun c_43 => ?_)
    · skip
      have n2 : b = 0 := by have := (nI_leI (by decide) (by omega)).mp c_43; omega
      refine wa_iconst (v := nI 0) hX dX1_readFactor_58 (by decide) ?_
      exact hret _ _ _ _ _ ⟨EQ.n (fac_z b n1 (Or.inl n2)) (XF.rf hT), rfl⟩ dX1_readFactor_59
    · skip
      obtain ⟨b1, eb⟩ : ∃ b1, b = b1 + 1 := ⟨b - 1, by have h9 : ¬ 4 ≤ oo := fun h => c_43 ((nI_leI (by decide) (by omega)).mpr h); omega⟩
      subst eb
      refine wa_aload_n hX dX1_readFactor_46 rfl ?_
      refine wa_getR hX fX1_12 rfl r0 rj0 dX1_readFactor_47 ?_
      refine wa_bipush (v := nI 40) hX dX1_readFactor_50 (by decide) ?_
      refine wa_vM hX (tX5_take _ rT hT (show 40 < 65536 by decide)) bX5_take mX1_50 (by omega) (by decide) (ci := 4) ⟨by decide, rfl⟩ rT.1 rfl rfl (Nat.le_of_ble_eq_true rfl) dX1_readFactor_52 (fun r_52 I_52 q_52 => ?_)
      obtain ⟨w2, w3⟩ := q_52
      subst w2
      refine wa_if_ne (tgt := 60) hX dX1_readFactor_55 (by decide) (fun c_55 => ?_) (fun c_55 => ?_)
      · skip
        have n2 := bI_n0.mp c_55
        have n2x := sg_t.mp n2
        rw [n2] at w3
        have w3 : I_52 = u2 I (r + 1) 2 (nI (p + 1)) := w3
        subst w3
        have hT1 := hT.mv (show p + 1 ≤ L by omega)
        have hV1 : SV (u2 I (r + 1) 2 (nI (p + 1))) sb S := hV.xf (XF.u2 (o := oo + 1) (ia := ia)) hsb (by omega)
        have hRF := fac_p (R := aR S) (mv := aV S) b1 n1 n2
        refine wa_aload_n hX dX1_readFactor_60 rfl ?_
        refine wa_aload_n hX dX1_readFactor_61 rfl ?_
        refine wa_aload_n hX dX1_readFactor_62 rfl ?_
        refine wa_iload_n hX dX1_readFactor_63 rfl ?_
        refine wa_iconst (v := nI 1) hX dX1_readFactor_64 (by decide) ?_
        refine wa_iadd hX dX1_readFactor_65 ?_
        rw [show nI oo + nI 1 = nI (oo + 1) from nI_add _ 1]
        refine wa_vM hX (hexp b1 rfl _ (p + 1) ia hT1 hV1 (by omega)) bX1_readExpression mX1_65 (by omega) (by decide) (ci := 1) ⟨by decide, rfl⟩ r0 rfl rfl (Nat.le_of_ble_eq_true rfl) dX1_readFactor_66 (fun r_66 I_66 q_66 => ?_)
        refine wa_if_eq (tgt := 100) hX dX1_readFactor_69 (by decide) (fun c_69 => ?_) (fun c_69 => ?_)
        · skip
          obtain ⟨q, ef, hF1⟩ := q_66.f c_69
          rw [bnd_n ef] at hRF
          refine wa_iconst (v := nI 0) hX dX1_readFactor_100 (by decide) ?_
          exact hret _ _ _ _ _ ⟨EQ.n hRF (XF.u2.tr hF1 (Nat.le_refl _) (Or.inl rfl)), rfl⟩ dX1_readFactor_101
        · skip
          obtain ⟨v, q, ef, hF1, hv1⟩ := q_66.t c_69
          rw [bnd_s ef] at hRF
          have hqL : q ≤ L := by
            obtain ⟨x, q9, e9, _, h9⟩ := ter_c (ch := ch) (fac_c (ch := ch) (R := aR S) (mv := aV S) (L := L) b1) 60 hol (show p + 1 ≤ L by omega)
            rw [e9] at ef; cases ef; exact h9
          have hT2 := hT1.xf hF1 hqL (by omega)
          have hF2 : XF r (oo + 1) ia q I I_66 := XF.u2.tr hF1 (Nat.le_refl _) (Or.inl rfl)
          refine wa_aload_n hX dX1_readFactor_72 rfl ?_
          refine wa_getR hX fX1_12 rfl r0 rj0 dX1_readFactor_73 ?_
          refine wa_bipush (v := nI 41) hX dX1_readFactor_76 (by decide) ?_
          refine wa_vM hX (tX5_take _ rT hT2 (show 41 < 65536 by decide)) bX5_take mX1_50 (by omega) (by decide) (ci := 4) ⟨by decide, rfl⟩ rT.1 rfl rfl (Nat.le_of_ble_eq_true rfl) dX1_readFactor_78 (fun r_78 I_78 q_78 => ?_)
          obtain ⟨w2, w3⟩ := q_78
          subst w2
          refine wa_if_eq (tgt := 100) hX dX1_readFactor_81 (by decide) (fun c_81 => ?_) (fun c_81 => ?_)
          · skip
            have n3 := bI_0.mp c_81
            rw [n3] at w3
            have w3 : I_78 = I_66 := w3.trans hT2.stay
            rw [w3]
            rw [if_neg (by rw [n3]; decide)] at hRF
            refine wa_iconst (v := nI 0) hX dX1_readFactor_100 (by decide) ?_
            exact hret _ _ _ _ _ ⟨EQ.n hRF hF2, rfl⟩ dX1_readFactor_101
          · skip
            have n3 := bI_n0.mp c_81
            have n3x := sg_t.mp n3
            rw [n3] at w3
            have w3 : I_78 = u2 I_66 (r + 1) 2 (nI (q + 1)) := w3
            subst w3
            rw [if_pos n3] at hRF
            have hT3 := hT2.mv (show q + 1 ≤ L by omega)
            have hF3 : XF r (oo + 1) ia (q + 1) I (u2 I_66 (r + 1) 2 (nI (q + 1))) := hF2.tr XF.u2 (Nat.le_refl _) (Or.inl rfl)
            have hV3 := hV.xf hF3 hsb (by omega)
            have hv3 : RV (u2 I_66 (r + 1) 2 (nI (q + 1)) ia) v := by rw [u2_n (by omega)]; exact hv1
            refine wa_aload_n hX dX1_readFactor_84 rfl ?_
            refine wa_aload_n hX dX1_readFactor_85 rfl ?_
            refine wa_getI hX fX1_98 rfl s0 dX1_readFactor_86 ?_
            rw [hV3.2.2.1]
            refine wa_aload_n hX dX1_readFactor_89 rfl ?_
            refine wa_vM hX (tX1_readSigns _ hRX hT3 hiaS (by omega) hv3 hV3.2.2.2) bX1_readSigns mX1_101 (by omega) (by decide) (ci := 1) ⟨by decide, rfl⟩ r0 rfl rfl (Nat.le_of_ble_eq_true rfl) dX1_readFactor_90 (fun r_90 I_90 q_90 => ?_)
            refine wa_if_eq (tgt := 100) hX dX1_readFactor_93 (by decide) (fun c_93 => ?_) (fun c_93 => ?_)
            · skip
              obtain ⟨q4, ef4, hF4⟩ := q_90.f c_93
              refine wa_iconst (v := nI 0) hX dX1_readFactor_100 (by decide) ?_
              exact hret _ _ _ _ _ ⟨EQ.n (hRF.trans ef4) (hF3.tr hF4 (by omega) (Or.inl rfl)), rfl⟩ dX1_readFactor_101
            · skip
              obtain ⟨v4, q4, ef4, hF4, hv4⟩ := q_90.t c_93
              refine wa_iconst (v := nI 1) hX dX1_readFactor_96 (by decide) ?_
              refine wa_goto (tgt := 101) hX dX1_readFactor_97 (by decide) ?_
              exact hret _ _ _ _ _ ⟨EQ.s (hRF.trans ef4) (hF3.tr hF4 (by omega) (Or.inl rfl)) hv4, rfl⟩ dX1_readFactor_101
      · skip
        have n2 := bI_0.mp c_55
        rw [n2] at w3
        have w3 : I_52 = I := w3.trans hT.stay
        rw [w3]
        refine wa_iconst (v := nI 0) hX dX1_readFactor_58 (by decide) ?_
        exact hret _ _ _ _ _ ⟨EQ.n (fac_z _ n1 (Or.inr n2)) (XF.rf hT), rfl⟩ dX1_readFactor_59
  · skip
    have n0 := bI_n0.mp c_14
    have n1 : bw L ch p 65 70 = true := by
      cases e : bw L ch p 65 70 with
      | true => rfl
      | false =>
        rw [e] at w0
        have w0 : r_4 = -1 := w0
        rw [w0] at n0
        exact absurd n0 (by decide)
    have n1x := bw_t.mp n1
    rw [n1] at w0 w1
    have w0 : r_4 = nI (ch p - 65) := w0
    have w1 : I_4 = u2 I (r + 1) 2 (nI (p + 1)) := w1
    obtain ⟨m, hm, em⟩ : ∃ m, m < 6 ∧ ch p - 65 = m := ⟨_, by omega, rfl⟩
    rw [em] at w0
    subst w0
    subst w1
    have hT1 := hT.mv (show p + 1 ≤ L by omega)
    have hPL := (spile m hm).2
    refine wa_aload_n hX dX1_readFactor_17 rfl ?_
    refine wa_getR hX fX1_84 rfl s0 sj0 dX1_readFactor_18 ?_
    refine wa_iload hX dX1_readFactor_21 rfl ?_
    refine wa_aald hX spr rfl hm (by decide) (spile m hm).1 dX1_readFactor_23 ?_
    refine wa_getR hX fX1_90 rfl hPL.1 hPL.2.2.2.1 dX1_readFactor_24 ?_
    refine wa_aload_n hX dX1_readFactor_27 rfl ?_
    refine wa_sW hX (tX2_copy _ hPL.2.2.2.2.2.2.2 hiaS) bX2_copy mX1_95 (by omega) (by decide) rfl rfl (Nat.le_of_ble_eq_true rfl) dX1_readFactor_28 (fun I_28 q_28 => ?_)
    subst q_28
    have hT2 : TT (uR (u2 I (r + 1) 2 (nI (p + 1))) ia (u2 I (r + 1) 2 (nI (p + 1)) (sb + 2 + 8 * m + 7))) (r + 1) L ch (p + 1) := hT1.cg (uR_n (by omega)) (uR_n (by omega))
    have hF2 : XF r (oo + 1) ia (p + 1) I (uR (u2 I (r + 1) 2 (nI (p + 1))) ia (u2 I (r + 1) 2 (nI (p + 1)) (sb + 2 + 8 * m + 7))) := XF.u2.cg (uR_n (by omega)) (fun b a1 a2 a3 => uR_n a2)
    have hV2 : SV (uR (u2 I (r + 1) 2 (nI (p + 1))) ia (u2 I (r + 1) 2 (nI (p + 1)) (sb + 2 + 8 * m + 7))) sb S := hV.xf hF2 hsb (by omega)
    have hv2 : RV ((uR (u2 I (r + 1) 2 (nI (p + 1))) ia (u2 I (r + 1) 2 (nI (p + 1)) (sb + 2 + 8 * m + 7))) ia) (aV S m) := by
      rw [uR_s, u2_n (by omega)]
      exact (hV.1 m hm).rv
    refine wa_aload_n hX dX1_readFactor_31 rfl ?_
    refine wa_aload_n hX dX1_readFactor_32 rfl ?_
    refine wa_getI hX fX1_98 rfl s0 dX1_readFactor_33 ?_
    rw [hV2.2.2.1]
    refine wa_aload_n hX dX1_readFactor_36 rfl ?_
    refine wa_vM hX (tX1_readSigns _ hRX hT2 hiaS (by omega) hv2 hV2.2.2.2) bX1_readSigns mX1_101 (by omega) (by decide) (ci := 1) ⟨by decide, rfl⟩ r0 rfl rfl (Nat.le_of_ble_eq_true rfl) dX1_readFactor_37 (fun r_37 I_37 q_37 => ?_)
    refine hret _ _ _ _ _ ⟨?_, rfl⟩ dX1_readFactor_40
    rw [fac_l b n1, em]
    exact ⟨q_37.1, hF2.tr q_37.2.1 (by omega) (Or.inl rfl), q_37.2.2⟩

theorem fac_all {l : Launch} {D : va_G} {A : Nat → Prop} {N : Nat} {Sh : SM} {J : JM} {r sb : Nat} (hRX : RX Sh J r) (hS : SL Sh J sb) (hsb : sb + 58 ≤ r) {S : AS} {L : Nat} {ch : Nat → Nat} : ∀ b oo, oo + b = 4 → FacC l D A N Sh J r sb S L ch oo b
  | 0, oo, hob => fun I p ia hT hV hia => tX1_readFactor I hRX hS hsb hob (fun b1 e => by omega) hT hV hia
  | b + 1, oo, hob => fun I p ia hT hV hia => tX1_readFactor I hRX hS hsb hob (fun b1 e I1 p1 ia1 hT1 hV1 hia1 => by
      obtain rfl : b = b1 := by omega
      exact tX1_readExpression I1 hRX hS hsb (show oo + 1 + b = 4 by omega) (fac_all hRX hS hsb b (oo + 1) (by omega)) hT1 hV1 hia1) hT hV hia
