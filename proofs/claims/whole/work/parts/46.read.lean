/-! Reader: a layer, the signs behind a factor -/
def T0 (I : IM) (t L : Nat) (ch : Nat → Nat) : Prop := (L ≤ 60 ∧ I t 1 = nI L) ∧ ∀ j, j < L → I (t + 1) j = nI (ch j) ∧ ch j < 65536
theorem T0.at0 {I : IM} {t L : Nat} {ch : Nat → Nat} (h : T0 I t L ch) : TT (u2 I t 2 (nI 0)) t L ch 0 :=
  ⟨⟨h.1.1, by rw [u2_k (by decide)]; exact h.1.2⟩, ⟨Nat.zero_le _, u2_s⟩, fun j hj => by rw [u2_n (by omega)]; exact h.2 j hj⟩
theorem TT.cg {I I' : IM} {t L : Nat} {ch : Nat → Nat} {p : Nat} (h : TT I t L ch p) (e1 : I' t = I t) (e2 : I' (t + 1) = I (t + 1)) : TT I' t L ch p :=
  ⟨⟨h.1.1, by rw [e1]; exact h.1.2⟩, ⟨h.2.1.1, by rw [e1]; exact h.2.1.2⟩, fun j hj => by rw [e2]; exact h.2.2 j hj⟩
def oP {α : Type} (x : Option α × Nat) : Int32 := match x.1 with
  | none => nI x.2
  | some _ => -1
theorem w17 {I : IM} {a k v : Nat} {w : RW} (h : ∀ j, j < 16 → I a j = nI (w j) ∧ w j ≤ 17) (hv : v ≤ 16) : ∀ j, j < 16 → u2 I a k (nI v) a j = nI (upF w k v j) ∧ upF w k v j ≤ 17 := by
  intro j hj
  by_cases e : j = k
  · subst e
    rw [u2_s]
    simp only [upF, ↓reduceIte]
    exact ⟨trivial, by omega⟩
  · rw [u2_k e]
    simp only [upF, if_neg e]
    exact h j hj
theorem w17c {I I' : IM} {a : Nat} {w : RW} (h : ∀ j, j < 16 → I a j = nI (w j) ∧ w j ≤ 17) (e : I' a = I a) : ∀ j, j < 16 → I' a j = nI (w j) ∧ w j ≤ 17 := fun j hj => by rw [e]; exact h j hj
/-- what a reading changes: the place, the row ia, the rows from 2 o on, the work row -/
def XF (r o ia q : Nat) (I I' : IM) : Prop := I' (r + 1) = upd (I (r + 1)) 2 (nI q) ∧ ∀ b, b ≠ r + 1 → b ≠ ia → (b < r + 4 + 2 * o ∨ r + 15 ≤ b) → I' b = I b
theorem upd_upd {f : Nat → Int32} {k : Nat} {x y : Int32} : upd (upd f k x) k y = upd f k y := by
  funext j
  by_cases e : j = k <;> simp [upd, e]
theorem upd_self {f : Nat → Int32} {k : Nat} {x : Int32} (h : f k = x) : upd f k x = f := by
  funext j
  by_cases e : j = k
  · subst e; simp [upd, h]
  · simp [upd, e]
theorem XF.rf {r o ia p L : Nat} {ch : Nat → Nat} {I : IM} (h : TT I (r + 1) L ch p) : XF r o ia p I I := ⟨(upd_self h.2.1.2).symm, fun _ _ _ _ => rfl⟩
theorem XF.u2 {r o ia q : Nat} {I : IM} : XF r o ia q I (u2 I (r + 1) 2 (nI q)) := ⟨u2_a, fun b h _ _ => u2_n h⟩
theorem XF.tr {r o o2 ia ib p q : Nat} {I I1 I2 : IM} (h1 : XF r o ia p I I1) (h2 : XF r o2 ib q I1 I2) (ho : o ≤ o2) (hb : ib = ia ∨ (r + 4 + 2 * o ≤ ib ∧ ib < r + 15)) : XF r o ia q I I2 :=
  ⟨by rw [h2.1, h1.1, upd_upd], fun b e1 e2 e3 => by rw [h2.2 b e1 (by omega) (by omega)]; exact h1.2 b e1 e2 e3⟩
theorem XF.cg {r o ia q : Nat} {I I1 I2 : IM} (h : XF r o ia q I I1) (e1 : I2 (r + 1) = I1 (r + 1)) (e2 : ∀ b, b ≠ r + 1 → b ≠ ia → (b < r + 4 + 2 * o ∨ r + 15 ≤ b) → I2 b = I1 b) : XF r o ia q I I2 :=
  ⟨e1.trans h.1, fun b a1 a2 a3 => (e2 b a1 a2 a3).trans (h.2 b a1 a2 a3)⟩
theorem TT.xf {I I' : IM} {r o ia L : Nat} {ch : Nat → Nat} {p q : Nat} (h : TT I (r + 1) L ch p) (hF : XF r o ia q I I') (hq : q ≤ L) (hia : ia ≠ r + 2) : TT I' (r + 1) L ch q :=
  ⟨⟨h.1.1, by rw [hF.1, show upd (I (r + 1)) 2 (nI q) 1 = I (r + 1) 1 from if_neg (by decide)]; exact h.1.2⟩, ⟨hq, by rw [hF.1]; exact if_pos rfl⟩, fun j hj => by rw [hF.2 (r + 1 + 1) (by omega) (by omega) (by omega)]; exact h.2.2 j hj⟩
theorem sgn_s {L : Nat} {ch : Nat → Nat} {R : Nat} (n : Nat) (v : RW) (p : Nat) : sgnF L ch R (n + 1) v p = (if sg L ch p 126 = true then sgnF L ch R n (invS v R 16) (p + 1)
    else if sg L ch p 94 = true then (if bw L ch (p + 1) 48 57 = true then sgnF L ch R n (itr v (ch (p + 1) - 48)) (p + 2) else (none, p + 1))
    else if sg L ch p 123 = true then bnd (kstF L ch 60 (nI 0) (p + 1)) (fun s q => sgnF L ch R n (resR s v) q)
    else (some v, p)) := rfl
set_option maxHeartbeats 4000000 in
set_option maxRecDepth 100000 in
theorem tX1_readLayer {l : Launch} {D : va_G} {A : Nat → Prop} {N : Nat} {Sh : SM} {J : JM} (I : IM) {r : Nat} (hRX : RX Sh J r) {L : Nat} {ch : Nat → Nat} (hT0 : T0 I (r + 1) L ch) : CtM l D A yX1_readLayer cX1_readLayer 2 FieldType.int 4 N Sh I J [.ref r] (fun x I' => x = oP (lytF L ch 60 (fun _ => 17) 0) ∧ TT I' (r + 1) L ch (lytF L ch 60 (fun _ => 17) 0).2 ∧ (∀ b, b ≠ r + 1 → b ≠ r + 15 → I' b = I b) ∧ ∀ w, (lytF L ch 60 (fun _ => 17) 0).1 = some w → ∀ k, k < 16 → I' (r + 15) k = nI (w k) ∧ w k ≤ 17) := by
  refine ct_I (l0 := [(0, .ref r)]) (by decide +kernel) (Nat.le_of_ble_eq_true rfl) rfl (fun _ _ _ _ => rfl) ?_
  intro X hX hret _ _ _
  have hX : XK X RX1 cX1_readLayer 2 4 := hX
  obtain ⟨r0, ⟨rj0, rj1, rj2, rj3⟩, rT, rR, rrs, rw0, rs15⟩ := id hRX
  have lp : ∀ (n i : Nat) (I1 : IM) (w : RW) (p1 : Nat), i + n = 60 → (TT I1 (r + 1) L ch p1) → (∀ k, k < 16 → I1 (r + 15) k = nI (w k) ∧ w k ≤ 17) → (∀ b, b ≠ r + 1 → b ≠ r + 15 → I1 b = I b) → (lytF L ch n w p1 = lytF L ch 60 (fun _ => 17) 0) → WX X 0 0 N Sh I1 J 19 [(0, .ref r), (1, .int (nI i))] [] := by
    intro n
    induction n with
    | zero =>
      intro i I1 w p1 hi hT1 hw hF hR
      obtain rfl : 60 = i := by omega
      refine wa_iload_n hX dX1_readLayer_19 rfl ?_
      refine wa_bipush (v := nI 60) hX dX1_readLayer_20 (by decide) ?_
      refine wa_icmp_ge (tgt := 78) hX dX1_readLayer_22 (by decide) (fun c_22 => ?_) (fun c_22 => absurd (Int32.le_refl _) c_22)
      refine wa_aload_n hX dX1_readLayer_78 rfl ?_
      refine wa_getR hX fX1_12 rfl r0 rj0 dX1_readLayer_79 ?_
      refine wa_getI hX fX1_34 rfl rT.1 dX1_readLayer_82 ?_
      have hR : (none, p1) = lytF L ch 60 (fun _ => 17) 0 := hR
      refine hret _ _ _ _ _ ⟨?_, rfl⟩ dX1_readLayer_85
      show _ = oP (lytF L ch 60 (fun _ => 17) 0) ∧ TT _ (r + 1) L ch (lytF L ch 60 (fun _ => 17) 0).2 ∧ _ ∧ ∀ w, (lytF L ch 60 (fun _ => 17) 0).1 = some w → _
      rw [← hR]
      exact ⟨hT1.2.1.2, hT1, hF, fun w h => by cases h⟩
    | succ n ih =>
      intro i I1 w p1 hi hT1 hw hF hR
      have hlt : i < 60 := by omega
      refine wa_iload_n hX dX1_readLayer_19 rfl ?_
      refine wa_bipush (v := nI 60) hX dX1_readLayer_20 (by decide) ?_
      refine wa_icmp_ge (tgt := 78) hX dX1_readLayer_22 (by decide) (fun c_22 => absurd c_22 (nI_ge hlt (by decide))) (fun c_22 => ?_)
      refine wa_aload_n hX dX1_readLayer_25 rfl ?_
      refine wa_vM hX (tX1_readEntry _ hRX hT1) bX1_readEntry mX1_43 (by decide) (by decide) (ci := 1) ⟨by decide, rfl⟩ r0 rfl rfl (Nat.le_of_ble_eq_true rfl) dX1_readLayer_26 (fun r_26 I_26 q_26 => ?_)
      obtain ⟨w0, w1⟩ := q_26
      subst w0
      refine wa_if_ne (tgt := 40) hX dX1_readLayer_29 (by decide) (fun c_29 => ?_) (fun c_29 => ?_)
      · skip
        have n0 := bI_n0.mp c_29
        obtain ⟨k, v, q, ee, h1, h2, h3, h4⟩ : ∃ k v q, entF L ch p1 = (some (k, v), q) ∧ p1 < q ∧ q ≤ L ∧ k < 16 ∧ v ≤ 16 := by
          rcases ent_c (ch := ch) hT1.2.1.1 with ⟨q, h, _⟩ | h
          · rw [h] at n0; cases n0
          · exact h
        rw [enI_s ee] at w1
        subst w1
        have hT2 : TT (u2 (u2 I1 (r + 1) 2 (nI q)) (r + 15) k (nI v)) (r + 1) L ch q := (hT1.mv h2).cg (u2_n (by omega)) (u2_n (by omega))
        have hw2 : ∀ j, j < 16 → (u2 (u2 I1 (r + 1) 2 (nI q)) (r + 15) k (nI v)) (r + 15) j = nI (upF w k v j) ∧ upF w k v j ≤ 17 := w17 (w17c hw (u2_n (by omega))) h4
        have hF2 : ∀ b, b ≠ r + 1 → b ≠ r + 15 → (u2 (u2 I1 (r + 1) 2 (nI q)) (r + 15) k (nI v)) b = I b := fun b a1 a2 => by rw [u2_n a2, u2_n a1]; exact hF b a1 a2
        rw [lyt_s n w p1, bnd_s ee] at hR
        refine wa_aload_n hX dX1_readLayer_40 rfl ?_
        refine wa_getR hX fX1_12 rfl r0 rj0 dX1_readLayer_41 ?_
        refine wa_vP hX (tX5_isAtEnd _ rT hT2) bX5_isAtEnd mX1_47 (by decide) (by decide) (ci := 4) ⟨by decide, rfl⟩ rT.1 rfl rfl (Nat.le_of_ble_eq_true rfl) dX1_readLayer_44 (fun r_44 q_44 => ?_)
        subst q_44
        refine wa_if_eq (tgt := 52) hX dX1_readLayer_47 (by decide) (fun c_47 => ?_) (fun c_47 => ?_)
        · skip
          have n1 : ¬ L ≤ q := of_decide_eq_false (bI_0.mp c_47)
          rw [if_neg n1] at hR
          refine wa_aload_n hX dX1_readLayer_52 rfl ?_
          refine wa_getR hX fX1_12 rfl r0 rj0 dX1_readLayer_53 ?_
          refine wa_bipush (v := nI 44) hX dX1_readLayer_56 (by decide) ?_
          refine wa_vM hX (tX5_take _ rT hT2 (show 44 < 65536 by decide)) bX5_take mX1_50 (by decide) (by decide) (ci := 4) ⟨by decide, rfl⟩ rT.1 rfl rfl (Nat.le_of_ble_eq_true rfl) dX1_readLayer_58 (fun r_58 I_58 q_58 => ?_)
          obtain ⟨w2, w3⟩ := q_58
          subst w2
          refine wa_if_ne (tgt := 72) hX dX1_readLayer_61 (by decide) (fun c_61 => ?_) (fun c_61 => ?_)
          · skip
            have n2 := bI_n0.mp c_61
            rw [n2] at w3
            have w3 : I_58 = u2 (u2 (u2 I1 (r + 1) 2 (nI q)) (r + 15) k (nI v)) (r + 1) 2 (nI (q + 1)) := w3
            subst w3
            rw [if_pos n2] at hR
            refine wa_iinc hX dX1_readLayer_72 rfl (inc1 _) (by decide) ?_
            refine wa_goto (tgt := 19) hX dX1_readLayer_75 (by decide) ?_
            refine wx_sub (l' := [(0, _), (1, _)]) ⟨rfl, rfl, trivial⟩ ?_
            exact ih (i + 1) _ _ _ (by omega) (hT2.mv (by have := sg_t.mp n2; omega)) (w17c hw2 (u2_n (by omega))) (fun b a1 a2 => by rw [u2_n a1]; exact hF2 b a1 a2) hR
          · skip
            have n2 := bI_0.mp c_61
            rw [if_neg (by rw [n2]; decide)] at hR
            rw [w3, n2, show adv false q = q from rfl, hT2.stay]
            refine wa_aload_n hX dX1_readLayer_64 rfl ?_
            refine wa_getR hX fX1_12 rfl r0 rj0 dX1_readLayer_65 ?_
            refine wa_getI hX fX1_34 rfl rT.1 dX1_readLayer_68 ?_
            refine hret _ _ _ _ _ ⟨?_, rfl⟩ dX1_readLayer_71
            show _ = oP (lytF L ch 60 (fun _ => 17) 0) ∧ TT _ (r + 1) L ch (lytF L ch 60 (fun _ => 17) 0).2 ∧ _ ∧ ∀ w, (lytF L ch 60 (fun _ => 17) 0).1 = some w → _
            rw [← hR]
            exact ⟨hT2.2.1.2, hT2, hF2, fun w h => by cases h⟩
        · skip
          have n1 : L ≤ q := of_decide_eq_true (bI_n0.mp c_47)
          rw [if_pos n1] at hR
          refine wa_iconst (v := -1) hX dX1_readLayer_50 (by decide) ?_
          refine hret _ _ _ _ _ ⟨?_, rfl⟩ dX1_readLayer_51
          show _ = oP (lytF L ch 60 (fun _ => 17) 0) ∧ TT _ (r + 1) L ch (lytF L ch 60 (fun _ => 17) 0).2 ∧ _ ∧ ∀ w, (lytF L ch 60 (fun _ => 17) 0).1 = some w → _
          rw [← hR]
          exact ⟨rfl, hT2, hF2, fun w h => by cases h; exact hw2⟩
      · skip
        have n0 := bI_0.mp c_29
        obtain ⟨q, ee, h1, h2⟩ : ∃ q, entF L ch p1 = (none, q) ∧ p1 ≤ q ∧ q ≤ L := by
          rcases ent_c (ch := ch) hT1.2.1.1 with h | ⟨k, v, q, ee, _⟩
          · exact h
          · rw [ee] at n0; cases n0
        rw [enI_n ee] at w1
        subst w1
        rw [lyt_s n w p1, bnd_n ee] at hR
        refine wa_aload_n hX dX1_readLayer_32 rfl ?_
        refine wa_getR hX fX1_12 rfl r0 rj0 dX1_readLayer_33 ?_
        refine wa_getI hX fX1_34 rfl rT.1 dX1_readLayer_36 ?_
        refine hret _ _ _ _ _ ⟨?_, rfl⟩ dX1_readLayer_39
        show _ = oP (lytF L ch 60 (fun _ => 17) 0) ∧ TT _ (r + 1) L ch (lytF L ch 60 (fun _ => 17) 0).2 ∧ _ ∧ ∀ w, (lytF L ch 60 (fun _ => 17) 0).1 = some w → _
        rw [← hR]
        exact ⟨u2_s, hT1.mv h2, fun b a1 a2 => by rw [u2_n a1]; exact hF b a1 a2, fun w h => by cases h⟩
  refine wa_aload_n hX dX1_readLayer_0 rfl ?_
  refine wa_getR hX fX1_12 rfl r0 rj0 dX1_readLayer_1 ?_
  refine wa_iconst (v := nI 0) hX dX1_readLayer_4 (by decide) ?_
  refine wa_putI hX fX1_34 rfl rfl ⟨rfl, rfl⟩ rT.1 dX1_readLayer_5 ?_
  refine wa_aload_n hX dX1_readLayer_8 rfl ?_
  refine wa_getR hX fX1_27 rfl r0 rj3 dX1_readLayer_9 ?_
  refine wa_bipush (v := nI 17) hX dX1_readLayer_12 (by decide) ?_
  refine wa_sW hX (tJ7_fill_53178 _ rs15 (by decide)) bJ7_fill_53178 mX1_37 (by decide) (by decide) rfl rfl (Nat.le_of_ble_eq_true rfl) dX1_readLayer_14 (fun I_14 q_14 => ?_)
  subst q_14
  refine wa_iconst (v := nI 0) hX dX1_readLayer_17 (by decide) ?_
  refine wa_istore_n hX dX1_readLayer_18 (by decide) ?_
  have e0 : nI 60 = nI 60 := rfl
  exact lp 60 0 _ (fun _ => 17) 0 (by omega) (hT0.at0.cg (uR_n (by omega)) (uR_n (by omega))) (fun k hk => by rw [uR_s, rowN_in hk]; exact ⟨rfl, Nat.le_refl _⟩) (fun b a1 a2 => by rw [uR_n a2, u2_n a1]) rfl

def EQ (r o ia : Nat) (I : IM) (res : Option RW × Nat) (x : Int32) (I' : IM) : Prop := x = bI res.1.isSome ∧ XF r o ia res.2 I I' ∧ ∀ w, res.1 = some w → RV (I' ia) w
set_option maxHeartbeats 4000000 in
set_option maxRecDepth 100000 in
theorem tX1_readSigns {l : Launch} {D : va_G} {A : Nat → Prop} {N : Nat} {Sh : SM} {J : JM} (I : IM) {r ia R : Nat} (hRX : RX Sh J r) {L : Nat} {ch : Nat → Nat} {p : Nat} (hT : TT I (r + 1) L ch p) (hia : shI Sh ia 16) (hne : ia ≠ r + 1 ∧ ia ≠ r + 2 ∧ ia ≠ r + 14) {v0 : RW} (hv0 : RV (I ia) v0) (hR2 : R ≤ 2) : CtM l D A yX1_readSigns cX1_readSigns 5 FieldType.boolean 4 N Sh I J [.ref r, .int (nI R), .ref ia] (fun x I' => EQ r 5 ia I (sgnF L ch R 60 v0 p) x I') := by
  refine ct_I (l0 := [(0, .ref r), (1, .int (nI R)), (2, .ref ia)]) (by decide +kernel) (Nat.le_of_ble_eq_true rfl) rfl (fun _ _ _ h => by obtain ⟨⟨rfl, _⟩, _⟩ := h; exact nar_B _) ?_
  intro X hX hret _ _ _
  have hX : XK X RX1 cX1_readSigns 5 4 := hX
  obtain ⟨r0, ⟨rj0, rj1, rj2, rj3⟩, rT, rR, rrs, rw0, rs15⟩ := id hRX
  obtain ⟨⟨hL, hl2⟩, ⟨hp1, hp2⟩, hch⟩ := id hT
  have lp : ∀ (n i : Nat) (I1 : IM) (v : RW) (p1 : Nat), i + n = 60 → (TT I1 (r + 1) L ch p1) → (RV (I1 ia) v) → (XF r 5 ia p1 I I1) → (sgnF L ch R n v p1 = sgnF L ch R 60 v0 p) → WX X 0 0 N Sh I1 J 2 [(0, .ref r), (1, .int (nI R)), (2, .ref ia), (3, .int (nI i))] [] := by
    intro n
    induction n with
    | zero =>
      intro i I1 v p1 hi hT1 hv hF hR
      obtain rfl : 60 = i := by omega
      refine wa_iload_n hX dX1_readSigns_2 rfl ?_
      refine wa_bipush (v := nI 60) hX dX1_readSigns_3 (by decide) ?_
      refine wa_icmp_ge (tgt := 136) hX dX1_readSigns_5 (by decide) (fun c_5 => ?_) (fun c_5 => absurd (Int32.le_refl _) c_5)
      refine wa_iconst (v := nI 1) hX dX1_readSigns_136 (by decide) ?_
      have hR : (some v, p1) = sgnF L ch R 60 v0 p := hR
      refine hret _ _ _ _ _ ⟨?_, rfl⟩ dX1_readSigns_137
      show EQ r 5 ia I (sgnF L ch R 60 v0 p) _ _
      rw [← hR]
      exact ⟨rfl, hF, fun w h => by cases h; exact hv⟩
    | succ n ih =>
      intro i I1 v p1 hi hT1 hv hF hR
      have hlt : i < 60 := by omega
      rw [sgn_s n v p1] at hR
      refine wa_iload_n hX dX1_readSigns_2 rfl ?_
      refine wa_bipush (v := nI 60) hX dX1_readSigns_3 (by decide) ?_
      refine wa_icmp_ge (tgt := 136) hX dX1_readSigns_5 (by decide) (fun c_5 => absurd c_5 (nI_ge hlt (by decide))) (fun c_5 => ?_)
      refine wa_aload_n hX dX1_readSigns_8 rfl ?_
      refine wa_getR hX fX1_12 rfl r0 rj0 dX1_readSigns_9 ?_
      refine wa_bipush (v := nI 126) hX dX1_readSigns_12 (by decide) ?_
      refine wa_vM hX (tX5_take _ rT hT1 (show 126 < 65536 by decide)) bX5_take mX1_50 (by decide) (by decide) (ci := 4) ⟨by decide, rfl⟩ rT.1 rfl rfl (Nat.le_of_ble_eq_true rfl) dX1_readSigns_14 (fun r_14 I_14 q_14 => ?_)
      obtain ⟨w2, w3⟩ := q_14
      subst w2
      refine wa_if_eq (tgt := 40) hX dX1_readSigns_17 (by decide) (fun c_17 => ?_) (fun c_17 => ?_)
      · skip
        have n1 := bI_0.mp c_17
        rw [w3, n1, show adv false p1 = p1 from rfl, hT1.stay]
        rw [if_neg (by rw [n1]; decide)] at hR
        refine wa_aload_n hX dX1_readSigns_40 rfl ?_
        refine wa_getR hX fX1_12 rfl r0 rj0 dX1_readSigns_41 ?_
        refine wa_bipush (v := nI 94) hX dX1_readSigns_44 (by decide) ?_
        refine wa_vM hX (tX5_take _ rT hT1 (show 94 < 65536 by decide)) bX5_take mX1_50 (by decide) (by decide) (ci := 4) ⟨by decide, rfl⟩ rT.1 rfl rfl (Nat.le_of_ble_eq_true rfl) dX1_readSigns_46 (fun r_46 I_46 q_46 => ?_)
        obtain ⟨w2, w3⟩ := q_46
        subst w2
        refine wa_if_eq (tgt := 90) hX dX1_readSigns_49 (by decide) (fun c_49 => ?_) (fun c_49 => ?_)
        · skip
          have n2 := bI_0.mp c_49
          rw [w3, n2, show adv false p1 = p1 from rfl, hT1.stay]
          rw [if_neg (by rw [n2]; decide)] at hR
          refine wa_aload_n hX dX1_readSigns_90 rfl ?_
          refine wa_getR hX fX1_12 rfl r0 rj0 dX1_readSigns_91 ?_
          refine wa_bipush (v := nI 123) hX dX1_readSigns_94 (by decide) ?_
          refine wa_vM hX (tX5_take _ rT hT1 (show 123 < 65536 by decide)) bX5_take mX1_50 (by decide) (by decide) (ci := 4) ⟨by decide, rfl⟩ rT.1 rfl rfl (Nat.le_of_ble_eq_true rfl) dX1_readSigns_96 (fun r_96 I_96 q_96 => ?_)
          obtain ⟨w2, w3⟩ := q_96
          subst w2
          refine wa_if_eq (tgt := 128) hX dX1_readSigns_99 (by decide) (fun c_99 => ?_) (fun c_99 => ?_)
          · skip
            have n4 := bI_0.mp c_99
            rw [w3, n4, show adv false p1 = p1 from rfl, hT1.stay]
            rw [if_neg (by rw [n4]; decide)] at hR
            refine wa_iconst (v := nI 1) hX dX1_readSigns_128 (by decide) ?_
            refine hret _ _ _ _ _ ⟨?_, rfl⟩ dX1_readSigns_129
            show EQ r 5 ia I (sgnF L ch R 60 v0 p) _ _
            rw [← hR]
            exact ⟨rfl, hF, fun w h => by cases h; exact hv⟩
          · skip
            have n4 := bI_n0.mp c_99
            have n4x := sg_t.mp n4
            rw [n4] at w3
            have w3 : I_96 = u2 I1 (r + 1) 2 (nI (p1 + 1)) := w3
            subst w3
            rw [if_pos n4] at hR
            have hT2 := hT1.mv (show p1 + 1 ≤ L by omega)
            refine wa_aload_n hX dX1_readSigns_102 rfl ?_
            refine wa_getR hX fX1_12 rfl r0 rj0 dX1_readSigns_103 ?_
            refine wa_vM hX (tX5_takeKeySet _ rT hT2) bX5_takeKeySet mX1_115 (by decide) (by decide) (ci := 4) ⟨by decide, rfl⟩ rT.1 rfl rfl (Nat.le_of_ble_eq_true rfl) dX1_readSigns_106 (fun r_106 I_106 q_106 => ?_)
            obtain ⟨w4, w5⟩ := q_106
            rw [u2_u2] at w5
            refine wa_istore hX dX1_readSigns_109 (by decide) ?_
            refine wa_iload hX dX1_readSigns_111 rfl ?_
            refine wa_iconst (v := -1) hX dX1_readSigns_113 (by decide) ?_
            refine wa_icmp_ne (tgt := 119) hX dX1_readSigns_114 (by decide) (fun c_114 => ?_) (fun c_114 => ?_)
            · skip
              obtain ⟨s, q, es, h1, h2⟩ : ∃ s q, kstF L ch 60 (nI 0) (p1 + 1) = (some s, q) ∧ p1 + 1 < q ∧ q ≤ L := by
                rcases set_c (ch := ch) 60 (nI 0) hT2.2.1.1 with ⟨q, h, _⟩ | h
                · exact absurd (by rw [w4, h]; rfl) c_114
                · exact h
              rw [es] at w4 w5
              have w4 : r_106 = s := w4
              subst w4
              subst w5
              rw [bnd_s es] at hR
              have hT3 := hT1.mv h2
              refine wa_aload_n hX dX1_readSigns_119 rfl ?_
              refine wa_iload hX dX1_readSigns_120 rfl ?_
              refine wa_sW hX (tX2_restrict _ hia) bX2_restrict mX1_118 (by decide) (by decide) rfl rfl (Nat.le_of_ble_eq_true rfl) dX1_readSigns_122 (fun I_122 q_122 => ?_)
              subst q_122
              refine wa_goto (tgt := 130) hX dX1_readSigns_125 (by decide) ?_
              refine wa_iinc hX dX1_readSigns_130 rfl (inc1 _) (by decide) ?_
              refine wa_goto (tgt := 2) hX dX1_readSigns_133 (by decide) ?_
              refine wx_sub (l' := [(0, _), (1, _), (2, _), (3, _)]) ⟨rfl, rfl, rfl, rfl, trivial⟩ ?_
              refine ih (i + 1) _ _ _ (by omega) (hT3.cg (uR_n (by omega)) (uR_n (by omega))) (fun k hk => ?_) ((hF.tr XF.u2 (Nat.le_refl _) (Or.inl rfl)).cg (uR_n (by omega)) (fun b a1 a2 a3 => uR_n a2)) hR
              rw [uR_s, rowN_in hk, u2_n hne.1]
              unfold resR
              split
              · exact hv k hk
              · exact ⟨rfl, Nat.le_refl _⟩
            · skip
              obtain ⟨q, es, h1, h2⟩ : ∃ q, kstF L ch 60 (nI 0) (p1 + 1) = (none, q) ∧ p1 + 1 ≤ q ∧ q ≤ L := by
                rcases set_c (ch := ch) 60 (nI 0) hT2.2.1.1 with h | ⟨s, q, es, _⟩
                · exact h
                · rw [es] at w4; have w4 : r_106 = s := w4; rw [w4] at c_114; exact absurd c_114 (kst_n hT2.2.1.1 es)
              rw [es] at w5
              subst w5
              rw [bnd_n es] at hR
              refine wa_iconst (v := nI 0) hX dX1_readSigns_117 (by decide) ?_
              refine hret _ _ _ _ _ ⟨?_, rfl⟩ dX1_readSigns_118
              show EQ r 5 ia I (sgnF L ch R 60 v0 p) _ _
              rw [← hR]
              exact ⟨rfl, hF.tr XF.u2 (Nat.le_refl _) (Or.inl rfl), fun w h => by cases h⟩
        · skip
          have n2 := bI_n0.mp c_49
          have n2x := sg_t.mp n2
          rw [n2] at w3
          have w3 : I_46 = u2 I1 (r + 1) 2 (nI (p1 + 1)) := w3
          subst w3
          rw [if_pos n2] at hR
          have hT2 := hT1.mv (show p1 + 1 ≤ L by omega)
          refine wa_aload_n hX dX1_readSigns_52 rfl ?_
          refine wa_getR hX fX1_12 rfl r0 rj0 dX1_readSigns_53 ?_
          refine wa_vM hX (tX5_takeDigit _ rT hT2) bX5_takeDigit mX1_109 (by decide) (by decide) (ci := 4) ⟨by decide, rfl⟩ rT.1 rfl rfl (Nat.le_of_ble_eq_true rfl) dX1_readSigns_56 (fun r_56 I_56 q_56 => ?_)
          obtain ⟨w4, w5⟩ := q_56
          rw [u2_u2] at w5
          refine wa_istore hX dX1_readSigns_59 (by decide) ?_
          refine wa_iload hX dX1_readSigns_61 rfl ?_
          refine wa_iconst (v := -1) hX dX1_readSigns_63 (by decide) ?_
          refine wa_icmp_ne (tgt := 69) hX dX1_readSigns_64 (by decide) (fun c_64 => ?_) (fun c_64 => ?_)
          · skip
            have n3 : bw L ch (p1 + 1) 48 57 = true := by
              cases e : bw L ch (p1 + 1) 48 57 with
              | true => rfl
              | false => rw [e] at w4; exact absurd w4 c_64
            have n3x := bw_t.mp n3
            rw [n3] at w4 w5
            have w4 : r_56 = nI (ch (p1 + 1) - 48) := w4
            have w5 : I_56 = u2 I1 (r + 1) 2 (nI (p1 + 2)) := w5
            subst w4
            subst w5
            rw [if_pos n3] at hR
            have hT3 := hT1.mv (show p1 + 2 ≤ L by omega)
            refine wa_aload_n hX dX1_readSigns_69 rfl ?_
            refine wa_iload hX dX1_readSigns_70 rfl ?_
            refine wa_aload_n hX dX1_readSigns_72 rfl ?_
            refine wa_getR hX fX1_23 rfl r0 rj2 dX1_readSigns_73 ?_
            refine wa_sW hX (tX2_power _ hia (v := v) (by rw [u2_n hne.1]; exact hv) rw0 hne.2.2 (n0 := ch (p1 + 1) - 48) (by omega)) bX2_power mX1_112 (by decide) (by decide) rfl rfl (Nat.le_of_ble_eq_true rfl) dX1_readSigns_76 (fun I_76 q_76 => ?_)
            subst q_76
            refine wa_aload_n hX dX1_readSigns_79 rfl ?_
            refine wa_getR hX fX1_23 rfl r0 rj2 dX1_readSigns_80 ?_
            refine wa_aload_n hX dX1_readSigns_83 rfl ?_
            refine wa_sW hX (tX2_copy _ rw0 hia) bX2_copy mX1_95 (by decide) (by decide) rfl rfl (Nat.le_of_ble_eq_true rfl) dX1_readSigns_84 (fun I_84 q_84 => ?_)
            subst q_84
            refine wa_goto (tgt := 130) hX dX1_readSigns_87 (by decide) ?_
            refine wa_iinc hX dX1_readSigns_130 rfl (inc1 _) (by decide) ?_
            refine wa_goto (tgt := 2) hX dX1_readSigns_133 (by decide) ?_
            refine wx_sub (l' := [(0, _), (1, _), (2, _), (3, _)]) ⟨rfl, rfl, rfl, rfl, trivial⟩ ?_
            refine ih (i + 1) _ _ _ (by omega) (hT3.cg (by rw [uR_n (by omega), uR_n (by omega)]) (by rw [uR_n (by omega), uR_n (by omega)])) (fun k hk => ?_) ((hF.tr XF.u2 (Nat.le_refl _) (Or.inl rfl)).cg (by rw [uR_n (by omega), uR_n (by omega)]) (fun b a1 a2 a3 => by rw [uR_n a2, uR_n (by omega)])) hR
            rw [uR_s, uR_s, rowN_in hk]
            exact ⟨rfl, itr_le hv _ (by omega)⟩
          · skip
            have n3 : bw L ch (p1 + 1) 48 57 = false := by
              cases e : bw L ch (p1 + 1) 48 57 with
              | false => rfl
              | true => rw [e] at w4; have w4 : r_56 = nI (ch (p1 + 1) - 48) := w4; rw [w4] at c_64; exact absurd c_64 (nI_nm1 (by have := bw_t.mp e; omega))
            rw [n3] at w5
            have w5 : I_56 = u2 I1 (r + 1) 2 (nI (p1 + 1)) := w5
            subst w5
            rw [if_neg (by rw [n3]; decide)] at hR
            refine wa_iconst (v := nI 0) hX dX1_readSigns_67 (by decide) ?_
            refine hret _ _ _ _ _ ⟨?_, rfl⟩ dX1_readSigns_68
            show EQ r 5 ia I (sgnF L ch R 60 v0 p) _ _
            rw [← hR]
            exact ⟨rfl, hF.tr XF.u2 (Nat.le_refl _) (Or.inl rfl), fun w h => by cases h⟩
      · skip
        have n1 := bI_n0.mp c_17
        have n1x := sg_t.mp n1
        rw [n1] at w3
        have w3 : I_14 = u2 I1 (r + 1) 2 (nI (p1 + 1)) := w3
        subst w3
        rw [if_pos n1] at hR
        have hT2 := hT1.mv (show p1 + 1 ≤ L by omega)
        refine wa_aload_n hX dX1_readSigns_20 rfl ?_
        refine wa_iload_n hX dX1_readSigns_21 rfl ?_
        refine wa_aload_n hX dX1_readSigns_22 rfl ?_
        refine wa_getR hX fX1_23 rfl r0 rj2 dX1_readSigns_23 ?_
        refine wa_sW hX (tX2_inverse _ hia (v := v) (by rw [u2_n hne.1]; exact hv) rw0 hne.2.2 hR2) bX2_inverse mX1_105 (by decide) (by decide) rfl rfl (Nat.le_of_ble_eq_true rfl) dX1_readSigns_26 (fun I_26 q_26 => ?_)
        subst q_26
        refine wa_aload_n hX dX1_readSigns_29 rfl ?_
        refine wa_getR hX fX1_23 rfl r0 rj2 dX1_readSigns_30 ?_
        refine wa_aload_n hX dX1_readSigns_33 rfl ?_
        refine wa_sW hX (tX2_copy _ rw0 hia) bX2_copy mX1_95 (by decide) (by decide) rfl rfl (Nat.le_of_ble_eq_true rfl) dX1_readSigns_34 (fun I_34 q_34 => ?_)
        subst q_34
        refine wa_goto (tgt := 130) hX dX1_readSigns_37 (by decide) ?_
        refine wa_iinc hX dX1_readSigns_130 rfl (inc1 _) (by decide) ?_
        refine wa_goto (tgt := 2) hX dX1_readSigns_133 (by decide) ?_
        refine wx_sub (l' := [(0, _), (1, _), (2, _), (3, _)]) ⟨rfl, rfl, rfl, rfl, trivial⟩ ?_
        refine ih (i + 1) _ _ _ (by omega) (hT2.cg (by rw [uR_n (by omega), uR_n (by omega)]) (by rw [uR_n (by omega), uR_n (by omega)])) (fun k hk => ?_) ((hF.tr XF.u2 (Nat.le_refl _) (Or.inl rfl)).cg (by rw [uR_n (by omega), uR_n (by omega)]) (fun b a1 a2 a3 => by rw [uR_n a2, uR_n (by omega)])) hR
        rw [uR_s, uR_s, rowN_in hk]
        exact ⟨rfl, invS_le v R 16 k (Nat.le_refl _)⟩
  refine wa_iconst (v := nI 0) hX dX1_readSigns_0 (by decide) ?_
  refine wa_istore_n hX dX1_readSigns_1 (by decide) ?_
  exact lp 60 0 _ v0 p (by omega) hT hv0 (XF.rf hT) rfl

