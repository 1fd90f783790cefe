/-! PileMapsModel: the whole expression, the layer text -/
def XTQ (Q : Nat) (I : IM) (res : Option (Nat × RW) × Nat) (r : Int32) (I' : IM) : Prop := r = bI res.1.isSome ∧ I' Q 9 = nI res.2 ∧ FRQ Q I I' ∧ ∀ m w, res.1 = some (m, w) → I' Q 11 = nI m ∧ m < 6 ∧ RV (I' (Q + 7)) w
theorem XTQ.n {Q q : Nat} {I I' : IM} {res : Option (Nat × RW) × Nat} (h : res = (none, q)) (h1 : I' Q 9 = nI q) (hF : FRQ Q I I') : XTQ Q I res (nI 0) I' := by
  subst h
  exact ⟨rfl, h1, hF, fun m w h => by cases h⟩
theorem XTQ.s {Q q m : Nat} {w : RW} {I I' : IM} {res : Option (Nat × RW) × Nat} (h : res = (some (m, w), q)) (h1 : I' Q 9 = nI q) (hF : FRQ Q I I') (h2 : I' Q 11 = nI m ∧ m < 6 ∧ RV (I' (Q + 7)) w) : XTQ Q I res (nI 1) I' := by
  subst h
  exact ⟨rfl, h1, hF, fun m w h => by cases h; exact h2⟩
set_option maxHeartbeats 4000000 in
set_option maxRecDepth 100000 in
theorem tX7_isExpressionText {l : Launch} {D : va_G} {A : Nat → Prop} {N : Nat} {Sh : SM} {J : JM} (I : IM) {Q : Nat} (hM : MM Sh J Q) {L : Nat} {ch : Nat → Nat} (hT : TM I Q L ch) {S : AS} (hV : VF (I (Q + 1)) S) : CtM l D A yX7_isExpressionText cX7_isExpressionText 1 FieldType.boolean 5 N Sh I J [.ref Q] (fun r I' => XTQ Q I (asnF L ch (aR S) (aV S)) r I') := by
  refine ct_I (l0 := [(0, .ref Q)]) (by decide +kernel) (Nat.le_of_ble_eq_true rfl) rfl (fun _ _ _ h => by obtain ⟨⟨rfl, _⟩, _⟩ := h; exact nar_B _) ?_
  intro X hX hret _ _ _
  have hX : XK X RX7 cX7_isExpressionText 1 5 := hX
  obtain ⟨q0, ⟨qj0, qj1, qj3, qj5, qj6, qj8, qj12, qj13, qj14, qj15, qj16, qj18, qj19⟩, ⟨qs1, qs2, qs3, qs4, qs5, qs6, qs7, qs8, qs9, qs10, qs11, qs12, qs13⟩⟩ := id hM
  have main : 1 ≤ L → ch 0 - 65 < 6 → asnF L ch (aR S) (aV S) = bnd (facD L ch (aR S) (aV S) (hol, none) [] 2) (fun v q => (some (ch 0 - 65, v), q)) → ∀ (n : Nat) (I1 : IM) (x : RW × Option RW) (rest : SK) (p1 : Nat), L < p1 + n → 1 ≤ p1 → STK I1 Q L ch S (ch 0 - 65) x rest p1 → FRQ Q I I1 → facD L ch (aR S) (aV S) x rest p1 = facD L ch (aR S) (aV S) (hol, none) [] 2 → WX X 0 0 N Sh I1 J 74 [(0, .ref Q)] [] := by
    intro hL1 hm6 hA n
    induction n with
    | zero =>
      intro I1 x rest p1 hn hq1 hK
      have := hK.1.2.1
      omega
    | succ n ihn =>
      have h129 : ∀ (x : RW × Option RW) (rest : SK) (v : RW) (q : Nat) (I2 : IM), (L < q + n) → 1 ≤ q → STK I2 Q L ch S (ch 0 - 65) x rest q → RV (I2 (Q + 7)) v → FRQ Q I I2 → desF L ch (aR S) (aV S) (x :: rest) v q = facD L ch (aR S) (aV S) (hol, none) [] 2 → (rest.length = 0 ∨ sg L ch q 41 = false) → WX X 0 0 N Sh I2 J 129 [(0, .ref Q)] [] := by
        intro x rest v q I2 hn hq1 hK hv hF hR hcl
        have hL60 := hK.1.1.1.1
        have hqL := hK.1.2.1
        have hr4 := hK.2.2.1.2
        refine wa_aload_n hX dX7_isExpressionText_129 rfl ?_
        refine wa_getI hX fX7_85 rfl q0 dX7_isExpressionText_130 ?_
        rw [hK.1.2.2]
        refine wa_aload_n hX dX7_isExpressionText_133 rfl ?_
        refine wa_getI hX fX7_131 rfl q0 dX7_isExpressionText_134 ?_
        rw [hK.1.1.1.2]
        refine wa_icmp_ne (tgt := 164) hX dX7_isExpressionText_137 (by decide) (fun c_137 => ?_) (fun c_137 => ?_)
        · skip
          have n0 : q < L := by have := ne_of_nI c_137; have := hK.1.2.1; omega
          refine wa_aload_n hX dX7_isExpressionText_164 rfl ?_
          refine wa_bipush (v := nI 46) hX dX7_isExpressionText_165 (by decide) ?_
          refine wa_vM hX (tX7_takes _ hM hK.1 (show 46 < 65536 by decide)) bX7_takes mX7_146 (by decide) (by decide) (ci := 6) ⟨by decide, rfl⟩ q0 rfl rfl (Nat.le_of_ble_eq_true rfl) dX7_isExpressionText_167 (fun r_167 I_167 q_167 => ?_)
          obtain ⟨w2, w3⟩ := q_167
          subst w2
          refine wa_if_eq (tgt := 180) hX dX7_isExpressionText_170 (by decide) (fun c_170 => ?_) (fun c_170 => ?_)
          · skip
            have n1 := bI_0.mp c_170
            rw [n1] at w3
            have w3 : I_167 = I2 := w3.trans hK.1.stay
            rw [w3]
            refine wa_aload_n hX dX7_isExpressionText_180 rfl ?_
            refine wa_bipush (v := nI 47) hX dX7_isExpressionText_181 (by decide) ?_
            refine wa_vM hX (tX7_takes _ hM hK.1 (show 47 < 65536 by decide)) bX7_takes mX7_146 (by decide) (by decide) (ci := 6) ⟨by decide, rfl⟩ q0 rfl rfl (Nat.le_of_ble_eq_true rfl) dX7_isExpressionText_183 (fun r_183 I_183 q_183 => ?_)
            obtain ⟨w2, w3⟩ := q_183
            subst w2
            refine wa_if_eq (tgt := 196) hX dX7_isExpressionText_186 (by decide) (fun c_186 => ?_) (fun c_186 => ?_)
            · skip
              have n2 := bI_0.mp c_186
              rw [n2] at w3
              have w3 : I_183 = I2 := w3.trans hK.1.stay
              rw [w3]
              rw [des_no x rest v n1 n2 hcl n0] at hR
              refine wa_iconst (v := nI 0) hX dX7_isExpressionText_196 (by decide) ?_
              exact hret _ _ _ _ _ ⟨XTQ.n (by rw [hA, ← hR]; rfl) hK.1.2.2 (hF), rfl⟩ dX7_isExpressionText_197
            · skip
              have n2 := bI_n0.mp c_186
              have n2x := sg_t.mp n2
              rw [n2] at w3
              have w3 : I_183 = u2 I2 Q 9 (nI (q + 1)) := w3
              subst w3
              have hK3 : STK (u2 I2 Q 9 (nI (q + 1))) Q L ch S (ch 0 - 65) x rest (q + 1) := hK.mq MQf.u (by omega)
              have hF3 : FRQ Q I (u2 I2 Q 9 (nI (q + 1))) := hF.tr (MQf.u (q := q + 1)).fr
              have hv3 : RV (u2 I2 Q 9 (nI (q + 1)) (Q + 7)) v := by rw [u2_n (by omega)]; exact hv
              rw [des_slash hK.1.1.1.1 x rest v n2] at hR
              refine wa_aload_n hX dX7_isExpressionText_189 rfl ?_
              refine wa_vW hX (tX7_underlies _ hM (dd := rest.length) (x := x) (by omega) hK3.2.2.1.1 hK3.2.1.1 hv3) bX7_underlies mX7_173 (by decide) (by decide) (ci := 6) ⟨by decide, rfl⟩ q0 rfl rfl (Nat.le_of_ble_eq_true rfl) dX7_isExpressionText_190 (fun I_190 q_190 => ?_)
              obtain ⟨w4, w5, w6⟩ := q_190
              refine wa_goto (tgt := 74) hX dX7_isExpressionText_193 (by decide) ?_
              refine wx_sub (l' := [(0, _)]) ⟨rfl, trivial⟩ ?_
              exact ihn _ _ rest (q + 1) (by omega) (by omega) (hK3.top w6 w5) (hF3.tr w6.fr) hR
          · skip
            have n1 := bI_n0.mp c_170
            have n1x := sg_t.mp n1
            rw [n1] at w3
            have w3 : I_167 = u2 I2 Q 9 (nI (q + 1)) := w3
            subst w3
            have hK3 : STK (u2 I2 Q 9 (nI (q + 1))) Q L ch S (ch 0 - 65) x rest (q + 1) := hK.mq MQf.u (by omega)
            have hF3 : FRQ Q I (u2 I2 Q 9 (nI (q + 1))) := hF.tr (MQf.u (q := q + 1)).fr
            have hv3 : RV (u2 I2 Q 9 (nI (q + 1)) (Q + 7)) v := by rw [u2_n (by omega)]; exact hv
            rw [des_dot hK.1.1.1.1 x rest v n1] at hR
            refine wa_aload_n hX dX7_isExpressionText_173 rfl ?_
            refine wa_vW hX (tX7_joins _ hM (dd := rest.length) (x := x) (by omega) hK3.2.2.1.1 hK3.2.1.1 hv3) bX7_joins mX7_155 (by decide) (by decide) (ci := 6) ⟨by decide, rfl⟩ q0 rfl rfl (Nat.le_of_ble_eq_true rfl) dX7_isExpressionText_174 (fun I_174 q_174 => ?_)
            obtain ⟨w4, w5, w6⟩ := q_174
            refine wa_goto (tgt := 74) hX dX7_isExpressionText_177 (by decide) ?_
            refine wx_sub (l' := [(0, _)]) ⟨rfl, trivial⟩ ?_
            exact ihn _ _ rest (q + 1) (by omega) (by omega) (hK3.top w6 w5) (hF3.tr w6.fr) hR
        · skip
          have n0 : q = L := eq_of_nI c_137 (by omega) (by omega)
          rw [des_end x rest v (by omega)] at hR
          refine wa_aload_n hX dX7_isExpressionText_140 rfl ?_
          refine wa_getI hX fX7_152 rfl q0 dX7_isExpressionText_141 ?_
          rw [hK.2.2.1.1]
          refine wa_if_ne (tgt := 151) hX dX7_isExpressionText_144 (by decide) (fun c_144 => ?_) (fun c_144 => ?_)
          · skip
            have n1 : ¬ rest.length = 0 := fun e => c_144 (by rw [e]; rfl)
            rw [if_neg n1] at hR
            refine wa_aload_n hX dX7_isExpressionText_151 rfl ?_
            refine wa_getI hX fX7_152 rfl q0 dX7_isExpressionText_152 ?_
            rw [hK.2.2.1.1]
            refine wa_if_ne (tgt := 162) hX dX7_isExpressionText_155 (by decide) (fun c_155 => ?_) (fun c_155 => absurd c_155 c_144)
            refine wa_iconst (v := nI 0) hX dX7_isExpressionText_162 (by decide) ?_
            exact hret _ _ _ _ _ ⟨XTQ.n (by rw [hA, ← hR]; rfl) hK.1.2.2 (hF), rfl⟩ dX7_isExpressionText_163
          · skip
            have n1 : rest.length = 0 := eq_of_nI (show nI rest.length = nI 0 from c_144) (by omega) (by decide)
            rw [if_pos n1] at hR
            refine wa_aload_n hX dX7_isExpressionText_147 rfl ?_
            refine wa_vW hX (tX7_underlies _ hM (dd := rest.length) (x := x) (by omega) hK.2.2.1.1 hK.2.1.1 hv) bX7_underlies mX7_173 (by decide) (by decide) (ci := 6) ⟨by decide, rfl⟩ q0 rfl rfl (Nat.le_of_ble_eq_true rfl) dX7_isExpressionText_148 (fun I_148 q_148 => ?_)
            obtain ⟨w0, w1, w2⟩ := q_148
            refine wa_aload_n hX dX7_isExpressionText_151 rfl ?_
            refine wa_getI hX fX7_152 rfl q0 dX7_isExpressionText_152 ?_
            rw [(hK.top w2 w1).2.2.1.1]
            refine wa_if_ne (tgt := 162) hX dX7_isExpressionText_155 (by decide) (fun c_155 => absurd c_144 c_155) (fun c_155 => ?_)
            refine wa_iconst (v := nI 1) hX dX7_isExpressionText_158 (by decide) ?_
            refine wa_goto (tgt := 163) hX dX7_isExpressionText_159 (by decide) ?_
            exact hret _ _ _ _ _ ⟨XTQ.s (by rw [hA, ← hR]; rfl) (hK.top w2 w1).1.2.2 (hF.tr w2.fr) ⟨(hK.top w2 w1).2.2.2.1, hm6, w0⟩, rfl⟩ dX7_isExpressionText_163
      have h90 : ∀ (rest : SK) (x : RW × Option RW) (v : RW) (q : Nat) (I2 : IM), (L < q + n) → 1 ≤ q → STK I2 Q L ch S (ch 0 - 65) x rest q → RV (I2 (Q + 7)) v → FRQ Q I I2 → desF L ch (aR S) (aV S) (x :: rest) v q = facD L ch (aR S) (aV S) (hol, none) [] 2 → WX X 0 0 N Sh I2 J 90 [(0, .ref Q)] [] := by
        intro rest
        induction rest with
        | nil =>
          intro x v q I2 hn hq1 hK hv hF hR
          refine wa_aload_n hX dX7_isExpressionText_90 rfl ?_
          refine wa_getI hX fX7_152 rfl q0 dX7_isExpressionText_91 ?_
          rw [hK.2.2.1.1]
          refine wa_if_le (tgt := 129) hX dX7_isExpressionText_94 (by decide) (fun c_94 => ?_) (fun c_94 => absurd (Int32.le_refl _) c_94)
          exact h129 x [] v q I2 hn hq1 hK hv hF hR (Or.inl rfl)
        | cons y rest1 ihr =>
          intro x v q I2 hn hq1 hK hv hF hR
          have hL60 := hK.1.1.1.1
          have hqL := hK.1.2.1
          have hr4 := hK.2.2.1.2
          refine wa_aload_n hX dX7_isExpressionText_90 rfl ?_
          refine wa_getI hX fX7_152 rfl q0 dX7_isExpressionText_91 ?_
          rw [hK.2.2.1.1]
          refine wa_if_le (tgt := 129) hX dX7_isExpressionText_94 (by decide) (fun c_94 => absurd c_94 (nI_nle (show 0 < (y :: rest1).length by simp) (by omega))) (fun c_94 => ?_)
          refine wa_aload_n hX dX7_isExpressionText_97 rfl ?_
          refine wa_bipush (v := nI 41) hX dX7_isExpressionText_98 (by decide) ?_
          refine wa_vM hX (tX7_takes _ hM hK.1 (show 41 < 65536 by decide)) bX7_takes mX7_146 (by decide) (by decide) (ci := 6) ⟨by decide, rfl⟩ q0 rfl rfl (Nat.le_of_ble_eq_true rfl) dX7_isExpressionText_100 (fun r_100 I_100 q_100 => ?_)
          obtain ⟨w2, w3⟩ := q_100
          subst w2
          refine wa_if_eq (tgt := 129) hX dX7_isExpressionText_103 (by decide) (fun c_103 => ?_) (fun c_103 => ?_)
          · skip
            have n1 := bI_0.mp c_103
            rw [n1] at w3
            have w3 : I_100 = I2 := w3.trans hK.1.stay
            rw [w3]
            exact h129 x (y :: rest1) v q I2 hn hq1 hK hv hF hR (Or.inr n1)
          · skip
            have n1 := bI_n0.mp c_103
            have n1x := sg_t.mp n1
            rw [n1] at w3
            have w3 : I_100 = u2 I2 Q 9 (nI (q + 1)) := w3
            subst w3
            have hK3 : STK (u2 I2 Q 9 (nI (q + 1))) Q L ch S (ch 0 - 65) x (y :: rest1) (q + 1) := hK.mq MQf.u (by omega)
            have hF3 : FRQ Q I (u2 I2 Q 9 (nI (q + 1))) := hF.tr (MQf.u (q := q + 1)).fr
            have hv3 : RV (u2 I2 Q 9 (nI (q + 1)) (Q + 7)) v := by rw [u2_n (by omega)]; exact hv
            rw [des_close x y rest1 v n1] at hR
            refine wa_aload_n hX dX7_isExpressionText_106 rfl ?_
            refine wa_vW hX (tX7_underlies _ hM (dd := (y :: rest1).length) (x := x) (by omega) hK3.2.2.1.1 hK3.2.1.1 hv3) bX7_underlies mX7_173 (by decide) (by decide) (ci := 6) ⟨by decide, rfl⟩ q0 rfl rfl (Nat.le_of_ble_eq_true rfl) dX7_isExpressionText_107 (fun I_107 q_107 => ?_)
            obtain ⟨w4, w5, w6⟩ := q_107
            have hK4 := hK3.top w6 w5
            have hK5 := hK4.pop
            have hF5 := (hF3.tr w6.fr).tr (fr_pop (v := nI rest1.length))
            refine wa_aload_n hX dX7_isExpressionText_110 rfl ?_
            refine wa_dup hX dX7_isExpressionText_111 rfl ?_
            refine wa_getI hX fX7_152 rfl q0 dX7_isExpressionText_112 ?_
            rw [hK4.2.2.1.1]
            refine wa_iconst (v := nI 1) hX dX7_isExpressionText_115 (by decide) ?_
            refine wa_isub hX dX7_isExpressionText_116 ?_
            rw [show nI (y :: rest1).length - nI 1 = nI rest1.length by rw [isc (by simp) (by omega)]; rfl]
            refine wa_putI hX fX7_152 rfl rfl ⟨rfl, rfl⟩ q0 dX7_isExpressionText_117 ?_
            refine wa_aload_n hX dX7_isExpressionText_120 rfl ?_
            refine wa_vM hX (tX7_takesSigns _ hM hK5.1 (v := overR x.1 (cmpO x.2 v)) (by rw [u2_n (by omega)]; exact w4) hK5.2.2.2.2 (R := aR S) rfl) bX7_takesSigns mX7_170 (by decide) (by decide) (ci := 6) ⟨by decide, rfl⟩ q0 rfl rfl (Nat.le_of_ble_eq_true rfl) dX7_isExpressionText_121 (fun r_121 I_121 q_121 => ?_)
            refine wa_if_ne (tgt := 90) hX dX7_isExpressionText_124 (by decide) (fun c_124 => ?_) (fun c_124 => ?_)
            · skip
              obtain ⟨w, q7, ew, hF7, hv7⟩ := q_121.t c_124
              rw [bnd_s ew] at hR
              have hq7 : q + 1 ≤ q7 ∧ q7 ≤ L := by
                obtain ⟨x9, q9, e9, h8, h9⟩ := sgn_c (ch := ch) (R := aR S) 60 (overR x.1 (cmpO x.2 v)) (show q + 1 ≤ L by omega)
                rw [e9] at ew; cases ew; exact ⟨h8, h9⟩
              refine wx_sub (l' := [(0, _)]) ⟨rfl, trivial⟩ ?_
              exact ihr y w q7 _ (by omega) (by omega) (hK5.mq hF7 hq7.2) hv7 (hF5.tr hF7.fr) hR
            · skip
              obtain ⟨q7, ew, hF7⟩ := q_121.f c_124
              rw [bnd_n ew] at hR
              refine wa_iconst (v := nI 0) hX dX7_isExpressionText_127 (by decide) ?_
              exact hret _ _ _ _ _ ⟨XTQ.n (by rw [hA, ← hR]; rfl) hF7.1 (hF5.tr hF7.fr), rfl⟩ dX7_isExpressionText_128
      intro I1 x rest p1 hn hq1 hK hF hR
      refine wa_aload_n hX dX7_isExpressionText_74 rfl ?_
      refine wa_vM hX (tX7_takesLetter _ hM hK hq1) bX7_takesLetter mX7_167 (by decide) (by decide) (ci := 6) ⟨by decide, rfl⟩ q0 rfl rfl (Nat.le_of_ble_eq_true rfl) dX7_isExpressionText_75 (fun r_75 I_75 q_75 => ?_)
      obtain ⟨x2, rest2, p2, hF2, hE2, hle2, hcase⟩ := q_75
      rw [hE2] at hR
      refine wa_if_eq (tgt := 88) hX dX7_isExpressionText_78 (by decide) (fun c_78 => ?_) (fun c_78 => ?_)
      · skip
        obtain ⟨hK2, hN⟩ : STK I_75 Q L ch S (ch 0 - 65) x2 rest2 p2 ∧ facD L ch (aR S) (aV S) x2 rest2 p2 = (none, p2) := by
          rcases hcase with ⟨_, a, b⟩ | ⟨e, _⟩
          · exact ⟨a, b⟩
          · rw [e] at c_78; exact absurd c_78 (by decide)
        rw [hN] at hR
        refine wa_iconst (v := nI 0) hX dX7_isExpressionText_88 (by decide) ?_
        exact hret _ _ _ _ _ ⟨XTQ.n (by rw [hA, ← hR]; rfl) hK2.1.2.2 (hF.tr hF2), rfl⟩ dX7_isExpressionText_89
      · skip
        obtain ⟨n1, hK2, hv2⟩ : bw L ch p2 65 70 = true ∧ STK I_75 Q L ch S (ch 0 - 65) x2 rest2 (p2 + 1) ∧ RV (I_75 (Q + 7)) (aV S (ch p2 - 65)) := by
          rcases hcase with ⟨e, _⟩ | ⟨_, a, b, c⟩
          · exact absurd e c_78
          · exact ⟨a, b, c⟩
        have n1x := bw_t.mp n1
        rw [fac_letter x2 rest2 n1] at hR
        refine wa_aload_n hX dX7_isExpressionText_81 rfl ?_
        refine wa_vM hX (tX7_takesSigns _ hM hK2.1 hv2 hK2.2.2.2.2 (R := aR S) rfl) bX7_takesSigns mX7_170 (by decide) (by decide) (ci := 6) ⟨by decide, rfl⟩ q0 rfl rfl (Nat.le_of_ble_eq_true rfl) dX7_isExpressionText_82 (fun r_82 I_82 q_82 => ?_)
        refine wa_if_ne (tgt := 90) hX dX7_isExpressionText_85 (by decide) (fun c_85 => ?_) (fun c_85 => ?_)
        · skip
          obtain ⟨w, q, ew, hF4, hv4⟩ := q_82.t c_85
          rw [bnd_s ew] at hR
          have hq4 : p2 + 1 ≤ q ∧ q ≤ L := by
            obtain ⟨x9, q9, e9, h8, h9⟩ := sgn_c (ch := ch) (R := aR S) 60 (aV S (ch p2 - 65)) (show p2 + 1 ≤ L by omega)
            rw [e9] at ew; cases ew; exact ⟨h8, h9⟩
          refine wx_sub (l' := [(0, _)]) ⟨rfl, trivial⟩ ?_
          exact h90 rest2 x2 w q _ (by omega) (by omega) (hK2.mq hF4 hq4.2) hv4 ((hF.tr hF2).tr hF4.fr) hR
        · skip
          obtain ⟨q, ew, hF4⟩ := q_82.f c_85
          rw [bnd_n ew] at hR
          refine wa_iconst (v := nI 0) hX dX7_isExpressionText_88 (by decide) ?_
          exact hret _ _ _ _ _ ⟨XTQ.n (by rw [hA, ← hR]; rfl) hF4.1 ((hF.tr hF2).tr hF4.fr), rfl⟩ dX7_isExpressionText_89
  refine wa_aload_n hX dX7_isExpressionText_0 rfl ?_
  refine wa_iconst (v := nI 0) hX dX7_isExpressionText_1 (by decide) ?_
  refine wa_putI hX fX7_85 rfl rfl ⟨rfl, rfl⟩ q0 dX7_isExpressionText_2 ?_
  have hQ0 : TQ (u2 I Q 9 (nI 0)) Q L ch 0 := ⟨⟨⟨hT.1.1, by rw [u2_k (by decide)]; exact hT.1.2⟩, fun j hj => by rw [u2_n (by omega)]; exact hT.2 j hj⟩, Nat.zero_le _, u2_s⟩
  refine wa_aload_n hX dX7_isExpressionText_5 rfl ?_
  refine wa_bipush (v := nI 65) hX dX7_isExpressionText_6 (by decide) ?_
  refine wa_bipush (v := nI 70) hX dX7_isExpressionText_8 (by decide) ?_
  refine wa_vP hX (tX7_isBetween _ hM hQ0 (show 65 < 65536 by decide) (show 70 < 65536 by decide)) bX7_isBetween mX7_137 (by decide) (by decide) (ci := 6) ⟨by decide, rfl⟩ q0 rfl rfl (Nat.le_of_ble_eq_true rfl) dX7_isExpressionText_10 (fun r_10 q_10 => ?_)
  subst q_10
  refine wa_if_ne (tgt := 18) hX dX7_isExpressionText_13 (by decide) (fun c_13 => ?_) (fun c_13 => ?_)
  · skip
    have n1 := bI_n0.mp c_13
    have n1x := bw_t.mp n1
    refine wa_aload_n hX dX7_isExpressionText_18 rfl ?_
    refine wa_aload_n hX dX7_isExpressionText_19 rfl ?_
    refine wa_getR hX fX7_25 rfl q0 qj8 dX7_isExpressionText_20 ?_
    refine wa_aload_n hX dX7_isExpressionText_23 rfl ?_
    refine wa_getI hX fX7_85 rfl q0 dX7_isExpressionText_24 ?_
    rw [u2_s]
    refine wa_cald hX qs6 rfl (show 0 < 60 by decide) (by decide) dX7_isExpressionText_27 ?_
    rw [u2_n (b := Q + 6) (by omega), (hT.2 0 n1x.1).1]
    refine wa_bipush (v := nI 65) hX dX7_isExpressionText_28 (by decide) ?_
    refine wa_isub hX dX7_isExpressionText_30 ?_
    rw [isc n1x.2.1 (by omega)]
    refine wa_putI hX fX7_116 rfl rfl ⟨rfl, rfl⟩ q0 dX7_isExpressionText_31 ?_
    refine wa_aload_n hX dX7_isExpressionText_34 rfl ?_
    refine wa_dup hX dX7_isExpressionText_35 rfl ?_
    refine wa_getI hX fX7_85 rfl q0 dX7_isExpressionText_36 ?_
    rw [u2_k (by decide), u2_s]
    refine wa_iconst (v := nI 1) hX dX7_isExpressionText_39 (by decide) ?_
    refine wa_iadd hX dX7_isExpressionText_40 ?_
    rw [show nI 0 + nI 1 = nI 1 from nI_add 0 1]
    refine wa_putI hX fX7_85 rfl rfl ⟨rfl, rfl⟩ q0 dX7_isExpressionText_41 ?_
    have hQ1 : TQ (u2 (u2 (u2 I Q 9 (nI 0)) Q 11 (nI (ch 0 - 65))) Q 9 (nI 1)) Q L ch 1 := ⟨⟨⟨hT.1.1, by rw [u2_k (by decide), u2_k (by decide), u2_k (by decide)]; exact hT.1.2⟩, fun j hj => by rw [u2_n (by omega), u2_n (by omega), u2_n (by omega)]; exact hT.2 j hj⟩, by omega, u2_s⟩
    have hF1 : FRQ Q I (u2 (u2 (u2 I Q 9 (nI 0)) Q 11 (nI (ch 0 - 65))) Q 9 (nI 1)) := ⟨fun j a b c d => by rw [u2_k a, u2_k c, u2_k a], fun b a c => by rw [u2_n a, u2_n a, u2_n a]⟩
    refine wa_aload_n hX dX7_isExpressionText_44 rfl ?_
    refine wa_bipush (v := nI 61) hX dX7_isExpressionText_45 (by decide) ?_
    refine wa_vM hX (tX7_takes _ hM hQ1 (show 61 < 65536 by decide)) bX7_takes mX7_146 (by decide) (by decide) (ci := 6) ⟨by decide, rfl⟩ q0 rfl rfl (Nat.le_of_ble_eq_true rfl) dX7_isExpressionText_47 (fun r_47 I_47 q_47 => ?_)
    obtain ⟨w2, w3⟩ := q_47
    subst w2
    refine wa_if_ne (tgt := 55) hX dX7_isExpressionText_50 (by decide) (fun c_50 => ?_) (fun c_50 => ?_)
    · skip
      have n2 := bI_n0.mp c_50
      have n2x := sg_t.mp n2
      rw [n2] at w3
      have w3 : I_47 = u2 (u2 (u2 (u2 I Q 9 (nI 0)) Q 11 (nI (ch 0 - 65))) Q 9 (nI 1)) Q 9 (nI 2) := w3
      have hQ2 : TQ I_47 Q L ch 2 := by rw [w3]; exact hQ1.mv (by omega)
      have hF2 : FRQ Q I I_47 := by rw [w3]; exact hF1.tr (MQf.u (q := 2)).fr
      have ht2 : I_47 Q 11 = nI (ch 0 - 65) := by rw [w3, u2_k (by decide), u2_k (by decide), u2_s]
      have hV2 : VF (I_47 (Q + 1)) S := by rw [hF2.2 (Q + 1) (by omega) (by omega)]; exact hV
      clear w3
      refine wa_aload_n hX dX7_isExpressionText_55 rfl ?_
      refine wa_iconst (v := nI 0) hX dX7_isExpressionText_56 (by decide) ?_
      refine wa_putI hX fX7_152 rfl rfl ⟨rfl, rfl⟩ q0 dX7_isExpressionText_57 ?_
      refine wa_aload_n hX dX7_isExpressionText_60 rfl ?_
      refine wa_getR hX fX7_35 rfl q0 qj14 dX7_isExpressionText_61 ?_
      refine wa_iconst (v := nI 0) hX dX7_isExpressionText_64 (by decide) ?_
      refine wa_iconst (v := nI 0) hX dX7_isExpressionText_65 (by decide) ?_
      refine wa_zast hX qs9 rfl (show 0 < 5 by decide) (by decide) dX7_isExpressionText_66 ?_
      rw [nar_0]
      refine wa_aload_n hX dX7_isExpressionText_67 rfl ?_
      refine wa_getR hX fX7_42 rfl q0 qj16 dX7_isExpressionText_68 ?_
      refine wa_iconst (v := nI 0) hX dX7_isExpressionText_71 (by decide) ?_
      refine wa_iconst (v := nI 0) hX dX7_isExpressionText_72 (by decide) ?_
      refine wa_zast hX qs11 rfl (show 0 < 5 by decide) (by decide) dX7_isExpressionText_73 ?_
      rw [nar_0]
      refine wx_sub (l' := [(0, _)]) ⟨rfl, trivial⟩ ?_
      refine main (by omega) (by omega) (asn_des hT.1.1 n1 n2) 60 _ (hol, none) [] 2 (by have := hT.1.1; omega) (by decide) ⟨⟨⟨⟨hT.1.1, ?_⟩, fun j hj => ?_⟩, hQ2.2.1, ?_⟩, ⟨⟨⟨false, ?_, (fun h => by cases h), fun _ => rfl⟩, ?_, fun w hw => by cases hw⟩, trivial⟩, ⟨?_, Nat.zero_le _⟩, ?_, ?_⟩ (hF2.tr fr_push) rfl
      · rw [u2_n (by omega), u2_n (by omega), u2_k (by decide)]; exact hQ2.1.1.2
      · rw [u2_n (by omega), u2_n (by omega), u2_n (by omega)]; exact hQ2.1.2 j hj
      · rw [u2_n (by omega), u2_n (by omega), u2_k (by decide)]; exact hQ2.2.2
      · rw [u2_n (by omega)]; exact u2_s
      · exact u2_s
      · rw [u2_n (by omega), u2_n (by omega)]; exact u2_s
      · rw [u2_n (by omega), u2_n (by omega), u2_k (by decide)]; exact ht2
      · rw [u2_n (by omega), u2_n (by omega), u2_n (by omega)]; exact hV2
    · skip
      have n2 := bI_0.mp c_50
      rw [n2] at w3
      have w3 : I_47 = (u2 (u2 (u2 I Q 9 (nI 0)) Q 11 (nI (ch 0 - 65))) Q 9 (nI 1)) := w3.trans hQ1.stay
      rw [w3]
      refine wa_iconst (v := nI 0) hX dX7_isExpressionText_53 (by decide) ?_
      exact hret _ _ _ _ _ ⟨XTQ.n (asn_1 n1 n2) u2_s hF1, rfl⟩ dX7_isExpressionText_54
  · skip
    have n1 := bI_0.mp c_13
    refine wa_iconst (v := nI 0) hX dX7_isExpressionText_16 (by decide) ?_
    exact hret _ _ _ _ _ ⟨XTQ.n (asn_0 n1) u2_s (MQf.u (q := 0)).fr, rfl⟩ dX7_isExpressionText_17

def LTQ (Q : Nat) (I : IM) (res : Option RW × Nat) (r : Int32) (I' : IM) : Prop := r = bI res.1.isSome ∧ I' Q 9 = nI res.2 ∧ ((∀ j, j ≠ 9 → j ≠ 10 → I' Q j = I Q j) ∧ ∀ b, b ≠ Q → b ≠ Q + 5 → I' b = I b) ∧ ∀ w, res.1 = some w → ∀ k, k < 16 → I' (Q + 5) k = nI (w k) ∧ w k ≤ 17
theorem LTQ.n {Q q : Nat} {I I' : IM} {res : Option RW × Nat} (h : res = (none, q)) (h1 : I' Q 9 = nI q) (hF : (∀ j, j ≠ 9 → j ≠ 10 → I' Q j = I Q j) ∧ ∀ b, b ≠ Q → b ≠ Q + 5 → I' b = I b) : LTQ Q I res (nI 0) I' := by
  subst h
  exact ⟨rfl, h1, hF, fun w h => by cases h⟩
theorem LTQ.s {Q q : Nat} {w : RW} {I I' : IM} {res : Option RW × Nat} (h : res = (some w, q)) (h1 : I' Q 9 = nI q) (hF : (∀ j, j ≠ 9 → j ≠ 10 → I' Q j = I Q j) ∧ ∀ b, b ≠ Q → b ≠ Q + 5 → I' b = I b) (h2 : ∀ k, k < 16 → I' (Q + 5) k = nI (w k) ∧ w k ≤ 17) : LTQ Q I res (nI 1) I' := by
  subst h
  exact ⟨rfl, h1, hF, fun w h => by cases h; exact h2⟩
theorem TQ.r5 {I I' : IM} {Q L : Nat} {ch : Nat → Nat} {p : Nat} (h : TQ I Q L ch p) (h1 : I' Q = I Q) (h2 : I' (Q + 6) = I (Q + 6)) : TQ I' Q L ch p :=
  ⟨⟨⟨h.1.1.1, by rw [h1]; exact h.1.1.2⟩, fun j hj => by rw [h2]; exact h.1.2 j hj⟩, h.2.1, by rw [h1]; exact h.2.2⟩
set_option maxHeartbeats 4000000 in
set_option maxRecDepth 100000 in
theorem tX7_isLayerText {l : Launch} {D : va_G} {A : Nat → Prop} {N : Nat} {Sh : SM} {J : JM} (I : IM) {Q : Nat} (hM : MM Sh J Q) {L : Nat} {ch : Nat → Nat} (hT : TM I Q L ch) : CtM l D A yX7_isLayerText cX7_isLayerText 3 FieldType.boolean 3 N Sh I J [.ref Q] (fun r I' => LTQ Q I (lytF L ch 60 (fun _ => 17) 0) r I') := by
  refine ct_I (l0 := [(0, .ref Q)]) (by decide +kernel) (Nat.le_of_ble_eq_true rfl) rfl (fun _ _ _ h => by obtain ⟨⟨rfl, _⟩, _⟩ := h; exact nar_B _) ?_
  intro X hX hret _ _ _
  have hX : XK X RX7 cX7_isLayerText 3 3 := hX
  obtain ⟨q0, ⟨qj0, qj1, qj3, qj5, qj6, qj8, qj12, qj13, qj14, qj15, qj16, qj18, qj19⟩, ⟨qs1, qs2, qs3, qs4, qs5, qs6, qs7, qs8, qs9, qs10, qs11, qs12, qs13⟩⟩ := id hM
  have hQ0 : TQ (u2 (uR I (Q + 5) (rowN 16 (fun _ => nI 17) (I (Q + 5)))) Q 9 (nI 0)) Q L ch 0 := ⟨⟨⟨hT.1.1, by rw [u2_k (by decide), uR_n (by omega)]; exact hT.1.2⟩, fun j hj => by rw [u2_n (by omega), uR_n (by omega)]; exact hT.2 j hj⟩, Nat.zero_le _, u2_s⟩
  have hL60 := hT.1.1
  have fin : ∀ (I2 : IM) (w2a : RW) (q : Nat), TQ I2 Q L ch q → (∀ k, k < 16 → I2 (Q + 5) k = nI (w2a k) ∧ w2a k ≤ 17) → ((∀ j, j ≠ 9 → j ≠ 10 → I2 Q j = I Q j) ∧ ∀ b, b ≠ Q → b ≠ Q + 5 → I2 b = I b) → (some w2a, q) = lytF L ch 60 (fun _ => 17) 0 → WX X 0 0 N Sh I2 J 29 [(0, .ref Q), (1, .int (nI 0))] [] := by
    intro I2 w2a q hQ2 hw2 hF2 hR2
    refine wa_iload_n hX dX7_isLayerText_29 rfl ?_
    refine wa_if_eq (tgt := 135) hX dX7_isLayerText_30 (by decide) (fun c_30 => ?_) (fun c_30 => absurd rfl c_30)
    refine wa_iconst (v := nI 1) hX dX7_isLayerText_135 (by decide) ?_
    exact hret _ _ _ _ _ ⟨LTQ.s hR2.symm hQ2.2.2 hF2 hw2, rfl⟩ dX7_isLayerText_136
  have lp : ∀ (n : Nat) (I1 : IM) (w : RW) (p1 : Nat), L < p1 + n → TQ I1 Q L ch p1 → (∀ k, k < 16 → I1 (Q + 5) k = nI (w k) ∧ w k ≤ 17) → ((∀ j, j ≠ 9 → j ≠ 10 → I1 Q j = I Q j) ∧ ∀ b, b ≠ Q → b ≠ Q + 5 → I1 b = I b) → lytF L ch 60 w p1 = lytF L ch 60 (fun _ => 17) 0 → WX X 0 0 N Sh I1 J 29 [(0, .ref Q), (1, .int (nI 1))] [] := by
    intro n
    induction n with
    | zero =>
      intro I1 w p1 hn hQ1
      have := hQ1.2.1
      omega
    | succ n ih =>
      intro I1 w p1 hn hQ1 hw hF hR
      have nxt : ∀ (I2 : IM) (w2a : RW) (q : Nat), L < q + n → TQ I2 Q L ch q → (∀ k, k < 16 → I2 (Q + 5) k = nI (w2a k) ∧ w2a k ≤ 17) → ((∀ j, j ≠ 9 → j ≠ 10 → I2 Q j = I Q j) ∧ ∀ b, b ≠ Q → b ≠ Q + 5 → I2 b = I b) → (if L ≤ q then (some w2a, q) else if sg L ch q 44 = true then lytF L ch 59 w2a (q + 1) else (none, q)) = lytF L ch 60 (fun _ => 17) 0 → WX X 0 0 N Sh I2 J 100 [(0, .ref Q)] [] := by
        intro I2 w2a q hn2 hQ2 hw2 hF2 hR2
        have hqL := hQ2.2.1
        refine wa_aload_n hX dX7_isLayerText_100 rfl ?_
        refine wa_getI hX fX7_85 rfl q0 dX7_isLayerText_101 ?_
        rw [hQ2.2.2]
        refine wa_aload_n hX dX7_isLayerText_104 rfl ?_
        refine wa_getI hX fX7_131 rfl q0 dX7_isLayerText_105 ?_
        rw [hQ2.1.1.2]
        refine wa_icmp_ge (tgt := 115) hX dX7_isLayerText_108 (by decide) (fun c_108 => ?_) (fun c_108 => ?_)
        · skip
          have n0 : L ≤ q := (nI_leI (by omega) (by omega)).mp c_108
          rw [if_pos n0] at hR2
          refine wa_iconst (v := nI 0) hX dX7_isLayerText_115 (by decide) ?_
          refine wa_istore_n hX dX7_isLayerText_116 (by decide) ?_
          refine wa_iload_n hX dX7_isLayerText_117 rfl ?_
          refine wa_if_eq (tgt := 132) hX dX7_isLayerText_118 (by decide) (fun c_118 => ?_) (fun c_118 => absurd rfl c_118)
          refine wa_goto (tgt := 29) hX dX7_isLayerText_132 (by decide) ?_
          refine wx_sub (l' := [(0, _), (1, _)]) ⟨rfl, rfl, trivial⟩ ?_
          exact fin _ w2a q hQ2 hw2 hF2 hR2
        · skip
          have n0 : ¬ L ≤ q := fun h => c_108 ((nI_leI (by omega) (by omega)).mpr h)
          rw [if_neg n0] at hR2
          refine wa_iconst (v := nI 1) hX dX7_isLayerText_111 (by decide) ?_
          refine wa_goto (tgt := 116) hX dX7_isLayerText_112 (by decide) ?_
          refine wa_istore_n hX dX7_isLayerText_116 (by decide) ?_
          refine wa_iload_n hX dX7_isLayerText_117 rfl ?_
          refine wa_if_eq (tgt := 132) hX dX7_isLayerText_118 (by decide) (fun c_118 => absurd c_118 (by decide)) (fun c_118 => ?_)
          refine wa_aload_n hX dX7_isLayerText_121 rfl ?_
          refine wa_bipush (v := nI 44) hX dX7_isLayerText_122 (by decide) ?_
          refine wa_vM hX (tX7_takes _ hM hQ2 (show 44 < 65536 by decide)) bX7_takes mX7_146 (by decide) (by decide) (ci := 6) ⟨by decide, rfl⟩ q0 rfl rfl (Nat.le_of_ble_eq_true rfl) dX7_isLayerText_124 (fun r_124 I_124 q_124 => ?_)
          obtain ⟨w2, w3⟩ := q_124
          subst w2
          refine wa_if_ne (tgt := 132) hX dX7_isLayerText_127 (by decide) (fun c_127 => ?_) (fun c_127 => ?_)
          · skip
            have n1 := bI_n0.mp c_127
            have n1x := sg_t.mp n1
            rw [n1] at w3
            have w3 : I_124 = u2 I2 Q 9 (nI (q + 1)) := w3
            subst w3
            rw [if_pos n1, lyt_fuel 59 60 _ (by omega) (by omega) (by omega)] at hR2
            refine wa_goto (tgt := 29) hX dX7_isLayerText_132 (by decide) ?_
            refine wx_sub (l' := [(0, _), (1, _)]) ⟨rfl, rfl, trivial⟩ ?_
            exact ih _ w2a (q + 1) (by omega) (hQ2.mv (by omega)) (fun k hk => by rw [u2_n (by omega)]; exact hw2 k hk) ⟨fun j a b => by rw [u2_k a]; exact hF2.1 j a b, fun b a1 a2 => by rw [u2_n a1]; exact hF2.2 b a1 a2⟩ hR2
          · skip
            have n1 := bI_0.mp c_127
            rw [n1] at w3
            have w3 : I_124 = I2 := w3.trans hQ2.stay
            rw [w3]
            rw [if_neg (by rw [n1]; decide)] at hR2
            refine wa_iconst (v := nI 0) hX dX7_isLayerText_130 (by decide) ?_
            exact hret _ _ _ _ _ ⟨LTQ.n hR2.symm hQ2.2.2 hF2, rfl⟩ dX7_isLayerText_131
      refine wa_iload_n hX dX7_isLayerText_29 rfl ?_
      refine wa_if_eq (tgt := 135) hX dX7_isLayerText_30 (by decide) (fun c_30 => absurd c_30 (by decide)) (fun c_30 => ?_)
      refine wa_aload_n hX dX7_isLayerText_33 rfl ?_
      refine wa_vM hX (tX7_takesKey _ hM hQ1) bX7_takesKey mX7_143 (by decide) (by decide) (ci := 6) ⟨by decide, rfl⟩ q0 rfl rfl (Nat.le_of_ble_eq_true rfl) dX7_isLayerText_34 (fun r_34 I_34 q_34 => ?_)
      obtain ⟨w0, w1⟩ := q_34
      subst w0
      refine wa_if_ne (tgt := 42) hX dX7_isLayerText_37 (by decide) (fun c_37 => ?_) (fun c_37 => ?_)
      · skip
        have n1 := bI_n0.mp c_37
        obtain ⟨k, q, ek, h1, h2, h3⟩ : ∃ k q, keyF L ch p1 = (some k, q) ∧ p1 < q ∧ q ≤ L ∧ k < 16 := (key_c hQ1.2.1).resolve_left (fun h => by rw [h.1] at n1; cases n1)
        rw [ek] at w1
        have w1 : I_34 = (u2 (u2 I1 Q 10 (nI k)) Q 9 (nI q)) := w1
        subst w1
        have hQ2 : TQ (u2 (u2 I1 Q 10 (nI k)) Q 9 (nI q)) Q L ch q := hQ1.key h2
        refine wa_aload_n hX dX7_isLayerText_42 rfl ?_
        refine wa_getI hX fX7_140 rfl q0 dX7_isLayerText_43 ?_
        rw [u2_k (by decide), u2_s]
        refine wa_istore_n hX dX7_isLayerText_46 (by decide) ?_
        refine wa_aload_n hX dX7_isLayerText_47 rfl ?_
        refine wa_bipush (v := nI 62) hX dX7_isLayerText_48 (by decide) ?_
        refine wa_vM hX (tX7_takes _ hM hQ2 (show 62 < 65536 by decide)) bX7_takes mX7_146 (by decide) (by decide) (ci := 6) ⟨by decide, rfl⟩ q0 rfl rfl (Nat.le_of_ble_eq_true rfl) dX7_isLayerText_50 (fun r_50 I_50 q_50 => ?_)
        obtain ⟨w2, w3⟩ := q_50
        subst w2
        refine wa_if_ne (tgt := 58) hX dX7_isLayerText_53 (by decide) (fun c_53 => ?_) (fun c_53 => ?_)
        · skip
          have n2 := bI_n0.mp c_53
          have n2x := sg_t.mp n2
          rw [n2] at w3
          have w3 : I_50 = u2 (u2 (u2 I1 Q 10 (nI k)) Q 9 (nI q)) Q 9 (nI (q + 1)) := w3
          have hQ3 : TQ I_50 Q L ch (q + 1) := by rw [w3]; exact hQ2.mv (by omega)
          have f3 : (∀ j, j ≠ 9 → j ≠ 10 → I_50 Q j = I Q j) ∧ ∀ b, b ≠ Q → b ≠ Q + 5 → I_50 b = I b := by
            rw [w3]
            exact ⟨fun j a b => by rw [u2_k a, u2_k a, u2_k b]; exact hF.1 j a b, fun b a1 a2 => by rw [u2_n a1, u2_n a1, u2_n a1]; exact hF.2 b a1 a2⟩
          have r3 : I_50 (Q + 5) = I1 (Q + 5) := by rw [w3, u2_n (by omega), u2_n (by omega), u2_n (by omega)]
          clear w3
          refine wa_aload_n hX dX7_isLayerText_58 rfl ?_
          refine wa_bipush (v := nI 45) hX dX7_isLayerText_59 (by decide) ?_
          refine wa_vM hX (tX7_takes _ hM hQ3 (show 45 < 65536 by decide)) bX7_takes mX7_146 (by decide) (by decide) (ci := 6) ⟨by decide, rfl⟩ q0 rfl rfl (Nat.le_of_ble_eq_true rfl) dX7_isLayerText_61 (fun r_61 I_61 q_61 => ?_)
          obtain ⟨w4, w5⟩ := q_61
          subst w4
          refine wa_if_eq (tgt := 78) hX dX7_isLayerText_64 (by decide) (fun c_64 => ?_) (fun c_64 => ?_)
          · skip
            have n3 := bI_0.mp c_64
            rw [n3] at w5
            have w5 : I_61 = I_50 := w5.trans hQ3.stay
            rw [w5]
            refine wa_aload_n hX dX7_isLayerText_78 rfl ?_
            refine wa_vM hX (tX7_takesKey _ hM hQ3) bX7_takesKey mX7_143 (by decide) (by decide) (ci := 6) ⟨by decide, rfl⟩ q0 rfl rfl (Nat.le_of_ble_eq_true rfl) dX7_isLayerText_79 (fun r_79 I_79 q_79 => ?_)
            obtain ⟨w6, w7⟩ := q_79
            subst w6
            refine wa_if_eq (tgt := 98) hX dX7_isLayerText_82 (by decide) (fun c_82 => ?_) (fun c_82 => ?_)
            · skip
              have n4 := bI_0.mp c_82
              have ev : keyF L ch (q + 1) = (none, q + 1) := by
                rcases key_c (ch := ch) hQ3.2.1 with h | ⟨k2, q2, e, _⟩
                · exact h.1
                · rw [e] at n4; cases n4
              rw [ev] at w7
              have w7 : I_79 = I_50 := w7
              rw [w7]
              rw [lyt_s 59 w p1, bnd_n (show entF L ch p1 = (none, q + 1) by unfold entF; rw [bnd_s ek, if_pos n2, if_neg (by rw [n3]; decide), bnd_n ev])] at hR
              refine wa_iconst (v := nI 0) hX dX7_isLayerText_98 (by decide) ?_
              exact hret _ _ _ _ _ ⟨LTQ.n hR.symm hQ3.2.2 f3, rfl⟩ dX7_isLayerText_99
            · skip
              have n4 := bI_n0.mp c_82
              obtain ⟨v, q2, ev, h4, h5, h6⟩ : ∃ v q2, keyF L ch (q + 1) = (some v, q2) ∧ q + 1 < q2 ∧ q2 ≤ L ∧ v < 16 := (key_c hQ3.2.1).resolve_left (fun h => by rw [h.1] at n4; cases n4)
              rw [ev] at w7
              have w7 : I_79 = u2 (u2 I_50 Q 10 (nI v)) Q 9 (nI q2) := w7
              have hQ4 : TQ I_79 Q L ch q2 := by rw [w7]; exact hQ3.key h5
              have f4 : (∀ j, j ≠ 9 → j ≠ 10 → I_79 Q j = I Q j) ∧ ∀ b, b ≠ Q → b ≠ Q + 5 → I_79 b = I b := by
                rw [w7]
                exact ⟨fun j a b => by rw [u2_k a, u2_k b]; exact f3.1 j a b, fun b a1 a2 => by rw [u2_n a1, u2_n a1]; exact f3.2 b a1 a2⟩
              have r4 : I_79 (Q + 5) = I1 (Q + 5) := by rw [w7, u2_n (by omega), u2_n (by omega)]; exact r3
              have k4 : I_79 Q 10 = nI v := by rw [w7, u2_k (by decide), u2_s]
              have ee : entF L ch p1 = (some (k, v), q2) := by unfold entF; rw [bnd_s ek, if_pos n2, if_neg (by rw [n3]; decide), bnd_s ev]
              clear w7
              refine wa_aload_n hX dX7_isLayerText_85 rfl ?_
              refine wa_getR hX fX7_22 rfl q0 qj6 dX7_isLayerText_86 ?_
              refine wa_iload_n hX dX7_isLayerText_89 rfl ?_
              refine wa_aload_n hX dX7_isLayerText_90 rfl ?_
              refine wa_getI hX fX7_140 rfl q0 dX7_isLayerText_91 ?_
              rw [k4]
              refine wa_iast hX qs5 rfl (show k < 16 from h3) (by decide) dX7_isLayerText_94 ?_
              refine wa_goto (tgt := 100) hX dX7_isLayerText_95 (by decide) ?_
              refine wx_sub (l' := [(0, _)]) ⟨rfl, trivial⟩ ?_
              refine nxt _ (upF w k v) q2 (by omega) (hQ4.r5 (u2_n (by omega)) (u2_n (by omega))) (w17 (fun j hj => by rw [r4]; exact hw j hj) (by omega)) ⟨fun j a b => by rw [u2_n (by omega)]; exact f4.1 j a b, fun b a1 a2 => by rw [u2_n a2]; exact f4.2 b a1 a2⟩ ?_
              rw [← hR, lyt_s 59 w p1, bnd_s ee]
          · skip
            have n3 := bI_n0.mp c_64
            have n3x := sg_t.mp n3
            rw [n3] at w5
            have w5 : I_61 = u2 I_50 Q 9 (nI (q + 2)) := w5
            have hQ4 : TQ I_61 Q L ch (q + 2) := by rw [w5]; exact hQ3.mv (by omega)
            have f4 : (∀ j, j ≠ 9 → j ≠ 10 → I_61 Q j = I Q j) ∧ ∀ b, b ≠ Q → b ≠ Q + 5 → I_61 b = I b := by
              rw [w5]
              exact ⟨fun j a b => by rw [u2_k a]; exact f3.1 j a b, fun b a1 a2 => by rw [u2_n a1]; exact f3.2 b a1 a2⟩
            have r4 : I_61 (Q + 5) = I1 (Q + 5) := by rw [w5, u2_n (by omega)]; exact r3
            have ee : entF L ch p1 = (some (k, 16), q + 2) := by unfold entF; rw [bnd_s ek, if_pos n2, if_pos n3]
            clear w5
            refine wa_aload_n hX dX7_isLayerText_67 rfl ?_
            refine wa_getR hX fX7_22 rfl q0 qj6 dX7_isLayerText_68 ?_
            refine wa_iload_n hX dX7_isLayerText_71 rfl ?_
            refine wa_bipush (v := nI 16) hX dX7_isLayerText_72 (by decide) ?_
            refine wa_iast hX qs5 rfl (show k < 16 from h3) (by decide) dX7_isLayerText_74 ?_
            refine wa_goto (tgt := 100) hX dX7_isLayerText_75 (by decide) ?_
            refine wx_sub (l' := [(0, _)]) ⟨rfl, trivial⟩ ?_
            refine nxt _ (upF w k 16) (q + 2) (by omega) (hQ4.r5 (u2_n (by omega)) (u2_n (by omega))) (w17 (fun j hj => by rw [r4]; exact hw j hj) (Nat.le_refl _)) ⟨fun j a b => by rw [u2_n (by omega)]; exact f4.1 j a b, fun b a1 a2 => by rw [u2_n a2]; exact f4.2 b a1 a2⟩ ?_
            rw [← hR, lyt_s 59 w p1, bnd_s ee]
        · skip
          have n2 := bI_0.mp c_53
          rw [n2] at w3
          have w3 : I_50 = (u2 (u2 I1 Q 10 (nI k)) Q 9 (nI q)) := w3.trans hQ2.stay
          rw [w3]
          rw [lyt_s 59 w p1, bnd_n (show entF L ch p1 = (none, q) by unfold entF; rw [bnd_s ek, if_neg (by rw [n2]; decide)])] at hR
          refine wa_iconst (v := nI 0) hX dX7_isLayerText_56 (by decide) ?_
          exact hret _ _ _ _ _ ⟨LTQ.n hR.symm hQ2.2.2 ⟨fun j a b => by rw [u2_k a, u2_k b]; exact hF.1 j a b, fun b a1 a2 => by rw [u2_n a1, u2_n a1]; exact hF.2 b a1 a2⟩, rfl⟩ dX7_isLayerText_57
      · skip
        have n1 := bI_0.mp c_37
        have ek : keyF L ch p1 = (none, p1) := by
          rcases key_c (ch := ch) hQ1.2.1 with h | ⟨k, q, e, h1, h2, h3⟩
          · exact h.1
          · rw [e] at n1; cases n1
        rw [ek] at w1
        have w1 : I_34 = I1 := w1
        rw [w1]
        rw [lyt_s 59 w p1, bnd_n (show entF L ch p1 = (none, p1) by unfold entF; rw [bnd_n ek])] at hR
        refine wa_iconst (v := nI 0) hX dX7_isLayerText_40 (by decide) ?_
        exact hret _ _ _ _ _ ⟨LTQ.n hR.symm hQ1.2.2 hF, rfl⟩ dX7_isLayerText_41
  have lf : ∀ (n i : Nat), i + n = 16 → WX X 0 0 N Sh (uR I (Q + 5) (rowN i (fun _ => nI 17) (I (Q + 5)))) J 2 [(0, .ref Q), (1, .int (nI i))] [] := by
    intro n
    induction n with
    | zero =>
      intro i  hi
      obtain rfl : 16 = i := by omega
      refine wa_iload_n hX dX7_isLayerText_2 rfl ?_
      refine wa_bipush (v := nI 16) hX dX7_isLayerText_3 (by decide) ?_
      refine wa_icmp_ge (tgt := 22) hX dX7_isLayerText_5 (by decide) (fun c_5 => ?_) (fun c_5 => absurd (Int32.le_refl _) c_5)
      refine wa_aload_n hX dX7_isLayerText_22 rfl ?_
      refine wa_iconst (v := nI 0) hX dX7_isLayerText_23 (by decide) ?_
      refine wa_putI hX fX7_85 rfl rfl ⟨rfl, rfl⟩ q0 dX7_isLayerText_24 ?_
      refine wa_iconst (v := nI 1) hX dX7_isLayerText_27 (by decide) ?_
      refine wa_istore_n hX dX7_isLayerText_28 (by decide) ?_
      refine wx_sub (l' := [(0, _), (1, _)]) ⟨rfl, rfl, trivial⟩ ?_
      exact lp 61 (u2 (uR I (Q + 5) (rowN 16 (fun _ => nI 17) (I (Q + 5)))) Q 9 (nI 0)) (fun _ => 17) 0 (by omega) hQ0 (fun k hk => by rw [u2_n (by omega), uR_s, rowN_in hk]; exact ⟨rfl, Nat.le_refl _⟩) ⟨fun j a b => by rw [u2_k a, uR_n (by omega)], fun b a1 a2 => by rw [u2_n a1, uR_n a2]⟩ rfl
    | succ n ih =>
      intro i  hi
      have hlt : i < 16 := by omega
      refine wa_iload_n hX dX7_isLayerText_2 rfl ?_
      refine wa_bipush (v := nI 16) hX dX7_isLayerText_3 (by decide) ?_
      refine wa_icmp_ge (tgt := 22) hX dX7_isLayerText_5 (by decide) (fun c_5 => absurd c_5 (nI_ge hlt (by decide))) (fun c_5 => ?_)
      refine wa_aload_n hX dX7_isLayerText_8 rfl ?_
      refine wa_getR hX fX7_22 rfl q0 qj6 dX7_isLayerText_9 ?_
      refine wa_iload_n hX dX7_isLayerText_12 rfl ?_
      refine wa_bipush (v := nI 17) hX dX7_isLayerText_13 (by decide) ?_
      refine wa_iast hX qs5 rfl (by first | assumption | omega) (by decide) dX7_isLayerText_15 ?_
      refine wa_iinc hX dX7_isLayerText_16 rfl (inc1 _) (by decide) ?_
      refine wa_goto (tgt := 2) hX dX7_isLayerText_19 (by decide) ?_
      refine wx_sub (l' := [(0, _), (1, _)]) ⟨rfl, rfl, trivial⟩ ?_
      rw [u2_row (i := i) (g := fun _ => nI 17) rfl]
      exact ih (i + 1) (by omega)
  refine wa_iconst (v := nI 0) hX dX7_isLayerText_0 (by decide) ?_
  refine wa_istore_n hX dX7_isLayerText_1 (by decide) ?_
  have e0 : I = uR I (Q + 5) (rowN 0 (fun _ => nI 17) (I (Q + 5))) := row_0
  rw (occs := .pos [1]) [e0]
  exact lf 16 0 (by omega)

