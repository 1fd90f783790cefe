/-! Text: keys and sets; Reader: a layer -/
theorem nI_nm1 {k : Nat} (h : k < 2 ^ 31) : ¬ nI k = -1 := by
  intro e
  exact nI_pos h (by rw [e]; decide)
theorem kst_s {L : Nat} {ch : Nat → Nat} (n : Nat) (s : Int32) (p : Nat) : kstF L ch (n + 1) s p = bnd (keyF L ch p) (fun k q => if sg L ch q 125 = true then (some (s ||| b1 (nI k)), q + 1) else if sg L ch q 44 = true then kstF L ch n (s ||| b1 (nI k)) (q + 1) else (none, q)) := rfl
theorem lyt_s {L : Nat} {ch : Nat → Nat} (n : Nat) (w : RW) (p : Nat) : lytF L ch (n + 1) w p = bnd (entF L ch p) (fun e q => if L ≤ q then (some (upF w e.1 e.2), q) else if sg L ch q 44 = true then lytF L ch n (upF w e.1 e.2) (q + 1) else (none, q)) := rfl
def oX (x : Option Int32) : Int32 := match x with
  | none => -1
  | some s => s
theorem kst_31 {L : Nat} {ch : Nat → Nat} : ∀ (n : Nat) (s : Int32) {p : Nat} {x : Int32} {q : Nat}, p ≤ L → kstF L ch n s p = (some x, q) → bt s 31 = false → bt x 31 = false
  | 0, _, _, _, _, _, h, _ => by cases h
  | n + 1, s, p, x, q, hp, h, hs => by
    rw [kst_s] at h
    rcases key_c (ch := ch) hp with ⟨e, _⟩ | ⟨k, q2, e, h1, h2, h3⟩
    · rw [bnd_n e] at h; cases h
    · rw [bnd_s e] at h
      have h4 : bt (s ||| b1 (nI k)) 31 = false := by
        rw [b_or, hs, bt_b1 (by omega) (by omega), decide_eq_false (by omega)]
        rfl
      by_cases e1 : sg L ch q2 125 = true
      · rw [if_pos e1] at h
        cases h
        exact h4
      · rw [if_neg e1] at h
        by_cases e2 : sg L ch q2 44 = true
        · rw [if_pos e2] at h
          have := sg_t.mp e2
          exact kst_31 n _ (by omega) h h4
        · rw [if_neg e2] at h; cases h
theorem kst_n {L : Nat} {ch : Nat → Nat} {p : Nat} {x : Int32} {q : Nat} (hp : p ≤ L) (h : kstF L ch 60 (nI 0) p = (some x, q)) : ¬ x = -1 := by
  intro e
  have := kst_31 60 (nI 0) hp h (b_0 31)
  rw [e, b_m1 31 (by decide)] at this
  cases this
theorem ent_c {L : Nat} {ch : Nat → Nat} {p : Nat} (h : p ≤ L) : (∃ q, entF L ch p = (none, q) ∧ p ≤ q ∧ q ≤ L) ∨ ∃ k v q, entF L ch p = (some (k, v), q) ∧ p < q ∧ q ≤ L ∧ k < 16 ∧ v ≤ 16 := by
  unfold entF
  rcases key_c (ch := ch) h with ⟨e, _⟩ | ⟨k, q, e, h1, h2, h3⟩
  · rw [bnd_n e]; exact Or.inl ⟨p, rfl, Nat.le_refl _, h⟩
  · rw [bnd_s e]
    by_cases e1 : sg L ch q 62 = true
    · rw [if_pos e1]
      have := sg_t.mp e1
      by_cases e2 : sg L ch (q + 1) 45 = true
      · rw [if_pos e2]
        have := sg_t.mp e2
        exact Or.inr ⟨k, 16, q + 2, rfl, by omega, by omega, h3, Nat.le_refl _⟩
      · rw [if_neg e2]
        rcases key_c (ch := ch) (show q + 1 ≤ L by omega) with ⟨e3, _⟩ | ⟨v, q2, e3, h4, h5, h6⟩
        · rw [bnd_n e3]; exact Or.inl ⟨q + 1, rfl, by omega, by omega⟩
        · rw [bnd_s e3]; exact Or.inr ⟨k, v, q2, rfl, by omega, by omega, h3, by omega⟩
    · rw [if_neg e1]; exact Or.inl ⟨q, rfl, by omega, h2⟩
/-- the class's reader at r -/
def RX (Sh : SM) (J : JM) (r : Nat) : Prop := Sh r = some (.inr 1) ∧ (J r 0 = some (r + 1) ∧ J r 1 = some (r + 3) ∧ J r 2 = some (r + 14) ∧ J r 3 = some (r + 15)) ∧ TX Sh J (r + 1) ∧ shR Sh (r + 3) 10 ∧ (∀ j, j < 10 → J (r + 3) j = some (r + 4 + j) ∧ shI Sh (r + 4 + j) 16) ∧ shI Sh (r + 14) 16 ∧ shI Sh (r + 15) 16
theorem RY.rx {Sh : SM} {J : JM} {r : Nat} (h : RY Sh J r) : RX Sh J r := by
  obtain ⟨h1, h2, h3, h4, h5, h6, h7, h8, h9, h10, h11, h12⟩ := h
  exact ⟨h1, ⟨h2, h3, h4, h5⟩, ⟨h6, h7, h8⟩, h9, h10, h11, h12⟩
def enI (I : IM) (r : Nat) (e : Option (Nat × Nat) × Nat) : IM := match e.1 with
  | none => u2 I (r + 1) 2 (nI e.2)
  | some kv => u2 (u2 I (r + 1) 2 (nI e.2)) (r + 15) kv.1 (nI kv.2)
theorem enI_n {I : IM} {r q : Nat} {e : Option (Nat × Nat) × Nat} (h : e = (none, q)) : enI I r e = u2 I (r + 1) 2 (nI q) := by rw [h]; rfl
theorem enI_s {I : IM} {r k v q : Nat} {e : Option (Nat × Nat) × Nat} (h : e = (some (k, v), q)) : enI I r e = u2 (u2 I (r + 1) 2 (nI q)) (r + 15) k (nI v) := by rw [h]; rfl
set_option maxHeartbeats 4000000 in
set_option maxRecDepth 100000 in
theorem tX5_takeKey {l : Launch} {D : va_G} {A : Nat → Prop} {N : Nat} {Sh : SM} {J : JM} (I : IM) {t : Nat} (hX5 : TX Sh J t) {L : Nat} {ch : Nat → Nat} {p : Nat} (hT : TT I t L ch p) : CtM l D A yX5_takeKey cX5_takeKey 3 FieldType.int 2 N Sh I J [.ref t] (fun r I' => r = oI (keyF L ch p).1 ∧ I' = u2 I t 2 (nI (keyF L ch p).2)) := by
  refine ct_I (l0 := [(0, .ref t)]) (by decide +kernel) (Nat.le_of_ble_eq_true rfl) rfl (fun _ _ _ _ => rfl) ?_
  intro X hX hret _ _ _
  have hX : XK X RX5 cX5_takeKey 3 2 := hX
  obtain ⟨t0, tj0, ts⟩ := id hX5
  obtain ⟨⟨hL, hl2⟩, ⟨hp1, hp2⟩, hch⟩ := id hT
  refine wa_aload_n hX dX5_takeKey_0 rfl ?_
  refine wa_bipush (v := nI 48) hX dX5_takeKey_1 (by decide) ?_
  refine wa_bipush (v := nI 57) hX dX5_takeKey_3 (by decide) ?_
  refine wa_vM hX (tX5_takeBetween I hX5 hT (show 48 < 65536 by decide) (show 57 < 65536 by decide)) bX5_takeBetween mX5_26 (by decide) (by decide) (ci := 4) ⟨by decide, rfl⟩ t0 rfl rfl (Nat.le_of_ble_eq_true rfl) dX5_takeKey_5 (fun r_5 I_5 q_5 => ?_)
  obtain ⟨w0, w1⟩ := q_5
  refine wa_istore_n hX dX5_takeKey_8 (by decide) ?_
  refine wa_iload_n hX dX5_takeKey_9 rfl ?_
  refine wa_iconst (v := nI 1) hX dX5_takeKey_10 (by decide) ?_
  refine wa_icmp_eq (tgt := 16) hX dX5_takeKey_11 (by decide) (fun c_11 => ?_) (fun c_11 => ?_)
  · skip
    have n1 : bw L ch p 48 57 = true := by
      cases e : bw L ch p 48 57 with
      | true => rfl
      | false => rw [e] at w0; have w0 : r_5 = -1 := w0; rw [w0] at c_11; exact absurd c_11 (by decide)
    rw [n1] at w0 w1
    have n2 := bw_t.mp n1
    have w0 : r_5 = nI (ch p - 48) := w0
    have n3 : ch p = 49 := by rw [w0] at c_11; have := eq_of_nI c_11 (by omega) (by decide); omega
    have w1 : I_5 = u2 I t 2 (nI (p + 1)) := w1
    subst w1
    have hT1 := hT.mv (show p + 1 ≤ L by omega)
    refine wa_aload_n hX dX5_takeKey_16 rfl ?_
    refine wa_bipush (v := nI 48) hX dX5_takeKey_17 (by decide) ?_
    refine wa_bipush (v := nI 53) hX dX5_takeKey_19 (by decide) ?_
    refine wa_vM hX (tX5_takeBetween _ hX5 hT1 (show 48 < 65536 by decide) (show 53 < 65536 by decide)) bX5_takeBetween mX5_26 (by decide) (by decide) (ci := 4) ⟨by decide, rfl⟩ t0 rfl rfl (Nat.le_of_ble_eq_true rfl) dX5_takeKey_21 (fun r_21 I_21 q_21 => ?_)
    obtain ⟨w2, w3⟩ := q_21
    rw [u2_u2] at w3
    refine wa_istore_n hX dX5_takeKey_24 (by decide) ?_
    refine wa_iload_n hX dX5_takeKey_25 rfl ?_
    refine wa_iconst (v := -1) hX dX5_takeKey_26 (by decide) ?_
    refine wa_icmp_ne (tgt := 34) hX dX5_takeKey_27 (by decide) (fun c_27 => ?_) (fun c_27 => ?_)
    · skip
      have n4 : bw L ch (p + 1) 48 53 = true := by
        cases e : bw L ch (p + 1) 48 53 with
        | true => rfl
        | false => rw [e] at w2; exact absurd w2 c_27
      rw [n4] at w2 w3
      have w2 : r_21 = nI (ch (p + 1) - 48) := w2
      have w3 : I_21 = u2 I t 2 (nI (p + 2)) := w3
      subst w2
      subst w3
      have ek : keyF L ch p = (some (10 + (ch (p + 1) - 48)), p + 2) := by unfold keyF; rw [if_pos n1, if_pos n3, if_pos n4]
      refine wa_bipush (v := nI 10) hX dX5_takeKey_34 (by decide) ?_
      refine wa_iload_n hX dX5_takeKey_36 rfl ?_
      refine wa_iadd hX dX5_takeKey_37 ?_
      refine hret _ _ _ _ _ ⟨⟨?_, ?_⟩, rfl⟩ dX5_takeKey_38
      · rw [ek]; exact nI_add _ _
      · rw [ek]
    · skip
      have n4 : bw L ch (p + 1) 48 53 = false := by
        cases e : bw L ch (p + 1) 48 53 with
        | false => rfl
        | true => rw [e] at w2; have w2 : r_21 = nI (ch (p + 1) - 48) := w2; rw [w2] at c_27; exact absurd c_27 (nI_nm1 (by have := bw_t.mp e; omega))
      rw [n4] at w3
      have w3 : I_21 = u2 I t 2 (nI (p + 1)) := w3
      subst w3
      have ek : keyF L ch p = (some 1, p + 1) := by unfold keyF; rw [if_pos n1, if_pos n3, if_neg (by rw [n4]; decide)]
      refine wa_iconst (v := nI 1) hX dX5_takeKey_30 (by decide) ?_
      refine wa_goto (tgt := 38) hX dX5_takeKey_31 (by decide) ?_
      refine hret _ _ _ _ _ ⟨⟨?_, ?_⟩, rfl⟩ dX5_takeKey_38
      · rw [ek]; rfl
      · rw [ek]
  · skip
    have ek : r_5 = oI (keyF L ch p).1 ∧ adv (bw L ch p 48 57) p = (keyF L ch p).2 := by
      unfold keyF
      cases e : bw L ch p 48 57 with
      | true =>
        rw [e] at w0
        have w0 : r_5 = nI (ch p - 48) := w0
        have n3 : ch p ≠ 49 := fun e2 => c_11 (by rw [w0, e2])
        rw [if_pos rfl, if_neg n3]
        exact ⟨w0, rfl⟩
      | false =>
        rw [e] at w0
        rw [if_neg (by decide)]
        exact ⟨w0, rfl⟩
    refine wa_iload_n hX dX5_takeKey_14 rfl ?_
    refine hret _ _ _ _ _ ⟨⟨ek.1, ?_⟩, rfl⟩ dX5_takeKey_15
    rw [w1, ek.2]

set_option maxHeartbeats 4000000 in
set_option maxRecDepth 100000 in
theorem tX5_takeKeySet {l : Launch} {D : va_G} {A : Nat → Prop} {N : Nat} {Sh : SM} {J : JM} (I : IM) {t : Nat} (hX5 : TX Sh J t) {L : Nat} {ch : Nat → Nat} {p : Nat} (hT : TT I t L ch p) : CtM l D A yX5_takeKeySet cX5_takeKeySet 4 FieldType.int 3 N Sh I J [.ref t] (fun r I' => r = oX (kstF L ch 60 (nI 0) p).1 ∧ I' = u2 I t 2 (nI (kstF L ch 60 (nI 0) p).2)) := by
  refine ct_I (l0 := [(0, .ref t)]) (by decide +kernel) (Nat.le_of_ble_eq_true rfl) rfl (fun _ _ _ _ => rfl) ?_
  intro X hX hret _ _ _
  have hX : XK X RX5 cX5_takeKeySet 4 3 := hX
  obtain ⟨t0, tj0, ts⟩ := id hX5
  obtain ⟨⟨hL, hl2⟩, ⟨hp1, hp2⟩, hch⟩ := id hT
  have lp : ∀ (n i : Nat) (s : Int32) (p1 : Nat), i + n = 60 → (p1 ≤ L) → (kstF L ch n s p1 = kstF L ch 60 (nI 0) p) → WX X 0 0 N Sh (u2 I t 2 (nI p1)) J 4 [(0, .ref t), (1, .int s), (2, .int (nI i))] [] := by
    intro n
    induction n with
    | zero =>
      intro i s p1 hi hp hR
      obtain rfl : 60 = i := by omega
      refine wa_iload_n hX dX5_takeKeySet_4 rfl ?_
      refine wa_bipush (v := nI 60) hX dX5_takeKeySet_5 (by decide) ?_
      refine wa_icmp_ge (tgt := 56) hX dX5_takeKeySet_7 (by decide) (fun c_7 => ?_) (fun c_7 => absurd (Int32.le_refl _) c_7)
      refine wa_iconst (v := -1) hX dX5_takeKeySet_56 (by decide) ?_
      have hR : (none, p1) = kstF L ch 60 (nI 0) p := hR
      refine hret _ _ _ _ _ ⟨⟨?_, ?_⟩, rfl⟩ dX5_takeKeySet_57
      · rw [← hR]; rfl
      · rw [← hR]
    | succ n ih =>
      intro i s p1 hi hp hR
      have hlt : i < 60 := by omega
      refine wa_iload_n hX dX5_takeKeySet_4 rfl ?_
      refine wa_bipush (v := nI 60) hX dX5_takeKeySet_5 (by decide) ?_
      refine wa_icmp_ge (tgt := 56) hX dX5_takeKeySet_7 (by decide) (fun c_7 => absurd c_7 (nI_ge hlt (by decide))) (fun c_7 => ?_)
      refine wa_aload_n hX dX5_takeKeySet_10 rfl ?_
      refine wa_vM hX (tX5_takeKey _ hX5 (hT.mv hp)) bX5_takeKey mX5_30 (by decide) (by decide) (ci := 4) ⟨by decide, rfl⟩ t0 rfl rfl (Nat.le_of_ble_eq_true rfl) dX5_takeKeySet_11 (fun r_11 I_11 q_11 => ?_)
      obtain ⟨w0, w1⟩ := q_11
      rw [u2_u2] at w1
      refine wa_istore_n hX dX5_takeKeySet_14 (by decide) ?_
      refine wa_iload_n hX dX5_takeKeySet_15 rfl ?_
      refine wa_iconst (v := -1) hX dX5_takeKeySet_16 (by decide) ?_
      refine wa_icmp_ne (tgt := 22) hX dX5_takeKeySet_17 (by decide) (fun c_17 => ?_) (fun c_17 => ?_)
      · skip
        obtain ⟨k, q, e, h1, h2, h3⟩ : ∃ k q, keyF L ch p1 = (some k, q) ∧ p1 < q ∧ q ≤ L ∧ k < 16 := (key_c hp).resolve_left (fun h => c_17 (by rw [w0, h.1]; rfl))
        have w0 : r_11 = nI k := by rw [w0, e]; rfl
        subst w0
        rw [show (keyF L ch p1).2 = q by rw [e]] at w1
        subst w1
        rw [kst_s n s p1, bnd_s e] at hR
        refine wa_iload_n hX dX5_takeKeySet_22 rfl ?_
        refine wa_iconst (v := nI 1) hX dX5_takeKeySet_23 (by decide) ?_
        refine wa_iload_n hX dX5_takeKeySet_24 rfl ?_
        refine wa_ishl hX dX5_takeKeySet_25 ?_
        refine wa_ior hX dX5_takeKeySet_26 ?_
        refine wa_istore_n hX dX5_takeKeySet_27 (by decide) ?_
        refine wa_aload_n hX dX5_takeKeySet_28 rfl ?_
        refine wa_bipush (v := nI 125) hX dX5_takeKeySet_29 (by decide) ?_
        refine wa_vM hX (tX5_take _ hX5 (hT.mv h2) (show 125 < 65536 by decide)) bX5_take mX5_34 (by decide) (by decide) (ci := 4) ⟨by decide, rfl⟩ t0 rfl rfl (Nat.le_of_ble_eq_true rfl) dX5_takeKeySet_31 (fun r_31 I_31 q_31 => ?_)
        obtain ⟨w2, w3⟩ := q_31
        rw [u2_u2] at w3
        subst w2
        refine wa_if_eq (tgt := 39) hX dX5_takeKeySet_34 (by decide) (fun c_34 => ?_) (fun c_34 => ?_)
        · skip
          have n1 := bI_0.mp c_34
          rw [n1] at w3
          have w3 : I_31 = u2 I t 2 (nI q) := w3
          subst w3
          rw [if_neg (by rw [n1]; decide)] at hR
          refine wa_aload_n hX dX5_takeKeySet_39 rfl ?_
          refine wa_bipush (v := nI 44) hX dX5_takeKeySet_40 (by decide) ?_
          refine wa_vM hX (tX5_take _ hX5 (hT.mv h2) (show 44 < 65536 by decide)) bX5_take mX5_34 (by decide) (by decide) (ci := 4) ⟨by decide, rfl⟩ t0 rfl rfl (Nat.le_of_ble_eq_true rfl) dX5_takeKeySet_42 (fun r_42 I_42 q_42 => ?_)
          obtain ⟨w4, w5⟩ := q_42
          rw [u2_u2] at w5
          subst w4
          refine wa_if_ne (tgt := 50) hX dX5_takeKeySet_45 (by decide) (fun c_45 => ?_) (fun c_45 => ?_)
          · skip
            have n2 := bI_n0.mp c_45
            have n3 := sg_t.mp n2
            rw [n2] at w5
            have w5 : I_42 = u2 I t 2 (nI (q + 1)) := w5
            subst w5
            rw [if_pos n2] at hR
            refine wa_iinc hX dX5_takeKeySet_50 rfl (inc1 _) (by decide) ?_
            refine wa_goto (tgt := 4) hX dX5_takeKeySet_53 (by decide) ?_
            refine wx_sub (l' := [(0, _), (1, _), (2, _)]) ⟨rfl, rfl, rfl, trivial⟩ ?_
            exact ih (i + 1) _ _ (by omega) (by omega) hR
          · skip
            have n2 := bI_0.mp c_45
            rw [n2] at w5
            have w5 : I_42 = u2 I t 2 (nI q) := w5
            subst w5
            rw [if_neg (by rw [n2]; decide)] at hR
            refine wa_iconst (v := -1) hX dX5_takeKeySet_48 (by decide) ?_
            refine hret _ _ _ _ _ ⟨⟨?_, ?_⟩, rfl⟩ dX5_takeKeySet_49
            · rw [← hR]; rfl
            · rw [← hR]
        · skip
          have n1 := bI_n0.mp c_34
          rw [n1] at w3
          have w3 : I_31 = u2 I t 2 (nI (q + 1)) := w3
          subst w3
          rw [if_pos n1] at hR
          refine wa_iload_n hX dX5_takeKeySet_37 rfl ?_
          refine hret _ _ _ _ _ ⟨⟨?_, ?_⟩, rfl⟩ dX5_takeKeySet_38
          · rw [← hR]; rfl
          · rw [← hR]
      · skip
        have e : keyF L ch p1 = (none, p1) := by
          rcases key_c (ch := ch) hp with h | ⟨k, q, e, h1, h2, h3⟩
          · exact h.1
          · rw [e] at w0; rw [w0] at c_17; exact absurd c_17 (nI_nm1 (show k < 2 ^ 31 by omega))
        rw [e] at w1
        subst w1
        rw [kst_s n s p1, bnd_n e] at hR
        refine wa_iconst (v := -1) hX dX5_takeKeySet_20 (by decide) ?_
        refine hret _ _ _ _ _ ⟨⟨?_, ?_⟩, rfl⟩ dX5_takeKeySet_21
        · rw [← hR]; rfl
        · rw [← hR]
  refine wa_iconst (v := nI 0) hX dX5_takeKeySet_0 (by decide) ?_
  refine wa_istore_n hX dX5_takeKeySet_1 (by decide) ?_
  refine wa_iconst (v := nI 0) hX dX5_takeKeySet_2 (by decide) ?_
  refine wa_istore_n hX dX5_takeKeySet_3 (by decide) ?_
  have e0 : I = u2 I t 2 (nI p) := hT.stay.symm
  rw (occs := .pos [1]) [e0]
  exact lp 60 0 _ _ (by omega) hp1 rfl

set_option maxHeartbeats 4000000 in
set_option maxRecDepth 100000 in
theorem tX1_readEntry {l : Launch} {D : va_G} {A : Nat → Prop} {N : Nat} {Sh : SM} {J : JM} (I : IM) {r : Nat} (hRX : RX Sh J r) {L : Nat} {ch : Nat → Nat} {p : Nat} (hT : TT I (r + 1) L ch p) : CtM l D A yX1_readEntry cX1_readEntry 3 FieldType.boolean 3 N Sh I J [.ref r] (fun x I' => x = bI (entF L ch p).1.isSome ∧ I' = enI I r (entF L ch p)) := by
  refine ct_I (l0 := [(0, .ref r)]) (by decide +kernel) (Nat.le_of_ble_eq_true rfl) rfl (fun _ _ _ h => by obtain ⟨⟨rfl, _⟩, _⟩ := h; exact nar_B _) ?_
  intro X hX hret _ _ _
  have hX : XK X RX1 cX1_readEntry 3 3 := hX
  obtain ⟨r0, ⟨rj0, rj1, rj2, rj3⟩, rT, rR, rrs, rw0, rs15⟩ := id hRX
  obtain ⟨⟨hL, hl2⟩, ⟨hp1, hp2⟩, hch⟩ := id hT
  refine wa_aload_n hX dX1_readEntry_0 rfl ?_
  refine wa_getR hX fX1_12 rfl r0 rj0 dX1_readEntry_1 ?_
  refine wa_vM hX (tX5_takeKey _ rT hT) bX5_takeKey mX1_54 (by decide) (by decide) (ci := 4) ⟨by decide, rfl⟩ rT.1 rfl rfl (Nat.le_of_ble_eq_true rfl) dX1_readEntry_4 (fun r_4 I_4 q_4 => ?_)
  obtain ⟨w0, w1⟩ := q_4
  refine wa_istore_n hX dX1_readEntry_7 (by decide) ?_
  refine wa_iload_n hX dX1_readEntry_8 rfl ?_
  refine wa_nP hX (tX6_isKey _ r_4) bX6_isKey mX1_58 (by decide) (by decide) rfl rfl (Nat.le_of_ble_eq_true rfl) dX1_readEntry_9 (fun r_9 q_9 => ?_)
  subst q_9
  refine wa_if_eq (tgt := 27) hX dX1_readEntry_12 (by decide) (fun c_12 => ?_) (fun c_12 => ?_)
  · skip
    have n0 := bI_0.mp c_12
    have ek : keyF L ch p = (none, p) := by
      rcases key_c (ch := ch) hp1 with h | ⟨k, q, e, h1, h2, h3⟩
      · exact h.1
      · rw [e] at w0; rw [w0, show inB 16 (oI (some k)) = inB 16 (nI k) from rfl, inB_nI (by omega) (by decide), decide_eq_true h3] at n0; cases n0
    rw [ek] at w1
    subst w1
    have ee : entF L ch p = (none, p) := by unfold entF; rw [bnd_n ek]
    refine wa_iconst (v := nI 0) hX dX1_readEntry_27 (by decide) ?_
    exact hret _ _ _ _ _ ⟨⟨by rw [ee]; rfl, (enI_n ee).symm⟩, rfl⟩ dX1_readEntry_28
  · skip
    have n0 := bI_n0.mp c_12
    obtain ⟨k, q, ek, h1, h2, h3⟩ : ∃ k q, keyF L ch p = (some k, q) ∧ p < q ∧ q ≤ L ∧ k < 16 := (key_c hp1).resolve_left (fun h => by rw [w0, h.1] at n0; exact absurd (show inB 16 (-1) = true from n0) (by decide))
    rw [ek] at w0 w1
    have w0 : r_4 = nI k := w0
    subst w0
    subst w1
    refine wa_aload_n hX dX1_readEntry_15 rfl ?_
    refine wa_getR hX fX1_12 rfl r0 rj0 dX1_readEntry_16 ?_
    refine wa_bipush (v := nI 62) hX dX1_readEntry_19 (by decide) ?_
    refine wa_vM hX (tX5_take _ rT (hT.mv h2) (show 62 < 65536 by decide)) bX5_take mX1_50 (by decide) (by decide) (ci := 4) ⟨by decide, rfl⟩ rT.1 rfl rfl (Nat.le_of_ble_eq_true rfl) dX1_readEntry_21 (fun r_21 I_21 q_21 => ?_)
    obtain ⟨w2, w3⟩ := q_21
    rw [u2_u2] at w3
    subst w2
    refine wa_if_ne (tgt := 29) hX dX1_readEntry_24 (by decide) (fun c_24 => ?_) (fun c_24 => ?_)
    · skip
      have n1 := bI_n0.mp c_24
      have n1x := sg_t.mp n1
      rw [n1] at w3
      have w3 : I_21 = u2 I (r + 1) 2 (nI (q + 1)) := w3
      subst w3
      refine wa_aload_n hX dX1_readEntry_29 rfl ?_
      refine wa_getR hX fX1_12 rfl r0 rj0 dX1_readEntry_30 ?_
      refine wa_bipush (v := nI 45) hX dX1_readEntry_33 (by decide) ?_
      refine wa_vM hX (tX5_take _ rT (hT.mv (show q + 1 ≤ L by omega)) (show 45 < 65536 by decide)) bX5_take mX1_50 (by decide) (by decide) (ci := 4) ⟨by decide, rfl⟩ rT.1 rfl rfl (Nat.le_of_ble_eq_true rfl) dX1_readEntry_35 (fun r_35 I_35 q_35 => ?_)
      obtain ⟨w2, w3⟩ := q_35
      rw [u2_u2] at w3
      subst w2
      refine wa_if_eq (tgt := 46) hX dX1_readEntry_38 (by decide) (fun c_38 => ?_) (fun c_38 => ?_)
      · skip
        have n2 := bI_0.mp c_38
        rw [n2] at w3
        have w3 : I_35 = u2 I (r + 1) 2 (nI (q + 1)) := w3
        subst w3
        refine wa_aload_n hX dX1_readEntry_46 rfl ?_
        refine wa_getR hX fX1_12 rfl r0 rj0 dX1_readEntry_47 ?_
        refine wa_vM hX (tX5_takeKey _ rT (hT.mv (show q + 1 ≤ L by omega))) bX5_takeKey mX1_54 (by decide) (by decide) (ci := 4) ⟨by decide, rfl⟩ rT.1 rfl rfl (Nat.le_of_ble_eq_true rfl) dX1_readEntry_50 (fun r_50 I_50 q_50 => ?_)
        obtain ⟨w4, w5⟩ := q_50
        rw [u2_u2] at w5
        refine wa_istore_n hX dX1_readEntry_53 (by decide) ?_
        refine wa_iload_n hX dX1_readEntry_54 rfl ?_
        refine wa_iconst (v := -1) hX dX1_readEntry_55 (by decide) ?_
        refine wa_icmp_ne (tgt := 61) hX dX1_readEntry_56 (by decide) (fun c_56 => ?_) (fun c_56 => ?_)
        · skip
          obtain ⟨v, q2, ev, h4, h5, h6⟩ : ∃ k q2, keyF L ch (q + 1) = (some k, q2) ∧ q + 1 < q2 ∧ q2 ≤ L ∧ k < 16 := (key_c (by omega)).resolve_left (fun h => c_56 (by rw [w4, h.1]; rfl))
          rw [ev] at w4 w5
          have w4 : r_50 = nI v := w4
          subst w4
          subst w5
          have ee : entF L ch p = (some (k, v), q2) := by unfold entF; rw [bnd_s ek, if_pos n1, if_neg (by rw [n2]; decide), bnd_s ev]
          refine wa_aload_n hX dX1_readEntry_61 rfl ?_
          refine wa_getR hX fX1_27 rfl r0 rj3 dX1_readEntry_62 ?_
          refine wa_iload_n hX dX1_readEntry_65 rfl ?_
          refine wa_iload_n hX dX1_readEntry_66 rfl ?_
          refine wa_iast hX rs15 rfl (show k < 16 from h3) (by decide) dX1_readEntry_67 ?_
          refine wa_iconst (v := nI 1) hX dX1_readEntry_68 (by decide) ?_
          exact hret _ _ _ _ _ ⟨⟨by rw [ee]; rfl, (enI_s ee).symm⟩, rfl⟩ dX1_readEntry_69
        · skip
          have ev : keyF L ch (q + 1) = (none, q + 1) := by
            rcases key_c (ch := ch) (show q + 1 ≤ L by omega) with h | ⟨k2, q2, e, h4, h5, h6⟩
            · exact h.1
            · rw [e] at w4; rw [w4] at c_56; exact absurd c_56 (nI_nm1 (show k2 < 2 ^ 31 by omega))
          rw [ev] at w5
          subst w5
          have ee : entF L ch p = (none, q + 1) := by unfold entF; rw [bnd_s ek, if_pos n1, if_neg (by rw [n2]; decide), bnd_n ev]
          refine wa_iconst (v := nI 0) hX dX1_readEntry_59 (by decide) ?_
          exact hret _ _ _ _ _ ⟨⟨by rw [ee]; rfl, (enI_n ee).symm⟩, rfl⟩ dX1_readEntry_60
      · skip
        have n2 := bI_n0.mp c_38
        have n2x := sg_t.mp n2
        rw [n2] at w3
        have w3 : I_35 = u2 I (r + 1) 2 (nI (q + 1 + 1)) := w3
        subst w3
        have ee : entF L ch p = (some (k, 16), q + 2) := by unfold entF; rw [bnd_s ek, if_pos n1, if_pos n2]
        refine wa_bipush (v := nI 16) hX dX1_readEntry_41 (by decide) ?_
        refine wa_goto (tgt := 53) hX dX1_readEntry_43 (by decide) ?_
        refine wa_istore_n hX dX1_readEntry_53 (by decide) ?_
        refine wa_iload_n hX dX1_readEntry_54 rfl ?_
        refine wa_iconst (v := -1) hX dX1_readEntry_55 (by decide) ?_
        refine wa_icmp_ne (tgt := 61) hX dX1_readEntry_56 (by decide) (fun c_56 => ?_) (fun c_56 => absurd c_56 (by decide))
        refine wa_aload_n hX dX1_readEntry_61 rfl ?_
        refine wa_getR hX fX1_27 rfl r0 rj3 dX1_readEntry_62 ?_
        refine wa_iload_n hX dX1_readEntry_65 rfl ?_
        refine wa_iload_n hX dX1_readEntry_66 rfl ?_
        refine wa_iast hX rs15 rfl (show k < 16 from h3) (by decide) dX1_readEntry_67 ?_
        refine wa_iconst (v := nI 1) hX dX1_readEntry_68 (by decide) ?_
        exact hret _ _ _ _ _ ⟨⟨by rw [ee]; rfl, (enI_s ee).symm⟩, rfl⟩ dX1_readEntry_69
    · skip
      have n1 := bI_0.mp c_24
      rw [n1] at w3
      have w3 : I_21 = u2 I (r + 1) 2 (nI (q)) := w3
      subst w3
      have ee : entF L ch p = (none, q) := by unfold entF; rw [bnd_s ek, if_neg (by rw [n1]; decide)]
      refine wa_iconst (v := nI 0) hX dX1_readEntry_27 (by decide) ?_
      exact hret _ _ _ _ _ ⟨⟨by rw [ee]; rfl, (enI_n ee).symm⟩, rfl⟩ dX1_readEntry_28

