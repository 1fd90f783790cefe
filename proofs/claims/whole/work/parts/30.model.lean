/-! PileMapsModel: the object at Q, its rows at Q+1 .. Q+13; a state is a row f of 514 numbers -/
def MM (Sh : SM) (J : JM) (Q : Nat) : Prop := Sh Q = some (.inr 6) ∧ (J Q 0 = some (Q + 1) ∧ J Q 1 = some (Q + 2) ∧ J Q 3 = some (Q + 3) ∧ J Q 5 = some (Q + 4) ∧ J Q 6 = some (Q + 5) ∧ J Q 8 = some (Q + 6) ∧ J Q 12 = some (Q + 7) ∧ J Q 13 = some (Q + 8) ∧ J Q 14 = some (Q + 9) ∧ J Q 15 = some (Q + 10) ∧ J Q 16 = some (Q + 11) ∧ J Q 18 = some (Q + 12) ∧ J Q 19 = some (Q + 13)) ∧ (shI Sh (Q + 1) 514 ∧ shI Sh (Q + 2) 2056 ∧ shI Sh (Q + 3) 514 ∧ shI Sh (Q + 4) 16 ∧ shI Sh (Q + 5) 16 ∧ shC Sh (Q + 6) 60 ∧ shI Sh (Q + 7) 16 ∧ shI Sh (Q + 8) 80 ∧ shZ Sh (Q + 9) 5 ∧ shI Sh (Q + 10) 80 ∧ shZ Sh (Q + 11) 5 ∧ shI Sh (Q + 12) 16 ∧ shI Sh (Q + 13) 15)
def VF (f : Nat → Int32) (S : AS) : Prop := (∀ m, m < 6 → (aH S m ≤ 4 ∧ f (408 + m) = nI (aH S m)) ∧ (∀ l, l < 4 → f (384 + 4 * m + l) = bI (aO S m l)) ∧ ∀ l, l < 4 → ∀ k, k < 16 → f (16 * (4 * m + l) + k) = nI (aE S m l k) ∧ aE S m l k ≤ 17) ∧ (f 414 = nI (aR S) ∧ aR S ≤ 2) ∧ (f 415 = nI (aHid S) ∧ aHid S ≤ 6) ∧ (f 416 = nI (aSus S) ∧ aSus S < 64) ∧ f 417 = nI (aAsk S) ∧ ∀ m, m < 6 → ∀ k, k < 16 → f (418 + 16 * m + k) = nI (aKn S m k) ∧ aKn S m k ≤ 16
theorem VF.cg {f g : Nat → Int32} {S : AS} (h : VF f S) (e : ∀ x, x < 514 → g x = f x) : VF g S := by
  obtain ⟨h1, h2, h3, h4, h5, h6⟩ := h
  exact ⟨fun m hm => ⟨⟨(h1 m hm).1.1, by rw [e _ (by omega)]; exact (h1 m hm).1.2⟩, fun l hl => by rw [e _ (by omega)]; exact (h1 m hm).2.1 l hl, fun l hl k hk => by rw [e _ (by omega)]; exact (h1 m hm).2.2 l hl k hk⟩,
    by rw [e _ (by omega)]; exact h2, by rw [e _ (by omega)]; exact h3, by rw [e _ (by omega)]; exact h4, by rw [e _ (by omega)]; exact h5, fun m hm k hk => by rw [e _ (by omega)]; exact h6 m hm k hk⟩
theorem VF.val {f : Nat → Int32} {S : AS} (h : VF f S) {m k : Nat} (hm : m < 6) (hk : k < 16) : aV S m k ≤ 16 := valV_le (h.1 m hm).1.1 (fun l hl => ((h.1 m hm).2.2 l hl k hk).2)
theorem sub1 (x : Int32) : x - nI 1 = x + Int32.ofInt (-1) := by rw [Int32.sub_eq_add_neg]; rfl
theorem ixc (m l k : Nat) : nI 16 * (nI 4 * nI m + nI l) + nI k = nI (16 * (4 * m + l) + k) := by rw [pk_mul, nI_add, pk_mul, nI_add]
theorem ixo (m l : Nat) : nI 384 + nI 4 * nI m + nI l = nI (384 + 4 * m + l) := by rw [pk_mul, nI_add, nI_add]
theorem ixk (m k : Nat) : nI 418 + nI 16 * nI m + nI k = nI (418 + 16 * m + k) := by rw [pk_mul, nI_add, nI_add]
def inR (x lo hi : Int32) : Bool := decide (¬ x < lo ∧ ¬ hi < x)
theorem inR_B (x : Int32) {n : Nat} (hn : n + 1 < 2 ^ 31) : inR x (nI 0) (nI n) = inB (n + 1) x := by
  unfold inR inB
  have e : (¬ nI n < x) ↔ ¬ nI (n + 1) ≤ x := by
    constructor
    · intro h q
      by_cases h0 : x < 0
      · exact absurd (Int32.lt_of_le_of_lt q h0) (nI_pos hn)
      · obtain ⟨j, hj, e⟩ := nI_of h0
        subst e
        rcases Nat.lt_or_ge n j with r | r
        · exact h (nI_lt r hj)
        · exact absurd q (nI_ge (by omega) (by omega))
    · intro h q
      by_cases h0 : x < 0
      · exact absurd (Int32.lt_trans q h0) (nI_pos (by omega))
      · obtain ⟨j, hj, e⟩ := nI_of h0
        subst e
        rcases Nat.lt_or_ge n j with r | r
        · exact h (nI_le (by omega) hj)
        · exact absurd q (nI_nlt r (by omega))
  show decide (¬ x < 0 ∧ ¬ nI n < x) = decide (¬ x < 0 ∧ ¬ nI (n + 1) ≤ x)
  simp only [e]
theorem inR_M (x : Int32) {n : Nat} (hn : n < 2 ^ 31) : inR x (nI 0) (nI n + Int32.ofInt (-1)) = inB n x := by
  cases n with
  | zero =>
    have h1 : inB 0 x = false := by
      unfold inB
      by_cases h : x < 0
      · simp [h]
      · have : nI 0 ≤ x := Int32.not_lt.mp h
        simp [this]
    rw [h1]
    unfold inR
    have e : nI 0 + Int32.ofInt (-1) = (-1 : Int32) := by decide
    rw [e]
    by_cases h : x < nI 0
    · simp [h]
    · have : (-1 : Int32) < x := Int32.lt_of_lt_of_le (by decide) (Int32.not_lt.mp h)
      simp [this]
  | succ n => rw [dec1]; exact inR_B x hn
set_option maxHeartbeats 4000000 in
set_option maxRecDepth 100000 in
theorem tX7_in {l : Launch} {D : va_G} {A : Nat → Prop} {N : Nat} {Sh : SM} {J : JM} (I : IM) (x lo hi : Int32) : CtP l D A yX7_in cX7_in 3 FieldType.boolean 0 N Sh I J [.int x, .int lo, .int hi] (fun r => r = bI (inR x lo hi)) := by
  refine ct_I (l0 := [(0, .int x), (1, .int lo), (2, .int hi)]) (by decide +kernel) (Nat.le_of_ble_eq_true rfl) rfl (fun _ _ _ h => by obtain ⟨rfl, _⟩ := h; exact nar_B _) ?_
  intro X hX hret _ _ _
  have hX : XK X RX7 cX7_in 3 0 := hX
  refine wa_iload_n hX dX7_in_0 rfl ?_
  refine wa_iload_n hX dX7_in_1 rfl ?_
  refine wa_icmp_lt (tgt := 14) hX dX7_in_2 (by decide) (fun c_2 => ?_) (fun c_2 => ?_)
  · skip
    refine wa_iconst (v := nI 0) hX dX7_in_14 (by decide) ?_
    exact hret _ _ _ _ _ ⟨(by simp [inR, bI, c_2]), rfl, rfl⟩ dX7_in_15
  · skip
    refine wa_iload_n hX dX7_in_5 rfl ?_
    refine wa_iload_n hX dX7_in_6 rfl ?_
    refine wa_icmp_gt (tgt := 14) hX dX7_in_7 (by decide) (fun c_7 => ?_) (fun c_7 => ?_)
    · skip
      refine wa_iconst (v := nI 0) hX dX7_in_14 (by decide) ?_
      exact hret _ _ _ _ _ ⟨(by simp [inR, bI, c_7]), rfl, rfl⟩ dX7_in_15
    · skip
      refine wa_iconst (v := nI 1) hX dX7_in_10 (by decide) ?_
      refine wa_goto (tgt := 15) hX dX7_in_11 (by decide) ?_
      exact hret _ _ _ _ _ ⟨(by simp [inR, bI, c_2, c_7]), rfl, rfl⟩ dX7_in_15

set_option maxHeartbeats 4000000 in
set_option maxRecDepth 100000 in
theorem tX7_noMap {l : Launch} {D : va_G} {A : Nat → Prop} {N : Nat} {Sh : SM} {J : JM} (I : IM) (x : Int32) : CtP l D A yX7_noMap cX7_noMap 1 FieldType.boolean 1 N Sh I J [.int x] (fun r => r = bI (!inB 6 x)) := by
  refine ct_I (l0 := [(0, .int x)]) (by decide +kernel) (Nat.le_of_ble_eq_true rfl) rfl (fun _ _ _ h => by obtain ⟨rfl, _⟩ := h; exact nar_B _) ?_
  intro X hX hret _ _ _
  have hX : XK X RX7 cX7_noMap 1 1 := hX
  refine wa_iload_n hX dX7_noMap_0 rfl ?_
  refine wa_iconst (v := nI 0) hX dX7_noMap_1 (by decide) ?_
  refine wa_iconst (v := nI 5) hX dX7_noMap_2 (by decide) ?_
  refine wa_sP hX (tX7_in I x (nI 0) (nI 5)) bX7_in mX7_51 (by decide) (by decide) rfl rfl (Nat.le_of_ble_eq_true rfl) dX7_noMap_3 (fun r_3 q_3 => ?_)
  rw [inR_B x (by decide)] at q_3
  subst q_3
  refine wa_if_ne (tgt := 13) hX dX7_noMap_6 (by decide) (fun c_6 => ?_) (fun c_6 => ?_)
  · skip
    have c1 := bI_n0.mp c_6
    refine wa_iconst (v := nI 0) hX dX7_noMap_13 (by decide) ?_
    exact hret _ _ _ _ _ ⟨(by rw [c1]; rfl), rfl, rfl⟩ dX7_noMap_14
  · skip
    have c1 := bI_0.mp c_6
    refine wa_iconst (v := nI 1) hX dX7_noMap_9 (by decide) ?_
    refine wa_goto (tgt := 14) hX dX7_noMap_10 (by decide) ?_
    exact hret _ _ _ _ _ ⟨(by rw [c1]; rfl), rfl, rfl⟩ dX7_noMap_14

set_option maxHeartbeats 4000000 in
set_option maxRecDepth 100000 in
theorem tX7_noKey {l : Launch} {D : va_G} {A : Nat → Prop} {N : Nat} {Sh : SM} {J : JM} (I : IM) (x : Int32) : CtP l D A yX7_noKey cX7_noKey 1 FieldType.boolean 1 N Sh I J [.int x] (fun r => r = bI (!inB 16 x)) := by
  refine ct_I (l0 := [(0, .int x)]) (by decide +kernel) (Nat.le_of_ble_eq_true rfl) rfl (fun _ _ _ h => by obtain ⟨rfl, _⟩ := h; exact nar_B _) ?_
  intro X hX hret _ _ _
  have hX : XK X RX7 cX7_noKey 1 1 := hX
  refine wa_iload_n hX dX7_noKey_0 rfl ?_
  refine wa_iconst (v := nI 0) hX dX7_noKey_1 (by decide) ?_
  refine wa_bipush (v := nI 15) hX dX7_noKey_2 (by decide) ?_
  refine wa_sP hX (tX7_in I x (nI 0) (nI 15)) bX7_in mX7_51 (by decide) (by decide) rfl rfl (Nat.le_of_ble_eq_true rfl) dX7_noKey_4 (fun r_4 q_4 => ?_)
  rw [inR_B x (by decide)] at q_4
  subst q_4
  refine wa_if_ne (tgt := 14) hX dX7_noKey_7 (by decide) (fun c_7 => ?_) (fun c_7 => ?_)
  · skip
    have c1 := bI_n0.mp c_7
    refine wa_iconst (v := nI 0) hX dX7_noKey_14 (by decide) ?_
    exact hret _ _ _ _ _ ⟨(by rw [c1]; rfl), rfl, rfl⟩ dX7_noKey_15
  · skip
    have c1 := bI_0.mp c_7
    refine wa_iconst (v := nI 1) hX dX7_noKey_10 (by decide) ?_
    refine wa_goto (tgt := 15) hX dX7_noKey_11 (by decide) ?_
    exact hret _ _ _ _ _ ⟨(by rw [c1]; rfl), rfl, rfl⟩ dX7_noKey_15

set_option maxHeartbeats 4000000 in
set_option maxRecDepth 100000 in
theorem tX7_cell {l : Launch} {D : va_G} {A : Nat → Prop} {N : Nat} {Sh : SM} {J : JM} (I : IM) (m la k : Nat) : CtP l D A yX7_cell cX7_cell 3 FieldType.int 0 N Sh I J [.int (nI m), .int (nI la), .int (nI k)] (fun r => r = nI (16 * (4 * m + la) + k)) := by
  refine ct_I (l0 := [(0, .int (nI m)), (1, .int (nI la)), (2, .int (nI k))]) (by decide +kernel) (Nat.le_of_ble_eq_true rfl) rfl (fun _ _ _ _ => rfl) ?_
  intro X hX hret _ _ _
  have hX : XK X RX7 cX7_cell 3 0 := hX
  refine wa_bipush (v := nI 16) hX dX7_cell_0 (by decide) ?_
  refine wa_iconst (v := nI 4) hX dX7_cell_2 (by decide) ?_
  refine wa_iload_n hX dX7_cell_3 rfl ?_
  refine wa_imul hX dX7_cell_4 ?_
  refine wa_iload_n hX dX7_cell_5 rfl ?_
  refine wa_iadd hX dX7_cell_6 ?_
  refine wa_imul hX dX7_cell_7 ?_
  refine wa_iload_n hX dX7_cell_8 rfl ?_
  refine wa_iadd hX dX7_cell_9 ?_
  exact hret _ _ _ _ _ ⟨(ixc m la k), rfl, rfl⟩ dX7_cell_10

set_option maxHeartbeats 4000000 in
set_option maxRecDepth 100000 in
theorem tX7_noLayer {l : Launch} {D : va_G} {A : Nat → Prop} {N : Nat} {Sh : SM} {J : JM} (I : IM) {Q : Nat} (hM : MM Sh J Q) {S : AS} (hV : VF (I (Q + 1)) S) (x y : Int32) : CtP l D A yX7_noLayer cX7_noLayer 3 FieldType.boolean 2 N Sh I J [.ref Q, .int x, .int y] (fun r => r = bI (!layB S x y)) := by
  refine ct_I (l0 := [(0, .ref Q), (1, .int x), (2, .int y)]) (by decide +kernel) (Nat.le_of_ble_eq_true rfl) rfl (fun _ _ _ h => by obtain ⟨rfl, _⟩ := h; exact nar_B _) ?_
  intro X hX hret _ _ _
  have hX : XK X RX7 cX7_noLayer 3 2 := hX
  obtain ⟨q0, ⟨qj0, qj1, qj3, qj5, qj6, qj8, qj12, qj13, qj14, qj15, qj16, qj18, qj19⟩, ⟨qs1, qs2, qs3, qs4, qs5, qs6, qs7, qs8, qs9, qs10, qs11, qs12, qs13⟩⟩ := id hM
  refine wa_iload_n hX dX7_noLayer_0 rfl ?_
  refine wa_sP hX (tX7_noMap I x) bX7_noMap mX7_55 (by decide) (by decide) rfl rfl (Nat.le_of_ble_eq_true rfl) dX7_noLayer_1 (fun r_1 q_1 => ?_)
  subst q_1
  refine wa_if_ne (tgt := 27) hX dX7_noLayer_4 (by decide) (fun c_4 => ?_) (fun c_4 => ?_)
  · skip
    have n_4 : inB 6 x = false := by have := bI_n0.mp c_4; simpa using this
    refine wa_iconst (v := nI 1) hX dX7_noLayer_27 (by decide) ?_
    refine wa_goto (tgt := 32) hX dX7_noLayer_28 (by decide) ?_
    exact hret _ _ _ _ _ ⟨(by unfold layB; rw [n_4]; rfl), rfl, rfl⟩ dX7_noLayer_32
  · skip
    have n_4 : inB 6 x = true := by have := bI_0.mp c_4; simpa using this
    obtain ⟨m, hm, em⟩ := inB_t (by decide) n_4
    subst em
    refine wa_iload_n hX dX7_noLayer_7 rfl ?_
    refine wa_iconst (v := nI 0) hX dX7_noLayer_8 (by decide) ?_
    refine wa_aload_n hX dX7_noLayer_9 rfl ?_
    refine wa_getR hX fX7_7 rfl (by assumption) (by assumption) dX7_noLayer_10 ?_
    refine wa_sipush (v := nI 408) hX dX7_noLayer_13 (by decide) ?_
    refine wa_iload_n hX dX7_noLayer_16 rfl ?_
    refine wa_iadd hX dX7_noLayer_17 ?_
    refine wa_iald hX (by assumption) (nI_add 408 m) (show 408 + m < 514 by omega) (by decide) dX7_noLayer_18 ?_
    rw [(hV.1 m hm).1.2]
    refine wa_iconst (v := nI 1) hX dX7_noLayer_19 (by decide) ?_
    refine wa_isub hX dX7_noLayer_20 ?_
    rw [sub1]
    refine wa_sP hX (tX7_in I y (nI 0) (nI (aH S m) + Int32.ofInt (-1))) bX7_in mX7_51 (by decide) (by decide) rfl rfl (Nat.le_of_ble_eq_true rfl) dX7_noLayer_21 (fun r_21 q_21 => ?_)
    rw [inR_M y (by have := (hV.1 m hm).1.1; omega)] at q_21
    subst q_21
    refine wa_if_ne (tgt := 31) hX dX7_noLayer_24 (by decide) (fun c_24 => ?_) (fun c_24 => ?_)
    · skip
      have c1 := bI_n0.mp c_24
      refine wa_iconst (v := nI 0) hX dX7_noLayer_31 (by decide) ?_
      exact hret _ _ _ _ _ ⟨(by rw [layB_m hm, c1]; rfl), rfl, rfl⟩ dX7_noLayer_32
    · skip
      have c1 := bI_0.mp c_24
      refine wa_iconst (v := nI 1) hX dX7_noLayer_27 (by decide) ?_
      refine wa_goto (tgt := 32) hX dX7_noLayer_28 (by decide) ?_
      exact hret _ _ _ _ _ ⟨(by rw [layB_m hm, c1]; rfl), rfl, rfl⟩ dX7_noLayer_32

set_option maxHeartbeats 4000000 in
set_option maxRecDepth 100000 in
theorem tX7_isOn {l : Launch} {D : va_G} {A : Nat → Prop} {N : Nat} {Sh : SM} {J : JM} (I : IM) {Q : Nat} (hM : MM Sh J Q) {S : AS} (hV : VF (I (Q + 1)) S) {m la : Nat} (hm : m < 6) (hla : la < 4) : CtP l D A yX7_isOn cX7_isOn 3 FieldType.boolean 0 N Sh I J [.ref Q, .int (nI m), .int (nI la)] (fun r => r = bI (aO S m la)) := by
  refine ct_I (l0 := [(0, .ref Q), (1, .int (nI m)), (2, .int (nI la))]) (by decide +kernel) (Nat.le_of_ble_eq_true rfl) rfl (fun _ _ _ h => by obtain ⟨rfl, _⟩ := h; exact nar_B _) ?_
  intro X hX hret _ _ _
  have hX : XK X RX7 cX7_isOn 3 0 := hX
  obtain ⟨q0, ⟨qj0, qj1, qj3, qj5, qj6, qj8, qj12, qj13, qj14, qj15, qj16, qj18, qj19⟩, ⟨qs1, qs2, qs3, qs4, qs5, qs6, qs7, qs8, qs9, qs10, qs11, qs12, qs13⟩⟩ := id hM
  refine wa_aload_n hX dX7_isOn_0 rfl ?_
  refine wa_getR hX fX7_7 rfl (by assumption) (by assumption) dX7_isOn_1 ?_
  refine wa_sipush (v := nI 384) hX dX7_isOn_4 (by decide) ?_
  refine wa_iconst (v := nI 4) hX dX7_isOn_7 (by decide) ?_
  refine wa_iload_n hX dX7_isOn_8 rfl ?_
  refine wa_imul hX dX7_isOn_9 ?_
  refine wa_iadd hX dX7_isOn_10 ?_
  refine wa_iload_n hX dX7_isOn_11 rfl ?_
  refine wa_iadd hX dX7_isOn_12 ?_
  refine wa_iald hX (by assumption) (ixo m la) (show 384 + 4 * m + la < 514 by omega) (by decide) dX7_isOn_13 ?_
  rw [(hV.1 m hm).2.1 la hla]
  refine wa_iconst (v := nI 1) hX dX7_isOn_14 (by decide) ?_
  refine wa_icmp_ne (tgt := 22) hX dX7_isOn_15 (by decide) (fun c_15 => ?_) (fun c_15 => ?_)
  · skip
    have c1 : aO S m la = false := by
      cases e : aO S m la with
      | false => rfl
      | true => rw [e] at c_15; exact absurd rfl c_15
    refine wa_iconst (v := nI 0) hX dX7_isOn_22 (by decide) ?_
    exact hret _ _ _ _ _ ⟨(by rw [c1]; rfl), rfl, rfl⟩ dX7_isOn_23
  · skip
    have c1 : aO S m la = true := by
      cases e : aO S m la with
      | true => rfl
      | false => rw [e] at c_15; exact absurd c_15 (by decide)
    refine wa_iconst (v := nI 1) hX dX7_isOn_18 (by decide) ?_
    refine wa_goto (tgt := 23) hX dX7_isOn_19 (by decide) ?_
    exact hret _ _ _ _ _ ⟨(by rw [c1]; rfl), rfl, rfl⟩ dX7_isOn_23

theorem topN_t {p : Nat → Bool} {n : Nat} (h : p n = true) : topN p (n + 1) = n + 1 := if_pos h
theorem topN_f {p : Nat → Bool} {n : Nat} (h : p n = false) : topN p (n + 1) = topN p n := if_neg (by rw [h]; decide)
theorem bt_v {k : Nat} (hk : k < 32) (x : Int32) : x >>> (nI k &&& 31) &&& nI 1 = if bt x k = true then nI 1 else nI 0 := by
  cases h : bt x k with
  | true => exact (bt_t1 hk x).mpr h
  | false => exact (bt_t0 hk x).mpr h
set_option maxHeartbeats 4000000 in
set_option maxRecDepth 100000 in
theorem tX7_bits {l : Launch} {D : va_G} {A : Nat → Prop} {N : Nat} {Sh : SM} {J : JM} (I : IM) (x : Int32) : CtP l D A yX7_bits cX7_bits 3 FieldType.int 0 N Sh I J [.int x] (fun r => r = nI (cnt (fun k => bt x k) 16)) := by
  refine ct_I (l0 := [(0, .int x)]) (by decide +kernel) (Nat.le_of_ble_eq_true rfl) rfl (fun _ _ _ _ => rfl) ?_
  intro X hX hret _ _ _
  have hX : XK X RX7 cX7_bits 3 0 := hX
  have lp : ∀ (n i : Nat) (y : Int32), i + n = 16 → (y = nI (cnt (fun k => bt x k) i)) → WX X 0 0 N Sh I J 4 [(0, .int x), (1, .int y), (2, .int (nI i))] [] := by
    intro n
    induction n with
    | zero =>
      intro i y hi ex
      obtain rfl : 16 = i := by omega
      refine wa_iload_n hX dX7_bits_4 rfl ?_
      refine wa_bipush (v := nI 16) hX dX7_bits_5 (by decide) ?_
      refine wa_icmp_ge (tgt := 24) hX dX7_bits_7 (by decide) (fun c_7 => ?_) (fun c_7 => absurd (Int32.le_refl _) c_7)
      refine wa_iload_n hX dX7_bits_24 rfl ?_
      exact hret _ _ _ _ _ ⟨ex, rfl, rfl⟩ dX7_bits_25
    | succ n ih =>
      intro i y hi ex
      have hlt : i < 16 := by omega
      refine wa_iload_n hX dX7_bits_4 rfl ?_
      refine wa_bipush (v := nI 16) hX dX7_bits_5 (by decide) ?_
      refine wa_icmp_ge (tgt := 24) hX dX7_bits_7 (by decide) (fun c_7 => absurd c_7 (nI_ge hlt (by decide))) (fun c_7 => ?_)
      refine wa_iload_n hX dX7_bits_10 rfl ?_
      refine wa_iload_n hX dX7_bits_11 rfl ?_
      refine wa_iload_n hX dX7_bits_12 rfl ?_
      refine wa_ishr hX dX7_bits_13 ?_
      refine wa_iconst (v := nI 1) hX dX7_bits_14 (by decide) ?_
      refine wa_iand hX dX7_bits_15 ?_
      refine wa_iadd hX dX7_bits_16 ?_
      refine wa_istore_n hX dX7_bits_17 (by decide) ?_
      refine wa_iinc hX dX7_bits_18 rfl (inc1 _) (by decide) ?_
      refine wa_goto (tgt := 4) hX dX7_bits_21 (by decide) ?_
      refine wx_sub (l' := [(0, _), (1, _), (2, _)]) ⟨rfl, rfl, rfl, trivial⟩ ?_
      exact ih (i + 1) _ (by omega) (by rw [ex, bt_v (by omega)]; cases h : bt x i with
                                                            | true => exact (nI_add _ 1).trans (congrArg nI (cnt_t h).symm)
                                                            | false => exact (nI_add _ 0).trans (congrArg nI (cnt_f (p := fun k => bt x k) h).symm))
  refine wa_iconst (v := nI 0) hX dX7_bits_0 (by decide) ?_
  refine wa_istore_n hX dX7_bits_1 (by decide) ?_
  refine wa_iconst (v := nI 0) hX dX7_bits_2 (by decide) ?_
  refine wa_istore_n hX dX7_bits_3 (by decide) ?_
  exact lp 16 0 _ (by omega) rfl

set_option maxHeartbeats 4000000 in
set_option maxRecDepth 100000 in
theorem tX7_teller {l : Launch} {D : va_G} {A : Nat → Prop} {N : Nat} {Sh : SM} {J : JM} (I : IM) {Q : Nat} (hM : MM Sh J Q) {S : AS} (hV : VF (I (Q + 1)) S) {m k : Nat} (hm : m < 6) (hk : k < 16) : CtP l D A yX7_teller cX7_teller 4 FieldType.int 1 N Sh I J [.ref Q, .int (nI m), .int (nI k)] (fun r => r = tlS S m k) := by
  refine ct_I (l0 := [(0, .ref Q), (1, .int (nI m)), (2, .int (nI k))]) (by decide +kernel) (Nat.le_of_ble_eq_true rfl) rfl (fun _ _ _ _ => rfl) ?_
  intro X hX hret _ _ _
  have hX : XK X RX7 cX7_teller 4 1 := hX
  obtain ⟨q0, ⟨qj0, qj1, qj3, qj5, qj6, qj8, qj12, qj13, qj14, qj15, qj16, qj18, qj19⟩, ⟨qs1, qs2, qs3, qs4, qs5, qs6, qs7, qs8, qs9, qs10, qs11, qs12, qs13⟩⟩ := id hM
  have h4 := (hV.1 m hm).1.1
  have lp : ∀ n : Nat, n ≤ 4 → ∀ x : Int32, x = nI n + Int32.ofInt (-1) → telV (aH S m) (aO S m) (aE S m) k = topN (fun l => aO S m l && !decide (aE S m l k = 17)) n → WX X 0 0 N Sh I J 13 [(0, .ref Q), (1, .int (nI m)), (2, .int (nI k)), (3, .int x)] [] := by
    intro n
    induction n with
    | zero =>
      intro _ x ex et
      subst ex
      have et : telV (aH S m) (aO S m) (aE S m) k = 0 := et
      refine wa_iload_n hX dX7_teller_13 rfl ?_
      refine wa_if_lt (tgt := 48) hX dX7_teller_14 (by decide) (fun c_14 => ?_) (fun c_14 => absurd (by decide) c_14)
      refine wa_iload_n hX dX7_teller_48 rfl ?_
      refine wa_if_ge (tgt := 57) hX dX7_teller_49 (by decide) (fun c_49 => absurd c_49 (by decide)) (fun c_49 => ?_)
      refine wa_bipush (v := -5) hX dX7_teller_52 (by decide) ?_
      refine wa_goto (tgt := 58) hX dX7_teller_54 (by decide) ?_
      exact hret _ _ _ _ _ ⟨(by unfold tlS; rw [if_pos et]), rfl, rfl⟩ dX7_teller_58
    | succ n ih =>
      intro hn x ex et
      rw [dec1] at ex
      subst ex
      refine wa_iload_n hX dX7_teller_13 rfl ?_
      refine wa_if_lt (tgt := 48) hX dX7_teller_14 (by decide) (fun c_14 => absurd c_14 (nI_pos (by omega))) (fun c_14 => ?_)
      refine wa_aload_n hX dX7_teller_17 rfl ?_
      refine wa_iload_n hX dX7_teller_18 rfl ?_
      refine wa_iload_n hX dX7_teller_19 rfl ?_
      refine wa_vP hX (tX7_isOn I hM hV hm (show n < 4 by omega)) bX7_isOn mX7_63 (by decide) (by decide) (ci := 6) ⟨by decide, rfl⟩ (by assumption) rfl rfl (Nat.le_of_ble_eq_true rfl) dX7_teller_20 (fun r_20 q_20 => ?_)
      subst q_20
      refine wa_if_eq (tgt := 42) hX dX7_teller_23 (by decide) (fun c_23 => ?_) (fun c_23 => ?_)
      · skip
        have c1 := bI_0.mp c_23
        refine wa_iinc hX dX7_teller_42 rfl rfl (by decide) ?_
        refine wa_goto (tgt := 13) hX dX7_teller_45 (by decide) ?_
        refine wx_sub (l' := [(0, _), (1, _), (2, _), (3, _)]) ⟨rfl, rfl, rfl, rfl, trivial⟩ ?_
        exact ih (by omega) _ rfl (et.trans (topN_f (by simp [c1])))
      · skip
        have c1 := bI_n0.mp c_23
        refine wa_aload_n hX dX7_teller_26 rfl ?_
        refine wa_getR hX fX7_7 rfl (by assumption) (by assumption) dX7_teller_27 ?_
        refine wa_iload_n hX dX7_teller_30 rfl ?_
        refine wa_iload_n hX dX7_teller_31 rfl ?_
        refine wa_iload_n hX dX7_teller_32 rfl ?_
        refine wa_sP hX (tX7_cell I m n k) bX7_cell mX7_67 (by decide) (by decide) rfl rfl (Nat.le_of_ble_eq_true rfl) dX7_teller_33 (fun r_33 q_33 => ?_)
        subst q_33
        refine wa_iald hX (by assumption) rfl (show 16 * (4 * m + n) + k < 514 by omega) (by decide) dX7_teller_36 ?_
        have h5 := (hV.1 m hm).2.2 n (by omega) k hk
        rw [h5.1]
        refine wa_bipush (v := nI 17) hX dX7_teller_37 (by decide) ?_
        refine wa_icmp_ne (tgt := 48) hX dX7_teller_39 (by decide) (fun c_39 => ?_) (fun c_39 => ?_)
        · skip
          have c2 := ne_of_nI c_39
          have et2 : telV (aH S m) (aO S m) (aE S m) k = n + 1 := et.trans (topN_t (by simp [c1, c2]))
          refine wa_iload_n hX dX7_teller_48 rfl ?_
          refine wa_if_ge (tgt := 57) hX dX7_teller_49 (by decide) (fun c_49 => ?_) (fun c_49 => absurd (nI_pos' (by omega)) c_49)
          refine wa_iload_n hX dX7_teller_57 rfl ?_
          exact hret _ _ _ _ _ ⟨(by unfold tlS; rw [if_neg (by omega), et2, Nat.add_sub_cancel]), rfl, rfl⟩ dX7_teller_58
        · skip
          have c2 := eq_of_nI c_39 (by omega) (by decide)
          refine wa_iinc hX dX7_teller_42 rfl rfl (by decide) ?_
          refine wa_goto (tgt := 13) hX dX7_teller_45 (by decide) ?_
          refine wx_sub (l' := [(0, _), (1, _), (2, _), (3, _)]) ⟨rfl, rfl, rfl, rfl, trivial⟩ ?_
          exact ih (by omega) _ rfl (et.trans (topN_f (by simp [c2])))
  refine wa_aload_n hX dX7_teller_0 rfl ?_
  refine wa_getR hX fX7_7 rfl (by assumption) (by assumption) dX7_teller_1 ?_
  refine wa_sipush (v := nI 408) hX dX7_teller_4 (by decide) ?_
  refine wa_iload_n hX dX7_teller_7 rfl ?_
  refine wa_iadd hX dX7_teller_8 ?_
  refine wa_iald hX (by assumption) (nI_add 408 m) (show 408 + m < 514 by omega) (by decide) dX7_teller_9 ?_
  rw [(hV.1 m hm).1.2]
  refine wa_iconst (v := nI 1) hX dX7_teller_10 (by decide) ?_
  refine wa_isub hX dX7_teller_11 ?_
  rw [sub1]
  refine wa_istore_n hX dX7_teller_12 (by decide) ?_
  exact lp (aH S m) h4 _ rfl rfl

theorem tlS_5 {S : AS} {m k : Nat} (h4 : aH S m ≤ 4) : tlS S m k = -5 ↔ telV (aH S m) (aO S m) (aE S m) k = 0 := by
  unfold tlS
  have := telV_le (aH S m) (aO S m) (aE S m) k
  constructor
  · intro h
    by_cases e : telV (aH S m) (aO S m) (aE S m) k = 0
    · exact e
    · rw [if_neg e] at h
      have h2 := congrArg Int32.toInt h
      rw [nI_toInt (by omega)] at h2
      have h3 : (-5 : Int32).toInt = -5 := by decide
      omega
  · intro h
    rw [if_pos h]
theorem aV_0 {S : AS} {m k : Nat} (h : telV (aH S m) (aO S m) (aE S m) k = 0) : aV S m k = 16 := if_pos h
theorem aV_s {S : AS} {m k t : Nat} (h : telV (aH S m) (aO S m) (aE S m) k = t + 1) : aV S m k = aE S m t k := by
  unfold aV valV
  rw [if_neg (by omega), h, Nat.add_sub_cancel]
set_option maxHeartbeats 4000000 in
set_option maxRecDepth 100000 in
theorem tX7_value {l : Launch} {D : va_G} {A : Nat → Prop} {N : Nat} {Sh : SM} {J : JM} (I : IM) {Q : Nat} (hM : MM Sh J Q) {S : AS} (hV : VF (I (Q + 1)) S) {m k : Nat} (hm : m < 6) (hk : k < 16) : CtP l D A yX7_value cX7_value 4 FieldType.int 2 N Sh I J [.ref Q, .int (nI m), .int (nI k)] (fun r => r = nI (aV S m k)) := by
  refine ct_I (l0 := [(0, .ref Q), (1, .int (nI m)), (2, .int (nI k))]) (by decide +kernel) (Nat.le_of_ble_eq_true rfl) rfl (fun _ _ _ _ => rfl) ?_
  intro X hX hret _ _ _
  have hX : XK X RX7 cX7_value 4 2 := hX
  obtain ⟨q0, ⟨qj0, qj1, qj3, qj5, qj6, qj8, qj12, qj13, qj14, qj15, qj16, qj18, qj19⟩, ⟨qs1, qs2, qs3, qs4, qs5, qs6, qs7, qs8, qs9, qs10, qs11, qs12, qs13⟩⟩ := id hM
  have h4 := (hV.1 m hm).1.1
  have h3 := telV_le (aH S m) (aO S m) (aE S m) k
  refine wa_aload_n hX dX7_value_0 rfl ?_
  refine wa_iload_n hX dX7_value_1 rfl ?_
  refine wa_iload_n hX dX7_value_2 rfl ?_
  refine wa_vP hX (tX7_teller I hM hV hm hk) bX7_teller mX7_71 (by decide) (by decide) (ci := 6) ⟨by decide, rfl⟩ (by assumption) rfl rfl (Nat.le_of_ble_eq_true rfl) dX7_value_3 (fun r_3 q_3 => ?_)
  subst q_3
  refine wa_istore_n hX dX7_value_6 (by decide) ?_
  refine wa_iload_n hX dX7_value_7 rfl ?_
  refine wa_bipush (v := -5) hX dX7_value_8 (by decide) ?_
  refine wa_icmp_ne (tgt := 18) hX dX7_value_10 (by decide) (fun c_10 => ?_) (fun c_10 => ?_)
  · skip
    have c1 : telV (aH S m) (aO S m) (aE S m) k ≠ 0 := fun e => c_10 ((tlS_5 h4).mpr e)
    obtain ⟨t, et⟩ : ∃ t, telV (aH S m) (aO S m) (aE S m) k = t + 1 := ⟨telV (aH S m) (aO S m) (aE S m) k - 1, by omega⟩
    have ht : t < 4 := by omega
    have e9 : tlS S m k = nI t := by unfold tlS; rw [if_neg c1, et, Nat.add_sub_cancel]
    rw [e9]
    refine wa_aload_n hX dX7_value_18 rfl ?_
    refine wa_getR hX fX7_7 rfl (by assumption) (by assumption) dX7_value_19 ?_
    refine wa_iload_n hX dX7_value_22 rfl ?_
    refine wa_iload_n hX dX7_value_23 rfl ?_
    refine wa_iload_n hX dX7_value_24 rfl ?_
    refine wa_sP hX (tX7_cell I m t k) bX7_cell mX7_67 (by decide) (by decide) rfl rfl (Nat.le_of_ble_eq_true rfl) dX7_value_25 (fun r_25 q_25 => ?_)
    subst q_25
    refine wa_iald hX (by assumption) rfl (show 16 * (4 * m + t) + k < 514 by omega) (by decide) dX7_value_28 ?_
    exact hret _ _ _ _ _ ⟨(by rw [aV_s et]; exact ((hV.1 m hm).2.2 t ht k hk).1), rfl, rfl⟩ dX7_value_29
  · skip
    have c1 := (tlS_5 h4).mp c_10
    refine wa_bipush (v := nI 16) hX dX7_value_13 (by decide) ?_
    refine wa_goto (tgt := 29) hX dX7_value_15 (by decide) ?_
    exact hret _ _ _ _ _ ⟨(by rw [aV_0 c1]), rfl, rfl⟩ dX7_value_29

def entP (S : AS) (m l kd k : Nat) : Bool := !decide (aE S m l k = 17) && (decide (kd = 0) || (decide (kd = 1) && decide (aE S m l k = 16)) || (decide (kd = 2) && aO S m l && !decide (telV (aH S m) (aO S m) (aE S m) k = l + 1)))
theorem tlS_l {S : AS} {m k l : Nat} (h4 : aH S m ≤ 4) (hl : l < 4) : tlS S m k = nI l ↔ telV (aH S m) (aO S m) (aE S m) k = l + 1 := by
  unfold tlS
  have := telV_le (aH S m) (aO S m) (aE S m) k
  by_cases e : telV (aH S m) (aO S m) (aE S m) k = 0
  · rw [if_pos e]
    constructor
    · intro h
      have h2 := congrArg Int32.toInt h
      rw [nI_toInt (by omega)] at h2
      have h3 : (-5 : Int32).toInt = -5 := by decide
      omega
    · intro h; omega
  · rw [if_neg e, nI_eq (by omega) (by omega)]
    omega
theorem ent_0 (S : AS) (m l : Nat) : cnt (entP S m l 0) 16 = enV (aE S m) l := cnt_congr (fun k _ => by simp [entP])
theorem ent_1 (S : AS) (m l : Nat) : cnt (entP S m l 1) 16 = cnt (fun k => decide (aE S m l k = 16)) 16 := cnt_congr (fun k _ => by by_cases e : aE S m l k = 16 <;> simp [entP, e])
theorem telV_ge {hg : Nat} {on : Nat → Bool} {en : Nat → Nat → Nat} {k l : Nat} (hl : l < hg) (h1 : on l = true) (h2 : en l k ≠ 17) : l + 1 ≤ telV hg on en k := by
  have : ∀ n, l < n → l + 1 ≤ topN (fun l => on l && !decide (en l k = 17)) n := by
    intro n
    induction n with
    | zero => intro h; omega
    | succ n ih =>
      intro h
      unfold topN
      split
      · omega
      · rename_i hp
        rcases Nat.lt_succ_iff_lt_or_eq.mp h with q | q
        · exact ih q
        · subst q
          exact absurd (by simp [h1, h2]) hp
  exact this hg hl
theorem ent_2 {S : AS} {m l : Nat} (hl : l < aH S m) : cnt (entP S m l 2) 16 = shV (aH S m) (aO S m) (aE S m) l := cnt_congr (fun k _ => by
  by_cases e : aE S m l k = 17
  · simp [entP, e]
  · cases h : aO S m l with
    | false => simp [entP, h]
    | true =>
      have := telV_ge hl h e
      simp only [entP, e, h]
      by_cases q : telV (aH S m) (aO S m) (aE S m) k = l + 1
      · simp [q]
      · simp [q, show l + 1 < telV (aH S m) (aO S m) (aE S m) k by omega])
set_option maxHeartbeats 4000000 in
set_option maxRecDepth 100000 in
theorem tX7_entries {l : Launch} {D : va_G} {A : Nat → Prop} {N : Nat} {Sh : SM} {J : JM} (I : IM) {Q : Nat} (hM : MM Sh J Q) {S : AS} (hV : VF (I (Q + 1)) S) {m la kd : Nat} (hm : m < 6) (hla : la < 4) (hkd : kd ≤ 2) : CtP l D A yX7_entries cX7_entries 8 FieldType.int 2 N Sh I J [.ref Q, .int (nI m), .int (nI la), .int (nI kd)] (fun r => r = nI (cnt (entP S m la kd) 16)) := by
  refine ct_I (l0 := [(0, .ref Q), (1, .int (nI m)), (2, .int (nI la)), (3, .int (nI kd))]) (by decide +kernel) (Nat.le_of_ble_eq_true rfl) rfl (fun _ _ _ _ => rfl) ?_
  intro X hX hret _ _ _
  have hX : XK X RX7 cX7_entries 8 2 := hX
  obtain ⟨q0, ⟨qj0, qj1, qj3, qj5, qj6, qj8, qj12, qj13, qj14, qj15, qj16, qj18, qj19⟩, ⟨qs1, qs2, qs3, qs4, qs5, qs6, qs7, qs8, qs9, qs10, qs11, qs12, qs13⟩⟩ := id hM
  have h4 := (hV.1 m hm).1.1
  have lp : ∀ (n i : Nat) (x : Int32), i + n = 16 → (x = nI (cnt (entP S m la kd) i)) → WX X 0 0 N Sh I J 6 [(0, .ref Q), (1, .int (nI m)), (2, .int (nI la)), (3, .int (nI kd)), (4, .int x), (5, .int (nI i))] [] := by
    intro n
    induction n with
    | zero =>
      intro i x hi ex
      obtain rfl : 16 = i := by omega
      refine wa_iload hX dX7_entries_6 rfl ?_
      refine wa_bipush (v := nI 16) hX dX7_entries_8 (by decide) ?_
      refine wa_icmp_ge (tgt := 103) hX dX7_entries_10 (by decide) (fun c_10 => ?_) (fun c_10 => absurd (Int32.le_refl _) c_10)
      refine wa_iload hX dX7_entries_103 rfl ?_
      exact hret _ _ _ _ _ ⟨ex, rfl, rfl⟩ dX7_entries_105
    | succ n ih =>
      intro i x hi ex
      have hlt : i < 16 := by omega
      refine wa_iload hX dX7_entries_6 rfl ?_
      refine wa_bipush (v := nI 16) hX dX7_entries_8 (by decide) ?_
      refine wa_icmp_ge (tgt := 103) hX dX7_entries_10 (by decide) (fun c_10 => absurd c_10 (nI_ge hlt (by decide))) (fun c_10 => ?_)
      refine wa_aload_n hX dX7_entries_13 rfl ?_
      refine wa_getR hX fX7_7 rfl (by assumption) (by assumption) dX7_entries_14 ?_
      refine wa_iload_n hX dX7_entries_17 rfl ?_
      refine wa_iload_n hX dX7_entries_18 rfl ?_
      refine wa_iload hX dX7_entries_19 rfl ?_
      refine wa_sP hX (tX7_cell I m la i) bX7_cell mX7_67 (by decide) (by decide) rfl rfl (Nat.le_of_ble_eq_true rfl) dX7_entries_21 (fun r_21 q_21 => ?_)
      subst q_21
      refine wa_iald hX (by assumption) rfl (show 16 * (4 * m + la) + i < 514 by omega) (by decide) dX7_entries_24 ?_
      have h5 := (hV.1 m hm).2.2 la hla i hlt
      rw [h5.1]
      refine wa_istore hX dX7_entries_25 (by decide) ?_
      refine wa_iload hX dX7_entries_27 rfl ?_
      refine wa_bipush (v := nI 17) hX dX7_entries_29 (by decide) ?_
      refine wa_icmp_eq (tgt := 79) hX dX7_entries_31 (by decide) (fun c_31 => ?_) (fun c_31 => ?_)
      · skip
        have c1 := eq_of_nI c_31 (by omega) (by decide)
        refine wa_iconst (v := nI 0) hX dX7_entries_79 (by decide) ?_
        refine wa_istore hX dX7_entries_80 (by decide) ?_
        refine wa_iload hX dX7_entries_82 rfl ?_
        refine wa_iload hX dX7_entries_84 rfl ?_
        refine wa_if_eq (tgt := 93) hX dX7_entries_86 (by decide) (fun c_86 => ?_) (fun c_86 => absurd rfl c_86)
        refine wa_iconst (v := nI 0) hX dX7_entries_93 (by decide) ?_
        refine wa_iadd hX dX7_entries_94 ?_
        refine wa_istore hX dX7_entries_95 (by decide) ?_
        refine wa_iinc hX dX7_entries_97 rfl (inc1 _) (by decide) ?_
        refine wa_goto (tgt := 6) hX dX7_entries_100 (by decide) ?_
        refine wx_sub (l' := [(0, _), (1, _), (2, _), (3, _), (4, _), (5, _)]) ⟨rfl, rfl, rfl, rfl, rfl, rfl, trivial⟩ ?_
        exact ih (i + 1) _ (by omega) (by rw [ex]; exact (nI_add _ 0).trans (congrArg nI (cnt_f (p := entP S m la kd) (by first | (simp [entP, c1]; done) | (exfalso; omega))).symm))
      · skip
        have c1 := ne_of_nI c_31
        refine wa_iload_n hX dX7_entries_34 rfl ?_
        refine wa_if_eq (tgt := 75) hX dX7_entries_35 (by decide) (fun c_35 => ?_) (fun c_35 => ?_)
        · skip
          have d1 : kd = 0 := eq_of_nI c_35 (by omega) (by decide)
          refine wa_iconst (v := nI 1) hX dX7_entries_75 (by decide) ?_
          refine wa_goto (tgt := 80) hX dX7_entries_76 (by decide) ?_
          refine wa_istore hX dX7_entries_80 (by decide) ?_
          refine wa_iload hX dX7_entries_82 rfl ?_
          refine wa_iload hX dX7_entries_84 rfl ?_
          refine wa_if_eq (tgt := 93) hX dX7_entries_86 (by decide) (fun c_86 => absurd c_86 (by decide)) (fun c_86 => ?_)
          refine wa_iconst (v := nI 1) hX dX7_entries_89 (by decide) ?_
          refine wa_goto (tgt := 94) hX dX7_entries_90 (by decide) ?_
          refine wa_iadd hX dX7_entries_94 ?_
          refine wa_istore hX dX7_entries_95 (by decide) ?_
          refine wa_iinc hX dX7_entries_97 rfl (inc1 _) (by decide) ?_
          refine wa_goto (tgt := 6) hX dX7_entries_100 (by decide) ?_
          refine wx_sub (l' := [(0, _), (1, _), (2, _), (3, _), (4, _), (5, _)]) ⟨rfl, rfl, rfl, rfl, rfl, rfl, trivial⟩ ?_
          exact ih (i + 1) _ (by omega) (by rw [ex]; exact (nI_add _ 1).trans (congrArg nI (cnt_t (p := entP S m la kd) (by first | (simp [entP, c1, d1]; done) | (exfalso; omega))).symm))
        · skip
          have d1 : kd ≠ 0 := fun e => c_35 (by rw [e]; rfl)
          refine wa_iload_n hX dX7_entries_38 rfl ?_
          refine wa_iconst (v := nI 1) hX dX7_entries_39 (by decide) ?_
          refine wa_icmp_ne (tgt := 50) hX dX7_entries_40 (by decide) (fun c_40 => ?_) (fun c_40 => ?_)
          · skip
            have d2 := ne_of_nI c_40
            refine wa_iload_n hX dX7_entries_50 rfl ?_
            refine wa_iconst (v := nI 2) hX dX7_entries_51 (by decide) ?_
            refine wa_icmp_ne (tgt := 79) hX dX7_entries_52 (by decide) (fun c_52 => ?_) (fun c_52 => ?_)
            · skip
              have d4 := ne_of_nI c_52
              refine wa_iconst (v := nI 0) hX dX7_entries_79 (by decide) ?_
              refine wa_istore hX dX7_entries_80 (by decide) ?_
              refine wa_iload hX dX7_entries_82 rfl ?_
              refine wa_iload hX dX7_entries_84 rfl ?_
              refine wa_if_eq (tgt := 93) hX dX7_entries_86 (by decide) (fun c_86 => ?_) (fun c_86 => absurd rfl c_86)
              refine wa_iconst (v := nI 0) hX dX7_entries_93 (by decide) ?_
              refine wa_iadd hX dX7_entries_94 ?_
              refine wa_istore hX dX7_entries_95 (by decide) ?_
              refine wa_iinc hX dX7_entries_97 rfl (inc1 _) (by decide) ?_
              refine wa_goto (tgt := 6) hX dX7_entries_100 (by decide) ?_
              refine wx_sub (l' := [(0, _), (1, _), (2, _), (3, _), (4, _), (5, _)]) ⟨rfl, rfl, rfl, rfl, rfl, rfl, trivial⟩ ?_
              exact ih (i + 1) _ (by omega) (by rw [ex]; exact (nI_add _ 0).trans (congrArg nI (cnt_f (p := entP S m la kd) (by first | (simp [entP, c1, d1, d2, d4]; done) | (exfalso; omega))).symm))
            · skip
              have d4 := eq_of_nI c_52 (by omega) (by decide)
              refine wa_aload_n hX dX7_entries_55 rfl ?_
              refine wa_iload_n hX dX7_entries_56 rfl ?_
              refine wa_iload_n hX dX7_entries_57 rfl ?_
              refine wa_vP hX (tX7_isOn I hM hV hm hla) bX7_isOn mX7_63 (by decide) (by decide) (ci := 6) ⟨by decide, rfl⟩ (by assumption) rfl rfl (Nat.le_of_ble_eq_true rfl) dX7_entries_58 (fun r_58 q_58 => ?_)
              subst q_58
              refine wa_if_eq (tgt := 79) hX dX7_entries_61 (by decide) (fun c_61 => ?_) (fun c_61 => ?_)
              · skip
                have d5 := bI_0.mp c_61
                refine wa_iconst (v := nI 0) hX dX7_entries_79 (by decide) ?_
                refine wa_istore hX dX7_entries_80 (by decide) ?_
                refine wa_iload hX dX7_entries_82 rfl ?_
                refine wa_iload hX dX7_entries_84 rfl ?_
                refine wa_if_eq (tgt := 93) hX dX7_entries_86 (by decide) (fun c_86 => ?_) (fun c_86 => absurd rfl c_86)
                refine wa_iconst (v := nI 0) hX dX7_entries_93 (by decide) ?_
                refine wa_iadd hX dX7_entries_94 ?_
                refine wa_istore hX dX7_entries_95 (by decide) ?_
                refine wa_iinc hX dX7_entries_97 rfl (inc1 _) (by decide) ?_
                refine wa_goto (tgt := 6) hX dX7_entries_100 (by decide) ?_
                refine wx_sub (l' := [(0, _), (1, _), (2, _), (3, _), (4, _), (5, _)]) ⟨rfl, rfl, rfl, rfl, rfl, rfl, trivial⟩ ?_
                exact ih (i + 1) _ (by omega) (by rw [ex]; exact (nI_add _ 0).trans (congrArg nI (cnt_f (p := entP S m la kd) (by first | (simp [entP, c1, d1, d2, d4, d5]; done) | (exfalso; omega))).symm))
              · skip
                have d5 := bI_n0.mp c_61
                refine wa_aload_n hX dX7_entries_64 rfl ?_
                refine wa_iload_n hX dX7_entries_65 rfl ?_
                refine wa_iload hX dX7_entries_66 rfl ?_
                refine wa_vP hX (tX7_teller I hM hV hm hlt) bX7_teller mX7_71 (by decide) (by decide) (ci := 6) ⟨by decide, rfl⟩ (by assumption) rfl rfl (Nat.le_of_ble_eq_true rfl) dX7_entries_68 (fun r_68 q_68 => ?_)
                subst q_68
                refine wa_iload_n hX dX7_entries_71 rfl ?_
                refine wa_icmp_eq (tgt := 79) hX dX7_entries_72 (by decide) (fun c_72 => ?_) (fun c_72 => ?_)
                · skip
                  have d6 := (tlS_l h4 hla).mp c_72
                  refine wa_iconst (v := nI 0) hX dX7_entries_79 (by decide) ?_
                  refine wa_istore hX dX7_entries_80 (by decide) ?_
                  refine wa_iload hX dX7_entries_82 rfl ?_
                  refine wa_iload hX dX7_entries_84 rfl ?_
                  refine wa_if_eq (tgt := 93) hX dX7_entries_86 (by decide) (fun c_86 => ?_) (fun c_86 => absurd rfl c_86)
                  refine wa_iconst (v := nI 0) hX dX7_entries_93 (by decide) ?_
                  refine wa_iadd hX dX7_entries_94 ?_
                  refine wa_istore hX dX7_entries_95 (by decide) ?_
                  refine wa_iinc hX dX7_entries_97 rfl (inc1 _) (by decide) ?_
                  refine wa_goto (tgt := 6) hX dX7_entries_100 (by decide) ?_
                  refine wx_sub (l' := [(0, _), (1, _), (2, _), (3, _), (4, _), (5, _)]) ⟨rfl, rfl, rfl, rfl, rfl, rfl, trivial⟩ ?_
                  exact ih (i + 1) _ (by omega) (by rw [ex]; exact (nI_add _ 0).trans (congrArg nI (cnt_f (p := entP S m la kd) (by first | (simp [entP, c1, d1, d2, d4, d5, d6]; done) | (exfalso; omega))).symm))
                · skip
                  have d6 : ¬ telV (aH S m) (aO S m) (aE S m) i = la + 1 := fun e => c_72 ((tlS_l h4 hla).mpr e)
                  refine wa_iconst (v := nI 1) hX dX7_entries_75 (by decide) ?_
                  refine wa_goto (tgt := 80) hX dX7_entries_76 (by decide) ?_
                  refine wa_istore hX dX7_entries_80 (by decide) ?_
                  refine wa_iload hX dX7_entries_82 rfl ?_
                  refine wa_iload hX dX7_entries_84 rfl ?_
                  refine wa_if_eq (tgt := 93) hX dX7_entries_86 (by decide) (fun c_86 => absurd c_86 (by decide)) (fun c_86 => ?_)
                  refine wa_iconst (v := nI 1) hX dX7_entries_89 (by decide) ?_
                  refine wa_goto (tgt := 94) hX dX7_entries_90 (by decide) ?_
                  refine wa_iadd hX dX7_entries_94 ?_
                  refine wa_istore hX dX7_entries_95 (by decide) ?_
                  refine wa_iinc hX dX7_entries_97 rfl (inc1 _) (by decide) ?_
                  refine wa_goto (tgt := 6) hX dX7_entries_100 (by decide) ?_
                  refine wx_sub (l' := [(0, _), (1, _), (2, _), (3, _), (4, _), (5, _)]) ⟨rfl, rfl, rfl, rfl, rfl, rfl, trivial⟩ ?_
                  exact ih (i + 1) _ (by omega) (by rw [ex]; exact (nI_add _ 1).trans (congrArg nI (cnt_t (p := entP S m la kd) (by first | (simp [entP, c1, d1, d2, d4, d5, d6]; done) | (exfalso; omega))).symm))
          · skip
            have d2 := eq_of_nI c_40 (by omega) (by decide)
            refine wa_iload hX dX7_entries_43 rfl ?_
            refine wa_bipush (v := nI 16) hX dX7_entries_45 (by decide) ?_
            refine wa_icmp_eq (tgt := 75) hX dX7_entries_47 (by decide) (fun c_47 => ?_) (fun c_47 => ?_)
            · skip
              have d3 := eq_of_nI c_47 (by omega) (by decide)
              refine wa_iconst (v := nI 1) hX dX7_entries_75 (by decide) ?_
              refine wa_goto (tgt := 80) hX dX7_entries_76 (by decide) ?_
              refine wa_istore hX dX7_entries_80 (by decide) ?_
              refine wa_iload hX dX7_entries_82 rfl ?_
              refine wa_iload hX dX7_entries_84 rfl ?_
              refine wa_if_eq (tgt := 93) hX dX7_entries_86 (by decide) (fun c_86 => absurd c_86 (by decide)) (fun c_86 => ?_)
              refine wa_iconst (v := nI 1) hX dX7_entries_89 (by decide) ?_
              refine wa_goto (tgt := 94) hX dX7_entries_90 (by decide) ?_
              refine wa_iadd hX dX7_entries_94 ?_
              refine wa_istore hX dX7_entries_95 (by decide) ?_
              refine wa_iinc hX dX7_entries_97 rfl (inc1 _) (by decide) ?_
              refine wa_goto (tgt := 6) hX dX7_entries_100 (by decide) ?_
              refine wx_sub (l' := [(0, _), (1, _), (2, _), (3, _), (4, _), (5, _)]) ⟨rfl, rfl, rfl, rfl, rfl, rfl, trivial⟩ ?_
              exact ih (i + 1) _ (by omega) (by rw [ex]; exact (nI_add _ 1).trans (congrArg nI (cnt_t (p := entP S m la kd) (by first | (simp [entP, c1, d1, d2, d3]; done) | (exfalso; omega))).symm))
            · skip
              have d3 := ne_of_nI c_47
              refine wa_iload_n hX dX7_entries_50 rfl ?_
              refine wa_iconst (v := nI 2) hX dX7_entries_51 (by decide) ?_
              refine wa_icmp_ne (tgt := 79) hX dX7_entries_52 (by decide) (fun c_52 => ?_) (fun c_52 => ?_)
              · skip
                have d4 := ne_of_nI c_52
                refine wa_iconst (v := nI 0) hX dX7_entries_79 (by decide) ?_
                refine wa_istore hX dX7_entries_80 (by decide) ?_
                refine wa_iload hX dX7_entries_82 rfl ?_
                refine wa_iload hX dX7_entries_84 rfl ?_
                refine wa_if_eq (tgt := 93) hX dX7_entries_86 (by decide) (fun c_86 => ?_) (fun c_86 => absurd rfl c_86)
                refine wa_iconst (v := nI 0) hX dX7_entries_93 (by decide) ?_
                refine wa_iadd hX dX7_entries_94 ?_
                refine wa_istore hX dX7_entries_95 (by decide) ?_
                refine wa_iinc hX dX7_entries_97 rfl (inc1 _) (by decide) ?_
                refine wa_goto (tgt := 6) hX dX7_entries_100 (by decide) ?_
                refine wx_sub (l' := [(0, _), (1, _), (2, _), (3, _), (4, _), (5, _)]) ⟨rfl, rfl, rfl, rfl, rfl, rfl, trivial⟩ ?_
                exact ih (i + 1) _ (by omega) (by rw [ex]; exact (nI_add _ 0).trans (congrArg nI (cnt_f (p := entP S m la kd) (by first | (simp [entP, c1, d1, d2, d3, d4]; done) | (exfalso; omega))).symm))
              · skip
                have d4 := eq_of_nI c_52 (by omega) (by decide)
                refine wa_aload_n hX dX7_entries_55 rfl ?_
                refine wa_iload_n hX dX7_entries_56 rfl ?_
                refine wa_iload_n hX dX7_entries_57 rfl ?_
                refine wa_vP hX (tX7_isOn I hM hV hm hla) bX7_isOn mX7_63 (by decide) (by decide) (ci := 6) ⟨by decide, rfl⟩ (by assumption) rfl rfl (Nat.le_of_ble_eq_true rfl) dX7_entries_58 (fun r_58 q_58 => ?_)
                subst q_58
                refine wa_if_eq (tgt := 79) hX dX7_entries_61 (by decide) (fun c_61 => ?_) (fun c_61 => ?_)
                · skip
                  have d5 := bI_0.mp c_61
                  refine wa_iconst (v := nI 0) hX dX7_entries_79 (by decide) ?_
                  refine wa_istore hX dX7_entries_80 (by decide) ?_
                  refine wa_iload hX dX7_entries_82 rfl ?_
                  refine wa_iload hX dX7_entries_84 rfl ?_
                  refine wa_if_eq (tgt := 93) hX dX7_entries_86 (by decide) (fun c_86 => ?_) (fun c_86 => absurd rfl c_86)
                  refine wa_iconst (v := nI 0) hX dX7_entries_93 (by decide) ?_
                  refine wa_iadd hX dX7_entries_94 ?_
                  refine wa_istore hX dX7_entries_95 (by decide) ?_
                  refine wa_iinc hX dX7_entries_97 rfl (inc1 _) (by decide) ?_
                  refine wa_goto (tgt := 6) hX dX7_entries_100 (by decide) ?_
                  refine wx_sub (l' := [(0, _), (1, _), (2, _), (3, _), (4, _), (5, _)]) ⟨rfl, rfl, rfl, rfl, rfl, rfl, trivial⟩ ?_
                  exact ih (i + 1) _ (by omega) (by rw [ex]; exact (nI_add _ 0).trans (congrArg nI (cnt_f (p := entP S m la kd) (by first | (simp [entP, c1, d1, d2, d3, d4, d5]; done) | (exfalso; omega))).symm))
                · skip
                  have d5 := bI_n0.mp c_61
                  refine wa_aload_n hX dX7_entries_64 rfl ?_
                  refine wa_iload_n hX dX7_entries_65 rfl ?_
                  refine wa_iload hX dX7_entries_66 rfl ?_
                  refine wa_vP hX (tX7_teller I hM hV hm hlt) bX7_teller mX7_71 (by decide) (by decide) (ci := 6) ⟨by decide, rfl⟩ (by assumption) rfl rfl (Nat.le_of_ble_eq_true rfl) dX7_entries_68 (fun r_68 q_68 => ?_)
                  subst q_68
                  refine wa_iload_n hX dX7_entries_71 rfl ?_
                  refine wa_icmp_eq (tgt := 79) hX dX7_entries_72 (by decide) (fun c_72 => ?_) (fun c_72 => ?_)
                  · skip
                    have d6 := (tlS_l h4 hla).mp c_72
                    refine wa_iconst (v := nI 0) hX dX7_entries_79 (by decide) ?_
                    refine wa_istore hX dX7_entries_80 (by decide) ?_
                    refine wa_iload hX dX7_entries_82 rfl ?_
                    refine wa_iload hX dX7_entries_84 rfl ?_
                    refine wa_if_eq (tgt := 93) hX dX7_entries_86 (by decide) (fun c_86 => ?_) (fun c_86 => absurd rfl c_86)
                    refine wa_iconst (v := nI 0) hX dX7_entries_93 (by decide) ?_
                    refine wa_iadd hX dX7_entries_94 ?_
                    refine wa_istore hX dX7_entries_95 (by decide) ?_
                    refine wa_iinc hX dX7_entries_97 rfl (inc1 _) (by decide) ?_
                    refine wa_goto (tgt := 6) hX dX7_entries_100 (by decide) ?_
                    refine wx_sub (l' := [(0, _), (1, _), (2, _), (3, _), (4, _), (5, _)]) ⟨rfl, rfl, rfl, rfl, rfl, rfl, trivial⟩ ?_
                    exact ih (i + 1) _ (by omega) (by rw [ex]; exact (nI_add _ 0).trans (congrArg nI (cnt_f (p := entP S m la kd) (by first | (simp [entP, c1, d1, d2, d3, d4, d5, d6]; done) | (exfalso; omega))).symm))
                  · skip
                    have d6 : ¬ telV (aH S m) (aO S m) (aE S m) i = la + 1 := fun e => c_72 ((tlS_l h4 hla).mpr e)
                    refine wa_iconst (v := nI 1) hX dX7_entries_75 (by decide) ?_
                    refine wa_goto (tgt := 80) hX dX7_entries_76 (by decide) ?_
                    refine wa_istore hX dX7_entries_80 (by decide) ?_
                    refine wa_iload hX dX7_entries_82 rfl ?_
                    refine wa_iload hX dX7_entries_84 rfl ?_
                    refine wa_if_eq (tgt := 93) hX dX7_entries_86 (by decide) (fun c_86 => absurd c_86 (by decide)) (fun c_86 => ?_)
                    refine wa_iconst (v := nI 1) hX dX7_entries_89 (by decide) ?_
                    refine wa_goto (tgt := 94) hX dX7_entries_90 (by decide) ?_
                    refine wa_iadd hX dX7_entries_94 ?_
                    refine wa_istore hX dX7_entries_95 (by decide) ?_
                    refine wa_iinc hX dX7_entries_97 rfl (inc1 _) (by decide) ?_
                    refine wa_goto (tgt := 6) hX dX7_entries_100 (by decide) ?_
                    refine wx_sub (l' := [(0, _), (1, _), (2, _), (3, _), (4, _), (5, _)]) ⟨rfl, rfl, rfl, rfl, rfl, rfl, trivial⟩ ?_
                    exact ih (i + 1) _ (by omega) (by rw [ex]; exact (nI_add _ 1).trans (congrArg nI (cnt_t (p := entP S m la kd) (by first | (simp [entP, c1, d1, d2, d3, d4, d5, d6]; done) | (exfalso; omega))).symm))
  refine wa_iconst (v := nI 0) hX dX7_entries_0 (by decide) ?_
  refine wa_istore hX dX7_entries_1 (by decide) ?_
  refine wa_iconst (v := nI 0) hX dX7_entries_3 (by decide) ?_
  refine wa_istore hX dX7_entries_4 (by decide) ?_
  exact lp 16 0 _ (by omega) rfl

set_option maxHeartbeats 4000000 in
set_option maxRecDepth 100000 in
theorem tX7_shadowed {l : Launch} {D : va_G} {A : Nat → Prop} {N : Nat} {Sh : SM} {J : JM} (I : IM) {Q : Nat} (hM : MM Sh J Q) {S : AS} (hV : VF (I (Q + 1)) S) {m : Nat} (hm : m < 6) : CtP l D A yX7_shadowed cX7_shadowed 4 FieldType.int 3 N Sh I J [.ref Q, .int (nI m)] (fun r => r = nI (sumN (shV (aH S m) (aO S m) (aE S m)) (aH S m))) := by
  refine ct_I (l0 := [(0, .ref Q), (1, .int (nI m))]) (by decide +kernel) (Nat.le_of_ble_eq_true rfl) rfl (fun _ _ _ _ => rfl) ?_
  intro X hX hret _ _ _
  have hX : XK X RX7 cX7_shadowed 4 3 := hX
  obtain ⟨q0, ⟨qj0, qj1, qj3, qj5, qj6, qj8, qj12, qj13, qj14, qj15, qj16, qj18, qj19⟩, ⟨qs1, qs2, qs3, qs4, qs5, qs6, qs7, qs8, qs9, qs10, qs11, qs12, qs13⟩⟩ := id hM
  have h4 := (hV.1 m hm).1.1
  have lp : ∀ (n i : Nat) (x : Int32), i + n = aH S m → (x = nI (sumN (shV (aH S m) (aO S m) (aE S m)) i)) → WX X 0 0 N Sh I J 4 [(0, .ref Q), (1, .int (nI m)), (2, .int x), (3, .int (nI i))] [] := by
    intro n
    induction n with
    | zero =>
      intro i x hi ex
      obtain rfl : i = aH S m := by omega
      refine wa_iload_n hX dX7_shadowed_4 rfl ?_
      refine wa_aload_n hX dX7_shadowed_5 rfl ?_
      refine wa_getR hX fX7_7 rfl (by assumption) (by assumption) dX7_shadowed_6 ?_
      refine wa_sipush (v := nI 408) hX dX7_shadowed_9 (by decide) ?_
      refine wa_iload_n hX dX7_shadowed_12 rfl ?_
      refine wa_iadd hX dX7_shadowed_13 ?_
      refine wa_iald hX (by assumption) (nI_add 408 m) (show 408 + m < 514 by omega) (by decide) dX7_shadowed_14 ?_
      rw [(hV.1 m hm).1.2]
      refine wa_icmp_ge (tgt := 34) hX dX7_shadowed_15 (by decide) (fun c_15 => ?_) (fun c_15 => absurd (Int32.le_refl _) c_15)
      refine wa_iload_n hX dX7_shadowed_34 rfl ?_
      exact hret _ _ _ _ _ ⟨ex, rfl, rfl⟩ dX7_shadowed_35
    | succ n ih =>
      intro i x hi ex
      have hlt : i < aH S m := by omega
      refine wa_iload_n hX dX7_shadowed_4 rfl ?_
      refine wa_aload_n hX dX7_shadowed_5 rfl ?_
      refine wa_getR hX fX7_7 rfl (by assumption) (by assumption) dX7_shadowed_6 ?_
      refine wa_sipush (v := nI 408) hX dX7_shadowed_9 (by decide) ?_
      refine wa_iload_n hX dX7_shadowed_12 rfl ?_
      refine wa_iadd hX dX7_shadowed_13 ?_
      refine wa_iald hX (by assumption) (nI_add 408 m) (show 408 + m < 514 by omega) (by decide) dX7_shadowed_14 ?_
      rw [(hV.1 m hm).1.2]
      refine wa_icmp_ge (tgt := 34) hX dX7_shadowed_15 (by decide) (fun c_15 => absurd c_15 (nI_ge hlt (by omega))) (fun c_15 => ?_)
      refine wa_iload_n hX dX7_shadowed_18 rfl ?_
      refine wa_aload_n hX dX7_shadowed_19 rfl ?_
      refine wa_iload_n hX dX7_shadowed_20 rfl ?_
      refine wa_iload_n hX dX7_shadowed_21 rfl ?_
      refine wa_iconst (v := nI 2) hX dX7_shadowed_22 (by decide) ?_
      refine wa_vP hX (tX7_entries I hM hV hm (show i < 4 by omega) (show 2 ≤ 2 by decide)) bX7_entries mX7_78 (by decide) (by decide) (ci := 6) ⟨by decide, rfl⟩ (by assumption) rfl rfl (Nat.le_of_ble_eq_true rfl) dX7_shadowed_23 (fun r_23 q_23 => ?_)
      rw [ent_2 hlt] at q_23
      refine wa_iadd hX dX7_shadowed_26 ?_
      refine wa_istore_n hX dX7_shadowed_27 (by decide) ?_
      refine wa_iinc hX dX7_shadowed_28 rfl (inc1 _) (by decide) ?_
      refine wa_goto (tgt := 4) hX dX7_shadowed_31 (by decide) ?_
      refine wx_sub (l' := [(0, _), (1, _), (2, _), (3, _)]) ⟨rfl, rfl, rfl, rfl, trivial⟩ ?_
      exact ih (i + 1) _ (by omega) (by rw [ex, q_23, nI_add]; rfl)
  refine wa_iconst (v := nI 0) hX dX7_shadowed_0 (by decide) ?_
  refine wa_istore_n hX dX7_shadowed_1 (by decide) ?_
  refine wa_iconst (v := nI 0) hX dX7_shadowed_2 (by decide) ?_
  refine wa_istore_n hX dX7_shadowed_3 (by decide) ?_
  exact lp (aH S m) 0 _ (by omega) rfl

set_option maxHeartbeats 4000000 in
set_option maxRecDepth 100000 in
theorem tX7_layers {l : Launch} {D : va_G} {A : Nat → Prop} {N : Nat} {Sh : SM} {J : JM} (I : IM) {Q : Nat} (hM : MM Sh J Q) {S : AS} (hV : VF (I (Q + 1)) S) : CtP l D A yX7_layers cX7_layers 3 FieldType.int 0 N Sh I J [.ref Q] (fun r => r = nI (sumN (aH S) 6)) := by
  refine ct_I (l0 := [(0, .ref Q)]) (by decide +kernel) (Nat.le_of_ble_eq_true rfl) rfl (fun _ _ _ _ => rfl) ?_
  intro X hX hret _ _ _
  have hX : XK X RX7 cX7_layers 3 0 := hX
  obtain ⟨q0, ⟨qj0, qj1, qj3, qj5, qj6, qj8, qj12, qj13, qj14, qj15, qj16, qj18, qj19⟩, ⟨qs1, qs2, qs3, qs4, qs5, qs6, qs7, qs8, qs9, qs10, qs11, qs12, qs13⟩⟩ := id hM
  have lp : ∀ (n i : Nat) (x : Int32), i + n = 6 → (x = nI (sumN (aH S) i)) → WX X 0 0 N Sh I J 4 [(0, .ref Q), (1, .int x), (2, .int (nI i))] [] := by
    intro n
    induction n with
    | zero =>
      intro i x hi ex
      obtain rfl : 6 = i := by omega
      refine wa_iload_n hX dX7_layers_4 rfl ?_
      refine wa_bipush (v := nI 6) hX dX7_layers_5 (by decide) ?_
      refine wa_icmp_ge (tgt := 29) hX dX7_layers_7 (by decide) (fun c_7 => ?_) (fun c_7 => absurd (Int32.le_refl _) c_7)
      refine wa_iload_n hX dX7_layers_29 rfl ?_
      exact hret _ _ _ _ _ ⟨ex, rfl, rfl⟩ dX7_layers_30
    | succ n ih =>
      intro i x hi ex
      have hlt : i < 6 := by omega
      refine wa_iload_n hX dX7_layers_4 rfl ?_
      refine wa_bipush (v := nI 6) hX dX7_layers_5 (by decide) ?_
      refine wa_icmp_ge (tgt := 29) hX dX7_layers_7 (by decide) (fun c_7 => absurd c_7 (nI_ge hlt (by decide))) (fun c_7 => ?_)
      refine wa_iload_n hX dX7_layers_10 rfl ?_
      refine wa_aload_n hX dX7_layers_11 rfl ?_
      refine wa_getR hX fX7_7 rfl (by assumption) (by assumption) dX7_layers_12 ?_
      refine wa_sipush (v := nI 408) hX dX7_layers_15 (by decide) ?_
      refine wa_iload_n hX dX7_layers_18 rfl ?_
      refine wa_iadd hX dX7_layers_19 ?_
      refine wa_iald hX (by assumption) (nI_add 408 i) (show 408 + i < 514 by omega) (by decide) dX7_layers_20 ?_
      rw [(hV.1 i hlt).1.2]
      refine wa_iadd hX dX7_layers_21 ?_
      refine wa_istore_n hX dX7_layers_22 (by decide) ?_
      refine wa_iinc hX dX7_layers_23 rfl (inc1 _) (by decide) ?_
      refine wa_goto (tgt := 4) hX dX7_layers_26 (by decide) ?_
      refine wx_sub (l' := [(0, _), (1, _), (2, _)]) ⟨rfl, rfl, rfl, trivial⟩ ?_
      exact ih (i + 1) _ (by omega) (by rw [ex, nI_add]; rfl)
  refine wa_iconst (v := nI 0) hX dX7_layers_0 (by decide) ?_
  refine wa_istore_n hX dX7_layers_1 (by decide) ?_
  refine wa_iconst (v := nI 0) hX dX7_layers_2 (by decide) ?_
  refine wa_istore_n hX dX7_layers_3 (by decide) ?_
  exact lp 6 0 _ (by omega) rfl

