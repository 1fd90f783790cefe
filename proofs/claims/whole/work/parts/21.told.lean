/-! PileMaps: the object at B and all that hangs on it; what it tells -/
def RY (Sh : SM) (J : JM) (r : Nat) : Prop := Sh r = some (.inr 1) ∧ J r 0 = some (r + 1) ∧ J r 1 = some (r + 3) ∧ J r 2 = some (r + 14) ∧ J r 3 = some (r + 15) ∧ Sh (r + 1) = some (.inr 4) ∧ J (r + 1) 0 = some (r + 2) ∧ shC Sh (r + 2) 60 ∧ shR Sh (r + 3) 10 ∧ (∀ j, j < 10 → J (r + 3) j = some (r + 4 + j) ∧ shI Sh (r + 4 + j) 16) ∧ shI Sh (r + 14) 16 ∧ shI Sh (r + 15) 16
def ML (Sh : SM) (J : JM) (B : Nat) : Prop := Sh B = some (.inr 5) ∧ (J B 0 = some (B + 1) ∧ J B 1 = some (B + 59) ∧ J B 2 = some (B + 292) ∧ J B 3 = some (B + 350) ∧ J B 4 = some (B + 366)) ∧ shI Sh (B + 366) 15 ∧ SL Sh J (B + 1) ∧ SL Sh J (B + 292) ∧ shA Sh (B + 59) RX4 4 ∧ (∀ i, i < 4 → SL Sh J (B + 60 + 58 * i)) ∧ RY Sh J (B + 350)
def tn (x : Int32) : Nat := x.toNatClampNeg
theorem tn_nI {j : Nat} (h : j < 2 ^ 31) : tn (nI j) = j := nI_clamp h
/-- f of the number that x is, if it is below n; c otherwise -/
def onB (n : Nat) (x : Int32) (f : Nat → Int32) (c : Int32) : Int32 := if inB n x = true then f (tn x) else c
theorem onB_in {n m : Nat} (hm : m < n) (hn : n < 2 ^ 31) {f : Nat → Int32} {c : Int32} : onB n (nI m) f c = f m := by
  unfold onB
  rw [inB_nI (by omega) hn, decide_eq_true hm, if_pos rfl, tn_nI (by omega)]
theorem onB_out {n : Nat} {x : Int32} (h : inB n x = false) {f : Nat → Int32} {c : Int32} : onB n x f c = c := by
  unfold onB
  rw [h]
  rfl
def swI (n : Nat) (x : Int32) : Nat := if inB n x = true then tn x else n
theorem sw_in (x : Int32) (n : Nat) (hn : n < 2 ^ 31) : (x.toInt < 0 ∨ (n : Int) - 1 < x.toInt) ∨ ∃ j, j < n ∧ x = nI j := by
  rcases pk_ix x hn with h | h | h
  · left; left
    exact Int32.lt_iff_toInt_lt.mp h
  · left; right
    have := Int32.le_iff_toInt_le.mp h
    rw [nI_toInt hn] at this
    omega
  · exact Or.inr h
theorem swI_out {x : Int32} {n : Nat} (hn : n < 2 ^ 31) (h : x.toInt < 0 ∨ (n : Int) - 1 < x.toInt) : swI n x = n := by
  unfold swI
  rw [if_neg]
  intro q
  obtain ⟨j, hj, e⟩ := inB_t hn q
  rw [e, nI_toInt (by omega)] at h
  omega
theorem swI_in {j n : Nat} (hj : j < n) (hn : n < 2 ^ 31) : swI n (nI j) = j := by
  unfold swI
  rw [inB_nI (by omega) hn, decide_eq_true hj, if_pos rfl, tn_nI (by omega)]
def onL (S : AS) (x y : Int32) (f : Nat → Nat → Int32) (c : Int32) : Int32 := onB 6 x (fun m => onB (aH S m) y (fun l => f m l) c) c
def layB (S : AS) (x y : Int32) : Bool := inB 6 x && inB (aH S (tn x)) y
theorem layB_t {S : AS} {x y : Int32} (hS : ∀ m, m < 6 → aH S m ≤ 4) (h : layB S x y = true) : ∃ m l, m < 6 ∧ l < aH S m ∧ x = nI m ∧ y = nI l := by
  unfold layB at h
  rw [Bool.and_eq_true] at h
  obtain ⟨m, hm, e⟩ := inB_t (by decide) h.1
  subst e
  rw [tn_nI (by omega)] at h
  have := hS m hm
  obtain ⟨l, hl, e2⟩ := inB_t (by omega) h.2
  exact ⟨m, l, hm, hl, rfl, e2⟩
theorem onL_f {S : AS} {x y : Int32} (h : layB S x y = false) {f : Nat → Nat → Int32} {c : Int32} : onL S x y f c = c := by
  unfold onL
  cases e : inB 6 x with
  | false => exact onB_out e
  | true =>
    obtain ⟨m, hm, e2⟩ := inB_t (by decide) e
    subst e2
    rw [onB_in hm (by decide)]
    unfold layB at h
    rw [e, tn_nI (by omega), Bool.true_and] at h
    exact onB_out h
theorem onL_t {S : AS} {m l : Nat} (hm : m < 6) (hl : l < aH S m) (h4 : aH S m ≤ 4) {f : Nat → Nat → Int32} {c : Int32} : onL S (nI m) (nI l) f c = f m l := by
  unfold onL
  rw [onB_in hm (by decide), onB_in hl (by omega)]
theorem SV.h4 {I : IM} {b : Nat} {S : AS} (h : SV I b S) : ∀ m, m < 6 → aH S m ≤ 4 := fun m hm => (h.1 m hm).1.1.1
set_option maxHeartbeats 4000000 in
set_option maxRecDepth 100000 in
theorem tX6_get {l : Launch} {D : va_G} {A : Nat → Prop} {N : Nat} {Sh : SM} {J : JM} (I : IM) {B : Nat} (hM : ML Sh J B) {S : AS} (hV : SV I (B + 1) S) (x y : Int32) : CtP l D A yX6_get cX6_get 3 FieldType.int 1 N Sh I J [.ref B, .int x, .int y] (fun r => r = onB 6 x (fun m => onB 16 y (fun k => orN (nI (aV S m k))) (-1)) (-1)) := by
  refine ct_I (l0 := [(0, .ref B), (1, .int x), (2, .int y)]) (by decide +kernel) (Nat.le_of_ble_eq_true rfl) rfl (fun _ _ _ _ => rfl) ?_
  intro X hX hret _ _ _
  have hX : XK X RX6 cX6_get 3 1 := hX
  obtain ⟨m0, ⟨mj0, mj1, mj2, mj3, mj4⟩, mdf, mS, mK, mPa, mPs, mR⟩ := id hM
  obtain ⟨s0, sj0, sj1, sA, sQ⟩ := id mS
  have spr := sA.r
  obtain ⟨-, spile⟩ := id sA
  refine wa_iload_n hX dX6_get_0 rfl ?_
  refine wa_sP hX (tX6_isMap I x) bX6_isMap mX6_42 (by decide) (by decide) rfl rfl (Nat.le_of_ble_eq_true rfl) dX6_get_1 (fun r_1 q_1 => ?_)
  subst q_1
  refine wa_if_eq (tgt := 14) hX dX6_get_4 (by decide) (fun c_4 => ?_) (fun c_4 => ?_)
  · skip
    have n_4 := bI_0.mp c_4
    refine wa_iconst (v := -1) hX dX6_get_14 (by decide) ?_
    exact hret _ _ _ _ _ ⟨(by rw [onB_out n_4]), rfl, rfl⟩ dX6_get_15
  · skip
    obtain ⟨m, hm, em⟩ := inB_t (by decide) (bI_n0.mp c_4)
    subst em
    refine wa_iload_n hX dX6_get_7 rfl ?_
    refine wa_sP hX (tX6_isKey I y) bX6_isKey mX6_87 (by decide) (by decide) rfl rfl (Nat.le_of_ble_eq_true rfl) dX6_get_8 (fun r_8 q_8 => ?_)
    subst q_8
    refine wa_if_ne (tgt := 16) hX dX6_get_11 (by decide) (fun c_11 => ?_) (fun c_11 => ?_)
    · skip
      obtain ⟨k, hk, ek⟩ := inB_t (by decide) (bI_n0.mp c_11)
      subst ek
      refine wa_aload_n hX dX6_get_16 rfl ?_
      refine wa_getR hX fX6_10 rfl m0 mj0 dX6_get_17 ?_
      refine wa_getR hX fX6_50 rfl s0 sj0 dX6_get_20 ?_
      refine wa_iload_n hX dX6_get_23 rfl ?_
      refine wa_aald hX spr rfl hm (by decide) (spile m hm).1 dX6_get_24 ?_
      refine wa_getR hX fX6_98 rfl (spile m hm).2.1 (spile m hm).2.2.2.2.1 dX6_get_25 ?_
      refine wa_iload_n hX dX6_get_28 rfl ?_
      refine wa_iald hX (spile m hm).2.2.2.2.2.2.2.2 rfl hk (by decide) dX6_get_29 ?_
      rw [((hV.1 m hm).rv k hk).1]
      refine wa_sP hX (tX6_orNone I (nI (aV S m k))) bX6_orNone mX6_157 (by decide) (by decide) rfl rfl (Nat.le_of_ble_eq_true rfl) dX6_get_30 (fun r_30 q_30 => ?_)
      exact hret _ _ _ _ _ ⟨(by rw [onB_in hm (by decide), onB_in hk (by decide)]; exact q_30), rfl, rfl⟩ dX6_get_33
    · skip
      have n_11 := bI_0.mp c_11
      refine wa_iconst (v := -1) hX dX6_get_14 (by decide) ?_
      exact hret _ _ _ _ _ ⟨(by rw [onB_in hm (by decide), onB_out n_11]), rfl, rfl⟩ dX6_get_15

def tlS (S : AS) (m k : Nat) : Int32 := if telV (aH S m) (aO S m) (aE S m) k = 0 then -5 else nI (telV (aH S m) (aO S m) (aE S m) k - 1)
set_option maxHeartbeats 4000000 in
set_option maxRecDepth 100000 in
theorem tX6_tells {l : Launch} {D : va_G} {A : Nat → Prop} {N : Nat} {Sh : SM} {J : JM} (I : IM) {B : Nat} (hM : ML Sh J B) {S : AS} (hV : SV I (B + 1) S) (x y : Int32) : CtP l D A yX6_tells cX6_tells 4 FieldType.int 1 N Sh I J [.ref B, .int x, .int y] (fun r => r = onB 6 x (fun m => onB 16 y (fun k => tlS S m k) (-1)) (-1)) := by
  refine ct_I (l0 := [(0, .ref B), (1, .int x), (2, .int y)]) (by decide +kernel) (Nat.le_of_ble_eq_true rfl) rfl (fun _ _ _ _ => rfl) ?_
  intro X hX hret _ _ _
  have hX : XK X RX6 cX6_tells 4 1 := hX
  obtain ⟨m0, ⟨mj0, mj1, mj2, mj3, mj4⟩, mdf, mS, mK, mPa, mPs, mR⟩ := id hM
  obtain ⟨s0, sj0, sj1, sA, sQ⟩ := id mS
  have spr := sA.r
  obtain ⟨-, spile⟩ := id sA
  refine wa_iload_n hX dX6_tells_0 rfl ?_
  refine wa_sP hX (tX6_isMap I x) bX6_isMap mX6_42 (by decide) (by decide) rfl rfl (Nat.le_of_ble_eq_true rfl) dX6_tells_1 (fun r_1 q_1 => ?_)
  subst q_1
  refine wa_if_eq (tgt := 14) hX dX6_tells_4 (by decide) (fun c_4 => ?_) (fun c_4 => ?_)
  · skip
    have n_4 := bI_0.mp c_4
    refine wa_iconst (v := -1) hX dX6_tells_14 (by decide) ?_
    exact hret _ _ _ _ _ ⟨(by rw [onB_out n_4]), rfl, rfl⟩ dX6_tells_15
  · skip
    obtain ⟨m, hm, em⟩ := inB_t (by decide) (bI_n0.mp c_4)
    subst em
    refine wa_iload_n hX dX6_tells_7 rfl ?_
    refine wa_sP hX (tX6_isKey I y) bX6_isKey mX6_87 (by decide) (by decide) rfl rfl (Nat.le_of_ble_eq_true rfl) dX6_tells_8 (fun r_8 q_8 => ?_)
    subst q_8
    refine wa_if_ne (tgt := 16) hX dX6_tells_11 (by decide) (fun c_11 => ?_) (fun c_11 => ?_)
    · skip
      obtain ⟨k, hk, ek⟩ := inB_t (by decide) (bI_n0.mp c_11)
      subst ek
      refine wa_aload_n hX dX6_tells_16 rfl ?_
      refine wa_getR hX fX6_10 rfl m0 mj0 dX6_tells_17 ?_
      refine wa_getR hX fX6_50 rfl s0 sj0 dX6_tells_20 ?_
      refine wa_iload_n hX dX6_tells_23 rfl ?_
      refine wa_aald hX spr rfl hm (by decide) (spile m hm).1 dX6_tells_24 ?_
      refine wa_iload_n hX dX6_tells_25 rfl ?_
      refine wa_vP hX (vX0_tellingLayer I (spile m hm).2 (hV.1 m hm).1 hk) bX0_tellingLayer mX6_160 (by decide) (by decide) (ci := 0) ⟨by decide, rfl⟩ (spile m hm).2.1 rfl rfl (Nat.le_of_ble_eq_true rfl) dX6_tells_26 (fun r_26 q_26 => ?_)
      have ht := telV_le (aH S m) (aO S m) (aE S m) k
      have h4 := hV.h4 m hm
      subst q_26
      refine wa_istore_n hX dX6_tells_29 (by decide) ?_
      refine wa_iload_n hX dX6_tells_30 rfl ?_
      refine wa_iconst (v := -1) hX dX6_tells_31 (by decide) ?_
      refine wa_icmp_ne (tgt := 40) hX dX6_tells_32 (by decide) (fun c_32 => ?_) (fun c_32 => ?_)
      · skip
        have c1 : telV (aH S m) (aO S m) (aE S m) k ≠ 0 := fun e => c_32 ((nI_m1 (by omega)).mpr e)
        refine wa_iload_n hX dX6_tells_40 rfl ?_
        exact hret _ _ _ _ _ ⟨(by rw [onB_in hm (by decide), onB_in hk (by decide)]; unfold tlS; rw [if_neg c1]; obtain ⟨t, e⟩ : ∃ t, telV (aH S m) (aO S m) (aE S m) k = t + 1 := ⟨telV (aH S m) (aO S m) (aE S m) k - 1, by omega⟩; rw [e, dec1, Nat.add_sub_cancel]), rfl, rfl⟩ dX6_tells_41
      · skip
        have c1 : telV (aH S m) (aO S m) (aE S m) k = 0 := (nI_m1 (by omega)).mp c_32
        refine wa_bipush (v := -5) hX dX6_tells_35 (by decide) ?_
        refine wa_goto (tgt := 41) hX dX6_tells_37 (by decide) ?_
        exact hret _ _ _ _ _ ⟨(by rw [onB_in hm (by decide), onB_in hk (by decide)]; unfold tlS; rw [if_pos c1]), rfl, rfl⟩ dX6_tells_41
    · skip
      have n_11 := bI_0.mp c_11
      refine wa_iconst (v := -1) hX dX6_tells_14 (by decide) ?_
      exact hret _ _ _ _ _ ⟨(by rw [onB_in hm (by decide), onB_out n_11]), rfl, rfl⟩ dX6_tells_15

theorem inB_big {n : Nat} {y : Int32} (h : n ≤ 4) (c : nI 4 ≤ y) : inB n y = false := by
  cases e : inB n y with
  | false => rfl
  | true =>
    obtain ⟨j, hj, rfl⟩ := inB_t (by omega) e
    exact absurd c (nI_ge (by omega) (by decide))
set_option maxHeartbeats 4000000 in
set_option maxRecDepth 100000 in
theorem tX6_isLayer {l : Launch} {D : va_G} {A : Nat → Prop} {N : Nat} {Sh : SM} {J : JM} (I : IM) {B : Nat} (hM : ML Sh J B) {S : AS} (hV : SV I (B + 1) S) (x y : Int32) : CtP l D A yX6_isLayer cX6_isLayer 3 FieldType.boolean 1 N Sh I J [.ref B, .int x, .int y] (fun r => r = bI (layB S x y)) := by
  refine ct_I (l0 := [(0, .ref B), (1, .int x), (2, .int y)]) (by decide +kernel) (Nat.le_of_ble_eq_true rfl) rfl (fun _ _ _ h => by obtain ⟨rfl, _⟩ := h; exact nar_B _) ?_
  intro X hX hret _ _ _
  have hX : XK X RX6 cX6_isLayer 3 1 := hX
  obtain ⟨m0, ⟨mj0, mj1, mj2, mj3, mj4⟩, mdf, mS, mK, mPa, mPs, mR⟩ := id hM
  obtain ⟨s0, sj0, sj1, sA, sQ⟩ := id mS
  have spr := sA.r
  obtain ⟨-, spile⟩ := id sA
  refine wa_iload_n hX dX6_isLayer_0 rfl ?_
  refine wa_sP hX (tX6_isMap I x) bX6_isMap mX6_42 (by decide) (by decide) rfl rfl (Nat.le_of_ble_eq_true rfl) dX6_isLayer_1 (fun r_1 q_1 => ?_)
  subst q_1
  refine wa_if_eq (tgt := 36) hX dX6_isLayer_4 (by decide) (fun c_4 => ?_) (fun c_4 => ?_)
  · skip
    have n_4 := bI_0.mp c_4
    refine wa_iconst (v := nI 0) hX dX6_isLayer_36 (by decide) ?_
    exact hret _ _ _ _ _ ⟨(by unfold layB; rw [n_4]; rfl), rfl, rfl⟩ dX6_isLayer_37
  · skip
    obtain ⟨m, hm, em⟩ := inB_t (by decide) (bI_n0.mp c_4)
    subst em
    refine wa_iload_n hX dX6_isLayer_7 rfl ?_
    refine wa_if_lt (tgt := 36) hX dX6_isLayer_8 (by decide) (fun c_8 => ?_) (fun c_8 => ?_)
    · skip
      refine wa_iconst (v := nI 0) hX dX6_isLayer_36 (by decide) ?_
      exact hret _ _ _ _ _ ⟨(by unfold layB; rw [inB_nI (by omega) (by decide), decide_eq_true hm, tn_nI (by omega)]; simp [inB, c_8, bI]), rfl, rfl⟩ dX6_isLayer_37
    · skip
      refine wa_iload_n hX dX6_isLayer_11 rfl ?_
      refine wa_iconst (v := nI 4) hX dX6_isLayer_12 (by decide) ?_
      refine wa_icmp_ge (tgt := 36) hX dX6_isLayer_13 (by decide) (fun c_13 => ?_) (fun c_13 => ?_)
      · skip
        refine wa_iconst (v := nI 0) hX dX6_isLayer_36 (by decide) ?_
        exact hret _ _ _ _ _ ⟨(by unfold layB; rw [inB_nI (by omega) (by decide), decide_eq_true hm, tn_nI (by omega), inB_big (hV.h4 m hm) c_13]; rfl), rfl, rfl⟩ dX6_isLayer_37
      · skip
        refine wa_iload_n hX dX6_isLayer_16 rfl ?_
        refine wa_aload_n hX dX6_isLayer_17 rfl ?_
        refine wa_getR hX fX6_10 rfl m0 mj0 dX6_isLayer_18 ?_
        refine wa_getR hX fX6_50 rfl s0 sj0 dX6_isLayer_21 ?_
        refine wa_iload_n hX dX6_isLayer_24 rfl ?_
        refine wa_aald hX spr rfl hm (by decide) (spile m hm).1 dX6_isLayer_25 ?_
        refine wa_getI hX fX6_54 rfl (spile m hm).2.1 dX6_isLayer_26 ?_
        rw [(hV.1 m hm).1.1.2]
        refine wa_icmp_ge (tgt := 36) hX dX6_isLayer_29 (by decide) (fun c_29 => ?_) (fun c_29 => ?_)
        · skip
          refine wa_iconst (v := nI 0) hX dX6_isLayer_36 (by decide) ?_
          exact hret _ _ _ _ _ ⟨(by unfold layB; rw [inB_nI (by omega) (by decide), decide_eq_true hm, tn_nI (by omega)]; simp [inB, c_29, bI]), rfl, rfl⟩ dX6_isLayer_37
        · skip
          refine wa_iconst (v := nI 1) hX dX6_isLayer_32 (by decide) ?_
          refine wa_goto (tgt := 37) hX dX6_isLayer_33 (by decide) ?_
          exact hret _ _ _ _ _ ⟨(by unfold layB; rw [inB_nI (by omega) (by decide), decide_eq_true hm, tn_nI (by omega)]; simp [inB, c_8, c_29, bI]), rfl, rfl⟩ dX6_isLayer_37

set_option maxHeartbeats 4000000 in
set_option maxRecDepth 100000 in
theorem tX6_entry {l : Launch} {D : va_G} {A : Nat → Prop} {N : Nat} {Sh : SM} {J : JM} (I : IM) {B : Nat} (hM : ML Sh J B) {S : AS} (hV : SV I (B + 1) S) (x y z : Int32) : CtP l D A yX6_entry cX6_entry 4 FieldType.int 2 N Sh I J [.ref B, .int x, .int y, .int z] (fun r => r = onL S x y (fun m l => onB 16 z (fun k => nI (aE S m l k)) (-1)) (-1)) := by
  refine ct_I (l0 := [(0, .ref B), (1, .int x), (2, .int y), (3, .int z)]) (by decide +kernel) (Nat.le_of_ble_eq_true rfl) rfl (fun _ _ _ _ => rfl) ?_
  intro X hX hret _ _ _
  have hX : XK X RX6 cX6_entry 4 2 := hX
  obtain ⟨m0, ⟨mj0, mj1, mj2, mj3, mj4⟩, mdf, mS, mK, mPa, mPs, mR⟩ := id hM
  obtain ⟨s0, sj0, sj1, sA, sQ⟩ := id mS
  have spr := sA.r
  obtain ⟨-, spile⟩ := id sA
  refine wa_aload_n hX dX6_entry_0 rfl ?_
  refine wa_iload_n hX dX6_entry_1 rfl ?_
  refine wa_iload_n hX dX6_entry_2 rfl ?_
  refine wa_vP hX (tX6_isLayer I hM hV x y) bX6_isLayer mX6_72 (by decide) (by decide) (ci := 5) ⟨by decide, rfl⟩ m0 rfl rfl (Nat.le_of_ble_eq_true rfl) dX6_entry_3 (fun r_3 q_3 => ?_)
  subst q_3
  refine wa_if_eq (tgt := 16) hX dX6_entry_6 (by decide) (fun c_6 => ?_) (fun c_6 => ?_)
  · skip
    have n_6 := bI_0.mp c_6
    refine wa_iconst (v := -1) hX dX6_entry_16 (by decide) ?_
    exact hret _ _ _ _ _ ⟨(by rw [onL_f n_6]), rfl, rfl⟩ dX6_entry_17
  · skip
    obtain ⟨m, la, hm, hla, em, el⟩ := layB_t hV.h4 (bI_n0.mp c_6)
    subst em
    subst el
    have h4 := hV.h4 m hm
    refine wa_iload_n hX dX6_entry_9 rfl ?_
    refine wa_sP hX (tX6_isKey I z) bX6_isKey mX6_87 (by decide) (by decide) rfl rfl (Nat.le_of_ble_eq_true rfl) dX6_entry_10 (fun r_10 q_10 => ?_)
    subst q_10
    refine wa_if_ne (tgt := 18) hX dX6_entry_13 (by decide) (fun c_13 => ?_) (fun c_13 => ?_)
    · skip
      obtain ⟨k, hk, ek⟩ := inB_t (by decide) (bI_n0.mp c_13)
      subst ek
      refine wa_aload_n hX dX6_entry_18 rfl ?_
      refine wa_getR hX fX6_10 rfl m0 mj0 dX6_entry_19 ?_
      refine wa_getR hX fX6_50 rfl s0 sj0 dX6_entry_22 ?_
      refine wa_iload_n hX dX6_entry_25 rfl ?_
      refine wa_aald hX spr rfl hm (by decide) (spile m hm).1 dX6_entry_26 ?_
      refine wa_getR hX fX6_90 rfl (spile m hm).2.1 (spile m hm).2.2.1 dX6_entry_27 ?_
      refine wa_iload_n hX dX6_entry_30 rfl ?_
      refine wa_aald hX (spile m hm).2.2.2.2.2.1 rfl (show la < 4 by omega) (by decide) ((spile m hm).2.2.2.2.2.2.1 la (by omega)).1 dX6_entry_31 ?_
      refine wa_iload_n hX dX6_entry_32 rfl ?_
      refine wa_iald hX ((spile m hm).2.2.2.2.2.2.1 la (by omega)).2 rfl hk (by decide) dX6_entry_33 ?_
      exact hret _ _ _ _ _ ⟨(by rw [onL_t hm hla h4, onB_in hk (by decide)]; exact ((hV.1 m hm).1.2.2 la (by omega) k hk).1), rfl, rfl⟩ dX6_entry_34
    · skip
      have n_13 := bI_0.mp c_13
      refine wa_iconst (v := -1) hX dX6_entry_16 (by decide) ?_
      exact hret _ _ _ _ _ ⟨(by rw [onL_t hm hla h4, onB_out n_13]), rfl, rfl⟩ dX6_entry_17

def layF (S : AS) (m l w : Nat) : Int32 := match w with
  | 0 => nI (enV (aE S m) l)
  | 1 => bI (aO S m l)
  | 2 => nI (shV (aH S m) (aO S m) (aE S m) l)
  | 3 => nI (cnt (fun k => decide (aE S m l k = 16)) 16)
  | _ => -2
set_option maxHeartbeats 4000000 in
set_option maxRecDepth 100000 in
theorem tX6_layer {l : Launch} {D : va_G} {A : Nat → Prop} {N : Nat} {Sh : SM} {J : JM} (I : IM) {B : Nat} (hM : ML Sh J B) {S : AS} (hV : SV I (B + 1) S) (x y z : Int32) : CtP l D A yX6_layer cX6_layer 5 FieldType.int 2 N Sh I J [.ref B, .int x, .int y, .int z] (fun r => r = onL S x y (fun m l => layF S m l (swI 4 z)) (-1)) := by
  refine ct_I (l0 := [(0, .ref B), (1, .int x), (2, .int y), (3, .int z)]) (by decide +kernel) (Nat.le_of_ble_eq_true rfl) rfl (fun _ _ _ _ => rfl) ?_
  intro X hX hret _ _ _
  have hX : XK X RX6 cX6_layer 5 2 := hX
  obtain ⟨m0, ⟨mj0, mj1, mj2, mj3, mj4⟩, mdf, mS, mK, mPa, mPs, mR⟩ := id hM
  obtain ⟨s0, sj0, sj1, sA, sQ⟩ := id mS
  have spr := sA.r
  obtain ⟨-, spile⟩ := id sA
  refine wa_aload_n hX dX6_layer_0 rfl ?_
  refine wa_iload_n hX dX6_layer_1 rfl ?_
  refine wa_iload_n hX dX6_layer_2 rfl ?_
  refine wa_vP hX (tX6_isLayer I hM hV x y) bX6_isLayer mX6_72 (by decide) (by decide) (ci := 5) ⟨by decide, rfl⟩ m0 rfl rfl (Nat.le_of_ble_eq_true rfl) dX6_layer_3 (fun r_3 q_3 => ?_)
  subst q_3
  refine wa_if_ne (tgt := 11) hX dX6_layer_6 (by decide) (fun c_6 => ?_) (fun c_6 => ?_)
  · skip
    obtain ⟨m, la, hm, hla, em, el⟩ := layB_t hV.h4 (bI_n0.mp c_6)
    subst em
    subst el
    have h4 := hV.h4 m hm
    refine wa_aload_n hX dX6_layer_11 rfl ?_
    refine wa_getR hX fX6_10 rfl m0 mj0 dX6_layer_12 ?_
    refine wa_getR hX fX6_50 rfl s0 sj0 dX6_layer_15 ?_
    refine wa_iload_n hX dX6_layer_18 rfl ?_
    refine wa_aald hX spr rfl hm (by decide) (spile m hm).1 dX6_layer_19 ?_
    refine wa_astore hX dX6_layer_20 (by decide) ?_
    refine wa_iload_n hX dX6_layer_22 rfl ?_
    rcases sw_in z 4 (by decide) with hsw | ⟨jsw, hsw1, hsw2⟩
    · skip
      refine wa_tabOut (tgt := 89) hX dX6_layer_23 hsw (by decide) ?_
      refine wa_bipush (v := -2) hX dX6_layer_89 (by decide) ?_
      exact hret _ _ _ _ _ ⟨(by rw [onL_t hm hla h4, swI_out (n := 4) (by decide) hsw]; rfl), rfl, rfl⟩ dX6_layer_91
    · subst hsw2
      rcases (show jsw = 0 ∨ jsw = 1 ∨ jsw = 2 ∨ jsw = 3 by omega) with rfl | rfl | rfl | rfl
      · skip
        refine wa_tabIn (off := 29) (tgt := 52) hX dX6_layer_23 (by decide) (by decide) (by decide) (by decide) ?_
        refine wa_aload hX dX6_layer_52 rfl ?_
        refine wa_iload_n hX dX6_layer_54 rfl ?_
        refine wa_vP hX (vX0_entriesIn I (spile m hm).2 (hV.1 m hm).1 (show la < 4 by omega)) bX0_entriesIn mX6_190 (by decide) (by decide) (ci := 0) ⟨by decide, rfl⟩ (spile m hm).2.1 rfl rfl (Nat.le_of_ble_eq_true rfl) dX6_layer_55 (fun r_55 q_55 => ?_)
        exact hret _ _ _ _ _ ⟨(by rw [onL_t hm hla h4, swI_in (show 0 < 4 by decide) (by decide)]; exact q_55), rfl, rfl⟩ dX6_layer_58
      · skip
        refine wa_tabIn (off := 36) (tgt := 59) hX dX6_layer_23 (by decide) (by decide) (by decide) (by decide) ?_
        refine wa_aload hX dX6_layer_59 rfl ?_
        refine wa_getR hX fX6_76 rfl (spile m hm).2.1 (spile m hm).2.2.2.1 dX6_layer_61 ?_
        refine wa_iload_n hX dX6_layer_64 rfl ?_
        refine wa_zald hX (spile m hm).2.2.2.2.2.2.2.1 rfl (show la < 4 by omega) (by decide) dX6_layer_65 ?_
        rw [(hV.1 m hm).1.2.1 la (by omega)]
        refine wa_if_eq (tgt := 73) hX dX6_layer_66 (by decide) (fun c_66 => ?_) (fun c_66 => ?_)
        · skip
          have c1 := bI_0.mp c_66
          refine wa_iconst (v := nI 0) hX dX6_layer_73 (by decide) ?_
          exact hret _ _ _ _ _ ⟨(by rw [onL_t hm hla h4, swI_in (show 1 < 4 by decide) (by decide)]; show nI 0 = bI (aO S m la); rw [c1]; rfl), rfl, rfl⟩ dX6_layer_74
        · skip
          have c1 := bI_n0.mp c_66
          refine wa_iconst (v := nI 1) hX dX6_layer_69 (by decide) ?_
          refine wa_goto (tgt := 74) hX dX6_layer_70 (by decide) ?_
          exact hret _ _ _ _ _ ⟨(by rw [onL_t hm hla h4, swI_in (show 1 < 4 by decide) (by decide)]; show nI 1 = bI (aO S m la); rw [c1]; rfl), rfl, rfl⟩ dX6_layer_74
      · skip
        refine wa_tabIn (off := 52) (tgt := 75) hX dX6_layer_23 (by decide) (by decide) (by decide) (by decide) ?_
        refine wa_aload hX dX6_layer_75 rfl ?_
        refine wa_iload_n hX dX6_layer_77 rfl ?_
        refine wa_vP hX (tX0_shadowedIn I (spile m hm).2 (hV.1 m hm).1 (show la < 4 by omega)) bX0_shadowedIn mX6_193 (by decide) (by decide) (ci := 0) ⟨by decide, rfl⟩ (spile m hm).2.1 rfl rfl (Nat.le_of_ble_eq_true rfl) dX6_layer_78 (fun r_78 q_78 => ?_)
        exact hret _ _ _ _ _ ⟨(by rw [onL_t hm hla h4, swI_in (show 2 < 4 by decide) (by decide)]; exact q_78), rfl, rfl⟩ dX6_layer_81
      · skip
        refine wa_tabIn (off := 59) (tgt := 82) hX dX6_layer_23 (by decide) (by decide) (by decide) (by decide) ?_
        refine wa_aload hX dX6_layer_82 rfl ?_
        refine wa_iload_n hX dX6_layer_84 rfl ?_
        refine wa_vP hX (vX0_nowhereIn I (spile m hm).2 (hV.1 m hm).1 (show la < 4 by omega)) bX0_nowhereIn mX6_196 (by decide) (by decide) (ci := 0) ⟨by decide, rfl⟩ (spile m hm).2.1 rfl rfl (Nat.le_of_ble_eq_true rfl) dX6_layer_85 (fun r_85 q_85 => ?_)
        exact hret _ _ _ _ _ ⟨(by rw [onL_t hm hla h4, swI_in (show 3 < 4 by decide) (by decide)]; exact q_85), rfl, rfl⟩ dX6_layer_88
  · skip
    have n_6 := bI_0.mp c_6
    refine wa_iconst (v := -1) hX dX6_layer_9 (by decide) ?_
    exact hret _ _ _ _ _ ⟨(by rw [onL_f n_6]), rfl, rfl⟩ dX6_layer_10

def folF (S : AS) (m k w : Nat) : Int32 := match w with
  | 0 => sthN (aV S m) k 16 0
  | 1 => retN (aV S m) k 17 0
  | 2 => if itr (aV S m) 16 k = 16 then -5 else nI (cyc (aV S m) (itr (aV S m) 16 k))
  | _ => -2
set_option maxHeartbeats 4000000 in
set_option maxRecDepth 100000 in
theorem tX6_follow {l : Launch} {D : va_G} {A : Nat → Prop} {N : Nat} {Sh : SM} {J : JM} (I : IM) {B : Nat} (hM : ML Sh J B) {S : AS} (hV : SV I (B + 1) S) (x y z : Int32) : CtP l D A yX6_follow cX6_follow 5 FieldType.int 3 N Sh I J [.ref B, .int x, .int y, .int z] (fun r => r = onB 6 x (fun m => onB 16 y (fun k => folF S m k (swI 3 z)) (-1)) (-1)) := by
  refine ct_I (l0 := [(0, .ref B), (1, .int x), (2, .int y), (3, .int z)]) (by decide +kernel) (Nat.le_of_ble_eq_true rfl) rfl (fun _ _ _ _ => rfl) ?_
  intro X hX hret _ _ _
  have hX : XK X RX6 cX6_follow 5 3 := hX
  obtain ⟨m0, ⟨mj0, mj1, mj2, mj3, mj4⟩, mdf, mS, mK, mPa, mPs, mR⟩ := id hM
  obtain ⟨s0, sj0, sj1, sA, sQ⟩ := id mS
  have spr := sA.r
  obtain ⟨-, spile⟩ := id sA
  refine wa_iload_n hX dX6_follow_0 rfl ?_
  refine wa_sP hX (tX6_isMap I x) bX6_isMap mX6_42 (by decide) (by decide) rfl rfl (Nat.le_of_ble_eq_true rfl) dX6_follow_1 (fun r_1 q_1 => ?_)
  subst q_1
  refine wa_if_eq (tgt := 14) hX dX6_follow_4 (by decide) (fun c_4 => ?_) (fun c_4 => ?_)
  · skip
    have n_4 := bI_0.mp c_4
    refine wa_iconst (v := -1) hX dX6_follow_14 (by decide) ?_
    exact hret _ _ _ _ _ ⟨(by rw [onB_out n_4]), rfl, rfl⟩ dX6_follow_15
  · skip
    obtain ⟨m, hm, em⟩ := inB_t (by decide) (bI_n0.mp c_4)
    subst em
    refine wa_iload_n hX dX6_follow_7 rfl ?_
    refine wa_sP hX (tX6_isKey I y) bX6_isKey mX6_87 (by decide) (by decide) rfl rfl (Nat.le_of_ble_eq_true rfl) dX6_follow_8 (fun r_8 q_8 => ?_)
    subst q_8
    refine wa_if_ne (tgt := 16) hX dX6_follow_11 (by decide) (fun c_11 => ?_) (fun c_11 => ?_)
    · skip
      obtain ⟨k, hk, ek⟩ := inB_t (by decide) (bI_n0.mp c_11)
      subst ek
      refine wa_aload_n hX dX6_follow_16 rfl ?_
      refine wa_getR hX fX6_10 rfl m0 mj0 dX6_follow_17 ?_
      refine wa_getR hX fX6_50 rfl s0 sj0 dX6_follow_20 ?_
      refine wa_iload_n hX dX6_follow_23 rfl ?_
      refine wa_aald hX spr rfl hm (by decide) (spile m hm).1 dX6_follow_24 ?_
      refine wa_getR hX fX6_98 rfl (spile m hm).2.1 (spile m hm).2.2.2.2.1 dX6_follow_25 ?_
      refine wa_astore hX dX6_follow_28 (by decide) ?_
      refine wa_iload_n hX dX6_follow_30 rfl ?_
      rcases sw_in z 3 (by decide) with hsw | ⟨jsw, hsw1, hsw2⟩
      · skip
        refine wa_tabOut (tgt := 77) hX dX6_follow_31 hsw (by decide) ?_
        refine wa_bipush (v := -2) hX dX6_follow_77 (by decide) ?_
        exact hret _ _ _ _ _ ⟨(by rw [onB_in hm (by decide), onB_in hk (by decide), swI_out (n := 3) (by decide) hsw]; rfl), rfl, rfl⟩ dX6_follow_79
      · subst hsw2
        rcases (show jsw = 0 ∨ jsw = 1 ∨ jsw = 2 by omega) with rfl | rfl | rfl
        · skip
          refine wa_tabIn (off := 25) (tgt := 56) hX dX6_follow_31 (by decide) (by decide) (by decide) (by decide) ?_
          refine wa_aload hX dX6_follow_56 rfl ?_
          refine wa_iload_n hX dX6_follow_58 rfl ?_
          refine wa_sP hX (tX2_stepsToHole I (spile m hm).2.2.2.2.2.2.2.2 (hV.1 m hm).rv (show k ≤ 16 by omega)) bX2_stepsToHole mX6_199 (by decide) (by decide) rfl rfl (Nat.le_of_ble_eq_true rfl) dX6_follow_59 (fun r_59 q_59 => ?_)
          exact hret _ _ _ _ _ ⟨(by rw [onB_in hm (by decide), onB_in hk (by decide), swI_in (show 0 < 3 by decide) (by decide)]; exact q_59), rfl, rfl⟩ dX6_follow_62
        · skip
          refine wa_tabIn (off := 32) (tgt := 63) hX dX6_follow_31 (by decide) (by decide) (by decide) (by decide) ?_
          refine wa_aload hX dX6_follow_63 rfl ?_
          refine wa_iload_n hX dX6_follow_65 rfl ?_
          refine wa_sP hX (tX2_stepsToSecondMeeting I (spile m hm).2.2.2.2.2.2.2.2 (hV.1 m hm).rv (show k ≤ 16 by omega)) bX2_stepsToSecondMeeting mX6_203 (by decide) (by decide) rfl rfl (Nat.le_of_ble_eq_true rfl) dX6_follow_66 (fun r_66 q_66 => ?_)
          exact hret _ _ _ _ _ ⟨(by rw [onB_in hm (by decide), onB_in hk (by decide), swI_in (show 1 < 3 by decide) (by decide)]; exact q_66), rfl, rfl⟩ dX6_follow_69
        · skip
          refine wa_tabIn (off := 39) (tgt := 70) hX dX6_follow_31 (by decide) (by decide) (by decide) (by decide) ?_
          refine wa_aload hX dX6_follow_70 rfl ?_
          refine wa_iload_n hX dX6_follow_72 rfl ?_
          refine wa_sP hX (tX2_cycleMet I (spile m hm).2.2.2.2.2.2.2.2 (hV.1 m hm).rv (show k ≤ 16 by omega)) bX2_cycleMet mX6_206 (by decide) (by decide) rfl rfl (Nat.le_of_ble_eq_true rfl) dX6_follow_73 (fun r_73 q_73 => ?_)
          exact hret _ _ _ _ _ ⟨(by rw [onB_in hm (by decide), onB_in hk (by decide), swI_in (show 2 < 3 by decide) (by decide)]; exact q_73), rfl, rfl⟩ dX6_follow_76
    · skip
      have n_11 := bI_0.mp c_11
      refine wa_iconst (v := -1) hX dX6_follow_14 (by decide) ?_
      exact hret _ _ _ _ _ ⟨(by rw [onB_in hm (by decide), onB_out n_11]), rfl, rfl⟩ dX6_follow_15

set_option maxHeartbeats 4000000 in
set_option maxRecDepth 100000 in
theorem tX6_after {l : Launch} {D : va_G} {A : Nat → Prop} {N : Nat} {Sh : SM} {J : JM} (I : IM) {B : Nat} (hM : ML Sh J B) {S : AS} (hV : SV I (B + 1) S) (x y z : Int32) : CtP l D A yX6_after cX6_after 4 FieldType.int 3 N Sh I J [.ref B, .int x, .int y, .int z] (fun r => r = onB 6 x (fun m => onB 16 y (fun k => onB 1000001 z (fun n => orN (nI (itr (aV S m) n k))) (-2)) (-1)) (-1)) := by
  refine ct_I (l0 := [(0, .ref B), (1, .int x), (2, .int y), (3, .int z)]) (by decide +kernel) (Nat.le_of_ble_eq_true rfl) rfl (fun _ _ _ _ => rfl) ?_
  intro X hX hret _ _ _
  have hX : XK X RX6 cX6_after 4 3 := hX
  obtain ⟨m0, ⟨mj0, mj1, mj2, mj3, mj4⟩, mdf, mS, mK, mPa, mPs, mR⟩ := id hM
  obtain ⟨s0, sj0, sj1, sA, sQ⟩ := id mS
  have spr := sA.r
  obtain ⟨-, spile⟩ := id sA
  refine wa_iload_n hX dX6_after_0 rfl ?_
  refine wa_sP hX (tX6_isMap I x) bX6_isMap mX6_42 (by decide) (by decide) rfl rfl (Nat.le_of_ble_eq_true rfl) dX6_after_1 (fun r_1 q_1 => ?_)
  subst q_1
  refine wa_if_eq (tgt := 14) hX dX6_after_4 (by decide) (fun c_4 => ?_) (fun c_4 => ?_)
  · skip
    have n_4 := bI_0.mp c_4
    refine wa_iconst (v := -1) hX dX6_after_14 (by decide) ?_
    exact hret _ _ _ _ _ ⟨(by rw [onB_out n_4]), rfl, rfl⟩ dX6_after_15
  · skip
    obtain ⟨m, hm, em⟩ := inB_t (by decide) (bI_n0.mp c_4)
    subst em
    refine wa_iload_n hX dX6_after_7 rfl ?_
    refine wa_sP hX (tX6_isKey I y) bX6_isKey mX6_87 (by decide) (by decide) rfl rfl (Nat.le_of_ble_eq_true rfl) dX6_after_8 (fun r_8 q_8 => ?_)
    subst q_8
    refine wa_if_ne (tgt := 16) hX dX6_after_11 (by decide) (fun c_11 => ?_) (fun c_11 => ?_)
    · skip
      obtain ⟨k, hk, ek⟩ := inB_t (by decide) (bI_n0.mp c_11)
      subst ek
      refine wa_iload_n hX dX6_after_16 rfl ?_
      refine wa_if_lt (tgt := 26) hX dX6_after_17 (by decide) (fun c_17 => ?_) (fun c_17 => ?_)
      · skip
        refine wa_bipush (v := -2) hX dX6_after_26 (by decide) ?_
        exact hret _ _ _ _ _ ⟨(by rw [onB_in hm (by decide), onB_in hk (by decide)]; exact (onB_out (by simp [inB, c_17])).symm), rfl, rfl⟩ dX6_after_28
      · skip
        refine wa_iload_n hX dX6_after_20 rfl ?_
        refine wa_ldc (v := nI 1000000) hX kX6_209 dX6_after_21 ?_
        refine wa_icmp_le (tgt := 29) hX dX6_after_23 (by decide) (fun c_23 => ?_) (fun c_23 => ?_)
        · skip
          obtain ⟨n0, hn0, e0⟩ : ∃ n0, n0 < 1000001 ∧ z = nI n0 := by
            obtain ⟨j, hj, e⟩ := nI_of2 (n := 1000000) (by decide) c_17 c_23
            exact ⟨j, by omega, e⟩
          subst e0
          refine wa_aload_n hX dX6_after_29 rfl ?_
          refine wa_getR hX fX6_10 rfl m0 mj0 dX6_after_30 ?_
          refine wa_getR hX fX6_50 rfl s0 sj0 dX6_after_33 ?_
          refine wa_iload_n hX dX6_after_36 rfl ?_
          refine wa_aald hX spr rfl hm (by decide) (spile m hm).1 dX6_after_37 ?_
          refine wa_getR hX fX6_98 rfl (spile m hm).2.1 (spile m hm).2.2.2.2.1 dX6_after_38 ?_
          refine wa_iload_n hX dX6_after_41 rfl ?_
          refine wa_iload_n hX dX6_after_42 rfl ?_
          refine wa_sP hX (tX2_walkFar I (spile m hm).2.2.2.2.2.2.2.2 (hV.1 m hm).rv (show k ≤ 16 by omega) (show n0 < 2 ^ 31 by omega)) bX2_walkFar mX6_210 (by decide) (by decide) rfl rfl (Nat.le_of_ble_eq_true rfl) dX6_after_43 (fun r_43 q_43 => ?_)
          subst q_43
          refine wa_sP hX (tX6_orNone I (nI (itr (aV S m) n0 k))) bX6_orNone mX6_157 (by decide) (by decide) rfl rfl (Nat.le_of_ble_eq_true rfl) dX6_after_46 (fun r_46 q_46 => ?_)
          exact hret _ _ _ _ _ ⟨(by rw [onB_in hm (by decide), onB_in hk (by decide), onB_in hn0 (by decide)]; exact q_46), rfl, rfl⟩ dX6_after_49
        · skip
          refine wa_bipush (v := -2) hX dX6_after_26 (by decide) ?_
          exact hret _ _ _ _ _ ⟨(by rw [onB_in hm (by decide), onB_in hk (by decide)]; refine (onB_out ?_).symm; exact Bool.eq_false_iff.mpr (fun h => by obtain ⟨j, hj, e⟩ := inB_t (by decide) h; rw [e] at c_23; exact absurd (nI_le (show j ≤ 1000000 by omega) (by decide)) c_23)), rfl, rfl⟩ dX6_after_28
    · skip
      have n_11 := bI_0.mp c_11
      refine wa_iconst (v := -1) hX dX6_after_14 (by decide) ?_
      exact hret _ _ _ _ _ ⟨(by rw [onB_in hm (by decide), onB_out n_11]), rfl, rfl⟩ dX6_after_15

set_option maxHeartbeats 4000000 in
set_option maxRecDepth 100000 in
theorem tX6_differ {l : Launch} {D : va_G} {A : Nat → Prop} {N : Nat} {Sh : SM} {J : JM} (I : IM) {B : Nat} (hM : ML Sh J B) {S : AS} (hV : SV I (B + 1) S) (x y : Int32) : CtP l D A yX6_differ cX6_differ 3 FieldType.int 1 N Sh I J [.ref B, .int x, .int y] (fun r => r = onB 6 x (fun m => onB 6 y (fun o1 => diffV (aV S m) (aV S o1)) (-1)) (-1)) := by
  refine ct_I (l0 := [(0, .ref B), (1, .int x), (2, .int y)]) (by decide +kernel) (Nat.le_of_ble_eq_true rfl) rfl (fun _ _ _ _ => rfl) ?_
  intro X hX hret _ _ _
  have hX : XK X RX6 cX6_differ 3 1 := hX
  obtain ⟨m0, ⟨mj0, mj1, mj2, mj3, mj4⟩, mdf, mS, mK, mPa, mPs, mR⟩ := id hM
  obtain ⟨s0, sj0, sj1, sA, sQ⟩ := id mS
  have spr := sA.r
  obtain ⟨-, spile⟩ := id sA
  refine wa_iload_n hX dX6_differ_0 rfl ?_
  refine wa_sP hX (tX6_isMap I x) bX6_isMap mX6_42 (by decide) (by decide) rfl rfl (Nat.le_of_ble_eq_true rfl) dX6_differ_1 (fun r_1 q_1 => ?_)
  subst q_1
  refine wa_if_eq (tgt := 14) hX dX6_differ_4 (by decide) (fun c_4 => ?_) (fun c_4 => ?_)
  · skip
    have n_4 := bI_0.mp c_4
    refine wa_iconst (v := -1) hX dX6_differ_14 (by decide) ?_
    exact hret _ _ _ _ _ ⟨(by rw [onB_out n_4]), rfl, rfl⟩ dX6_differ_15
  · skip
    obtain ⟨m, hm, em⟩ := inB_t (by decide) (bI_n0.mp c_4)
    subst em
    refine wa_iload_n hX dX6_differ_7 rfl ?_
    refine wa_sP hX (tX6_isMap I y) bX6_isMap mX6_42 (by decide) (by decide) rfl rfl (Nat.le_of_ble_eq_true rfl) dX6_differ_8 (fun r_8 q_8 => ?_)
    subst q_8
    refine wa_if_ne (tgt := 16) hX dX6_differ_11 (by decide) (fun c_11 => ?_) (fun c_11 => ?_)
    · skip
      obtain ⟨o1, ho1, eo1⟩ := inB_t (by decide) (bI_n0.mp c_11)
      subst eo1
      refine wa_aload_n hX dX6_differ_16 rfl ?_
      refine wa_getR hX fX6_10 rfl m0 mj0 dX6_differ_17 ?_
      refine wa_getR hX fX6_50 rfl s0 sj0 dX6_differ_20 ?_
      refine wa_iload_n hX dX6_differ_23 rfl ?_
      refine wa_aald hX spr rfl hm (by decide) (spile m hm).1 dX6_differ_24 ?_
      refine wa_getR hX fX6_98 rfl (spile m hm).2.1 (spile m hm).2.2.2.2.1 dX6_differ_25 ?_
      refine wa_aload_n hX dX6_differ_28 rfl ?_
      refine wa_getR hX fX6_10 rfl m0 mj0 dX6_differ_29 ?_
      refine wa_getR hX fX6_50 rfl s0 sj0 dX6_differ_32 ?_
      refine wa_iload_n hX dX6_differ_35 rfl ?_
      refine wa_aald hX spr rfl ho1 (by decide) (spile o1 ho1).1 dX6_differ_36 ?_
      refine wa_getR hX fX6_98 rfl (spile o1 ho1).2.1 (spile o1 ho1).2.2.2.2.1 dX6_differ_37 ?_
      refine wa_sP hX (tX2_difference I (spile m hm).2.2.2.2.2.2.2.2 (spile o1 ho1).2.2.2.2.2.2.2.2) bX2_difference mX6_214 (by decide) (by decide) rfl rfl (Nat.le_of_ble_eq_true rfl) dX6_differ_40 (fun r_40 q_40 => ?_)
      rw [rv_diff (hV.1 m hm).rv (hV.1 o1 ho1).rv] at q_40
      exact hret _ _ _ _ _ ⟨(by rw [onB_in hm (by decide), onB_in ho1 (by decide)]; exact q_40), rfl, rfl⟩ dX6_differ_43
    · skip
      have n_11 := bI_0.mp c_11
      refine wa_iconst (v := -1) hX dX6_differ_14 (by decide) ?_
      exact hret _ _ _ _ _ ⟨(by rw [onB_in hm (by decide), onB_out n_11]), rfl, rfl⟩ dX6_differ_15

def mapF (S : AS) (m w : Nat) : Int32 := match w with
  | 0 => nI (aH S m)
  | 1 => nI (cnt (aO S m) (aH S m))
  | 2 => bset (fun k => decide (aV S m k = 16)) 16
  | 3 => imgS (aV S m) 16
  | 4 => bI (decide (bcI (imgS (aV S m) 16) = nI 16 - bcI (bset (fun k => decide (aV S m k = 16)) 16)))
  | 5 => bset (fun k => decide (aV S m k = k)) 16
  | 6 => nI (sumN (shV (aH S m) (aO S m) (aE S m)) (aH S m))
  | 7 => bset (fun k => decide (0 < cyc (aV S m) k)) 16
  | 8 => fold (fun k x => maxI x (nI (cyc (aV S m) k))) (nI 0) 16
  | _ => -2
theorem rv_hole {f : Nat → Int32} {v : Nat → Nat} (hv : RV f v) : bset (fun k => decide (f k = nI 16)) 16 = bset (fun k => decide (v k = 16)) 16 := by
  apply bset_congr
  intro k hk
  rw [(hv k hk).1, e17 (by have := (hv k hk).2; omega) 16 (by decide)]
theorem rv_fix {f : Nat → Int32} {v : Nat → Nat} (hv : RV f v) : bset (fun k => decide (f k = nI k)) 16 = bset (fun k => decide (v k = k)) 16 := by
  apply bset_congr
  intro k hk
  rw [(hv k hk).1, e17 (by have := (hv k hk).2; omega) k (by omega)]
set_option maxHeartbeats 4000000 in
set_option maxRecDepth 100000 in
theorem tX6_map {l : Launch} {D : va_G} {A : Nat → Prop} {N : Nat} {Sh : SM} {J : JM} (I : IM) {B : Nat} (hM : ML Sh J B) {S : AS} (hV : SV I (B + 1) S) (x y : Int32) : CtP l D A yX6_map cX6_map 4 FieldType.int 3 N Sh I J [.ref B, .int x, .int y] (fun r => r = onB 6 x (fun m => mapF S m (swI 9 y)) (-1)) := by
  refine ct_I (l0 := [(0, .ref B), (1, .int x), (2, .int y)]) (by decide +kernel) (Nat.le_of_ble_eq_true rfl) rfl (fun _ _ _ _ => rfl) ?_
  intro X hX hret _ _ _
  have hX : XK X RX6 cX6_map 4 3 := hX
  obtain ⟨m0, ⟨mj0, mj1, mj2, mj3, mj4⟩, mdf, mS, mK, mPa, mPs, mR⟩ := id hM
  obtain ⟨s0, sj0, sj1, sA, sQ⟩ := id mS
  have spr := sA.r
  obtain ⟨-, spile⟩ := id sA
  refine wa_iload_n hX dX6_map_0 rfl ?_
  refine wa_sP hX (tX6_isMap I x) bX6_isMap mX6_42 (by decide) (by decide) rfl rfl (Nat.le_of_ble_eq_true rfl) dX6_map_1 (fun r_1 q_1 => ?_)
  subst q_1
  refine wa_if_ne (tgt := 9) hX dX6_map_4 (by decide) (fun c_4 => ?_) (fun c_4 => ?_)
  · skip
    obtain ⟨m, hm, em⟩ := inB_t (by decide) (bI_n0.mp c_4)
    subst em
    refine wa_aload_n hX dX6_map_9 rfl ?_
    refine wa_getR hX fX6_10 rfl m0 mj0 dX6_map_10 ?_
    refine wa_getR hX fX6_50 rfl s0 sj0 dX6_map_13 ?_
    refine wa_iload_n hX dX6_map_16 rfl ?_
    refine wa_aald hX spr rfl hm (by decide) (spile m hm).1 dX6_map_17 ?_
    refine wa_astore_n hX dX6_map_18 (by decide) ?_
    refine wa_iload_n hX dX6_map_19 rfl ?_
    rcases sw_in y 9 (by decide) with hsw | ⟨jsw, hsw1, hsw2⟩
    · skip
      refine wa_tabOut (tgt := 143) hX dX6_map_20 hsw (by decide) ?_
      refine wa_bipush (v := -2) hX dX6_map_143 (by decide) ?_
      exact hret _ _ _ _ _ ⟨(by rw [onB_in hm (by decide), swI_out (n := 9) (by decide) hsw]; rfl), rfl, rfl⟩ dX6_map_145
    · subst hsw2
      rcases (show jsw = 0 ∨ jsw = 1 ∨ jsw = 2 ∨ jsw = 3 ∨ jsw = 4 ∨ jsw = 5 ∨ jsw = 6 ∨ jsw = 7 ∨ jsw = 8 by omega) with rfl | rfl | rfl | rfl | rfl | rfl | rfl | rfl | rfl
      · skip
        refine wa_tabIn (off := 52) (tgt := 72) hX dX6_map_20 (by decide) (by decide) (by decide) (by decide) ?_
        refine wa_aload_n hX dX6_map_72 rfl ?_
        refine wa_getI hX fX6_54 rfl (spile m hm).2.1 dX6_map_73 ?_
        exact hret _ _ _ _ _ ⟨(by rw [onB_in hm (by decide), swI_in (show 0 < 9 by decide) (by decide)]; exact (hV.1 m hm).1.1.2), rfl, rfl⟩ dX6_map_76
      · skip
        refine wa_tabIn (off := 57) (tgt := 77) hX dX6_map_20 (by decide) (by decide) (by decide) (by decide) ?_
        refine wa_aload_n hX dX6_map_77 rfl ?_
        refine wa_vP hX (tX0_layersOn I (spile m hm).2 (hV.1 m hm).1) bX0_layersOn mX6_163 (by decide) (by decide) (ci := 0) ⟨by decide, rfl⟩ (spile m hm).2.1 rfl rfl (Nat.le_of_ble_eq_true rfl) dX6_map_78 (fun r_78 q_78 => ?_)
        exact hret _ _ _ _ _ ⟨(by rw [onB_in hm (by decide), swI_in (show 1 < 9 by decide) (by decide)]; exact q_78), rfl, rfl⟩ dX6_map_81
      · skip
        refine wa_tabIn (off := 62) (tgt := 82) hX dX6_map_20 (by decide) (by decide) (by decide) (by decide) ?_
        refine wa_aload_n hX dX6_map_82 rfl ?_
        refine wa_getR hX fX6_98 rfl (spile m hm).2.1 (spile m hm).2.2.2.2.1 dX6_map_83 ?_
        refine wa_sP hX (tX2_holes I (spile m hm).2.2.2.2.2.2.2.2) bX2_holes mX6_166 (by decide) (by decide) rfl rfl (Nat.le_of_ble_eq_true rfl) dX6_map_86 (fun r_86 q_86 => ?_)
        rw [rv_hole (hV.1 m hm).rv] at q_86
        exact hret _ _ _ _ _ ⟨(by rw [onB_in hm (by decide), swI_in (show 2 < 9 by decide) (by decide)]; exact q_86), rfl, rfl⟩ dX6_map_89
      · skip
        refine wa_tabIn (off := 70) (tgt := 90) hX dX6_map_20 (by decide) (by decide) (by decide) (by decide) ?_
        refine wa_aload_n hX dX6_map_90 rfl ?_
        refine wa_getR hX fX6_98 rfl (spile m hm).2.1 (spile m hm).2.2.2.2.1 dX6_map_91 ?_
        refine wa_sP hX (tX2_image I (spile m hm).2.2.2.2.2.2.2.2 (hV.1 m hm).rv) bX2_image mX6_171 (by decide) (by decide) rfl rfl (Nat.le_of_ble_eq_true rfl) dX6_map_94 (fun r_94 q_94 => ?_)
        exact hret _ _ _ _ _ ⟨(by rw [onB_in hm (by decide), swI_in (show 3 < 9 by decide) (by decide)]; exact q_94), rfl, rfl⟩ dX6_map_97
      · skip
        refine wa_tabIn (off := 78) (tgt := 98) hX dX6_map_20 (by decide) (by decide) (by decide) (by decide) ?_
        refine wa_aload_n hX dX6_map_98 rfl ?_
        refine wa_getR hX fX6_98 rfl (spile m hm).2.1 (spile m hm).2.2.2.2.1 dX6_map_99 ?_
        refine wa_sP hX (tX2_isOneToOne I (spile m hm).2.2.2.2.2.2.2.2 (hV.1 m hm).rv) bX2_isOneToOne mX6_174 (by decide) (by decide) rfl rfl (Nat.le_of_ble_eq_true rfl) dX6_map_102 (fun r_102 q_102 => ?_)
        rw [rv_hole (hV.1 m hm).rv] at q_102
        subst q_102
        refine wa_if_eq (tgt := 112) hX dX6_map_105 (by decide) (fun c_105 => ?_) (fun c_105 => ?_)
        · skip
          have c1 := bI_0.mp c_105
          refine wa_iconst (v := nI 0) hX dX6_map_112 (by decide) ?_
          exact hret _ _ _ _ _ ⟨(by rw [onB_in hm (by decide), swI_in (show 4 < 9 by decide) (by decide)]; exact (congrArg bI c1).symm), rfl, rfl⟩ dX6_map_113
        · skip
          have c1 := bI_n0.mp c_105
          refine wa_iconst (v := nI 1) hX dX6_map_108 (by decide) ?_
          refine wa_goto (tgt := 113) hX dX6_map_109 (by decide) ?_
          exact hret _ _ _ _ _ ⟨(by rw [onB_in hm (by decide), swI_in (show 4 < 9 by decide) (by decide)]; exact (congrArg bI c1).symm), rfl, rfl⟩ dX6_map_113
      · skip
        refine wa_tabIn (off := 94) (tgt := 114) hX dX6_map_20 (by decide) (by decide) (by decide) (by decide) ?_
        refine wa_aload_n hX dX6_map_114 rfl ?_
        refine wa_getR hX fX6_98 rfl (spile m hm).2.1 (spile m hm).2.2.2.2.1 dX6_map_115 ?_
        refine wa_sP hX (tX2_fixed I (spile m hm).2.2.2.2.2.2.2.2) bX2_fixed mX6_178 (by decide) (by decide) rfl rfl (Nat.le_of_ble_eq_true rfl) dX6_map_118 (fun r_118 q_118 => ?_)
        rw [rv_fix (hV.1 m hm).rv] at q_118
        exact hret _ _ _ _ _ ⟨(by rw [onB_in hm (by decide), swI_in (show 5 < 9 by decide) (by decide)]; exact q_118), rfl, rfl⟩ dX6_map_121
      · skip
        refine wa_tabIn (off := 102) (tgt := 122) hX dX6_map_20 (by decide) (by decide) (by decide) (by decide) ?_
        refine wa_aload_n hX dX6_map_122 rfl ?_
        refine wa_vP hX (tX0_shadowed I (spile m hm).2 (hV.1 m hm).1) bX0_shadowed mX6_181 (by decide) (by decide) (ci := 0) ⟨by decide, rfl⟩ (spile m hm).2.1 rfl rfl (Nat.le_of_ble_eq_true rfl) dX6_map_123 (fun r_123 q_123 => ?_)
        exact hret _ _ _ _ _ ⟨(by rw [onB_in hm (by decide), swI_in (show 6 < 9 by decide) (by decide)]; exact q_123), rfl, rfl⟩ dX6_map_126
      · skip
        refine wa_tabIn (off := 107) (tgt := 127) hX dX6_map_20 (by decide) (by decide) (by decide) (by decide) ?_
        refine wa_aload_n hX dX6_map_127 rfl ?_
        refine wa_getR hX fX6_98 rfl (spile m hm).2.1 (spile m hm).2.2.2.2.1 dX6_map_128 ?_
        refine wa_sP hX (tX2_cyclic I (spile m hm).2.2.2.2.2.2.2.2 (hV.1 m hm).rv) bX2_cyclic mX6_184 (by decide) (by decide) rfl rfl (Nat.le_of_ble_eq_true rfl) dX6_map_131 (fun r_131 q_131 => ?_)
        exact hret _ _ _ _ _ ⟨(by rw [onB_in hm (by decide), swI_in (show 7 < 9 by decide) (by decide)]; exact q_131), rfl, rfl⟩ dX6_map_134
      · skip
        refine wa_tabIn (off := 115) (tgt := 135) hX dX6_map_20 (by decide) (by decide) (by decide) (by decide) ?_
        refine wa_aload_n hX dX6_map_135 rfl ?_
        refine wa_getR hX fX6_98 rfl (spile m hm).2.1 (spile m hm).2.2.2.2.1 dX6_map_136 ?_
        refine wa_sP hX (tX2_longestCycle I (spile m hm).2.2.2.2.2.2.2.2 (hV.1 m hm).rv) bX2_longestCycle mX6_187 (by decide) (by decide) rfl rfl (Nat.le_of_ble_eq_true rfl) dX6_map_139 (fun r_139 q_139 => ?_)
        exact hret _ _ _ _ _ ⟨(by rw [onB_in hm (by decide), swI_in (show 8 < 9 by decide) (by decide)]; exact q_139), rfl, rfl⟩ dX6_map_142
  · skip
    have n_4 := bI_0.mp c_4
    refine wa_iconst (v := -1) hX dX6_map_7 (by decide) ?_
    exact hret _ _ _ _ _ ⟨(by rw [onB_out n_4]), rfl, rfl⟩ dX6_map_8

