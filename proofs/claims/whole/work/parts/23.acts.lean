/-! PileMaps: the acts without a text -/
def onA {α : Type} (n : Nat) (x : Int32) (f : Nat → α) (c : α) : α := if inB n x = true then f (tn x) else c
theorem onA_in {α : Type} {n m : Nat} (hm : m < n) (hn : n < 2 ^ 31) {f : Nat → α} {c : α} : onA n (nI m) f c = f m := by
  unfold onA
  rw [inB_nI (by omega) hn, decide_eq_true hm, if_pos rfl, tn_nI (by omega)]
theorem onA_out {α : Type} {n : Nat} {x : Int32} (h : inB n x = false) {f : Nat → α} {c : α} : onA n x f c = c := by
  unfold onA
  rw [h]
  rfl
def onAL {α : Type} (S : AS) (x y : Int32) (f : Nat → Nat → α) (c : α) : α := onA 6 x (fun m => onA (aH S m) y (fun l => f m l) c) c
theorem onAL_f {α : Type} {S : AS} {x y : Int32} (h : layB S x y = false) {f : Nat → Nat → α} {c : α} : onAL S x y f c = c := by
  unfold onAL
  cases e : inB 6 x with
  | false => exact onA_out e
  | true =>
    obtain ⟨m, hm, e2⟩ := inB_t (by decide) e
    subst e2
    rw [onA_in hm (by decide)]
    unfold layB at h
    rw [e, tn_nI (by omega), Bool.true_and] at h
    exact onA_out h
theorem onAL_t {α : Type} {S : AS} {m l : Nat} (hm : m < 6) (hl : l < aH S m) (h4 : aH S m ≤ 4) {f : Nat → Nat → α} {c : α} : onAL S (nI m) (nI l) f c = f m l := by
  unfold onAL
  rw [onA_in hm (by decide), onA_in hl (by omega)]
/-- what an act leaves: its answer and the state -/
def AC (Sh : SM) (I : IM) (J : JM) (B : Nat) (p : Int32 × FS) (r : Int32) (I' : IM) (J' : JM) : Prop := r = p.1 ∧ GV Sh I' J' B p.2 ∧ JE (B + 59) J J' ∧ Fr B 367 I I'
theorem AC.no {Sh : SM} {I : IM} {J : JM} {B : Nat} {F : FS} {c r : Int32} {p : Int32 × FS} (hG : GV Sh I J B F) (hp : p = (c, F)) (hr : r = c) : AC Sh I J B p r I J := by
  subst hp
  exact ⟨hr, hG, JE.rf, Fr.rf⟩
def wN (F : FS) (S : AS) : FS := (S, F.2)
def sM (S : AS) (m hg : Nat) (on : Nat → Bool) (en : Nat → Nat → Nat) : AS := ((upF (aH S) m hg, upF (aO S) m on, upF (aE S) m en), S.2)
def sK (S : AS) (hid sus ask : Nat) (kn : Nat → Nat → Nat) : AS := (S.1, S.2.1, (hid, sus, ask, kn))
def sR (S : AS) (r : Nat) : AS := (S.1, r, S.2.2)
theorem SV.pile {I I' : IM} {b m hg : Nat} {S : AS} {on : Nat → Bool} {en : Nat → Nat → Nat} (h : SV I b S) (hm : m < 6) (hp : PS I' (b + 2 + 8 * m) hg on en) (hF : Fr (b + 2 + 8 * m) 8 I I') : SV I' b (sM S m hg on en) := by
  refine ⟨fun j hj => ?_, h.2.1.keep (fun q h1 h2 => hF.n (by omega)), by rw [hF.n (c := b) (by omega)]; exact h.2.2⟩
  by_cases e : j = m
  · subst e
    show PS I' _ (upF (aH S) j hg j) (upF (aO S) j on j) (upF (aE S) j en j)
    simp only [upF, ↓reduceIte]
    exact hp
  · show PS I' _ (upF (aH S) m hg j) (upF (aO S) m on j) (upF (aE S) m en j)
    simp only [upF, if_neg e]
    exact (h.1 j hj).keep (fun q h1 h2 => hF.n (by omega))
theorem SV.sec {I I' : IM} {b hid sus ask : Nat} {S : AS} {kn : Nat → Nat → Nat} (h : SV I b S) (hp : KV I' (b + 50) hid sus ask kn) (hF : Fr (b + 50) 8 I I') : SV I' b (sK S hid sus ask kn) :=
  ⟨fun j hj => (h.1 j hj).keep (fun q h1 h2 => hF.n (by omega)), hp, by rw [hF.n (c := b) (by omega)]; exact h.2.2⟩
theorem GV.now {Sh : SM} {I I' : IM} {J : JM} {B : Nat} {F : FS} {S : AS} (h : GV Sh I J B F) (hS : SV I' (B + 1) S) (hF : Fr (B + 1) 58 I I') : GV Sh I' J B (wN F S) := by
  obtain ⟨hM, hV, ⟨hc1, hc2⟩, ⟨σ, hσ, hp⟩, hkk, hT⟩ := h
  exact ⟨hM, hS, ⟨hc1, by rw [hF.n (c := B) (by omega)]; exact hc2⟩, ⟨σ, hσ, fun i hi => by
    have h7 := hσ.1 i (by have : gC (wN F S) = gC F := rfl; omega)
    exact (hp i hi).keep (fun q h1 h2 => hF.n (by omega))⟩, ⟨by rw [hF.n (c := B) (by omega)]; exact hkk.1, fun hh => (hkk.2 hh).keep (fun q h1 h2 => hF.n (by omega))⟩, hT.keep (hF.n (by omega)) (hF.n (by omega))⟩
def chgV (v w : Nat → Nat) : Nat := cnt (fun k => !decide (v k = w k)) 16
theorem chg_rv {f : Nat → Int32} {v w : Nat → Nat} (hv : RV f v) (hw : ∀ k, k < 16 → w k ≤ 16) : cnt (fun k => !decide (f k = nI (w k))) 16 = chgV v w := by
  apply cnt_congr
  intro k hk
  rw [(hv k hk).1, e17 (by have := (hv k hk).2; omega) _ (by have := hw k hk; omega)]
theorem bI_eq {a b : Bool} : bI a = bI b ↔ a = b := by cases a <;> cases b <;> decide
def popF (F : FS) (x : Int32) : Int32 × FS := onA 6 x (fun m => if aH (gN F) m = 0 then (-5, F) else (nI (enV (aE (gN F) m) (aH (gN F) m - 1)), wN (recF F) (sM (gN F) m (aH (gN F) m - 1) (aO (gN F) m) (aE (gN F) m)))) (-1, F)
set_option maxHeartbeats 4000000 in
set_option maxRecDepth 100000 in
theorem tX6_pop {l : Launch} {D : va_G} {A : Nat → Prop} {N : Nat} {Sh : SM} {J : JM} (I : IM) {B : Nat} {F : FS} (hG : GV Sh I J B F) (x : Int32) : CtI l D A yX6_pop cX6_pop 3 FieldType.int 5 N Sh I J [.ref B, .int x] (fun r I' J' => AC Sh I J B (popF F x) r I' J') := by
  refine ct_I (l0 := [(0, .ref B), (1, .int x)]) (by decide +kernel) (Nat.le_of_ble_eq_true rfl) rfl (fun _ _ _ _ => rfl) ?_
  intro X hX hret _ _ _
  have hX : XK X RX6 cX6_pop 3 5 := hX
  obtain ⟨hM, hV, ⟨hc1, hc2⟩, hpast, hkk, hT⟩ := id hG
  obtain ⟨m0, ⟨mj0, mj1, mj2, mj3, mj4⟩, mdf, mS, mK, mPa, mPs, mR⟩ := id hM
  obtain ⟨s0, sj0, sj1, sA, sQ⟩ := id mS
  have spr := sA.r
  obtain ⟨-, spile⟩ := id sA
  refine wa_iload_n hX dX6_pop_0 rfl ?_
  refine wa_sP hX (tX6_isMap I x) bX6_isMap mX6_42 (by decide) (by decide) rfl rfl (Nat.le_of_ble_eq_true rfl) dX6_pop_1 (fun r_1 q_1 => ?_)
  subst q_1
  refine wa_if_ne (tgt := 9) hX dX6_pop_4 (by decide) (fun c_4 => ?_) (fun c_4 => ?_)
  · skip
    obtain ⟨m, hm, em⟩ := inB_t (by decide) (bI_n0.mp c_4)
    subst em
    refine wa_aload_n hX dX6_pop_9 rfl ?_
    refine wa_getR hX fX6_10 rfl m0 mj0 dX6_pop_10 ?_
    refine wa_getR hX fX6_50 rfl s0 sj0 dX6_pop_13 ?_
    refine wa_iload_n hX dX6_pop_16 rfl ?_
    refine wa_aald hX spr rfl hm (by decide) (spile m hm).1 dX6_pop_17 ?_
    refine wa_astore_n hX dX6_pop_18 (by decide) ?_
    refine wa_aload_n hX dX6_pop_19 rfl ?_
    refine wa_getI hX fX6_54 rfl (spile m hm).2.1 dX6_pop_20 ?_
    rw [(hV.1 m hm).1.1.2]
    refine wa_if_gt (tgt := 29) hX dX6_pop_23 (by decide) (fun c_23 => ?_) (fun c_23 => ?_)
    · skip
      have c1 : aH (gN F) m ≠ 0 := fun e => by rw [e] at c_23; exact absurd c_23 (by decide)
      refine wa_aload_n hX dX6_pop_29 rfl ?_
      refine wa_callVV hX (tX6_record I hG) bX6_record mX6_59 (by decide) (by decide) (ci := 5) ⟨by decide, rfl⟩ m0 rfl rfl (Nat.le_of_ble_eq_true rfl) dX6_pop_30 (fun I_30 J_30 q_30 => ?_)
      obtain ⟨hG1, hJ1, hF1⟩ := q_30
      obtain ⟨hM1, hV1, ⟨hd1, hd2⟩, hpast1, hkk1, hT1⟩ := id hG1
      obtain ⟨n0, ⟨nj0, nj1, nj2, nj3, nj4⟩, ndf, nS, nK, nPa, nPs, nR⟩ := id hM1
      obtain ⟨t0, tj0, tj1, tA, tQ⟩ := id nS
      have tpr := tA.r
      obtain ⟨-, tpile⟩ := id tA
      have hV1 : SV I_30 (B + 1) (gN F) := hV1
      refine wa_aload_n hX dX6_pop_33 rfl ?_
      refine wa_vM hX (tX0_removeTop _ (tpile m hm).2 (hg := aH (gN F) m - 1) (by have h9 := (hV1.1 m hm).1; rw [show aH (gN F) m - 1 + 1 = aH (gN F) m by omega]; exact h9)) bX0_removeTop mX6_69 (by decide) (by decide) (ci := 0) ⟨by decide, rfl⟩ (tpile m hm).2.1 rfl rfl (Nat.le_of_ble_eq_true rfl) dX6_pop_34 (fun r_34 I_34 q_34 => ?_)
      obtain ⟨w0, w1, w2⟩ := q_34
      refine hret _ _ _ _ _ ?_ dX6_pop_37
      unfold popF
      rw [onA_in hm (by decide), if_neg c1]
      exact ⟨w0, hG1.now (hV1.pile hm w1 w2) (w2.in (by omega) (by omega)), hJ1, hF1.tr (w2.in (by omega) (by omega))⟩
    · skip
      have c1 : aH (gN F) m = 0 := by
        rcases Nat.eq_zero_or_pos (aH (gN F) m) with e | e
        · exact e
        · exact absurd (nI_lt e (by have := hV.h4 m hm; omega)) c_23
      refine wa_bipush (v := -5) hX dX6_pop_26 (by decide) ?_
      exact hret _ _ _ _ _ (AC.no hG (c := -5) (by unfold popF; rw [onA_in hm (by decide), if_pos c1]) rfl) dX6_pop_28
  · skip
    have n_4 := bI_0.mp c_4
    refine wa_iconst (v := -1) hX dX6_pop_7 (by decide) ?_
    exact hret _ _ _ _ _ (AC.no hG (c := -1) (by unfold popF; exact onA_out n_4) rfl) dX6_pop_8

def turnF (F : FS) (x y : Int32) (z : Bool) : Int32 × FS := onAL (gN F) x y (fun m l => if aO (gN F) m l = z then (-5, F) else (nI (chgV (aV (gN F) m) (valV (aH (gN F) m) (upF (aO (gN F) m) l z) (aE (gN F) m))), wN (recF F) (sM (gN F) m (aH (gN F) m) (upF (aO (gN F) m) l z) (aE (gN F) m)))) (-1, F)
set_option maxHeartbeats 4000000 in
set_option maxRecDepth 100000 in
theorem tX6_turn {l : Launch} {D : va_G} {A : Nat → Prop} {N : Nat} {Sh : SM} {J : JM} (I : IM) {B : Nat} {F : FS} (hG : GV Sh I J B F) (x y : Int32) (z : Bool) : CtI l D A yX6_turn cX6_turn 5 FieldType.int 5 N Sh I J [.ref B, .int x, .int y, .int (bI z)] (fun r I' J' => AC Sh I J B (turnF F x y z) r I' J') := by
  refine ct_I (l0 := [(0, .ref B), (1, .int x), (2, .int y), (3, .int (bI z))]) (by decide +kernel) (Nat.le_of_ble_eq_true rfl) rfl (fun _ _ _ _ => rfl) ?_
  intro X hX hret _ _ _
  have hX : XK X RX6 cX6_turn 5 5 := hX
  obtain ⟨hM, hV, ⟨hc1, hc2⟩, hpast, hkk, hT⟩ := id hG
  obtain ⟨m0, ⟨mj0, mj1, mj2, mj3, mj4⟩, mdf, mS, mK, mPa, mPs, mR⟩ := id hM
  obtain ⟨s0, sj0, sj1, sA, sQ⟩ := id mS
  have spr := sA.r
  obtain ⟨-, spile⟩ := id sA
  refine wa_aload_n hX dX6_turn_0 rfl ?_
  refine wa_iload_n hX dX6_turn_1 rfl ?_
  refine wa_iload_n hX dX6_turn_2 rfl ?_
  refine wa_vP hX (tX6_isLayer I hM hV x y) bX6_isLayer mX6_72 (by decide) (by decide) (ci := 5) ⟨by decide, rfl⟩ m0 rfl rfl (Nat.le_of_ble_eq_true rfl) dX6_turn_3 (fun r_3 q_3 => ?_)
  subst q_3
  refine wa_if_ne (tgt := 11) hX dX6_turn_6 (by decide) (fun c_6 => ?_) (fun c_6 => ?_)
  · skip
    obtain ⟨m, la, hm, hla, em, el⟩ := layB_t hV.h4 (bI_n0.mp c_6)
    subst em
    subst el
    have h4 := hV.h4 m hm
    refine wa_aload_n hX dX6_turn_11 rfl ?_
    refine wa_getR hX fX6_10 rfl m0 mj0 dX6_turn_12 ?_
    refine wa_getR hX fX6_50 rfl s0 sj0 dX6_turn_15 ?_
    refine wa_iload_n hX dX6_turn_18 rfl ?_
    refine wa_aald hX spr rfl hm (by decide) (spile m hm).1 dX6_turn_19 ?_
    refine wa_astore hX dX6_turn_20 (by decide) ?_
    refine wa_aload hX dX6_turn_22 rfl ?_
    refine wa_getR hX fX6_76 rfl (spile m hm).2.1 (spile m hm).2.2.2.1 dX6_turn_24 ?_
    refine wa_iload_n hX dX6_turn_27 rfl ?_
    refine wa_zald hX (spile m hm).2.2.2.2.2.2.2.1 rfl (show la < 4 by omega) (by decide) dX6_turn_28 ?_
    rw [(hV.1 m hm).1.2.1 la (by omega)]
    refine wa_iload_n hX dX6_turn_29 rfl ?_
    refine wa_icmp_ne (tgt := 36) hX dX6_turn_30 (by decide) (fun c_30 => ?_) (fun c_30 => ?_)
    · skip
      have c1 : ¬ aO (gN F) m la = z := fun e => c_30 (by rw [e])
      refine wa_aload_n hX dX6_turn_36 rfl ?_
      refine wa_callVV hX (tX6_record I hG) bX6_record mX6_59 (by decide) (by decide) (ci := 5) ⟨by decide, rfl⟩ m0 rfl rfl (Nat.le_of_ble_eq_true rfl) dX6_turn_37 (fun I_37 J_37 q_37 => ?_)
      obtain ⟨hG1, hJ1, hF1⟩ := q_37
      obtain ⟨hM1, hV1, ⟨hd1, hd2⟩, hpast1, hkk1, hT1⟩ := id hG1
      obtain ⟨n0, ⟨nj0, nj1, nj2, nj3, nj4⟩, ndf, nS, nK, nPa, nPs, nR⟩ := id hM1
      obtain ⟨t0, tj0, tj1, tA, tQ⟩ := id nS
      have tpr := tA.r
      obtain ⟨-, tpile⟩ := id tA
      have hV1 : SV I_37 (B + 1) (gN F) := hV1
      refine wa_aload hX dX6_turn_40 rfl ?_
      refine wa_getR hX fX6_76 rfl (tpile m hm).2.1 (tpile m hm).2.2.2.1 dX6_turn_42 ?_
      refine wa_iload_n hX dX6_turn_45 rfl ?_
      refine wa_iload_n hX dX6_turn_46 rfl ?_
      refine wa_zast hX (tpile m hm).2.2.2.2.2.2.2.1 rfl (show la < 4 by omega) (by decide) dX6_turn_47 ?_
      rw [nar_b]
      have hW : PV (u2 I_37 (B + 1 + 2 + 8 * m + 6) la (bI z)) (B + 1 + 2 + 8 * m) (aH (gN F) m) (upF (aO (gN F) m) la z) (aE (gN F) m) := by
        have h9 := (hV1.1 m hm).1
        refine ⟨⟨h4, by rw [u2_n (by omega)]; exact h9.1.2⟩, fun l hl => ?_, fun l hl k hk => by rw [u2_n (by omega)]; exact h9.2.2 l hl k hk⟩
        by_cases e : l = la
        · subst e; rw [u2_s]; simp [upF]
        · rw [u2_k e]; simp only [upF, if_neg e]; exact h9.2.1 l hl
      refine wa_aload hX dX6_turn_48 rfl ?_
      refine wa_vM hX (tX0_settle _ (tpile m hm).2 hW) bX0_settle mX6_80 (by decide) (by decide) (ci := 0) ⟨by decide, rfl⟩ (tpile m hm).2.1 rfl rfl (Nat.le_of_ble_eq_true rfl) dX6_turn_50 (fun r_50 I_50 q_50 => ?_)
      obtain ⟨w0, w1⟩ := q_50
      have w2 := settled hW
      rw [← w1] at w2
      have w3 : Fr (B + 1 + 2 + 8 * m) 8 I_37 I_50 := by rw [w1]; exact Fr.tr (Fr.u2 (by omega) (by omega)) (Fr.uR (by omega) (by omega))
      rw [u2_n (by omega), chg_rv (hV1.1 m hm).rv (fun k hk => hW.val hk)] at w0
      refine hret _ _ _ _ _ ?_ dX6_turn_53
      unfold turnF
      rw [onAL_t hm hla h4, if_neg c1]
      exact ⟨w0, hG1.now (hV1.pile hm w2 w3) (w3.in (by omega) (by omega)), hJ1, hF1.tr (w3.in (by omega) (by omega))⟩
    · skip
      have c1 : aO (gN F) m la = z := bI_eq.mp c_30
      refine wa_bipush (v := -5) hX dX6_turn_33 (by decide) ?_
      exact hret _ _ _ _ _ (AC.no hG (c := -5) (by unfold turnF; rw [onAL_t hm hla h4, if_pos c1]) rfl) dX6_turn_35
  · skip
    have n_6 := bI_0.mp c_6
    refine wa_iconst (v := -1) hX dX6_turn_9 (by decide) ?_
    exact hret _ _ _ _ _ (AC.no hG (c := -1) (by unfold turnF; exact onAL_f n_6) rfl) dX6_turn_10

def liftF (F : FS) (x y z : Int32) : Int32 × FS := onAL (gN F) x y (fun m l => onA (aH (gN F) m) z (fun q => if l = q then (-5, F) else (nI (chgV (aV (gN F) m) (valV (aH (gN F) m) (mvF (aO (gN F) m) l q) (mvF (aE (gN F) m) l q))), wN (recF F) (sM (gN F) m (aH (gN F) m) (mvF (aO (gN F) m) l q) (mvF (aE (gN F) m) l q)))) (-2, F)) (-1, F)
theorem layB_m {S : AS} {m : Nat} {y : Int32} (hm : m < 6) : layB S (nI m) y = inB (aH S m) y := by
  unfold layB
  rw [inB_nI (by omega) (by decide), decide_eq_true hm, tn_nI (by omega), Bool.true_and]
set_option maxHeartbeats 4000000 in
set_option maxRecDepth 100000 in
theorem tX6_lift {l : Launch} {D : va_G} {A : Nat → Prop} {N : Nat} {Sh : SM} {J : JM} (I : IM) {B : Nat} {F : FS} (hG : GV Sh I J B F) (x y z : Int32) : CtI l D A yX6_lift cX6_lift 5 FieldType.int 5 N Sh I J [.ref B, .int x, .int y, .int z] (fun r I' J' => AC Sh I J B (liftF F x y z) r I' J') := by
  refine ct_I (l0 := [(0, .ref B), (1, .int x), (2, .int y), (3, .int z)]) (by decide +kernel) (Nat.le_of_ble_eq_true rfl) rfl (fun _ _ _ _ => rfl) ?_
  intro X hX hret _ _ _
  have hX : XK X RX6 cX6_lift 5 5 := hX
  obtain ⟨hM, hV, ⟨hc1, hc2⟩, hpast, hkk, hT⟩ := id hG
  obtain ⟨m0, ⟨mj0, mj1, mj2, mj3, mj4⟩, mdf, mS, mK, mPa, mPs, mR⟩ := id hM
  obtain ⟨s0, sj0, sj1, sA, sQ⟩ := id mS
  have spr := sA.r
  obtain ⟨-, spile⟩ := id sA
  refine wa_aload_n hX dX6_lift_0 rfl ?_
  refine wa_iload_n hX dX6_lift_1 rfl ?_
  refine wa_iload_n hX dX6_lift_2 rfl ?_
  refine wa_vP hX (tX6_isLayer I hM hV x y) bX6_isLayer mX6_72 (by decide) (by decide) (ci := 5) ⟨by decide, rfl⟩ m0 rfl rfl (Nat.le_of_ble_eq_true rfl) dX6_lift_3 (fun r_3 q_3 => ?_)
  subst q_3
  refine wa_if_ne (tgt := 11) hX dX6_lift_6 (by decide) (fun c_6 => ?_) (fun c_6 => ?_)
  · skip
    obtain ⟨m, la, hm, hla, em, el⟩ := layB_t hV.h4 (bI_n0.mp c_6)
    subst em
    subst el
    have h4 := hV.h4 m hm
    refine wa_aload_n hX dX6_lift_11 rfl ?_
    refine wa_iload_n hX dX6_lift_12 rfl ?_
    refine wa_iload_n hX dX6_lift_13 rfl ?_
    refine wa_vP hX (tX6_isLayer I hM hV (nI m) z) bX6_isLayer mX6_72 (by decide) (by decide) (ci := 5) ⟨by decide, rfl⟩ m0 rfl rfl (Nat.le_of_ble_eq_true rfl) dX6_lift_14 (fun r_14 q_14 => ?_)
    rw [layB_m hm] at q_14
    subst q_14
    refine wa_if_ne (tgt := 23) hX dX6_lift_17 (by decide) (fun c_17 => ?_) (fun c_17 => ?_)
    · skip
      obtain ⟨pl, hpl, ep⟩ := inB_t (by omega) (bI_n0.mp c_17)
      subst ep
      refine wa_iload_n hX dX6_lift_23 rfl ?_
      refine wa_iload_n hX dX6_lift_24 rfl ?_
      refine wa_icmp_ne (tgt := 31) hX dX6_lift_25 (by decide) (fun c_25 => ?_) (fun c_25 => ?_)
      · skip
        have c1 := ne_of_nI c_25
        refine wa_aload_n hX dX6_lift_31 rfl ?_
        refine wa_callVV hX (tX6_record I hG) bX6_record mX6_59 (by decide) (by decide) (ci := 5) ⟨by decide, rfl⟩ m0 rfl rfl (Nat.le_of_ble_eq_true rfl) dX6_lift_32 (fun I_32 J_32 q_32 => ?_)
        obtain ⟨hG1, hJ1, hF1⟩ := q_32
        obtain ⟨hM1, hV1, ⟨hd1, hd2⟩, hpast1, hkk1, hT1⟩ := id hG1
        obtain ⟨n0, ⟨nj0, nj1, nj2, nj3, nj4⟩, ndf, nS, nK, nPa, nPs, nR⟩ := id hM1
        obtain ⟨t0, tj0, tj1, tA, tQ⟩ := id nS
        have tpr := tA.r
        obtain ⟨-, tpile⟩ := id tA
        have hV1 : SV I_32 (B + 1) (gN F) := hV1
        refine wa_aload_n hX dX6_lift_35 rfl ?_
        refine wa_getR hX fX6_10 rfl n0 nj0 dX6_lift_36 ?_
        refine wa_getR hX fX6_50 rfl t0 tj0 dX6_lift_39 ?_
        refine wa_iload_n hX dX6_lift_42 rfl ?_
        refine wa_aald hX tpr rfl hm (by decide) (tpile m hm).1 dX6_lift_43 ?_
        refine wa_astore hX dX6_lift_44 (by decide) ?_
        refine wa_aload hX dX6_lift_46 rfl ?_
        refine wa_iload_n hX dX6_lift_48 rfl ?_
        refine wa_iload_n hX dX6_lift_49 rfl ?_
        refine wa_vW hX (tX0_moveLayer _ (tpile m hm).2 (hV1.1 m hm).1 (la := la) (pl := pl) (by omega) (by omega)) bX0_moveLayer mX6_83 (by decide) (by decide) (ci := 0) ⟨by decide, rfl⟩ (tpile m hm).2.1 rfl rfl (Nat.le_of_ble_eq_true rfl) dX6_lift_50 (fun I_50 q_50 => ?_)
        obtain ⟨hW, wF⟩ := q_50
        refine wa_aload hX dX6_lift_53 rfl ?_
        refine wa_vM hX (tX0_settle _ (tpile m hm).2 hW) bX0_settle mX6_80 (by decide) (by decide) (ci := 0) ⟨by decide, rfl⟩ (tpile m hm).2.1 rfl rfl (Nat.le_of_ble_eq_true rfl) dX6_lift_55 (fun r_55 I_55 q_55 => ?_)
        obtain ⟨w0, w1⟩ := q_55
        have w2 := settled hW
        rw [← w1] at w2
        have w3 : Fr (B + 1 + 2 + 8 * m) 8 I_32 I_55 := by rw [w1]; exact Fr.tr (wF.in (by omega) (by omega)) (Fr.uR (by omega) (by omega))
        rw [wF.n (by omega), chg_rv (hV1.1 m hm).rv (fun k hk => hW.val hk)] at w0
        refine hret _ _ _ _ _ ?_ dX6_lift_58
        unfold liftF
        rw [onAL_t hm hla h4, onA_in hpl (by omega), if_neg c1]
        exact ⟨w0, hG1.now (hV1.pile hm w2 w3) (w3.in (by omega) (by omega)), hJ1, hF1.tr (w3.in (by omega) (by omega))⟩
      · skip
        have c1 := eq_of_nI c_25 (by omega) (by omega)
        refine wa_bipush (v := -5) hX dX6_lift_28 (by decide) ?_
        exact hret _ _ _ _ _ (AC.no hG (c := -5) (by unfold liftF; rw [onAL_t hm hla h4, onA_in hpl (by omega), if_pos c1]) rfl) dX6_lift_30
    · skip
      have n_17 := bI_0.mp c_17
      refine wa_bipush (v := -2) hX dX6_lift_20 (by decide) ?_
      exact hret _ _ _ _ _ (AC.no hG (c := -2) (by unfold liftF; rw [onAL_t hm hla h4]; exact onA_out n_17) rfl) dX6_lift_22
  · skip
    have n_6 := bI_0.mp c_6
    refine wa_iconst (v := -1) hX dX6_lift_9 (by decide) ?_
    exact hret _ _ _ _ _ (AC.no hG (c := -1) (by unfold liftF; exact onAL_f n_6) rfl) dX6_lift_10

def setF (F : FS) (x y z w : Int32) : Int32 × FS := onAL (gN F) x y (fun m l => onA 16 z (fun k => onA 18 w (fun e => if aE (gN F) m l k = e then (-5, F) else (nI (aE (gN F) m l k), wN (recF F) (sM (gN F) m (aH (gN F) m) (aO (gN F) m) (upF (aE (gN F) m) l (upF (aE (gN F) m l) k e))))) (-2, F)) (-1, F)) (-1, F)
set_option maxHeartbeats 4000000 in
set_option maxRecDepth 100000 in
theorem tX6_setEntry {l : Launch} {D : va_G} {A : Nat → Prop} {N : Nat} {Sh : SM} {J : JM} (I : IM) {B : Nat} {F : FS} (hG : GV Sh I J B F) (x y z w : Int32) : CtI l D A yX6_setEntry cX6_setEntry 7 FieldType.int 5 N Sh I J [.ref B, .int x, .int y, .int z, .int w] (fun r I' J' => AC Sh I J B (setF F x y z w) r I' J') := by
  refine ct_I (l0 := [(0, .ref B), (1, .int x), (2, .int y), (3, .int z), (4, .int w)]) (by decide +kernel) (Nat.le_of_ble_eq_true rfl) rfl (fun _ _ _ _ => rfl) ?_
  intro X hX hret _ _ _
  have hX : XK X RX6 cX6_setEntry 7 5 := hX
  obtain ⟨hM, hV, ⟨hc1, hc2⟩, hpast, hkk, hT⟩ := id hG
  obtain ⟨m0, ⟨mj0, mj1, mj2, mj3, mj4⟩, mdf, mS, mK, mPa, mPs, mR⟩ := id hM
  obtain ⟨s0, sj0, sj1, sA, sQ⟩ := id mS
  have spr := sA.r
  obtain ⟨-, spile⟩ := id sA
  refine wa_aload_n hX dX6_setEntry_0 rfl ?_
  refine wa_iload_n hX dX6_setEntry_1 rfl ?_
  refine wa_iload_n hX dX6_setEntry_2 rfl ?_
  refine wa_vP hX (tX6_isLayer I hM hV x y) bX6_isLayer mX6_72 (by decide) (by decide) (ci := 5) ⟨by decide, rfl⟩ m0 rfl rfl (Nat.le_of_ble_eq_true rfl) dX6_setEntry_3 (fun r_3 q_3 => ?_)
  subst q_3
  refine wa_if_eq (tgt := 16) hX dX6_setEntry_6 (by decide) (fun c_6 => ?_) (fun c_6 => ?_)
  · skip
    have n_6 := bI_0.mp c_6
    refine wa_iconst (v := -1) hX dX6_setEntry_16 (by decide) ?_
    exact hret _ _ _ _ _ (AC.no hG (c := -1) (by unfold setF; exact onAL_f n_6) rfl) dX6_setEntry_17
  · skip
    obtain ⟨m, la, hm, hla, em, el⟩ := layB_t hV.h4 (bI_n0.mp c_6)
    subst em
    subst el
    have h4 := hV.h4 m hm
    refine wa_iload_n hX dX6_setEntry_9 rfl ?_
    refine wa_sP hX (tX6_isKey I z) bX6_isKey mX6_87 (by decide) (by decide) rfl rfl (Nat.le_of_ble_eq_true rfl) dX6_setEntry_10 (fun r_10 q_10 => ?_)
    subst q_10
    refine wa_if_ne (tgt := 18) hX dX6_setEntry_13 (by decide) (fun c_13 => ?_) (fun c_13 => ?_)
    · skip
      obtain ⟨k, hk, ek⟩ := inB_t (by decide) (bI_n0.mp c_13)
      subst ek
      refine wa_iload hX dX6_setEntry_18 rfl ?_
      refine wa_if_lt (tgt := 30) hX dX6_setEntry_20 (by decide) (fun c_20 => ?_) (fun c_20 => ?_)
      · skip
        refine wa_bipush (v := -2) hX dX6_setEntry_30 (by decide) ?_
        exact hret _ _ _ _ _ (AC.no hG (c := -2) (by unfold setF; rw [onAL_t hm hla h4, onA_in hk (by decide)]; exact onA_out (by simp [inB, c_20])) rfl) dX6_setEntry_32
      · skip
        refine wa_iload hX dX6_setEntry_23 rfl ?_
        refine wa_bipush (v := nI 17) hX dX6_setEntry_25 (by decide) ?_
        refine wa_icmp_le (tgt := 33) hX dX6_setEntry_27 (by decide) (fun c_27 => ?_) (fun c_27 => ?_)
        · skip
          obtain ⟨e0, he0, ee⟩ := nI_of2 (n := 17) (by decide) c_20 c_27
          subst ee
          refine wa_aload_n hX dX6_setEntry_33 rfl ?_
          refine wa_getR hX fX6_10 rfl m0 mj0 dX6_setEntry_34 ?_
          refine wa_getR hX fX6_50 rfl s0 sj0 dX6_setEntry_37 ?_
          refine wa_iload_n hX dX6_setEntry_40 rfl ?_
          refine wa_aald hX spr rfl hm (by decide) (spile m hm).1 dX6_setEntry_41 ?_
          refine wa_astore hX dX6_setEntry_42 (by decide) ?_
          refine wa_aload hX dX6_setEntry_44 rfl ?_
          refine wa_getR hX fX6_90 rfl (spile m hm).2.1 (spile m hm).2.2.1 dX6_setEntry_46 ?_
          refine wa_iload_n hX dX6_setEntry_49 rfl ?_
          refine wa_aald hX (spile m hm).2.2.2.2.2.1 rfl (show la < 4 by omega) (by decide) ((spile m hm).2.2.2.2.2.2.1 la (by omega)).1 dX6_setEntry_50 ?_
          refine wa_iload_n hX dX6_setEntry_51 rfl ?_
          refine wa_iald hX ((spile m hm).2.2.2.2.2.2.1 la (by omega)).2 rfl hk (by decide) dX6_setEntry_52 ?_
          have h5 := (hV.1 m hm).1.2.2 la (by omega) k hk
          rw [h5.1]
          refine wa_istore hX dX6_setEntry_53 (by decide) ?_
          refine wa_iload hX dX6_setEntry_55 rfl ?_
          refine wa_iload hX dX6_setEntry_57 rfl ?_
          refine wa_icmp_ne (tgt := 65) hX dX6_setEntry_59 (by decide) (fun c_59 => ?_) (fun c_59 => ?_)
          · skip
            have c1 := ne_of_nI c_59
            refine wa_aload_n hX dX6_setEntry_65 rfl ?_
            refine wa_callVV hX (tX6_record I hG) bX6_record mX6_59 (by decide) (by decide) (ci := 5) ⟨by decide, rfl⟩ m0 rfl rfl (Nat.le_of_ble_eq_true rfl) dX6_setEntry_66 (fun I_66 J_66 q_66 => ?_)
            obtain ⟨hG1, hJ1, hF1⟩ := q_66
            obtain ⟨hM1, hV1, ⟨hd1, hd2⟩, hpast1, hkk1, hT1⟩ := id hG1
            obtain ⟨n0, ⟨nj0, nj1, nj2, nj3, nj4⟩, ndf, nS, nK, nPa, nPs, nR⟩ := id hM1
            obtain ⟨t0, tj0, tj1, tA, tQ⟩ := id nS
            have tpr := tA.r
            obtain ⟨-, tpile⟩ := id tA
            have hV1 : SV I_66 (B + 1) (gN F) := hV1
            refine wa_aload hX dX6_setEntry_69 rfl ?_
            refine wa_getR hX fX6_90 rfl (tpile m hm).2.1 (tpile m hm).2.2.1 dX6_setEntry_71 ?_
            refine wa_iload_n hX dX6_setEntry_74 rfl ?_
            refine wa_aald hX (tpile m hm).2.2.2.2.2.1 rfl (show la < 4 by omega) (by decide) ((tpile m hm).2.2.2.2.2.2.1 la (by omega)).1 dX6_setEntry_75 ?_
            refine wa_iload_n hX dX6_setEntry_76 rfl ?_
            refine wa_iload hX dX6_setEntry_77 rfl ?_
            refine wa_iast hX ((tpile m hm).2.2.2.2.2.2.1 la (by omega)).2 rfl hk (by decide) dX6_setEntry_79 ?_
            have hW : PV (u2 I_66 (B + 1 + 2 + 8 * m + 2 + la) k (nI e0)) (B + 1 + 2 + 8 * m) (aH (gN F) m) (aO (gN F) m) (upF (aE (gN F) m) la (upF (aE (gN F) m la) k e0)) := by
              have h9 := (hV1.1 m hm).1
              refine ⟨⟨h4, by rw [u2_n (by omega)]; exact h9.1.2⟩, fun l hl => by rw [u2_n (by omega)]; exact h9.2.1 l hl, fun l hl k2 hk2 => ?_⟩
              by_cases e : l = la
              · subst e
                by_cases e2 : k2 = k
                · subst e2; rw [u2_s]; simp [upF, he0]
                · rw [u2_k e2]; simp only [upF, ↓reduceIte, if_neg e2]; exact h9.2.2 l hl k2 hk2
              · rw [u2_n (by omega)]; simp only [upF, if_neg e]; exact h9.2.2 l hl k2 hk2
            refine wa_aload hX dX6_setEntry_80 rfl ?_
            refine wa_vM hX (tX0_settle _ (tpile m hm).2 hW) bX0_settle mX6_80 (by decide) (by decide) (ci := 0) ⟨by decide, rfl⟩ (tpile m hm).2.1 rfl rfl (Nat.le_of_ble_eq_true rfl) dX6_setEntry_82 (fun r_82 I_82 q_82 => ?_)
            obtain ⟨w0, w1⟩ := q_82
            have w2 := settled hW
            rw [← w1] at w2
            have w3 : Fr (B + 1 + 2 + 8 * m) 8 I_66 I_82 := by rw [w1]; exact Fr.tr (Fr.u2 (by omega) (by omega)) (Fr.uR (by omega) (by omega))
            refine wa_pop hX dX6_setEntry_85 rfl ?_
            refine wa_iload hX dX6_setEntry_86 rfl ?_
            refine hret _ _ _ _ _ ?_ dX6_setEntry_88
            unfold setF
            rw [onAL_t hm hla h4, onA_in hk (by decide), onA_in (show e0 < 18 by omega) (by decide), if_neg c1]
            exact ⟨rfl, hG1.now (hV1.pile hm w2 w3) (w3.in (by omega) (by omega)), hJ1, hF1.tr (w3.in (by omega) (by omega))⟩
          · skip
            have c1 := eq_of_nI c_59 (by omega) (by omega)
            refine wa_bipush (v := -5) hX dX6_setEntry_62 (by decide) ?_
            exact hret _ _ _ _ _ (AC.no hG (c := -5) (by unfold setF; rw [onAL_t hm hla h4, onA_in hk (by decide), onA_in (show e0 < 18 by omega) (by decide), if_pos c1]) rfl) dX6_setEntry_64
        · skip
          refine wa_bipush (v := -2) hX dX6_setEntry_30 (by decide) ?_
          exact hret _ _ _ _ _ (AC.no hG (c := -2) (by unfold setF; rw [onAL_t hm hla h4, onA_in hk (by decide)]; exact onA_out (Bool.eq_false_iff.mpr (fun h => by obtain ⟨j, hj, e⟩ := inB_t (by decide) h; rw [e] at c_27; exact absurd (nI_le (show j ≤ 17 by omega) (by decide)) c_27))) rfl) dX6_setEntry_32
    · skip
      have n_13 := bI_0.mp c_13
      refine wa_iconst (v := -1) hX dX6_setEntry_16 (by decide) ?_
      exact hret _ _ _ _ _ (AC.no hG (c := -1) (by unfold setF; rw [onAL_t hm hla h4]; exact onA_out n_13) rfl) dX6_setEntry_17

/-- the layers of a map that becomes one layer of values v -/
def oneM (S : AS) (m : Nat) (v : Nat → Nat) : AS := sM S m 1 (upF (aO S m) 0 true) (upF (aE S m) 0 (fun k => if v k = 16 then 17 else v k))
def valN (v : Nat → Nat) : Nat := cnt (fun k => !decide (v k = 16)) 16
def flatF (F : FS) (x : Int32) : Int32 × FS := onA 6 x (fun m => if flatV (aH (gN F) m) (aO (gN F) m) (aE (gN F) m) = true then (-5, F) else (nI (valN (aV (gN F) m)), wN (recF F) (oneM (gN F) m (aV (gN F) m)))) (-1, F)
set_option maxHeartbeats 4000000 in
set_option maxRecDepth 100000 in
theorem tX6_flatten {l : Launch} {D : va_G} {A : Nat → Prop} {N : Nat} {Sh : SM} {J : JM} (I : IM) {B : Nat} {F : FS} (hG : GV Sh I J B F) (x : Int32) : CtI l D A yX6_flatten cX6_flatten 3 FieldType.int 5 N Sh I J [.ref B, .int x] (fun r I' J' => AC Sh I J B (flatF F x) r I' J') := by
  refine ct_I (l0 := [(0, .ref B), (1, .int x)]) (by decide +kernel) (Nat.le_of_ble_eq_true rfl) rfl (fun _ _ _ _ => rfl) ?_
  intro X hX hret _ _ _
  have hX : XK X RX6 cX6_flatten 3 5 := hX
  obtain ⟨hM, hV, ⟨hc1, hc2⟩, hpast, hkk, hT⟩ := id hG
  obtain ⟨m0, ⟨mj0, mj1, mj2, mj3, mj4⟩, mdf, mS, mK, mPa, mPs, mR⟩ := id hM
  obtain ⟨s0, sj0, sj1, sA, sQ⟩ := id mS
  have spr := sA.r
  obtain ⟨-, spile⟩ := id sA
  refine wa_iload_n hX dX6_flatten_0 rfl ?_
  refine wa_sP hX (tX6_isMap I x) bX6_isMap mX6_42 (by decide) (by decide) rfl rfl (Nat.le_of_ble_eq_true rfl) dX6_flatten_1 (fun r_1 q_1 => ?_)
  subst q_1
  refine wa_if_ne (tgt := 9) hX dX6_flatten_4 (by decide) (fun c_4 => ?_) (fun c_4 => ?_)
  · skip
    obtain ⟨m, hm, em⟩ := inB_t (by decide) (bI_n0.mp c_4)
    subst em
    refine wa_aload_n hX dX6_flatten_9 rfl ?_
    refine wa_getR hX fX6_10 rfl m0 mj0 dX6_flatten_10 ?_
    refine wa_getR hX fX6_50 rfl s0 sj0 dX6_flatten_13 ?_
    refine wa_iload_n hX dX6_flatten_16 rfl ?_
    refine wa_aald hX spr rfl hm (by decide) (spile m hm).1 dX6_flatten_17 ?_
    refine wa_astore_n hX dX6_flatten_18 (by decide) ?_
    refine wa_aload_n hX dX6_flatten_19 rfl ?_
    refine wa_vP hX (tX0_isFlat I (spile m hm).2 (hV.1 m hm).1) bX0_isFlat mX6_94 (by decide) (by decide) (ci := 0) ⟨by decide, rfl⟩ (spile m hm).2.1 rfl rfl (Nat.le_of_ble_eq_true rfl) dX6_flatten_20 (fun r_20 q_20 => ?_)
    subst q_20
    refine wa_if_eq (tgt := 29) hX dX6_flatten_23 (by decide) (fun c_23 => ?_) (fun c_23 => ?_)
    · skip
      have c1 := bI_0.mp c_23
      refine wa_aload_n hX dX6_flatten_29 rfl ?_
      refine wa_callVV hX (tX6_record I hG) bX6_record mX6_59 (by decide) (by decide) (ci := 5) ⟨by decide, rfl⟩ m0 rfl rfl (Nat.le_of_ble_eq_true rfl) dX6_flatten_30 (fun I_30 J_30 q_30 => ?_)
      obtain ⟨hG1, hJ1, hF1⟩ := q_30
      obtain ⟨hM1, hV1, ⟨hd1, hd2⟩, hpast1, hkk1, hT1⟩ := id hG1
      obtain ⟨n0, ⟨nj0, nj1, nj2, nj3, nj4⟩, ndf, nS, nK, nPa, nPs, nR⟩ := id hM1
      obtain ⟨t0, tj0, tj1, tA, tQ⟩ := id nS
      have tpr := tA.r
      obtain ⟨-, tpile⟩ := id tA
      have hV1 : SV I_30 (B + 1) (gN F) := hV1
      refine wa_aload_n hX dX6_flatten_33 rfl ?_
      refine wa_aload_n hX dX6_flatten_34 rfl ?_
      refine wa_getR hX fX6_98 rfl (tpile m hm).2.1 (tpile m hm).2.2.2.2.1 dX6_flatten_35 ?_
      refine wa_vM hX (tX0_becomeOneLayer _ (tpile m hm).2 (hV1.1 m hm).1 (tpile m hm).2.2.2.2.2.2.2.2 (by omega) (w := aV (gN F) m) (hV1.1 m hm).rv) bX0_becomeOneLayer mX6_101 (by decide) (by decide) (ci := 0) ⟨by decide, rfl⟩ (tpile m hm).2.1 rfl rfl (Nat.le_of_ble_eq_true rfl) dX6_flatten_38 (fun r_38 I_38 q_38 => ?_)
      obtain ⟨w0, w1, w2⟩ := q_38
      refine hret _ _ _ _ _ ?_ dX6_flatten_41
      unfold flatF
      rw [onA_in hm (by decide), if_neg (by rw [c1]; decide)]
      exact ⟨w0, hG1.now (hV1.pile hm w1 w2) (w2.in (by omega) (by omega)), hJ1, hF1.tr (w2.in (by omega) (by omega))⟩
    · skip
      have c1 := bI_n0.mp c_23
      refine wa_bipush (v := -5) hX dX6_flatten_26 (by decide) ?_
      exact hret _ _ _ _ _ (AC.no hG (c := -5) (by unfold flatF; rw [onA_in hm (by decide), if_pos c1]) rfl) dX6_flatten_28
  · skip
    have n_4 := bI_0.mp c_4
    refine wa_iconst (v := -1) hX dX6_flatten_7 (by decide) ?_
    exact hret _ _ _ _ _ (AC.no hG (c := -1) (by unfold flatF; exact onA_out n_4) rfl) dX6_flatten_8

def ruleF (F : FS) (x : Int32) : Int32 × FS := onA 3 x (fun q => if aR (gN F) = q then (-5, F) else (nI (aR (gN F)), wN (recF F) (sR (gN F) q))) (-2, F)
set_option maxHeartbeats 4000000 in
set_option maxRecDepth 100000 in
theorem tX6_setRule {l : Launch} {D : va_G} {A : Nat → Prop} {N : Nat} {Sh : SM} {J : JM} (I : IM) {B : Nat} {F : FS} (hG : GV Sh I J B F) (x : Int32) : CtI l D A yX6_setRule cX6_setRule 3 FieldType.int 5 N Sh I J [.ref B, .int x] (fun r I' J' => AC Sh I J B (ruleF F x) r I' J') := by
  refine ct_I (l0 := [(0, .ref B), (1, .int x)]) (by decide +kernel) (Nat.le_of_ble_eq_true rfl) rfl (fun _ _ _ _ => rfl) ?_
  intro X hX hret _ _ _
  have hX : XK X RX6 cX6_setRule 3 5 := hX
  obtain ⟨hM, hV, ⟨hc1, hc2⟩, hpast, hkk, hT⟩ := id hG
  obtain ⟨m0, ⟨mj0, mj1, mj2, mj3, mj4⟩, mdf, mS, mK, mPa, mPs, mR⟩ := id hM
  obtain ⟨s0, sj0, sj1, sA, sQ⟩ := id mS
  have spr := sA.r
  obtain ⟨-, spile⟩ := id sA
  refine wa_iload_n hX dX6_setRule_0 rfl ?_
  refine wa_if_lt (tgt := 9) hX dX6_setRule_1 (by decide) (fun c_1 => ?_) (fun c_1 => ?_)
  · skip
    refine wa_bipush (v := -2) hX dX6_setRule_9 (by decide) ?_
    exact hret _ _ _ _ _ (AC.no hG (c := -2) (by unfold ruleF; exact onA_out (by simp [inB, c_1])) rfl) dX6_setRule_11
  · skip
    refine wa_iload_n hX dX6_setRule_4 rfl ?_
    refine wa_iconst (v := nI 3) hX dX6_setRule_5 (by decide) ?_
    refine wa_icmp_lt (tgt := 12) hX dX6_setRule_6 (by decide) (fun c_6 => ?_) (fun c_6 => ?_)
    · skip
      obtain ⟨q0, hq0, eq0⟩ : ∃ j, j < 3 ∧ x = nI j := by
        rcases pk_ix x (n := 3) (by decide) with a | a | a
        · exact absurd a c_1
        · exact absurd a (Int32.not_le.mpr c_6)
        · exact a
      subst eq0
      refine wa_aload_n hX dX6_setRule_12 rfl ?_
      refine wa_getR hX fX6_10 rfl m0 mj0 dX6_setRule_13 ?_
      refine wa_getI hX fX6_112 rfl s0 dX6_setRule_16 ?_
      rw [hV.2.2.1]
      refine wa_istore_n hX dX6_setRule_19 (by decide) ?_
      refine wa_iload_n hX dX6_setRule_20 rfl ?_
      refine wa_iload_n hX dX6_setRule_21 rfl ?_
      refine wa_icmp_ne (tgt := 28) hX dX6_setRule_22 (by decide) (fun c_22 => ?_) (fun c_22 => ?_)
      · skip
        have c1 := ne_of_nI c_22
        refine wa_aload_n hX dX6_setRule_28 rfl ?_
        refine wa_callVV hX (tX6_record I hG) bX6_record mX6_59 (by decide) (by decide) (ci := 5) ⟨by decide, rfl⟩ m0 rfl rfl (Nat.le_of_ble_eq_true rfl) dX6_setRule_29 (fun I_29 J_29 q_29 => ?_)
        obtain ⟨hG1, hJ1, hF1⟩ := q_29
        obtain ⟨hM1, hV1, ⟨hd1, hd2⟩, hpast1, hkk1, hT1⟩ := id hG1
        obtain ⟨n0, ⟨nj0, nj1, nj2, nj3, nj4⟩, ndf, nS, nK, nPa, nPs, nR⟩ := id hM1
        obtain ⟨t0, tj0, tj1, tA, tQ⟩ := id nS
        have tpr := tA.r
        obtain ⟨-, tpile⟩ := id tA
        have hV1 : SV I_29 (B + 1) (gN F) := hV1
        refine wa_aload_n hX dX6_setRule_32 rfl ?_
        refine wa_getR hX fX6_10 rfl n0 nj0 dX6_setRule_33 ?_
        refine wa_iload_n hX dX6_setRule_36 rfl ?_
        refine wa_putI hX fX6_112 rfl rfl ⟨rfl, rfl⟩ t0 dX6_setRule_37 ?_
        refine wa_iload_n hX dX6_setRule_40 rfl ?_
        refine hret _ _ _ _ _ ?_ dX6_setRule_41
        unfold ruleF
        rw [onA_in hq0 (by decide), if_neg c1]
        exact ⟨rfl, hG1.now ⟨fun j hj => (hV1.1 j hj).keep (fun q h1 h2 => u2_n (by omega)), hV1.2.1.keep (fun q h1 h2 => u2_n (by omega)), u2_s, by show q0 ≤ 2; omega⟩ (Fr.u2 (by omega) (by omega)), hJ1, hF1.tr (Fr.u2 (by omega) (by omega))⟩
      · skip
        have c1 := eq_of_nI c_22 (by have := hV.2.2.2; omega) (by omega)
        refine wa_bipush (v := -5) hX dX6_setRule_25 (by decide) ?_
        exact hret _ _ _ _ _ (AC.no hG (c := -5) (by unfold ruleF; rw [onA_in hq0 (by decide), if_pos c1]) rfl) dX6_setRule_27
    · skip
      refine wa_bipush (v := -2) hX dX6_setRule_9 (by decide) ?_
      exact hret _ _ _ _ _ (AC.no hG (c := -2) (by unfold ruleF; exact onA_out (by have c2 := Int32.not_lt.mp c_6; simp [inB, c2])) rfl) dX6_setRule_11

