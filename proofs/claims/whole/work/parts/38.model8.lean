/-! PileMapsModel: the groups are the class's; best key, hidden, split -/
theorem cnt_one {p q : Nat → Bool} {x : Nat} (h : ∀ v, v ≠ x → q v = p v) (hp : p x = false) (hq : q x = true) : ∀ n, cnt q n = cnt p n + (if x < n then 1 else 0)
  | 0 => by rw [if_neg (Nat.not_lt_zero x)]; rfl
  | n + 1 => by
    have ih := cnt_one h hp hq n
    by_cases e : n = x
    · subst e
      rw [cnt_t hq, cnt_f hp, ih, if_neg (Nat.lt_irrefl n), if_pos (Nat.lt_succ_self n)]
    · have hv := h n e
      cases hpn : p n with
      | true =>
        rw [cnt_t (hv.trans hpn), cnt_t hpn, ih]
        by_cases c : x < n
        · rw [if_pos c, if_pos (by omega)]
        · rw [if_neg c, if_neg (by omega)]
      | false =>
        rw [cnt_f (hv.trans hpn), cnt_f hpn, ih]
        by_cases c : x < n
        · rw [if_pos c, if_pos (by omega)]
        · rw [if_neg c, if_neg (by omega)]
theorem its_t {sus : Nat} {kn : Nat → Nat → Nat} {k v n : Nat} (h1 : bt (nI sus) n = true) (h2 : kn n k = v) : itsV sus kn k v (n + 1) = itsV sus kn k v n + 1 := cnt_t (by rw [h1, decide_eq_true h2]; rfl)
theorem its_f {sus : Nat} {kn : Nat → Nat → Nat} {k v n : Nat} (h : bt (nI sus) n = false ∨ kn n k ≠ v) : itsV sus kn k v (n + 1) = itsV sus kn k v n := cnt_f (by
  rcases h with h | h
  · rw [h]; rfl
  · rw [decide_eq_false h, Bool.and_false])
theorem grp_n {sus : Nat} {kn : Nat → Nat → Nat} {k : Nat} (h : ∀ m, m < 6 → kn m k ≤ 16) : ∀ n, n ≤ 6 → cnt (fun v => decide (0 < itsV sus kn k v n)) 17 = cnt (fun m => bt (nI sus) m && decide (alV sus kn k m (m + 1) = 1)) n
  | 0, _ => by
    have : ∀ n, cnt (fun v => decide (0 < itsV sus kn k v 0)) n = 0 := by
      intro n
      induction n with
      | zero => rfl
      | succ n ih => rw [cnt_f (by rfl)]; exact ih
    exact this 17
  | n + 1, hn => by
    have ih := grp_n (sus := sus) h n (by omega)
    cases hb : bt (nI sus) n with
    | false =>
      rw [cnt_f (p := fun m => bt (nI sus) m && decide (alV sus kn k m (m + 1) = 1)) (by rw [hb]; rfl), ← ih]
      exact cnt_congr (fun v _ => by rw [its_f (Or.inl hb)])
    | true =>
      have hx := h n (by omega)
      have ea : alV sus kn k n (n + 1) = itsV sus kn k (kn n k) n + 1 := its_t hb rfl
      by_cases c : itsV sus kn k (kn n k) n = 0
      · rw [cnt_t (p := fun m => bt (nI sus) m && decide (alV sus kn k m (m + 1) = 1)) (by rw [hb, ea, c]; rfl), ← ih]
        rw [cnt_one (p := fun v => decide (0 < itsV sus kn k v n)) (q := fun v => decide (0 < itsV sus kn k v (n + 1))) (x := kn n k) (fun v hv => by rw [its_f (Or.inr (fun e => hv e.symm))]) (by rw [c]; rfl) (by rw [its_t hb rfl]; exact decide_eq_true (Nat.succ_pos _)), if_pos (by omega)]
      · rw [cnt_f (p := fun m => bt (nI sus) m && decide (alV sus kn k m (m + 1) = 1)) (by rw [hb, ea, decide_eq_false (by omega)]; rfl), ← ih]
        exact cnt_congr (fun v _ => by
          by_cases e : kn n k = v
          · subst e
            rw [its_t hb rfl, decide_eq_true (Nat.succ_pos _), decide_eq_true (by omega)]
          · rw [its_f (Or.inr e)])
theorem grp_eq {sus : Nat} {kn : Nat → Nat → Nat} {k : Nat} (h : ∀ m, m < 6 → kn m k ≤ 16) : grM sus kn k 17 = grpV sus kn k := grp_n h 6 (Nat.le_refl 6)
theorem VF.kn {f : Nat → Int32} {S : AS} (h : VF f S) {k : Nat} (hk : k < 16) : ∀ m, m < 6 → aKn S m k ≤ 16 := fun m hm => (h.2.2.2.2.2 m hm k hk).2
theorem vX7_groups {l : Launch} {D : va_G} {A : Nat → Prop} {N : Nat} {Sh : SM} {J : JM} (I : IM) {Q : Nat} (hM : MM Sh J Q) {S : AS} (hV : VF (I (Q + 1)) S) {k w : Nat} (hk : k < 16) (hw : w ≤ 1) : CtP l D A yX7_groups cX7_groups 8 FieldType.int 1 N Sh I J [.ref Q, .int (nI k), .int (nI w)] (fun r => r = splF S k w) :=
  ct_re (tX7_groups I hM hV hk hw) (fun r h => by rw [grp_eq (hV.kn hk), gst_eq (hV.kn hk)] at h; exact h)
theorem grpV_le (sus : Nat) (kn : Nat → Nat → Nat) (k : Nat) : grpV sus kn k ≤ 6 := cnt_le _ 6
theorem gstV_le (sus : Nat) (kn : Nat → Nat → Nat) (k : Nat) : gstV sus kn k ≤ 6 := gst_le sus kn k 6
theorem sub_gt {a b : Nat} (ha : a < 2 ^ 20) (hb : b < 2 ^ 20) : 0 < nI a - nI b ↔ b < a := by
  rw [Int32.lt_iff_toInt_lt, pk_sub_toInt (by omega) (by omega)]
  have : (0 : Int32).toInt = 0 := by decide
  omega
theorem sub_z {a b : Nat} (ha : a < 2 ^ 20) (hb : b < 2 ^ 20) : nI a - nI b = 0 ↔ a = b := by
  constructor
  · intro h
    have h2 := congrArg Int32.toInt h
    rw [pk_sub_toInt (by omega) (by omega)] at h2
    have : (0 : Int32).toInt = 0 := by decide
    omega
  · intro h
    subst h
    exact Int32.sub_self _
set_option maxHeartbeats 4000000 in
set_option maxRecDepth 100000 in
theorem tX7_bestKey {l : Launch} {D : va_G} {A : Nat → Prop} {N : Nat} {Sh : SM} {J : JM} (I : IM) {Q : Nat} (hM : MM Sh J Q) {S : AS} (hV : VF (I (Q + 1)) S) : CtP l D A yX7_bestKey cX7_bestKey 4 FieldType.int 2 N Sh I J [.ref Q] (fun r => r = nI (bstV (aSus S) (aKn S))) := by
  refine ct_I (l0 := [(0, .ref Q)]) (by decide +kernel) (Nat.le_of_ble_eq_true rfl) rfl (fun _ _ _ _ => rfl) ?_
  intro X hX hret _ _ _
  have hX : XK X RX7 cX7_bestKey 4 2 := hX
  have lp : ∀ (n i : Nat) (x : Int32), i + n = 15 → (x = nI (fold (fun i b => if betV (aSus S) (aKn S) (i + 1) b = true then i + 1 else b) 0 i)) → WX X 0 0 N Sh I J 4 [(0, .ref Q), (1, .int x), (2, .int (nI (i + 1)))] [] := by
    intro n
    induction n with
    | zero =>
      intro i x hi ex
      obtain rfl : 15 = i := by omega
      refine wa_iload_n hX dX7_bestKey_4 rfl ?_
      refine wa_bipush (v := nI 16) hX dX7_bestKey_5 (by decide) ?_
      refine wa_icmp_ge (tgt := 59) hX dX7_bestKey_7 (by decide) (fun c_7 => ?_) (fun c_7 => absurd (by decide) c_7)
      refine wa_iload_n hX dX7_bestKey_59 rfl ?_
      exact hret _ _ _ _ _ ⟨ex, rfl, rfl⟩ dX7_bestKey_60
    | succ n ih =>
      intro i x hi ex
      have hlt : i < 15 := by omega
      refine wa_iload_n hX dX7_bestKey_4 rfl ?_
      refine wa_bipush (v := nI 16) hX dX7_bestKey_5 (by decide) ?_
      refine wa_icmp_ge (tgt := 59) hX dX7_bestKey_7 (by decide) (fun c_7 => absurd c_7 (nI_ge (by omega) (by decide))) (fun c_7 => ?_)
      subst ex
      have hb := bst_le (aSus S) (aKn S) i
      generalize eb : fold (fun i b => if betV (aSus S) (aKn S) (i + 1) b = true then i + 1 else b) 0 i = b at hb
      have g1 := gstV_le (aSus S) (aKn S) b
      have g2 := gstV_le (aSus S) (aKn S) (i + 1)
      have g3 := grpV_le (aSus S) (aKn S) b
      have g4 := grpV_le (aSus S) (aKn S) (i + 1)
      refine wa_aload_n hX dX7_bestKey_10 rfl ?_
      refine wa_iload_n hX dX7_bestKey_11 rfl ?_
      refine wa_iconst (v := nI 1) hX dX7_bestKey_12 (by decide) ?_
      refine wa_vP hX (vX7_groups I hM hV (show b < 16 by omega) (w := 1) (by decide)) bX7_groups mX7_128 (by decide) (by decide) (ci := 6) ⟨by decide, rfl⟩ (by first | exact hM.1 | assumption) rfl rfl (Nat.le_of_ble_eq_true rfl) dX7_bestKey_13 (fun r_13 q_13 => ?_)
      have q_13 : r_13 = nI (gstV (aSus S) (aKn S) b) := q_13
      subst q_13
      refine wa_aload_n hX dX7_bestKey_16 rfl ?_
      refine wa_iload_n hX dX7_bestKey_17 rfl ?_
      refine wa_iconst (v := nI 1) hX dX7_bestKey_18 (by decide) ?_
      refine wa_vP hX (vX7_groups I hM hV (show i + 1 < 16 by omega) (w := 1) (by decide)) bX7_groups mX7_128 (by decide) (by decide) (ci := 6) ⟨by decide, rfl⟩ (by first | exact hM.1 | assumption) rfl rfl (Nat.le_of_ble_eq_true rfl) dX7_bestKey_19 (fun r_19 q_19 => ?_)
      have q_19 : r_19 = nI (gstV (aSus S) (aKn S) (i + 1)) := q_19
      subst q_19
      refine wa_isub hX dX7_bestKey_22 ?_
      refine wa_istore_n hX dX7_bestKey_23 (by decide) ?_
      refine wa_iload_n hX dX7_bestKey_24 rfl ?_
      refine wa_if_gt (tgt := 47) hX dX7_bestKey_25 (by decide) (fun c_25 => ?_) (fun c_25 => ?_)
      · skip
        have c1 := (sub_gt (by omega) (by omega)).mp c_25
        have cb : betV (aSus S) (aKn S) (i + 1) b = true := by unfold betV; rw [if_neg (by omega)]; exact decide_eq_true c1
        refine wa_iload_n hX dX7_bestKey_47 rfl ?_
        refine wa_goto (tgt := 52) hX dX7_bestKey_48 (by decide) ?_
        refine wa_istore_n hX dX7_bestKey_52 (by decide) ?_
        refine wa_iinc hX dX7_bestKey_53 rfl (inc1 _) (by decide) ?_
        refine wa_goto (tgt := 4) hX dX7_bestKey_56 (by decide) ?_
        refine wx_sub (l' := [(0, _), (1, _), (2, _)]) ⟨rfl, rfl, rfl, trivial⟩ ?_
        exact ih (i + 1) _ (by omega) (by rw [fold_s, eb, if_pos cb])
      · skip
        have c1 : ¬ gstV (aSus S) (aKn S) (i + 1) < gstV (aSus S) (aKn S) b := fun h => c_25 ((sub_gt (by omega) (by omega)).mpr h)
        refine wa_iload_n hX dX7_bestKey_28 rfl ?_
        refine wa_if_ne (tgt := 51) hX dX7_bestKey_29 (by decide) (fun c_29 => ?_) (fun c_29 => ?_)
        · skip
          have c2 : ¬ gstV (aSus S) (aKn S) b = gstV (aSus S) (aKn S) (i + 1) := fun h => c_29 ((sub_z (by omega) (by omega)).mpr h)
          have cb : betV (aSus S) (aKn S) (i + 1) b = false := by unfold betV; rw [if_neg (fun h => c2 h.symm)]; exact decide_eq_false c1
          refine wa_iload_n hX dX7_bestKey_51 rfl ?_
          refine wa_istore_n hX dX7_bestKey_52 (by decide) ?_
          refine wa_iinc hX dX7_bestKey_53 rfl (inc1 _) (by decide) ?_
          refine wa_goto (tgt := 4) hX dX7_bestKey_56 (by decide) ?_
          refine wx_sub (l' := [(0, _), (1, _), (2, _)]) ⟨rfl, rfl, rfl, trivial⟩ ?_
          exact ih (i + 1) _ (by omega) (by rw [fold_s, eb, if_neg (by rw [cb]; decide)])
        · skip
          have c2 := (sub_z (by omega) (by omega)).mp c_29
          refine wa_aload_n hX dX7_bestKey_32 rfl ?_
          refine wa_iload_n hX dX7_bestKey_33 rfl ?_
          refine wa_iconst (v := nI 0) hX dX7_bestKey_34 (by decide) ?_
          refine wa_vP hX (vX7_groups I hM hV (show i + 1 < 16 by omega) (w := 0) (by decide)) bX7_groups mX7_128 (by decide) (by decide) (ci := 6) ⟨by decide, rfl⟩ (by first | exact hM.1 | assumption) rfl rfl (Nat.le_of_ble_eq_true rfl) dX7_bestKey_35 (fun r_35 q_35 => ?_)
          have q_35 : r_35 = nI (grpV (aSus S) (aKn S) (i + 1)) := q_35
          subst q_35
          refine wa_aload_n hX dX7_bestKey_38 rfl ?_
          refine wa_iload_n hX dX7_bestKey_39 rfl ?_
          refine wa_iconst (v := nI 0) hX dX7_bestKey_40 (by decide) ?_
          refine wa_vP hX (vX7_groups I hM hV (show b < 16 by omega) (w := 0) (by decide)) bX7_groups mX7_128 (by decide) (by decide) (ci := 6) ⟨by decide, rfl⟩ (by first | exact hM.1 | assumption) rfl rfl (Nat.le_of_ble_eq_true rfl) dX7_bestKey_41 (fun r_41 q_41 => ?_)
          have q_41 : r_41 = nI (grpV (aSus S) (aKn S) b) := q_41
          subst q_41
          refine wa_icmp_le (tgt := 51) hX dX7_bestKey_44 (by decide) (fun c_44 => ?_) (fun c_44 => ?_)
          · skip
            have c3 : ¬ grpV (aSus S) (aKn S) b < grpV (aSus S) (aKn S) (i + 1) := fun h => absurd c_44 (nI_ge h (by omega))
            have cb : betV (aSus S) (aKn S) (i + 1) b = false := by unfold betV; rw [if_pos c2.symm]; exact decide_eq_false c3
            refine wa_iload_n hX dX7_bestKey_51 rfl ?_
            refine wa_istore_n hX dX7_bestKey_52 (by decide) ?_
            refine wa_iinc hX dX7_bestKey_53 rfl (inc1 _) (by decide) ?_
            refine wa_goto (tgt := 4) hX dX7_bestKey_56 (by decide) ?_
            refine wx_sub (l' := [(0, _), (1, _), (2, _)]) ⟨rfl, rfl, rfl, trivial⟩ ?_
            exact ih (i + 1) _ (by omega) (by rw [fold_s, eb, if_neg (by rw [cb]; decide)])
          · skip
            have c3 : grpV (aSus S) (aKn S) b < grpV (aSus S) (aKn S) (i + 1) := by
              rcases Nat.lt_or_ge (grpV (aSus S) (aKn S) b) (grpV (aSus S) (aKn S) (i + 1)) with q | q
              · exact q
              · exact absurd (nI_le q (by omega)) c_44
            have cb : betV (aSus S) (aKn S) (i + 1) b = true := by unfold betV; rw [if_pos c2.symm]; exact decide_eq_true c3
            refine wa_iload_n hX dX7_bestKey_47 rfl ?_
            refine wa_goto (tgt := 52) hX dX7_bestKey_48 (by decide) ?_
            refine wa_istore_n hX dX7_bestKey_52 (by decide) ?_
            refine wa_iinc hX dX7_bestKey_53 rfl (inc1 _) (by decide) ?_
            refine wa_goto (tgt := 4) hX dX7_bestKey_56 (by decide) ?_
            refine wx_sub (l' := [(0, _), (1, _), (2, _)]) ⟨rfl, rfl, rfl, trivial⟩ ?_
            exact ih (i + 1) _ (by omega) (by rw [fold_s, eb, if_pos cb])
  refine wa_iconst (v := nI 0) hX dX7_bestKey_0 (by decide) ?_
  refine wa_istore_n hX dX7_bestKey_1 (by decide) ?_
  refine wa_iconst (v := nI 1) hX dX7_bestKey_2 (by decide) ?_
  refine wa_istore_n hX dX7_bestKey_3 (by decide) ?_
  exact lp 15 0 _ (by omega) rfl

set_option maxHeartbeats 4000000 in
set_option maxRecDepth 100000 in
theorem tX7_split {l : Launch} {D : va_G} {A : Nat → Prop} {N : Nat} {Sh : SM} {J : JM} (I : IM) {Q : Nat} (hM : MM Sh J Q) {S : AS} (hV : VF (I (Q + 1)) S) (x y : Int32) : CtP l D A yX7_split cX7_split 3 FieldType.int 2 N Sh I J [.ref Q, .int x, .int y] (fun r => r = onB 16 x (fun k => onB 2 y (fun w => if aHid S = 0 then -4 else splF S k w) (-2)) (-1)) := by
  refine ct_I (l0 := [(0, .ref Q), (1, .int x), (2, .int y)]) (by decide +kernel) (Nat.le_of_ble_eq_true rfl) rfl (fun _ _ _ _ => rfl) ?_
  intro X hX hret _ _ _
  have hX : XK X RX7 cX7_split 3 2 := hX
  obtain ⟨q0, ⟨qj0, qj1, qj3, qj5, qj6, qj8, qj12, qj13, qj14, qj15, qj16, qj18, qj19⟩, ⟨qs1, qs2, qs3, qs4, qs5, qs6, qs7, qs8, qs9, qs10, qs11, qs12, qs13⟩⟩ := id hM
  refine wa_iload_n hX dX7_split_0 rfl ?_
  refine wa_sP hX (tX7_noKey I x) bX7_noKey mX7_106 (by decide) (by decide) rfl rfl (Nat.le_of_ble_eq_true rfl) dX7_split_1 (fun r_1 q_1 => ?_)
  subst q_1
  refine wa_if_eq (tgt := 9) hX dX7_split_4 (by decide) (fun c_4 => ?_) (fun c_4 => ?_)
  · skip
    have n_4 : inB 16 x = true := by have := bI_0.mp c_4; simpa using this
    obtain ⟨k, hk, ek⟩ := inB_t (by decide) n_4
    subst ek
    refine wa_iload_n hX dX7_split_9 rfl ?_
    refine wa_iconst (v := nI 0) hX dX7_split_10 (by decide) ?_
    refine wa_iconst (v := nI 1) hX dX7_split_11 (by decide) ?_
    refine wa_sP hX (tX7_in I y (nI 0) (nI 1)) bX7_in mX7_51 (by decide) (by decide) rfl rfl (Nat.le_of_ble_eq_true rfl) dX7_split_12 (fun r_12 q_12 => ?_)
    rw [inR_B y (by decide)] at q_12
    subst q_12
    refine wa_if_ne (tgt := 21) hX dX7_split_15 (by decide) (fun c_15 => ?_) (fun c_15 => ?_)
    · skip
      obtain ⟨w0, hw0, ew⟩ := inB_t (by decide) (bI_n0.mp c_15)
      subst ew
      refine wa_aload_n hX dX7_split_21 rfl ?_
      refine wa_getR hX fX7_7 rfl (by assumption) (by assumption) dX7_split_22 ?_
      refine wa_sipush (v := nI 415) hX dX7_split_25 (by decide) ?_
      refine wa_iald hX (by assumption) rfl (show 415 < 514 by decide) (by decide) dX7_split_28 ?_
      rw [hV.2.2.1.1]
      refine wa_if_ne (tgt := 37) hX dX7_split_29 (by decide) (fun c_29 => ?_) (fun c_29 => ?_)
      · skip
        have c1 : aHid S ≠ 0 := fun e => c_29 (by rw [e]; rfl)
        refine wa_aload_n hX dX7_split_37 rfl ?_
        refine wa_iload_n hX dX7_split_38 rfl ?_
        refine wa_iload_n hX dX7_split_39 rfl ?_
        refine wa_vP hX (vX7_groups I hM hV hk (show w0 ≤ 1 by omega)) bX7_groups mX7_128 (by decide) (by decide) (ci := 6) ⟨by decide, rfl⟩ (by first | exact hM.1 | assumption) rfl rfl (Nat.le_of_ble_eq_true rfl) dX7_split_40 (fun r_40 q_40 => ?_)
        exact hret _ _ _ _ _ ⟨(by rw [onB_in hk (by decide), onB_in hw0 (by decide), if_neg c1]; exact q_40), rfl, rfl⟩ dX7_split_43
      · skip
        have c1 : aHid S = 0 := eq_of_nI c_29 (by have := hV.2.2.1.2; omega) (by decide)
        refine wa_bipush (v := -4) hX dX7_split_32 (by decide) ?_
        refine wa_goto (tgt := 43) hX dX7_split_34 (by decide) ?_
        exact hret _ _ _ _ _ ⟨(by rw [onB_in hk (by decide), onB_in hw0 (by decide), if_pos c1]), rfl, rfl⟩ dX7_split_43
    · skip
      have n_15 := bI_0.mp c_15
      refine wa_bipush (v := -2) hX dX7_split_18 (by decide) ?_
      exact hret _ _ _ _ _ ⟨(by rw [onB_in hk (by decide)]; exact (onB_out n_15).symm), rfl, rfl⟩ dX7_split_20
  · skip
    have n_4 : inB 16 x = false := by have := bI_n0.mp c_4; simpa using this
    refine wa_iconst (v := -1) hX dX7_split_7 (by decide) ?_
    exact hret _ _ _ _ _ ⟨(by rw [onB_out n_4]), rfl, rfl⟩ dX7_split_8

set_option maxHeartbeats 4000000 in
set_option maxRecDepth 100000 in
theorem tX7_hidden {l : Launch} {D : va_G} {A : Nat → Prop} {N : Nat} {Sh : SM} {J : JM} (I : IM) {Q : Nat} (hM : MM Sh J Q) {S : AS} (hV : VF (I (Q + 1)) S) (x : Int32) : CtP l D A yX7_hidden cX7_hidden 4 FieldType.int 3 N Sh I J [.ref Q, .int x] (fun r => r = onB 6 x (fun w => hidF S w) (-2)) := by
  refine ct_I (l0 := [(0, .ref Q), (1, .int x)]) (by decide +kernel) (Nat.le_of_ble_eq_true rfl) rfl (fun _ _ _ _ => rfl) ?_
  intro X hX hret _ _ _
  have hX : XK X RX7 cX7_hidden 4 3 := hX
  obtain ⟨q0, ⟨qj0, qj1, qj3, qj5, qj6, qj8, qj12, qj13, qj14, qj15, qj16, qj18, qj19⟩, ⟨qs1, qs2, qs3, qs4, qs5, qs6, qs7, qs8, qs9, qs10, qs11, qs12, qs13⟩⟩ := id hM
  refine wa_iload_n hX dX7_hidden_0 rfl ?_
  refine wa_iconst (v := nI 0) hX dX7_hidden_1 (by decide) ?_
  refine wa_iconst (v := nI 5) hX dX7_hidden_2 (by decide) ?_
  refine wa_sP hX (tX7_in I x (nI 0) (nI 5)) bX7_in mX7_51 (by decide) (by decide) rfl rfl (Nat.le_of_ble_eq_true rfl) dX7_hidden_3 (fun r_3 q_3 => ?_)
  rw [inR_B x (by decide)] at q_3
  subst q_3
  refine wa_if_ne (tgt := 12) hX dX7_hidden_6 (by decide) (fun c_6 => ?_) (fun c_6 => ?_)
  · skip
    obtain ⟨w0, hw0, ew⟩ := inB_t (by decide) (bI_n0.mp c_6)
    subst ew
    refine wa_aload_n hX dX7_hidden_12 rfl ?_
    refine wa_getR hX fX7_7 rfl (by assumption) (by assumption) dX7_hidden_13 ?_
    refine wa_sipush (v := nI 415) hX dX7_hidden_16 (by decide) ?_
    refine wa_iald hX (by assumption) rfl (show 415 < 514 by decide) (by decide) dX7_hidden_19 ?_
    rw [hV.2.2.1.1]
    refine wa_if_ne (tgt := 26) hX dX7_hidden_20 (by decide) (fun c_20 => ?_) (fun c_20 => ?_)
    · skip
      have c1 : aHid S ≠ 0 := fun e => c_20 (by rw [e]; rfl)
      obtain ⟨hd, ehd⟩ : ∃ hd, aHid S = hd + 1 := ⟨aHid S - 1, by omega⟩
      refine wa_iload_n hX dX7_hidden_26 rfl ?_
      refine wa_iconst (v := nI 2) hX dX7_hidden_27 (by decide) ?_
      refine wa_icmp_ge (tgt := 42) hX dX7_hidden_28 (by decide) (fun c_28 => ?_) (fun c_28 => ?_)
      · skip
        have c2 : 2 ≤ w0 := by
          rcases Nat.lt_or_ge w0 2 with q | q
          · exact absurd c_28 (nI_ge q (by decide))
          · exact q
        refine wa_aload_n hX dX7_hidden_42 rfl ?_
        refine wa_vP hX (tX7_isFound I hM hV ehd) bX7_isFound mX7_210 (by decide) (by decide) (ci := 6) ⟨by decide, rfl⟩ (by first | exact hM.1 | assumption) rfl rfl (Nat.le_of_ble_eq_true rfl) dX7_hidden_43 (fun r_43 q_43 => ?_)
        have e9 : fndV (aSus S) (aKn S) hd = fndV (aSus S) (aKn S) (aHid S - 1) := by rw [ehd, Nat.add_sub_cancel]
        rw [e9] at q_43
        subst q_43
        refine wa_istore_n hX dX7_hidden_46 (by decide) ?_
        refine wa_iload_n hX dX7_hidden_47 rfl ?_
        refine wa_iconst (v := nI 2) hX dX7_hidden_48 (by decide) ?_
        refine wa_icmp_ne (tgt := 62) hX dX7_hidden_49 (by decide) (fun c_49 => ?_) (fun c_49 => ?_)
        · skip
          have c3 := ne_of_nI c_49
          obtain ⟨v, ev⟩ : ∃ v, w0 = v + 3 := ⟨w0 - 3, by omega⟩
          subst ev
          refine wa_iload_n hX dX7_hidden_62 rfl ?_
          refine wa_if_eq (tgt := 69) hX dX7_hidden_63 (by decide) (fun c_63 => ?_) (fun c_63 => ?_)
          · skip
            have c4 := bI_0.mp c_63
            refine wa_aload_n hX dX7_hidden_69 rfl ?_
            refine wa_vP hX (tX7_bestKey I hM hV) bX7_bestKey mX7_213 (by decide) (by decide) (ci := 6) ⟨by decide, rfl⟩ (by first | exact hM.1 | assumption) rfl rfl (Nat.le_of_ble_eq_true rfl) dX7_hidden_70 (fun r_70 q_70 => ?_)
            subst q_70
            have hb : bstV (aSus S) (aKn S) ≤ 15 := bst_le (aSus S) (aKn S) 15
            refine wa_istore_n hX dX7_hidden_73 (by decide) ?_
            refine wa_iload_n hX dX7_hidden_74 rfl ?_
            refine wa_iconst (v := nI 3) hX dX7_hidden_75 (by decide) ?_
            refine wa_icmp_ne (tgt := 83) hX dX7_hidden_76 (by decide) (fun c_76 => ?_) (fun c_76 => ?_)
            · skip
              have c5 := ne_of_nI c_76
              refine wa_aload_n hX dX7_hidden_83 rfl ?_
              refine wa_iload_n hX dX7_hidden_84 rfl ?_
              refine wa_iconst (v := nI 5) hX dX7_hidden_85 (by decide) ?_
              refine wa_iload_n hX dX7_hidden_86 rfl ?_
              refine wa_isub hX dX7_hidden_87 ?_
              rw [show nI 5 - nI (v + 3) = nI (5 - (v + 3)) from pk_sub (by omega)]
              refine wa_vP hX (vX7_groups I hM hV (show bstV (aSus S) (aKn S) < 16 by omega) (w := 5 - (v + 3)) (by omega)) bX7_groups mX7_128 (by decide) (by decide) (ci := 6) ⟨by decide, rfl⟩ (by first | exact hM.1 | assumption) rfl rfl (Nat.le_of_ble_eq_true rfl) dX7_hidden_88 (fun r_88 q_88 => ?_)
              exact hret _ _ _ _ _ ⟨(by rw [onB_in hw0 (by decide)]; unfold hidF; rw [if_neg c1]; show r_88 = if fndV (aSus S) (aKn S) (aHid S - 1) = true then -5 else abkF (aSus S) (aKn S) (v + 3); rw [if_neg (by rw [c4]; decide), q_88]; unfold abkF splF; rcases (show v = 1 ∨ v = 2 by omega) with rfl | rfl <;> rfl), rfl, rfl⟩ dX7_hidden_91
            · skip
              have c5 := eq_of_nI c_76 (by omega) (by decide)
              refine wa_iload_n hX dX7_hidden_79 rfl ?_
              refine wa_goto (tgt := 91) hX dX7_hidden_80 (by decide) ?_
              exact hret _ _ _ _ _ ⟨(by rw [onB_in hw0 (by decide)]; unfold hidF; rw [if_neg c1]; show nI (bstV (aSus S) (aKn S)) = if fndV (aSus S) (aKn S) (aHid S - 1) = true then -5 else abkF (aSus S) (aKn S) (v + 3); rw [if_neg (by rw [c4]; decide)]; unfold abkF; rw [if_pos c5]), rfl, rfl⟩ dX7_hidden_91
          · skip
            have c4 := bI_n0.mp c_63
            refine wa_bipush (v := -5) hX dX7_hidden_66 (by decide) ?_
            exact hret _ _ _ _ _ ⟨(by rw [onB_in hw0 (by decide)]; unfold hidF; rw [if_neg c1]; show -5 = if fndV (aSus S) (aKn S) (aHid S - 1) = true then -5 else _; rw [if_pos c4]), rfl, rfl⟩ dX7_hidden_68
        · skip
          have c3 := eq_of_nI c_49 (by omega) (by decide)
          subst c3
          refine wa_iload_n hX dX7_hidden_52 rfl ?_
          refine wa_if_eq (tgt := 60) hX dX7_hidden_53 (by decide) (fun c_53 => ?_) (fun c_53 => ?_)
          · skip
            have c4 := bI_0.mp c_53
            refine wa_iconst (v := nI 0) hX dX7_hidden_60 (by decide) ?_
            exact hret _ _ _ _ _ ⟨(by rw [onB_in hw0 (by decide)]; unfold hidF; rw [if_neg c1]; exact (congrArg bI c4).symm), rfl, rfl⟩ dX7_hidden_61
          · skip
            have c4 := bI_n0.mp c_53
            refine wa_iconst (v := nI 1) hX dX7_hidden_56 (by decide) ?_
            refine wa_goto (tgt := 61) hX dX7_hidden_57 (by decide) ?_
            exact hret _ _ _ _ _ ⟨(by rw [onB_in hw0 (by decide)]; unfold hidF; rw [if_neg c1]; exact (congrArg bI c4).symm), rfl, rfl⟩ dX7_hidden_61
      · skip
        have c2 : w0 < 2 := by
          rcases Nat.lt_or_ge w0 2 with q | q
          · exact q
          · exact absurd (nI_le q (by omega)) c_28
        refine wa_aload_n hX dX7_hidden_31 rfl ?_
        refine wa_getR hX fX7_7 rfl (by assumption) (by assumption) dX7_hidden_32 ?_
        refine wa_sipush (v := nI 416) hX dX7_hidden_35 (by decide) ?_
        refine wa_iload_n hX dX7_hidden_38 rfl ?_
        refine wa_iadd hX dX7_hidden_39 ?_
        refine wa_iald hX (by assumption) (nI_add 416 w0) (show 416 + w0 < 514 by omega) (by decide) dX7_hidden_40 ?_
        rcases (show w0 = 0 ∨ w0 = 1 by omega) with rfl | rfl
        · exact hret _ _ _ _ _ ⟨(by rw [onB_in hw0 (by decide)]; unfold hidF; rw [if_neg c1]; exact hV.2.2.2.1.1), rfl, rfl⟩ dX7_hidden_41
        · exact hret _ _ _ _ _ ⟨(by rw [onB_in hw0 (by decide)]; unfold hidF; rw [if_neg c1]; exact hV.2.2.2.2.1), rfl, rfl⟩ dX7_hidden_41
    · skip
      have c1 : aHid S = 0 := eq_of_nI c_20 (by have := hV.2.2.1.2; omega) (by decide)
      refine wa_bipush (v := -4) hX dX7_hidden_23 (by decide) ?_
      exact hret _ _ _ _ _ ⟨(by rw [onB_in hw0 (by decide)]; unfold hidF; rw [if_pos c1]), rfl, rfl⟩ dX7_hidden_25
  · skip
    have n_6 := bI_0.mp c_6
    refine wa_bipush (v := -2) hX dX7_hidden_9 (by decide) ?_
    exact hret _ _ _ _ _ ⟨(by exact (onB_out n_6).symm), rfl, rfl⟩ dX7_hidden_11

