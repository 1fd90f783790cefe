/-! Pile: an object at a; its layers' rows at a+2+l, which are on at a+6, its values at a+7, its height a's place 3 -/
def PL (Sh : SM) (J : JM) (a : Nat) : Prop := Sh a = some (.inr 0) ∧ J a 0 = some (a + 1) ∧ J a 1 = some (a + 6) ∧ J a 2 = some (a + 7) ∧ shR Sh (a + 1) 4 ∧ (∀ j, j < 4 → J (a + 1) j = some (a + 2 + j) ∧ shI Sh (a + 2 + j) 16) ∧ shZ Sh (a + 6) 4 ∧ shI Sh (a + 7) 16
/-- the layer l is on and has an entry for k -/
def lon (I : IM) (a k l : Nat) : Bool := !decide (I (a + 6) l = 0) && !decide (I (a + 2 + l) k = nI 17)
def tlc (I : IM) (a k l : Nat) : Bool := decide (nI l < I a 3) && lon I a k l
/-- the layer that tells of k, or -1 -/
def telC (I : IM) (a k : Nat) : Int32 := top (tlc I a k) 4
theorem lt_nI {a b : Nat} (h : a < b) (hb : b < 2 ^ 31) : nI a < nI b := nI_lt h hb
set_option maxHeartbeats 4000000 in
set_option maxRecDepth 100000 in
theorem tX0_entriesIn {l : Launch} {D : va_G} {A : Nat → Prop} {N : Nat} {Sh : SM} {J : JM} (I : IM) {a : Nat} (hP : PL Sh J a) {la : Nat} (hla : la < 4) : CtP l D A yX0_entriesIn cX0_entriesIn 4 FieldType.int 0 N Sh I J [.ref a, .int (nI la)] (fun r => r = nI (cnt (fun k => !decide (I (a + 2 + la) k = nI 17)) 16)) := by
  refine ct_I (l0 := [(0, .ref a), (1, .int (nI la))]) (by decide +kernel) (Nat.le_of_ble_eq_true rfl) rfl (fun _ _ _ _ => rfl) ?_
  intro X hX hret _ _ _
  have hX : XK X RX0 cX0_entriesIn 4 0 := hX
  obtain ⟨h0, hj0, hj1, hj2, hr, hrow, hz, hv7⟩ := hP
  have lp : ∀ (n i : Nat) (x : Int32), i + n = 16 → (x = nI (cnt (fun k => !decide (I (a + 2 + la) k = nI 17)) i)) → WX X 0 0 N Sh I J 4 [(0, .ref a), (1, .int (nI la)), (2, .int x), (3, .int (nI i))] [] := by
    intro n
    induction n with
    | zero =>
      intro i x hi ex
      obtain rfl : 16 = i := by omega
      refine wa_iload_n hX dX0_entriesIn_4 rfl ?_
      refine wa_bipush (v := nI 16) hX dX0_entriesIn_5 (by decide) ?_
      refine wa_icmp_ge (tgt := 32) hX dX0_entriesIn_7 (by decide) (fun c_7 => ?_) (fun c_7 => absurd (Int32.le_refl _) c_7)
      refine wa_iload_n hX dX0_entriesIn_32 rfl ?_
      exact hret _ _ _ _ _ ⟨ex, rfl, rfl⟩ dX0_entriesIn_33
    | succ n ih =>
      intro i x hi ex
      have hlt : i < 16 := by omega
      refine wa_iload_n hX dX0_entriesIn_4 rfl ?_
      refine wa_bipush (v := nI 16) hX dX0_entriesIn_5 (by decide) ?_
      refine wa_icmp_ge (tgt := 32) hX dX0_entriesIn_7 (by decide) (fun c_7 => absurd c_7 (nI_ge hlt (by decide))) (fun c_7 => ?_)
      refine wa_aload_n hX dX0_entriesIn_10 rfl ?_
      refine wa_getR hX fX0_11 rfl (by assumption) (by assumption) dX0_entriesIn_11 ?_
      refine wa_iload_n hX dX0_entriesIn_14 rfl ?_
      refine wa_aald hX (by assumption) rfl hla (by decide) (hrow la hla).1 dX0_entriesIn_15 ?_
      refine wa_iload_n hX dX0_entriesIn_16 rfl ?_
      refine wa_iald hX (hrow la hla).2 rfl (by first | assumption | omega) (by decide) dX0_entriesIn_17 ?_
      refine wa_bipush (v := nI 17) hX dX0_entriesIn_18 (by decide) ?_
      refine wa_icmp_eq (tgt := 26) hX dX0_entriesIn_20 (by decide) (fun c_20 => ?_) (fun c_20 => ?_)
      · skip
        refine wa_iinc hX dX0_entriesIn_26 rfl (inc1 _) (by decide) ?_
        refine wa_goto (tgt := 4) hX dX0_entriesIn_29 (by decide) ?_
        refine wx_sub (l' := [(0, _), (1, _), (2, _), (3, _)]) ⟨rfl, rfl, rfl, rfl, trivial⟩ ?_
        exact ih (i + 1) _ (by omega) (by rw [ex]; exact (cnt_if (by simp [c_20])))
      · skip
        refine wa_iinc hX dX0_entriesIn_23 rfl rfl (by decide) ?_
        refine wa_iinc hX dX0_entriesIn_26 rfl (inc1 _) (by decide) ?_
        refine wa_goto (tgt := 4) hX dX0_entriesIn_29 (by decide) ?_
        refine wx_sub (l' := [(0, _), (1, _), (2, _), (3, _)]) ⟨rfl, rfl, rfl, rfl, trivial⟩ ?_
        exact ih (i + 1) _ (by omega) (by rw [ex]; exact (cnt_it (by simp [c_20])))
  refine wa_iconst (v := nI 0) hX dX0_entriesIn_0 (by decide) ?_
  refine wa_istore_n hX dX0_entriesIn_1 (by decide) ?_
  refine wa_iconst (v := nI 0) hX dX0_entriesIn_2 (by decide) ?_
  refine wa_istore_n hX dX0_entriesIn_3 (by decide) ?_
  exact lp 16 0 _ (by omega) rfl

set_option maxHeartbeats 4000000 in
set_option maxRecDepth 100000 in
theorem tX0_nowhereIn {l : Launch} {D : va_G} {A : Nat → Prop} {N : Nat} {Sh : SM} {J : JM} (I : IM) {a : Nat} (hP : PL Sh J a) {la : Nat} (hla : la < 4) : CtP l D A yX0_nowhereIn cX0_nowhereIn 4 FieldType.int 0 N Sh I J [.ref a, .int (nI la)] (fun r => r = nI (cnt (fun k => decide (I (a + 2 + la) k = nI 16)) 16)) := by
  refine ct_I (l0 := [(0, .ref a), (1, .int (nI la))]) (by decide +kernel) (Nat.le_of_ble_eq_true rfl) rfl (fun _ _ _ _ => rfl) ?_
  intro X hX hret _ _ _
  have hX : XK X RX0 cX0_nowhereIn 4 0 := hX
  obtain ⟨h0, hj0, hj1, hj2, hr, hrow, hz, hv7⟩ := hP
  have lp : ∀ (n i : Nat) (x : Int32), i + n = 16 → (x = nI (cnt (fun k => decide (I (a + 2 + la) k = nI 16)) i)) → WX X 0 0 N Sh I J 4 [(0, .ref a), (1, .int (nI la)), (2, .int x), (3, .int (nI i))] [] := by
    intro n
    induction n with
    | zero =>
      intro i x hi ex
      obtain rfl : 16 = i := by omega
      refine wa_iload_n hX dX0_nowhereIn_4 rfl ?_
      refine wa_bipush (v := nI 16) hX dX0_nowhereIn_5 (by decide) ?_
      refine wa_icmp_ge (tgt := 32) hX dX0_nowhereIn_7 (by decide) (fun c_7 => ?_) (fun c_7 => absurd (Int32.le_refl _) c_7)
      refine wa_iload_n hX dX0_nowhereIn_32 rfl ?_
      exact hret _ _ _ _ _ ⟨ex, rfl, rfl⟩ dX0_nowhereIn_33
    | succ n ih =>
      intro i x hi ex
      have hlt : i < 16 := by omega
      refine wa_iload_n hX dX0_nowhereIn_4 rfl ?_
      refine wa_bipush (v := nI 16) hX dX0_nowhereIn_5 (by decide) ?_
      refine wa_icmp_ge (tgt := 32) hX dX0_nowhereIn_7 (by decide) (fun c_7 => absurd c_7 (nI_ge hlt (by decide))) (fun c_7 => ?_)
      refine wa_aload_n hX dX0_nowhereIn_10 rfl ?_
      refine wa_getR hX fX0_11 rfl (by assumption) (by assumption) dX0_nowhereIn_11 ?_
      refine wa_iload_n hX dX0_nowhereIn_14 rfl ?_
      refine wa_aald hX (by assumption) rfl hla (by decide) (hrow la hla).1 dX0_nowhereIn_15 ?_
      refine wa_iload_n hX dX0_nowhereIn_16 rfl ?_
      refine wa_iald hX (hrow la hla).2 rfl (by first | assumption | omega) (by decide) dX0_nowhereIn_17 ?_
      refine wa_bipush (v := nI 16) hX dX0_nowhereIn_18 (by decide) ?_
      refine wa_icmp_ne (tgt := 26) hX dX0_nowhereIn_20 (by decide) (fun c_20 => ?_) (fun c_20 => ?_)
      · skip
        refine wa_iinc hX dX0_nowhereIn_26 rfl (inc1 _) (by decide) ?_
        refine wa_goto (tgt := 4) hX dX0_nowhereIn_29 (by decide) ?_
        refine wx_sub (l' := [(0, _), (1, _), (2, _), (3, _)]) ⟨rfl, rfl, rfl, rfl, trivial⟩ ?_
        exact ih (i + 1) _ (by omega) (by rw [ex]; exact (cnt_if (by simp [c_20])))
      · skip
        refine wa_iinc hX dX0_nowhereIn_23 rfl rfl (by decide) ?_
        refine wa_iinc hX dX0_nowhereIn_26 rfl (inc1 _) (by decide) ?_
        refine wa_goto (tgt := 4) hX dX0_nowhereIn_29 (by decide) ?_
        refine wx_sub (l' := [(0, _), (1, _), (2, _), (3, _)]) ⟨rfl, rfl, rfl, rfl, trivial⟩ ?_
        exact ih (i + 1) _ (by omega) (by rw [ex]; exact (cnt_it (by simp [c_20])))
  refine wa_iconst (v := nI 0) hX dX0_nowhereIn_0 (by decide) ?_
  refine wa_istore_n hX dX0_nowhereIn_1 (by decide) ?_
  refine wa_iconst (v := nI 0) hX dX0_nowhereIn_2 (by decide) ?_
  refine wa_istore_n hX dX0_nowhereIn_3 (by decide) ?_
  exact lp 16 0 _ (by omega) rfl

set_option maxHeartbeats 4000000 in
set_option maxRecDepth 100000 in
theorem tX0_tellingLayer {l : Launch} {D : va_G} {A : Nat → Prop} {N : Nat} {Sh : SM} {J : JM} (I : IM) {a : Nat} (hP : PL Sh J a) {k : Nat} (hk : k < 16) : CtP l D A yX0_tellingLayer cX0_tellingLayer 3 FieldType.int 0 N Sh I J [.ref a, .int (nI k)] (fun r => r = telC I a k) := by
  refine ct_I (l0 := [(0, .ref a), (1, .int (nI k))]) (by decide +kernel) (Nat.le_of_ble_eq_true rfl) rfl (fun _ _ _ _ => rfl) ?_
  intro X hX hret _ _ _
  have hX : XK X RX0 cX0_tellingLayer 3 0 := hX
  obtain ⟨h0, hj0, hj1, hj2, hr, hrow, hz, hv7⟩ := hP
  have lp : ∀ n : Nat, n ≤ 4 → ∀ x : Int32, x = nI n + Int32.ofInt (-1) → telC I a k = top (tlc I a k) n → WX X 0 0 N Sh I J 2 [(0, .ref a), (1, .int (nI k)), (2, .int x)] [] := by
    intro n
    induction n with
    | zero =>
      intro _ x ex et
      subst ex
      refine wa_iload_n hX dX0_tellingLayer_2 rfl ?_
      refine wa_if_lt (tgt := 44) hX dX0_tellingLayer_3 (by decide) (fun c_3 => ?_) (fun c_3 => absurd (by decide) c_3)
      refine wa_iconst (v := -1) hX dX0_tellingLayer_44 (by decide) ?_
      exact hret _ _ _ _ _ ⟨(by rw [et]; rfl), rfl, rfl⟩ dX0_tellingLayer_45
    | succ n ih =>
      intro hn x ex et
      rw [dec1] at ex
      subst ex
      refine wa_iload_n hX dX0_tellingLayer_2 rfl ?_
      refine wa_if_lt (tgt := 44) hX dX0_tellingLayer_3 (by decide) (fun c_3 => absurd c_3 (nI_pos (by omega))) (fun c_3 => ?_)
      refine wa_iload_n hX dX0_tellingLayer_6 rfl ?_
      refine wa_aload_n hX dX0_tellingLayer_7 rfl ?_
      refine wa_getI hX fX0_24 rfl (by assumption) dX0_tellingLayer_8 ?_
      refine wa_icmp_ge (tgt := 38) hX dX0_tellingLayer_11 (by decide) (fun c_11 => ?_) (fun c_11 => ?_)
      · skip
        have c1 : ¬ nI n < I a 3 := Int32.not_lt.mpr c_11
        refine wa_iinc hX dX0_tellingLayer_38 rfl rfl (by decide) ?_
        refine wa_goto (tgt := 2) hX dX0_tellingLayer_41 (by decide) ?_
        exact ih (by omega) _ rfl (by rw [← top_f (p := tlc I a k) (n := n) (by simp [tlc, lon, c1])]; exact et)
      · skip
        have c1 : nI n < I a 3 := Int32.not_le.mp c_11
        refine wa_aload_n hX dX0_tellingLayer_14 rfl ?_
        refine wa_getR hX fX0_16 rfl (by assumption) (by assumption) dX0_tellingLayer_15 ?_
        refine wa_iload_n hX dX0_tellingLayer_18 rfl ?_
        refine wa_zald hX (by assumption) rfl (show n < 4 by omega) (by decide) dX0_tellingLayer_19 ?_
        refine wa_if_eq (tgt := 38) hX dX0_tellingLayer_20 (by decide) (fun c_20 => ?_) (fun c_20 => ?_)
        · skip
          refine wa_iinc hX dX0_tellingLayer_38 rfl rfl (by decide) ?_
          refine wa_goto (tgt := 2) hX dX0_tellingLayer_41 (by decide) ?_
          exact ih (by omega) _ rfl (by rw [← top_f (p := tlc I a k) (n := n) (by simp [tlc, lon, c_20])]; exact et)
        · skip
          refine wa_aload_n hX dX0_tellingLayer_23 rfl ?_
          refine wa_getR hX fX0_11 rfl (by assumption) (by assumption) dX0_tellingLayer_24 ?_
          refine wa_iload_n hX dX0_tellingLayer_27 rfl ?_
          refine wa_aald hX (by assumption) rfl (show n < 4 by omega) (by decide) (hrow n (by omega)).1 dX0_tellingLayer_28 ?_
          refine wa_iload_n hX dX0_tellingLayer_29 rfl ?_
          refine wa_iald hX (hrow n (by omega)).2 rfl hk (by decide) dX0_tellingLayer_30 ?_
          refine wa_bipush (v := nI 17) hX dX0_tellingLayer_31 (by decide) ?_
          refine wa_icmp_eq (tgt := 38) hX dX0_tellingLayer_33 (by decide) (fun c_33 => ?_) (fun c_33 => ?_)
          · skip
            refine wa_iinc hX dX0_tellingLayer_38 rfl rfl (by decide) ?_
            refine wa_goto (tgt := 2) hX dX0_tellingLayer_41 (by decide) ?_
            exact ih (by omega) _ rfl (by rw [← top_f (p := tlc I a k) (n := n) (by simp [tlc, lon, c_33])]; exact et)
          · skip
            refine wa_iload_n hX dX0_tellingLayer_36 rfl ?_
            exact hret _ _ _ _ _ ⟨(by rw [et]; exact (top_t (by simp [tlc, lon, c1, c_20, c_33])).symm), rfl, rfl⟩ dX0_tellingLayer_37
  refine wa_iconst (v := nI 3) hX dX0_tellingLayer_0 (by decide) ?_
  refine wa_istore_n hX dX0_tellingLayer_1 (by decide) ?_
  exact lp 4 (by omega) _ (by decide) rfl

