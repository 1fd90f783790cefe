/-! the smallest static methods and Row -/
def inB (n : Nat) (x : Int32) : Bool := decide (¬ x < 0 ∧ ¬ nI n ≤ x)
theorem inB_t {n : Nat} (hn : n < 2 ^ 31) {x : Int32} (h : inB n x = true) : ∃ j, j < n ∧ x = nI j := by
  have h2 := of_decide_eq_true h
  rcases pk_ix x hn with a | a | a
  · exact absurd a h2.1
  · exact absurd a h2.2
  · exact a
theorem inB_nI {n j : Nat} (hj : j < 2 ^ 31) (hn : n < 2 ^ 31) : inB n (nI j) = decide (j < n) := by
  unfold inB
  by_cases h : j < n
  · have := nI_ge h hn
    simp [h, nI_pos hj, this]
  · have := nI_le (Nat.le_of_not_lt h) hj
    simp [h, this]
theorem inB_f {n : Nat} (hn : n < 2 ^ 31) {x : Int32} (h : inB n x = false) : ∀ j, j < n → x ≠ nI j := by
  intro j hj e
  rw [e, inB_nI (by omega) hn] at h
  simp [hj] at h
def orN (x : Int32) : Int32 := if x = nI 16 then -5 else x
set_option maxHeartbeats 4000000 in
set_option maxRecDepth 100000 in
theorem tX6_isKey {l : Launch} {D : va_G} {A : Nat → Prop} {N : Nat} {Sh : SM} {J : JM} (I : IM) (x : Int32) : CtP l D A yX6_isKey cX6_isKey 1 FieldType.boolean 0 N Sh I J [.int x] (fun r => r = bI (inB 16 x)) := by
  refine ct_I (l0 := [(0, .int x)]) (by decide +kernel) (Nat.le_of_ble_eq_true rfl) rfl (fun _ _ _ h => by obtain ⟨rfl, _⟩ := h; exact nar_B _) ?_
  intro X hX hret _ _ _
  have hX : XK X RX6 cX6_isKey 1 0 := hX
  refine wa_iload_n hX dX6_isKey_0 rfl ?_
  refine wa_if_lt (tgt := 14) hX dX6_isKey_1 (by decide) (fun c_1 => ?_) (fun c_1 => ?_)
  · skip
    refine wa_iconst (v := nI 0) hX dX6_isKey_14 (by decide) ?_
    exact hret _ _ _ _ _ ⟨(by simp [inB, bI, c_1]), rfl, rfl⟩ dX6_isKey_15
  · skip
    refine wa_iload_n hX dX6_isKey_4 rfl ?_
    refine wa_bipush (v := nI 16) hX dX6_isKey_5 (by decide) ?_
    refine wa_icmp_ge (tgt := 14) hX dX6_isKey_7 (by decide) (fun c_7 => ?_) (fun c_7 => ?_)
    · skip
      refine wa_iconst (v := nI 0) hX dX6_isKey_14 (by decide) ?_
      exact hret _ _ _ _ _ ⟨(by simp [inB, bI, c_7]), rfl, rfl⟩ dX6_isKey_15
    · skip
      refine wa_iconst (v := nI 1) hX dX6_isKey_10 (by decide) ?_
      refine wa_goto (tgt := 15) hX dX6_isKey_11 (by decide) ?_
      exact hret _ _ _ _ _ ⟨(by simp [inB, bI, c_1, c_7]), rfl, rfl⟩ dX6_isKey_15

set_option maxHeartbeats 4000000 in
set_option maxRecDepth 100000 in
theorem tX6_isMap {l : Launch} {D : va_G} {A : Nat → Prop} {N : Nat} {Sh : SM} {J : JM} (I : IM) (x : Int32) : CtP l D A yX6_isMap cX6_isMap 1 FieldType.boolean 0 N Sh I J [.int x] (fun r => r = bI (inB 6 x)) := by
  refine ct_I (l0 := [(0, .int x)]) (by decide +kernel) (Nat.le_of_ble_eq_true rfl) rfl (fun _ _ _ h => by obtain ⟨rfl, _⟩ := h; exact nar_B _) ?_
  intro X hX hret _ _ _
  have hX : XK X RX6 cX6_isMap 1 0 := hX
  refine wa_iload_n hX dX6_isMap_0 rfl ?_
  refine wa_if_lt (tgt := 14) hX dX6_isMap_1 (by decide) (fun c_1 => ?_) (fun c_1 => ?_)
  · skip
    refine wa_iconst (v := nI 0) hX dX6_isMap_14 (by decide) ?_
    exact hret _ _ _ _ _ ⟨(by simp [inB, bI, c_1]), rfl, rfl⟩ dX6_isMap_15
  · skip
    refine wa_iload_n hX dX6_isMap_4 rfl ?_
    refine wa_bipush (v := nI 6) hX dX6_isMap_5 (by decide) ?_
    refine wa_icmp_ge (tgt := 14) hX dX6_isMap_7 (by decide) (fun c_7 => ?_) (fun c_7 => ?_)
    · skip
      refine wa_iconst (v := nI 0) hX dX6_isMap_14 (by decide) ?_
      exact hret _ _ _ _ _ ⟨(by simp [inB, bI, c_7]), rfl, rfl⟩ dX6_isMap_15
    · skip
      refine wa_iconst (v := nI 1) hX dX6_isMap_10 (by decide) ?_
      refine wa_goto (tgt := 15) hX dX6_isMap_11 (by decide) ?_
      exact hret _ _ _ _ _ ⟨(by simp [inB, bI, c_1, c_7]), rfl, rfl⟩ dX6_isMap_15

set_option maxHeartbeats 4000000 in
set_option maxRecDepth 100000 in
theorem tX6_orNone {l : Launch} {D : va_G} {A : Nat → Prop} {N : Nat} {Sh : SM} {J : JM} (I : IM) (x : Int32) : CtP l D A yX6_orNone cX6_orNone 1 FieldType.int 0 N Sh I J [.int x] (fun r => r = orN x) := by
  refine ct_I (l0 := [(0, .int x)]) (by decide +kernel) (Nat.le_of_ble_eq_true rfl) rfl (fun _ _ _ _ => rfl) ?_
  intro X hX hret _ _ _
  have hX : XK X RX6 cX6_orNone 1 0 := hX
  refine wa_iload_n hX dX6_orNone_0 rfl ?_
  refine wa_bipush (v := nI 16) hX dX6_orNone_1 (by decide) ?_
  refine wa_icmp_ne (tgt := 11) hX dX6_orNone_3 (by decide) (fun c_3 => ?_) (fun c_3 => ?_)
  · skip
    refine wa_iload_n hX dX6_orNone_11 rfl ?_
    exact hret _ _ _ _ _ ⟨(by simp [orN, c_3]), rfl, rfl⟩ dX6_orNone_12
  · skip
    refine wa_bipush (v := -5) hX dX6_orNone_6 (by decide) ?_
    refine wa_goto (tgt := 12) hX dX6_orNone_8 (by decide) ?_
    exact hret _ _ _ _ _ ⟨(by simp [orN, c_3]), rfl, rfl⟩ dX6_orNone_12

set_option maxHeartbeats 4000000 in
set_option maxRecDepth 100000 in
theorem tX2_step {l : Launch} {D : va_G} {A : Nat → Prop} {N : Nat} {Sh : SM} {J : JM} (I : IM) {a : Nat} {v : Nat → Nat} (hs : shI Sh a 16) (hv : RV (I a) v) {j : Nat} (hj : j ≤ 16) : CtP l D A yX2_step cX2_step 2 FieldType.int 0 N Sh I J [.ref a, .int (nI j)] (fun r => r = nI (stp v j)) := by
  refine ct_I (l0 := [(0, .ref a), (1, .int (nI j))]) (by decide +kernel) (Nat.le_of_ble_eq_true rfl) rfl (fun _ _ _ _ => rfl) ?_
  intro X hX hret _ _ _
  have hX : XK X RX2 cX2_step 2 0 := hX
  refine wa_iload_n hX dX2_step_0 rfl ?_
  refine wa_if_lt (tgt := 16) hX dX2_step_1 (by decide) (fun c_1 => absurd c_1 (nI_pos (by omega))) (fun c_1 => ?_)
  refine wa_iload_n hX dX2_step_4 rfl ?_
  refine wa_bipush (v := nI 16) hX dX2_step_5 (by decide) ?_
  refine wa_icmp_ge (tgt := 16) hX dX2_step_7 (by decide) (fun c_7 => ?_) (fun c_7 => ?_)
  · skip
    have hge : j = 16 := by
      rcases Nat.lt_or_ge j 16 with h | h
      · exact absurd c_7 (nI_ge h (by decide))
      · omega
    subst hge
    refine wa_bipush (v := nI 16) hX dX2_step_16 (by decide) ?_
    exact hret _ _ _ _ _ ⟨rfl, rfl, rfl⟩ dX2_step_18
  · skip
    have hlt : j < 16 := by
      rcases Nat.lt_or_ge j 16 with h | h
      · exact h
      · exact absurd (nI_le h (by omega)) c_7
    refine wa_aload_n hX dX2_step_10 rfl ?_
    refine wa_iload_n hX dX2_step_11 rfl ?_
    refine wa_iald hX (by assumption) rfl (by first | assumption | omega) (by decide) dX2_step_12 ?_
    refine wa_goto (tgt := 18) hX dX2_step_13 (by decide) ?_
    exact hret _ _ _ _ _ ⟨(by rw [(hv j hlt).1]; simp [stp, hlt]), rfl, rfl⟩ dX2_step_18

set_option maxHeartbeats 4000000 in
set_option maxRecDepth 100000 in
theorem tX2_walk {l : Launch} {D : va_G} {A : Nat → Prop} {N : Nat} {Sh : SM} {J : JM} (I : IM) {a : Nat} {v : Nat → Nat} (hs : shI Sh a 16) (hv : RV (I a) v) {j n0 : Nat} (hj : j ≤ 16) (hn0 : n0 < 2 ^ 31) : CtP l D A yX2_walk cX2_walk 5 FieldType.int 1 N Sh I J [.ref a, .int (nI j), .int (nI n0)] (fun r => r = nI (itr v n0 j)) := by
  refine ct_I (l0 := [(0, .ref a), (1, .int (nI j)), (2, .int (nI n0))]) (by decide +kernel) (Nat.le_of_ble_eq_true rfl) rfl (fun _ _ _ _ => rfl) ?_
  intro X hX hret _ _ _
  have hX : XK X RX2 cX2_walk 5 1 := hX
  have lp : ∀ (n i : Nat) (x3 : Int32), i + n = n0 → (x3 = nI (itr v i j)) → WX X 0 0 N Sh I J 5 [(0, .ref a), (1, .int (nI j)), (2, .int (nI n0)), (3, .int x3), (4, .int (nI i))] [] := by
    intro n
    induction n with
    | zero =>
      intro i x3 hi e3
      obtain rfl : n0 = i := by omega
      refine wa_iload hX dX2_walk_5 rfl ?_
      refine wa_iload_n hX dX2_walk_7 rfl ?_
      refine wa_icmp_ge (tgt := 29) hX dX2_walk_8 (by decide) (fun c_8 => ?_) (fun c_8 => absurd (Int32.le_refl _) c_8)
      refine wa_iload_n hX dX2_walk_29 rfl ?_
      exact hret _ _ _ _ _ ⟨e3, rfl, rfl⟩ dX2_walk_30
    | succ n ih =>
      intro i x3 hi e3
      have hlt : i < n0 := by omega
      refine wa_iload hX dX2_walk_5 rfl ?_
      refine wa_iload_n hX dX2_walk_7 rfl ?_
      refine wa_icmp_ge (tgt := 29) hX dX2_walk_8 (by decide) (fun c_8 => absurd c_8 (nI_ge hlt hn0)) (fun c_8 => ?_)
      subst e3
      refine wa_iload_n hX dX2_walk_11 rfl ?_
      refine wa_bipush (v := nI 16) hX dX2_walk_12 (by decide) ?_
      refine wa_icmp_eq (tgt := 29) hX dX2_walk_14 (by decide) (fun c_14 => ?_) (fun c_14 => ?_)
      · skip
        have h16 := eq_of_nI c_14 (by have := itr_le hv i hj; omega) (by decide)
        refine wa_iload_n hX dX2_walk_29 rfl ?_
        exact hret _ _ _ _ _ ⟨(by rw [show n0 = i + (n0 - i) by omega, itr_add, h16, itr_16]), rfl, rfl⟩ dX2_walk_30
      · skip
        refine wa_aload_n hX dX2_walk_17 rfl ?_
        refine wa_iload_n hX dX2_walk_18 rfl ?_
        refine wa_sP hX (tX2_step I hs hv (itr_le hv i hj)) bX2_step mX2_15 (by decide) (by decide) rfl rfl (Nat.le_of_ble_eq_true rfl) dX2_walk_19 (fun r_19 q_19 => ?_)
        rw [← itr_s] at q_19
        refine wa_istore_n hX dX2_walk_22 (by decide) ?_
        refine wa_iinc hX dX2_walk_23 rfl (inc1 _) (by decide) ?_
        refine wa_goto (tgt := 5) hX dX2_walk_26 (by decide) ?_
        refine wx_sub (l' := [(0, _), (1, _), (2, _), (3, _), (4, _)]) ⟨rfl, rfl, rfl, rfl, rfl, trivial⟩ ?_
        exact ih (i + 1) _ (by omega) q_19
  refine wa_iload_n hX dX2_walk_0 rfl ?_
  refine wa_istore_n hX dX2_walk_1 (by decide) ?_
  refine wa_iconst (v := nI 0) hX dX2_walk_2 (by decide) ?_
  refine wa_istore hX dX2_walk_3 (by decide) ?_
  exact lp n0 0 _ (by omega) rfl

set_option maxHeartbeats 4000000 in
set_option maxRecDepth 100000 in
theorem tX2_holes {l : Launch} {D : va_G} {A : Nat → Prop} {N : Nat} {Sh : SM} {J : JM} (I : IM) {a : Nat} (hs : shI Sh a 16) : CtP l D A yX2_holes cX2_holes 3 FieldType.int 0 N Sh I J [.ref a] (fun r => r = bset (fun k => decide (I a k = nI 16)) 16) := by
  refine ct_I (l0 := [(0, .ref a)]) (by decide +kernel) (Nat.le_of_ble_eq_true rfl) rfl (fun _ _ _ _ => rfl) ?_
  intro X hX hret _ _ _
  have hX : XK X RX2 cX2_holes 3 0 := hX
  have lp : ∀ (n i : Nat) (x : Int32), i + n = 16 → (x = bset (fun k => decide (I a k = nI 16)) i) → WX X 0 0 N Sh I J 4 [(0, .ref a), (1, .int x), (2, .int (nI i))] [] := by
    intro n
    induction n with
    | zero =>
      intro i x hi ex
      obtain rfl : 16 = i := by omega
      refine wa_iload_n hX dX2_holes_4 rfl ?_
      refine wa_bipush (v := nI 16) hX dX2_holes_5 (by decide) ?_
      refine wa_icmp_ge (tgt := 30) hX dX2_holes_7 (by decide) (fun c_7 => ?_) (fun c_7 => absurd (Int32.le_refl _) c_7)
      refine wa_iload_n hX dX2_holes_30 rfl ?_
      exact hret _ _ _ _ _ ⟨ex, rfl, rfl⟩ dX2_holes_31
    | succ n ih =>
      intro i x hi ex
      have hlt : i < 16 := by omega
      refine wa_iload_n hX dX2_holes_4 rfl ?_
      refine wa_bipush (v := nI 16) hX dX2_holes_5 (by decide) ?_
      refine wa_icmp_ge (tgt := 30) hX dX2_holes_7 (by decide) (fun c_7 => absurd c_7 (nI_ge hlt (by decide))) (fun c_7 => ?_)
      refine wa_aload_n hX dX2_holes_10 rfl ?_
      refine wa_iload_n hX dX2_holes_11 rfl ?_
      refine wa_iald hX (by assumption) rfl (by first | assumption | omega) (by decide) dX2_holes_12 ?_
      refine wa_bipush (v := nI 16) hX dX2_holes_13 (by decide) ?_
      refine wa_icmp_ne (tgt := 24) hX dX2_holes_15 (by decide) (fun c_15 => ?_) (fun c_15 => ?_)
      · skip
        refine wa_iinc hX dX2_holes_24 rfl (inc1 _) (by decide) ?_
        refine wa_goto (tgt := 4) hX dX2_holes_27 (by decide) ?_
        refine wx_sub (l' := [(0, _), (1, _), (2, _)]) ⟨rfl, rfl, rfl, trivial⟩ ?_
        exact ih (i + 1) _ (by omega) (by rw [ex]; exact (bset_f (by simp [c_15])).symm)
      · skip
        refine wa_iload_n hX dX2_holes_18 rfl ?_
        refine wa_iconst (v := nI 1) hX dX2_holes_19 (by decide) ?_
        refine wa_iload_n hX dX2_holes_20 rfl ?_
        refine wa_ishl hX dX2_holes_21 ?_
        refine wa_ior hX dX2_holes_22 ?_
        refine wa_istore_n hX dX2_holes_23 (by decide) ?_
        refine wa_iinc hX dX2_holes_24 rfl (inc1 _) (by decide) ?_
        refine wa_goto (tgt := 4) hX dX2_holes_27 (by decide) ?_
        refine wx_sub (l' := [(0, _), (1, _), (2, _)]) ⟨rfl, rfl, rfl, trivial⟩ ?_
        exact ih (i + 1) _ (by omega) (by rw [ex]; exact (bset_t (by simp [c_15])).symm)
  refine wa_iconst (v := nI 0) hX dX2_holes_0 (by decide) ?_
  refine wa_istore_n hX dX2_holes_1 (by decide) ?_
  refine wa_iconst (v := nI 0) hX dX2_holes_2 (by decide) ?_
  refine wa_istore_n hX dX2_holes_3 (by decide) ?_
  exact lp 16 0 _ (by omega) rfl

set_option maxHeartbeats 4000000 in
set_option maxRecDepth 100000 in
theorem tX2_fixed {l : Launch} {D : va_G} {A : Nat → Prop} {N : Nat} {Sh : SM} {J : JM} (I : IM) {a : Nat} (hs : shI Sh a 16) : CtP l D A yX2_fixed cX2_fixed 3 FieldType.int 0 N Sh I J [.ref a] (fun r => r = bset (fun k => decide (I a k = nI k)) 16) := by
  refine ct_I (l0 := [(0, .ref a)]) (by decide +kernel) (Nat.le_of_ble_eq_true rfl) rfl (fun _ _ _ _ => rfl) ?_
  intro X hX hret _ _ _
  have hX : XK X RX2 cX2_fixed 3 0 := hX
  have lp : ∀ (n i : Nat) (x : Int32), i + n = 16 → (x = bset (fun k => decide (I a k = nI k)) i) → WX X 0 0 N Sh I J 4 [(0, .ref a), (1, .int x), (2, .int (nI i))] [] := by
    intro n
    induction n with
    | zero =>
      intro i x hi ex
      obtain rfl : 16 = i := by omega
      refine wa_iload_n hX dX2_fixed_4 rfl ?_
      refine wa_bipush (v := nI 16) hX dX2_fixed_5 (by decide) ?_
      refine wa_icmp_ge (tgt := 29) hX dX2_fixed_7 (by decide) (fun c_7 => ?_) (fun c_7 => absurd (Int32.le_refl _) c_7)
      refine wa_iload_n hX dX2_fixed_29 rfl ?_
      exact hret _ _ _ _ _ ⟨ex, rfl, rfl⟩ dX2_fixed_30
    | succ n ih =>
      intro i x hi ex
      have hlt : i < 16 := by omega
      refine wa_iload_n hX dX2_fixed_4 rfl ?_
      refine wa_bipush (v := nI 16) hX dX2_fixed_5 (by decide) ?_
      refine wa_icmp_ge (tgt := 29) hX dX2_fixed_7 (by decide) (fun c_7 => absurd c_7 (nI_ge hlt (by decide))) (fun c_7 => ?_)
      refine wa_aload_n hX dX2_fixed_10 rfl ?_
      refine wa_iload_n hX dX2_fixed_11 rfl ?_
      refine wa_iald hX (by assumption) rfl (by first | assumption | omega) (by decide) dX2_fixed_12 ?_
      refine wa_iload_n hX dX2_fixed_13 rfl ?_
      refine wa_icmp_ne (tgt := 23) hX dX2_fixed_14 (by decide) (fun c_14 => ?_) (fun c_14 => ?_)
      · skip
        refine wa_iinc hX dX2_fixed_23 rfl (inc1 _) (by decide) ?_
        refine wa_goto (tgt := 4) hX dX2_fixed_26 (by decide) ?_
        refine wx_sub (l' := [(0, _), (1, _), (2, _)]) ⟨rfl, rfl, rfl, trivial⟩ ?_
        exact ih (i + 1) _ (by omega) (by rw [ex]; exact (bset_f (by simp [c_14])).symm)
      · skip
        refine wa_iload_n hX dX2_fixed_17 rfl ?_
        refine wa_iconst (v := nI 1) hX dX2_fixed_18 (by decide) ?_
        refine wa_iload_n hX dX2_fixed_19 rfl ?_
        refine wa_ishl hX dX2_fixed_20 ?_
        refine wa_ior hX dX2_fixed_21 ?_
        refine wa_istore_n hX dX2_fixed_22 (by decide) ?_
        refine wa_iinc hX dX2_fixed_23 rfl (inc1 _) (by decide) ?_
        refine wa_goto (tgt := 4) hX dX2_fixed_26 (by decide) ?_
        refine wx_sub (l' := [(0, _), (1, _), (2, _)]) ⟨rfl, rfl, rfl, trivial⟩ ?_
        exact ih (i + 1) _ (by omega) (by rw [ex]; exact (bset_t (by simp [c_14])).symm)
  refine wa_iconst (v := nI 0) hX dX2_fixed_0 (by decide) ?_
  refine wa_istore_n hX dX2_fixed_1 (by decide) ?_
  refine wa_iconst (v := nI 0) hX dX2_fixed_2 (by decide) ?_
  refine wa_istore_n hX dX2_fixed_3 (by decide) ?_
  exact lp 16 0 _ (by omega) rfl

set_option maxHeartbeats 4000000 in
set_option maxRecDepth 100000 in
theorem tX2_difference {l : Launch} {D : va_G} {A : Nat → Prop} {N : Nat} {Sh : SM} {J : JM} (I : IM) {a b : Nat} (hs : shI Sh a 16) (hs2 : shI Sh b 16) : CtP l D A yX2_difference cX2_difference 4 FieldType.int 0 N Sh I J [.ref a, .ref b] (fun r => r = bset (fun k => !decide (I a k = I b k)) 16) := by
  refine ct_I (l0 := [(0, .ref a), (1, .ref b)]) (by decide +kernel) (Nat.le_of_ble_eq_true rfl) rfl (fun _ _ _ _ => rfl) ?_
  intro X hX hret _ _ _
  have hX : XK X RX2 cX2_difference 4 0 := hX
  have lp : ∀ (n i : Nat) (x : Int32), i + n = 16 → (x = bset (fun k => !decide (I a k = I b k)) i) → WX X 0 0 N Sh I J 4 [(0, .ref a), (1, .ref b), (2, .int x), (3, .int (nI i))] [] := by
    intro n
    induction n with
    | zero =>
      intro i x hi ex
      obtain rfl : 16 = i := by omega
      refine wa_iload_n hX dX2_difference_4 rfl ?_
      refine wa_bipush (v := nI 16) hX dX2_difference_5 (by decide) ?_
      refine wa_icmp_ge (tgt := 31) hX dX2_difference_7 (by decide) (fun c_7 => ?_) (fun c_7 => absurd (Int32.le_refl _) c_7)
      refine wa_iload_n hX dX2_difference_31 rfl ?_
      exact hret _ _ _ _ _ ⟨ex, rfl, rfl⟩ dX2_difference_32
    | succ n ih =>
      intro i x hi ex
      have hlt : i < 16 := by omega
      refine wa_iload_n hX dX2_difference_4 rfl ?_
      refine wa_bipush (v := nI 16) hX dX2_difference_5 (by decide) ?_
      refine wa_icmp_ge (tgt := 31) hX dX2_difference_7 (by decide) (fun c_7 => absurd c_7 (nI_ge hlt (by decide))) (fun c_7 => ?_)
      refine wa_aload_n hX dX2_difference_10 rfl ?_
      refine wa_iload_n hX dX2_difference_11 rfl ?_
      refine wa_iald hX hs rfl (by first | assumption | omega) (by decide) dX2_difference_12 ?_
      refine wa_aload_n hX dX2_difference_13 rfl ?_
      refine wa_iload_n hX dX2_difference_14 rfl ?_
      refine wa_iald hX hs2 rfl (by first | assumption | omega) (by decide) dX2_difference_15 ?_
      refine wa_icmp_eq (tgt := 25) hX dX2_difference_16 (by decide) (fun c_16 => ?_) (fun c_16 => ?_)
      · skip
        refine wa_iinc hX dX2_difference_25 rfl (inc1 _) (by decide) ?_
        refine wa_goto (tgt := 4) hX dX2_difference_28 (by decide) ?_
        refine wx_sub (l' := [(0, _), (1, _), (2, _), (3, _)]) ⟨rfl, rfl, rfl, rfl, trivial⟩ ?_
        exact ih (i + 1) _ (by omega) (by rw [ex]; exact (bset_f (by simp [c_16])).symm)
      · skip
        refine wa_iload_n hX dX2_difference_19 rfl ?_
        refine wa_iconst (v := nI 1) hX dX2_difference_20 (by decide) ?_
        refine wa_iload_n hX dX2_difference_21 rfl ?_
        refine wa_ishl hX dX2_difference_22 ?_
        refine wa_ior hX dX2_difference_23 ?_
        refine wa_istore_n hX dX2_difference_24 (by decide) ?_
        refine wa_iinc hX dX2_difference_25 rfl (inc1 _) (by decide) ?_
        refine wa_goto (tgt := 4) hX dX2_difference_28 (by decide) ?_
        refine wx_sub (l' := [(0, _), (1, _), (2, _), (3, _)]) ⟨rfl, rfl, rfl, rfl, trivial⟩ ?_
        exact ih (i + 1) _ (by omega) (by rw [ex]; exact (bset_t (by simp [c_16])).symm)
  refine wa_iconst (v := nI 0) hX dX2_difference_0 (by decide) ?_
  refine wa_istore_n hX dX2_difference_1 (by decide) ?_
  refine wa_iconst (v := nI 0) hX dX2_difference_2 (by decide) ?_
  refine wa_istore_n hX dX2_difference_3 (by decide) ?_
  exact lp 16 0 _ (by omega) rfl

