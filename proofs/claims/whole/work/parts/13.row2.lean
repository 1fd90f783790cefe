/-! the rest of Row -/
theorem kMaxL2 : Cond.methodLink RX2 41 Lib.Math.max.name ∈ TWg := tw_dec (by decide +kernel)
theorem kMaxL3 : Cond.methodLink RX3 57 Lib.Math.max.name ∈ TWg := tw_dec (by decide +kernel)
theorem kMaxS : Cond.static Lib.Math.max.name ∈ TWg := tw_dec (by decide +kernel)
theorem kMaxI : Cond.initialized "java/lang/Math" ∈ TWg := tw_dec (by decide +kernel)
theorem kMaxC : Cond.code Lib.Math.max.name Lib.Math.max.code 2 (some .int) ∈ TWg := tw_dec (by decide +kernel)
theorem kCpL : Cond.methodLink RX2 9 arraycopyName ∈ TWg := tw_dec (by decide +kernel)
theorem kCpN : Cond.native arraycopyName ∈ TWg := tw_dec (by decide +kernel)
theorem kCpS : Cond.static arraycopyName ∈ TWg := tw_dec (by decide +kernel)
theorem kCpI : Cond.initialized "java/lang/System" ∈ TWg := tw_dec (by decide +kernel)
set_option maxHeartbeats 4000000 in
set_option maxRecDepth 100000 in
theorem tX2_cycleOf {l : Launch} {D : va_G} {A : Nat → Prop} {N : Nat} {Sh : SM} {J : JM} (I : IM) {a : Nat} {v : Nat → Nat} (hs : shI Sh a 16) (hv : RV (I a) v) {j : Nat} (hj : j ≤ 16) : CtP l D A yX2_cycleOf cX2_cycleOf 4 FieldType.int 1 N Sh I J [.ref a, .int (nI j)] (fun r => r = nI (cyc v j)) := by
  refine ct_I (l0 := [(0, .ref a), (1, .int (nI j))]) (by decide +kernel) (Nat.le_of_ble_eq_true rfl) rfl (fun _ _ _ _ => rfl) ?_
  intro X hX hret _ _ _
  have hX : XK X RX2 cX2_cycleOf 4 1 := hX
  have lp : ∀ (n i : Nat) (x2 : Int32), i + n = 16 → (x2 = nI (itr v i j)) → (cyc v j = cycN v j n (i + 1)) → WX X 0 0 N Sh I J 4 [(0, .ref a), (1, .int (nI j)), (2, .int x2), (3, .int (nI (i + 1)))] [] := by
    intro n
    induction n with
    | zero =>
      intro i x2 hi e2 ec
      obtain rfl : 16 = i := by omega
      refine wa_iload_n hX dX2_cycleOf_4 rfl ?_
      refine wa_bipush (v := nI 16) hX dX2_cycleOf_5 (by decide) ?_
      refine wa_icmp_gt (tgt := 37) hX dX2_cycleOf_7 (by decide) (fun c_7 => ?_) (fun c_7 => absurd (by decide) c_7)
      refine wa_iconst (v := nI 0) hX dX2_cycleOf_37 (by decide) ?_
      exact hret _ _ _ _ _ ⟨(by rw [ec]; rfl), rfl, rfl⟩ dX2_cycleOf_38
    | succ n ih =>
      intro i x2 hi e2 ec
      have hlt : i < 16 := by omega
      refine wa_iload_n hX dX2_cycleOf_4 rfl ?_
      refine wa_bipush (v := nI 16) hX dX2_cycleOf_5 (by decide) ?_
      refine wa_icmp_gt (tgt := 37) hX dX2_cycleOf_7 (by decide) (fun c_7 => absurd c_7 (nI_nlt (by omega) (by decide))) (fun c_7 => ?_)
      refine wa_aload_n hX dX2_cycleOf_10 rfl ?_
      subst e2
      refine wa_iload_n hX dX2_cycleOf_11 rfl ?_
      refine wa_sP hX (tX2_step I hs hv (itr_le hv i hj)) bX2_step mX2_15 (by decide) (by decide) rfl rfl (Nat.le_of_ble_eq_true rfl) dX2_cycleOf_12 (fun r_12 q_12 => ?_)
      rw [← itr_s] at q_12
      subst q_12
      refine wa_istore_n hX dX2_cycleOf_15 (by decide) ?_
      refine wa_iload_n hX dX2_cycleOf_16 rfl ?_
      refine wa_bipush (v := nI 16) hX dX2_cycleOf_17 (by decide) ?_
      refine wa_icmp_ne (tgt := 24) hX dX2_cycleOf_19 (by decide) (fun c_19 => ?_) (fun c_19 => ?_)
      · skip
        have c1 := ne_of_nI c_19
        refine wa_iload_n hX dX2_cycleOf_24 rfl ?_
        refine wa_iload_n hX dX2_cycleOf_25 rfl ?_
        refine wa_icmp_ne (tgt := 31) hX dX2_cycleOf_26 (by decide) (fun c_26 => ?_) (fun c_26 => ?_)
        · skip
          have c2 := ne_of_nI c_26
          refine wa_iinc hX dX2_cycleOf_31 rfl (inc1 _) (by decide) ?_
          refine wa_goto (tgt := 4) hX dX2_cycleOf_34 (by decide) ?_
          refine wx_sub (l' := [(0, _), (1, _), (2, _), (3, _)]) ⟨rfl, rfl, rfl, rfl, trivial⟩ ?_
          exact ih (i + 1) _ (by omega) rfl (by rw [ec]; simp [cycN, c1, c2])
        · skip
          have c2 := eq_of_nI c_26 (by have := itr_le hv (i + 1) hj; omega) (by omega)
          refine wa_iload_n hX dX2_cycleOf_29 rfl ?_
          exact hret _ _ _ _ _ ⟨(by rw [ec]; have c3 : ¬ j = 16 := fun h => c1 (c2.trans h); simp [cycN, c2, c3]), rfl, rfl⟩ dX2_cycleOf_30
      · skip
        have c1 := eq_of_nI c_19 (by have := itr_le hv (i + 1) hj; omega) (by decide)
        refine wa_iconst (v := nI 0) hX dX2_cycleOf_22 (by decide) ?_
        exact hret _ _ _ _ _ ⟨(by rw [ec]; simp [cycN, c1]), rfl, rfl⟩ dX2_cycleOf_23
  refine wa_iload_n hX dX2_cycleOf_0 rfl ?_
  refine wa_istore_n hX dX2_cycleOf_1 (by decide) ?_
  refine wa_iconst (v := nI 1) hX dX2_cycleOf_2 (by decide) ?_
  refine wa_istore_n hX dX2_cycleOf_3 (by decide) ?_
  exact lp 16 0 _ (by omega) rfl rfl

set_option maxHeartbeats 4000000 in
set_option maxRecDepth 100000 in
theorem tX2_stepsToHole {l : Launch} {D : va_G} {A : Nat → Prop} {N : Nat} {Sh : SM} {J : JM} (I : IM) {a : Nat} {v : Nat → Nat} (hs : shI Sh a 16) (hv : RV (I a) v) {j : Nat} (hj : j ≤ 16) : CtP l D A yX2_stepsToHole cX2_stepsToHole 4 FieldType.int 1 N Sh I J [.ref a, .int (nI j)] (fun r => r = sthN v j 16 0) := by
  refine ct_I (l0 := [(0, .ref a), (1, .int (nI j))]) (by decide +kernel) (Nat.le_of_ble_eq_true rfl) rfl (fun _ _ _ _ => rfl) ?_
  intro X hX hret _ _ _
  have hX : XK X RX2 cX2_stepsToHole 4 1 := hX
  have lp : ∀ (n i : Nat) (x2 : Int32), i + n = 16 → (x2 = nI (itr v i j)) → (sthN v j 16 0 = sthN v j n i) → WX X 0 0 N Sh I J 4 [(0, .ref a), (1, .int (nI j)), (2, .int x2), (3, .int (nI i))] [] := by
    intro n
    induction n with
    | zero =>
      intro i x2 hi e2 ec
      obtain rfl : 16 = i := by omega
      refine wa_iload_n hX dX2_stepsToHole_4 rfl ?_
      refine wa_bipush (v := nI 16) hX dX2_stepsToHole_5 (by decide) ?_
      refine wa_icmp_ge (tgt := 30) hX dX2_stepsToHole_7 (by decide) (fun c_7 => ?_) (fun c_7 => absurd (Int32.le_refl _) c_7)
      refine wa_bipush (v := -5) hX dX2_stepsToHole_30 (by decide) ?_
      exact hret _ _ _ _ _ ⟨(by rw [ec]; rfl), rfl, rfl⟩ dX2_stepsToHole_32
    | succ n ih =>
      intro i x2 hi e2 ec
      have hlt : i < 16 := by omega
      refine wa_iload_n hX dX2_stepsToHole_4 rfl ?_
      refine wa_bipush (v := nI 16) hX dX2_stepsToHole_5 (by decide) ?_
      refine wa_icmp_ge (tgt := 30) hX dX2_stepsToHole_7 (by decide) (fun c_7 => absurd c_7 (nI_ge hlt (by decide))) (fun c_7 => ?_)
      refine wa_aload_n hX dX2_stepsToHole_10 rfl ?_
      subst e2
      refine wa_iload_n hX dX2_stepsToHole_11 rfl ?_
      refine wa_sP hX (tX2_step I hs hv (itr_le hv i hj)) bX2_step mX2_15 (by decide) (by decide) rfl rfl (Nat.le_of_ble_eq_true rfl) dX2_stepsToHole_12 (fun r_12 q_12 => ?_)
      rw [← itr_s] at q_12
      subst q_12
      refine wa_istore_n hX dX2_stepsToHole_15 (by decide) ?_
      refine wa_iload_n hX dX2_stepsToHole_16 rfl ?_
      refine wa_bipush (v := nI 16) hX dX2_stepsToHole_17 (by decide) ?_
      refine wa_icmp_ne (tgt := 24) hX dX2_stepsToHole_19 (by decide) (fun c_19 => ?_) (fun c_19 => ?_)
      · skip
        have c1 := ne_of_nI c_19
        refine wa_iinc hX dX2_stepsToHole_24 rfl (inc1 _) (by decide) ?_
        refine wa_goto (tgt := 4) hX dX2_stepsToHole_27 (by decide) ?_
        refine wx_sub (l' := [(0, _), (1, _), (2, _), (3, _)]) ⟨rfl, rfl, rfl, rfl, trivial⟩ ?_
        exact ih (i + 1) _ (by omega) rfl (by rw [ec]; simp [sthN, c1])
      · skip
        have c1 := eq_of_nI c_19 (by have := itr_le hv (i + 1) hj; omega) (by decide)
        refine wa_iload_n hX dX2_stepsToHole_22 rfl ?_
        exact hret _ _ _ _ _ ⟨(by rw [ec]; simp [sthN, c1]), rfl, rfl⟩ dX2_stepsToHole_23
  refine wa_iload_n hX dX2_stepsToHole_0 rfl ?_
  refine wa_istore_n hX dX2_stepsToHole_1 (by decide) ?_
  refine wa_iconst (v := nI 0) hX dX2_stepsToHole_2 (by decide) ?_
  refine wa_istore_n hX dX2_stepsToHole_3 (by decide) ?_
  exact lp 16 0 _ (by omega) rfl rfl

set_option maxHeartbeats 4000000 in
set_option maxRecDepth 100000 in
theorem tX2_stepsToSecondMeeting {l : Launch} {D : va_G} {A : Nat → Prop} {N : Nat} {Sh : SM} {J : JM} (I : IM) {a : Nat} {v : Nat → Nat} (hs : shI Sh a 16) (hv : RV (I a) v) {j : Nat} (hj : j ≤ 16) : CtP l D A yX2_stepsToSecondMeeting cX2_stepsToSecondMeeting 5 FieldType.int 1 N Sh I J [.ref a, .int (nI j)] (fun r => r = retN v j 17 0) := by
  refine ct_I (l0 := [(0, .ref a), (1, .int (nI j))]) (by decide +kernel) (Nat.le_of_ble_eq_true rfl) rfl (fun _ _ _ _ => rfl) ?_
  intro X hX hret _ _ _
  have hX : XK X RX2 cX2_stepsToSecondMeeting 5 1 := hX
  have lp : ∀ (n i : Nat) (x2 : Int32), i + n = 17 → (x2 = nI (itr v i j)) → (∀ t, t < i → itr v t j < 16) → (retN v j 17 0 = retN v j n i) → WX X 0 0 N Sh I J 7 [(0, .ref a), (1, .int (nI j)), (2, .int x2), (3, .int (metI v j i)), (4, .int (nI i))] [] := by
    intro n
    induction n with
    | zero =>
      intro i x2 hi e2 hm ec
      obtain rfl : 17 = i := by omega
      refine wa_iload hX dX2_stepsToSecondMeeting_7 rfl ?_
      refine wa_bipush (v := nI 16) hX dX2_stepsToSecondMeeting_9 (by decide) ?_
      refine wa_icmp_gt (tgt := 50) hX dX2_stepsToSecondMeeting_11 (by decide) (fun c_11 => ?_) (fun c_11 => absurd (by decide) c_11)
      refine wa_bipush (v := -5) hX dX2_stepsToSecondMeeting_50 (by decide) ?_
      exact hret _ _ _ _ _ ⟨(by rw [ec]; rfl), rfl, rfl⟩ dX2_stepsToSecondMeeting_52
    | succ n ih =>
      intro i x2 hi e2 hm ec
      have hlt : i < 17 := by omega
      refine wa_iload hX dX2_stepsToSecondMeeting_7 rfl ?_
      refine wa_bipush (v := nI 16) hX dX2_stepsToSecondMeeting_9 (by decide) ?_
      refine wa_icmp_gt (tgt := 50) hX dX2_stepsToSecondMeeting_11 (by decide) (fun c_11 => absurd c_11 (nI_nlt (by omega) (by decide))) (fun c_11 => ?_)
      subst e2
      refine wa_iload_n hX dX2_stepsToSecondMeeting_14 rfl ?_
      refine wa_bipush (v := nI 16) hX dX2_stepsToSecondMeeting_15 (by decide) ?_
      refine wa_icmp_eq (tgt := 50) hX dX2_stepsToSecondMeeting_17 (by decide) (fun c_17 => ?_) (fun c_17 => ?_)
      · skip
        have c1 := eq_of_nI c_17 (by have := itr_le hv i hj; omega) (by decide)
        refine wa_bipush (v := -5) hX dX2_stepsToSecondMeeting_50 (by decide) ?_
        exact hret _ _ _ _ _ ⟨(by rw [ec]; simp [retN, c1]), rfl, rfl⟩ dX2_stepsToSecondMeeting_52
      · skip
        have c1 := ne_of_nI c_17
        have c3 : itr v i j < 16 := by have := itr_le hv i hj; omega
        have c4 := bt_metI v j (w := itr v i j) (by omega) i (fun t ht => by have := hm t ht; omega)
        refine wa_iload_n hX dX2_stepsToSecondMeeting_20 rfl ?_
        refine wa_iload_n hX dX2_stepsToSecondMeeting_21 rfl ?_
        refine wa_ishr hX dX2_stepsToSecondMeeting_22 ?_
        refine wa_iconst (v := nI 1) hX dX2_stepsToSecondMeeting_23 (by decide) ?_
        refine wa_iand hX dX2_stepsToSecondMeeting_24 ?_
        refine wa_iconst (v := nI 1) hX dX2_stepsToSecondMeeting_25 (by decide) ?_
        refine wa_icmp_ne (tgt := 32) hX dX2_stepsToSecondMeeting_26 (by decide) (fun c_26 => ?_) (fun c_26 => ?_)
        · skip
          have c2 : metB v j i (itr v i j) = false := by
            rw [← c4]
            exact Bool.eq_false_iff.mpr (fun h => c_26 ((bt_t1 (by omega) _).mpr h))
          refine wa_iload_n hX dX2_stepsToSecondMeeting_32 rfl ?_
          refine wa_iconst (v := nI 1) hX dX2_stepsToSecondMeeting_33 (by decide) ?_
          refine wa_iload_n hX dX2_stepsToSecondMeeting_34 rfl ?_
          refine wa_ishl hX dX2_stepsToSecondMeeting_35 ?_
          refine wa_ior hX dX2_stepsToSecondMeeting_36 ?_
          refine wa_istore_n hX dX2_stepsToSecondMeeting_37 (by decide) ?_
          refine wa_aload_n hX dX2_stepsToSecondMeeting_38 rfl ?_
          refine wa_iload_n hX dX2_stepsToSecondMeeting_39 rfl ?_
          refine wa_sP hX (tX2_step I hs hv (itr_le hv i hj)) bX2_step mX2_15 (by decide) (by decide) rfl rfl (Nat.le_of_ble_eq_true rfl) dX2_stepsToSecondMeeting_40 (fun r_40 q_40 => ?_)
          rw [← itr_s] at q_40
          refine wa_istore_n hX dX2_stepsToSecondMeeting_43 (by decide) ?_
          refine wa_iinc hX dX2_stepsToSecondMeeting_44 rfl (inc1 _) (by decide) ?_
          refine wa_goto (tgt := 7) hX dX2_stepsToSecondMeeting_47 (by decide) ?_
          refine wx_sub (l' := [(0, _), (1, _), (2, _), (3, _), (4, _)]) ⟨rfl, rfl, rfl, rfl, rfl, trivial⟩ ?_
          exact ih (i + 1) _ (by omega) q_40 (lt_s hm c3) (by rw [ec]; simp [retN, c1, c2])
        · skip
          have c2 := (bt_t1 (by omega) _).mp c_26
          rw [c4] at c2
          refine wa_iload hX dX2_stepsToSecondMeeting_29 rfl ?_
          exact hret _ _ _ _ _ ⟨(by rw [ec]; simp [retN, c1, c2]), rfl, rfl⟩ dX2_stepsToSecondMeeting_31
  refine wa_iload_n hX dX2_stepsToSecondMeeting_0 rfl ?_
  refine wa_istore_n hX dX2_stepsToSecondMeeting_1 (by decide) ?_
  refine wa_iconst (v := nI 0) hX dX2_stepsToSecondMeeting_2 (by decide) ?_
  refine wa_istore_n hX dX2_stepsToSecondMeeting_3 (by decide) ?_
  refine wa_iconst (v := nI 0) hX dX2_stepsToSecondMeeting_4 (by decide) ?_
  refine wa_istore hX dX2_stepsToSecondMeeting_5 (by decide) ?_
  exact lp 17 0 _ (by omega) rfl (fun t ht => absurd ht (by omega)) rfl

set_option maxHeartbeats 4000000 in
set_option maxRecDepth 100000 in
theorem tX2_cycleMet {l : Launch} {D : va_G} {A : Nat → Prop} {N : Nat} {Sh : SM} {J : JM} (I : IM) {a : Nat} {v : Nat → Nat} (hs : shI Sh a 16) (hv : RV (I a) v) {j : Nat} (hj : j ≤ 16) : CtP l D A yX2_cycleMet cX2_cycleMet 3 FieldType.int 2 N Sh I J [.ref a, .int (nI j)] (fun r => r = if itr v 16 j = 16 then -5 else nI (cyc v (itr v 16 j))) := by
  refine ct_I (l0 := [(0, .ref a), (1, .int (nI j))]) (by decide +kernel) (Nat.le_of_ble_eq_true rfl) rfl (fun _ _ _ _ => rfl) ?_
  intro X hX hret _ _ _
  have hX : XK X RX2 cX2_cycleMet 3 2 := hX
  refine wa_aload_n hX dX2_cycleMet_0 rfl ?_
  refine wa_iload_n hX dX2_cycleMet_1 rfl ?_
  refine wa_bipush (v := nI 16) hX dX2_cycleMet_2 (by decide) ?_
  refine wa_sP hX (tX2_walk I hs hv hj (show 16 < 2 ^ 31 by decide)) bX2_walk mX2_21 (by decide) (by decide) rfl rfl (Nat.le_of_ble_eq_true rfl) dX2_cycleMet_4 (fun r_4 q_4 => ?_)
  subst q_4
  refine wa_istore_n hX dX2_cycleMet_7 (by decide) ?_
  refine wa_iload_n hX dX2_cycleMet_8 rfl ?_
  refine wa_bipush (v := nI 16) hX dX2_cycleMet_9 (by decide) ?_
  refine wa_icmp_ne (tgt := 19) hX dX2_cycleMet_11 (by decide) (fun c_11 => ?_) (fun c_11 => ?_)
  · skip
    have c1 := ne_of_nI c_11
    refine wa_aload_n hX dX2_cycleMet_19 rfl ?_
    refine wa_iload_n hX dX2_cycleMet_20 rfl ?_
    refine wa_sP hX (tX2_cycleOf I hs hv (itr_le hv 16 hj)) bX2_cycleOf mX2_25 (by decide) (by decide) rfl rfl (Nat.le_of_ble_eq_true rfl) dX2_cycleMet_21 (fun r_21 q_21 => ?_)
    exact hret _ _ _ _ _ ⟨(by simp [c1, q_21]), rfl, rfl⟩ dX2_cycleMet_24
  · skip
    have c1 := eq_of_nI c_11 (by have := itr_le hv 16 hj; omega) (by decide)
    refine wa_bipush (v := -5) hX dX2_cycleMet_14 (by decide) ?_
    refine wa_goto (tgt := 24) hX dX2_cycleMet_16 (by decide) ?_
    exact hret _ _ _ _ _ ⟨(by simp [c1]), rfl, rfl⟩ dX2_cycleMet_24

theorem cyc_lt {v : Nat → Nat} {j : Nat} : cyc v j < 2 ^ 31 := by
  have : ∀ f s, s + f ≤ 17 → cycN v j f s ≤ 16 := by
    intro f
    induction f with
    | zero => intro s _; exact Nat.zero_le _
    | succ f ih =>
      intro s hs
      unfold cycN
      split
      · omega
      · split
        · omega
        · exact ih (s + 1) (by omega)
  have := this 16 1 (by omega)
  unfold cyc
  omega
set_option maxHeartbeats 4000000 in
set_option maxRecDepth 100000 in
theorem tX2_cyclic {l : Launch} {D : va_G} {A : Nat → Prop} {N : Nat} {Sh : SM} {J : JM} (I : IM) {a : Nat} {v : Nat → Nat} (hs : shI Sh a 16) (hv : RV (I a) v) : CtP l D A yX2_cyclic cX2_cyclic 3 FieldType.int 2 N Sh I J [.ref a] (fun r => r = bset (fun k => decide (0 < cyc v k)) 16) := by
  refine ct_I (l0 := [(0, .ref a)]) (by decide +kernel) (Nat.le_of_ble_eq_true rfl) rfl (fun _ _ _ _ => rfl) ?_
  intro X hX hret _ _ _
  have hX : XK X RX2 cX2_cyclic 3 2 := hX
  have lp : ∀ (n i : Nat) (x : Int32), i + n = 16 → (x = bset (fun k => decide (0 < cyc v k)) i) → WX X 0 0 N Sh I J 4 [(0, .ref a), (1, .int x), (2, .int (nI i))] [] := by
    intro n
    induction n with
    | zero =>
      intro i x hi ex
      obtain rfl : 16 = i := by omega
      refine wa_iload_n hX dX2_cyclic_4 rfl ?_
      refine wa_bipush (v := nI 16) hX dX2_cyclic_5 (by decide) ?_
      refine wa_icmp_ge (tgt := 30) hX dX2_cyclic_7 (by decide) (fun c_7 => ?_) (fun c_7 => absurd (Int32.le_refl _) c_7)
      refine wa_iload_n hX dX2_cyclic_30 rfl ?_
      exact hret _ _ _ _ _ ⟨ex, rfl, rfl⟩ dX2_cyclic_31
    | succ n ih =>
      intro i x hi ex
      have hlt : i < 16 := by omega
      refine wa_iload_n hX dX2_cyclic_4 rfl ?_
      refine wa_bipush (v := nI 16) hX dX2_cyclic_5 (by decide) ?_
      refine wa_icmp_ge (tgt := 30) hX dX2_cyclic_7 (by decide) (fun c_7 => absurd c_7 (nI_ge hlt (by decide))) (fun c_7 => ?_)
      refine wa_aload_n hX dX2_cyclic_10 rfl ?_
      refine wa_iload_n hX dX2_cyclic_11 rfl ?_
      refine wa_sP hX (tX2_cycleOf I hs hv (show i ≤ 16 by omega)) bX2_cycleOf mX2_25 (by decide) (by decide) rfl rfl (Nat.le_of_ble_eq_true rfl) dX2_cyclic_12 (fun r_12 q_12 => ?_)
      subst q_12
      refine wa_if_le (tgt := 24) hX dX2_cyclic_15 (by decide) (fun c_15 => ?_) (fun c_15 => ?_)
      · skip
        have c1 : ¬ 0 < cyc v i := by
          intro h
          exact absurd c_15 (nI_nle h cyc_lt)
        refine wa_iinc hX dX2_cyclic_24 rfl (inc1 _) (by decide) ?_
        refine wa_goto (tgt := 4) hX dX2_cyclic_27 (by decide) ?_
        refine wx_sub (l' := [(0, _), (1, _), (2, _)]) ⟨rfl, rfl, rfl, trivial⟩ ?_
        exact ih (i + 1) _ (by omega) (by rw [ex]; exact (bset_f (by simp [c1])).symm)
      · skip
        have c1 : 0 < cyc v i := by
          rcases Nat.eq_zero_or_pos (cyc v i) with h | h
          · rw [h] at c_15; exact absurd (Int32.le_refl _) c_15
          · exact h
        refine wa_iload_n hX dX2_cyclic_18 rfl ?_
        refine wa_iconst (v := nI 1) hX dX2_cyclic_19 (by decide) ?_
        refine wa_iload_n hX dX2_cyclic_20 rfl ?_
        refine wa_ishl hX dX2_cyclic_21 ?_
        refine wa_ior hX dX2_cyclic_22 ?_
        refine wa_istore_n hX dX2_cyclic_23 (by decide) ?_
        refine wa_iinc hX dX2_cyclic_24 rfl (inc1 _) (by decide) ?_
        refine wa_goto (tgt := 4) hX dX2_cyclic_27 (by decide) ?_
        refine wx_sub (l' := [(0, _), (1, _), (2, _)]) ⟨rfl, rfl, rfl, trivial⟩ ?_
        exact ih (i + 1) _ (by omega) (by rw [ex]; exact (bset_t (by simp [c1])).symm)
  refine wa_iconst (v := nI 0) hX dX2_cyclic_0 (by decide) ?_
  refine wa_istore_n hX dX2_cyclic_1 (by decide) ?_
  refine wa_iconst (v := nI 0) hX dX2_cyclic_2 (by decide) ?_
  refine wa_istore_n hX dX2_cyclic_3 (by decide) ?_
  exact lp 16 0 _ (by omega) rfl

set_option maxHeartbeats 4000000 in
set_option maxRecDepth 100000 in
theorem tX2_longestCycle {l : Launch} {D : va_G} {A : Nat → Prop} {N : Nat} {Sh : SM} {J : JM} (I : IM) {a : Nat} {v : Nat → Nat} (hs : shI Sh a 16) (hv : RV (I a) v) : CtP l D A yX2_longestCycle cX2_longestCycle 3 FieldType.int 2 N Sh I J [.ref a] (fun r => r = fold (fun k x => maxI x (nI (cyc v k))) (nI 0) 16) := by
  refine ct_I (l0 := [(0, .ref a)]) (by decide +kernel) (Nat.le_of_ble_eq_true rfl) rfl (fun _ _ _ _ => rfl) ?_
  intro X hX hret _ _ _
  have hX : XK X RX2 cX2_longestCycle 3 2 := hX
  have lp : ∀ (n i : Nat) (x : Int32), i + n = 16 → (x = fold (fun k x => maxI x (nI (cyc v k))) (nI 0) i) → WX X 0 0 N Sh I J 4 [(0, .ref a), (1, .int x), (2, .int (nI i))] [] := by
    intro n
    induction n with
    | zero =>
      intro i x hi ex
      obtain rfl : 16 = i := by omega
      refine wa_iload_n hX dX2_longestCycle_4 rfl ?_
      refine wa_bipush (v := nI 16) hX dX2_longestCycle_5 (by decide) ?_
      refine wa_icmp_ge (tgt := 26) hX dX2_longestCycle_7 (by decide) (fun c_7 => ?_) (fun c_7 => absurd (Int32.le_refl _) c_7)
      refine wa_iload_n hX dX2_longestCycle_26 rfl ?_
      exact hret _ _ _ _ _ ⟨ex, rfl, rfl⟩ dX2_longestCycle_27
    | succ n ih =>
      intro i x hi ex
      have hlt : i < 16 := by omega
      refine wa_iload_n hX dX2_longestCycle_4 rfl ?_
      refine wa_bipush (v := nI 16) hX dX2_longestCycle_5 (by decide) ?_
      refine wa_icmp_ge (tgt := 26) hX dX2_longestCycle_7 (by decide) (fun c_7 => absurd c_7 (nI_ge hlt (by decide))) (fun c_7 => ?_)
      refine wa_iload_n hX dX2_longestCycle_10 rfl ?_
      refine wa_aload_n hX dX2_longestCycle_11 rfl ?_
      refine wa_iload_n hX dX2_longestCycle_12 rfl ?_
      refine wa_sP hX (tX2_cycleOf I hs hv (show i ≤ 16 by omega)) bX2_cycleOf mX2_25 (by decide) (by decide) rfl rfl (Nat.le_of_ble_eq_true rfl) dX2_longestCycle_13 (fun r_13 q_13 => ?_)
      subst q_13
      refine wa_max hX kMaxL2 kMaxS kMaxI kMaxC (by decide) (Nat.le_of_ble_eq_true rfl) dX2_longestCycle_16 ?_
      refine wa_istore_n hX dX2_longestCycle_19 (by decide) ?_
      refine wa_iinc hX dX2_longestCycle_20 rfl (inc1 _) (by decide) ?_
      refine wa_goto (tgt := 4) hX dX2_longestCycle_23 (by decide) ?_
      refine wx_sub (l' := [(0, _), (1, _), (2, _)]) ⟨rfl, rfl, rfl, trivial⟩ ?_
      exact ih (i + 1) _ (by omega) (by rw [ex]; rfl)
  refine wa_iconst (v := nI 0) hX dX2_longestCycle_0 (by decide) ?_
  refine wa_istore_n hX dX2_longestCycle_1 (by decide) ?_
  refine wa_iconst (v := nI 0) hX dX2_longestCycle_2 (by decide) ?_
  refine wa_istore_n hX dX2_longestCycle_3 (by decide) ?_
  exact lp 16 0 _ (by omega) rfl

set_option maxHeartbeats 4000000 in
set_option maxRecDepth 100000 in
theorem tX2_copy {l : Launch} {D : va_G} {A : Nat → Prop} {N : Nat} {Sh : SM} {J : JM} (I : IM) {a b : Nat} (hs : shI Sh a 16) (hs2 : shI Sh b 16) : CtW l D A yX2_copy cX2_copy 2 1 N Sh I J [.ref a, .ref b] (fun I' => I' = uR I b (I a)) := by
  refine ct_V (l0 := [(0, .ref a), (1, .ref b)]) (by decide +kernel) (Nat.le_of_ble_eq_true rfl) rfl ?_
  intro X hX hret _ _ _
  have hX : XK X RX2 cX2_copy 2 1 := hX
  refine wa_aload_n hX dX2_copy_0 rfl ?_
  refine wa_iconst (v := nI 0) hX dX2_copy_1 (by decide) ?_
  refine wa_aload_n hX dX2_copy_2 rfl ?_
  refine wa_iconst (v := nI 0) hX dX2_copy_3 (by decide) ?_
  refine wa_bipush (v := nI 16) hX dX2_copy_4 (by decide) ?_
  refine wa_copy16 hX kCpL kCpN kCpS kCpI hs hs2 (by decide) (Nat.le_of_ble_eq_true rfl) dX2_copy_6 ?_
  exact hret _ _ _ _ ⟨rfl, rfl⟩ dX2_copy_9

