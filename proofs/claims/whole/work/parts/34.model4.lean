/-! PileMapsModel: what it tells -/
theorem VF.rv {I : IM} {Q : Nat} {S : AS} (h : VF (I (Q + 1)) S) {m : Nat} (hm : m < 6) : RV (fun k => nI (aV S m k)) (aV S m) := fun k hk => ⟨rfl, h.val hm hk⟩
theorem or0 (x : Int32) : x ||| nI 0 = x := by
  apply b_ext
  intro i hi
  rw [b_or]
  have : bt (nI 0) i = false := b_0 i
  rw [this, Bool.or_false]
set_option maxHeartbeats 4000000 in
set_option maxRecDepth 100000 in
theorem tX7_walks {l : Launch} {D : va_G} {A : Nat → Prop} {N : Nat} {Sh : SM} {J : JM} (I : IM) {Q : Nat} (hM : MM Sh J Q) {S : AS} (hV : VF (I (Q + 1)) S) {m j n0 : Nat} (hm : m < 6) (hj : j ≤ 16) (hn0 : n0 < 2 ^ 31) : CtP l D A yX7_walks cX7_walks 6 FieldType.int 3 N Sh I J [.ref Q, .int (nI m), .int (nI j), .int (nI n0)] (fun r => r = nI (itr (aV S m) n0 j)) := by
  refine ct_I (l0 := [(0, .ref Q), (1, .int (nI m)), (2, .int (nI j)), (3, .int (nI n0))]) (by decide +kernel) (Nat.le_of_ble_eq_true rfl) rfl (fun _ _ _ _ => rfl) ?_
  intro X hX hret _ _ _
  have hX : XK X RX7 cX7_walks 6 3 := hX
  have hrv := hV.rv hm
  have lp : ∀ (n i : Nat) (x3 : Int32), i + n = n0 → (x3 = nI (itr (aV S m) i j)) → WX X 0 0 N Sh I J 6 [(0, .ref Q), (1, .int (nI m)), (2, .int (nI j)), (3, .int (nI n0)), (4, .int x3), (5, .int (nI i))] [] := by
    intro n
    induction n with
    | zero =>
      intro i x3 hi e3
      obtain rfl : n0 = i := by omega
      refine wa_iload hX dX7_walks_6 rfl ?_
      refine wa_iload_n hX dX7_walks_8 rfl ?_
      refine wa_icmp_ge (tgt := 34) hX dX7_walks_9 (by decide) (fun c_9 => ?_) (fun c_9 => absurd (Int32.le_refl _) c_9)
      refine wa_iload hX dX7_walks_34 rfl ?_
      exact hret _ _ _ _ _ ⟨e3, rfl, rfl⟩ dX7_walks_36
    | succ n ih =>
      intro i x3 hi e3
      have hlt : i < n0 := by omega
      refine wa_iload hX dX7_walks_6 rfl ?_
      refine wa_iload_n hX dX7_walks_8 rfl ?_
      refine wa_icmp_ge (tgt := 34) hX dX7_walks_9 (by decide) (fun c_9 => absurd c_9 (nI_ge hlt hn0)) (fun c_9 => ?_)
      subst e3
      refine wa_iload hX dX7_walks_12 rfl ?_
      refine wa_bipush (v := nI 16) hX dX7_walks_14 (by decide) ?_
      refine wa_icmp_eq (tgt := 34) hX dX7_walks_16 (by decide) (fun c_16 => ?_) (fun c_16 => ?_)
      · skip
        have h16 := eq_of_nI c_16 (by have := itr_le hrv i hj; omega) (by decide)
        refine wa_iload hX dX7_walks_34 rfl ?_
        exact hret _ _ _ _ _ ⟨(by rw [show n0 = i + (n0 - i) by omega, itr_add, h16, itr_16]), rfl, rfl⟩ dX7_walks_36
      · skip
        have h16 := ne_of_nI c_16
        have hi9 := itr_le hrv i hj
        refine wa_aload_n hX dX7_walks_19 rfl ?_
        refine wa_iload_n hX dX7_walks_20 rfl ?_
        refine wa_iload hX dX7_walks_21 rfl ?_
        refine wa_vP hX (tX7_value I hM hV hm (show itr (aV S m) i j < 16 by omega)) bX7_value mX7_75 (by decide) (by decide) (ci := 6) ⟨by decide, rfl⟩ (by first | assumption | exact hM.1) rfl rfl (Nat.le_of_ble_eq_true rfl) dX7_walks_23 (fun r_23 q_23 => ?_)
        rw [show aV S m (itr (aV S m) i j) = itr (aV S m) (i + 1) j by rw [itr_s]; unfold stp; rw [if_pos (by omega)]] at q_23
        refine wa_istore hX dX7_walks_26 (by decide) ?_
        refine wa_iinc hX dX7_walks_28 rfl (inc1 _) (by decide) ?_
        refine wa_goto (tgt := 6) hX dX7_walks_31 (by decide) ?_
        refine wx_sub (l' := [(0, _), (1, _), (2, _), (3, _), (4, _), (5, _)]) ⟨rfl, rfl, rfl, rfl, rfl, rfl, trivial⟩ ?_
        exact ih (i + 1) _ (by omega) q_23
  refine wa_iload_n hX dX7_walks_0 rfl ?_
  refine wa_istore hX dX7_walks_1 (by decide) ?_
  refine wa_iconst (v := nI 0) hX dX7_walks_3 (by decide) ?_
  refine wa_istore hX dX7_walks_4 (by decide) ?_
  exact lp n0 0 _ (by omega) rfl

theorem metB_1 {v : Nat → Nat} {j w : Nat} (hj : j < 32) (hw : w < 32) : bt (nI 1 <<< (nI j &&& 31)) w = metB v j 1 w := by
  rw [bt_sh hj hw]
  unfold metB
  simp [itr, eq_comm]
set_option maxHeartbeats 4000000 in
set_option maxRecDepth 100000 in
theorem tX7_returns {l : Launch} {D : va_G} {A : Nat → Prop} {N : Nat} {Sh : SM} {J : JM} (I : IM) {Q : Nat} (hM : MM Sh J Q) {S : AS} (hV : VF (I (Q + 1)) S) {m k : Nat} (hm : m < 6) (hk : k < 16) : CtP l D A yX7_returns cX7_returns 6 FieldType.int 3 N Sh I J [.ref Q, .int (nI m), .int (nI k)] (fun r => r = retN (aV S m) k 17 0) := by
  refine ct_I (l0 := [(0, .ref Q), (1, .int (nI m)), (2, .int (nI k))]) (by decide +kernel) (Nat.le_of_ble_eq_true rfl) rfl (fun _ _ _ _ => rfl) ?_
  intro X hX hret _ _ _
  have hX : XK X RX7 cX7_returns 6 3 := hX
  have hrv := hV.rv hm
  have h1 : frs (aV S m) k 1 := by
    intro t ht
    have : t = 0 := by omega
    subst this
    exact ⟨hk, by simp [metB]⟩
  have lp : ∀ (n s : Nat), s + n = 17 → ∀ (x3 x4 : Int32), x4 = nI (itr (aV S m) s k) → (∀ w, w < 32 → bt x3 w = metB (aV S m) k s w) → frs (aV S m) k s → retN (aV S m) k 17 0 = retN (aV S m) k n s → WX X 0 0 N Sh I J 15 [(0, .ref Q), (1, .int (nI m)), (2, .int (nI k)), (3, .int x3), (4, .int x4), (5, .int (nI s))] [] := by
    intro n
    induction n with
    | zero =>
      intro s hs x3 x4 e4 hb hf hr
      have : s = 17 := by omega
      subst this
      exact (frs_17 hf).elim
    | succ n ih =>
      intro s hs x3 x4 e4 hb hf hr
      subst e4
      have hle := itr_le hrv s (show k ≤ 16 by omega)
      refine wa_iload hX dX7_returns_15 rfl ?_
      refine wa_bipush (v := nI 16) hX dX7_returns_17 (by decide) ?_
      refine wa_icmp_eq (tgt := 53) hX dX7_returns_19 (by decide) (fun c_19 => ?_) (fun c_19 => ?_)
      · skip
        have c1 := eq_of_nI c_19 (by omega) (by decide)
        refine wa_iload hX dX7_returns_53 rfl ?_
        refine wa_bipush (v := nI 16) hX dX7_returns_55 (by decide) ?_
        refine wa_icmp_ne (tgt := 65) hX dX7_returns_57 (by decide) (fun c_57 => absurd (by rw [c1]) c_57) (fun c_57 => ?_)
        refine wa_bipush (v := -5) hX dX7_returns_60 (by decide) ?_
        refine wa_goto (tgt := 67) hX dX7_returns_62 (by decide) ?_
        exact hret _ _ _ _ _ ⟨(by rw [hr]; simp [retN, c1]), rfl, rfl⟩ dX7_returns_67
      · skip
        have c1 := ne_of_nI c_19
        refine wa_iload_n hX dX7_returns_22 rfl ?_
        refine wa_iload hX dX7_returns_23 rfl ?_
        refine wa_ishr hX dX7_returns_25 ?_
        refine wa_iconst (v := nI 1) hX dX7_returns_26 (by decide) ?_
        refine wa_iand hX dX7_returns_27 ?_
        refine wa_if_ne (tgt := 53) hX dX7_returns_28 (by decide) (fun c_28 => ?_) (fun c_28 => ?_)
        · skip
          have c2 : metB (aV S m) k s (itr (aV S m) s k) = true := by
            rw [← hb _ (by omega)]
            cases e : bt x3 (itr (aV S m) s k) with
            | true => rfl
            | false => exact absurd ((bt_t0 (by omega) _).mpr e) c_28
          refine wa_iload hX dX7_returns_53 rfl ?_
          refine wa_bipush (v := nI 16) hX dX7_returns_55 (by decide) ?_
          refine wa_icmp_ne (tgt := 65) hX dX7_returns_57 (by decide) (fun c_57 => ?_) (fun c_57 => absurd c_57 c_19)
          refine wa_iload hX dX7_returns_65 rfl ?_
          exact hret _ _ _ _ _ ⟨(by rw [hr]; simp [retN, c1, c2]), rfl, rfl⟩ dX7_returns_67
        · skip
          have c2 : metB (aV S m) k s (itr (aV S m) s k) = false := by rw [← hb _ (by omega)]; exact (bt_t0 (by omega) _).mp c_28
          refine wa_iload_n hX dX7_returns_31 rfl ?_
          refine wa_iconst (v := nI 1) hX dX7_returns_32 (by decide) ?_
          refine wa_iload hX dX7_returns_33 rfl ?_
          refine wa_ishl hX dX7_returns_35 ?_
          refine wa_ior hX dX7_returns_36 ?_
          refine wa_istore_n hX dX7_returns_37 (by decide) ?_
          refine wa_aload_n hX dX7_returns_38 rfl ?_
          refine wa_iload_n hX dX7_returns_39 rfl ?_
          refine wa_iload hX dX7_returns_40 rfl ?_
          refine wa_vP hX (tX7_value I hM hV hm (show itr (aV S m) s k < 16 by omega)) bX7_value mX7_75 (by decide) (by decide) (ci := 6) ⟨by decide, rfl⟩ (by first | assumption | exact hM.1) rfl rfl (Nat.le_of_ble_eq_true rfl) dX7_returns_42 (fun r_42 q_42 => ?_)
          rw [show aV S m (itr (aV S m) s k) = itr (aV S m) (s + 1) k by rw [itr_s]; unfold stp; rw [if_pos (by omega)]] at q_42
          refine wa_istore hX dX7_returns_45 (by decide) ?_
          refine wa_iinc hX dX7_returns_47 rfl (inc1 _) (by decide) ?_
          refine wa_goto (tgt := 15) hX dX7_returns_50 (by decide) ?_
          refine wx_sub (l' := [(0, _), (1, _), (2, _), (3, _), (4, _), (5, _)]) ⟨rfl, rfl, rfl, rfl, rfl, rfl, trivial⟩ ?_
          refine ih (s + 1) (by omega) _ _ q_42 (fun w hw => ?_) (frs_s hf (by omega) c2) (by rw [hr]; simp [retN, c1, c2])
          rw [b_or, hb w hw, bt_sh (by omega) hw, metB_s]
          congr 1
          simp [eq_comm]
  refine wa_iconst (v := nI 1) hX dX7_returns_0 (by decide) ?_
  refine wa_iload_n hX dX7_returns_1 rfl ?_
  refine wa_ishl hX dX7_returns_2 ?_
  refine wa_istore_n hX dX7_returns_3 (by decide) ?_
  refine wa_aload_n hX dX7_returns_4 rfl ?_
  refine wa_iload_n hX dX7_returns_5 rfl ?_
  refine wa_iload_n hX dX7_returns_6 rfl ?_
  refine wa_vP hX (tX7_value I hM hV hm hk) bX7_value mX7_75 (by decide) (by decide) (ci := 6) ⟨by decide, rfl⟩ (by first | assumption | exact hM.1) rfl rfl (Nat.le_of_ble_eq_true rfl) dX7_returns_7 (fun r_7 q_7 => ?_)
  refine wa_istore hX dX7_returns_10 (by decide) ?_
  refine wa_iconst (v := nI 1) hX dX7_returns_12 (by decide) ?_
  refine wa_istore hX dX7_returns_13 (by decide) ?_
  refine wx_sub (l' := [(0, _), (1, _), (2, _), (3, _), (4, _), (5, _)]) ⟨rfl, rfl, rfl, rfl, rfl, rfl, trivial⟩ ?_
  exact lp 16 1 (by omega) _ _ (by rw [q_7]; show _ = nI (stp (aV S m) k); unfold stp; rw [if_pos hk]) (fun w hw => metB_1 (by omega) hw) h1 (ret_01 hk)

set_option maxHeartbeats 4000000 in
set_option maxRecDepth 100000 in
theorem tX7_cycle {l : Launch} {D : va_G} {A : Nat → Prop} {N : Nat} {Sh : SM} {J : JM} (I : IM) {Q : Nat} (hM : MM Sh J Q) {S : AS} (hV : VF (I (Q + 1)) S) {m k : Nat} (hm : m < 6) (hk : k < 16) : CtP l D A yX7_cycle cX7_cycle 4 FieldType.int 4 N Sh I J [.ref Q, .int (nI m), .int (nI k)] (fun r => r = nI (cyc (aV S m) k)) := by
  refine ct_I (l0 := [(0, .ref Q), (1, .int (nI m)), (2, .int (nI k))]) (by decide +kernel) (Nat.le_of_ble_eq_true rfl) rfl (fun _ _ _ _ => rfl) ?_
  intro X hX hret _ _ _
  have hX : XK X RX7 cX7_cycle 4 4 := hX
  have hrv := hV.rv hm
  refine wa_aload_n hX dX7_cycle_0 rfl ?_
  refine wa_iload_n hX dX7_cycle_1 rfl ?_
  refine wa_iload_n hX dX7_cycle_2 rfl ?_
  refine wa_vP hX (tX7_returns I hM hV hm hk) bX7_returns mX7_184 (by decide) (by decide) (ci := 6) ⟨by decide, rfl⟩ (by first | assumption | exact hM.1) rfl rfl (Nat.le_of_ble_eq_true rfl) dX7_cycle_3 (fun r_3 q_3 => ?_)
  subst q_3
  have hcr := cyc_ret hk hrv
  refine wa_istore_n hX dX7_cycle_6 (by decide) ?_
  refine wa_iload_n hX dX7_cycle_7 rfl ?_
  refine wa_bipush (v := -5) hX dX7_cycle_8 (by decide) ?_
  refine wa_icmp_eq (tgt := 28) hX dX7_cycle_10 (by decide) (fun c_10 => ?_) (fun c_10 => ?_)
  · skip
    have c1 : cyc (aV S m) k = 0 := by
      rcases hcr with ⟨_, e⟩ | ⟨t, a, b, e, _⟩
      · exact e
      · rw [e] at c_10
        exact absurd (congrArg Int32.toInt c_10) (by rw [nI_toInt (by omega), show (-5 : Int32).toInt = -5 by decide]; omega)
    refine wa_iconst (v := nI 0) hX dX7_cycle_28 (by decide) ?_
    exact hret _ _ _ _ _ ⟨(by rw [c1]), rfl, rfl⟩ dX7_cycle_29
  · skip
    obtain ⟨t, ht1, ht2, et, hlt9, hcc⟩ : ∃ t, 1 ≤ t ∧ t ≤ 16 ∧ retN (aV S m) k 17 0 = nI t ∧ itr (aV S m) t k < 16 ∧ cyc (aV S m) k = if itr (aV S m) t k = k then t else 0 := by
      rcases hcr with ⟨e, _⟩ | q
      · exact absurd e c_10
      · exact q
    rw [et]
    refine wa_aload_n hX dX7_cycle_13 rfl ?_
    refine wa_iload_n hX dX7_cycle_14 rfl ?_
    refine wa_iload_n hX dX7_cycle_15 rfl ?_
    refine wa_iload_n hX dX7_cycle_16 rfl ?_
    refine wa_vP hX (tX7_walks I hM hV hm (show k ≤ 16 by omega) (show t < 2 ^ 31 by omega)) bX7_walks mX7_187 (by decide) (by decide) (ci := 6) ⟨by decide, rfl⟩ (by first | assumption | exact hM.1) rfl rfl (Nat.le_of_ble_eq_true rfl) dX7_cycle_17 (fun r_17 q_17 => ?_)
    subst q_17
    refine wa_iload_n hX dX7_cycle_20 rfl ?_
    refine wa_icmp_ne (tgt := 28) hX dX7_cycle_21 (by decide) (fun c_21 => ?_) (fun c_21 => ?_)
    · skip
      have c2 := ne_of_nI c_21
      refine wa_iconst (v := nI 0) hX dX7_cycle_28 (by decide) ?_
      exact hret _ _ _ _ _ ⟨(by rw [hcc, if_neg c2]), rfl, rfl⟩ dX7_cycle_29
    · skip
      have c2 := eq_of_nI c_21 (by omega) (by omega)
      refine wa_iload_n hX dX7_cycle_24 rfl ?_
      refine wa_goto (tgt := 29) hX dX7_cycle_25 (by decide) ?_
      exact hret _ _ _ _ _ ⟨(by rw [hcc, if_pos c2]), rfl, rfl⟩ dX7_cycle_29

set_option maxHeartbeats 4000000 in
set_option maxRecDepth 100000 in
theorem tX7_get {l : Launch} {D : va_G} {A : Nat → Prop} {N : Nat} {Sh : SM} {J : JM} (I : IM) {Q : Nat} (hM : MM Sh J Q) {S : AS} (hV : VF (I (Q + 1)) S) (x y : Int32) : CtP l D A yX7_get cX7_get 4 FieldType.int 3 N Sh I J [.ref Q, .int x, .int y] (fun r => r = onB 6 x (fun m => onB 16 y (fun k => orN (nI (aV S m k))) (-1)) (-1)) := by
  refine ct_I (l0 := [(0, .ref Q), (1, .int x), (2, .int y)]) (by decide +kernel) (Nat.le_of_ble_eq_true rfl) rfl (fun _ _ _ _ => rfl) ?_
  intro X hX hret _ _ _
  have hX : XK X RX7 cX7_get 4 3 := hX
  refine wa_iload_n hX dX7_get_0 rfl ?_
  refine wa_sP hX (tX7_noMap I x) bX7_noMap mX7_55 (by decide) (by decide) rfl rfl (Nat.le_of_ble_eq_true rfl) dX7_get_1 (fun r_1 q_1 => ?_)
  subst q_1
  refine wa_if_ne (tgt := 14) hX dX7_get_4 (by decide) (fun c_4 => ?_) (fun c_4 => ?_)
  · skip
    have n_4 : inB 6 x = false := by have := bI_n0.mp c_4; simpa using this
    refine wa_iconst (v := -1) hX dX7_get_14 (by decide) ?_
    exact hret _ _ _ _ _ ⟨(by rw [onB_out n_4]), rfl, rfl⟩ dX7_get_15
  · skip
    have n_4 : inB 6 x = true := by have := bI_0.mp c_4; simpa using this
    obtain ⟨m, hm, em⟩ := inB_t (by decide) n_4
    subst em
    refine wa_iload_n hX dX7_get_7 rfl ?_
    refine wa_sP hX (tX7_noKey I y) bX7_noKey mX7_106 (by decide) (by decide) rfl rfl (Nat.le_of_ble_eq_true rfl) dX7_get_8 (fun r_8 q_8 => ?_)
    subst q_8
    refine wa_if_eq (tgt := 16) hX dX7_get_11 (by decide) (fun c_11 => ?_) (fun c_11 => ?_)
    · skip
      have n_11 : inB 16 y = true := by have := bI_0.mp c_11; simpa using this
      obtain ⟨k, hk, ek⟩ := inB_t (by decide) n_11
      subst ek
      refine wa_aload_n hX dX7_get_16 rfl ?_
      refine wa_iload_n hX dX7_get_17 rfl ?_
      refine wa_iload_n hX dX7_get_18 rfl ?_
      refine wa_vP hX (tX7_value I hM hV hm hk) bX7_value mX7_75 (by decide) (by decide) (ci := 6) ⟨by decide, rfl⟩ (by first | assumption | exact hM.1) rfl rfl (Nat.le_of_ble_eq_true rfl) dX7_get_19 (fun r_19 q_19 => ?_)
      subst q_19
      refine wa_istore_n hX dX7_get_22 (by decide) ?_
      refine wa_iload_n hX dX7_get_23 rfl ?_
      refine wa_bipush (v := nI 16) hX dX7_get_24 (by decide) ?_
      refine wa_icmp_ne (tgt := 34) hX dX7_get_26 (by decide) (fun c_26 => ?_) (fun c_26 => ?_)
      · skip
        refine wa_iload_n hX dX7_get_34 rfl ?_
        exact hret _ _ _ _ _ ⟨(by rw [onB_in hm (by decide), onB_in hk (by decide)]; simp [orN, c_26]), rfl, rfl⟩ dX7_get_35
      · skip
        refine wa_bipush (v := -5) hX dX7_get_29 (by decide) ?_
        refine wa_goto (tgt := 35) hX dX7_get_31 (by decide) ?_
        exact hret _ _ _ _ _ ⟨(by rw [onB_in hm (by decide), onB_in hk (by decide)]; simp [orN, c_26]), rfl, rfl⟩ dX7_get_35
    · skip
      have n_11 : inB 16 y = false := by have := bI_n0.mp c_11; simpa using this
      refine wa_iconst (v := -1) hX dX7_get_14 (by decide) ?_
      exact hret _ _ _ _ _ ⟨(by rw [onB_in hm (by decide), onB_out n_11]), rfl, rfl⟩ dX7_get_15

set_option maxHeartbeats 4000000 in
set_option maxRecDepth 100000 in
theorem tX7_tells {l : Launch} {D : va_G} {A : Nat → Prop} {N : Nat} {Sh : SM} {J : JM} (I : IM) {Q : Nat} (hM : MM Sh J Q) {S : AS} (hV : VF (I (Q + 1)) S) (x y : Int32) : CtP l D A yX7_tells cX7_tells 3 FieldType.int 2 N Sh I J [.ref Q, .int x, .int y] (fun r => r = onB 6 x (fun m => onB 16 y (fun k => tlS S m k) (-1)) (-1)) := by
  refine ct_I (l0 := [(0, .ref Q), (1, .int x), (2, .int y)]) (by decide +kernel) (Nat.le_of_ble_eq_true rfl) rfl (fun _ _ _ _ => rfl) ?_
  intro X hX hret _ _ _
  have hX : XK X RX7 cX7_tells 3 2 := hX
  refine wa_iload_n hX dX7_tells_0 rfl ?_
  refine wa_sP hX (tX7_noMap I x) bX7_noMap mX7_55 (by decide) (by decide) rfl rfl (Nat.le_of_ble_eq_true rfl) dX7_tells_1 (fun r_1 q_1 => ?_)
  subst q_1
  refine wa_if_ne (tgt := 14) hX dX7_tells_4 (by decide) (fun c_4 => ?_) (fun c_4 => ?_)
  · skip
    have n_4 : inB 6 x = false := by have := bI_n0.mp c_4; simpa using this
    refine wa_iconst (v := -1) hX dX7_tells_14 (by decide) ?_
    refine wa_goto (tgt := 24) hX dX7_tells_15 (by decide) ?_
    exact hret _ _ _ _ _ ⟨(by rw [onB_out n_4]), rfl, rfl⟩ dX7_tells_24
  · skip
    have n_4 : inB 6 x = true := by have := bI_0.mp c_4; simpa using this
    obtain ⟨m, hm, em⟩ := inB_t (by decide) n_4
    subst em
    refine wa_iload_n hX dX7_tells_7 rfl ?_
    refine wa_sP hX (tX7_noKey I y) bX7_noKey mX7_106 (by decide) (by decide) rfl rfl (Nat.le_of_ble_eq_true rfl) dX7_tells_8 (fun r_8 q_8 => ?_)
    subst q_8
    refine wa_if_eq (tgt := 18) hX dX7_tells_11 (by decide) (fun c_11 => ?_) (fun c_11 => ?_)
    · skip
      have n_11 : inB 16 y = true := by have := bI_0.mp c_11; simpa using this
      obtain ⟨k, hk, ek⟩ := inB_t (by decide) n_11
      subst ek
      refine wa_aload_n hX dX7_tells_18 rfl ?_
      refine wa_iload_n hX dX7_tells_19 rfl ?_
      refine wa_iload_n hX dX7_tells_20 rfl ?_
      refine wa_vP hX (tX7_teller I hM hV hm hk) bX7_teller mX7_71 (by decide) (by decide) (ci := 6) ⟨by decide, rfl⟩ (by first | assumption | exact hM.1) rfl rfl (Nat.le_of_ble_eq_true rfl) dX7_tells_21 (fun r_21 q_21 => ?_)
      exact hret _ _ _ _ _ ⟨(by rw [onB_in hm (by decide), onB_in hk (by decide)]; exact q_21), rfl, rfl⟩ dX7_tells_24
    · skip
      have n_11 : inB 16 y = false := by have := bI_n0.mp c_11; simpa using this
      refine wa_iconst (v := -1) hX dX7_tells_14 (by decide) ?_
      refine wa_goto (tgt := 24) hX dX7_tells_15 (by decide) ?_
      exact hret _ _ _ _ _ ⟨(by rw [onB_in hm (by decide), onB_out n_11]), rfl, rfl⟩ dX7_tells_24

set_option maxHeartbeats 4000000 in
set_option maxRecDepth 100000 in
theorem tX7_apart {l : Launch} {D : va_G} {A : Nat → Prop} {N : Nat} {Sh : SM} {J : JM} (I : IM) {Q : Nat} (hM : MM Sh J Q) {S : AS} (hV : VF (I (Q + 1)) S) {m o1 : Nat} (hm : m < 6) (ho : o1 < 6) : CtP l D A yX7_apart cX7_apart 5 FieldType.int 3 N Sh I J [.ref Q, .int (nI m), .int (nI o1)] (fun r => r = diffV (aV S m) (aV S o1)) := by
  refine ct_I (l0 := [(0, .ref Q), (1, .int (nI m)), (2, .int (nI o1))]) (by decide +kernel) (Nat.le_of_ble_eq_true rfl) rfl (fun _ _ _ _ => rfl) ?_
  intro X hX hret _ _ _
  have hX : XK X RX7 cX7_apart 5 3 := hX
  have lp : ∀ (n i : Nat) (x : Int32), i + n = 16 → (x = bset (fun k => !decide (aV S m k = aV S o1 k)) i) → WX X 0 0 N Sh I J 5 [(0, .ref Q), (1, .int (nI m)), (2, .int (nI o1)), (3, .int x), (4, .int (nI i))] [] := by
    intro n
    induction n with
    | zero =>
      intro i x hi ex
      obtain rfl : 16 = i := by omega
      refine wa_iload hX dX7_apart_5 rfl ?_
      refine wa_bipush (v := nI 16) hX dX7_apart_7 (by decide) ?_
      refine wa_icmp_ge (tgt := 46) hX dX7_apart_9 (by decide) (fun c_9 => ?_) (fun c_9 => absurd (Int32.le_refl _) c_9)
      refine wa_iload_n hX dX7_apart_46 rfl ?_
      exact hret _ _ _ _ _ ⟨ex, rfl, rfl⟩ dX7_apart_47
    | succ n ih =>
      intro i x hi ex
      have hlt : i < 16 := by omega
      refine wa_iload hX dX7_apart_5 rfl ?_
      refine wa_bipush (v := nI 16) hX dX7_apart_7 (by decide) ?_
      refine wa_icmp_ge (tgt := 46) hX dX7_apart_9 (by decide) (fun c_9 => absurd c_9 (nI_ge hlt (by decide))) (fun c_9 => ?_)
      refine wa_iload_n hX dX7_apart_12 rfl ?_
      refine wa_aload_n hX dX7_apart_13 rfl ?_
      refine wa_iload_n hX dX7_apart_14 rfl ?_
      refine wa_iload hX dX7_apart_15 rfl ?_
      refine wa_vP hX (tX7_value I hM hV hm hlt) bX7_value mX7_75 (by decide) (by decide) (ci := 6) ⟨by decide, rfl⟩ (by first | assumption | exact hM.1) rfl rfl (Nat.le_of_ble_eq_true rfl) dX7_apart_17 (fun r_17 q_17 => ?_)
      subst q_17
      refine wa_aload_n hX dX7_apart_20 rfl ?_
      refine wa_iload_n hX dX7_apart_21 rfl ?_
      refine wa_iload hX dX7_apart_22 rfl ?_
      refine wa_vP hX (tX7_value I hM hV ho hlt) bX7_value mX7_75 (by decide) (by decide) (ci := 6) ⟨by decide, rfl⟩ (by first | assumption | exact hM.1) rfl rfl (Nat.le_of_ble_eq_true rfl) dX7_apart_24 (fun r_24 q_24 => ?_)
      subst q_24
      have a1 := hV.val hm hlt
      have a2 := hV.val ho hlt
      refine wa_icmp_ne (tgt := 34) hX dX7_apart_27 (by decide) (fun c_27 => ?_) (fun c_27 => ?_)
      · skip
        have c1 := ne_of_nI c_27
        refine wa_iconst (v := nI 1) hX dX7_apart_34 (by decide) ?_
        refine wa_iload hX dX7_apart_35 rfl ?_
        refine wa_ishl hX dX7_apart_37 ?_
        refine wa_ior hX dX7_apart_38 ?_
        refine wa_istore_n hX dX7_apart_39 (by decide) ?_
        refine wa_iinc hX dX7_apart_40 rfl (inc1 _) (by decide) ?_
        refine wa_goto (tgt := 5) hX dX7_apart_43 (by decide) ?_
        refine wx_sub (l' := [(0, _), (1, _), (2, _), (3, _), (4, _)]) ⟨rfl, rfl, rfl, rfl, rfl, trivial⟩ ?_
        exact ih (i + 1) _ (by omega) (by rw [ex]; exact (bset_t (p := fun k => !decide (aV S m k = aV S o1 k)) (by simp [c1])).symm)
      · skip
        have c1 := eq_of_nI c_27 (by omega) (by omega)
        refine wa_iconst (v := nI 0) hX dX7_apart_30 (by decide) ?_
        refine wa_goto (tgt := 38) hX dX7_apart_31 (by decide) ?_
        refine wa_ior hX dX7_apart_38 ?_
        refine wa_istore_n hX dX7_apart_39 (by decide) ?_
        refine wa_iinc hX dX7_apart_40 rfl (inc1 _) (by decide) ?_
        refine wa_goto (tgt := 5) hX dX7_apart_43 (by decide) ?_
        refine wx_sub (l' := [(0, _), (1, _), (2, _), (3, _), (4, _)]) ⟨rfl, rfl, rfl, rfl, rfl, trivial⟩ ?_
        exact ih (i + 1) _ (by omega) (by rw [ex, or0]; exact (bset_f (p := fun k => !decide (aV S m k = aV S o1 k)) (by simp [c1])).symm)
  refine wa_iconst (v := nI 0) hX dX7_apart_0 (by decide) ?_
  refine wa_istore_n hX dX7_apart_1 (by decide) ?_
  refine wa_iconst (v := nI 0) hX dX7_apart_2 (by decide) ?_
  refine wa_istore hX dX7_apart_3 (by decide) ?_
  exact lp 16 0 _ (by omega) rfl

set_option maxHeartbeats 4000000 in
set_option maxRecDepth 100000 in
theorem tX7_differ {l : Launch} {D : va_G} {A : Nat → Prop} {N : Nat} {Sh : SM} {J : JM} (I : IM) {Q : Nat} (hM : MM Sh J Q) {S : AS} (hV : VF (I (Q + 1)) S) (x y : Int32) : CtP l D A yX7_differ cX7_differ 3 FieldType.int 4 N Sh I J [.ref Q, .int x, .int y] (fun r => r = onB 6 x (fun m => onB 6 y (fun o1 => diffV (aV S m) (aV S o1)) (-1)) (-1)) := by
  refine ct_I (l0 := [(0, .ref Q), (1, .int x), (2, .int y)]) (by decide +kernel) (Nat.le_of_ble_eq_true rfl) rfl (fun _ _ _ _ => rfl) ?_
  intro X hX hret _ _ _
  have hX : XK X RX7 cX7_differ 3 4 := hX
  refine wa_iload_n hX dX7_differ_0 rfl ?_
  refine wa_sP hX (tX7_noMap I x) bX7_noMap mX7_55 (by decide) (by decide) rfl rfl (Nat.le_of_ble_eq_true rfl) dX7_differ_1 (fun r_1 q_1 => ?_)
  subst q_1
  refine wa_if_ne (tgt := 14) hX dX7_differ_4 (by decide) (fun c_4 => ?_) (fun c_4 => ?_)
  · skip
    have n_4 : inB 6 x = false := by have := bI_n0.mp c_4; simpa using this
    refine wa_iconst (v := -1) hX dX7_differ_14 (by decide) ?_
    refine wa_goto (tgt := 24) hX dX7_differ_15 (by decide) ?_
    exact hret _ _ _ _ _ ⟨(by rw [onB_out n_4]), rfl, rfl⟩ dX7_differ_24
  · skip
    have n_4 : inB 6 x = true := by have := bI_0.mp c_4; simpa using this
    obtain ⟨m, hm, em⟩ := inB_t (by decide) n_4
    subst em
    refine wa_iload_n hX dX7_differ_7 rfl ?_
    refine wa_sP hX (tX7_noMap I y) bX7_noMap mX7_55 (by decide) (by decide) rfl rfl (Nat.le_of_ble_eq_true rfl) dX7_differ_8 (fun r_8 q_8 => ?_)
    subst q_8
    refine wa_if_eq (tgt := 18) hX dX7_differ_11 (by decide) (fun c_11 => ?_) (fun c_11 => ?_)
    · skip
      have n_11 : inB 6 y = true := by have := bI_0.mp c_11; simpa using this
      obtain ⟨o1, ho1, eo1⟩ := inB_t (by decide) n_11
      subst eo1
      refine wa_aload_n hX dX7_differ_18 rfl ?_
      refine wa_iload_n hX dX7_differ_19 rfl ?_
      refine wa_iload_n hX dX7_differ_20 rfl ?_
      refine wa_vP hX (tX7_apart I hM hV hm ho1) bX7_apart mX7_206 (by decide) (by decide) (ci := 6) ⟨by decide, rfl⟩ (by first | assumption | exact hM.1) rfl rfl (Nat.le_of_ble_eq_true rfl) dX7_differ_21 (fun r_21 q_21 => ?_)
      exact hret _ _ _ _ _ ⟨(by rw [onB_in hm (by decide), onB_in ho1 (by decide)]; exact q_21), rfl, rfl⟩ dX7_differ_24
    · skip
      have n_11 : inB 6 y = false := by have := bI_n0.mp c_11; simpa using this
      refine wa_iconst (v := -1) hX dX7_differ_14 (by decide) ?_
      refine wa_goto (tgt := 24) hX dX7_differ_15 (by decide) ?_
      exact hret _ _ _ _ _ ⟨(by rw [onB_in hm (by decide), onB_out n_11]), rfl, rfl⟩ dX7_differ_24

set_option maxHeartbeats 4000000 in
set_option maxRecDepth 100000 in
theorem tX7_onLayers {l : Launch} {D : va_G} {A : Nat → Prop} {N : Nat} {Sh : SM} {J : JM} (I : IM) {Q : Nat} (hM : MM Sh J Q) {S : AS} (hV : VF (I (Q + 1)) S) {m : Nat} (hm : m < 6) : CtP l D A yX7_onLayers cX7_onLayers 4 FieldType.int 1 N Sh I J [.ref Q, .int (nI m)] (fun r => r = nI (cnt (aO S m) (aH S m))) := by
  refine ct_I (l0 := [(0, .ref Q), (1, .int (nI m))]) (by decide +kernel) (Nat.le_of_ble_eq_true rfl) rfl (fun _ _ _ _ => rfl) ?_
  intro X hX hret _ _ _
  have hX : XK X RX7 cX7_onLayers 4 1 := hX
  obtain ⟨q0, ⟨qj0, qj1, qj3, qj5, qj6, qj8, qj12, qj13, qj14, qj15, qj16, qj18, qj19⟩, ⟨qs1, qs2, qs3, qs4, qs5, qs6, qs7, qs8, qs9, qs10, qs11, qs12, qs13⟩⟩ := id hM
  have h4 := (hV.1 m hm).1.1
  have lp : ∀ (n i : Nat) (x : Int32), i + n = aH S m → (x = nI (cnt (aO S m) i)) → WX X 0 0 N Sh I J 4 [(0, .ref Q), (1, .int (nI m)), (2, .int x), (3, .int (nI i))] [] := by
    intro n
    induction n with
    | zero =>
      intro i x hi ex
      obtain rfl : i = aH S m := by omega
      refine wa_iload_n hX dX7_onLayers_4 rfl ?_
      refine wa_aload_n hX dX7_onLayers_5 rfl ?_
      refine wa_getR hX fX7_7 rfl (by assumption) (by assumption) dX7_onLayers_6 ?_
      refine wa_sipush (v := nI 408) hX dX7_onLayers_9 (by decide) ?_
      refine wa_iload_n hX dX7_onLayers_12 rfl ?_
      refine wa_iadd hX dX7_onLayers_13 ?_
      refine wa_iald hX (by assumption) (nI_add 408 m) (show 408 + m < 514 by omega) (by decide) dX7_onLayers_14 ?_
      rw [(hV.1 m hm).1.2]
      refine wa_icmp_ge (tgt := 41) hX dX7_onLayers_15 (by decide) (fun c_15 => ?_) (fun c_15 => absurd (Int32.le_refl _) c_15)
      refine wa_iload_n hX dX7_onLayers_41 rfl ?_
      exact hret _ _ _ _ _ ⟨ex, rfl, rfl⟩ dX7_onLayers_42
    | succ n ih =>
      intro i x hi ex
      have hlt : i < aH S m := by omega
      refine wa_iload_n hX dX7_onLayers_4 rfl ?_
      refine wa_aload_n hX dX7_onLayers_5 rfl ?_
      refine wa_getR hX fX7_7 rfl (by assumption) (by assumption) dX7_onLayers_6 ?_
      refine wa_sipush (v := nI 408) hX dX7_onLayers_9 (by decide) ?_
      refine wa_iload_n hX dX7_onLayers_12 rfl ?_
      refine wa_iadd hX dX7_onLayers_13 ?_
      refine wa_iald hX (by assumption) (nI_add 408 m) (show 408 + m < 514 by omega) (by decide) dX7_onLayers_14 ?_
      rw [(hV.1 m hm).1.2]
      refine wa_icmp_ge (tgt := 41) hX dX7_onLayers_15 (by decide) (fun c_15 => absurd c_15 (nI_ge hlt (by omega))) (fun c_15 => ?_)
      refine wa_iload_n hX dX7_onLayers_18 rfl ?_
      refine wa_aload_n hX dX7_onLayers_19 rfl ?_
      refine wa_iload_n hX dX7_onLayers_20 rfl ?_
      refine wa_iload_n hX dX7_onLayers_21 rfl ?_
      refine wa_vP hX (tX7_isOn I hM hV hm (show i < 4 by omega)) bX7_isOn mX7_63 (by decide) (by decide) (ci := 6) ⟨by decide, rfl⟩ (by first | assumption | exact hM.1) rfl rfl (Nat.le_of_ble_eq_true rfl) dX7_onLayers_22 (fun r_22 q_22 => ?_)
      subst q_22
      refine wa_if_eq (tgt := 32) hX dX7_onLayers_25 (by decide) (fun c_25 => ?_) (fun c_25 => ?_)
      · skip
        have c1 := bI_0.mp c_25
        refine wa_iconst (v := nI 0) hX dX7_onLayers_32 (by decide) ?_
        refine wa_iadd hX dX7_onLayers_33 ?_
        refine wa_istore_n hX dX7_onLayers_34 (by decide) ?_
        refine wa_iinc hX dX7_onLayers_35 rfl (inc1 _) (by decide) ?_
        refine wa_goto (tgt := 4) hX dX7_onLayers_38 (by decide) ?_
        refine wx_sub (l' := [(0, _), (1, _), (2, _), (3, _)]) ⟨rfl, rfl, rfl, rfl, trivial⟩ ?_
        exact ih (i + 1) _ (by omega) (by rw [ex]; exact (nI_add _ 0).trans (congrArg nI (cnt_f c1).symm))
      · skip
        have c1 := bI_n0.mp c_25
        refine wa_iconst (v := nI 1) hX dX7_onLayers_28 (by decide) ?_
        refine wa_goto (tgt := 33) hX dX7_onLayers_29 (by decide) ?_
        refine wa_iadd hX dX7_onLayers_33 ?_
        refine wa_istore_n hX dX7_onLayers_34 (by decide) ?_
        refine wa_iinc hX dX7_onLayers_35 rfl (inc1 _) (by decide) ?_
        refine wa_goto (tgt := 4) hX dX7_onLayers_38 (by decide) ?_
        refine wx_sub (l' := [(0, _), (1, _), (2, _), (3, _)]) ⟨rfl, rfl, rfl, rfl, trivial⟩ ?_
        exact ih (i + 1) _ (by omega) (by rw [ex]; exact (nI_add _ 1).trans (congrArg nI (cnt_t c1).symm))
  refine wa_iconst (v := nI 0) hX dX7_onLayers_0 (by decide) ?_
  refine wa_istore_n hX dX7_onLayers_1 (by decide) ?_
  refine wa_iconst (v := nI 0) hX dX7_onLayers_2 (by decide) ?_
  refine wa_istore_n hX dX7_onLayers_3 (by decide) ?_
  exact lp (aH S m) 0 _ (by omega) rfl

set_option maxHeartbeats 4000000 in
set_option maxRecDepth 100000 in
theorem tX7_longest {l : Launch} {D : va_G} {A : Nat → Prop} {N : Nat} {Sh : SM} {J : JM} (I : IM) {Q : Nat} (hM : MM Sh J Q) {S : AS} (hV : VF (I (Q + 1)) S) {m : Nat} (hm : m < 6) : CtP l D A yX7_longest cX7_longest 5 FieldType.int 5 N Sh I J [.ref Q, .int (nI m)] (fun r => r = fold (fun k x => maxI x (nI (cyc (aV S m) k))) (nI 0) 16) := by
  refine ct_I (l0 := [(0, .ref Q), (1, .int (nI m))]) (by decide +kernel) (Nat.le_of_ble_eq_true rfl) rfl (fun _ _ _ _ => rfl) ?_
  intro X hX hret _ _ _
  have hX : XK X RX7 cX7_longest 5 5 := hX
  have lp : ∀ (n i : Nat) (x : Int32), i + n = 16 → (x = fold (fun k x => maxI x (nI (cyc (aV S m) k))) (nI 0) i) → WX X 0 0 N Sh I J 4 [(0, .ref Q), (1, .int (nI m)), (2, .int x), (3, .int (nI i))] [] := by
    intro n
    induction n with
    | zero =>
      intro i x hi ex
      obtain rfl : 16 = i := by omega
      refine wa_iload_n hX dX7_longest_4 rfl ?_
      refine wa_bipush (v := nI 16) hX dX7_longest_5 (by decide) ?_
      refine wa_icmp_ge (tgt := 37) hX dX7_longest_7 (by decide) (fun c_7 => ?_) (fun c_7 => absurd (Int32.le_refl _) c_7)
      refine wa_iload_n hX dX7_longest_37 rfl ?_
      exact hret _ _ _ _ _ ⟨ex, rfl, rfl⟩ dX7_longest_38
    | succ n ih =>
      intro i x hi ex
      have hlt : i < 16 := by omega
      refine wa_iload_n hX dX7_longest_4 rfl ?_
      refine wa_bipush (v := nI 16) hX dX7_longest_5 (by decide) ?_
      refine wa_icmp_ge (tgt := 37) hX dX7_longest_7 (by decide) (fun c_7 => absurd c_7 (nI_ge hlt (by decide))) (fun c_7 => ?_)
      refine wa_aload_n hX dX7_longest_10 rfl ?_
      refine wa_iload_n hX dX7_longest_11 rfl ?_
      refine wa_iload_n hX dX7_longest_12 rfl ?_
      refine wa_vP hX (tX7_cycle I hM hV hm hlt) bX7_cycle mX7_190 (by decide) (by decide) (ci := 6) ⟨by decide, rfl⟩ (by first | assumption | exact hM.1) rfl rfl (Nat.le_of_ble_eq_true rfl) dX7_longest_13 (fun r_13 q_13 => ?_)
      subst q_13
      refine wa_istore hX dX7_longest_16 (by decide) ?_
      refine wa_iload hX dX7_longest_18 rfl ?_
      refine wa_iload_n hX dX7_longest_20 rfl ?_
      refine wa_icmp_le (tgt := 29) hX dX7_longest_21 (by decide) (fun c_21 => ?_) (fun c_21 => ?_)
      · skip
        refine wa_iload_n hX dX7_longest_29 rfl ?_
        refine wa_istore_n hX dX7_longest_30 (by decide) ?_
        refine wa_iinc hX dX7_longest_31 rfl (inc1 _) (by decide) ?_
        refine wa_goto (tgt := 4) hX dX7_longest_34 (by decide) ?_
        refine wx_sub (l' := [(0, _), (1, _), (2, _), (3, _)]) ⟨rfl, rfl, rfl, rfl, trivial⟩ ?_
        exact ih (i + 1) _ (by omega) (by rw [fold_s, ← ex]; unfold maxI; rw [if_neg (Int32.not_lt.mpr c_21)])
      · skip
        refine wa_iload hX dX7_longest_24 rfl ?_
        refine wa_goto (tgt := 30) hX dX7_longest_26 (by decide) ?_
        refine wa_istore_n hX dX7_longest_30 (by decide) ?_
        refine wa_iinc hX dX7_longest_31 rfl (inc1 _) (by decide) ?_
        refine wa_goto (tgt := 4) hX dX7_longest_34 (by decide) ?_
        refine wx_sub (l' := [(0, _), (1, _), (2, _), (3, _)]) ⟨rfl, rfl, rfl, rfl, trivial⟩ ?_
        exact ih (i + 1) _ (by omega) (by rw [fold_s, ← ex]; unfold maxI; rw [if_pos (Int32.not_le.mp c_21)])
  refine wa_iconst (v := nI 0) hX dX7_longest_0 (by decide) ?_
  refine wa_istore_n hX dX7_longest_1 (by decide) ?_
  refine wa_iconst (v := nI 0) hX dX7_longest_2 (by decide) ?_
  refine wa_istore_n hX dX7_longest_3 (by decide) ?_
  exact lp 16 0 _ (by omega) rfl

def setP (v : Nat → Nat) (w k : Nat) : Bool := (decide (w = 2) && decide (v k = 16)) || (decide (w = 5) && decide (v k = k)) || (decide (w = 7) && decide (0 < cyc v k))
def setV (v : Nat → Nat) (w n : Nat) : Int32 := if w = 3 then imgS v n else bset (setP v w) n
set_option maxHeartbeats 4000000 in
set_option maxRecDepth 100000 in
theorem tX7_set {l : Launch} {D : va_G} {A : Nat → Prop} {N : Nat} {Sh : SM} {J : JM} (I : IM) {Q : Nat} (hM : MM Sh J Q) {S : AS} (hV : VF (I (Q + 1)) S) {m w : Nat} (hm : m < 6) (hw : w < 9) : CtP l D A yX7_set cX7_set 6 FieldType.int 5 N Sh I J [.ref Q, .int (nI m), .int (nI w)] (fun r => r = setV (aV S m) w 16) := by
  refine ct_I (l0 := [(0, .ref Q), (1, .int (nI m)), (2, .int (nI w))]) (by decide +kernel) (Nat.le_of_ble_eq_true rfl) rfl (fun _ _ _ _ => rfl) ?_
  intro X hX hret _ _ _
  have hX : XK X RX7 cX7_set 6 5 := hX
  have lp : ∀ (n i : Nat) (x : Int32), i + n = 16 → (x = setV (aV S m) w i) → WX X 0 0 N Sh I J 5 [(0, .ref Q), (1, .int (nI m)), (2, .int (nI w)), (3, .int x), (4, .int (nI i))] [] := by
    intro n
    induction n with
    | zero =>
      intro i x hi ex
      obtain rfl : 16 = i := by omega
      refine wa_iload hX dX7_set_5 rfl ?_
      refine wa_bipush (v := nI 16) hX dX7_set_7 (by decide) ?_
      refine wa_icmp_ge (tgt := 100) hX dX7_set_9 (by decide) (fun c_9 => ?_) (fun c_9 => absurd (Int32.le_refl _) c_9)
      refine wa_iload_n hX dX7_set_100 rfl ?_
      exact hret _ _ _ _ _ ⟨ex, rfl, rfl⟩ dX7_set_101
    | succ n ih =>
      intro i x hi ex
      have hlt : i < 16 := by omega
      refine wa_iload hX dX7_set_5 rfl ?_
      refine wa_bipush (v := nI 16) hX dX7_set_7 (by decide) ?_
      refine wa_icmp_ge (tgt := 100) hX dX7_set_9 (by decide) (fun c_9 => absurd c_9 (nI_ge hlt (by decide))) (fun c_9 => ?_)
      refine wa_aload_n hX dX7_set_12 rfl ?_
      refine wa_iload_n hX dX7_set_13 rfl ?_
      refine wa_iload hX dX7_set_14 rfl ?_
      refine wa_vP hX (tX7_value I hM hV hm hlt) bX7_value mX7_75 (by decide) (by decide) (ci := 6) ⟨by decide, rfl⟩ (by first | assumption | exact hM.1) rfl rfl (Nat.le_of_ble_eq_true rfl) dX7_set_16 (fun r_16 q_16 => ?_)
      subst q_16
      have a1 := hV.val hm hlt
      refine wa_istore hX dX7_set_19 (by decide) ?_
      refine wa_iload_n hX dX7_set_21 rfl ?_
      refine wa_iconst (v := nI 3) hX dX7_set_22 (by decide) ?_
      refine wa_icmp_ne (tgt := 47) hX dX7_set_23 (by decide) (fun c_23 => ?_) (fun c_23 => ?_)
      · skip
        have d3 := ne_of_nI c_23
        refine wa_iload_n hX dX7_set_47 rfl ?_
        refine wa_iconst (v := nI 2) hX dX7_set_48 (by decide) ?_
        refine wa_icmp_ne (tgt := 59) hX dX7_set_49 (by decide) (fun c_49 => ?_) (fun c_49 => ?_)
        · skip
          have d2 := ne_of_nI c_49
          refine wa_iload_n hX dX7_set_59 rfl ?_
          refine wa_iconst (v := nI 5) hX dX7_set_60 (by decide) ?_
          refine wa_icmp_ne (tgt := 71) hX dX7_set_61 (by decide) (fun c_61 => ?_) (fun c_61 => ?_)
          · skip
            have d5 := ne_of_nI c_61
            refine wa_iload_n hX dX7_set_71 rfl ?_
            refine wa_bipush (v := nI 7) hX dX7_set_72 (by decide) ?_
            refine wa_icmp_ne (tgt := 94) hX dX7_set_74 (by decide) (fun c_74 => ?_) (fun c_74 => ?_)
            · skip
              have d7 := ne_of_nI c_74
              refine wa_iinc hX dX7_set_94 rfl (inc1 _) (by decide) ?_
              refine wa_goto (tgt := 5) hX dX7_set_97 (by decide) ?_
              refine wx_sub (l' := [(0, _), (1, _), (2, _), (3, _), (4, _)]) ⟨rfl, rfl, rfl, rfl, rfl, trivial⟩ ?_
              exact ih (i + 1) _ (by omega) (by rw [ex]; unfold setV; rw [if_neg d3, if_neg d3]; exact (bset_f (p := setP (aV S m) w) (by first | (simp [setP, d3, d2, d5, d7]; done) | (exfalso; omega))).symm)
            · skip
              have d7 := eq_of_nI c_74 (by omega) (by decide)
              refine wa_aload_n hX dX7_set_77 rfl ?_
              refine wa_iload_n hX dX7_set_78 rfl ?_
              refine wa_iload hX dX7_set_79 rfl ?_
              refine wa_vP hX (tX7_cycle I hM hV hm hlt) bX7_cycle mX7_190 (by decide) (by decide) (ci := 6) ⟨by decide, rfl⟩ (by first | assumption | exact hM.1) rfl rfl (Nat.le_of_ble_eq_true rfl) dX7_set_81 (fun r_81 q_81 => ?_)
              subst q_81
              refine wa_if_le (tgt := 94) hX dX7_set_84 (by decide) (fun c_84 => ?_) (fun c_84 => ?_)
              · skip
                have e7 : ¬ 0 < cyc (aV S m) i := fun h => absurd c_84 (nI_nle h cyc_lt)
                refine wa_iinc hX dX7_set_94 rfl (inc1 _) (by decide) ?_
                refine wa_goto (tgt := 5) hX dX7_set_97 (by decide) ?_
                refine wx_sub (l' := [(0, _), (1, _), (2, _), (3, _), (4, _)]) ⟨rfl, rfl, rfl, rfl, rfl, trivial⟩ ?_
                exact ih (i + 1) _ (by omega) (by rw [ex]; unfold setV; rw [if_neg d3, if_neg d3]; exact (bset_f (p := setP (aV S m) w) (by first | (simp [setP, d3, d2, d5, d7, e7]; done) | (exfalso; omega))).symm)
              · skip
                have e7 : 0 < cyc (aV S m) i := by
                  rcases Nat.eq_zero_or_pos (cyc (aV S m) i) with h | h
                  · rw [h] at c_84; exact absurd (Int32.le_refl _) c_84
                  · exact h
                refine wa_iload_n hX dX7_set_87 rfl ?_
                refine wa_iconst (v := nI 1) hX dX7_set_88 (by decide) ?_
                refine wa_iload hX dX7_set_89 rfl ?_
                refine wa_ishl hX dX7_set_91 ?_
                refine wa_ior hX dX7_set_92 ?_
                refine wa_istore_n hX dX7_set_93 (by decide) ?_
                refine wa_iinc hX dX7_set_94 rfl (inc1 _) (by decide) ?_
                refine wa_goto (tgt := 5) hX dX7_set_97 (by decide) ?_
                refine wx_sub (l' := [(0, _), (1, _), (2, _), (3, _), (4, _)]) ⟨rfl, rfl, rfl, rfl, rfl, trivial⟩ ?_
                exact ih (i + 1) _ (by omega) (by rw [ex]; unfold setV; rw [if_neg d3, if_neg d3]; exact (bset_t (p := setP (aV S m) w) (by first | (simp [setP, d3, d2, d5, d7, e7]; done) | (exfalso; omega))).symm)
          · skip
            have d5 := eq_of_nI c_61 (by omega) (by decide)
            refine wa_iload hX dX7_set_64 rfl ?_
            refine wa_iload hX dX7_set_66 rfl ?_
            refine wa_icmp_eq (tgt := 87) hX dX7_set_68 (by decide) (fun c_68 => ?_) (fun c_68 => ?_)
            · skip
              have e5 := eq_of_nI c_68 (by omega) (by omega)
              refine wa_iload_n hX dX7_set_87 rfl ?_
              refine wa_iconst (v := nI 1) hX dX7_set_88 (by decide) ?_
              refine wa_iload hX dX7_set_89 rfl ?_
              refine wa_ishl hX dX7_set_91 ?_
              refine wa_ior hX dX7_set_92 ?_
              refine wa_istore_n hX dX7_set_93 (by decide) ?_
              refine wa_iinc hX dX7_set_94 rfl (inc1 _) (by decide) ?_
              refine wa_goto (tgt := 5) hX dX7_set_97 (by decide) ?_
              refine wx_sub (l' := [(0, _), (1, _), (2, _), (3, _), (4, _)]) ⟨rfl, rfl, rfl, rfl, rfl, trivial⟩ ?_
              exact ih (i + 1) _ (by omega) (by rw [ex]; unfold setV; rw [if_neg d3, if_neg d3]; exact (bset_t (p := setP (aV S m) w) (by first | (simp [setP, d3, d2, d5, e5]; done) | (exfalso; omega))).symm)
            · skip
              have e5 := ne_of_nI c_68
              refine wa_iload_n hX dX7_set_71 rfl ?_
              refine wa_bipush (v := nI 7) hX dX7_set_72 (by decide) ?_
              refine wa_icmp_ne (tgt := 94) hX dX7_set_74 (by decide) (fun c_74 => ?_) (fun c_74 => ?_)
              · skip
                have d7 := ne_of_nI c_74
                refine wa_iinc hX dX7_set_94 rfl (inc1 _) (by decide) ?_
                refine wa_goto (tgt := 5) hX dX7_set_97 (by decide) ?_
                refine wx_sub (l' := [(0, _), (1, _), (2, _), (3, _), (4, _)]) ⟨rfl, rfl, rfl, rfl, rfl, trivial⟩ ?_
                exact ih (i + 1) _ (by omega) (by rw [ex]; unfold setV; rw [if_neg d3, if_neg d3]; exact (bset_f (p := setP (aV S m) w) (by first | (simp [setP, d3, d2, d5, e5, d7]; done) | (exfalso; omega))).symm)
              · skip
                have d7 := eq_of_nI c_74 (by omega) (by decide)
                refine wa_aload_n hX dX7_set_77 rfl ?_
                refine wa_iload_n hX dX7_set_78 rfl ?_
                refine wa_iload hX dX7_set_79 rfl ?_
                refine wa_vP hX (tX7_cycle I hM hV hm hlt) bX7_cycle mX7_190 (by decide) (by decide) (ci := 6) ⟨by decide, rfl⟩ (by first | assumption | exact hM.1) rfl rfl (Nat.le_of_ble_eq_true rfl) dX7_set_81 (fun r_81 q_81 => ?_)
                subst q_81
                refine wa_if_le (tgt := 94) hX dX7_set_84 (by decide) (fun c_84 => ?_) (fun c_84 => ?_)
                · skip
                  have e7 : ¬ 0 < cyc (aV S m) i := fun h => absurd c_84 (nI_nle h cyc_lt)
                  refine wa_iinc hX dX7_set_94 rfl (inc1 _) (by decide) ?_
                  refine wa_goto (tgt := 5) hX dX7_set_97 (by decide) ?_
                  refine wx_sub (l' := [(0, _), (1, _), (2, _), (3, _), (4, _)]) ⟨rfl, rfl, rfl, rfl, rfl, trivial⟩ ?_
                  exact ih (i + 1) _ (by omega) (by rw [ex]; unfold setV; rw [if_neg d3, if_neg d3]; exact (bset_f (p := setP (aV S m) w) (by first | (simp [setP, d3, d2, d5, e5, d7, e7]; done) | (exfalso; omega))).symm)
                · skip
                  have e7 : 0 < cyc (aV S m) i := by
                    rcases Nat.eq_zero_or_pos (cyc (aV S m) i) with h | h
                    · rw [h] at c_84; exact absurd (Int32.le_refl _) c_84
                    · exact h
                  refine wa_iload_n hX dX7_set_87 rfl ?_
                  refine wa_iconst (v := nI 1) hX dX7_set_88 (by decide) ?_
                  refine wa_iload hX dX7_set_89 rfl ?_
                  refine wa_ishl hX dX7_set_91 ?_
                  refine wa_ior hX dX7_set_92 ?_
                  refine wa_istore_n hX dX7_set_93 (by decide) ?_
                  refine wa_iinc hX dX7_set_94 rfl (inc1 _) (by decide) ?_
                  refine wa_goto (tgt := 5) hX dX7_set_97 (by decide) ?_
                  refine wx_sub (l' := [(0, _), (1, _), (2, _), (3, _), (4, _)]) ⟨rfl, rfl, rfl, rfl, rfl, trivial⟩ ?_
                  exact ih (i + 1) _ (by omega) (by rw [ex]; unfold setV; rw [if_neg d3, if_neg d3]; exact (bset_t (p := setP (aV S m) w) (by first | (simp [setP, d3, d2, d5, e5, d7, e7]; done) | (exfalso; omega))).symm)
        · skip
          have d2 := eq_of_nI c_49 (by omega) (by decide)
          refine wa_iload hX dX7_set_52 rfl ?_
          refine wa_bipush (v := nI 16) hX dX7_set_54 (by decide) ?_
          refine wa_icmp_eq (tgt := 87) hX dX7_set_56 (by decide) (fun c_56 => ?_) (fun c_56 => ?_)
          · skip
            have e2 := eq_of_nI c_56 (by omega) (by decide)
            refine wa_iload_n hX dX7_set_87 rfl ?_
            refine wa_iconst (v := nI 1) hX dX7_set_88 (by decide) ?_
            refine wa_iload hX dX7_set_89 rfl ?_
            refine wa_ishl hX dX7_set_91 ?_
            refine wa_ior hX dX7_set_92 ?_
            refine wa_istore_n hX dX7_set_93 (by decide) ?_
            refine wa_iinc hX dX7_set_94 rfl (inc1 _) (by decide) ?_
            refine wa_goto (tgt := 5) hX dX7_set_97 (by decide) ?_
            refine wx_sub (l' := [(0, _), (1, _), (2, _), (3, _), (4, _)]) ⟨rfl, rfl, rfl, rfl, rfl, trivial⟩ ?_
            exact ih (i + 1) _ (by omega) (by rw [ex]; unfold setV; rw [if_neg d3, if_neg d3]; exact (bset_t (p := setP (aV S m) w) (by first | (simp [setP, d3, d2, e2]; done) | (exfalso; omega))).symm)
          · skip
            have e2 := ne_of_nI c_56
            refine wa_iload_n hX dX7_set_59 rfl ?_
            refine wa_iconst (v := nI 5) hX dX7_set_60 (by decide) ?_
            refine wa_icmp_ne (tgt := 71) hX dX7_set_61 (by decide) (fun c_61 => ?_) (fun c_61 => ?_)
            · skip
              have d5 := ne_of_nI c_61
              refine wa_iload_n hX dX7_set_71 rfl ?_
              refine wa_bipush (v := nI 7) hX dX7_set_72 (by decide) ?_
              refine wa_icmp_ne (tgt := 94) hX dX7_set_74 (by decide) (fun c_74 => ?_) (fun c_74 => ?_)
              · skip
                have d7 := ne_of_nI c_74
                refine wa_iinc hX dX7_set_94 rfl (inc1 _) (by decide) ?_
                refine wa_goto (tgt := 5) hX dX7_set_97 (by decide) ?_
                refine wx_sub (l' := [(0, _), (1, _), (2, _), (3, _), (4, _)]) ⟨rfl, rfl, rfl, rfl, rfl, trivial⟩ ?_
                exact ih (i + 1) _ (by omega) (by rw [ex]; unfold setV; rw [if_neg d3, if_neg d3]; exact (bset_f (p := setP (aV S m) w) (by first | (simp [setP, d3, d2, e2, d5, d7]; done) | (exfalso; omega))).symm)
              · skip
                have d7 := eq_of_nI c_74 (by omega) (by decide)
                refine wa_aload_n hX dX7_set_77 rfl ?_
                refine wa_iload_n hX dX7_set_78 rfl ?_
                refine wa_iload hX dX7_set_79 rfl ?_
                refine wa_vP hX (tX7_cycle I hM hV hm hlt) bX7_cycle mX7_190 (by decide) (by decide) (ci := 6) ⟨by decide, rfl⟩ (by first | assumption | exact hM.1) rfl rfl (Nat.le_of_ble_eq_true rfl) dX7_set_81 (fun r_81 q_81 => ?_)
                subst q_81
                refine wa_if_le (tgt := 94) hX dX7_set_84 (by decide) (fun c_84 => ?_) (fun c_84 => ?_)
                · skip
                  have e7 : ¬ 0 < cyc (aV S m) i := fun h => absurd c_84 (nI_nle h cyc_lt)
                  refine wa_iinc hX dX7_set_94 rfl (inc1 _) (by decide) ?_
                  refine wa_goto (tgt := 5) hX dX7_set_97 (by decide) ?_
                  refine wx_sub (l' := [(0, _), (1, _), (2, _), (3, _), (4, _)]) ⟨rfl, rfl, rfl, rfl, rfl, trivial⟩ ?_
                  exact ih (i + 1) _ (by omega) (by rw [ex]; unfold setV; rw [if_neg d3, if_neg d3]; exact (bset_f (p := setP (aV S m) w) (by first | (simp [setP, d3, d2, e2, d5, d7, e7]; done) | (exfalso; omega))).symm)
                · skip
                  have e7 : 0 < cyc (aV S m) i := by
                    rcases Nat.eq_zero_or_pos (cyc (aV S m) i) with h | h
                    · rw [h] at c_84; exact absurd (Int32.le_refl _) c_84
                    · exact h
                  refine wa_iload_n hX dX7_set_87 rfl ?_
                  refine wa_iconst (v := nI 1) hX dX7_set_88 (by decide) ?_
                  refine wa_iload hX dX7_set_89 rfl ?_
                  refine wa_ishl hX dX7_set_91 ?_
                  refine wa_ior hX dX7_set_92 ?_
                  refine wa_istore_n hX dX7_set_93 (by decide) ?_
                  refine wa_iinc hX dX7_set_94 rfl (inc1 _) (by decide) ?_
                  refine wa_goto (tgt := 5) hX dX7_set_97 (by decide) ?_
                  refine wx_sub (l' := [(0, _), (1, _), (2, _), (3, _), (4, _)]) ⟨rfl, rfl, rfl, rfl, rfl, trivial⟩ ?_
                  exact ih (i + 1) _ (by omega) (by rw [ex]; unfold setV; rw [if_neg d3, if_neg d3]; exact (bset_t (p := setP (aV S m) w) (by first | (simp [setP, d3, d2, e2, d5, d7, e7]; done) | (exfalso; omega))).symm)
            · skip
              have d5 := eq_of_nI c_61 (by omega) (by decide)
              refine wa_iload hX dX7_set_64 rfl ?_
              refine wa_iload hX dX7_set_66 rfl ?_
              refine wa_icmp_eq (tgt := 87) hX dX7_set_68 (by decide) (fun c_68 => ?_) (fun c_68 => ?_)
              · skip
                have e5 := eq_of_nI c_68 (by omega) (by omega)
                refine wa_iload_n hX dX7_set_87 rfl ?_
                refine wa_iconst (v := nI 1) hX dX7_set_88 (by decide) ?_
                refine wa_iload hX dX7_set_89 rfl ?_
                refine wa_ishl hX dX7_set_91 ?_
                refine wa_ior hX dX7_set_92 ?_
                refine wa_istore_n hX dX7_set_93 (by decide) ?_
                refine wa_iinc hX dX7_set_94 rfl (inc1 _) (by decide) ?_
                refine wa_goto (tgt := 5) hX dX7_set_97 (by decide) ?_
                refine wx_sub (l' := [(0, _), (1, _), (2, _), (3, _), (4, _)]) ⟨rfl, rfl, rfl, rfl, rfl, trivial⟩ ?_
                exact ih (i + 1) _ (by omega) (by rw [ex]; unfold setV; rw [if_neg d3, if_neg d3]; exact (bset_t (p := setP (aV S m) w) (by first | (simp [setP, d3, d2, e2, d5, e5]; done) | (exfalso; omega))).symm)
              · skip
                have e5 := ne_of_nI c_68
                refine wa_iload_n hX dX7_set_71 rfl ?_
                refine wa_bipush (v := nI 7) hX dX7_set_72 (by decide) ?_
                refine wa_icmp_ne (tgt := 94) hX dX7_set_74 (by decide) (fun c_74 => ?_) (fun c_74 => ?_)
                · skip
                  have d7 := ne_of_nI c_74
                  refine wa_iinc hX dX7_set_94 rfl (inc1 _) (by decide) ?_
                  refine wa_goto (tgt := 5) hX dX7_set_97 (by decide) ?_
                  refine wx_sub (l' := [(0, _), (1, _), (2, _), (3, _), (4, _)]) ⟨rfl, rfl, rfl, rfl, rfl, trivial⟩ ?_
                  exact ih (i + 1) _ (by omega) (by rw [ex]; unfold setV; rw [if_neg d3, if_neg d3]; exact (bset_f (p := setP (aV S m) w) (by first | (simp [setP, d3, d2, e2, d5, e5, d7]; done) | (exfalso; omega))).symm)
                · skip
                  have d7 := eq_of_nI c_74 (by omega) (by decide)
                  refine wa_aload_n hX dX7_set_77 rfl ?_
                  refine wa_iload_n hX dX7_set_78 rfl ?_
                  refine wa_iload hX dX7_set_79 rfl ?_
                  refine wa_vP hX (tX7_cycle I hM hV hm hlt) bX7_cycle mX7_190 (by decide) (by decide) (ci := 6) ⟨by decide, rfl⟩ (by first | assumption | exact hM.1) rfl rfl (Nat.le_of_ble_eq_true rfl) dX7_set_81 (fun r_81 q_81 => ?_)
                  subst q_81
                  refine wa_if_le (tgt := 94) hX dX7_set_84 (by decide) (fun c_84 => ?_) (fun c_84 => ?_)
                  · skip
                    have e7 : ¬ 0 < cyc (aV S m) i := fun h => absurd c_84 (nI_nle h cyc_lt)
                    refine wa_iinc hX dX7_set_94 rfl (inc1 _) (by decide) ?_
                    refine wa_goto (tgt := 5) hX dX7_set_97 (by decide) ?_
                    refine wx_sub (l' := [(0, _), (1, _), (2, _), (3, _), (4, _)]) ⟨rfl, rfl, rfl, rfl, rfl, trivial⟩ ?_
                    exact ih (i + 1) _ (by omega) (by rw [ex]; unfold setV; rw [if_neg d3, if_neg d3]; exact (bset_f (p := setP (aV S m) w) (by first | (simp [setP, d3, d2, e2, d5, e5, d7, e7]; done) | (exfalso; omega))).symm)
                  · skip
                    have e7 : 0 < cyc (aV S m) i := by
                      rcases Nat.eq_zero_or_pos (cyc (aV S m) i) with h | h
                      · rw [h] at c_84; exact absurd (Int32.le_refl _) c_84
                      · exact h
                    refine wa_iload_n hX dX7_set_87 rfl ?_
                    refine wa_iconst (v := nI 1) hX dX7_set_88 (by decide) ?_
                    refine wa_iload hX dX7_set_89 rfl ?_
                    refine wa_ishl hX dX7_set_91 ?_
                    refine wa_ior hX dX7_set_92 ?_
                    refine wa_istore_n hX dX7_set_93 (by decide) ?_
                    refine wa_iinc hX dX7_set_94 rfl (inc1 _) (by decide) ?_
                    refine wa_goto (tgt := 5) hX dX7_set_97 (by decide) ?_
                    refine wx_sub (l' := [(0, _), (1, _), (2, _), (3, _), (4, _)]) ⟨rfl, rfl, rfl, rfl, rfl, trivial⟩ ?_
                    exact ih (i + 1) _ (by omega) (by rw [ex]; unfold setV; rw [if_neg d3, if_neg d3]; exact (bset_t (p := setP (aV S m) w) (by first | (simp [setP, d3, d2, e2, d5, e5, d7, e7]; done) | (exfalso; omega))).symm)
      · skip
        have d3 := eq_of_nI c_23 (by omega) (by decide)
        refine wa_iload_n hX dX7_set_26 rfl ?_
        refine wa_iload hX dX7_set_27 rfl ?_
        refine wa_bipush (v := nI 16) hX dX7_set_29 (by decide) ?_
        refine wa_icmp_ne (tgt := 38) hX dX7_set_31 (by decide) (fun c_31 => ?_) (fun c_31 => ?_)
        · skip
          have c1 := ne_of_nI c_31
          refine wa_iconst (v := nI 1) hX dX7_set_38 (by decide) ?_
          refine wa_iload hX dX7_set_39 rfl ?_
          refine wa_ishl hX dX7_set_41 ?_
          refine wa_ior hX dX7_set_42 ?_
          refine wa_istore_n hX dX7_set_43 (by decide) ?_
          refine wa_goto (tgt := 94) hX dX7_set_44 (by decide) ?_
          refine wa_iinc hX dX7_set_94 rfl (inc1 _) (by decide) ?_
          refine wa_goto (tgt := 5) hX dX7_set_97 (by decide) ?_
          refine wx_sub (l' := [(0, _), (1, _), (2, _), (3, _), (4, _)]) ⟨rfl, rfl, rfl, rfl, rfl, trivial⟩ ?_
          exact ih (i + 1) _ (by omega) (by rw [ex]; unfold setV; rw [if_pos d3, if_pos d3]; show _ = imgS (aV S m) (i + 1); simp only [imgS, if_neg c1, b1])
        · skip
          have c1 := eq_of_nI c_31 (by omega) (by decide)
          refine wa_iconst (v := nI 0) hX dX7_set_34 (by decide) ?_
          refine wa_goto (tgt := 42) hX dX7_set_35 (by decide) ?_
          refine wa_ior hX dX7_set_42 ?_
          refine wa_istore_n hX dX7_set_43 (by decide) ?_
          refine wa_goto (tgt := 94) hX dX7_set_44 (by decide) ?_
          refine wa_iinc hX dX7_set_94 rfl (inc1 _) (by decide) ?_
          refine wa_goto (tgt := 5) hX dX7_set_97 (by decide) ?_
          refine wx_sub (l' := [(0, _), (1, _), (2, _), (3, _), (4, _)]) ⟨rfl, rfl, rfl, rfl, rfl, trivial⟩ ?_
          exact ih (i + 1) _ (by omega) (by rw [ex, or0]; unfold setV; rw [if_pos d3, if_pos d3]; show _ = imgS (aV S m) (i + 1); simp only [imgS, if_pos c1])
  refine wa_iconst (v := nI 0) hX dX7_set_0 (by decide) ?_
  refine wa_istore_n hX dX7_set_1 (by decide) ?_
  refine wa_iconst (v := nI 0) hX dX7_set_2 (by decide) ?_
  refine wa_istore hX dX7_set_3 (by decide) ?_
  exact lp 16 0 _ (by omega) (by unfold setV; split <;> rfl)

set_option maxHeartbeats 4000000 in
set_option maxRecDepth 100000 in
theorem tX7_layer {l : Launch} {D : va_G} {A : Nat → Prop} {N : Nat} {Sh : SM} {J : JM} (I : IM) {Q : Nat} (hM : MM Sh J Q) {S : AS} (hV : VF (I (Q + 1)) S) (x y z : Int32) : CtP l D A yX7_layer cX7_layer 4 FieldType.int 3 N Sh I J [.ref Q, .int x, .int y, .int z] (fun r => r = onL S x y (fun m l => layF S m l (swI 4 z)) (-1)) := by
  refine ct_I (l0 := [(0, .ref Q), (1, .int x), (2, .int y), (3, .int z)]) (by decide +kernel) (Nat.le_of_ble_eq_true rfl) rfl (fun _ _ _ _ => rfl) ?_
  intro X hX hret _ _ _
  have hX : XK X RX7 cX7_layer 4 3 := hX
  obtain ⟨q0, ⟨qj0, qj1, qj3, qj5, qj6, qj8, qj12, qj13, qj14, qj15, qj16, qj18, qj19⟩, ⟨qs1, qs2, qs3, qs4, qs5, qs6, qs7, qs8, qs9, qs10, qs11, qs12, qs13⟩⟩ := id hM
  refine wa_aload_n hX dX7_layer_0 rfl ?_
  refine wa_iload_n hX dX7_layer_1 rfl ?_
  refine wa_iload_n hX dX7_layer_2 rfl ?_
  refine wa_vP hX (tX7_noLayer I hM hV x y) bX7_noLayer mX7_91 (by decide) (by decide) (ci := 6) ⟨by decide, rfl⟩ (by first | assumption | exact hM.1) rfl rfl (Nat.le_of_ble_eq_true rfl) dX7_layer_3 (fun r_3 q_3 => ?_)
  subst q_3
  refine wa_if_eq (tgt := 11) hX dX7_layer_6 (by decide) (fun c_6 => ?_) (fun c_6 => ?_)
  · skip
    have n_6 : layB S x y = true := by have := bI_0.mp c_6; simpa using this
    obtain ⟨m, la, hm, hla, em, el⟩ := layB_t (fun m hm => (hV.1 m hm).1.1) n_6
    subst em
    subst el
    have h4 := (hV.1 m hm).1.1
    refine wa_iload_n hX dX7_layer_11 rfl ?_
    rcases sw_in z 4 (by decide) with hsw | ⟨jsw, hsw1, hsw2⟩
    · skip
      refine wa_tabOut (tgt := 83) hX dX7_layer_12 hsw (by decide) ?_
      refine wa_bipush (v := -2) hX dX7_layer_83 (by decide) ?_
      exact hret _ _ _ _ _ ⟨(by rw [onL_t hm hla h4, swI_out (n := 4) (by decide) hsw]; rfl), rfl, rfl⟩ dX7_layer_85
    · subst hsw2
      rcases (show jsw = 0 ∨ jsw = 1 ∨ jsw = 2 ∨ jsw = 3 by omega) with rfl | rfl | rfl | rfl
      · skip
        refine wa_tabIn (off := 32) (tgt := 44) hX dX7_layer_12 (by decide) (by decide) (by decide) (by decide) ?_
        refine wa_aload_n hX dX7_layer_44 rfl ?_
        refine wa_iload_n hX dX7_layer_45 rfl ?_
        refine wa_iload_n hX dX7_layer_46 rfl ?_
        refine wa_iconst (v := nI 0) hX dX7_layer_47 (by decide) ?_
        refine wa_vP hX (tX7_entries I hM hV hm (show la < 4 by omega) (show 0 ≤ 2 by decide)) bX7_entries mX7_78 (by decide) (by decide) (ci := 6) ⟨by decide, rfl⟩ (by first | assumption | exact hM.1) rfl rfl (Nat.le_of_ble_eq_true rfl) dX7_layer_48 (fun r_48 q_48 => ?_)
        rw [ent_0] at q_48
        exact hret _ _ _ _ _ ⟨(by rw [onL_t hm hla h4, swI_in (show 0 < 4 by decide) (by decide)]; exact q_48), rfl, rfl⟩ dX7_layer_51
      · skip
        refine wa_tabIn (off := 40) (tgt := 52) hX dX7_layer_12 (by decide) (by decide) (by decide) (by decide) ?_
        refine wa_aload_n hX dX7_layer_52 rfl ?_
        refine wa_iload_n hX dX7_layer_53 rfl ?_
        refine wa_iload_n hX dX7_layer_54 rfl ?_
        refine wa_vP hX (tX7_isOn I hM hV hm (show la < 4 by omega)) bX7_isOn mX7_63 (by decide) (by decide) (ci := 6) ⟨by decide, rfl⟩ (by first | assumption | exact hM.1) rfl rfl (Nat.le_of_ble_eq_true rfl) dX7_layer_55 (fun r_55 q_55 => ?_)
        subst q_55
        refine wa_if_eq (tgt := 65) hX dX7_layer_58 (by decide) (fun c_58 => ?_) (fun c_58 => ?_)
        · skip
          have c1 := bI_0.mp c_58
          refine wa_iconst (v := nI 0) hX dX7_layer_65 (by decide) ?_
          exact hret _ _ _ _ _ ⟨(by rw [onL_t hm hla h4, swI_in (show 1 < 4 by decide) (by decide)]; exact (congrArg bI c1).symm), rfl, rfl⟩ dX7_layer_66
        · skip
          have c1 := bI_n0.mp c_58
          refine wa_iconst (v := nI 1) hX dX7_layer_61 (by decide) ?_
          refine wa_goto (tgt := 66) hX dX7_layer_62 (by decide) ?_
          exact hret _ _ _ _ _ ⟨(by rw [onL_t hm hla h4, swI_in (show 1 < 4 by decide) (by decide)]; exact (congrArg bI c1).symm), rfl, rfl⟩ dX7_layer_66
      · skip
        refine wa_tabIn (off := 55) (tgt := 67) hX dX7_layer_12 (by decide) (by decide) (by decide) (by decide) ?_
        refine wa_aload_n hX dX7_layer_67 rfl ?_
        refine wa_iload_n hX dX7_layer_68 rfl ?_
        refine wa_iload_n hX dX7_layer_69 rfl ?_
        refine wa_iconst (v := nI 2) hX dX7_layer_70 (by decide) ?_
        refine wa_vP hX (tX7_entries I hM hV hm (show la < 4 by omega) (show 2 ≤ 2 by decide)) bX7_entries mX7_78 (by decide) (by decide) (ci := 6) ⟨by decide, rfl⟩ (by first | assumption | exact hM.1) rfl rfl (Nat.le_of_ble_eq_true rfl) dX7_layer_71 (fun r_71 q_71 => ?_)
        rw [ent_2 hla] at q_71
        exact hret _ _ _ _ _ ⟨(by rw [onL_t hm hla h4, swI_in (show 2 < 4 by decide) (by decide)]; exact q_71), rfl, rfl⟩ dX7_layer_74
      · skip
        refine wa_tabIn (off := 63) (tgt := 75) hX dX7_layer_12 (by decide) (by decide) (by decide) (by decide) ?_
        refine wa_aload_n hX dX7_layer_75 rfl ?_
        refine wa_iload_n hX dX7_layer_76 rfl ?_
        refine wa_iload_n hX dX7_layer_77 rfl ?_
        refine wa_iconst (v := nI 1) hX dX7_layer_78 (by decide) ?_
        refine wa_vP hX (tX7_entries I hM hV hm (show la < 4 by omega) (show 1 ≤ 2 by decide)) bX7_entries mX7_78 (by decide) (by decide) (ci := 6) ⟨by decide, rfl⟩ (by first | assumption | exact hM.1) rfl rfl (Nat.le_of_ble_eq_true rfl) dX7_layer_79 (fun r_79 q_79 => ?_)
        rw [ent_1] at q_79
        exact hret _ _ _ _ _ ⟨(by rw [onL_t hm hla h4, swI_in (show 3 < 4 by decide) (by decide)]; exact q_79), rfl, rfl⟩ dX7_layer_82
  · skip
    have n_6 : layB S x y = false := by have := bI_n0.mp c_6; simpa using this
    refine wa_iconst (v := -1) hX dX7_layer_9 (by decide) ?_
    exact hret _ _ _ _ _ ⟨(by rw [onL_f n_6]), rfl, rfl⟩ dX7_layer_10

set_option maxHeartbeats 4000000 in
set_option maxRecDepth 100000 in
theorem tX7_entry {l : Launch} {D : va_G} {A : Nat → Prop} {N : Nat} {Sh : SM} {J : JM} (I : IM) {Q : Nat} (hM : MM Sh J Q) {S : AS} (hV : VF (I (Q + 1)) S) (x y z : Int32) : CtP l D A yX7_entry cX7_entry 4 FieldType.int 3 N Sh I J [.ref Q, .int x, .int y, .int z] (fun r => r = onL S x y (fun m l => onB 16 z (fun k => nI (aE S m l k)) (-1)) (-1)) := by
  refine ct_I (l0 := [(0, .ref Q), (1, .int x), (2, .int y), (3, .int z)]) (by decide +kernel) (Nat.le_of_ble_eq_true rfl) rfl (fun _ _ _ _ => rfl) ?_
  intro X hX hret _ _ _
  have hX : XK X RX7 cX7_entry 4 3 := hX
  obtain ⟨q0, ⟨qj0, qj1, qj3, qj5, qj6, qj8, qj12, qj13, qj14, qj15, qj16, qj18, qj19⟩, ⟨qs1, qs2, qs3, qs4, qs5, qs6, qs7, qs8, qs9, qs10, qs11, qs12, qs13⟩⟩ := id hM
  refine wa_aload_n hX dX7_entry_0 rfl ?_
  refine wa_iload_n hX dX7_entry_1 rfl ?_
  refine wa_iload_n hX dX7_entry_2 rfl ?_
  refine wa_vP hX (tX7_noLayer I hM hV x y) bX7_noLayer mX7_91 (by decide) (by decide) (ci := 6) ⟨by decide, rfl⟩ (by first | assumption | exact hM.1) rfl rfl (Nat.le_of_ble_eq_true rfl) dX7_entry_3 (fun r_3 q_3 => ?_)
  subst q_3
  refine wa_if_ne (tgt := 16) hX dX7_entry_6 (by decide) (fun c_6 => ?_) (fun c_6 => ?_)
  · skip
    have n_6 : layB S x y = false := by have := bI_n0.mp c_6; simpa using this
    refine wa_iconst (v := -1) hX dX7_entry_16 (by decide) ?_
    refine wa_goto (tgt := 31) hX dX7_entry_17 (by decide) ?_
    exact hret _ _ _ _ _ ⟨(by rw [onL_f n_6]), rfl, rfl⟩ dX7_entry_31
  · skip
    have n_6 : layB S x y = true := by have := bI_0.mp c_6; simpa using this
    obtain ⟨m, la, hm, hla, em, el⟩ := layB_t (fun m hm => (hV.1 m hm).1.1) n_6
    subst em
    subst el
    have h4 := (hV.1 m hm).1.1
    refine wa_iload_n hX dX7_entry_9 rfl ?_
    refine wa_sP hX (tX7_noKey I z) bX7_noKey mX7_106 (by decide) (by decide) rfl rfl (Nat.le_of_ble_eq_true rfl) dX7_entry_10 (fun r_10 q_10 => ?_)
    subst q_10
    refine wa_if_eq (tgt := 20) hX dX7_entry_13 (by decide) (fun c_13 => ?_) (fun c_13 => ?_)
    · skip
      have n_13 : inB 16 z = true := by have := bI_0.mp c_13; simpa using this
      obtain ⟨k, hk, ek⟩ := inB_t (by decide) n_13
      subst ek
      refine wa_aload_n hX dX7_entry_20 rfl ?_
      refine wa_getR hX fX7_7 rfl (by assumption) (by assumption) dX7_entry_21 ?_
      refine wa_iload_n hX dX7_entry_24 rfl ?_
      refine wa_iload_n hX dX7_entry_25 rfl ?_
      refine wa_iload_n hX dX7_entry_26 rfl ?_
      refine wa_sP hX (tX7_cell I m la k) bX7_cell mX7_67 (by decide) (by decide) rfl rfl (Nat.le_of_ble_eq_true rfl) dX7_entry_27 (fun r_27 q_27 => ?_)
      subst q_27
      refine wa_iald hX (by assumption) rfl (show 16 * (4 * m + la) + k < 514 by omega) (by decide) dX7_entry_30 ?_
      exact hret _ _ _ _ _ ⟨(by rw [onL_t hm hla h4, onB_in hk (by decide)]; exact ((hV.1 m hm).2.2 la (by omega) k hk).1), rfl, rfl⟩ dX7_entry_31
    · skip
      have n_13 : inB 16 z = false := by have := bI_n0.mp c_13; simpa using this
      refine wa_iconst (v := -1) hX dX7_entry_16 (by decide) ?_
      refine wa_goto (tgt := 31) hX dX7_entry_17 (by decide) ?_
      exact hret _ _ _ _ _ ⟨(by rw [onL_t hm hla h4, onB_out n_13]), rfl, rfl⟩ dX7_entry_31

def allF (S : AS) (sh : Bool) (m : Nat) : Nat → Nat := if sh = true then shV (aH S m) (aO S m) (aE S m) else enV (aE S m)
set_option maxHeartbeats 4000000 in
set_option maxRecDepth 100000 in
theorem tX7_allEntries {l : Launch} {D : va_G} {A : Nat → Prop} {N : Nat} {Sh : SM} {J : JM} (I : IM) {Q : Nat} (hM : MM Sh J Q) {S : AS} (hV : VF (I (Q + 1)) S) (sh : Bool) : CtP l D A yX7_allEntries cX7_allEntries 5 FieldType.int 3 N Sh I J [.ref Q, .int (bI sh)] (fun r => r = nI (sumN (fun m => sumN (allF S sh m) (aH S m)) 6)) := by
  refine ct_I (l0 := [(0, .ref Q), (1, .int (bI sh))]) (by decide +kernel) (Nat.le_of_ble_eq_true rfl) rfl (fun _ _ _ _ => rfl) ?_
  intro X hX hret _ _ _
  have hX : XK X RX7 cX7_allEntries 5 3 := hX
  obtain ⟨q0, ⟨qj0, qj1, qj3, qj5, qj6, qj8, qj12, qj13, qj14, qj15, qj16, qj18, qj19⟩, ⟨qs1, qs2, qs3, qs4, qs5, qs6, qs7, qs8, qs9, qs10, qs11, qs12, qs13⟩⟩ := id hM
  have lp : ∀ (n i : Nat) (x : Int32), i + n = 6 → x = nI (sumN (fun m => sumN (allF S sh m) (aH S m)) i) → WX X 0 0 N Sh I J 4 [(0, .ref Q), (1, .int (bI sh)), (2, .int x), (3, .int (nI i))] [] := by
    intro n
    induction n with
    | zero =>
      intro i x hi ex
      obtain rfl : 6 = i := by omega
      refine wa_iload_n hX dX7_allEntries_4 rfl ?_
      refine wa_bipush (v := nI 6) hX dX7_allEntries_5 (by decide) ?_
      refine wa_icmp_ge (tgt := 59) hX dX7_allEntries_7 (by decide) (fun c_7 => ?_) (fun c_7 => absurd (Int32.le_refl _) c_7)
      refine wa_iload_n hX dX7_allEntries_59 rfl ?_
      exact hret _ _ _ _ _ ⟨ex, rfl, rfl⟩ dX7_allEntries_60
    | succ n ih =>
      intro i x hi ex
      have hi6 : i < 6 := by omega
      have h4 := (hV.1 i hi6).1.1
      have nxt : ∀ y : Int32, y = nI (sumN (fun m => sumN (allF S sh m) (aH S m)) (i + 1)) → WX X 0 0 N Sh I J 53 [(0, .ref Q), (1, .int (bI sh)), (2, .int y), (3, .int (nI i)), (4, .int (nI (aH S i)))] [] := by
        intro y ey
        refine wa_iinc hX dX7_allEntries_53 rfl (inc1 _) (by decide) ?_
        refine wa_goto (tgt := 4) hX dX7_allEntries_56 (by decide) ?_
        refine wx_sub (l' := [(0, _), (1, _), (2, _), (3, _)]) ⟨rfl, rfl, rfl, rfl, trivial⟩ ?_
        exact ih (i + 1) _ (by omega) ey
      have li : ∀ (n j : Nat) (x : Int32), j + n = aH S i → (x = nI (sumN (fun m => sumN (allF S sh m) (aH S m)) i + sumN (allF S sh i) j)) → WX X 0 0 N Sh I J 13 [(0, .ref Q), (1, .int (bI sh)), (2, .int x), (3, .int (nI i)), (4, .int (nI j))] [] := by
        intro n
        induction n with
        | zero =>
          intro j x hi ex
          obtain rfl : j = aH S i := by omega
          refine wa_iload hX dX7_allEntries_13 rfl ?_
          refine wa_aload_n hX dX7_allEntries_15 rfl ?_
          refine wa_getR hX fX7_7 rfl (by assumption) (by assumption) dX7_allEntries_16 ?_
          refine wa_sipush (v := nI 408) hX dX7_allEntries_19 (by decide) ?_
          refine wa_iload_n hX dX7_allEntries_22 rfl ?_
          refine wa_iadd hX dX7_allEntries_23 ?_
          refine wa_iald hX (by assumption) (nI_add 408 i) (show 408 + i < 514 by omega) (by decide) dX7_allEntries_24 ?_
          rw [(hV.1 i hi6).1.2]
          refine wa_icmp_ge (tgt := 53) hX dX7_allEntries_25 (by decide) (fun c_25 => ?_) (fun c_25 => absurd (Int32.le_refl _) c_25)
          exact nxt _ ex
        | succ n ih =>
          intro j x hi ex
          have hlt : j < aH S i := by omega
          refine wa_iload hX dX7_allEntries_13 rfl ?_
          refine wa_aload_n hX dX7_allEntries_15 rfl ?_
          refine wa_getR hX fX7_7 rfl (by assumption) (by assumption) dX7_allEntries_16 ?_
          refine wa_sipush (v := nI 408) hX dX7_allEntries_19 (by decide) ?_
          refine wa_iload_n hX dX7_allEntries_22 rfl ?_
          refine wa_iadd hX dX7_allEntries_23 ?_
          refine wa_iald hX (by assumption) (nI_add 408 i) (show 408 + i < 514 by omega) (by decide) dX7_allEntries_24 ?_
          rw [(hV.1 i hi6).1.2]
          refine wa_icmp_ge (tgt := 53) hX dX7_allEntries_25 (by decide) (fun c_25 => absurd c_25 (nI_ge hlt (by omega))) (fun c_25 => ?_)
          refine wa_iload_n hX dX7_allEntries_28 rfl ?_
          refine wa_aload_n hX dX7_allEntries_29 rfl ?_
          refine wa_iload_n hX dX7_allEntries_30 rfl ?_
          refine wa_iload hX dX7_allEntries_31 rfl ?_
          refine wa_iload_n hX dX7_allEntries_33 rfl ?_
          refine wa_if_eq (tgt := 41) hX dX7_allEntries_34 (by decide) (fun c_34 => ?_) (fun c_34 => ?_)
          · skip
            have c1 := bI_0.mp c_34
            refine wa_iconst (v := nI 0) hX dX7_allEntries_41 (by decide) ?_
            refine wa_vP hX (tX7_entries I hM hV hi6 (la := j) (show j < 4 by omega) (show 0 ≤ 2 by decide)) bX7_entries mX7_78 (by decide) (by decide) (ci := 6) ⟨by decide, rfl⟩ (by first | assumption | exact hM.1) rfl rfl (Nat.le_of_ble_eq_true rfl) dX7_allEntries_42 (fun r_42 q_42 => ?_)
            rw [ent_0] at q_42
            have e9 : allF S sh i j = enV (aE S i) j := by unfold allF; rw [if_neg (by rw [c1]; decide)]
            refine wa_iadd hX dX7_allEntries_45 ?_
            refine wa_istore_n hX dX7_allEntries_46 (by decide) ?_
            refine wa_iinc hX dX7_allEntries_47 rfl (inc1 _) (by decide) ?_
            refine wa_goto (tgt := 13) hX dX7_allEntries_50 (by decide) ?_
            refine wx_sub (l' := [(0, _), (1, _), (2, _), (3, _), (4, _)]) ⟨rfl, rfl, rfl, rfl, rfl, trivial⟩ ?_
            exact ih (j + 1) _ (by omega) (by rw [ex, q_42, nI_add, ← e9]; show nI _ = nI (_ + (sumN (allF S sh i) j + allF S sh i j)); rw [Nat.add_assoc])
          · skip
            have c1 := bI_n0.mp c_34
            refine wa_iconst (v := nI 2) hX dX7_allEntries_37 (by decide) ?_
            refine wa_goto (tgt := 42) hX dX7_allEntries_38 (by decide) ?_
            refine wa_vP hX (tX7_entries I hM hV hi6 (la := j) (show j < 4 by omega) (show 2 ≤ 2 by decide)) bX7_entries mX7_78 (by decide) (by decide) (ci := 6) ⟨by decide, rfl⟩ (by first | assumption | exact hM.1) rfl rfl (Nat.le_of_ble_eq_true rfl) dX7_allEntries_42 (fun r_42 q_42 => ?_)
            rw [ent_2 hlt] at q_42
            have e9 : allF S sh i j = shV (aH S i) (aO S i) (aE S i) j := by unfold allF; rw [if_pos c1]
            refine wa_iadd hX dX7_allEntries_45 ?_
            refine wa_istore_n hX dX7_allEntries_46 (by decide) ?_
            refine wa_iinc hX dX7_allEntries_47 rfl (inc1 _) (by decide) ?_
            refine wa_goto (tgt := 13) hX dX7_allEntries_50 (by decide) ?_
            refine wx_sub (l' := [(0, _), (1, _), (2, _), (3, _), (4, _)]) ⟨rfl, rfl, rfl, rfl, rfl, trivial⟩ ?_
            exact ih (j + 1) _ (by omega) (by rw [ex, q_42, nI_add, ← e9]; show nI _ = nI (_ + (sumN (allF S sh i) j + allF S sh i j)); rw [Nat.add_assoc])
      refine wa_iload_n hX dX7_allEntries_4 rfl ?_
      refine wa_bipush (v := nI 6) hX dX7_allEntries_5 (by decide) ?_
      refine wa_icmp_ge (tgt := 59) hX dX7_allEntries_7 (by decide) (fun c_7 => absurd c_7 (nI_ge hi6 (by decide))) (fun c_7 => ?_)
      refine wa_iconst (v := nI 0) hX dX7_allEntries_10 (by decide) ?_
      refine wa_istore hX dX7_allEntries_11 (by decide) ?_
      exact li (aH S i) 0 _ (by omega) ex
  refine wa_iconst (v := nI 0) hX dX7_allEntries_0 (by decide) ?_
  refine wa_istore_n hX dX7_allEntries_1 (by decide) ?_
  refine wa_iconst (v := nI 0) hX dX7_allEntries_2 (by decide) ?_
  refine wa_istore_n hX dX7_allEntries_3 (by decide) ?_
  exact lp 6 0 _ (by omega) rfl

