/-! PileMapsModel: twins, count, map, groups, hidden, split, the text -/
theorem nI_or : ∀ a b : Bool, (bI a ||| bI b) = bI (a || b) := by decide
theorem anyN_s (p : Nat → Bool) (n : Nat) : anyN p (n + 1) = (anyN p n || p n) := by
  unfold anyN
  show (!(allB (fun k => !p k) n && !p n)) = _
  rw [Bool.not_and, Bool.not_not]
theorem eqV_c (v w : Nat → Nat) : eqV v w = eqV w v := allB_congr (fun k _ => by by_cases e : v k = w k <;> simp [e, eq_comm])
set_option maxHeartbeats 4000000 in
set_option maxRecDepth 100000 in
theorem tX7_twins {l : Launch} {D : va_G} {A : Nat → Prop} {N : Nat} {Sh : SM} {J : JM} (I : IM) {Q : Nat} (hM : MM Sh J Q) {S : AS} (hV : VF (I (Q + 1)) S) : CtP l D A yX7_twins cX7_twins 5 FieldType.int 4 N Sh I J [.ref Q] (fun r => r = nI (cnt (twinV S) 6)) := by
  refine ct_I (l0 := [(0, .ref Q)]) (by decide +kernel) (Nat.le_of_ble_eq_true rfl) rfl (fun _ _ _ _ => rfl) ?_
  intro X hX hret _ _ _
  have hX : XK X RX7 cX7_twins 5 4 := hX
  have lp : ∀ (n i : Nat) (x : Int32), i + n = 6 → x = nI (cnt (twinV S) i) → WX X 0 0 N Sh I J 4 [(0, .ref Q), (1, .int x), (2, .int (nI i))] [] := by
    intro n
    induction n with
    | zero =>
      intro i x hi ex
      obtain rfl : 6 = i := by omega
      refine wa_iload_n hX dX7_twins_4 rfl ?_
      refine wa_bipush (v := nI 6) hX dX7_twins_5 (by decide) ?_
      refine wa_icmp_ge (tgt := 63) hX dX7_twins_7 (by decide) (fun c_7 => ?_) (fun c_7 => absurd (Int32.le_refl _) c_7)
      refine wa_iload_n hX dX7_twins_63 rfl ?_
      exact hret _ _ _ _ _ ⟨ex, rfl, rfl⟩ dX7_twins_64
    | succ n ih =>
      intro i x hi ex
      have hi6 : i < 6 := by omega
      have nxt : ∀ y : Int32, y = bI (anyN (fun o => eqV (aV S o) (aV S i)) i) → WX X 0 0 N Sh I J 45 [(0, .ref Q), (1, .int x), (2, .int (nI i)), (3, .int y), (4, .int (nI i))] [] := by
        intro y ey
        refine wa_iload_n hX dX7_twins_45 rfl ?_
        refine wa_iload_n hX dX7_twins_46 rfl ?_
        rw [ey]
        refine wa_if_eq (tgt := 54) hX dX7_twins_47 (by decide) (fun c_47 => ?_) (fun c_47 => ?_)
        · skip
          have c1 : twinV S i = false := bI_0.mp c_47
          refine wa_iconst (v := nI 0) hX dX7_twins_54 (by decide) ?_
          refine wa_iadd hX dX7_twins_55 ?_
          refine wa_istore_n hX dX7_twins_56 (by decide) ?_
          refine wa_iinc hX dX7_twins_57 rfl (inc1 _) (by decide) ?_
          refine wa_goto (tgt := 4) hX dX7_twins_60 (by decide) ?_
          refine wx_sub (l' := [(0, _), (1, _), (2, _)]) ⟨rfl, rfl, rfl, trivial⟩ ?_
          exact ih (i + 1) _ (by omega) (by rw [ex]; exact (nI_add _ 0).trans (congrArg nI (cnt_f c1).symm))
        · skip
          have c1 : twinV S i = true := bI_n0.mp c_47
          refine wa_iconst (v := nI 1) hX dX7_twins_50 (by decide) ?_
          refine wa_goto (tgt := 55) hX dX7_twins_51 (by decide) ?_
          refine wa_iadd hX dX7_twins_55 ?_
          refine wa_istore_n hX dX7_twins_56 (by decide) ?_
          refine wa_iinc hX dX7_twins_57 rfl (inc1 _) (by decide) ?_
          refine wa_goto (tgt := 4) hX dX7_twins_60 (by decide) ?_
          refine wx_sub (l' := [(0, _), (1, _), (2, _)]) ⟨rfl, rfl, rfl, trivial⟩ ?_
          exact ih (i + 1) _ (by omega) (by rw [ex]; exact (nI_add _ 1).trans (congrArg nI (cnt_t c1).symm))
      have li : ∀ (n j : Nat) (y : Int32), j + n = i → (y = bI (anyN (fun o => eqV (aV S o) (aV S i)) j)) → WX X 0 0 N Sh I J 15 [(0, .ref Q), (1, .int x), (2, .int (nI i)), (3, .int y), (4, .int (nI j))] [] := by
        intro n
        induction n with
        | zero =>
          intro j y hi ey
          obtain rfl : j = i := by omega
          refine wa_iload hX dX7_twins_15 rfl ?_
          refine wa_iload_n hX dX7_twins_17 rfl ?_
          refine wa_icmp_ge (tgt := 45) hX dX7_twins_18 (by decide) (fun c_18 => ?_) (fun c_18 => absurd (Int32.le_refl _) c_18)
          exact nxt _ ey
        | succ n ih =>
          intro j y hi ey
          have hlt : j < i := by omega
          refine wa_iload hX dX7_twins_15 rfl ?_
          refine wa_iload_n hX dX7_twins_17 rfl ?_
          refine wa_icmp_ge (tgt := 45) hX dX7_twins_18 (by decide) (fun c_18 => absurd c_18 (nI_ge hlt (by omega))) (fun c_18 => ?_)
          refine wa_iload_n hX dX7_twins_21 rfl ?_
          refine wa_aload_n hX dX7_twins_22 rfl ?_
          refine wa_iload_n hX dX7_twins_23 rfl ?_
          refine wa_iload hX dX7_twins_24 rfl ?_
          refine wa_vP hX (tX7_apart I hM hV hi6 (show j < 6 by omega)) bX7_apart mX7_206 (by decide) (by decide) (ci := 6) ⟨by decide, rfl⟩ (by first | exact hM.1 | assumption) rfl rfl (Nat.le_of_ble_eq_true rfl) dX7_twins_26 (fun r_26 q_26 => ?_)
          subst q_26
          refine wa_if_ne (tgt := 36) hX dX7_twins_29 (by decide) (fun c_29 => ?_) (fun c_29 => ?_)
          · skip
            have c1 : eqV (aV S j) (aV S i) = false := by rw [eqV_c]; exact Bool.eq_false_iff.mpr (fun q => c_29 (diffV_0.mpr q))
            refine wa_iconst (v := nI 0) hX dX7_twins_36 (by decide) ?_
            refine wa_ior hX dX7_twins_37 ?_
            refine wa_istore_n hX dX7_twins_38 (by decide) ?_
            refine wa_iinc hX dX7_twins_39 rfl (inc1 _) (by decide) ?_
            refine wa_goto (tgt := 15) hX dX7_twins_42 (by decide) ?_
            refine wx_sub (l' := [(0, _), (1, _), (2, _), (3, _), (4, _)]) ⟨rfl, rfl, rfl, rfl, rfl, trivial⟩ ?_
            exact ih (j + 1) _ (by omega) (by rw [ey, anyN_s, c1]; exact nI_or _ false)
          · skip
            have c1 : eqV (aV S j) (aV S i) = true := by rw [eqV_c]; exact diffV_0.mp c_29
            refine wa_iconst (v := nI 1) hX dX7_twins_32 (by decide) ?_
            refine wa_goto (tgt := 37) hX dX7_twins_33 (by decide) ?_
            refine wa_ior hX dX7_twins_37 ?_
            refine wa_istore_n hX dX7_twins_38 (by decide) ?_
            refine wa_iinc hX dX7_twins_39 rfl (inc1 _) (by decide) ?_
            refine wa_goto (tgt := 15) hX dX7_twins_42 (by decide) ?_
            refine wx_sub (l' := [(0, _), (1, _), (2, _), (3, _), (4, _)]) ⟨rfl, rfl, rfl, rfl, rfl, trivial⟩ ?_
            exact ih (j + 1) _ (by omega) (by rw [ey, anyN_s, c1]; exact nI_or _ true)
      refine wa_iload_n hX dX7_twins_4 rfl ?_
      refine wa_bipush (v := nI 6) hX dX7_twins_5 (by decide) ?_
      refine wa_icmp_ge (tgt := 63) hX dX7_twins_7 (by decide) (fun c_7 => absurd c_7 (nI_ge hi6 (by decide))) (fun c_7 => ?_)
      refine wa_iconst (v := nI 0) hX dX7_twins_10 (by decide) ?_
      refine wa_istore_n hX dX7_twins_11 (by decide) ?_
      refine wa_iconst (v := nI 0) hX dX7_twins_12 (by decide) ?_
      refine wa_istore hX dX7_twins_13 (by decide) ?_
      exact li i 0 _ (by omega) rfl
  refine wa_iconst (v := nI 0) hX dX7_twins_0 (by decide) ?_
  refine wa_istore_n hX dX7_twins_1 (by decide) ?_
  refine wa_iconst (v := nI 0) hX dX7_twins_2 (by decide) ?_
  refine wa_istore_n hX dX7_twins_3 (by decide) ?_
  exact lp 6 0 _ (by omega) rfl

theorem all_t (S : AS) : (fun m => sumN (allF S true m) (aH S m)) = (fun m => sumN (shV (aH S m) (aO S m) (aE S m)) (aH S m)) := rfl
theorem all_f (S : AS) : (fun m => sumN (allF S false m) (aH S m)) = (fun m => sumN (enV (aE S m)) (aH S m)) := rfl
set_option maxHeartbeats 4000000 in
set_option maxRecDepth 100000 in
theorem tX7_count {l : Launch} {D : va_G} {A : Nat → Prop} {N : Nat} {Sh : SM} {J : JM} (I : IM) {Q : Nat} {F : FS} (hG : MV Sh I J Q F) (x : Int32) : CtP l D A yX7_count cX7_count 2 FieldType.int 5 N Sh I J [.ref Q, .int x] (fun r => r = cntF F (swI 7 x)) := by
  refine ct_I (l0 := [(0, .ref Q), (1, .int x)]) (by decide +kernel) (Nat.le_of_ble_eq_true rfl) rfl (fun _ _ _ _ => rfl) ?_
  intro X hX hret _ _ _
  have hX : XK X RX7 cX7_count 2 5 := hX
  obtain ⟨hM, hV, ⟨hc1, hc2⟩, hp, hkk, hT⟩ := id hG
  obtain ⟨q0, ⟨qj0, qj1, qj3, qj5, qj6, qj8, qj12, qj13, qj14, qj15, qj16, qj18, qj19⟩, ⟨qs1, qs2, qs3, qs4, qs5, qs6, qs7, qs8, qs9, qs10, qs11, qs12, qs13⟩⟩ := id hM
  refine wa_iload_n hX dX7_count_0 rfl ?_
  rcases sw_in x 7 (by decide) with hsw | ⟨jsw, hsw1, hsw2⟩
  · skip
    refine wa_tabOut (tgt := 85) hX dX7_count_1 hsw (by decide) ?_
    refine wa_bipush (v := -2) hX dX7_count_85 (by decide) ?_
    exact hret _ _ _ _ _ ⟨(by rw [swI_out (n := 7) (by decide) hsw]; rfl), rfl, rfl⟩ dX7_count_87
  · subst hsw2
    rcases (show jsw = 0 ∨ jsw = 1 ∨ jsw = 2 ∨ jsw = 3 ∨ jsw = 4 ∨ jsw = 5 ∨ jsw = 6 by omega) with rfl | rfl | rfl | rfl | rfl | rfl | rfl
    · skip
      refine wa_tabIn (off := 43) (tgt := 44) hX dX7_count_1 (by decide) (by decide) (by decide) (by decide) ?_
      refine wa_aload_n hX dX7_count_44 rfl ?_
      refine wa_getR hX fX7_7 rfl (by assumption) (by assumption) dX7_count_45 ?_
      refine wa_sipush (v := nI 414) hX dX7_count_48 (by decide) ?_
      refine wa_iald hX (by assumption) rfl (show 414 < 514 by decide) (by decide) dX7_count_51 ?_
      exact hret _ _ _ _ _ ⟨(by rw [swI_in (show 0 < 7 by decide) (by decide)]; exact hV.2.1.1), rfl, rfl⟩ dX7_count_52
    · skip
      refine wa_tabIn (off := 52) (tgt := 53) hX dX7_count_1 (by decide) (by decide) (by decide) (by decide) ?_
      refine wa_aload_n hX dX7_count_53 rfl ?_
      refine wa_vP hX (tX7_layers I hM hV) bX7_layers mX7_180 (by decide) (by decide) (ci := 6) ⟨by decide, rfl⟩ (by first | exact hM.1 | assumption) rfl rfl (Nat.le_of_ble_eq_true rfl) dX7_count_54 (fun r_54 q_54 => ?_)
      exact hret _ _ _ _ _ ⟨(by rw [swI_in (show 1 < 7 by decide) (by decide)]; exact q_54), rfl, rfl⟩ dX7_count_57
    · skip
      refine wa_tabIn (off := 57) (tgt := 58) hX dX7_count_1 (by decide) (by decide) (by decide) (by decide) ?_
      refine wa_aload_n hX dX7_count_58 rfl ?_
      refine wa_iconst (v := nI 0) hX dX7_count_59 (by decide) ?_
      refine wa_vP hX (tX7_allEntries I hM hV false) bX7_allEntries mX7_216 (by decide) (by decide) (ci := 6) ⟨by decide, rfl⟩ (by first | exact hM.1 | assumption) rfl rfl (Nat.le_of_ble_eq_true rfl) dX7_count_60 (fun r_60 q_60 => ?_)
      rw [all_f] at q_60
      exact hret _ _ _ _ _ ⟨(by rw [swI_in (show 2 < 7 by decide) (by decide)]; exact q_60), rfl, rfl⟩ dX7_count_63
    · skip
      refine wa_tabIn (off := 63) (tgt := 64) hX dX7_count_1 (by decide) (by decide) (by decide) (by decide) ?_
      refine wa_aload_n hX dX7_count_64 rfl ?_
      refine wa_iconst (v := nI 1) hX dX7_count_65 (by decide) ?_
      refine wa_vP hX (tX7_allEntries I hM hV true) bX7_allEntries mX7_216 (by decide) (by decide) (ci := 6) ⟨by decide, rfl⟩ (by first | exact hM.1 | assumption) rfl rfl (Nat.le_of_ble_eq_true rfl) dX7_count_66 (fun r_66 q_66 => ?_)
      rw [all_t] at q_66
      exact hret _ _ _ _ _ ⟨(by rw [swI_in (show 3 < 7 by decide) (by decide)]; exact q_66), rfl, rfl⟩ dX7_count_69
    · skip
      refine wa_tabIn (off := 69) (tgt := 70) hX dX7_count_1 (by decide) (by decide) (by decide) (by decide) ?_
      refine wa_aload_n hX dX7_count_70 rfl ?_
      refine wa_vP hX (tX7_twins I hM hV) bX7_twins mX7_220 (by decide) (by decide) (ci := 6) ⟨by decide, rfl⟩ (by first | exact hM.1 | assumption) rfl rfl (Nat.le_of_ble_eq_true rfl) dX7_count_71 (fun r_71 q_71 => ?_)
      exact hret _ _ _ _ _ ⟨(by rw [swI_in (show 4 < 7 by decide) (by decide)]; exact q_71), rfl, rfl⟩ dX7_count_74
    · skip
      refine wa_tabIn (off := 74) (tgt := 75) hX dX7_count_1 (by decide) (by decide) (by decide) (by decide) ?_
      refine wa_aload_n hX dX7_count_75 rfl ?_
      refine wa_getI hX fX7_59 rfl (by assumption) dX7_count_76 ?_
      exact hret _ _ _ _ _ ⟨(by rw [swI_in (show 5 < 7 by decide) (by decide)]; exact hc2), rfl, rfl⟩ dX7_count_79
    · skip
      refine wa_tabIn (off := 79) (tgt := 80) hX dX7_count_1 (by decide) (by decide) (by decide) (by decide) ?_
      refine wa_aload_n hX dX7_count_80 rfl ?_
      refine wa_getI hX fX7_131 rfl (by assumption) dX7_count_81 ?_
      exact hret _ _ _ _ _ ⟨(by rw [swI_in (show 6 < 7 by decide) (by decide)]; exact hT.1.2), rfl, rfl⟩ dX7_count_84

theorem bt_img {v : Nat → Nat} {i : Nat} (hi : i < 32) : ∀ n, (∀ k, k < n → v k ≤ 16) → 16 ≤ i → bt (imgS v n) i = false
  | 0, _, _ => b_0 i
  | n + 1, h, h16 => by
    have hn := h n (by omega)
    show bt (if v n = 16 then imgS v n else imgS v n ||| b1 (nI (v n))) i = false
    split
    · exact bt_img hi n (fun k hk => h k (by omega)) h16
    · rw [b_or, bt_img hi n (fun k hk => h k (by omega)) h16, bt_b1 (by omega) hi, decide_eq_false (by omega)]
      rfl
theorem one_one {v : Nat → Nat} (h : ∀ k, k < 16 → v k ≤ 16) : decide (nI (cnt (bt (imgS v 16)) 16) + nI (cnt (bt (bset (fun k => decide (v k = 16)) 16)) 16) = nI 16) = decide (bcI (imgS v 16) = nI 16 - bcI (bset (fun k => decide (v k = 16)) 16)) := by
  rw [bc_x (fun i a b => bt_img b 16 h a), bc_x (fun i a b => by rw [bt_bset b (by decide)]; simp; omega)]
  have h1 := cnt_le (bt (imgS v 16)) 16
  have h2 := cnt_le (bt (bset (fun k => decide (v k = 16)) 16)) 16
  rw [nI_add, pk_sub h2]
  have e : (nI (cnt (bt (imgS v 16)) 16 + cnt (bt (bset (fun k => decide (v k = 16)) 16)) 16) = nI 16) ↔ (nI (cnt (bt (imgS v 16)) 16) = nI (16 - cnt (bt (bset (fun k => decide (v k = 16)) 16)) 16)) := by
    rw [nI_eq (by omega) (by decide), nI_eq (by omega) (by omega)]
    omega
  simp only [e]
theorem set_2 (v : Nat → Nat) : setV v 2 16 = bset (fun k => decide (v k = 16)) 16 := bset_congr (fun k _ => by simp [setP])
theorem set_3 (v : Nat → Nat) : setV v 3 16 = imgS v 16 := rfl
theorem set_5 (v : Nat → Nat) : setV v 5 16 = bset (fun k => decide (v k = k)) 16 := bset_congr (fun k _ => by simp [setP])
theorem set_7 (v : Nat → Nat) : setV v 7 16 = bset (fun k => decide (0 < cyc v k)) 16 := bset_congr (fun k _ => by simp [setP])
set_option maxHeartbeats 4000000 in
set_option maxRecDepth 100000 in
theorem tX7_map {l : Launch} {D : va_G} {A : Nat → Prop} {N : Nat} {Sh : SM} {J : JM} (I : IM) {Q : Nat} (hM : MM Sh J Q) {S : AS} (hV : VF (I (Q + 1)) S) (x y : Int32) : CtP l D A yX7_map cX7_map 3 FieldType.int 6 N Sh I J [.ref Q, .int x, .int y] (fun r => r = onB 6 x (fun m => mapF S m (swI 9 y)) (-1)) := by
  refine ct_I (l0 := [(0, .ref Q), (1, .int x), (2, .int y)]) (by decide +kernel) (Nat.le_of_ble_eq_true rfl) rfl (fun _ _ _ _ => rfl) ?_
  intro X hX hret _ _ _
  have hX : XK X RX7 cX7_map 3 6 := hX
  obtain ⟨q0, ⟨qj0, qj1, qj3, qj5, qj6, qj8, qj12, qj13, qj14, qj15, qj16, qj18, qj19⟩, ⟨qs1, qs2, qs3, qs4, qs5, qs6, qs7, qs8, qs9, qs10, qs11, qs12, qs13⟩⟩ := id hM
  refine wa_iload_n hX dX7_map_0 rfl ?_
  refine wa_sP hX (tX7_noMap I x) bX7_noMap mX7_55 (by decide) (by decide) rfl rfl (Nat.le_of_ble_eq_true rfl) dX7_map_1 (fun r_1 q_1 => ?_)
  subst q_1
  refine wa_if_eq (tgt := 9) hX dX7_map_4 (by decide) (fun c_4 => ?_) (fun c_4 => ?_)
  · skip
    have n_4 : inB 6 x = true := by have := bI_0.mp c_4; simpa using this
    obtain ⟨m, hm, em⟩ := inB_t (by decide) n_4
    subst em
    refine wa_iload_n hX dX7_map_9 rfl ?_
    rcases sw_in y 9 (by decide) with hsw | ⟨jsw, hsw1, hsw2⟩
    · skip
      refine wa_tabOut (tgt := 126) hX dX7_map_10 hsw (by decide) ?_
      refine wa_bipush (v := -2) hX dX7_map_126 (by decide) ?_
      exact hret _ _ _ _ _ ⟨(by rw [onB_in hm (by decide), swI_out (n := 9) (by decide) hsw]; rfl), rfl, rfl⟩ dX7_map_128
    · subst hsw2
      rcases (show jsw = 0 ∨ jsw = 1 ∨ jsw = 2 ∨ jsw = 3 ∨ jsw = 4 ∨ jsw = 5 ∨ jsw = 6 ∨ jsw = 7 ∨ jsw = 8 by omega) with rfl | rfl | rfl | rfl | rfl | rfl | rfl | rfl | rfl
      · skip
        refine wa_tabIn (off := 50) (tgt := 60) hX dX7_map_10 (by decide) (by decide) (by decide) (by decide) ?_
        refine wa_aload_n hX dX7_map_60 rfl ?_
        refine wa_getR hX fX7_7 rfl (by assumption) (by assumption) dX7_map_61 ?_
        refine wa_sipush (v := nI 408) hX dX7_map_64 (by decide) ?_
        refine wa_iload_n hX dX7_map_67 rfl ?_
        refine wa_iadd hX dX7_map_68 ?_
        refine wa_iald hX (by assumption) (nI_add 408 m) (show 408 + m < 514 by omega) (by decide) dX7_map_69 ?_
        exact hret _ _ _ _ _ ⟨(by rw [onB_in hm (by decide), swI_in (show 0 < 9 by decide) (by decide)]; exact (hV.1 m hm).1.2), rfl, rfl⟩ dX7_map_70
      · skip
        refine wa_tabIn (off := 61) (tgt := 71) hX dX7_map_10 (by decide) (by decide) (by decide) (by decide) ?_
        refine wa_aload_n hX dX7_map_71 rfl ?_
        refine wa_iload_n hX dX7_map_72 rfl ?_
        refine wa_vP hX (tX7_onLayers I hM hV hm) bX7_onLayers mX7_193 (by decide) (by decide) (ci := 6) ⟨by decide, rfl⟩ (by first | exact hM.1 | assumption) rfl rfl (Nat.le_of_ble_eq_true rfl) dX7_map_73 (fun r_73 q_73 => ?_)
        exact hret _ _ _ _ _ ⟨(by rw [onB_in hm (by decide), swI_in (show 1 < 9 by decide) (by decide)]; exact q_73), rfl, rfl⟩ dX7_map_76
      · skip
        refine wa_tabIn (off := 67) (tgt := 77) hX dX7_map_10 (by decide) (by decide) (by decide) (by decide) ?_
        refine wa_aload_n hX dX7_map_77 rfl ?_
        refine wa_iload_n hX dX7_map_78 rfl ?_
        refine wa_iload_n hX dX7_map_79 rfl ?_
        refine wa_vP hX (tX7_set I hM hV hm (show 2 < 9 by decide)) bX7_set mX7_196 (by decide) (by decide) (ci := 6) ⟨by decide, rfl⟩ (by first | exact hM.1 | assumption) rfl rfl (Nat.le_of_ble_eq_true rfl) dX7_map_80 (fun r_80 q_80 => ?_)
        rw [set_2] at q_80
        exact hret _ _ _ _ _ ⟨(by rw [onB_in hm (by decide), swI_in (show 2 < 9 by decide) (by decide)]; exact q_80), rfl, rfl⟩ dX7_map_83
      · skip
        refine wa_tabIn (off := 67) (tgt := 77) hX dX7_map_10 (by decide) (by decide) (by decide) (by decide) ?_
        refine wa_aload_n hX dX7_map_77 rfl ?_
        refine wa_iload_n hX dX7_map_78 rfl ?_
        refine wa_iload_n hX dX7_map_79 rfl ?_
        refine wa_vP hX (tX7_set I hM hV hm (show 3 < 9 by decide)) bX7_set mX7_196 (by decide) (by decide) (ci := 6) ⟨by decide, rfl⟩ (by first | exact hM.1 | assumption) rfl rfl (Nat.le_of_ble_eq_true rfl) dX7_map_80 (fun r_80 q_80 => ?_)
        rw [set_3] at q_80
        exact hret _ _ _ _ _ ⟨(by rw [onB_in hm (by decide), swI_in (show 3 < 9 by decide) (by decide)]; exact q_80), rfl, rfl⟩ dX7_map_83
      · skip
        refine wa_tabIn (off := 74) (tgt := 84) hX dX7_map_10 (by decide) (by decide) (by decide) (by decide) ?_
        refine wa_aload_n hX dX7_map_84 rfl ?_
        refine wa_iload_n hX dX7_map_85 rfl ?_
        refine wa_iconst (v := nI 3) hX dX7_map_86 (by decide) ?_
        refine wa_vP hX (tX7_set I hM hV hm (show 3 < 9 by decide)) bX7_set mX7_196 (by decide) (by decide) (ci := 6) ⟨by decide, rfl⟩ (by first | exact hM.1 | assumption) rfl rfl (Nat.le_of_ble_eq_true rfl) dX7_map_87 (fun r_87 q_87 => ?_)
        rw [set_3] at q_87
        subst q_87
        refine wa_sP hX (tX7_bits I (imgS (aV S m) 16)) bX7_bits mX7_119 (by decide) (by decide) rfl rfl (Nat.le_of_ble_eq_true rfl) dX7_map_90 (fun r_90 q_90 => ?_)
        subst q_90
        refine wa_aload_n hX dX7_map_93 rfl ?_
        refine wa_iload_n hX dX7_map_94 rfl ?_
        refine wa_iconst (v := nI 2) hX dX7_map_95 (by decide) ?_
        refine wa_vP hX (tX7_set I hM hV hm (show 2 < 9 by decide)) bX7_set mX7_196 (by decide) (by decide) (ci := 6) ⟨by decide, rfl⟩ (by first | exact hM.1 | assumption) rfl rfl (Nat.le_of_ble_eq_true rfl) dX7_map_96 (fun r_96 q_96 => ?_)
        rw [set_2] at q_96
        subst q_96
        refine wa_sP hX (tX7_bits I (bset (fun k => decide (aV S m k = 16)) 16)) bX7_bits mX7_119 (by decide) (by decide) rfl rfl (Nat.le_of_ble_eq_true rfl) dX7_map_99 (fun r_99 q_99 => ?_)
        subst q_99
        have ho := one_one (v := aV S m) (fun k hk => hV.val hm hk)
        refine wa_iadd hX dX7_map_102 ?_
        refine wa_bipush (v := nI 16) hX dX7_map_103 (by decide) ?_
        refine wa_icmp_ne (tgt := 112) hX dX7_map_105 (by decide) (fun c_105 => ?_) (fun c_105 => ?_)
        · skip
          refine wa_iconst (v := nI 0) hX dX7_map_112 (by decide) ?_
          exact hret _ _ _ _ _ ⟨(by rw [onB_in hm (by decide), swI_in (show 4 < 9 by decide) (by decide)]; show nI 0 = bI (decide (bcI (imgS (aV S m) 16) = nI 16 - bcI (bset (fun k => decide (aV S m k = 16)) 16))); rw [← ho, decide_eq_false c_105]; rfl), rfl, rfl⟩ dX7_map_113
        · skip
          refine wa_iconst (v := nI 1) hX dX7_map_108 (by decide) ?_
          refine wa_goto (tgt := 113) hX dX7_map_109 (by decide) ?_
          exact hret _ _ _ _ _ ⟨(by rw [onB_in hm (by decide), swI_in (show 4 < 9 by decide) (by decide)]; show nI 1 = bI (decide (bcI (imgS (aV S m) 16) = nI 16 - bcI (bset (fun k => decide (aV S m k = 16)) 16))); rw [← ho, decide_eq_true c_105]; rfl), rfl, rfl⟩ dX7_map_113
      · skip
        refine wa_tabIn (off := 67) (tgt := 77) hX dX7_map_10 (by decide) (by decide) (by decide) (by decide) ?_
        refine wa_aload_n hX dX7_map_77 rfl ?_
        refine wa_iload_n hX dX7_map_78 rfl ?_
        refine wa_iload_n hX dX7_map_79 rfl ?_
        refine wa_vP hX (tX7_set I hM hV hm (show 5 < 9 by decide)) bX7_set mX7_196 (by decide) (by decide) (ci := 6) ⟨by decide, rfl⟩ (by first | exact hM.1 | assumption) rfl rfl (Nat.le_of_ble_eq_true rfl) dX7_map_80 (fun r_80 q_80 => ?_)
        rw [set_5] at q_80
        exact hret _ _ _ _ _ ⟨(by rw [onB_in hm (by decide), swI_in (show 5 < 9 by decide) (by decide)]; exact q_80), rfl, rfl⟩ dX7_map_83
      · skip
        refine wa_tabIn (off := 104) (tgt := 114) hX dX7_map_10 (by decide) (by decide) (by decide) (by decide) ?_
        refine wa_aload_n hX dX7_map_114 rfl ?_
        refine wa_iload_n hX dX7_map_115 rfl ?_
        refine wa_vP hX (tX7_shadowed I hM hV hm) bX7_shadowed mX7_199 (by decide) (by decide) (ci := 6) ⟨by decide, rfl⟩ (by first | exact hM.1 | assumption) rfl rfl (Nat.le_of_ble_eq_true rfl) dX7_map_116 (fun r_116 q_116 => ?_)
        exact hret _ _ _ _ _ ⟨(by rw [onB_in hm (by decide), swI_in (show 6 < 9 by decide) (by decide)]; exact q_116), rfl, rfl⟩ dX7_map_119
      · skip
        refine wa_tabIn (off := 67) (tgt := 77) hX dX7_map_10 (by decide) (by decide) (by decide) (by decide) ?_
        refine wa_aload_n hX dX7_map_77 rfl ?_
        refine wa_iload_n hX dX7_map_78 rfl ?_
        refine wa_iload_n hX dX7_map_79 rfl ?_
        refine wa_vP hX (tX7_set I hM hV hm (show 7 < 9 by decide)) bX7_set mX7_196 (by decide) (by decide) (ci := 6) ⟨by decide, rfl⟩ (by first | exact hM.1 | assumption) rfl rfl (Nat.le_of_ble_eq_true rfl) dX7_map_80 (fun r_80 q_80 => ?_)
        rw [set_7] at q_80
        exact hret _ _ _ _ _ ⟨(by rw [onB_in hm (by decide), swI_in (show 7 < 9 by decide) (by decide)]; exact q_80), rfl, rfl⟩ dX7_map_83
      · skip
        refine wa_tabIn (off := 110) (tgt := 120) hX dX7_map_10 (by decide) (by decide) (by decide) (by decide) ?_
        refine wa_aload_n hX dX7_map_120 rfl ?_
        refine wa_iload_n hX dX7_map_121 rfl ?_
        refine wa_vP hX (tX7_longest I hM hV hm) bX7_longest mX7_202 (by decide) (by decide) (ci := 6) ⟨by decide, rfl⟩ (by first | exact hM.1 | assumption) rfl rfl (Nat.le_of_ble_eq_true rfl) dX7_map_122 (fun r_122 q_122 => ?_)
        exact hret _ _ _ _ _ ⟨(by rw [onB_in hm (by decide), swI_in (show 8 < 9 by decide) (by decide)]; exact q_122), rfl, rfl⟩ dX7_map_125
  · skip
    have n_4 : inB 6 x = false := by have := bI_n0.mp c_4; simpa using this
    refine wa_iconst (v := -1) hX dX7_map_7 (by decide) ?_
    exact hret _ _ _ _ _ ⟨(by rw [onB_out n_4]), rfl, rfl⟩ dX7_map_8

