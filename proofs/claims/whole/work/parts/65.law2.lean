/-! the law's loop and its start -/
theorem cLL_7 : Cond.classLink RL 7 RX6 ∈ TWg := tw_dec (by decide +kernel)
theorem cLL_10 : Cond.classLink RL 10 RX7 ∈ TWg := tw_dec (by decide +kernel)
theorem iLL_9 : Cond.methodLink RL 9 yX6_init ∈ TWg ∧ Cond.instanceMethod yX6_init ∈ TWg := ⟨tw_dec (by decide +kernel), tw_dec (by decide +kernel)⟩
theorem iLL_12 : Cond.methodLink RL 12 yX7_init ∈ TWg ∧ Cond.instanceMethod yX7_init ∈ TWg := ⟨tw_dec (by decide +kernel), tw_dec (by decide +kernel)⟩
theorem nw_of {s : State} {args : Array Value} (hts : ∀ w ∈ lw_tbl, w.before args s = true) : NW s := by
  have h : ∀ q ∈ nests, Cond.methodLinkNest q.1 q.2.1 q.2.2.1 q.2.2.2 ∈ lw_tbl := by decide +kernel
  exact fun q hq => va_Nw.of rfl (hts _ (h q hq))
theorem aos_of {s : State} {args : Array Value} (hts : ∀ w ∈ lw_tbl, w.before args s = true) : AOS s := by
  have h0 : Cond.arrayOver (.object RX0) ∈ lw_tbl := by decide +kernel
  have h4 : Cond.arrayOver (.object RX4) ∈ lw_tbl := by decide +kernel
  have hi : Cond.arrayOver (.array .int) ∈ lw_tbl := by decide +kernel
  exact ⟨va_AO.of (hts _ h0), va_AO.of (hts _ h4), hts _ hi⟩
set_option maxHeartbeats 4000000 in
set_option maxRecDepth 100000 in
/-- the law's loop: both sides hold the same F at its head -/
theorem law_loop {X : Cx} (hX : XK X RL cL_law 4 2048) {k n N : Nat} {Sh : SM} (hk : k ≤ X.1.2.2.2.1.cells ∧ n ≤ X.1.2.2.2.1.slots) {b L B : Nat} {xs : Nat → Int32} (S : LSC X b L xs) (hend : ∀ (I : IM) (J : JM) (pc : Nat) (l : List (Nat × Value)), decode cL_law pc = .ok (.ireturn, 1) → WX X k n N Sh I J pc l [.int 1]) : ∀ (m i : Nat) (I : IM) (J : JM) (F : FS), L < i + m → i ≤ L → GV Sh I J B F → MV Sh I J (B + 367) F → WX X k n N Sh I J 18 [(0, .ref b), (1, .ref B), (2, .ref (B + 367)), (3, .int (nI i))] [] := by
  have hL := S.2.2.2
  intro m
  induction m with
  | zero =>
    intro i I J F h1 h2
    exact absurd h1 (by omega)
  | succ m ih =>
    intro i I J F h1 h2 hG hM
    refine wa_iload_n hX dL_law_18 rfl ?_
    refine wa_aload_n hX dL_law_19 rfl ?_
    refine wl_slen hX S dL_law_20 ?_
    refine wa_iconst (v := nI 5) hX dL_law_21 (by decide) ?_
    refine wa_isub hX dL_law_22 ?_
    refine wa_icmp_gt (tgt := 988) hX dL_law_23 (by decide) (fun c => ?_) (fun c => ?_)
    · refine wa_iconst (v := 1) hX dL_law_988 (by decide) ?_
      exact hend _ _ _ _ dL_law_989
    · have hi : i + 5 ≤ L := by
        rw [Int32.lt_iff_toInt_lt, pk_sub_toInt (by omega) (by omega), nI_toInt (by omega)] at c
        omega
      have cont : ∀ (I' : IM) (J' : JM) (F' : FS), GV Sh I' J' B F' → MV Sh I' J' (B + 367) F' → WX X k n N Sh I' J' 982 [(0, .ref b), (1, .ref B), (2, .ref (B + 367)), (3, .int (nI i))] [] := by
        intro I' J' F' g1 g2
        refine wa_iinc (v := nI (i + 5)) hX dL_law_982 rfl (by rw [show Int32.ofInt 5 = nI 5 from by decide]; exact nI_add i 5) (by decide) ?_
        refine wa_goto (tgt := 18) hX dL_law_985 (by decide) ?_
        exact wx_sub (l' := [(0, .ref b), (1, .ref B), (2, .ref (B + 367)), (3, .int (nI (i + 5)))]) ⟨rfl, rfl, rfl, rfl, trivial⟩ (ih (i + 5) I' J' F' (by omega) hi g1 g2)
      refine wa_aload_n hX dL_law_26 rfl ?_
      refine wa_iload_n hX dL_law_27 rfl ?_
      refine wl_sld hX S (j := i) rfl (by omega) dL_law_28 ?_
      refine wa_bipush (v := nI 31) hX dL_law_29 (by decide) ?_
      refine wa_iand hX dL_law_31 ?_
      generalize (xs i &&& nI 31) = v
      rcases sw_in v 28 (by decide) with hsw | ⟨jsw, hsw1, hsw2⟩
      · refine wa_tabOut (tgt := 982) hX dL_law_32 hsw (by decide) ?_
        exact cont _ _ _ hG hM
      · subst hsw2
        rcases (show jsw = 0 ∨ jsw = 1 ∨ jsw = 2 ∨ jsw = 3 ∨ jsw = 4 ∨ jsw = 5 ∨ jsw = 6 ∨ jsw = 7 ∨ jsw = 8 ∨ jsw = 9 ∨ jsw = 10 ∨ jsw = 11 ∨ jsw = 12 ∨ jsw = 13 ∨ jsw = 14 ∨ jsw = 15 ∨ jsw = 16 ∨ jsw = 17 ∨ jsw = 18 ∨ jsw = 19 ∨ jsw = 20 ∨ jsw = 21 ∨ jsw = 22 ∨ jsw = 23 ∨ jsw = 24 ∨ jsw = 25 ∨ jsw = 26 ∨ jsw = 27 by omega) with rfl | rfl | rfl | rfl | rfl | rfl | rfl | rfl | rfl | rfl | rfl | rfl | rfl | rfl | rfl | rfl | rfl | rfl | rfl | rfl | rfl | rfl | rfl | rfl | rfl | rfl | rfl | rfl
        · refine wa_tabIn (off := 128) (tgt := 160) hX dL_law_32 (by decide) (by decide) (by decide) (by decide) ?_
          exact arm_0 hX hk S hi hG hM cont
        · refine wa_tabIn (off := 151) (tgt := 183) hX dL_law_32 (by decide) (by decide) (by decide) (by decide) ?_
          exact arm_1 hX hk S hi hG hM cont
        · refine wa_tabIn (off := 174) (tgt := 206) hX dL_law_32 (by decide) (by decide) (by decide) (by decide) ?_
          exact arm_2 hX hk S hi hG hM cont
        · refine wa_tabIn (off := 233) (tgt := 265) hX dL_law_32 (by decide) (by decide) (by decide) (by decide) ?_
          exact arm_3 hX hk S hi hG hM cont
        · refine wa_tabIn (off := 276) (tgt := 308) hX dL_law_32 (by decide) (by decide) (by decide) (by decide) ?_
          exact arm_4 hX hk S hi hG hM cont
        · refine wa_tabIn (off := 329) (tgt := 361) hX dL_law_32 (by decide) (by decide) (by decide) (by decide) ?_
          exact arm_5 hX hk S hi hG hM cont
        · refine wa_tabIn (off := 352) (tgt := 384) hX dL_law_32 (by decide) (by decide) (by decide) (by decide) ?_
          exact arm_6 hX hk S hi hG hM cont
        · refine wa_tabIn (off := 365) (tgt := 397) hX dL_law_32 (by decide) (by decide) (by decide) (by decide) ?_
          exact arm_7 hX hk S hi hG hM cont
        · refine wa_tabIn (off := 388) (tgt := 420) hX dL_law_32 (by decide) (by decide) (by decide) (by decide) ?_
          exact arm_8 hX hk S hi hG hM cont
        · refine wa_tabIn (off := 421) (tgt := 453) hX dL_law_32 (by decide) (by decide) (by decide) (by decide) ?_
          exact arm_9 hX hk S hi hG hM cont
        · refine wa_tabIn (off := 444) (tgt := 476) hX dL_law_32 (by decide) (by decide) (by decide) (by decide) ?_
          exact arm_10 hX hk S hi hG hM cont
        · refine wa_tabIn (off := 469) (tgt := 501) hX dL_law_32 (by decide) (by decide) (by decide) (by decide) ?_
          exact arm_11 hX hk S hi hG hM cont
        · refine wa_tabIn (off := 482) (tgt := 514) hX dL_law_32 (by decide) (by decide) (by decide) (by decide) ?_
          exact arm_12 hX hk S hi hG hM cont
        · refine wa_tabIn (off := 495) (tgt := 527) hX dL_law_32 (by decide) (by decide) (by decide) (by decide) ?_
          exact arm_13 hX hk S hi hG hM cont
        · refine wa_tabIn (off := 508) (tgt := 540) hX dL_law_32 (by decide) (by decide) (by decide) (by decide) ?_
          exact arm_14 hX hk S hi hG hM cont
        · refine wa_tabIn (off := 521) (tgt := 553) hX dL_law_32 (by decide) (by decide) (by decide) (by decide) ?_
          exact arm_15 hX hk S hi hG hM cont
        · refine wa_tabIn (off := 554) (tgt := 586) hX dL_law_32 (by decide) (by decide) (by decide) (by decide) ?_
          exact arm_16 hX hk S hi hG hM cont
        · refine wa_tabIn (off := 587) (tgt := 619) hX dL_law_32 (by decide) (by decide) (by decide) (by decide) ?_
          exact arm_17 hX hk S hi hG hM cont
        · refine wa_tabIn (off := 620) (tgt := 652) hX dL_law_32 (by decide) (by decide) (by decide) (by decide) ?_
          exact arm_18 hX hk S hi hG hM cont
        · refine wa_tabIn (off := 663) (tgt := 695) hX dL_law_32 (by decide) (by decide) (by decide) (by decide) ?_
          exact arm_19 hX hk S hi hG hM cont
        · refine wa_tabIn (off := 706) (tgt := 738) hX dL_law_32 (by decide) (by decide) (by decide) (by decide) ?_
          exact arm_20 hX hk S hi hG hM cont
        · refine wa_tabIn (off := 749) (tgt := 781) hX dL_law_32 (by decide) (by decide) (by decide) (by decide) ?_
          exact arm_21 hX hk S hi hG hM cont
        · refine wa_tabIn (off := 792) (tgt := 824) hX dL_law_32 (by decide) (by decide) (by decide) (by decide) ?_
          exact arm_22 hX hk S hi hG hM cont
        · refine wa_tabIn (off := 815) (tgt := 847) hX dL_law_32 (by decide) (by decide) (by decide) (by decide) ?_
          exact arm_23 hX hk S hi hG hM cont
        · refine wa_tabIn (off := 848) (tgt := 880) hX dL_law_32 (by decide) (by decide) (by decide) (by decide) ?_
          exact arm_24 hX hk S hi hG hM cont
        · refine wa_tabIn (off := 871) (tgt := 903) hX dL_law_32 (by decide) (by decide) (by decide) (by decide) ?_
          exact arm_25 hX hk S hi hG hM cont
        · refine wa_tabIn (off := 894) (tgt := 926) hX dL_law_32 (by decide) (by decide) (by decide) (by decide) ?_
          exact arm_26 hX hk S hi hG hM cont
        · refine wa_tabIn (off := 927) (tgt := 959) hX dL_law_32 (by decide) (by decide) (by decide) (by decide) ?_
          exact arm_27 hX hk S hi hG hM cont
set_option maxHeartbeats 4000000 in
set_option maxRecDepth 100000 in
/-- the law's body over my memory, from its entry -/
theorem law_start {X : Cx} (hX : XK X RL cL_law 4 2048) (hN : XN X 600000 7302250) {b L : Nat} {xs : Nat → Int32} (S : LSC X b L xs) (hend : ∀ (N : Nat) (Sh : SM) (I : IM) (J : JM) (pc : Nat) (l : List (Nat × Value)), decode cL_law pc = .ok (.ireturn, 1) → WX X 381 7711 N Sh I J pc l [.int 1]) : WX X 0 0 X.1.2.2.2.2.1.heap.size (fun _ => none) (fun _ _ => nI 0) (fun _ _ => none) 0 [(0, .ref b)] [] := by
  have hA := hN.1
  have hc := hN.2.2.1
  have hs := hN.2.2.2
  generalize X.1.2.2.2.2.1.heap.size = B at hA ⊢
  refine wn_new hX hN (ci := 5) (by decide) cLL_7 kN6 kI6 (Nat.le_of_ble_eq_true rfl) (Nat.le_of_ble_eq_true rfl) dL_law_0 ?_
  refine wa_dup hX dL_law_3 rfl ?_
  refine wn_init hX hN (nX6 _ (a := B) (fun q hq => hA q (by omega)) sX_s) bX6_init rfl iLL_9 (by decide) (by decide) rfl rfl (Nat.le_of_ble_eq_true rfl) dL_law_4 (Nat.le_of_ble_eq_true rfl) (Nat.le_of_ble_eq_true rfl) (fun N_4 S_4 I_4 J_4 q_4 => ?_)
  obtain ⟨eN, ⟨o1, o2⟩, hG⟩ := q_4
  subst eN
  refine wa_astore_n hX dL_law_7 (by decide) ?_
  refine wn_new hX hN (ci := 6) (by decide) cLL_10 kN7 kI7 (Nat.le_of_ble_eq_true rfl) (Nat.le_of_ble_eq_true rfl) dL_law_8 ?_
  refine wa_dup hX dL_law_11 rfl ?_
  refine wn_init hX hN (nX7 _ (a := B + 367) (fun q hq => hA q (by omega)) sX_s (fun j => by rw [uR_s])) bX7_init rfl iLL_12 (by decide) (by decide) rfl rfl (Nat.le_of_ble_eq_true rfl) dL_law_12 (Nat.le_of_ble_eq_true rfl) (Nat.le_of_ble_eq_true rfl) (fun N_12 S_12 I_12 J_12 q_12 => ?_)
  obtain ⟨eN, ⟨o3, o4⟩, hM⟩ := q_12
  subst eN
  have hG2 : GV S_12 I_12 J_12 B F0S := hG.cg (fun b q1 q2 => by rw [o3 b (by omega), sX_n (by omega)]) (fun b q1 q2 => by rw [(o4 b (by omega)).1, uR_n (by omega)]) (fun b q1 q2 => by rw [(o4 b (by omega)).2, jR_n (by omega)])
  refine wa_astore_n hX dL_law_15 (by decide) ?_
  refine wa_iconst (v := nI 0) hX dL_law_16 (by decide) ?_
  refine wa_istore_n hX dL_law_17 (by decide) ?_
  refine wx_sub (l' := [(0, .ref b), (1, .ref B), (2, .ref (B + 367)), (3, .int (nI 0))]) ⟨rfl, rfl, rfl, rfl, trivial⟩ ?_
  show WX X 381 7711 _ _ _ _ 18 _ _
  exact law_loop hX ⟨Nat.le_trans (Nat.le_of_ble_eq_true rfl) hc, Nat.le_trans (Nat.le_of_ble_eq_true rfl) hs⟩ S (hend _ _) (L + 1) 0 _ _ F0S (by omega) (Nat.zero_le _) hG2 hM

