/-! PileMapsModel: follow, after, map, hidden, split, count -/
theorem nI_n5 {t : Nat} (h : t < 2 ^ 30) : ¬ nI t = -5 := by
  intro e
  have h2 := congrArg Int32.toInt e
  rw [nI_toInt (by omega)] at h2
  have h3 : (-5 : Int32).toInt = -5 := by decide
  omega
theorem fol_0 {v : Nat → Nat} {k : Nat} {c : Nat} (hc : c < 16) (h : itr v (c + 1) k = 16) (hn : ∀ t, t < c → itr v (t + 1) k ≠ 16) : sthN v k 16 0 = nI c := sth_at 16 0 c (Nat.zero_le c) (by omega) h (fun t _ b => hn t b)
theorem fol_9 {S : AS} {m k w : Nat} (hw : w < 3) (w0 : w ≠ 0) (hm : m < 6) (hk : k < 16) {f : Nat → Int32} (hrv : RV f (aV S m)) (d9 : retN (aV S m) k 17 0 = -5) : (-5 : Int32) = onB 6 (nI m) (fun m => onB 16 (nI k) (fun k => folF S m k (swI 3 (nI w))) (-1)) (-1) := by
  rw [onB_in hm (by decide), onB_in hk (by decide), swI_in hw (by decide)]
  rcases (show w = 1 ∨ w = 2 by omega) with q | q
  · subst q
    exact d9.symm
  · subst q
    show _ = if itr (aV S m) 16 k = 16 then -5 else nI (cyc (aV S m) (itr (aV S m) 16 k))
    rcases ret_all hk hrv with ⟨_, t, a, b⟩ | ⟨t, _, a, e, _⟩
    · rw [if_pos (itr_abs b a)]
    · exact absurd (e.symm.trans d9) (nI_n5 (by omega))
set_option maxHeartbeats 4000000 in
set_option maxRecDepth 100000 in
theorem tX7_follow {l : Launch} {D : va_G} {A : Nat → Prop} {N : Nat} {Sh : SM} {J : JM} (I : IM) {Q : Nat} (hM : MM Sh J Q) {S : AS} (hV : VF (I (Q + 1)) S) (x y z : Int32) : CtP l D A yX7_follow cX7_follow 6 FieldType.int 5 N Sh I J [.ref Q, .int x, .int y, .int z] (fun r => r = onB 6 x (fun m => onB 16 y (fun k => folF S m k (swI 3 z)) (-1)) (-1)) := by
  refine ct_I (l0 := [(0, .ref Q), (1, .int x), (2, .int y), (3, .int z)]) (by decide +kernel) (Nat.le_of_ble_eq_true rfl) rfl (fun _ _ _ _ => rfl) ?_
  intro X hX hret _ _ _
  have hX : XK X RX7 cX7_follow 6 5 := hX
  refine wa_iload_n hX dX7_follow_0 rfl ?_
  refine wa_sP hX (tX7_noMap I x) bX7_noMap mX7_55 (by decide) (by decide) rfl rfl (Nat.le_of_ble_eq_true rfl) dX7_follow_1 (fun r_1 q_1 => ?_)
  subst q_1
  refine wa_if_ne (tgt := 14) hX dX7_follow_4 (by decide) (fun c_4 => ?_) (fun c_4 => ?_)
  · skip
    have n_4 : inB 6 x = false := by have := bI_n0.mp c_4; simpa using this
    refine wa_iconst (v := -1) hX dX7_follow_14 (by decide) ?_
    exact hret _ _ _ _ _ ⟨(by rw [onB_out n_4]), rfl, rfl⟩ dX7_follow_15
  · skip
    have n_4 : inB 6 x = true := by have := bI_0.mp c_4; simpa using this
    obtain ⟨m, hm, em⟩ := inB_t (by decide) n_4
    subst em
    refine wa_iload_n hX dX7_follow_7 rfl ?_
    refine wa_sP hX (tX7_noKey I y) bX7_noKey mX7_106 (by decide) (by decide) rfl rfl (Nat.le_of_ble_eq_true rfl) dX7_follow_8 (fun r_8 q_8 => ?_)
    subst q_8
    refine wa_if_eq (tgt := 16) hX dX7_follow_11 (by decide) (fun c_11 => ?_) (fun c_11 => ?_)
    · skip
      have n_11 : inB 16 y = true := by have := bI_0.mp c_11; simpa using this
      obtain ⟨k, hk, ek⟩ := inB_t (by decide) n_11
      subst ek
      refine wa_iload_n hX dX7_follow_16 rfl ?_
      refine wa_iconst (v := nI 0) hX dX7_follow_17 (by decide) ?_
      refine wa_iconst (v := nI 2) hX dX7_follow_18 (by decide) ?_
      refine wa_sP hX (tX7_in I z (nI 0) (nI 2)) bX7_in mX7_51 (by decide) (by decide) rfl rfl (Nat.le_of_ble_eq_true rfl) dX7_follow_19 (fun r_19 q_19 => ?_)
      rw [inR_B z (by decide)] at q_19
      subst q_19
      refine wa_if_ne (tgt := 28) hX dX7_follow_22 (by decide) (fun c_22 => ?_) (fun c_22 => ?_)
      · skip
        obtain ⟨w, hw, ew⟩ := inB_t (by decide) (bI_n0.mp c_22)
        subst ew
        have hrv := hV.rv hm
        have hra := ret_all hk hrv
        refine wa_aload_n hX dX7_follow_28 rfl ?_
        refine wa_iload_n hX dX7_follow_29 rfl ?_
        refine wa_iload_n hX dX7_follow_30 rfl ?_
        refine wa_vP hX (tX7_returns I hM hV hm hk) bX7_returns mX7_184 (by decide) (by decide) (ci := 6) ⟨by decide, rfl⟩ (by first | exact hM.1 | assumption) rfl rfl (Nat.le_of_ble_eq_true rfl) dX7_follow_31 (fun r_31 q_31 => ?_)
        subst q_31
        refine wa_istore hX dX7_follow_34 (by decide) ?_
        refine wa_iload_n hX dX7_follow_36 rfl ?_
        refine wa_if_ne (tgt := 86) hX dX7_follow_37 (by decide) (fun c_37 => ?_) (fun c_37 => ?_)
        · skip
          have w0 : w ≠ 0 := fun e => c_37 (by rw [e]; rfl)
          refine wa_iload hX dX7_follow_86 rfl ?_
          refine wa_bipush (v := -5) hX dX7_follow_88 (by decide) ?_
          refine wa_icmp_eq (tgt := 98) hX dX7_follow_90 (by decide) (fun c_90 => ?_) (fun c_90 => ?_)
          · skip
            have d9 := c_90
            rw [c_90]
            refine wa_iload hX dX7_follow_98 rfl ?_
            refine wa_goto (tgt := 116) hX dX7_follow_100 (by decide) ?_
            exact hret _ _ _ _ _ ⟨fol_9 hw w0 hm hk hrv d9, rfl, rfl⟩ dX7_follow_116
          · skip
            have d1 : ∃ t, 1 ≤ t ∧ t ≤ 16 ∧ retN (aV S m) k 17 0 = nI t ∧ frs (aV S m) k t ∧ itr (aV S m) t k < 16 ∧ metB (aV S m) k t (itr (aV S m) t k) = true := by
              rcases hra with ⟨e, _⟩ | q
              · exact absurd e c_90
              · exact q
            obtain ⟨t, ht1, ht2, et, hf, hlt9, hmm⟩ := d1
            refine wa_iload_n hX dX7_follow_93 rfl ?_
            refine wa_iconst (v := nI 1) hX dX7_follow_94 (by decide) ?_
            refine wa_icmp_ne (tgt := 103) hX dX7_follow_95 (by decide) (fun c_95 => ?_) (fun c_95 => ?_)
            · skip
              have w1 := ne_of_nI c_95
              have w2 : w = 2 := by omega
              subst w2
              rw [et]
              refine wa_aload_n hX dX7_follow_103 rfl ?_
              refine wa_iload_n hX dX7_follow_104 rfl ?_
              refine wa_aload_n hX dX7_follow_105 rfl ?_
              refine wa_iload_n hX dX7_follow_106 rfl ?_
              refine wa_iload_n hX dX7_follow_107 rfl ?_
              refine wa_iload hX dX7_follow_108 rfl ?_
              refine wa_vP hX (tX7_walks I hM hV hm (show k ≤ 16 by omega) (show t < 2 ^ 31 by omega)) bX7_walks mX7_187 (by decide) (by decide) (ci := 6) ⟨by decide, rfl⟩ (by first | exact hM.1 | assumption) rfl rfl (Nat.le_of_ble_eq_true rfl) dX7_follow_110 (fun r_110 q_110 => ?_)
              subst q_110
              refine wa_vP hX (tX7_cycle I hM hV hm hlt9) bX7_cycle mX7_190 (by decide) (by decide) (ci := 6) ⟨by decide, rfl⟩ (by first | exact hM.1 | assumption) rfl rfl (Nat.le_of_ble_eq_true rfl) dX7_follow_113 (fun r_113 q_113 => ?_)
              exact hret _ _ _ _ _ ⟨(by rw [onB_in hm (by decide), onB_in hk (by decide)]; show r_113 = if itr (aV S m) 16 k = 16 then -5 else nI (cyc (aV S m) (itr (aV S m) 16 k)); obtain ⟨z1, z2⟩ := fol_2 hk ht1 ht2 hf hlt9 hmm hrv; rw [if_neg z1, z2]; exact q_113), rfl, rfl⟩ dX7_follow_116
            · skip
              have w1 : w = 1 := eq_of_nI c_95 (by omega) (by decide)
              subst w1
              refine wa_iload hX dX7_follow_98 rfl ?_
              refine wa_goto (tgt := 116) hX dX7_follow_100 (by decide) ?_
              exact hret _ _ _ _ _ ⟨(by rw [onB_in hm (by decide), onB_in hk (by decide)]; rfl), rfl, rfl⟩ dX7_follow_116
        · skip
          have w0 : w = 0 := eq_of_nI c_37 (by omega) (by decide)
          subst w0
          refine wa_iconst (v := nI 0) hX dX7_follow_40 (by decide) ?_
          refine wa_istore hX dX7_follow_41 (by decide) ?_
          have lpw : retN (aV S m) k 17 0 = -5 → (∃ t, t ≤ 16 ∧ itr (aV S m) t k = 16) → ∀ (n c : Nat), c + n = 16 → (∀ t, t < c → itr (aV S m) (t + 1) k ≠ 16) → WX X 0 0 N Sh I J 43 [(0, .ref Q), (1, .int (nI m)), (2, .int (nI k)), (3, .int (nI 0)), (4, .int (-5)), (5, .int (nI c))] [] := by
            intro e5 hex n
            induction n with
            | zero =>
              intro c hc hn
              exfalso
              obtain ⟨t, ht, e⟩ := hex
              rcases Nat.eq_zero_or_pos t with q | q
              · subst q
                have : itr (aV S m) 0 k = k := rfl
                omega
              · exact hn (t - 1) (by omega) (by rw [show t - 1 + 1 = t by omega]; exact e)
            | succ n ih =>
              intro c hc hn
              refine wa_iload hX dX7_follow_43 rfl ?_
              refine wa_bipush (v := -5) hX dX7_follow_45 (by decide) ?_
              refine wa_icmp_ne (tgt := 71) hX dX7_follow_47 (by decide) (fun c_47 => absurd rfl c_47) (fun c_47 => ?_)
              refine wa_aload_n hX dX7_follow_50 rfl ?_
              refine wa_iload_n hX dX7_follow_51 rfl ?_
              refine wa_iload_n hX dX7_follow_52 rfl ?_
              refine wa_iload hX dX7_follow_53 rfl ?_
              refine wa_iconst (v := nI 1) hX dX7_follow_55 (by decide) ?_
              refine wa_iadd hX dX7_follow_56 ?_
              rw [show nI c + nI 1 = nI (c + 1) from nI_add c 1]
              refine wa_vP hX (tX7_walks I hM hV hm (show k ≤ 16 by omega) (show c + 1 < 2 ^ 31 by omega)) bX7_walks mX7_187 (by decide) (by decide) (ci := 6) ⟨by decide, rfl⟩ (by first | exact hM.1 | assumption) rfl rfl (Nat.le_of_ble_eq_true rfl) dX7_follow_57 (fun r_57 q_57 => ?_)
              have hle := itr_le hrv (c + 1) (show k ≤ 16 by omega)
              subst q_57
              refine wa_bipush (v := nI 16) hX dX7_follow_60 (by decide) ?_
              refine wa_icmp_eq (tgt := 71) hX dX7_follow_62 (by decide) (fun c_62 => ?_) (fun c_62 => ?_)
              · skip
                have c1 := eq_of_nI c_62 (by omega) (by decide)
                refine wa_iload hX dX7_follow_71 rfl ?_
                refine wa_bipush (v := -5) hX dX7_follow_73 (by decide) ?_
                refine wa_icmp_ne (tgt := 83) hX dX7_follow_75 (by decide) (fun c_75 => absurd rfl c_75) (fun c_75 => ?_)
                refine wa_iload hX dX7_follow_78 rfl ?_
                refine wa_goto (tgt := 85) hX dX7_follow_80 (by decide) ?_
                exact hret _ _ _ _ _ ⟨(by rw [onB_in hm (by decide), onB_in hk (by decide)]; exact (fol_0 (by omega) c1 hn).symm), rfl, rfl⟩ dX7_follow_85
              · skip
                have c1 := ne_of_nI c_62
                refine wa_iinc hX dX7_follow_65 rfl (inc1 _) (by decide) ?_
                refine wa_goto (tgt := 43) hX dX7_follow_68 (by decide) ?_
                refine wx_sub (l' := [(0, _), (1, _), (2, _), (3, _), (4, _), (5, _)]) ⟨rfl, rfl, rfl, rfl, rfl, rfl, trivial⟩ ?_
                exact ih (c + 1) (by omega) (lt_s hn c1)
          rcases hra with ⟨e5, t, a, b⟩ | ⟨t, ht1, ht2, et, hf, hlt9, hmm⟩
          · rw [e5]
            refine wx_sub (l' := [(0, _), (1, _), (2, _), (3, _), (4, _), (5, _)]) ⟨rfl, rfl, rfl, rfl, rfl, rfl, trivial⟩ ?_
            exact lpw e5 ⟨t, a, b⟩ 16 0 (by omega) (fun t ht => absurd ht (by omega))
          · have hno : ∀ u, itr (aV S m) u k ≠ 16 := by
              intro u e
              have h16 := (fol_2 hk ht1 ht2 hf hlt9 hmm hrv).1
              rcases Nat.lt_or_ge 16 u with q | q
              · obtain ⟨s9, a9, b9, c9⟩ := itr_cyc h16 hrv (by omega)
                have := back_16 (t := u - 16) (itr_lt h16 hrv (by omega) 16 (Nat.le_refl _)) a9 c9
                exact this (by rw [← itr_add, show 16 + (u - 16) = u by omega]; exact e)
              · exact h16 (itr_abs e q)
            refine wa_iload hX dX7_follow_43 rfl ?_
            refine wa_bipush (v := -5) hX dX7_follow_45 (by decide) ?_
            refine wa_icmp_ne (tgt := 71) hX dX7_follow_47 (by decide) (fun c_47 => ?_) (fun c_47 => absurd c_47 (by rw [et]; exact nI_n5 (by omega)))
            refine wa_iload hX dX7_follow_71 rfl ?_
            refine wa_bipush (v := -5) hX dX7_follow_73 (by decide) ?_
            refine wa_icmp_ne (tgt := 83) hX dX7_follow_75 (by decide) (fun c_75 => ?_) (fun c_75 => absurd c_75 (by rw [et]; exact nI_n5 (by omega)))
            refine wa_bipush (v := -5) hX dX7_follow_83 (by decide) ?_
            exact hret _ _ _ _ _ ⟨(by rw [onB_in hm (by decide), onB_in hk (by decide)]; show -5 = sthN (aV S m) k 16 0; exact (sth_none 16 0 (fun t _ _ => hno t)).symm), rfl, rfl⟩ dX7_follow_85
      · skip
        have n_22 := bI_0.mp c_22
        refine wa_bipush (v := -2) hX dX7_follow_25 (by decide) ?_
        exact hret _ _ _ _ _ ⟨(by rw [onB_in hm (by decide), onB_in hk (by decide), show swI 3 z = 3 by unfold swI; rw [n_22]; rfl]; rfl), rfl, rfl⟩ dX7_follow_27
    · skip
      have n_11 : inB 16 y = false := by have := bI_n0.mp c_11; simpa using this
      refine wa_iconst (v := -1) hX dX7_follow_14 (by decide) ?_
      exact hret _ _ _ _ _ ⟨(by rw [onB_in hm (by decide), onB_out n_11]), rfl, rfl⟩ dX7_follow_15

