set_option maxHeartbeats 4000000 in
set_option maxRecDepth 100000 in
theorem tX7_after {l : Launch} {D : va_G} {A : Nat → Prop} {N : Nat} {Sh : SM} {J : JM} (I : IM) {Q : Nat} (hM : MM Sh J Q) {S : AS} (hV : VF (I (Q + 1)) S) (x y z : Int32) : CtP l D A yX7_after cX7_after 5 FieldType.int 5 N Sh I J [.ref Q, .int x, .int y, .int z] (fun r => r = onB 6 x (fun m => onB 16 y (fun k => onB 1000001 z (fun n => orN (nI (itr (aV S m) n k))) (-2)) (-1)) (-1)) := by
  refine ct_I (l0 := [(0, .ref Q), (1, .int x), (2, .int y), (3, .int z)]) (by decide +kernel) (Nat.le_of_ble_eq_true rfl) rfl (fun _ _ _ _ => rfl) ?_
  intro X hX hret _ _ _
  have hX : XK X RX7 cX7_after 5 5 := hX
  refine wa_iload_n hX dX7_after_0 rfl ?_
  refine wa_sP hX (tX7_noMap I x) bX7_noMap mX7_55 (by decide) (by decide) rfl rfl (Nat.le_of_ble_eq_true rfl) dX7_after_1 (fun r_1 q_1 => ?_)
  subst q_1
  refine wa_if_ne (tgt := 14) hX dX7_after_4 (by decide) (fun c_4 => ?_) (fun c_4 => ?_)
  · skip
    have n_4 : inB 6 x = false := by have := bI_n0.mp c_4; simpa using this
    refine wa_iconst (v := -1) hX dX7_after_14 (by decide) ?_
    exact hret _ _ _ _ _ ⟨(by rw [onB_out n_4]), rfl, rfl⟩ dX7_after_15
  · skip
    have n_4 : inB 6 x = true := by have := bI_0.mp c_4; simpa using this
    obtain ⟨m, hm, em⟩ := inB_t (by decide) n_4
    subst em
    refine wa_iload_n hX dX7_after_7 rfl ?_
    refine wa_sP hX (tX7_noKey I y) bX7_noKey mX7_106 (by decide) (by decide) rfl rfl (Nat.le_of_ble_eq_true rfl) dX7_after_8 (fun r_8 q_8 => ?_)
    subst q_8
    refine wa_if_eq (tgt := 16) hX dX7_after_11 (by decide) (fun c_11 => ?_) (fun c_11 => ?_)
    · skip
      have n_11 : inB 16 y = true := by have := bI_0.mp c_11; simpa using this
      obtain ⟨k, hk, ek⟩ := inB_t (by decide) n_11
      subst ek
      refine wa_iload_n hX dX7_after_16 rfl ?_
      refine wa_iconst (v := nI 0) hX dX7_after_17 (by decide) ?_
      refine wa_ldc (v := nI 1000000) hX kX7_205 dX7_after_18 ?_
      refine wa_sP hX (tX7_in I z (nI 0) (nI 1000000)) bX7_in mX7_51 (by decide) (by decide) rfl rfl (Nat.le_of_ble_eq_true rfl) dX7_after_20 (fun r_20 q_20 => ?_)
      have e20 : inR z (nI 0) (nI 1000000) = inB 1000001 z := inR_B z (n := 1000000) (by decide)
      rw [e20] at q_20
      subst q_20
      refine wa_if_ne (tgt := 29) hX dX7_after_23 (by decide) (fun c_23 => ?_) (fun c_23 => ?_)
      · skip
        obtain ⟨n0, hn0, e0⟩ := inB_t (by decide) (bI_n0.mp c_23)
        subst e0
        have hrv := hV.rv hm
        refine wa_aload_n hX dX7_after_29 rfl ?_
        refine wa_iload_n hX dX7_after_30 rfl ?_
        refine wa_iload_n hX dX7_after_31 rfl ?_
        refine wa_iload_n hX dX7_after_32 rfl ?_
        refine wa_bipush (v := nI 16) hX dX7_after_33 (by decide) ?_
        refine wa_icmp_ge (tgt := 42) hX dX7_after_35 (by decide) (fun c_35 => ?_) (fun c_35 => ?_)
        · skip
          have hge : 16 ≤ n0 := by
            rcases Nat.lt_or_ge n0 16 with q | q
            · exact absurd c_35 (nI_ge q (by decide))
            · exact q
          refine wa_bipush (v := nI 16) hX dX7_after_42 (by decide) ?_
          refine wa_vP hX (tX7_walks I hM hV hm (show k ≤ 16 by omega) (show 16 < 2 ^ 31 by decide)) bX7_walks mX7_187 (by decide) (by decide) (ci := 6) ⟨by decide, rfl⟩ (by first | exact hM.1 | assumption) rfl rfl (Nat.le_of_ble_eq_true rfl) dX7_after_44 (fun r_44 q_44 => ?_)
          subst q_44
          have hle := itr_le hrv 16 (show k ≤ 16 by omega)
          refine wa_istore hX dX7_after_47 (by decide) ?_
          refine wa_iload hX dX7_after_49 rfl ?_
          refine wa_bipush (v := nI 16) hX dX7_after_51 (by decide) ?_
          refine wa_icmp_eq (tgt := 83) hX dX7_after_53 (by decide) (fun c_53 => ?_) (fun c_53 => ?_)
          · skip
            have c1 := eq_of_nI c_53 (by omega) (by decide)
            refine wa_iload hX dX7_after_83 rfl ?_
            refine wa_bipush (v := nI 16) hX dX7_after_85 (by decide) ?_
            refine wa_icmp_ne (tgt := 95) hX dX7_after_87 (by decide) (fun c_87 => ?_) (fun c_87 => ?_)
            · skip
              refine wa_iload hX dX7_after_95 rfl ?_
              exact hret _ _ _ _ _ ⟨(by rw [onB_in hm (by decide), onB_in hk (by decide), onB_in hn0 (by decide)]; rw [show itr (aV S m) n0 k = itr (aV S m) 16 k by rw [c1]; exact itr_abs c1 hge]; simp [orN, c_87]), rfl, rfl⟩ dX7_after_97
            · skip
              refine wa_bipush (v := -5) hX dX7_after_90 (by decide) ?_
              refine wa_goto (tgt := 97) hX dX7_after_92 (by decide) ?_
              exact hret _ _ _ _ _ ⟨(by rw [onB_in hm (by decide), onB_in hk (by decide), onB_in hn0 (by decide)]; rw [show itr (aV S m) n0 k = itr (aV S m) 16 k by rw [c1]; exact itr_abs c1 hge]; simp [orN, c_87]), rfl, rfl⟩ dX7_after_97
          · skip
            have c1 := ne_of_nI c_53
            refine wa_iload_n hX dX7_after_56 rfl ?_
            refine wa_bipush (v := nI 16) hX dX7_after_57 (by decide) ?_
            refine wa_icmp_le (tgt := 83) hX dX7_after_59 (by decide) (fun c_59 => ?_) (fun c_59 => ?_)
            · skip
              have c2 : n0 = 16 := by
                rcases Nat.lt_or_ge 16 n0 with q | q
                · exact absurd c_59 (nI_ge q (by omega))
                · omega
              refine wa_iload hX dX7_after_83 rfl ?_
              refine wa_bipush (v := nI 16) hX dX7_after_85 (by decide) ?_
              refine wa_icmp_ne (tgt := 95) hX dX7_after_87 (by decide) (fun c_87 => ?_) (fun c_87 => ?_)
              · skip
                refine wa_iload hX dX7_after_95 rfl ?_
                exact hret _ _ _ _ _ ⟨(by rw [onB_in hm (by decide), onB_in hk (by decide), onB_in hn0 (by decide)]; subst c2; simp [orN, c_87]), rfl, rfl⟩ dX7_after_97
              · skip
                refine wa_bipush (v := -5) hX dX7_after_90 (by decide) ?_
                refine wa_goto (tgt := 97) hX dX7_after_92 (by decide) ?_
                exact hret _ _ _ _ _ ⟨(by rw [onB_in hm (by decide), onB_in hk (by decide), onB_in hn0 (by decide)]; subst c2; simp [orN, c_87]), rfl, rfl⟩ dX7_after_97
            · skip
              have c2 : 16 < n0 := by
                rcases Nat.lt_or_ge 16 n0 with q | q
                · exact q
                · exact absurd (nI_le q (by decide)) c_59
              refine wa_aload_n hX dX7_after_62 rfl ?_
              refine wa_iload_n hX dX7_after_63 rfl ?_
              refine wa_iload hX dX7_after_64 rfl ?_
              refine wa_iload_n hX dX7_after_66 rfl ?_
              refine wa_bipush (v := nI 16) hX dX7_after_67 (by decide) ?_
              refine wa_isub hX dX7_after_69 ?_
              refine wa_aload_n hX dX7_after_70 rfl ?_
              refine wa_iload_n hX dX7_after_71 rfl ?_
              refine wa_iload hX dX7_after_72 rfl ?_
              refine wa_vP hX (tX7_cycle I hM hV hm (show itr (aV S m) 16 k < 16 by omega)) bX7_cycle mX7_190 (by decide) (by decide) (ci := 6) ⟨by decide, rfl⟩ (by first | exact hM.1 | assumption) rfl rfl (Nat.le_of_ble_eq_true rfl) dX7_after_74 (fun r_74 q_74 => ?_)
              subst q_74
              obtain ⟨z1, z2, z3⟩ := cyc_at c1 hrv (show k ≤ 16 by omega)
              refine wa_irem hX dX7_after_77 (nI_ne0 (by omega) cyc_lt) ?_
              have e6 : nI n0 - nI 16 = nI (n0 - 16) := pk_sub (Nat.le_of_lt c2)
              have e7 : nI (n0 - 16) - nI (n0 - 16) / nI (cyc (aV S m) (itr (aV S m) 16 k)) * nI (cyc (aV S m) (itr (aV S m) 16 k)) = nI ((n0 - 16) % cyc (aV S m) (itr (aV S m) 16 k)) := pk_rem (by omega) (by omega) cyc_lt
              have h319 : n0 - 16 < 2 ^ 31 := by omega
              have hq9 : (n0 - 16) % cyc (aV S m) (itr (aV S m) 16 k) < 2 ^ 31 := Nat.lt_of_le_of_lt (Nat.mod_le _ _) h319
              rw [e6, e7]
              clear e6 e7
              refine wa_vP hX (tX7_walks I hM hV hm hle hq9) bX7_walks mX7_187 (by decide) (by decide) (ci := 6) ⟨by decide, rfl⟩ hM.1 rfl rfl (Nat.le_of_ble_eq_true rfl) dX7_after_78 (fun r_78 q_78 => ?_)
              have e8 := far_1 (j := k) (Nat.le_of_lt c2) hrv (Nat.le_of_lt hk) (Nat.pos_iff_ne_zero.mp z1)
              rw [← e8] at q_78
              subst q_78
              refine wa_istore hX dX7_after_81 (by decide) ?_
              refine wa_iload hX dX7_after_83 rfl ?_
              refine wa_bipush (v := nI 16) hX dX7_after_85 (by decide) ?_
              refine wa_icmp_ne (tgt := 95) hX dX7_after_87 (by decide) (fun c_87 => ?_) (fun c_87 => ?_)
              · skip
                refine wa_iload hX dX7_after_95 rfl ?_
                exact hret _ _ _ _ _ ⟨(by rw [onB_in hm (by decide), onB_in hk (by decide), onB_in hn0 (by decide)]; simp [orN, c_87]), rfl, rfl⟩ dX7_after_97
              · skip
                refine wa_bipush (v := -5) hX dX7_after_90 (by decide) ?_
                refine wa_goto (tgt := 97) hX dX7_after_92 (by decide) ?_
                exact hret _ _ _ _ _ ⟨(by rw [onB_in hm (by decide), onB_in hk (by decide), onB_in hn0 (by decide)]; simp [orN, c_87]), rfl, rfl⟩ dX7_after_97
        · skip
          have hlt : n0 < 16 := by
            rcases Nat.lt_or_ge n0 16 with q | q
            · exact q
            · exact absurd (nI_le q (by omega)) c_35
          refine wa_iload_n hX dX7_after_38 rfl ?_
          refine wa_goto (tgt := 44) hX dX7_after_39 (by decide) ?_
          refine wa_vP hX (tX7_walks I hM hV hm (show k ≤ 16 by omega) (show n0 < 2 ^ 31 by omega)) bX7_walks mX7_187 (by decide) (by decide) (ci := 6) ⟨by decide, rfl⟩ (by first | exact hM.1 | assumption) rfl rfl (Nat.le_of_ble_eq_true rfl) dX7_after_44 (fun r_44 q_44 => ?_)
          subst q_44
          have hle := itr_le hrv n0 (show k ≤ 16 by omega)
          refine wa_istore hX dX7_after_47 (by decide) ?_
          refine wa_iload hX dX7_after_49 rfl ?_
          refine wa_bipush (v := nI 16) hX dX7_after_51 (by decide) ?_
          refine wa_icmp_eq (tgt := 83) hX dX7_after_53 (by decide) (fun c_53 => ?_) (fun c_53 => ?_)
          · skip
            have c1 := eq_of_nI c_53 (by omega) (by decide)
            refine wa_iload hX dX7_after_83 rfl ?_
            refine wa_bipush (v := nI 16) hX dX7_after_85 (by decide) ?_
            refine wa_icmp_ne (tgt := 95) hX dX7_after_87 (by decide) (fun c_87 => ?_) (fun c_87 => ?_)
            · skip
              refine wa_iload hX dX7_after_95 rfl ?_
              exact hret _ _ _ _ _ ⟨(by rw [onB_in hm (by decide), onB_in hk (by decide), onB_in hn0 (by decide)]; simp [orN, c_87]), rfl, rfl⟩ dX7_after_97
            · skip
              refine wa_bipush (v := -5) hX dX7_after_90 (by decide) ?_
              refine wa_goto (tgt := 97) hX dX7_after_92 (by decide) ?_
              exact hret _ _ _ _ _ ⟨(by rw [onB_in hm (by decide), onB_in hk (by decide), onB_in hn0 (by decide)]; simp [orN, c_87]), rfl, rfl⟩ dX7_after_97
          · skip
            have c1 := ne_of_nI c_53
            refine wa_iload_n hX dX7_after_56 rfl ?_
            refine wa_bipush (v := nI 16) hX dX7_after_57 (by decide) ?_
            refine wa_icmp_le (tgt := 83) hX dX7_after_59 (by decide) (fun c_59 => ?_) (fun c_59 => absurd (nI_le (by omega) (by decide)) c_59)
            refine wa_iload hX dX7_after_83 rfl ?_
            refine wa_bipush (v := nI 16) hX dX7_after_85 (by decide) ?_
            refine wa_icmp_ne (tgt := 95) hX dX7_after_87 (by decide) (fun c_87 => ?_) (fun c_87 => ?_)
            · skip
              refine wa_iload hX dX7_after_95 rfl ?_
              exact hret _ _ _ _ _ ⟨(by rw [onB_in hm (by decide), onB_in hk (by decide), onB_in hn0 (by decide)]; simp [orN, c_87]), rfl, rfl⟩ dX7_after_97
            · skip
              refine wa_bipush (v := -5) hX dX7_after_90 (by decide) ?_
              refine wa_goto (tgt := 97) hX dX7_after_92 (by decide) ?_
              exact hret _ _ _ _ _ ⟨(by rw [onB_in hm (by decide), onB_in hk (by decide), onB_in hn0 (by decide)]; simp [orN, c_87]), rfl, rfl⟩ dX7_after_97
      · skip
        have n_23 := bI_0.mp c_23
        refine wa_bipush (v := -2) hX dX7_after_26 (by decide) ?_
        exact hret _ _ _ _ _ ⟨(by rw [onB_in hm (by decide), onB_in hk (by decide)]; exact (onB_out n_23).symm), rfl, rfl⟩ dX7_after_28
    · skip
      have n_11 : inB 16 y = false := by have := bI_n0.mp c_11; simpa using this
      refine wa_iconst (v := -1) hX dX7_after_14 (by decide) ?_
      exact hret _ _ _ _ _ ⟨(by rw [onB_in hm (by decide), onB_out n_11]), rfl, rfl⟩ dX7_after_15

