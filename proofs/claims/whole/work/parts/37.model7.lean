/-! PileMapsModel: groups, the best key, hidden, split -/
def itsV (sus : Nat) (kn : Nat → Nat → Nat) (k v n : Nat) : Nat := cnt (fun o => bt (nI sus) o && decide (kn o k = v)) n
def grM (sus : Nat) (kn : Nat → Nat → Nat) (k n : Nat) : Nat := cnt (fun v => decide (0 < itsV sus kn k v 6)) n
def gsM (sus : Nat) (kn : Nat → Nat → Nat) (k n : Nat) : Nat := fold (fun v x => max x (itsV sus kn k v 6)) 0 n
theorem its_le (sus : Nat) (kn : Nat → Nat → Nat) (k v n : Nat) : itsV sus kn k v n ≤ n := cnt_le _ n
theorem gsM_le (sus : Nat) (kn : Nat → Nat → Nat) (k : Nat) : ∀ n, gsM sus kn k n ≤ 6
  | 0 => Nat.zero_le _
  | n + 1 => Nat.max_le.mpr ⟨gsM_le sus kn k n, its_le sus kn k n 6⟩
set_option maxHeartbeats 4000000 in
set_option maxRecDepth 100000 in
theorem tX7_groups {l : Launch} {D : va_G} {A : Nat → Prop} {N : Nat} {Sh : SM} {J : JM} (I : IM) {Q : Nat} (hM : MM Sh J Q) {S : AS} (hV : VF (I (Q + 1)) S) {k w : Nat} (hk : k < 16) (hw : w ≤ 1) : CtP l D A yX7_groups cX7_groups 8 FieldType.int 1 N Sh I J [.ref Q, .int (nI k), .int (nI w)] (fun r => r = if w = 0 then nI (grM (aSus S) (aKn S) k 17) else nI (gsM (aSus S) (aKn S) k 17)) := by
  refine ct_I (l0 := [(0, .ref Q), (1, .int (nI k)), (2, .int (nI w))]) (by decide +kernel) (Nat.le_of_ble_eq_true rfl) rfl (fun _ _ _ _ => rfl) ?_
  intro X hX hret _ _ _
  have hX : XK X RX7 cX7_groups 8 1 := hX
  have lp : ∀ (n v : Nat) (x y : Int32), v + n = 17 → x = nI (grM (aSus S) (aKn S) k v) → y = nI (gsM (aSus S) (aKn S) k v) → WX X 0 0 N Sh I J 8 [(0, .ref Q), (1, .int (nI k)), (2, .int (nI w)), (3, .int x), (4, .int y), (5, .int (nI v))] [] := by
    intro n
    induction n with
    | zero =>
      intro v x y hv ex ey
      obtain rfl : 17 = v := by omega
      refine wa_iload hX dX7_groups_8 rfl ?_
      refine wa_bipush (v := nI 16) hX dX7_groups_10 (by decide) ?_
      refine wa_icmp_gt (tgt := 100) hX dX7_groups_12 (by decide) (fun c_12 => ?_) (fun c_12 => absurd (by decide) c_12)
      refine wa_iload_n hX dX7_groups_100 rfl ?_
      refine wa_if_ne (tgt := 108) hX dX7_groups_101 (by decide) (fun c_101 => ?_) (fun c_101 => ?_)
      · skip
        have d1 : w ≠ 0 := fun e => c_101 (by rw [e]; rfl)
        refine wa_iload hX dX7_groups_108 rfl ?_
        exact hret _ _ _ _ _ ⟨(by rw [if_neg d1]; exact ey), rfl, rfl⟩ dX7_groups_110
      · skip
        have d1 : w = 0 := eq_of_nI c_101 (by omega) (by decide)
        refine wa_iload_n hX dX7_groups_104 rfl ?_
        refine wa_goto (tgt := 110) hX dX7_groups_105 (by decide) ?_
        exact hret _ _ _ _ _ ⟨(by rw [if_pos d1]; exact ex), rfl, rfl⟩ dX7_groups_110
    | succ n ih =>
      intro v x y hv ex ey
      have nxt : ∀ z : Int32, z = nI (itsV (aSus S) (aKn S) k v 6) → WX X 0 0 N Sh I J 65 [(0, .ref Q), (1, .int (nI k)), (2, .int (nI w)), (3, .int x), (4, .int y), (5, .int (nI v)), (6, .int z), (7, .int (nI 6))] [] := by
        intro z ez
        subst ez
        subst ey
        have b1 := its_le (aSus S) (aKn S) k v 6
        have b2 := gsM_le (aSus S) (aKn S) k v
        refine wa_iload_n hX dX7_groups_65 rfl ?_
        refine wa_iload hX dX7_groups_66 rfl ?_
        refine wa_if_le (tgt := 75) hX dX7_groups_68 (by decide) (fun c_68 => ?_) (fun c_68 => ?_)
        · skip
          have d2 : ¬ 0 < itsV (aSus S) (aKn S) k v 6 := fun h => absurd c_68 (nI_nle h (by omega))
          refine wa_iconst (v := nI 0) hX dX7_groups_75 (by decide) ?_
          refine wa_iadd hX dX7_groups_76 ?_
          refine wa_istore_n hX dX7_groups_77 (by decide) ?_
          refine wa_iload hX dX7_groups_78 rfl ?_
          refine wa_iload hX dX7_groups_80 rfl ?_
          refine wa_icmp_le (tgt := 90) hX dX7_groups_82 (by decide) (fun c_82 => ?_) (fun c_82 => ?_)
          · skip
            have d3 : ¬ gsM (aSus S) (aKn S) k v < itsV (aSus S) (aKn S) k v 6 := fun h => absurd c_82 (nI_ge h (by omega))
            refine wa_iload hX dX7_groups_90 rfl ?_
            refine wa_istore hX dX7_groups_92 (by decide) ?_
            refine wa_iinc hX dX7_groups_94 rfl (inc1 _) (by decide) ?_
            refine wa_goto (tgt := 8) hX dX7_groups_97 (by decide) ?_
            refine wx_sub (l' := [(0, _), (1, _), (2, _), (3, _), (4, _), (5, _)]) ⟨rfl, rfl, rfl, rfl, rfl, rfl, trivial⟩ ?_
            exact ih (v + 1) _ _ (by omega) (by rw [ex]; exact (nI_add _ 0).trans (congrArg nI (cnt_f (p := fun v => decide (0 < itsV (aSus S) (aKn S) k v 6)) (decide_eq_false d2)).symm)) (by show _ = nI (max (gsM (aSus S) (aKn S) k v) (itsV (aSus S) (aKn S) k v 6)); rw [Nat.max_eq_left (by omega)])
          · skip
            have d3 : gsM (aSus S) (aKn S) k v < itsV (aSus S) (aKn S) k v 6 := by
              rcases Nat.lt_or_ge (gsM (aSus S) (aKn S) k v) (itsV (aSus S) (aKn S) k v 6) with q | q
              · exact q
              · exact absurd (nI_le q (by omega)) c_82
            refine wa_iload hX dX7_groups_85 rfl ?_
            refine wa_goto (tgt := 92) hX dX7_groups_87 (by decide) ?_
            refine wa_istore hX dX7_groups_92 (by decide) ?_
            refine wa_iinc hX dX7_groups_94 rfl (inc1 _) (by decide) ?_
            refine wa_goto (tgt := 8) hX dX7_groups_97 (by decide) ?_
            refine wx_sub (l' := [(0, _), (1, _), (2, _), (3, _), (4, _), (5, _)]) ⟨rfl, rfl, rfl, rfl, rfl, rfl, trivial⟩ ?_
            exact ih (v + 1) _ _ (by omega) (by rw [ex]; exact (nI_add _ 0).trans (congrArg nI (cnt_f (p := fun v => decide (0 < itsV (aSus S) (aKn S) k v 6)) (decide_eq_false d2)).symm)) (by show _ = nI (max (gsM (aSus S) (aKn S) k v) (itsV (aSus S) (aKn S) k v 6)); rw [Nat.max_eq_right (by omega)])
        · skip
          have d2 : 0 < itsV (aSus S) (aKn S) k v 6 := by
            rcases Nat.eq_zero_or_pos (itsV (aSus S) (aKn S) k v 6) with h | h
            · rw [h] at c_68; exact absurd (Int32.le_refl _) c_68
            · exact h
          refine wa_iconst (v := nI 1) hX dX7_groups_71 (by decide) ?_
          refine wa_goto (tgt := 76) hX dX7_groups_72 (by decide) ?_
          refine wa_iadd hX dX7_groups_76 ?_
          refine wa_istore_n hX dX7_groups_77 (by decide) ?_
          refine wa_iload hX dX7_groups_78 rfl ?_
          refine wa_iload hX dX7_groups_80 rfl ?_
          refine wa_icmp_le (tgt := 90) hX dX7_groups_82 (by decide) (fun c_82 => ?_) (fun c_82 => ?_)
          · skip
            have d3 : ¬ gsM (aSus S) (aKn S) k v < itsV (aSus S) (aKn S) k v 6 := fun h => absurd c_82 (nI_ge h (by omega))
            refine wa_iload hX dX7_groups_90 rfl ?_
            refine wa_istore hX dX7_groups_92 (by decide) ?_
            refine wa_iinc hX dX7_groups_94 rfl (inc1 _) (by decide) ?_
            refine wa_goto (tgt := 8) hX dX7_groups_97 (by decide) ?_
            refine wx_sub (l' := [(0, _), (1, _), (2, _), (3, _), (4, _), (5, _)]) ⟨rfl, rfl, rfl, rfl, rfl, rfl, trivial⟩ ?_
            exact ih (v + 1) _ _ (by omega) (by rw [ex]; exact (nI_add _ 1).trans (congrArg nI (cnt_t (p := fun v => decide (0 < itsV (aSus S) (aKn S) k v 6)) (decide_eq_true d2)).symm)) (by show _ = nI (max (gsM (aSus S) (aKn S) k v) (itsV (aSus S) (aKn S) k v 6)); rw [Nat.max_eq_left (by omega)])
          · skip
            have d3 : gsM (aSus S) (aKn S) k v < itsV (aSus S) (aKn S) k v 6 := by
              rcases Nat.lt_or_ge (gsM (aSus S) (aKn S) k v) (itsV (aSus S) (aKn S) k v 6) with q | q
              · exact q
              · exact absurd (nI_le q (by omega)) c_82
            refine wa_iload hX dX7_groups_85 rfl ?_
            refine wa_goto (tgt := 92) hX dX7_groups_87 (by decide) ?_
            refine wa_istore hX dX7_groups_92 (by decide) ?_
            refine wa_iinc hX dX7_groups_94 rfl (inc1 _) (by decide) ?_
            refine wa_goto (tgt := 8) hX dX7_groups_97 (by decide) ?_
            refine wx_sub (l' := [(0, _), (1, _), (2, _), (3, _), (4, _), (5, _)]) ⟨rfl, rfl, rfl, rfl, rfl, rfl, trivial⟩ ?_
            exact ih (v + 1) _ _ (by omega) (by rw [ex]; exact (nI_add _ 1).trans (congrArg nI (cnt_t (p := fun v => decide (0 < itsV (aSus S) (aKn S) k v 6)) (decide_eq_true d2)).symm)) (by show _ = nI (max (gsM (aSus S) (aKn S) k v) (itsV (aSus S) (aKn S) k v 6)); rw [Nat.max_eq_right (by omega)])
      have li : ∀ (n i : Nat) (z : Int32), i + n = 6 → (z = nI (itsV (aSus S) (aKn S) k v i)) → WX X 0 0 N Sh I J 21 [(0, .ref Q), (1, .int (nI k)), (2, .int (nI w)), (3, .int x), (4, .int y), (5, .int (nI v)), (6, .int z), (7, .int (nI i))] [] := by
        intro n
        induction n with
        | zero =>
          intro i z hi ez
          obtain rfl : 6 = i := by omega
          refine wa_iload hX dX7_groups_21 rfl ?_
          refine wa_bipush (v := nI 6) hX dX7_groups_23 (by decide) ?_
          refine wa_icmp_ge (tgt := 65) hX dX7_groups_25 (by decide) (fun c_25 => ?_) (fun c_25 => absurd (Int32.le_refl _) c_25)
          exact nxt _ ez
        | succ n ih =>
          intro i z hi ez
          have hlt : i < 6 := by omega
          refine wa_iload hX dX7_groups_21 rfl ?_
          refine wa_bipush (v := nI 6) hX dX7_groups_23 (by decide) ?_
          refine wa_icmp_ge (tgt := 65) hX dX7_groups_25 (by decide) (fun c_25 => absurd c_25 (nI_ge hlt (by decide))) (fun c_25 => ?_)
          refine wa_iload hX dX7_groups_28 rfl ?_
          refine wa_aload_n hX dX7_groups_30 rfl ?_
          refine wa_iload hX dX7_groups_31 rfl ?_
          refine wa_vP hX (tX7_isSuspect I hM hV hlt) bX7_isSuspect mX7_125 (by decide) (by decide) (ci := 6) ⟨by decide, rfl⟩ (by first | exact hM.1 | assumption) rfl rfl (Nat.le_of_ble_eq_true rfl) dX7_groups_33 (fun r_33 q_33 => ?_)
          subst q_33
          refine wa_if_eq (tgt := 55) hX dX7_groups_36 (by decide) (fun c_36 => ?_) (fun c_36 => ?_)
          · skip
            have c1 := bI_0.mp c_36
            refine wa_iconst (v := nI 0) hX dX7_groups_55 (by decide) ?_
            refine wa_iadd hX dX7_groups_56 ?_
            refine wa_istore hX dX7_groups_57 (by decide) ?_
            refine wa_iinc hX dX7_groups_59 rfl (inc1 _) (by decide) ?_
            refine wa_goto (tgt := 21) hX dX7_groups_62 (by decide) ?_
            refine wx_sub (l' := [(0, _), (1, _), (2, _), (3, _), (4, _), (5, _), (6, _), (7, _)]) ⟨rfl, rfl, rfl, rfl, rfl, rfl, rfl, rfl, trivial⟩ ?_
            exact ih (i + 1) _ (by omega) (by rw [ez]; exact (nI_add _ 0).trans (congrArg nI (cnt_f (p := fun o => bt (nI (aSus S)) o && decide (aKn S o k = v)) (by simp [c1])).symm))
          · skip
            have c1 := bI_n0.mp c_36
            refine wa_aload_n hX dX7_groups_39 rfl ?_
            refine wa_iload hX dX7_groups_40 rfl ?_
            refine wa_iload_n hX dX7_groups_42 rfl ?_
            refine wa_vP hX (tX7_known I hM hV hlt hk) bX7_known mX7_122 (by decide) (by decide) (ci := 6) ⟨by decide, rfl⟩ (by first | exact hM.1 | assumption) rfl rfl (Nat.le_of_ble_eq_true rfl) dX7_groups_43 (fun r_43 q_43 => ?_)
            subst q_43
            have a1 := (hV.2.2.2.2.2 i hlt k hk).2
            refine wa_iload hX dX7_groups_46 rfl ?_
            refine wa_icmp_ne (tgt := 55) hX dX7_groups_48 (by decide) (fun c_48 => ?_) (fun c_48 => ?_)
            · skip
              have c2 := ne_of_nI c_48
              refine wa_iconst (v := nI 0) hX dX7_groups_55 (by decide) ?_
              refine wa_iadd hX dX7_groups_56 ?_
              refine wa_istore hX dX7_groups_57 (by decide) ?_
              refine wa_iinc hX dX7_groups_59 rfl (inc1 _) (by decide) ?_
              refine wa_goto (tgt := 21) hX dX7_groups_62 (by decide) ?_
              refine wx_sub (l' := [(0, _), (1, _), (2, _), (3, _), (4, _), (5, _), (6, _), (7, _)]) ⟨rfl, rfl, rfl, rfl, rfl, rfl, rfl, rfl, trivial⟩ ?_
              exact ih (i + 1) _ (by omega) (by rw [ez]; exact (nI_add _ 0).trans (congrArg nI (cnt_f (p := fun o => bt (nI (aSus S)) o && decide (aKn S o k = v)) (by simp [c2])).symm))
            · skip
              have c2 := eq_of_nI c_48 (by omega) (by omega)
              refine wa_iconst (v := nI 1) hX dX7_groups_51 (by decide) ?_
              refine wa_goto (tgt := 56) hX dX7_groups_52 (by decide) ?_
              refine wa_iadd hX dX7_groups_56 ?_
              refine wa_istore hX dX7_groups_57 (by decide) ?_
              refine wa_iinc hX dX7_groups_59 rfl (inc1 _) (by decide) ?_
              refine wa_goto (tgt := 21) hX dX7_groups_62 (by decide) ?_
              refine wx_sub (l' := [(0, _), (1, _), (2, _), (3, _), (4, _), (5, _), (6, _), (7, _)]) ⟨rfl, rfl, rfl, rfl, rfl, rfl, rfl, rfl, trivial⟩ ?_
              exact ih (i + 1) _ (by omega) (by rw [ez]; exact (nI_add _ 1).trans (congrArg nI (cnt_t (p := fun o => bt (nI (aSus S)) o && decide (aKn S o k = v)) (by simp [c1, c2])).symm))
      refine wa_iload hX dX7_groups_8 rfl ?_
      refine wa_bipush (v := nI 16) hX dX7_groups_10 (by decide) ?_
      refine wa_icmp_gt (tgt := 100) hX dX7_groups_12 (by decide) (fun c_12 => absurd c_12 (nI_nlt (by omega) (by decide))) (fun c_12 => ?_)
      refine wa_iconst (v := nI 0) hX dX7_groups_15 (by decide) ?_
      refine wa_istore hX dX7_groups_16 (by decide) ?_
      refine wa_iconst (v := nI 0) hX dX7_groups_18 (by decide) ?_
      refine wa_istore hX dX7_groups_19 (by decide) ?_
      exact li 6 0 _ (by omega) rfl
  refine wa_iconst (v := nI 0) hX dX7_groups_0 (by decide) ?_
  refine wa_istore_n hX dX7_groups_1 (by decide) ?_
  refine wa_iconst (v := nI 0) hX dX7_groups_2 (by decide) ?_
  refine wa_istore hX dX7_groups_3 (by decide) ?_
  refine wa_iconst (v := nI 0) hX dX7_groups_5 (by decide) ?_
  refine wa_istore hX dX7_groups_6 (by decide) ?_
  exact lp 17 0 _ _ (by omega) rfl rfl

theorem gsM_mono (sus : Nat) (kn : Nat → Nat → Nat) (k : Nat) : ∀ n v, v < n → itsV sus kn k v 6 ≤ gsM sus kn k n
  | 0, v, h => absurd h (by omega)
  | n + 1, v, h => by
    show _ ≤ max (gsM sus kn k n) (itsV sus kn k n 6)
    rcases Nat.lt_succ_iff_lt_or_eq.mp h with q | q
    · exact Nat.le_trans (gsM_mono sus kn k n v q) (Nat.le_max_left _ _)
    · subst q
      exact Nat.le_max_right _ _
theorem gsM_ub (sus : Nat) (kn : Nat → Nat → Nat) (k c : Nat) : ∀ n, (∀ v, v < n → itsV sus kn k v 6 ≤ c) → gsM sus kn k n ≤ c
  | 0, _ => Nat.zero_le _
  | n + 1, h => Nat.max_le.mpr ⟨gsM_ub sus kn k c n (fun v hv => h v (by omega)), h n (by omega)⟩
def gstN (sus : Nat) (kn : Nat → Nat → Nat) (k n : Nat) : Nat := fold (fun m x => if bt (nI sus) m = true then max x (alV sus kn k m 6) else x) 0 n
theorem gst_ge (sus : Nat) (kn : Nat → Nat → Nat) (k : Nat) : ∀ n m, m < n → bt (nI sus) m = true → alV sus kn k m 6 ≤ gstN sus kn k n
  | 0, m, h, _ => absurd h (by omega)
  | n + 1, m, h, hb => by
    show _ ≤ if bt (nI sus) n = true then max (gstN sus kn k n) (alV sus kn k n 6) else gstN sus kn k n
    rcases Nat.lt_succ_iff_lt_or_eq.mp h with q | q
    · have := gst_ge sus kn k n m q hb
      split
      · exact Nat.le_trans this (Nat.le_max_left _ _)
      · exact this
    · subst q
      rw [if_pos hb]
      exact Nat.le_max_right _ _
theorem gst_ub (sus : Nat) (kn : Nat → Nat → Nat) (k c : Nat) : ∀ n, (∀ m, m < n → bt (nI sus) m = true → alV sus kn k m 6 ≤ c) → gstN sus kn k n ≤ c
  | 0, _ => Nat.zero_le _
  | n + 1, h => by
    have h1 := gst_ub sus kn k c n (fun m hm => h m (by omega))
    show (if bt (nI sus) n = true then max (gstN sus kn k n) (alV sus kn k n 6) else gstN sus kn k n) ≤ c
    split
    · rename_i hb
      exact Nat.max_le.mpr ⟨h1, h n (by omega) hb⟩
    · exact h1
theorem cnt_pos {p : Nat → Bool} : ∀ {n : Nat}, 0 < cnt p n → ∃ k, k < n ∧ p k = true
  | 0, h => absurd h (Nat.lt_irrefl 0)
  | n + 1, h => by
    cases hp : p n with
    | true => exact ⟨n, by omega, hp⟩
    | false =>
      rw [cnt_f hp] at h
      obtain ⟨k, a, b⟩ := cnt_pos h
      exact ⟨k, by omega, b⟩
theorem its_al (sus : Nat) (kn : Nat → Nat → Nat) (k m : Nat) : itsV sus kn k (kn m k) 6 = alV sus kn k m 6 := rfl
theorem gst_eq {sus : Nat} {kn : Nat → Nat → Nat} {k : Nat} (h : ∀ m, m < 6 → kn m k ≤ 16) : gsM sus kn k 17 = gstV sus kn k := by
  apply Nat.le_antisymm
  · apply gsM_ub
    intro v hv
    rcases Nat.eq_zero_or_pos (itsV sus kn k v 6) with q | q
    · omega
    · obtain ⟨m, hm, hp⟩ := cnt_pos q
      rw [Bool.and_eq_true, decide_eq_true_eq] at hp
      rw [← hp.2, its_al]
      exact gst_ge sus kn k 6 m hm hp.1
  · apply gst_ub
    intro m hm hb
    rw [← its_al]
    exact gsM_mono sus kn k 17 _ (by have := h m hm; omega)
