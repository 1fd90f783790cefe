/-! Secret: the methods that change it; State -/
theorem ansV_t {sus : Nat} {kn : Nat → Nat → Nat} {h k i : Nat} (c : kn i k = kn h k) : ansV sus kn h k (i + 1) = ansV sus kn h k i := if_pos c
theorem ansV_f {sus : Nat} {kn : Nat → Nat → Nat} {h k i : Nat} (c : ¬ kn i k = kn h k) : ansV sus kn h k (i + 1) = clr (ansV sus kn h k i) i := if_neg c
theorem KV.sus {I : IM} {c hid sus ask : Nat} {kn : Nat → Nat → Nat} (h : KV I c hid sus ask kn) {s : Nat} (hs : s < 64) : KV (u2 I c 2 (nI s)) c hid s ask kn :=
  ⟨⟨h.1.1, by rw [u2_k (by decide)]; exact h.1.2⟩, ⟨hs, u2_s⟩, by rw [u2_k (by decide)]; exact h.2.2.1, fun m hm k hk => by rw [u2_n (by omega)]; exact h.2.2.2 m hm k hk⟩
theorem KV.ask {I : IM} {c hid sus ask : Nat} {kn : Nat → Nat → Nat} (h : KV I c hid sus ask kn) (a : Nat) : KV (u2 I c 3 (nI a)) c hid sus a kn :=
  ⟨⟨h.1.1, by rw [u2_k (by decide)]; exact h.1.2⟩, ⟨h.2.1.1, by rw [u2_k (by decide)]; exact h.2.1.2⟩, u2_s, fun m hm k hk => by rw [u2_n (by omega)]; exact h.2.2.2 m hm k hk⟩
set_option maxHeartbeats 4000000 in
set_option maxRecDepth 100000 in
theorem tX3_answer {l : Launch} {D : va_G} {A : Nat → Prop} {N : Nat} {Sh : SM} {J : JM} (I : IM) {c : Nat} (hQ : QL Sh J c) {h sus ask : Nat} {kn : Nat → Nat → Nat} (hV : KV I c (h + 1) sus ask kn) {k : Nat} (hk : k < 16) : CtM l D A yX3_answer cX3_answer 4 FieldType.int 2 N Sh I J [.ref c, .int (nI k)] (fun r I' => r = nI (kn h k) ∧ KV I' c (h + 1) (ansV sus kn h k 6) (ask + 1) kn ∧ Fr c 1 I I') := by
  refine ct_I (l0 := [(0, .ref c), (1, .int (nI k))]) (by decide +kernel) (Nat.le_of_ble_eq_true rfl) rfl (fun _ _ _ _ => rfl) ?_
  intro X hX hret _ _ _
  have hX : XK X RX3 cX3_answer 4 2 := hX
  obtain ⟨h0, hj0, hr, hrow⟩ := id hQ
  obtain ⟨⟨v1, v2⟩, ⟨v3, v4⟩, v5, v6⟩ := id hV
  rw [dec1] at v2
  have lp : ∀ (n i : Nat) (I1 : IM), i + n = 6 → (KV I1 c (h + 1) (ansV sus kn h k i) ask kn) → (Fr c 1 I I1) → WX X 0 0 N Sh I1 J 24 [(0, .ref c), (1, .int (nI k)), (2, .int (nI (kn h k))), (3, .int (nI i))] [] := by
    intro n
    induction n with
    | zero =>
      intro i I1 hi hV1 hF
      obtain rfl : 6 = i := by omega
      refine wa_iload_n hX dX3_answer_24 rfl ?_
      refine wa_bipush (v := nI 6) hX dX3_answer_25 (by decide) ?_
      refine wa_icmp_ge (tgt := 62) hX dX3_answer_27 (by decide) (fun c_27 => ?_) (fun c_27 => absurd (Int32.le_refl _) c_27)
      refine wa_aload_n hX dX3_answer_62 rfl ?_
      refine wa_dup hX dX3_answer_63 rfl ?_
      refine wa_getI hX fX3_23 rfl (by assumption) dX3_answer_64 ?_
      rw [hV1.2.2.1]
      refine wa_iconst (v := nI 1) hX dX3_answer_67 (by decide) ?_
      refine wa_iadd hX dX3_answer_68 ?_
      rw [show nI ask + nI 1 = nI (ask + 1) from nI_add ask 1]
      refine wa_putI hX fX3_23 rfl rfl ⟨rfl, rfl⟩ (by assumption) dX3_answer_69 ?_
      refine wa_iload_n hX dX3_answer_72 rfl ?_
      exact hret _ _ _ _ _ ⟨⟨rfl, hV1.ask (ask + 1), hF.tr (Fr.u2 (Nat.le_refl _) (by omega))⟩, rfl⟩ dX3_answer_73
    | succ n ih =>
      intro i I1 hi hV1 hF
      have hlt : i < 6 := by omega
      refine wa_iload_n hX dX3_answer_24 rfl ?_
      refine wa_bipush (v := nI 6) hX dX3_answer_25 (by decide) ?_
      refine wa_icmp_ge (tgt := 62) hX dX3_answer_27 (by decide) (fun c_27 => absurd c_27 (nI_ge hlt (by decide))) (fun c_27 => ?_)
      refine wa_aload_n hX dX3_answer_30 rfl ?_
      refine wa_getR hX fX3_11 rfl (by assumption) (by assumption) dX3_answer_31 ?_
      refine wa_iload_n hX dX3_answer_34 rfl ?_
      refine wa_aald hX (by assumption) rfl hlt (by decide) (hrow i hlt).1 dX3_answer_35 ?_
      refine wa_iload_n hX dX3_answer_36 rfl ?_
      refine wa_iald hX (hrow i hlt).2 rfl (by first | assumption | omega) (by decide) dX3_answer_37 ?_
      have w6 := hV1.2.2.2
      have w3 := hV1.2.1
      rw [(w6 i hlt k hk).1]
      refine wa_iload_n hX dX3_answer_38 rfl ?_
      refine wa_icmp_eq (tgt := 56) hX dX3_answer_39 (by decide) (fun c_39 => ?_) (fun c_39 => ?_)
      · skip
        have c1 := eq_of_nI c_39 (by have := (v6 i hlt k hk).2; omega) (by have := (v6 h (by omega) k hk).2; omega)
        refine wa_iinc hX dX3_answer_56 rfl (inc1 _) (by decide) ?_
        refine wa_goto (tgt := 24) hX dX3_answer_59 (by decide) ?_
        refine wx_sub (l' := [(0, _), (1, _), (2, _), (3, _)]) ⟨rfl, rfl, rfl, rfl, trivial⟩ ?_
        exact ih (i + 1) _ (by omega) (by rw [ansV_t c1]; exact hV1) hF
      · skip
        have c1 := ne_of_nI c_39
        refine wa_aload_n hX dX3_answer_42 rfl ?_
        refine wa_dup hX dX3_answer_43 rfl ?_
        refine wa_getI hX fX3_20 rfl (by assumption) dX3_answer_44 ?_
        rw [w3.2]
        refine wa_iconst (v := nI 1) hX dX3_answer_47 (by decide) ?_
        refine wa_iload_n hX dX3_answer_48 rfl ?_
        refine wa_ishl hX dX3_answer_49 ?_
        refine wa_iconst (v := -1) hX dX3_answer_50 (by decide) ?_
        refine wa_ixor hX dX3_answer_51 ?_
        refine wa_iand hX dX3_answer_52 ?_
        rw [(clr_c _ w3.1 i hlt).1]
        refine wa_putI hX fX3_20 rfl rfl ⟨rfl, rfl⟩ (by assumption) dX3_answer_53 ?_
        refine wa_iinc hX dX3_answer_56 rfl (inc1 _) (by decide) ?_
        refine wa_goto (tgt := 24) hX dX3_answer_59 (by decide) ?_
        refine wx_sub (l' := [(0, _), (1, _), (2, _), (3, _)]) ⟨rfl, rfl, rfl, rfl, trivial⟩ ?_
        exact ih (i + 1) _ (by omega) (by rw [ansV_f c1]; exact hV1.sus (clr_c _ w3.1 i hlt).2.2) (hF.tr (Fr.u2 (Nat.le_refl _) (by omega)))
  refine wa_aload_n hX dX3_answer_0 rfl ?_
  refine wa_vP hX (tX3_isRunning I hQ hV) bX3_isRunning mX3_42 (by decide) (by decide) (ci := 2) ⟨by decide, rfl⟩ (by assumption) rfl rfl (Nat.le_of_ble_eq_true rfl) dX3_answer_1 (fun r_1 q_1 => ?_)
  subst q_1
  refine wa_if_ne (tgt := 10) hX dX3_answer_4 (by decide) (fun c_4 => ?_) (fun c_4 => absurd c_4 (by rw [decide_eq_true (Nat.succ_pos h)]; decide))
  refine wa_aload_n hX dX3_answer_10 rfl ?_
  refine wa_getR hX fX3_11 rfl (by assumption) (by assumption) dX3_answer_11 ?_
  refine wa_aload_n hX dX3_answer_14 rfl ?_
  refine wa_getI hX fX3_16 rfl (by assumption) dX3_answer_15 ?_
  rw [v2]
  refine wa_aald hX (by assumption) rfl (show h < 6 by omega) (by decide) (hrow h (show h < 6 by omega)).1 dX3_answer_18 ?_
  refine wa_iload_n hX dX3_answer_19 rfl ?_
  refine wa_iald hX (hrow h (by omega)).2 rfl (by first | assumption | omega) (by decide) dX3_answer_20 ?_
  rw [(v6 h (by omega) k hk).1]
  refine wa_istore_n hX dX3_answer_21 (by decide) ?_
  refine wa_iconst (v := nI 0) hX dX3_answer_22 (by decide) ?_
  refine wa_istore_n hX dX3_answer_23 (by decide) ?_
  exact lp 6 0 _ (by omega) hV Fr.rf

/-- a row of six piles from p on -/
def PA (Sh : SM) (J : JM) (pa p : Nat) : Prop := (∃ cA, Sh pa = some (.inl (cA, .object RX0, 6))) ∧ ∀ j, j < 6 → J pa j = some (p + 8 * j) ∧ PL Sh J (p + 8 * j)
theorem PA.r {Sh : SM} {J : JM} {pa p : Nat} (h : PA Sh J pa p) : shR Sh pa 6 := by
  obtain ⟨⟨cA, e⟩, -⟩ := h
  exact ⟨cA, _, e, rfl⟩
set_option maxHeartbeats 4000000 in
set_option maxRecDepth 100000 in
theorem tX3_start {l : Launch} {D : va_G} {A : Nat → Prop} {N : Nat} {Sh : SM} {J : JM} (I : IM) {c pa p mp am : Nat} {kn : Nat → Nat → Nat} (hQ : QL Sh J c) (hA : PA Sh J pa p) (hd : c + 8 ≤ p ∨ p + 48 ≤ c) (hm : mp < 6) (ham : am < 64) (hv : ∀ j, j < 6 → RV (I (p + 8 * j + 7)) (kn j)) : CtW l D A yX3_start cX3_start 5 2 N Sh I J [.ref c, .int (nI mp), .int (nI am), .ref pa] (fun I' => KV I' c (mp + 1) am 0 kn ∧ Fr c 8 I I') := by
  refine ct_V (l0 := [(0, .ref c), (1, .int (nI mp)), (2, .int (nI am)), (3, .ref pa)]) (by decide +kernel) (Nat.le_of_ble_eq_true rfl) rfl ?_
  intro X hX hret _ _ _
  have hX : XK X RX3 cX3_start 5 2 := hX
  obtain ⟨h0, hj0, hr, hrow⟩ := id hQ
  have hpr := hA.r
  obtain ⟨⟨cA, hsA⟩, hpile⟩ := id hA
  have lp : ∀ (n i : Nat) (I1 : IM), i + n = 6 → (Fr c 8 I I1) → (∀ m, m < i → ∀ k, k < 16 → I1 (c + 2 + m) k = nI (kn m k) ∧ kn m k ≤ 16) → WX X 0 0 N Sh I1 J 3 [(0, .ref c), (1, .int (nI mp)), (2, .int (nI am)), (3, .ref pa), (4, .int (nI i))] [] := by
    intro n
    induction n with
    | zero =>
      intro i I1 hi hF hk
      obtain rfl : 6 = i := by omega
      refine wa_iload hX dX3_start_3 rfl ?_
      refine wa_bipush (v := nI 6) hX dX3_start_5 (by decide) ?_
      refine wa_icmp_ge (tgt := 40) hX dX3_start_7 (by decide) (fun c_7 => ?_) (fun c_7 => absurd (Int32.le_refl _) c_7)
      refine wa_aload_n hX dX3_start_40 rfl ?_
      refine wa_iload_n hX dX3_start_41 rfl ?_
      refine wa_putI hX fX3_16 rfl rfl ⟨rfl, rfl⟩ h0 dX3_start_42 ?_
      refine wa_aload_n hX dX3_start_45 rfl ?_
      refine wa_iload_n hX dX3_start_46 rfl ?_
      refine wa_putI hX fX3_20 rfl rfl ⟨rfl, rfl⟩ h0 dX3_start_47 ?_
      refine wa_aload_n hX dX3_start_50 rfl ?_
      refine wa_iconst (v := nI 0) hX dX3_start_51 (by decide) ?_
      refine wa_putI hX fX3_23 rfl rfl ⟨rfl, rfl⟩ h0 dX3_start_52 ?_
      exact hret _ _ _ _ ⟨⟨⟨⟨by omega, by rw [dec1, u2_k (by decide), u2_k (by decide), u2_s]⟩, ⟨ham, by rw [u2_k (by decide), u2_s]⟩, u2_s, fun m hm k hk2 => by rw [u2_n (by omega), u2_n (by omega), u2_n (by omega)]; exact hk m hm k hk2⟩, hF.tr (Fr.tr (Fr.tr (Fr.u2 (Nat.le_refl _) (by omega)) (Fr.u2 (Nat.le_refl _) (by omega))) (Fr.u2 (Nat.le_refl _) (by omega)))⟩, rfl⟩ dX3_start_55
    | succ n ih =>
      intro i I1 hi hF hk
      have hlt : i < 6 := by omega
      refine wa_iload hX dX3_start_3 rfl ?_
      refine wa_bipush (v := nI 6) hX dX3_start_5 (by decide) ?_
      refine wa_icmp_ge (tgt := 40) hX dX3_start_7 (by decide) (fun c_7 => absurd c_7 (nI_ge hlt (by decide))) (fun c_7 => ?_)
      refine wa_iload hX dX3_start_10 rfl ?_
      refine wa_aload_n hX dX3_start_12 rfl ?_
      refine wa_alen hX hsA dX3_start_13 ?_
      refine wa_icmp_ge (tgt := 40) hX dX3_start_14 (by decide) (fun c_14 => absurd c_14 (nI_ge hlt (by decide))) (fun c_14 => ?_)
      refine wa_aload_n hX dX3_start_17 rfl ?_
      refine wa_iload hX dX3_start_18 rfl ?_
      refine wa_aald hX hpr rfl (by first | assumption | omega) (by decide) (hpile i hlt).1 dX3_start_20 ?_
      refine wa_getR hX fX3_32 rfl (hpile i hlt).2.1 (hpile i hlt).2.2.2.2.1 dX3_start_21 ?_
      refine wa_aload_n hX dX3_start_24 rfl ?_
      refine wa_getR hX fX3_11 rfl h0 hj0 dX3_start_25 ?_
      refine wa_iload hX dX3_start_28 rfl ?_
      refine wa_aald hX hr rfl (by first | assumption | omega) (by decide) (hrow i hlt).1 dX3_start_30 ?_
      refine wa_sW hX (tX2_copy _ (hpile i hlt).2.2.2.2.2.2.2.2 (hrow i hlt).2) bX2_copy mX3_26 (by decide) (by decide) rfl rfl (Nat.le_of_ble_eq_true rfl) dX3_start_31 (fun I_31 q_31 => ?_)
      subst q_31
      refine wa_iinc hX dX3_start_34 rfl (inc1 _) (by decide) ?_
      refine wa_goto (tgt := 3) hX dX3_start_37 (by decide) ?_
      refine wx_sub (l' := [(0, _), (1, _), (2, _), (3, _), (4, _)]) ⟨rfl, rfl, rfl, rfl, rfl, trivial⟩ ?_
      refine ih (i + 1) _ (by omega) (hF.tr (Fr.uR (by omega) (by omega))) (fun m hm k hk2 => ?_)
      by_cases e : m = i
      · subst e; rw [uR_s, hF.n (by omega)]; exact hv m hlt k hk2
      · rw [uR_n (by omega)]; exact hk m (by omega) k hk2
  refine wa_iconst (v := nI 0) hX dX3_start_0 (by decide) ?_
  refine wa_istore hX dX3_start_1 (by decide) ?_
  exact lp 6 0 _ (by omega) Fr.rf (fun m hm => absurd hm (by omega))

set_option maxHeartbeats 4000000 in
set_option maxRecDepth 100000 in
theorem tX3_copyFrom {l : Launch} {D : va_G} {A : Nat → Prop} {N : Nat} {Sh : SM} {J : JM} (I : IM) {c c2 : Nat} (hQ : QL Sh J c) (hQ2 : QL Sh J c2) (hd : c + 8 ≤ c2 ∨ c2 + 8 ≤ c) {hid sus ask : Nat} {kn : Nat → Nat → Nat} (hV : KV I c2 hid sus ask kn) : CtW l D A yX3_copyFrom cX3_copyFrom 3 2 N Sh I J [.ref c, .ref c2] (fun I' => KV I' c hid sus ask kn ∧ Fr c 8 I I') := by
  refine ct_V (l0 := [(0, .ref c), (1, .ref c2)]) (by decide +kernel) (Nat.le_of_ble_eq_true rfl) rfl ?_
  intro X hX hret _ _ _
  have hX : XK X RX3 cX3_copyFrom 3 2 := hX
  obtain ⟨h0, hj0, hr, hrow⟩ := id hQ
  obtain ⟨g0, gj0, gr, grow⟩ := id hQ2
  obtain ⟨⟨v1, v2⟩, ⟨v3, v4⟩, v5, v6⟩ := id hV
  have lp : ∀ (n i : Nat) (I1 : IM), i + n = 6 → (Fr c 8 I I1) → (∀ m, m < i → ∀ k, k < 16 → I1 (c + 2 + m) k = nI (kn m k) ∧ kn m k ≤ 16) → WX X 0 0 N Sh I1 J 2 [(0, .ref c), (1, .ref c2), (2, .int (nI i))] [] := by
    intro n
    induction n with
    | zero =>
      intro i I1 hi hF hk
      obtain rfl : 6 = i := by omega
      refine wa_iload_n hX dX3_copyFrom_2 rfl ?_
      refine wa_bipush (v := nI 6) hX dX3_copyFrom_3 (by decide) ?_
      refine wa_icmp_ge (tgt := 29) hX dX3_copyFrom_5 (by decide) (fun c_5 => ?_) (fun c_5 => absurd (Int32.le_refl _) c_5)
      refine wa_aload_n hX dX3_copyFrom_29 rfl ?_
      refine wa_aload_n hX dX3_copyFrom_30 rfl ?_
      refine wa_getI hX fX3_16 rfl g0 dX3_copyFrom_31 ?_
      rw [hF.n (c := c2) (by omega), v2]
      refine wa_putI hX fX3_16 rfl rfl ⟨rfl, rfl⟩ h0 dX3_copyFrom_34 ?_
      refine wa_aload_n hX dX3_copyFrom_37 rfl ?_
      refine wa_aload_n hX dX3_copyFrom_38 rfl ?_
      refine wa_getI hX fX3_20 rfl g0 dX3_copyFrom_39 ?_
      rw [u2_n (b := c2) (by omega), hF.n (c := c2) (by omega), v4]
      refine wa_putI hX fX3_20 rfl rfl ⟨rfl, rfl⟩ h0 dX3_copyFrom_42 ?_
      refine wa_aload_n hX dX3_copyFrom_45 rfl ?_
      refine wa_aload_n hX dX3_copyFrom_46 rfl ?_
      refine wa_getI hX fX3_23 rfl g0 dX3_copyFrom_47 ?_
      rw [u2_n (b := c2) (by omega), u2_n (b := c2) (by omega), hF.n (c := c2) (by omega), v5]
      refine wa_putI hX fX3_23 rfl rfl ⟨rfl, rfl⟩ h0 dX3_copyFrom_50 ?_
      exact hret _ _ _ _ ⟨⟨⟨⟨v1, by rw [u2_k (by decide), u2_k (by decide), u2_s]⟩, ⟨v3, by rw [u2_k (by decide), u2_s]⟩, u2_s, fun m hm k hk2 => by rw [u2_n (by omega), u2_n (by omega), u2_n (by omega)]; exact hk m hm k hk2⟩, hF.tr (Fr.tr (Fr.tr (Fr.u2 (Nat.le_refl _) (by omega)) (Fr.u2 (Nat.le_refl _) (by omega))) (Fr.u2 (Nat.le_refl _) (by omega)))⟩, rfl⟩ dX3_copyFrom_53
    | succ n ih =>
      intro i I1 hi hF hk
      have hlt : i < 6 := by omega
      refine wa_iload_n hX dX3_copyFrom_2 rfl ?_
      refine wa_bipush (v := nI 6) hX dX3_copyFrom_3 (by decide) ?_
      refine wa_icmp_ge (tgt := 29) hX dX3_copyFrom_5 (by decide) (fun c_5 => absurd c_5 (nI_ge hlt (by decide))) (fun c_5 => ?_)
      refine wa_aload_n hX dX3_copyFrom_8 rfl ?_
      refine wa_getR hX fX3_11 rfl g0 gj0 dX3_copyFrom_9 ?_
      refine wa_iload_n hX dX3_copyFrom_12 rfl ?_
      refine wa_aald hX gr rfl (by first | assumption | omega) (by decide) (grow i hlt).1 dX3_copyFrom_13 ?_
      refine wa_aload_n hX dX3_copyFrom_14 rfl ?_
      refine wa_getR hX fX3_11 rfl h0 hj0 dX3_copyFrom_15 ?_
      refine wa_iload_n hX dX3_copyFrom_18 rfl ?_
      refine wa_aald hX hr rfl (by first | assumption | omega) (by decide) (hrow i hlt).1 dX3_copyFrom_19 ?_
      refine wa_sW hX (tX2_copy _ (grow i hlt).2 (hrow i hlt).2) bX2_copy mX3_26 (by decide) (by decide) rfl rfl (Nat.le_of_ble_eq_true rfl) dX3_copyFrom_20 (fun I_20 q_20 => ?_)
      subst q_20
      refine wa_iinc hX dX3_copyFrom_23 rfl (inc1 _) (by decide) ?_
      refine wa_goto (tgt := 2) hX dX3_copyFrom_26 (by decide) ?_
      refine wx_sub (l' := [(0, _), (1, _), (2, _)]) ⟨rfl, rfl, rfl, trivial⟩ ?_
      refine ih (i + 1) _ (by omega) (hF.tr (Fr.uR (by omega) (by omega))) (fun m hm k hk2 => ?_)
      by_cases e : m = i
      · subst e; rw [uR_s, hF.n (by omega)]; exact v6 m hlt k hk2
      · rw [uR_n (by omega)]; exact hk m (by omega) k hk2
  refine wa_iconst (v := nI 0) hX dX3_copyFrom_0 (by decide) ?_
  refine wa_istore_n hX dX3_copyFrom_1 (by decide) ?_
  exact lp 6 0 _ (by omega) Fr.rf (fun m hm => absurd hm (by omega))

/-! State: an object at b, six piles at b+2+8m, the secret at b+50 -/
abbrev AS : Type := ((Nat → Nat) × (Nat → Nat → Bool) × (Nat → Nat → Nat → Nat)) × Nat × (Nat × Nat × Nat × (Nat → Nat → Nat))
def aH (S : AS) : Nat → Nat := S.1.1
def aO (S : AS) : Nat → Nat → Bool := S.1.2.1
def aE (S : AS) : Nat → Nat → Nat → Nat := S.1.2.2
def aR (S : AS) : Nat := S.2.1
def aHid (S : AS) : Nat := S.2.2.1
def aSus (S : AS) : Nat := S.2.2.2.1
def aAsk (S : AS) : Nat := S.2.2.2.2.1
def aKn (S : AS) : Nat → Nat → Nat := S.2.2.2.2.2
def aV (S : AS) (m : Nat) : Nat → Nat := valV (aH S m) (aO S m) (aE S m)
def SL (Sh : SM) (J : JM) (b : Nat) : Prop := Sh b = some (.inr 3) ∧ J b 0 = some (b + 1) ∧ J b 1 = some (b + 50) ∧ PA Sh J (b + 1) (b + 2) ∧ QL Sh J (b + 50)
def SV (I : IM) (b : Nat) (S : AS) : Prop := (∀ m, m < 6 → PS I (b + 2 + 8 * m) (aH S m) (aO S m) (aE S m)) ∧ KV I (b + 50) (aHid S) (aSus S) (aAsk S) (aKn S) ∧ (I b 2 = nI (aR S) ∧ aR S ≤ 2)
theorem SV.keep {I I' : IM} {b : Nat} {S : AS} (h : SV I b S) (hk : ∀ q, b ≤ q → q < b + 58 → I' q = I q) : SV I' b S :=
  ⟨fun m hm => (h.1 m hm).keep (fun q h1 h2 => hk q (by omega) (by omega)), h.2.1.keep (fun q h1 h2 => hk q (by omega) (by omega)), by rw [hk b (by omega) (by omega)]; exact h.2.2⟩
set_option maxHeartbeats 4000000 in
set_option maxRecDepth 100000 in
theorem tX4_layers {l : Launch} {D : va_G} {A : Nat → Prop} {N : Nat} {Sh : SM} {J : JM} (I : IM) {b : Nat} (hS : SL Sh J b) {S : AS} (hV : SV I b S) : CtP l D A yX4_layers cX4_layers 3 FieldType.int 0 N Sh I J [.ref b] (fun r => r = nI (sumN (aH S) 6)) := by
  refine ct_I (l0 := [(0, .ref b)]) (by decide +kernel) (Nat.le_of_ble_eq_true rfl) rfl (fun _ _ _ _ => rfl) ?_
  intro X hX hret _ _ _
  have hX : XK X RX4 cX4_layers 3 0 := hX
  obtain ⟨s0, sj0, sj1, sA, sQ⟩ := id hS
  have spr := sA.r
  obtain ⟨-, spile⟩ := id sA
  have lp : ∀ (n i : Nat) (x : Int32), i + n = 6 → (x = nI (sumN (aH S) i)) → WX X 0 0 N Sh I J 4 [(0, .ref b), (1, .int x), (2, .int (nI i))] [] := by
    intro n
    induction n with
    | zero =>
      intro i x hi ex
      obtain rfl : 6 = i := by omega
      refine wa_iload_n hX dX4_layers_4 rfl ?_
      refine wa_bipush (v := nI 6) hX dX4_layers_5 (by decide) ?_
      refine wa_icmp_ge (tgt := 28) hX dX4_layers_7 (by decide) (fun c_7 => ?_) (fun c_7 => absurd (Int32.le_refl _) c_7)
      refine wa_iload_n hX dX4_layers_28 rfl ?_
      exact hret _ _ _ _ _ ⟨ex, rfl, rfl⟩ dX4_layers_29
    | succ n ih =>
      intro i x hi ex
      have hlt : i < 6 := by omega
      refine wa_iload_n hX dX4_layers_4 rfl ?_
      refine wa_bipush (v := nI 6) hX dX4_layers_5 (by decide) ?_
      refine wa_icmp_ge (tgt := 28) hX dX4_layers_7 (by decide) (fun c_7 => absurd c_7 (nI_ge hlt (by decide))) (fun c_7 => ?_)
      refine wa_iload_n hX dX4_layers_10 rfl ?_
      refine wa_aload_n hX dX4_layers_11 rfl ?_
      refine wa_getR hX fX4_11 rfl s0 sj0 dX4_layers_12 ?_
      refine wa_iload_n hX dX4_layers_15 rfl ?_
      refine wa_aald hX spr rfl (by first | assumption | omega) (by decide) (spile i hlt).1 dX4_layers_16 ?_
      refine wa_getI hX fX4_36 rfl (spile i hlt).2.1 dX4_layers_17 ?_
      rw [(hV.1 i hlt).1.1.2]
      refine wa_iadd hX dX4_layers_20 ?_
      refine wa_istore_n hX dX4_layers_21 (by decide) ?_
      refine wa_iinc hX dX4_layers_22 rfl (inc1 _) (by decide) ?_
      refine wa_goto (tgt := 4) hX dX4_layers_25 (by decide) ?_
      refine wx_sub (l' := [(0, _), (1, _), (2, _)]) ⟨rfl, rfl, rfl, trivial⟩ ?_
      exact ih (i + 1) _ (by omega) (by rw [ex, nI_add]; rfl)
  refine wa_iconst (v := nI 0) hX dX4_layers_0 (by decide) ?_
  refine wa_istore_n hX dX4_layers_1 (by decide) ?_
  refine wa_iconst (v := nI 0) hX dX4_layers_2 (by decide) ?_
  refine wa_istore_n hX dX4_layers_3 (by decide) ?_
  exact lp 6 0 _ (by omega) rfl

set_option maxHeartbeats 4000000 in
set_option maxRecDepth 100000 in
theorem tX4_entriesOfAll {l : Launch} {D : va_G} {A : Nat → Prop} {N : Nat} {Sh : SM} {J : JM} (I : IM) {b : Nat} (hS : SL Sh J b) {S : AS} (hV : SV I b S) : CtP l D A yX4_entriesOfAll cX4_entriesOfAll 3 FieldType.int 2 N Sh I J [.ref b] (fun r => r = nI (sumN (fun m => sumN (enV (aE S m)) (aH S m)) 6)) := by
  refine ct_I (l0 := [(0, .ref b)]) (by decide +kernel) (Nat.le_of_ble_eq_true rfl) rfl (fun _ _ _ _ => rfl) ?_
  intro X hX hret _ _ _
  have hX : XK X RX4 cX4_entriesOfAll 3 2 := hX
  obtain ⟨s0, sj0, sj1, sA, sQ⟩ := id hS
  have spr := sA.r
  obtain ⟨-, spile⟩ := id sA
  have lp : ∀ (n i : Nat) (x : Int32), i + n = 6 → (x = nI (sumN (fun m => sumN (enV (aE S m)) (aH S m)) i)) → WX X 0 0 N Sh I J 4 [(0, .ref b), (1, .int x), (2, .int (nI i))] [] := by
    intro n
    induction n with
    | zero =>
      intro i x hi ex
      obtain rfl : 6 = i := by omega
      refine wa_iload_n hX dX4_entriesOfAll_4 rfl ?_
      refine wa_bipush (v := nI 6) hX dX4_entriesOfAll_5 (by decide) ?_
      refine wa_icmp_ge (tgt := 28) hX dX4_entriesOfAll_7 (by decide) (fun c_7 => ?_) (fun c_7 => absurd (Int32.le_refl _) c_7)
      refine wa_iload_n hX dX4_entriesOfAll_28 rfl ?_
      exact hret _ _ _ _ _ ⟨ex, rfl, rfl⟩ dX4_entriesOfAll_29
    | succ n ih =>
      intro i x hi ex
      have hlt : i < 6 := by omega
      refine wa_iload_n hX dX4_entriesOfAll_4 rfl ?_
      refine wa_bipush (v := nI 6) hX dX4_entriesOfAll_5 (by decide) ?_
      refine wa_icmp_ge (tgt := 28) hX dX4_entriesOfAll_7 (by decide) (fun c_7 => absurd c_7 (nI_ge hlt (by decide))) (fun c_7 => ?_)
      refine wa_iload_n hX dX4_entriesOfAll_10 rfl ?_
      refine wa_aload_n hX dX4_entriesOfAll_11 rfl ?_
      refine wa_getR hX fX4_11 rfl s0 sj0 dX4_entriesOfAll_12 ?_
      refine wa_iload_n hX dX4_entriesOfAll_15 rfl ?_
      refine wa_aald hX spr rfl (by first | assumption | omega) (by decide) (spile i hlt).1 dX4_entriesOfAll_16 ?_
      refine wa_vP hX (tX0_allEntries I (spile i hlt).2 (hV.1 i hlt).1) bX0_allEntries mX4_39 (by decide) (by decide) (ci := 0) ⟨by decide, rfl⟩ (spile i hlt).2.1 rfl rfl (Nat.le_of_ble_eq_true rfl) dX4_entriesOfAll_17 (fun r_17 q_17 => ?_)
      subst q_17
      refine wa_iadd hX dX4_entriesOfAll_20 ?_
      refine wa_istore_n hX dX4_entriesOfAll_21 (by decide) ?_
      refine wa_iinc hX dX4_entriesOfAll_22 rfl (inc1 _) (by decide) ?_
      refine wa_goto (tgt := 4) hX dX4_entriesOfAll_25 (by decide) ?_
      refine wx_sub (l' := [(0, _), (1, _), (2, _)]) ⟨rfl, rfl, rfl, trivial⟩ ?_
      exact ih (i + 1) _ (by omega) (by rw [ex, nI_add]; rfl)
  refine wa_iconst (v := nI 0) hX dX4_entriesOfAll_0 (by decide) ?_
  refine wa_istore_n hX dX4_entriesOfAll_1 (by decide) ?_
  refine wa_iconst (v := nI 0) hX dX4_entriesOfAll_2 (by decide) ?_
  refine wa_istore_n hX dX4_entriesOfAll_3 (by decide) ?_
  exact lp 6 0 _ (by omega) rfl

set_option maxHeartbeats 4000000 in
set_option maxRecDepth 100000 in
theorem tX4_shadowedOfAll {l : Launch} {D : va_G} {A : Nat → Prop} {N : Nat} {Sh : SM} {J : JM} (I : IM) {b : Nat} (hS : SL Sh J b) {S : AS} (hV : SV I b S) : CtP l D A yX4_shadowedOfAll cX4_shadowedOfAll 3 FieldType.int 3 N Sh I J [.ref b] (fun r => r = nI (sumN (fun m => sumN (shV (aH S m) (aO S m) (aE S m)) (aH S m)) 6)) := by
  refine ct_I (l0 := [(0, .ref b)]) (by decide +kernel) (Nat.le_of_ble_eq_true rfl) rfl (fun _ _ _ _ => rfl) ?_
  intro X hX hret _ _ _
  have hX : XK X RX4 cX4_shadowedOfAll 3 3 := hX
  obtain ⟨s0, sj0, sj1, sA, sQ⟩ := id hS
  have spr := sA.r
  obtain ⟨-, spile⟩ := id sA
  have lp : ∀ (n i : Nat) (x : Int32), i + n = 6 → (x = nI (sumN (fun m => sumN (shV (aH S m) (aO S m) (aE S m)) (aH S m)) i)) → WX X 0 0 N Sh I J 4 [(0, .ref b), (1, .int x), (2, .int (nI i))] [] := by
    intro n
    induction n with
    | zero =>
      intro i x hi ex
      obtain rfl : 6 = i := by omega
      refine wa_iload_n hX dX4_shadowedOfAll_4 rfl ?_
      refine wa_bipush (v := nI 6) hX dX4_shadowedOfAll_5 (by decide) ?_
      refine wa_icmp_ge (tgt := 28) hX dX4_shadowedOfAll_7 (by decide) (fun c_7 => ?_) (fun c_7 => absurd (Int32.le_refl _) c_7)
      refine wa_iload_n hX dX4_shadowedOfAll_28 rfl ?_
      exact hret _ _ _ _ _ ⟨ex, rfl, rfl⟩ dX4_shadowedOfAll_29
    | succ n ih =>
      intro i x hi ex
      have hlt : i < 6 := by omega
      refine wa_iload_n hX dX4_shadowedOfAll_4 rfl ?_
      refine wa_bipush (v := nI 6) hX dX4_shadowedOfAll_5 (by decide) ?_
      refine wa_icmp_ge (tgt := 28) hX dX4_shadowedOfAll_7 (by decide) (fun c_7 => absurd c_7 (nI_ge hlt (by decide))) (fun c_7 => ?_)
      refine wa_iload_n hX dX4_shadowedOfAll_10 rfl ?_
      refine wa_aload_n hX dX4_shadowedOfAll_11 rfl ?_
      refine wa_getR hX fX4_11 rfl s0 sj0 dX4_shadowedOfAll_12 ?_
      refine wa_iload_n hX dX4_shadowedOfAll_15 rfl ?_
      refine wa_aald hX spr rfl (by first | assumption | omega) (by decide) (spile i hlt).1 dX4_shadowedOfAll_16 ?_
      refine wa_vP hX (tX0_shadowed I (spile i hlt).2 (hV.1 i hlt).1) bX0_shadowed mX4_43 (by decide) (by decide) (ci := 0) ⟨by decide, rfl⟩ (spile i hlt).2.1 rfl rfl (Nat.le_of_ble_eq_true rfl) dX4_shadowedOfAll_17 (fun r_17 q_17 => ?_)
      subst q_17
      refine wa_iadd hX dX4_shadowedOfAll_20 ?_
      refine wa_istore_n hX dX4_shadowedOfAll_21 (by decide) ?_
      refine wa_iinc hX dX4_shadowedOfAll_22 rfl (inc1 _) (by decide) ?_
      refine wa_goto (tgt := 4) hX dX4_shadowedOfAll_25 (by decide) ?_
      refine wx_sub (l' := [(0, _), (1, _), (2, _)]) ⟨rfl, rfl, rfl, trivial⟩ ?_
      exact ih (i + 1) _ (by omega) (by rw [ex, nI_add]; rfl)
  refine wa_iconst (v := nI 0) hX dX4_shadowedOfAll_0 (by decide) ?_
  refine wa_istore_n hX dX4_shadowedOfAll_1 (by decide) ?_
  refine wa_iconst (v := nI 0) hX dX4_shadowedOfAll_2 (by decide) ?_
  refine wa_istore_n hX dX4_shadowedOfAll_3 (by decide) ?_
  exact lp 6 0 _ (by omega) rfl

def eqV (v w : Nat → Nat) : Bool := allB (fun k => decide (v k = w k)) 16
def diffV (v w : Nat → Nat) : Int32 := bset (fun k => !decide (v k = w k)) 16
theorem diffV_0 {v w : Nat → Nat} : diffV v w = 0 ↔ eqV v w = true := by
  unfold diffV eqV
  rw [bset_z (by decide)]
  rw [allB_congr (q := fun k => decide (v k = w k)) (fun k _ => by simp)]
theorem rv_diff {f g : Nat → Int32} {v w : Nat → Nat} (hv : RV f v) (hw : RV g w) : bset (fun k => !decide (f k = g k)) 16 = diffV v w := by
  apply bset_congr
  intro k hk
  have a1 := (hv k hk).2
  have a2 := (hw k hk).2
  rw [(hv k hk).1, (hw k hk).1]
  by_cases e : v k = w k
  · simp [e]
  · simp [e, nI_ne e (by omega) (by omega)]
def anyN (p : Nat → Bool) (n : Nat) : Bool := !allB (fun k => !p k) n
theorem anyN_t {p : Nat → Bool} {n k : Nat} (h : k < n) (hp : p k = true) : anyN p n = true := by
  unfold anyN
  rw [allB_f h (by rw [hp]; rfl)]
  rfl
def twinV (S : AS) (m : Nat) : Bool := anyN (fun o => eqV (aV S o) (aV S m)) m
set_option maxHeartbeats 4000000 in
set_option maxRecDepth 100000 in
theorem tX4_repeatsLowerMap {l : Launch} {D : va_G} {A : Nat → Prop} {N : Nat} {Sh : SM} {J : JM} (I : IM) {b : Nat} (hS : SL Sh J b) {S : AS} (hV : SV I b S) {m : Nat} (hm : m < 6) : CtP l D A yX4_repeatsLowerMap cX4_repeatsLowerMap 3 FieldType.boolean 1 N Sh I J [.ref b, .int (nI m)] (fun r => r = bI (twinV S m)) := by
  refine ct_I (l0 := [(0, .ref b), (1, .int (nI m))]) (by decide +kernel) (Nat.le_of_ble_eq_true rfl) rfl (fun _ _ _ h => by obtain ⟨rfl, _⟩ := h; exact nar_B _) ?_
  intro X hX hret _ _ _
  have hX : XK X RX4 cX4_repeatsLowerMap 3 1 := hX
  obtain ⟨s0, sj0, sj1, sA, sQ⟩ := id hS
  have spr := sA.r
  obtain ⟨-, spile⟩ := id sA
  have lp : ∀ (n i : Nat), i + n = m → (allB (fun o => !eqV (aV S o) (aV S m)) i = true) → WX X 0 0 N Sh I J 2 [(0, .ref b), (1, .int (nI m)), (2, .int (nI i))] [] := by
    intro n
    induction n with
    | zero =>
      intro i  hi ea
      obtain rfl : m = i := by omega
      refine wa_iload_n hX dX4_repeatsLowerMap_2 rfl ?_
      refine wa_iload_n hX dX4_repeatsLowerMap_3 rfl ?_
      refine wa_icmp_ge (tgt := 39) hX dX4_repeatsLowerMap_4 (by decide) (fun c_4 => ?_) (fun c_4 => absurd (Int32.le_refl _) c_4)
      refine wa_iconst (v := nI 0) hX dX4_repeatsLowerMap_39 (by decide) ?_
      exact hret _ _ _ _ _ ⟨(by rw [show twinV S m = false by unfold twinV anyN; rw [ea]; rfl]; rfl), rfl, rfl⟩ dX4_repeatsLowerMap_40
    | succ n ih =>
      intro i  hi ea
      have hlt : i < m := by omega
      refine wa_iload_n hX dX4_repeatsLowerMap_2 rfl ?_
      refine wa_iload_n hX dX4_repeatsLowerMap_3 rfl ?_
      refine wa_icmp_ge (tgt := 39) hX dX4_repeatsLowerMap_4 (by decide) (fun c_4 => absurd c_4 (nI_ge hlt (by omega))) (fun c_4 => ?_)
      refine wa_aload_n hX dX4_repeatsLowerMap_7 rfl ?_
      refine wa_getR hX fX4_11 rfl s0 sj0 dX4_repeatsLowerMap_8 ?_
      refine wa_iload_n hX dX4_repeatsLowerMap_11 rfl ?_
      refine wa_aald hX spr rfl (show i < 6 by omega) (by decide) (spile i (by omega)).1 dX4_repeatsLowerMap_12 ?_
      refine wa_getR hX fX4_50 rfl (spile i (by omega)).2.1 (spile i (by omega)).2.2.2.2.1 dX4_repeatsLowerMap_13 ?_
      refine wa_aload_n hX dX4_repeatsLowerMap_16 rfl ?_
      refine wa_getR hX fX4_11 rfl s0 sj0 dX4_repeatsLowerMap_17 ?_
      refine wa_iload_n hX dX4_repeatsLowerMap_20 rfl ?_
      refine wa_aald hX spr rfl hm (by decide) (spile m hm).1 dX4_repeatsLowerMap_21 ?_
      refine wa_getR hX fX4_50 rfl (spile m hm).2.1 (spile m hm).2.2.2.2.1 dX4_repeatsLowerMap_22 ?_
      refine wa_sP hX (tX2_difference I (spile i (by omega)).2.2.2.2.2.2.2.2 (spile m hm).2.2.2.2.2.2.2.2) bX2_difference mX4_54 (by decide) (by decide) rfl rfl (Nat.le_of_ble_eq_true rfl) dX4_repeatsLowerMap_25 (fun r_25 q_25 => ?_)
      rw [rv_diff (hV.1 i (by omega)).rv (hV.1 m hm).rv] at q_25
      subst q_25
      refine wa_if_ne (tgt := 33) hX dX4_repeatsLowerMap_28 (by decide) (fun c_28 => ?_) (fun c_28 => ?_)
      · skip
        have c1 : eqV (aV S i) (aV S m) = false := Bool.eq_false_iff.mpr (fun q => c_28 (diffV_0.mpr q))
        refine wa_iinc hX dX4_repeatsLowerMap_33 rfl (inc1 _) (by decide) ?_
        refine wa_goto (tgt := 2) hX dX4_repeatsLowerMap_36 (by decide) ?_
        refine wx_sub (l' := [(0, _), (1, _), (2, _)]) ⟨rfl, rfl, rfl, trivial⟩ ?_
        exact ih (i + 1) (by omega) (by unfold allB; rw [ea]; simp [c1])
      · skip
        have c1 : eqV (aV S i) (aV S m) = true := diffV_0.mp c_28
        refine wa_iconst (v := nI 1) hX dX4_repeatsLowerMap_31 (by decide) ?_
        exact hret _ _ _ _ _ ⟨(by rw [show twinV S m = true from anyN_t hlt c1]; rfl), rfl, rfl⟩ dX4_repeatsLowerMap_32
  refine wa_iconst (v := nI 0) hX dX4_repeatsLowerMap_0 (by decide) ?_
  refine wa_istore_n hX dX4_repeatsLowerMap_1 (by decide) ?_
  exact lp m 0 (by omega) rfl

set_option maxHeartbeats 4000000 in
set_option maxRecDepth 100000 in
theorem tX4_repeatedMaps {l : Launch} {D : va_G} {A : Nat → Prop} {N : Nat} {Sh : SM} {J : JM} (I : IM) {b : Nat} (hS : SL Sh J b) {S : AS} (hV : SV I b S) : CtP l D A yX4_repeatedMaps cX4_repeatedMaps 3 FieldType.int 2 N Sh I J [.ref b] (fun r => r = nI (cnt (twinV S) 6)) := by
  refine ct_I (l0 := [(0, .ref b)]) (by decide +kernel) (Nat.le_of_ble_eq_true rfl) rfl (fun _ _ _ _ => rfl) ?_
  intro X hX hret _ _ _
  have hX : XK X RX4 cX4_repeatedMaps 3 2 := hX
  have lp : ∀ (n i : Nat) (x : Int32), i + n = 6 → (x = nI (cnt (twinV S) i)) → WX X 0 0 N Sh I J 4 [(0, .ref b), (1, .int x), (2, .int (nI i))] [] := by
    intro n
    induction n with
    | zero =>
      intro i x hi ex
      obtain rfl : 6 = i := by omega
      refine wa_iload_n hX dX4_repeatedMaps_4 rfl ?_
      refine wa_bipush (v := nI 6) hX dX4_repeatedMaps_5 (by decide) ?_
      refine wa_icmp_ge (tgt := 27) hX dX4_repeatedMaps_7 (by decide) (fun c_7 => ?_) (fun c_7 => absurd (Int32.le_refl _) c_7)
      refine wa_iload_n hX dX4_repeatedMaps_27 rfl ?_
      exact hret _ _ _ _ _ ⟨ex, rfl, rfl⟩ dX4_repeatedMaps_28
    | succ n ih =>
      intro i x hi ex
      have hlt : i < 6 := by omega
      refine wa_iload_n hX dX4_repeatedMaps_4 rfl ?_
      refine wa_bipush (v := nI 6) hX dX4_repeatedMaps_5 (by decide) ?_
      refine wa_icmp_ge (tgt := 27) hX dX4_repeatedMaps_7 (by decide) (fun c_7 => absurd c_7 (nI_ge hlt (by decide))) (fun c_7 => ?_)
      refine wa_aload_n hX dX4_repeatedMaps_10 rfl ?_
      refine wa_iload_n hX dX4_repeatedMaps_11 rfl ?_
      refine wa_vP hX (tX4_repeatsLowerMap I hS hV hlt) bX4_repeatsLowerMap mX4_46 (by decide) (by decide) (ci := 3) ⟨by decide, rfl⟩ hS.1 rfl rfl (Nat.le_of_ble_eq_true rfl) dX4_repeatedMaps_12 (fun r_12 q_12 => ?_)
      subst q_12
      refine wa_if_eq (tgt := 21) hX dX4_repeatedMaps_15 (by decide) (fun c_15 => ?_) (fun c_15 => ?_)
      · skip
        have c1 := bI_0.mp c_15
        refine wa_iinc hX dX4_repeatedMaps_21 rfl (inc1 _) (by decide) ?_
        refine wa_goto (tgt := 4) hX dX4_repeatedMaps_24 (by decide) ?_
        refine wx_sub (l' := [(0, _), (1, _), (2, _)]) ⟨rfl, rfl, rfl, trivial⟩ ?_
        exact ih (i + 1) _ (by omega) (by rw [ex]; exact cnt_if c1)
      · skip
        have c1 := bI_n0.mp c_15
        refine wa_iinc hX dX4_repeatedMaps_18 rfl rfl (by decide) ?_
        refine wa_iinc hX dX4_repeatedMaps_21 rfl (inc1 _) (by decide) ?_
        refine wa_goto (tgt := 4) hX dX4_repeatedMaps_24 (by decide) ?_
        refine wx_sub (l' := [(0, _), (1, _), (2, _)]) ⟨rfl, rfl, rfl, trivial⟩ ?_
        exact ih (i + 1) _ (by omega) (by rw [ex]; exact cnt_it c1)
  refine wa_iconst (v := nI 0) hX dX4_repeatedMaps_0 (by decide) ?_
  refine wa_istore_n hX dX4_repeatedMaps_1 (by decide) ?_
  refine wa_iconst (v := nI 0) hX dX4_repeatedMaps_2 (by decide) ?_
  refine wa_istore_n hX dX4_repeatedMaps_3 (by decide) ?_
  exact lp 6 0 _ (by omega) rfl

set_option maxHeartbeats 4000000 in
set_option maxRecDepth 100000 in
theorem tX4_copyFrom {l : Launch} {D : va_G} {A : Nat → Prop} {N : Nat} {Sh : SM} {J : JM} (I : IM) {b b2 : Nat} (hS : SL Sh J b) (hS2 : SL Sh J b2) (hd : b + 58 ≤ b2 ∨ b2 + 58 ≤ b) {S : AS} (hV : SV I b2 S) : CtW l D A yX4_copyFrom cX4_copyFrom 3 3 N Sh I J [.ref b, .ref b2] (fun I' => SV I' b S ∧ Fr b 58 I I') := by
  refine ct_V (l0 := [(0, .ref b), (1, .ref b2)]) (by decide +kernel) (Nat.le_of_ble_eq_true rfl) rfl ?_
  intro X hX hret _ _ _
  have hX : XK X RX4 cX4_copyFrom 3 3 := hX
  obtain ⟨s0, sj0, sj1, sA, sQ⟩ := id hS
  have spr := sA.r
  obtain ⟨-, spile⟩ := id sA
  obtain ⟨t0, tj0, tj1, tA, tQ⟩ := id hS2
  have tpr := tA.r
  obtain ⟨-, tpile⟩ := id tA
  have lp : ∀ (n i : Nat) (I1 : IM), i + n = 6 → (Fr b 58 I I1) → (∀ m, m < i → PS I1 (b + 2 + 8 * m) (aH S m) (aO S m) (aE S m)) → WX X 0 0 N Sh I1 J 2 [(0, .ref b), (1, .ref b2), (2, .int (nI i))] [] := by
    intro n
    induction n with
    | zero =>
      intro i I1 hi hF hk
      obtain rfl : 6 = i := by omega
      refine wa_iload_n hX dX4_copyFrom_2 rfl ?_
      refine wa_bipush (v := nI 6) hX dX4_copyFrom_3 (by decide) ?_
      refine wa_icmp_ge (tgt := 29) hX dX4_copyFrom_5 (by decide) (fun c_5 => ?_) (fun c_5 => absurd (Int32.le_refl _) c_5)
      refine wa_aload_n hX dX4_copyFrom_29 rfl ?_
      refine wa_getR hX fX4_21 rfl s0 sj1 dX4_copyFrom_30 ?_
      refine wa_aload_n hX dX4_copyFrom_33 rfl ?_
      refine wa_getR hX fX4_21 rfl t0 tj1 dX4_copyFrom_34 ?_
      refine wa_vW hX (tX3_copyFrom _ sQ tQ (by omega) (hV.2.1.keep (fun q h1 h2 => hF.n (by omega)))) bX3_copyFrom mX4_33 (by decide) (by decide) (ci := 2) ⟨by decide, rfl⟩ sQ.1 rfl rfl (Nat.le_of_ble_eq_true rfl) dX4_copyFrom_37 (fun I_37 q_37 => ?_)
      refine wa_aload_n hX dX4_copyFrom_40 rfl ?_
      refine wa_aload_n hX dX4_copyFrom_41 rfl ?_
      refine wa_getI hX fX4_25 rfl t0 dX4_copyFrom_42 ?_
      rw [q_37.2.n (c := b2) (by omega), hF.n (c := b2) (by omega), hV.2.2.1]
      refine wa_putI hX fX4_25 rfl rfl ⟨rfl, rfl⟩ s0 dX4_copyFrom_45 ?_
      exact hret _ _ _ _ ⟨⟨⟨fun m hm => ((hk m hm).keep (fun q h1 h2 => q_37.2.n (by omega))).keep (fun q h1 h2 => u2_n (by omega)), q_37.1.keep (fun q h1 h2 => u2_n (by omega)), u2_s, hV.2.2.2⟩, hF.tr ((q_37.2.in (by omega) (by omega)).tr (Fr.u2 (Nat.le_refl _) (by omega)))⟩, rfl⟩ dX4_copyFrom_48
    | succ n ih =>
      intro i I1 hi hF hk
      have hlt : i < 6 := by omega
      refine wa_iload_n hX dX4_copyFrom_2 rfl ?_
      refine wa_bipush (v := nI 6) hX dX4_copyFrom_3 (by decide) ?_
      refine wa_icmp_ge (tgt := 29) hX dX4_copyFrom_5 (by decide) (fun c_5 => absurd c_5 (nI_ge hlt (by decide))) (fun c_5 => ?_)
      refine wa_aload_n hX dX4_copyFrom_8 rfl ?_
      refine wa_getR hX fX4_11 rfl s0 sj0 dX4_copyFrom_9 ?_
      refine wa_iload_n hX dX4_copyFrom_12 rfl ?_
      refine wa_aald hX spr rfl (by first | assumption | omega) (by decide) (spile i hlt).1 dX4_copyFrom_13 ?_
      refine wa_aload_n hX dX4_copyFrom_14 rfl ?_
      refine wa_getR hX fX4_11 rfl t0 tj0 dX4_copyFrom_15 ?_
      refine wa_iload_n hX dX4_copyFrom_18 rfl ?_
      refine wa_aald hX tpr rfl (by first | assumption | omega) (by decide) (tpile i hlt).1 dX4_copyFrom_19 ?_
      refine wa_vW hX (tX0_copyFrom _ (spile i hlt).2 (tpile i hlt).2 (by omega) ((hV.1 i hlt).keep (fun q h1 h2 => hF.n (by omega)))) bX0_copyFrom mX4_29 (by decide) (by decide) (ci := 0) ⟨by decide, rfl⟩ (spile i hlt).2.1 rfl rfl (Nat.le_of_ble_eq_true rfl) dX4_copyFrom_20 (fun I_20 q_20 => ?_)
      refine wa_iinc hX dX4_copyFrom_23 rfl (inc1 _) (by decide) ?_
      refine wa_goto (tgt := 2) hX dX4_copyFrom_26 (by decide) ?_
      refine wx_sub (l' := [(0, _), (1, _), (2, _)]) ⟨rfl, rfl, rfl, trivial⟩ ?_
      refine ih (i + 1) _ (by omega) (hF.tr (q_20.2.in (by omega) (by omega))) (fun m hm => ?_)
      by_cases e : m = i
      · subst e; exact q_20.1
      · exact (hk m (by omega)).keep (fun q h1 h2 => q_20.2.n (by omega))
  refine wa_iconst (v := nI 0) hX dX4_copyFrom_0 (by decide) ?_
  refine wa_istore_n hX dX4_copyFrom_1 (by decide) ?_
  exact lp 6 0 _ (by omega) Fr.rf (fun m hm => absurd hm (by omega))

