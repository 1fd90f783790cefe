/-! Secret: an object at c, its known rows at c+2+m; hid is the hidden map plus one, 0 for none -/
def QL (Sh : SM) (J : JM) (c : Nat) : Prop := Sh c = some (.inr 2) ∧ J c 0 = some (c + 1) ∧ shR Sh (c + 1) 6 ∧ ∀ j, j < 6 → J (c + 1) j = some (c + 2 + j) ∧ shI Sh (c + 2 + j) 16
def KV (I : IM) (c hid sus ask : Nat) (kn : Nat → Nat → Nat) : Prop := (hid ≤ 6 ∧ I c 1 = nI hid + Int32.ofInt (-1)) ∧ (sus < 64 ∧ I c 2 = nI sus) ∧ I c 3 = nI ask ∧ ∀ m, m < 6 → ∀ k, k < 16 → I (c + 2 + m) k = nI (kn m k) ∧ kn m k ≤ 16
theorem KV.keep {I I' : IM} {c hid sus ask : Nat} {kn : Nat → Nat → Nat} (h : KV I c hid sus ask kn) (hk : ∀ b, c ≤ b → b < c + 8 → I' b = I b) : KV I' c hid sus ask kn := by
  obtain ⟨⟨h1, h2⟩, ⟨h3, h4⟩, h5, h6⟩ := h
  have e := hk c (by omega) (by omega)
  exact ⟨⟨h1, by rw [e]; exact h2⟩, ⟨h3, by rw [e]; exact h4⟩, by rw [e]; exact h5, fun m hm k hk2 => by rw [hk (c + 2 + m) (by omega) (by omega)]; exact h6 m hm k hk2⟩
def clr (s m : Nat) : Nat := s &&& (63 - 2 ^ m)
theorem clr_c : ∀ s, s < 64 → ∀ m, m < 6 → (nI s &&& ((nI 1 <<< (nI m &&& 31)) ^^^ (-1))) = nI (clr s m) ∧ (nI s &&& (nI 63 - (nI 1 <<< (nI m &&& 31)))) = nI (clr s m) ∧ clr s m < 64 := by decide +kernel
theorem clr_63 : ∀ s, s < 64 → nI s &&& nI 63 = nI s := by decide +kernel
def allB (p : Nat → Bool) : Nat → Bool
  | 0 => true
  | n + 1 => allB p n && p n
theorem allB_t {p : Nat → Bool} : ∀ {n : Nat}, allB p n = true → ∀ k, k < n → p k = true
  | 0, _, k, h => absurd h (by omega)
  | n + 1, h, k, hk => by
    unfold allB at h
    rw [Bool.and_eq_true] at h
    rcases Nat.lt_succ_iff_lt_or_eq.mp hk with e | e
    · exact allB_t h.1 k e
    · rw [e]; exact h.2
theorem allB_f {p : Nat → Bool} : ∀ {n k : Nat}, k < n → p k = false → allB p n = false
  | 0, k, h, _ => absurd h (by omega)
  | n + 1, k, h, hp => by
    unfold allB
    rcases Nat.lt_succ_iff_lt_or_eq.mp h with e | e
    · rw [allB_f e hp, Bool.false_and]
    · subst e; rw [hp, Bool.and_false]
theorem allB_congr {p q : Nat → Bool} : ∀ {n : Nat}, (∀ k, k < n → p k = q k) → allB p n = allB q n
  | 0, _ => rfl
  | n + 1, h => by
    unfold allB
    rw [allB_congr (n := n) (fun k hk => h k (by omega)), h n (by omega)]
theorem allB_mk {p : Nat → Bool} {n : Nat} (h : ∀ k, k < n → p k = true) : allB p n = true := by
  cases e : allB p n with
  | true => rfl
  | false =>
    have : ∀ m, m ≤ n → allB p m = true := by
      intro m
      induction m with
      | zero => intro _; rfl
      | succ m ih => intro hm; unfold allB; rw [ih (by omega), h m (by omega)]; rfl
    rw [this n (Nat.le_refl n)] at e
    cases e
theorem bset_z {p : Nat → Bool} {n : Nat} (hn : n ≤ 32) : bset p n = 0 ↔ allB (fun k => !p k) n = true := by
  constructor
  · intro h
    apply allB_mk
    intro k hk
    have := bt_bset (p := p) (w := k) (by omega) hn
    rw [h, b_0] at this
    simpa [hk] using this.symm
  · intro h
    apply b_ext
    intro i hi
    rw [b_0, bt_bset hi hn]
    by_cases e : i < n
    · have := allB_t h i e
      simpa [e] using this
    · simp [e]
def alV (sus : Nat) (kn : Nat → Nat → Nat) (k m n : Nat) : Nat := cnt (fun o => bt (nI sus) o && decide (kn o k = kn m k)) n
def grpV (sus : Nat) (kn : Nat → Nat → Nat) (k : Nat) : Nat := cnt (fun m => bt (nI sus) m && decide (alV sus kn k m (m + 1) = 1)) 6
def gstV (sus : Nat) (kn : Nat → Nat → Nat) (k : Nat) : Nat := fold (fun m x => if bt (nI sus) m = true then max x (alV sus kn k m 6) else x) 0 6
def betV (sus : Nat) (kn : Nat → Nat → Nat) (k o : Nat) : Bool := if gstV sus kn k = gstV sus kn o then decide (grpV sus kn o < grpV sus kn k) else decide (gstV sus kn k < gstV sus kn o)
def bstV (sus : Nat) (kn : Nat → Nat → Nat) : Nat := fold (fun i b => if betV sus kn (i + 1) b = true then i + 1 else b) 0 15
def fndV (sus : Nat) (kn : Nat → Nat → Nat) (h : Nat) : Bool := allB (fun m => !(bt (nI sus) m && !allB (fun k => decide (kn m k = kn h k)) 16)) 6
def ansV (sus : Nat) (kn : Nat → Nat → Nat) (h k : Nat) (n : Nat) : Nat := fold (fun m s => if kn m k = kn h k then s else clr s m) sus n
theorem ansV_lt {sus : Nat} {kn : Nat → Nat → Nat} {h k : Nat} (hs : sus < 64) : ∀ n, n ≤ 6 → ansV sus kn h k n < 64
  | 0, _ => hs
  | n + 1, hn => by
    have := ansV_lt (kn := kn) (h := h) (k := k) hs n (by omega)
    show (if kn n k = kn h k then ansV sus kn h k n else clr (ansV sus kn h k n) n) < 64
    split
    · exact this
    · exact (clr_c _ this n (by omega)).2.2
theorem maxI_N {a b : Nat} (ha : a < 2 ^ 31) (hb : b < 2 ^ 31) : maxI (nI a) (nI b) = nI (max a b) := by
  unfold maxI
  by_cases h : a < b
  · rw [if_pos (nI_lt h hb), Nat.max_eq_right (Nat.le_of_lt h)]
  · rw [if_neg (nI_nlt (Nat.le_of_not_lt h) ha), Nat.max_eq_left (Nat.le_of_not_lt h)]
theorem alV_le (sus : Nat) (kn : Nat → Nat → Nat) (k m n : Nat) : alV sus kn k m n ≤ n := cnt_le _ n
theorem gst_le (sus : Nat) (kn : Nat → Nat → Nat) (k : Nat) : ∀ n, fold (fun m x => if bt (nI sus) m = true then max x (alV sus kn k m 6) else x) 0 n ≤ 6
  | 0 => Nat.zero_le _
  | n + 1 => by
    have h1 := gst_le sus kn k n
    have h2 := alV_le sus kn k n 6
    rw [fold_s]
    split
    · exact Nat.max_le.mpr ⟨h1, h2⟩
    · exact h1
theorem bst_le (sus : Nat) (kn : Nat → Nat → Nat) : ∀ n, fold (fun i b => if betV sus kn (i + 1) b = true then i + 1 else b) 0 n ≤ n
  | 0 => Nat.le_refl 0
  | n + 1 => by
    have h1 := bst_le sus kn n
    rw [fold_s]
    split <;> omega
set_option maxHeartbeats 4000000 in
set_option maxRecDepth 100000 in
theorem tX3_isSuspect {l : Launch} {D : va_G} {A : Nat → Prop} {N : Nat} {Sh : SM} {J : JM} (I : IM) {c : Nat} (hQ : QL Sh J c) {hid sus ask : Nat} {kn : Nat → Nat → Nat} (hV : KV I c hid sus ask kn) {m : Nat} (hm : m < 6) : CtP l D A yX3_isSuspect cX3_isSuspect 2 FieldType.boolean 0 N Sh I J [.ref c, .int (nI m)] (fun r => r = bI (bt (nI sus) m)) := by
  refine ct_I (l0 := [(0, .ref c), (1, .int (nI m))]) (by decide +kernel) (Nat.le_of_ble_eq_true rfl) rfl (fun _ _ _ h => by obtain ⟨rfl, _⟩ := h; exact nar_B _) ?_
  intro X hX hret _ _ _
  have hX : XK X RX3 cX3_isSuspect 2 0 := hX
  obtain ⟨h0, hj0, hr, hrow⟩ := id hQ
  obtain ⟨⟨v1, v2⟩, ⟨v3, v4⟩, v5, v6⟩ := id hV
  refine wa_aload_n hX dX3_isSuspect_0 rfl ?_
  refine wa_getI hX fX3_20 rfl (by assumption) dX3_isSuspect_1 ?_
  rw [v4]
  refine wa_iload_n hX dX3_isSuspect_4 rfl ?_
  refine wa_ishr hX dX3_isSuspect_5 ?_
  refine wa_iconst (v := nI 1) hX dX3_isSuspect_6 (by decide) ?_
  refine wa_iand hX dX3_isSuspect_7 ?_
  refine wa_iconst (v := nI 1) hX dX3_isSuspect_8 (by decide) ?_
  refine wa_icmp_ne (tgt := 16) hX dX3_isSuspect_9 (by decide) (fun c_9 => ?_) (fun c_9 => ?_)
  · skip
    have c1 : bt (nI sus) m = false := Bool.eq_false_iff.mpr (fun h => c_9 ((bt_t1 (by omega) _).mpr h))
    refine wa_iconst (v := nI 0) hX dX3_isSuspect_16 (by decide) ?_
    exact hret _ _ _ _ _ ⟨(by simp [c1, bI]), rfl, rfl⟩ dX3_isSuspect_17
  · skip
    have c1 := (bt_t1 (by omega) _).mp c_9
    refine wa_iconst (v := nI 1) hX dX3_isSuspect_12 (by decide) ?_
    refine wa_goto (tgt := 17) hX dX3_isSuspect_13 (by decide) ?_
    exact hret _ _ _ _ _ ⟨(by simp [c1, bI]), rfl, rfl⟩ dX3_isSuspect_17

theorem inB_hid {hid : Nat} (h : hid ≤ 6) : inB 6 (nI hid + Int32.ofInt (-1)) = decide (0 < hid) := by
  cases hid with
  | zero => decide
  | succ h1 => rw [dec1, inB_nI (by omega) (by decide)]; simp; omega
set_option maxHeartbeats 4000000 in
set_option maxRecDepth 100000 in
theorem tX3_isRunning {l : Launch} {D : va_G} {A : Nat → Prop} {N : Nat} {Sh : SM} {J : JM} (I : IM) {c : Nat} (hQ : QL Sh J c) {hid sus ask : Nat} {kn : Nat → Nat → Nat} (hV : KV I c hid sus ask kn) : CtP l D A yX3_isRunning cX3_isRunning 1 FieldType.boolean 1 N Sh I J [.ref c] (fun r => r = bI (decide (0 < hid))) := by
  refine ct_I (l0 := [(0, .ref c)]) (by decide +kernel) (Nat.le_of_ble_eq_true rfl) rfl (fun _ _ _ h => by obtain ⟨rfl, _⟩ := h; exact nar_B _) ?_
  intro X hX hret _ _ _
  have hX : XK X RX3 cX3_isRunning 1 1 := hX
  obtain ⟨h0, hj0, hr, hrow⟩ := id hQ
  obtain ⟨⟨v1, v2⟩, ⟨v3, v4⟩, v5, v6⟩ := id hV
  refine wa_aload_n hX dX3_isRunning_0 rfl ?_
  refine wa_getI hX fX3_16 rfl (by assumption) dX3_isRunning_1 ?_
  rw [v2]
  refine wa_nP hX (tX6_isMap I (nI hid + Int32.ofInt (-1))) bX6_isMap mX3_38 (by decide) (by decide) rfl rfl (Nat.le_of_ble_eq_true rfl) dX3_isRunning_4 (fun r_4 q_4 => ?_)
  rw [inB_hid v1] at q_4
  exact hret _ _ _ _ _ ⟨q_4, rfl, rfl⟩ dX3_isRunning_7

set_option maxHeartbeats 4000000 in
set_option maxRecDepth 100000 in
theorem tX3_alikeUpTo {l : Launch} {D : va_G} {A : Nat → Prop} {N : Nat} {Sh : SM} {J : JM} (I : IM) {c : Nat} (hQ : QL Sh J c) {hid sus ask : Nat} {kn : Nat → Nat → Nat} (hV : KV I c hid sus ask kn) {la m k : Nat} (hla : la < 6) (hm : m < 6) (hk : k < 16) : CtP l D A yX3_alikeUpTo cX3_alikeUpTo 6 FieldType.int 1 N Sh I J [.ref c, .int (nI la), .int (nI m), .int (nI k)] (fun r => r = nI (alV sus kn k m (la + 1))) := by
  refine ct_I (l0 := [(0, .ref c), (1, .int (nI la)), (2, .int (nI m)), (3, .int (nI k))]) (by decide +kernel) (Nat.le_of_ble_eq_true rfl) rfl (fun _ _ _ _ => rfl) ?_
  intro X hX hret _ _ _
  have hX : XK X RX3 cX3_alikeUpTo 6 1 := hX
  obtain ⟨h0, hj0, hr, hrow⟩ := id hQ
  obtain ⟨⟨v1, v2⟩, ⟨v3, v4⟩, v5, v6⟩ := id hV
  have lp : ∀ (n i : Nat) (x : Int32), i + n = (la + 1) → (x = nI (alV sus kn k m i)) → WX X 0 0 N Sh I J 6 [(0, .ref c), (1, .int (nI la)), (2, .int (nI m)), (3, .int (nI k)), (4, .int x), (5, .int (nI i))] [] := by
    intro n
    induction n with
    | zero =>
      intro i x hi ex
      obtain rfl : i = la + 1 := by omega
      refine wa_iload hX dX3_alikeUpTo_6 rfl ?_
      refine wa_iload_n hX dX3_alikeUpTo_8 rfl ?_
      refine wa_icmp_gt (tgt := 57) hX dX3_alikeUpTo_9 (by decide) (fun c_9 => ?_) (fun c_9 => absurd (nI_lt (by omega) (by omega)) c_9)
      refine wa_iload hX dX3_alikeUpTo_57 rfl ?_
      exact hret _ _ _ _ _ ⟨ex, rfl, rfl⟩ dX3_alikeUpTo_59
    | succ n ih =>
      intro i x hi ex
      have hlt : i < (la + 1) := by omega
      refine wa_iload hX dX3_alikeUpTo_6 rfl ?_
      refine wa_iload_n hX dX3_alikeUpTo_8 rfl ?_
      refine wa_icmp_gt (tgt := 57) hX dX3_alikeUpTo_9 (by decide) (fun c_9 => absurd c_9 (nI_nlt (by omega) (by omega))) (fun c_9 => ?_)
      refine wa_iload hX dX3_alikeUpTo_12 rfl ?_
      refine wa_bipush (v := nI 6) hX dX3_alikeUpTo_14 (by decide) ?_
      refine wa_icmp_ge (tgt := 57) hX dX3_alikeUpTo_16 (by decide) (fun c_16 => absurd c_16 (nI_ge (show i < 6 by omega) (by decide))) (fun c_16 => ?_)
      refine wa_aload_n hX dX3_alikeUpTo_19 rfl ?_
      refine wa_iload hX dX3_alikeUpTo_20 rfl ?_
      refine wa_vP hX (tX3_isSuspect I hQ hV (show i < 6 by omega)) bX3_isSuspect mX3_46 (by decide) (by decide) (ci := 2) ⟨by decide, rfl⟩ (by assumption) rfl rfl (Nat.le_of_ble_eq_true rfl) dX3_alikeUpTo_22 (fun r_22 q_22 => ?_)
      subst q_22
      refine wa_if_eq (tgt := 51) hX dX3_alikeUpTo_25 (by decide) (fun c_25 => ?_) (fun c_25 => ?_)
      · skip
        have c1 := bI_0.mp c_25
        refine wa_iinc hX dX3_alikeUpTo_51 rfl (inc1 _) (by decide) ?_
        refine wa_goto (tgt := 6) hX dX3_alikeUpTo_54 (by decide) ?_
        refine wx_sub (l' := [(0, _), (1, _), (2, _), (3, _), (4, _), (5, _)]) ⟨rfl, rfl, rfl, rfl, rfl, rfl, trivial⟩ ?_
        exact ih (i + 1) _ (by omega) (by rw [ex]; exact cnt_if (by simp [c1]))
      · skip
        have c1 := bI_n0.mp c_25
        refine wa_aload_n hX dX3_alikeUpTo_28 rfl ?_
        refine wa_getR hX fX3_11 rfl (by assumption) (by assumption) dX3_alikeUpTo_29 ?_
        refine wa_iload hX dX3_alikeUpTo_32 rfl ?_
        refine wa_aald hX (by assumption) rfl (show i < 6 by omega) (by decide) (hrow i (show i < 6 by omega)).1 dX3_alikeUpTo_34 ?_
        refine wa_iload_n hX dX3_alikeUpTo_35 rfl ?_
        refine wa_iald hX (hrow i (show i < 6 by omega)).2 rfl (by first | assumption | omega) (by decide) dX3_alikeUpTo_36 ?_
        rw [(v6 i (by omega) k hk).1]
        refine wa_aload_n hX dX3_alikeUpTo_37 rfl ?_
        refine wa_getR hX fX3_11 rfl (by assumption) (by assumption) dX3_alikeUpTo_38 ?_
        refine wa_iload_n hX dX3_alikeUpTo_41 rfl ?_
        refine wa_aald hX (by assumption) rfl hm (by decide) (hrow m hm).1 dX3_alikeUpTo_42 ?_
        refine wa_iload_n hX dX3_alikeUpTo_43 rfl ?_
        refine wa_iald hX (hrow m hm).2 rfl (by first | assumption | omega) (by decide) dX3_alikeUpTo_44 ?_
        rw [(v6 m hm k hk).1]
        refine wa_icmp_ne (tgt := 51) hX dX3_alikeUpTo_45 (by decide) (fun c_45 => ?_) (fun c_45 => ?_)
        · skip
          have c2 := ne_of_nI c_45
          refine wa_iinc hX dX3_alikeUpTo_51 rfl (inc1 _) (by decide) ?_
          refine wa_goto (tgt := 6) hX dX3_alikeUpTo_54 (by decide) ?_
          refine wx_sub (l' := [(0, _), (1, _), (2, _), (3, _), (4, _), (5, _)]) ⟨rfl, rfl, rfl, rfl, rfl, rfl, trivial⟩ ?_
          exact ih (i + 1) _ (by omega) (by rw [ex]; exact cnt_if (by simp [c2]))
        · skip
          have c2 := eq_of_nI c_45 (by have := (v6 i (by omega) k hk).2; omega) (by have := (v6 m hm k hk).2; omega)
          refine wa_iinc hX dX3_alikeUpTo_48 rfl rfl (by decide) ?_
          refine wa_iinc hX dX3_alikeUpTo_51 rfl (inc1 _) (by decide) ?_
          refine wa_goto (tgt := 6) hX dX3_alikeUpTo_54 (by decide) ?_
          refine wx_sub (l' := [(0, _), (1, _), (2, _), (3, _), (4, _), (5, _)]) ⟨rfl, rfl, rfl, rfl, rfl, rfl, trivial⟩ ?_
          exact ih (i + 1) _ (by omega) (by rw [ex]; exact cnt_it (by simp [c1, c2]))
  refine wa_iconst (v := nI 0) hX dX3_alikeUpTo_0 (by decide) ?_
  refine wa_istore hX dX3_alikeUpTo_1 (by decide) ?_
  refine wa_iconst (v := nI 0) hX dX3_alikeUpTo_3 (by decide) ?_
  refine wa_istore hX dX3_alikeUpTo_4 (by decide) ?_
  exact lp (la + 1) 0 _ (by omega) rfl

set_option maxHeartbeats 4000000 in
set_option maxRecDepth 100000 in
theorem tX3_groups {l : Launch} {D : va_G} {A : Nat → Prop} {N : Nat} {Sh : SM} {J : JM} (I : IM) {c : Nat} (hQ : QL Sh J c) {hid sus ask : Nat} {kn : Nat → Nat → Nat} (hV : KV I c hid sus ask kn) {k : Nat} (hk : k < 16) : CtP l D A yX3_groups cX3_groups 4 FieldType.int 2 N Sh I J [.ref c, .int (nI k)] (fun r => r = nI (grpV sus kn k)) := by
  refine ct_I (l0 := [(0, .ref c), (1, .int (nI k))]) (by decide +kernel) (Nat.le_of_ble_eq_true rfl) rfl (fun _ _ _ _ => rfl) ?_
  intro X hX hret _ _ _
  have hX : XK X RX3 cX3_groups 4 2 := hX
  have lp : ∀ (n i : Nat) (x : Int32), i + n = 6 → (x = nI (cnt (fun m => bt (nI sus) m && decide (alV sus kn k m (m + 1) = 1)) i)) → WX X 0 0 N Sh I J 4 [(0, .ref c), (1, .int (nI k)), (2, .int x), (3, .int (nI i))] [] := by
    intro n
    induction n with
    | zero =>
      intro i x hi ex
      obtain rfl : 6 = i := by omega
      refine wa_iload_n hX dX3_groups_4 rfl ?_
      refine wa_bipush (v := nI 6) hX dX3_groups_5 (by decide) ?_
      refine wa_icmp_ge (tgt := 38) hX dX3_groups_7 (by decide) (fun c_7 => ?_) (fun c_7 => absurd (Int32.le_refl _) c_7)
      refine wa_iload_n hX dX3_groups_38 rfl ?_
      exact hret _ _ _ _ _ ⟨ex, rfl, rfl⟩ dX3_groups_39
    | succ n ih =>
      intro i x hi ex
      have hlt : i < 6 := by omega
      refine wa_iload_n hX dX3_groups_4 rfl ?_
      refine wa_bipush (v := nI 6) hX dX3_groups_5 (by decide) ?_
      refine wa_icmp_ge (tgt := 38) hX dX3_groups_7 (by decide) (fun c_7 => absurd c_7 (nI_ge hlt (by decide))) (fun c_7 => ?_)
      refine wa_aload_n hX dX3_groups_10 rfl ?_
      refine wa_iload_n hX dX3_groups_11 rfl ?_
      refine wa_vP hX (tX3_isSuspect I hQ hV hlt) bX3_isSuspect mX3_46 (by decide) (by decide) (ci := 2) ⟨by decide, rfl⟩ hQ.1 rfl rfl (Nat.le_of_ble_eq_true rfl) dX3_groups_12 (fun r_12 q_12 => ?_)
      subst q_12
      refine wa_if_eq (tgt := 32) hX dX3_groups_15 (by decide) (fun c_15 => ?_) (fun c_15 => ?_)
      · skip
        have c1 := bI_0.mp c_15
        refine wa_iinc hX dX3_groups_32 rfl (inc1 _) (by decide) ?_
        refine wa_goto (tgt := 4) hX dX3_groups_35 (by decide) ?_
        refine wx_sub (l' := [(0, _), (1, _), (2, _), (3, _)]) ⟨rfl, rfl, rfl, rfl, trivial⟩ ?_
        exact ih (i + 1) _ (by omega) (by rw [ex]; exact cnt_if (by simp [c1]))
      · skip
        have c1 := bI_n0.mp c_15
        refine wa_aload_n hX dX3_groups_18 rfl ?_
        refine wa_iload_n hX dX3_groups_19 rfl ?_
        refine wa_iload_n hX dX3_groups_20 rfl ?_
        refine wa_iload_n hX dX3_groups_21 rfl ?_
        refine wa_vP hX (tX3_alikeUpTo I hQ hV hlt hlt hk) bX3_alikeUpTo mX3_53 (by decide) (by decide) (ci := 2) ⟨by decide, rfl⟩ hQ.1 rfl rfl (Nat.le_of_ble_eq_true rfl) dX3_groups_22 (fun r_22 q_22 => ?_)
        subst q_22
        have hle := alV_le sus kn k i (i + 1)
        refine wa_iconst (v := nI 1) hX dX3_groups_25 (by decide) ?_
        refine wa_icmp_ne (tgt := 32) hX dX3_groups_26 (by decide) (fun c_26 => ?_) (fun c_26 => ?_)
        · skip
          have c2 := ne_of_nI c_26
          refine wa_iinc hX dX3_groups_32 rfl (inc1 _) (by decide) ?_
          refine wa_goto (tgt := 4) hX dX3_groups_35 (by decide) ?_
          refine wx_sub (l' := [(0, _), (1, _), (2, _), (3, _)]) ⟨rfl, rfl, rfl, rfl, trivial⟩ ?_
          exact ih (i + 1) _ (by omega) (by rw [ex]; exact cnt_if (by simp [c2]))
        · skip
          have c2 := eq_of_nI c_26 (by omega) (by decide)
          refine wa_iinc hX dX3_groups_29 rfl rfl (by decide) ?_
          refine wa_iinc hX dX3_groups_32 rfl (inc1 _) (by decide) ?_
          refine wa_goto (tgt := 4) hX dX3_groups_35 (by decide) ?_
          refine wx_sub (l' := [(0, _), (1, _), (2, _), (3, _)]) ⟨rfl, rfl, rfl, rfl, trivial⟩ ?_
          exact ih (i + 1) _ (by omega) (by rw [ex]; exact cnt_it (by simp [c1, c2]))
  refine wa_iconst (v := nI 0) hX dX3_groups_0 (by decide) ?_
  refine wa_istore_n hX dX3_groups_1 (by decide) ?_
  refine wa_iconst (v := nI 0) hX dX3_groups_2 (by decide) ?_
  refine wa_istore_n hX dX3_groups_3 (by decide) ?_
  exact lp 6 0 _ (by omega) rfl

set_option maxHeartbeats 4000000 in
set_option maxRecDepth 100000 in
theorem tX3_greatestGroup {l : Launch} {D : va_G} {A : Nat → Prop} {N : Nat} {Sh : SM} {J : JM} (I : IM) {c : Nat} (hQ : QL Sh J c) {hid sus ask : Nat} {kn : Nat → Nat → Nat} (hV : KV I c hid sus ask kn) {k : Nat} (hk : k < 16) : CtP l D A yX3_greatestGroup cX3_greatestGroup 4 FieldType.int 2 N Sh I J [.ref c, .int (nI k)] (fun r => r = nI (gstV sus kn k)) := by
  refine ct_I (l0 := [(0, .ref c), (1, .int (nI k))]) (by decide +kernel) (Nat.le_of_ble_eq_true rfl) rfl (fun _ _ _ _ => rfl) ?_
  intro X hX hret _ _ _
  have hX : XK X RX3 cX3_greatestGroup 4 2 := hX
  have lp : ∀ (n i : Nat) (x : Int32), i + n = 6 → (x = nI (fold (fun m x => if bt (nI sus) m = true then max x (alV sus kn k m 6) else x) 0 i)) → WX X 0 0 N Sh I J 4 [(0, .ref c), (1, .int (nI k)), (2, .int x), (3, .int (nI i))] [] := by
    intro n
    induction n with
    | zero =>
      intro i x hi ex
      obtain rfl : 6 = i := by omega
      refine wa_iload_n hX dX3_greatestGroup_4 rfl ?_
      refine wa_bipush (v := nI 6) hX dX3_greatestGroup_5 (by decide) ?_
      refine wa_icmp_ge (tgt := 36) hX dX3_greatestGroup_7 (by decide) (fun c_7 => ?_) (fun c_7 => absurd (Int32.le_refl _) c_7)
      refine wa_iload_n hX dX3_greatestGroup_36 rfl ?_
      exact hret _ _ _ _ _ ⟨ex, rfl, rfl⟩ dX3_greatestGroup_37
    | succ n ih =>
      intro i x hi ex
      have hlt : i < 6 := by omega
      refine wa_iload_n hX dX3_greatestGroup_4 rfl ?_
      refine wa_bipush (v := nI 6) hX dX3_greatestGroup_5 (by decide) ?_
      refine wa_icmp_ge (tgt := 36) hX dX3_greatestGroup_7 (by decide) (fun c_7 => absurd c_7 (nI_ge hlt (by decide))) (fun c_7 => ?_)
      refine wa_aload_n hX dX3_greatestGroup_10 rfl ?_
      refine wa_iload_n hX dX3_greatestGroup_11 rfl ?_
      refine wa_vP hX (tX3_isSuspect I hQ hV hlt) bX3_isSuspect mX3_46 (by decide) (by decide) (ci := 2) ⟨by decide, rfl⟩ hQ.1 rfl rfl (Nat.le_of_ble_eq_true rfl) dX3_greatestGroup_12 (fun r_12 q_12 => ?_)
      subst q_12
      refine wa_if_eq (tgt := 30) hX dX3_greatestGroup_15 (by decide) (fun c_15 => ?_) (fun c_15 => ?_)
      · skip
        have c1 := bI_0.mp c_15
        refine wa_iinc hX dX3_greatestGroup_30 rfl (inc1 _) (by decide) ?_
        refine wa_goto (tgt := 4) hX dX3_greatestGroup_33 (by decide) ?_
        refine wx_sub (l' := [(0, _), (1, _), (2, _), (3, _)]) ⟨rfl, rfl, rfl, rfl, trivial⟩ ?_
        exact ih (i + 1) _ (by omega) (by rw [ex, fold_s, if_neg (by rw [c1]; decide)])
      · skip
        have c1 := bI_n0.mp c_15
        refine wa_iload_n hX dX3_greatestGroup_18 rfl ?_
        refine wa_aload_n hX dX3_greatestGroup_19 rfl ?_
        refine wa_iconst (v := nI 5) hX dX3_greatestGroup_20 (by decide) ?_
        refine wa_iload_n hX dX3_greatestGroup_21 rfl ?_
        refine wa_iload_n hX dX3_greatestGroup_22 rfl ?_
        refine wa_vP hX (tX3_alikeUpTo I hQ hV (show 5 < 6 by decide) hlt hk) bX3_alikeUpTo mX3_53 (by decide) (by decide) (ci := 2) ⟨by decide, rfl⟩ hQ.1 rfl rfl (Nat.le_of_ble_eq_true rfl) dX3_greatestGroup_23 (fun r_23 q_23 => ?_)
        subst q_23
        have hle := alV_le sus kn k i 6
        have hgl := gst_le sus kn k i
        refine wa_max hX kMaxL3 kMaxS kMaxI kMaxC (by decide) (Nat.le_of_ble_eq_true rfl) dX3_greatestGroup_26 ?_
        refine wa_istore_n hX dX3_greatestGroup_29 (by decide) ?_
        refine wa_iinc hX dX3_greatestGroup_30 rfl (inc1 _) (by decide) ?_
        refine wa_goto (tgt := 4) hX dX3_greatestGroup_33 (by decide) ?_
        refine wx_sub (l' := [(0, _), (1, _), (2, _), (3, _)]) ⟨rfl, rfl, rfl, rfl, trivial⟩ ?_
        exact ih (i + 1) _ (by omega) (by rw [ex, fold_s, if_pos c1]; exact maxI_N (by omega) (show alV sus kn k i 6 < 2 ^ 31 by omega))
  refine wa_iconst (v := nI 0) hX dX3_greatestGroup_0 (by decide) ?_
  refine wa_istore_n hX dX3_greatestGroup_1 (by decide) ?_
  refine wa_iconst (v := nI 0) hX dX3_greatestGroup_2 (by decide) ?_
  refine wa_istore_n hX dX3_greatestGroup_3 (by decide) ?_
  exact lp 6 0 _ (by omega) rfl

set_option maxHeartbeats 4000000 in
set_option maxRecDepth 100000 in
theorem tX3_isBetter {l : Launch} {D : va_G} {A : Nat → Prop} {N : Nat} {Sh : SM} {J : JM} (I : IM) {c : Nat} (hQ : QL Sh J c) {hid sus ask : Nat} {kn : Nat → Nat → Nat} (hV : KV I c hid sus ask kn) {k o1 : Nat} (hk : k < 16) (ho : o1 < 16) : CtP l D A yX3_isBetter cX3_isBetter 5 FieldType.boolean 3 N Sh I J [.ref c, .int (nI k), .int (nI o1)] (fun r => r = bI (betV sus kn k o1)) := by
  refine ct_I (l0 := [(0, .ref c), (1, .int (nI k)), (2, .int (nI o1))]) (by decide +kernel) (Nat.le_of_ble_eq_true rfl) rfl (fun _ _ _ h => by obtain ⟨rfl, _⟩ := h; exact nar_B _) ?_
  intro X hX hret _ _ _
  have hX : XK X RX3 cX3_isBetter 5 3 := hX
  have g1 := gst_le sus kn k 6
  have g2 := gst_le sus kn o1 6
  have g3 : grpV sus kn k ≤ 6 := cnt_le _ 6
  have g4 : grpV sus kn o1 ≤ 6 := cnt_le _ 6
  have g1 : gstV sus kn k ≤ 6 := g1
  have g2 : gstV sus kn o1 ≤ 6 := g2
  refine wa_aload_n hX dX3_isBetter_0 rfl ?_
  refine wa_iload_n hX dX3_isBetter_1 rfl ?_
  refine wa_vP hX (tX3_greatestGroup I hQ hV hk) bX3_greatestGroup mX3_67 (by decide) (by decide) (ci := 2) ⟨by decide, rfl⟩ hQ.1 rfl rfl (Nat.le_of_ble_eq_true rfl) dX3_isBetter_2 (fun r_2 q_2 => ?_)
  subst q_2
  refine wa_istore_n hX dX3_isBetter_5 (by decide) ?_
  refine wa_aload_n hX dX3_isBetter_6 rfl ?_
  refine wa_iload_n hX dX3_isBetter_7 rfl ?_
  refine wa_vP hX (tX3_greatestGroup I hQ hV ho) bX3_greatestGroup mX3_67 (by decide) (by decide) (ci := 2) ⟨by decide, rfl⟩ hQ.1 rfl rfl (Nat.le_of_ble_eq_true rfl) dX3_isBetter_8 (fun r_8 q_8 => ?_)
  subst q_8
  refine wa_istore hX dX3_isBetter_11 (by decide) ?_
  refine wa_iload_n hX dX3_isBetter_13 rfl ?_
  refine wa_iload hX dX3_isBetter_14 rfl ?_
  refine wa_icmp_eq (tgt := 31) hX dX3_isBetter_16 (by decide) (fun c_16 => ?_) (fun c_16 => ?_)
  · skip
    have c1 := eq_of_nI c_16 (by omega) (by omega)
    refine wa_aload_n hX dX3_isBetter_31 rfl ?_
    refine wa_iload_n hX dX3_isBetter_32 rfl ?_
    refine wa_vP hX (tX3_groups I hQ hV hk) bX3_groups mX3_71 (by decide) (by decide) (ci := 2) ⟨by decide, rfl⟩ hQ.1 rfl rfl (Nat.le_of_ble_eq_true rfl) dX3_isBetter_33 (fun r_33 q_33 => ?_)
    subst q_33
    refine wa_aload_n hX dX3_isBetter_36 rfl ?_
    refine wa_iload_n hX dX3_isBetter_37 rfl ?_
    refine wa_vP hX (tX3_groups I hQ hV ho) bX3_groups mX3_71 (by decide) (by decide) (ci := 2) ⟨by decide, rfl⟩ hQ.1 rfl rfl (Nat.le_of_ble_eq_true rfl) dX3_isBetter_38 (fun r_38 q_38 => ?_)
    subst q_38
    refine wa_icmp_le (tgt := 48) hX dX3_isBetter_41 (by decide) (fun c_41 => ?_) (fun c_41 => ?_)
    · skip
      have c2 : ¬ grpV sus kn o1 < grpV sus kn k := fun h => absurd c_41 (nI_ge h (by omega))
      refine wa_iconst (v := nI 0) hX dX3_isBetter_48 (by decide) ?_
      exact hret _ _ _ _ _ ⟨(by simp [betV, c1, c2, bI]), rfl, rfl⟩ dX3_isBetter_49
    · skip
      have c2 : grpV sus kn o1 < grpV sus kn k := by
        rcases Nat.lt_or_ge (grpV sus kn o1) (grpV sus kn k) with q | q
        · exact q
        · exact absurd (nI_le q (by omega)) c_41
      refine wa_iconst (v := nI 1) hX dX3_isBetter_44 (by decide) ?_
      refine wa_goto (tgt := 49) hX dX3_isBetter_45 (by decide) ?_
      exact hret _ _ _ _ _ ⟨(by simp [betV, c1, c2, bI]), rfl, rfl⟩ dX3_isBetter_49
  · skip
    have c1 := ne_of_nI c_16
    refine wa_iload_n hX dX3_isBetter_19 rfl ?_
    refine wa_iload hX dX3_isBetter_20 rfl ?_
    refine wa_icmp_ge (tgt := 29) hX dX3_isBetter_22 (by decide) (fun c_22 => ?_) (fun c_22 => ?_)
    · skip
      have c2 : ¬ gstV sus kn k < gstV sus kn o1 := fun h => absurd c_22 (nI_ge h (by omega))
      refine wa_iconst (v := nI 0) hX dX3_isBetter_29 (by decide) ?_
      exact hret _ _ _ _ _ ⟨(by simp [betV, c1, c2, bI]), rfl, rfl⟩ dX3_isBetter_30
    · skip
      have c2 : gstV sus kn k < gstV sus kn o1 := by
        rcases Nat.lt_or_ge (gstV sus kn k) (gstV sus kn o1) with q | q
        · exact q
        · exact absurd (nI_le q (by omega)) c_22
      refine wa_iconst (v := nI 1) hX dX3_isBetter_25 (by decide) ?_
      refine wa_goto (tgt := 30) hX dX3_isBetter_26 (by decide) ?_
      exact hret _ _ _ _ _ ⟨(by simp [betV, c1, c2, bI]), rfl, rfl⟩ dX3_isBetter_30

set_option maxHeartbeats 4000000 in
set_option maxRecDepth 100000 in
theorem tX3_bestKey {l : Launch} {D : va_G} {A : Nat → Prop} {N : Nat} {Sh : SM} {J : JM} (I : IM) {c : Nat} (hQ : QL Sh J c) {hid sus ask : Nat} {kn : Nat → Nat → Nat} (hV : KV I c hid sus ask kn) : CtP l D A yX3_bestKey cX3_bestKey 3 FieldType.int 4 N Sh I J [.ref c] (fun r => r = nI (bstV sus kn)) := by
  refine ct_I (l0 := [(0, .ref c)]) (by decide +kernel) (Nat.le_of_ble_eq_true rfl) rfl (fun _ _ _ _ => rfl) ?_
  intro X hX hret _ _ _
  have hX : XK X RX3 cX3_bestKey 3 4 := hX
  have lp : ∀ (n i : Nat) (x : Int32), i + n = 15 → (x = nI (fold (fun i b => if betV sus kn (i + 1) b = true then i + 1 else b) 0 i)) → WX X 0 0 N Sh I J 4 [(0, .ref c), (1, .int x), (2, .int (nI (i + 1)))] [] := by
    intro n
    induction n with
    | zero =>
      intro i x hi ex
      obtain rfl : 15 = i := by omega
      refine wa_iload_n hX dX3_bestKey_4 rfl ?_
      refine wa_bipush (v := nI 16) hX dX3_bestKey_5 (by decide) ?_
      refine wa_icmp_ge (tgt := 27) hX dX3_bestKey_7 (by decide) (fun c_7 => ?_) (fun c_7 => absurd (by decide) c_7)
      refine wa_iload_n hX dX3_bestKey_27 rfl ?_
      exact hret _ _ _ _ _ ⟨ex, rfl, rfl⟩ dX3_bestKey_28
    | succ n ih =>
      intro i x hi ex
      have hlt : i < 15 := by omega
      refine wa_iload_n hX dX3_bestKey_4 rfl ?_
      refine wa_bipush (v := nI 16) hX dX3_bestKey_5 (by decide) ?_
      refine wa_icmp_ge (tgt := 27) hX dX3_bestKey_7 (by decide) (fun c_7 => absurd c_7 (nI_ge (by omega) (by decide))) (fun c_7 => ?_)
      subst ex
      have hb := bst_le sus kn i
      refine wa_aload_n hX dX3_bestKey_10 rfl ?_
      refine wa_iload_n hX dX3_bestKey_11 rfl ?_
      refine wa_iload_n hX dX3_bestKey_12 rfl ?_
      refine wa_vP hX (tX3_isBetter I hQ hV (show i + 1 < 16 by omega) (show fold (fun i b => if betV sus kn (i + 1) b = true then i + 1 else b) 0 i < 16 by omega)) bX3_isBetter mX3_63 (by decide) (by decide) (ci := 2) ⟨by decide, rfl⟩ hQ.1 rfl rfl (Nat.le_of_ble_eq_true rfl) dX3_bestKey_13 (fun r_13 q_13 => ?_)
      subst q_13
      refine wa_if_eq (tgt := 21) hX dX3_bestKey_16 (by decide) (fun c_16 => ?_) (fun c_16 => ?_)
      · skip
        have c1 := bI_0.mp c_16
        refine wa_iinc hX dX3_bestKey_21 rfl (inc1 _) (by decide) ?_
        refine wa_goto (tgt := 4) hX dX3_bestKey_24 (by decide) ?_
        refine wx_sub (l' := [(0, _), (1, _), (2, _)]) ⟨rfl, rfl, rfl, trivial⟩ ?_
        exact ih (i + 1) _ (by omega) (by rw [fold_s, if_neg (by rw [c1]; decide)])
      · skip
        have c1 := bI_n0.mp c_16
        refine wa_iload_n hX dX3_bestKey_19 rfl ?_
        refine wa_istore_n hX dX3_bestKey_20 (by decide) ?_
        refine wa_iinc hX dX3_bestKey_21 rfl (inc1 _) (by decide) ?_
        refine wa_goto (tgt := 4) hX dX3_bestKey_24 (by decide) ?_
        refine wx_sub (l' := [(0, _), (1, _), (2, _)]) ⟨rfl, rfl, rfl, trivial⟩ ?_
        exact ih (i + 1) _ (by omega) (by rw [fold_s, if_pos c1])
  refine wa_iconst (v := nI 0) hX dX3_bestKey_0 (by decide) ?_
  refine wa_istore_n hX dX3_bestKey_1 (by decide) ?_
  refine wa_iconst (v := nI 1) hX dX3_bestKey_2 (by decide) ?_
  refine wa_istore_n hX dX3_bestKey_3 (by decide) ?_
  exact lp 15 0 _ (by omega) rfl

set_option maxHeartbeats 4000000 in
set_option maxRecDepth 100000 in
theorem tX3_isFound {l : Launch} {D : va_G} {A : Nat → Prop} {N : Nat} {Sh : SM} {J : JM} (I : IM) {c : Nat} (hQ : QL Sh J c) {hid sus ask : Nat} {kn : Nat → Nat → Nat} (hV : KV I c hid sus ask kn) : CtP l D A yX3_isFound cX3_isFound 2 FieldType.boolean 3 N Sh I J [.ref c] (fun r => r = bI (decide (0 < hid) && fndV sus kn (hid - 1))) := by
  refine ct_I (l0 := [(0, .ref c)]) (by decide +kernel) (Nat.le_of_ble_eq_true rfl) rfl (fun _ _ _ h => by obtain ⟨rfl, _⟩ := h; exact nar_B _) ?_
  intro X hX hret _ _ _
  have hX : XK X RX3 cX3_isFound 2 3 := hX
  obtain ⟨h0, hj0, hr, hrow⟩ := id hQ
  obtain ⟨⟨v1, v2⟩, ⟨v3, v4⟩, v5, v6⟩ := id hV
  have lp : ∀ h, hid = h + 1 → ∀ (n i : Nat), i + n = 6 → allB (fun m => !(bt (nI sus) m && !allB (fun k => decide (kn m k = kn h k)) 16)) i = true → WX X 0 0 N Sh I J 11 [(0, .ref c), (1, .int (nI i))] [] := by
    intro h eh
    subst eh
    rw [dec1] at v2
    have lq : ∀ (n i : Nat), i + n = 6 → (allB (fun m => !(bt (nI sus) m && !allB (fun k => decide (kn m k = kn h k)) 16)) i = true) → WX X 0 0 N Sh I J 11 [(0, .ref c), (1, .int (nI i))] [] := by
      intro n
      induction n with
      | zero =>
        intro i  hi ea
        obtain rfl : 6 = i := by omega
        refine wa_iload_n hX dX3_isFound_11 rfl ?_
        refine wa_bipush (v := nI 6) hX dX3_isFound_12 (by decide) ?_
        refine wa_icmp_ge (tgt := 54) hX dX3_isFound_14 (by decide) (fun c_14 => ?_) (fun c_14 => absurd (Int32.le_refl _) c_14)
        refine wa_iconst (v := nI 1) hX dX3_isFound_54 (by decide) ?_
        exact hret _ _ _ _ _ ⟨(by simp only [Nat.add_sub_cancel]; rw [show fndV sus kn h = true from ea, decide_eq_true (Nat.succ_pos h)]; rfl), rfl, rfl⟩ dX3_isFound_55
      | succ n ih =>
        intro i  hi ea
        have hlt : i < 6 := by omega
        refine wa_iload_n hX dX3_isFound_11 rfl ?_
        refine wa_bipush (v := nI 6) hX dX3_isFound_12 (by decide) ?_
        refine wa_icmp_ge (tgt := 54) hX dX3_isFound_14 (by decide) (fun c_14 => absurd c_14 (nI_ge hlt (by decide))) (fun c_14 => ?_)
        refine wa_aload_n hX dX3_isFound_17 rfl ?_
        refine wa_iload_n hX dX3_isFound_18 rfl ?_
        refine wa_vP hX (tX3_isSuspect I hQ hV hlt) bX3_isSuspect mX3_46 (by decide) (by decide) (ci := 2) ⟨by decide, rfl⟩ (by assumption) rfl rfl (Nat.le_of_ble_eq_true rfl) dX3_isFound_19 (fun r_19 q_19 => ?_)
        subst q_19
        refine wa_if_eq (tgt := 48) hX dX3_isFound_22 (by decide) (fun c_22 => ?_) (fun c_22 => ?_)
        · skip
          have c1 := bI_0.mp c_22
          refine wa_iinc hX dX3_isFound_48 rfl (inc1 _) (by decide) ?_
          refine wa_goto (tgt := 11) hX dX3_isFound_51 (by decide) ?_
          refine wx_sub (l' := [(0, _), (1, _)]) ⟨rfl, rfl, trivial⟩ ?_
          exact ih (i + 1) (by omega) (by unfold allB; rw [ea]; simp [c1])
        · skip
          have c1 := bI_n0.mp c_22
          refine wa_aload_n hX dX3_isFound_25 rfl ?_
          refine wa_getR hX fX3_11 rfl (by assumption) (by assumption) dX3_isFound_26 ?_
          refine wa_iload_n hX dX3_isFound_29 rfl ?_
          refine wa_aald hX (by assumption) rfl hlt (by decide) (hrow i hlt).1 dX3_isFound_30 ?_
          refine wa_aload_n hX dX3_isFound_31 rfl ?_
          refine wa_getR hX fX3_11 rfl (by assumption) (by assumption) dX3_isFound_32 ?_
          refine wa_aload_n hX dX3_isFound_35 rfl ?_
          refine wa_getI hX fX3_16 rfl (by assumption) dX3_isFound_36 ?_
          rw [v2]
          refine wa_aald hX (by assumption) rfl (show h < 6 by omega) (by decide) (hrow h (show h < 6 by omega)).1 dX3_isFound_39 ?_
          refine wa_sP hX (tX2_difference I (hrow i hlt).2 (hrow h (by omega)).2) bX2_difference mX3_49 (by decide) (by decide) rfl rfl (Nat.le_of_ble_eq_true rfl) dX3_isFound_40 (fun r_40 q_40 => ?_)
          subst q_40
          have hz : allB (fun k => !!decide (I (c + 2 + i) k = I (c + 2 + h) k)) 16 = allB (fun k => decide (kn i k = kn h k)) 16 := allB_congr (fun k hk => by rw [(v6 i hlt k hk).1, (v6 h (by omega) k hk).1, Bool.not_not]; have a1 := (v6 i hlt k hk).2; have a2 := (v6 h (by omega) k hk).2; by_cases e : kn i k = kn h k <;> simp [e, nI_ne, nI_eq (show kn i k < 2 ^ 31 by omega) (show kn h k < 2 ^ 31 by omega)])
          refine wa_if_eq (tgt := 48) hX dX3_isFound_43 (by decide) (fun c_43 => ?_) (fun c_43 => ?_)
          · skip
            have c2 := (bset_z (by decide)).mp c_43
            rw [hz] at c2
            refine wa_iinc hX dX3_isFound_48 rfl (inc1 _) (by decide) ?_
            refine wa_goto (tgt := 11) hX dX3_isFound_51 (by decide) ?_
            refine wx_sub (l' := [(0, _), (1, _)]) ⟨rfl, rfl, trivial⟩ ?_
            exact ih (i + 1) (by omega) (by unfold allB; rw [ea]; simp [c2])
          · skip
            have c2 : allB (fun k => decide (kn i k = kn h k)) 16 = false := by
              rw [← hz]
              exact Bool.eq_false_iff.mpr (fun q => c_43 ((bset_z (by decide)).mpr q))
            refine wa_iconst (v := nI 0) hX dX3_isFound_46 (by decide) ?_
            exact hret _ _ _ _ _ ⟨(by simp only [Nat.add_sub_cancel]; rw [show fndV sus kn h = false from allB_f hlt (by simp [c1, c2]), Bool.and_false]; rfl), rfl, rfl⟩ dX3_isFound_47
    exact lq
  refine wa_aload_n hX dX3_isFound_0 rfl ?_
  refine wa_vP hX (tX3_isRunning I hQ hV) bX3_isRunning mX3_42 (by decide) (by decide) (ci := 2) ⟨by decide, rfl⟩ (by assumption) rfl rfl (Nat.le_of_ble_eq_true rfl) dX3_isFound_1 (fun r_1 q_1 => ?_)
  subst q_1
  refine wa_if_ne (tgt := 9) hX dX3_isFound_4 (by decide) (fun c_4 => ?_) (fun c_4 => ?_)
  · skip
    have c1 : 0 < hid := of_decide_eq_true (bI_n0.mp c_4)
    refine wa_iconst (v := nI 0) hX dX3_isFound_9 (by decide) ?_
    refine wa_istore_n hX dX3_isFound_10 (by decide) ?_
    exact lp (hid - 1) (by omega) 6 0 (by omega) rfl
  · skip
    have c1 := bI_0.mp c_4
    refine wa_iconst (v := nI 0) hX dX3_isFound_7 (by decide) ?_
    exact hret _ _ _ _ _ ⟨(by rw [c1]; rfl), rfl, rfl⟩ dX3_isFound_8

