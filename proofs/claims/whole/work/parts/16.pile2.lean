/-! Pile in plain values: height hg, which are on, entries en (17 none, 16 nowhere) -/
def topN (p : Nat → Bool) : Nat → Nat
  | 0 => 0
  | n + 1 => if p n = true then n + 1 else topN p n
theorem top_N (p : Nat → Bool) : ∀ n, top p n = nI (topN p n) + Int32.ofInt (-1)
  | 0 => show (-1 : Int32) = nI 0 + Int32.ofInt (-1) by decide
  | n + 1 => by
    unfold top topN
    split
    · exact (dec1 n).symm
    · exact top_N p n
theorem topN_le (p : Nat → Bool) : ∀ n, topN p n ≤ n
  | 0 => Nat.le_refl 0
  | n + 1 => by
    have := topN_le p n
    unfold topN
    split <;> omega
theorem topN_congr {p q : Nat → Bool} : ∀ {n : Nat}, (∀ k, k < n → p k = q k) → topN p n = topN q n
  | 0, _ => rfl
  | n + 1, h => by
    unfold topN
    rw [topN_congr (n := n) (fun k hk => h k (by omega)), h n (by omega)]
theorem top_guard (p : Nat → Bool) {g : Nat} : ∀ {n : Nat}, g ≤ n → top (fun l => decide (l < g) && p l) n = top p g
  | 0, h => by rw [show g = 0 by omega]; rfl
  | n + 1, h => by
    by_cases e : g = n + 1
    · subst e
      exact top_congr (fun k hk => by simp [hk])
    · rw [top_f (by simp [show ¬ n < g by omega])]
      exact top_guard p (by omega)
/-- the layer that tells of k, plus one; 0 for none -/
def telV (hg : Nat) (on : Nat → Bool) (en : Nat → Nat → Nat) (k : Nat) : Nat := topN (fun l => on l && !decide (en l k = 17)) hg
def valV (hg : Nat) (on : Nat → Bool) (en : Nat → Nat → Nat) (k : Nat) : Nat := if telV hg on en k = 0 then 16 else en (telV hg on en k - 1) k
def PV (I : IM) (a hg : Nat) (on : Nat → Bool) (en : Nat → Nat → Nat) : Prop := (hg ≤ 4 ∧ I a 3 = nI hg) ∧ (∀ l, l < 4 → I (a + 6) l = bI (on l)) ∧ ∀ l, l < 4 → ∀ k, k < 16 → I (a + 2 + l) k = nI (en l k) ∧ en l k ≤ 17
/-- the values are worked out -/
def PS (I : IM) (a hg : Nat) (on : Nat → Bool) (en : Nat → Nat → Nat) : Prop := PV I a hg on en ∧ ∀ k, k < 16 → I (a + 7) k = nI (valV hg on en k)
/-- nothing changes outside of the n cells from a on -/
def Fr (a n : Nat) (I I' : IM) : Prop := ∀ b, b < a ∨ a + n ≤ b → I' b = I b
theorem Fr.rf {a n : Nat} {I : IM} : Fr a n I I := fun _ _ => rfl
theorem Fr.tr {a n : Nat} {I I1 I2 : IM} (h1 : Fr a n I I1) (h2 : Fr a n I1 I2) : Fr a n I I2 := fun b hb => (h2 b hb).trans (h1 b hb)
theorem Fr.in {a n c m : Nat} {I I1 : IM} (h : Fr c m I I1) (h1 : a ≤ c) (h2 : c + m ≤ a + n) : Fr a n I I1 := fun b hb => h b (by omega)
theorem Fr.u2 {a n c k : Nat} {v : Int32} {I : IM} (h1 : a ≤ c) (h2 : c < a + n) : Fr a n I (u2 I c k v) := fun b hb => u2_n (by omega)
theorem Fr.uR {a n c : Nat} {f : Nat → Int32} {I : IM} (h1 : a ≤ c) (h2 : c < a + n) : Fr a n I (uR I c f) := fun b hb => uR_n (by omega)
theorem PV.keep {I I' : IM} {a hg : Nat} {on : Nat → Bool} {en : Nat → Nat → Nat} (h : PV I a hg on en) (hk : ∀ b, a ≤ b → b < a + 7 → I' b = I b) : PV I' a hg on en :=
  ⟨⟨h.1.1, by rw [hk a (by omega) (by omega)]; exact h.1.2⟩, fun l hl => by rw [hk (a + 6) (by omega) (by omega)]; exact h.2.1 l hl, fun l hl k hk2 => by rw [hk (a + 2 + l) (by omega) (by omega)]; exact h.2.2 l hl k hk2⟩
theorem PS.keep {I I' : IM} {a hg : Nat} {on : Nat → Bool} {en : Nat → Nat → Nat} (h : PS I a hg on en) (hk : ∀ b, a ≤ b → b < a + 8 → I' b = I b) : PS I' a hg on en :=
  ⟨h.1.keep (fun b h1 h2 => hk b h1 (by omega)), fun k h2 => by rw [hk (a + 7) (by omega) (by omega)]; exact h.2 k h2⟩
theorem telC_V {I : IM} {a hg : Nat} {on : Nat → Bool} {en : Nat → Nat → Nat} (h : PV I a hg on en) {k : Nat} (hk : k < 16) : telC I a k = nI (telV hg on en k) + Int32.ofInt (-1) := by
  unfold telV
  rw [← top_N, ← top_guard _ h.1.1]
  unfold telC
  apply top_congr
  intro l hl
  have h1 := h.2.1 l hl
  have h2 := h.2.2 l hl k hk
  have h3 := h.1.1
  have e2 : decide (nI l < nI hg) = decide (l < hg) := by
    by_cases q : l < hg
    · simp [q, nI_lt q (by omega)]
    · simp [q, nI_nlt (Nat.le_of_not_lt q) (by omega)]
  have e3 : decide (nI (en l k) = nI 17) = decide (en l k = 17) := by
    by_cases q : en l k = 17
    · simp [q]
    · simp [q, nI_ne q (by omega) (by decide)]
  simp only [tlc, lon, h.1.2, h1, h2.1, e2, e3]
  cases on l <;> simp [bI_0]
theorem telV_le (hg : Nat) (on : Nat → Bool) (en : Nat → Nat → Nat) (k : Nat) : telV hg on en k ≤ hg := topN_le _ _
theorem telV_on {hg : Nat} {on : Nat → Bool} {en : Nat → Nat → Nat} {k t : Nat} (h : telV hg on en k = t + 1) : on t = true ∧ en t k ≠ 17 := by
  have : ∀ n, topN (fun l => on l && !decide (en l k = 17)) n = t + 1 → on t = true ∧ en t k ≠ 17 := by
    intro n
    induction n with
    | zero => intro h; cases h
    | succ n ih =>
      intro h
      unfold topN at h
      split at h
      · rename_i hp
        have e : n = t := by omega
        subst e
        simpa using hp
      · exact ih h
  exact this hg h
theorem valV_le {hg : Nat} {on : Nat → Bool} {en : Nat → Nat → Nat} (h4 : hg ≤ 4) {k : Nat} (he : ∀ l, l < 4 → en l k ≤ 17) : valV hg on en k ≤ 16 := by
  unfold valV
  split
  · omega
  · rename_i h
    have h1 := telV_le hg on en k
    have h2 := (telV_on (t := telV hg on en k - 1) (show telV hg on en k = telV hg on en k - 1 + 1 by omega)).2
    have := he (telV hg on en k - 1) (by omega)
    omega
theorem PV.val {I : IM} {a hg : Nat} {on : Nat → Bool} {en : Nat → Nat → Nat} (h : PV I a hg on en) {k : Nat} (hk : k < 16) : valV hg on en k ≤ 16 := valV_le h.1.1 (fun l hl => (h.2.2 l hl k hk).2)
theorem PS.rv {I : IM} {a hg : Nat} {on : Nat → Bool} {en : Nat → Nat → Nat} (h : PS I a hg on en) : RV (I (a + 7)) (valV hg on en) := fun k hk => ⟨h.2 k hk, h.1.val hk⟩
def sumN (f : Nat → Nat) : Nat → Nat
  | 0 => 0
  | n + 1 => sumN f n + f n
theorem sumN_congr {f g : Nat → Nat} : ∀ {n : Nat}, (∀ k, k < n → f k = g k) → sumN f n = sumN g n
  | 0, _ => rfl
  | n + 1, h => by
    unfold sumN
    rw [sumN_congr (n := n) (fun k hk => h k (by omega)), h n (by omega)]
def shV (hg : Nat) (on : Nat → Bool) (en : Nat → Nat → Nat) (la : Nat) : Nat := cnt (fun k => on la && !decide (en la k = 17) && decide (la + 1 < telV hg on en k)) 16
def enV (en : Nat → Nat → Nat) (la : Nat) : Nat := cnt (fun k => !decide (en la k = 17)) 16
def swF {α : Type} (f : Nat → α) (i : Nat) : Nat → α := fun l => if l = i then f (i + 1) else if l = i + 1 then f i else f l
def upF {α : Type} (f : Nat → α) (i : Nat) (x : α) : Nat → α := fun l => if l = i then x else f l
/-- n steps upwards from la, downwards from la + n -/
def mvU {α : Type} (f : Nat → α) (la : Nat) : Nat → Nat → α
  | 0 => f
  | n + 1 => swF (mvU f la n) (la + n)
def mvD {α : Type} (f : Nat → α) (la : Nat) : Nat → Nat → α
  | 0 => f
  | n + 1 => swF (mvD f la n) (la - n - 1)
theorem ct_re {l : Launch} {D : va_G} {A : Nat → Prop} {y : MethodName} {cc : ByteArray} {maxL : Nat} {ty : FieldType} {d N : Nat} {Sh : SM} {I : IM} {J : JM} {av : List Value} {q q' : Int32 → Prop} (h : CtP l D A y cc maxL ty d N Sh I J av q) (hq : ∀ r, q r → q' r) : CtP l D A y cc maxL ty d N Sh I J av q' := CtI.post h (fun r I' J' x => ⟨hq r x.1, x.2⟩)
theorem e17 {e : Nat} (h : e ≤ 17) (c : Nat) (hc : c < 2 ^ 31) : decide (nI e = nI c) = decide (e = c) := by
  by_cases q : e = c
  · simp [q]
  · simp [q, nI_ne q (by omega) hc]
theorem vX0_entriesIn {l : Launch} {D : va_G} {A : Nat → Prop} {N : Nat} {Sh : SM} {J : JM} (I : IM) {a : Nat} (hP : PL Sh J a) {hg : Nat} {on : Nat → Bool} {en : Nat → Nat → Nat} (hV : PV I a hg on en) {la : Nat} (hla : la < 4) : CtP l D A yX0_entriesIn cX0_entriesIn 4 FieldType.int 0 N Sh I J [.ref a, .int (nI la)] (fun r => r = nI (enV en la)) :=
  ct_re (tX0_entriesIn I hP hla) (fun r h => h.trans (congrArg nI (cnt_congr (fun k hk => by rw [(hV.2.2 la hla k hk).1, e17 (hV.2.2 la hla k hk).2 17 (by decide)]))))
theorem vX0_nowhereIn {l : Launch} {D : va_G} {A : Nat → Prop} {N : Nat} {Sh : SM} {J : JM} (I : IM) {a : Nat} (hP : PL Sh J a) {hg : Nat} {on : Nat → Bool} {en : Nat → Nat → Nat} (hV : PV I a hg on en) {la : Nat} (hla : la < 4) : CtP l D A yX0_nowhereIn cX0_nowhereIn 4 FieldType.int 0 N Sh I J [.ref a, .int (nI la)] (fun r => r = nI (cnt (fun k => decide (en la k = 16)) 16)) :=
  ct_re (tX0_nowhereIn I hP hla) (fun r h => h.trans (congrArg nI (cnt_congr (fun k hk => by rw [(hV.2.2 la hla k hk).1, e17 (hV.2.2 la hla k hk).2 16 (by decide)]))))
theorem vX0_tellingLayer {l : Launch} {D : va_G} {A : Nat → Prop} {N : Nat} {Sh : SM} {J : JM} (I : IM) {a : Nat} (hP : PL Sh J a) {hg : Nat} {on : Nat → Bool} {en : Nat → Nat → Nat} (hV : PV I a hg on en) {k : Nat} (hk : k < 16) : CtP l D A yX0_tellingLayer cX0_tellingLayer 3 FieldType.int 0 N Sh I J [.ref a, .int (nI k)] (fun r => r = nI (telV hg on en k) + Int32.ofInt (-1)) :=
  ct_re (tX0_tellingLayer I hP hk) (fun r h => h.trans (telC_V hV hk))
theorem m1_le {t la : Nat} (ht : t < 2 ^ 30) (hl : la < 2 ^ 30) : nI t + Int32.ofInt (-1) ≤ nI la ↔ t ≤ la + 1 := by
  cases t with
  | zero =>
    have h1 : (nI 0 + Int32.ofInt (-1) : Int32).toInt = -1 := by decide
    have h2 : (nI la).toInt = la := nI_toInt (by omega)
    constructor
    · intro _; omega
    · intro _; rw [Int32.le_iff_toInt_le, h1, h2]; omega
  | succ t =>
    rw [dec1]
    constructor
    · intro h
      rcases Nat.lt_or_ge la t with q | q
      · exact absurd h (nI_ge q (by omega))
      · omega
    · intro h
      exact nI_le (by omega) (by omega)
theorem nI_m1 {t : Nat} (h : t < 2 ^ 30) : nI t + Int32.ofInt (-1) = -1 ↔ t = 0 := by
  cases t with
  | zero => decide
  | succ t => rw [dec1]; constructor
              · intro e
                have := congrArg Int32.toInt e
                rw [nI_toInt (by omega)] at this
                have h2 : (-1 : Int32).toInt = -1 := by decide
                omega
              · intro e; cases e
set_option maxHeartbeats 4000000 in
set_option maxRecDepth 100000 in
theorem tX0_layersOn {l : Launch} {D : va_G} {A : Nat → Prop} {N : Nat} {Sh : SM} {J : JM} (I : IM) {a : Nat} (hP : PL Sh J a) {hg : Nat} {on : Nat → Bool} {en : Nat → Nat → Nat} (hV : PV I a hg on en) : CtP l D A yX0_layersOn cX0_layersOn 3 FieldType.int 0 N Sh I J [.ref a] (fun r => r = nI (cnt on hg)) := by
  refine ct_I (l0 := [(0, .ref a)]) (by decide +kernel) (Nat.le_of_ble_eq_true rfl) rfl (fun _ _ _ _ => rfl) ?_
  intro X hX hret _ _ _
  have hX : XK X RX0 cX0_layersOn 3 0 := hX
  obtain ⟨h0, hj0, hj1, hj2, hr, hrow, hz, hv7⟩ := id hP
  have hg4 := hV.1.1
  have lp : ∀ (n i : Nat) (x : Int32), i + n = hg → (x = nI (cnt on i)) → WX X 0 0 N Sh I J 4 [(0, .ref a), (1, .int x), (2, .int (nI i))] [] := by
    intro n
    induction n with
    | zero =>
      intro i x hi ex
      obtain rfl : hg = i := by omega
      refine wa_iload_n hX dX0_layersOn_4 rfl ?_
      refine wa_aload_n hX dX0_layersOn_5 rfl ?_
      refine wa_getI hX fX0_24 rfl (by assumption) dX0_layersOn_6 ?_
      rw [hV.1.2]
      refine wa_icmp_ge (tgt := 35) hX dX0_layersOn_9 (by decide) (fun c_9 => ?_) (fun c_9 => absurd (Int32.le_refl _) c_9)
      refine wa_iload_n hX dX0_layersOn_35 rfl ?_
      exact hret _ _ _ _ _ ⟨ex, rfl, rfl⟩ dX0_layersOn_36
    | succ n ih =>
      intro i x hi ex
      have hlt : i < hg := by omega
      refine wa_iload_n hX dX0_layersOn_4 rfl ?_
      refine wa_aload_n hX dX0_layersOn_5 rfl ?_
      refine wa_getI hX fX0_24 rfl (by assumption) dX0_layersOn_6 ?_
      rw [hV.1.2]
      refine wa_icmp_ge (tgt := 35) hX dX0_layersOn_9 (by decide) (fun c_9 => absurd c_9 (nI_ge hlt (by omega))) (fun c_9 => ?_)
      refine wa_iload_n hX dX0_layersOn_12 rfl ?_
      refine wa_iconst (v := nI 4) hX dX0_layersOn_13 (by decide) ?_
      refine wa_icmp_ge (tgt := 35) hX dX0_layersOn_14 (by decide) (fun c_14 => absurd c_14 (nI_ge (show i < 4 by omega) (by decide))) (fun c_14 => ?_)
      refine wa_aload_n hX dX0_layersOn_17 rfl ?_
      refine wa_getR hX fX0_16 rfl (by assumption) (by assumption) dX0_layersOn_18 ?_
      refine wa_iload_n hX dX0_layersOn_21 rfl ?_
      refine wa_zald hX (by assumption) rfl (show i < 4 by omega) (by decide) dX0_layersOn_22 ?_
      rw [hV.2.1 i (by omega)]
      refine wa_if_eq (tgt := 29) hX dX0_layersOn_23 (by decide) (fun c_23 => ?_) (fun c_23 => ?_)
      · skip
        have c1 := bI_0.mp c_23
        refine wa_iinc hX dX0_layersOn_29 rfl (inc1 _) (by decide) ?_
        refine wa_goto (tgt := 4) hX dX0_layersOn_32 (by decide) ?_
        refine wx_sub (l' := [(0, _), (1, _), (2, _)]) ⟨rfl, rfl, rfl, trivial⟩ ?_
        exact ih (i + 1) _ (by omega) (by rw [ex]; exact cnt_if c1)
      · skip
        have c1 := bI_n0.mp c_23
        refine wa_iinc hX dX0_layersOn_26 rfl rfl (by decide) ?_
        refine wa_iinc hX dX0_layersOn_29 rfl (inc1 _) (by decide) ?_
        refine wa_goto (tgt := 4) hX dX0_layersOn_32 (by decide) ?_
        refine wx_sub (l' := [(0, _), (1, _), (2, _)]) ⟨rfl, rfl, rfl, trivial⟩ ?_
        exact ih (i + 1) _ (by omega) (by rw [ex]; exact cnt_it c1)
  refine wa_iconst (v := nI 0) hX dX0_layersOn_0 (by decide) ?_
  refine wa_istore_n hX dX0_layersOn_1 (by decide) ?_
  refine wa_iconst (v := nI 0) hX dX0_layersOn_2 (by decide) ?_
  refine wa_istore_n hX dX0_layersOn_3 (by decide) ?_
  exact lp hg 0 _ (by omega) rfl

set_option maxHeartbeats 4000000 in
set_option maxRecDepth 100000 in
theorem tX0_allEntries {l : Launch} {D : va_G} {A : Nat → Prop} {N : Nat} {Sh : SM} {J : JM} (I : IM) {a : Nat} (hP : PL Sh J a) {hg : Nat} {on : Nat → Bool} {en : Nat → Nat → Nat} (hV : PV I a hg on en) : CtP l D A yX0_allEntries cX0_allEntries 3 FieldType.int 1 N Sh I J [.ref a] (fun r => r = nI (sumN (enV en) hg)) := by
  refine ct_I (l0 := [(0, .ref a)]) (by decide +kernel) (Nat.le_of_ble_eq_true rfl) rfl (fun _ _ _ _ => rfl) ?_
  intro X hX hret _ _ _
  have hX : XK X RX0 cX0_allEntries 3 1 := hX
  obtain ⟨h0, hj0, hj1, hj2, hr, hrow, hz, hv7⟩ := id hP
  have hg4 := hV.1.1
  have lp : ∀ (n i : Nat) (x : Int32), i + n = hg → (x = nI (sumN (enV en) i)) → WX X 0 0 N Sh I J 4 [(0, .ref a), (1, .int x), (2, .int (nI i))] [] := by
    intro n
    induction n with
    | zero =>
      intro i x hi ex
      obtain rfl : hg = i := by omega
      refine wa_iload_n hX dX0_allEntries_4 rfl ?_
      refine wa_aload_n hX dX0_allEntries_5 rfl ?_
      refine wa_getI hX fX0_24 rfl (by assumption) dX0_allEntries_6 ?_
      rw [hV.1.2]
      refine wa_icmp_ge (tgt := 31) hX dX0_allEntries_9 (by decide) (fun c_9 => ?_) (fun c_9 => absurd (Int32.le_refl _) c_9)
      refine wa_iload_n hX dX0_allEntries_31 rfl ?_
      exact hret _ _ _ _ _ ⟨ex, rfl, rfl⟩ dX0_allEntries_32
    | succ n ih =>
      intro i x hi ex
      have hlt : i < hg := by omega
      refine wa_iload_n hX dX0_allEntries_4 rfl ?_
      refine wa_aload_n hX dX0_allEntries_5 rfl ?_
      refine wa_getI hX fX0_24 rfl (by assumption) dX0_allEntries_6 ?_
      rw [hV.1.2]
      refine wa_icmp_ge (tgt := 31) hX dX0_allEntries_9 (by decide) (fun c_9 => absurd c_9 (nI_ge hlt (by omega))) (fun c_9 => ?_)
      refine wa_iload_n hX dX0_allEntries_12 rfl ?_
      refine wa_iconst (v := nI 4) hX dX0_allEntries_13 (by decide) ?_
      refine wa_icmp_ge (tgt := 31) hX dX0_allEntries_14 (by decide) (fun c_14 => absurd c_14 (nI_ge (show i < 4 by omega) (by decide))) (fun c_14 => ?_)
      refine wa_iload_n hX dX0_allEntries_17 rfl ?_
      refine wa_aload_n hX dX0_allEntries_18 rfl ?_
      refine wa_iload_n hX dX0_allEntries_19 rfl ?_
      refine wa_vP hX (vX0_entriesIn I hP hV (show i < 4 by omega)) bX0_entriesIn mX0_48 (by decide) (by decide) (ci := 0) ⟨by decide, rfl⟩ (by assumption) rfl rfl (Nat.le_of_ble_eq_true rfl) dX0_allEntries_20 (fun r_20 q_20 => ?_)
      refine wa_iadd hX dX0_allEntries_23 ?_
      refine wa_istore_n hX dX0_allEntries_24 (by decide) ?_
      refine wa_iinc hX dX0_allEntries_25 rfl (inc1 _) (by decide) ?_
      refine wa_goto (tgt := 4) hX dX0_allEntries_28 (by decide) ?_
      refine wx_sub (l' := [(0, _), (1, _), (2, _)]) ⟨rfl, rfl, rfl, trivial⟩ ?_
      exact ih (i + 1) _ (by omega) (by rw [ex, q_20, nI_add]; rfl)
  refine wa_iconst (v := nI 0) hX dX0_allEntries_0 (by decide) ?_
  refine wa_istore_n hX dX0_allEntries_1 (by decide) ?_
  refine wa_iconst (v := nI 0) hX dX0_allEntries_2 (by decide) ?_
  refine wa_istore_n hX dX0_allEntries_3 (by decide) ?_
  exact lp hg 0 _ (by omega) rfl

set_option maxHeartbeats 4000000 in
set_option maxRecDepth 100000 in
theorem tX0_shadowedIn {l : Launch} {D : va_G} {A : Nat → Prop} {N : Nat} {Sh : SM} {J : JM} (I : IM) {a : Nat} (hP : PL Sh J a) {hg : Nat} {on : Nat → Bool} {en : Nat → Nat → Nat} (hV : PV I a hg on en) {la : Nat} (hla : la < 4) : CtP l D A yX0_shadowedIn cX0_shadowedIn 4 FieldType.int 1 N Sh I J [.ref a, .int (nI la)] (fun r => r = nI (shV hg on en la)) := by
  refine ct_I (l0 := [(0, .ref a), (1, .int (nI la))]) (by decide +kernel) (Nat.le_of_ble_eq_true rfl) rfl (fun _ _ _ _ => rfl) ?_
  intro X hX hret _ _ _
  have hX : XK X RX0 cX0_shadowedIn 4 1 := hX
  obtain ⟨h0, hj0, hj1, hj2, hr, hrow, hz, hv7⟩ := id hP
  have hg4 := hV.1.1
  have lp : ∀ (n i : Nat) (x : Int32), i + n = 16 → (x = nI (cnt (fun k => on la && !decide (en la k = 17) && decide (la + 1 < telV hg on en k)) i)) → WX X 0 0 N Sh I J 4 [(0, .ref a), (1, .int (nI la)), (2, .int x), (3, .int (nI i))] [] := by
    intro n
    induction n with
    | zero =>
      intro i x hi ex
      obtain rfl : 16 = i := by omega
      refine wa_iload_n hX dX0_shadowedIn_4 rfl ?_
      refine wa_bipush (v := nI 16) hX dX0_shadowedIn_5 (by decide) ?_
      refine wa_icmp_ge (tgt := 50) hX dX0_shadowedIn_7 (by decide) (fun c_7 => ?_) (fun c_7 => absurd (Int32.le_refl _) c_7)
      refine wa_iload_n hX dX0_shadowedIn_50 rfl ?_
      exact hret _ _ _ _ _ ⟨ex, rfl, rfl⟩ dX0_shadowedIn_51
    | succ n ih =>
      intro i x hi ex
      have hlt : i < 16 := by omega
      refine wa_iload_n hX dX0_shadowedIn_4 rfl ?_
      refine wa_bipush (v := nI 16) hX dX0_shadowedIn_5 (by decide) ?_
      refine wa_icmp_ge (tgt := 50) hX dX0_shadowedIn_7 (by decide) (fun c_7 => absurd c_7 (nI_ge hlt (by decide))) (fun c_7 => ?_)
      refine wa_aload_n hX dX0_shadowedIn_10 rfl ?_
      refine wa_getR hX fX0_16 rfl (by assumption) (by assumption) dX0_shadowedIn_11 ?_
      refine wa_iload_n hX dX0_shadowedIn_14 rfl ?_
      refine wa_zald hX (by assumption) rfl hla (by decide) dX0_shadowedIn_15 ?_
      rw [hV.2.1 la hla]
      refine wa_if_eq (tgt := 44) hX dX0_shadowedIn_16 (by decide) (fun c_16 => ?_) (fun c_16 => ?_)
      · skip
        have c1 := bI_0.mp c_16
        refine wa_iinc hX dX0_shadowedIn_44 rfl (inc1 _) (by decide) ?_
        refine wa_goto (tgt := 4) hX dX0_shadowedIn_47 (by decide) ?_
        refine wx_sub (l' := [(0, _), (1, _), (2, _), (3, _)]) ⟨rfl, rfl, rfl, rfl, trivial⟩ ?_
        exact ih (i + 1) _ (by omega) (by rw [ex]; exact cnt_if (by simp [c1]))
      · skip
        have c1 := bI_n0.mp c_16
        refine wa_aload_n hX dX0_shadowedIn_19 rfl ?_
        refine wa_getR hX fX0_11 rfl (by assumption) (by assumption) dX0_shadowedIn_20 ?_
        refine wa_iload_n hX dX0_shadowedIn_23 rfl ?_
        refine wa_aald hX (by assumption) rfl hla (by decide) (hrow la hla).1 dX0_shadowedIn_24 ?_
        refine wa_iload_n hX dX0_shadowedIn_25 rfl ?_
        refine wa_iald hX (hrow la hla).2 rfl (by first | assumption | omega) (by decide) dX0_shadowedIn_26 ?_
        rw [(hV.2.2 la hla i hlt).1]
        refine wa_bipush (v := nI 17) hX dX0_shadowedIn_27 (by decide) ?_
        refine wa_icmp_eq (tgt := 44) hX dX0_shadowedIn_29 (by decide) (fun c_29 => ?_) (fun c_29 => ?_)
        · skip
          have c2 := eq_of_nI c_29 (by have := (hV.2.2 la hla i hlt).2; omega) (by decide)
          refine wa_iinc hX dX0_shadowedIn_44 rfl (inc1 _) (by decide) ?_
          refine wa_goto (tgt := 4) hX dX0_shadowedIn_47 (by decide) ?_
          refine wx_sub (l' := [(0, _), (1, _), (2, _), (3, _)]) ⟨rfl, rfl, rfl, rfl, trivial⟩ ?_
          exact ih (i + 1) _ (by omega) (by rw [ex]; exact cnt_if (by simp [c2]))
        · skip
          have c2 := ne_of_nI c_29
          refine wa_aload_n hX dX0_shadowedIn_32 rfl ?_
          refine wa_iload_n hX dX0_shadowedIn_33 rfl ?_
          refine wa_vP hX (vX0_tellingLayer I hP hV hlt) bX0_tellingLayer mX0_40 (by decide) (by decide) (ci := 0) ⟨by decide, rfl⟩ (by assumption) rfl rfl (Nat.le_of_ble_eq_true rfl) dX0_shadowedIn_34 (fun r_34 q_34 => ?_)
          have ht := telV_le hg on en i
          subst q_34
          refine wa_iload_n hX dX0_shadowedIn_37 rfl ?_
          refine wa_icmp_le (tgt := 44) hX dX0_shadowedIn_38 (by decide) (fun c_38 => ?_) (fun c_38 => ?_)
          · skip
            have c3 : ¬ la + 1 < telV hg on en i := by have := (m1_le (by omega) (by omega)).mp c_38; omega
            refine wa_iinc hX dX0_shadowedIn_44 rfl (inc1 _) (by decide) ?_
            refine wa_goto (tgt := 4) hX dX0_shadowedIn_47 (by decide) ?_
            refine wx_sub (l' := [(0, _), (1, _), (2, _), (3, _)]) ⟨rfl, rfl, rfl, rfl, trivial⟩ ?_
            exact ih (i + 1) _ (by omega) (by rw [ex]; exact cnt_if (by simp [c3]))
          · skip
            have c3 : la + 1 < telV hg on en i := by
              rcases Nat.lt_or_ge (la + 1) (telV hg on en i) with q | q
              · exact q
              · exact absurd ((m1_le (by omega) (by omega)).mpr q) c_38
            refine wa_iinc hX dX0_shadowedIn_41 rfl rfl (by decide) ?_
            refine wa_iinc hX dX0_shadowedIn_44 rfl (inc1 _) (by decide) ?_
            refine wa_goto (tgt := 4) hX dX0_shadowedIn_47 (by decide) ?_
            refine wx_sub (l' := [(0, _), (1, _), (2, _), (3, _)]) ⟨rfl, rfl, rfl, rfl, trivial⟩ ?_
            exact ih (i + 1) _ (by omega) (by rw [ex]; exact cnt_it (by simp [c1, c2, c3]))
  refine wa_iconst (v := nI 0) hX dX0_shadowedIn_0 (by decide) ?_
  refine wa_istore_n hX dX0_shadowedIn_1 (by decide) ?_
  refine wa_iconst (v := nI 0) hX dX0_shadowedIn_2 (by decide) ?_
  refine wa_istore_n hX dX0_shadowedIn_3 (by decide) ?_
  exact lp 16 0 _ (by omega) rfl

set_option maxHeartbeats 4000000 in
set_option maxRecDepth 100000 in
theorem tX0_shadowed {l : Launch} {D : va_G} {A : Nat → Prop} {N : Nat} {Sh : SM} {J : JM} (I : IM) {a : Nat} (hP : PL Sh J a) {hg : Nat} {on : Nat → Bool} {en : Nat → Nat → Nat} (hV : PV I a hg on en) : CtP l D A yX0_shadowed cX0_shadowed 3 FieldType.int 2 N Sh I J [.ref a] (fun r => r = nI (sumN (shV hg on en) hg)) := by
  refine ct_I (l0 := [(0, .ref a)]) (by decide +kernel) (Nat.le_of_ble_eq_true rfl) rfl (fun _ _ _ _ => rfl) ?_
  intro X hX hret _ _ _
  have hX : XK X RX0 cX0_shadowed 3 2 := hX
  obtain ⟨h0, hj0, hj1, hj2, hr, hrow, hz, hv7⟩ := id hP
  have hg4 := hV.1.1
  have lp : ∀ (n i : Nat) (x : Int32), i + n = hg → (x = nI (sumN (shV hg on en) i)) → WX X 0 0 N Sh I J 4 [(0, .ref a), (1, .int x), (2, .int (nI i))] [] := by
    intro n
    induction n with
    | zero =>
      intro i x hi ex
      obtain rfl : hg = i := by omega
      refine wa_iload_n hX dX0_shadowed_4 rfl ?_
      refine wa_aload_n hX dX0_shadowed_5 rfl ?_
      refine wa_getI hX fX0_24 rfl (by assumption) dX0_shadowed_6 ?_
      rw [hV.1.2]
      refine wa_icmp_ge (tgt := 31) hX dX0_shadowed_9 (by decide) (fun c_9 => ?_) (fun c_9 => absurd (Int32.le_refl _) c_9)
      refine wa_iload_n hX dX0_shadowed_31 rfl ?_
      exact hret _ _ _ _ _ ⟨ex, rfl, rfl⟩ dX0_shadowed_32
    | succ n ih =>
      intro i x hi ex
      have hlt : i < hg := by omega
      refine wa_iload_n hX dX0_shadowed_4 rfl ?_
      refine wa_aload_n hX dX0_shadowed_5 rfl ?_
      refine wa_getI hX fX0_24 rfl (by assumption) dX0_shadowed_6 ?_
      rw [hV.1.2]
      refine wa_icmp_ge (tgt := 31) hX dX0_shadowed_9 (by decide) (fun c_9 => absurd c_9 (nI_ge hlt (by omega))) (fun c_9 => ?_)
      refine wa_iload_n hX dX0_shadowed_12 rfl ?_
      refine wa_iconst (v := nI 4) hX dX0_shadowed_13 (by decide) ?_
      refine wa_icmp_ge (tgt := 31) hX dX0_shadowed_14 (by decide) (fun c_14 => absurd c_14 (nI_ge (show i < 4 by omega) (by decide))) (fun c_14 => ?_)
      refine wa_iload_n hX dX0_shadowed_17 rfl ?_
      refine wa_aload_n hX dX0_shadowed_18 rfl ?_
      refine wa_iload_n hX dX0_shadowed_19 rfl ?_
      refine wa_vP hX (tX0_shadowedIn I hP hV (show i < 4 by omega)) bX0_shadowedIn mX0_58 (by decide) (by decide) (ci := 0) ⟨by decide, rfl⟩ (by assumption) rfl rfl (Nat.le_of_ble_eq_true rfl) dX0_shadowed_20 (fun r_20 q_20 => ?_)
      refine wa_iadd hX dX0_shadowed_23 ?_
      refine wa_istore_n hX dX0_shadowed_24 (by decide) ?_
      refine wa_iinc hX dX0_shadowed_25 rfl (inc1 _) (by decide) ?_
      refine wa_goto (tgt := 4) hX dX0_shadowed_28 (by decide) ?_
      refine wx_sub (l' := [(0, _), (1, _), (2, _)]) ⟨rfl, rfl, rfl, trivial⟩ ?_
      exact ih (i + 1) _ (by omega) (by rw [ex, q_20, nI_add]; rfl)
  refine wa_iconst (v := nI 0) hX dX0_shadowed_0 (by decide) ?_
  refine wa_istore_n hX dX0_shadowed_1 (by decide) ?_
  refine wa_iconst (v := nI 0) hX dX0_shadowed_2 (by decide) ?_
  refine wa_istore_n hX dX0_shadowed_3 (by decide) ?_
  exact lp hg 0 _ (by omega) rfl

def flatV (hg : Nat) (on : Nat → Bool) (en : Nat → Nat → Nat) : Bool := decide (hg = 0) || (decide (hg = 1) && on 0 && decide (cnt (fun k => decide (en 0 k = 16)) 16 = 0))
set_option maxHeartbeats 4000000 in
set_option maxRecDepth 100000 in
theorem tX0_isFlat {l : Launch} {D : va_G} {A : Nat → Prop} {N : Nat} {Sh : SM} {J : JM} (I : IM) {a : Nat} (hP : PL Sh J a) {hg : Nat} {on : Nat → Bool} {en : Nat → Nat → Nat} (hV : PV I a hg on en) : CtP l D A yX0_isFlat cX0_isFlat 1 FieldType.boolean 1 N Sh I J [.ref a] (fun r => r = bI (flatV hg on en)) := by
  refine ct_I (l0 := [(0, .ref a)]) (by decide +kernel) (Nat.le_of_ble_eq_true rfl) rfl (fun _ _ _ h => by obtain ⟨rfl, _⟩ := h; exact nar_B _) ?_
  intro X hX hret _ _ _
  have hX : XK X RX0 cX0_isFlat 1 1 := hX
  obtain ⟨h0, hj0, hj1, hj2, hr, hrow, hz, hv7⟩ := id hP
  have hg4 := hV.1.1
  refine wa_aload_n hX dX0_isFlat_0 rfl ?_
  refine wa_getI hX fX0_24 rfl (by assumption) dX0_isFlat_1 ?_
  rw [hV.1.2]
  refine wa_if_eq (tgt := 32) hX dX0_isFlat_4 (by decide) (fun c_4 => ?_) (fun c_4 => ?_)
  · skip
    have c1 : hg = 0 := eq_of_nI c_4 (by omega) (by decide)
    refine wa_iconst (v := nI 1) hX dX0_isFlat_32 (by decide) ?_
    refine wa_goto (tgt := 37) hX dX0_isFlat_33 (by decide) ?_
    exact hret _ _ _ _ _ ⟨(by simp [flatV, c1, bI]), rfl, rfl⟩ dX0_isFlat_37
  · skip
    have c1 : hg ≠ 0 := fun e => c_4 (by rw [e]; rfl)
    refine wa_aload_n hX dX0_isFlat_7 rfl ?_
    refine wa_getI hX fX0_24 rfl (by assumption) dX0_isFlat_8 ?_
    rw [hV.1.2]
    refine wa_iconst (v := nI 1) hX dX0_isFlat_11 (by decide) ?_
    refine wa_icmp_ne (tgt := 36) hX dX0_isFlat_12 (by decide) (fun c_12 => ?_) (fun c_12 => ?_)
    · skip
      have c2 := ne_of_nI c_12
      refine wa_iconst (v := nI 0) hX dX0_isFlat_36 (by decide) ?_
      exact hret _ _ _ _ _ ⟨(by simp [flatV, c1, c2, bI]), rfl, rfl⟩ dX0_isFlat_37
    · skip
      have c2 := eq_of_nI c_12 (by omega) (by decide)
      refine wa_aload_n hX dX0_isFlat_15 rfl ?_
      refine wa_getR hX fX0_16 rfl (by assumption) (by assumption) dX0_isFlat_16 ?_
      refine wa_iconst (v := nI 0) hX dX0_isFlat_19 (by decide) ?_
      refine wa_zald hX (by assumption) rfl (show 0 < 4 by decide) (by decide) dX0_isFlat_20 ?_
      rw [hV.2.1 0 (by decide)]
      refine wa_if_eq (tgt := 36) hX dX0_isFlat_21 (by decide) (fun c_21 => ?_) (fun c_21 => ?_)
      · skip
        have c3 := bI_0.mp c_21
        refine wa_iconst (v := nI 0) hX dX0_isFlat_36 (by decide) ?_
        exact hret _ _ _ _ _ ⟨(by simp [flatV, c1, c3, bI]), rfl, rfl⟩ dX0_isFlat_37
      · skip
        have c3 := bI_n0.mp c_21
        refine wa_aload_n hX dX0_isFlat_24 rfl ?_
        refine wa_iconst (v := nI 0) hX dX0_isFlat_25 (by decide) ?_
        refine wa_vP hX (vX0_nowhereIn I hP hV (show 0 < 4 by decide)) bX0_nowhereIn mX0_55 (by decide) (by decide) (ci := 0) ⟨by decide, rfl⟩ (by assumption) rfl rfl (Nat.le_of_ble_eq_true rfl) dX0_isFlat_26 (fun r_26 q_26 => ?_)
        subst q_26
        refine wa_if_ne (tgt := 36) hX dX0_isFlat_29 (by decide) (fun c_29 => ?_) (fun c_29 => ?_)
        · skip
          have c4 : cnt (fun k => decide (en 0 k = 16)) 16 ≠ 0 := fun e => c_29 (by rw [e]; rfl)
          refine wa_iconst (v := nI 0) hX dX0_isFlat_36 (by decide) ?_
          exact hret _ _ _ _ _ ⟨(by simp [flatV, c1, c4, bI]), rfl, rfl⟩ dX0_isFlat_37
        · skip
          have c4 : cnt (fun k => decide (en 0 k = 16)) 16 = 0 := eq_of_nI c_29 (by have := cnt_le (fun k => decide (en 0 k = 16)) 16; omega) (by decide)
          refine wa_iconst (v := nI 1) hX dX0_isFlat_32 (by decide) ?_
          refine wa_goto (tgt := 37) hX dX0_isFlat_33 (by decide) ?_
          exact hret _ _ _ _ _ ⟨(by simp [flatV, c2, c3, c4, bI]), rfl, rfl⟩ dX0_isFlat_37

