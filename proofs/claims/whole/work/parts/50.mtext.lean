/-! PileMapsModel: signs, keys, the rows of a factor -/
def TQ (I : IM) (Q L : Nat) (ch : Nat → Nat) (p : Nat) : Prop := TM I Q L ch ∧ p ≤ L ∧ I Q 9 = nI p
theorem inR_n {x a b : Nat} (hx : x < 2 ^ 31) (ha : a < 2 ^ 31) (hb : b < 2 ^ 31) : inR (nI x) (nI a) (nI b) = (decide (a ≤ x) && decide (x ≤ b)) := by
  unfold inR
  by_cases h1 : a ≤ x
  · by_cases h2 : x ≤ b
    · rw [decide_eq_true h1, decide_eq_true h2, decide_eq_true (show ¬ nI x < nI a ∧ ¬ nI b < nI x from ⟨nI_nlt h1 hx, nI_nlt h2 hb⟩)]
      rfl
    · rw [decide_eq_true h1, decide_eq_false h2, decide_eq_false (show ¬ (¬ nI x < nI a ∧ ¬ nI b < nI x) from fun e => e.2 (nI_lt (by omega) hx))]
      rfl
  · rw [decide_eq_false h1, decide_eq_false (show ¬ (¬ nI x < nI a ∧ ¬ nI b < nI x) from fun e => e.1 (nI_lt (by omega) ha))]
    rfl
theorem u2_cm {I : IM} {a j k : Nat} {v w : Int32} (h : j ≠ k) : u2 (u2 I a j v) a k w = u2 (u2 I a k w) a j v := by
  funext b x
  by_cases e : b = a
  · subst e
    by_cases e1 : x = k
    · subst e1
      rw [u2_s, u2_k (fun q => h q.symm), u2_s]
    · rw [u2_k e1]
      by_cases e2 : x = j
      · subst e2; rw [u2_s, u2_s]
      · rw [u2_k e2, u2_k e2, u2_k e1]
  · rw [u2_n e, u2_n e, u2_n e, u2_n e]
theorem TQ.mv {I : IM} {Q L : Nat} {ch : Nat → Nat} {p q : Nat} (h : TQ I Q L ch p) (hq : q ≤ L) : TQ (u2 I Q 9 (nI q)) Q L ch q :=
  ⟨⟨⟨h.1.1.1, by rw [u2_k (by decide)]; exact h.1.1.2⟩, fun j hj => by rw [u2_n (by omega)]; exact h.1.2 j hj⟩, hq, u2_s⟩
theorem TQ.key {I : IM} {Q L : Nat} {ch : Nat → Nat} {p q : Nat} {x : Int32} (h : TQ I Q L ch p) (hq : q ≤ L) : TQ (u2 (u2 I Q 10 x) Q 9 (nI q)) Q L ch q :=
  ⟨⟨⟨h.1.1.1, by rw [u2_k (by decide), u2_k (by decide)]; exact h.1.1.2⟩, fun j hj => by rw [u2_n (by omega), u2_n (by omega)]; exact h.1.2 j hj⟩, hq, u2_s⟩
theorem TQ.stay {I : IM} {Q L : Nat} {ch : Nat → Nat} {p : Nat} (h : TQ I Q L ch p) : u2 I Q 9 (nI p) = I := u2_self h.2.2
def kyI (I : IM) (Q : Nat) (e : Option Nat × Nat) : IM := match e.1 with
  | none => I
  | some k => u2 (u2 I Q 10 (nI k)) Q 9 (nI e.2)
/-- the row is worked upon, else nothing changes -/
def CFf (Q : Nat) (I I' : IM) : Prop := ∀ b, b ≠ Q + 7 → b ≠ Q + 12 → I' b = I b
/-- the place is p now; the key and the row may have changed -/
def MQf (Q q : Nat) (I I' : IM) : Prop := I' Q 9 = nI q ∧ (∀ j, j ≠ 9 → j ≠ 10 → I' Q j = I Q j) ∧ ∀ b, b ≠ Q → b ≠ Q + 7 → b ≠ Q + 12 → I' b = I b
theorem MQf.rf {Q q : Nat} {I : IM} (h : I Q 9 = nI q) : MQf Q q I I := ⟨h, fun _ _ _ => rfl, fun _ _ _ _ => rfl⟩
theorem MQf.tr {Q p q : Nat} {I I1 I2 : IM} (h1 : MQf Q p I I1) (h2 : MQf Q q I1 I2) : MQf Q q I I2 := ⟨h2.1, fun j a b => (h2.2.1 j a b).trans (h1.2.1 j a b), fun b a1 a2 a3 => (h2.2.2 b a1 a2 a3).trans (h1.2.2 b a1 a2 a3)⟩
theorem MQf.u {Q q : Nat} {I : IM} : MQf Q q I (u2 I Q 9 (nI q)) := ⟨u2_s, fun j a _ => u2_k a, fun b a _ _ => u2_n a⟩
theorem MQf.ky {Q q : Nat} {I : IM} {x : Int32} : MQf Q q I (u2 (u2 I Q 10 x) Q 9 (nI q)) := ⟨u2_s, fun j a b => by rw [u2_k a, u2_k b], fun b a _ _ => by rw [u2_n a, u2_n a]⟩
theorem MQf.cf {Q p : Nat} {I I1 I2 : IM} (h1 : MQf Q p I I1) (h2 : CFf Q I1 I2) : MQf Q p I I2 := ⟨by rw [h2 Q (by omega) (by omega)]; exact h1.1, fun j a b => by rw [h2 Q (by omega) (by omega)]; exact h1.2.1 j a b, fun b a1 a2 a3 => (h2 b a2 a3).trans (h1.2.2 b a1 a2 a3)⟩
theorem TQ.mq {I I' : IM} {Q L : Nat} {ch : Nat → Nat} {p q : Nat} (h : TQ I Q L ch p) (hF : MQf Q q I I') (hq : q ≤ L) : TQ I' Q L ch q :=
  ⟨⟨⟨h.1.1.1, by rw [hF.2.1 7 (by decide) (by decide)]; exact h.1.1.2⟩, fun j hj => by rw [hF.2.2 (Q + 6) (by omega) (by omega) (by omega)]; exact h.1.2 j hj⟩, hq, hF.1⟩
theorem TQ.cf {I I' : IM} {Q L : Nat} {ch : Nat → Nat} {p : Nat} (h : TQ I Q L ch p) (hF : CFf Q I I') : TQ I' Q L ch p := h.mq ((MQf.rf h.2.2).cf hF) h.2.1
def EMf (Q : Nat) (I : IM) (res : Option RW × Nat) (x : Int32) (I' : IM) : Prop := x = bI res.1.isSome ∧ MQf Q res.2 I I' ∧ ∀ w, res.1 = some w → RV (I' (Q + 7)) w
theorem EMf.n {Q q : Nat} {I I' : IM} {res : Option RW × Nat} (h : res = (none, q)) (hF : MQf Q q I I') : EMf Q I res (nI 0) I' := by
  subst h
  exact ⟨rfl, hF, fun w h => by cases h⟩
theorem EMf.s {Q q : Nat} {I I' : IM} {res : Option RW × Nat} {w : RW} (h : res = (some w, q)) (hF : MQf Q q I I') (hv : RV (I' (Q + 7)) w) : EMf Q I res (nI 1) I' := by
  subst h
  exact ⟨rfl, hF, fun w h => by cases h; exact hv⟩
theorem EMf.f {Q : Nat} {I I' : IM} {res : Option RW × Nat} {x : Int32} (h : EMf Q I res x I') (hx : x = 0) : ∃ q, res = (none, q) ∧ MQf Q q I I' := by
  obtain ⟨h1, h2, h3⟩ := h
  rcases res with ⟨_ | w, q⟩
  · exact ⟨q, rfl, h2⟩
  · exact absurd (show nI 1 = 0 from h1.symm.trans hx) (by decide)
theorem EMf.t {Q : Nat} {I I' : IM} {res : Option RW × Nat} {x : Int32} (h : EMf Q I res x I') (hx : ¬ x = 0) : ∃ w q, res = (some w, q) ∧ MQf Q q I I' ∧ RV (I' (Q + 7)) w := by
  obtain ⟨h1, h2, h3⟩ := h
  rcases res with ⟨_ | w, q⟩
  · exact absurd h1 hx
  · exact ⟨w, q, rfl, h2, h3 w rfl⟩
def loV (v : RW) (k : Nat) : Nat → Nat
  | 0 => 16
  | n + 1 => if v n = k then (if loV v k n = 16 then n else loV v k n) else loV v k n
def hiV (v : RW) (k : Nat) : Nat → Nat
  | 0 => 16
  | n + 1 => if v n = k then n else hiV v k n
def nuV (v : RW) (k n : Nat) : Nat := cnt (fun f => decide (v f = k)) n
theorem nuV_t {v : RW} {k n : Nat} (h : v n = k) : nuV v k (n + 1) = nuV v k n + 1 := cnt_t (decide_eq_true h)
theorem nuV_f {v : RW} {k n : Nat} (h : v n ≠ k) : nuV v k (n + 1) = nuV v k n := cnt_f (decide_eq_false h)
theorem any_nu (v : RW) (k : Nat) : ∀ n, anyB v n k = decide (0 < nuV v k n)
  | 0 => rfl
  | n + 1 => by
    rw [anyB_s, any_nu v k n]
    by_cases e : v n = k
    · rw [nuV_t e, decide_eq_true e, Bool.or_true, decide_eq_true (by omega)]
    · rw [nuV_f e, decide_eq_false e, Bool.or_false]
theorem lo_nu (v : RW) (k : Nat) : ∀ n, n ≤ 16 → (loV v k n = 16 ↔ nuV v k n = 0) ∧ loV v k n ≤ 16
  | 0, _ => ⟨⟨fun _ => rfl, fun _ => rfl⟩, Nat.le_refl _⟩
  | n + 1, h => by
    have ih := lo_nu v k n (by omega)
    by_cases e : v n = k
    · rw [nuV_t e]
      show ((if v n = k then (if loV v k n = 16 then n else loV v k n) else loV v k n) = 16 ↔ _) ∧ (if v n = k then (if loV v k n = 16 then n else loV v k n) else loV v k n) ≤ 16
      rw [if_pos e]
      by_cases e2 : loV v k n = 16
      · rw [if_pos e2]; exact ⟨⟨fun h => by omega, fun h => by omega⟩, by omega⟩
      · rw [if_neg e2]; exact ⟨⟨fun h => absurd h e2, fun h => by omega⟩, ih.2⟩
    · rw [nuV_f e]
      show ((if v n = k then (if loV v k n = 16 then n else loV v k n) else loV v k n) = 16 ↔ _) ∧ (if v n = k then (if loV v k n = 16 then n else loV v k n) else loV v k n) ≤ 16
      rw [if_neg e]
      exact ih
theorem inv_val (v : RW) (R k : Nat) (hR : R ≤ 2) : ∀ n, n ≤ 16 → invS v R n k = if R = 0 ∧ 1 < nuV v k n then 16 else if R = 2 then hiV v k n else loV v k n
  | 0, _ => by
    rw [if_neg (show ¬ (R = 0 ∧ 1 < nuV v k 0) from fun h => absurd (show 1 < 0 from h.2) (by decide))]
    show 16 = if R = 2 then 16 else 16
    split <;> rfl
  | n + 1, h => by
    have ih := inv_val v R k hR n (by omega)
    have hlo := lo_nu v k n (by omega)
    rw [invS_s]
    by_cases e : v n = k
    · rw [if_pos e, nuV_t e, any_nu]
      show _ = if R = 0 ∧ 1 < nuV v k n + 1 then 16 else if R = 2 then (if v n = k then n else hiV v k n) else (if v n = k then (if loV v k n = 16 then n else loV v k n) else loV v k n)
      rw [if_pos e, if_pos e]
      by_cases e2 : R = 2
      · rw [if_pos (Or.inr e2), if_neg (fun h => by omega), if_pos e2]
      · rw [if_neg e2]
        by_cases e3 : nuV v k n = 0
        · rw [if_pos (Or.inl (by rw [e3]; rfl)), if_neg (fun h => by omega), if_pos (hlo.1.mpr e3)]
        · rw [if_neg (fun h => h.elim (fun h => by rw [decide_eq_true (by omega)] at h; cases h) e2)]
          by_cases e4 : R = 0
          · rw [if_pos (by omega), if_pos ⟨e4, by omega⟩]
          · rw [if_neg (by omega), if_neg (fun h => e4 h.1), if_neg (fun h => e3 (hlo.1.mp h)), ih, if_neg (fun h => e4 h.1), if_neg e2]
    · rw [if_neg e, ih, nuV_f e]
      show _ = if R = 0 ∧ 1 < nuV v k n then 16 else if R = 2 then (if v n = k then n else hiV v k n) else (if v n = k then (if loV v k n = 16 then n else loV v k n) else loV v k n)
      rw [if_neg e, if_neg e]
theorem hi_le (v : RW) (k : Nat) : ∀ n, n ≤ 16 → hiV v k n ≤ 16
  | 0, _ => Nat.le_refl _
  | n + 1, h => by
    show (if v n = k then n else hiV v k n) ≤ 16
    split
    · omega
    · exact hi_le v k n (by omega)
set_option maxHeartbeats 4000000 in
set_option maxRecDepth 100000 in
theorem tX7_isSign {l : Launch} {D : va_G} {A : Nat → Prop} {N : Nat} {Sh : SM} {J : JM} (I : IM) {Q : Nat} (hM : MM Sh J Q) {L : Nat} {ch : Nat → Nat} {p : Nat} (hQ : TQ I Q L ch p) {c : Nat} (hc : c < 65536) : CtP l D A yX7_isSign cX7_isSign 2 FieldType.boolean 0 N Sh I J [.ref Q, .int (nI c)] (fun r => r = bI (sg L ch p c)) := by
  refine ct_I (l0 := [(0, .ref Q), (1, .int (nI c))]) (by decide +kernel) (Nat.le_of_ble_eq_true rfl) rfl (fun _ _ _ h => by obtain ⟨rfl, _⟩ := h; exact nar_B _) ?_
  intro X hX hret _ _ _
  have hX : XK X RX7 cX7_isSign 2 0 := hX
  obtain ⟨q0, ⟨qj0, qj1, qj3, qj5, qj6, qj8, qj12, qj13, qj14, qj15, qj16, qj18, qj19⟩, ⟨qs1, qs2, qs3, qs4, qs5, qs6, qs7, qs8, qs9, qs10, qs11, qs12, qs13⟩⟩ := id hM
  obtain ⟨⟨⟨hL, hl2⟩, hch⟩, hp1, hp2⟩ := id hQ
  refine wa_aload_n hX dX7_isSign_0 rfl ?_
  refine wa_getI hX fX7_85 rfl q0 dX7_isSign_1 ?_
  rw [hp2]
  refine wa_aload_n hX dX7_isSign_4 rfl ?_
  refine wa_getI hX fX7_131 rfl q0 dX7_isSign_5 ?_
  rw [hl2]
  refine wa_icmp_ge (tgt := 28) hX dX7_isSign_8 (by decide) (fun c_8 => ?_) (fun c_8 => ?_)
  · skip
    have d1 : L ≤ p := (nI_leI (by omega) (by omega)).mp c_8
    refine wa_iconst (v := nI 0) hX dX7_isSign_28 (by decide) ?_
    exact hret _ _ _ _ _ ⟨(by rw [sg_end d1]; rfl), rfl, rfl⟩ dX7_isSign_29
  · skip
    have d1 : p < L := Nat.lt_of_not_le (fun h => c_8 ((nI_leI (by omega) (by omega)).mpr h))
    refine wa_aload_n hX dX7_isSign_11 rfl ?_
    refine wa_getR hX fX7_25 rfl q0 qj8 dX7_isSign_12 ?_
    refine wa_aload_n hX dX7_isSign_15 rfl ?_
    refine wa_getI hX fX7_85 rfl q0 dX7_isSign_16 ?_
    rw [hp2]
    refine wa_cald hX qs6 rfl (show p < 60 by omega) (by decide) dX7_isSign_19 ?_
    rw [(hch p d1).1]
    refine wa_iload_n hX dX7_isSign_20 rfl ?_
    refine wa_icmp_ne (tgt := 28) hX dX7_isSign_21 (by decide) (fun c_21 => ?_) (fun c_21 => ?_)
    · skip
      have d2 : sg L ch p c = false := sg_f (fun e => c_21 (by rw [e.2]))
      refine wa_iconst (v := nI 0) hX dX7_isSign_28 (by decide) ?_
      exact hret _ _ _ _ _ ⟨(by rw [d2]; rfl), rfl, rfl⟩ dX7_isSign_29
    · skip
      have d2 : sg L ch p c = true := sg_t.mpr ⟨d1, eq_of_nI c_21 (by have := (hch p d1).2; omega) (by omega)⟩
      refine wa_iconst (v := nI 1) hX dX7_isSign_24 (by decide) ?_
      refine wa_goto (tgt := 29) hX dX7_isSign_25 (by decide) ?_
      exact hret _ _ _ _ _ ⟨(by rw [d2]; rfl), rfl, rfl⟩ dX7_isSign_29

set_option maxHeartbeats 4000000 in
set_option maxRecDepth 100000 in
theorem tX7_takes {l : Launch} {D : va_G} {A : Nat → Prop} {N : Nat} {Sh : SM} {J : JM} (I : IM) {Q : Nat} (hM : MM Sh J Q) {L : Nat} {ch : Nat → Nat} {p : Nat} (hQ : TQ I Q L ch p) {c : Nat} (hc : c < 65536) : CtM l D A yX7_takes cX7_takes 2 FieldType.boolean 1 N Sh I J [.ref Q, .int (nI c)] (fun r I' => r = bI (sg L ch p c) ∧ I' = u2 I Q 9 (nI (adv (sg L ch p c) p))) := by
  refine ct_I (l0 := [(0, .ref Q), (1, .int (nI c))]) (by decide +kernel) (Nat.le_of_ble_eq_true rfl) rfl (fun _ _ _ h => by obtain ⟨⟨rfl, _⟩, _⟩ := h; exact nar_B _) ?_
  intro X hX hret _ _ _
  have hX : XK X RX7 cX7_takes 2 1 := hX
  obtain ⟨q0, ⟨qj0, qj1, qj3, qj5, qj6, qj8, qj12, qj13, qj14, qj15, qj16, qj18, qj19⟩, ⟨qs1, qs2, qs3, qs4, qs5, qs6, qs7, qs8, qs9, qs10, qs11, qs12, qs13⟩⟩ := id hM
  obtain ⟨⟨⟨hL, hl2⟩, hch⟩, hp1, hp2⟩ := id hQ
  refine wa_aload_n hX dX7_takes_0 rfl ?_
  refine wa_iload_n hX dX7_takes_1 rfl ?_
  refine wa_vP hX (tX7_isSign I hM hQ hc) bX7_isSign mX7_134 (by decide) (by decide) (ci := 6) ⟨by decide, rfl⟩ q0 rfl rfl (Nat.le_of_ble_eq_true rfl) dX7_takes_2 (fun r_2 q_2 => ?_)
  subst q_2
  refine wa_if_ne (tgt := 10) hX dX7_takes_5 (by decide) (fun c_5 => ?_) (fun c_5 => ?_)
  · skip
    have n1 := bI_n0.mp c_5
    refine wa_aload_n hX dX7_takes_10 rfl ?_
    refine wa_dup hX dX7_takes_11 rfl ?_
    refine wa_getI hX fX7_85 rfl q0 dX7_takes_12 ?_
    rw [hp2]
    refine wa_iconst (v := nI 1) hX dX7_takes_15 (by decide) ?_
    refine wa_iadd hX dX7_takes_16 ?_
    rw [show nI p + nI 1 = nI (p + 1) from nI_add _ 1]
    refine wa_putI hX fX7_85 rfl rfl ⟨rfl, rfl⟩ q0 dX7_takes_17 ?_
    refine wa_iconst (v := nI 1) hX dX7_takes_20 (by decide) ?_
    refine hret _ _ _ _ _ ⟨⟨by rw [n1]; rfl, ?_⟩, rfl⟩ dX7_takes_21
    rw [n1]
    rfl
  · skip
    have n1 := bI_0.mp c_5
    refine wa_iconst (v := nI 0) hX dX7_takes_8 (by decide) ?_
    refine hret _ _ _ _ _ ⟨⟨by rw [n1]; rfl, ?_⟩, rfl⟩ dX7_takes_9
    rw [n1]
    exact hQ.stay.symm

set_option maxHeartbeats 4000000 in
set_option maxRecDepth 100000 in
theorem tX7_isBetween {l : Launch} {D : va_G} {A : Nat → Prop} {N : Nat} {Sh : SM} {J : JM} (I : IM) {Q : Nat} (hM : MM Sh J Q) {L : Nat} {ch : Nat → Nat} {p : Nat} (hQ : TQ I Q L ch p) {a b : Nat} (ha : a < 65536) (hb : b < 65536) : CtP l D A yX7_isBetween cX7_isBetween 3 FieldType.boolean 1 N Sh I J [.ref Q, .int (nI a), .int (nI b)] (fun r => r = bI (bw L ch p a b)) := by
  refine ct_I (l0 := [(0, .ref Q), (1, .int (nI a)), (2, .int (nI b))]) (by decide +kernel) (Nat.le_of_ble_eq_true rfl) rfl (fun _ _ _ h => by obtain ⟨rfl, _⟩ := h; exact nar_B _) ?_
  intro X hX hret _ _ _
  have hX : XK X RX7 cX7_isBetween 3 1 := hX
  obtain ⟨q0, ⟨qj0, qj1, qj3, qj5, qj6, qj8, qj12, qj13, qj14, qj15, qj16, qj18, qj19⟩, ⟨qs1, qs2, qs3, qs4, qs5, qs6, qs7, qs8, qs9, qs10, qs11, qs12, qs13⟩⟩ := id hM
  obtain ⟨⟨⟨hL, hl2⟩, hch⟩, hp1, hp2⟩ := id hQ
  refine wa_aload_n hX dX7_isBetween_0 rfl ?_
  refine wa_getI hX fX7_85 rfl q0 dX7_isBetween_1 ?_
  rw [hp2]
  refine wa_aload_n hX dX7_isBetween_4 rfl ?_
  refine wa_getI hX fX7_131 rfl q0 dX7_isBetween_5 ?_
  rw [hl2]
  refine wa_icmp_ge (tgt := 32) hX dX7_isBetween_8 (by decide) (fun c_8 => ?_) (fun c_8 => ?_)
  · skip
    have d1 : L ≤ p := (nI_leI (by omega) (by omega)).mp c_8
    refine wa_iconst (v := nI 0) hX dX7_isBetween_32 (by decide) ?_
    exact hret _ _ _ _ _ ⟨(by rw [bw_end d1]; rfl), rfl, rfl⟩ dX7_isBetween_33
  · skip
    have d1 : p < L := Nat.lt_of_not_le (fun h => c_8 ((nI_leI (by omega) (by omega)).mpr h))
    refine wa_aload_n hX dX7_isBetween_11 rfl ?_
    refine wa_getR hX fX7_25 rfl q0 qj8 dX7_isBetween_12 ?_
    refine wa_aload_n hX dX7_isBetween_15 rfl ?_
    refine wa_getI hX fX7_85 rfl q0 dX7_isBetween_16 ?_
    rw [hp2]
    refine wa_cald hX qs6 rfl (show p < 60 by omega) (by decide) dX7_isBetween_19 ?_
    rw [(hch p d1).1]
    refine wa_iload_n hX dX7_isBetween_20 rfl ?_
    refine wa_iload_n hX dX7_isBetween_21 rfl ?_
    refine wa_sP hX (tX7_in I (nI (ch p)) (nI a) (nI b)) bX7_in mX7_51 (by decide) (by decide) rfl rfl (Nat.le_of_ble_eq_true rfl) dX7_isBetween_22 (fun r_22 q_22 => ?_)
    rw [inR_n (by have := (hch p d1).2; omega) (by omega) (by omega)] at q_22
    subst q_22
    refine wa_if_eq (tgt := 32) hX dX7_isBetween_25 (by decide) (fun c_25 => ?_) (fun c_25 => ?_)
    · skip
      have d2 : bw L ch p a b = false := by unfold bw; rw [bI_0.mp c_25, Bool.and_false]
      refine wa_iconst (v := nI 0) hX dX7_isBetween_32 (by decide) ?_
      exact hret _ _ _ _ _ ⟨(by rw [d2]; rfl), rfl, rfl⟩ dX7_isBetween_33
    · skip
      have d2 : bw L ch p a b = true := by unfold bw; rw [bI_n0.mp c_25, decide_eq_true d1]; rfl
      refine wa_iconst (v := nI 1) hX dX7_isBetween_28 (by decide) ?_
      refine wa_goto (tgt := 33) hX dX7_isBetween_29 (by decide) ?_
      exact hret _ _ _ _ _ ⟨(by rw [d2]; rfl), rfl, rfl⟩ dX7_isBetween_33

set_option maxHeartbeats 4000000 in
set_option maxRecDepth 100000 in
theorem tX7_takesKey {l : Launch} {D : va_G} {A : Nat → Prop} {N : Nat} {Sh : SM} {J : JM} (I : IM) {Q : Nat} (hM : MM Sh J Q) {L : Nat} {ch : Nat → Nat} {p : Nat} (hQ : TQ I Q L ch p) : CtM l D A yX7_takesKey cX7_takesKey 1 FieldType.boolean 2 N Sh I J [.ref Q] (fun r I' => r = bI (keyF L ch p).1.isSome ∧ I' = kyI I Q (keyF L ch p)) := by
  refine ct_I (l0 := [(0, .ref Q)]) (by decide +kernel) (Nat.le_of_ble_eq_true rfl) rfl (fun _ _ _ h => by obtain ⟨⟨rfl, _⟩, _⟩ := h; exact nar_B _) ?_
  intro X hX hret _ _ _
  have hX : XK X RX7 cX7_takesKey 1 2 := hX
  obtain ⟨q0, ⟨qj0, qj1, qj3, qj5, qj6, qj8, qj12, qj13, qj14, qj15, qj16, qj18, qj19⟩, ⟨qs1, qs2, qs3, qs4, qs5, qs6, qs7, qs8, qs9, qs10, qs11, qs12, qs13⟩⟩ := id hM
  obtain ⟨⟨⟨hL, hl2⟩, hch⟩, hp1, hp2⟩ := id hQ
  refine wa_aload_n hX dX7_takesKey_0 rfl ?_
  refine wa_bipush (v := nI 48) hX dX7_takesKey_1 (by decide) ?_
  refine wa_bipush (v := nI 57) hX dX7_takesKey_3 (by decide) ?_
  refine wa_vP hX (tX7_isBetween I hM hQ (show 48 < 65536 by decide) (show 57 < 65536 by decide)) bX7_isBetween mX7_137 (by decide) (by decide) (ci := 6) ⟨by decide, rfl⟩ q0 rfl rfl (Nat.le_of_ble_eq_true rfl) dX7_takesKey_5 (fun r_5 q_5 => ?_)
  subst q_5
  refine wa_if_ne (tgt := 13) hX dX7_takesKey_8 (by decide) (fun c_8 => ?_) (fun c_8 => ?_)
  · skip
    have n1 := bI_n0.mp c_8
    have n2 := bw_t.mp n1
    refine wa_aload_n hX dX7_takesKey_13 rfl ?_
    refine wa_aload_n hX dX7_takesKey_14 rfl ?_
    refine wa_getR hX fX7_25 rfl q0 qj8 dX7_takesKey_15 ?_
    refine wa_aload_n hX dX7_takesKey_18 rfl ?_
    refine wa_getI hX fX7_85 rfl q0 dX7_takesKey_19 ?_
    rw [hp2]
    refine wa_cald hX qs6 rfl (show p < 60 by omega) (by decide) dX7_takesKey_22 ?_
    rw [(hch p n2.1).1]
    refine wa_bipush (v := nI 48) hX dX7_takesKey_23 (by decide) ?_
    refine wa_isub hX dX7_takesKey_25 ?_
    rw [isc n2.2.1 (by omega)]
    refine wa_putI hX fX7_140 rfl rfl ⟨rfl, rfl⟩ q0 dX7_takesKey_26 ?_
    refine wa_aload_n hX dX7_takesKey_29 rfl ?_
    refine wa_dup hX dX7_takesKey_30 rfl ?_
    refine wa_getI hX fX7_85 rfl q0 dX7_takesKey_31 ?_
    rw [u2_k (by decide), hp2]
    refine wa_iconst (v := nI 1) hX dX7_takesKey_34 (by decide) ?_
    refine wa_iadd hX dX7_takesKey_35 ?_
    rw [show nI p + nI 1 = nI (p + 1) from nI_add _ 1]
    refine wa_putI hX fX7_85 rfl rfl ⟨rfl, rfl⟩ q0 dX7_takesKey_36 ?_
    refine wa_aload_n hX dX7_takesKey_39 rfl ?_
    refine wa_getI hX fX7_140 rfl q0 dX7_takesKey_40 ?_
    rw [u2_k (by decide), u2_s]
    have hQ2 : TQ (u2 (u2 I Q 10 (nI (ch p - 48))) Q 9 (nI (p + 1))) Q L ch (p + 1) := hQ.key (by omega)
    refine wa_iconst (v := nI 1) hX dX7_takesKey_43 (by decide) ?_
    refine wa_icmp_ne (tgt := 87) hX dX7_takesKey_44 (by decide) (fun c_44 => ?_) (fun c_44 => ?_)
    · skip
      have n3 : ch p ≠ 49 := fun e => c_44 (by rw [e])
      have ek : keyF L ch p = (some (ch p - 48), p + 1) := by unfold keyF; rw [if_pos n1, if_neg n3]
      refine wa_iconst (v := nI 1) hX dX7_takesKey_87 (by decide) ?_
      refine hret _ _ _ _ _ ⟨⟨?_, ?_⟩, rfl⟩ dX7_takesKey_88
      · rw [ek]; rfl
      · rw [ek]; rfl
    · skip
      have n3 : ch p = 49 := by have := eq_of_nI c_44 (by omega) (by decide); omega
      refine wa_aload_n hX dX7_takesKey_47 rfl ?_
      refine wa_bipush (v := nI 48) hX dX7_takesKey_48 (by decide) ?_
      refine wa_bipush (v := nI 53) hX dX7_takesKey_50 (by decide) ?_
      refine wa_vP hX (tX7_isBetween _ hM hQ2 (show 48 < 65536 by decide) (show 53 < 65536 by decide)) bX7_isBetween mX7_137 (by decide) (by decide) (ci := 6) ⟨by decide, rfl⟩ q0 rfl rfl (Nat.le_of_ble_eq_true rfl) dX7_takesKey_52 (fun r_52 q_52 => ?_)
      subst q_52
      refine wa_if_eq (tgt := 87) hX dX7_takesKey_55 (by decide) (fun c_55 => ?_) (fun c_55 => ?_)
      · skip
        have n4 := bI_0.mp c_55
        have ek : keyF L ch p = (some (ch p - 48), p + 1) := by unfold keyF; rw [if_pos n1, if_pos n3, if_neg (by rw [n4]; decide), n3]
        refine wa_iconst (v := nI 1) hX dX7_takesKey_87 (by decide) ?_
        refine hret _ _ _ _ _ ⟨⟨?_, ?_⟩, rfl⟩ dX7_takesKey_88
        · rw [ek]; rfl
        · rw [ek]; rfl
      · skip
        have n4 := bI_n0.mp c_55
        have n5 := bw_t.mp n4
        have ek : keyF L ch p = (some (10 + (ch (p + 1) - 48)), p + 2) := by unfold keyF; rw [if_pos n1, if_pos n3, if_pos n4]
        refine wa_aload_n hX dX7_takesKey_58 rfl ?_
        refine wa_bipush (v := nI 10) hX dX7_takesKey_59 (by decide) ?_
        refine wa_aload_n hX dX7_takesKey_61 rfl ?_
        refine wa_getR hX fX7_25 rfl q0 qj8 dX7_takesKey_62 ?_
        refine wa_aload_n hX dX7_takesKey_65 rfl ?_
        refine wa_getI hX fX7_85 rfl q0 dX7_takesKey_66 ?_
        rw [u2_s]
        refine wa_cald hX qs6 rfl (show p + 1 < 60 by omega) (by decide) dX7_takesKey_69 ?_
        rw [u2_n (b := Q + 6) (by omega), u2_n (b := Q + 6) (by omega), (hch (p + 1) n5.1).1]
        refine wa_iadd hX dX7_takesKey_70 ?_
        refine wa_bipush (v := nI 48) hX dX7_takesKey_71 (by decide) ?_
        refine wa_isub hX dX7_takesKey_73 ?_
        rw [show nI 10 + nI (ch (p + 1)) - nI 48 = nI (10 + (ch (p + 1) - 48)) by rw [nI_add, isc (by omega) (by omega)]; congr 1; omega]
        refine wa_putI hX fX7_140 rfl rfl ⟨rfl, rfl⟩ q0 dX7_takesKey_74 ?_
        refine wa_aload_n hX dX7_takesKey_77 rfl ?_
        refine wa_dup hX dX7_takesKey_78 rfl ?_
        refine wa_getI hX fX7_85 rfl q0 dX7_takesKey_79 ?_
        rw [u2_k (by decide), u2_s]
        refine wa_iconst (v := nI 1) hX dX7_takesKey_82 (by decide) ?_
        refine wa_iadd hX dX7_takesKey_83 ?_
        rw [show nI (p + 1) + nI 1 = nI (p + 2) from nI_add _ 1]
        refine wa_putI hX fX7_85 rfl rfl ⟨rfl, rfl⟩ q0 dX7_takesKey_84 ?_
        refine wa_iconst (v := nI 1) hX dX7_takesKey_87 (by decide) ?_
        refine hret _ _ _ _ _ ⟨⟨?_, ?_⟩, rfl⟩ dX7_takesKey_88
        · rw [ek]; rfl
        · rw [ek, u2_cm (j := 9) (k := 10) (by decide), u2_u2, u2_u2]; rfl
  · skip
    have n1 := bI_0.mp c_8
    have ek : keyF L ch p = (none, p) := by unfold keyF; rw [if_neg (by rw [n1]; decide)]
    refine wa_iconst (v := nI 0) hX dX7_takesKey_11 (by decide) ?_
    refine hret _ _ _ _ _ ⟨⟨?_, ?_⟩, rfl⟩ dX7_takesKey_12
    · rw [ek]; rfl
    · rw [ek]; rfl

set_option maxHeartbeats 4000000 in
set_option maxRecDepth 100000 in
theorem tX7_settles {l : Launch} {D : va_G} {A : Nat → Prop} {N : Nat} {Sh : SM} {J : JM} (I : IM) {Q : Nat} (hM : MM Sh J Q) : CtW l D A yX7_settles cX7_settles 2 0 N Sh I J [.ref Q] (fun I' => I' = uR I (Q + 7) (rowN 16 (I (Q + 12)) (I (Q + 7)))) := by
  refine ct_V (l0 := [(0, .ref Q)]) (by decide +kernel) (Nat.le_of_ble_eq_true rfl) rfl ?_
  intro X hX hret _ _ _
  have hX : XK X RX7 cX7_settles 2 0 := hX
  obtain ⟨q0, ⟨qj0, qj1, qj3, qj5, qj6, qj8, qj12, qj13, qj14, qj15, qj16, qj18, qj19⟩, ⟨qs1, qs2, qs3, qs4, qs5, qs6, qs7, qs8, qs9, qs10, qs11, qs12, qs13⟩⟩ := id hM
  have lp : ∀ (n i : Nat), i + n = 16 → WX X 0 0 N Sh (uR I (Q + 7) (rowN i (I (Q + 12)) (I (Q + 7)))) J 2 [(0, .ref Q), (1, .int (nI i))] [] := by
    intro n
    induction n with
    | zero =>
      intro i  hi
      obtain rfl : 16 = i := by omega
      refine wa_iload_n hX dX7_settles_2 rfl ?_
      refine wa_bipush (v := nI 16) hX dX7_settles_3 (by decide) ?_
      refine wa_icmp_ge (tgt := 26) hX dX7_settles_5 (by decide) (fun c_5 => ?_) (fun c_5 => absurd (Int32.le_refl _) c_5)
      exact hret _ _ _ _ ⟨rfl, rfl⟩ dX7_settles_26
    | succ n ih =>
      intro i  hi
      have hlt : i < 16 := by omega
      refine wa_iload_n hX dX7_settles_2 rfl ?_
      refine wa_bipush (v := nI 16) hX dX7_settles_3 (by decide) ?_
      refine wa_icmp_ge (tgt := 26) hX dX7_settles_5 (by decide) (fun c_5 => absurd c_5 (nI_ge hlt (by decide))) (fun c_5 => ?_)
      refine wa_aload_n hX dX7_settles_8 rfl ?_
      refine wa_getR hX fX7_29 rfl q0 qj12 dX7_settles_9 ?_
      refine wa_iload_n hX dX7_settles_12 rfl ?_
      refine wa_aload_n hX dX7_settles_13 rfl ?_
      refine wa_getR hX fX7_45 rfl q0 qj18 dX7_settles_14 ?_
      refine wa_iload_n hX dX7_settles_17 rfl ?_
      refine wa_iald hX qs12 rfl (by first | assumption | omega) (by decide) dX7_settles_18 ?_
      rw [uR_n (b := Q + 12) (by omega)]
      refine wa_iast hX qs7 rfl (by first | assumption | omega) (by decide) dX7_settles_19 ?_
      refine wa_iinc hX dX7_settles_20 rfl (inc1 _) (by decide) ?_
      refine wa_goto (tgt := 2) hX dX7_settles_23 (by decide) ?_
      refine wx_sub (l' := [(0, _), (1, _)]) ⟨rfl, rfl, trivial⟩ ?_
      rw [u2_row rfl]
      exact ih (i + 1) (by omega)
  refine wa_iconst (v := nI 0) hX dX7_settles_0 (by decide) ?_
  refine wa_istore_n hX dX7_settles_1 (by decide) ?_
  have e0 : I = uR I (Q + 7) (rowN 0 (I (Q + 12)) (I (Q + 7))) := row_0
  rw (occs := .pos [1]) [e0]
  exact lp 16 0 (by omega)

set_option maxHeartbeats 4000000 in
set_option maxRecDepth 100000 in
theorem tX7_inverts {l : Launch} {D : va_G} {A : Nat → Prop} {N : Nat} {Sh : SM} {J : JM} (I : IM) {Q : Nat} (hM : MM Sh J Q) {v : RW} (hv : RV (I (Q + 7)) v) {S : AS} (hV : VF (I (Q + 1)) S) {R : Nat} (hR : aR S = R) : CtW l D A yX7_inverts cX7_inverts 6 1 N Sh I J [.ref Q] (fun I' => RV (I' (Q + 7)) (invS v R 16) ∧ CFf Q I I') := by
  refine ct_V (l0 := [(0, .ref Q)]) (by decide +kernel) (Nat.le_of_ble_eq_true rfl) rfl ?_
  intro X hX hret _ _ _
  have hX : XK X RX7 cX7_inverts 6 1 := hX
  have hR2 : R ≤ 2 := hR ▸ hV.2.1.2
  have hRv : I (Q + 1) 414 = nI R := hR ▸ hV.2.1.1
  obtain ⟨q0, ⟨qj0, qj1, qj3, qj5, qj6, qj8, qj12, qj13, qj14, qj15, qj16, qj18, qj19⟩, ⟨qs1, qs2, qs3, qs4, qs5, qs6, qs7, qs8, qs9, qs10, qs11, qs12, qs13⟩⟩ := id hM
  have lp : ∀ (n i : Nat), i + n = 16 → WX X 0 0 N Sh (uR I (Q + 12) (rowN i (fun k => nI (invS v R 16 k)) (I (Q + 12)))) J 2 [(0, .ref Q), (1, .int (nI i))] [] := by
    intro n
    induction n with
    | zero =>
      intro i hi
      obtain rfl : 16 = i := by omega
      refine wa_iload_n hX dX7_inverts_2 rfl ?_
      refine wa_bipush (v := nI 16) hX dX7_inverts_3 (by decide) ?_
      refine wa_icmp_ge (tgt := 115) hX dX7_inverts_5 (by decide) (fun c_5 => ?_) (fun c_5 => absurd (Int32.le_refl _) c_5)
      refine wa_aload_n hX dX7_inverts_115 rfl ?_
      refine wa_vW hX (tX7_settles _ hM) bX7_settles mX7_149 (by decide) (by decide) (ci := 6) ⟨by decide, rfl⟩ q0 rfl rfl (Nat.le_of_ble_eq_true rfl) dX7_inverts_116 (fun I_116 q_116 => ?_)
      subst q_116
      refine hret _ _ _ _ ⟨⟨fun k hk => ?_, fun b a1 a2 => by rw [uR_n a1, uR_n a2]⟩, rfl⟩ dX7_inverts_119
      rw [uR_s, rowN_in hk, uR_s, rowN_in hk]
      exact ⟨rfl, invS_le v R 16 k (Nat.le_refl _)⟩
    | succ n ih =>
      intro i hi
      have hi16 : i < 16 := by omega
      have nxt : ∀ (x2 x3 x4 : Int32), x2 = nI (nuV v i 16) → x3 = nI (loV v i 16) → x4 = nI (hiV v i 16) → WX X 0 0 N Sh (uR I (Q + 12) (rowN i (fun k => nI (invS v R 16 k)) (I (Q + 12)))) J 64 [(0, .ref Q), (1, .int (nI i)), (2, .int x2), (3, .int x3), (4, .int x4)] [] := by
        intro x2 x3 x4 e2 e3 e4
        have hnu : nuV v i 16 ≤ 16 := cnt_le _ _
        refine wa_aload_n hX dX7_inverts_64 rfl ?_
        refine wa_getR hX fX7_45 rfl q0 qj18 dX7_inverts_65 ?_
        refine wa_iload_n hX dX7_inverts_68 rfl ?_
        refine wa_aload_n hX dX7_inverts_69 rfl ?_
        refine wa_getR hX fX7_7 rfl q0 qj0 dX7_inverts_70 ?_
        refine wa_sipush (v := nI 414) hX dX7_inverts_73 (by decide) ?_
        refine wa_iald hX qs1 rfl (show 414 < 514 by decide) (by decide) dX7_inverts_76 ?_
        rw [uR_n (b := Q + 1) (by omega), hRv]
        refine wa_if_ne (tgt := 90) hX dX7_inverts_77 (by decide) (fun c_77 => ?_) (fun c_77 => ?_)
        · skip
          have d1 : R ≠ 0 := fun e => c_77 (by rw [e]; rfl)
          refine wa_aload_n hX dX7_inverts_90 rfl ?_
          refine wa_getR hX fX7_7 rfl q0 qj0 dX7_inverts_91 ?_
          refine wa_sipush (v := nI 414) hX dX7_inverts_94 (by decide) ?_
          refine wa_iald hX qs1 rfl (show 414 < 514 by decide) (by decide) dX7_inverts_97 ?_
          rw [uR_n (b := Q + 1) (by omega), hRv]
          refine wa_iconst (v := nI 2) hX dX7_inverts_98 (by decide) ?_
          refine wa_icmp_ne (tgt := 107) hX dX7_inverts_99 (by decide) (fun c_99 => ?_) (fun c_99 => ?_)
          · skip
            have d3 : R ≠ 2 := ne_of_nI c_99
            refine wa_iload_n hX dX7_inverts_107 rfl ?_
            refine wa_iast hX qs12 rfl (by first | assumption | omega) (by decide) dX7_inverts_108 ?_
            refine wa_iinc hX dX7_inverts_109 rfl (inc1 _) (by decide) ?_
            refine wa_goto (tgt := 2) hX dX7_inverts_112 (by decide) ?_
            rw [u2_row (i := i) (show _ = nI (invS v R 16 i) by rw [inv_val v R i hR2 16 (Nat.le_refl _), if_neg (fun h => d1 h.1), if_neg d3, ← e3])]
            refine wx_sub (l' := [(0, _), (1, _)]) ⟨rfl, rfl, trivial⟩ ?_
            exact ih (i + 1) (by omega)
          · skip
            have d3 : R = 2 := eq_of_nI c_99 (by omega) (by decide)
            refine wa_iload hX dX7_inverts_102 rfl ?_
            refine wa_goto (tgt := 108) hX dX7_inverts_104 (by decide) ?_
            refine wa_iast hX qs12 rfl (by first | assumption | omega) (by decide) dX7_inverts_108 ?_
            refine wa_iinc hX dX7_inverts_109 rfl (inc1 _) (by decide) ?_
            refine wa_goto (tgt := 2) hX dX7_inverts_112 (by decide) ?_
            rw [u2_row (i := i) (show _ = nI (invS v R 16 i) by rw [inv_val v R i hR2 16 (Nat.le_refl _), if_neg (fun h => d1 h.1), if_pos d3, ← e4])]
            refine wx_sub (l' := [(0, _), (1, _)]) ⟨rfl, rfl, trivial⟩ ?_
            exact ih (i + 1) (by omega)
        · skip
          have d1 : R = 0 := eq_of_nI (show nI R = nI 0 from c_77) (by omega) (by decide)
          refine wa_iload_n hX dX7_inverts_80 rfl ?_
          refine wa_iconst (v := nI 1) hX dX7_inverts_81 (by decide) ?_
          rw [e2]
          refine wa_icmp_le (tgt := 90) hX dX7_inverts_82 (by decide) (fun c_82 => ?_) (fun c_82 => ?_)
          · skip
            have d2 : ¬ 1 < nuV v i 16 := by have := (nI_leI (by omega) (by decide)).mp c_82; omega
            refine wa_aload_n hX dX7_inverts_90 rfl ?_
            refine wa_getR hX fX7_7 rfl q0 qj0 dX7_inverts_91 ?_
            refine wa_sipush (v := nI 414) hX dX7_inverts_94 (by decide) ?_
            refine wa_iald hX qs1 rfl (show 414 < 514 by decide) (by decide) dX7_inverts_97 ?_
            rw [uR_n (b := Q + 1) (by omega), hRv]
            refine wa_iconst (v := nI 2) hX dX7_inverts_98 (by decide) ?_
            refine wa_icmp_ne (tgt := 107) hX dX7_inverts_99 (by decide) (fun c_99 => ?_) (fun c_99 => ?_)
            · skip
              have d3 : R ≠ 2 := ne_of_nI c_99
              refine wa_iload_n hX dX7_inverts_107 rfl ?_
              refine wa_iast hX qs12 rfl (by first | assumption | omega) (by decide) dX7_inverts_108 ?_
              refine wa_iinc hX dX7_inverts_109 rfl (inc1 _) (by decide) ?_
              refine wa_goto (tgt := 2) hX dX7_inverts_112 (by decide) ?_
              rw [u2_row (i := i) (show _ = nI (invS v R 16 i) by rw [inv_val v R i hR2 16 (Nat.le_refl _), if_neg (fun h => d2 h.2), if_neg d3, ← e3])]
              refine wx_sub (l' := [(0, _), (1, _)]) ⟨rfl, rfl, trivial⟩ ?_
              exact ih (i + 1) (by omega)
            · skip
              have d3 : R = 2 := eq_of_nI c_99 (by omega) (by decide)
              refine wa_iload hX dX7_inverts_102 rfl ?_
              refine wa_goto (tgt := 108) hX dX7_inverts_104 (by decide) ?_
              refine wa_iast hX qs12 rfl (by first | assumption | omega) (by decide) dX7_inverts_108 ?_
              refine wa_iinc hX dX7_inverts_109 rfl (inc1 _) (by decide) ?_
              refine wa_goto (tgt := 2) hX dX7_inverts_112 (by decide) ?_
              rw [u2_row (i := i) (show _ = nI (invS v R 16 i) by rw [inv_val v R i hR2 16 (Nat.le_refl _), if_neg (fun h => d2 h.2), if_pos d3, ← e4])]
              refine wx_sub (l' := [(0, _), (1, _)]) ⟨rfl, rfl, trivial⟩ ?_
              exact ih (i + 1) (by omega)
          · skip
            have d2 : 1 < nuV v i 16 := Nat.lt_of_not_le (fun h => c_82 ((nI_leI (by omega) (by decide)).mpr h))
            refine wa_bipush (v := nI 16) hX dX7_inverts_85 (by decide) ?_
            refine wa_goto (tgt := 108) hX dX7_inverts_87 (by decide) ?_
            refine wa_iast hX qs12 rfl (by first | assumption | omega) (by decide) dX7_inverts_108 ?_
            refine wa_iinc hX dX7_inverts_109 rfl (inc1 _) (by decide) ?_
            refine wa_goto (tgt := 2) hX dX7_inverts_112 (by decide) ?_
            rw [u2_row (i := i) (show _ = nI (invS v R 16 i) by rw [inv_val v R i hR2 16 (Nat.le_refl _), if_pos ⟨d1, d2⟩])]
            refine wx_sub (l' := [(0, _), (1, _)]) ⟨rfl, rfl, trivial⟩ ?_
            exact ih (i + 1) (by omega)
      have li : ∀ (n1 j : Nat) (x2 x3 x4 : Int32), j + n1 = 16 → (x2 = nI (nuV v i j)) → (x3 = nI (loV v i j)) → (x4 = nI (hiV v i j)) → WX X 0 0 N Sh (uR I (Q + 12) (rowN i (fun k => nI (invS v R 16 k)) (I (Q + 12)))) J 20 [(0, .ref Q), (1, .int (nI i)), (2, .int x2), (3, .int x3), (4, .int x4), (5, .int (nI j))] [] := by
        intro n1
        induction n1 with
        | zero =>
          intro j x2 x3 x4 hi e2 e3 e4
          obtain rfl : 16 = j := by omega
          refine wa_iload hX dX7_inverts_20 rfl ?_
          refine wa_bipush (v := nI 16) hX dX7_inverts_22 (by decide) ?_
          refine wa_icmp_ge (tgt := 64) hX dX7_inverts_24 (by decide) (fun c_24 => ?_) (fun c_24 => absurd (Int32.le_refl _) c_24)
          refine wx_sub (l' := [(0, _), (1, _), (2, _), (3, _), (4, _)]) ⟨rfl, rfl, rfl, rfl, rfl, trivial⟩ ?_
          exact nxt _ _ _ e2 e3 e4
        | succ n1 ihj =>
          intro j x2 x3 x4 hi e2 e3 e4
          have hlt : j < 16 := by omega
          refine wa_iload hX dX7_inverts_20 rfl ?_
          refine wa_bipush (v := nI 16) hX dX7_inverts_22 (by decide) ?_
          refine wa_icmp_ge (tgt := 64) hX dX7_inverts_24 (by decide) (fun c_24 => absurd c_24 (nI_ge hlt (by decide))) (fun c_24 => ?_)
          refine wa_aload_n hX dX7_inverts_27 rfl ?_
          refine wa_getR hX fX7_29 rfl q0 qj12 dX7_inverts_28 ?_
          refine wa_iload hX dX7_inverts_31 rfl ?_
          refine wa_iald hX qs7 rfl (by first | assumption | omega) (by decide) dX7_inverts_33 ?_
          rw [uR_n (b := Q + 7) (by omega), (hv j (by omega)).1]
          refine wa_iload_n hX dX7_inverts_34 rfl ?_
          refine wa_icmp_ne (tgt := 58) hX dX7_inverts_35 (by decide) (fun c_35 => ?_) (fun c_35 => ?_)
          · skip
            have d1 : v j ≠ i := ne_of_nI c_35
            have f3 : loV v i (j + 1) = loV v i j := if_neg d1
            have f4 : hiV v i (j + 1) = hiV v i j := if_neg d1
            refine wa_iinc hX dX7_inverts_58 rfl (inc1 _) (by decide) ?_
            refine wa_goto (tgt := 20) hX dX7_inverts_61 (by decide) ?_
            refine wx_sub (l' := [(0, _), (1, _), (2, _), (3, _), (4, _), (5, _)]) ⟨rfl, rfl, rfl, rfl, rfl, rfl, trivial⟩ ?_
            exact ihj (j + 1) _ _ _ (by omega) (by rw [e2, nuV_f d1]) (by rw [e3, f3]) (by rw [e4, f4])
          · skip
            have d1 : v j = i := eq_of_nI c_35 (by have := (hv j (by omega)).2; omega) (by omega)
            have f3 : loV v i (j + 1) = (if loV v i j = 16 then j else loV v i j) := if_pos d1
            have f4 : hiV v i (j + 1) = j := if_pos d1
            have hlo := (lo_nu v i j (by omega)).2
            subst e2
            refine wa_iinc hX dX7_inverts_38 rfl (inc1 _) (by decide) ?_
            refine wa_iload_n hX dX7_inverts_41 rfl ?_
            refine wa_bipush (v := nI 16) hX dX7_inverts_42 (by decide) ?_
            refine wa_icmp_ne (tgt := 52) hX dX7_inverts_44 (by decide) (fun c_44 => ?_) (fun c_44 => ?_)
            · skip
              have d2 : loV v i j ≠ 16 := fun e => c_44 (by rw [e3, e])
              refine wa_iload_n hX dX7_inverts_52 rfl ?_
              refine wa_istore_n hX dX7_inverts_53 (by decide) ?_
              refine wa_iload hX dX7_inverts_54 rfl ?_
              refine wa_istore hX dX7_inverts_56 (by decide) ?_
              refine wa_iinc hX dX7_inverts_58 rfl (inc1 _) (by decide) ?_
              refine wa_goto (tgt := 20) hX dX7_inverts_61 (by decide) ?_
              refine wx_sub (l' := [(0, _), (1, _), (2, _), (3, _), (4, _), (5, _)]) ⟨rfl, rfl, rfl, rfl, rfl, rfl, trivial⟩ ?_
              exact ihj (j + 1) _ _ _ (by omega) (by rw [nuV_t d1]) (by rw [e3, f3, if_neg d2]) (by rw [f4])
            · skip
              have d2 : loV v i j = 16 := eq_of_nI (e3.symm.trans c_44) (by omega) (by decide)
              refine wa_iload hX dX7_inverts_47 rfl ?_
              refine wa_goto (tgt := 53) hX dX7_inverts_49 (by decide) ?_
              refine wa_istore_n hX dX7_inverts_53 (by decide) ?_
              refine wa_iload hX dX7_inverts_54 rfl ?_
              refine wa_istore hX dX7_inverts_56 (by decide) ?_
              refine wa_iinc hX dX7_inverts_58 rfl (inc1 _) (by decide) ?_
              refine wa_goto (tgt := 20) hX dX7_inverts_61 (by decide) ?_
              refine wx_sub (l' := [(0, _), (1, _), (2, _), (3, _), (4, _), (5, _)]) ⟨rfl, rfl, rfl, rfl, rfl, rfl, trivial⟩ ?_
              exact ihj (j + 1) _ _ _ (by omega) (by rw [nuV_t d1]) (by rw [f3, if_pos d2]) (by rw [f4])
      refine wa_iload_n hX dX7_inverts_2 rfl ?_
      refine wa_bipush (v := nI 16) hX dX7_inverts_3 (by decide) ?_
      refine wa_icmp_ge (tgt := 115) hX dX7_inverts_5 (by decide) (fun c_5 => absurd c_5 (nI_ge hi16 (by decide))) (fun c_5 => ?_)
      refine wa_iconst (v := nI 0) hX dX7_inverts_8 (by decide) ?_
      refine wa_istore_n hX dX7_inverts_9 (by decide) ?_
      refine wa_bipush (v := nI 16) hX dX7_inverts_10 (by decide) ?_
      refine wa_istore_n hX dX7_inverts_12 (by decide) ?_
      refine wa_bipush (v := nI 16) hX dX7_inverts_13 (by decide) ?_
      refine wa_istore hX dX7_inverts_15 (by decide) ?_
      refine wa_iconst (v := nI 0) hX dX7_inverts_17 (by decide) ?_
      refine wa_istore hX dX7_inverts_18 (by decide) ?_
      refine wx_sub (l' := [(0, _), (1, _), (2, _), (3, _), (4, _), (5, _)]) ⟨rfl, rfl, rfl, rfl, rfl, rfl, trivial⟩ ?_
      exact li 16 0 _ _ _ (by omega) rfl rfl rfl
  refine wa_iconst (v := nI 0) hX dX7_inverts_0 (by decide) ?_
  refine wa_istore_n hX dX7_inverts_1 (by decide) ?_
  have e0 : I = uR I (Q + 12) (rowN 0 (fun k => nI (invS v R 16 k)) (I (Q + 12))) := row_0
  rw (occs := .pos [1]) [e0]
  exact lp 16 0 (by omega)

set_option maxHeartbeats 4000000 in
set_option maxRecDepth 100000 in
theorem tX7_repeats {l : Launch} {D : va_G} {A : Nat → Prop} {N : Nat} {Sh : SM} {J : JM} (I : IM) {Q : Nat} (hM : MM Sh J Q) {v : RW} (hv : RV (I (Q + 7)) v) {n0 : Nat} (hn0 : n0 < 2 ^ 31) : CtW l D A yX7_repeats cX7_repeats 5 1 N Sh I J [.ref Q, .int (nI n0)] (fun I' => RV (I' (Q + 7)) (itr v n0) ∧ CFf Q I I') := by
  refine ct_V (l0 := [(0, .ref Q), (1, .int (nI n0))]) (by decide +kernel) (Nat.le_of_ble_eq_true rfl) rfl ?_
  intro X hX hret _ _ _
  have hX : XK X RX7 cX7_repeats 5 1 := hX
  obtain ⟨q0, ⟨qj0, qj1, qj3, qj5, qj6, qj8, qj12, qj13, qj14, qj15, qj16, qj18, qj19⟩, ⟨qs1, qs2, qs3, qs4, qs5, qs6, qs7, qs8, qs9, qs10, qs11, qs12, qs13⟩⟩ := id hM
  have lp : ∀ (n i : Nat), i + n = 16 → WX X 0 0 N Sh (uR I (Q + 12) (rowN i (fun k => nI (itr v n0 k)) (I (Q + 12)))) J 2 [(0, .ref Q), (1, .int (nI n0)), (2, .int (nI i))] [] := by
    intro n
    induction n with
    | zero =>
      intro i hi
      obtain rfl : 16 = i := by omega
      refine wa_iload_n hX dX7_repeats_2 rfl ?_
      refine wa_bipush (v := nI 16) hX dX7_repeats_3 (by decide) ?_
      refine wa_icmp_ge (tgt := 51) hX dX7_repeats_5 (by decide) (fun c_5 => ?_) (fun c_5 => absurd (Int32.le_refl _) c_5)
      refine wa_aload_n hX dX7_repeats_51 rfl ?_
      refine wa_vW hX (tX7_settles _ hM) bX7_settles mX7_149 (by decide) (by decide) (ci := 6) ⟨by decide, rfl⟩ q0 rfl rfl (Nat.le_of_ble_eq_true rfl) dX7_repeats_52 (fun I_52 q_52 => ?_)
      subst q_52
      refine hret _ _ _ _ ⟨⟨fun k hk => ?_, fun b a1 a2 => by rw [uR_n a1, uR_n a2]⟩, rfl⟩ dX7_repeats_55
      rw [uR_s, rowN_in hk, uR_s, rowN_in hk]
      exact ⟨rfl, itr_le hv _ (by omega)⟩
    | succ n ih =>
      intro i hi
      have hi16 : i < 16 := by omega
      have nxt : ∀ (x3 : Int32), x3 = nI (itr v n0 i) → WX X 0 0 N Sh (uR I (Q + 12) (rowN i (fun k => nI (itr v n0 k)) (I (Q + 12)))) J 38 [(0, .ref Q), (1, .int (nI n0)), (2, .int (nI i)), (3, .int x3)] [] := by
        intro x3 e3
        refine wa_aload_n hX dX7_repeats_38 rfl ?_
        refine wa_getR hX fX7_45 rfl q0 qj18 dX7_repeats_39 ?_
        refine wa_iload_n hX dX7_repeats_42 rfl ?_
        refine wa_iload_n hX dX7_repeats_43 rfl ?_
        refine wa_iast hX qs12 rfl (by first | assumption | omega) (by decide) dX7_repeats_44 ?_
        refine wa_iinc hX dX7_repeats_45 rfl (inc1 _) (by decide) ?_
        refine wa_goto (tgt := 2) hX dX7_repeats_48 (by decide) ?_
        rw [u2_row (i := i) (g := fun k => nI (itr v n0 k)) e3]
        refine wx_sub (l' := [(0, _), (1, _), (2, _)]) ⟨rfl, rfl, rfl, trivial⟩ ?_
        exact ih (i + 1) (by omega)
      have li : ∀ (n1 j : Nat) (x3 : Int32), j + n1 = n0 → (x3 = nI (itr v j i)) → WX X 0 0 N Sh (uR I (Q + 12) (rowN i (fun k => nI (itr v n0 k)) (I (Q + 12)))) J 13 [(0, .ref Q), (1, .int (nI n0)), (2, .int (nI i)), (3, .int x3), (4, .int (nI j))] [] := by
        intro n1
        induction n1 with
        | zero =>
          intro j x3 hi e3
          obtain rfl : n0 = j := by omega
          refine wa_iload hX dX7_repeats_13 rfl ?_
          refine wa_iload_n hX dX7_repeats_15 rfl ?_
          refine wa_icmp_ge (tgt := 38) hX dX7_repeats_16 (by decide) (fun c_16 => ?_) (fun c_16 => absurd (Int32.le_refl _) c_16)
          refine wx_sub (l' := [(0, _), (1, _), (2, _), (3, _)]) ⟨rfl, rfl, rfl, rfl, trivial⟩ ?_
          exact nxt _ e3
        | succ n1 ihj =>
          intro j x3 hi e3
          have hlt : j < n0 := by omega
          refine wa_iload hX dX7_repeats_13 rfl ?_
          refine wa_iload_n hX dX7_repeats_15 rfl ?_
          refine wa_icmp_ge (tgt := 38) hX dX7_repeats_16 (by decide) (fun c_16 => absurd c_16 (nI_ge hlt hn0)) (fun c_16 => ?_)
          subst e3
          refine wa_iload_n hX dX7_repeats_19 rfl ?_
          refine wa_bipush (v := nI 16) hX dX7_repeats_20 (by decide) ?_
          refine wa_icmp_eq (tgt := 38) hX dX7_repeats_22 (by decide) (fun c_22 => ?_) (fun c_22 => ?_)
          · skip
            have d1 := eq_of_nI c_22 (by have := itr_le hv j (show i ≤ 16 by omega); omega) (by decide)
            refine wx_sub (l' := [(0, _), (1, _), (2, _), (3, _)]) ⟨rfl, rfl, rfl, rfl, trivial⟩ ?_
            exact nxt _ (by rw [d1, itr_abs d1 (by omega)])
          · skip
            have d1 := ne_of_nI c_22
            have d2 := itr_le hv j (show i ≤ 16 by omega)
            refine wa_aload_n hX dX7_repeats_25 rfl ?_
            refine wa_getR hX fX7_29 rfl q0 qj12 dX7_repeats_26 ?_
            refine wa_iload_n hX dX7_repeats_29 rfl ?_
            refine wa_iald hX qs7 rfl (show itr v j i < 16 by omega) (by decide) dX7_repeats_30 ?_
            rw [uR_n (b := Q + 7) (by omega), (hv _ (show itr v j i < 16 by omega)).1]
            refine wa_istore_n hX dX7_repeats_31 (by decide) ?_
            refine wa_iinc hX dX7_repeats_32 rfl (inc1 _) (by decide) ?_
            refine wa_goto (tgt := 13) hX dX7_repeats_35 (by decide) ?_
            refine wx_sub (l' := [(0, _), (1, _), (2, _), (3, _), (4, _)]) ⟨rfl, rfl, rfl, rfl, rfl, trivial⟩ ?_
            exact ihj (j + 1) _ (by omega) (by rw [itr_s]; unfold stp; rw [if_pos (by omega)])
      refine wa_iload_n hX dX7_repeats_2 rfl ?_
      refine wa_bipush (v := nI 16) hX dX7_repeats_3 (by decide) ?_
      refine wa_icmp_ge (tgt := 51) hX dX7_repeats_5 (by decide) (fun c_5 => absurd c_5 (nI_ge hi16 (by decide))) (fun c_5 => ?_)
      refine wa_iload_n hX dX7_repeats_8 rfl ?_
      refine wa_istore_n hX dX7_repeats_9 (by decide) ?_
      refine wa_iconst (v := nI 0) hX dX7_repeats_10 (by decide) ?_
      refine wa_istore hX dX7_repeats_11 (by decide) ?_
      refine wx_sub (l' := [(0, _), (1, _), (2, _), (3, _), (4, _)]) ⟨rfl, rfl, rfl, rfl, rfl, trivial⟩ ?_
      exact li n0 0 _ (by omega) rfl
  refine wa_iconst (v := nI 0) hX dX7_repeats_0 (by decide) ?_
  refine wa_istore_n hX dX7_repeats_1 (by decide) ?_
  have e0 : I = uR I (Q + 12) (rowN 0 (fun k => nI (itr v n0 k)) (I (Q + 12))) := row_0
  rw (occs := .pos [1]) [e0]
  exact lp 16 0 (by omega)

set_option maxHeartbeats 4000000 in
set_option maxRecDepth 100000 in
theorem tX7_takesSet {l : Launch} {D : va_G} {A : Nat → Prop} {N : Nat} {Sh : SM} {J : JM} (I : IM) {Q : Nat} (hM : MM Sh J Q) {L : Nat} {ch : Nat → Nat} {p : Nat} (hQ : TQ I Q L ch p) {v : RW} (hv : RV (I (Q + 7)) v) : CtM l D A yX7_takesSet cX7_takesSet 4 FieldType.boolean 3 N Sh I J [.ref Q] (fun x I' => EMf Q I (bnd (kstF L ch 60 (nI 0) p) (fun s q => (some (resR s v), q))) x I') := by
  refine ct_I (l0 := [(0, .ref Q)]) (by decide +kernel) (Nat.le_of_ble_eq_true rfl) rfl (fun _ _ _ h => by obtain ⟨⟨rfl, _⟩, _⟩ := h; exact nar_B _) ?_
  intro X hX hret _ _ _
  have hX : XK X RX7 cX7_takesSet 4 3 := hX
  obtain ⟨q0, ⟨qj0, qj1, qj3, qj5, qj6, qj8, qj12, qj13, qj14, qj15, qj16, qj18, qj19⟩, ⟨qs1, qs2, qs3, qs4, qs5, qs6, qs7, qs8, qs9, qs10, qs11, qs12, qs13⟩⟩ := id hM
  obtain ⟨⟨⟨hL, hl2⟩, hch⟩, hp1, hp2⟩ := id hQ
  have tail : ∀ (I1 : IM) (s : Int32) (q : Nat), TQ I1 Q L ch q → MQf Q q I I1 → RV (I1 (Q + 7)) v → (if sg L ch q 125 = true then (some (resR s v), q + 1) else (none, q)) = bnd (kstF L ch 60 (nI 0) p) (fun s q => (some (resR s v), q)) → WX X 0 0 N Sh I1 J 4 [(0, .ref Q), (1, .int s), (2, .int (bI false))] [] := by
    intro I1 s q hQ1 hF1 hv1 hR
    have lr : ∀ (n i : Nat), i + n = 16 → WX X 0 0 N Sh (uR I1 (Q + 7) (rowN i (fun k => nI (resR s v k)) (I1 (Q + 7)))) J 38 [(0, .ref Q), (1, .int s), (3, .int (nI i))] [] := by
      intro n
      induction n with
      | zero =>
        intro i  hi
        obtain rfl : 16 = i := by omega
        refine wa_iload_n hX dX7_takesSet_38 rfl ?_
        refine wa_bipush (v := nI 16) hX dX7_takesSet_39 (by decide) ?_
        refine wa_icmp_ge (tgt := 76) hX dX7_takesSet_41 (by decide) (fun c_41 => ?_) (fun c_41 => absurd (Int32.le_refl _) c_41)
        refine wa_aload_n hX dX7_takesSet_76 rfl ?_
        refine wa_bipush (v := nI 125) hX dX7_takesSet_77 (by decide) ?_
        refine wa_vM hX (tX7_takes _ hM (hQ1.cf (fun b a1 _ => uR_n a1)) (show 125 < 65536 by decide)) bX7_takes mX7_146 (by decide) (by decide) (ci := 6) ⟨by decide, rfl⟩ (by first | exact hM.1 | assumption) rfl rfl (Nat.le_of_ble_eq_true rfl) dX7_takesSet_79 (fun r_79 I_79 q_79 => ?_)
        obtain ⟨w2, w3⟩ := q_79
        subst w2
        refine hret _ _ _ _ _ ⟨?_, rfl⟩ dX7_takesSet_82
        show EMf Q I (bnd (kstF L ch 60 (nI 0) p) (fun s q => (some (resR s v), q))) _ _
        rw [← hR]
        have hv4 : RV (I_79 (Q + 7)) (resR s v) := fun k hk => by
          rw [w3, u2_n (by omega), uR_s, rowN_in hk]
          refine ⟨rfl, ?_⟩
          unfold resR
          split
          · exact (hv1 k hk).2
          · exact Nat.le_refl _
        have hF4 : MQf Q q I (uR I1 (Q + 7) (rowN 16 (fun k => nI (resR s v k)) (I1 (Q + 7)))) := hF1.cf (fun b a1 _ => uR_n a1)
        by_cases n2 : sg L ch q 125 = true
        · rw [n2] at w3 ⊢
          rw [if_pos rfl]
          rw [w3] at hv4 ⊢
          exact EMf.s rfl (hF4.tr MQf.u) hv4
        · rw [Bool.eq_false_iff.mpr n2] at w3 ⊢
          rw [if_neg (by decide)]
          have w3 : I_79 = _ := w3.trans (hQ1.cf (fun b a1 _ => uR_n a1)).stay
          rw [w3]
          exact EMf.n rfl hF4
      | succ n ih =>
        intro i  hi
        have hlt : i < 16 := by omega
        refine wa_iload_n hX dX7_takesSet_38 rfl ?_
        refine wa_bipush (v := nI 16) hX dX7_takesSet_39 (by decide) ?_
        refine wa_icmp_ge (tgt := 76) hX dX7_takesSet_41 (by decide) (fun c_41 => absurd c_41 (nI_ge hlt (by decide))) (fun c_41 => ?_)
        refine wa_aload_n hX dX7_takesSet_44 rfl ?_
        refine wa_getR hX fX7_29 rfl q0 qj12 dX7_takesSet_45 ?_
        refine wa_iload_n hX dX7_takesSet_48 rfl ?_
        refine wa_iload_n hX dX7_takesSet_49 rfl ?_
        refine wa_iload_n hX dX7_takesSet_50 rfl ?_
        refine wa_ishr hX dX7_takesSet_51 ?_
        refine wa_iconst (v := nI 1) hX dX7_takesSet_52 (by decide) ?_
        refine wa_iand hX dX7_takesSet_53 ?_
        rw [bt_v (by omega) s]
        refine wa_iconst (v := nI 1) hX dX7_takesSet_54 (by decide) ?_
        refine wa_icmp_ne (tgt := 67) hX dX7_takesSet_55 (by decide) (fun c_55 => ?_) (fun c_55 => ?_)
        · skip
          have d1 : bt s i = false := by
            cases e : bt s i with
            | false => rfl
            | true => rw [e, if_pos rfl] at c_55; exact absurd rfl c_55
          refine wa_bipush (v := nI 16) hX dX7_takesSet_67 (by decide) ?_
          refine wa_iast hX qs7 rfl (by first | assumption | omega) (by decide) dX7_takesSet_69 ?_
          refine wa_iinc hX dX7_takesSet_70 rfl (inc1 _) (by decide) ?_
          refine wa_goto (tgt := 38) hX dX7_takesSet_73 (by decide) ?_
          refine wx_sub (l' := [(0, _), (1, _), (3, _)]) ⟨rfl, rfl, rfl, trivial⟩ ?_
          rw [u2_row (i := i) (show nI 16 = nI (resR s v i) by unfold resR; rw [if_neg (by rw [d1]; decide)])]
          exact ih (i + 1) (by omega)
        · skip
          have d1 : bt s i = true := by
            cases e : bt s i with
            | true => rfl
            | false => rw [e, if_neg (by decide)] at c_55; exact absurd c_55 (by decide)
          refine wa_aload_n hX dX7_takesSet_58 rfl ?_
          refine wa_getR hX fX7_29 rfl q0 qj12 dX7_takesSet_59 ?_
          refine wa_iload_n hX dX7_takesSet_62 rfl ?_
          refine wa_iald hX qs7 rfl (by first | assumption | omega) (by decide) dX7_takesSet_63 ?_
          rw [rd_s, (hv1 i (by omega)).1]
          refine wa_goto (tgt := 69) hX dX7_takesSet_64 (by decide) ?_
          refine wa_iast hX qs7 rfl (by first | assumption | omega) (by decide) dX7_takesSet_69 ?_
          refine wa_iinc hX dX7_takesSet_70 rfl (inc1 _) (by decide) ?_
          refine wa_goto (tgt := 38) hX dX7_takesSet_73 (by decide) ?_
          refine wx_sub (l' := [(0, _), (1, _), (3, _)]) ⟨rfl, rfl, rfl, trivial⟩ ?_
          rw [u2_row (i := i) (show nI (v i) = nI (resR s v i) by unfold resR; rw [if_pos d1])]
          exact ih (i + 1) (by omega)
    refine wa_iload_n hX dX7_takesSet_4 rfl ?_
    refine wa_if_eq (tgt := 36) hX dX7_takesSet_5 (by decide) (fun c_5 => ?_) (fun c_5 => absurd rfl c_5)
    refine wa_iconst (v := nI 0) hX dX7_takesSet_36 (by decide) ?_
    refine wa_istore_n hX dX7_takesSet_37 (by decide) ?_
    refine wx_sub (l' := [(0, _), (1, _), (3, _)]) ⟨rfl, rfl, rfl, trivial⟩ ?_
    have e0 : I1 = uR I1 (Q + 7) (rowN 0 (fun k => nI (resR s v k)) (I1 (Q + 7))) := row_0
    rw (occs := .pos [1]) [e0]
    exact lr 16 0 (by omega)
  have lp : ∀ (n : Nat) (I1 : IM) (s : Int32) (p1 : Nat), L < p1 + n → TQ I1 Q L ch p1 → MQf Q p1 I I1 → RV (I1 (Q + 7)) v → bnd (kstF L ch 60 s p1) (fun s q => (some (resR s v), q)) = bnd (kstF L ch 60 (nI 0) p) (fun s q => (some (resR s v), q)) → WX X 0 0 N Sh I1 J 4 [(0, .ref Q), (1, .int s), (2, .int (bI true))] [] := by
    intro n
    induction n with
    | zero =>
      intro I1 s p1 hn hQ1
      have := hQ1.2.1
      omega
    | succ n ih =>
      intro I1 s p1 hn hQ1 hF1 hv1 hR
      refine wa_iload_n hX dX7_takesSet_4 rfl ?_
      refine wa_if_eq (tgt := 36) hX dX7_takesSet_5 (by decide) (fun c_5 => absurd c_5 (by decide)) (fun c_5 => ?_)
      refine wa_aload_n hX dX7_takesSet_8 rfl ?_
      refine wa_vM hX (tX7_takesKey _ hM hQ1) bX7_takesKey mX7_143 (by decide) (by decide) (ci := 6) ⟨by decide, rfl⟩ q0 rfl rfl (Nat.le_of_ble_eq_true rfl) dX7_takesSet_9 (fun r_9 I_9 q_9 => ?_)
      obtain ⟨w0, w1⟩ := q_9
      subst w0
      refine wa_if_ne (tgt := 17) hX dX7_takesSet_12 (by decide) (fun c_12 => ?_) (fun c_12 => ?_)
      · skip
        have n1 := bI_n0.mp c_12
        obtain ⟨k, q, ek, h1, h2, h3⟩ : ∃ k q, keyF L ch p1 = (some k, q) ∧ p1 < q ∧ q ≤ L ∧ k < 16 := (key_c hQ1.2.1).resolve_left (fun h => by rw [h.1] at n1; cases n1)
        rw [ek] at w1
        have w1 : I_9 = u2 (u2 I1 Q 10 (nI k)) Q 9 (nI q) := w1
        subst w1
        rw [kst_s 59 s p1, bnd_s ek] at hR
        have hQ2 : TQ (u2 (u2 I1 Q 10 (nI k)) Q 9 (nI q)) Q L ch q := hQ1.key h2
        have hF2 := hF1.tr (MQf.ky (q := q) (x := nI k))
        refine wa_iload_n hX dX7_takesSet_17 rfl ?_
        refine wa_iconst (v := nI 1) hX dX7_takesSet_18 (by decide) ?_
        refine wa_aload_n hX dX7_takesSet_19 rfl ?_
        refine wa_getI hX fX7_140 rfl q0 dX7_takesSet_20 ?_
        rw [u2_k (by decide), u2_s]
        refine wa_ishl hX dX7_takesSet_23 ?_
        refine wa_ior hX dX7_takesSet_24 ?_
        refine wa_istore_n hX dX7_takesSet_25 (by decide) ?_
        refine wa_aload_n hX dX7_takesSet_26 rfl ?_
        refine wa_bipush (v := nI 44) hX dX7_takesSet_27 (by decide) ?_
        refine wa_vM hX (tX7_takes _ hM hQ2 (show 44 < 65536 by decide)) bX7_takes mX7_146 (by decide) (by decide) (ci := 6) ⟨by decide, rfl⟩ q0 rfl rfl (Nat.le_of_ble_eq_true rfl) dX7_takesSet_29 (fun r_29 I_29 q_29 => ?_)
        obtain ⟨w2, w3⟩ := q_29
        subst w2
        refine wa_istore_n hX dX7_takesSet_32 (by decide) ?_
        refine wa_goto (tgt := 4) hX dX7_takesSet_33 (by decide) ?_
        refine wx_sub (l' := [(0, _), (1, _), (2, _)]) ⟨rfl, rfl, rfl, trivial⟩ ?_
        by_cases n2 : sg L ch q 44 = true
        · rw [n2] at w3 ⊢
          have n3 := sg_t.mp n2
          rw [if_neg (by rw [sgx_2 n2 (by decide)]; decide), if_pos n2, kst_fuel 59 60 _ (by omega) (by omega) (by omega)] at hR
          have w3 : I_29 = u2 (u2 (u2 I1 Q 10 (nI k)) Q 9 (nI q)) Q 9 (nI (q + 1)) := w3
          rw [w3]
          exact ih _ (s ||| b1 (nI k)) (q + 1) (by omega) (hQ2.mv (by omega)) (hF2.tr MQf.u) (by rw [show (u2 (u2 (u2 I1 Q 10 (nI k)) Q 9 (nI q)) Q 9 (nI (q + 1))) (Q + 7) = I1 (Q + 7) by rw [u2_n (by omega), u2_n (by omega), u2_n (by omega)]]; exact hv1) hR
        · rw [Bool.eq_false_iff.mpr n2] at w3 ⊢
          have w3 : I_29 = _ := w3.trans hQ2.stay
          rw [w3]
          refine tail _ (s ||| b1 (nI k)) q hQ2 hF2 (by rw [show (u2 (u2 I1 Q 10 (nI k)) Q 9 (nI q)) (Q + 7) = I1 (Q + 7) by rw [u2_n (by omega), u2_n (by omega)]]; exact hv1) ?_
          rw [← hR, if_neg n2]
          split <;> rfl
      · skip
        have n1 := bI_0.mp c_12
        have ek : keyF L ch p1 = (none, p1) := by
          rcases key_c (ch := ch) hQ1.2.1 with h | ⟨k, q, e, h1, h2, h3⟩
          · exact h.1
          · rw [e] at n1; cases n1
        rw [ek] at w1
        have w1 : I_9 = I1 := w1
        rw [w1]
        rw [kst_s 59 s p1, bnd_n ek, bnd_n rfl] at hR
        refine wa_iconst (v := nI 0) hX dX7_takesSet_15 (by decide) ?_
        exact hret _ _ _ _ _ ⟨EMf.n hR.symm hF1, rfl⟩ dX7_takesSet_16
  refine wa_iconst (v := nI 0) hX dX7_takesSet_0 (by decide) ?_
  refine wa_istore_n hX dX7_takesSet_1 (by decide) ?_
  refine wa_iconst (v := nI 1) hX dX7_takesSet_2 (by decide) ?_
  refine wa_istore_n hX dX7_takesSet_3 (by decide) ?_
  exact lp 61 _ _ p (by omega) hQ (MQf.rf hQ.2.2) hv rfl

