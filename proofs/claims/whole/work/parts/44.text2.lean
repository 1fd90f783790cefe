/-! the text: what both sides read, as pure functions; then the class Text -/
abbrev RW : Type := Nat → Nat
def bnd {α β : Type} (x : Option α × Nat) (f : α → Nat → Option β × Nat) : Option β × Nat :=
  match x with
  | (none, q) => (none, q)
  | (some a, q) => f a q
/-- the sign c stands at p -/
def sg (L : Nat) (ch : Nat → Nat) (p c : Nat) : Bool := decide (p < L) && decide (ch p = c)
def bw (L : Nat) (ch : Nat → Nat) (p a b : Nat) : Bool := decide (p < L) && (decide (a ≤ ch p) && decide (ch p ≤ b))
def adv (b : Bool) (p : Nat) : Nat := if b = true then p + 1 else p
def keyF (L : Nat) (ch : Nat → Nat) (p : Nat) : Option Nat × Nat :=
  if bw L ch p 48 57 = true then (if ch p = 49 then (if bw L ch (p + 1) 48 53 = true then (some (10 + (ch (p + 1) - 48)), p + 2) else (some 1, p + 1)) else (some (ch p - 48), p + 1)) else (none, p)
def kstF (L : Nat) (ch : Nat → Nat) : Nat → Int32 → Nat → Option Int32 × Nat
  | 0, _, p => (none, p)
  | n + 1, s, p => bnd (keyF L ch p) (fun k q => if sg L ch q 125 = true then (some (s ||| b1 (nI k)), q + 1) else if sg L ch q 44 = true then kstF L ch n (s ||| b1 (nI k)) (q + 1) else (none, q))
def entF (L : Nat) (ch : Nat → Nat) (p : Nat) : Option (Nat × Nat) × Nat :=
  bnd (keyF L ch p) (fun k q => if sg L ch q 62 = true then (if sg L ch (q + 1) 45 = true then (some (k, 16), q + 2) else bnd (keyF L ch (q + 1)) (fun v q2 => (some (k, v), q2))) else (none, q))
def lytF (L : Nat) (ch : Nat → Nat) : Nat → RW → Nat → Option RW × Nat
  | 0, _, p => (none, p)
  | n + 1, w, p => bnd (entF L ch p) (fun e q => if L ≤ q then (some (upF w e.1 e.2), q) else if sg L ch q 44 = true then lytF L ch n (upF w e.1 e.2) (q + 1) else (none, q))
def resR (s : Int32) (v : RW) : RW := fun k => if bt s k = true then v k else 16
def sgnF (L : Nat) (ch : Nat → Nat) (R : Nat) : Nat → RW → Nat → Option RW × Nat
  | 0, v, p => (some v, p)
  | n + 1, v, p => if sg L ch p 126 = true then sgnF L ch R n (invS v R 16) (p + 1)
    else if sg L ch p 94 = true then (if bw L ch (p + 1) 48 57 = true then sgnF L ch R n (itr v (ch (p + 1) - 48)) (p + 2) else (none, p + 1))
    else if sg L ch p 123 = true then bnd (kstF L ch 60 (nI 0) (p + 1)) (fun s q => sgnF L ch R n (resR s v) q)
    else (some v, p)
def compR (t f : RW) : RW := fun k => stp f (t k)
def overR (a t : RW) : RW := fun k => if a k = 16 then t k else a k
def facsF (L : Nat) (ch : Nat → Nat) (fac : Nat → Option RW × Nat) : Nat → RW → Nat → Option RW × Nat
  | 0, t, q => (some t, q)
  | n + 1, t, q => if sg L ch q 46 = true then bnd (fac (q + 1)) (fun f q2 => facsF L ch fac n (compR t f) q2) else (some t, q)
def terF (L : Nat) (ch : Nat → Nat) (fac : Nat → Option RW × Nat) : Nat → RW → Nat → Option RW × Nat
  | 0, a, p => (some a, p)
  | n + 1, a, p => bnd (fac p) (fun t q => bnd (facsF L ch fac 60 t q) (fun t2 q2 => if sg L ch q2 47 = true then terF L ch fac n (overR a t2) (q2 + 1) else (some (overR a t2), q2)))
def facF (L : Nat) (ch : Nat → Nat) (R : Nat) (mv : Nat → RW) : Nat → Nat → Option RW × Nat
  | 0, p => if bw L ch p 65 70 = true then sgnF L ch R 60 (mv (ch p - 65)) (p + 1) else (none, p)
  | b + 1, p => if bw L ch p 65 70 = true then sgnF L ch R 60 (mv (ch p - 65)) (p + 1)
    else if sg L ch p 40 = true then bnd (terF L ch (facF L ch R mv b) 60 (fun _ => 16) (p + 1)) (fun v q => if sg L ch q 41 = true then sgnF L ch R 60 v (q + 1) else (none, q)) else (none, p)
def asnF (L : Nat) (ch : Nat → Nat) (R : Nat) (mv : Nat → RW) : Option (Nat × RW) × Nat :=
  if bw L ch 0 65 70 = true then (if sg L ch 1 61 = true then bnd (terF L ch (facF L ch R mv 4) 60 (fun _ => 16) 2) (fun v q => if L ≤ q then (some (ch 0 - 65, v), q) else (none, q)) else (none, 1)) else (none, 0)
theorem bnd_n {α β : Type} {x : Option α × Nat} {f : α → Nat → Option β × Nat} {q : Nat} (h : x = (none, q)) : bnd x f = (none, q) := by rw [h]; rfl
theorem bnd_s {α β : Type} {x : Option α × Nat} {f : α → Nat → Option β × Nat} {a : α} {q : Nat} (h : x = (some a, q)) : bnd x f = f a q := by rw [h]; rfl
theorem sg_t {L : Nat} {ch : Nat → Nat} {p c : Nat} : sg L ch p c = true ↔ p < L ∧ ch p = c := by simp [sg]
theorem bw_t {L : Nat} {ch : Nat → Nat} {p a b : Nat} : bw L ch p a b = true ↔ p < L ∧ a ≤ ch p ∧ ch p ≤ b := by simp [bw]
theorem sg_f {L : Nat} {ch : Nat → Nat} {p c : Nat} (h : ¬ (p < L ∧ ch p = c)) : sg L ch p c = false := Bool.eq_false_iff.mpr (fun e => h (sg_t.mp e))
theorem bw_f {L : Nat} {ch : Nat → Nat} {p a b : Nat} (h : ¬ (p < L ∧ a ≤ ch p ∧ ch p ≤ b)) : bw L ch p a b = false := Bool.eq_false_iff.mpr (fun e => h (bw_t.mp e))
theorem adv_le {L : Nat} {ch : Nat → Nat} {p c : Nat} (h : p ≤ L) : adv (sg L ch p c) p ≤ L := by
  unfold adv
  split
  · rename_i e
    have := (sg_t.mp e).1
    omega
  · exact h
theorem key_c {L : Nat} {ch : Nat → Nat} {p : Nat} (h : p ≤ L) : (keyF L ch p = (none, p) ∧ bw L ch p 48 57 = false) ∨ ∃ k q, keyF L ch p = (some k, q) ∧ p < q ∧ q ≤ L ∧ k < 16 := by
  unfold keyF
  by_cases e : bw L ch p 48 57 = true
  · rw [if_pos e]
    have h1 := bw_t.mp e
    right
    by_cases e2 : ch p = 49
    · rw [if_pos e2]
      by_cases e3 : bw L ch (p + 1) 48 53 = true
      · rw [if_pos e3]
        have h3 := bw_t.mp e3
        exact ⟨_, _, rfl, by omega, by omega, by omega⟩
      · rw [if_neg e3]
        exact ⟨_, _, rfl, by omega, by omega, by omega⟩
    · rw [if_neg e2]
      exact ⟨_, _, rfl, by omega, by omega, by omega⟩
  · rw [if_neg e]
    exact Or.inl ⟨rfl, Bool.eq_false_iff.mpr e⟩
theorem key_le {L : Nat} {ch : Nat → Nat} {p : Nat} (h : p ≤ L) : (keyF L ch p).2 ≤ L := by
  rcases key_c (ch := ch) h with ⟨e, _⟩ | ⟨k, q, e, h1, h2, h3⟩
  · rw [e]; exact h
  · rw [e]; exact h2
theorem set_c {L : Nat} {ch : Nat → Nat} : ∀ (n : Nat) (s : Int32) {p : Nat}, p ≤ L → (∃ q, kstF L ch n s p = (none, q) ∧ p ≤ q ∧ q ≤ L) ∨ ∃ x q, kstF L ch n s p = (some x, q) ∧ p < q ∧ q ≤ L
  | 0, s, p, h => Or.inl ⟨p, rfl, Nat.le_refl _, h⟩
  | n + 1, s, p, h => by
    unfold kstF
    rcases key_c (ch := ch) h with ⟨e, _⟩ | ⟨k, q, e, h1, h2, h3⟩
    · rw [bnd_n e]; exact Or.inl ⟨p, rfl, Nat.le_refl _, h⟩
    · rw [bnd_s e]
      by_cases e1 : sg L ch q 125 = true
      · rw [if_pos e1]
        have := sg_t.mp e1
        exact Or.inr ⟨_, _, rfl, by omega, by omega⟩
      · rw [if_neg e1]
        by_cases e2 : sg L ch q 44 = true
        · rw [if_pos e2]
          have := sg_t.mp e2
          rcases set_c n (s ||| b1 (nI k)) (show q + 1 ≤ L by omega) with ⟨q2, e3, h4, h5⟩ | ⟨x, q2, e3, h4, h5⟩
          · exact Or.inl ⟨q2, e3, by omega, h5⟩
          · exact Or.inr ⟨x, q2, e3, by omega, h5⟩
        · rw [if_neg e2]
          exact Or.inl ⟨q, rfl, by omega, h2⟩
theorem sgn_c {L : Nat} {ch : Nat → Nat} {R : Nat} : ∀ (n : Nat) (v : RW) {p : Nat}, p ≤ L → ∃ x q, sgnF L ch R n v p = (x, q) ∧ p ≤ q ∧ q ≤ L
  | 0, v, p, h => ⟨_, _, rfl, Nat.le_refl _, h⟩
  | n + 1, v, p, h => by
    unfold sgnF
    by_cases e1 : sg L ch p 126 = true
    · rw [if_pos e1]
      have := sg_t.mp e1
      obtain ⟨x, q, e, h1, h2⟩ := sgn_c (R := R) n (invS v R 16) (show p + 1 ≤ L by omega)
      exact ⟨x, q, e, by omega, h2⟩
    · rw [if_neg e1]
      by_cases e2 : sg L ch p 94 = true
      · rw [if_pos e2]
        have := sg_t.mp e2
        by_cases e3 : bw L ch (p + 1) 48 57 = true
        · rw [if_pos e3]
          have := bw_t.mp e3
          obtain ⟨x, q, e, h1, h2⟩ := sgn_c (R := R) n (itr v (ch (p + 1) - 48)) (show p + 2 ≤ L by omega)
          exact ⟨x, q, e, by omega, h2⟩
        · rw [if_neg e3]
          exact ⟨_, _, rfl, by omega, by omega⟩
      · rw [if_neg e2]
        by_cases e3 : sg L ch p 123 = true
        · rw [if_pos e3]
          have := sg_t.mp e3
          rcases set_c 60 (nI 0) (show p + 1 ≤ L by omega) with ⟨q2, e4, h4, h5⟩ | ⟨x, q2, e4, h4, h5⟩
          · rw [bnd_n e4]; exact ⟨_, _, rfl, by omega, h5⟩
          · rw [bnd_s e4]
            obtain ⟨x2, q, e, h1, h2⟩ := sgn_c (R := R) n (resR x v) h5
            exact ⟨x2, q, e, by omega, h2⟩
        · rw [if_neg e3]
          exact ⟨_, _, rfl, Nat.le_refl _, h⟩
/-- what a reading does to the place: it stays in the text, and a factor takes a sign -/
def GoodP (L : Nat) (fac : Nat → Option RW × Nat) : Prop := ∀ p, p ≤ L → (∃ q, fac p = (none, q) ∧ p ≤ q ∧ q ≤ L) ∨ ∃ x q, fac p = (some x, q) ∧ p < q ∧ q ≤ L
theorem facs_c {L : Nat} {ch : Nat → Nat} {fac : Nat → Option RW × Nat} (hf : GoodP L fac) : ∀ (n : Nat) (t : RW) {p : Nat}, p ≤ L → ∃ x q, facsF L ch fac n t p = (x, q) ∧ p ≤ q ∧ q ≤ L
  | 0, t, p, h => ⟨_, _, rfl, Nat.le_refl _, h⟩
  | n + 1, t, p, h => by
    unfold facsF
    by_cases e1 : sg L ch p 46 = true
    · rw [if_pos e1]
      have := sg_t.mp e1
      rcases hf (p + 1) (by omega) with ⟨q, e, h1, h2⟩ | ⟨x, q, e, h1, h2⟩
      · rw [bnd_n e]; exact ⟨_, _, rfl, by omega, h2⟩
      · rw [bnd_s e]
        obtain ⟨x2, q2, e2, h3, h4⟩ := facs_c hf n (compR t x) h2
        exact ⟨x2, q2, e2, by omega, h4⟩
    · rw [if_neg e1]
      exact ⟨_, _, rfl, Nat.le_refl _, h⟩
theorem ter_c {L : Nat} {ch : Nat → Nat} {fac : Nat → Option RW × Nat} (hf : GoodP L fac) : ∀ (n : Nat) (a : RW) {p : Nat}, p ≤ L → ∃ x q, terF L ch fac n a p = (x, q) ∧ p ≤ q ∧ q ≤ L
  | 0, a, p, h => ⟨_, _, rfl, Nat.le_refl _, h⟩
  | n + 1, a, p, h => by
    unfold terF
    rcases hf p h with ⟨q, e, h1, h2⟩ | ⟨x, q, e, h1, h2⟩
    · rw [bnd_n e]; exact ⟨_, _, rfl, by omega, h2⟩
    · rw [bnd_s e]
      obtain ⟨x2, q2, e2, h3, h4⟩ := facs_c (ch := ch) hf 60 x h2
      cases x2 with
      | none => rw [bnd_n e2]; exact ⟨_, _, rfl, by omega, h4⟩
      | some t2 =>
        rw [bnd_s e2]
        by_cases e3 : sg L ch q2 47 = true
        · rw [if_pos e3]
          have := sg_t.mp e3
          obtain ⟨x3, q3, e4, h5, h6⟩ := ter_c hf n (overR a t2) (show q2 + 1 ≤ L by omega)
          exact ⟨x3, q3, e4, by omega, h6⟩
        · rw [if_neg e3]
          exact ⟨_, _, rfl, by omega, h4⟩
theorem fac_c {L : Nat} {ch : Nat → Nat} {R : Nat} {mv : Nat → RW} : ∀ b, GoodP L (facF L ch R mv b) := by
  have lt : ∀ p, bw L ch p 65 70 = true → ∃ x q, sgnF L ch R 60 (mv (ch p - 65)) (p + 1) = (x, q) ∧ p < q ∧ q ≤ L := by
    intro p e
    have := bw_t.mp e
    obtain ⟨x, q, e2, h1, h2⟩ := sgn_c (R := R) (ch := ch) 60 (mv (ch p - 65)) (show p + 1 ≤ L by omega)
    exact ⟨x, q, e2, by omega, h2⟩
  intro b
  induction b with
  | zero =>
    intro p hp
    unfold facF
    by_cases e : bw L ch p 65 70 = true
    · rw [if_pos e]
      obtain ⟨x, q, e2, h1, h2⟩ := lt p e
      cases x with
      | none => exact Or.inl ⟨q, e2, by omega, h2⟩
      | some x => exact Or.inr ⟨x, q, e2, h1, h2⟩
    · rw [if_neg e]
      exact Or.inl ⟨p, rfl, Nat.le_refl _, hp⟩
  | succ b ih =>
    intro p hp
    unfold facF
    by_cases e : bw L ch p 65 70 = true
    · rw [if_pos e]
      obtain ⟨x, q, e2, h1, h2⟩ := lt p e
      cases x with
      | none => exact Or.inl ⟨q, e2, by omega, h2⟩
      | some x => exact Or.inr ⟨x, q, e2, h1, h2⟩
    · rw [if_neg e]
      by_cases e1 : sg L ch p 40 = true
      · rw [if_pos e1]
        have := sg_t.mp e1
        obtain ⟨x, q, e2, h1, h2⟩ := ter_c (ch := ch) ih 60 (fun _ => 16) (show p + 1 ≤ L by omega)
        cases x with
        | none => rw [bnd_n e2]; exact Or.inl ⟨q, rfl, by omega, h2⟩
        | some v =>
          rw [bnd_s e2]
          by_cases e3 : sg L ch q 41 = true
          · rw [if_pos e3]
            have := sg_t.mp e3
            obtain ⟨x2, q2, e4, h3, h4⟩ := sgn_c (R := R) (ch := ch) 60 v (show q + 1 ≤ L by omega)
            cases x2 with
            | none => exact Or.inl ⟨q2, e4, by omega, h4⟩
            | some x2 => exact Or.inr ⟨x2, q2, e4, by omega, h4⟩
          · rw [if_neg e3]
            exact Or.inl ⟨q, rfl, by omega, h2⟩
      · rw [if_neg e1]
        exact Or.inl ⟨p, rfl, Nat.le_refl _, hp⟩
def oI (x : Option Nat) : Int32 := match x with
  | none => -1
  | some k => nI k
/-- the classs text at t -/
def TX (Sh : SM) (J : JM) (t : Nat) : Prop := Sh t = some (.inr 4) ∧ J t 0 = some (t + 1) ∧ shC Sh (t + 1) 60
def TT (I : IM) (t L : Nat) (ch : Nat → Nat) (p : Nat) : Prop := (L ≤ 60 ∧ I t 1 = nI L) ∧ (p ≤ L ∧ I t 2 = nI p) ∧ ∀ j, j < L → I (t + 1) j = nI (ch j) ∧ ch j < 65536
theorem u2_self {I : IM} {a k : Nat} {v : Int32} (h : I a k = v) : u2 I a k v = I := by
  funext b j
  by_cases e : b = a
  · subst e
    by_cases e2 : j = k
    · subst e2; rw [u2_s]; exact h.symm
    · exact u2_k e2
  · rw [u2_n e]
theorem u2_u2 {I : IM} {a k : Nat} {v w : Int32} : u2 (u2 I a k v) a k w = u2 I a k w := by
  funext b j
  by_cases e : b = a
  · subst e
    by_cases e2 : j = k
    · subst e2; rw [u2_s, u2_s]
    · rw [u2_k e2, u2_k e2, u2_k e2]
  · rw [u2_n e, u2_n e, u2_n e]
theorem TT.mv {I : IM} {t L : Nat} {ch : Nat → Nat} {p q : Nat} (h : TT I t L ch p) (hq : q ≤ L) : TT (u2 I t 2 (nI q)) t L ch q :=
  ⟨⟨h.1.1, by rw [u2_k (by decide)]; exact h.1.2⟩, ⟨hq, u2_s⟩, fun j hj => by rw [u2_n (by omega)]; exact h.2.2 j hj⟩
theorem TT.stay {I : IM} {t L : Nat} {ch : Nat → Nat} {p : Nat} (h : TT I t L ch p) : u2 I t 2 (nI p) = I := u2_self h.2.1.2
theorem isc {a b : Nat} (h : b ≤ a) (ha : a < 2 ^ 31) : nI a - nI b = nI (a - b) := pk_sub h
set_option maxHeartbeats 4000000 in
set_option maxRecDepth 100000 in
theorem tX5_isAtEnd {l : Launch} {D : va_G} {A : Nat → Prop} {N : Nat} {Sh : SM} {J : JM} (I : IM) {t : Nat} (hX5 : TX Sh J t) {L : Nat} {ch : Nat → Nat} {p : Nat} (hT : TT I t L ch p) : CtP l D A yX5_isAtEnd cX5_isAtEnd 1 FieldType.boolean 0 N Sh I J [.ref t] (fun r => r = bI (decide (L ≤ p))) := by
  refine ct_I (l0 := [(0, .ref t)]) (by decide +kernel) (Nat.le_of_ble_eq_true rfl) rfl (fun _ _ _ h => by obtain ⟨rfl, _⟩ := h; exact nar_B _) ?_
  intro X hX hret _ _ _
  have hX : XK X RX5 cX5_isAtEnd 1 0 := hX
  obtain ⟨t0, tj0, ts⟩ := id hX5
  obtain ⟨⟨hL, hl2⟩, ⟨hp1, hp2⟩, hch⟩ := id hT
  refine wa_aload_n hX dX5_isAtEnd_0 rfl ?_
  refine wa_getI hX fX5_19 rfl t0 dX5_isAtEnd_1 ?_
  rw [hp2]
  refine wa_if_lt (tgt := 27) hX dX5_isAtEnd_4 (by decide) (fun c_4 => absurd c_4 (nI_pos (by omega))) (fun c_4 => ?_)
  refine wa_aload_n hX dX5_isAtEnd_7 rfl ?_
  refine wa_getI hX fX5_19 rfl t0 dX5_isAtEnd_8 ?_
  refine wa_aload_n hX dX5_isAtEnd_11 rfl ?_
  refine wa_getI hX fX5_15 rfl t0 dX5_isAtEnd_12 ?_
  rw [hp2]
  rw [hl2]
  refine wa_icmp_ge (tgt := 27) hX dX5_isAtEnd_15 (by decide) (fun c_15 => ?_) (fun c_15 => ?_)
  · skip
    have d1 : L ≤ p := (nI_leI (by omega) (by omega)).mp c_15
    refine wa_iconst (v := nI 1) hX dX5_isAtEnd_27 (by decide) ?_
    refine wa_goto (tgt := 32) hX dX5_isAtEnd_28 (by decide) ?_
    exact hret _ _ _ _ _ ⟨(by rw [decide_eq_true d1]; rfl), rfl, rfl⟩ dX5_isAtEnd_32
  · skip
    have d1 : p < L := Nat.lt_of_not_le (fun h => c_15 ((nI_leI (by omega) (by omega)).mpr h))
    refine wa_aload_n hX dX5_isAtEnd_18 rfl ?_
    refine wa_getI hX fX5_19 rfl t0 dX5_isAtEnd_19 ?_
    refine wa_bipush (v := nI 60) hX dX5_isAtEnd_22 (by decide) ?_
    rw [hp2]
    refine wa_icmp_lt (tgt := 31) hX dX5_isAtEnd_24 (by decide) (fun c_24 => ?_) (fun c_24 => absurd (nI_lt (by omega) (by decide)) c_24)
    refine wa_iconst (v := nI 0) hX dX5_isAtEnd_31 (by decide) ?_
    exact hret _ _ _ _ _ ⟨(by rw [decide_eq_false (by omega)]; rfl), rfl, rfl⟩ dX5_isAtEnd_32

set_option maxHeartbeats 4000000 in
set_option maxRecDepth 100000 in
theorem tX5_take {l : Launch} {D : va_G} {A : Nat → Prop} {N : Nat} {Sh : SM} {J : JM} (I : IM) {t : Nat} (hX5 : TX Sh J t) {L : Nat} {ch : Nat → Nat} {p : Nat} (hT : TT I t L ch p) {c : Nat} (hc : c < 65536) : CtM l D A yX5_take cX5_take 2 FieldType.boolean 1 N Sh I J [.ref t, .int (nI c)] (fun r I' => r = bI (sg L ch p c) ∧ I' = u2 I t 2 (nI (adv (sg L ch p c) p))) := by
  refine ct_I (l0 := [(0, .ref t), (1, .int (nI c))]) (by decide +kernel) (Nat.le_of_ble_eq_true rfl) rfl (fun _ _ _ h => by obtain ⟨⟨rfl, _⟩, _⟩ := h; exact nar_B _) ?_
  intro X hX hret _ _ _
  have hX : XK X RX5 cX5_take 2 1 := hX
  obtain ⟨t0, tj0, ts⟩ := id hX5
  obtain ⟨⟨hL, hl2⟩, ⟨hp1, hp2⟩, hch⟩ := id hT
  refine wa_aload_n hX dX5_take_0 rfl ?_
  refine wa_vP hX (tX5_isAtEnd I hX5 hT) bX5_isAtEnd mX5_22 (by decide) (by decide) (ci := 4) ⟨by decide, rfl⟩ t0 rfl rfl (Nat.le_of_ble_eq_true rfl) dX5_take_1 (fun r_1 q_1 => ?_)
  subst q_1
  refine wa_if_ne (tgt := 20) hX dX5_take_4 (by decide) (fun c_4 => ?_) (fun c_4 => ?_)
  · skip
    have d1 : L ≤ p := of_decide_eq_true (bI_n0.mp c_4)
    have d2 : sg L ch p c = false := sg_f (by omega)
    refine wa_iconst (v := nI 0) hX dX5_take_20 (by decide) ?_
    refine hret _ _ _ _ _ ⟨⟨by rw [d2]; rfl, ?_⟩, rfl⟩ dX5_take_21
    rw [d2]
    exact hT.stay.symm
  · skip
    have d1 : p < L := by have := of_decide_eq_false (bI_0.mp c_4); omega
    refine wa_aload_n hX dX5_take_7 rfl ?_
    refine wa_getR hX fX5_9 rfl t0 tj0 dX5_take_8 ?_
    refine wa_aload_n hX dX5_take_11 rfl ?_
    refine wa_getI hX fX5_19 rfl t0 dX5_take_12 ?_
    rw [hp2]
    refine wa_cald hX ts rfl (show p < 60 by omega) (by decide) dX5_take_15 ?_
    rw [(hch p d1).1]
    refine wa_iload_n hX dX5_take_16 rfl ?_
    refine wa_icmp_eq (tgt := 22) hX dX5_take_17 (by decide) (fun c_17 => ?_) (fun c_17 => ?_)
    · skip
      have d3 : ch p = c := eq_of_nI c_17 (by have := (hch p d1).2; omega) (by omega)
      have d2 : sg L ch p c = true := sg_t.mpr ⟨d1, d3⟩
      refine wa_aload_n hX dX5_take_22 rfl ?_
      refine wa_dup hX dX5_take_23 rfl ?_
      refine wa_getI hX fX5_19 rfl t0 dX5_take_24 ?_
      refine wa_iconst (v := nI 1) hX dX5_take_27 (by decide) ?_
      rw [hp2]
      refine wa_iadd hX dX5_take_28 ?_
      rw [show nI p + nI 1 = nI (p + 1) from nI_add _ 1]
      refine wa_putI hX fX5_19 rfl rfl ⟨rfl, rfl⟩ t0 dX5_take_29 ?_
      refine wa_iconst (v := nI 1) hX dX5_take_32 (by decide) ?_
      refine hret _ _ _ _ _ ⟨⟨by rw [d2]; rfl, ?_⟩, rfl⟩ dX5_take_33
      rw [d2]
      rfl
    · skip
      have d2 : sg L ch p c = false := sg_f (fun e => c_17 (by rw [e.2]))
      refine wa_iconst (v := nI 0) hX dX5_take_20 (by decide) ?_
      refine hret _ _ _ _ _ ⟨⟨by rw [d2]; rfl, ?_⟩, rfl⟩ dX5_take_21
      rw [d2]
      exact hT.stay.symm

set_option maxHeartbeats 4000000 in
set_option maxRecDepth 100000 in
theorem tX5_takeBetween {l : Launch} {D : va_G} {A : Nat → Prop} {N : Nat} {Sh : SM} {J : JM} (I : IM) {t : Nat} (hX5 : TX Sh J t) {L : Nat} {ch : Nat → Nat} {p : Nat} (hT : TT I t L ch p) {a b : Nat} (ha : a < 65536) (hb : b < 65536) : CtM l D A yX5_takeBetween cX5_takeBetween 4 FieldType.int 0 N Sh I J [.ref t, .int (nI a), .int (nI b)] (fun r I' => r = (if bw L ch p a b = true then nI (ch p - a) else -1) ∧ I' = u2 I t 2 (nI (adv (bw L ch p a b) p))) := by
  refine ct_I (l0 := [(0, .ref t), (1, .int (nI a)), (2, .int (nI b))]) (by decide +kernel) (Nat.le_of_ble_eq_true rfl) rfl (fun _ _ _ _ => rfl) ?_
  intro X hX hret _ _ _
  have hX : XK X RX5 cX5_takeBetween 4 0 := hX
  obtain ⟨t0, tj0, ts⟩ := id hX5
  obtain ⟨⟨hL, hl2⟩, ⟨hp1, hp2⟩, hch⟩ := id hT
  refine wa_aload_n hX dX5_takeBetween_0 rfl ?_
  refine wa_getI hX fX5_19 rfl t0 dX5_takeBetween_1 ?_
  rw [hp2]
  refine wa_if_lt (tgt := 53) hX dX5_takeBetween_4 (by decide) (fun c_4 => absurd c_4 (nI_pos (by omega))) (fun c_4 => ?_)
  refine wa_aload_n hX dX5_takeBetween_7 rfl ?_
  refine wa_getI hX fX5_19 rfl t0 dX5_takeBetween_8 ?_
  refine wa_aload_n hX dX5_takeBetween_11 rfl ?_
  refine wa_getI hX fX5_15 rfl t0 dX5_takeBetween_12 ?_
  rw [hp2]
  rw [hl2]
  refine wa_icmp_ge (tgt := 53) hX dX5_takeBetween_15 (by decide) (fun c_15 => ?_) (fun c_15 => ?_)
  · skip
    have d1 : L ≤ p := (nI_leI (by omega) (by omega)).mp c_15
    have d2 : bw L ch p a b = false := bw_f (by omega)
    refine wa_iconst (v := -1) hX dX5_takeBetween_53 (by decide) ?_
    refine hret _ _ _ _ _ ⟨⟨by rw [d2]; rfl, ?_⟩, rfl⟩ dX5_takeBetween_54
    rw [d2]
    exact hT.stay.symm
  · skip
    have d1 : p < L := Nat.lt_of_not_le (fun h => c_15 ((nI_leI (by omega) (by omega)).mpr h))
    refine wa_aload_n hX dX5_takeBetween_18 rfl ?_
    refine wa_getI hX fX5_19 rfl t0 dX5_takeBetween_19 ?_
    refine wa_bipush (v := nI 60) hX dX5_takeBetween_22 (by decide) ?_
    rw [hp2]
    refine wa_icmp_ge (tgt := 53) hX dX5_takeBetween_24 (by decide) (fun c_24 => absurd c_24 (nI_ge (show p < 60 by omega) (by decide))) (fun c_24 => ?_)
    refine wa_aload_n hX dX5_takeBetween_27 rfl ?_
    refine wa_getR hX fX5_9 rfl t0 tj0 dX5_takeBetween_28 ?_
    refine wa_aload_n hX dX5_takeBetween_31 rfl ?_
    refine wa_getI hX fX5_19 rfl t0 dX5_takeBetween_32 ?_
    rw [hp2]
    refine wa_cald hX ts rfl (show p < 60 by omega) (by decide) dX5_takeBetween_35 ?_
    have hcp := hch p d1
    rw [hcp.1]
    refine wa_iload_n hX dX5_takeBetween_36 rfl ?_
    refine wa_icmp_lt (tgt := 53) hX dX5_takeBetween_37 (by decide) (fun c_37 => ?_) (fun c_37 => ?_)
    · skip
      have d3 : ch p < a := (nI_ltI (by omega) (by omega)).mp c_37
      have d2 : bw L ch p a b = false := bw_f (by omega)
      refine wa_iconst (v := -1) hX dX5_takeBetween_53 (by decide) ?_
      refine hret _ _ _ _ _ ⟨⟨by rw [d2]; rfl, ?_⟩, rfl⟩ dX5_takeBetween_54
      rw [d2]
      exact hT.stay.symm
    · skip
      have d3 : a ≤ ch p := Nat.le_of_not_lt (fun h => c_37 (nI_lt h (by omega)))
      refine wa_aload_n hX dX5_takeBetween_40 rfl ?_
      refine wa_getR hX fX5_9 rfl t0 tj0 dX5_takeBetween_41 ?_
      refine wa_aload_n hX dX5_takeBetween_44 rfl ?_
      refine wa_getI hX fX5_19 rfl t0 dX5_takeBetween_45 ?_
      rw [hp2]
      refine wa_cald hX ts rfl (show p < 60 by omega) (by decide) dX5_takeBetween_48 ?_
      rw [hcp.1]
      refine wa_iload_n hX dX5_takeBetween_49 rfl ?_
      refine wa_icmp_le (tgt := 55) hX dX5_takeBetween_50 (by decide) (fun c_50 => ?_) (fun c_50 => ?_)
      · skip
        have d4 : ch p ≤ b := (nI_leI (by omega) (by omega)).mp c_50
        have d2 : bw L ch p a b = true := bw_t.mpr ⟨d1, d3, d4⟩
        refine wa_aload_n hX dX5_takeBetween_55 rfl ?_
        refine wa_getR hX fX5_9 rfl t0 tj0 dX5_takeBetween_56 ?_
        refine wa_aload_n hX dX5_takeBetween_59 rfl ?_
        refine wa_getI hX fX5_19 rfl t0 dX5_takeBetween_60 ?_
        rw [hp2]
        refine wa_cald hX ts rfl (show p < 60 by omega) (by decide) dX5_takeBetween_63 ?_
        rw [hcp.1]
        refine wa_iload_n hX dX5_takeBetween_64 rfl ?_
        refine wa_isub hX dX5_takeBetween_65 ?_
        rw [isc d3 (by omega)]
        refine wa_istore_n hX dX5_takeBetween_66 (by decide) ?_
        refine wa_aload_n hX dX5_takeBetween_67 rfl ?_
        refine wa_dup hX dX5_takeBetween_68 rfl ?_
        refine wa_getI hX fX5_19 rfl t0 dX5_takeBetween_69 ?_
        refine wa_iconst (v := nI 1) hX dX5_takeBetween_72 (by decide) ?_
        rw [hp2]
        refine wa_iadd hX dX5_takeBetween_73 ?_
        rw [show nI p + nI 1 = nI (p + 1) from nI_add _ 1]
        refine wa_putI hX fX5_19 rfl rfl ⟨rfl, rfl⟩ t0 dX5_takeBetween_74 ?_
        refine wa_iload_n hX dX5_takeBetween_77 rfl ?_
        refine hret _ _ _ _ _ ⟨⟨by rw [d2]; rfl, ?_⟩, rfl⟩ dX5_takeBetween_78
        rw [d2]
        rfl
      · skip
        have d2 : bw L ch p a b = false := bw_f (fun e => c_50 (nI_le e.2.2 (by omega)))
        refine wa_iconst (v := -1) hX dX5_takeBetween_53 (by decide) ?_
        refine hret _ _ _ _ _ ⟨⟨by rw [d2]; rfl, ?_⟩, rfl⟩ dX5_takeBetween_54
        rw [d2]
        exact hT.stay.symm

set_option maxHeartbeats 4000000 in
set_option maxRecDepth 100000 in
theorem tX5_takeMap {l : Launch} {D : va_G} {A : Nat → Prop} {N : Nat} {Sh : SM} {J : JM} (I : IM) {t : Nat} (hX5 : TX Sh J t) {L : Nat} {ch : Nat → Nat} {p : Nat} (hT : TT I t L ch p) : CtM l D A yX5_takeMap cX5_takeMap 1 FieldType.int 1 N Sh I J [.ref t] (fun r I' => r = (if bw L ch p 65 70 = true then nI (ch p - 65) else -1) ∧ I' = u2 I t 2 (nI (adv (bw L ch p 65 70) p))) := by
  refine ct_I (l0 := [(0, .ref t)]) (by decide +kernel) (Nat.le_of_ble_eq_true rfl) rfl (fun _ _ _ _ => rfl) ?_
  intro X hX hret _ _ _
  have hX : XK X RX5 cX5_takeMap 1 1 := hX
  obtain ⟨t0, tj0, ts⟩ := id hX5
  obtain ⟨⟨hL, hl2⟩, ⟨hp1, hp2⟩, hch⟩ := id hT
  refine wa_aload_n hX dX5_takeMap_0 rfl ?_
  refine wa_bipush (v := nI 65) hX dX5_takeMap_1 (by decide) ?_
  refine wa_bipush (v := nI 70) hX dX5_takeMap_3 (by decide) ?_
  refine wa_vM hX (tX5_takeBetween I hX5 hT (show 65 < 65536 by decide) (show 70 < 65536 by decide)) bX5_takeBetween mX5_26 (by decide) (by decide) (ci := 4) ⟨by decide, rfl⟩ t0 rfl rfl (Nat.le_of_ble_eq_true rfl) dX5_takeMap_5 (fun r_5 I_5 q_5 => ?_)
  exact hret _ _ _ _ _ ⟨q_5, rfl⟩ dX5_takeMap_8

set_option maxHeartbeats 4000000 in
set_option maxRecDepth 100000 in
theorem tX5_takeDigit {l : Launch} {D : va_G} {A : Nat → Prop} {N : Nat} {Sh : SM} {J : JM} (I : IM) {t : Nat} (hX5 : TX Sh J t) {L : Nat} {ch : Nat → Nat} {p : Nat} (hT : TT I t L ch p) : CtM l D A yX5_takeDigit cX5_takeDigit 1 FieldType.int 1 N Sh I J [.ref t] (fun r I' => r = (if bw L ch p 48 57 = true then nI (ch p - 48) else -1) ∧ I' = u2 I t 2 (nI (adv (bw L ch p 48 57) p))) := by
  refine ct_I (l0 := [(0, .ref t)]) (by decide +kernel) (Nat.le_of_ble_eq_true rfl) rfl (fun _ _ _ _ => rfl) ?_
  intro X hX hret _ _ _
  have hX : XK X RX5 cX5_takeDigit 1 1 := hX
  obtain ⟨t0, tj0, ts⟩ := id hX5
  obtain ⟨⟨hL, hl2⟩, ⟨hp1, hp2⟩, hch⟩ := id hT
  refine wa_aload_n hX dX5_takeDigit_0 rfl ?_
  refine wa_bipush (v := nI 48) hX dX5_takeDigit_1 (by decide) ?_
  refine wa_bipush (v := nI 57) hX dX5_takeDigit_3 (by decide) ?_
  refine wa_vM hX (tX5_takeBetween I hX5 hT (show 48 < 65536 by decide) (show 57 < 65536 by decide)) bX5_takeBetween mX5_26 (by decide) (by decide) (ci := 4) ⟨by decide, rfl⟩ t0 rfl rfl (Nat.le_of_ble_eq_true rfl) dX5_takeDigit_5 (fun r_5 I_5 q_5 => ?_)
  exact hret _ _ _ _ _ ⟨q_5, rfl⟩ dX5_takeDigit_8

