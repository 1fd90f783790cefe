/-! the readings: enough fuel; the same reading told with a stack of open brackets -/
theorem sg_end {L : Nat} {ch : Nat → Nat} {p c : Nat} (h : L ≤ p) : sg L ch p c = false := sg_f (fun e => by omega)
theorem bw_end {L : Nat} {ch : Nat → Nat} {p a b : Nat} (h : L ≤ p) : bw L ch p a b = false := bw_f (fun e => by omega)
theorem key_end {L : Nat} {ch : Nat → Nat} {p : Nat} (h : L ≤ p) : keyF L ch p = (none, p) := by
  unfold keyF
  rw [bw_end h, if_neg (by decide)]
theorem bnd_as {α β γ : Type} (x : Option α × Nat) (f : α → Nat → Option β × Nat) (g : β → Nat → Option γ × Nat) : bnd (bnd x f) g = bnd x (fun a q => bnd (f a q) g) := by
  rcases x with ⟨_ | a, q⟩ <;> rfl
theorem kst_fuel {L : Nat} {ch : Nat → Nat} : ∀ (n m : Nat) (s : Int32) {p : Nat}, p ≤ L → L ≤ p + n → L ≤ p + m → kstF L ch n s p = kstF L ch m s p
  | 0, 0, _, _, _, _, _ => rfl
  | 0, m + 1, s, p, h, h1, _ => by
    rw [kst_s, bnd_n (key_end (by omega))]
    rfl
  | n + 1, 0, s, p, h, _, h1 => by
    rw [kst_s, bnd_n (key_end (by omega))]
    rfl
  | n + 1, m + 1, s, p, h, h1, h2 => by
    rw [kst_s n, kst_s m]
    rcases key_c (ch := ch) h with ⟨e, _⟩ | ⟨k, q, e, h3, h4, h5⟩
    · rw [bnd_n e, bnd_n e]
    · rw [bnd_s e, bnd_s e]
      by_cases e1 : sg L ch q 125 = true
      · rw [if_pos e1, if_pos e1]
      · rw [if_neg e1, if_neg e1]
        by_cases e2 : sg L ch q 44 = true
        · rw [if_pos e2, if_pos e2]
          have := sg_t.mp e2
          exact kst_fuel n m _ (by omega) (by omega) (by omega)
        · rw [if_neg e2, if_neg e2]
theorem lyt_fuel {L : Nat} {ch : Nat → Nat} : ∀ (n m : Nat) (w : RW) {p : Nat}, p ≤ L → L ≤ p + n → L ≤ p + m → lytF L ch n w p = lytF L ch m w p
  | 0, 0, _, _, _, _, _ => rfl
  | 0, m + 1, s, p, h, h1, _ => by
    rw [lyt_s, bnd_n (show entF L ch p = (none, p) by unfold entF; rw [bnd_n (key_end (by omega))])]
    rfl
  | n + 1, 0, s, p, h, _, h1 => by
    rw [lyt_s, bnd_n (show entF L ch p = (none, p) by unfold entF; rw [bnd_n (key_end (by omega))])]
    rfl
  | n + 1, m + 1, s, p, h, h1, h2 => by
    rw [lyt_s n, lyt_s m]
    rcases ent_c (ch := ch) h with ⟨q, e, _⟩ | ⟨k, v, q, e, h3, h4, h5, h6⟩
    · rw [bnd_n e, bnd_n e]
    · rw [bnd_s e, bnd_s e]
      by_cases e1 : L ≤ q
      · rw [if_pos e1, if_pos e1]
      · rw [if_neg e1, if_neg e1]
        by_cases e2 : sg L ch q 44 = true
        · rw [if_pos e2, if_pos e2]
          have := sg_t.mp e2
          exact lyt_fuel n m _ (by omega) (by omega) (by omega)
        · rw [if_neg e2, if_neg e2]
theorem sgn_fuel {L : Nat} {ch : Nat → Nat} {R : Nat} : ∀ (n m : Nat) (v : RW) {p : Nat}, p ≤ L → L ≤ p + n → L ≤ p + m → sgnF L ch R n v p = sgnF L ch R m v p
  | 0, 0, _, _, _, _, _ => rfl
  | 0, m + 1, v, p, h, h1, _ => by
    rw [sgn_s, sg_end (by omega), sg_end (by omega), sg_end (by omega), if_neg (by decide), if_neg (by decide), if_neg (by decide)]
    rfl
  | n + 1, 0, v, p, h, _, h1 => by
    rw [sgn_s, sg_end (by omega), sg_end (by omega), sg_end (by omega), if_neg (by decide), if_neg (by decide), if_neg (by decide)]
    rfl
  | n + 1, m + 1, v, p, h, h1, h2 => by
    rw [sgn_s n, sgn_s m]
    by_cases e1 : sg L ch p 126 = true
    · rw [if_pos e1, if_pos e1]
      have := sg_t.mp e1
      exact sgn_fuel n m _ (by omega) (by omega) (by omega)
    · rw [if_neg e1, if_neg e1]
      by_cases e2 : sg L ch p 94 = true
      · rw [if_pos e2, if_pos e2]
        by_cases e3 : bw L ch (p + 1) 48 57 = true
        · rw [if_pos e3, if_pos e3]
          have := bw_t.mp e3
          exact sgn_fuel n m _ (by omega) (by omega) (by omega)
        · rw [if_neg e3, if_neg e3]
      · rw [if_neg e2, if_neg e2]
        by_cases e3 : sg L ch p 123 = true
        · rw [if_pos e3, if_pos e3]
          have := sg_t.mp e3
          rcases set_c (ch := ch) 60 (nI 0) (show p + 1 ≤ L by omega) with ⟨q2, e4, h4, h5⟩ | ⟨x, q2, e4, h4, h5⟩
          · rw [bnd_n e4, bnd_n e4]
          · rw [bnd_s e4, bnd_s e4]
            exact sgn_fuel n m _ h5 (by omega) (by omega)
        · rw [if_neg e3, if_neg e3]
theorem facs_s {L : Nat} {ch : Nat → Nat} {fac : Nat → Option RW × Nat} (n : Nat) (t : RW) (q : Nat) : facsF L ch fac (n + 1) t q = (if sg L ch q 46 = true then bnd (fac (q + 1)) (fun f q2 => facsF L ch fac n (compR t f) q2) else (some t, q)) := rfl
theorem ter_s {L : Nat} {ch : Nat → Nat} {fac : Nat → Option RW × Nat} (n : Nat) (a : RW) (p : Nat) : terF L ch fac (n + 1) a p = bnd (fac p) (fun t q => bnd (facsF L ch fac 60 t q) (fun t2 q2 => if sg L ch q2 47 = true then terF L ch fac n (overR a t2) (q2 + 1) else (some (overR a t2), q2))) := rfl
theorem facs_fuel {L : Nat} {ch : Nat → Nat} {fac : Nat → Option RW × Nat} (hf : GoodP L fac) : ∀ (n m : Nat) (t : RW) {p : Nat}, p ≤ L → L ≤ p + n → L ≤ p + m → facsF L ch fac n t p = facsF L ch fac m t p
  | 0, 0, _, _, _, _, _ => rfl
  | 0, m + 1, t, p, h, h1, _ => by
    rw [facs_s, sg_end (by omega), if_neg (by decide)]
    rfl
  | n + 1, 0, t, p, h, _, h1 => by
    rw [facs_s, sg_end (by omega), if_neg (by decide)]
    rfl
  | n + 1, m + 1, t, p, h, h1, h2 => by
    rw [facs_s n, facs_s m]
    by_cases e1 : sg L ch p 46 = true
    · rw [if_pos e1, if_pos e1]
      have := sg_t.mp e1
      rcases hf (p + 1) (by omega) with ⟨q, e, h3, h4⟩ | ⟨x, q, e, h3, h4⟩
      · rw [bnd_n e, bnd_n e]
      · rw [bnd_s e, bnd_s e]
        exact facs_fuel hf n m _ h4 (by omega) (by omega)
    · rw [if_neg e1, if_neg e1]
theorem ter_fuel {L : Nat} {ch : Nat → Nat} {fac : Nat → Option RW × Nat} (hf : GoodP L fac) : ∀ (n m : Nat) (a : RW) {p : Nat}, p ≤ L → L < p + n → L < p + m → terF L ch fac n a p = terF L ch fac m a p
  | 0, _, _, _, h, h1, _ => by omega
  | n + 1, 0, _, _, h, _, h1 => by omega
  | n + 1, m + 1, a, p, h, h1, h2 => by
    rw [ter_s n, ter_s m]
    rcases hf p h with ⟨q, e, h3, h4⟩ | ⟨x, q, e, h3, h4⟩
    · rw [bnd_n e, bnd_n e]
    · rw [bnd_s e, bnd_s e]
      obtain ⟨x2, q2, e2, h5, h6⟩ := facs_c (ch := ch) hf 60 x h4
      cases x2 with
      | none => rw [bnd_n e2, bnd_n e2]
      | some t2 =>
        rw [bnd_s e2, bnd_s e2]
        by_cases e3 : sg L ch q2 47 = true
        · rw [if_pos e3, if_pos e3]
          have := sg_t.mp e3
          exact ter_fuel hf n m _ (by omega) (by omega) (by omega)
        · rw [if_neg e3, if_neg e3]
def hol : RW := fun _ => 16
def cmpO (t : Option RW) (v : RW) : RW := match t with
  | none => v
  | some t => compR t v
abbrev SK : Type := List (RW × Option RW)
def KKF (L : Nat) (ch : Nat → Nat) (R : Nat) (mv : Nat → RW) (b : Nat) (a : RW) (cls : RW → Nat → Option RW × Nat) (t2 : RW) (q2 : Nat) : Option RW × Nat :=
  if sg L ch q2 47 = true then bnd (terF L ch (facF L ch R mv b) 60 (overR a t2) (q2 + 1)) cls else cls (overR a t2) q2
def desF (L : Nat) (ch : Nat → Nat) (R : Nat) (mv : Nat → RW) : SK → RW → Nat → Option RW × Nat
  | [], _, p => (none, p)
  | x :: rest, v, p => bnd (facsF L ch (facF L ch R mv (4 - rest.length)) 60 (cmpO x.2 v) p) (KKF L ch R mv (4 - rest.length) x.1 (fun w q => if rest.length = 0 then (if L ≤ q then (some w, q) else (none, q)) else if sg L ch q 41 = true then bnd (sgnF L ch R 60 w (q + 1)) (fun v2 q2 => desF L ch R mv rest v2 q2) else (none, q)))
def clsF (L : Nat) (ch : Nat → Nat) (R : Nat) (mv : Nat → RW) (rest : SK) (w : RW) (q : Nat) : Option RW × Nat :=
  if rest.length = 0 then (if L ≤ q then (some w, q) else (none, q)) else if sg L ch q 41 = true then bnd (sgnF L ch R 60 w (q + 1)) (fun v2 q2 => desF L ch R mv rest v2 q2) else (none, q)
def facD (L : Nat) (ch : Nat → Nat) (R : Nat) (mv : Nat → RW) (x : RW × Option RW) (rest : SK) (p : Nat) : Option RW × Nat := bnd (facF L ch R mv (4 - rest.length) p) (fun v q => desF L ch R mv (x :: rest) v q)
section DES
variable {L : Nat} {ch : Nat → Nat} {R : Nat} {mv : Nat → RW}
theorem des_s (x : RW × Option RW) (rest : SK) (v : RW) (p : Nat) : desF L ch R mv (x :: rest) v p = bnd (facsF L ch (facF L ch R mv (4 - rest.length)) 60 (cmpO x.2 v) p) (KKF L ch R mv (4 - rest.length) x.1 (clsF L ch R mv rest)) := rfl
theorem ter_des (hL : L ≤ 60) (a : RW) (rest : SK) {p : Nat} (h1 : 1 ≤ p) (hp : p ≤ L) : bnd (terF L ch (facF L ch R mv (4 - rest.length)) 60 a p) (clsF L ch R mv rest) = facD L ch R mv (a, none) rest p := by
  have hf : GoodP L (facF L ch R mv (4 - rest.length)) := fac_c _
  unfold facD
  rw [ter_s 59, bnd_as]
  rcases hf p hp with ⟨q, e, h3, h4⟩ | ⟨x, q, e, h3, h4⟩
  · rw [bnd_n e, bnd_n e]
  · rw [bnd_s e, bnd_s e, des_s, bnd_as]
    show bnd (facsF L ch (facF L ch R mv (4 - rest.length)) 60 x q) _ = bnd (facsF L ch (facF L ch R mv (4 - rest.length)) 60 x q) _
    obtain ⟨x2, q2, e2, h5, h6⟩ := facs_c (ch := ch) hf 60 x h4
    cases x2 with
    | none => rw [bnd_n e2, bnd_n e2]
    | some t2 =>
      rw [bnd_s e2, bnd_s e2]
      unfold KKF
      by_cases e3 : sg L ch q2 47 = true
      · rw [if_pos e3, if_pos e3]
        have := sg_t.mp e3
        rw [ter_fuel hf 59 60 _ (by omega) (by omega) (by omega)]
      · rw [if_neg e3, if_neg e3]
        rfl
theorem sgx_2 {p c c2 : Nat} (h : sg L ch p c = true) (hc : c ≠ c2) : sg L ch p c2 = false := sg_f (fun e => hc ((sg_t.mp h).2.symm.trans e.2))
theorem sg_b {p c a b : Nat} (h : sg L ch p c = true) (hc : ¬ (a ≤ c ∧ c ≤ b)) : bw L ch p a b = false := bw_f (fun e => hc (by rw [← (sg_t.mp h).2]; exact e.2))
theorem fac_open (hL : L ≤ 60) (x : RW × Option RW) (rest : SK) {p : Nat} (h1 : 1 ≤ p) (hr : rest.length < 4) (hs : sg L ch p 40 = true) : facD L ch R mv x rest p = facD L ch R mv (hol, none) (x :: rest) (p + 1) := by
  have hp := (sg_t.mp hs).1
  rw [← ter_des hL hol (x :: rest) (by omega) (by omega)]
  unfold facD
  rw [show 4 - rest.length = (4 - (x :: rest).length) + 1 by simp; omega]
  conv => lhs; arg 1; unfold facF
  rw [sg_b hs (by decide), if_neg (by decide), if_pos hs, bnd_as]
  congr 1
  funext v q
  unfold clsF
  rw [if_neg (show ¬ (x :: rest).length = 0 by simp)]
  by_cases e : sg L ch q 41 = true
  · rw [if_pos e, if_pos e]
  · rw [if_neg e, if_neg e]
    rfl
theorem fac_letter (x : RW × Option RW) (rest : SK) {p : Nat} (hs : bw L ch p 65 70 = true) : facD L ch R mv x rest p = bnd (sgnF L ch R 60 (mv (ch p - 65)) (p + 1)) (fun v q => desF L ch R mv (x :: rest) v q) := by
  unfold facD
  cases hb : 4 - rest.length with
  | zero =>
    conv => lhs; arg 1; unfold facF
    rw [if_pos hs]
  | succ b =>
    conv => lhs; arg 1; unfold facF
    rw [if_pos hs]
theorem fac_no (x : RW × Option RW) (rest : SK) {p : Nat} (hs : bw L ch p 65 70 = false) (h2 : 4 ≤ rest.length ∨ sg L ch p 40 = false) : facD L ch R mv x rest p = (none, p) := by
  unfold facD
  cases hb : 4 - rest.length with
  | zero =>
    conv => lhs; arg 1; unfold facF
    rw [if_neg (by rw [hs]; decide)]
    rfl
  | succ b =>
    have h3 : sg L ch p 40 = false := h2.resolve_left (by omega)
    conv => lhs; arg 1; unfold facF
    rw [if_neg (by rw [hs]; decide), if_neg (by rw [h3]; decide)]
    rfl
theorem des_dot (hL : L ≤ 60) (x : RW × Option RW) (rest : SK) (v : RW) {p : Nat} (hs : sg L ch p 46 = true) : desF L ch R mv (x :: rest) v p = facD L ch R mv (x.1, some (cmpO x.2 v)) rest (p + 1) := by
  have hf : GoodP L (facF L ch R mv (4 - rest.length)) := fac_c _
  have hp := (sg_t.mp hs).1
  unfold facD
  rw [des_s, facs_s 59, if_pos hs, bnd_as]
  rcases hf (p + 1) (by omega) with ⟨q, e, h3, h4⟩ | ⟨f, q, e, h3, h4⟩
  · rw [bnd_n e, bnd_n e]
  · rw [bnd_s e, bnd_s e, des_s, facs_fuel hf 59 60 _ h4 (by omega) (by omega)]
    rfl
theorem des_nodot (x : RW × Option RW) (rest : SK) (v : RW) {p : Nat} (hs : sg L ch p 46 = false) : desF L ch R mv (x :: rest) v p = KKF L ch R mv (4 - rest.length) x.1 (clsF L ch R mv rest) (cmpO x.2 v) p := by
  rw [des_s, facs_s 59, if_neg (by rw [hs]; decide)]
  rfl
theorem des_slash (hL : L ≤ 60) (x : RW × Option RW) (rest : SK) (v : RW) {p : Nat} (hs : sg L ch p 47 = true) : desF L ch R mv (x :: rest) v p = facD L ch R mv (overR x.1 (cmpO x.2 v), none) rest (p + 1) := by
  have hp := (sg_t.mp hs).1
  rw [des_nodot x rest v (sgx_2 hs (by decide)), ← ter_des hL _ rest (by omega) (by omega)]
  unfold KKF
  rw [if_pos hs]
theorem des_cls (x : RW × Option RW) (rest : SK) (v : RW) {p : Nat} (h1 : sg L ch p 46 = false) (h2 : sg L ch p 47 = false) : desF L ch R mv (x :: rest) v p = clsF L ch R mv rest (overR x.1 (cmpO x.2 v)) p := by
  rw [des_nodot x rest v h1]
  unfold KKF
  rw [if_neg (by rw [h2]; decide)]
theorem des_close (x y : RW × Option RW) (rest : SK) (v : RW) {p : Nat} (hs : sg L ch p 41 = true) : desF L ch R mv (x :: y :: rest) v p = bnd (sgnF L ch R 60 (overR x.1 (cmpO x.2 v)) (p + 1)) (fun v2 q2 => desF L ch R mv (y :: rest) v2 q2) := by
  rw [des_cls x _ v (sgx_2 hs (by decide)) (sgx_2 hs (by decide))]
  unfold clsF
  rw [if_neg (by simp), if_pos hs]
theorem des_end (x : RW × Option RW) (rest : SK) (v : RW) {p : Nat} (hp : L ≤ p) : desF L ch R mv (x :: rest) v p = if rest.length = 0 then (some (overR x.1 (cmpO x.2 v)), p) else (none, p) := by
  rw [des_cls x _ v (sg_end hp) (sg_end hp)]
  unfold clsF
  rw [if_pos hp, sg_end hp]
  rfl
theorem des_no (x : RW × Option RW) (rest : SK) (v : RW) {p : Nat} (h1 : sg L ch p 46 = false) (h2 : sg L ch p 47 = false) (h3 : rest.length = 0 ∨ sg L ch p 41 = false) (hp : p < L) : desF L ch R mv (x :: rest) v p = (none, p) := by
  rw [des_cls x _ v h1 h2]
  unfold clsF
  by_cases e : rest.length = 0
  · rw [if_pos e, if_neg (by omega)]
  · rw [if_neg e, if_neg (by rw [h3.resolve_left e]; decide)]
theorem asn_des (hL : L ≤ 60) (h1 : bw L ch 0 65 70 = true) (h2 : sg L ch 1 61 = true) : asnF L ch R mv = bnd (facD L ch R mv (hol, none) [] 2) (fun v q => (some (ch 0 - 65, v), q)) := by
  have hp := (sg_t.mp h2).1
  unfold asnF
  rw [if_pos h1, if_pos h2, ← ter_des hL hol [] (by decide) (by omega), bnd_as]
  congr 1
  funext v q
  unfold clsF
  rw [if_pos (show ([] : SK).length = 0 from rfl)]
  by_cases e : L ≤ q
  · rw [if_pos e, if_pos e]
    rfl
  · rw [if_neg e, if_neg e]
    rfl
end DES
