/-! plain facts of numbers, folds and rows -/
theorem inc1 (a : Nat) : nI a + Int32.ofInt 1 = nI (a + 1) := nI_1 a
theorem dec1 (a : Nat) : nI (a + 1) + Int32.ofInt (-1) = nI a := pk_m1 a
def fold {σ : Type} (f : Nat → σ → σ) (s : σ) : Nat → σ
  | 0 => s
  | n + 1 => f n (fold f s n)
theorem fold_s {σ : Type} (f : Nat → σ → σ) (s : σ) (n : Nat) : fold f s (n + 1) = f n (fold f s n) := rfl
theorem fold_congr {σ : Type} {f g : Nat → σ → σ} {s : σ} : ∀ {n : Nat}, (∀ k x, k < n → f k x = g k x) → fold f s n = fold g s n
  | 0, _ => rfl
  | n + 1, h => by
    show f n (fold f s n) = g n (fold g s n)
    rw [fold_congr (n := n) (fun k x hk => h k x (by omega)), h n _ (by omega)]
/-- the first i places of g, the rest of f -/
def rowN (i : Nat) (g f : Nat → Int32) : Nat → Int32 := fun k => if k < i then g k else f k
theorem rowN_0 (g f : Nat → Int32) : rowN 0 g f = f := by funext k; simp [rowN]
theorem rowN_in {i k : Nat} {g f : Nat → Int32} (h : k < i) : rowN i g f k = g k := if_pos h
theorem rowN_out {i k : Nat} {g f : Nat → Int32} (h : i ≤ k) : rowN i g f k = f k := if_neg (by omega)
theorem rowN_s (i : Nat) (g f : Nat → Int32) : upd (rowN i g f) i (g i) = rowN (i + 1) g f := by
  funext k
  by_cases e : k = i
  · subst e; simp [upd, rowN]
  · by_cases h : k < i
    · simp [upd, rowN, e, h, show k < i + 1 by omega]
    · simp [upd, rowN, e, h, show ¬ k < i + 1 by omega]
theorem rowN_e {i : Nat} {g f : Nat → Int32} (h : g i = f i) : rowN i g f = rowN (i + 1) g f := by
  funext k
  by_cases e : k = i
  · subst e; simp [rowN, h]
  · by_cases h : k < i
    · simp [rowN, h, show k < i + 1 by omega]
    · simp [rowN, h, show ¬ k < i + 1 by omega]
theorem uR_uR {I : IM} {a : Nat} {f g : Nat → Int32} : uR (uR I a f) a g = uR I a g := by
  funext b
  by_cases e : b = a <;> simp [uR, e]
theorem uR_self {I : IM} {a : Nat} : uR I a (I a) = I := by
  funext b
  by_cases e : b = a <;> simp [uR, e]
theorem u2_row {I : IM} {a i : Nat} {g f : Nat → Int32} {v : Int32} (h : v = g i) : u2 (uR I a (rowN i g f)) a i v = uR I a (rowN (i + 1) g f) := by
  unfold u2
  rw [uR_uR, uR_s, h, rowN_s]
theorem row_e {I : IM} {a i : Nat} {g f : Nat → Int32} (h : g i = f i) : uR I a (rowN i g f) = uR I a (rowN (i + 1) g f) := by rw [rowN_e h]
theorem row_0 {I : IM} {a : Nat} {g : Nat → Int32} : I = uR I a (rowN 0 g (I a)) := by rw [rowN_0, uR_self]
/-- x has the bit k -/
def tb (x : Int32) (k : Int32) : Bool := decide (x >>> (k &&& 31) &&& nI 1 = nI 1)
def b1 (k : Int32) : Int32 := nI 1 <<< (k &&& 31)
/-- a row of values: each a key or 16 -/
def RV (f : Nat → Int32) (v : Nat → Nat) : Prop := ∀ k, k < 16 → f k = nI (v k) ∧ v k ≤ 16
def stp (v : Nat → Nat) (j : Nat) : Nat := if j < 16 then v j else 16
/-- n steps from j -/
def itr (v : Nat → Nat) : Nat → Nat → Nat
  | 0, j => j
  | n + 1, j => itr v n (stp v j)
theorem stp_le {f : Nat → Int32} {v : Nat → Nat} (h : RV f v) (j : Nat) : stp v j ≤ 16 := by
  unfold stp
  split
  · exact (h j (by assumption)).2
  · omega
theorem stp_16 (v : Nat → Nat) : stp v 16 = 16 := rfl
theorem itr_16 (v : Nat → Nat) : ∀ n, itr v n 16 = 16
  | 0 => rfl
  | n + 1 => itr_16 v n
theorem itr_add (v : Nat → Nat) : ∀ m n j, itr v (m + n) j = itr v n (itr v m j)
  | 0, n, j => by rw [Nat.zero_add]; rfl
  | m + 1, n, j => by rw [Nat.add_right_comm]; exact itr_add v m n (stp v j)
theorem itr_s (v : Nat → Nat) (n j : Nat) : itr v (n + 1) j = stp v (itr v n j) := itr_add v n 1 j
theorem itr_le {f : Nat → Int32} {v : Nat → Nat} (h : RV f v) : ∀ n {j : Nat}, j ≤ 16 → itr v n j ≤ 16
  | 0, _, hj => hj
  | n + 1, _, _ => itr_le h n (stp_le h _)
theorem ne_of_nI {a b : Nat} (h : ¬ nI a = nI b) : a ≠ b := fun e => h (by rw [e])
theorem eq_of_nI {a b : Nat} (h : nI a = nI b) (ha : a < 2 ^ 31) (hb : b < 2 ^ 31) : a = b := (nI_eq ha hb).mp h
theorem nI_ne {a b : Nat} (h : a ≠ b) (ha : a < 2 ^ 31) (hb : b < 2 ^ 31) : ¬ nI a = nI b := fun e => h ((nI_eq ha hb).mp e)
/-- how many of the first n have p -/
def cnt (p : Nat → Bool) : Nat → Nat
  | 0 => 0
  | n + 1 => if p n = true then cnt p n + 1 else cnt p n
theorem cnt_t {p : Nat → Bool} {n : Nat} (h : p n = true) : cnt p (n + 1) = cnt p n + 1 := if_pos h
theorem cnt_f {p : Nat → Bool} {n : Nat} (h : p n = false) : cnt p (n + 1) = cnt p n := if_neg (by rw [h]; decide)
theorem cnt_le (p : Nat → Bool) : ∀ n, cnt p n ≤ n
  | 0 => Nat.le_refl 0
  | n + 1 => by
    have := cnt_le p n
    unfold cnt
    split <;> omega
theorem cnt_congr {p q : Nat → Bool} : ∀ {n : Nat}, (∀ k, k < n → p k = q k) → cnt p n = cnt q n
  | 0, _ => rfl
  | n + 1, h => by
    unfold cnt
    rw [cnt_congr (n := n) (fun k hk => h k (by omega)), h n (by omega)]
theorem cnt_it {p : Nat → Bool} {n : Nat} (h : p n = true) : nI (cnt p n) + Int32.ofInt 1 = nI (cnt p (n + 1)) := by rw [cnt_t h]; exact inc1 _
theorem cnt_if {p : Nat → Bool} {n : Nat} (h : p n = false) : nI (cnt p n) = nI (cnt p (n + 1)) := by rw [cnt_f h]
/-- the uppermost one below n that has p, or -1 -/
def top (p : Nat → Bool) : Nat → Int32
  | 0 => -1
  | n + 1 => if p n = true then nI n else top p n
theorem top_t {p : Nat → Bool} {n : Nat} (h : p n = true) : top p (n + 1) = nI n := if_pos h
theorem top_f {p : Nat → Bool} {n : Nat} (h : p n = false) : top p (n + 1) = top p n := if_neg (by rw [h]; decide)
theorem top_or (p : Nat → Bool) : ∀ n, top p n = -1 ∨ ∃ j, j < n ∧ top p n = nI j ∧ p j = true
  | 0 => Or.inl rfl
  | n + 1 => by
    cases h : p n with
    | true => exact Or.inr ⟨n, by omega, top_t h, h⟩
    | false =>
      rw [top_f h]
      rcases top_or p n with e | ⟨j, h1, h2, h3⟩
      · exact Or.inl e
      · exact Or.inr ⟨j, by omega, h2, h3⟩
theorem top_congr {p q : Nat → Bool} : ∀ {n : Nat}, (∀ k, k < n → p k = q k) → top p n = top q n
  | 0, _ => rfl
  | n + 1, h => by
    unfold top
    rw [top_congr (n := n) (fun k hk => h k (by omega)), h n (by omega)]
/-- the set of those below n that have p, as bits -/
def bset (p : Nat → Bool) : Nat → Int32
  | 0 => nI 0
  | n + 1 => if p n = true then bset p n ||| b1 (nI n) else bset p n
theorem bset_t {p : Nat → Bool} {n : Nat} (h : p n = true) : bset p (n + 1) = bset p n ||| b1 (nI n) := if_pos h
theorem bset_f {p : Nat → Bool} {n : Nat} (h : p n = false) : bset p (n + 1) = bset p n := if_neg (by rw [h]; decide)
theorem bset_congr {p q : Nat → Bool} : ∀ {n : Nat}, (∀ k, k < n → p k = q k) → bset p n = bset q n
  | 0, _ => rfl
  | n + 1, h => by
    unfold bset
    rw [bset_congr (n := n) (fun k hk => h k (by omega)), h n (by omega)]
theorem bt_b1 {k w : Nat} (hk : k < 32) (hw : w < 32) : bt (b1 (nI k)) w = decide (w = k) := bt_sh hk hw
theorem bt_bset {p : Nat → Bool} {w : Nat} (hw : w < 32) : ∀ {n : Nat}, n ≤ 32 → bt (bset p n) w = (decide (w < n) && p w)
  | 0, _ => by
    have : bt (nI 0) w = false := b_0 w
    simp [bset, this]
  | n + 1, hn => by
    have ih := bt_bset (p := p) hw (n := n) (by omega)
    unfold bset
    cases hp : p n with
    | true =>
      simp only [↓reduceIte]
      rw [b_or, ih, bt_b1 (by omega) hw]
      by_cases e : w = n
      · subst e; simp [hp]
      · by_cases h : w < n
        · simp [e, h, show w < n + 1 by omega]
        · simp [e, h, show ¬ w < n + 1 by omega]
    | false =>
      simp only [Bool.false_eq_true, ↓reduceIte]
      rw [ih]
      by_cases e : w = n
      · subst e; simp [hp]
      · by_cases h : w < n
        · simp [h, show w < n + 1 by omega]
        · simp [h, show ¬ w < n + 1 by omega]
/-- the length of the cycle on which j stands, from s steps on, with fuel -/
def cycN (v : Nat → Nat) (j : Nat) : Nat → Nat → Nat
  | 0, _ => 0
  | f + 1, s => if itr v s j = 16 then 0 else if itr v s j = j then s else cycN v j f (s + 1)
def cyc (v : Nat → Nat) (j : Nat) : Nat := cycN v j 16 1
def sthN (v : Nat → Nat) (j : Nat) : Nat → Nat → Int32
  | 0, _ => -5
  | f + 1, s => if itr v (s + 1) j = 16 then nI s else sthN v j f (s + 1)
/-- was itr s met before -/
def metB (v : Nat → Nat) (j s w : Nat) : Bool := (List.range s).any (fun t => decide (itr v t j = w))
def retN (v : Nat → Nat) (j : Nat) : Nat → Nat → Int32
  | 0, _ => -5
  | f + 1, s => if itr v s j = 16 then -5 else if metB v j s (itr v s j) = true then nI s else retN v j f (s + 1)
def metI (v : Nat → Nat) (j : Nat) : Nat → Int32
  | 0 => nI 0
  | s + 1 => metI v j s ||| b1 (nI (itr v s j))
theorem metB_s (v : Nat → Nat) (j s w : Nat) : metB v j (s + 1) w = (metB v j s w || decide (itr v s j = w)) := by
  unfold metB
  rw [List.range_succ, List.any_append]
  simp
theorem bt_metI (v : Nat → Nat) (j : Nat) {w : Nat} (hw : w < 32) : ∀ s, (∀ t, t < s → itr v t j < 32) → bt (metI v j s) w = metB v j s w
  | 0, _ => by
    have : bt (nI 0) w = false := b_0 w
    simpa [metI, metB] using this
  | s + 1, h => by
    unfold metI
    rw [b_or, bt_metI v j hw s (fun t ht => h t (by omega)), bt_b1 (h s (by omega)) hw, metB_s]
    congr 1
    simp [eq_comm]
def maxI (x y : Int32) : Int32 := if x < y then y else x
/-- the inverse of v among the first i keys, at k -/
def invS (v : Nat → Nat) (r : Nat) : Nat → Nat → Nat
  | 0, _ => 16
  | i + 1, k => if v i = k then (if ((List.range i).any (fun t => decide (v t = k)) = false ∨ r = 2) then i else if r ≠ 1 then 16 else invS v r i k) else invS v r i k
theorem invS_le (v : Nat → Nat) (r : Nat) : ∀ i k, i ≤ 16 → invS v r i k ≤ 16
  | 0, _, _ => Nat.le_refl _
  | i + 1, k, h => by
    unfold invS
    have := invS_le v r i k (by omega)
    split
    · split
      · omega
      · split <;> omega
    · exact this
