/-! plain facts of walks: pigeons, cycles -/
theorem php : ∀ (n : Nat) (f : Nat → Nat), (∀ i, i ≤ n → f i < n) → ∃ i j, i < j ∧ j ≤ n ∧ f i = f j
  | 0, f, h => absurd (h 0 (Nat.le_refl 0)) (by omega)
  | n + 1, f, h => by
    by_cases hx : ∃ i, i ≤ n ∧ f i = f (n + 1)
    · obtain ⟨i, h1, h2⟩ := hx
      exact ⟨i, n + 1, by omega, Nat.le_refl _, h2⟩
    · have hx : ∀ i, i ≤ n → f i ≠ f (n + 1) := fun i hi e => hx ⟨i, hi, e⟩
      obtain ⟨i, j, h1, h2, h3⟩ := php n (fun i => if f i = n then f (n + 1) else f i) (fun i hi => by
        have a1 := h i (by omega)
        have a2 := h (n + 1) (by omega)
        have a3 := hx i hi
        show (if f i = n then f (n + 1) else f i) < n
        split
        · omega
        · omega)
      refine ⟨i, j, h1, by omega, ?_⟩
      have a1 := hx i (by omega)
      have a2 := hx j h2
      try simp only at h3
      split at h3 <;> split at h3 <;> omega
theorem itr_lt {v : Nat → Nat} {n j : Nat} (h : itr v n j ≠ 16) {f : Nat → Int32} (hv : RV f v) (hj : j ≤ 16) : ∀ t, t ≤ n → itr v t j < 16 := by
  intro t ht
  have h1 := itr_le hv t hj
  rcases Nat.lt_or_ge (itr v t j) 16 with h2 | h2
  · exact h2
  · have h3 : itr v t j = 16 := by omega
    exact absurd (by rw [show n = t + (n - t) by omega, itr_add, h3, itr_16]) h
/-- who has gone 16 steps stands on a cycle -/
theorem itr_cyc {v : Nat → Nat} {j : Nat} (h : itr v 16 j ≠ 16) {f : Nat → Int32} (hv : RV f v) (hj : j ≤ 16) : ∃ s, 1 ≤ s ∧ s ≤ 16 ∧ itr v s (itr v 16 j) = itr v 16 j := by
  obtain ⟨p, q, h1, h2, h3⟩ := php 16 (fun t => itr v t j) (fun t ht => itr_lt h hv hj t ht)
  try simp only at h3
  refine ⟨q - p, by omega, by omega, ?_⟩
  have e1 : itr v 16 j = itr v (16 - p) (itr v p j) := by rw [← itr_add, show p + (16 - p) = 16 by omega]
  calc itr v (q - p) (itr v 16 j) = itr v (16 + (q - p)) j := (itr_add v _ _ _).symm
    _ = itr v (q + (16 - p)) j := by rw [show 16 + (q - p) = q + (16 - p) by omega]
    _ = itr v (16 - p) (itr v q j) := itr_add v _ _ _
    _ = itr v 16 j := by rw [← h3, e1]
theorem cycN_spec {v : Nat → Nat} {j : Nat} (hj : j ≠ 16) : ∀ (f s : Nat), (∃ t, s ≤ t ∧ t < s + f ∧ itr v t j = j) → s ≤ cycN v j f s ∧ cycN v j f s < s + f ∧ itr v (cycN v j f s) j = j
  | 0, s, ⟨t, h1, h2, _⟩ => absurd h1 (by omega)
  | f + 1, s, ⟨t, h1, h2, h3⟩ => by
    unfold cycN
    have h16 : ¬ itr v s j = 16 := by
      intro e
      have : itr v t j = 16 := by rw [show t = s + (t - s) by omega, itr_add, e, itr_16]
      exact hj (h3.symm.trans this)
    rw [if_neg h16]
    by_cases e : itr v s j = j
    · rw [if_pos e]
      exact ⟨Nat.le_refl _, by omega, e⟩
    · rw [if_neg e]
      have hne : s ≠ t := fun q => e (q ▸ h3)
      have := cycN_spec hj f (s + 1) ⟨t, by omega, by omega, h3⟩
      exact ⟨by omega, by omega, this.2.2⟩
theorem cyc_16 (v : Nat → Nat) : cyc v 16 = 0 := by
  show cycN v 16 (15 + 1) 1 = 0
  unfold cycN
  rw [if_pos (itr_16 v 1)]
theorem itr_mul {v : Nat → Nat} {c j : Nat} (h : itr v c j = j) : ∀ q, itr v (c * q) j = j
  | 0 => rfl
  | q + 1 => by rw [Nat.mul_succ, itr_add, itr_mul h q, h]
theorem itr_mod {v : Nat → Nat} {c j : Nat} (h : itr v c j = j) (n : Nat) : itr v n j = itr v (n % c) j := by
  rw (occs := .pos [1]) [← Nat.div_add_mod n c]
  rw [itr_add, itr_mul h]
theorem cyc_at {v : Nat → Nat} {j : Nat} (h : itr v 16 j ≠ 16) {f : Nat → Int32} (hv : RV f v) (hj : j ≤ 16) : 1 ≤ cyc v (itr v 16 j) ∧ cyc v (itr v 16 j) ≤ 16 ∧ itr v (cyc v (itr v 16 j)) (itr v 16 j) = itr v 16 j := by
  obtain ⟨s, h1, h2, h3⟩ := itr_cyc h hv hj
  have := cycN_spec h 16 1 ⟨s, h1, by omega, h3⟩
  exact ⟨this.1, by have := this.2.1; unfold cyc; omega, this.2.2⟩
theorem far_0 {v : Nat → Nat} {j n : Nat} (hn : 16 ≤ n) {f : Nat → Int32} (hv : RV f v) (hj : j ≤ 16) (h : cyc v (itr v 16 j) = 0) : itr v n j = 16 := by
  by_cases e : itr v 16 j = 16
  · rw [show n = 16 + (n - 16) by omega, itr_add, e, itr_16]
  · have := (cyc_at e hv hj).1
    omega
theorem far_1 {v : Nat → Nat} {j n : Nat} (hn : 16 ≤ n) {f : Nat → Int32} (hv : RV f v) (hj : j ≤ 16) (h : cyc v (itr v 16 j) ≠ 0) : itr v n j = itr v ((n - 16) % cyc v (itr v 16 j)) (itr v 16 j) := by
  have e : itr v 16 j ≠ 16 := fun e => h (by rw [e, cyc_16])
  rw [show n = 16 + (n - 16) by omega, itr_add, itr_mod (cyc_at e hv hj).2.2, show 16 + (n - 16) - 16 = n - 16 by omega]
theorem rd_s {I : IM} {a i : Nat} {g f : Nat → Int32} : uR I a (rowN i g f) a i = f i := by rw [uR_s, rowN_out (Nat.le_refl i)]
theorem row_up {I : IM} {b w : Nat} {x : Int32} {G G' f : Nat → Int32} (hw : w < 16) (h : ∀ k, k < 16 → G' k = if k = w then x else G k) : u2 (uR I b (rowN 16 G f)) b w x = uR I b (rowN 16 G' f) := by
  unfold u2
  rw [uR_uR, uR_s]
  congr 1
  funext k
  by_cases e : k = w
  · subst e; simp [upd, rowN, hw, h k hw]
  · by_cases h2 : k < 16
    · simp [upd, rowN, e, h2, h k h2]
    · simp [upd, rowN, e, h2]
theorem row_cg {I : IM} {b n : Nat} {G G' f : Nat → Int32} (h : ∀ k, k < n → G k = G' k) : uR I b (rowN n G f) = uR I b (rowN n G' f) := by
  congr 1
  funext k
  by_cases h2 : k < n
  · simp [rowN, h2, h k h2]
  · simp [rowN, h2]
def anyB (v : Nat → Nat) (i k : Nat) : Bool := (List.range i).any (fun t => decide (v t = k))
theorem anyB_s (v : Nat → Nat) (i k : Nat) : anyB v (i + 1) k = (anyB v i k || decide (v i = k)) := by
  unfold anyB
  rw [List.range_succ, List.any_append]
  simp
def mtI (v : Nat → Nat) : Nat → Int32
  | 0 => nI 0
  | s + 1 => if v s < 16 then mtI v s ||| b1 (nI (v s)) else mtI v s
theorem bt_mtI (v : Nat → Nat) {w : Nat} (hw : w < 16) : ∀ s, bt (mtI v s) w = anyB v s w
  | 0 => by
    have : bt (nI 0) w = false := b_0 w
    simpa [mtI, anyB] using this
  | s + 1 => by
    unfold mtI
    rw [anyB_s]
    by_cases h : v s < 16
    · rw [if_pos h, b_or, bt_mtI v hw s, bt_b1 (by omega) (by omega)]
      congr 1
      simp [eq_comm]
    · rw [if_neg h, bt_mtI v hw s, decide_eq_false (by omega), Bool.or_false]
