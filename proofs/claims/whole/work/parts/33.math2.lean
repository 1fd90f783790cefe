/-! plain facts: the first repeated key and the cycle -/
theorem metB_t {v : Nat → Nat} {j s w : Nat} (h : metB v j s w = true) : ∃ t, t < s ∧ itr v t j = w := by
  unfold metB at h
  obtain ⟨t, h1, h2⟩ := List.any_eq_true.mp h
  exact ⟨t, List.mem_range.mp h1, of_decide_eq_true h2⟩
theorem metB_f {v : Nat → Nat} {j s w : Nat} (h : metB v j s w = false) : ∀ t, t < s → itr v t j ≠ w := by
  intro t ht e
  unfold metB at h
  have := List.any_eq_false.mp h t (List.mem_range.mpr ht)
  simp [e] at this
/-- no key is met twice, and no hole, before s -/
def frs (v : Nat → Nat) (j s : Nat) : Prop := ∀ t, t < s → itr v t j < 16 ∧ metB v j t (itr v t j) = false
theorem frs_17 {v : Nat → Nat} {j : Nat} (h : frs v j 17) : False := by
  obtain ⟨p, q, h1, h2, h3⟩ := php 16 (fun t => itr v t j) (fun t ht => (h t (by omega)).1)
  exact metB_f (h q (by omega)).2 p h1 h3
theorem frs_s {v : Nat → Nat} {j s : Nat} (h : frs v j s) (h1 : itr v s j < 16) (h2 : metB v j s (itr v s j) = false) : frs v j (s + 1) := by
  intro t ht
  rcases Nat.lt_succ_iff_lt_or_eq.mp ht with q | q
  · exact h t q
  · subst q; exact ⟨h1, h2⟩
/-- what retN finds from s on -/
theorem ret_spec {v : Nat → Nat} {j : Nat} : ∀ (f s : Nat), f + s = 17 → frs v j s → itr v s j ≤ 16 → (∀ n, itr v n j ≤ 16) → (retN v j f s = -5 ∧ ∃ t, t ≤ 16 ∧ frs v j t ∧ itr v t j = 16) ∨ ∃ t, t ≤ 16 ∧ retN v j f s = nI t ∧ frs v j t ∧ itr v t j < 16 ∧ metB v j t (itr v t j) = true
  | 0, s, hs, hf, _, _ => by
    have : s = 17 := by omega
    subst this
    exact (frs_17 hf).elim
  | f + 1, s, hs, hf, h16, hall => by
    unfold retN
    by_cases e : itr v s j = 16
    · rw [if_pos e]
      exact Or.inl ⟨rfl, s, by omega, hf, e⟩
    · rw [if_neg e]
      cases hm : metB v j s (itr v s j) with
      | true =>
        rw [if_pos rfl]
        exact Or.inr ⟨s, by omega, rfl, hf, by omega, hm⟩
      | false =>
        rw [if_neg (by decide)]
        exact ret_spec f (s + 1) (by omega) (frs_s hf (by omega) hm) (hall _) hall
theorem ret_01 {v : Nat → Nat} {j : Nat} (hj : j < 16) : retN v j 17 0 = retN v j 16 1 := by
  show retN v j (16 + 1) 0 = _
  unfold retN
  have h0 : itr v 0 j = j := rfl
  rw [h0, if_neg (by omega), if_neg (by simp [metB])]
  rfl
theorem ret_all {v : Nat → Nat} {j : Nat} (hj : j < 16) {f : Nat → Int32} (hv : RV f v) : (retN v j 17 0 = -5 ∧ ∃ t, t ≤ 16 ∧ itr v t j = 16) ∨ ∃ t, 1 ≤ t ∧ t ≤ 16 ∧ retN v j 17 0 = nI t ∧ frs v j t ∧ itr v t j < 16 ∧ metB v j t (itr v t j) = true := by
  rw [ret_01 hj]
  have h1 : frs v j 1 := by
    intro t ht
    have : t = 0 := by omega
    subst this
    exact ⟨hj, by simp [metB]⟩
  rcases ret_spec 16 1 (by omega) h1 (itr_le hv 1 (by omega)) (fun n => itr_le hv n (by omega)) with ⟨a, t, b, _, c⟩ | ⟨t, a, b, c, d, e⟩
  · exact Or.inl ⟨a, t, b, c⟩
  · refine Or.inr ⟨t, ?_, a, b, c, d, e⟩
    rcases Nat.eq_zero_or_pos t with q | q
    · subst q
      simp [metB] at e
    · exact q
theorem itr_abs {v : Nat → Nat} {j a b : Nat} (h : itr v a j = 16) (hab : a ≤ b) : itr v b j = 16 := by
  rw [show b = a + (b - a) by omega, itr_add, h, itr_16]
/-- who comes back meets no hole -/
theorem back_16 {v : Nat → Nat} {j c t : Nat} (hj : j < 16) (hc : 1 ≤ c) (h : itr v c j = j) : itr v t j ≠ 16 := by
  intro e
  have h1 : itr v (c * t) j = j := itr_mul h t
  have h2 : itr v (c * t) j = 16 := itr_abs e (by have := Nat.mul_le_mul_right t hc; omega)
  omega
theorem cycN_0 {v : Nat → Nat} {j : Nat} : ∀ (f s : Nat), (∀ t, s ≤ t → t < s + f → itr v t j ≠ j) → cycN v j f s = 0
  | 0, _, _ => rfl
  | f + 1, s, h => by
    unfold cycN
    split
    · rfl
    · rw [if_neg (h s (by omega) (by omega))]
      exact cycN_0 f (s + 1) (fun t h1 h2 => h t (by omega) (by omega))
theorem cyc_min {v : Nat → Nat} {j : Nat} (hj : j ≠ 16) : ∀ (f s c : Nat), s ≤ c → c < s + f → itr v c j = j → (∀ t, s ≤ t → t < c → itr v t j ≠ j) → cycN v j f s = c
  | 0, s, c, h1, h2, _, _ => absurd h1 (by omega)
  | f + 1, s, c, h1, h2, h3, h4 => by
    unfold cycN
    have h16 : ¬ itr v s j = 16 := fun e => hj (h3.symm.trans (itr_abs e h1))
    rw [if_neg h16]
    by_cases e : itr v s j = j
    · rw [if_pos e]
      rcases Nat.lt_or_ge s c with q | q
      · exact absurd e (h4 s (Nat.le_refl s) q)
      · omega
    · rw [if_neg e]
      have hne : s ≠ c := fun q => e (q ▸ h3)
      exact cyc_min hj f (s + 1) c (by omega) (by omega) h3 (fun t a b => h4 t (by omega) b)
theorem cyc_of {v : Nat → Nat} {j c : Nat} (hj : j < 16) (h1 : 1 ≤ c) (h2 : c ≤ 16) (h3 : itr v c j = j) (h4 : ∀ t, 1 ≤ t → t < c → itr v t j ≠ j) : cyc v j = c := cyc_min (by omega) 16 1 c h1 (by omega) h3 h4
/-- the model's way to the cycle's length -/
theorem cyc_ret {v : Nat → Nat} {j : Nat} (hj : j < 16) {f : Nat → Int32} (hv : RV f v) : (retN v j 17 0 = -5 ∧ cyc v j = 0) ∨ ∃ t, 1 ≤ t ∧ t ≤ 16 ∧ retN v j 17 0 = nI t ∧ itr v t j < 16 ∧ cyc v j = if itr v t j = j then t else 0 := by
  rcases ret_all hj hv with ⟨a, t, b, c⟩ | ⟨t, a, b, c, d, e, g⟩
  · refine Or.inl ⟨a, cycN_0 16 1 (fun u h1 h2 h3 => back_16 hj h1 h3 c)⟩
  · refine Or.inr ⟨t, a, b, c, e, ?_⟩
    have hne : ∀ u, 1 ≤ u → u < t → itr v u j ≠ j := fun u h1 h2 q => metB_f (d u h2).2 0 (by omega) q.symm
    by_cases q : itr v t j = j
    · rw [if_pos q]
      exact cyc_of hj a b q hne
    · rw [if_neg q]
      obtain ⟨p, h1, h2⟩ := metB_t g
      have hp : 1 ≤ p := by
        rcases Nat.eq_zero_or_pos p with z | z
        · subst z; exact absurd h2.symm q
        · exact z
      have nob : ∀ u, 1 ≤ u → itr v u j ≠ j := by
        intro u
        induction u using Nat.strongRecOn with
        | _ u ih =>
          intro hu hb
          rcases Nat.lt_or_ge u t with z | z
          · exact hne u hu z hb
          · have e1 : itr v u j = itr v (p + (u - t)) j := by
              rw [itr_add, h2, ← itr_add, show t + (u - t) = u by omega]
            exact ih (p + (u - t)) (by omega) (by omega) (e1 ▸ hb)
      exact cycN_0 16 1 (fun u h1 h2 => nob u h1)
/-- the length is the same all along a cycle -/
theorem cyc_same {v : Nat → Nat} {x n c : Nat} (hx : x < 16) (hc : 1 ≤ c) (hc2 : c ≤ 16) (h : itr v c x = x) {f : Nat → Int32} (hv : RV f v) : cyc v (itr v n x) = cyc v x := by
  have hspec := cycN_spec (v := v) (j := x) (by omega) 16 1 ⟨c, hc, by omega, h⟩
  have h1 : 1 ≤ cyc v x := hspec.1
  have h2 : cyc v x < 17 := hspec.2.1
  have h3 : itr v (cyc v x) x = x := hspec.2.2
  have hy : itr v n x < 16 := by
    have := itr_le hv n (show x ≤ 16 by omega)
    have := back_16 (t := n) hx h1 h3
    omega
  have back : ∀ d, itr v d (itr v n x) = itr v n x → itr v d x = x := by
    intro d hd
    have e1 : itr v (d + n) x = itr v n x := by rw [Nat.add_comm, itr_add]; exact hd
    have e2 : itr v (cyc v x * n - n) (itr v n x) = x := by
      rw [← itr_add, show n + (cyc v x * n - n) = cyc v x * n by have := Nat.mul_le_mul_right n h1; omega]
      exact itr_mul h3 n
    have e3 : itr v (cyc v x * n - n) (itr v (d + n) x) = itr v d x := by
      rw [← itr_add, show d + n + (cyc v x * n - n) = cyc v x * n + d by have := Nat.mul_le_mul_right n h1; omega, itr_add, itr_mul h3 n]
    rw [← e3, e1, e2]
  refine cyc_of hy h1 (by omega) ?_ (fun t a b q => ?_)
  · rw [← itr_add, Nat.add_comm, itr_add, h3]
  · have hb := back t q
    have := cyc_of (v := v) hx h1 (by omega) h3
    have hmin := cycN_spec (v := v) (j := x) (by omega) t 1 ⟨t, a, by omega, hb⟩
    have hle : ∀ (g s : Nat), s + g ≤ 17 → ∀ u, s ≤ u → u < s + g → itr v u x = x → cycN v x g s ≤ u := by
      intro g
      induction g with
      | zero => intro s _ u a1 a2; omega
      | succ g ih =>
        intro s hs u a1 a2 a3
        unfold cycN
        split
        · omega
        · split
          · exact a1
          · rename_i n1 n2
            have : s ≠ u := fun z => n2 (z ▸ a3)
            exact ih (s + 1) (by omega) u (by omega) (by omega) a3
    have := hle 16 1 (by omega) t a (by omega) hb
    have e9 : cyc v x = cycN v x 16 1 := rfl
    omega
theorem sth_none {v : Nat → Nat} {j : Nat} : ∀ (f s : Nat), (∀ t, s < t → t ≤ s + f → itr v t j ≠ 16) → sthN v j f s = -5
  | 0, _, _ => rfl
  | f + 1, s, h => by
    unfold sthN
    rw [if_neg (h (s + 1) (by omega) (by omega))]
    exact sth_none f (s + 1) (fun t a b => h t (by omega) (by omega))
theorem sth_at {v : Nat → Nat} {j : Nat} : ∀ (f s c : Nat), s ≤ c → c < s + f → itr v (c + 1) j = 16 → (∀ t, s ≤ t → t < c → itr v (t + 1) j ≠ 16) → sthN v j f s = nI c
  | 0, s, c, h1, h2, _, _ => absurd h1 (by omega)
  | f + 1, s, c, h1, h2, h3, h4 => by
    unfold sthN
    by_cases e : s = c
    · subst e
      rw [if_pos h3]
    · rw [if_neg (h4 s (Nat.le_refl s) (by omega))]
      exact sth_at f (s + 1) c (by omega) (by omega) h3 (fun t a b => h4 t (by omega) b)
/-- the two ways to the cycle that is met -/
theorem fol_2 {v : Nat → Nat} {j t : Nat} (hj : j < 16) (h1 : 1 ≤ t) (h2 : t ≤ 16) (h3 : frs v j t) (h4 : itr v t j < 16) (h5 : metB v j t (itr v t j) = true) {f : Nat → Int32} (hv : RV f v) : itr v 16 j ≠ 16 ∧ cyc v (itr v 16 j) = cyc v (itr v t j) := by
  obtain ⟨p, a, b⟩ := metB_t h5
  have hper : itr v (t - p) (itr v t j) = itr v t j := by
    have e : itr v (t - p) (itr v p j) = itr v t j := by rw [← itr_add, show p + (t - p) = t by omega]
    rw [b] at e
    exact e
  have e16 : itr v 16 j = itr v (16 - t) (itr v t j) := by rw [← itr_add, show t + (16 - t) = 16 by omega]
  rw [e16]
  exact ⟨back_16 h4 (by omega) hper, cyc_same h4 (by omega) (by omega) hper hv⟩
