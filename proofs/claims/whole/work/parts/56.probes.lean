/-! probes: the differences of pairs, the least set that tells them apart -/
def bsN (p : Nat → Bool) : Nat → Nat
  | 0 => 0
  | n + 1 => if p n = true then bsN p n + 2 ^ n else bsN p n
theorem bsN_lt (p : Nat → Bool) : ∀ n, bsN p n < 2 ^ n
  | 0 => Nat.zero_lt_one
  | n + 1 => by
    have := bsN_lt p n
    show (if p n = true then bsN p n + 2 ^ n else bsN p n) < 2 ^ (n + 1)
    rw [Nat.pow_succ]
    split <;> omega
theorem or_two {a n : Nat} (h : a < 2 ^ n) : a ||| 2 ^ n = a + 2 ^ n := by
  have := Nat.two_pow_add_eq_or_of_lt h 1
  rw [Nat.mul_one] at this
  rw [Nat.or_comm, ← this, Nat.add_comm]
theorem b1_two : ∀ n, n < 16 → b1 (nI n) = nI (2 ^ n) := by decide +kernel
theorem nx_or (a b : Nat) : nI a ||| nI b = nI (a ||| b) := by
  apply Int32.toBitVec_inj.mp
  apply BitVec.eq_of_getLsbD_eq
  intro i hi
  rw [Int32.toBitVec_or, BitVec.getLsbD_or]
  show ((BitVec.ofNat 32 a).getLsbD i || (BitVec.ofNat 32 b).getLsbD i) = (BitVec.ofNat 32 (a ||| b)).getLsbD i
  rw [BitVec.getLsbD_ofNat, BitVec.getLsbD_ofNat, BitVec.getLsbD_ofNat, Nat.testBit_or]
  simp [hi]
theorem nx_an (a b : Nat) : nI a &&& nI b = nI (a &&& b) := by
  apply Int32.toBitVec_inj.mp
  apply BitVec.eq_of_getLsbD_eq
  intro i hi
  rw [Int32.toBitVec_and, BitVec.getLsbD_and]
  show ((BitVec.ofNat 32 a).getLsbD i && (BitVec.ofNat 32 b).getLsbD i) = (BitVec.ofNat 32 (a &&& b)).getLsbD i
  rw [BitVec.getLsbD_ofNat, BitVec.getLsbD_ofNat, BitVec.getLsbD_ofNat, Nat.testBit_and]
  simp [hi]
theorem bset_N (p : Nat → Bool) : ∀ n, n ≤ 16 → bset p n = nI (bsN p n)
  | 0, _ => rfl
  | n + 1, h => by
    show (if p n = true then bset p n ||| b1 (nI n) else bset p n) = nI (if p n = true then bsN p n + 2 ^ n else bsN p n)
    rw [bset_N p n (by omega)]
    split
    · rw [b1_two n (by omega), nx_or, or_two (bsN_lt p n)]
    · rfl
def dfN (v w : Nat → Nat) : Nat := bsN (fun k => !decide (v k = w k)) 16
theorem diff_N (v w : Nat → Nat) : diffV v w = nI (dfN v w) := bset_N _ 16 (Nat.le_refl _)
theorem dfN_lt (v w : Nat → Nat) : dfN v w < 65536 := bsN_lt _ 16
/-- both are asked, and they differ -/
def askP (S : AS) (s m p : Nat) : Bool := s.testBit m && s.testBit p && !decide (dfN (aV S m) (aV S p) = 0)
def prI (S : AS) (s m : Nat) (l : List Nat) : Nat → List Nat
  | 0 => l
  | p + 1 => if askP S s m p = true then prI S s m l p ++ [dfN (aV S m) (aV S p)] else prI S s m l p
def prO (S : AS) (s : Nat) : Nat → List Nat
  | 0 => []
  | m + 1 => prI S s m (prO S s m) m
def prs (S : AS) (s : Nat) : List Nat := prO S s 6
theorem prI_t {S : AS} {s m p : Nat} {l : List Nat} (h : askP S s m p = true) : prI S s m l (p + 1) = prI S s m l p ++ [dfN (aV S m) (aV S p)] := if_pos h
theorem prI_f {S : AS} {s m p : Nat} {l : List Nat} (h : askP S s m p = false) : prI S s m l (p + 1) = prI S s m l p := if_neg (by rw [h]; decide)
theorem prI_len (S : AS) (s m : Nat) (l : List Nat) : ∀ p, (prI S s m l p).length ≤ l.length + p
  | 0 => Nat.le_refl _
  | p + 1 => by
    have := prI_len S s m l p
    cases h : askP S s m p with
    | true => rw [prI_t h, List.length_append]; simp; omega
    | false => rw [prI_f h]; omega
theorem prI_mono (S : AS) (s m : Nat) (l : List Nat) : ∀ p, l.length ≤ (prI S s m l p).length
  | 0 => Nat.le_refl _
  | p + 1 => by
    have := prI_mono S s m l p
    cases h : askP S s m p with
    | true => rw [prI_t h, List.length_append]; simp; omega
    | false => rw [prI_f h]; omega
theorem prO_len (S : AS) (s : Nat) : ∀ m, 2 * (prO S s m).length + m ≤ m * m
  | 0 => Nat.le_refl 0
  | m + 1 => by
    have h1 := prO_len S s m
    have h2 := prI_len S s m (prO S s m) m
    show 2 * (prI S s m (prO S s m) m).length + (m + 1) ≤ (m + 1) * (m + 1)
    have h3 : (m + 1) * (m + 1) = m * m + 2 * m + 1 := by rw [Nat.add_mul, Nat.mul_add]; omega
    omega
theorem prI_15 {S : AS} {s m p : Nat} (hm : m < 6) (hp : p < m) : (prI S s m (prO S s m) p).length < 15 := by
  have h1 := prO_len S s m
  have h2 := prI_len S s m (prO S s m) p
  rcases (show m = 0 ∨ m = 1 ∨ m = 2 ∨ m = 3 ∨ m = 4 ∨ m = 5 by omega) with rfl | rfl | rfl | rfl | rfl | rfl <;> omega
theorem prs_15 (S : AS) (s : Nat) : (prs S s).length ≤ 15 := by
  have h1 := prO_len S s 6
  show (prO S s 6).length ≤ 15
  omega
theorem prI_ok {S : AS} {s m : Nat} {l : List Nat} (hl : ∀ d ∈ l, 0 < d ∧ d < 65536) : ∀ p, ∀ d ∈ prI S s m l p, 0 < d ∧ d < 65536
  | 0 => hl
  | p + 1 => by
    intro d hd
    cases h : askP S s m p with
    | false => rw [prI_f h] at hd; exact prI_ok hl p d hd
    | true =>
      rw [prI_t h] at hd
      rcases List.mem_append.mp hd with q | q
      · exact prI_ok hl p d q
      · rw [List.mem_singleton.mp q]
        unfold askP at h
        rw [Bool.and_eq_true, Bool.not_eq_true', decide_eq_false_iff_not] at h
        exact ⟨Nat.pos_of_ne_zero h.2, dfN_lt _ _⟩
theorem prO_ok {S : AS} {s : Nat} : ∀ m, ∀ d ∈ prO S s m, 0 < d ∧ d < 65536
  | 0 => fun d hd => by cases hd
  | m + 1 => prI_ok (prO_ok m) m
/-- the list stands in the row f -/
def DL (f : Nat → Int32) (l : List Nat) : Prop := ∀ i, i < l.length → f i = nI (l.getD i 0)
theorem DL.app {f : Nat → Int32} {l : List Nat} {d : Nat} (h : DL f l) : DL (upd f l.length (nI d)) (l ++ [d]) := by
  intro i hi
  rw [List.length_append] at hi
  by_cases e : i = l.length
  · subst e
    simp [upd]
  · have hi2 : i < l.length := by simp at hi; omega
    rw [show upd f l.length (nI d) i = f i from if_neg e, h i hi2]
    simp [List.getElem?_append_left hi2]
/-- a set tells all pairs apart -/
def tsB (l : List Nat) (k : Nat) : Bool := l.all (fun d => !decide (d &&& k = 0))
def tsN (l : List Nat) (k : Nat) : Nat → Bool
  | 0 => true
  | n + 1 => tsN l k n && !decide (l.getD n 0 &&& k = 0)
theorem ld_e {l : List Nat} {i : Nat} (hi : i < l.length) : l.getD i 0 = l[i] := by
  rw [List.getD_eq_getElem?_getD, List.getElem?_eq_getElem hi]
  rfl
theorem tsN_all (l : List Nat) (k : Nat) : ∀ n, tsN l k n = true ↔ ∀ i, i < n → l.getD i 0 &&& k ≠ 0
  | 0 => ⟨fun _ i hi => absurd hi (Nat.not_lt_zero i), fun _ => rfl⟩
  | n + 1 => by
    show (tsN l k n && !decide (l.getD n 0 &&& k = 0)) = true ↔ _
    rw [Bool.and_eq_true, tsN_all l k n, Bool.not_eq_true', decide_eq_false_iff_not]
    constructor
    · intro h i hi
      by_cases e : i = n
      · subst e; exact h.2
      · exact h.1 i (by omega)
    · intro h
      exact ⟨fun i hi => h i (by omega), h n (by omega)⟩
theorem ts_N (l : List Nat) (k : Nat) : tsB l k = tsN l k l.length := by
  have h1 : tsB l k = true ↔ tsN l k l.length = true := by
    rw [tsN_all]
    unfold tsB
    rw [List.all_eq_true]
    constructor
    · intro h i hi
      have := h (l.getD i 0) (by rw [ld_e hi]; exact List.getElem_mem hi)
      rw [Bool.not_eq_true', decide_eq_false_iff_not] at this
      exact this
    · intro h d hd
      obtain ⟨i, hi, e⟩ := List.getElem_of_mem hd
      rw [Bool.not_eq_true', decide_eq_false_iff_not]
      have := h i hi
      rw [ld_e hi, e] at this
      exact this
  cases e : tsN l k l.length with
  | true => exact h1.mpr e
  | false =>
    cases e2 : tsB l k with
    | false => rfl
    | true => rw [h1.mp e2] at e; cases e
/-- the least of the smallest ones -/
def lsP (l : List Nat) (r : Nat) : Prop := r < 65536 ∧ tsB l r = true ∧ ∀ j, j < 65536 → tsB l j = true → pcN r < pcN j ∨ (pcN r = pcN j ∧ r ≤ j)
theorem lsP_one {l : List Nat} {r q : Nat} (h : lsP l r) (h2 : lsP l q) : r = q := by
  have a := h.2.2 q h2.1 h2.2.1
  have b := h2.2.2 r h.1 h.2.1
  omega
def scF (l : List Nat) : Nat → Nat × Nat
  | 0 => (65535, 16)
  | n + 1 => if tsB l n && decide (pcN n < (scF l n).2) then (n, pcN n) else scF l n
def prbF (S : AS) (s : Nat) : Int32 := nI (scF (prs S s) 65535).1
theorem and_all {d : Nat} (h : d < 65536) : d &&& 65535 = d := by
  have := Nat.and_two_pow_sub_one_eq_mod d 16
  rw [show (2 : Nat) ^ 16 - 1 = 65535 by rfl] at this
  rw [this]
  exact Nat.mod_eq_of_lt h
theorem ts_all {l : List Nat} (h : ∀ d ∈ l, 0 < d ∧ d < 65536) : tsB l 65535 = true := by
  unfold tsB
  rw [List.all_eq_true]
  intro d hd
  obtain ⟨h1, h2⟩ := h d hd
  rw [and_all h2, decide_eq_false (by omega)]
  rfl
theorem pc_65535 : pcN 65535 = 16 := by decide +kernel
theorem pc_16 {j : Nat} (h : j < 65535) : pcN j < 16 := by
  have h1 := pcN_le j
  rcases Nat.lt_or_ge (pcN j) 16 with q | q
  · exact q
  · have := gos_min (j + 1) j (by omega) (by omega)
    rw [show pcN j = 16 by omega] at this
    omega
theorem sc_inv {l : List Nat} (h : ∀ d ∈ l, 0 < d ∧ d < 65536) : ∀ n, n ≤ 65535 → (scF l n).1 < 65536 ∧ tsB l (scF l n).1 = true ∧ (scF l n).2 = pcN (scF l n).1 ∧ (∀ j, j < n → tsB l j = true → (scF l n).2 < pcN j ∨ ((scF l n).2 = pcN j ∧ (scF l n).1 ≤ j)) ∧ ((scF l n).1 = 65535 ∨ (scF l n).1 < n)
  | 0, _ => ⟨(show 65535 < 65536 by decide), ts_all h, pc_65535.symm, fun j hj => absurd hj (Nat.not_lt_zero j), Or.inl rfl⟩
  | n + 1, hn => by
    obtain ⟨a1, a2, a3, a4, a5⟩ := sc_inv h n (by omega)
    show (if tsB l n && decide (pcN n < (scF l n).2) then (n, pcN n) else scF l n).1 < 65536 ∧ tsB l (if tsB l n && decide (pcN n < (scF l n).2) then (n, pcN n) else scF l n).1 = true ∧ (if tsB l n && decide (pcN n < (scF l n).2) then (n, pcN n) else scF l n).2 = pcN (if tsB l n && decide (pcN n < (scF l n).2) then (n, pcN n) else scF l n).1 ∧ (∀ j, j < n + 1 → tsB l j = true → (if tsB l n && decide (pcN n < (scF l n).2) then (n, pcN n) else scF l n).2 < pcN j ∨ ((if tsB l n && decide (pcN n < (scF l n).2) then (n, pcN n) else scF l n).2 = pcN j ∧ (if tsB l n && decide (pcN n < (scF l n).2) then (n, pcN n) else scF l n).1 ≤ j)) ∧ ((if tsB l n && decide (pcN n < (scF l n).2) then (n, pcN n) else scF l n).1 = 65535 ∨ (if tsB l n && decide (pcN n < (scF l n).2) then (n, pcN n) else scF l n).1 < n + 1)
    by_cases e : (tsB l n && decide (pcN n < (scF l n).2)) = true
    · rw [if_pos e]
      rw [Bool.and_eq_true, decide_eq_true_eq] at e
      refine ⟨by show n < 65536; omega, e.1, rfl, fun j hj hjt => ?_, Or.inr (Nat.lt_succ_self n)⟩
      by_cases q : j = n
      · subst q; exact Or.inr ⟨rfl, Nat.le_refl _⟩
      · rcases a4 j (by omega) hjt with r | r
        · exact Or.inl (by show pcN n < pcN j; omega)
        · exact Or.inl (by show pcN n < pcN j; omega)
    · rw [if_neg e]
      refine ⟨a1, a2, a3, fun j hj hjt => ?_, by omega⟩
      by_cases q : j = n
      · subst q
        have hge : ¬ pcN j < (scF l j).2 := fun r => e (by rw [hjt, decide_eq_true r]; rfl)
        have := pc_16 (show j < 65535 by omega)
        rcases a5 with r | r
        · rw [r, pc_65535] at a3; omega
        · omega
      · exact a4 j (by omega) hjt
theorem sc_ls {l : List Nat} (h : ∀ d ∈ l, 0 < d ∧ d < 65536) : lsP l (scF l 65535).1 := by
  obtain ⟨a1, a2, a3, a4, a5⟩ := sc_inv h 65535 (Nat.le_refl _)
  refine ⟨a1, a2, fun j hj hjt => ?_⟩
  rw [← a3]
  by_cases q : j = 65535
  · subst q
    rw [pc_65535]
    have := pcN_le (scF l 65535).1
    omega
  · exact a4 j (by omega) hjt
