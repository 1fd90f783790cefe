/-! Integer.bitCount's formula over 16 bits -/
def bcN (n : Nat) : Nat :=
  let x1 := n - ((n / 2) &&& 21845)
  let x2 := (x1 &&& 13107) + ((x1 / 4) &&& 13107)
  let x3 := (x2 + x2 / 16) &&& 3855
  (x3 + x3 / 256) &&& 63
def popN (n : Nat) : Nat := n % 2 + n / 2 % 2 + n / 4 % 2 + n / 8 % 2 + n / 16 % 2 + n / 32 % 2 + n / 64 % 2 + n / 128 % 2
theorem bcI_0 : ∀ a, a < 8 → ∀ b, b < 256 → (bcI (nI (256 * (0 + a) + b)) == nI (popN (0 + a) + popN b)) = true := by decide +kernel
theorem bcI_1 : ∀ a, a < 8 → ∀ b, b < 256 → (bcI (nI (256 * (8 + a) + b)) == nI (popN (8 + a) + popN b)) = true := by decide +kernel
theorem bcI_2 : ∀ a, a < 8 → ∀ b, b < 256 → (bcI (nI (256 * (16 + a) + b)) == nI (popN (16 + a) + popN b)) = true := by decide +kernel
theorem bcI_3 : ∀ a, a < 8 → ∀ b, b < 256 → (bcI (nI (256 * (24 + a) + b)) == nI (popN (24 + a) + popN b)) = true := by decide +kernel
theorem bcI_4 : ∀ a, a < 8 → ∀ b, b < 256 → (bcI (nI (256 * (32 + a) + b)) == nI (popN (32 + a) + popN b)) = true := by decide +kernel
theorem bcI_5 : ∀ a, a < 8 → ∀ b, b < 256 → (bcI (nI (256 * (40 + a) + b)) == nI (popN (40 + a) + popN b)) = true := by decide +kernel
theorem bcI_6 : ∀ a, a < 8 → ∀ b, b < 256 → (bcI (nI (256 * (48 + a) + b)) == nI (popN (48 + a) + popN b)) = true := by decide +kernel
theorem bcI_7 : ∀ a, a < 8 → ∀ b, b < 256 → (bcI (nI (256 * (56 + a) + b)) == nI (popN (56 + a) + popN b)) = true := by decide +kernel
theorem bcI_8 : ∀ a, a < 8 → ∀ b, b < 256 → (bcI (nI (256 * (64 + a) + b)) == nI (popN (64 + a) + popN b)) = true := by decide +kernel
theorem bcI_9 : ∀ a, a < 8 → ∀ b, b < 256 → (bcI (nI (256 * (72 + a) + b)) == nI (popN (72 + a) + popN b)) = true := by decide +kernel
theorem bcI_10 : ∀ a, a < 8 → ∀ b, b < 256 → (bcI (nI (256 * (80 + a) + b)) == nI (popN (80 + a) + popN b)) = true := by decide +kernel
theorem bcI_11 : ∀ a, a < 8 → ∀ b, b < 256 → (bcI (nI (256 * (88 + a) + b)) == nI (popN (88 + a) + popN b)) = true := by decide +kernel
theorem bcI_12 : ∀ a, a < 8 → ∀ b, b < 256 → (bcI (nI (256 * (96 + a) + b)) == nI (popN (96 + a) + popN b)) = true := by decide +kernel
theorem bcI_13 : ∀ a, a < 8 → ∀ b, b < 256 → (bcI (nI (256 * (104 + a) + b)) == nI (popN (104 + a) + popN b)) = true := by decide +kernel
theorem bcI_14 : ∀ a, a < 8 → ∀ b, b < 256 → (bcI (nI (256 * (112 + a) + b)) == nI (popN (112 + a) + popN b)) = true := by decide +kernel
theorem bcI_15 : ∀ a, a < 8 → ∀ b, b < 256 → (bcI (nI (256 * (120 + a) + b)) == nI (popN (120 + a) + popN b)) = true := by decide +kernel
theorem bcI_16 : ∀ a, a < 8 → ∀ b, b < 256 → (bcI (nI (256 * (128 + a) + b)) == nI (popN (128 + a) + popN b)) = true := by decide +kernel
theorem bcI_17 : ∀ a, a < 8 → ∀ b, b < 256 → (bcI (nI (256 * (136 + a) + b)) == nI (popN (136 + a) + popN b)) = true := by decide +kernel
theorem bcI_18 : ∀ a, a < 8 → ∀ b, b < 256 → (bcI (nI (256 * (144 + a) + b)) == nI (popN (144 + a) + popN b)) = true := by decide +kernel
theorem bcI_19 : ∀ a, a < 8 → ∀ b, b < 256 → (bcI (nI (256 * (152 + a) + b)) == nI (popN (152 + a) + popN b)) = true := by decide +kernel
theorem bcI_20 : ∀ a, a < 8 → ∀ b, b < 256 → (bcI (nI (256 * (160 + a) + b)) == nI (popN (160 + a) + popN b)) = true := by decide +kernel
theorem bcI_21 : ∀ a, a < 8 → ∀ b, b < 256 → (bcI (nI (256 * (168 + a) + b)) == nI (popN (168 + a) + popN b)) = true := by decide +kernel
theorem bcI_22 : ∀ a, a < 8 → ∀ b, b < 256 → (bcI (nI (256 * (176 + a) + b)) == nI (popN (176 + a) + popN b)) = true := by decide +kernel
theorem bcI_23 : ∀ a, a < 8 → ∀ b, b < 256 → (bcI (nI (256 * (184 + a) + b)) == nI (popN (184 + a) + popN b)) = true := by decide +kernel
theorem bcI_24 : ∀ a, a < 8 → ∀ b, b < 256 → (bcI (nI (256 * (192 + a) + b)) == nI (popN (192 + a) + popN b)) = true := by decide +kernel
theorem bcI_25 : ∀ a, a < 8 → ∀ b, b < 256 → (bcI (nI (256 * (200 + a) + b)) == nI (popN (200 + a) + popN b)) = true := by decide +kernel
theorem bcI_26 : ∀ a, a < 8 → ∀ b, b < 256 → (bcI (nI (256 * (208 + a) + b)) == nI (popN (208 + a) + popN b)) = true := by decide +kernel
theorem bcI_27 : ∀ a, a < 8 → ∀ b, b < 256 → (bcI (nI (256 * (216 + a) + b)) == nI (popN (216 + a) + popN b)) = true := by decide +kernel
theorem bcI_28 : ∀ a, a < 8 → ∀ b, b < 256 → (bcI (nI (256 * (224 + a) + b)) == nI (popN (224 + a) + popN b)) = true := by decide +kernel
theorem bcI_29 : ∀ a, a < 8 → ∀ b, b < 256 → (bcI (nI (256 * (232 + a) + b)) == nI (popN (232 + a) + popN b)) = true := by decide +kernel
theorem bcI_30 : ∀ a, a < 8 → ∀ b, b < 256 → (bcI (nI (256 * (240 + a) + b)) == nI (popN (240 + a) + popN b)) = true := by decide +kernel
theorem bcI_31 : ∀ a, a < 8 → ∀ b, b < 256 → (bcI (nI (256 * (248 + a) + b)) == nI (popN (248 + a) + popN b)) = true := by decide +kernel
theorem bcI_all : ∀ a, a < 256 → ∀ b, b < 256 → (bcI (nI (256 * a + b)) == nI (popN a + popN b)) = true := by
  intro a ha b hb
  rcases (show (0 ≤ a ∧ a < 8) ∨ (8 ≤ a ∧ a < 16) ∨ (16 ≤ a ∧ a < 24) ∨ (24 ≤ a ∧ a < 32) ∨ (32 ≤ a ∧ a < 40) ∨ (40 ≤ a ∧ a < 48) ∨ (48 ≤ a ∧ a < 56) ∨ (56 ≤ a ∧ a < 64) ∨ (64 ≤ a ∧ a < 72) ∨ (72 ≤ a ∧ a < 80) ∨ (80 ≤ a ∧ a < 88) ∨ (88 ≤ a ∧ a < 96) ∨ (96 ≤ a ∧ a < 104) ∨ (104 ≤ a ∧ a < 112) ∨ (112 ≤ a ∧ a < 120) ∨ (120 ≤ a ∧ a < 128) ∨ (128 ≤ a ∧ a < 136) ∨ (136 ≤ a ∧ a < 144) ∨ (144 ≤ a ∧ a < 152) ∨ (152 ≤ a ∧ a < 160) ∨ (160 ≤ a ∧ a < 168) ∨ (168 ≤ a ∧ a < 176) ∨ (176 ≤ a ∧ a < 184) ∨ (184 ≤ a ∧ a < 192) ∨ (192 ≤ a ∧ a < 200) ∨ (200 ≤ a ∧ a < 208) ∨ (208 ≤ a ∧ a < 216) ∨ (216 ≤ a ∧ a < 224) ∨ (224 ≤ a ∧ a < 232) ∨ (232 ≤ a ∧ a < 240) ∨ (240 ≤ a ∧ a < 248) ∨ (248 ≤ a ∧ a < 256) by omega) with h | h | h | h | h | h | h | h | h | h | h | h | h | h | h | h | h | h | h | h | h | h | h | h | h | h | h | h | h | h | h | h
  · have := bcI_0 (a - 0) (by omega) b hb
    rwa [show 0 + (a - 0) = a by omega] at this
  · have := bcI_1 (a - 8) (by omega) b hb
    rwa [show 8 + (a - 8) = a by omega] at this
  · have := bcI_2 (a - 16) (by omega) b hb
    rwa [show 16 + (a - 16) = a by omega] at this
  · have := bcI_3 (a - 24) (by omega) b hb
    rwa [show 24 + (a - 24) = a by omega] at this
  · have := bcI_4 (a - 32) (by omega) b hb
    rwa [show 32 + (a - 32) = a by omega] at this
  · have := bcI_5 (a - 40) (by omega) b hb
    rwa [show 40 + (a - 40) = a by omega] at this
  · have := bcI_6 (a - 48) (by omega) b hb
    rwa [show 48 + (a - 48) = a by omega] at this
  · have := bcI_7 (a - 56) (by omega) b hb
    rwa [show 56 + (a - 56) = a by omega] at this
  · have := bcI_8 (a - 64) (by omega) b hb
    rwa [show 64 + (a - 64) = a by omega] at this
  · have := bcI_9 (a - 72) (by omega) b hb
    rwa [show 72 + (a - 72) = a by omega] at this
  · have := bcI_10 (a - 80) (by omega) b hb
    rwa [show 80 + (a - 80) = a by omega] at this
  · have := bcI_11 (a - 88) (by omega) b hb
    rwa [show 88 + (a - 88) = a by omega] at this
  · have := bcI_12 (a - 96) (by omega) b hb
    rwa [show 96 + (a - 96) = a by omega] at this
  · have := bcI_13 (a - 104) (by omega) b hb
    rwa [show 104 + (a - 104) = a by omega] at this
  · have := bcI_14 (a - 112) (by omega) b hb
    rwa [show 112 + (a - 112) = a by omega] at this
  · have := bcI_15 (a - 120) (by omega) b hb
    rwa [show 120 + (a - 120) = a by omega] at this
  · have := bcI_16 (a - 128) (by omega) b hb
    rwa [show 128 + (a - 128) = a by omega] at this
  · have := bcI_17 (a - 136) (by omega) b hb
    rwa [show 136 + (a - 136) = a by omega] at this
  · have := bcI_18 (a - 144) (by omega) b hb
    rwa [show 144 + (a - 144) = a by omega] at this
  · have := bcI_19 (a - 152) (by omega) b hb
    rwa [show 152 + (a - 152) = a by omega] at this
  · have := bcI_20 (a - 160) (by omega) b hb
    rwa [show 160 + (a - 160) = a by omega] at this
  · have := bcI_21 (a - 168) (by omega) b hb
    rwa [show 168 + (a - 168) = a by omega] at this
  · have := bcI_22 (a - 176) (by omega) b hb
    rwa [show 176 + (a - 176) = a by omega] at this
  · have := bcI_23 (a - 184) (by omega) b hb
    rwa [show 184 + (a - 184) = a by omega] at this
  · have := bcI_24 (a - 192) (by omega) b hb
    rwa [show 192 + (a - 192) = a by omega] at this
  · have := bcI_25 (a - 200) (by omega) b hb
    rwa [show 200 + (a - 200) = a by omega] at this
  · have := bcI_26 (a - 208) (by omega) b hb
    rwa [show 208 + (a - 208) = a by omega] at this
  · have := bcI_27 (a - 216) (by omega) b hb
    rwa [show 216 + (a - 216) = a by omega] at this
  · have := bcI_28 (a - 224) (by omega) b hb
    rwa [show 224 + (a - 224) = a by omega] at this
  · have := bcI_29 (a - 232) (by omega) b hb
    rwa [show 232 + (a - 232) = a by omega] at this
  · have := bcI_30 (a - 240) (by omega) b hb
    rwa [show 240 + (a - 240) = a by omega] at this
  · have := bcI_31 (a - 248) (by omega) b hb
    rwa [show 248 + (a - 248) = a by omega] at this
theorem pop_8 : ∀ a, a < 256 → cnt (fun k => a.testBit k) 8 = popN a := by decide +kernel
theorem cnt_app (p : Nat → Bool) (m : Nat) : ∀ n, cnt p (m + n) = cnt p m + cnt (fun k => p (m + k)) n
  | 0 => rfl
  | n + 1 => by
    show (if p (m + n) = true then cnt p (m + n) + 1 else cnt p (m + n)) = cnt p m + (if p (m + n) = true then cnt (fun k => p (m + k)) n + 1 else cnt (fun k => p (m + k)) n)
    rw [cnt_app p m n]
    split <;> omega
theorem bt_nat {x : Nat} (h : x < 2 ^ 32) (i : Nat) : bt (nI x) i = x.testBit i := by
  unfold bt
  show (nI x).toBitVec.getLsbD i = _
  rw [BitVec.getLsbD, pk_tn h]
theorem bt_nI16 {n : Nat} (h : n < 65536) {i : Nat} (hi : 16 ≤ i) : n.testBit i = false := by
  apply Nat.testBit_lt_two_pow
  exact Nat.lt_of_lt_of_le (show n < 2 ^ 16 from h) (Nat.pow_le_pow_right (Nat.zero_lt_succ 1) hi)
theorem pop_16 {n : Nat} (h : n < 65536) : cnt (fun k => n.testBit k) 16 = popN (n / 256) + popN (n % 256) := by
  rw [show (16 : Nat) = 8 + 8 by rfl, cnt_app]
  have h1 : cnt (fun k => n.testBit k) 8 = cnt (fun k => (n % 256).testBit k) 8 := cnt_congr (fun k hk => by
    rw [show (256 : Nat) = 2 ^ 8 by rfl, Nat.testBit_mod_two_pow]
    simp [hk])
  have h2 : cnt (fun k => n.testBit (8 + k)) 8 = cnt (fun k => (n / 256).testBit k) 8 := cnt_congr (fun k hk => by
    rw [show (256 : Nat) = 2 ^ 8 by rfl, Nat.testBit_div_two_pow, Nat.add_comm])
  rw [h1, h2, pop_8 _ (by omega), pop_8 _ (by omega), Nat.add_comm]
theorem bc_n {n : Nat} (h : n < 65536) : bcI (nI n) = nI (cnt (bt (nI n)) 16) := by
  have h1 := bcI_all (n / 256) (by omega) (n % 256) (by omega)
  rw [show 256 * (n / 256) + n % 256 = n by omega] at h1
  rw [eq_of_beq h1, ← pop_16 h]
  congr 1
  exact (cnt_congr (fun k hk => bt_nat (by omega) k)).symm
theorem bc_x {x : Int32} (h : ∀ i, 16 ≤ i → i < 32 → bt x i = false) : bcI x = nI (cnt (bt x) 16) := by
  have e : x = nI x.toBitVec.toNat := by
    apply Int32.toBitVec_inj.mp
    apply BitVec.eq_of_toNat_eq
    rw [pk_tn x.toBitVec.isLt]
  have hlt : x.toBitVec.toNat < 2 ^ 16 := by
    apply Nat.lt_pow_two_of_testBit
    intro i hi
    rcases Nat.lt_or_ge i 32 with q | q
    · exact h i hi q
    · exact b_big q
  have := bc_n hlt
  rw [← e] at this
  exact this
