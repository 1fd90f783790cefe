/-! the next set of the same size, over 16 keys -/
def loN (k : Nat) : Nat := k &&& (131072 - k)
def nxN (k : Nat) : Nat := (k + loN k) ||| (((k ^^^ (k + loN k)) / 4) / loN k)
def nxG (k : Nat) : Nat := bif Nat.beq k 0 then 65536 else nxN k
def nxI (x : Int32) : Int32 := (x + (x &&& -x)) ||| (((x ^^^ (x + (x &&& -x))) >>> (nI 2 &&& 31)) / (x &&& -x))
def chkG (c : Nat) : Bool := Nat.beq (bcN c) (popN (c / 256) + popN (c % 256)) && (Nat.beq (bcN (65535 - c) + bcN c) 16 && (Nat.blt c (nxG c) && (bif Nat.blt (nxG c) 65536 then (Nat.beq (bcN (nxG c)) (bcN c) && Nat.beq (nxG (65535 - nxG c)) (65535 - c)) else Nat.beq (65535 - c) (2 ^ (16 - bcN c) - 1))))
def chkI (c : Nat) : Bool := Nat.beq c 0 || ((nI c &&& -(nI c) == nI (loN c)) && (Nat.blt 0 (loN c) && (Nat.blt (loN c) 65536 && (Nat.blt (nxN c) 131072 && (nxI (nI c) == nI (nxN c))))))
theorem chkG_0 : ∀ a, a < 8 → ∀ b, b < 256 → chkG (256 * (0 + a) + b) = true := by decide +kernel
theorem chkG_1 : ∀ a, a < 8 → ∀ b, b < 256 → chkG (256 * (8 + a) + b) = true := by decide +kernel
theorem chkG_2 : ∀ a, a < 8 → ∀ b, b < 256 → chkG (256 * (16 + a) + b) = true := by decide +kernel
theorem chkG_3 : ∀ a, a < 8 → ∀ b, b < 256 → chkG (256 * (24 + a) + b) = true := by decide +kernel
theorem chkG_4 : ∀ a, a < 8 → ∀ b, b < 256 → chkG (256 * (32 + a) + b) = true := by decide +kernel
theorem chkG_5 : ∀ a, a < 8 → ∀ b, b < 256 → chkG (256 * (40 + a) + b) = true := by decide +kernel
theorem chkG_6 : ∀ a, a < 8 → ∀ b, b < 256 → chkG (256 * (48 + a) + b) = true := by decide +kernel
theorem chkG_7 : ∀ a, a < 8 → ∀ b, b < 256 → chkG (256 * (56 + a) + b) = true := by decide +kernel
theorem chkG_8 : ∀ a, a < 8 → ∀ b, b < 256 → chkG (256 * (64 + a) + b) = true := by decide +kernel
theorem chkG_9 : ∀ a, a < 8 → ∀ b, b < 256 → chkG (256 * (72 + a) + b) = true := by decide +kernel
theorem chkG_10 : ∀ a, a < 8 → ∀ b, b < 256 → chkG (256 * (80 + a) + b) = true := by decide +kernel
theorem chkG_11 : ∀ a, a < 8 → ∀ b, b < 256 → chkG (256 * (88 + a) + b) = true := by decide +kernel
theorem chkG_12 : ∀ a, a < 8 → ∀ b, b < 256 → chkG (256 * (96 + a) + b) = true := by decide +kernel
theorem chkG_13 : ∀ a, a < 8 → ∀ b, b < 256 → chkG (256 * (104 + a) + b) = true := by decide +kernel
theorem chkG_14 : ∀ a, a < 8 → ∀ b, b < 256 → chkG (256 * (112 + a) + b) = true := by decide +kernel
theorem chkG_15 : ∀ a, a < 8 → ∀ b, b < 256 → chkG (256 * (120 + a) + b) = true := by decide +kernel
theorem chkG_16 : ∀ a, a < 8 → ∀ b, b < 256 → chkG (256 * (128 + a) + b) = true := by decide +kernel
theorem chkG_17 : ∀ a, a < 8 → ∀ b, b < 256 → chkG (256 * (136 + a) + b) = true := by decide +kernel
theorem chkG_18 : ∀ a, a < 8 → ∀ b, b < 256 → chkG (256 * (144 + a) + b) = true := by decide +kernel
theorem chkG_19 : ∀ a, a < 8 → ∀ b, b < 256 → chkG (256 * (152 + a) + b) = true := by decide +kernel
theorem chkG_20 : ∀ a, a < 8 → ∀ b, b < 256 → chkG (256 * (160 + a) + b) = true := by decide +kernel
theorem chkG_21 : ∀ a, a < 8 → ∀ b, b < 256 → chkG (256 * (168 + a) + b) = true := by decide +kernel
theorem chkG_22 : ∀ a, a < 8 → ∀ b, b < 256 → chkG (256 * (176 + a) + b) = true := by decide +kernel
theorem chkG_23 : ∀ a, a < 8 → ∀ b, b < 256 → chkG (256 * (184 + a) + b) = true := by decide +kernel
theorem chkG_24 : ∀ a, a < 8 → ∀ b, b < 256 → chkG (256 * (192 + a) + b) = true := by decide +kernel
theorem chkG_25 : ∀ a, a < 8 → ∀ b, b < 256 → chkG (256 * (200 + a) + b) = true := by decide +kernel
theorem chkG_26 : ∀ a, a < 8 → ∀ b, b < 256 → chkG (256 * (208 + a) + b) = true := by decide +kernel
theorem chkG_27 : ∀ a, a < 8 → ∀ b, b < 256 → chkG (256 * (216 + a) + b) = true := by decide +kernel
theorem chkG_28 : ∀ a, a < 8 → ∀ b, b < 256 → chkG (256 * (224 + a) + b) = true := by decide +kernel
theorem chkG_29 : ∀ a, a < 8 → ∀ b, b < 256 → chkG (256 * (232 + a) + b) = true := by decide +kernel
theorem chkG_30 : ∀ a, a < 8 → ∀ b, b < 256 → chkG (256 * (240 + a) + b) = true := by decide +kernel
theorem chkG_31 : ∀ a, a < 8 → ∀ b, b < 256 → chkG (256 * (248 + a) + b) = true := by decide +kernel
theorem chkG_all {c : Nat} (h : c < 65536) : chkG c = true := by
  have main : ∀ a, a < 256 → ∀ b, b < 256 → chkG (256 * a + b) = true := by
    intro a ha b hb
    rcases (show (0 ≤ a ∧ a < 8) ∨ (8 ≤ a ∧ a < 16) ∨ (16 ≤ a ∧ a < 24) ∨ (24 ≤ a ∧ a < 32) ∨ (32 ≤ a ∧ a < 40) ∨ (40 ≤ a ∧ a < 48) ∨ (48 ≤ a ∧ a < 56) ∨ (56 ≤ a ∧ a < 64) ∨ (64 ≤ a ∧ a < 72) ∨ (72 ≤ a ∧ a < 80) ∨ (80 ≤ a ∧ a < 88) ∨ (88 ≤ a ∧ a < 96) ∨ (96 ≤ a ∧ a < 104) ∨ (104 ≤ a ∧ a < 112) ∨ (112 ≤ a ∧ a < 120) ∨ (120 ≤ a ∧ a < 128) ∨ (128 ≤ a ∧ a < 136) ∨ (136 ≤ a ∧ a < 144) ∨ (144 ≤ a ∧ a < 152) ∨ (152 ≤ a ∧ a < 160) ∨ (160 ≤ a ∧ a < 168) ∨ (168 ≤ a ∧ a < 176) ∨ (176 ≤ a ∧ a < 184) ∨ (184 ≤ a ∧ a < 192) ∨ (192 ≤ a ∧ a < 200) ∨ (200 ≤ a ∧ a < 208) ∨ (208 ≤ a ∧ a < 216) ∨ (216 ≤ a ∧ a < 224) ∨ (224 ≤ a ∧ a < 232) ∨ (232 ≤ a ∧ a < 240) ∨ (240 ≤ a ∧ a < 248) ∨ (248 ≤ a ∧ a < 256) by omega) with h | h | h | h | h | h | h | h | h | h | h | h | h | h | h | h | h | h | h | h | h | h | h | h | h | h | h | h | h | h | h | h
    · have := chkG_0 (a - 0) (by omega) b hb
      rwa [show 0 + (a - 0) = a by omega] at this
    · have := chkG_1 (a - 8) (by omega) b hb
      rwa [show 8 + (a - 8) = a by omega] at this
    · have := chkG_2 (a - 16) (by omega) b hb
      rwa [show 16 + (a - 16) = a by omega] at this
    · have := chkG_3 (a - 24) (by omega) b hb
      rwa [show 24 + (a - 24) = a by omega] at this
    · have := chkG_4 (a - 32) (by omega) b hb
      rwa [show 32 + (a - 32) = a by omega] at this
    · have := chkG_5 (a - 40) (by omega) b hb
      rwa [show 40 + (a - 40) = a by omega] at this
    · have := chkG_6 (a - 48) (by omega) b hb
      rwa [show 48 + (a - 48) = a by omega] at this
    · have := chkG_7 (a - 56) (by omega) b hb
      rwa [show 56 + (a - 56) = a by omega] at this
    · have := chkG_8 (a - 64) (by omega) b hb
      rwa [show 64 + (a - 64) = a by omega] at this
    · have := chkG_9 (a - 72) (by omega) b hb
      rwa [show 72 + (a - 72) = a by omega] at this
    · have := chkG_10 (a - 80) (by omega) b hb
      rwa [show 80 + (a - 80) = a by omega] at this
    · have := chkG_11 (a - 88) (by omega) b hb
      rwa [show 88 + (a - 88) = a by omega] at this
    · have := chkG_12 (a - 96) (by omega) b hb
      rwa [show 96 + (a - 96) = a by omega] at this
    · have := chkG_13 (a - 104) (by omega) b hb
      rwa [show 104 + (a - 104) = a by omega] at this
    · have := chkG_14 (a - 112) (by omega) b hb
      rwa [show 112 + (a - 112) = a by omega] at this
    · have := chkG_15 (a - 120) (by omega) b hb
      rwa [show 120 + (a - 120) = a by omega] at this
    · have := chkG_16 (a - 128) (by omega) b hb
      rwa [show 128 + (a - 128) = a by omega] at this
    · have := chkG_17 (a - 136) (by omega) b hb
      rwa [show 136 + (a - 136) = a by omega] at this
    · have := chkG_18 (a - 144) (by omega) b hb
      rwa [show 144 + (a - 144) = a by omega] at this
    · have := chkG_19 (a - 152) (by omega) b hb
      rwa [show 152 + (a - 152) = a by omega] at this
    · have := chkG_20 (a - 160) (by omega) b hb
      rwa [show 160 + (a - 160) = a by omega] at this
    · have := chkG_21 (a - 168) (by omega) b hb
      rwa [show 168 + (a - 168) = a by omega] at this
    · have := chkG_22 (a - 176) (by omega) b hb
      rwa [show 176 + (a - 176) = a by omega] at this
    · have := chkG_23 (a - 184) (by omega) b hb
      rwa [show 184 + (a - 184) = a by omega] at this
    · have := chkG_24 (a - 192) (by omega) b hb
      rwa [show 192 + (a - 192) = a by omega] at this
    · have := chkG_25 (a - 200) (by omega) b hb
      rwa [show 200 + (a - 200) = a by omega] at this
    · have := chkG_26 (a - 208) (by omega) b hb
      rwa [show 208 + (a - 208) = a by omega] at this
    · have := chkG_27 (a - 216) (by omega) b hb
      rwa [show 216 + (a - 216) = a by omega] at this
    · have := chkG_28 (a - 224) (by omega) b hb
      rwa [show 224 + (a - 224) = a by omega] at this
    · have := chkG_29 (a - 232) (by omega) b hb
      rwa [show 232 + (a - 232) = a by omega] at this
    · have := chkG_30 (a - 240) (by omega) b hb
      rwa [show 240 + (a - 240) = a by omega] at this
    · have := chkG_31 (a - 248) (by omega) b hb
      rwa [show 248 + (a - 248) = a by omega] at this
  have h1 := main (c / 256) (by omega) (c % 256) (by omega)
  rwa [show 256 * (c / 256) + c % 256 = c by omega] at h1
theorem chkI_0 : ∀ a, a < 8 → ∀ b, b < 256 → chkI (256 * (0 + a) + b) = true := by decide +kernel
theorem chkI_1 : ∀ a, a < 8 → ∀ b, b < 256 → chkI (256 * (8 + a) + b) = true := by decide +kernel
theorem chkI_2 : ∀ a, a < 8 → ∀ b, b < 256 → chkI (256 * (16 + a) + b) = true := by decide +kernel
theorem chkI_3 : ∀ a, a < 8 → ∀ b, b < 256 → chkI (256 * (24 + a) + b) = true := by decide +kernel
theorem chkI_4 : ∀ a, a < 8 → ∀ b, b < 256 → chkI (256 * (32 + a) + b) = true := by decide +kernel
theorem chkI_5 : ∀ a, a < 8 → ∀ b, b < 256 → chkI (256 * (40 + a) + b) = true := by decide +kernel
theorem chkI_6 : ∀ a, a < 8 → ∀ b, b < 256 → chkI (256 * (48 + a) + b) = true := by decide +kernel
theorem chkI_7 : ∀ a, a < 8 → ∀ b, b < 256 → chkI (256 * (56 + a) + b) = true := by decide +kernel
theorem chkI_8 : ∀ a, a < 8 → ∀ b, b < 256 → chkI (256 * (64 + a) + b) = true := by decide +kernel
theorem chkI_9 : ∀ a, a < 8 → ∀ b, b < 256 → chkI (256 * (72 + a) + b) = true := by decide +kernel
theorem chkI_10 : ∀ a, a < 8 → ∀ b, b < 256 → chkI (256 * (80 + a) + b) = true := by decide +kernel
theorem chkI_11 : ∀ a, a < 8 → ∀ b, b < 256 → chkI (256 * (88 + a) + b) = true := by decide +kernel
theorem chkI_12 : ∀ a, a < 8 → ∀ b, b < 256 → chkI (256 * (96 + a) + b) = true := by decide +kernel
theorem chkI_13 : ∀ a, a < 8 → ∀ b, b < 256 → chkI (256 * (104 + a) + b) = true := by decide +kernel
theorem chkI_14 : ∀ a, a < 8 → ∀ b, b < 256 → chkI (256 * (112 + a) + b) = true := by decide +kernel
theorem chkI_15 : ∀ a, a < 8 → ∀ b, b < 256 → chkI (256 * (120 + a) + b) = true := by decide +kernel
theorem chkI_16 : ∀ a, a < 8 → ∀ b, b < 256 → chkI (256 * (128 + a) + b) = true := by decide +kernel
theorem chkI_17 : ∀ a, a < 8 → ∀ b, b < 256 → chkI (256 * (136 + a) + b) = true := by decide +kernel
theorem chkI_18 : ∀ a, a < 8 → ∀ b, b < 256 → chkI (256 * (144 + a) + b) = true := by decide +kernel
theorem chkI_19 : ∀ a, a < 8 → ∀ b, b < 256 → chkI (256 * (152 + a) + b) = true := by decide +kernel
theorem chkI_20 : ∀ a, a < 8 → ∀ b, b < 256 → chkI (256 * (160 + a) + b) = true := by decide +kernel
theorem chkI_21 : ∀ a, a < 8 → ∀ b, b < 256 → chkI (256 * (168 + a) + b) = true := by decide +kernel
theorem chkI_22 : ∀ a, a < 8 → ∀ b, b < 256 → chkI (256 * (176 + a) + b) = true := by decide +kernel
theorem chkI_23 : ∀ a, a < 8 → ∀ b, b < 256 → chkI (256 * (184 + a) + b) = true := by decide +kernel
theorem chkI_24 : ∀ a, a < 8 → ∀ b, b < 256 → chkI (256 * (192 + a) + b) = true := by decide +kernel
theorem chkI_25 : ∀ a, a < 8 → ∀ b, b < 256 → chkI (256 * (200 + a) + b) = true := by decide +kernel
theorem chkI_26 : ∀ a, a < 8 → ∀ b, b < 256 → chkI (256 * (208 + a) + b) = true := by decide +kernel
theorem chkI_27 : ∀ a, a < 8 → ∀ b, b < 256 → chkI (256 * (216 + a) + b) = true := by decide +kernel
theorem chkI_28 : ∀ a, a < 8 → ∀ b, b < 256 → chkI (256 * (224 + a) + b) = true := by decide +kernel
theorem chkI_29 : ∀ a, a < 8 → ∀ b, b < 256 → chkI (256 * (232 + a) + b) = true := by decide +kernel
theorem chkI_30 : ∀ a, a < 8 → ∀ b, b < 256 → chkI (256 * (240 + a) + b) = true := by decide +kernel
theorem chkI_31 : ∀ a, a < 8 → ∀ b, b < 256 → chkI (256 * (248 + a) + b) = true := by decide +kernel
theorem chkI_all {c : Nat} (h : c < 65536) : chkI c = true := by
  have main : ∀ a, a < 256 → ∀ b, b < 256 → chkI (256 * a + b) = true := by
    intro a ha b hb
    rcases (show (0 ≤ a ∧ a < 8) ∨ (8 ≤ a ∧ a < 16) ∨ (16 ≤ a ∧ a < 24) ∨ (24 ≤ a ∧ a < 32) ∨ (32 ≤ a ∧ a < 40) ∨ (40 ≤ a ∧ a < 48) ∨ (48 ≤ a ∧ a < 56) ∨ (56 ≤ a ∧ a < 64) ∨ (64 ≤ a ∧ a < 72) ∨ (72 ≤ a ∧ a < 80) ∨ (80 ≤ a ∧ a < 88) ∨ (88 ≤ a ∧ a < 96) ∨ (96 ≤ a ∧ a < 104) ∨ (104 ≤ a ∧ a < 112) ∨ (112 ≤ a ∧ a < 120) ∨ (120 ≤ a ∧ a < 128) ∨ (128 ≤ a ∧ a < 136) ∨ (136 ≤ a ∧ a < 144) ∨ (144 ≤ a ∧ a < 152) ∨ (152 ≤ a ∧ a < 160) ∨ (160 ≤ a ∧ a < 168) ∨ (168 ≤ a ∧ a < 176) ∨ (176 ≤ a ∧ a < 184) ∨ (184 ≤ a ∧ a < 192) ∨ (192 ≤ a ∧ a < 200) ∨ (200 ≤ a ∧ a < 208) ∨ (208 ≤ a ∧ a < 216) ∨ (216 ≤ a ∧ a < 224) ∨ (224 ≤ a ∧ a < 232) ∨ (232 ≤ a ∧ a < 240) ∨ (240 ≤ a ∧ a < 248) ∨ (248 ≤ a ∧ a < 256) by omega) with h | h | h | h | h | h | h | h | h | h | h | h | h | h | h | h | h | h | h | h | h | h | h | h | h | h | h | h | h | h | h | h
    · have := chkI_0 (a - 0) (by omega) b hb
      rwa [show 0 + (a - 0) = a by omega] at this
    · have := chkI_1 (a - 8) (by omega) b hb
      rwa [show 8 + (a - 8) = a by omega] at this
    · have := chkI_2 (a - 16) (by omega) b hb
      rwa [show 16 + (a - 16) = a by omega] at this
    · have := chkI_3 (a - 24) (by omega) b hb
      rwa [show 24 + (a - 24) = a by omega] at this
    · have := chkI_4 (a - 32) (by omega) b hb
      rwa [show 32 + (a - 32) = a by omega] at this
    · have := chkI_5 (a - 40) (by omega) b hb
      rwa [show 40 + (a - 40) = a by omega] at this
    · have := chkI_6 (a - 48) (by omega) b hb
      rwa [show 48 + (a - 48) = a by omega] at this
    · have := chkI_7 (a - 56) (by omega) b hb
      rwa [show 56 + (a - 56) = a by omega] at this
    · have := chkI_8 (a - 64) (by omega) b hb
      rwa [show 64 + (a - 64) = a by omega] at this
    · have := chkI_9 (a - 72) (by omega) b hb
      rwa [show 72 + (a - 72) = a by omega] at this
    · have := chkI_10 (a - 80) (by omega) b hb
      rwa [show 80 + (a - 80) = a by omega] at this
    · have := chkI_11 (a - 88) (by omega) b hb
      rwa [show 88 + (a - 88) = a by omega] at this
    · have := chkI_12 (a - 96) (by omega) b hb
      rwa [show 96 + (a - 96) = a by omega] at this
    · have := chkI_13 (a - 104) (by omega) b hb
      rwa [show 104 + (a - 104) = a by omega] at this
    · have := chkI_14 (a - 112) (by omega) b hb
      rwa [show 112 + (a - 112) = a by omega] at this
    · have := chkI_15 (a - 120) (by omega) b hb
      rwa [show 120 + (a - 120) = a by omega] at this
    · have := chkI_16 (a - 128) (by omega) b hb
      rwa [show 128 + (a - 128) = a by omega] at this
    · have := chkI_17 (a - 136) (by omega) b hb
      rwa [show 136 + (a - 136) = a by omega] at this
    · have := chkI_18 (a - 144) (by omega) b hb
      rwa [show 144 + (a - 144) = a by omega] at this
    · have := chkI_19 (a - 152) (by omega) b hb
      rwa [show 152 + (a - 152) = a by omega] at this
    · have := chkI_20 (a - 160) (by omega) b hb
      rwa [show 160 + (a - 160) = a by omega] at this
    · have := chkI_21 (a - 168) (by omega) b hb
      rwa [show 168 + (a - 168) = a by omega] at this
    · have := chkI_22 (a - 176) (by omega) b hb
      rwa [show 176 + (a - 176) = a by omega] at this
    · have := chkI_23 (a - 184) (by omega) b hb
      rwa [show 184 + (a - 184) = a by omega] at this
    · have := chkI_24 (a - 192) (by omega) b hb
      rwa [show 192 + (a - 192) = a by omega] at this
    · have := chkI_25 (a - 200) (by omega) b hb
      rwa [show 200 + (a - 200) = a by omega] at this
    · have := chkI_26 (a - 208) (by omega) b hb
      rwa [show 208 + (a - 208) = a by omega] at this
    · have := chkI_27 (a - 216) (by omega) b hb
      rwa [show 216 + (a - 216) = a by omega] at this
    · have := chkI_28 (a - 224) (by omega) b hb
      rwa [show 224 + (a - 224) = a by omega] at this
    · have := chkI_29 (a - 232) (by omega) b hb
      rwa [show 232 + (a - 232) = a by omega] at this
    · have := chkI_30 (a - 240) (by omega) b hb
      rwa [show 240 + (a - 240) = a by omega] at this
    · have := chkI_31 (a - 248) (by omega) b hb
      rwa [show 248 + (a - 248) = a by omega] at this
  have h1 := main (c / 256) (by omega) (c % 256) (by omega)
  rwa [show 256 * (c / 256) + c % 256 = c by omega] at h1
/-- how many keys -/
def pcN (k : Nat) : Nat := cnt (fun i => k.testBit i) 16
theorem chkG_d {c : Nat} (h : c < 65536) : pcN c = bcN c ∧ bcN (65535 - c) + bcN c = 16 ∧ c < nxG c ∧ (nxG c < 65536 → bcN (nxG c) = bcN c ∧ nxG (65535 - nxG c) = 65535 - c) ∧ (65536 ≤ nxG c → 65535 - c = 2 ^ (16 - bcN c) - 1) := by
  have h1 := chkG_all h
  unfold chkG at h1
  rw [Bool.and_eq_true, Bool.and_eq_true, Bool.and_eq_true] at h1
  obtain ⟨a1, a2, a3, a4⟩ := h1
  refine ⟨(pop_16 h).trans (Nat.eq_of_beq_eq_true a1).symm, Nat.eq_of_beq_eq_true a2, Nat.le_of_ble_eq_true a3, fun hl => ?_, fun hl => ?_⟩
  · rw [show Nat.blt (nxG c) 65536 = true from Nat.ble_eq_true_of_le hl, cond_true, Bool.and_eq_true] at a4
    exact ⟨Nat.eq_of_beq_eq_true a4.1, Nat.eq_of_beq_eq_true a4.2⟩
  · have : Nat.blt (nxG c) 65536 = false := by
      cases e : Nat.blt (nxG c) 65536 with
      | false => rfl
      | true => exact absurd (Nat.le_of_ble_eq_true e) (by omega)
    rw [this, cond_false] at a4
    exact Nat.eq_of_beq_eq_true a4
theorem pcN_le (k : Nat) : pcN k ≤ 16 := cnt_le _ 16
/-- the one before a set, of the same size -/
theorem gos_pred {j : Nat} (h : j < 65536) : j = 2 ^ pcN j - 1 ∨ ∃ i, i < j ∧ pcN i = pcN j ∧ nxG i = j := by
  have hc := chkG_d (show 65535 - j < 65536 by omega)
  have hj := chkG_d h
  rw [show 65535 - (65535 - j) = j by omega] at hc
  obtain ⟨b1, b2, b3, b4, b5⟩ := hc
  have e1 : 16 - bcN (65535 - j) = pcN j := by rw [hj.1]; omega
  rcases Nat.lt_or_ge (nxG (65535 - j)) 65536 with q | q
  · right
    obtain ⟨c1, c2⟩ := b4 q
    have hi := chkG_d (show 65535 - nxG (65535 - j) < 65536 by omega)
    refine ⟨65535 - nxG (65535 - j), by omega, ?_, c2⟩
    have h3 := hi.2.1
    rw [show 65535 - (65535 - nxG (65535 - j)) = nxG (65535 - j) by omega, c1] at h3
    rw [hi.1, hj.1]
    omega
  · left
    have := b5 q
    rw [e1] at this
    exact this
theorem gos_min : ∀ (n j : Nat), j < n → j < 65536 → 2 ^ pcN j - 1 ≤ j := by
  intro n
  induction n with
  | zero => intro j h; omega
  | succ n ih =>
    intro j hn h
    rcases gos_pred h with e | ⟨i, h1, h2, h3⟩
    · omega
    · have := ih i (by omega) (by omega)
      rw [h2] at this
      omega
theorem gos_gap : ∀ (n j : Nat), j < n → j < 65536 → ∀ k, k < j → pcN k = pcN j → nxG k ≤ j := by
  intro n
  induction n with
  | zero => intro j h; omega
  | succ n ih =>
    intro j hn h k hk e
    rcases gos_pred h with e1 | ⟨i, h1, h2, h3⟩
    · have := gos_min (k + 1) k (by omega) (by omega)
      rw [e] at this
      omega
    · rcases (show k = i ∨ k < i ∨ i < k by omega) with q | q | q
      · subst q; omega
      · have := ih i (by omega) (by omega) k q (by rw [e, h2])
        omega
      · have := ih k (by omega) (by omega) i q (by rw [e, h2])
        omega
theorem gos_nx {k : Nat} (h : k < 65536) : k < nxG k ∧ (nxG k < 65536 → pcN (nxG k) = pcN k) ∧ ∀ j, k < j → j < nxG k → j < 65536 → pcN j ≠ pcN k := by
  have hk := chkG_d h
  refine ⟨hk.2.2.1, fun hl => ?_, fun j h1 h2 h3 e => ?_⟩
  · rw [(chkG_d hl).1, hk.1]
    exact (hk.2.2.2.1 hl).1
  · have := gos_gap (j + 1) j (by omega) h3 k h1 e.symm
    omega
theorem gos_st : ∀ s, s < 17 → pcN (2 ^ s - 1) = s := by decide +kernel
theorem nxI_ok {k : Nat} (h : k < 65536) (h0 : 0 < k) : nI k &&& -(nI k) = nI (loN k) ∧ 0 < loN k ∧ loN k < 65536 ∧ nxN k < 131072 ∧ nxI (nI k) = nI (nxN k) := by
  have h1 := chkI_all h
  unfold chkI at h1
  rw [show Nat.beq k 0 = false by cases e : Nat.beq k 0 with | false => rfl | true => exact absurd (Nat.eq_of_beq_eq_true e) (by omega), Bool.false_or, Bool.and_eq_true, Bool.and_eq_true, Bool.and_eq_true, Bool.and_eq_true] at h1
  exact ⟨eq_of_beq h1.1, Nat.le_of_ble_eq_true h1.2.1, Nat.le_of_ble_eq_true h1.2.2.1, Nat.le_of_ble_eq_true h1.2.2.2.1, eq_of_beq h1.2.2.2.2⟩
theorem nxG_s {k : Nat} (h0 : 0 < k) : nxG k = nxN k := by
  unfold nxG
  rw [show Nat.beq k 0 = false by cases e : Nat.beq k 0 with | false => rfl | true => exact absurd (Nat.eq_of_beq_eq_true e) (by omega)]
  rfl
