/-! what the law's memory keeps; the law's script; its classes -/
theorem ML.cg {Sh Sh' : SM} {J J' : JM} {B : Nat} (h : ML Sh J B) (hs : ∀ b, B ≤ b → b < B + 367 → Sh' b = Sh b) (hj : ∀ b, B ≤ b → b < B + 367 → J' b = J b) : ML Sh' J' B := by
  obtain ⟨h0, ⟨a1, a2, a3, a4, a5⟩, ⟨c1, h2⟩, h3, h4, ⟨c5, h5⟩, h6, h7⟩ := h
  have e := hj B (by omega) (by omega)
  refine ⟨by rw [hs B (by omega) (by omega)]; exact h0, ⟨by rw [e]; exact a1, by rw [e]; exact a2, by rw [e]; exact a3, by rw [e]; exact a4, by rw [e]; exact a5⟩, ⟨c1, by rw [hs _ (by omega) (by omega)]; exact h2⟩, ?_, ?_, ⟨c5, by rw [hs _ (by omega) (by omega)]; exact h5⟩, fun i hi => ?_, ?_⟩
  · exact h3.cg (fun b q1 q2 => hs b (by omega) (by omega)) (fun b q1 q2 => hj b (by omega) (by omega))
  · exact h4.cg (fun b q1 q2 => hs b (by omega) (by omega)) (fun b q1 q2 => hj b (by omega) (by omega))
  · exact (h6 i hi).cg (fun b q1 q2 => hs b (by omega) (by omega)) (fun b q1 q2 => hj b (by omega) (by omega))
  · exact h7.sh (fun b q1 q2 => hs b (by omega) (by omega)) (fun b q1 q2 => hj b (by omega) (by omega))
theorem GV.cg {Sh Sh' : SM} {I I' : IM} {J J' : JM} {B : Nat} {F : FS} (h : GV Sh I J B F) (hs : ∀ b, B ≤ b → b < B + 367 → Sh' b = Sh b) (hi : ∀ b, B ≤ b → b < B + 367 → I' b = I b) (hj : ∀ b, B ≤ b → b < B + 367 → J' b = J b) : GV Sh' I' J' B F := by
  obtain ⟨h0, h1, ⟨a1, a2⟩, ⟨σ, ⟨b1, b2⟩, h3⟩, ⟨c1, c2⟩, h5⟩ := h
  have e := hi B (by omega) (by omega)
  refine ⟨h0.cg hs hj, h1.keep (fun q q1 q2 => hi q (by omega) (by omega)), ⟨a1, by rw [e]; exact a2⟩, ⟨σ, ⟨fun i hi4 => ⟨(b1 i hi4).1, by rw [hj _ (by omega) (by omega)]; exact (b1 i hi4).2⟩, b2⟩, fun i hc => ?_⟩, ⟨by rw [e]; exact c1, fun hh => (c2 hh).keep (fun q q1 q2 => hi q (by omega) (by omega))⟩, h5.keep (hi _ (by omega) (by omega)) (hi _ (by omega) (by omega))⟩
  have h4 := (b1 i (by omega)).1
  exact (h3 i hc).keep (fun q q1 q2 => hi q (by omega) (by omega))
theorem MV.fr {Sh : SM} {I I' : IM} {J J' : JM} {Q : Nat} {F : FS} (h : MV Sh I J Q F) (hi : ∀ b, Q ≤ b → b < Q + 14 → I' b = I b) (hj : J' Q = J Q) : MV Sh I' J' Q F := by
  obtain ⟨⟨m0, m1, m2⟩, h1, ⟨a1, a2⟩, h3, ⟨c1, c2⟩, ⟨⟨t1, t2⟩, t3⟩⟩ := h
  have e := hi Q (by omega) (by omega)
  have e1 := hi (Q + 1) (by omega) (by omega)
  have e2 := hi (Q + 2) (by omega) (by omega)
  have e3 := hi (Q + 3) (by omega) (by omega)
  have e6 := hi (Q + 6) (by omega) (by omega)
  exact ⟨⟨m0, by rw [hj]; exact m1, m2⟩, by rw [e1]; exact h1, ⟨a1, by rw [e]; exact a2⟩, by rw [e2]; exact h3, ⟨by rw [e]; exact c1, by rw [e3]; exact c2⟩, ⟨⟨t1, by rw [e]; exact t2⟩, by rw [e6]; exact t3⟩⟩
/-- after the class's answer the model's memory is as it was -/
theorem MV.ac {Sh : SM} {I I' : IM} {J J' : JM} {B : Nat} {F : FS} (h : MV Sh I J (B + 367) F) (hj : JE (B + 59) J J') (hi : Fr B 367 I I') : MV Sh I' J' (B + 367) F := h.fr (fun b q1 q2 => hi b (by omega)) (hj _ (by omega))
/-- after the model's answer the class's memory is as it was -/
theorem GV.am {Sh : SM} {I I' : IM} {J : JM} {B : Nat} {F : FS} (h : GV Sh I J B F) (hi : ∀ b, b < B + 367 ∨ B + 367 + 14 ≤ b → I' b = I b) : GV Sh I' J B F := h.cg (fun _ _ _ => rfl) (fun b q1 q2 => hi b (by omega)) (fun _ _ _ => rfl)
theorem i2c_nI (x : Int32) : (x.toUInt32 % 65536).toInt32 = nI (x.toUInt32 % 65536).toNat := by
  apply Int32.toBitVec_inj.mp
  apply BitVec.eq_of_toNat_eq
  show (x.toUInt32 % 65536).toNat = (BitVec.ofNat 32 (x.toUInt32 % 65536).toNat).toNat
  rw [BitVec.toNat_ofNat, UInt32.toNat_mod]
  exact (Nat.mod_eq_of_lt (Nat.lt_trans (Nat.mod_lt _ (by decide)) (by decide))).symm
theorem i2c_lt (x : Int32) : (x.toUInt32 % 65536).toNat < 65536 := by
  rw [UInt32.toNat_mod]
  exact Nat.mod_lt _ (by decide)
/-- the script -/
def LSC (X : Cx) (b L : Nat) (xs : Nat → Int32) : Prop := va_X b L xs X.1.2.2.2.2.1 X.1.2.2.2.2.1.heap ∧ b < X.1.2.2.2.2.1.heap.size ∧ ¬ X.2.2.1 b ∧ L ≤ 2560
section WXL
variable {X : Cx} {own : String} {cc : ByteArray} {nL d : Nat} {k n N : Nat} {Sh : SM} {I : IM} {J : JM} {pc : Nat} {l : List (Nat × Value)} {st : List Value} {b L : Nat} {xs : Nat → Int32}
theorem wl_sld (hX : XK X own cc nL d) (S : LSC X b L xs) {x : Int32} {j : Nat} (hx : x = nI j) (hj : j < L) (hd : decode cc pc = .ok (.iaload, 1)) (kk : WX X k n N Sh I J (pc + 1) l (.int (xs j) :: st)) : WX X k n N Sh I J pc l (.int x :: .ref b :: st) := by
  intro H locs ls h1 h2 h3
  have hL := S.2.2.2
  subst hx
  refine va_sld hX.1 hX.2.1 S.1 S.2.1 S.2.2.1 h2 (vp_in_nI hj (by omega)) hd ?_
  rw [nI_clamp (by omega)]
  exact kk H locs ls h1 h2 h3
theorem wl_slen (hX : XK X own cc nL d) (S : LSC X b L xs) (hd : decode cc pc = .ok (.arraylength, 1)) (kk : WX X k n N Sh I J (pc + 1) l (.int (nI L) :: st)) : WX X k n N Sh I J pc l (.ref b :: st) :=
  fun H locs ls h1 h2 h3 => va_slen hX.1 hX.2.1 S.1 S.2.1 S.2.2.1 h2 hd (kk H locs ls h1 h2 h3)
end WXL
theorem kn_ex {s : State} {args : Array Value} (hts : ∀ w ∈ TWg, w.before args s = true) : ∃ D : va_G, KN D s := by
  have hin : ∀ c, c < 7 → Cond.instantiable (clC c) (clN c) ∈ TWg := by
    intro c hc
    rcases (show c = 0 ∨ c = 1 ∨ c = 2 ∨ c = 3 ∨ c = 4 ∨ c = 5 ∨ c = 6 by omega) with rfl | rfl | rfl | rfl | rfl | rfl | rfl
    · exact kN0
    · exact kN1
    · exact kN3
    · exact kN4
    · exact kN5
    · exact kN6
    · exact kN7
  have h : ∀ c : Nat, ∃ (cC : ClassId) (iS : Nat → Nat), ∀ q, vwCl[c]? = some q → u_Kn s q.1 q.2.1 q.2.2 cC iS := by
    intro c
    rcases Nat.lt_or_ge c 7 with hc | hc
    · obtain ⟨cC, iS, hk⟩ := u_known hts (cl_ws hc) (hts _ (hin c hc))
      refine ⟨cC, iS, fun q hq => ?_⟩
      rw [cl_get hc] at hq
      cases hq
      exact hk
    · refine ⟨0, fun _ => 0, fun q hq => ?_⟩
      rw [List.getElem?_eq_none (by exact hc)] at hq
      cases hq
  exact ⟨(fun c => (h c).choose, fun c => (h c).choose_spec.choose), fun c q hq => (h c).choose_spec.choose_spec q hq⟩
