/-! PileMaps: the whole state with the history; record -/
section WXA
variable {X : Cx} {own : String} {cc : ByteArray} {nL d : Nat} {k n N : Nat} {Sh : SM} {I : IM} {J : JM} {pc : Nat} {l : List (Nat × Value)} {st : List Value}
theorem wa_aast (hX : XK X own cc nL d) {a b j nn ci : Nat} (hsh : shA Sh a (clC ci) nn) (hci : ci < 7) (hb : Sh b = some (.inr ci)) {z : Int32} (hz : z = nI j) (hj : j < nn) (hnn : nn < 2 ^ 31) (hd : decode cc pc = .ok (.aastore, 1)) (kk : WX X k n N Sh I (uJ J a j (some b)) (pc + 1) l st) : WX X k n N Sh I J pc l (.ref b :: .int z :: .ref a :: st) := by
  intro H locs ls h1 h2 h3
  subst hz
  obtain ⟨cA, hsa⟩ := hsh
  obtain ⟨hza, hA, hAK⟩ := h1.2 a _ hsa
  obtain ⟨hzb, -, -⟩ := h1.2 b _ hb
  have hin : vp_in (nI j) nn := vp_in_nI hj hnn
  have hcl : (nI j).toNatClampNeg = j := nI_clamp (by omega)
  have h0 : ¬ nI j < 0 := fun q => hin (Or.inl q)
  obtain ⟨r', hr', cellV, g1, g2, g3, -⟩ := hzb
  have hc := cl_get hci
  have hcls := (hX.2.2.2.2.2.1 ci _ hc).2
  obtain ⟨kA, comp, k1, k2, k3, -⟩ := hAK.2
  have hcomp : comp = X.2.1.1 ci := Option.some.inj (k3.symm.trans hcls.1)
  subst hcomp
  obtain ⟨kC, hkC, -⟩ := hcls.2
  have hcell : H[a]? = some (vp_cell cA (nn, .inr (.inr (.inr (.inr (J a)))))) := hza
  refine W.aast hX.1 hX.2.1 hcell (fun q h => by cases h) (fun h => by cases h) k1 k2 rfl hkC ⟨h0, by show _ < (arrV _ _ _).slots.size; rw [arrV_size, hcl]; exact hj⟩ g1 (fun q h => by rw [g3] at h; cases h) (by rw [g2]; exact hkC) (by rw [g2]; exact va_assign hcls) rfl rfl hd fun H1 e z oq => ?_
  refine kk H1 _ ls (h1.set hsa ?_ z oq (fun _ _ => rfl) (fun b hb => by simp [uJ, hb])) (h2.put z oq hA) h3
  show H1[a]? = some (vp_cell cA (nn, .inr (.inr (.inr (.inr (uJ J a j (some b) a))))))
  rw [e, hcl, vp_cell_q, vp_cell_q, arrV_store]
  congr 2
  funext q
  by_cases hq : q = j
  · subst hq
    simp [updV, uJ, va_up, va_rf]
  · simp [updV, uJ, va_up, hq]
end WXA
/-- the same but for the references of the cell q -/
def JE (q : Nat) (J J' : JM) : Prop := ∀ a, a ≠ q → J' a = J a
theorem JE.rf {q : Nat} {J : JM} : JE q J J := fun _ _ => rfl
theorem JE.tr {q : Nat} {J J1 J2 : JM} (h1 : JE q J J1) (h2 : JE q J1 J2) : JE q J J2 := fun a ha => (h2 a ha).trans (h1 a ha)
theorem JE.u {q k : Nat} {v : Option Nat} {J : JM} : JE q J (uJ J q k v) := fun a ha => by simp [uJ, ha]
theorem PL.mv {Sh : SM} {J J' : JM} {a : Nat} (h : PL Sh J a) (hj : ∀ b, a ≤ b → b < a + 8 → J' b = J b) : PL Sh J' a := by
  obtain ⟨h0, h1, h2, h3, h4, h5, h6, h7⟩ := h
  have e0 := hj a (by omega) (by omega)
  have e1 := hj (a + 1) (by omega) (by omega)
  exact ⟨h0, by rw [e0]; exact h1, by rw [e0]; exact h2, by rw [e0]; exact h3, h4, fun j hj2 => by rw [e1]; exact h5 j hj2, h6, h7⟩
theorem QL.mv {Sh : SM} {J J' : JM} {a : Nat} (h : QL Sh J a) (hj : ∀ b, a ≤ b → b < a + 8 → J' b = J b) : QL Sh J' a := by
  obtain ⟨h0, h1, h2, h3⟩ := h
  exact ⟨h0, by rw [hj a (by omega) (by omega)]; exact h1, h2, fun j hj2 => by rw [hj (a + 1) (by omega) (by omega)]; exact h3 j hj2⟩
theorem SL.mv {Sh : SM} {J J' : JM} {a : Nat} (h : SL Sh J a) (hj : ∀ b, a ≤ b → b < a + 58 → J' b = J b) : SL Sh J' a := by
  obtain ⟨h0, h1, h2, ⟨h3, h4⟩, h5⟩ := h
  have e0 := hj a (by omega) (by omega)
  exact ⟨h0, by rw [e0]; exact h1, by rw [e0]; exact h2, ⟨h3, fun j hj2 => ⟨by rw [hj (a + 1) (by omega) (by omega)]; exact (h4 j hj2).1, (h4 j hj2).2.mv (fun b h1 h2 => hj b (by omega) (by omega))⟩⟩, h5.mv (fun b h1 h2 => hj b (by omega) (by omega))⟩
theorem RY.mv {Sh : SM} {J J' : JM} {r : Nat} (h : RY Sh J r) (hj : ∀ b, r ≤ b → b < r + 16 → J' b = J b) : RY Sh J' r := by
  obtain ⟨h0, h1, h2, h3, h4, h5, h6, h7, h8, h9, h10⟩ := h
  have e0 := hj r (by omega) (by omega)
  exact ⟨h0, by rw [e0]; exact h1, by rw [e0]; exact h2, by rw [e0]; exact h3, by rw [e0]; exact h4, h5, by rw [hj (r + 1) (by omega) (by omega)]; exact h6, h7, h8, fun j hj2 => by rw [hj (r + 3) (by omega) (by omega)]; exact h9 j hj2, h10⟩
theorem ML.mv {Sh : SM} {J J' : JM} {B : Nat} (h : ML Sh J B) (hj : JE (B + 59) J J') : ML Sh J' B := by
  obtain ⟨h0, ⟨h1, h2, h3, h4, h5⟩, h6, h7, h8, h9, h10, h11⟩ := h
  have e0 := hj B (by omega)
  exact ⟨h0, by rw [e0]; exact ⟨h1, h2, h3, h4, h5⟩, h6, h7.mv (fun b h1 h2 => hj b (by omega)), h8.mv (fun b h1 h2 => hj b (by omega)), h9, fun i hi => (h10 i hi).mv (fun b h1 h2 => hj b (by omega)), h11.mv (fun b h1 h2 => hj b (by omega))⟩
abbrev FS : Type := AS × (Nat × (Nat → AS)) × (Bool × AS) × (Nat × (Nat → Nat))
def gN (F : FS) : AS := F.1
def gC (F : FS) : Nat := F.2.1.1
def gP (F : FS) : Nat → AS := F.2.1.2
def gH (F : FS) : Bool := F.2.2.1.1
def gK (F : FS) : AS := F.2.2.1.2
def gL (F : FS) : Nat := F.2.2.2.1
def gT (F : FS) : Nat → Nat := F.2.2.2.2
/-- the past's places -/
def PQ (J : JM) (B : Nat) (σ : Nat → Nat) : Prop := (∀ i, i < 4 → σ i < 4 ∧ J (B + 59) i = some (B + 60 + 58 * σ i)) ∧ ∀ i j, i < 4 → j < 4 → σ i = σ j → i = j
/-- the text -/
def TV (I : IM) (B len : Nat) (ch : Nat → Nat) : Prop := (len ≤ 60 ∧ I (B + 351) 1 = nI len) ∧ ∀ j, j < len → I (B + 352) j = nI (ch j) ∧ ch j < 65536
def GV (Sh : SM) (I : IM) (J : JM) (B : Nat) (F : FS) : Prop := ML Sh J B ∧ SV I (B + 1) (gN F) ∧ (gC F ≤ 4 ∧ I B 5 = nI (gC F)) ∧ (∃ σ, PQ J B σ ∧ ∀ i, i < gC F → SV I (B + 60 + 58 * σ i) (gP F i)) ∧ (I B 6 = bI (gH F) ∧ (gH F = true → SV I (B + 292) (gK F))) ∧ TV I B (gL F) (gT F)
def recP (F : FS) : Nat × (Nat → AS) := if gC F < 4 then (gC F + 1, upF (gP F) (gC F) (gN F)) else (4, fun i => if i = 3 then gN F else gP F (i + 1))
def recF (F : FS) : FS := (F.1, recP F, F.2.2)
theorem TV.keep {I I' : IM} {B len : Nat} {ch : Nat → Nat} (h : TV I B len ch) (h1 : I' (B + 351) = I (B + 351)) (h2 : I' (B + 352) = I (B + 352)) : TV I' B len ch := ⟨⟨h.1.1, by rw [h1]; exact h.1.2⟩, fun j hj => by rw [h2]; exact h.2 j hj⟩
set_option maxHeartbeats 4000000 in
set_option maxRecDepth 100000 in
theorem tX6_dropOldest {l : Launch} {D : va_G} {A : Nat → Prop} {N : Nat} {Sh : SM} {J : JM} (I : IM) {B : Nat} (hM : ML Sh J B) {σ : Nat → Nat} (hσ : PQ J B σ) : CtV l D A yX6_dropOldest cX6_dropOldest 3 0 N Sh I J [.ref B] (fun I' J' => I' = u2 I B 5 (nI 3) ∧ JE (B + 59) J J' ∧ ∀ i, i < 4 → J' (B + 59) i = some (B + 60 + 58 * σ (if i = 3 then 0 else i + 1))) := by
  refine ct_V (l0 := [(0, .ref B)]) (by decide +kernel) (Nat.le_of_ble_eq_true rfl) rfl ?_
  intro X hX hret _ _ _
  have hX : XK X RX6 cX6_dropOldest 3 0 := hX
  obtain ⟨m0, ⟨mj0, mj1, mj2, mj3, mj4⟩, mdf, mS, mK, mPa, mPs, mR⟩ := id hM
  have mPr : shR Sh (B + 59) 4 := by
    obtain ⟨cA, e⟩ := mPa
    exact ⟨cA, _, e, rfl⟩
  have lp : ∀ (n t : Nat), t + n = 3 → ∀ (J1 : JM), JE (B + 59) J J1 → (∀ i, i < 4 → J1 (B + 59) i = some (B + 60 + 58 * σ (if i < t then i + 1 else i))) → WX X 0 0 N Sh I J1 9 [(0, .ref B), (1, .ref (B + 60 + 58 * σ 0)), (2, .int (nI (t + 1)))] [] := by
    intro n
    induction n with
    | zero =>
      intro t ht J1 hJ hi
      obtain rfl : 3 = t := by omega
      refine wa_iload_n hX dX6_dropOldest_9 rfl ?_
      refine wa_iconst (v := nI 4) hX dX6_dropOldest_10 (by decide) ?_
      refine wa_icmp_ge (tgt := 34) hX dX6_dropOldest_11 (by decide) (fun c_11 => ?_) (fun c_11 => absurd (by decide) c_11)
      refine wa_aload_n hX dX6_dropOldest_34 rfl ?_
      refine wa_getR hX fX6_16 rfl m0 (show J1 B 1 = some (B + 59) by rw [hJ B (by omega)]; exact mj1) dX6_dropOldest_35 ?_
      refine wa_iconst (v := nI 3) hX dX6_dropOldest_38 (by decide) ?_
      refine wa_aload_n hX dX6_dropOldest_39 rfl ?_
      refine wa_aast (ci := 3) hX mPa (by decide) (mPs (σ 0) (hσ.1 0 (by decide)).1).1 rfl (show 3 < 4 by decide) (by decide) dX6_dropOldest_40 ?_
      refine wa_aload_n hX dX6_dropOldest_41 rfl ?_
      refine wa_iconst (v := nI 3) hX dX6_dropOldest_42 (by decide) ?_
      refine wa_putI hX fX6_34 rfl rfl ⟨rfl, rfl⟩ m0 dX6_dropOldest_43 ?_
      refine hret _ _ _ _ ⟨rfl, hJ.tr JE.u, fun i hi2 => ?_⟩ dX6_dropOldest_46
      by_cases e : i = 3
      · subst e; simp [uJ, va_up]
      · rw [if_neg e]
        have h9 := hi i hi2
        rw [if_pos (by omega)] at h9
        simp only [uJ, ↓reduceIte, va_up, if_neg e]
        exact h9
    | succ n ih =>
      intro t ht J1 hJ hi
      have hj1 : J1 B 1 = some (B + 59) := by rw [hJ B (by omega)]; exact mj1
      have ha := hi (t + 1) (by omega)
      rw [if_neg (by omega)] at ha
      refine wa_iload_n hX dX6_dropOldest_9 rfl ?_
      refine wa_iconst (v := nI 4) hX dX6_dropOldest_10 (by decide) ?_
      refine wa_icmp_ge (tgt := 34) hX dX6_dropOldest_11 (by decide) (fun c_11 => absurd c_11 (nI_ge (show t + 1 < 4 by omega) (by decide))) (fun c_11 => ?_)
      refine wa_aload_n hX dX6_dropOldest_14 rfl ?_
      refine wa_getR hX fX6_16 rfl m0 hj1 dX6_dropOldest_15 ?_
      refine wa_iload_n hX dX6_dropOldest_18 rfl ?_
      refine wa_iconst (v := nI 1) hX dX6_dropOldest_19 (by decide) ?_
      refine wa_isub hX dX6_dropOldest_20 ?_
      refine wa_aload_n hX dX6_dropOldest_21 rfl ?_
      refine wa_getR hX fX6_16 rfl m0 hj1 dX6_dropOldest_22 ?_
      refine wa_iload_n hX dX6_dropOldest_25 rfl ?_
      refine wa_aald hX mPr rfl (show t + 1 < 4 by omega) (by decide) ha dX6_dropOldest_26 ?_
      refine wa_aast (ci := 3) hX mPa (by decide) (mPs _ (hσ.1 (t + 1) (by omega)).1).1 (nI_pred t) (show t < 4 by omega) (by decide) dX6_dropOldest_27 ?_
      refine wa_iinc hX dX6_dropOldest_28 rfl (inc1 _) (by decide) ?_
      refine wa_goto (tgt := 9) hX dX6_dropOldest_31 (by decide) ?_
      refine wx_sub (l' := [(0, _), (1, _), (2, _)]) ⟨rfl, rfl, rfl, trivial⟩ ?_
      refine ih (t + 1) (by omega) _ (hJ.tr JE.u) (fun i hi2 => ?_)
      by_cases e : i = t
      · subst e; simp [uJ, va_up]
      · have h9 := hi i hi2
        simp only [uJ, ↓reduceIte, va_up, if_neg e]
        rw [h9]
        by_cases q : i < t
        · rw [if_pos q, if_pos (by omega)]
        · rw [if_neg q, if_neg (by omega)]
  refine wa_aload_n hX dX6_dropOldest_0 rfl ?_
  refine wa_getR hX fX6_16 rfl m0 mj1 dX6_dropOldest_1 ?_
  refine wa_iconst (v := nI 0) hX dX6_dropOldest_4 (by decide) ?_
  refine wa_aald hX mPr rfl (show 0 < 4 by decide) (by decide) (hσ.1 0 (by decide)).2 dX6_dropOldest_5 ?_
  refine wa_astore_n hX dX6_dropOldest_6 (by decide) ?_
  refine wa_iconst (v := nI 1) hX dX6_dropOldest_7 (by decide) ?_
  refine wa_istore_n hX dX6_dropOldest_8 (by decide) ?_
  refine wx_sub (l' := [(0, _), (1, _), (2, _)]) ⟨rfl, rfl, rfl, trivial⟩ ?_
  exact lp 3 0 (by omega) J JE.rf (fun i hi => by rw [if_neg (by omega)]; exact (hσ.1 i hi).2)

set_option maxHeartbeats 4000000 in
set_option maxRecDepth 100000 in
theorem tX6_record {l : Launch} {D : va_G} {A : Nat → Prop} {N : Nat} {Sh : SM} {J : JM} (I : IM) {B : Nat} {F : FS} (hG : GV Sh I J B F) : CtV l D A yX6_record cX6_record 1 4 N Sh I J [.ref B] (fun I' J' => GV Sh I' J' B (recF F) ∧ JE (B + 59) J J' ∧ Fr B 367 I I') := by
  refine ct_V (l0 := [(0, .ref B)]) (by decide +kernel) (Nat.le_of_ble_eq_true rfl) rfl ?_
  intro X hX hret _ _ _
  have hX : XK X RX6 cX6_record 1 4 := hX
  obtain ⟨hM, hV, ⟨hc1, hc2⟩, ⟨σ, hσ, hp⟩, hkk, hT⟩ := id hG
  obtain ⟨m0, ⟨mj0, mj1, mj2, mj3, mj4⟩, mdf, mS, mK, mPa, mPs, mR⟩ := id hM
  refine wa_aload_n hX dX6_record_0 rfl ?_
  refine wa_getI hX fX6_34 rfl m0 dX6_record_1 ?_
  rw [hc2]
  refine wa_iconst (v := nI 4) hX dX6_record_4 (by decide) ?_
  refine wa_icmp_lt (tgt := 12) hX dX6_record_5 (by decide) (fun c_5 => ?_) (fun c_5 => ?_)
  · skip
    have hlt : gC F < 4 := by
      rcases Nat.lt_or_ge (gC F) 4 with q | q
      · exact q
      · exact absurd c_5 (nI_nlt q (by omega))
    obtain ⟨hs1, hs2⟩ := hσ.1 (gC F) hlt
    refine wa_aload_n hX dX6_record_12 rfl ?_
    refine wa_getR hX fX6_16 rfl m0 mj1 dX6_record_13 ?_
    refine wa_aload_n hX dX6_record_16 rfl ?_
    refine wa_getI hX fX6_34 rfl m0 dX6_record_17 ?_
    rw [hc2]
    refine wa_aald hX (show shR Sh (B + 59) 4 by obtain ⟨cA, e⟩ := mPa; exact ⟨cA, _, e, rfl⟩) rfl hlt (by decide) hs2 dX6_record_20 ?_
    refine wa_aload_n hX dX6_record_21 rfl ?_
    refine wa_getR hX fX6_10 rfl m0 mj0 dX6_record_22 ?_
    refine wa_vW hX (tX4_copyFrom _ (mPs _ hs1) mS (by omega) hV) bX4_copyFrom mX6_150 (by decide) (by decide) (ci := 3) ⟨by decide, rfl⟩ (mPs _ hs1).1 rfl rfl (Nat.le_of_ble_eq_true rfl) dX6_record_25 (fun I_25 q_25 => ?_)
    obtain ⟨w1, w2⟩ := q_25
    refine wa_aload_n hX dX6_record_28 rfl ?_
    refine wa_dup hX dX6_record_29 rfl ?_
    refine wa_getI hX fX6_34 rfl m0 dX6_record_30 ?_
    refine wa_iconst (v := nI 1) hX dX6_record_33 (by decide) ?_
    rw [w2.n (c := B) (by omega), hc2]
    refine wa_iadd hX dX6_record_34 ?_
    rw [show nI (gC F) + nI 1 = nI (gC F + 1) from nI_add _ 1]
    refine wa_putI hX fX6_34 rfl rfl ⟨rfl, rfl⟩ m0 dX6_record_35 ?_
    refine hret _ _ _ _ ⟨⟨hM, ?_, ?_, ⟨σ, hσ, fun i hi => ?_⟩, ⟨?_, fun hh => ?_⟩, ?_⟩, JE.rf, ?_⟩ dX6_record_38
    · exact (hV.keep (fun q h1 h2 => w2.n (by omega))).keep (fun q h1 h2 => u2_n (by omega))
    · show gC (recF F) ≤ 4 ∧ _ = nI (gC (recF F))
      rw [show gC (recF F) = gC F + 1 by simp [gC, recF, recP, show F.2.1.1 < 4 from hlt]]
      exact ⟨by omega, u2_s⟩
    · rw [show gC (recF F) = gC F + 1 by simp [gC, recF, recP, show F.2.1.1 < 4 from hlt]] at hi
      rw [show gP (recF F) = upF (gP F) (gC F) (gN F) by simp [gP, gC, gN, recF, recP, show F.2.1.1 < 4 from hlt]]
      refine SV.keep (I := I_25) ?_ (fun q h1 h2 => u2_n (by omega))
      by_cases e : i = gC F
      · subst e; simp only [upF, ↓reduceIte]; exact w1
      · simp only [upF, if_neg e]
        have h7 := hσ.1 i (by omega)
        have h8 : σ i ≠ σ (gC F) := fun q => e (hσ.2 i (gC F) (by omega) hlt q)
        exact (hp i (by omega)).keep (fun q h1 h2 => w2.n (by omega))
    · rw [u2_k (by decide), w2.n (c := B) (by omega)]; exact hkk.1
    · exact ((hkk.2 hh).keep (fun q h1 h2 => w2.n (by omega))).keep (fun q h1 h2 => u2_n (by omega))
    · exact hT.keep (by rw [u2_n (by omega), w2.n (by omega)]) (by rw [u2_n (by omega), w2.n (by omega)])
    · exact Fr.tr (w2.in (by omega) (by omega)) (Fr.u2 (Nat.le_refl _) (by omega))
  · skip
    have hlt : gC F = 4 := by
      rcases Nat.lt_or_ge (gC F) 4 with q | q
      · exact absurd (nI_lt q (by decide)) c_5
      · omega
    refine wa_aload_n hX dX6_record_8 rfl ?_
    refine wa_callVV hX (tX6_dropOldest I hM hσ) bX6_dropOldest mX6_257 (by decide) (by decide) (ci := 5) ⟨by decide, rfl⟩ m0 rfl rfl (Nat.le_of_ble_eq_true rfl) dX6_record_9 (fun I_9 J_9 q_9 => ?_)
    obtain ⟨hI, hJ, hn⟩ := q_9
    have hM2 := hM.mv hJ
    obtain ⟨m0, ⟨mj0, mj1, mj2, mj3, mj4⟩, mdf, mS, mK, mPa, mPs, mR⟩ := id hM2
    have hs2 := hn 3 (by decide)
    rw [if_pos rfl] at hs2
    obtain ⟨hs1, -⟩ := hσ.1 0 (by decide)
    have hV2 : SV I_9 (B + 1) (gN F) := hV.keep (fun q h1 h2 => by rw [hI]; exact u2_n (by omega))
    refine wa_aload_n hX dX6_record_12 rfl ?_
    refine wa_getR hX fX6_16 rfl m0 mj1 dX6_record_13 ?_
    refine wa_aload_n hX dX6_record_16 rfl ?_
    refine wa_getI hX fX6_34 rfl m0 dX6_record_17 ?_
    rw [show I_9 B 5 = nI 3 by rw [hI]; exact u2_s]
    refine wa_aald hX (show shR Sh (B + 59) 4 by obtain ⟨cA, e⟩ := mPa; exact ⟨cA, _, e, rfl⟩) rfl (show 3 < 4 by decide) (by decide) hs2 dX6_record_20 ?_
    refine wa_aload_n hX dX6_record_21 rfl ?_
    refine wa_getR hX fX6_10 rfl m0 mj0 dX6_record_22 ?_
    refine wa_vW hX (tX4_copyFrom _ (mPs _ hs1) mS (by omega) hV2) bX4_copyFrom mX6_150 (by decide) (by decide) (ci := 3) ⟨by decide, rfl⟩ (mPs _ hs1).1 rfl rfl (Nat.le_of_ble_eq_true rfl) dX6_record_25 (fun I_25 q_25 => ?_)
    obtain ⟨w1, w2⟩ := q_25
    refine wa_aload_n hX dX6_record_28 rfl ?_
    refine wa_dup hX dX6_record_29 rfl ?_
    refine wa_getI hX fX6_34 rfl m0 dX6_record_30 ?_
    refine wa_iconst (v := nI 1) hX dX6_record_33 (by decide) ?_
    rw [w2.n (c := B) (by omega), show I_9 B 5 = nI 3 by rw [hI]; exact u2_s]
    refine wa_iadd hX dX6_record_34 ?_
    rw [show nI 3 + nI 1 = nI 4 from nI_add _ 1]
    refine wa_putI hX fX6_34 rfl rfl ⟨rfl, rfl⟩ m0 dX6_record_35 ?_
    have f0 : ∀ b, b ≠ B → I_9 b = I b := fun b hb => by rw [hI]; exact u2_n hb
    refine hret _ _ _ _ ⟨⟨hM2, ?_, ?_, ⟨fun i => σ (if i = 3 then 0 else i + 1), ⟨fun i hi => ⟨(hσ.1 _ (by split <;> omega)).1, hn i hi⟩, fun i j hi hj e => ?_⟩, fun i hi => ?_⟩, ⟨?_, fun hh => ?_⟩, ?_⟩, hJ, ?_⟩ dX6_record_38
    · exact (hV2.keep (fun q h1 h2 => w2.n (by omega))).keep (fun q h1 h2 => u2_n (by omega))
    · show gC (recF F) ≤ 4 ∧ _ = nI (gC (recF F))
      rw [show gC (recF F) = 4 by simp [gC, recF, recP, show ¬ F.2.1.1 < 4 by have : F.2.1.1 = 4 := hlt; omega]]
      exact ⟨by omega, u2_s⟩
    · have h7 := hσ.2 _ _ (by split <;> omega) (by split <;> omega) e
      split at h7 <;> split at h7 <;> omega
    · rw [show gC (recF F) = 4 by simp [gC, recF, recP, show ¬ F.2.1.1 < 4 by have : F.2.1.1 = 4 := hlt; omega]] at hi
      rw [show gP (recF F) = (fun i => if i = 3 then gN F else gP F (i + 1)) by simp [gP, gC, gN, recF, recP, show ¬ F.2.1.1 < 4 by have : F.2.1.1 = 4 := hlt; omega]]
      refine SV.keep (I := I_25) ?_ (fun q h1 h2 => u2_n (by omega))
      by_cases e : i = 3
      · subst e; simp only [↓reduceIte]; exact w1
      · simp only [if_neg e]
        have h7 := hσ.1 (i + 1) (by omega)
        have h8 : σ (i + 1) ≠ σ 0 := fun q => by have := hσ.2 (i + 1) 0 (by omega) (by decide) q; omega
        exact ((hp (i + 1) (by omega)).keep (fun q h1 h2 => f0 q (by omega))).keep (fun q h1 h2 => w2.n (by omega))
    · rw [u2_k (by decide), w2.n (c := B) (by omega), hI, u2_k (by decide)]; exact hkk.1
    · exact (((hkk.2 hh).keep (fun q h1 h2 => f0 q (by omega))).keep (fun q h1 h2 => w2.n (by omega))).keep (fun q h1 h2 => u2_n (by omega))
    · exact hT.keep (by rw [u2_n (by omega), w2.n (by omega), f0 _ (by omega)]) (by rw [u2_n (by omega), w2.n (by omega), f0 _ (by omega)])
    · rw [hI] at w2
      exact Fr.tr (Fr.u2 (Nat.le_refl _) (by omega)) (Fr.tr (w2.in (by omega) (by omega)) (Fr.u2 (Nat.le_refl _) (by omega)))

