/-! PileMapsModel: probes -/
theorem scF_t {l : List Nat} {n : Nat} (h : tsB l n = true) (h2 : pcN n < (scF l n).2) : scF l (n + 1) = (n, pcN n) := if_pos (by rw [h, decide_eq_true h2]; rfl)
theorem scF_f {l : List Nat} {n : Nat} (h : tsB l n = false ∨ ¬ pcN n < (scF l n).2) : scF l (n + 1) = scF l n := if_neg (by
  rcases h with h | h
  · rw [h, Bool.false_and]; decide
  · rw [decide_eq_false h, Bool.and_false]; decide)
theorem pc_bits {k : Nat} (h : k < 2 ^ 32) : cnt (fun i => bt (nI k) i) 16 = pcN k := cnt_congr (fun i _ => bt_nat h i)
set_option maxHeartbeats 4000000 in
set_option maxRecDepth 100000 in
theorem tX7_probes {l : Launch} {D : va_G} {A : Nat → Prop} {N : Nat} {Sh : SM} {J : JM} (I : IM) {Q : Nat} {F : FS} (hG : MV Sh I J Q F) (x : Int32) : CtM l D A yX7_probes cX7_probes 7 FieldType.int 5 N Sh I J [.ref Q, .int x] (fun r I' => AM Sh I J Q (onB 64 x (fun s => if s = 0 then -2 else prbF (gN F) s) (-2), F) r I') := by
  refine ct_I (l0 := [(0, .ref Q), (1, .int x)]) (by decide +kernel) (Nat.le_of_ble_eq_true rfl) rfl (fun _ _ _ _ => rfl) ?_
  intro X hX hret _ _ _
  have hX : XK X RX7 cX7_probes 7 5 := hX
  obtain ⟨hM, hV, ⟨hc1, hc2⟩, hp, hkk, hT⟩ := id hG
  obtain ⟨q0, ⟨qj0, qj1, qj3, qj5, qj6, qj8, qj12, qj13, qj14, qj15, qj16, qj18, qj19⟩, ⟨qs1, qs2, qs3, qs4, qs5, qs6, qs7, qs8, qs9, qs10, qs11, qs12, qs13⟩⟩ := id hM
  obtain ⟨S, hS⟩ : ∃ S, S = gN F := ⟨_, rfl⟩
  rw [← hS] at hV
  have tail : ∀ (s : Nat), s < 64 → 0 < s → x = nI s → WX X 0 0 N Sh I J 13 [(0, .ref Q), (1, .int (nI s))] [] := by
    intro s hs hs0 ex
    subst ex
    have scan : ∀ (I2 : IM), (∀ b, b ≠ Q + 13 → I2 b = I b) → DL (I2 (Q + 13)) (prs S s) → WX X 0 0 N Sh I2 J 92 [(0, .ref Q), (1, .int (nI s)), (2, .int (nI (prs S s).length))] [] := by
      intro I2 hI hD
      have hG2 : MV Sh I2 J Q F := hG.rd (fun j _ _ _ _ => by rw [hI Q (by omega)]) (fun b hb => hI b (by omega))
      have fin : ∀ {r : Int32}, onB 64 (nI s) (fun s => if s = 0 then -2 else prbF (gN F) s) (-2) = r → AM Sh I J Q (onB 64 (nI s) (fun s => if s = 0 then -2 else prbF (gN F) s) (-2), F) r I2 := fun e => ⟨e.symm, hG2, fun b hb => hI b (by omega)⟩
      have ls : ∀ (n k : Nat), k + n = 65535 → WX X 0 0 N Sh I2 J 102 [(0, .ref Q), (1, .int (nI s)), (2, .int (nI (prs S s).length)), (3, .int (nI (scF (prs S s) k).1)), (4, .int (nI (scF (prs S s) k).2)), (5, .int (nI k))] [] := by
        intro n
        induction n with
        | zero =>
          intro k hk
          obtain rfl : 65535 = k := by omega
          refine wa_iload hX dX7_probes_102 rfl ?_
          refine wa_ldc (v := nI 65535) hX kX7_209 dX7_probes_104 ?_
          refine wa_icmp_ge (tgt := 169) hX dX7_probes_106 (by decide) (fun c_106 => ?_) (fun c_106 => absurd (Int32.le_refl _) c_106)
          refine wa_iload_n hX dX7_probes_169 rfl ?_
          exact hret _ _ _ _ _ ⟨fin (by rw [onB_in hs (by decide), if_neg (by omega), ← hS]; rfl), rfl⟩ dX7_probes_170
        | succ n ih =>
          intro k hk
          have hk5 : k < 65535 := by omega
          have hsc2 : (scF (prs S s) k).2 ≤ 16 := by
            have hse := (sc_inv (l := prs S s) (prO_ok 6) k (by omega)).2.2.1
            rw [hse]
            exact pcN_le _
          have hpk := pcN_le k
          have ihs : ∀ {b c : Nat}, (scF (prs S s) (k + 1) = (b, c) ∨ scF (prs S s) (k + 1) = (b, c)) → WX X 0 0 N Sh I2 J 102 [(0, .ref Q), (1, .int (nI s)), (2, .int (nI (prs S s).length)), (3, .int (nI b)), (4, .int (nI c)), (5, .int (nI (k + 1)))] [] := by
            intro b c h
            have h := h.elim id id
            have := ih (k + 1) (by omega)
            rw [h] at this
            exact this
          have nxt : ∀ (met : Nat), met ≤ (prs S s).length → (met = (prs S s).length ↔ tsB (prs S s) k = true) → WX X 0 0 N Sh I2 J 137 [(0, .ref Q), (1, .int (nI s)), (2, .int (nI (prs S s).length)), (3, .int (nI (scF (prs S s) k).1)), (4, .int (nI (scF (prs S s) k).2)), (5, .int (nI k)), (6, .int (nI met))] [] := by
            intro met hmet hiff
            refine wa_iload hX dX7_probes_137 rfl ?_
            refine wa_iload_n hX dX7_probes_139 rfl ?_
            refine wa_icmp_ne (tgt := 163) hX dX7_probes_140 (by decide) (fun c_140 => ?_) (fun c_140 => ?_)
            · skip
              have n1 : tsB (prs S s) k = false := Bool.eq_false_iff.mpr (fun e => c_140 (by rw [hiff.mpr e]))
              refine wa_iinc hX dX7_probes_163 rfl (inc1 _) (by decide) ?_
              refine wa_goto (tgt := 102) hX dX7_probes_166 (by decide) ?_
              refine wx_sub (l' := [(0, _), (1, _), (2, _), (3, _), (4, _), (5, _)]) ⟨rfl, rfl, rfl, rfl, rfl, rfl, trivial⟩ ?_
              exact ihs (Or.inl (scF_f (Or.inl n1)))
            · skip
              have n1 : tsB (prs S s) k = true := hiff.mp (eq_of_nI c_140 (by have := prs_15 S s; omega) (by have := prs_15 S s; omega))
              refine wa_iload hX dX7_probes_143 rfl ?_
              refine wa_sP hX (tX7_bits I2 (nI k)) bX7_bits mX7_119 (by decide) (by decide) rfl rfl (Nat.le_of_ble_eq_true rfl) dX7_probes_145 (fun r_145 q_145 => ?_)
              rw [pc_bits (by omega)] at q_145
              subst q_145
              refine wa_iload hX dX7_probes_148 rfl ?_
              refine wa_icmp_ge (tgt := 163) hX dX7_probes_150 (by decide) (fun c_150 => ?_) (fun c_150 => ?_)
              · skip
                have n2 : ¬ pcN k < (scF (prs S s) k).2 := by have := (nI_leI (by omega) (by omega)).mp c_150; omega
                refine wa_iinc hX dX7_probes_163 rfl (inc1 _) (by decide) ?_
                refine wa_goto (tgt := 102) hX dX7_probes_166 (by decide) ?_
                refine wx_sub (l' := [(0, _), (1, _), (2, _), (3, _), (4, _), (5, _)]) ⟨rfl, rfl, rfl, rfl, rfl, rfl, trivial⟩ ?_
                exact ihs (Or.inl (scF_f (Or.inr n2)))
              · skip
                have n2 : pcN k < (scF (prs S s) k).2 := Nat.lt_of_not_le (fun h => c_150 ((nI_leI (by omega) (by omega)).mpr h))
                refine wa_iload hX dX7_probes_153 rfl ?_
                refine wa_istore_n hX dX7_probes_155 (by decide) ?_
                refine wa_iload hX dX7_probes_156 rfl ?_
                refine wa_sP hX (tX7_bits I2 (nI k)) bX7_bits mX7_119 (by decide) (by decide) rfl rfl (Nat.le_of_ble_eq_true rfl) dX7_probes_158 (fun r_158 q_158 => ?_)
                rw [pc_bits (by omega)] at q_158
                subst q_158
                refine wa_istore hX dX7_probes_161 (by decide) ?_
                refine wa_iinc hX dX7_probes_163 rfl (inc1 _) (by decide) ?_
                refine wa_goto (tgt := 102) hX dX7_probes_166 (by decide) ?_
                refine wx_sub (l' := [(0, _), (1, _), (2, _), (3, _), (4, _), (5, _)]) ⟨rfl, rfl, rfl, rfl, rfl, rfl, trivial⟩ ?_
                exact ihs (Or.inr (scF_t n1 n2))
          have lm : ∀ (n1q i : Nat), i + n1q = (prs S s).length → (tsN (prs S s) k i = true) → WX X 0 0 N Sh I2 J 112 [(0, .ref Q), (1, .int (nI s)), (2, .int (nI (prs S s).length)), (3, .int (nI (scF (prs S s) k).1)), (4, .int (nI (scF (prs S s) k).2)), (5, .int (nI k)), (6, .int (nI i))] [] := by
            intro n1q
            induction n1q with
            | zero =>
              intro i  hi ht
              obtain rfl : (prs S s).length = i := by omega
              refine wa_iload hX dX7_probes_112 rfl ?_
              refine wa_iload_n hX dX7_probes_114 rfl ?_
              refine wa_icmp_ge (tgt := 137) hX dX7_probes_115 (by decide) (fun c_115 => ?_) (fun c_115 => absurd (Int32.le_refl _) c_115)
              refine wx_sub (l' := [(0, _), (1, _), (2, _), (3, _), (4, _), (5, _), (6, _)]) ⟨rfl, rfl, rfl, rfl, rfl, rfl, rfl, trivial⟩ ?_
              exact nxt _ (Nat.le_refl _) ⟨fun _ => by rw [ts_N]; exact ht, fun _ => rfl⟩
            | succ n1q ihj =>
              intro i  hi ht
              have hlt : i < (prs S s).length := by omega
              refine wa_iload hX dX7_probes_112 rfl ?_
              refine wa_iload_n hX dX7_probes_114 rfl ?_
              refine wa_icmp_ge (tgt := 137) hX dX7_probes_115 (by decide) (fun c_115 => absurd c_115 (nI_ge hlt (by have := prs_15 S s; omega))) (fun c_115 => ?_)
              refine wa_aload_n hX dX7_probes_118 rfl ?_
              refine wa_getR hX fX7_48 rfl q0 qj19 dX7_probes_119 ?_
              refine wa_iload hX dX7_probes_122 rfl ?_
              refine wa_iald hX qs13 rfl (show i < 15 by have := prs_15 S s; omega) (by decide) dX7_probes_124 ?_
              rw [hD i hlt]
              refine wa_iload hX dX7_probes_125 rfl ?_
              refine wa_iand hX dX7_probes_127 ?_
              rw [nx_an]
              have hb9 : ((prs S s).getD i 0 &&& k) < 65536 := Nat.lt_of_le_of_lt Nat.and_le_left (prO_ok 6 _ (by show (prs S s).getD i 0 ∈ prs S s; rw [ld_e hlt]; exact List.getElem_mem hlt)).2
              refine wa_if_eq (tgt := 137) hX dX7_probes_128 (by decide) (fun c_128 => ?_) (fun c_128 => ?_)
              · skip
                have n1 : ((prs S s).getD i 0 &&& k) = 0 := eq_of_nI (show nI _ = nI 0 from c_128) (by omega) (by decide)
                refine wx_sub (l' := [(0, _), (1, _), (2, _), (3, _), (4, _), (5, _), (6, _)]) ⟨rfl, rfl, rfl, rfl, rfl, rfl, rfl, trivial⟩ ?_
                exact nxt i (Nat.le_of_lt hlt) ⟨fun e => by omega, fun e => absurd n1 ((tsN_all (prs S s) k (prs S s).length).mp ((ts_N (prs S s) k).symm.trans e) i hlt)⟩
              · skip
                have n1 : ((prs S s).getD i 0 &&& k) ≠ 0 := fun e => c_128 (by rw [e]; rfl)
                refine wa_iinc hX dX7_probes_131 rfl (inc1 _) (by decide) ?_
                refine wa_goto (tgt := 112) hX dX7_probes_134 (by decide) ?_
                refine wx_sub (l' := [(0, _), (1, _), (2, _), (3, _), (4, _), (5, _), (6, _)]) ⟨rfl, rfl, rfl, rfl, rfl, rfl, rfl, trivial⟩ ?_
                exact ihj (i + 1) (by omega) (by show (tsN (prs S s) k i && !decide (((prs S s).getD i 0 &&& k) = 0)) = true; rw [ht, decide_eq_false n1]; rfl)
          refine wa_iload hX dX7_probes_102 rfl ?_
          refine wa_ldc (v := nI 65535) hX kX7_209 dX7_probes_104 ?_
          refine wa_icmp_ge (tgt := 169) hX dX7_probes_106 (by decide) (fun c_106 => absurd c_106 (nI_ge hk5 (by decide))) (fun c_106 => ?_)
          refine wa_iconst (v := nI 0) hX dX7_probes_109 (by decide) ?_
          refine wa_istore hX dX7_probes_110 (by decide) ?_
          refine wx_sub (l' := [(0, _), (1, _), (2, _), (3, _), (4, _), (5, _), (6, _)]) ⟨rfl, rfl, rfl, rfl, rfl, rfl, rfl, trivial⟩ ?_
          exact lm (prs S s).length 0 (by omega) rfl
      refine wa_ldc (v := nI 65535) hX kX7_209 dX7_probes_92 ?_
      refine wa_istore_n hX dX7_probes_94 (by decide) ?_
      refine wa_bipush (v := nI 16) hX dX7_probes_95 (by decide) ?_
      refine wa_istore hX dX7_probes_97 (by decide) ?_
      refine wa_iconst (v := nI 0) hX dX7_probes_99 (by decide) ?_
      refine wa_istore hX dX7_probes_100 (by decide) ?_
      refine wx_sub (l' := [(0, _), (1, _), (2, _), (3, _), (4, _), (5, _)]) ⟨rfl, rfl, rfl, rfl, rfl, rfl, trivial⟩ ?_
      exact ls 65535 0 (by omega)
    have lp : ∀ (n m : Nat) (I1 : IM), m + n = 6 → (∀ b, b ≠ Q + 13 → I1 b = I b) → (DL (I1 (Q + 13)) (prO S s m)) → WX X 0 0 N Sh I1 J 17 [(0, .ref Q), (1, .int (nI s)), (2, .int (nI (prO S s m).length)), (3, .int (nI m))] [] := by
      intro n
      induction n with
      | zero =>
        intro m I1 hi hI hD
        obtain rfl : 6 = m := by omega
        refine wa_iload_n hX dX7_probes_17 rfl ?_
        refine wa_bipush (v := nI 6) hX dX7_probes_18 (by decide) ?_
        refine wa_icmp_ge (tgt := 92) hX dX7_probes_20 (by decide) (fun c_20 => ?_) (fun c_20 => absurd (Int32.le_refl _) c_20)
        refine wx_sub (l' := [(0, _), (1, _), (2, _)]) ⟨rfl, rfl, rfl, trivial⟩ ?_
        exact scan _ hI hD
      | succ n ih =>
        intro m I1 hi hI hD
        have hm6 : m < 6 := by omega
        have nxt : ∀ (I1 : IM), (∀ b, b ≠ Q + 13 → I1 b = I b) → DL (I1 (Q + 13)) (prI S s m (prO S s m) m) → WX X 0 0 N Sh I1 J 17 [(0, .ref Q), (1, .int (nI s)), (2, .int (nI (prI S s m (prO S s m) m).length)), (3, .int (nI (m + 1)))] [] := fun I1 hI hD => ih (m + 1) I1 (by omega) hI hD
        have li : ∀ (n1 p : Nat) (I1 : IM), p + n1 = m → (∀ b, b ≠ Q + 13 → I1 b = I b) → (DL (I1 (Q + 13)) (prI S s m (prO S s m) p)) → WX X 0 0 N Sh I1 J 26 [(0, .ref Q), (1, .int (nI s)), (2, .int (nI (prI S s m (prO S s m) p).length)), (3, .int (nI m)), (4, .int (nI p))] [] := by
          intro n1
          induction n1 with
          | zero =>
            intro p I1 hi hI hD
            obtain rfl : m = p := by omega
            refine wa_iload hX dX7_probes_26 rfl ?_
            refine wa_iload_n hX dX7_probes_28 rfl ?_
            refine wa_icmp_ge (tgt := 86) hX dX7_probes_29 (by decide) (fun c_29 => ?_) (fun c_29 => absurd (Int32.le_refl _) c_29)
            refine wa_iinc hX dX7_probes_86 rfl (inc1 _) (by decide) ?_
            refine wa_goto (tgt := 17) hX dX7_probes_89 (by decide) ?_
            refine wx_sub (l' := [(0, _), (1, _), (2, _), (3, _)]) ⟨rfl, rfl, rfl, rfl, trivial⟩ ?_
            exact nxt _ hI hD
          | succ n1 ihj =>
            intro p I1 hi hI hD
            have hlt : p < m := by omega
            have hp6 : p < 6 := by omega
            refine wa_iload hX dX7_probes_26 rfl ?_
            refine wa_iload_n hX dX7_probes_28 rfl ?_
            refine wa_icmp_ge (tgt := 86) hX dX7_probes_29 (by decide) (fun c_29 => absurd c_29 (nI_ge hlt (by omega))) (fun c_29 => ?_)
            refine wa_iload_n hX dX7_probes_32 rfl ?_
            refine wa_iload_n hX dX7_probes_33 rfl ?_
            refine wa_ishr hX dX7_probes_34 ?_
            refine wa_iconst (v := nI 1) hX dX7_probes_35 (by decide) ?_
            refine wa_iand hX dX7_probes_36 ?_
            rw [bt_v (by omega) (nI s), bt_nat (by omega)]
            refine wa_iconst (v := nI 1) hX dX7_probes_37 (by decide) ?_
            refine wa_icmp_ne (tgt := 61) hX dX7_probes_38 (by decide) (fun c_38 => ?_) (fun c_38 => ?_)
            · skip
              have n1 : s.testBit m = false := by
                cases e : s.testBit m with
                | false => rfl
                | true => rw [e, if_pos rfl] at c_38; exact absurd rfl c_38
              refine wa_iconst (v := nI 0) hX dX7_probes_61 (by decide) ?_
              refine wa_istore hX dX7_probes_62 (by decide) ?_
              refine wa_iload hX dX7_probes_64 rfl ?_
              refine wa_if_eq (tgt := 80) hX dX7_probes_66 (by decide) (fun c_66 => ?_) (fun c_66 => absurd rfl c_66)
              refine wa_iinc hX dX7_probes_80 rfl (inc1 _) (by decide) ?_
              refine wa_goto (tgt := 26) hX dX7_probes_83 (by decide) ?_
              refine wx_sub (l' := [(0, _), (1, _), (2, _), (3, _), (4, _)]) ⟨rfl, rfl, rfl, rfl, rfl, trivial⟩ ?_
              rw [show (prI S s m (prO S s m) p).length = (prI S s m (prO S s m) (p + 1)).length by rw [prI_f (by unfold askP; rw [n1]; rfl)]]
              exact ihj (p + 1) _ (by omega) hI (by rw [prI_f (by unfold askP; rw [n1]; rfl)]; exact hD)
            · skip
              have n1 : s.testBit m = true := by
                cases e : s.testBit m with
                | true => rfl
                | false => rw [e, if_neg (by decide)] at c_38; exact absurd c_38 (by decide)
              refine wa_iload_n hX dX7_probes_41 rfl ?_
              refine wa_iload hX dX7_probes_42 rfl ?_
              refine wa_ishr hX dX7_probes_44 ?_
              refine wa_iconst (v := nI 1) hX dX7_probes_45 (by decide) ?_
              refine wa_iand hX dX7_probes_46 ?_
              rw [bt_v (by omega) (nI s), bt_nat (by omega)]
              refine wa_iconst (v := nI 1) hX dX7_probes_47 (by decide) ?_
              refine wa_icmp_ne (tgt := 61) hX dX7_probes_48 (by decide) (fun c_48 => ?_) (fun c_48 => ?_)
              · skip
                have n2 : s.testBit p = false := by
                  cases e : s.testBit p with
                  | false => rfl
                  | true => rw [e, if_pos rfl] at c_48; exact absurd rfl c_48
                refine wa_iconst (v := nI 0) hX dX7_probes_61 (by decide) ?_
                refine wa_istore hX dX7_probes_62 (by decide) ?_
                refine wa_iload hX dX7_probes_64 rfl ?_
                refine wa_if_eq (tgt := 80) hX dX7_probes_66 (by decide) (fun c_66 => ?_) (fun c_66 => absurd rfl c_66)
                refine wa_iinc hX dX7_probes_80 rfl (inc1 _) (by decide) ?_
                refine wa_goto (tgt := 26) hX dX7_probes_83 (by decide) ?_
                refine wx_sub (l' := [(0, _), (1, _), (2, _), (3, _), (4, _)]) ⟨rfl, rfl, rfl, rfl, rfl, trivial⟩ ?_
                rw [show (prI S s m (prO S s m) p).length = (prI S s m (prO S s m) (p + 1)).length by rw [prI_f (by unfold askP; rw [n2, Bool.and_false]; rfl)]]
                exact ihj (p + 1) _ (by omega) hI (by rw [prI_f (by unfold askP; rw [n2, Bool.and_false]; rfl)]; exact hD)
              · skip
                have n2 : s.testBit p = true := by
                  cases e : s.testBit p with
                  | true => rfl
                  | false => rw [e, if_neg (by decide)] at c_48; exact absurd c_48 (by decide)
                refine wa_aload_n hX dX7_probes_51 rfl ?_
                refine wa_iload_n hX dX7_probes_52 rfl ?_
                refine wa_iload hX dX7_probes_53 rfl ?_
                refine wa_vP hX (tX7_apart I1 hM (S := S) (by rw [hI _ (by omega)]; exact hV) hm6 hp6) bX7_apart mX7_206 (by decide) (by decide) (ci := 6) ⟨by decide, rfl⟩ q0 rfl rfl (Nat.le_of_ble_eq_true rfl) dX7_probes_55 (fun r_55 q_55 => ?_)
                have q_55 : r_55 = nI (dfN (aV S m) (aV S p)) := q_55.trans (diff_N _ _)
                subst q_55
                have hd9 := dfN_lt (aV S m) (aV S p)
                refine wa_goto (tgt := 62) hX dX7_probes_58 (by decide) ?_
                refine wa_istore hX dX7_probes_62 (by decide) ?_
                refine wa_iload hX dX7_probes_64 rfl ?_
                refine wa_if_eq (tgt := 80) hX dX7_probes_66 (by decide) (fun c_66 => ?_) (fun c_66 => ?_)
                · skip
                  have n3 : dfN (aV S m) (aV S p) = 0 := eq_of_nI (show nI _ = nI 0 from c_66) (by omega) (by decide)
                  refine wa_iinc hX dX7_probes_80 rfl (inc1 _) (by decide) ?_
                  refine wa_goto (tgt := 26) hX dX7_probes_83 (by decide) ?_
                  refine wx_sub (l' := [(0, _), (1, _), (2, _), (3, _), (4, _)]) ⟨rfl, rfl, rfl, rfl, rfl, trivial⟩ ?_
                  rw [show (prI S s m (prO S s m) p).length = (prI S s m (prO S s m) (p + 1)).length by rw [prI_f (by unfold askP; rw [decide_eq_true n3]; exact Bool.and_false _)]]
                  exact ihj (p + 1) _ (by omega) hI (by rw [prI_f (by unfold askP; rw [decide_eq_true n3]; exact Bool.and_false _)]; exact hD)
                · skip
                  have n3 : ¬ dfN (aV S m) (aV S p) = 0 := fun e => c_66 (by rw [e]; rfl)
                  refine wa_aload_n hX dX7_probes_69 rfl ?_
                  refine wa_getR hX fX7_48 rfl q0 qj19 dX7_probes_70 ?_
                  refine wa_iload_n hX dX7_probes_73 rfl ?_
                  refine wa_iload hX dX7_probes_74 rfl ?_
                  refine wa_iast hX qs13 rfl (prI_15 hm6 hlt) (by decide) dX7_probes_76 ?_
                  refine wa_iinc hX dX7_probes_77 rfl (inc1 _) (by decide) ?_
                  refine wa_iinc hX dX7_probes_80 rfl (inc1 _) (by decide) ?_
                  refine wa_goto (tgt := 26) hX dX7_probes_83 (by decide) ?_
                  refine wx_sub (l' := [(0, _), (1, _), (2, _), (3, _), (4, _)]) ⟨rfl, rfl, rfl, rfl, rfl, trivial⟩ ?_
                  rw [show (prI S s m (prO S s m) p).length + 1 = (prI S s m (prO S s m) (p + 1)).length by rw [prI_t (by unfold askP; rw [n1, n2, decide_eq_false n3]; rfl), List.length_append]; rfl]
                  exact ihj (p + 1) _ (by omega) (fun b hb => by rw [u2_n hb]; exact hI b hb) (by rw [prI_t (by unfold askP; rw [n1, n2, decide_eq_false n3]; rfl), u2_a]; exact hD.app)
        refine wa_iload_n hX dX7_probes_17 rfl ?_
        refine wa_bipush (v := nI 6) hX dX7_probes_18 (by decide) ?_
        refine wa_icmp_ge (tgt := 92) hX dX7_probes_20 (by decide) (fun c_20 => absurd c_20 (nI_ge hm6 (by decide))) (fun c_20 => ?_)
        refine wa_iconst (v := nI 0) hX dX7_probes_23 (by decide) ?_
        refine wa_istore hX dX7_probes_24 (by decide) ?_
        exact li m 0 _ (by omega) hI hD
    refine wa_iconst (v := nI 0) hX dX7_probes_13 (by decide) ?_
    refine wa_istore_n hX dX7_probes_14 (by decide) ?_
    refine wa_iconst (v := nI 0) hX dX7_probes_15 (by decide) ?_
    refine wa_istore_n hX dX7_probes_16 (by decide) ?_
    refine wx_sub (l' := [(0, _), (1, _), (2, _), (3, _)]) ⟨rfl, rfl, rfl, rfl, trivial⟩ ?_
    exact lp 6 0 _ (by omega) (fun _ _ => rfl) (fun i hi => absurd hi (Nat.not_lt_zero i))
  refine wa_iload_n hX dX7_probes_0 rfl ?_
  refine wa_iconst (v := nI 1) hX dX7_probes_1 (by decide) ?_
  refine wa_bipush (v := nI 63) hX dX7_probes_2 (by decide) ?_
  refine wa_sP hX (tX7_in I x (nI 1) (nI 63)) bX7_in mX7_51 (by decide) (by decide) rfl rfl (Nat.le_of_ble_eq_true rfl) dX7_probes_4 (fun r_4 q_4 => ?_)
  subst q_4
  refine wa_if_ne (tgt := 13) hX dX7_probes_7 (by decide) (fun c_7 => ?_) (fun c_7 => ?_)
  · skip
    have n0 := of_decide_eq_true (bI_n0.mp c_7)
    obtain ⟨s, hs, hs0, ex⟩ := prC n0.1 (Int32.not_lt.mp n0.2)
    rw [ex]
    exact tail s hs hs0 ex
  · skip
    have n0 := of_decide_eq_false (bI_0.mp c_7)
    have hres : onB 64 x (fun s => if s = 0 then -2 else prbF (gN F) s) (-2) = -2 := by
      by_cases e : x < nI 1
      · exact prA e
      · exact prB (fun h => n0 ⟨e, Int32.not_lt.mpr h⟩)
    refine wa_bipush (v := -2) hX dX7_probes_10 (by decide) ?_
    exact hret _ _ _ _ _ ⟨AM.no hG (c := -2) (by rw [hres]) rfl, rfl⟩ dX7_probes_12

