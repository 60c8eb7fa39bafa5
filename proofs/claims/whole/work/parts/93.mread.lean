/-! records are read, the card decides: the reference -/
def roW (a k : Nat) : Prop := a = 93 ∧ k = 39
def roX (a : Nat) : Prop := a = 112
section MREAD
variable {d : Nat} {S S' : st_S} {V V' : st_V} {j z t n B : Nat} {cmd ans xs : List Int32} {C C1 : st_S} {R : st_V} {F : List Int32} {J : st_J} {T P : Nat → Int32}
theorem mrow_add {v : Int32} (h : S 93 39 = nI xs.length) (H : Px V 112 xs) (l : (V 112).length = 11) (hl : xs.length < 11) : am_sv (hs (uS S 93 39 (nI (xs.length + 1))) V) 112 0 (nI xs.length) v = some (hs (uS S 93 39 (nI (xs.length + 1))) (sV V 112 xs.length v)) ∧ uS S 93 39 (nI (xs.length + 1)) 93 39 = nI (xs ++ [v]).length ∧ Px (sV V 112 xs.length v) 112 (xs ++ [v]) ∧ (sV V 112 xs.length v 112).length = 11 ∧ Fm roW roX S V (uS S 93 39 (nI (xs.length + 1))) (sV V 112 xs.length v) :=
  ⟨svN rfl (by omega) (by omega), by rw [uS_self, List.length_append]; rfl, H.sv (by omega), by rw [sV_len]; exact l, ((Fm.refl S V).us (show roW 93 39 from ⟨rfl, rfl⟩)).sv (show roX 112 from rfl)⟩
theorem ev_put {v : Int32} (h : S 93 39 = nI xs.length) (H : Px V 112 xs) (l : (V 112).length = 11) (hl : xs.length + 4 ≤ 11) : ∃ S' V', (∀ d, ev d 96 [.ref 93, .int v] (hs S V) = some (none, hs S' V')) ∧ S' 93 39 = nI (xs ++ oct4 v).length ∧ Px V' 112 (xs ++ oct4 v) ∧ Fm roW roX S V S' V' := by
  obtain ⟨s1, h1, P1, l1, F1⟩ := mrow_add (v := am_ush v 24) h H l (by omega)
  generalize hS1 : uS S 93 39 (nI (xs.length + 1)) = S1 at s1 h1 F1
  generalize sV V 112 xs.length (am_ush v 24) = V1 at s1 P1 l1 F1
  obtain ⟨s2, h2, P2, l2, F2⟩ := mrow_add (v := am_ush v 16 &&& 255) h1 P1 l1 (by rw [List.length_append]; simp; omega)
  generalize hS2 : uS S1 93 39 (nI ((xs ++ [am_ush v 24]).length + 1)) = S2 at s2 h2 F2
  generalize sV V1 112 (xs ++ [am_ush v 24]).length (am_ush v 16 &&& 255) = V2 at s2 P2 l2 F2
  obtain ⟨s3, h3, P3, l3, F3⟩ := mrow_add (v := am_ush v 8 &&& 255) h2 P2 l2 (by simp; omega)
  generalize hS3 : uS S2 93 39 (nI ((xs ++ [am_ush v 24] ++ [am_ush v 16 &&& 255]).length + 1)) = S3 at s3 h3 F3
  generalize sV V2 112 (xs ++ [am_ush v 24] ++ [am_ush v 16 &&& 255]).length (am_ush v 8 &&& 255) = V3 at s3 P3 l3 F3
  obtain ⟨s4, h4, P4, l4, F4⟩ := mrow_add (v := v &&& 255) h3 P3 l3 (by simp; omega)
  generalize hS4 : uS S3 93 39 (nI ((xs ++ [am_ush v 24] ++ [am_ush v 16 &&& 255] ++ [am_ush v 8 &&& 255]).length + 1)) = S4 at s4 h4 F4
  generalize sV V3 112 (xs ++ [am_ush v 24] ++ [am_ush v 16 &&& 255] ++ [am_ush v 8 &&& 255]).length (v &&& 255) = V4 at s4 P4 l4 F4
  have ee : xs ++ [am_ush v 24] ++ [am_ush v 16 &&& 255] ++ [am_ush v 8 &&& 255] ++ [v &&& 255] = xs ++ oct4 v := by
    rw [List.append_assoc, List.append_assoc, List.append_assoc]; rfl
  rw [ee] at h4 P4
  refine ⟨S4, V4, fun d => ?_, h4, P4, ((F1.trans F2).trans F3).trans F4⟩
  generalize xs.length = n1 at h s1 hS1
  generalize (xs ++ [am_ush v 24]).length = n2 at h1 s2 hS2
  generalize (xs ++ [am_ush v 24] ++ [am_ush v 16 &&& 255]).length = n3 at h2 s3 hS3
  generalize (xs ++ [am_ush v 24] ++ [am_ush v 16 &&& 255] ++ [am_ush v 8 &&& 255]).length = n4 at h3 s4 hS4
  have u0 := ush0 v
  simp only [e_Mod_put, x_Mod_put_0, x_Mod_put_1]
  rw [x_Mod_put_2]
  simp only [x_Mod_put_3, x_Mod_put_4, x_Mod_put_7, x_Mod_put_8, x_Mod_put_11, x_Mod_put_12, x_Mod_put_12', x_Mod_put_13, x_Mod_put_16, x_Mod_put_16', x_Mod_put_17, x_Mod_put_18, x_Mod_put_19, x_Mod_put_22, x_Mod_put_23, x_Mod_put_25, x_Mod_put_27, x_Mod_put_28, x_Mod_put_29, x_Mod_put_30, x_Mod_put_31, x_Mod_put_34, x_Mod_put_35, x_Mod_put_36, x_Mod_put_39, (by decide : (0 : Int32) < 4), if_true, g_93_35, g_93_39, h, nI_1, p_93_39, hS1, (by decide : (24 : Int32) - 8 * 0 = 24), ush24, s1, (by decide : (0 : Int32) + 1 = 1), ac_0, ac_i, ac_r, ac_ii, ac_ir, ac_ri, ac_rr, ac_iii, ac_iir, ac_iri, ac_irr, ac_rii, ac_rir, ac_rri, ac_rrr, Option.bind_some, Option.toList_some, Option.toList_none, List.nil_append, List.cons_append, not_false_eq_true]
  rw [x_Mod_put_2]
  simp only [x_Mod_put_3, x_Mod_put_4, x_Mod_put_7, x_Mod_put_8, x_Mod_put_11, x_Mod_put_12, x_Mod_put_12', x_Mod_put_13, x_Mod_put_16, x_Mod_put_16', x_Mod_put_17, x_Mod_put_18, x_Mod_put_19, x_Mod_put_22, x_Mod_put_23, x_Mod_put_25, x_Mod_put_27, x_Mod_put_28, x_Mod_put_29, x_Mod_put_30, x_Mod_put_31, x_Mod_put_34, x_Mod_put_35, x_Mod_put_36, x_Mod_put_39, (by decide : (1 : Int32) < 4), if_true, g_93_35, g_93_39, h1, nI_1, p_93_39, hS2, (by decide : (24 : Int32) - 8 * 1 = 16), s2, (by decide : (1 : Int32) + 1 = 2), ac_0, ac_i, ac_r, ac_ii, ac_ir, ac_ri, ac_rr, ac_iii, ac_iir, ac_iri, ac_irr, ac_rii, ac_rir, ac_rri, ac_rrr, Option.bind_some, Option.toList_some, Option.toList_none, List.nil_append, List.cons_append, not_false_eq_true]
  rw [x_Mod_put_2]
  simp only [x_Mod_put_3, x_Mod_put_4, x_Mod_put_7, x_Mod_put_8, x_Mod_put_11, x_Mod_put_12, x_Mod_put_12', x_Mod_put_13, x_Mod_put_16, x_Mod_put_16', x_Mod_put_17, x_Mod_put_18, x_Mod_put_19, x_Mod_put_22, x_Mod_put_23, x_Mod_put_25, x_Mod_put_27, x_Mod_put_28, x_Mod_put_29, x_Mod_put_30, x_Mod_put_31, x_Mod_put_34, x_Mod_put_35, x_Mod_put_36, x_Mod_put_39, (by decide : (2 : Int32) < 4), if_true, g_93_35, g_93_39, h2, nI_1, p_93_39, hS3, (by decide : (24 : Int32) - 8 * 2 = 8), s3, (by decide : (2 : Int32) + 1 = 3), ac_0, ac_i, ac_r, ac_ii, ac_ir, ac_ri, ac_rr, ac_iii, ac_iir, ac_iri, ac_irr, ac_rii, ac_rir, ac_rri, ac_rrr, Option.bind_some, Option.toList_some, Option.toList_none, List.nil_append, List.cons_append, not_false_eq_true]
  rw [x_Mod_put_2]
  simp only [x_Mod_put_3, x_Mod_put_4, x_Mod_put_7, x_Mod_put_8, x_Mod_put_11, x_Mod_put_12, x_Mod_put_12', x_Mod_put_13, x_Mod_put_16, x_Mod_put_16', x_Mod_put_17, x_Mod_put_18, x_Mod_put_19, x_Mod_put_22, x_Mod_put_23, x_Mod_put_25, x_Mod_put_27, x_Mod_put_28, x_Mod_put_29, x_Mod_put_30, x_Mod_put_31, x_Mod_put_34, x_Mod_put_35, x_Mod_put_36, x_Mod_put_39, (by decide : (3 : Int32) < 4), if_true, g_93_35, g_93_39, h3, nI_1, p_93_39, hS4, (by decide : (24 : Int32) - 8 * 3 = 0), u0, s4, (by decide : (3 : Int32) + 1 = 4), ac_0, ac_i, ac_r, ac_ii, ac_ir, ac_ri, ac_rr, ac_iii, ac_iir, ac_iri, ac_irr, ac_rii, ac_rir, ac_rri, ac_rrr, Option.bind_some, Option.toList_some, Option.toList_none, List.nil_append, List.cons_append, not_false_eq_true]
  rw [x_Mod_put_2]
  simp only [x_Mod_put_3, x_Mod_put_4, x_Mod_put_42, (by decide : ¬ (4 : Int32) < 4), if_false]
theorem ev_say {a b : Int32} (l : (V 112).length = 11) : ∃ S' V', (∀ d, ev d 95 [.ref 93, .int a, .int b] (hs S V) = some (none, hs S' V')) ∧ S' 93 39 = nI [a, b].length ∧ Px V' 112 [a, b] ∧ Fm roW roX S V S' V' := by
  have s1 : ∀ S : st_S, am_sv (hs S V) 112 0 0 a = some (hs S (sV V 112 0 a)) := fun S => svN (j := 0) rfl (by omega) (by decide)
  have s2 : ∀ S : st_S, am_sv (hs S (sV V 112 0 a)) 112 0 1 b = some (hs S (sV (sV V 112 0 a) 112 1 b)) := fun S => svN (j := 1) rfl (by rw [sV_len]; omega) (by decide)
  have P1 : Px (sV V 112 0 a) 112 [a] := (Px.nil V 112).sv (by show 0 < (V 112).length; omega)
  have P2 : Px (sV (sV V 112 0 a) 112 1 b) 112 ([a] ++ [b]) := P1.sv (by rw [sV_len]; show 1 < _; omega)
  refine ⟨uS S 93 39 2, sV (sV V 112 0 a) 112 1 b, fun d => ?_, uS_self _ _ _ _, P2, (((Fm.refl S V).us (show roW 93 39 from ⟨rfl, rfl⟩)).sv (show roX 112 from rfl)).sv (show roX 112 from rfl)⟩
  simp only [e_Mod_say, x_Mod_say_0, x_Mod_say_1, x_Mod_say_4, x_Mod_say_5, x_Mod_say_6, x_Mod_say_7, x_Mod_say_8, x_Mod_say_11, x_Mod_say_12, x_Mod_say_13, x_Mod_say_14, x_Mod_say_15, x_Mod_say_16, x_Mod_say_19, g_93_35, s1, s2, p_93_39, ac_0, ac_i, ac_r, ac_ii, ac_ir, ac_ri, ac_rr, ac_iii, ac_iir, ac_iri, ac_irr, ac_rii, ac_rir, ac_rri, ac_rrr, Option.bind_some, Option.toList_some, Option.toList_none, List.nil_append, List.cons_append, not_false_eq_true]
theorem ChM.fm {PS : Nat → Nat → Prop} {Q : Nat → Prop} (K : ChM S j t) (h : Fm PS Q S V S' V') (h1 : ¬ PS 93 47) (h2 : ¬ PS 93 43) (h3 : ¬ PS 93 44) (h4 : ¬ PS 93 40) (h5 : ¬ PS 93 32) : ChM S' j t := by
  obtain ⟨k1, k2, k3, k4, k5⟩ := K
  exact ⟨(h.1 _ _ h1).trans k1, (h.1 _ _ h2).trans k2, (h.1 _ _ h3).trans k3, (h.1 _ _ h4).trans k4, (h.1 _ _ h5).trans k5⟩
theorem mtrans (hj : j < 4) (X : MX S V C R F J T P) (K : ChM S j t) (ht : t ≤ 1) (h39 : S 93 39 = nI cmd.length) (Hc : Px V 112 cmd) (hC : C j 6 = nI z) (hz : 3 ≤ z) (hz2 : z ≤ 16) (hl : olc cmd) (hn : ans.length ≤ 24) (hc : okc cmd) (hex : exe C R j cmd = (C1, ans)) (lF : F.length = 128) (hR : ∀ i, i < 12 → (R i).length ≤ 24) (hq : ∃ q, q < 65536 ∧ C j 7 = nI q) (L : JL J) (hJ : jn J ≤ B) (hB : B + 340 ≤ 2000000) :
    ∃ S' V', ev (d + 4) 94 [.ref 93] (hs S V) = some (some (.int (b2i (tk F cmd.length z ans.length 340 J 0 t 0 5 0 0).1)), hs S' V') ∧ MX S' V' (cph C C1 (tk F cmd.length z ans.length 340 J 0 t 0 5 0 0).2.2.2) R F (tk F cmd.length z ans.length 340 J 0 t 0 5 0 0).2.1 T P ∧ ((tk F cmd.length z ans.length 340 J 0 t 0 5 0 0).1 = true → ChM S' j (tk F cmd.length z ans.length 340 J 0 t 0 5 0 0).2.2.1 ∧ S' 93 42 = nI ans.length ∧ Px V' 115 ans) ∧ Fm taS taV S V S' V' := by
  obtain ⟨k1, k2, k3, k4, k5⟩ := K
  obtain ⟨S1, V1, e, X1, h1, F1⟩ := ev_talk (d := d) hj hC hz hz2 hl hn hc hex lF hR hq X L (le_340 hJ hB) k5 ht k2 k3 k4 k1 h39 Hc
  refine ⟨S1, V1, e, X1, fun h => ?_, F1⟩
  obtain ⟨a, b, c, g, p, s⟩ := h1 h
  exact ⟨⟨(F1.1 _ _ (by unfold taS; omega)).trans k1, a, b, c, s⟩, g, p⟩
def cpV (a : Nat) : Prop := a = 116
theorem copy_loop {r : Nat} {l1 l2 l3 l4 : Option Value} (hr : r < 3) (h24 : ans.length ≤ 24) (h42 : S 93 42 = nI ans.length) (Pg : Px V 115 ans) (l116 : (V 116).length = 72) : ∀ (m k : Nat) (V1 : st_V), k + m = ans.length → Fm miS cpV S V S V1 → (∀ i, i < k → (V1 116)[24 * r + i]? = ans[i]?) → (∀ i, i < 24 * r → (V1 116)[i]? = (V 116)[i]?) →
    ∃ V2, rn d 101 213 [some (.ref 93), l1, l2, l3, l4, some (.int (nI r)), some (.int (nI k))] [] (hs S V1) = rn d 101 248 [some (.ref 93), l1, l2, l3, l4, some (.int (nI r)), some (.int (nI ans.length))] [] (hs S V2) ∧ Fm miS cpV S V S V2 ∧ (∀ i, i < ans.length → (V2 116)[24 * r + i]? = ans[i]?) ∧ (∀ i, i < 24 * r → (V2 116)[i]? = (V 116)[i]?) := by
  intro m
  induction m with
  | zero =>
    intro k V1 hk F1 h1 h2
    have : k = ans.length := by omega
    subst this
    refine ⟨V1, ?_, F1, h1, h2⟩
    rw [x_Mod_goes_213]
    simp only [x_Mod_goes_215, x_Mod_goes_216, x_Mod_goes_219, g_93_42, h42, nI_nlt (Nat.le_refl ans.length) (by omega : ans.length < 2 ^ 31), if_false, ac_0, ac_i, ac_r, ac_ii, ac_ir, ac_ri, ac_rr, ac_iii, ac_iir, ac_iri, ac_irr, ac_rii, ac_rir, ac_rri, ac_rrr, Option.bind_some, Option.toList_some, Option.toList_none, List.nil_append, List.cons_append, not_false_eq_true]
  | succ m ih =>
    intro k V1 hk F1 h1 h2
    have hkl : k < ans.length := by omega
    have ld : am_ld (hs S V1) 115 0 (nI k) = some (ans.getD k 0) := (Pg.cong (F1.2.1 _ (by unfold cpV; omega))).ld rfl hkl (by omega)
    have ix : (24 : Int32) * nI r + nI k = nI (24 * r + k) := by rw [show (24 : Int32) = nI 24 from rfl, pk_mul, nI_add]
    have L1 : (V1 116).length = 72 := (F1.2.2 _).trans l116
    have sv : am_sv (hs S V1) 116 0 (nI (24 * r + k)) (ans.getD k 0) = some (hs S (sV V1 116 (24 * r + k) (ans.getD k 0))) := svN rfl (by omega) (by omega)
    obtain ⟨V2, e, F2, g1, g2⟩ := ih (k + 1) (sV V1 116 (24 * r + k) (ans.getD k 0)) (by omega) (F1.sv (show cpV 116 from rfl)) (fun i hi => by
      rw [sV_self]
      by_cases e : i = k
      · rw [e, List.getElem?_set_self (by omega), List.getElem?_eq_getElem hkl]
        simp [List.getD, hkl]
      · rw [List.getElem?_set_ne (by omega)]; exact h1 i (by omega)) (fun i hi => by
      rw [sV_self, List.getElem?_set_ne (by omega)]; exact h2 i hi)
    refine ⟨V2, ?_, F2, g1, g2⟩
    rw [← e, x_Mod_goes_213]
    simp only [x_Mod_goes_215, x_Mod_goes_216, x_Mod_goes_219, x_Mod_goes_222, x_Mod_goes_223, x_Mod_goes_226, x_Mod_goes_228, x_Mod_goes_230, x_Mod_goes_231, x_Mod_goes_233, x_Mod_goes_234, x_Mod_goes_235, x_Mod_goes_238, x_Mod_goes_240, x_Mod_goes_241, x_Mod_goes_242, x_Mod_goes_245, g_93_42, h42, nI_lt hkl (by omega), if_true, g_93_49, ix, g_93_38, ld, sv, nI_1, ac_0, ac_i, ac_r, ac_ii, ac_ir, ac_ri, ac_rr, ac_iii, ac_iir, ac_iri, ac_irr, ac_rii, ac_rir, ac_rri, ac_rrr, Option.bind_some, Option.toList_some, Option.toList_none, List.nil_append, List.cons_append, not_false_eq_true]
def RDm (V : st_V) (R : st_V) (j n : Nat) : Prop := ∀ r, r < n → (V 117)[r]? = some (nI (R (3 * j + r)).length) ∧ ∀ k, k < (R (3 * j + r)).length → (V 116)[24 * r + k]? = (R (3 * j + r))[k]?
theorem mread_loop {b ch fi ty ct mx se am rnd day : Int32} (hj : j < 4) (hz : 3 ≤ z) (hz2 : z ≤ 16) (lF : F.length = 128) (hR : ∀ i, i < 12 → (R i).length ≤ 24) (hn : n ≤ 3) : ∀ (m r : Nat) (C : st_S) (J : st_J) (t : Nat) (re : Int32) (B : Nat) (S : st_S) (V : st_V) (l6 : Option Value), r + m = n → CI C → C j 6 = nI z → MX S V C R F J T (mkP b ch fi ty ct mx se re) → ChM S j t → t ≤ 1 → RDm V R j r → JL J → jn J ≤ B → B + 340 * m ≤ 2000000 →
    ∃ S' V' l5' l6', rn (d + 5) 101 176 [some (.ref 93), some (.int am), some (.int rnd), some (.int day), some (.int (nI n)), some (.int (nI r)), l6] [] (hs S V) = (if (rdz F R j z m r C J t re).1 = true then rn (d + 5) 101 264 [some (.ref 93), some (.int am), some (.int rnd), some (.int day), some (.int (nI n)), l5', l6'] [] (hs S' V') else some (some (.int 4), hs S' V')) ∧ MX S' V' (rdz F R j z m r C J t re).2.1 R F (rdz F R j z m r C J t re).2.2.1 T (mkP b ch fi ty ct mx se (rdz F R j z m r C J t re).2.2.2.2) ∧ ((rdz F R j z m r C J t re).1 = true → ChM S' j (rdz F R j z m r C J t re).2.2.2.1 ∧ RDm V' R j n) ∧ Fm kmS kmV S V S' V' := by
  intro m
  induction m with
  | zero =>
    intro r C J t re B S V l6 hr H hC X K ht D L hJ hB
    have : r = n := by omega
    subst this
    have c : ¬ nI r < nI r := nI_nlt (Nat.le_refl _) (by omega)
    refine ⟨S, V, some (.int (nI r)), l6, ?_, X, fun _ => ⟨K, D⟩, Fm.refl _ _⟩
    have e : (rdz F R j z 0 r C J t re).1 = true := rfl
    rw [x_Mod_goes_176, if_pos e]
    simp only [x_Mod_goes_178, x_Mod_goes_180, c, if_false]
  | succ m ih =>
    intro r C J t re B S V l6 hr H hC X K ht D L hJ hB
    have hr3 : r < 3 := by omega
    have eB : B + 340 * (m + 1) = B + 340 + 340 * m := by rw [Nat.mul_add, Nat.mul_one, Nat.add_comm (340 * m), Nat.add_assoc]
    rw [eB] at hB
    have hB1 : B + 340 ≤ 2000000 := Nat.le_trans (Nat.le_add_right _ _) hB
    have c : nI r < nI n := nI_lt (by omega) (by omega)
    obtain ⟨S2, V2, e2, h39, P2, F2⟩ := ev_say (S := S) (V := V) (a := 3) (b := nI r) (X.len (by decide))
    have X2 : MX S2 V2 C R F J T (mkP b ch fi ty ct mx se re) := X.fm (F2.mono (fun a k z => by unfold roW at z; unfold pmS; omega) (fun a z => by unfold roX at z; unfold pmV; omega))
    have K2 : ChM S2 j t := K.fm F2 (by unfold roW; omega) (by unfold roW; omega) (by unfold roW; omega) (by unfold roW; omega) (by unfold roW; omega)
    obtain ⟨S3, V3, e3, X3, k3, F3⟩ := mtrans (d := d) (cmd := [3, nI r]) hj X2 K2 ht h39 P2 hC hz hz2 ⟨by show 0 < 2; decide, by show 2 ≤ 11; decide, fun _ => Nat.le_refl 2, fun h => absurd h (by show ¬ (3 : Int32) = 4; decide)⟩ (hR (3 * j + r) (by omega)) (okc_3 hr3) (exe_3 hr3) lF hR (H j hj).1.2.2.2.2.2 L hJ hB1
    obtain ⟨a1, a2, a3⟩ := tk_0 (F := F) (L := 2) (n := (R (3 * j + r)).length) hz (by decide) ht L hJ hB1
    have e3' : ev (d + 4) 94 [.ref 93] (hs S2 V2) = some (some (.int (b2i (tk F 2 z (R (3 * j + r)).length 340 J 0 t 0 5 0 0).1)), hs S3 V3) := e3
    have X3' : MX S3 V3 (cph C (c11 C j) (tk F 2 z (R (3 * j + r)).length 340 J 0 t 0 5 0 0).2.2.2) R F (tk F 2 z (R (3 * j + r)).length 340 J 0 t 0 5 0 0).2.1 T (mkP b ch fi ty ct mx se re) := X3
    have k3' : (tk F 2 z (R (3 * j + r)).length 340 J 0 t 0 5 0 0).1 = true → ChM S3 j (tk F 2 z (R (3 * j + r)).length 340 J 0 t 0 5 0 0).2.2.1 ∧ S3 93 42 = nI (R (3 * j + r)).length ∧ Px V3 115 (R (3 * j + r)) := k3
    clear e3 X3 k3
    have G3 : Fm kmS kmV S V S3 V3 := (F2.mono (fun a k z => by unfold roW at z; unfold kmS; omega) (fun a z => by unfold roX at z; unfold kmV; omega)).trans (taS_km F3)
    rw [x_Mod_goes_176, rdz_s]
    generalize tk F 2 z (R (3 * j + r)).length 340 J 0 t 0 5 0 0 = q at e3' X3' k3' a1 a2 a3
    obtain ⟨ok, J1, t1, ph⟩ := q
    dsimp only at e3' X3' k3' a1 a2 a3 ⊢
    have k6 : cph C (c11 C j) ph j 6 = nI z := (cph_k (uS_ne (by omega))).trans hC
    have H1 : CI (cph C (c11 C j) ph) := H.ph (H.c11 hj) ph
    cases ok with
    | false =>
      simp only [Bool.false_eq_true, if_false]
      refine ⟨S3, V3, none, none, ?_, X3', fun h => absurd h (by decide), G3⟩
      simp only [x_Mod_goes_178, x_Mod_goes_180, x_Mod_goes_183, x_Mod_goes_184, x_Mod_goes_185, x_Mod_goes_187, x_Mod_goes_190, x_Mod_goes_191, x_Mod_goes_194, x_Mod_goes_197, x_Mod_goes_198, c, if_true, i_93, e2, e3', show b2i false = 0 from rfl, ac_0, ac_i, ac_r, ac_ii, ac_ir, ac_ri, ac_rr, ac_iii, ac_iir, ac_iri, ac_irr, ac_rii, ac_rir, ac_rri, ac_rrr, Option.bind_some, Option.toList_some, Option.toList_none, List.nil_append, List.cons_append, not_false_eq_true]
    | true =>
      simp only [if_true]
      obtain ⟨K3, g42, P3⟩ := k3' rfl
      have l117 : (V3 117).length = 3 := X3'.len (by decide)
      have s1 : am_sv (hs S3 V3) 117 0 (nI r) (nI (R (3 * j + r)).length) = some (hs S3 (sV V3 117 r (nI (R (3 * j + r)).length))) := svN rfl (by omega) (by omega)
      have F4 : Fm miS (fun a => a = 117) S3 V3 S3 (sV V3 117 r (nI (R (3 * j + r)).length)) := (Fm.refl _ _).sv rfl
      have v117 : (sV V3 117 r (nI (R (3 * j + r)).length)) 117 = (V3 117).set r (nI (R (3 * j + r)).length) := sV_self _ _ _ _
      have w117 : V3 117 = V 117 := (F3.2.1 _ (by unfold taV; omega)).trans (F2.2.1 _ (by unfold roX; omega))
      have w116 : V3 116 = V 116 := (F3.2.1 _ (by unfold taV; omega)).trans (F2.2.1 _ (by unfold roX; omega))
      generalize sV V3 117 r (nI (R (3 * j + r)).length) = V4 at s1 F4 v117
      have u116 : V4 116 = V 116 := (F4.2.1 _ (by decide)).trans w116
      obtain ⟨V5, e5, F5, g1, g2⟩ := copy_loop (d := d + 5) (S := S3) (V := V4) (r := r) (l1 := some (.int am)) (l2 := some (.int rnd)) (l3 := some (.int day)) (l4 := some (.int (nI n))) (ans := R (3 * j + r)) hr3 (hR _ (by omega)) g42 (P3.cong (F4.2.1 _ (by decide))) ((F4.2.2 _).trans (X3'.len (by decide))) (R (3 * j + r)).length 0 V4 (by omega) (Fm.refl _ _) (fun i hi => by omega) (fun i hi => rfl)
      rw [nI_0] at e5
      have s34 : S3 93 34 = re := X3'.2.2.2.2.2.1 7 (by decide)
      have F45 : Fm pmS pmV S3 V3 S3 V5 := (F4.mono (fun a k z => z.elim) (fun a z => by unfold pmV; omega)).trans (F5.mono (fun a k z => z.elim) (fun a z => by unfold cpV at z; unfold pmV; omega))
      have X5 : MX (uS S3 93 34 (re + 1)) V5 (cph C (c11 C j) ph) R F J1 T (mkP b ch fi ty ct mx se (re + 1)) := ((X3'.fm F45).setP (k := 7) (v := re + 1) (by decide)).congP mkP_7
      have K5 : ChM (uS S3 93 34 (re + 1)) j t1 := by
        obtain ⟨q1, q2, q3, q4, q5⟩ := K3
        exact ⟨(uS_ne (by decide)).trans q1, (uS_ne (by decide)).trans q2, (uS_ne (by decide)).trans q3, (uS_ne (by decide)).trans q4, (uS_ne (by decide)).trans q5⟩
      have D5 : RDm V5 R j (r + 1) := by
        intro r' hr'
        have z117 : V5 117 = (V3 117).set r (nI (R (3 * j + r)).length) := (F5.2.1 _ (by unfold cpV; omega)).trans v117
        by_cases e : r' = r
        · subst e
          exact ⟨by rw [z117, List.getElem?_set_self (by omega)], fun k hk => g1 k hk⟩
        · obtain ⟨q1, q2⟩ := D r' (by omega)
          refine ⟨by rw [z117, List.getElem?_set_ne (Ne.symm e), w117]; exact q1, fun k hk => ?_⟩
          have hk24 := hR (3 * j + r') (by omega)
          rw [g2 (24 * r' + k) (by omega), u116]
          exact q2 k hk
      obtain ⟨S6, V6, l5', l6', e6, X6, k6', F6⟩ := ih (r + 1) (cph C (c11 C j) ph) J1 t1 (re + 1) (B + 340) (uS S3 93 34 (re + 1)) V5 (some (.int (nI (R (3 * j + r)).length))) (by omega) H1 k6 X5 K5 a3 D5 a1 a2 hB
      refine ⟨S6, V6, l5', l6', ?_, X6, k6', ((G3.trans (F45.mono (fun a k z => by unfold pmS at z; unfold kmS; omega) (fun a z => by unfold pmV at z; unfold kmV; omega))).us (show kmS 93 34 by unfold kmS; omega)).trans F6⟩
      rw [← e6]
      simp only [x_Mod_goes_178, x_Mod_goes_180, x_Mod_goes_183, x_Mod_goes_184, x_Mod_goes_185, x_Mod_goes_187, x_Mod_goes_190, x_Mod_goes_191, x_Mod_goes_194, x_Mod_goes_197, x_Mod_goes_198, x_Mod_goes_199, x_Mod_goes_200, x_Mod_goes_203, x_Mod_goes_205, x_Mod_goes_206, x_Mod_goes_209, x_Mod_goes_210, x_Mod_goes_211, c, if_true, if_false, i_93, e2, e3', show b2i true = 1 from rfl, (by decide : ¬ (1 : Int32) = 0), g_93_50, g_93_42, g42, s1, ac_0, ac_i, ac_r, ac_ii, ac_ir, ac_ri, ac_rr, ac_iii, ac_iir, ac_iri, ac_irr, ac_rii, ac_rir, ac_rri, ac_rrr, Option.bind_some, Option.toList_some, Option.toList_none, List.nil_append, List.cons_append, not_false_eq_true]
      rw [e5]
      simp only [x_Mod_goes_248, x_Mod_goes_249, x_Mod_goes_249', x_Mod_goes_250, x_Mod_goes_253, x_Mod_goes_254, x_Mod_goes_255, x_Mod_goes_258, x_Mod_goes_261, g_93_34, s34, p_93_34, nI_1, ac_0, ac_i, ac_r, ac_ii, ac_ir, ac_ri, ac_rr, ac_iii, ac_iir, ac_iri, ac_irr, ac_rii, ac_rir, ac_rri, ac_rrr, Option.bind_some, Option.toList_some, Option.toList_none, List.nil_append, List.cons_append, not_false_eq_true]
end MREAD
