/-! a run: the reference -/
section MRUN
variable {d : Nat} {S S' : st_S} {V V' : st_V} {j z t B : Nat} {C : st_S} {R : st_V} {F : List Int32} {J : st_J} {T P : Nat → Int32}
theorem olc_4 {ty am rnd fi : Int32} : olc (cmd4 ty am rnd fi) := ⟨by show 0 < 11; decide, by show 11 ≤ 11; decide, fun h => absurd h (by show ¬ (4 : Int32) = 3; decide), fun _ => rfl⟩
theorem mrest {b ch se re am rnd day : Int32} {n : Nat} {l5 l6 : Option Value} {g : Bool} {it : it_T} (hj : j < 4) (hz : 3 ≤ z) (hz2 : z ≤ 16) (lF : F.length = 128) (hO : ∀ i, i < 12 → Oc (R i)) (hT2 : oct (T 2)) (H : CI C) (hC : C j 6 = nI z) (X : MX S V C R F J T (mkP b ch 0 (-1) 0 0 se re)) (K : ChM S j t) (ht : t ≤ 1) (hn : n ≤ 3) (D : RDm V R j n) (hg : tka (fun i => R (3 * j + i)) n 0 true it0 = (g, it)) (L : JL J) (hJ : jn J ≤ B) (hB : B + 340 ≤ 2000000) :
    ∃ S' V', rn (d + 5) 101 264 [some (.ref 93), some (.int am), some (.int rnd), some (.int day), some (.int (nI n)), l5, l6] [] (hs S V) = some (some (.int (if (g && (fit 1 (it 1) && fit 4 (it 4))) = true then dcd F R T j z am rnd day it C J t re else (5, C, J, 0, -1, 0, 0, re)).1), hs S' V') ∧ MX S' V' (if (g && (fit 1 (it 1) && fit 4 (it 4))) = true then dcd F R T j z am rnd day it C J t re else (5, C, J, 0, -1, 0, 0, re)).2.1 R F (if (g && (fit 1 (it 1) && fit 4 (it 4))) = true then dcd F R T j z am rnd day it C J t re else (5, C, J, 0, -1, 0, 0, re)).2.2.1 T (mkP b ch (if (g && (fit 1 (it 1) && fit 4 (it 4))) = true then dcd F R T j z am rnd day it C J t re else (5, C, J, 0, -1, 0, 0, re)).2.2.2.1 (if (g && (fit 1 (it 1) && fit 4 (it 4))) = true then dcd F R T j z am rnd day it C J t re else (5, C, J, 0, -1, 0, 0, re)).2.2.2.2.1 (if (g && (fit 1 (it 1) && fit 4 (it 4))) = true then dcd F R T j z am rnd day it C J t re else (5, C, J, 0, -1, 0, 0, re)).2.2.2.2.2.1 (if (g && (fit 1 (it 1) && fit 4 (it 4))) = true then dcd F R T j z am rnd day it C J t re else (5, C, J, 0, -1, 0, 0, re)).2.2.2.2.2.2.1 se (if (g && (fit 1 (it 1) && fit 4 (it 4))) = true then dcd F R T j z am rnd day it C J t re else (5, C, J, 0, -1, 0, 0, re)).2.2.2.2.2.2.2) ∧ Fm kmS kmV S V S' V' := by
  have hR := fun i hi => (hO i hi).1
  obtain ⟨V1, e1, E1, F1⟩ := ev_apart (d := d + 2) (S := S) (V := V) (rs := fun i => R (3 * j + i)) hn (fun r hr => hO _ (by omega)) (X.len (by decide)) (X.len (by decide)) (X.len (by decide)) D
  have itO : ItO (tka (fun i => R (3 * j + i)) n 0 true it0).2 := tka_O (n := n) (fun r hr => hO _ (by omega)) n 0 true it0 (by omega) (fun t ys h => by cases h)
  rw [hg] at e1 E1 itO
  dsimp only at e1 E1 itO
  have O := fun t => itO.itv t
  have X1 : MX S V1 C R F J T (mkP b ch 0 (-1) 0 0 se re) := X.fm (F1.mono (fun a k z => z.elim) (fun a z => by unfold miV at z; unfold pmV; omega))
  have G1 : Fm kmS kmV S V S V1 := F1.mono (fun a k z => z.elim) (fun a z => by unfold miV at z; unfold kmV; omega)
  have m1 : ∀ S : st_S, am_ld (hs S V1) 120 0 1 = some (ml it 1) := fun S => ld_ml (t := 1) (E1 1 (by decide) (by decide)) (by decide)
  have m4 : ∀ S : st_S, am_ld (hs S V1) 120 0 4 = some (ml it 4) := fun S => ld_ml (t := 4) (E1 4 (by decide) (by decide)) (by decide)
  have mneg : ∀ t, fit t (it t) = false → ml it t < 0 := fun t h => by unfold ml; rw [h, if_neg (by decide)]; decide
  have mpos : ∀ t, fit t (it t) = true → ¬ ml it t < 0 := fun t h => by
    unfold ml; rw [if_pos h]; exact nI_nn (by have := (O t).1; omega)
  by_cases hc : (g && (fit 1 (it 1) && fit 4 (it 4))) = true
  · simp only [if_pos hc]
    obtain ⟨hgt, h1, h4⟩ : g = true ∧ fit 1 (it 1) = true ∧ fit 4 (it 4) = true := by
      cases g <;> cases h1 : fit 1 (it 1) <;> cases h4 : fit 4 (it 4) <;> simp [h1, h4] at hc ⊢
    subst hgt
    have hT : ∀ k, k < 6 → S 93 (tm k) = T k := fun k hk => X1.2.2.2.2.1 k hk
    have h26 : S 93 26 = 0 := X1.2.2.2.2.2.1 2 (by decide)
    have ef := ev_mfind (d := d + 2) (S := S) (V := V1) (it := it) (T := T) (am := am) (rnd := rnd) (day := day) E1 O hT hT2 h26 h1
    have X2 : MX (uS S 93 26 (fnd T it am rnd day)) V1 C R F J T (mkP b ch (fnd T it am rnd day) (-1) 0 0 se re) := (X1.setP (k := 2) (v := fnd T it am rnd day) (by decide)).congP mkP_2
    have g2 : uS S 93 26 (fnd T it am rnd day) 93 26 = fnd T it am rnd day := uS_self _ _ _ _
    have et := ev_mtypeFor (d := d + 3) (S := uS S 93 26 (fnd T it am rnd day)) (V := V1) (it := it) (T := T) (E1 4 (by decide) (by decide)) h4 g2 ((uS_ne (by decide)).trans (hT 3 (by decide)))
    have X3 : MX (uS (uS S 93 26 (fnd T it am rnd day)) 93 27 (typ T (itv 4 (it 4)) (fnd T it am rnd day))) V1 C R F J T (mkP b ch (fnd T it am rnd day) (typ T (itv 4 (it 4)) (fnd T it am rnd day)) 0 0 se re) := (X2.setP (k := 3) (v := typ T (itv 4 (it 4)) (fnd T it am rnd day)) (by decide)).congP mkP_3
    unfold dcd
    generalize fnd T it am rnd day = fi at ef X2 g2 et X3
    generalize typ T (itv 4 (it 4)) fi = ty at et X3
    have F3 : Fm (fun a k => a = 93 ∧ (k = 26 ∨ k = 27)) (fun _ => False) S V1 (uS (uS S 93 26 fi) 93 27 ty) V1 := Fm.us (P := fun a k => a = 93 ∧ (k = 26 ∨ k = 27)) (a := 93) (k := 27) (Fm.us (P := fun a k => a = 93 ∧ (k = 26 ∨ k = 27)) (a := 93) (k := 26) (Fm.refl S V1) (by omega)) (by omega)
    have K3 : ChM (uS (uS S 93 26 fi) 93 27 ty) j t := K.fm F3 (by omega) (by omega) (by omega) (by omega) (by omega)
    have v26 : uS (uS S 93 26 fi) 93 27 ty 93 26 = fi := by rw [uS_ne (by decide), uS_self]
    have v27 : uS (uS S 93 26 fi) 93 27 ty 93 27 = ty := uS_self _ _ _ _
    have G3 : Fm kmS kmV S V (uS (uS S 93 26 fi) 93 27 ty) V1 := (G1.us (by unfold kmS; omega)).us (by unfold kmS; omega)
    have p27 : am_put (hs (uS S 93 26 fi) V1) 93 9 27 (.int ty) = some (hs (uS (uS S 93 26 fi) 93 27 ty) V1) := p_93_27
    generalize uS (uS S 93 26 fi) 93 27 ty = S3 at X3 F3 K3 v26 v27 G3 p27
    obtain ⟨S4, V4, e4, h39, P4, F4⟩ := ev_say (S := S3) (V := V1) (a := 4) (b := ty) (X3.len (by decide))
    have l4 : (V4 112).length = 11 := (F4.2.2 _).trans (X3.len (by decide))
    obtain ⟨S5, V5, e5, h39b, P5, F5⟩ := ev_put (v := am) h39 P4 l4 (by show 2 + 4 ≤ 11; decide)
    have l5' : (V5 112).length = 11 := (F5.2.2 _).trans l4
    obtain ⟨S6, V6, e6, h39c, P6, F6⟩ := ev_put (v := rnd) h39b P5 l5' (by show 6 + 4 ≤ 11; decide)
    have l6' : (V6 112).length = 11 := (F6.2.2 _).trans l5'
    obtain ⟨s7, h39d, P7, l7, F7⟩ := mrow_add (v := fi) h39c P6 l6' (by show 10 < 11; decide)
    have F46 := (F4.trans F5).trans F6
    have w26 : S6 93 26 = fi := (F46.1 _ _ (by unfold roW; omega)).trans v26
    have w26b : uS S6 93 39 (nI (([4, ty] ++ oct4 am ++ oct4 rnd).length + 1)) 93 26 = fi := (uS_ne (by decide)).trans w26
    have w39 : S6 93 39 + 1 = nI (([4, ty] ++ oct4 am ++ oct4 rnd).length + 1) := by rw [h39c, nI_1]
    have F47 := F46.trans F7
    have pu39 : am_put (hs S6 V6) 93 9 39 (.int (nI (([4, ty] ++ oct4 am ++ oct4 rnd).length + 1))) = some (hs (uS S6 93 39 (nI (([4, ty] ++ oct4 am ++ oct4 rnd).length + 1))) V6) := p_93_39
    have ec : [4, ty] ++ oct4 am ++ oct4 rnd ++ [fi] = cmd4 ty am rnd fi := rfl
    rw [ec] at h39d P7
    generalize uS S6 93 39 (nI (([4, ty] ++ oct4 am ++ oct4 rnd).length + 1)) = S7 at s7 h39d F7 F47 w26b pu39
    generalize sV V6 112 ([4, ty] ++ oct4 am ++ oct4 rnd).length fi = V7 at s7 P7 l7 F7 F47
    have X7 : MX S7 V7 C R F J T (mkP b ch fi ty 0 0 se re) := X3.fm (F47.mono (fun a k z => by unfold roW at z; unfold pmS; omega) (fun a z => by unfold roX at z; unfold pmV; omega))
    have K7 : ChM S7 j t := K3.fm F47 (by unfold roW; omega) (by unfold roW; omega) (by unfold roW; omega) (by unfold roW; omega) (by unfold roW; omega)
    obtain ⟨S8, V8, e8, X8, k8, F8⟩ := mtrans (d := d) (cmd := cmd4 ty am rnd fi) (C1 := (exe C R j (cmd4 ty am rnd fi)).1) (ans := (exe C R j (cmd4 ty am rnd fi)).2) hj X7 K7 ht h39d P7 hC hz hz2 olc_4 (by rw [exe_4]; decide) okc_4 rfl lF hR (H j hj).1.2.2.2.2.2 L hJ hB
    have e8' : ev (d + 4) 94 [.ref 93] (hs S7 V7) = some (some (.int (b2i (tk F 11 z 7 340 J 0 t 0 5 0 0).1)), hs S8 V8) := e8
    have X8' : MX S8 V8 (cph C (exe C R j (cmd4 ty am rnd fi)).1 (tk F 11 z 7 340 J 0 t 0 5 0 0).2.2.2) R F (tk F 11 z 7 340 J 0 t 0 5 0 0).2.1 T (mkP b ch fi ty 0 0 se re) := X8
    have k8' : (tk F 11 z 7 340 J 0 t 0 5 0 0).1 = true → ChM S8 j (tk F 11 z 7 340 J 0 t 0 5 0 0).2.2.1 ∧ S8 93 42 = nI (exe C R j (cmd4 ty am rnd fi)).2.length ∧ Px V8 115 (exe C R j (cmd4 ty am rnd fi)).2 := k8
    have l7a : (exe C R j (cmd4 ty am rnd fi)).2.length = 7 := exe_4
    clear e8 X8 k8
    have G8 : Fm kmS kmV S V S8 V8 := (G3.trans (F47.mono (fun a k z => by unfold roW at z; unfold kmS; omega) (fun a z => by unfold roX at z; unfold kmV; omega))).trans (taS_km F8)
    generalize ([4, ty] ++ oct4 am ++ oct4 rnd).length = n10 at h39c s7 w39 pu39
    generalize tk F 11 z 7 340 J 0 t 0 5 0 0 = q at e8' X8' k8'
    generalize exe C R j (cmd4 ty am rnd fi) = x at X8' k8' l7a
    obtain ⟨Cx, ax⟩ := x
    obtain ⟨ok, J1, t1', ph⟩ := q
    dsimp only at e8' X8' k8' l7a ⊢
    have pre : ∀ {t' : Option (Option Value × am_H)}, rn (d + 5) 101 351 [some (.ref 93), some (.int am), some (.int rnd), some (.int day), some (.int (nI n)), l5, l6] [.int (b2i ok)] (hs S8 V8) = t' → rn (d + 5) 101 264 [some (.ref 93), some (.int am), some (.int rnd), some (.int day), some (.int (nI n)), l5, l6] [] (hs S V) = t' := by
      intro t' ht'
      rw [← ht']
      simp only [x_Mod_goes_264, x_Mod_goes_265, x_Mod_goes_267, x_Mod_goes_270, x_Mod_goes_273, x_Mod_goes_274, x_Mod_goes_277, x_Mod_goes_278, x_Mod_goes_279, x_Mod_goes_282, x_Mod_goes_283, x_Mod_goes_286, x_Mod_goes_287, x_Mod_goes_288, x_Mod_goes_291, x_Mod_goes_292, x_Mod_goes_293, x_Mod_goes_294, x_Mod_goes_295, x_Mod_goes_296, x_Mod_goes_297, x_Mod_goes_300, x_Mod_goes_301, x_Mod_goes_302, x_Mod_goes_305, x_Mod_goes_308, x_Mod_goes_309, x_Mod_goes_310, x_Mod_goes_311, x_Mod_goes_314, x_Mod_goes_317, x_Mod_goes_318, x_Mod_goes_319, x_Mod_goes_322, x_Mod_goes_323, x_Mod_goes_324, x_Mod_goes_327, x_Mod_goes_328, x_Mod_goes_331, x_Mod_goes_332, x_Mod_goes_332', x_Mod_goes_333, x_Mod_goes_336, x_Mod_goes_336', x_Mod_goes_337, x_Mod_goes_338, x_Mod_goes_339, x_Mod_goes_342, x_Mod_goes_343, x_Mod_goes_346, x_Mod_goes_347, x_Mod_goes_348, i_93, e1, show b2i true = 1 from rfl, (by decide : ¬ (1 : Int32) = 0), if_false, g_93_53, m1, m4, mpos 1 h1, mpos 4 h4, ef, et, p27, g_93_27, v27, e4, e5, e6, g_93_35, g_93_39, h39c, nI_1, pu39, g_93_26, w26b, s7, e8', ac_0, ac_i, ac_r, ac_ii, ac_ir, ac_ri, ac_rr, ac_iii, ac_iir, ac_iri, ac_irr, ac_rii, ac_rir, ac_rri, ac_rrr, Option.bind_some, Option.toList_some, Option.toList_none, List.nil_append, List.cons_append, not_false_eq_true]
    cases ok with
    | false =>
      simp only [Bool.false_eq_true, if_false]
      refine ⟨S8, V8, pre ?_, X8', G8⟩
      simp only [x_Mod_goes_351, x_Mod_goes_354, x_Mod_goes_355, show b2i false = 0 from rfl, if_true]
    | true =>
      simp only [if_true]
      obtain ⟨_, _, P8⟩ := k8' rfl
      have ld : ∀ (S : st_S) (k : Nat), k < 7 → am_ld (hs S V8) 115 0 (nI k) = some (ax.getD k 0) := fun S k hk => P8.ld rfl (by omega) (by omega)
      have d0 : ∀ S : st_S, am_ld (hs S V8) 115 0 0 = some (ax.getD 0 0) := fun S => ld S 0 (by decide)
      have d1 : ∀ S : st_S, am_ld (hs S V8) 115 0 1 = some (ax.getD 1 0) := fun S => ld S 1 (by decide)
      have d2 : ∀ S : st_S, am_ld (hs S V8) 115 0 2 = some (ax.getD 2 0) := fun S => ld S 2 (by decide)
      have d3 : ∀ S : st_S, am_ld (hs S V8) 115 0 3 = some (ax.getD 3 0) := fun S => ld S 3 (by decide)
      have d4 : ∀ S : st_S, am_ld (hs S V8) 115 0 4 = some (ax.getD 4 0) := fun S => ld S 4 (by decide)
      have d5 : ∀ S : st_S, am_ld (hs S V8) 115 0 5 = some (ax.getD 5 0) := fun S => ld S 5 (by decide)
      have d6 : ∀ S : st_S, am_ld (hs S V8) 115 0 6 = some (ax.getD 6 0) := fun S => ld S 6 (by decide)
      have q1 : (ax.getD 1 0 <<< ((8 : Int32) &&& 31)) ||| ax.getD 2 0 = pair2 ax 1 := rfl
      have q2 : (((ax.getD 3 0 <<< ((24 : Int32) &&& 31)) ||| (ax.getD 4 0 <<< ((16 : Int32) &&& 31))) ||| (ax.getD 5 0 <<< ((8 : Int32) &&& 31))) ||| ax.getD 6 0 = int4 ax 3 := rfl
      refine ⟨uS (uS S8 93 28 (pair2 ax 1)) 93 29 (int4 ax 3), V8, pre ?_, ?_, (G8.us (by unfold kmS; omega)).us (by unfold kmS; omega)⟩
      · simp only [x_Mod_goes_351, x_Mod_goes_356, x_Mod_goes_357, x_Mod_goes_358, x_Mod_goes_361, x_Mod_goes_362, x_Mod_goes_363, x_Mod_goes_365, x_Mod_goes_366, x_Mod_goes_367, x_Mod_goes_370, x_Mod_goes_371, x_Mod_goes_372, x_Mod_goes_373, x_Mod_goes_376, x_Mod_goes_377, x_Mod_goes_378, x_Mod_goes_381, x_Mod_goes_382, x_Mod_goes_383, x_Mod_goes_385, x_Mod_goes_386, x_Mod_goes_387, x_Mod_goes_390, x_Mod_goes_391, x_Mod_goes_392, x_Mod_goes_394, x_Mod_goes_395, x_Mod_goes_396, x_Mod_goes_397, x_Mod_goes_400, x_Mod_goes_401, x_Mod_goes_402, x_Mod_goes_404, x_Mod_goes_405, x_Mod_goes_406, x_Mod_goes_407, x_Mod_goes_410, x_Mod_goes_412, x_Mod_goes_413, x_Mod_goes_414, x_Mod_goes_417, x_Mod_goes_418, x_Mod_goes_421, x_Mod_goes_422, x_Mod_goes_423, show b2i true = 1 from rfl, (by decide : ¬ (1 : Int32) = 0), if_false, g_93_38, d0, d1, d2, d3, d4, d5, d6, q1, q2, p_93_28, p_93_29, ac_0, ac_i, ac_r, ac_ii, ac_ir, ac_ri, ac_rr, ac_iii, ac_iir, ac_iri, ac_irr, ac_rii, ac_rir, ac_rri, ac_rrr, Option.bind_some, Option.toList_some, Option.toList_none, List.nil_append, List.cons_append, not_false_eq_true]
      · exact (((X8'.setP (k := 4) (v := pair2 ax 1) (by decide)).congP mkP_4).setP (k := 5) (v := int4 ax 3) (by decide)).congP mkP_5
  · simp only [if_neg hc]
    refine ⟨S, V1, ?_, X1, G1⟩
    cases g
    · simp only [x_Mod_goes_264, x_Mod_goes_265, x_Mod_goes_267, x_Mod_goes_270, x_Mod_goes_291, x_Mod_goes_292, i_93, e1, show b2i false = 0 from rfl, if_true, ac_0, ac_i, ac_r, ac_ii, ac_ir, ac_ri, ac_rr, ac_iii, ac_iir, ac_iri, ac_irr, ac_rii, ac_rir, ac_rri, ac_rrr, Option.bind_some, Option.toList_some, Option.toList_none, List.nil_append, List.cons_append, not_false_eq_true]
    · cases h1 : fit 1 (it 1)
      · simp only [x_Mod_goes_264, x_Mod_goes_265, x_Mod_goes_267, x_Mod_goes_270, x_Mod_goes_273, x_Mod_goes_274, x_Mod_goes_277, x_Mod_goes_278, x_Mod_goes_279, x_Mod_goes_282, x_Mod_goes_283, x_Mod_goes_286, x_Mod_goes_287, x_Mod_goes_288, x_Mod_goes_291, x_Mod_goes_292, i_93, e1, show b2i true = 1 from rfl, (by decide : ¬ (1 : Int32) = 0), if_false, g_93_53, m1, mneg 1 h1, if_true, ac_0, ac_i, ac_r, ac_ii, ac_ir, ac_ri, ac_rr, ac_iii, ac_iir, ac_iri, ac_irr, ac_rii, ac_rir, ac_rri, ac_rrr, Option.bind_some, Option.toList_some, Option.toList_none, List.nil_append, List.cons_append, not_false_eq_true]
      · cases h4 : fit 4 (it 4)
        · simp only [x_Mod_goes_264, x_Mod_goes_265, x_Mod_goes_267, x_Mod_goes_270, x_Mod_goes_273, x_Mod_goes_274, x_Mod_goes_277, x_Mod_goes_278, x_Mod_goes_279, x_Mod_goes_282, x_Mod_goes_283, x_Mod_goes_286, x_Mod_goes_287, x_Mod_goes_288, x_Mod_goes_291, x_Mod_goes_292, i_93, e1, show b2i true = 1 from rfl, (by decide : ¬ (1 : Int32) = 0), if_false, g_93_53, m1, m4, mpos 1 h1, mneg 4 h4, if_true, ac_0, ac_i, ac_r, ac_ii, ac_ir, ac_ri, ac_rr, ac_iii, ac_iir, ac_iri, ac_irr, ac_rii, ac_rir, ac_rri, ac_rrr, Option.bind_some, Option.toList_some, Option.toList_none, List.nil_append, List.cons_append, not_false_eq_true]
        · rw [h1, h4] at hc; exact absurd rfl hc
end MRUN
