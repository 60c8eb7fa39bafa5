/-! a run: the reference -/
section MRUN
variable {d : Nat} {S S' : st_S} {V V' : st_V} {j z t B : Nat} {C : st_S} {R : st_V} {F : List Int32} {J : st_J} {T P : Nat → Int32}
theorem olc_4 {ty am rnd fi : Int32} : olc (cmd4 ty am rnd fi) := ⟨by show 0 < 11; decide, by show 11 ≤ 11; decide, fun h => absurd h (by show ¬ (4 : Int32) = 3; decide), fun _ => rfl⟩
theorem mrest {b ch se re am rnd day : Int32} {n : Nat} {l5 l6 : Option Value} {g : Bool} {it : it_T} (hj : j < 4) (hz : 3 ≤ z) (hz2 : z ≤ 16) (lF : F.length = 128) (hO : ∀ i, i < 12 → Oc (R i)) (hT2 : oct (T 2)) (H : CI C) (hC : C j 6 = nI z) (X : MX S V C R F J T (mkP b ch 0 (-1) 0 0 se re)) (K : ChM S j t) (ht : t ≤ 1) (hn : n ≤ 3) (D : RDm V R j n) (hg : tka (fun i => R (3 * j + i)) n 0 true it0 = (g, it)) (L : JL J) (hJ : jn J ≤ B) (hB : B + 340 ≤ 2000000) :
    ∃ S' V', rn (d + 5) 101 264 [some (.ref 93), some (.int am), some (.int rnd), some (.int day), some (.int (nI n)), l5, l6] [] (hs S V) = some (some (.int (if (g && (fit 1 (it 1) && fit 4 (it 4))) = true then dcd F R T j z am rnd day it C J t re else (5, C, J, 0, -1, 0, 0, re)).1), hs S' V') ∧ MX S' V' (if (g && (fit 1 (it 1) && fit 4 (it 4))) = true then dcd F R T j z am rnd day it C J t re else (5, C, J, 0, -1, 0, 0, re)).2.1 R F (if (g && (fit 1 (it 1) && fit 4 (it 4))) = true then dcd F R T j z am rnd day it C J t re else (5, C, J, 0, -1, 0, 0, re)).2.2.1 T (mkP b ch (if (g && (fit 1 (it 1) && fit 4 (it 4))) = true then dcd F R T j z am rnd day it C J t re else (5, C, J, 0, -1, 0, 0, re)).2.2.2.1 (if (g && (fit 1 (it 1) && fit 4 (it 4))) = true then dcd F R T j z am rnd day it C J t re else (5, C, J, 0, -1, 0, 0, re)).2.2.2.2.1 (if (g && (fit 1 (it 1) && fit 4 (it 4))) = true then dcd F R T j z am rnd day it C J t re else (5, C, J, 0, -1, 0, 0, re)).2.2.2.2.2.1 (if (g && (fit 1 (it 1) && fit 4 (it 4))) = true then dcd F R T j z am rnd day it C J t re else (5, C, J, 0, -1, 0, 0, re)).2.2.2.2.2.2.1 se (if (g && (fit 1 (it 1) && fit 4 (it 4))) = true then dcd F R T j z am rnd day it C J t re else (5, C, J, 0, -1, 0, 0, re)).2.2.2.2.2.2.2) ∧ Fm kmS kmV S V S' V' := by
  have hR := fun i hi => (hO i hi).1
  obtain ⟨V1, e1, E1, F1⟩ := ev_apart (d := d + 2) (S := S) (V := V) (rs := fun i => R (3 * j + i)) hn (fun r hr => hO _ (by omega)) (X.len (by decide)) (X.len (by decide)) (X.len (by decide)) D
  have itO : ItO (tka (fun i => R (3 * j + i)) n 0 true it0).2 := tka_O (n := n) (fun r hr => hO _ (by omega)) n 0 true it0 (by omega) (fun t ys h => by cases h)
  rw [hg] at e1 E1 itO
  dsimp only at e1 E1 itO
  have O := fun t => itO.itv t
  have X1 : MX S V1 C R F J T (mkP b ch 0 (-1) 0 0 se re) := X.fm (F1.mono (fun a k z => z.elim) (fun a z => by unfold miV at z; unfold pmV; omega))
  have G1 : Fm kmS kmV S V S V1 := F1.mono (fun a k z => z.elim) (fun a z => by unfold miV at z; unfold kmV; omega)
  have m1 : ∀ S : st_S, am_ld (hs S V1) 120 0 1 = some (ml it 1) := fun S => ld_ml (t := 1) (E1 1 (by decide) (by decide)) (by decide)
  have m4 : ∀ S : st_S, am_ld (hs S V1) 120 0 4 = some (ml it 4) := fun S => ld_ml (t := 4) (E1 4 (by decide) (by decide)) (by decide)
  have mneg : ∀ t, fit t (it t) = false → ml it t < 0 := fun t h => by unfold ml; rw [h, if_neg (by decide)]; decide
  have mpos : ∀ t, fit t (it t) = true → ¬ ml it t < 0 := fun t h => by
    unfold ml; rw [if_pos h]; exact nI_nn (by have := (O t).1; omega)
  by_cases hc : (g && (fit 1 (it 1) && fit 4 (it 4))) = true
  · simp only [if_pos hc]
    obtain ⟨hgt, h1, h4⟩ : g = true ∧ fit 1 (it 1) = true ∧ fit 4 (it 4) = true := by
      cases g <;> cases h1 : fit 1 (it 1) <;> cases h4 : fit 4 (it 4) <;> simp [h1, h4] at hc ⊢
    subst hgt
    have hT : ∀ k, k < 6 → S 93 (tm k) = T k := fun k hk => X1.2.2.2.2.1 k hk
    have h26 : S 93 26 = 0 := X1.2.2.2.2.2.1 2 (by decide)
    have ef := ev_mfind (d := d + 2) (S := S) (V := V1) (it := it) (T := T) (am := am) (rnd := rnd) (day := day) E1 O hT hT2 h26 h1
    have X2 : MX (uS S 93 26 (fnd T it am rnd day)) V1 C R F J T (mkP b ch (fnd T it am rnd day) (-1) 0 0 se re) := (X1.setP (k := 2) (v := fnd T it am rnd day) (by decide)).congP mkP_2
    have g2 : uS S 93 26 (fnd T it am rnd day) 93 26 = fnd T it am rnd day := uS_self _ _ _ _
    have et := ev_mtypeFor (d := d + 3) (S := uS S 93 26 (fnd T it am rnd day)) (V := V1) (it := it) (T := T) (E1 4 (by decide) (by decide)) h4 g2 ((uS_ne (by decide)).trans (hT 3 (by decide)))
    have X3 : MX (uS (uS S 93 26 (fnd T it am rnd day)) 93 27 (typ T (itv 4 (it 4)) (fnd T it am rnd day))) V1 C R F J T (mkP b ch (fnd T it am rnd day) (typ T (itv 4 (it 4)) (fnd T it am rnd day)) 0 0 se re) := (X2.setP (k := 3) (v := typ T (itv 4 (it 4)) (fnd T it am rnd day)) (by decide)).congP mkP_3
    unfold dcd
    generalize fnd T it am rnd day = fi at ef X2 g2 et X3
    generalize typ T (itv 4 (it 4)) fi = ty at et X3
    have F3 : Fm (fun a k => a = 93 ∧ (k = 26 ∨ k = 27)) (fun _ => False) S V1 (uS (uS S 93 26 fi) 93 27 ty) V1 := Fm.us (P := fun a k => a = 93 ∧ (k = 26 ∨ k = 27)) (a := 93) (k := 27) (Fm.us (P := fun a k => a = 93 ∧ (k = 26 ∨ k = 27)) (a := 93) (k := 26) (Fm.refl S V1) (by omega)) (by omega)
    have K3 : ChM (uS (uS S 93 26 fi) 93 27 ty) j t := K.fm F3 (by omega) (by omega) (by omega) (by omega) (by omega)
    have v26 : uS (uS S 93 26 fi) 93 27 ty 93 26 = fi := by rw [uS_ne (by decide), uS_self]
    have v27 : uS (uS S 93 26 fi) 93 27 ty 93 27 = ty := uS_self _ _ _ _
    have G3 : Fm kmS kmV S V (uS (uS S 93 26 fi) 93 27 ty) V1 := (G1.us (by unfold kmS; omega)).us (by unfold kmS; omega)
    have p27 : am_put (hs (uS S 93 26 fi) V1) 93 9 27 (.int ty) = some (hs (uS (uS S 93 26 fi) 93 27 ty) V1) := p_93_27
    generalize uS (uS S 93 26 fi) 93 27 ty = S3 at X3 F3 K3 v26 v27 G3 p27
    obtain ⟨S4, V4, e4, h39, P4, F4⟩ := ev_say (S := S3) (V := V1) (a := 4) (b := ty) (X3.len (by decide))
    have l4 : (V4 112).length = 11 := (F4.2.2 _).trans (X3.len (by decide))
    obtain ⟨S5, V5, e5, h39b, P5, F5⟩ := ev_put (v := am) h39 P4 l4 (by show 2 + 4 ≤ 11; decide)
    have l5' : (V5 112).length = 11 := (F5.2.2 _).trans l4
    obtain ⟨S6, V6, e6, h39c, P6, F6⟩ := ev_put (v := rnd) h39b P5 l5' (by show 6 + 4 ≤ 11; decide)
    have l6' : (V6 112).length = 11 := (F6.2.2 _).trans l5'
    obtain ⟨s7, h39d, P7, l7, F7⟩ := mrow_add (v := fi) h39c P6 l6' (by show 10 < 11; decide)
    have F46 := (F4.trans F5).trans F6
    have w26 : S6 93 26 = fi := (F46.1 _ _ (by unfold roW; omega)).trans v26
    have w26b : uS S6 93 39 (nI (([4, ty] ++ oct4 am ++ oct4 rnd).length + 1)) 93 26 = fi := (uS_ne (by decide)).trans w26
    have w39 : S6 93 39 + 1 = nI (([4, ty] ++ oct4 am ++ oct4 rnd).length + 1) := by rw [h39c, nI_1]
    have F47 := F46.trans F7
    have pu39 : am_put (hs S6 V6) 93 9 39 (.int (nI (([4, ty] ++ oct4 am ++ oct4 rnd).length + 1))) = some (hs (uS S6 93 39 (nI (([4, ty] ++ oct4 am ++ oct4 rnd).length + 1))) V6) := p_93_39
    have ec : [4, ty] ++ oct4 am ++ oct4 rnd ++ [fi] = cmd4 ty am rnd fi := rfl
    rw [ec] at h39d P7
    generalize uS S6 93 39 (nI (([4, ty] ++ oct4 am ++ oct4 rnd).length + 1)) = S7 at s7 h39d F7 F47 w26b pu39
    generalize sV V6 112 ([4, ty] ++ oct4 am ++ oct4 rnd).length fi = V7 at s7 P7 l7 F7 F47
    have X7 : MX S7 V7 C R F J T (mkP b ch fi ty 0 0 se re) := X3.fm (F47.mono (fun a k z => by unfold roW at z; unfold pmS; omega) (fun a z => by unfold roX at z; unfold pmV; omega))
    have K7 : ChM S7 j t := K3.fm F47 (by unfold roW; omega) (by unfold roW; omega) (by unfold roW; omega) (by unfold roW; omega) (by unfold roW; omega)
    obtain ⟨S8, V8, e8, X8, k8, F8⟩ := mtrans (d := d) (cmd := cmd4 ty am rnd fi) (C1 := (exe C R j (cmd4 ty am rnd fi)).1) (ans := (exe C R j (cmd4 ty am rnd fi)).2) hj X7 K7 ht h39d P7 hC hz hz2 olc_4 (by rw [exe_4]; decide) okc_4 rfl lF hR (H j hj).1.2.2.2.2.2 L hJ hB
    have e8' : ev (d + 4) 94 [.ref 93] (hs S7 V7) = some (some (.int (b2i (tk F 11 z 7 340 J 0 t 0 5 0 0).1)), hs S8 V8) := e8
    have X8' : MX S8 V8 (cph C (exe C R j (cmd4 ty am rnd fi)).1 (tk F 11 z 7 340 J 0 t 0 5 0 0).2.2.2) R F (tk F 11 z 7 340 J 0 t 0 5 0 0).2.1 T (mkP b ch fi ty 0 0 se re) := X8
    have k8' : (tk F 11 z 7 340 J 0 t 0 5 0 0).1 = true → ChM S8 j (tk F 11 z 7 340 J 0 t 0 5 0 0).2.2.1 ∧ S8 93 42 = nI (exe C R j (cmd4 ty am rnd fi)).2.length ∧ Px V8 115 (exe C R j (cmd4 ty am rnd fi)).2 := k8
    have l7a : (exe C R j (cmd4 ty am rnd fi)).2.length = 7 := exe_4
    clear e8 X8 k8
    have G8 : Fm kmS kmV S V S8 V8 := (G3.trans (F47.mono (fun a k z => by unfold roW at z; unfold kmS; omega) (fun a z => by unfold roX at z; unfold kmV; omega))).trans (taS_km F8)
    generalize ([4, ty] ++ oct4 am ++ oct4 rnd).length = n10 at h39c s7 w39 pu39
    generalize tk F 11 z 7 340 J 0 t 0 5 0 0 = q at e8' X8' k8'
    generalize exe C R j (cmd4 ty am rnd fi) = x at X8' k8' l7a
    obtain ⟨Cx, ax⟩ := x
    obtain ⟨ok, J1, t1', ph⟩ := q
    dsimp only at e8' X8' k8' l7a ⊢
    have pre : ∀ {t' : Option (Option Value × am_H)}, rn (d + 5) 101 351 [some (.ref 93), some (.int am), some (.int rnd), some (.int day), some (.int (nI n)), l5, l6] [.int (b2i ok)] (hs S8 V8) = t' → rn (d + 5) 101 264 [some (.ref 93), some (.int am), some (.int rnd), some (.int day), some (.int (nI n)), l5, l6] [] (hs S V) = t' := by
      intro t' ht'
      rw [← ht']
      simp only [x_Mod_goes_264, x_Mod_goes_265, x_Mod_goes_267, x_Mod_goes_270, x_Mod_goes_273, x_Mod_goes_274, x_Mod_goes_277, x_Mod_goes_278, x_Mod_goes_279, x_Mod_goes_282, x_Mod_goes_283, x_Mod_goes_286, x_Mod_goes_287, x_Mod_goes_288, x_Mod_goes_291, x_Mod_goes_292, x_Mod_goes_293, x_Mod_goes_294, x_Mod_goes_295, x_Mod_goes_296, x_Mod_goes_297, x_Mod_goes_300, x_Mod_goes_301, x_Mod_goes_302, x_Mod_goes_305, x_Mod_goes_308, x_Mod_goes_309, x_Mod_goes_310, x_Mod_goes_311, x_Mod_goes_314, x_Mod_goes_317, x_Mod_goes_318, x_Mod_goes_319, x_Mod_goes_322, x_Mod_goes_323, x_Mod_goes_324, x_Mod_goes_327, x_Mod_goes_328, x_Mod_goes_331, x_Mod_goes_332, x_Mod_goes_332', x_Mod_goes_333, x_Mod_goes_336, x_Mod_goes_336', x_Mod_goes_337, x_Mod_goes_338, x_Mod_goes_339, x_Mod_goes_342, x_Mod_goes_343, x_Mod_goes_346, x_Mod_goes_347, x_Mod_goes_348, i_93, e1, show b2i true = 1 from rfl, (by decide : ¬ (1 : Int32) = 0), if_false, g_93_53, m1, m4, mpos 1 h1, mpos 4 h4, ef, et, p27, g_93_27, v27, e4, e5, e6, g_93_35, g_93_39, h39c, nI_1, pu39, g_93_26, w26b, s7, e8', ac_0, ac_i, ac_r, ac_ii, ac_ir, ac_ri, ac_rr, ac_iii, ac_iir, ac_iri, ac_irr, ac_rii, ac_rir, ac_rri, ac_rrr, Option.bind_some, Option.toList_some, Option.toList_none, List.nil_append, List.cons_append, not_false_eq_true]
    cases ok with
    | false =>
      simp only [Bool.false_eq_true, if_false]
      refine ⟨S8, V8, pre ?_, X8', G8⟩
      simp only [x_Mod_goes_351, x_Mod_goes_354, x_Mod_goes_355, show b2i false = 0 from rfl, if_true]
    | true =>
      simp only [if_true]
      obtain ⟨_, _, P8⟩ := k8' rfl
      have ld : ∀ (S : st_S) (k : Nat), k < 7 → am_ld (hs S V8) 115 0 (nI k) = some (ax.getD k 0) := fun S k hk => P8.ld rfl (by omega) (by omega)
      have d0 : ∀ S : st_S, am_ld (hs S V8) 115 0 0 = some (ax.getD 0 0) := fun S => ld S 0 (by decide)
      have d1 : ∀ S : st_S, am_ld (hs S V8) 115 0 1 = some (ax.getD 1 0) := fun S => ld S 1 (by decide)
      have d2 : ∀ S : st_S, am_ld (hs S V8) 115 0 2 = some (ax.getD 2 0) := fun S => ld S 2 (by decide)
      have d3 : ∀ S : st_S, am_ld (hs S V8) 115 0 3 = some (ax.getD 3 0) := fun S => ld S 3 (by decide)
      have d4 : ∀ S : st_S, am_ld (hs S V8) 115 0 4 = some (ax.getD 4 0) := fun S => ld S 4 (by decide)
      have d5 : ∀ S : st_S, am_ld (hs S V8) 115 0 5 = some (ax.getD 5 0) := fun S => ld S 5 (by decide)
      have d6 : ∀ S : st_S, am_ld (hs S V8) 115 0 6 = some (ax.getD 6 0) := fun S => ld S 6 (by decide)
      have q1 : (ax.getD 1 0 <<< ((8 : Int32) &&& 31)) ||| ax.getD 2 0 = pair2 ax 1 := rfl
      have q2 : (((ax.getD 3 0 <<< ((24 : Int32) &&& 31)) ||| (ax.getD 4 0 <<< ((16 : Int32) &&& 31))) ||| (ax.getD 5 0 <<< ((8 : Int32) &&& 31))) ||| ax.getD 6 0 = int4 ax 3 := rfl
      refine ⟨uS (uS S8 93 28 (pair2 ax 1)) 93 29 (int4 ax 3), V8, pre ?_, ?_, (G8.us (by unfold kmS; omega)).us (by unfold kmS; omega)⟩
      · simp only [x_Mod_goes_351, x_Mod_goes_356, x_Mod_goes_357, x_Mod_goes_358, x_Mod_goes_361, x_Mod_goes_362, x_Mod_goes_363, x_Mod_goes_365, x_Mod_goes_366, x_Mod_goes_367, x_Mod_goes_370, x_Mod_goes_371, x_Mod_goes_372, x_Mod_goes_373, x_Mod_goes_376, x_Mod_goes_377, x_Mod_goes_378, x_Mod_goes_381, x_Mod_goes_382, x_Mod_goes_383, x_Mod_goes_385, x_Mod_goes_386, x_Mod_goes_387, x_Mod_goes_390, x_Mod_goes_391, x_Mod_goes_392, x_Mod_goes_394, x_Mod_goes_395, x_Mod_goes_396, x_Mod_goes_397, x_Mod_goes_400, x_Mod_goes_401, x_Mod_goes_402, x_Mod_goes_404, x_Mod_goes_405, x_Mod_goes_406, x_Mod_goes_407, x_Mod_goes_410, x_Mod_goes_412, x_Mod_goes_413, x_Mod_goes_414, x_Mod_goes_417, x_Mod_goes_418, x_Mod_goes_421, x_Mod_goes_422, x_Mod_goes_423, show b2i true = 1 from rfl, (by decide : ¬ (1 : Int32) = 0), if_false, g_93_38, d0, d1, d2, d3, d4, d5, d6, q1, q2, p_93_28, p_93_29, ac_0, ac_i, ac_r, ac_ii, ac_ir, ac_ri, ac_rr, ac_iii, ac_iir, ac_iri, ac_irr, ac_rii, ac_rir, ac_rri, ac_rrr, Option.bind_some, Option.toList_some, Option.toList_none, List.nil_append, List.cons_append, not_false_eq_true]
      · exact (((X8'.setP (k := 4) (v := pair2 ax 1) (by decide)).congP mkP_4).setP (k := 5) (v := int4 ax 3) (by decide)).congP mkP_5
  · simp only [if_neg hc]
    refine ⟨S, V1, ?_, X1, G1⟩
    cases g
    · simp only [x_Mod_goes_264, x_Mod_goes_265, x_Mod_goes_267, x_Mod_goes_270, x_Mod_goes_291, x_Mod_goes_292, i_93, e1, show b2i false = 0 from rfl, if_true, ac_0, ac_i, ac_r, ac_ii, ac_ir, ac_ri, ac_rr, ac_iii, ac_iir, ac_iri, ac_irr, ac_rii, ac_rir, ac_rri, ac_rrr, Option.bind_some, Option.toList_some, Option.toList_none, List.nil_append, List.cons_append, not_false_eq_true]
    · cases h1 : fit 1 (it 1)
      · simp only [x_Mod_goes_264, x_Mod_goes_265, x_Mod_goes_267, x_Mod_goes_270, x_Mod_goes_273, x_Mod_goes_274, x_Mod_goes_277, x_Mod_goes_278, x_Mod_goes_279, x_Mod_goes_282, x_Mod_goes_283, x_Mod_goes_286, x_Mod_goes_287, x_Mod_goes_288, x_Mod_goes_291, x_Mod_goes_292, i_93, e1, show b2i true = 1 from rfl, (by decide : ¬ (1 : Int32) = 0), if_false, g_93_53, m1, mneg 1 h1, if_true, ac_0, ac_i, ac_r, ac_ii, ac_ir, ac_ri, ac_rr, ac_iii, ac_iir, ac_iri, ac_irr, ac_rii, ac_rir, ac_rri, ac_rrr, Option.bind_some, Option.toList_some, Option.toList_none, List.nil_append, List.cons_append, not_false_eq_true]
      · cases h4 : fit 4 (it 4)
        · simp only [x_Mod_goes_264, x_Mod_goes_265, x_Mod_goes_267, x_Mod_goes_270, x_Mod_goes_273, x_Mod_goes_274, x_Mod_goes_277, x_Mod_goes_278, x_Mod_goes_279, x_Mod_goes_282, x_Mod_goes_283, x_Mod_goes_286, x_Mod_goes_287, x_Mod_goes_288, x_Mod_goes_291, x_Mod_goes_292, i_93, e1, show b2i true = 1 from rfl, (by decide : ¬ (1 : Int32) = 0), if_false, g_93_53, m1, m4, mpos 1 h1, mneg 4 h4, if_true, ac_0, ac_i, ac_r, ac_ii, ac_ir, ac_ri, ac_rr, ac_iii, ac_iir, ac_iri, ac_irr, ac_rii, ac_rir, ac_rri, ac_rrr, Option.bind_some, Option.toList_some, Option.toList_none, List.nil_append, List.cons_append, not_false_eq_true]
        · rw [h1, h4] at hc; exact absurd rfl hc
theorem olc_2 {am : Int32} : olc ([2] ++ oct4 am) := ⟨by show 0 < 5; decide, by show 5 ≤ 11; decide, fun h => absurd h (by show ¬ (2 : Int32) = 3; decide), fun h => absurd h (by show ¬ (2 : Int32) = 4; decide)⟩
theorem mgo {b ch se am rnd day : Int32} {l4 l5 l6 : Option Value} (hj : j < 4) (hz : 3 ≤ z) (hz2 : z ≤ 16) (lF : F.length = 128) (hO : ∀ i, i < 12 → Oc (R i)) (hT2 : oct (T 2)) (H : CI C) (hC : C j 6 = nI z) (X : MX S V C R F J T (mkP b ch 0 (-1) 0 0 se 0)) (K : ChM S j t) (ht : t ≤ 1) (L : JL J) (hJ : jn J ≤ B) (hB : B + 1700 ≤ 2000000) :
    ∃ S' V', rn (d + 5) 101 139 [some (.ref 93), some (.int am), some (.int rnd), some (.int day), l4, l5, l6] [] (hs S V) = some (some (.int (rst F R T j z am rnd day C J t).1), hs S' V') ∧ MX S' V' (rst F R T j z am rnd day C J t).2.1 R F (rst F R T j z am rnd day C J t).2.2.1 T (mkP b ch (rst F R T j z am rnd day C J t).2.2.2.1 (rst F R T j z am rnd day C J t).2.2.2.2.1 (rst F R T j z am rnd day C J t).2.2.2.2.2.1 (rst F R T j z am rnd day C J t).2.2.2.2.2.2.1 se (rst F R T j z am rnd day C J t).2.2.2.2.2.2.2) ∧ Fm kmS kmV S V S' V' := by
  have hR := fun i hi => (hO i hi).1
  have hB1 : B + 340 ≤ 2000000 := Nat.le_trans (Nat.add_le_add_left (by decide) B) hB
  have hn := nrec_le R j
  have l0 : (V 112).length = 11 := X.len (by decide)
  have s1 : ∀ S : st_S, am_sv (hs S V) 112 0 0 2 = some (hs S (sV V 112 0 2)) := fun S => svN (j := 0) rfl (by omega) (by decide)
  have P1 : Px (sV V 112 0 2) 112 [2] := (Px.nil V 112).sv (by show 0 < (V 112).length; omega)
  have l1 : (sV V 112 0 2 112).length = 11 := by rw [sV_len]; exact l0
  have F1 : Fm roW roX S V (uS S 93 39 1) (sV V 112 0 2) := ((Fm.refl S V).us (show roW 93 39 from ⟨rfl, rfl⟩)).sv (show roX 112 from rfl)
  obtain ⟨S2, V2, e2, h39, P2, F2⟩ := ev_put (S := uS S 93 39 1) (V := sV V 112 0 2) (xs := [2]) (v := am) (uS_self S 93 39 1) P1 l1 (by show 1 + 4 ≤ 11; decide)
  have F12 := F1.trans F2
  have X2 : MX S2 V2 C R F J T (mkP b ch 0 (-1) 0 0 se 0) := X.fm (F12.mono (fun a k z => by unfold roW at z; unfold pmS; omega) (fun a z => by unfold roX at z; unfold pmV; omega))
  have K2 : ChM S2 j t := K.fm F12 (by unfold roW; omega) (by unfold roW; omega) (by unfold roW; omega) (by unfold roW; omega) (by unfold roW; omega)
  have G2 : Fm kmS kmV S V S2 V2 := F12.mono (fun a k z => by unfold roW at z; unfold kmS; omega) (fun a z => by unfold roX at z; unfold kmV; omega)
  obtain ⟨S3, V3, e3, X3, k3, F3⟩ := mtrans (d := d) (cmd := [2] ++ oct4 am) hj X2 K2 ht h39 P2 hC hz hz2 olc_2 (by show 1 ≤ 24; decide) okc_2 (exe_2 hR hj) lF hR (H j hj).1.2.2.2.2.2 L hJ hB1
  obtain ⟨a1, a2, a3⟩ := tk_0 (F := F) (L := 5) (n := 1) hz (by decide) ht L hJ hB1
  have e3' : ev (d + 4) 94 [.ref 93] (hs S2 V2) = some (some (.int (b2i (tk F 5 z 1 340 J 0 t 0 5 0 0).1)), hs S3 V3) := e3
  have X3' : MX S3 V3 (cph C (c11 C j) (tk F 5 z 1 340 J 0 t 0 5 0 0).2.2.2) R F (tk F 5 z 1 340 J 0 t 0 5 0 0).2.1 T (mkP b ch 0 (-1) 0 0 se 0) := X3
  have k3' : (tk F 5 z 1 340 J 0 t 0 5 0 0).1 = true → ChM S3 j (tk F 5 z 1 340 J 0 t 0 5 0 0).2.2.1 ∧ S3 93 42 = nI 1 ∧ Px V3 115 [nI (nrec R j)] := k3
  clear e3 X3 k3
  have G3 : Fm kmS kmV S V S3 V3 := G2.trans (taS_km F3)
  unfold rst rda
  generalize tk F 5 z 1 340 J 0 t 0 5 0 0 = q at e3' X3' k3' a1 a2 a3
  obtain ⟨ok, J1, t1, ph⟩ := q
  dsimp only at e3' X3' k3' a1 a2 a3 ⊢
  have k6 : cph C (c11 C j) ph j 6 = nI z := (cph_k (uS_ne (by omega))).trans hC
  have H1 : CI (cph C (c11 C j) ph) := H.ph (H.c11 hj) ph
  have pre : ∀ {t' : Option (Option Value × am_H)}, rn (d + 5) 101 160 [some (.ref 93), some (.int am), some (.int rnd), some (.int day), l4, l5, l6] [.int (b2i ok)] (hs S3 V3) = t' → rn (d + 5) 101 139 [some (.ref 93), some (.int am), some (.int rnd), some (.int day), l4, l5, l6] [] (hs S V) = t' := by
    intro t' ht'
    rw [← ht']
    simp only [x_Mod_goes_139, x_Mod_goes_140, x_Mod_goes_143, x_Mod_goes_144, x_Mod_goes_145, x_Mod_goes_146, x_Mod_goes_147, x_Mod_goes_148, x_Mod_goes_151, x_Mod_goes_152, x_Mod_goes_153, x_Mod_goes_156, x_Mod_goes_157, i_93, g_93_35, s1, p_93_39, e2, e3', ac_0, ac_i, ac_r, ac_ii, ac_ir, ac_ri, ac_rr, ac_iii, ac_iir, ac_iri, ac_irr, ac_rii, ac_rir, ac_rri, ac_rrr, Option.bind_some, Option.toList_some, Option.toList_none, List.nil_append, List.cons_append, not_false_eq_true]
  cases ok with
  | false =>
    simp only [Bool.false_eq_true, if_false]
    refine ⟨S3, V3, pre ?_, X3', G3⟩
    simp only [x_Mod_goes_160, x_Mod_goes_163, x_Mod_goes_164, show b2i false = 0 from rfl, if_true]
  | true =>
    simp only [if_true]
    obtain ⟨K3, g42, P3⟩ := k3' rfl
    have ld : am_ld (hs S3 V3) 115 0 0 = some (nI (nrec R j)) := P3.ld (k := 0) rfl (by show 0 < 1; decide) (by decide)
    have hm : 340 * nrec R j ≤ 1020 := Nat.le_trans (Nat.mul_le_mul_left 340 hn) (by decide)
    have hs' : B + 340 + 340 * nrec R j ≤ B + 1360 := by
      rw [Nat.add_assoc]
      exact Nat.add_le_add_left (Nat.add_le_add_left hm 340) B
    have hB2 : B + 340 + 340 * nrec R j ≤ 2000000 := Nat.le_trans hs' (Nat.le_trans (Nat.add_le_add_left (by decide) B) hB)
    obtain ⟨S5, V5, l5', l6', e5, X5, k5, F5⟩ := mread_loop (d := d) (b := b) (ch := ch) (fi := 0) (ty := -1) (ct := 0) (mx := 0) (se := se) (am := am) (rnd := rnd) (day := day) (n := nrec R j) hj hz hz2 lF hR hn (nrec R j) 0 (cph C (c11 C j) ph) J1 t1 0 (B + 340) S3 V3 l6 (by omega) H1 k6 X3' K3 a3 (fun r hr => by omega) a1 a2 hB2
    have k06 := (rdz_0 (F := F) (R := R) (j := j) (z := z) (nrec R j) 0 (cph C (c11 C j) ph) J1 t1 0).2
    obtain ⟨p1, p2, p3, p4⟩ := rdz_ok (F := F) (R := R) hj hz (nrec R j) 0 (cph C (c11 C j) ph) J1 t1 0 (B + 340) H1 a1 a3 a2 hB2
    rw [nI_0] at e5
    have p3 := Nat.le_trans p3 hs'
    generalize rdz F R j z (nrec R j) 0 (cph C (c11 C j) ph) J1 t1 0 = r at e5 X5 k5 k06 p1 p2 p3 p4
    obtain ⟨rok, rC, rJ, rt, rre⟩ := r
    dsimp only at e5 X5 k5 k06 p1 p2 p3 p4 ⊢
    have mid : ∀ {t' : Option (Option Value × am_H)}, rn (d + 5) 101 176 [some (.ref 93), some (.int am), some (.int rnd), some (.int day), some (.int (nI (nrec R j))), some (.int 0), l6] [] (hs S3 V3) = t' → rn (d + 5) 101 160 [some (.ref 93), some (.int am), some (.int rnd), some (.int day), l4, l5, l6] [.int (b2i true)] (hs S3 V3) = t' := by
      intro t' ht'
      rw [← ht']
      simp only [x_Mod_goes_160, x_Mod_goes_165, x_Mod_goes_166, x_Mod_goes_169, x_Mod_goes_170, x_Mod_goes_171, x_Mod_goes_173, x_Mod_goes_174, show b2i true = 1 from rfl, (by decide : ¬ (1 : Int32) = 0), if_false, g_93_38, ld, ac_0, ac_i, ac_r, ac_ii, ac_ir, ac_ri, ac_rr, ac_iii, ac_iir, ac_iri, ac_irr, ac_rii, ac_rir, ac_rri, ac_rrr, Option.bind_some, Option.toList_some, Option.toList_none, List.nil_append, List.cons_append, not_false_eq_true]
    cases rok with
    | false =>
      simp only [Bool.false_eq_true, if_false] at e5 ⊢
      exact ⟨S5, V5, pre (mid e5), X5, G3.trans F5⟩
    | true =>
      simp only [if_true] at e5 ⊢
      obtain ⟨K5, D5⟩ := k5 rfl
      obtain ⟨S7, V7, e7, X7, F7⟩ := mrest (d := d) (am := am) (rnd := rnd) (day := day) (l5 := l5') (l6 := l6') (B := B + 1360) hj hz hz2 lF hO hT2 p1 (k06.trans k6) X5 K5 p4 hn D5 (g := (tka (fun i => R (3 * j + i)) (nrec R j) 0 true it0).1) (it := (tka (fun i => R (3 * j + i)) (nrec R j) 0 true it0).2) rfl p2 p3 hB
      exact ⟨S7, V7, pre (mid (e5.trans e7)), X7, (G3.trans F5).trans F7⟩
theorem mrdy {x y : Int32} {l1 l2 l3 : Option Value} {c : Nat} (hc : c < 4) (h0 : (V 94)[c]? = some x) (h1 : (V 95)[c]? = some y) (l : (V 96).length = 4) (hx : B01 x) (hy : B01 y) (hxy : y = 1 → x = 1) : rn d 100 53 [some (.ref 93), l1, l2, l3, some (.int (nI c))] [] (hs S V) = rn d 100 53 [some (.ref 93), l1, l2, l3, some (.int (nI (c + 1)))] [] (hs S (sV V 96 c y)) := by
  have c4 : nI c < 4 := nI_lt (b := 4) hc (by decide)
  have d0 : am_ld (hs S V) 94 1 (nI c) = some x := by rw [ldN rfl (by omega), h0]
  have d1 : am_ld (hs S V) 95 1 (nI c) = some y := by rw [ldN rfl (by omega), h1]
  have sv : ∀ v, am_sv (hs S V) 96 1 (nI c) v = some (hs S (sV V 96 c v)) := fun v => svN rfl (by omega) (by omega)
  rw [x_Mod_run_53]
  rcases hx with rfl | rfl
  · rcases hy with rfl | rfl
    · simp only [x_Mod_run_55, x_Mod_run_56, x_Mod_run_59, x_Mod_run_60, x_Mod_run_63, x_Mod_run_65, x_Mod_run_66, x_Mod_run_69, x_Mod_run_71, x_Mod_run_72, x_Mod_run_75, x_Mod_run_76, x_Mod_run_79, x_Mod_run_81, x_Mod_run_82, x_Mod_run_85, x_Mod_run_86, x_Mod_run_89, x_Mod_run_90, x_Mod_run_91, x_Mod_run_94, c4, if_true, g_93_0, g_93_2, d0, sv, bn_0, nI_1, ac_0, ac_i, ac_r, ac_ii, ac_ir, ac_ri, ac_rr, ac_iii, ac_iir, ac_iri, ac_irr, ac_rii, ac_rir, ac_rri, ac_rrr, Option.bind_some, Option.toList_some, Option.toList_none, List.nil_append, List.cons_append, not_false_eq_true]
    · exact absurd (hxy rfl) (by decide)
  · rcases hy with rfl | rfl
    · simp only [x_Mod_run_55, x_Mod_run_56, x_Mod_run_59, x_Mod_run_60, x_Mod_run_63, x_Mod_run_65, x_Mod_run_66, x_Mod_run_69, x_Mod_run_71, x_Mod_run_72, x_Mod_run_75, x_Mod_run_76, x_Mod_run_79, x_Mod_run_81, x_Mod_run_82, x_Mod_run_85, x_Mod_run_86, x_Mod_run_89, x_Mod_run_90, x_Mod_run_91, x_Mod_run_94, c4, if_true, if_false, (by decide : ¬ (1 : Int32) = 0), g_93_0, g_93_1, g_93_2, d0, d1, sv, bn_0, nI_1, ac_0, ac_i, ac_r, ac_ii, ac_ir, ac_ri, ac_rr, ac_iii, ac_iir, ac_iri, ac_irr, ac_rii, ac_rir, ac_rri, ac_rrr, Option.bind_some, Option.toList_some, Option.toList_none, List.nil_append, List.cons_append, not_false_eq_true]
    · simp only [x_Mod_run_55, x_Mod_run_56, x_Mod_run_59, x_Mod_run_60, x_Mod_run_63, x_Mod_run_65, x_Mod_run_66, x_Mod_run_69, x_Mod_run_71, x_Mod_run_72, x_Mod_run_75, x_Mod_run_76, x_Mod_run_79, x_Mod_run_81, x_Mod_run_82, x_Mod_run_85, x_Mod_run_86, x_Mod_run_89, x_Mod_run_90, x_Mod_run_91, x_Mod_run_94, c4, if_true, if_false, (by decide : ¬ (1 : Int32) = 0), g_93_0, g_93_1, g_93_2, d0, d1, sv, bn_1, nI_1, ac_0, ac_i, ac_r, ac_ii, ac_ir, ac_ri, ac_rr, ac_iii, ac_iir, ac_iri, ac_irr, ac_rii, ac_rir, ac_rri, ac_rrr, Option.bind_some, Option.toList_some, Option.toList_none, List.nil_append, List.cons_append, not_false_eq_true]
theorem ev_mrun {am rnd day : Int32} (X : MX S V C R F J T P) (HB : ∀ j, j < 4 → BC (C j)) (hO : ∀ i, i < 12 → Oc (R i)) (lF : F.length = 128) (hT2 : oct (T 2)) (hT5 : oct (T 5)) (L : JL (J0 J)) : ∃ S' V', ev (d + 6) 100 [.ref 93, .int am, .int rnd, .int day] (hs S V) = some (some (.int (runz F R T am rnd day C J).1), hs S' V') ∧ MX S' V' (runz F R T am rnd day C J).2.1 R F (runz F R T am rnd day C J).2.2.1 T (mkP (runz F R T am rnd day C J).1 (runz F R T am rnd day C J).2.2.2.1 (runz F R T am rnd day C J).2.2.2.2.1 (runz F R T am rnd day C J).2.2.2.2.2.1 (runz F R T am rnd day C J).2.2.2.2.2.2.1 (runz F R T am rnd day C J).2.2.2.2.2.2.2.1 (runz F R T am rnd day C J).2.2.2.2.2.2.2.2.1 (runz F R T am rnd day C J).2.2.2.2.2.2.2.2.2) ∧ Fm kmS kmV S V S' V' := by
  have hR := fun i hi => (hO i hi).1
  have hV : mV V (J0 J) = V := by
    unfold mV
    rw [uV_same (V := V) (show (J0 J).1 = V 109 from X.2.2.2.1.1.symm), uV_same (V := V) (show (J0 J).2.1 = V 110 from X.2.2.2.1.2.1.symm), uV_same (V := V) (show (J0 J).2.2.1 = V 111 from X.2.2.2.1.2.2.1.symm)]
  have X1 := (((((X.setP (k := 1) (v := -1) (by decide)).setP (k := 2) (v := 0) (by decide)).setP (k := 3) (v := -1) (by decide)).setP (k := 4) (v := 0) (by decide)).setP (k := 5) (v := 0) (by decide)).setJ (s := 0) L
  rw [hV] at X1
  have X1' := ((X1.setP (k := 6) (v := 0) (by decide)).setP (k := 7) (v := 0) (by decide)).congP (P' := mkP (P 0) (-1) 0 (-1) 0 0 0 0) (k8 rfl rfl rfl rfl rfl rfl rfl rfl)
  have X2 : MX (uS (uS (uS (uS (uS (uS (uS (uS (uS (uS S 93 25 (-1)) 93 26 0) 93 27 (-1)) 93 28 0) 93 29 0) 93 30 0) 93 31 0) 93 32 0) 93 33 0) 93 34 0) V C R F (J0 J) T (mkP (P 0) (-1) 0 (-1) 0 0 0 0) := X1'
  have h32 : uS (uS (uS (uS (uS (uS (uS (uS (uS (uS S 93 25 (-1)) 93 26 0) 93 27 (-1)) 93 28 0) 93 29 0) 93 30 0) 93 31 0) 93 32 0) 93 33 0) 93 34 0 93 32 = 0 := by
    rw [uS_ne (by decide), uS_ne (by decide), uS_self]
  have F2 : Fm kmS kmV S V (uS (uS (uS (uS (uS (uS (uS (uS (uS (uS S 93 25 (-1)) 93 26 0) 93 27 (-1)) 93 28 0) 93 29 0) 93 30 0) 93 31 0) 93 32 0) 93 33 0) 93 34 0) V := ((((((((((Fm.refl S V).us (by unfold kmS; omega)).us (by unfold kmS; omega)).us (by unfold kmS; omega)).us (by unfold kmS; omega)).us (by unfold kmS; omega)).us (by unfold kmS; omega)).us (by unfold kmS; omega)).us (by unfold kmS; omega)).us (by unfold kmS; omega)).us (by unfold kmS; omega)
  have e2 : ev (d + 6) 100 [.ref 93, .int am, .int rnd, .int day] (hs S V) = rn (d + 6) 100 53 [some (.ref 93), some (.int am), some (.int rnd), some (.int day), some (.int (nI 0))] [] (hs (uS (uS (uS (uS (uS (uS (uS (uS (uS (uS S 93 25 (-1)) 93 26 0) 93 27 (-1)) 93 28 0) 93 29 0) 93 30 0) 93 31 0) 93 32 0) 93 33 0) 93 34 0) V) := by
    simp only [e_Mod_run, x_Mod_run_0, x_Mod_run_1, x_Mod_run_2, x_Mod_run_5, x_Mod_run_6, x_Mod_run_7, x_Mod_run_10, x_Mod_run_11, x_Mod_run_12, x_Mod_run_15, x_Mod_run_16, x_Mod_run_17, x_Mod_run_20, x_Mod_run_21, x_Mod_run_22, x_Mod_run_25, x_Mod_run_26, x_Mod_run_27, x_Mod_run_30, x_Mod_run_31, x_Mod_run_32, x_Mod_run_35, x_Mod_run_36, x_Mod_run_37, x_Mod_run_40, x_Mod_run_41, x_Mod_run_42, x_Mod_run_45, x_Mod_run_46, x_Mod_run_47, x_Mod_run_50, x_Mod_run_51, p_93_25, p_93_26, p_93_27, p_93_28, p_93_29, p_93_30, p_93_31, p_93_32, p_93_33, p_93_34, nI_0, ac_0, ac_i, ac_r, ac_ii, ac_ir, ac_ri, ac_rr, ac_iii, ac_iir, ac_iri, ac_irr, ac_rii, ac_rir, ac_rri, ac_rrr, Option.bind_some, Option.toList_some, Option.toList_none, List.nil_append, List.cons_append, not_false_eq_true]
  generalize uS (uS (uS (uS (uS (uS (uS (uS (uS (uS S 93 25 (-1)) 93 26 0) 93 27 (-1)) 93 28 0) 93 29 0) 93 30 0) 93 31 0) 93 32 0) 93 33 0) 93 34 0 = S2 at X2 h32 F2 e2
  clear X1 X1'
  have one : ∀ (c : Nat) (C' : st_S) (V' : st_V), c < 4 → MX S2 V' C' R F (J0 J) T (mkP (P 0) (-1) 0 (-1) 0 0 0 0) → C' c 0 = C c 0 → C' c 1 = C c 1 → rn (d + 6) 100 53 [some (.ref 93), some (.int am), some (.int rnd), some (.int day), some (.int (nI c))] [] (hs S2 V') = rn (d + 6) 100 53 [some (.ref 93), some (.int am), some (.int rnd), some (.int day), some (.int (nI (c + 1)))] [] (hs S2 (sV V' 96 c (C c 1))) ∧ MX S2 (sV V' 96 c (C c 1)) (uS C' c 2 (C c 1)) R F (J0 J) T (mkP (P 0) (-1) 0 (-1) 0 0 0 0) := by
    intro c C' V' hc X' h0 h1
    obtain ⟨b0, b1, _, b3, _⟩ := HB c hc
    refine ⟨?_, X'.setC (k := 2) hc (by decide)⟩
    have y0 : (V' 94)[c]? = some (C c 0) := by rw [← h0]; exact X'.1 c hc 0 (by decide)
    have y1 : (V' 95)[c]? = some (C c 1) := by rw [← h1]; exact X'.1 c hc 1 (by decide)
    exact mrdy hc y0 y1 (X'.len (by decide)) b0 b1 b3
  obtain ⟨r0, Y0⟩ := one 0 C V (by decide) X2 rfl rfl
  obtain ⟨r1, Y1⟩ := one 1 _ _ (by decide) Y0 (uS_ne (by decide)) (uS_ne (by decide))
  obtain ⟨r2, Y2⟩ := one 2 _ _ (by decide) Y1 ((uS_ne (by decide)).trans (uS_ne (by decide))) ((uS_ne (by decide)).trans (uS_ne (by decide)))
  obtain ⟨r3, Y3⟩ := one 3 _ _ (by decide) Y2 ((uS_ne (by decide)).trans ((uS_ne (by decide)).trans (uS_ne (by decide)))) ((uS_ne (by decide)).trans ((uS_ne (by decide)).trans (uS_ne (by decide))))
  have X3 : MX S2 (sV (sV (sV (sV V 96 0 (C 0 1)) 96 1 (C 1 1)) 96 2 (C 2 1)) 96 3 (C 3 1)) (rdy C) R F (J0 J) T (mkP (P 0) (-1) 0 (-1) 0 0 0 0) := Y3
  have F3 : Fm kmS kmV S V S2 (sV (sV (sV (sV V 96 0 (C 0 1)) 96 1 (C 1 1)) 96 2 (C 2 1)) 96 3 (C 3 1)) := (((F2.sv (by unfold kmV; omega)).sv (by unfold kmV; omega)).sv (by unfold kmV; omega)).sv (by unfold kmV; omega)
  have e3 := ((e2.trans r0).trans r1).trans (r2.trans r3)
  clear e2 r0 r1 r2 r3 one Y0 Y1 Y2 Y3 X2 F2
  generalize sV (sV (sV (sV V 96 0 (C 0 1)) 96 1 (C 1 1)) 96 2 (C 2 1)) 96 3 (C 3 1) = V2 at X3 F3 e3
  have H2 : CI (rdy C) := rdy_CI HB
  have ew := ev_mwake (d := d + 3) (rd := fun j => rdy C j 2) (fun j hj => X3.1 j hj 2 (by decide)) X3.2.2.1 lF (X3.JM (s := 0) h32) L (by show 0 + 3 ≤ 2000000; decide)
  obtain ⟨LC, JC⟩ := clt_L (F := F) (p := decide (¬ anyR (fun j => rdy C j 2) = 0)) (k := 1) (x := 0) 3 (J0 J) false L (by show 0 + 3 ≤ 2000000; decide)
  have pre : ∀ {r : Int32} {S4 : st_S} {V4 : st_V}, ev (d + 5) 101 [.ref 93, .int am, .int rnd, .int day] (hs S2 V2) = some (some (.int r), hs S4 V4) → ev (d + 6) 100 [.ref 93, .int am, .int rnd, .int day] (hs S V) = some (some (.int r), hs (uS S4 93 24 r) V4) := by
    intro r S4 V4 he
    rw [e3, x_Mod_run_53]
    have v24 : uS S4 93 24 r 93 24 = r := uS_self _ _ _ _
    simp only [x_Mod_run_55, x_Mod_run_56, x_Mod_run_97, x_Mod_run_98, x_Mod_run_99, x_Mod_run_100, x_Mod_run_101, x_Mod_run_102, x_Mod_run_105, x_Mod_run_108, x_Mod_run_109, x_Mod_run_112, (by decide : ¬ nI (3 + 1) < 4), if_false, i_93, he, p_93_24, g_93_24, v24, ac_0, ac_i, ac_r, ac_ii, ac_ir, ac_ri, ac_rr, ac_iii, ac_iir, ac_iri, ac_irr, ac_rii, ac_rir, ac_rri, ac_rrr, Option.bind_some, Option.toList_some, Option.toList_none, List.nil_append, List.cons_append, not_false_eq_true]
  unfold runz
  generalize clt F (decide (¬ anyR (fun j => rdy C j 2) = 0)) 1 0 3 (J0 J) false = cl at ew LC JC
  obtain ⟨an, hd, J1⟩ := cl
  dsimp only at ew LC JC ⊢
  have JC : jn J1 ≤ 3 := by have : jn (J0 J) = 0 := rfl; rw [this] at JC; exact JC
  have X4 := X3.setJ (s := if an = true then 0 else 3) LC
  have F4 : Fm kmS kmV S V (mS S2 J1 (if an = true then 0 else 3)) (mV V2 J1) := X3.km F3 LC
  have h32' := (jm_set S2 V2 J1 (if an = true then 0 else 3)).2.2.2.2.2
  generalize mS S2 J1 (if an = true then 0 else 3) = S3 at ew X4 F4 h32'
  generalize mV V2 J1 = V3 at ew X4 F4
  cases an with
  | false =>
    simp only [Bool.false_eq_true, if_false]
    refine ⟨uS S3 93 24 3, V3, pre ?_, (X4.setP (k := 0) (v := 3) (by decide)).congP mkP_0, F4.us (by unfold kmS; omega)⟩
    simp only [e_Mod_goes, x_Mod_goes_0, x_Mod_goes_1, x_Mod_goes_4, x_Mod_goes_7, x_Mod_goes_8, i_93, ew, show b2i false = 0 from rfl, if_true, ac_0, ac_i, ac_r, ac_ii, ac_ir, ac_ri, ac_rr, ac_iii, ac_iir, ac_iri, ac_irr, ac_rii, ac_rir, ac_rri, ac_rrr, Option.bind_some, Option.toList_some, Option.toList_none, List.nil_append, List.cons_append, not_false_eq_true]
  | true =>
    simp only [if_true] at h32' ⊢
    have h5 : jn J1 + 400 * 5 ≤ 2000000 := Nat.le_trans (Nat.add_le_add_right JC (400 * 5)) (by decide)
    have ok := chz_ok (F := F) (a5 := T 5) 5 (rdy C) J1 0 (Nat.lt_succ_of_le (rc_le _)) H2 LC h5
    have okJ : ∀ {x : Nat}, x ≤ jn J1 + 400 * 5 → x ≤ 2003 := fun h => Nat.le_trans h (Nat.add_le_add_right JC (400 * 5))
    obtain ⟨S4, V4, l4', e4, X5, K5, F5⟩ := mchoose_loop (d := d) (R := R) (b := P 0) (fi := 0) (ty := -1) (ct := 0) (mx := 0) (re := 0) (am := am) (rnd := rnd) (day := day) (l5 := none) (l6 := none) lF hR hT5 5 (rdy C) J1 0 S3 V3 none (Nat.lt_succ_of_le (rc_le _)) H2 X4 h32' LC h5
    have G5 := F4.trans F5
    have pre2 : ∀ {t' : Option (Option Value × am_H)}, rn (d + 5) 101 9 [some (.ref 93), some (.int am), some (.int rnd), some (.int day), none, none, none] [] (hs S3 V3) = t' → ev (d + 5) 101 [.ref 93, .int am, .int rnd, .int day] (hs S2 V2) = t' := by
      intro t' ht'
      rw [← ht']
      simp only [e_Mod_goes, x_Mod_goes_0, x_Mod_goes_1, x_Mod_goes_4, i_93, ew, show b2i true = 1 from rfl, (by decide : ¬ (1 : Int32) = 0), if_false, ac_0, ac_i, ac_r, ac_ii, ac_ir, ac_ri, ac_rr, ac_iii, ac_iir, ac_iri, ac_irr, ac_rii, ac_rir, ac_rri, ac_rrr, Option.bind_some, Option.toList_some, Option.toList_none, List.nil_append, List.cons_append, not_false_eq_true]
    generalize chz F (T 5) 5 (rdy C) J1 0 = z at e4 X5 K5 ok
    obtain ⟨zc, zC, zJ, zse, zj, zt⟩ := z
    obtain ⟨o1, o2, o3, o4, o5⟩ := ok
    dsimp only at e4 X5 K5 o1 o2 o3 o4 o5
    have o3 := okJ o3
    unfold runz2
    dsimp only
    by_cases hc : zc = 0
    · subst hc
      simp only [if_true] at X5 e4 ⊢
      obtain ⟨hj, ht, h01⟩ := o4 rfl
      obtain ⟨z6, z3, z16⟩ := o1.size hj h01
      obtain ⟨S6, V6, e6, X6, F6⟩ := mgo (d := d) (am := am) (rnd := rnd) (day := day) (l4 := l4') (l5 := none) (l6 := none) hj z3 z16 lF hO hT2 o1 z6 X5 (K5 rfl) ht o2 o3 (by decide)
      exact ⟨_, V6, pre (pre2 (e4.trans e6)), (X6.setP (k := 0) (by decide)).congP mkP_0, (G5.trans F6).us (by unfold kmS; omega)⟩
    · simp only [if_neg hc] at X5 e4 ⊢
      exact ⟨_, V4, pre (pre2 e4), (X5.setP (k := 0) (by decide)).congP mkP_0, G5.us (by unfold kmS; omega)⟩
end MRUN
