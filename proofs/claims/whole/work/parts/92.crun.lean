/-! a run: what both sides do; the class -/
def rdy (C : st_S) : st_S := uS (uS (uS (uS C 0 2 (C 0 1)) 1 2 (C 1 1)) 2 2 (C 2 1)) 3 2 (C 3 1)
def J0 (J : st_J) : st_J := (J.1, J.2.1, J.2.2.1, 0, 0)
abbrev rz_T : Type := Int32 × st_S × st_J × Int32 × Int32 × Int32 × Int32 × Int32 × Int32 × Int32
def runz2 (F : List Int32) (R : st_V) (T : Nat → Int32) (am rnd day : Int32) (z : ch_T) : rz_T :=
  if z.1 = 0 then ((rst F R T z.2.2.2.2.1 (sz z.2.1 z.2.2.2.2.1) am rnd day z.2.1 z.2.2.1 z.2.2.2.2.2).1, (rst F R T z.2.2.2.2.1 (sz z.2.1 z.2.2.2.2.1) am rnd day z.2.1 z.2.2.1 z.2.2.2.2.2).2.1, (rst F R T z.2.2.2.2.1 (sz z.2.1 z.2.2.2.2.1) am rnd day z.2.1 z.2.2.1 z.2.2.2.2.2).2.2.1, nI z.2.2.2.2.1, (rst F R T z.2.2.2.2.1 (sz z.2.1 z.2.2.2.2.1) am rnd day z.2.1 z.2.2.1 z.2.2.2.2.2).2.2.2.1, (rst F R T z.2.2.2.2.1 (sz z.2.1 z.2.2.2.2.1) am rnd day z.2.1 z.2.2.1 z.2.2.2.2.2).2.2.2.2.1, (rst F R T z.2.2.2.2.1 (sz z.2.1 z.2.2.2.2.1) am rnd day z.2.1 z.2.2.1 z.2.2.2.2.2).2.2.2.2.2.1, (rst F R T z.2.2.2.2.1 (sz z.2.1 z.2.2.2.2.1) am rnd day z.2.1 z.2.2.1 z.2.2.2.2.2).2.2.2.2.2.2.1, z.2.2.2.1, (rst F R T z.2.2.2.2.1 (sz z.2.1 z.2.2.2.2.1) am rnd day z.2.1 z.2.2.1 z.2.2.2.2.2).2.2.2.2.2.2.2)
  else (nI z.1, z.2.1, z.2.2.1, -1, 0, -1, 0, 0, z.2.2.2.1, 0)
/-- ending, cards, exchanges, chosen, findings, type, counter, mixture, selected, records -/
def runz (F : List Int32) (R : st_V) (T : Nat → Int32) (am rnd day : Int32) (C : st_S) (J : st_J) : rz_T :=
  if (clt F (decide (¬ anyR (fun j => rdy C j 2) = 0)) 1 0 3 (J0 J) false).1 = true then runz2 F R T am rnd day (chz F (T 5) 5 (rdy C) (clt F (decide (¬ anyR (fun j => rdy C j 2) = 0)) 1 0 3 (J0 J) false).2.2 0)
  else (3, rdy C, (clt F (decide (¬ anyR (fun j => rdy C j 2) = 0)) 1 0 3 (J0 J) false).2.2, -1, 0, -1, 0, 0, 0, 0)
theorem gN_any {rd ad : Nat → Int32} {A : Nat → Nat} (R : RA rd ad A) (B : ∀ j, j < 4 → B01 (rd j)) : (gN rd A 0 0 4 0 none 0).1.isSome = decide (¬ anyR rd = 0) := by
  have s : ∀ m c w D, c < 4 → gN rd A 0 0 (m + 1) c w D = if rd c = 0 then gN rd A 0 0 m (c + 1) w D else gN rd A 0 0 m (c + 1) (some (w.getD c)) (D ||| (A c ^^^ A (w.getD c))) := by
    intro m c w D hc
    rw [gN_s]
    by_cases h : rd c = 0
    · rw [if_neg (fun z => z.1 h), if_pos h]
    · rw [if_pos ⟨h, Nat.div_eq_of_lt (R c hc h).1⟩, if_neg h]
  rw [s 3 0 none 0 (by decide)]
  unfold anyR
  have fin : ∀ w D, gN rd A 0 0 0 4 w D = (w, D) := fun _ _ => rfl
  rcases B 0 (by decide) with h0 | h0 <;> rcases B 1 (by decide) with h1 | h1 <;> rcases B 2 (by decide) with h2 | h2 <;> rcases B 3 (by decide) with h3 | h3 <;> simp only [s 2 1 _ _ (by decide), s 1 2 _ _ (by decide), s 0 3 _ _ (by decide), fin, h0, h1, h2, h3, if_true, if_false, (by decide : ¬ (1 : Int32) = 0)] <;> decide
theorem JL_0 {J : st_J} (L : JL J) : JL (J0 J) := ⟨L.1, L.2.1, L.2.2.1, by show 0 ≤ 2000000; decide, Nat.le_refl 0⟩
theorem rdy_k {C : st_S} {i k : Nat} (h : ¬ k = 2) : rdy C i k = C i k := by
  unfold rdy
  rw [uS_ne (by omega), uS_ne (by omega), uS_ne (by omega), uS_ne (by omega)]
theorem rdy_2 {C : st_S} {i : Nat} (h : i < 4) : rdy C i 2 = C i 1 := by
  unfold rdy
  rcases j4 h with rfl | rfl | rfl | rfl
  · rw [uS_ne (by decide), uS_ne (by decide), uS_ne (by decide), uS_self]
  · rw [uS_ne (by decide), uS_ne (by decide), uS_self]
  · rw [uS_ne (by decide), uS_self]
  · rw [uS_self]
theorem rdy_CI {C : st_S} (H : ∀ j, j < 4 → BC (C j)) : CI (rdy C) := by
  intro i hi
  have B := H i hi
  refine ⟨B.cong (rdy_k (by decide)) (rdy_k (by decide)) ?_ (rdy_k (by decide)) (rdy_k (by decide)) (rdy_k (by decide)) (by rw [rdy_k (by decide)]; exact B.2.2.2.2.2), ?_⟩
  · rw [rdy_2 hi]; exact B.2.1
  · rw [rdy_2 hi, rdy_k (by decide)]
    intro h
    rcases B.2.1 with h1 | h1
    · exact absurd h1 h
    · exact B.2.2.2.1 h1
section CRUN
variable {d : Nat} {S S' : st_S} {V V' : st_V} {C : st_S} {R : st_V} {F : List Int32} {J : st_J} {T P : Nat → Int32}
theorem ev_rclear : ev d 53 [.ref 88] (hs S V) = some (none, hs (uS (uS (uS (uS (uS (uS (uS (uS S 88 0 (-1)) 88 1 (-1)) 88 2 0) 88 3 (-1)) 88 4 0) 88 5 0) 88 6 0) 88 7 0) V) := by
  simp only [e_Report_clear, x_Report_clear_0, x_Report_clear_1, x_Report_clear_2, x_Report_clear_5, x_Report_clear_6, x_Report_clear_7, x_Report_clear_10, x_Report_clear_11, x_Report_clear_12, x_Report_clear_15, x_Report_clear_16, x_Report_clear_17, x_Report_clear_20, x_Report_clear_21, x_Report_clear_22, x_Report_clear_25, x_Report_clear_26, x_Report_clear_27, x_Report_clear_30, x_Report_clear_31, x_Report_clear_32, x_Report_clear_35, x_Report_clear_36, x_Report_clear_37, x_Report_clear_40, p_88_0, p_88_1, p_88_2, p_88_3, p_88_4, p_88_5, p_88_6, p_88_7, ac_0, ac_i, ac_r, ac_ii, ac_ir, ac_ri, ac_rr, ac_iii, ac_iir, ac_iri, ac_irr, ac_rii, ac_rir, ac_rri, ac_rrr, Option.bind_some, Option.toList_some, Option.toList_none, List.nil_append, List.cons_append, not_false_eq_true]
theorem CX.rclear (X : CX S V C R F J T P) : CX (uS (uS (uS (uS (uS (uS (uS (uS S 88 0 (-1)) 88 1 (-1)) 88 2 0) 88 3 (-1)) 88 4 0) 88 5 0) 88 6 0) 88 7 0) V C R F J T (mkP (-1) (-1) 0 (-1) 0 0 0 0) := by
  refine ((((((((X.setP (k := 0) (v := -1)).setP (k := 1) (v := -1)).setP (k := 2) (v := 0)).setP (k := 3) (v := -1)).setP (k := 4) (v := 0)).setP (k := 5) (v := 0)).setP (k := 6) (v := 0)).setP (k := 7) (v := 0)).congP (k8 rfl rfl rfl rfl rfl rfl rfl rfl)
theorem ev_begin (X : CX S V C R F J T P) (H : ∀ j, j < 4 → BC (C j)) (L : JL (J0 J)) : ∃ S', ev (d + 1) 28 [.ref 1] (hs S V) = some (none, hs S' V) ∧ CX S' V (rdy C) R F (J0 J) T P ∧ Fm klS klV S V S' V := by
  have X1 := X.setJ L
  have hV : jV V (J0 J) = V := by
    unfold jV
    rw [uV_same (V := V) (show (J0 J).1 = V 65 from X.2.2.2.1.1.symm), uV_same (V := V) (show (J0 J).2.1 = V 66 from X.2.2.2.1.2.1.symm), uV_same (V := V) (show (J0 J).2.2.1 = V 67 from X.2.2.2.1.2.2.1.symm)]
  rw [hV] at X1
  have hS : jS S (J0 J) = uS (uS S 63 4 0) 63 5 0 := rfl
  rw [hS] at X1
  have F1 : Fm klS klV S V (uS (uS S 63 4 0) 63 5 0) V := ((Fm.refl _ _).us (by unfold klS; omega)).us (by unfold klS; omega)
  have ej : ev d 23 [.ref 63] (hs S V) = some (none, hs (uS (uS S 63 4 0) 63 5 0) V) := by
    simp only [e_Journal_clear, x_Journal_clear_0, x_Journal_clear_1, x_Journal_clear_2, x_Journal_clear_5, x_Journal_clear_6, x_Journal_clear_7, x_Journal_clear_10, p_63_4, p_63_5, ac_0, ac_i, ac_r, ac_ii, ac_ir, ac_ri, ac_rr, ac_iii, ac_iir, ac_iri, ac_irr, ac_rii, ac_rir, ac_rri, ac_rrr, Option.bind_some, Option.toList_some, Option.toList_none, List.nil_append, List.cons_append, not_false_eq_true]
  generalize uS (uS S 63 4 0) 63 5 0 = S1 at X1 F1 ej
  have i0 : S1 (cb 0) 1 = C 0 1 := X1.1 0 (by decide) 1 (by decide)
  have i1 : S1 (cb 1) 1 = C 1 1 := X1.1 1 (by decide) 1 (by decide)
  have i2 : S1 (cb 2) 1 = C 2 1 := X1.1 2 (by decide) 1 (by decide)
  have i3 : S1 (cb 3) 1 = C 3 1 := X1.1 3 (by decide) 1 (by decide)
  have o0 := b01_ok (H 0 (by decide)).2.1
  have o1 := b01_ok (H 1 (by decide)).2.1
  have o2 := b01_ok (H 2 (by decide)).2.1
  have o3 := b01_ok (H 3 (by decide)).2.1
  have n0 := nb01 (H 0 (by decide)).2.1
  have n1 := nb01 (H 1 (by decide)).2.1
  have n2 := nb01 (H 2 (by decide)).2.1
  have n3 := nb01 (H 3 (by decide)).2.1
  have c0 : am_ldq (hs S1 V) 2 0 = some (.ref (cb 0)) := ld_cards (j := 0) (by decide)
  refine ⟨uS (uS (uS (uS S1 (cb 0) 2 (C 0 1)) (cb 1) 2 (C 1 1)) (cb 2) 2 (C 2 1)) (cb 3) 2 (C 3 1), ?_, ?_, (((F1.us (by unfold klS cb; omega)).us (by unfold klS cb; omega)).us (by unfold klS cb; omega)).us (by unfold klS cb; omega)⟩
  · have q0 : ∀ S : st_S, am_ldq (hs S V) 2 0 = some (.ref (cb 0)) := fun S => ld_cards (j := 0) (by decide)
    have q1 : ∀ S : st_S, am_ldq (hs S V) 2 1 = some (.ref (cb 1)) := fun S => ld_cards (j := 1) (by decide)
    have q2 : ∀ S : st_S, am_ldq (hs S V) 2 2 = some (.ref (cb 2)) := fun S => ld_cards (j := 2) (by decide)
    have q3 : ∀ S : st_S, am_ldq (hs S V) 2 3 = some (.ref (cb 3)) := fun S => ld_cards (j := 3) (by decide)
    have e1 : uS S1 (cb 0) 2 (C 0 1) (cb 1) 1 = C 1 1 := by rw [uS_ne (by decide)]; exact i1
    have e2 : uS (uS S1 (cb 0) 2 (C 0 1)) (cb 1) 2 (C 1 1) (cb 2) 1 = C 2 1 := by rw [uS_ne (by decide), uS_ne (by decide)]; exact i2
    have e3 : uS (uS (uS S1 (cb 0) 2 (C 0 1)) (cb 1) 2 (C 1 1)) (cb 2) 2 (C 2 1) (cb 3) 1 = C 3 1 := by rw [uS_ne (by decide), uS_ne (by decide), uS_ne (by decide)]; exact i3
    simp only [e_Air_begin, x_Air_begin_0, x_Air_begin_1, x_Air_begin_4, x_Air_begin_7, x_Air_begin_8, g_1_1, i_63, ej, ac_0, ac_i, ac_r, ac_ii, ac_ir, ac_ri, ac_rr, ac_iii, ac_iir, ac_iri, ac_irr, ac_rii, ac_rir, ac_rri, ac_rrr, Option.bind_some, Option.toList_some, Option.toList_none, List.nil_append, List.cons_append, not_false_eq_true]
    rw [x_Air_begin_9]
    simp only [x_Air_begin_10, x_Air_begin_11, x_Air_begin_14, x_Air_begin_15, x_Air_begin_18, x_Air_begin_19, x_Air_begin_20, x_Air_begin_21, x_Air_begin_24, x_Air_begin_25, x_Air_begin_26, x_Air_begin_29, x_Air_begin_32, x_Air_begin_35, (by decide : (0 : Int32) < 4), if_true, g_1_0, q0, cg_1 (crd (j := 0) (by decide)), i0, o0, n0, cp_2 (crd (j := 0) (by decide)), (by decide : (0 : Int32) + 1 = 1), ac_0, ac_i, ac_r, ac_ii, ac_ir, ac_ri, ac_rr, ac_iii, ac_iir, ac_iri, ac_irr, ac_rii, ac_rir, ac_rri, ac_rrr, Option.bind_some, Option.toList_some, Option.toList_none, List.nil_append, List.cons_append, not_false_eq_true]
    rw [x_Air_begin_9]
    simp only [x_Air_begin_10, x_Air_begin_11, x_Air_begin_14, x_Air_begin_15, x_Air_begin_18, x_Air_begin_19, x_Air_begin_20, x_Air_begin_21, x_Air_begin_24, x_Air_begin_25, x_Air_begin_26, x_Air_begin_29, x_Air_begin_32, x_Air_begin_35, (by decide : (1 : Int32) < 4), if_true, g_1_0, q1, cg_1 (crd (j := 1) (by decide)), e1, o1, n1, cp_2 (crd (j := 1) (by decide)), (by decide : (1 : Int32) + 1 = 2), ac_0, ac_i, ac_r, ac_ii, ac_ir, ac_ri, ac_rr, ac_iii, ac_iir, ac_iri, ac_irr, ac_rii, ac_rir, ac_rri, ac_rrr, Option.bind_some, Option.toList_some, Option.toList_none, List.nil_append, List.cons_append, not_false_eq_true]
    rw [x_Air_begin_9]
    simp only [x_Air_begin_10, x_Air_begin_11, x_Air_begin_14, x_Air_begin_15, x_Air_begin_18, x_Air_begin_19, x_Air_begin_20, x_Air_begin_21, x_Air_begin_24, x_Air_begin_25, x_Air_begin_26, x_Air_begin_29, x_Air_begin_32, x_Air_begin_35, (by decide : (2 : Int32) < 4), if_true, g_1_0, q2, cg_1 (crd (j := 2) (by decide)), e2, o2, n2, cp_2 (crd (j := 2) (by decide)), (by decide : (2 : Int32) + 1 = 3), ac_0, ac_i, ac_r, ac_ii, ac_ir, ac_ri, ac_rr, ac_iii, ac_iir, ac_iri, ac_irr, ac_rii, ac_rir, ac_rri, ac_rrr, Option.bind_some, Option.toList_some, Option.toList_none, List.nil_append, List.cons_append, not_false_eq_true]
    rw [x_Air_begin_9]
    simp only [x_Air_begin_10, x_Air_begin_11, x_Air_begin_14, x_Air_begin_15, x_Air_begin_18, x_Air_begin_19, x_Air_begin_20, x_Air_begin_21, x_Air_begin_24, x_Air_begin_25, x_Air_begin_26, x_Air_begin_29, x_Air_begin_32, x_Air_begin_35, (by decide : (3 : Int32) < 4), if_true, g_1_0, q3, cg_1 (crd (j := 3) (by decide)), e3, o3, n3, cp_2 (crd (j := 3) (by decide)), (by decide : (3 : Int32) + 1 = 4), ac_0, ac_i, ac_r, ac_ii, ac_ir, ac_ri, ac_rr, ac_iii, ac_iir, ac_iri, ac_irr, ac_rii, ac_rir, ac_rri, ac_rrr, Option.bind_some, Option.toList_some, Option.toList_none, List.nil_append, List.cons_append, not_false_eq_true]
    rw [x_Air_begin_9]
    simp only [x_Air_begin_10, x_Air_begin_11, x_Air_begin_38, (by decide : ¬ (4 : Int32) < 4), if_false]
  · exact (((X1.setC (j := 0) (k := 2) (v := C 0 1) (by decide) (by decide)).setC (j := 1) (k := 2) (v := C 1 1) (by decide) (by decide)).setC (j := 2) (k := 2) (v := C 2 1) (by decide) (by decide)).setC (j := 3) (k := 2) (v := C 3 1) (by decide) (by decide)
theorem ev_wake (X : CX S V C R F J T P) (H : CI C) (lF : F.length = 128) (L : JL J) (hJ : jn J + 3 ≤ 2000000) : ∃ S' V', ev (d + 3) 29 [.ref 1] (hs S V) = some (some (.int (b2i (clt F (decide (¬ anyR (fun j => C j 2) = 0)) 1 0 3 J false).1)), hs S' V') ∧ CX S' V' C R F (clt F (decide (¬ anyR (fun j => C j 2) = 0)) 1 0 3 J false).2.2 T P ∧ Fm klS klV S V S' V' := by
  have RAs : RA (fun j => S (cb j) 2) (fun j => S (cb j) 3) (adr C) := by
    intro i hi hri
    have hri : ¬ S (cb i) 2 = 0 := hri
    rw [X.1 i hi 2 (by decide)] at hri
    obtain ⟨u1, u2⟩ := H.ra i hi hri
    exact ⟨u1, (X.1 i hi 3 (by decide)).trans u2⟩
  obtain ⟨g1, g2⟩ := gth_gN (p := 0) (q := 0) (n := 0) RAs (by decide) (by decide) (by decide) 4 0 none 0 (by omega) (gI_0 _ _ _ _)
  have eg := ev_gather (d := d + 1) (S := S) (V := V) (p := nI 0) (n := nI 0)
  rw [← nI_0] at eg
  have any := gN_any RAs (fun j hj => by
    show B01 (S (cb j) 2)
    rw [X.1 j hj 2 (by decide)]; exact (H j hj).1.2.2.1)
  have anyE : anyR (fun j => S (cb j) 2) = anyR (fun j => C j 2) := by
    unfold anyR
    dsimp only
    rw [X.1 0 (by decide) 2 (by decide), X.1 1 (by decide) 2 (by decide), X.1 2 (by decide) 2 (by decide), X.1 3 (by decide) 2 (by decide)]
  rw [anyE] at any
  rw [nI_0] at g1 eg
  have eg' : ev (d + 2) 35 [.ref 1, .int 0, .int 0] (hs S V) = some (none, hs (gS S (gN (fun j => S (cb j) 2) (adr C) 0 0 4 0 none 0).1 (nI (gN (fun j => S (cb j) 2) (adr C) 0 0 4 0 none 0).2)) V) := by
    rw [eg, g1]
  generalize gN (fun j => S (cb j) 2) (adr C) 0 0 4 0 none 0 = g at eg' g2 any
  obtain ⟨w, D⟩ := g
  dsimp only at eg' g2 any
  have Xg : CX (gS S w (nI D)) V C R F J T P := X.fm (((Fm.refl _ _).us (by unfold prS; omega)).us (by unfold prS; omega))
  have Fg : Fm klS klV S V (gS S w (nI D)) V := ((Fm.refl _ _).us (by unfold klS; omega)).us (by unfold klS; omega)
  have ec := ev_callw (d := d) (S := S) (V := V) (w := w) (D := nI D) (k := 1) (x := 0) (by decide) (by decide) (fun j hj => (g2.2.2.2 j hj).1) X.2.2.1 lF L hJ
  rw [← gS_jS, jS_id X.JX, jV_id X.JX, any] at ec
  obtain ⟨LC, JC⟩ := clt_L (F := F) (p := decide (¬ anyR (fun j => C j 2) = 0)) (k := 1) (x := 0) 3 J false L hJ
  generalize clt F (decide (¬ anyR (fun j => C j 2) = 0)) 1 0 3 J false = cl at ec LC JC
  obtain ⟨an, hd, J1⟩ := cl
  dsimp only at ec LC JC ⊢
  refine ⟨_, _, ?_, Xg.setJ LC, Xg.kl Fg LC⟩
  simp only [e_Air_wake, x_Air_wake_0, x_Air_wake_1, x_Air_wake_2, x_Air_wake_3, x_Air_wake_6, x_Air_wake_7, x_Air_wake_8, x_Air_wake_9, x_Air_wake_12, i_1, eg', ec, nb01 (b2i_01 an), ac_0, ac_i, ac_r, ac_ii, ac_ir, ac_ri, ac_rr, ac_iii, ac_iir, ac_iri, ac_irr, ac_rii, ac_rir, ac_rri, ac_rrr, Option.bind_some, Option.toList_some, Option.toList_none, List.nil_append, List.cons_append, not_false_eq_true]
theorem ev_chooseCard {b fi ty ct mx re : Int32} (X : CX S V C R F J T (mkP b (-1) fi ty ct mx 0 re)) (H : CI C) (lF : F.length = 128) (L : JL J) (h0 : jn J = 0) : ∃ S' V', ev (d + 6) 67 [.ref 0] (hs S V) = some (some (.int (if (clt F (decide (¬ anyR (fun j => C j 2) = 0)) 1 0 3 J false).1 = true then cE (chz F (T 5) 5 C (clt F (decide (¬ anyR (fun j => C j 2) = 0)) 1 0 3 J false).2.2 0).1 else 3)), hs S' V') ∧ ((clt F (decide (¬ anyR (fun j => C j 2) = 0)) 1 0 3 J false).1 = true → CX S' V' (chz F (T 5) 5 C (clt F (decide (¬ anyR (fun j => C j 2) = 0)) 1 0 3 J false).2.2 0).2.1 R F (chz F (T 5) 5 C (clt F (decide (¬ anyR (fun j => C j 2) = 0)) 1 0 3 J false).2.2 0).2.2.1 T (mkP b (if (chz F (T 5) 5 C (clt F (decide (¬ anyR (fun j => C j 2) = 0)) 1 0 3 J false).2.2 0).1 = 0 then nI (chz F (T 5) 5 C (clt F (decide (¬ anyR (fun j => C j 2) = 0)) 1 0 3 J false).2.2 0).2.2.2.2.1 else -1) fi ty ct mx (chz F (T 5) 5 C (clt F (decide (¬ anyR (fun j => C j 2) = 0)) 1 0 3 J false).2.2 0).2.2.2.1 re) ∧ ((chz F (T 5) 5 C (clt F (decide (¬ anyR (fun j => C j 2) = 0)) 1 0 3 J false).2.2 0).1 = 0 → ChC S' V' (chz F (T 5) 5 C (clt F (decide (¬ anyR (fun j => C j 2) = 0)) 1 0 3 J false).2.2 0).2.2.2.2.1 (chz F (T 5) 5 C (clt F (decide (¬ anyR (fun j => C j 2) = 0)) 1 0 3 J false).2.2 0).2.2.2.2.2)) ∧ ((clt F (decide (¬ anyR (fun j => C j 2) = 0)) 1 0 3 J false).1 = false → CX S' V' C R F (clt F (decide (¬ anyR (fun j => C j 2) = 0)) 1 0 3 J false).2.2 T (mkP b (-1) fi ty ct mx 0 re)) ∧ Fm klS klV S V S' V' := by
  have hJ3 : jn J + 3 ≤ 2000000 := by rw [h0]; decide
  obtain ⟨S1, V1, e1, X1, F1⟩ := ev_wake (d := d + 2) X H lF L hJ3
  obtain ⟨LC, JC⟩ := clt_L (F := F) (p := decide (¬ anyR (fun j => C j 2) = 0)) (k := 1) (x := 0) 3 J false L hJ3
  generalize clt F (decide (¬ anyR (fun j => C j 2) = 0)) 1 0 3 J false = cl at e1 X1 LC JC
  obtain ⟨an, hd, J1⟩ := cl
  dsimp only at e1 X1 LC JC ⊢
  cases an with
  | false =>
    refine ⟨S1, V1, ?_, fun h => absurd h (by decide), fun _ => X1, F1⟩
    simp only [e_Tap_chooseCard, x_Tap_chooseCard_0, x_Tap_chooseCard_1, x_Tap_chooseCard_4, x_Tap_chooseCard_7, x_Tap_chooseCard_10, x_Tap_chooseCard_11, g_0_0, i_1, e1, show b2i false = 0 from rfl, if_true, Bool.false_eq_true, if_false, ac_0, ac_i, ac_r, ac_ii, ac_ir, ac_ri, ac_rr, ac_iii, ac_iir, ac_iri, ac_irr, ac_rii, ac_rir, ac_rri, ac_rrr, Option.bind_some, Option.toList_some, Option.toList_none, List.nil_append, List.cons_append, not_false_eq_true]
  | true =>
    have h5 : jn J1 + 400 * 5 ≤ 2000000 := by
      rw [h0] at JC
      exact Nat.le_trans (Nat.add_le_add_right JC (400 * 5)) (by decide)
    obtain ⟨S2, V2, e2, X2, k2, F2⟩ := choose_loop (d := d) (R := R) (b := b) (fi := fi) (ty := ty) (ct := ct) (mx := mx) (re := re) lF 5 0 C J1 0 S1 V1 none (by decide) (Nat.lt_succ_of_le (rc_le C)) H X1 LC h5
    refine ⟨S2, V2, ?_, fun _ => ⟨X2, k2⟩, fun h => absurd h (by decide), F1.trans F2⟩
    rw [nI_0] at e2
    simp only [if_true]
    rw [← e2]
    simp only [e_Tap_chooseCard, x_Tap_chooseCard_0, x_Tap_chooseCard_1, x_Tap_chooseCard_4, x_Tap_chooseCard_7, x_Tap_chooseCard_10, x_Tap_chooseCard_11, x_Tap_chooseCard_12, x_Tap_chooseCard_13, g_0_0, i_1, e1, show b2i true = 1 from rfl, (by decide : ¬ (1 : Int32) = 0), if_false, ac_0, ac_i, ac_r, ac_ii, ac_ir, ac_ri, ac_rr, ac_iii, ac_iir, ac_iri, ac_irr, ac_rii, ac_rir, ac_rri, ac_rrr, Option.bind_some, Option.toList_some, Option.toList_none, List.nil_append, List.cons_append, not_false_eq_true]
theorem ev_run {am rnd day : Int32} (X : CX S V C R F J T P) (HB : ∀ j, j < 4 → BC (C j)) (hO : ∀ i, i < 12 → Oc (R i)) (lF : F.length = 128) (L : JL (J0 J)) : ∃ S' V', ev (d + 9) 62 [.ref 0, .int am, .int rnd, .int day] (hs S V) = some (some (.int (runz F R T am rnd day C J).1), hs S' V') ∧ CX S' V' (runz F R T am rnd day C J).2.1 R F (runz F R T am rnd day C J).2.2.1 T (mkP (runz F R T am rnd day C J).1 (runz F R T am rnd day C J).2.2.2.1 (runz F R T am rnd day C J).2.2.2.2.1 (runz F R T am rnd day C J).2.2.2.2.2.1 (runz F R T am rnd day C J).2.2.2.2.2.2.1 (runz F R T am rnd day C J).2.2.2.2.2.2.2.1 (runz F R T am rnd day C J).2.2.2.2.2.2.2.2.1 (runz F R T am rnd day C J).2.2.2.2.2.2.2.2.2) ∧ Fm klS klV S V S' V' := by
  have e1 := ev_rclear (d := d + 8) (S := S) (V := V)
  have X1 := X.rclear
  have F1 : Fm klS klV S V (uS (uS (uS (uS (uS (uS (uS (uS S 88 0 (-1)) 88 1 (-1)) 88 2 0) 88 3 (-1)) 88 4 0) 88 5 0) 88 6 0) 88 7 0) V := ((((((((Fm.refl S V).us (by unfold klS; omega)).us (by unfold klS; omega)).us (by unfold klS; omega)).us (by unfold klS; omega)).us (by unfold klS; omega)).us (by unfold klS; omega)).us (by unfold klS; omega)).us (by unfold klS; omega)
  generalize uS (uS (uS (uS (uS (uS (uS (uS S 88 0 (-1)) 88 1 (-1)) 88 2 0) 88 3 (-1)) 88 4 0) 88 5 0) 88 6 0) 88 7 0 = S1 at e1 X1 F1
  obtain ⟨S2, e2, X2, F2⟩ := ev_begin (d := d + 7) X1 HB L
  have H2 : CI (rdy C) := rdy_CI HB
  have L2 := L
  obtain ⟨S3, V3, e3, k3, k3', F3⟩ := ev_chooseCard (d := d + 2) X2 H2 lF L2 rfl
  obtain ⟨LC, JC⟩ := clt_L (F := F) (p := decide (¬ anyR (fun j => rdy C j 2) = 0)) (k := 1) (x := 0) 3 (J0 J) false L2 (by show 0 + 3 ≤ 2000000; decide)
  have G3 := (F1.trans F2).trans F3
  have fin : ∀ (e : Int32) (S4 : st_S) (V4 : st_V), rn (d + 9) 62 48 [some (.ref 0), some (.int am), some (.int rnd), some (.int day), some (.int e)] [] (hs S4 V4) = some (some (.int e), hs (uS S4 88 0 e) V4) := fun e S4 V4 => by
    simp only [x_Tap_run_48, x_Tap_run_49, x_Tap_run_52, x_Tap_run_54, x_Tap_run_57, x_Tap_run_59, g_0_3, p_88_0, ac_0, ac_i, ac_r, ac_ii, ac_ir, ac_ri, ac_rr, ac_iii, ac_iir, ac_iri, ac_irr, ac_rii, ac_rir, ac_rri, ac_rrr, Option.bind_some, Option.toList_some, Option.toList_none, List.nil_append, List.cons_append, not_false_eq_true]
  have pre : ∀ {t' : Option (Option Value × am_H)} (e : Int32), ev (d + 8) 67 [.ref 0] (hs S2 V) = some (some (.int e), hs S3 V3) → rn (d + 9) 62 20 [some (.ref 0), some (.int am), some (.int rnd), some (.int day), some (.int e)] [] (hs S3 V3) = t' → ev (d + 9) 62 [.ref 0, .int am, .int rnd, .int day] (hs S V) = t' := by
    intro t' e he ht'
    rw [← ht']
    simp only [e_Tap_run, x_Tap_run_0, x_Tap_run_1, x_Tap_run_4, x_Tap_run_7, x_Tap_run_8, x_Tap_run_11, x_Tap_run_14, x_Tap_run_15, x_Tap_run_18, g_0_3, i_88, e1, g_0_0, i_1, e2, i_0, he, ac_0, ac_i, ac_r, ac_ii, ac_ir, ac_ri, ac_rr, ac_iii, ac_iir, ac_iri, ac_irr, ac_rii, ac_rir, ac_rri, ac_rrr, Option.bind_some, Option.toList_some, Option.toList_none, List.nil_append, List.cons_append, not_false_eq_true]
  unfold runz
  generalize clt F (decide (¬ anyR (fun j => rdy C j 2) = 0)) 1 0 3 (J0 J) false = cl at e3 k3 k3' LC JC
  obtain ⟨an, hd, J1⟩ := cl
  dsimp only at e3 k3 k3' LC JC ⊢
  have JC : jn J1 ≤ 3 := by have : jn (J0 J) = 0 := rfl; rw [this] at JC; exact JC
  cases an with
  | false =>
    simp only [Bool.false_eq_true, if_false] at e3 ⊢
    refine ⟨uS S3 88 0 3, V3, pre 3 e3 ?_, ?_, G3.us (by unfold klS; omega)⟩
    · rw [← fin 3 S3 V3]
      simp only [x_Tap_run_20, x_Tap_run_22, x_Tap_run_23, x_Tap_run_33, x_Tap_run_35, x_Tap_run_36, (by decide : ¬ (3 : Int32) = -1), if_false]
    · exact ((k3' rfl).setP (k := 0) (v := 3)).congP mkP_0
  | true =>
    simp only [if_true] at e3 ⊢
    obtain ⟨X4, K4⟩ := k3 rfl
    have h5 : jn J1 + 400 * 5 ≤ 2000000 := Nat.le_trans (Nat.add_le_add_right JC (400 * 5)) (by decide)
    have ok := chz_ok (F := F) (a5 := T 5) 5 (rdy C) J1 0 (Nat.lt_succ_of_le (rc_le _)) H2 LC h5
    have okJ : ∀ {x : Nat}, x ≤ jn J1 + 400 * 5 → x ≤ 2003 := fun h => Nat.le_trans h (Nat.add_le_add_right JC (400 * 5))
    generalize chz F (T 5) 5 (rdy C) J1 0 = z at e3 X4 K4 ok
    obtain ⟨zc, zC, zJ, zse, zj, zt⟩ := z
    obtain ⟨o1, o2, o3, o4, o5⟩ := ok
    dsimp only at e3 X4 K4 o1 o2 o3 o4 o5
    have o3 := okJ o3
    unfold runz2
    dsimp only
    by_cases hc : zc = 0
    · subst hc
      simp only [if_true] at X4 ⊢
      obtain ⟨hj, ht, h01⟩ := o4 rfl
      obtain ⟨z6, z3, z16⟩ := o1.size hj h01
      have K5 := K4 rfl
      have e3' : ev (d + 8) 67 [.ref 0] (hs S2 V) = some (some (.int (-1)), hs S3 V3) := e3
      obtain ⟨S5, V5, e5, X5, k5, F5⟩ := ev_readRecords (d := d) (am := am) hj z3 z16 lF hO z6 X4 K5 ht o2 o3 (by decide)
      have ok5 := rda_ok (F := F) (R := R) (t := zt) hj z3 o1 o2 ht o3 (by decide)
      have k06 := (rda_0 (F := F) (R := R) (j := zj) (z := sz zC zj) (C := zC) (J := zJ) (t := zt)).2
      unfold rst
      generalize rda F R zj (sz zC zj) zC zJ zt = r at e5 X5 k5 ok5 k06
      obtain ⟨rok, rC, rJ, rt, rre⟩ := r
      obtain ⟨p1, p2, p3, p4⟩ := ok5
      dsimp only at e5 X5 k5 p1 p2 p3 p4 k06 ⊢
      cases rok with
      | false =>
        simp only [Bool.false_eq_true, if_false] at e5 ⊢
        refine ⟨uS S5 88 0 4, V5, pre (-1) e3' ?_, ?_, (G3.trans F5).us (by unfold klS; omega)⟩
        · rw [← fin 4 S5 V5]
          simp only [x_Tap_run_20, x_Tap_run_22, x_Tap_run_23, x_Tap_run_26, x_Tap_run_27, x_Tap_run_28, x_Tap_run_31, x_Tap_run_33, x_Tap_run_35, x_Tap_run_36, if_true, i_0, e5, (by decide : ¬ (4 : Int32) = -1), if_false, ac_0, ac_i, ac_r, ac_ii, ac_ir, ac_ri, ac_rr, ac_iii, ac_iir, ac_iri, ac_irr, ac_rii, ac_rir, ac_rri, ac_rrr, Option.bind_some, Option.toList_some, Option.toList_none, List.nil_append, List.cons_append, not_false_eq_true]
        · exact (X5.setP (k := 0) (v := 4)).congP mkP_0
      | true =>
        simp only [if_true] at e5 ⊢
        obtain ⟨K6, I6, g6⟩ := k5 rfl
        obtain ⟨S7, V7, e7, X7, F7⟩ := ev_settle (d := d + 2) (am := am) (rnd := rnd) (day := day) hj z3 z16 lF (k06.trans z6) X5 K6 p4 I6 g6 p2 p3 (by decide)
        generalize (if ((tka (fun i => R (3 * zj + i)) (nrec R zj) 0 true it0).1 && (fit 1 ((tka (fun i => R (3 * zj + i)) (nrec R zj) 0 true it0).2 1) && fit 4 ((tka (fun i => R (3 * zj + i)) (nrec R zj) 0 true it0).2 4))) = true then dcd F R T zj (sz zC zj) am rnd day (tka (fun i => R (3 * zj + i)) (nrec R zj) 0 true it0).2 rC rJ rt rre else (5, rC, rJ, 0, -1, 0, 0, rre)) = q at e7 X7
        refine ⟨uS S7 88 0 q.1, V7, pre (-1) e3' ?_, ?_, ((G3.trans F5).trans F7).us (by unfold klS; omega)⟩
        · rw [← fin q.1 S7 V7]
          simp only [x_Tap_run_20, x_Tap_run_22, x_Tap_run_23, x_Tap_run_26, x_Tap_run_27, x_Tap_run_28, x_Tap_run_31, x_Tap_run_33, x_Tap_run_35, x_Tap_run_36, x_Tap_run_39, x_Tap_run_40, x_Tap_run_41, x_Tap_run_42, x_Tap_run_43, x_Tap_run_46, if_true, i_0, e5, e7, ac_0, ac_i, ac_r, ac_ii, ac_ir, ac_ri, ac_rr, ac_iii, ac_iir, ac_iri, ac_irr, ac_rii, ac_rir, ac_rri, ac_rrr, Option.bind_some, Option.toList_some, Option.toList_none, List.nil_append, List.cons_append, not_false_eq_true]
        · exact (X7.setP (k := 0) (v := q.1)).congP mkP_0
    · simp only [if_neg hc] at X4 ⊢
      have ce : cE zc = nI zc := by unfold cE; rw [if_neg hc]
      rw [ce] at e3
      have nc : ¬ nI zc = -1 := by
        rcases o5 with h | h | h
        · exact absurd h hc
        · rw [h]; decide
        · rw [h]; decide
      refine ⟨uS S3 88 0 (nI zc), V3, pre (nI zc) e3 ?_, ?_, G3.us (by unfold klS; omega)⟩
      · rw [← fin (nI zc) S3 V3]
        simp only [x_Tap_run_20, x_Tap_run_22, x_Tap_run_23, x_Tap_run_33, x_Tap_run_35, x_Tap_run_36, nc, if_false]
      · exact (X4.setP (k := 0) (v := nI zc)).congP mkP_0
end CRUN
