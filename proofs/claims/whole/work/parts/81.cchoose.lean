/-! a card is chosen: the class -/
def klS (a _k : Nat) : Prop := a < 93
def klV (a : Nat) : Prop := a < 93
theorem b2i_01 (b : Bool) : B01 (b2i b) := by
  cases b
  · exact Or.inl rfl
  · exact Or.inr rfl
theorem aux_340 {x y w m : Nat} (h1 : x ≤ w + 3) (h2 : w ≤ y + 27) (h3 : y + 400 * (m + 1) ≤ 2000000) : x + 340 ≤ 2000000 := Nat.le_trans (Nat.le_trans (Nat.add_le_add_left (by decide : 340 ≤ 343) x) (aux_343 h1 h2)) h3
theorem aux_346 {x y w v m : Nat} (h0 : v ≤ x + 340) (h1 : x ≤ w + 3) (h2 : w ≤ y + 27) (h3 : y + 400 * (m + 1) ≤ 2000000) : v + 3 ≤ 2000000 := by omega
theorem gN_cong {rd rd' : Nat → Int32} {A : Nat → Nat} {q n : Nat} (h : ∀ i, i < 4 → rd i = rd' i) : ∀ (m c : Nat) (w : Option Nat) (D : Nat), c + m = 4 → gN rd A q n m c w D = gN rd' A q n m c w D := by
  intro m
  induction m with
  | zero => intro c w D _; rfl
  | succ m ih =>
    intro c w D hc
    rw [gN_s, gN_s, h c (by omega), ih _ _ _ (by omega), ih _ _ _ (by omega)]
theorem ak_cong {F : List Int32} {rd rd' : Nat → Int32} {A : Nat → Nat} (h : ∀ i, i < 4 → rd i = rd' i) : ∀ (m : Nat) (J : st_J) (n q : Nat), ak F rd A m J n q = ak F rd' A m J n q := by
  intro m
  induction m with
  | zero => intro J n q; rfl
  | succ m ih =>
    intro J n q
    rw [ak_s, ak_s]
    have e : ak F rd A m = ak F rd' A m := by funext J n q; exact ih J n q
    unfold aks
    rw [gN_cong h 4 0 none 0 (by decide), e]
section CCH
variable {d : Nat} {S S' : st_S} {V V' : st_V} {j t : Nat} {C C1 : st_S} {R : st_V} {F : List Int32} {J J' : st_J} {T P : Nat → Int32}
theorem CX.kl (X : CX S V C R F J T P) {S0 : st_S} {V0 : st_V} (h : Fm klS klV S0 V0 S V) (L : JL J') : Fm klS klV S0 V0 (jS S J') (jV V J') := h.jSV L (X.len (by decide)) (X.len (by decide)) (X.len (by decide)) (by unfold klS; omega) (by unfold klS; omega) (by unfold klV; omega) (by unfold klV; omega) (by unfold klV; omega)
theorem ev_select (hj : j < 4) (X : CX S V C R F J T P) (hp : S 1 2 = nI j) (lF : F.length = 128) (L : JL J) (hJ : jn J + 3 ≤ 2000000) : ∃ S' V', ev (d + 3) 31 [.ref 1] (hs S V) = some (some (.int (b2i (clt F true 3 (C j 3) 3 J false).1)), hs S' V') ∧ CX S' V' C R F (clt F true 3 (C j 3) 3 J false).2.2 T P ∧ ((clt F true 3 (C j 3) 3 J false).1 = true → S' 1 4 = 0 ∧ S' (cb j) 14 = 1 ∧ ∃ jh, Rw S' V' (cb j + 11) [] jh) ∧ S' 1 2 = nI j ∧ Fm klS klV S V S' V' := by
  have H := crd hj
  have X0 : CX (uS S 1 4 0) V C R F J T P := X.fm ((Fm.refl _ _).us (by unfold prS; omega))
  have a3 : uS S 1 4 0 (cb j) 3 = C j 3 := X0.1 j hj 3 (by decide)
  have p2 : uS S 1 4 0 1 2 = nI j := (uS_ne (by decide)).trans hp
  have e := ev_call (d := d) (k := 3) (x := C j 3) hj p2 X0.2.2.1 lF X0.JX L hJ
  obtain ⟨LC, JC⟩ := clt_L (F := F) (p := true) (k := 3) (x := C j 3) 3 J false L hJ
  have h1 := clt_hd1 (F := F) (p := true) (k := 3) (x := C j 3) 3 J false
  have F0 : Fm klS klV S V (uS S 1 4 0) V := (Fm.refl _ _).us (by unfold klS; omega)
  have l12 := (X0.lens hj).2.1
  generalize hS0 : uS S 1 4 0 = S0 at X0 a3 p2 e F0
  generalize clt F true 3 (C j 3) 3 J false = cl at e LC JC h1
  obtain ⟨an, hd, J1⟩ := cl
  dsimp only at e LC JC h1 ⊢
  have hh : hS S0 (cb j) 3 = uS (uS S0 (cb j) 14 1) (cb j + 11) 1 0 := if_pos rfl
  rw [hh] at e
  have X1 : CX (hdS hd S0 (uS (uS S0 (cb j) 14 1) (cb j + 11) 1 0)) V C R F J T P := by
    cases hd
    · exact X0
    · exact X0.fm (((Fm.refl _ _).us (by unfold prS cb; omega)).us (by unfold prS cb; omega))
  have F1 : Fm klS klV S V (hdS hd S0 (uS (uS S0 (cb j) 14 1) (cb j + 11) 1 0)) V := by
    cases hd
    · exact F0
    · exact (F0.us (by unfold klS cb; omega)).us (by unfold klS cb; omega)
  have P1 : hdS hd S0 (uS (uS S0 (cb j) 14 1) (cb j + 11) 1 0) 1 2 = nI j := by
    cases hd
    · exact p2
    · show uS (uS S0 (cb j) 14 1) (cb j + 11) 1 0 1 2 = _
      rw [uS_ne (by unfold cb; omega), uS_ne (by unfold cb; omega)]; exact p2
  refine ⟨_, _, ?_, X1.setJ LC, fun h => ?_, ?_, X1.kl F1 LC⟩
  · rw [← e, ← hS0]
    rw [← hS0] at a3 p2
    simp only [e_Air_select, x_Air_select_0, x_Air_select_1, x_Air_select_2, x_Air_select_5, x_Air_select_6, x_Air_select_7, x_Air_select_8, x_Air_select_11, x_Air_select_12, x_Air_select_15, x_Air_select_16, x_Air_select_19, x_Air_select_22, p_1_4, g_1_0, g_1_2, p2, ld_cards hj, cg_3 H, a3, i_1, ac_0, ac_i, ac_r, ac_ii, ac_ir, ac_ri, ac_rr, ac_iii, ac_iir, ac_iri, ac_irr, ac_rii, ac_rir, ac_rri, ac_rrr, Option.bind_some, Option.toList_some, Option.toList_none, List.nil_append, List.cons_append, not_false_eq_true]
    rw [hS0, e]
    simp only [Option.bind_some, Option.toList_some, List.cons_append, List.nil_append, x_Air_select_22, nb01 (b2i_01 an)]
  · have hd1 := h1 h
    subst hd1
    show jS (uS (uS S0 (cb j) 14 1) (cb j + 11) 1 0) J1 1 4 = 0 ∧ jS (uS (uS S0 (cb j) 14 1) (cb j + 11) 1 0) J1 (cb j) 14 = 1 ∧ ∃ jh, Rw (jS (uS (uS S0 (cb j) 14 1) (cb j + 11) 1 0) J1) (jV V J1) (cb j + 11) [] jh
    refine ⟨?_, ?_, V (cb j + 12), ?_⟩
    · rw [jS_ne (by decide), uS_ne (by unfold cb; omega), uS_ne (by unfold cb; omega), ← hS0, uS_self]
    · rw [jS_ne (by unfold cb; omega), uS_ne (by omega), uS_self]
    · exact (rw_clr H.2.2.2.2.2.2.2.1 (by show (V (cb j + 12)).length ≤ 1000; omega)).cong (jS_ne (by unfold cb; omega)) (jV_ne (by unfold cb; omega))
  · show jS (hdS hd S0 (uS (uS S0 (cb j) 14 1) (cb j + 11) 1 0)) J1 1 2 = nI j
    rw [jS_ne (by decide)]; exact P1
theorem ev_putOff (hj : j < 4) (X : CX S V C R F J T P) (hp : S 1 2 = nI j) (lF : F.length = 128) (L : JL J) (hJ : jn J + 3 ≤ 2000000) : ∃ S' V', ev (d + 3) 32 [.ref 1] (hs S V) = some (some (.int (b2i (clt F true 4 (C j 3) 3 J false).1)), hs S' V') ∧ CX S' V' (if (clt F true 4 (C j 3) 3 J false).2.1 = true then uS C j 2 0 else C) R F (clt F true 4 (C j 3) 3 J false).2.2 T P ∧ Fm klS klV S V S' V' := by
  have H := crd hj
  have a3 : S (cb j) 3 = C j 3 := X.1 j hj 3 (by decide)
  have e := ev_call (d := d) (k := 4) (x := C j 3) hj hp X.2.2.1 lF X.JX L hJ
  obtain ⟨LC, JC⟩ := clt_L (F := F) (p := true) (k := 4) (x := C j 3) 3 J false L hJ
  generalize clt F true 4 (C j 3) 3 J false = cl at e LC JC
  obtain ⟨an, hd, J1⟩ := cl
  dsimp only at e LC JC ⊢
  have hh : hS S (cb j) 4 = uS S (cb j) 2 0 := by unfold hS; rw [if_neg (by decide), if_pos rfl]
  rw [hh] at e
  have X1 : CX (hdS hd S (uS S (cb j) 2 0)) V (if hd = true then uS C j 2 0 else C) R F J T P := by
    cases hd
    · exact X
    · exact X.setC hj (by decide)
  have F1 : Fm klS klV S V (hdS hd S (uS S (cb j) 2 0)) V := by
    cases hd
    · exact Fm.refl _ _
    · exact (Fm.refl _ _).us (by unfold klS cb; omega)
  refine ⟨_, _, ?_, X1.setJ LC, X1.kl F1 LC⟩
  rw [← e]
  simp only [e_Air_putOff, x_Air_putOff_0, x_Air_putOff_1, x_Air_putOff_2, x_Air_putOff_3, x_Air_putOff_6, x_Air_putOff_7, x_Air_putOff_10, x_Air_putOff_11, x_Air_putOff_14, x_Air_putOff_17, g_1_0, g_1_2, hp, ld_cards hj, cg_3 H, a3, i_1, ac_0, ac_i, ac_r, ac_ii, ac_ir, ac_ri, ac_rr, ac_iii, ac_iir, ac_iri, ac_irr, ac_rii, ac_rir, ac_rri, ac_rrr, Option.bind_some, Option.toList_some, Option.toList_none, List.nil_append, List.cons_append, not_false_eq_true]
  rw [e]
  simp only [Option.bind_some, Option.toList_some, List.cons_append, List.nil_append, x_Air_putOff_17, nb01 (b2i_01 an)]
theorem ev_takesApp {a : Int32} : ev d 45 [.ref 71, .int a] (hs S V) = some (some (.int (if am_ush (S 71 5) a &&& 1 = 1 then 1 else 0)), hs S V) := by
  simp only [e_Settings_takesApplication, x_Settings_takesApplication_0, x_Settings_takesApplication_1, x_Settings_takesApplication_4, x_Settings_takesApplication_5, x_Settings_takesApplication_6, x_Settings_takesApplication_7, x_Settings_takesApplication_8, x_Settings_takesApplication_9, x_Settings_takesApplication_12, x_Settings_takesApplication_13, x_Settings_takesApplication_16, x_Settings_takesApplication_17, g_71_5, ac_0, ac_i, ac_r, ac_ii, ac_ir, ac_ri, ac_rr, ac_iii, ac_iir, ac_iri, ac_irr, ac_rii, ac_rir, ac_rri, ac_rrr, Option.bind_some, Option.toList_some, Option.toList_none, List.nil_append, List.cons_append, not_false_eq_true, nbz, nbo]
  split <;> rfl
theorem ev_start {v : Int32} (l90 : (V 90).length = 11) : ∃ S' V' jk, ev (d + 1) 70 [.ref 0, .int v] (hs S V) = some (none, hs S' V') ∧ Rw S' V' 89 [v] jk ∧ jk.length = 10 ∧ Fm (rwS 89) (rwV 89) S V S' V' := by
  obtain ⟨S1, V1, j1, e1, R1, l1, F1⟩ := rw_addX (v := v) (rw_clr (S := S) (V := V) r_89 (by rw [show 89 + 1 = 90 from rfl]; omega)) (by rw [show 89 + 1 = 90 from rfl]; omega)
  refine ⟨S1, V1, j1, ?_, R1, by rw [show 89 + 1 = 90 from rfl] at l1; omega, ((Fm.refl S V).us (show rwS 89 89 1 from rfl)).trans F1⟩
  simp only [e_Tap_startCommand, x_Tap_startCommand_0, x_Tap_startCommand_1, x_Tap_startCommand_4, x_Tap_startCommand_7, x_Tap_startCommand_8, x_Tap_startCommand_11, x_Tap_startCommand_12, x_Tap_startCommand_15, g_0_4, i_89, ev_clr r_89, e1, ac_0, ac_i, ac_r, ac_ii, ac_ir, ac_ri, ac_rr, ac_iii, ac_iir, ac_iri, ac_irr, ac_rii, ac_rir, ac_rri, ac_rrr, Option.bind_some, Option.toList_some, Option.toList_none, List.nil_append, List.cons_append, not_false_eq_true]
theorem okc_1 : okc [1] := Or.inl rfl
theorem chEnd (c : Nat) (h : c = 0 ∨ c = 3 ∨ c = 4) : (if c = 0 then (-1 : Int32) else nI c) = if c = 0 then -1 else nI c := rfl
def cE (c : Nat) : Int32 := if c = 0 then -1 else nI c
theorem trS_kl {S0 : st_S} {V0 : st_V} (h : Fm trS trV S0 V0 S V) : Fm klS klV S0 V0 S V := h.mono (fun a k z => by unfold trS at z; unfold klS; omega) (fun a z => by unfold trV at z; unfold klV; omega)
/-- what the class knows of the chosen card -/
def ChC (S : st_S) (V : st_V) (j t : Nat) : Prop := S 1 2 = nI j ∧ S 1 4 = nI t ∧ S (cb j) 14 = nI (1 - t) ∧ ∃ jh, Rw S V (cb j + 11) [] jh
theorem choose_loop {b fi ty ct mx re : Int32} (lF : F.length = 128) : ∀ (m r : Nat) (C : st_S) (J : st_J) (se : Int32) (S : st_S) (V : st_V) (l2 : Option Value), r + m = 5 → rc C < m → CI C → CX S V C R F J T (mkP b (-1) fi ty ct mx se re) → JL J → jn J + 400 * m ≤ 2000000 →
    ∃ S' V', rn (d + 6) 67 14 [some (.ref 0), some (.int (nI r)), l2] [] (hs S V) = some (some (.int (cE (chz F (T 5) m C J se).1)), hs S' V') ∧ CX S' V' (chz F (T 5) m C J se).2.1 R F (chz F (T 5) m C J se).2.2.1 T (mkP b (if (chz F (T 5) m C J se).1 = 0 then nI (chz F (T 5) m C J se).2.2.2.2.1 else -1) fi ty ct mx (chz F (T 5) m C J se).2.2.2.1 re) ∧ ((chz F (T 5) m C J se).1 = 0 → ChC S' V' (chz F (T 5) m C J se).2.2.2.2.1 (chz F (T 5) m C J se).2.2.2.2.2) ∧ Fm klS klV S V S' V' := by
  intro m
  induction m with
  | zero => intro r C J se S V l2 hr h; omega
  | succ m ih =>
    intro r C J se S V l2 hr hrc H X L hJ
    have c : ¬ (4 : Int32) < nI r := nI_nlt (a := 4) (by omega) (by decide)
    have rE : (fun j => S (cb j) 2) = fun j => if j < 4 then S (cb j) 2 else S (cb j) 2 := by funext j; simp
    have RAs : RA (fun j => S (cb j) 2) (fun j => S (cb j) 3) (adr C) := by
      intro i hi hri
      have hri : ¬ S (cb i) 2 = 0 := hri
      rw [X.1 i hi 2 (by decide)] at hri
      obtain ⟨u1, u2⟩ := H.ra i hi hri
      exact ⟨u1, (X.1 i hi 3 (by decide)).trans u2⟩
    obtain ⟨w, D, ef, f1, f2, f3, f4⟩ := ev_find (d := d + 2) (J := J) RAs X.2.2.1 lF X.JX L (by omega)
    have akE : ak F (fun j => S (cb j) 2) (adr C) 9 J 0 0 = ak F (fun j => C j 2) (adr C) 9 J 0 0 := ak_cong (fun i hi => X.1 i hi 2 (by decide)) 9 J 0 0
    rw [akE] at ef f1 f2 f3 f4
    have Xg : CX (gS S w D) V C R F J T (mkP b (-1) fi ty ct mx se re) := X.fm (((Fm.refl _ _).us (by unfold prS; omega)).us (by unfold prS; omega))
    have Fg : Fm klS klV S V (gS S w D) V := ((Fm.refl _ _).us (by unfold klS; omega)).us (by unfold klS; omega)
    rw [x_Tap_chooseCard_14, chz_s]
    generalize ak F (fun j => C j 2) (adr C) 9 J 0 0 = a at ef f1 f2 f3 f4
    obtain ⟨j, J1⟩ := a
    dsimp only at ef f1 f2 f3 f4
    have X1 := Xg.setJ f3
    have F1 := Xg.kl Fg f3
    have p1 : j < 4 → jS (gS S w D) J1 1 2 = nI j := fun hj => by
      rw [jS_ne (by decide), (f1 hj).1]; unfold gS; rw [uS_ne (by decide), uS_self]; rfl
    generalize jS (gS S w D) J1 = S1 at ef X1 F1 p1
    generalize jV V J1 = V1 at ef X1 F1
    unfold chc
    dsimp only
    by_cases hj : j < 4
    · rw [if_pos hj]
      obtain ⟨_, hrd⟩ := f1 hj
      rw [X.1 j hj 2 (by decide)] at hrd
      have h01 : C j 0 = 1 := (H j hj).2 hrd
      obtain ⟨z6, z3, z16⟩ := H.size hj h01
      have fe : fEnd j = -1 := by unfold fEnd; rw [if_pos hj]
      obtain ⟨S2, V2, e2, X2, k2, p2, F2⟩ := ev_select (d := d + 2) hj X1 (p1 hj) lF f3 (by omega)
      obtain ⟨LC, JC⟩ := clt_L (F := F) (p := true) (k := 3) (x := C j 3) 3 J1 false f3 (by omega)
      generalize clt F true 3 (C j 3) 3 J1 false = cl at e2 X2 k2 LC JC
      obtain ⟨an, hd, J2⟩ := cl
      dsimp only at e2 X2 k2 LC JC ⊢
      cases an with
      | false =>
        rw [if_neg (by decide)]
        refine ⟨S2, V2, ?_, ?_, fun z => absurd z (by show ¬ 4 = 0; decide), F1.trans F2⟩
        · simp only [x_Tap_chooseCard_15, x_Tap_chooseCard_16, x_Tap_chooseCard_19, x_Tap_chooseCard_20, x_Tap_chooseCard_23, x_Tap_chooseCard_26, x_Tap_chooseCard_27, x_Tap_chooseCard_28, x_Tap_chooseCard_29, x_Tap_chooseCard_32, x_Tap_chooseCard_33, x_Tap_chooseCard_34, x_Tap_chooseCard_35, x_Tap_chooseCard_38, x_Tap_chooseCard_41, x_Tap_chooseCard_44, x_Tap_chooseCard_45, c, if_false, g_0_0, i_1, ef, fe, if_true, e2, show b2i false = 0 from rfl, ac_0, ac_i, ac_r, ac_ii, ac_ir, ac_ri, ac_rr, ac_iii, ac_iir, ac_iri, ac_irr, ac_rii, ac_rir, ac_rri, ac_rrr, Option.bind_some, Option.toList_some, Option.toList_none, List.nil_append, List.cons_append, not_false_eq_true]
          rfl
        · exact X2
      | true =>
        rw [if_pos rfl]
        obtain ⟨k21, k22, k23⟩ := k2 rfl
        have X3 : CX (uS S2 88 6 (se + 1)) V2 C R F J2 T (mkP b (-1) fi ty ct mx (se + 1) re) := (X2.setP (k := 6) (v := se + 1)).congP mkP_6
        have s6 : S2 88 6 = se := X2.2.2.2.2.2.1 6 (by decide)
        obtain ⟨S4, V4, j4', e4, R4, l4, F4⟩ := ev_start (d := d + 4) (S := uS S2 88 6 (se + 1)) (V := V2) (v := 1) (X3.len (by decide))
        have X4 : CX S4 V4 C R F J2 T (mkP b (-1) fi ty ct mx (se + 1) re) := X3.fm (F4.mono (fun a k z => by unfold rwS at z; unfold prS; omega) (fun a z => by unfold rwV at z; unfold prV; omega))
        have kk : ∀ a k, ¬ a = 89 → ¬ a = 88 → S4 a k = S2 a k := fun a k h1 h2 => (F4.1 a k (by unfold rwS; omega)).trans (uS_ne (by omega))
        obtain ⟨jh, k23⟩ := k23
        have k23' : Rw S4 V4 (cb j + 11) [] jh := (k23.cong (S' := uS S2 88 6 (se + 1)) (V' := V2) (uS_ne (by unfold cb; omega)) rfl).fm F4 (by unfold rwS cb; omega) (by unfold rwV cb; omega)
        have G4 : Fm klS klV S V S4 V4 := ((F1.trans F2).us (show klS 88 6 by unfold klS; omega)).trans (F4.mono (fun a k z => by unfold rwS at z; unfold klS; omega) (fun a z => by unfold rwV at z; unfold klV; omega))
        obtain ⟨S5, V5, e5, X5, k5, F5⟩ := ev_transmit (d := d) (t := 0) (z := sz C j) hj z6 z3 z16 (by decide) (by decide) (by show 1 ≤ 24; decide) okc_1 (exe_1 C R j) lF X4 LC (aux_340 JC f4 hJ) ((kk 1 2 (by decide) (by decide)).trans p2) (by decide) ((kk 1 4 (by decide) (by decide)).trans k21) ((kk (cb j) 14 (by unfold cb; omega) (by unfold cb; omega)).trans k22) ⟨jh, k23'⟩ R4
        obtain ⟨LT, JT, tT, pT⟩ := tk_L (F := F) (L := 1) (n := 1) (z := sz C j) z3 340 J2 0 0 0 5 0 0 ⟨by decide, Or.inl ⟨rfl, Or.inl rfl, by decide⟩⟩ LC (aux_340 JC f4 hJ)
        have p5 : S5 1 2 = nI j := (F5.1 _ _ (by unfold trS; omega)).trans ((kk 1 2 (by decide) (by decide)).trans p2)
        have G5 := G4.trans (trS_kl F5)
        have pre : ∀ {t' : Option (Option Value × am_H)}, rn (d + 6) 67 79 [some (.ref 0), some (.int (nI r)), some (.int (-1))] [.int (b2i (tk F 1 (sz C j) 1 340 J2 0 0 0 5 0 0).1)] (hs S5 V5) = t' → rn (d + 6) 67 15 [some (.ref 0), some (.int (nI r)), l2] [.int (nI r)] (hs S V) = t' := by
          intro t' ht'
          rw [← ht']
          have e5' : ev (d + 5) 33 [.ref 1, .ref 89, .ref 91] (hs S4 V4) = some (some (.int (b2i (tk F 1 (sz C j) 1 340 J2 0 0 0 5 0 0).1)), hs S5 V5) := e5
          simp only [x_Tap_chooseCard_15, x_Tap_chooseCard_16, x_Tap_chooseCard_19, x_Tap_chooseCard_20, x_Tap_chooseCard_23, x_Tap_chooseCard_26, x_Tap_chooseCard_27, x_Tap_chooseCard_28, x_Tap_chooseCard_29, x_Tap_chooseCard_32, x_Tap_chooseCard_33, x_Tap_chooseCard_34, x_Tap_chooseCard_35, x_Tap_chooseCard_38, x_Tap_chooseCard_41, x_Tap_chooseCard_44, x_Tap_chooseCard_45, x_Tap_chooseCard_46, x_Tap_chooseCard_47, x_Tap_chooseCard_50, x_Tap_chooseCard_50', x_Tap_chooseCard_51, x_Tap_chooseCard_54, x_Tap_chooseCard_55, x_Tap_chooseCard_56, x_Tap_chooseCard_59, x_Tap_chooseCard_60, x_Tap_chooseCard_61, x_Tap_chooseCard_64, x_Tap_chooseCard_65, x_Tap_chooseCard_68, x_Tap_chooseCard_69, x_Tap_chooseCard_72, x_Tap_chooseCard_73, x_Tap_chooseCard_76, c, if_false, g_0_0, i_1, ef, fe, if_true, e2, show b2i true = 1 from rfl, (by decide : ¬ (1 : Int32) = 0), g_0_3, g_88_6, s6, p_88_6, i_0, e4, g_0_4, g_0_5, e5', ac_0, ac_i, ac_r, ac_ii, ac_ir, ac_ri, ac_rr, ac_iii, ac_iir, ac_iri, ac_irr, ac_rii, ac_rir, ac_rri, ac_rrr, Option.bind_some, Option.toList_some, Option.toList_none, List.nil_append, List.cons_append, not_false_eq_true]
        have X5' : CX S5 V5 (cph C (uS C j 11 (C j 11 + 1)) (tk F 1 (sz C j) 1 340 J2 0 0 0 5 0 0).2.2.2) R F (tk F 1 (sz C j) 1 340 J2 0 0 0 5 0 0).2.1 T (mkP b (-1) fi ty ct mx (se + 1) re) := X5
        have k5' : (tk F 1 (sz C j) 1 340 J2 0 0 0 5 0 0).1 = true → S5 1 4 = nI (tk F 1 (sz C j) 1 340 J2 0 0 0 5 0 0).2.2.1 ∧ S5 (cb j) 14 = nI (1 - (tk F 1 (sz C j) 1 340 J2 0 0 0 5 0 0).2.2.1) ∧ (∃ jh, Rw S5 V5 (cb j + 11) [] jh) ∧ ∃ jg, Rw S5 V5 91 [C j 4] jg := k5
        clear e5 X5 k5
        unfold chr
        generalize tk F 1 (sz C j) 1 340 J2 0 0 0 5 0 0 = q at pre X5' k5' LT JT tT pT
        obtain ⟨ok, J3, t3, ph⟩ := q
        dsimp only at pre X5' k5' LT JT tT pT ⊢
        have c3 : ∀ i, cph C (uS C j 11 (C j 11 + 1)) ph i 3 = C i 3 := fun i => by
          unfold cph
          split
          · exact uS_ne (by omega)
          · rfl
        have c2 : ∀ i, cph C (uS C j 11 (C j 11 + 1)) ph i 2 = C i 2 := fun i => by
          unfold cph
          split
          · exact uS_ne (by omega)
          · rfl
        cases ok with
        | false =>
          rw [if_neg (by decide)]
          refine ⟨S5, V5, pre ?_, X5', fun z => absurd z (by show ¬ 4 = 0; decide), G5⟩
          simp only [x_Tap_chooseCard_79, x_Tap_chooseCard_82, x_Tap_chooseCard_83, show b2i false = 0 from rfl, if_true]
          rfl
        | true =>
          rw [if_pos rfl]
          obtain ⟨k51, k52, k53, jg, k54⟩ := k5' rfl
          have at0 : rAt [C j 4] 0 = C j 4 := rfl
          have T5 : S5 71 5 = T 5 := X5'.2.2.2.2.1 5 (by decide)
          have ta := ev_takesApp (d := d + 5) (S := S5) (V := V5) (a := C j 4)
          rw [T5] at ta
          by_cases hta : am_ush (T 5) (C j 4) &&& 1 = 1
          · rw [if_pos hta] at ta ⊢
            refine ⟨uS S5 88 1 (nI j), V5, pre ?_, ?_, fun _ => ?_, G5.us (by unfold klS; omega)⟩
            · simp only [x_Tap_chooseCard_79, x_Tap_chooseCard_84, x_Tap_chooseCard_85, x_Tap_chooseCard_88, x_Tap_chooseCard_89, x_Tap_chooseCard_92, x_Tap_chooseCard_93, x_Tap_chooseCard_96, x_Tap_chooseCard_99, x_Tap_chooseCard_102, x_Tap_chooseCard_103, x_Tap_chooseCard_106, x_Tap_chooseCard_107, x_Tap_chooseCard_110, x_Tap_chooseCard_113, x_Tap_chooseCard_116, x_Tap_chooseCard_117, show b2i true = 1 from rfl, if_false, (by decide : ¬ (1 : Int32) = 0), g_0_1, g_0_5, i_91, ev_at k54, at0, i_71, ta, g_0_3, g_0_0, g_1_2, p5, p_88_1, ac_0, ac_i, ac_r, ac_ii, ac_ir, ac_ri, ac_rr, ac_iii, ac_iir, ac_iri, ac_irr, ac_rii, ac_rir, ac_rri, ac_rrr, Option.bind_some, Option.toList_some, Option.toList_none, List.nil_append, List.cons_append, not_false_eq_true]
              rfl
            · exact (X5'.setP (k := 1) (v := nI j)).congP mkP_1
            · obtain ⟨jh5, k53⟩ := k53
              exact ⟨(uS_ne (by decide)).trans p5, (uS_ne (by decide)).trans k51, (uS_ne (by unfold cb; omega)).trans k52, jh5, k53.cong (uS_ne (by unfold cb; omega)) rfl⟩
          · rw [if_neg hta] at ta ⊢
            obtain ⟨S6, V6, e6, X6, F6⟩ := ev_putOff (d := d + 2) hj X5' p5 lF LT (aux_346 JT JC f4 hJ)
            rw [c3] at e6 X6
            obtain ⟨LO, JO⟩ := clt_L (F := F) (p := true) (k := 4) (x := C j 3) 3 J3 false LT (aux_346 JT JC f4 hJ)
            have hd1 := clt_hd1 (F := F) (p := true) (k := 4) (x := C j 3) 3 J3 false
            generalize clt F true 4 (C j 3) 3 J3 false = cl at e6 X6 LO JO hd1
            obtain ⟨an6, hd6, J6⟩ := cl
            dsimp only at e6 X6 LO JO hd1 ⊢
            cases an6 with
            | false =>
              rw [if_neg (by decide)]
              refine ⟨S6, V6, pre ?_, X6, fun z => absurd z (by show ¬ 4 = 0; decide), G5.trans F6⟩
              simp only [x_Tap_chooseCard_79, x_Tap_chooseCard_84, x_Tap_chooseCard_85, x_Tap_chooseCard_88, x_Tap_chooseCard_89, x_Tap_chooseCard_92, x_Tap_chooseCard_93, x_Tap_chooseCard_96, x_Tap_chooseCard_99, x_Tap_chooseCard_118, x_Tap_chooseCard_119, x_Tap_chooseCard_122, x_Tap_chooseCard_125, x_Tap_chooseCard_128, x_Tap_chooseCard_129, show b2i true = 1 from rfl, show b2i false = 0 from rfl, if_false, if_true, (by decide : ¬ (1 : Int32) = 0), g_0_1, g_0_5, i_91, ev_at k54, at0, i_71, ta, g_0_0, i_1, e6, ac_0, ac_i, ac_r, ac_ii, ac_ir, ac_ri, ac_rr, ac_iii, ac_iir, ac_iri, ac_irr, ac_rii, ac_rir, ac_rri, ac_rrr, Option.bind_some, Option.toList_some, Option.toList_none, List.nil_append, List.cons_append, not_false_eq_true]
              rfl
            | true =>
              rw [if_pos rfl]
              have hd' := hd1 rfl
              subst hd'
              rw [if_pos rfl] at X6
              have hrc' : rc (uS (cph C (uS C j 11 (C j 11 + 1)) ph) j 2 0) < m := by
                have := rc_off (C := cph C (uS C j 11 (C j 11 + 1)) ph) hj (by rw [c2]; exact hrd)
                rw [rc_same c2] at this
                omega
              obtain ⟨S7, V7, e7, X7, k7, F7⟩ := ih (r + 1) (uS (cph C (uS C j 11 (C j 11 + 1)) ph) j 2 0) J6 (se + 1) S6 V6 (some (.int (-1))) (by omega) hrc' (CI.off (H.ph (H.c11 hj) ph)) X6 LO (aux_373 (Nat.le_trans JO (Nat.add_le_add_right JT 3)) JC f4 hJ).1
              refine ⟨S7, V7, pre ?_, X7, k7, (G5.trans F6).trans F7⟩
              rw [← e7]
              simp only [x_Tap_chooseCard_79, x_Tap_chooseCard_84, x_Tap_chooseCard_85, x_Tap_chooseCard_88, x_Tap_chooseCard_89, x_Tap_chooseCard_92, x_Tap_chooseCard_93, x_Tap_chooseCard_96, x_Tap_chooseCard_99, x_Tap_chooseCard_118, x_Tap_chooseCard_119, x_Tap_chooseCard_122, x_Tap_chooseCard_125, x_Tap_chooseCard_128, x_Tap_chooseCard_129, x_Tap_chooseCard_130, x_Tap_chooseCard_133, show b2i true = 1 from rfl, if_false, if_true, (by decide : ¬ (1 : Int32) = 0), g_0_1, g_0_5, i_91, ev_at k54, at0, i_71, ta, g_0_0, i_1, e6, nI_1, ac_0, ac_i, ac_r, ac_ii, ac_ir, ac_ri, ac_rr, ac_iii, ac_iir, ac_iri, ac_irr, ac_rii, ac_rir, ac_rri, ac_rrr, Option.bind_some, Option.toList_some, Option.toList_none, List.nil_append, List.cons_append, not_false_eq_true]
    · rw [if_neg hj]
      refine ⟨S1, V1, ?_, ?_, fun z => ?_, F1⟩
      · by_cases h4 : j = 4
        · have fe : fEnd j = 3 := by rw [h4]; rfl
          simp only [x_Tap_chooseCard_15, x_Tap_chooseCard_16, x_Tap_chooseCard_19, x_Tap_chooseCard_20, x_Tap_chooseCard_23, x_Tap_chooseCard_26, x_Tap_chooseCard_27, x_Tap_chooseCard_28, x_Tap_chooseCard_29, x_Tap_chooseCard_32, x_Tap_chooseCard_33, c, if_false, g_0_0, i_1, ef, fe, (by decide : ¬ (3 : Int32) = -1), ac_0, ac_i, ac_r, ac_ii, ac_ir, ac_ri, ac_rr, ac_iii, ac_iir, ac_iri, ac_irr, ac_rii, ac_rir, ac_rri, ac_rrr, Option.bind_some, Option.toList_some, Option.toList_none, List.nil_append, List.cons_append, not_false_eq_true]
          rw [if_pos h4]; rfl
        · have fe : fEnd j = 4 := by unfold fEnd; rw [if_neg hj, if_neg h4]
          simp only [x_Tap_chooseCard_15, x_Tap_chooseCard_16, x_Tap_chooseCard_19, x_Tap_chooseCard_20, x_Tap_chooseCard_23, x_Tap_chooseCard_26, x_Tap_chooseCard_27, x_Tap_chooseCard_28, x_Tap_chooseCard_29, x_Tap_chooseCard_32, x_Tap_chooseCard_33, c, if_false, g_0_0, i_1, ef, fe, (by decide : ¬ (4 : Int32) = -1), ac_0, ac_i, ac_r, ac_ii, ac_ir, ac_ri, ac_rr, ac_iii, ac_iir, ac_iri, ac_irr, ac_rii, ac_rir, ac_rri, ac_rrr, Option.bind_some, Option.toList_some, Option.toList_none, List.nil_append, List.cons_append, not_false_eq_true]
          rw [if_neg h4]; rfl
      · have : ¬ (if j = 4 then 3 else 4) = 0 := by split <;> decide
        rw [if_neg this]; exact X1
      · exfalso
        have : (if j = 4 then 3 else 4) = 0 := z
        split at this <;> omega
end CCH
