/-! a card is chosen: the reference -/
def kmS (a _k : Nat) : Prop := 93 ≤ a
def kmV (a : Nat) : Prop := 93 ≤ a
theorem ushr_eq {x y : Int32} (hx : oct x) (hy : ∃ p, p < 8 ∧ y = nI p) : x >>> (y &&& 31) = am_ush x y := by
  obtain ⟨m, hm, rfl⟩ := hx
  obtain ⟨p, hp, rfl⟩ := hy
  rw [shr_N (by omega) (by omega), ush_N (by omega) (by omega)]
section MCH
variable {d : Nat} {S S' : st_S} {V V' : st_V} {j t : Nat} {C C1 : st_S} {R : st_V} {F : List Int32} {J J' : st_J} {T P : Nat → Int32}
theorem MX.km (X : MX S V C R F J T P) {S0 : st_S} {V0 : st_V} {s : Nat} (h : Fm kmS kmV S0 V0 S V) (L : JL J') : Fm kmS kmV S0 V0 (mS S J' s) (mV V J') := h.mSV L (X.len (by decide)) (X.len (by decide)) (X.len (by decide)) (by unfold kmS; omega) (by unfold kmS; omega) (by unfold kmS; omega) (by unfold kmV; omega) (by unfold kmV; omega) (by unfold kmV; omega)
theorem taS_km {S0 : st_S} {V0 : st_V} (h : Fm taS taV S0 V0 S V) : Fm kmS kmV S0 V0 S V := h.mono (fun a k z => by unfold taS at z; unfold kmS; omega) (fun a z => by unfold taV at z; unfold kmV; omega)
theorem ev_msel (hj : j < 4) (X : MX S V C R F J T P) (h32 : S 93 32 = 0) (lF : F.length = 128) (L : JL J) (hJ : jn J + 3 ≤ 2000000) : ∃ S' V', ev (d + 1) 99 [.ref 93, .int 3, .int (nI j)] (hs S V) = some (some (.int (b2i (clt F true 3 (C j 3) 3 J false).1)), hs S' V') ∧ MX S' V' C R F (clt F true 3 (C j 3) 3 J false).2.2 T P ∧ ((clt F true 3 (C j 3) 3 J false).1 = true → S' 93 44 = 1 ∧ S' 93 32 = 0) ∧ Fm kmS kmV S V S' V' := by
  have e := ev_mcall (d := d) (k := 3) hj (Or.inl rfl) (X.1 j hj 3 (by decide)) (X.len (by decide)) X.2.2.1 lF (X.JM (s := 0) h32) L hJ
  obtain ⟨LC, JC⟩ := clt_L (F := F) (p := true) (k := 3) (x := C j 3) 3 J false L hJ
  have h1 := clt_hd1 (F := F) (p := true) (k := 3) (x := C j 3) 3 J false
  generalize clt F true 3 (C j 3) 3 J false = cl at e LC JC h1
  obtain ⟨an, hd, J1⟩ := cl
  dsimp only at e LC JC h1 ⊢
  have hh : mhS S 3 = uS S 93 44 1 := if_pos rfl
  have hv : mhV V j 3 = V := if_neg (by decide)
  have hv2 : hdV hd V (mhV V j 3) = V := by rw [hv]; cases hd <;> rfl
  rw [hh, hv2] at e
  have X1 : MX (hdS hd S (uS S 93 44 1)) V C R F J T P := by
    cases hd
    · exact X
    · exact X.fm ((Fm.refl _ _).us (by unfold pmS; omega))
  have F1 : Fm kmS kmV S V (hdS hd S (uS S 93 44 1)) V := by
    cases hd
    · exact Fm.refl _ _
    · exact (Fm.refl _ _).us (by unfold kmS; omega)
  refine ⟨_, _, e, X1.setJ LC, fun h => ?_, X1.km F1 LC⟩
  have h' := h1 h
  subst h'
  rw [if_pos h]
  exact ⟨by rw [mS_ne (by decide)]; exact uS_self S 93 44 1, (jm_set _ V J1 0).2.2.2.2.2⟩
theorem ev_moff (hj : j < 4) (X : MX S V C R F J T P) (h32 : S 93 32 = 0) (lF : F.length = 128) (L : JL J) (hJ : jn J + 3 ≤ 2000000) : ∃ S' V', ev (d + 1) 99 [.ref 93, .int 4, .int (nI j)] (hs S V) = some (some (.int (b2i (clt F true 4 (C j 3) 3 J false).1)), hs S' V') ∧ MX S' V' (if (clt F true 4 (C j 3) 3 J false).2.1 = true then uS C j 2 0 else C) R F (clt F true 4 (C j 3) 3 J false).2.2 T P ∧ ((clt F true 4 (C j 3) 3 J false).1 = true → S' 93 32 = 0) ∧ Fm kmS kmV S V S' V' := by
  have e := ev_mcall (d := d) (k := 4) hj (Or.inr rfl) (X.1 j hj 3 (by decide)) (X.len (by decide)) X.2.2.1 lF (X.JM (s := 0) h32) L hJ
  obtain ⟨LC, JC⟩ := clt_L (F := F) (p := true) (k := 4) (x := C j 3) 3 J false L hJ
  generalize clt F true 4 (C j 3) 3 J false = cl at e LC JC
  obtain ⟨an, hd, J1⟩ := cl
  dsimp only at e LC JC ⊢
  have hh : mhS S 4 = S := if_neg (by decide)
  have hv : mhV V j 4 = sV V 96 j 0 := if_pos rfl
  have hh2 : hdS hd S (mhS S 4) = S := by rw [hh]; cases hd <;> rfl
  rw [hh2, hv] at e
  have X1 : MX S (hdV hd V (sV V 96 j 0)) (if hd = true then uS C j 2 0 else C) R F J T P := by
    cases hd
    · exact X
    · exact X.setC (k := 2) hj (by decide)
  have F1 : Fm kmS kmV S V S (hdV hd V (sV V 96 j 0)) := by
    cases hd
    · exact Fm.refl _ _
    · exact (Fm.refl _ _).sv (by unfold kmV; omega)
  refine ⟨_, _, e, X1.setJ LC, fun h => ?_, X1.km F1 LC⟩
  rw [if_pos h]
  exact (jm_set _ V J1 0).2.2.2.2.2
def ChM (S : st_S) (j t : Nat) : Prop := S 93 47 = nI j ∧ S 93 43 = nI t ∧ S 93 44 = nI (1 - t) ∧ S 93 40 = 0 ∧ S 93 32 = 0
theorem mchoose_loop {b fi ty ct mx re am rnd day : Int32} {l5 l6 : Option Value} (lF : F.length = 128) (hR : ∀ i, i < 12 → (R i).length ≤ 24) (hT : oct (T 5)) : ∀ (m : Nat) (C : st_S) (J : st_J) (se : Int32) (S : st_S) (V : st_V) (l4 : Option Value), rc C < m → CI C → MX S V C R F J T (mkP b (-1) fi ty ct mx se re) → S 93 32 = 0 → JL J → jn J + 400 * m ≤ 2000000 →
    ∃ S' V' l4', rn (d + 5) 101 9 [some (.ref 93), some (.int am), some (.int rnd), some (.int day), l4, l5, l6] [] (hs S V) = (if (chz F (T 5) m C J se).1 = 0 then rn (d + 5) 101 139 [some (.ref 93), some (.int am), some (.int rnd), some (.int day), l4', l5, l6] [] (hs S' V') else some (some (.int (nI (chz F (T 5) m C J se).1)), hs S' V')) ∧ MX S' V' (chz F (T 5) m C J se).2.1 R F (chz F (T 5) m C J se).2.2.1 T (mkP b (if (chz F (T 5) m C J se).1 = 0 then nI (chz F (T 5) m C J se).2.2.2.2.1 else -1) fi ty ct mx (chz F (T 5) m C J se).2.2.2.1 re) ∧ ((chz F (T 5) m C J se).1 = 0 → ChM S' (chz F (T 5) m C J se).2.2.2.2.1 (chz F (T 5) m C J se).2.2.2.2.2) ∧ Fm kmS kmV S V S' V' := by
  intro m
  induction m with
  | zero => intro C J se S V l4 h; omega
  | succ m ih =>
    intro C J se S V l4 hrc H X h32 L hJ
    have s25 : S 93 25 = -1 := X.2.2.2.2.2.1 1 (by decide)
    have c25 : S 93 25 < 0 := by rw [s25]; decide
    have ea := ev_ask (d := d + 3) (J := J) H.ra (fun i hi => X.1 i hi 2 (by decide)) (fun i hi => X.1 i hi 3 (by decide)) X.2.2.1 lF (X.JM (s := 0) h32) L (by omega)
    obtain ⟨f1, f2, f3, f4⟩ := ak_ok (F := F) H.ra 9 J 0 0 (by decide) (by decide) L (by omega)
    have f4 : jn (ak F (fun j => C j 2) (adr C) 9 J 0 0).2 ≤ jn J + 27 := f4
    rw [x_Mod_goes_9, chz_s]
    generalize ak F (fun j => C j 2) (adr C) 9 J 0 0 = a at ea f1 f2 f3 f4
    obtain ⟨j, J1⟩ := a
    unfold askO at ea
    dsimp only at ea f1 f2 f3 f4
    have X1 := X.setJ (s := if j < 4 then 0 else 3) f3
    have F1 := X.km (s := if j < 4 then 0 else 3) (Fm.refl _ _) f3
    have q32 : j < 4 → mS S J1 (if j < 4 then 0 else 3) 93 32 = 0 := fun hj => by rw [if_pos hj]; exact (jm_set S V J1 0).2.2.2.2.2
    generalize mS S J1 (if j < 4 then 0 else 3) = S1 at ea X1 F1 q32
    generalize mV V J1 = V1 at ea X1 F1
    unfold chc
    dsimp only
    by_cases hj : j < 4
    · rw [if_pos hj]
      have hrd : ¬ C j 2 = 0 := f1 hj
      have h01 : C j 0 = 1 := (H j hj).2 hrd
      obtain ⟨z6, z3, z16⟩ := H.size hj h01
      have fe : mEnd j = nI j := by unfold mEnd; rw [if_pos hj]
      have nj : ¬ nI j < 0 := nI_nn (by omega)
      obtain ⟨S2, V2, e2, X2, k2, F2⟩ := ev_msel (d := d + 3) hj X1 (q32 hj) lF f3 (by omega)
      obtain ⟨LC, JC⟩ := clt_L (F := F) (p := true) (k := 3) (x := C j 3) 3 J1 false f3 (by omega)
      generalize clt F true 3 (C j 3) 3 J1 false = cl at e2 X2 k2 LC JC
      obtain ⟨an, hd, J2⟩ := cl
      dsimp only at e2 X2 k2 LC JC ⊢
      cases an with
      | false =>
        simp only [Bool.false_eq_true, if_false]
        refine ⟨S2, V2, none, ?_, ?_, fun z => absurd z (by decide), F1.trans F2⟩
        · rw [if_neg (by decide)]
          simp only [x_Mod_goes_10, x_Mod_goes_13, x_Mod_goes_16, x_Mod_goes_17, x_Mod_goes_20, x_Mod_goes_22, x_Mod_goes_24, x_Mod_goes_27, x_Mod_goes_29, x_Mod_goes_30, x_Mod_goes_33, x_Mod_goes_34, x_Mod_goes_37, x_Mod_goes_38, x_Mod_goes_39, x_Mod_goes_40, x_Mod_goes_41, x_Mod_goes_43, x_Mod_goes_46, x_Mod_goes_49, x_Mod_goes_50, g_93_25, c25, if_true, if_false, i_93, ea, fe, nj, e2, show b2i false = 0 from rfl, ac_0, ac_i, ac_r, ac_ii, ac_ir, ac_ri, ac_rr, ac_iii, ac_iir, ac_iri, ac_irr, ac_rii, ac_rir, ac_rri, ac_rrr, Option.bind_some, Option.toList_some, Option.toList_none, List.nil_append, List.cons_append, not_false_eq_true]
          rfl
        · exact X2
      | true =>
        rw [if_pos rfl]
        obtain ⟨k21, k22⟩ := k2 rfl
        have s33 : S2 93 33 = se := X2.2.2.2.2.2.1 6 (by decide)
        have X3 : MX (uS S2 93 33 (se + 1)) V2 C R F J2 T (mkP b (-1) fi ty ct mx (se + 1) re) := (X2.setP (k := 6) (v := se + 1) (by decide)).congP mkP_6
        have l112 : (V2 112).length = 11 := X2.len (by decide)
        have sv : ∀ S : st_S, am_sv (hs S V2) 112 0 0 1 = some (hs S (sV V2 112 0 1)) := fun S => svN (j := 0) rfl (by omega) (by decide)
        have Q4 : Fm pmS pmV (uS S2 93 33 (se + 1)) V2 (uS (uS (uS (uS (uS S2 93 33 (se + 1)) 93 47 (nI j)) 93 43 0) 93 40 0) 93 39 1) (sV V2 112 0 1) := (((((Fm.refl _ _).us (by unfold pmS; omega)).us (by unfold pmS; omega)).us (by unfold pmS; omega)).us (by unfold pmS; omega)).sv (by unfold pmV; omega)
        have G4 : Fm kmS kmV S V (uS (uS (uS (uS (uS S2 93 33 (se + 1)) 93 47 (nI j)) 93 43 0) 93 40 0) 93 39 1) (sV V2 112 0 1) := ((((((F1.trans F2).us (by unfold kmS; omega)).us (by unfold kmS; omega)).us (by unfold kmS; omega)).us (by unfold kmS; omega)).us (by unfold kmS; omega)).sv (by unfold kmV; omega)
        have X4 := X3.fm Q4
        have P4 : Px (sV V2 112 0 1) 112 [1] := (Px.nil V2 112).sv (by show 0 < (V2 112).length; omega)
        have v47 : uS (uS (uS (uS (uS S2 93 33 (se + 1)) 93 47 (nI j)) 93 43 0) 93 40 0) 93 39 1 93 47 = nI j := by rw [uS_ne (by decide), uS_ne (by decide), uS_ne (by decide), uS_self]
        have v43 : uS (uS (uS (uS (uS S2 93 33 (se + 1)) 93 47 (nI j)) 93 43 0) 93 40 0) 93 39 1 93 43 = nI 0 := by rw [uS_ne (by decide), uS_ne (by decide), uS_self]; rfl
        have v40 : uS (uS (uS (uS (uS S2 93 33 (se + 1)) 93 47 (nI j)) 93 43 0) 93 40 0) 93 39 1 93 40 = 0 := by rw [uS_ne (by decide), uS_self]
        have v39 : uS (uS (uS (uS (uS S2 93 33 (se + 1)) 93 47 (nI j)) 93 43 0) 93 40 0) 93 39 1 93 39 = nI 1 := by rw [uS_self]; rfl
        have v44 : uS (uS (uS (uS (uS S2 93 33 (se + 1)) 93 47 (nI j)) 93 43 0) 93 40 0) 93 39 1 93 44 = nI (1 - 0) := by rw [uS_ne (by decide), uS_ne (by decide), uS_ne (by decide), uS_ne (by decide), uS_ne (by decide), k21]; rfl
        have v32 : uS (uS (uS (uS (uS S2 93 33 (se + 1)) 93 47 (nI j)) 93 43 0) 93 40 0) 93 39 1 93 32 = 0 := by rw [uS_ne (by decide), uS_ne (by decide), uS_ne (by decide), uS_ne (by decide), uS_ne (by decide)]; exact k22
        have pre0 : ∀ {t' : Option (Option Value × am_H)}, rn (d + 5) 101 90 [some (.ref 93), some (.int am), some (.int rnd), some (.int day), some (.int (nI j)), l5, l6] [.ref 93] (hs (uS (uS (uS (uS (uS S2 93 33 (se + 1)) 93 47 (nI j)) 93 43 0) 93 40 0) 93 39 1) (sV V2 112 0 1)) = t' → rn (d + 5) 101 10 [some (.ref 93), some (.int am), some (.int rnd), some (.int day), l4, l5, l6] [.ref 93] (hs S V) = t' := by
          intro t' ht'
          rw [← ht']
          simp only [x_Mod_goes_10, x_Mod_goes_13, x_Mod_goes_16, x_Mod_goes_17, x_Mod_goes_20, x_Mod_goes_22, x_Mod_goes_24, x_Mod_goes_27, x_Mod_goes_29, x_Mod_goes_30, x_Mod_goes_33, x_Mod_goes_34, x_Mod_goes_37, x_Mod_goes_38, x_Mod_goes_39, x_Mod_goes_40, x_Mod_goes_41, x_Mod_goes_43, x_Mod_goes_46, x_Mod_goes_49, x_Mod_goes_50, x_Mod_goes_51, x_Mod_goes_52, x_Mod_goes_52', x_Mod_goes_53, x_Mod_goes_56, x_Mod_goes_57, x_Mod_goes_58, x_Mod_goes_61, x_Mod_goes_62, x_Mod_goes_64, x_Mod_goes_67, x_Mod_goes_68, x_Mod_goes_69, x_Mod_goes_72, x_Mod_goes_73, x_Mod_goes_74, x_Mod_goes_77, x_Mod_goes_78, x_Mod_goes_81, x_Mod_goes_82, x_Mod_goes_83, x_Mod_goes_84, x_Mod_goes_85, x_Mod_goes_86, x_Mod_goes_89, g_93_25, c25, if_true, if_false, i_93, ea, fe, nj, e2, show b2i true = 1 from rfl, (by decide : ¬ (1 : Int32) = 0), g_93_33, s33, p_93_33, p_93_47, p_93_43, p_93_40, g_93_35, sv, p_93_39, ac_0, ac_i, ac_r, ac_ii, ac_ir, ac_ri, ac_rr, ac_iii, ac_iir, ac_iri, ac_irr, ac_rii, ac_rir, ac_rri, ac_rrr, Option.bind_some, Option.toList_some, Option.toList_none, List.nil_append, List.cons_append, not_false_eq_true]
        generalize uS (uS (uS (uS (uS S2 93 33 (se + 1)) 93 47 (nI j)) 93 43 0) 93 40 0) 93 39 1 = S4 at X4 Q4 G4 v47 v43 v40 v39 v44 v32 pre0
        generalize sV V2 112 0 1 = V4 at X4 Q4 G4 P4 pre0
        obtain ⟨S5, V5, e5, X5, k5, F5⟩ := ev_talk (d := d) (t := 0) (z := sz C j) (cmd := [1]) (ans := [C j 4]) hj z6 z3 z16 ⟨by decide, by decide, fun h => absurd h (by decide), fun h => absurd h (by decide)⟩ (by show 1 ≤ 24; decide) okc_1 (exe_1 C R j) lF hR (H j hj).1.2.2.2.2.2 X4 LC (aux_340 JC f4 hJ) v32 (by decide) v43 v44 v40 v47 v39 P4
        obtain ⟨LT, JT, tT, pT⟩ := tk_L (F := F) (L := 1) (n := 1) (z := sz C j) z3 340 J2 0 0 0 5 0 0 ⟨by decide, Or.inl ⟨rfl, Or.inl rfl, by decide⟩⟩ LC (aux_340 JC f4 hJ)
        have G5 := G4.trans (taS_km F5)
        have p47 : S5 93 47 = nI j := (F5.1 _ _ (by unfold taS; omega)).trans v47
        have pre : ∀ {t' : Option (Option Value × am_H)}, rn (d + 5) 101 93 [some (.ref 93), some (.int am), some (.int rnd), some (.int day), some (.int (nI j)), l5, l6] [.int (b2i (tk F 1 (sz C j) 1 340 J2 0 0 0 5 0 0).1)] (hs S5 V5) = t' → rn (d + 5) 101 10 [some (.ref 93), some (.int am), some (.int rnd), some (.int day), l4, l5, l6] [.ref 93] (hs S V) = t' := by
          intro t' ht'
          rw [← ht']
          apply pre0
          have e5' : ev (d + 4) 94 [.ref 93] (hs S4 V4) = some (some (.int (b2i (tk F 1 (sz C j) 1 340 J2 0 0 0 5 0 0).1)), hs S5 V5) := e5
          simp only [x_Mod_goes_90, i_93, e5', ac_0, ac_i, ac_r, ac_ii, ac_ir, ac_ri, ac_rr, ac_iii, ac_iir, ac_iri, ac_irr, ac_rii, ac_rir, ac_rri, ac_rrr, Option.bind_some, Option.toList_some, Option.toList_none, List.nil_append, List.cons_append, not_false_eq_true]
        have X5' : MX S5 V5 (cph C (uS C j 11 (C j 11 + 1)) (tk F 1 (sz C j) 1 340 J2 0 0 0 5 0 0).2.2.2) R F (tk F 1 (sz C j) 1 340 J2 0 0 0 5 0 0).2.1 T (mkP b (-1) fi ty ct mx (se + 1) re) := X5
        have k5' : (tk F 1 (sz C j) 1 340 J2 0 0 0 5 0 0).1 = true → S5 93 43 = nI (tk F 1 (sz C j) 1 340 J2 0 0 0 5 0 0).2.2.1 ∧ S5 93 44 = nI (1 - (tk F 1 (sz C j) 1 340 J2 0 0 0 5 0 0).2.2.1) ∧ S5 93 40 = 0 ∧ S5 93 42 = nI [C j 4].length ∧ Px V5 115 [C j 4] ∧ S5 93 32 = 0 := k5
        clear e5 X5 k5
        unfold chr
        generalize tk F 1 (sz C j) 1 340 J2 0 0 0 5 0 0 = q at pre X5' k5' LT JT tT pT
        obtain ⟨ok, J3, t3, ph⟩ := q
        dsimp only at pre X5' k5' LT JT tT pT ⊢
        have c3 : ∀ i, cph C (uS C j 11 (C j 11 + 1)) ph i 3 = C i 3 := fun i => by
          unfold cph
          split
          · exact uS_ne (by omega)
          · rfl
        have c2 : ∀ i, cph C (uS C j 11 (C j 11 + 1)) ph i 2 = C i 2 := fun i => by
          unfold cph
          split
          · exact uS_ne (by omega)
          · rfl
        cases ok with
        | false =>
          simp only [Bool.false_eq_true, if_false]
          refine ⟨S5, V5, none, pre ?_, X5', fun z => absurd z (by decide), G5⟩
          rw [if_neg (by decide)]
          simp only [x_Mod_goes_93, x_Mod_goes_96, x_Mod_goes_97, show b2i false = 0 from rfl, if_true]
          rfl
        | true =>
          simp only [if_true]
          obtain ⟨k51, k52, k53, k54, k55, k56⟩ := k5' rfl
          have g0 : ∀ S : st_S, am_ld (hs S V5) 115 0 0 = some (C j 4) := fun S => k55.ld (k := 0) rfl (by show 0 < 1; decide) (by decide)
          have T5 : S5 93 18 = T 5 := X5'.2.2.2.2.1 5 (by decide)
          have sh : T 5 >>> (C j 4 &&& 31) = am_ush (T 5) (C j 4) := ushr_eq hT ((H j hj).1.2.2.2.2.1 h01).2.1
          by_cases hta : am_ush (T 5) (C j 4) &&& 1 = 1
          · simp only [if_pos hta, if_true]
            have nc : ¬ uS S5 93 25 (nI j) 93 25 < 0 := by rw [uS_self]; exact nj
            refine ⟨uS S5 93 25 (nI j), V5, some (.int (nI j)), pre ?_, ?_, fun _ => ?_, G5.us (by unfold kmS; omega)⟩
            · simp only [x_Mod_goes_93, x_Mod_goes_98, x_Mod_goes_99, x_Mod_goes_102, x_Mod_goes_103, x_Mod_goes_106, x_Mod_goes_107, x_Mod_goes_108, x_Mod_goes_109, x_Mod_goes_110, x_Mod_goes_111, x_Mod_goes_112, x_Mod_goes_115, x_Mod_goes_116, x_Mod_goes_118, x_Mod_goes_121, show b2i true = 1 from rfl, if_false, (by decide : ¬ (1 : Int32) = 0), g_93_18, T5, g_93_38, g0, sh, hta, if_true, p_93_25, x_Mod_goes_136, ac_0, ac_i, ac_r, ac_ii, ac_ir, ac_ri, ac_rr, ac_iii, ac_iir, ac_iri, ac_irr, ac_rii, ac_rir, ac_rri, ac_rrr, Option.bind_some, Option.toList_some, Option.toList_none, List.nil_append, List.cons_append, not_false_eq_true]
              rw [x_Mod_goes_9]
              simp only [x_Mod_goes_10, x_Mod_goes_13, g_93_25, nc, if_false, ac_0, ac_i, ac_r, ac_ii, ac_ir, ac_ri, ac_rr, ac_iii, ac_iir, ac_iri, ac_irr, ac_rii, ac_rir, ac_rri, ac_rrr, Option.bind_some, Option.toList_some, Option.toList_none, List.nil_append, List.cons_append, not_false_eq_true]
            · exact (X5'.setP (k := 1) (v := nI j) (by decide)).congP mkP_1
            · exact ⟨(uS_ne (by decide)).trans p47, (uS_ne (by decide)).trans k51, (uS_ne (by decide)).trans k52, (uS_ne (by decide)).trans k53, (uS_ne (by decide)).trans k56⟩
          · simp only [if_neg hta]
            obtain ⟨S6, V6, e6, X6, k6, F6⟩ := ev_moff (d := d + 3) hj X5' k56 lF LT (aux_346 JT JC f4 hJ)
            rw [c3] at e6 X6 k6
            obtain ⟨LO, JO⟩ := clt_L (F := F) (p := true) (k := 4) (x := C j 3) 3 J3 false LT (aux_346 JT JC f4 hJ)
            have hd1 := clt_hd1 (F := F) (p := true) (k := 4) (x := C j 3) 3 J3 false
            generalize clt F true 4 (C j 3) 3 J3 false = cl at e6 X6 k6 LO JO hd1
            obtain ⟨an6, hd6, J6⟩ := cl
            dsimp only at e6 X6 k6 LO JO hd1 ⊢
            cases an6 with
            | false =>
              simp only [Bool.false_eq_true, if_false]
              refine ⟨S6, V6, none, pre ?_, X6, fun z => absurd z (by decide), G5.trans F6⟩
              rw [if_neg (by decide)]
              simp only [x_Mod_goes_93, x_Mod_goes_98, x_Mod_goes_99, x_Mod_goes_102, x_Mod_goes_103, x_Mod_goes_106, x_Mod_goes_107, x_Mod_goes_108, x_Mod_goes_109, x_Mod_goes_110, x_Mod_goes_111, x_Mod_goes_112, x_Mod_goes_124, x_Mod_goes_125, x_Mod_goes_126, x_Mod_goes_128, x_Mod_goes_131, x_Mod_goes_134, x_Mod_goes_135, show b2i true = 1 from rfl, show b2i false = 0 from rfl, if_false, if_true, (by decide : ¬ (1 : Int32) = 0), g_93_18, T5, g_93_38, g0, sh, hta, i_93, e6, ac_0, ac_i, ac_r, ac_ii, ac_ir, ac_ri, ac_rr, ac_iii, ac_iir, ac_iri, ac_irr, ac_rii, ac_rir, ac_rri, ac_rrr, Option.bind_some, Option.toList_some, Option.toList_none, List.nil_append, List.cons_append, not_false_eq_true]
              rfl
            | true =>
              simp only [if_true]
              have hd' := hd1 rfl
              subst hd'
              rw [if_pos rfl] at X6
              have hrc' : rc (uS (cph C (uS C j 11 (C j 11 + 1)) ph) j 2 0) < m := by
                have := rc_off (C := cph C (uS C j 11 (C j 11 + 1)) ph) hj (by rw [c2]; exact hrd)
                rw [rc_same c2] at this
                omega
              obtain ⟨S7, V7, l7, e7, X7, k7, F7⟩ := ih (uS (cph C (uS C j 11 (C j 11 + 1)) ph) j 2 0) J6 (se + 1) S6 V6 (some (.int (nI j))) hrc' (CI.off (H.ph (H.c11 hj) ph)) X6 (k6 rfl) LO (aux_373 (Nat.le_trans JO (Nat.add_le_add_right JT 3)) JC f4 hJ).1
              refine ⟨S7, V7, l7, pre ?_, X7, k7, (G5.trans F6).trans F7⟩
              rw [← e7]
              simp only [x_Mod_goes_93, x_Mod_goes_98, x_Mod_goes_99, x_Mod_goes_102, x_Mod_goes_103, x_Mod_goes_106, x_Mod_goes_107, x_Mod_goes_108, x_Mod_goes_109, x_Mod_goes_110, x_Mod_goes_111, x_Mod_goes_112, x_Mod_goes_124, x_Mod_goes_125, x_Mod_goes_126, x_Mod_goes_128, x_Mod_goes_131, x_Mod_goes_136, show b2i true = 1 from rfl, if_false, if_true, (by decide : ¬ (1 : Int32) = 0), g_93_18, T5, g_93_38, g0, sh, hta, i_93, e6, ac_0, ac_i, ac_r, ac_ii, ac_ir, ac_ri, ac_rr, ac_iii, ac_iir, ac_iri, ac_irr, ac_rii, ac_rir, ac_rri, ac_rrr, Option.bind_some, Option.toList_some, Option.toList_none, List.nil_append, List.cons_append, not_false_eq_true]
    · simp only [if_neg hj]
      have nz : ¬ (if j = 4 then 3 else 4) = 0 := by split <;> decide
      refine ⟨S1, V1, none, ?_, ?_, fun z => absurd z nz, F1⟩
      · rw [if_neg nz]
        by_cases h4 : j = 4
        · have fe : mEnd j = -1 := by rw [h4]; rfl
          simp only [x_Mod_goes_10, x_Mod_goes_13, x_Mod_goes_16, x_Mod_goes_17, x_Mod_goes_20, x_Mod_goes_22, x_Mod_goes_24, x_Mod_goes_27, x_Mod_goes_29, x_Mod_goes_30, x_Mod_goes_33, x_Mod_goes_34, x_Mod_goes_37, x_Mod_goes_38, g_93_25, c25, if_true, i_93, ea, fe, neg1, ac_0, ac_i, ac_r, ac_ii, ac_ir, ac_ri, ac_rr, ac_iii, ac_iir, ac_iri, ac_irr, ac_rii, ac_rir, ac_rri, ac_rrr, Option.bind_some, Option.toList_some, Option.toList_none, List.nil_append, List.cons_append, not_false_eq_true]
          rw [if_pos h4]; rfl
        · have fe : mEnd j = -2 := by unfold mEnd; rw [if_neg hj, if_neg h4]
          simp only [x_Mod_goes_10, x_Mod_goes_13, x_Mod_goes_16, x_Mod_goes_17, x_Mod_goes_20, x_Mod_goes_22, x_Mod_goes_24, x_Mod_goes_27, x_Mod_goes_29, x_Mod_goes_30, x_Mod_goes_33, x_Mod_goes_34, x_Mod_goes_37, x_Mod_goes_38, g_93_25, c25, if_true, if_false, i_93, ea, fe, (by decide : (-2 : Int32) < 0), (by decide : ¬ (-2 : Int32) = -1), ac_0, ac_i, ac_r, ac_ii, ac_ir, ac_ri, ac_rr, ac_iii, ac_iir, ac_iri, ac_irr, ac_rii, ac_rir, ac_rri, ac_rrr, Option.bind_some, Option.toList_some, Option.toList_none, List.nil_append, List.cons_append, not_false_eq_true]
          rw [if_neg h4]; rfl
      · rw [if_neg nz]; exact X1
end MCH
