/-! the reference: a command is obeyed; a block is heard -/
section MHEAR
variable {d : Nat} {S S' : st_S} {V V' : st_V} {j z ph kd o fr t : Nat} {cmd ans : List Int32} {C C1 : st_S} {R : st_V} {F : List Int32} {J : st_J} {T P : Nat → Int32}
theorem ev_command (M : MX S V C R F J T P) (hj : j < 4) (h47 : S 93 47 = nI j) (Hc : Px V 113 cmd) (hl : olc cmd) (hc : okc cmd) (hR : ∀ i, i < 12 → (R i).length ≤ 24) (hq : ∃ q, q < 65536 ∧ C j 7 = nI q) : ∃ S' V', ev (d + 2) 91 [.ref 93] (hs S V) = some (none, hs S' V') ∧ MX S' V' (exe C R j cmd).1 R F J T P ∧ S' 93 41 = nI (exe C R j cmd).2.length ∧ Px V' 114 (exe C R j cmd).2 ∧ Fm koS koV S V S' V' := by
  have l105 : (V 105).length = 4 := M.len (by decide)
  have l114 : (V 114).length = 24 := M.len (by decide)
  have g11 : am_ld (hs S V) 105 0 (nI j) = some (C j 11) := (ldN rfl (by omega)).trans (M.1 j hj 11 (by decide))
  have s11 : am_sv (hs S V) 105 0 (nI j) (C j 11 + 1) = some (hs S (sV V 105 j (C j 11 + 1))) := svN rfl (by omega) (by omega)
  have M1 : MX S (sV V 105 j (C j 11 + 1)) (uS C j 11 (C j 11 + 1)) R F J T P := M.setC (j := j) (k := 11) hj (by decide)
  have M2 : MX (uS S 93 41 1) (sV V 105 j (C j 11 + 1)) (uS C j 11 (C j 11 + 1)) R F J T P := M1.fm ((Fm.refl _ _).us (by unfold pmS; omega))
  have F2 : Fm koS koV S V (uS S 93 41 1) (sV V 105 j (C j 11 + 1)) := ((Fm.refl _ _).sv (by unfold koV; omega)).us (by unfold koS; omega)
  have H2 : Px (sV V 105 j (C j 11 + 1)) 113 cmd := Hc.cong (sV_ne (by decide))
  have S41 : uS S 93 41 1 93 41 = 1 := uS_self _ _ _ _
  obtain ⟨x1, x2, x3, x4⟩ := ex_11 C j (C j 11 + 1) cmd
  have C7 : uS C j 11 (C j 11 + 1) j 7 = C j 7 := uS_ne (by omega)
  have C4 : uS C j 11 (C j 11 + 1) j 4 = C j 4 := uS_ne (by omega)
  generalize hS2 : uS S 93 41 1 = S2 at M2 F2 S41
  generalize hV2 : sV V 105 j (C j 11 + 1) = V2 at s11 M2 F2 H2
  have c0 : am_ld (hs S2 V2) 113 0 0 = some (cmd.getD 0 0) := H2.ld (k := 0) rfl hl.1 (by decide)
  have L114 : (V2 114).length = 24 := (F2.2.2 _).trans l114
  have head : ∀ {t : Option (Option Value × am_H)}, rn (d + 2) 91 26 [some (.ref 93), some (.int (nI j)), none, none] [.int (cmd.getD 0 0)] (hs S2 V2) = t → ev (d + 2) 91 [.ref 93] (hs S V) = t := by
    intro t ht
    rw [← ht]
    simp only [e_Mod_command, x_Mod_command_0, x_Mod_command_1, x_Mod_command_4, x_Mod_command_5, x_Mod_command_6, x_Mod_command_9, x_Mod_command_10, x_Mod_command_10', x_Mod_command_11, x_Mod_command_12, x_Mod_command_13, x_Mod_command_14, x_Mod_command_15, x_Mod_command_16, x_Mod_command_17, x_Mod_command_20, x_Mod_command_21, x_Mod_command_24, x_Mod_command_25, g_93_47, h47, g_93_11, g11, s11, p_93_41, hS2, g_93_36, c0, ac_0, ac_i, ac_r, ac_ii, ac_ir, ac_ri, ac_rr, ac_iii, ac_iir, ac_iri, ac_irr, ac_rii, ac_rir, ac_rri, ac_rrr, Option.bind_some, Option.toList_some, Option.toList_none, List.nil_append, List.cons_append, not_false_eq_true]
  have sv0 : ∀ v, am_sv (hs S2 V2) 114 0 0 v = some (hs S2 (sV V2 114 0 v)) := fun v => svN (j := 0) rfl (by omega) (by decide)
  have one : ∀ v, MX S2 (sV V2 114 0 v) (uS C j 11 (C j 11 + 1)) R F J T P ∧ S2 93 41 = nI [v].length ∧ Px (sV V2 114 0 v) 114 [v] ∧ Fm koS koV S V S2 (sV V2 114 0 v) := fun v => ⟨M2.fm ((Fm.refl _ _).sv (by unfold pmV; omega)), S41, (Px.nil V2 114).sv (by show 0 < (V2 114).length; omega), F2.sv (by unfold koV; omega)⟩
  have hR2 := fun i hi => M2.2.1 i hi
  unfold exe
  rcases hc with h | h | ⟨h, r, hr, h1⟩ | h
  · rw [if_pos h]
    obtain ⟨o1, o2, o3, o4⟩ := one (C j 4)
    refine ⟨S2, _, head ?_, o1, o2, o3, o4⟩
    have g4 : am_ld (hs S2 V2) 98 0 (nI j) = some (C j 4) := (ldN rfl (by omega)).trans ((M2.1 j hj 4 (by decide)).trans (by rw [C4]))
    rw [h]
    simp only [x_Mod_command_26, x_Mod_command_27, x_Mod_command_30, x_Mod_command_31, x_Mod_command_34, x_Mod_command_35, x_Mod_command_36, x_Mod_command_39, x_Mod_command_40, x_Mod_command_41, x_Mod_command_42, x_Mod_command_143, if_true, g_93_37, g_93_4, g4, sv0, ac_0, ac_i, ac_r, ac_ii, ac_ir, ac_ri, ac_rr, ac_iii, ac_iir, ac_iri, ac_irr, ac_rii, ac_rir, ac_rri, ac_rrr, Option.bind_some, Option.toList_some, Option.toList_none, List.nil_append, List.cons_append, not_false_eq_true]
  · rw [if_neg (by rw [h]; decide), if_pos h]
    obtain ⟨o1, o2, o3, o4⟩ := one (cnt3 (nI (R (3 * j)).length) (nI (R (3 * j + 1)).length) (nI (R (3 * j + 2)).length))
    refine ⟨S2, _, head ?_, o1, o2, o3, o4⟩
    have em := ev_manyOf (d := d + 1) (S := S2) (V := V2) hj (hR2 (3 * j) (by omega)).1 (hR2 (3 * j + 1) (by omega)).1 (hR2 (3 * j + 2) (by omega)).1 (hR _ (by omega)) (hR _ (by omega)) (hR _ (by omega))
    rw [h]
    rw [h] at c0
    simp only [x_Mod_command_26, x_Mod_command_27, x_Mod_command_45, x_Mod_command_46, x_Mod_command_49, x_Mod_command_50, x_Mod_command_51, x_Mod_command_52, x_Mod_command_55, x_Mod_command_56, x_Mod_command_59, x_Mod_command_60, x_Mod_command_61, x_Mod_command_62, x_Mod_command_65, x_Mod_command_66, x_Mod_command_143, if_true, if_false, (by decide : ¬ (2 : Int32) = 1), g_93_36, c0, g_93_37, i_93, em, sv0, ac_0, ac_i, ac_r, ac_ii, ac_ir, ac_ri, ac_rr, ac_iii, ac_iir, ac_iri, ac_irr, ac_rii, ac_rir, ac_rri, ac_rrr, Option.bind_some, Option.toList_some, Option.toList_none, List.nil_append, List.cons_append, not_false_eq_true]
  · rw [if_neg (by rw [h]; decide), if_neg (by rw [h]; decide), if_pos h, h1, nI_clamp (by omega)]
    have hi : 3 * j + r < 12 := by omega
    obtain ⟨q1, q2⟩ := hR2 (3 * j + r) hi
    have ix : (3 : Int32) * nI j + nI r = nI (3 * j + r) := ix3 j r
    have c1 : am_ld (hs S2 V2) 113 0 1 = some (nI r) := (H2.ld (k := 1) rfl (hl.2.2.1 h) (by decide)).trans (by rw [h1])
    have ll : am_ld (hs S2 V2) 107 0 (nI (3 * j + r)) = some (nI (R (3 * j + r)).length) := (ldN rfl (by omega)).trans q1
    have F3 : Fm koS koV S V (uS S2 93 41 (nI (R (3 * j + r)).length)) V2 := F2.us (by unfold koS; omega)
    have M3 : MX (uS S2 93 41 (nI (R (3 * j + r)).length)) V2 (uS C j 11 (C j 11 + 1)) R F J T P := M2.fm ((Fm.refl _ _).us (by unfold pmS; omega))
    have k41 : uS S2 93 41 (nI (R (3 * j + r)).length) 93 41 = nI (R (3 * j + r)).length := uS_self _ _ _ _
    have pu : am_put (hs S2 V2) 93 9 41 (.int (nI (R (3 * j + r)).length)) = some (hs (uS S2 93 41 (nI (R (3 * j + r)).length)) V2) := p_93_41
    generalize uS S2 93 41 (nI (R (3 * j + r)).length) = S3 at F3 M3 k41 pu
    obtain ⟨V4, e4, G4, P4⟩ := rec_loop (d := d + 1) (S := S3) (V := V2) (i := 3 * j + r) (n := 0) (rec := R (3 * j + r)) (l0 := some (.int (nI j))) q1 q2 hi (hR _ hi) L114 (R (3 * j + r)).length 0 V2 (by omega) (Fm.refl _ _) (Px.nil _ _)
    rw [nI_0] at e4
    have M4 : MX S3 V4 (uS C j 11 (C j 11 + 1)) R F J T P := M3.fm (G4.mono (fun a k z => by cases z) (fun a z => by unfold roV at z; unfold pmV; omega))
    refine ⟨S3, V4, head ?_, M4, k41, P4, F3.trans (G4.mono (fun a k z => by cases z) (fun a z => by unfold roV at z; unfold koV; omega))⟩
    rw [h]
    rw [h] at c0
    simp only [x_Mod_command_26, x_Mod_command_27, x_Mod_command_45, x_Mod_command_46, x_Mod_command_49, x_Mod_command_50, x_Mod_command_51, x_Mod_command_52, x_Mod_command_69, x_Mod_command_70, x_Mod_command_73, x_Mod_command_74, x_Mod_command_75, x_Mod_command_76, x_Mod_command_79, x_Mod_command_80, x_Mod_command_81, x_Mod_command_82, x_Mod_command_83, x_Mod_command_86, x_Mod_command_87, x_Mod_command_88, x_Mod_command_89, x_Mod_command_90, x_Mod_command_91, x_Mod_command_92, x_Mod_command_95, x_Mod_command_96, x_Mod_command_97, x_Mod_command_100, x_Mod_command_101, if_true, if_false, (by decide : ¬ (3 : Int32) = 1), (by decide : ¬ (3 : Int32) = 2), g_93_36, g_93_13, c0, c1, ix, ll, pu, ac_0, ac_i, ac_r, ac_ii, ac_ir, ac_ri, ac_rr, ac_iii, ac_iir, ac_iri, ac_irr, ac_rii, ac_rir, ac_rri, ac_rrr, Option.bind_some, Option.toList_some, Option.toList_none, List.nil_append, List.cons_append, not_false_eq_true]
    exact e4
  · rw [if_neg (by rw [h]; decide), if_neg (by rw [h]; decide), if_neg (by rw [h]; decide)]
    obtain ⟨V3, e3, M3, P3, F3⟩ := ev_mdecide (d := d) M2 hj H2 (hl.2.2.2 h) (by rw [C7]; exact hq)
    rw [x1, x2, x4] at M3
    rw [x1, x2, x3] at P3
    refine ⟨uS S2 93 41 7, V3, head ?_, M3, ?_, P3, F2.trans F3⟩
    · rw [h]
      rw [h] at c0
      simp only [x_Mod_command_26, x_Mod_command_27, x_Mod_command_45, x_Mod_command_46, x_Mod_command_49, x_Mod_command_50, x_Mod_command_51, x_Mod_command_52, x_Mod_command_69, x_Mod_command_70, x_Mod_command_73, x_Mod_command_74, x_Mod_command_75, x_Mod_command_76, x_Mod_command_138, x_Mod_command_139, x_Mod_command_140, x_Mod_command_143, if_false, (by decide : ¬ (4 : Int32) = 1), (by decide : ¬ (4 : Int32) = 2), (by decide : ¬ (4 : Int32) = 3), g_93_36, c0, i_93, e3, ac_0, ac_i, ac_r, ac_ii, ac_ir, ac_ri, ac_rr, ac_iii, ac_iir, ac_iri, ac_irr, ac_rii, ac_rir, ac_rri, ac_rrr, Option.bind_some, Option.toList_some, Option.toList_none, List.nil_append, List.cons_append, not_false_eq_true]
    · rw [uS_self]; rfl
end MHEAR
