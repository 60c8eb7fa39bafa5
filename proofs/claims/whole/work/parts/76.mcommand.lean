/-! a card of the reference obeys -/
def Px (V : st_V) (a : Nat) (xs : List Int32) : Prop := ∃ jk, V a = xs ++ jk
theorem Px.ld {S : st_S} {V : st_V} {a k : Nat} {xs : List Int32} (H : Px V a xs) (h1 : sh_L[a]? = some (.inr (.inl 0))) (hk : k < xs.length) (h2 : k < 2 ^ 31) : am_ld (hs S V) a 0 (nI k) = some (xs.getD k 0) := by
  obtain ⟨jk, e⟩ := H
  rw [ldN h1 h2, e, List.getElem?_append_left hk, List.getElem?_eq_getElem hk]
  simp [List.getD, hk]
theorem Px.sv {V : st_V} {a : Nat} {v : Int32} {xs : List Int32} (H : Px V a xs) (hk : xs.length < (V a).length) : Px (sV V a xs.length v) a (xs ++ [v]) := by
  obtain ⟨jk, e⟩ := H
  cases jk with
  | nil => rw [e] at hk; simp at hk
  | cons x jk => exact ⟨jk, by rw [sV_self, e]; simp⟩
theorem Px.cong {V V' : st_V} {a : Nat} {xs : List Int32} (H : Px V a xs) (h : V' a = V a) : Px V' a xs := by
  obtain ⟨jk, e⟩ := H
  exact ⟨jk, h.trans e⟩
theorem Px.nil (V : st_V) (a : Nat) : Px V a [] := ⟨V a, rfl⟩
theorem Px.take {V : st_V} {a : Nat} {xs : List Int32} (H : Px V a xs) (n : Nat) : Px V a (xs.take n) := by
  obtain ⟨jk, e⟩ := H
  exact ⟨xs.drop n ++ jk, by rw [← List.append_assoc, List.take_append_drop]; exact e⟩
theorem i_nat (x : Int32) : ∃ n, n < 2 ^ 32 ∧ x = nI n := ⟨x.toBitVec.toNat, x.toBitVec.isLt, by
  apply Int32.toBitVec_inj.1
  show x.toBitVec = BitVec.ofNat 32 x.toBitVec.toNat
  simp⟩
theorem ush24 (x : Int32) : am_ush x 24 &&& 255 = am_ush x 24 := by
  obtain ⟨n, hn, rfl⟩ := i_nat x
  have e := ush_N (n := n) (k := 24) hn (by decide)
  have e' : am_ush (nI n) 24 = nI (n / 2 ^ 24) := e
  have hb : n / 2 ^ 24 < 256 := by omega
  rw [e', show (255 : Int32) = nI 255 from rfl, nx_and, show (255 : Nat) = 2 ^ 8 - 1 from rfl, Nat.and_two_pow_sub_one_eq_mod, Nat.mod_eq_of_lt hb]
def olc (cmd : List Int32) : Prop := 0 < cmd.length ∧ cmd.length ≤ 11 ∧ (cmd.getD 0 0 = 3 → 2 ≤ cmd.length) ∧ (cmd.getD 0 0 = 4 → cmd.length = 11)
def koS (a k : Nat) : Prop := a = 93 ∧ k = 41
def koV (a : Nat) : Prop := a = 105 ∨ a = 101 ∨ a = 104 ∨ a = 114
def roS (_a _k : Nat) : Prop := False
def roV (a : Nat) : Prop := a = 114
section MCOM
variable {d : Nat} {S S' : st_S} {V V' : st_V} {j : Nat} {cmd : List Int32} {C C1 : st_S} {R : st_V} {F : List Int32} {J : st_J} {T P : Nat → Int32}
theorem ev_four {i : Nat} (Hc : Px V 113 cmd) (hi : i + 3 < cmd.length) (hL : cmd.length ≤ 11) : ev d 90 [.ref 93, .int (nI i)] (hs S V) = some (some (.int (int4 cmd i)), hs S V) := by
  have a0 := Hc.ld (S := S) (k := i) rfl (by omega) (by omega)
  have a1 := Hc.ld (S := S) (k := i + 1) rfl (by omega) (by omega)
  have a2 := Hc.ld (S := S) (k := i + 2) rfl (by omega) (by omega)
  have a3 := Hc.ld (S := S) (k := i + 3) rfl (by omega) (by omega)
  have n1 : nI i + 1 = nI (i + 1) := nI_add i 1
  have n2 : nI i + 2 = nI (i + 2) := nI_add i 2
  have n3 : nI i + 3 = nI (i + 3) := nI_add i 3
  simp only [e_Mod_four, x_Mod_four_0, x_Mod_four_1, x_Mod_four_4, x_Mod_four_5, x_Mod_four_6, x_Mod_four_8, x_Mod_four_9, x_Mod_four_10, x_Mod_four_13, x_Mod_four_14, x_Mod_four_15, x_Mod_four_16, x_Mod_four_17, x_Mod_four_19, x_Mod_four_20, x_Mod_four_21, x_Mod_four_22, x_Mod_four_25, x_Mod_four_26, x_Mod_four_27, x_Mod_four_28, x_Mod_four_29, x_Mod_four_31, x_Mod_four_32, x_Mod_four_33, x_Mod_four_34, x_Mod_four_37, x_Mod_four_38, x_Mod_four_39, x_Mod_four_40, x_Mod_four_41, x_Mod_four_42, g_93_36, a0, a1, a2, a3, n1, n2, n3, ac_0, ac_i, ac_r, ac_ii, ac_ir, ac_ri, ac_rr, ac_iii, ac_iir, ac_iri, ac_irr, ac_rii, ac_rir, ac_rri, ac_rrr, Option.bind_some, Option.toList_some, Option.toList_none, List.nil_append, List.cons_append, not_false_eq_true]
  rfl
theorem rec_loop {i n : Nat} {rec : List Int32} {l0 : Option Value} (hr : (V 107)[i]? = some (nI rec.length)) (hrec : ∀ k, k < rec.length → (V 106)[24 * i + k]? = rec[k]?) (hi : i < 12) (hn : rec.length ≤ 24) (l114 : (V 114).length = 24) : ∀ (m k : Nat) (V' : st_V), k + m = rec.length → Fm roS roV S V S V' → Px V' 114 (rec.take k) → ∃ V'', rn (d + 1) 91 102 [some (.ref 93), l0, some (.int (nI i)), some (.int (nI k))] [] (hs S V') = some (none, hs S V'') ∧ Fm roS roV S V S V'' ∧ Px V'' 114 rec := by
  intro m
  induction m with
  | zero =>
    intro k V' hk G H
    have hk : k = rec.length := by omega
    subst hk
    have ld : am_ld (hs S V') 107 0 (nI i) = some (nI rec.length) := by rw [ldN rfl (by omega), G.2.1 107 (by unfold roV; omega)]; exact hr
    refine ⟨V', ?_, G, by rw [List.take_length] at H; exact H⟩
    rw [x_Mod_command_102]
    simp only [x_Mod_command_103, x_Mod_command_104, x_Mod_command_107, x_Mod_command_108, x_Mod_command_109, x_Mod_command_135, x_Mod_command_143, g_93_13, ld, ac_0, ac_i, ac_r, ac_ii, ac_ir, ac_ri, ac_rr, ac_iii, ac_iir, ac_iri, ac_irr, ac_rii, ac_rir, ac_rri, ac_rrr, Option.bind_some, Option.toList_some, Option.toList_none, List.nil_append, List.cons_append, not_false_eq_true, nI_nlt (Nat.le_refl rec.length) (by omega : rec.length < 2 ^ 31), if_false]
  | succ m ih =>
    intro k V' hk G H
    have ld : am_ld (hs S V') 107 0 (nI i) = some (nI rec.length) := by rw [ldN rfl (by omega), G.2.1 107 (by unfold roV; omega)]; exact hr
    have hkl : k < rec.length := by omega
    have ld2 : am_ld (hs S V') 106 0 (nI (24 * i + k)) = some rec[k] := by
      rw [ldN rfl (by omega), G.2.1 106 (by unfold roV; omega), hrec k hkl, List.getElem?_eq_getElem hkl]
    have i2 : (24 : Int32) * nI i + nI k = nI (24 * i + k) := by rw [show (24 : Int32) = nI 24 from rfl, pk_mul, nI_add]
    have tl : (rec.take k).length = k := by rw [List.length_take]; omega
    have l' : (V' 114).length = 24 := (G.2.2 114).trans l114
    have sv : am_sv (hs S V') 114 0 (nI k) rec[k] = some (hs S (sV V' 114 k rec[k])) := svN rfl (by omega) (by omega)
    have P' := H.sv (v := rec[k]) (by rw [tl]; omega)
    rw [tl, List.take_append_getElem hkl] at P'
    obtain ⟨V'', e, g, p⟩ := ih (k + 1) (sV V' 114 k rec[k]) (by omega) (G.sv (by unfold roV; omega)) P'
    refine ⟨V'', ?_, g, p⟩
    rw [← e, x_Mod_command_102]
    simp only [x_Mod_command_103, x_Mod_command_104, x_Mod_command_107, x_Mod_command_108, x_Mod_command_109, x_Mod_command_112, x_Mod_command_113, x_Mod_command_116, x_Mod_command_117, x_Mod_command_118, x_Mod_command_121, x_Mod_command_123, x_Mod_command_124, x_Mod_command_125, x_Mod_command_126, x_Mod_command_127, x_Mod_command_128, x_Mod_command_129, x_Mod_command_132, g_93_13, g_93_12, g_93_37, ld, ld2, sv, i2, ac_0, ac_i, ac_r, ac_ii, ac_ir, ac_ri, ac_rr, ac_iii, ac_iir, ac_iri, ac_irr, ac_rii, ac_rir, ac_rri, ac_rrr, Option.bind_some, Option.toList_some, Option.toList_none, List.nil_append, List.cons_append, not_false_eq_true, nI_lt hkl (by omega), if_true, nI_1]
theorem ex_11 (C : st_S) (j : Nat) (v : Int32) (cmd : List Int32) : exT (uS C j 11 v) j cmd = exT C j cmd ∧ exC (uS C j 11 v) j = exC C j ∧ exH (uS C j 11 v) j cmd = exH C j cmd ∧ uS C j 11 v j 10 = C j 10 := by
  have a : ∀ k, k < 11 → uS C j 11 v j k = C j k := fun k hk => uS_ne (by omega)
  have e1 : exT (uS C j 11 v) j cmd = exT C j cmd := by unfold exT; rw [a 8 (by decide), a 9 (by decide), a 10 (by decide)]
  have e2 : exC (uS C j 11 v) j = exC C j := by unfold exC; rw [a 7 (by decide)]
  exact ⟨e1, e2, by unfold exH; rw [e1, e2, a 5 (by decide)], a 10 (by decide)⟩
theorem exC_nat (hq : ∃ q, q < 65536 ∧ C j 7 = nI q) : ∃ m, m < 65536 ∧ exC C j = nI m := by
  obtain ⟨q, hq1, hq2⟩ := hq
  have e1 : (65535 : Int32) = nI 65535 := rfl
  have e : exC C j = nI ((q + 1) &&& 65535) := by
    unfold exC
    rw [hq2, nI_1, e1, nx_and]
  exact ⟨(q + 1) &&& 65535, Nat.lt_succ_of_le Nat.and_le_right, e⟩
theorem exC_sh (hq : ∃ q, q < 65536 ∧ C j 7 = nI q) : exC C j >>> ((8 : Int32) &&& 31) = am_ush (exC C j) 8 := by
  obtain ⟨m, hm, e⟩ := exC_nat hq
  rw [e]
  have a1 := shr_N (n := m) (k := 8) (by omega) (by decide)
  have a2 := ush_N (n := m) (k := 8) (by omega) (by decide)
  exact a1.trans a2.symm
theorem oct4_app (a b c h : Int32) : [a] ++ [b] ++ [c] ++ [am_ush h 24] ++ [am_ush h 16 &&& 255] ++ [am_ush h 8 &&& 255] ++ [h &&& 255] = [a, b, c] ++ oct4 h := rfl
theorem ush0 (x : Int32) : am_ush x 0 = x := by
  obtain ⟨n, hn, e⟩ := i_nat x
  rw [e]
  have := ush_N (n := n) (k := 0) hn (by decide)
  rw [Nat.pow_zero, Nat.div_one] at this
  exact this
theorem ev_mdecide (M : MX S V C R F J T P) (hj : j < 4) (Hc : Px V 113 cmd) (hL : cmd.length = 11) (hq : ∃ q, q < 65536 ∧ C j 7 = nI q) : ∃ V', ev (d + 1) 93 [.ref 93, .int (nI j)] (hs S V) = some (none, hs (uS S 93 41 7) V') ∧ MX (uS S 93 41 7) V' (uS (uS C j 7 (exC C j)) j 10 (dN (C j 10) (exT C j cmd))) R F J T P ∧ Px V' 114 ([exT C j cmd, am_ush (exC C j) 8, exC C j &&& 255] ++ oct4 (exH C j cmd)) ∧ Fm koS koV S V (uS S 93 41 7) V' := by
  have cx := fun k hk => M.1 j hj k hk
  have l101 : (V 101).length = 4 := M.len (by decide)
  have l104 : (V 104).length = 4 := M.len (by decide)
  have l114 : (V 114).length = 24 := M.len (by decide)
  have c1 := Hc.ld (S := S) (k := 1) rfl (by omega) (by omega)
  have f2 := ev_four (d := d) (S := S) (i := 2) Hc (by omega) (by omega)
  have f6 := ev_four (d := d) (S := S) (i := 6) Hc (by omega) (by omega)
  have g7 : am_ld (hs S V) 101 0 (nI j) = some (C j 7) := (ldN rfl (by omega)).trans (cx 7 (by decide))
  have s7 : am_sv (hs S V) 101 0 (nI j) (exC C j) = some (hs S (sV V 101 j (exC C j))) := svN rfl (by omega) (by omega)
  have s7' : am_sv (hs S V) 101 0 (nI j) ((C j 7 + 1) &&& 65535) = some (hs S (sV V 101 j (exC C j))) := s7
  have M1 : MX S (sV V 101 j (exC C j)) (uS C j 7 (exC C j)) R F J T P := M.setC (j := j) (k := 7) (v := exC C j) hj (by decide)
  have F1 : Fm koS koV S V S (sV V 101 j (exC C j)) := (Fm.refl _ _).sv (by unfold koV; omega)
  generalize hV1 : sV V 101 j (exC C j) = V1 at s7 s7' M1 F1
  have d7 : (V1 101)[j]? = some (exC C j) := by rw [← hV1, sV_self, List.getElem?_set_self (by omega)]
  have k8 : am_ld (hs S V1) 102 0 (nI j) = some (C j 8) := by rw [ldN rfl (by omega), ← hV1, sV_ne (by decide)]; exact cx 8 (by decide)
  have k9 : am_ld (hs S V1) 103 0 (nI j) = some (C j 9) := by rw [ldN rfl (by omega), ← hV1, sV_ne (by decide)]; exact cx 9 (by decide)
  have k10 : am_ld (hs S V1) 104 0 (nI j) = some (C j 10) := by rw [ldN rfl (by omega), ← hV1, sV_ne (by decide)]; exact cx 10 (by decide)
  have A : rn (d + 1) 93 0 [some (.ref 93), some (.int (nI j)), none, none, none, none, none] [] (hs S V) = rn (d + 1) 93 72 [some (.ref 93), some (.int (nI j)), some (.int (exT C j cmd)), some (.int (int4 cmd 2)), some (.int (int4 cmd 6)), none, none] [] (hs S V1) := by
    have c1' : am_ld (hs S V) 113 0 1 = some (cmd.getD 1 0) := c1
    have f2' : ev d 90 [.ref 93, .int 2] (hs S V) = some (some (.int (int4 cmd 2)), hs S V) := f2
    have f6' : ev d 90 [.ref 93, .int 6] (hs S V) = some (some (.int (int4 cmd 6)), hs S V) := f6
    simp only [x_Mod_decide_0, x_Mod_decide_1, x_Mod_decide_4, x_Mod_decide_5, x_Mod_decide_6, x_Mod_decide_7, x_Mod_decide_8, x_Mod_decide_9, x_Mod_decide_12, x_Mod_decide_13, x_Mod_decide_14, x_Mod_decide_16, x_Mod_decide_19, x_Mod_decide_21, x_Mod_decide_22, x_Mod_decide_25, x_Mod_decide_26, x_Mod_decide_27, x_Mod_decide_30, x_Mod_decide_31, x_Mod_decide_32, x_Mod_decide_33, x_Mod_decide_34, x_Mod_decide_36, x_Mod_decide_37, x_Mod_decide_38, x_Mod_decide_39, x_Mod_decide_40, x_Mod_decide_43, x_Mod_decide_44, x_Mod_decide_45, x_Mod_decide_48, x_Mod_decide_49, x_Mod_decide_50, x_Mod_decide_51, x_Mod_decide_52, x_Mod_decide_55, x_Mod_decide_56, x_Mod_decide_59, x_Mod_decide_60, x_Mod_decide_61, x_Mod_decide_62, x_Mod_decide_65, x_Mod_decide_66, x_Mod_decide_67, x_Mod_decide_70, x_Mod_decide_71, g_93_36, c1', i_93, f2', f6', g_93_7, g7, s7', g_93_8, k8, g_93_9, k9, g_93_10, k10, ac_0, ac_i, ac_r, ac_ii, ac_ir, ac_ri, ac_rr, ac_iii, ac_iir, ac_iri, ac_irr, ac_rii, ac_rir, ac_rri, ac_rrr, Option.bind_some, Option.toList_some, Option.toList_none, List.nil_append, List.cons_append, not_false_eq_true]
    unfold exT dT
    by_cases h1 : C j 8 < int4 cmd 2
    · simp only [if_pos h1, (by decide : ¬ (0 : Int32) = 2), if_false]
    · simp only [if_neg h1]
      by_cases h2 : cmd.getD 1 0 = 2
      · by_cases h3 : C j 10 < C j 9
        · rw [if_pos h2, if_pos h3, if_neg (fun z => z.2 h3)]
        · rw [if_pos h2, if_neg h3, if_pos ⟨h2, h3⟩]
      · rw [if_neg h2, if_neg (fun z => h2 z.1)]
  have B : ∃ V2, rn (d + 1) 93 72 [some (.ref 93), some (.int (nI j)), some (.int (exT C j cmd)), some (.int (int4 cmd 2)), some (.int (int4 cmd 6)), none, none] [] (hs S V1) = rn (d + 1) 93 99 [some (.ref 93), some (.int (nI j)), some (.int (exT C j cmd)), some (.int (int4 cmd 2)), some (.int (int4 cmd 6)), none, none] [] (hs S V2) ∧ MX S V2 (uS (uS C j 7 (exC C j)) j 10 (dN (C j 10) (exT C j cmd))) R F J T P ∧ Fm koS koV S V S V2 := by
    have sv : ∀ v, am_sv (hs S V1) 104 0 (nI j) v = some (hs S (sV V1 104 j v)) := fun v => svN rfl (by rw [F1.2.2]; omega) (by omega)
    by_cases h2 : exT C j cmd = 2
    · refine ⟨sV V1 104 j (C j 10 + 1), ?_, ?_, F1.sv (by unfold koV; omega)⟩
      · simp only [x_Mod_decide_72, x_Mod_decide_73, x_Mod_decide_74, x_Mod_decide_77, x_Mod_decide_78, x_Mod_decide_81, x_Mod_decide_82, x_Mod_decide_82', x_Mod_decide_83, x_Mod_decide_84, x_Mod_decide_85, x_Mod_decide_86, x_Mod_decide_87, x_Mod_decide_88, x_Mod_decide_89, x_Mod_decide_92, x_Mod_decide_93, x_Mod_decide_96, x_Mod_decide_97, x_Mod_decide_98, h2, if_true, if_false, (by decide : ¬ (2 : Int32) = 1), g_93_10, k10, sv, ac_0, ac_i, ac_r, ac_ii, ac_ir, ac_ri, ac_rr, ac_iii, ac_iir, ac_iri, ac_irr, ac_rii, ac_rir, ac_rri, ac_rrr, Option.bind_some, Option.toList_some, Option.toList_none, List.nil_append, List.cons_append, not_false_eq_true]
      · unfold dN; rw [if_pos h2]; exact M1.setC (j := j) (k := 10) hj (by decide)
    · by_cases h1 : exT C j cmd = 1
      · refine ⟨sV V1 104 j 0, ?_, ?_, F1.sv (by unfold koV; omega)⟩
        · simp only [x_Mod_decide_72, x_Mod_decide_73, x_Mod_decide_74, x_Mod_decide_77, x_Mod_decide_78, x_Mod_decide_81, x_Mod_decide_82, x_Mod_decide_82', x_Mod_decide_83, x_Mod_decide_84, x_Mod_decide_85, x_Mod_decide_86, x_Mod_decide_87, x_Mod_decide_88, x_Mod_decide_89, x_Mod_decide_92, x_Mod_decide_93, x_Mod_decide_96, x_Mod_decide_97, x_Mod_decide_98, h1, if_true, if_false, (by decide : ¬ (1 : Int32) = 2), g_93_10, sv, ac_0, ac_i, ac_r, ac_ii, ac_ir, ac_ri, ac_rr, ac_iii, ac_iir, ac_iri, ac_irr, ac_rii, ac_rir, ac_rri, ac_rrr, Option.bind_some, Option.toList_some, Option.toList_none, List.nil_append, List.cons_append, not_false_eq_true]
        · unfold dN; rw [if_neg h2, if_pos h1]; exact M1.setC (j := j) (k := 10) hj (by decide)
      · refine ⟨V1, ?_, ?_, F1⟩
        · simp only [x_Mod_decide_72, x_Mod_decide_73, x_Mod_decide_74, x_Mod_decide_77, x_Mod_decide_78, x_Mod_decide_81, x_Mod_decide_82, x_Mod_decide_82', x_Mod_decide_83, x_Mod_decide_84, x_Mod_decide_85, x_Mod_decide_86, x_Mod_decide_87, x_Mod_decide_88, x_Mod_decide_89, x_Mod_decide_92, x_Mod_decide_93, x_Mod_decide_96, x_Mod_decide_97, x_Mod_decide_98, h1, h2, if_false]
        · unfold dN
          rw [if_neg h2, if_neg h1, uS_same (S := uS C j 7 (exC C j)) (a := j) (k := 10) (uS_ne (by omega)).symm]
          exact M1
  obtain ⟨V2, eB, M2, F2⟩ := B
  have cy : ∀ k, k < 12 → ¬ k = 7 → ¬ k = 10 → (V2 (94 + k))[j]? = some (C j k) := fun k hk h7 h10 => (M2.1 j hj k hk).trans (by rw [uS_ne (by omega), uS_ne (by omega)])
  have y5 : am_ld (hs S V2) 99 0 (nI j) = some (C j 5) := (ldN rfl (by omega)).trans (cy 5 (by decide) (by decide) (by decide))
  have y7 : ∀ V', V' 101 = V2 101 → am_ld (hs S V') 101 0 (nI j) = some (exC C j) := fun V' h => (ldN rfl (by omega)).trans (by rw [h]; exact (M2.1 j hj 7 (by decide)).trans (by rw [uS_ne (by omega), uS_self]))
  have Hc2 : Px V2 113 cmd := Hc.cong (F2.2.1 _ (by unfold koV; omega))
  have c10 : am_ld (hs S V2) 113 0 10 = some (cmd.getD 10 0) := Hc2.ld (S := S) (k := 10) rfl (by omega) (by omega)
  have L114 : (V2 114).length = 24 := (F2.2.2 _).trans l114
  -- the answer
  have P3 : Px (sV V2 114 0 (exT C j cmd)) 114 [exT C j cmd] := (Px.nil V2 114).sv (by rw [L114]; decide)
  have F3 : Fm koS koV S V S (sV V2 114 0 (exT C j cmd)) := F2.sv (by unfold koV; omega)
  have Q3 : Fm pmS pmV S V2 S (sV V2 114 0 (exT C j cmd)) := (Fm.refl _ _).sv (by unfold pmV; omega)
  have z3 : ∀ v, am_sv (hs S V2) 114 0 0 v = some (hs S (sV V2 114 0 v)) := fun v => svN (j := 0) rfl (by omega) (by omega)
  have w3 : (sV V2 114 0 (exT C j cmd)) 101 = V2 101 := sV_ne (by decide)
  have z3' := z3 (exT C j cmd)
  generalize sV V2 114 0 (exT C j cmd) = V3 at P3 F3 Q3 z3' w3
  have step : ∀ {V' : st_V} {xs : List Int32} (v : Int32), Px V' 114 xs → Fm koS koV S V S V' → Fm pmS pmV S V2 S V' → ∀ n, xs.length = n → n < 24 → V' 101 = V2 101 → ∃ V'', am_sv (hs S V') 114 0 (nI n) v = some (hs S V'') ∧ Px V'' 114 (xs ++ [v]) ∧ Fm koS koV S V S V'' ∧ Fm pmS pmV S V2 S V'' ∧ V'' 101 = V2 101 := fun {V' xs} v p f g n hn hl h => ⟨sV V' 114 n v, svN rfl (by rw [f.2.2]; omega) (by omega), by subst hn; exact p.sv (by rw [f.2.2]; omega), f.sv (by unfold koV; omega), g.sv (by unfold pmV; omega), (sV_ne (by decide)).trans h⟩
  obtain ⟨V4, z4, P4, F4, Q4, w4⟩ := step (am_ush (exC C j) 8) P3 F3 Q3 1 rfl (by decide) w3
  obtain ⟨V5, z5, P5, F5, Q5, w5⟩ := step (exC C j &&& 255) P4 F4 Q4 2 rfl (by decide) w4
  obtain ⟨V6, z6, P6, F6, Q6, w6⟩ := step (am_ush (exH C j cmd) 24) P5 F5 Q5 3 rfl (by decide) w5
  obtain ⟨V7, z7, P7, F7, Q7, w7⟩ := step (am_ush (exH C j cmd) 16 &&& 255) P6 F6 Q6 4 rfl (by decide) w6
  obtain ⟨V8, z8, P8, F8, Q8, w8⟩ := step (am_ush (exH C j cmd) 8 &&& 255) P7 F7 Q7 5 rfl (by decide) w7
  obtain ⟨V9, z9, P9, F9, Q9, w9⟩ := step (exH C j cmd &&& 255) P8 F8 Q8 6 rfl (by decide) w8
  have sh := exC_sh hq
  refine ⟨V9, ?_, ?_, by rw [← oct4_app]; exact P9, F9.us (by unfold koS; omega)⟩
  · have z4' : am_sv (hs S V3) 114 0 1 (am_ush (exC C j) 8) = some (hs S V4) := z4
    have z5' : am_sv (hs S V4) 114 0 2 (exC C j &&& 255) = some (hs S V5) := z5
    have z6' : am_sv (hs S V5) 114 0 3 (am_ush (exH C j cmd) 24) = some (hs S V6) := z6
    have z7' : am_sv (hs S V6) 114 0 4 (am_ush (exH C j cmd) 16 &&& 255) = some (hs S V7) := z7
    have z8' : am_sv (hs S V7) 114 0 5 (am_ush (exH C j cmd) 8 &&& 255) = some (hs S V8) := z8
    have z9' : am_sv (hs S V8) 114 0 6 (exH C j cmd &&& 255) = some (hs S V9) := z9
    have hH : stir (stir (stir (stir (stir (C j 5) (exT C j cmd)) (exC C j)) (int4 cmd 2)) (int4 cmd 6)) (cmd.getD 10 0) = exH C j cmd := rfl
    have u0 := ush0 (exH C j cmd)
    rw [e_Mod_decide, A, eB]
    simp only [x_Mod_decide_99, x_Mod_decide_100, x_Mod_decide_103, x_Mod_decide_104, x_Mod_decide_105, x_Mod_decide_106, x_Mod_decide_109, x_Mod_decide_111, x_Mod_decide_113, x_Mod_decide_114, x_Mod_decide_117, x_Mod_decide_118, x_Mod_decide_119, x_Mod_decide_122, x_Mod_decide_124, x_Mod_decide_126, x_Mod_decide_127, x_Mod_decide_130, x_Mod_decide_132, x_Mod_decide_134, x_Mod_decide_136, x_Mod_decide_139, x_Mod_decide_141, x_Mod_decide_143, x_Mod_decide_144, x_Mod_decide_147, x_Mod_decide_149, x_Mod_decide_150, x_Mod_decide_153, x_Mod_decide_155, x_Mod_decide_156, x_Mod_decide_159, x_Mod_decide_160, x_Mod_decide_161, x_Mod_decide_162, x_Mod_decide_163, x_Mod_decide_166, x_Mod_decide_167, x_Mod_decide_168, x_Mod_decide_171, x_Mod_decide_172, x_Mod_decide_173, x_Mod_decide_175, x_Mod_decide_176, x_Mod_decide_177, x_Mod_decide_178, x_Mod_decide_181, x_Mod_decide_182, x_Mod_decide_183, x_Mod_decide_186, x_Mod_decide_187, x_Mod_decide_188, x_Mod_decide_191, x_Mod_decide_192, x_Mod_decide_193, x_Mod_decide_194, g_93_5, y5, ev_mstir, g_93_7, y7 V2 rfl, g_93_36, c10, hH, g_93_37, z3', y7 V3 w3, sh, z4', y7 V4 w4, z5', ac_0, ac_i, ac_r, ac_ii, ac_ir, ac_ri, ac_rr, ac_iii, ac_iir, ac_iri, ac_irr, ac_rii, ac_rir, ac_rri, ac_rrr, Option.bind_some, Option.toList_some, Option.toList_none, List.nil_append, List.cons_append, not_false_eq_true]
    rw [x_Mod_decide_196]
    simp only [x_Mod_decide_198, x_Mod_decide_199, x_Mod_decide_202, x_Mod_decide_203, x_Mod_decide_206, x_Mod_decide_207, x_Mod_decide_209, x_Mod_decide_210, x_Mod_decide_212, x_Mod_decide_214, x_Mod_decide_216, x_Mod_decide_218, x_Mod_decide_219, x_Mod_decide_220, x_Mod_decide_221, x_Mod_decide_224, x_Mod_decide_225, x_Mod_decide_226, x_Mod_decide_229, g_93_37, (by decide : (0 : Int32) < 4), (by decide : (3 : Int32) + 0 = 3), (by decide : (24 : Int32) - 8 * 0 = 24), ush24, z6', if_true, ac_0, ac_i, ac_r, ac_ii, ac_ir, ac_ri, ac_rr, ac_iii, ac_iir, ac_iri, ac_irr, ac_rii, ac_rir, ac_rri, ac_rrr, Option.bind_some, Option.toList_some, Option.toList_none, List.nil_append, List.cons_append, not_false_eq_true, (by decide : (0 : Int32) + 1 = 1)]
    rw [x_Mod_decide_196]
    simp only [x_Mod_decide_198, x_Mod_decide_199, x_Mod_decide_202, x_Mod_decide_203, x_Mod_decide_206, x_Mod_decide_207, x_Mod_decide_209, x_Mod_decide_210, x_Mod_decide_212, x_Mod_decide_214, x_Mod_decide_216, x_Mod_decide_218, x_Mod_decide_219, x_Mod_decide_220, x_Mod_decide_221, x_Mod_decide_224, x_Mod_decide_225, x_Mod_decide_226, x_Mod_decide_229, g_93_37, (by decide : (1 : Int32) < 4), (by decide : (3 : Int32) + 1 = 4), (by decide : (24 : Int32) - 8 * 1 = 16), z7', if_true, ac_0, ac_i, ac_r, ac_ii, ac_ir, ac_ri, ac_rr, ac_iii, ac_iir, ac_iri, ac_irr, ac_rii, ac_rir, ac_rri, ac_rrr, Option.bind_some, Option.toList_some, Option.toList_none, List.nil_append, List.cons_append, not_false_eq_true, (by decide : (1 : Int32) + 1 = 2)]
    rw [x_Mod_decide_196]
    simp only [x_Mod_decide_198, x_Mod_decide_199, x_Mod_decide_202, x_Mod_decide_203, x_Mod_decide_206, x_Mod_decide_207, x_Mod_decide_209, x_Mod_decide_210, x_Mod_decide_212, x_Mod_decide_214, x_Mod_decide_216, x_Mod_decide_218, x_Mod_decide_219, x_Mod_decide_220, x_Mod_decide_221, x_Mod_decide_224, x_Mod_decide_225, x_Mod_decide_226, x_Mod_decide_229, g_93_37, (by decide : (2 : Int32) < 4), (by decide : (3 : Int32) + 2 = 5), (by decide : (24 : Int32) - 8 * 2 = 8), z8', if_true, ac_0, ac_i, ac_r, ac_ii, ac_ir, ac_ri, ac_rr, ac_iii, ac_iir, ac_iri, ac_irr, ac_rii, ac_rir, ac_rri, ac_rrr, Option.bind_some, Option.toList_some, Option.toList_none, List.nil_append, List.cons_append, not_false_eq_true, (by decide : (2 : Int32) + 1 = 3)]
    rw [x_Mod_decide_196]
    simp only [x_Mod_decide_198, x_Mod_decide_199, x_Mod_decide_202, x_Mod_decide_203, x_Mod_decide_206, x_Mod_decide_207, x_Mod_decide_209, x_Mod_decide_210, x_Mod_decide_212, x_Mod_decide_214, x_Mod_decide_216, x_Mod_decide_218, x_Mod_decide_219, x_Mod_decide_220, x_Mod_decide_221, x_Mod_decide_224, x_Mod_decide_225, x_Mod_decide_226, x_Mod_decide_229, g_93_37, (by decide : (3 : Int32) < 4), (by decide : (3 : Int32) + 3 = 6), (by decide : (24 : Int32) - 8 * 3 = 0), u0, z9', if_true, ac_0, ac_i, ac_r, ac_ii, ac_ir, ac_ri, ac_rr, ac_iii, ac_iir, ac_iri, ac_irr, ac_rii, ac_rir, ac_rri, ac_rrr, Option.bind_some, Option.toList_some, Option.toList_none, List.nil_append, List.cons_append, not_false_eq_true, (by decide : (3 : Int32) + 1 = 4)]
    rw [x_Mod_decide_196]
    simp only [x_Mod_decide_198, x_Mod_decide_199, x_Mod_decide_232, x_Mod_decide_233, x_Mod_decide_235, x_Mod_decide_238, (by decide : ¬ (4 : Int32) < 4), if_false, p_93_41, ac_0, ac_i, ac_r, ac_ii, ac_ir, ac_ri, ac_rr, ac_iii, ac_iir, ac_iri, ac_irr, ac_rii, ac_rir, ac_rri, ac_rrr, Option.bind_some, Option.toList_some, Option.toList_none, List.nil_append, List.cons_append, not_false_eq_true]
  · exact M2.fm (Q9.us (by unfold pmS; omega))
end MCOM
