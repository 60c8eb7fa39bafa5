/-! the reference's card; field on both sides -/
section FIELD
variable {d : Nat} {S : st_S} {V : st_V}
def mcV (V : st_V) (j : Nat) (ad ap ke si : Int32) : st_V := sV (sV (sV (sV (sV (sV (sV (sV (sV (sV (sV (sV (sV (sV V 94 j 1) 95 j 0) 97 j ad) 98 j ap) 99 j ke) 100 j si) 101 j 0) 104 j 0) 105 j 0) 102 j 2147483647) 103 j 255) 107 (3 * j) 0) 107 (3 * j + 1) 0) 107 (3 * j + 2) 0
theorem ev_mcard_no {c ad ap ke si : Int32} (h : is3 c 0 3 = 0 ∨ is3 ad 0 255 = 0 ∨ is3 ap 0 7 = 0 ∨ is3 si 3 16 = 0) : ev (d + 1) 79 [.ref 93, .int c, .int ad, .int ap, .int ke, .int si] (hs S V) = some (some (.int 0), hs S V) := by
  simp only [e_Mod_card, x_Mod_card_0, x_Mod_card_1, x_Mod_card_2, x_Mod_card_3, x_Mod_card_6, x_Mod_card_9, x_Mod_card_10, x_Mod_card_11, x_Mod_card_14, x_Mod_card_17, x_Mod_card_20, x_Mod_card_21, x_Mod_card_22, x_Mod_card_24, x_Mod_card_27, x_Mod_card_30, x_Mod_card_32, x_Mod_card_33, x_Mod_card_35, x_Mod_card_38, x_Mod_card_41, x_Mod_card_42, ev_is, ac_0, ac_i, ac_r, ac_ii, ac_ir, ac_ri, ac_rr, ac_iii, ac_iir, ac_iri, ac_irr, ac_rii, ac_rir, ac_rri, ac_rrr, Option.bind_some, Option.toList_some, Option.toList_none, List.nil_append, List.cons_append, not_false_eq_true, nbz]
  by_cases h1 : is3 c 0 3 = 0
  · rw [if_pos h1]
  · rw [if_neg h1]
    by_cases h2 : is3 ad 0 255 = 0
    · rw [if_pos h2]
    · rw [if_neg h2]
      by_cases h3 : is3 ap 0 7 = 0
      · rw [if_pos h3]
      · rw [if_neg h3, if_pos (((h.resolve_left h1).resolve_left h2).resolve_left h3)]
theorem svS {a t j : Nat} {v : Int32} (h1 : sh_L[a]? = some (.inr (.inl t))) (hj : j < 2 ^ 31) : ∀ (S : st_S) (V : st_V), j < (V a).length → am_sv (hs S V) a t (nI j) v = some (hs S (sV V a j v)) := fun _ _ hl => svN h1 hl hj
theorem ev_mcard {j : Nat} {ad ap ke si : Int32} (hj : j < 4) (h2 : ¬ is3 ad 0 255 = 0) (h3 : ¬ is3 ap 0 7 = 0) (h4 : ¬ is3 si 3 16 = 0) (l94 : (V 94).length = 4) (l95 : (V 95).length = 4) (l97 : (V 97).length = 4) (l98 : (V 98).length = 4) (l99 : (V 99).length = 4) (l100 : (V 100).length = 4) (l101 : (V 101).length = 4) (l102 : (V 102).length = 4) (l103 : (V 103).length = 4) (l104 : (V 104).length = 4) (l105 : (V 105).length = 4) (l107 : (V 107).length = 12) : ev (d + 1) 79 [.ref 93, .int (nI j), .int ad, .int ap, .int ke, .int si] (hs S V) = some (some (.int 1), hs S (mcV V j ad ap ke si)) := by
  have h1 : ¬ is3 (nI j) 0 3 = 0 := by rw [show is3 (nI j) 0 3 = 1 from is3_in (a := 0) (b := 3) (by omega) (by omega) (by decide)]; decide
  have hj2 : j < 2 ^ 31 := by omega
  have i0 : (3 : Int32) * nI j + 0 = nI (3 * j) := ix3 j 0
  have i1 : (3 : Int32) * nI j + 1 = nI (3 * j + 1) := ix3 j 1
  have i2 : (3 : Int32) * nI j + 2 = nI (3 * j + 2) := ix3 j 2
  have k0 : 3 * j < 12 := by omega
  have k1 : 3 * j + 1 < 12 := by omega
  have k2 : 3 * j + 2 < 12 := by omega
  have s0 := fun v => svS (a := 107) (t := 0) (v := v) (j := 3 * j) rfl (by omega)
  have s1 := fun v => svS (a := 107) (t := 0) (v := v) (j := 3 * j + 1) rfl (by omega)
  have s2 := fun v => svS (a := 107) (t := 0) (v := v) (j := 3 * j + 2) rfl (by omega)
  have t94 := fun v => svS (a := 94) (t := 1) (v := v) rfl hj2
  have t95 := fun v => svS (a := 95) (t := 1) (v := v) rfl hj2
  have t97 := fun v => svS (a := 97) (t := 0) (v := v) rfl hj2
  have t98 := fun v => svS (a := 98) (t := 0) (v := v) rfl hj2
  have t99 := fun v => svS (a := 99) (t := 0) (v := v) rfl hj2
  have t100 := fun v => svS (a := 100) (t := 0) (v := v) rfl hj2
  have t101 := fun v => svS (a := 101) (t := 0) (v := v) rfl hj2
  have t102 := fun v => svS (a := 102) (t := 0) (v := v) rfl hj2
  have t103 := fun v => svS (a := 103) (t := 0) (v := v) rfl hj2
  have t104 := fun v => svS (a := 104) (t := 0) (v := v) rfl hj2
  have t105 := fun v => svS (a := 105) (t := 0) (v := v) rfl hj2
  simp only [e_Mod_card, x_Mod_card_0, x_Mod_card_1, x_Mod_card_2, x_Mod_card_3, x_Mod_card_6, x_Mod_card_9, x_Mod_card_10, x_Mod_card_11, x_Mod_card_14, x_Mod_card_17, x_Mod_card_20, x_Mod_card_21, x_Mod_card_22, x_Mod_card_24, x_Mod_card_27, x_Mod_card_30, x_Mod_card_32, x_Mod_card_33, x_Mod_card_35, x_Mod_card_38, x_Mod_card_41, x_Mod_card_42, x_Mod_card_43, x_Mod_card_44, x_Mod_card_47, x_Mod_card_48, x_Mod_card_49, x_Mod_card_50, x_Mod_card_51, x_Mod_card_54, x_Mod_card_55, x_Mod_card_56, x_Mod_card_57, x_Mod_card_58, x_Mod_card_61, x_Mod_card_62, x_Mod_card_63, x_Mod_card_64, x_Mod_card_65, x_Mod_card_68, x_Mod_card_69, x_Mod_card_70, x_Mod_card_71, x_Mod_card_72, x_Mod_card_75, x_Mod_card_76, x_Mod_card_78, x_Mod_card_79, x_Mod_card_80, x_Mod_card_83, x_Mod_card_84, x_Mod_card_86, x_Mod_card_87, x_Mod_card_88, x_Mod_card_91, x_Mod_card_92, x_Mod_card_93, x_Mod_card_94, x_Mod_card_95, x_Mod_card_98, x_Mod_card_99, x_Mod_card_100, x_Mod_card_101, x_Mod_card_102, x_Mod_card_105, x_Mod_card_106, x_Mod_card_107, x_Mod_card_108, x_Mod_card_109, x_Mod_card_112, x_Mod_card_113, x_Mod_card_115, x_Mod_card_116, x_Mod_card_117, x_Mod_card_120, x_Mod_card_121, x_Mod_card_124, x_Mod_card_125, x_Mod_card_126, x_Mod_card_130, x_Mod_card_131, x_Mod_card_134, x_Mod_card_135, x_Mod_card_138, x_Mod_card_139, x_Mod_card_140, x_Mod_card_141, x_Mod_card_143, x_Mod_card_144, x_Mod_card_145, x_Mod_card_146, x_Mod_card_149, x_Mod_card_152, x_Mod_card_153, ev_is, ac_0, ac_i, ac_r, ac_ii, ac_ir, ac_ri, ac_rr, ac_iii, ac_iir, ac_iri, ac_irr, ac_rii, ac_rir, ac_rri, ac_rrr, Option.bind_some, Option.toList_some, Option.toList_none, List.nil_append, List.cons_append, not_false_eq_true, h1, h2, h3, h4, if_false, g_93_0, g_93_1, g_93_3, g_93_4, g_93_5, g_93_6, g_93_7, g_93_8, g_93_9, g_93_10, g_93_11, bn_0, bn_1, t94, t95, t97, t98, t99, t100, t101, t102, t103, t104, t105, sV_len, l94, l95, l97, l98, l99, l100, l101, l102, l103, l104, l105, hj]
  rw [x_Mod_card_128]
  simp only [x_Mod_card_0, x_Mod_card_1, x_Mod_card_2, x_Mod_card_3, x_Mod_card_6, x_Mod_card_9, x_Mod_card_10, x_Mod_card_11, x_Mod_card_14, x_Mod_card_17, x_Mod_card_20, x_Mod_card_21, x_Mod_card_22, x_Mod_card_24, x_Mod_card_27, x_Mod_card_30, x_Mod_card_32, x_Mod_card_33, x_Mod_card_35, x_Mod_card_38, x_Mod_card_41, x_Mod_card_42, x_Mod_card_43, x_Mod_card_44, x_Mod_card_47, x_Mod_card_48, x_Mod_card_49, x_Mod_card_50, x_Mod_card_51, x_Mod_card_54, x_Mod_card_55, x_Mod_card_56, x_Mod_card_57, x_Mod_card_58, x_Mod_card_61, x_Mod_card_62, x_Mod_card_63, x_Mod_card_64, x_Mod_card_65, x_Mod_card_68, x_Mod_card_69, x_Mod_card_70, x_Mod_card_71, x_Mod_card_72, x_Mod_card_75, x_Mod_card_76, x_Mod_card_78, x_Mod_card_79, x_Mod_card_80, x_Mod_card_83, x_Mod_card_84, x_Mod_card_86, x_Mod_card_87, x_Mod_card_88, x_Mod_card_91, x_Mod_card_92, x_Mod_card_93, x_Mod_card_94, x_Mod_card_95, x_Mod_card_98, x_Mod_card_99, x_Mod_card_100, x_Mod_card_101, x_Mod_card_102, x_Mod_card_105, x_Mod_card_106, x_Mod_card_107, x_Mod_card_108, x_Mod_card_109, x_Mod_card_112, x_Mod_card_113, x_Mod_card_115, x_Mod_card_116, x_Mod_card_117, x_Mod_card_120, x_Mod_card_121, x_Mod_card_124, x_Mod_card_125, x_Mod_card_126, x_Mod_card_130, x_Mod_card_131, x_Mod_card_134, x_Mod_card_135, x_Mod_card_138, x_Mod_card_139, x_Mod_card_140, x_Mod_card_141, x_Mod_card_143, x_Mod_card_144, x_Mod_card_145, x_Mod_card_146, x_Mod_card_149, x_Mod_card_152, x_Mod_card_153, ac_0, ac_i, ac_r, ac_ii, ac_ir, ac_ri, ac_rr, ac_iii, ac_iir, ac_iri, ac_irr, ac_rii, ac_rir, ac_rri, ac_rrr, Option.bind_some, Option.toList_some, Option.toList_none, List.nil_append, List.cons_append, not_false_eq_true, g_93_13, if_true, i0, s0, sV_len, l107, k0, (by decide : (0 : Int32) < 3), (by decide : (0 : Int32) + 1 = 1)]
  rw [x_Mod_card_128]
  simp only [x_Mod_card_0, x_Mod_card_1, x_Mod_card_2, x_Mod_card_3, x_Mod_card_6, x_Mod_card_9, x_Mod_card_10, x_Mod_card_11, x_Mod_card_14, x_Mod_card_17, x_Mod_card_20, x_Mod_card_21, x_Mod_card_22, x_Mod_card_24, x_Mod_card_27, x_Mod_card_30, x_Mod_card_32, x_Mod_card_33, x_Mod_card_35, x_Mod_card_38, x_Mod_card_41, x_Mod_card_42, x_Mod_card_43, x_Mod_card_44, x_Mod_card_47, x_Mod_card_48, x_Mod_card_49, x_Mod_card_50, x_Mod_card_51, x_Mod_card_54, x_Mod_card_55, x_Mod_card_56, x_Mod_card_57, x_Mod_card_58, x_Mod_card_61, x_Mod_card_62, x_Mod_card_63, x_Mod_card_64, x_Mod_card_65, x_Mod_card_68, x_Mod_card_69, x_Mod_card_70, x_Mod_card_71, x_Mod_card_72, x_Mod_card_75, x_Mod_card_76, x_Mod_card_78, x_Mod_card_79, x_Mod_card_80, x_Mod_card_83, x_Mod_card_84, x_Mod_card_86, x_Mod_card_87, x_Mod_card_88, x_Mod_card_91, x_Mod_card_92, x_Mod_card_93, x_Mod_card_94, x_Mod_card_95, x_Mod_card_98, x_Mod_card_99, x_Mod_card_100, x_Mod_card_101, x_Mod_card_102, x_Mod_card_105, x_Mod_card_106, x_Mod_card_107, x_Mod_card_108, x_Mod_card_109, x_Mod_card_112, x_Mod_card_113, x_Mod_card_115, x_Mod_card_116, x_Mod_card_117, x_Mod_card_120, x_Mod_card_121, x_Mod_card_124, x_Mod_card_125, x_Mod_card_126, x_Mod_card_130, x_Mod_card_131, x_Mod_card_134, x_Mod_card_135, x_Mod_card_138, x_Mod_card_139, x_Mod_card_140, x_Mod_card_141, x_Mod_card_143, x_Mod_card_144, x_Mod_card_145, x_Mod_card_146, x_Mod_card_149, x_Mod_card_152, x_Mod_card_153, ac_0, ac_i, ac_r, ac_ii, ac_ir, ac_ri, ac_rr, ac_iii, ac_iir, ac_iri, ac_irr, ac_rii, ac_rir, ac_rri, ac_rrr, Option.bind_some, Option.toList_some, Option.toList_none, List.nil_append, List.cons_append, not_false_eq_true, g_93_13, if_true, i1, s1, sV_len, l107, k1, (by decide : (1 : Int32) < 3), (by decide : (1 : Int32) + 1 = 2)]
  rw [x_Mod_card_128]
  simp only [x_Mod_card_0, x_Mod_card_1, x_Mod_card_2, x_Mod_card_3, x_Mod_card_6, x_Mod_card_9, x_Mod_card_10, x_Mod_card_11, x_Mod_card_14, x_Mod_card_17, x_Mod_card_20, x_Mod_card_21, x_Mod_card_22, x_Mod_card_24, x_Mod_card_27, x_Mod_card_30, x_Mod_card_32, x_Mod_card_33, x_Mod_card_35, x_Mod_card_38, x_Mod_card_41, x_Mod_card_42, x_Mod_card_43, x_Mod_card_44, x_Mod_card_47, x_Mod_card_48, x_Mod_card_49, x_Mod_card_50, x_Mod_card_51, x_Mod_card_54, x_Mod_card_55, x_Mod_card_56, x_Mod_card_57, x_Mod_card_58, x_Mod_card_61, x_Mod_card_62, x_Mod_card_63, x_Mod_card_64, x_Mod_card_65, x_Mod_card_68, x_Mod_card_69, x_Mod_card_70, x_Mod_card_71, x_Mod_card_72, x_Mod_card_75, x_Mod_card_76, x_Mod_card_78, x_Mod_card_79, x_Mod_card_80, x_Mod_card_83, x_Mod_card_84, x_Mod_card_86, x_Mod_card_87, x_Mod_card_88, x_Mod_card_91, x_Mod_card_92, x_Mod_card_93, x_Mod_card_94, x_Mod_card_95, x_Mod_card_98, x_Mod_card_99, x_Mod_card_100, x_Mod_card_101, x_Mod_card_102, x_Mod_card_105, x_Mod_card_106, x_Mod_card_107, x_Mod_card_108, x_Mod_card_109, x_Mod_card_112, x_Mod_card_113, x_Mod_card_115, x_Mod_card_116, x_Mod_card_117, x_Mod_card_120, x_Mod_card_121, x_Mod_card_124, x_Mod_card_125, x_Mod_card_126, x_Mod_card_130, x_Mod_card_131, x_Mod_card_134, x_Mod_card_135, x_Mod_card_138, x_Mod_card_139, x_Mod_card_140, x_Mod_card_141, x_Mod_card_143, x_Mod_card_144, x_Mod_card_145, x_Mod_card_146, x_Mod_card_149, x_Mod_card_152, x_Mod_card_153, ac_0, ac_i, ac_r, ac_ii, ac_ir, ac_ri, ac_rr, ac_iii, ac_iir, ac_iri, ac_irr, ac_rii, ac_rir, ac_rri, ac_rrr, Option.bind_some, Option.toList_some, Option.toList_none, List.nil_append, List.cons_append, not_false_eq_true, g_93_13, if_true, i2, s2, sV_len, l107, k2, (by decide : (2 : Int32) < 3), (by decide : (2 : Int32) + 1 = 3)]
  rw [x_Mod_card_128]
  simp only [x_Mod_card_0, x_Mod_card_1, x_Mod_card_2, x_Mod_card_3, x_Mod_card_6, x_Mod_card_9, x_Mod_card_10, x_Mod_card_11, x_Mod_card_14, x_Mod_card_17, x_Mod_card_20, x_Mod_card_21, x_Mod_card_22, x_Mod_card_24, x_Mod_card_27, x_Mod_card_30, x_Mod_card_32, x_Mod_card_33, x_Mod_card_35, x_Mod_card_38, x_Mod_card_41, x_Mod_card_42, x_Mod_card_43, x_Mod_card_44, x_Mod_card_47, x_Mod_card_48, x_Mod_card_49, x_Mod_card_50, x_Mod_card_51, x_Mod_card_54, x_Mod_card_55, x_Mod_card_56, x_Mod_card_57, x_Mod_card_58, x_Mod_card_61, x_Mod_card_62, x_Mod_card_63, x_Mod_card_64, x_Mod_card_65, x_Mod_card_68, x_Mod_card_69, x_Mod_card_70, x_Mod_card_71, x_Mod_card_72, x_Mod_card_75, x_Mod_card_76, x_Mod_card_78, x_Mod_card_79, x_Mod_card_80, x_Mod_card_83, x_Mod_card_84, x_Mod_card_86, x_Mod_card_87, x_Mod_card_88, x_Mod_card_91, x_Mod_card_92, x_Mod_card_93, x_Mod_card_94, x_Mod_card_95, x_Mod_card_98, x_Mod_card_99, x_Mod_card_100, x_Mod_card_101, x_Mod_card_102, x_Mod_card_105, x_Mod_card_106, x_Mod_card_107, x_Mod_card_108, x_Mod_card_109, x_Mod_card_112, x_Mod_card_113, x_Mod_card_115, x_Mod_card_116, x_Mod_card_117, x_Mod_card_120, x_Mod_card_121, x_Mod_card_124, x_Mod_card_125, x_Mod_card_126, x_Mod_card_130, x_Mod_card_131, x_Mod_card_134, x_Mod_card_135, x_Mod_card_138, x_Mod_card_139, x_Mod_card_140, x_Mod_card_141, x_Mod_card_143, x_Mod_card_144, x_Mod_card_145, x_Mod_card_146, x_Mod_card_149, x_Mod_card_152, x_Mod_card_153, if_false, nbo, (by decide : ¬ (3 : Int32) < 3)]
  rfl
/-- is another card in the field with the address of card j? -/
def tkn (S : st_S) (j : Nat) : Nat → Nat → Bool
  | 0, _ => false
  | m + 1, o => if ¬ o = j ∧ ¬ S (cb o) 1 = 0 ∧ S (cb o) 3 = S (cb j) 3 then true else tkn S j m (o + 1)
theorem tkn_s (S : st_S) (j m o : Nat) : tkn S j (m + 1) o = if ¬ o = j ∧ ¬ S (cb o) 1 = 0 ∧ S (cb o) 3 = S (cb j) 3 then true else tkn S j m (o + 1) := rfl
def b2i (b : Bool) : Int32 := if b then 1 else 0
theorem taken_loop {j : Nat} (hj : j < 4) : ∀ (m o : Nat), o + m = 4 → rn d 27 2 [some (.ref 1), some (.int (nI j)), some (.int (nI o))] [] (hs S V) = some (some (.int (b2i (tkn S j m o))), hs S V) := by
  intro m
  induction m with
  | zero =>
    intro o ho
    have : o = 4 := by omega
    subst this
    rw [x_Air_isAddressTaken_2]
    simp only [x_Air_isAddressTaken_0, x_Air_isAddressTaken_1, x_Air_isAddressTaken_3, x_Air_isAddressTaken_4, x_Air_isAddressTaken_7, x_Air_isAddressTaken_8, x_Air_isAddressTaken_9, x_Air_isAddressTaken_12, x_Air_isAddressTaken_13, x_Air_isAddressTaken_16, x_Air_isAddressTaken_17, x_Air_isAddressTaken_18, x_Air_isAddressTaken_21, x_Air_isAddressTaken_24, x_Air_isAddressTaken_25, x_Air_isAddressTaken_28, x_Air_isAddressTaken_29, x_Air_isAddressTaken_30, x_Air_isAddressTaken_33, x_Air_isAddressTaken_34, x_Air_isAddressTaken_37, x_Air_isAddressTaken_38, x_Air_isAddressTaken_39, x_Air_isAddressTaken_42, x_Air_isAddressTaken_45, x_Air_isAddressTaken_46, x_Air_isAddressTaken_47, x_Air_isAddressTaken_50, x_Air_isAddressTaken_53, x_Air_isAddressTaken_54, (by decide : ¬ nI 4 < 4), if_false, nbz]
    rfl
  | succ m ih =>
    intro o ho
    have ho4 : o < 4 := by omega
    have c : nI o < 4 := nI_lt (b := 4) ho4 (by decide)
    rw [x_Air_isAddressTaken_2]
    simp only [x_Air_isAddressTaken_0, x_Air_isAddressTaken_1, x_Air_isAddressTaken_3, x_Air_isAddressTaken_4, x_Air_isAddressTaken_7, x_Air_isAddressTaken_8, x_Air_isAddressTaken_9, x_Air_isAddressTaken_12, x_Air_isAddressTaken_13, x_Air_isAddressTaken_16, x_Air_isAddressTaken_17, x_Air_isAddressTaken_18, x_Air_isAddressTaken_21, x_Air_isAddressTaken_24, x_Air_isAddressTaken_25, x_Air_isAddressTaken_28, x_Air_isAddressTaken_29, x_Air_isAddressTaken_30, x_Air_isAddressTaken_33, x_Air_isAddressTaken_34, x_Air_isAddressTaken_37, x_Air_isAddressTaken_38, x_Air_isAddressTaken_39, x_Air_isAddressTaken_42, x_Air_isAddressTaken_45, x_Air_isAddressTaken_46, x_Air_isAddressTaken_47, x_Air_isAddressTaken_50, x_Air_isAddressTaken_53, x_Air_isAddressTaken_54, c, if_true, g_1_0, ld_cards ho4, ld_cards hj, cg_1 (crd ho4), cg_3 (crd ho4), cg_3 (crd hj), ac_0, ac_i, ac_r, ac_ii, ac_ir, ac_ri, ac_rr, ac_iii, ac_iir, ac_iri, ac_irr, ac_rii, ac_rir, ac_rri, ac_rrr, Option.bind_some, Option.toList_some, Option.toList_none, List.nil_append, List.cons_append, not_false_eq_true, nbz, nbo, nI_eq (show o < 2 ^ 31 by omega) (show j < 2 ^ 31 by omega), nI_1, ih (o + 1) (by omega)]
    rw [tkn_s]
    by_cases h1 : o = j
    · rw [if_pos h1, if_neg (fun z => z.1 h1)]
    · rw [if_neg h1]
      by_cases h2 : S (cb o) 1 = 0
      · rw [if_pos h2, if_neg (fun z => z.2.1 h2)]
      · rw [if_neg h2]
        by_cases h3 : S (cb o) 3 = S (cb j) 3
        · rw [if_pos h3, if_pos ⟨h1, h2, h3⟩]; rfl
        · rw [if_neg h3, if_neg (fun z => h3 z.2.2)]
theorem ev_taken {j : Nat} (hj : j < 4) : ev d 27 [.ref 1, .int (nI j)] (hs S V) = some (some (.int (b2i (tkn S j 4 0))), hs S V) := by
  have h := taken_loop (d := d) (S := S) (V := V) hj 4 0 rfl
  rw [nI_0] at h
  simp only [e_Air_isAddressTaken, x_Air_isAddressTaken_0, x_Air_isAddressTaken_1, h]
theorem ev_field_no {c i : Int32} (h : wi c 4 = 0) : ev (d + 2) 58 [.ref 0, .int c, .int i] (hs S V) = some (some (.int 0), hs S V) := by
  have e := ev_isCard_no (d := d) (S := S) (V := V) h
  simp only [e_Tap_field, x_Tap_field_0, x_Tap_field_1, x_Tap_field_2, x_Tap_field_5, x_Tap_field_8, x_Tap_field_9, x_Tap_field_12, x_Tap_field_13, x_Tap_field_16, x_Tap_field_17, x_Tap_field_20, x_Tap_field_23, x_Tap_field_24, x_Tap_field_25, x_Tap_field_26, x_Tap_field_29, x_Tap_field_32, x_Tap_field_33, x_Tap_field_34, x_Tap_field_35, x_Tap_field_38, x_Tap_field_39, i_0, e, ac_0, ac_i, ac_r, ac_ii, ac_ir, ac_ri, ac_rr, ac_iii, ac_iir, ac_iri, ac_irr, ac_rii, ac_rir, ac_rri, ac_rrr, Option.bind_some, Option.toList_some, Option.toList_none, List.nil_append, List.cons_append, not_false_eq_true, if_true, nbz]
theorem ev_field {j : Nat} {i : Int32} (hj : j < 4) (hi : am_ok .boolean (.int i) = true) : ev (d + 2) 58 [.ref 0, .int (nI j), .int i] (hs S V) = if nz (S (cb j) 0) = 0 then some (some (.int 0), hs S V) else if ¬ i = 0 ∧ tkn S j 4 0 = true then some (some (.int 0), hs S V) else some (some (.int 1), hs (uS S (cb j) 1 i) V) := by
  simp only [e_Tap_field, x_Tap_field_0, x_Tap_field_1, x_Tap_field_2, x_Tap_field_5, x_Tap_field_8, x_Tap_field_9, x_Tap_field_12, x_Tap_field_13, x_Tap_field_16, x_Tap_field_17, x_Tap_field_20, x_Tap_field_23, x_Tap_field_24, x_Tap_field_25, x_Tap_field_26, x_Tap_field_29, x_Tap_field_32, x_Tap_field_33, x_Tap_field_34, x_Tap_field_35, x_Tap_field_38, x_Tap_field_39, i_0, i_1, ev_isCard hj, ev_taken hj, ac_0, ac_i, ac_r, ac_ii, ac_ir, ac_ri, ac_rr, ac_iii, ac_iir, ac_iri, ac_irr, ac_rii, ac_rir, ac_rri, ac_rrr, Option.bind_some, Option.toList_some, Option.toList_none, List.nil_append, List.cons_append, not_false_eq_true, nbz, nbo, g_0_0, g_1_0, ld_cards hj, cp_1 (crd hj), hi]
  split
  · rfl
  · by_cases h1 : i = 0
    · rw [if_pos h1, if_neg (fun z => z.1 h1)]
    · rw [if_neg h1]
      cases tkn S j 4 0 with
      | true => rw [if_neg (by decide), if_pos ⟨h1, rfl⟩]
      | false => rw [if_pos (by decide), if_neg (fun z => by cases z.2)]
theorem mfield_loop {S' : st_S} {j : Nat} {i : Int32} (hj : j < 4) (hi : ¬ i = 0) (a1 : ∀ o, o < 4 → (V 95)[o]? = some (S (cb o) 1)) (a3 : ∀ o, o < 4 → (V 97)[o]? = some (S (cb o) 3)) (l95 : (V 95).length = 4) : ∀ (m o : Nat), o + m = 4 → rn (d + 1) 82 12 [some (.ref 93), some (.int (nI j)), some (.int i), some (.int (nI o))] [] (hs S' V) = if tkn S j m o = true then some (some (.int 0), hs S' V) else some (some (.int 1), hs S' (sV V 95 j (vp_nar .boolean i))) := by
  have sj := svN (S := S') (V := V) (a := 95) (t := 1) (j := j) (v := vp_nar .boolean i) rfl (by rw [l95]; exact hj) (by omega)
  have e3 : am_ld (hs S' V) 97 0 (nI j) = some (S (cb j) 3) := by rw [ldN rfl (by omega)]; exact a3 j hj
  intro m
  induction m with
  | zero =>
    intro o ho
    have : o = 4 := by omega
    subst this
    rw [x_Mod_field_12]
    simp only [x_Mod_field_0, x_Mod_field_1, x_Mod_field_2, x_Mod_field_5, x_Mod_field_8, x_Mod_field_9, x_Mod_field_10, x_Mod_field_11, x_Mod_field_13, x_Mod_field_14, x_Mod_field_17, x_Mod_field_18, x_Mod_field_21, x_Mod_field_22, x_Mod_field_23, x_Mod_field_26, x_Mod_field_27, x_Mod_field_30, x_Mod_field_31, x_Mod_field_32, x_Mod_field_35, x_Mod_field_36, x_Mod_field_39, x_Mod_field_40, x_Mod_field_41, x_Mod_field_42, x_Mod_field_45, x_Mod_field_46, x_Mod_field_47, x_Mod_field_50, x_Mod_field_51, x_Mod_field_52, x_Mod_field_55, x_Mod_field_58, x_Mod_field_59, x_Mod_field_62, x_Mod_field_63, x_Mod_field_64, x_Mod_field_65, x_Mod_field_66, (by decide : ¬ nI 4 < 4), if_false, nbo, g_93_1, sj, ac_0, ac_i, ac_r, ac_ii, ac_ir, ac_ri, ac_rr, ac_iii, ac_iir, ac_iri, ac_irr, ac_rii, ac_rir, ac_rri, ac_rrr, Option.bind_some, Option.toList_some, Option.toList_none, List.nil_append, List.cons_append, not_false_eq_true]
    rfl
  | succ m ih =>
    intro o ho
    have ho4 : o < 4 := by omega
    have c : nI o < 4 := nI_lt (b := 4) ho4 (by decide)
    have e1 : am_ld (hs S' V) 95 1 (nI o) = some (S (cb o) 1) := by rw [ldN rfl (by omega)]; exact a1 o ho4
    have e2 : am_ld (hs S' V) 97 0 (nI o) = some (S (cb o) 3) := by rw [ldN rfl (by omega)]; exact a3 o ho4
    rw [x_Mod_field_12]
    simp only [x_Mod_field_0, x_Mod_field_1, x_Mod_field_2, x_Mod_field_5, x_Mod_field_8, x_Mod_field_9, x_Mod_field_10, x_Mod_field_11, x_Mod_field_13, x_Mod_field_14, x_Mod_field_17, x_Mod_field_18, x_Mod_field_21, x_Mod_field_22, x_Mod_field_23, x_Mod_field_26, x_Mod_field_27, x_Mod_field_30, x_Mod_field_31, x_Mod_field_32, x_Mod_field_35, x_Mod_field_36, x_Mod_field_39, x_Mod_field_40, x_Mod_field_41, x_Mod_field_42, x_Mod_field_45, x_Mod_field_46, x_Mod_field_47, x_Mod_field_50, x_Mod_field_51, x_Mod_field_52, x_Mod_field_55, x_Mod_field_58, x_Mod_field_59, x_Mod_field_62, x_Mod_field_63, x_Mod_field_64, x_Mod_field_65, x_Mod_field_66, c, hi, if_true, if_false, g_93_1, g_93_3, e1, e2, e3, ac_0, ac_i, ac_r, ac_ii, ac_ir, ac_ri, ac_rr, ac_iii, ac_iir, ac_iri, ac_irr, ac_rii, ac_rir, ac_rri, ac_rrr, Option.bind_some, Option.toList_some, Option.toList_none, List.nil_append, List.cons_append, not_false_eq_true, nbz, nbo, nI_eq (show o < 2 ^ 31 by omega) (show j < 2 ^ 31 by omega), nI_1, ih (o + 1) (by omega)]
    rw [tkn_s]
    by_cases h1 : o = j
    · rw [if_pos h1, if_neg (c := ¬ o = j ∧ _) (fun z => z.1 h1)]
    · rw [if_neg h1]
      by_cases h2 : S (cb o) 1 = 0
      · rw [if_pos h2, if_neg (c := ¬ o = j ∧ _) (fun z => z.2.1 h2)]
      · rw [if_neg h2]
        by_cases h3 : S (cb o) 3 = S (cb j) 3
        · rw [if_pos h3, if_pos (c := ¬ o = j ∧ _) ⟨h1, h2, h3⟩]; rfl
        · rw [if_neg h3, if_neg (c := ¬ o = j ∧ _) (fun z => h3 z.2.2)]
theorem ev_mfield_no {c i : Int32} (h : is3 c 0 3 = 0) : ev (d + 2) 82 [.ref 93, .int c, .int i] (hs S V) = some (some (.int 0), hs S V) := by
  have e := ev_misCard_no (d := d) (S := S) (V := V) h
  simp only [e_Mod_field, x_Mod_field_0, x_Mod_field_1, x_Mod_field_2, x_Mod_field_5, x_Mod_field_8, x_Mod_field_9, x_Mod_field_10, x_Mod_field_11, x_Mod_field_13, x_Mod_field_14, x_Mod_field_17, x_Mod_field_18, x_Mod_field_21, x_Mod_field_22, x_Mod_field_23, x_Mod_field_26, x_Mod_field_27, x_Mod_field_30, x_Mod_field_31, x_Mod_field_32, x_Mod_field_35, x_Mod_field_36, x_Mod_field_39, x_Mod_field_40, x_Mod_field_41, x_Mod_field_42, x_Mod_field_45, x_Mod_field_46, x_Mod_field_47, x_Mod_field_50, x_Mod_field_51, x_Mod_field_52, x_Mod_field_55, x_Mod_field_58, x_Mod_field_59, x_Mod_field_62, x_Mod_field_63, x_Mod_field_64, x_Mod_field_65, x_Mod_field_66, i_93, e, ac_0, ac_i, ac_r, ac_ii, ac_ir, ac_ri, ac_rr, ac_iii, ac_iir, ac_iri, ac_irr, ac_rii, ac_rir, ac_rri, ac_rrr, Option.bind_some, Option.toList_some, Option.toList_none, List.nil_append, List.cons_append, not_false_eq_true, if_true, nbz]
theorem ev_mfield {S' : st_S} {j : Nat} {i x : Int32} (hj : j < 4) (hx : (V 94)[j]? = some x) (a1 : ∀ o, o < 4 → (V 95)[o]? = some (S (cb o) 1)) (a3 : ∀ o, o < 4 → (V 97)[o]? = some (S (cb o) 3)) (l95 : (V 95).length = 4) : ev (d + 2) 82 [.ref 93, .int (nI j), .int i] (hs S' V) = if nz x = 0 then some (some (.int 0), hs S' V) else if ¬ i = 0 ∧ tkn S j 4 0 = true then some (some (.int 0), hs S' V) else some (some (.int 1), hs S' (sV V 95 j (vp_nar .boolean i))) := by
  have sj := svN (S := S') (V := V) (a := 95) (t := 1) (j := j) (v := vp_nar .boolean i) rfl (by rw [l95]; exact hj) (by omega)
  by_cases h0 : nz x = 0
  · simp only [e_Mod_field, x_Mod_field_0, x_Mod_field_1, x_Mod_field_2, x_Mod_field_5, x_Mod_field_8, x_Mod_field_9, x_Mod_field_10, x_Mod_field_11, x_Mod_field_13, x_Mod_field_14, x_Mod_field_17, x_Mod_field_18, x_Mod_field_21, x_Mod_field_22, x_Mod_field_23, x_Mod_field_26, x_Mod_field_27, x_Mod_field_30, x_Mod_field_31, x_Mod_field_32, x_Mod_field_35, x_Mod_field_36, x_Mod_field_39, x_Mod_field_40, x_Mod_field_41, x_Mod_field_42, x_Mod_field_45, x_Mod_field_46, x_Mod_field_47, x_Mod_field_50, x_Mod_field_51, x_Mod_field_52, x_Mod_field_55, x_Mod_field_58, x_Mod_field_59, x_Mod_field_62, x_Mod_field_63, x_Mod_field_64, x_Mod_field_65, x_Mod_field_66, i_93, ev_misCard (S := S') hj hx, ac_0, ac_i, ac_r, ac_ii, ac_ir, ac_ri, ac_rr, ac_iii, ac_iir, ac_iri, ac_irr, ac_rii, ac_rir, ac_rri, ac_rrr, Option.bind_some, Option.toList_some, Option.toList_none, List.nil_append, List.cons_append, not_false_eq_true, h0, if_true, nbz]
  · by_cases h1 : i = 0
    · simp only [e_Mod_field, x_Mod_field_0, x_Mod_field_1, x_Mod_field_2, x_Mod_field_5, x_Mod_field_8, x_Mod_field_9, x_Mod_field_10, x_Mod_field_11, x_Mod_field_13, x_Mod_field_14, x_Mod_field_17, x_Mod_field_18, x_Mod_field_21, x_Mod_field_22, x_Mod_field_23, x_Mod_field_26, x_Mod_field_27, x_Mod_field_30, x_Mod_field_31, x_Mod_field_32, x_Mod_field_35, x_Mod_field_36, x_Mod_field_39, x_Mod_field_40, x_Mod_field_41, x_Mod_field_42, x_Mod_field_45, x_Mod_field_46, x_Mod_field_47, x_Mod_field_50, x_Mod_field_51, x_Mod_field_52, x_Mod_field_55, x_Mod_field_58, x_Mod_field_59, x_Mod_field_62, x_Mod_field_63, x_Mod_field_64, x_Mod_field_65, x_Mod_field_66, i_93, ev_misCard (S := S') hj hx, ac_0, ac_i, ac_r, ac_ii, ac_ir, ac_ri, ac_rr, ac_iii, ac_iir, ac_iri, ac_irr, ac_rii, ac_rir, ac_rri, ac_rrr, Option.bind_some, Option.toList_some, Option.toList_none, List.nil_append, List.cons_append, not_false_eq_true, h0, if_false]
      rw [x_Mod_field_12]
      simp only [x_Mod_field_0, x_Mod_field_1, x_Mod_field_2, x_Mod_field_5, x_Mod_field_8, x_Mod_field_9, x_Mod_field_10, x_Mod_field_11, x_Mod_field_13, x_Mod_field_14, x_Mod_field_17, x_Mod_field_18, x_Mod_field_21, x_Mod_field_22, x_Mod_field_23, x_Mod_field_26, x_Mod_field_27, x_Mod_field_30, x_Mod_field_31, x_Mod_field_32, x_Mod_field_35, x_Mod_field_36, x_Mod_field_39, x_Mod_field_40, x_Mod_field_41, x_Mod_field_42, x_Mod_field_45, x_Mod_field_46, x_Mod_field_47, x_Mod_field_50, x_Mod_field_51, x_Mod_field_52, x_Mod_field_55, x_Mod_field_58, x_Mod_field_59, x_Mod_field_62, x_Mod_field_63, x_Mod_field_64, x_Mod_field_65, x_Mod_field_66, if_true, if_false, h1, (by decide : (0 : Int32) < 4), not_true_eq_false, false_and, g_93_1, nbo, ac_0, ac_i, ac_r, ac_ii, ac_ir, ac_ri, ac_rr, ac_iii, ac_iir, ac_iri, ac_irr, ac_rii, ac_rir, ac_rri, ac_rrr, Option.bind_some, Option.toList_some, Option.toList_none, List.nil_append, List.cons_append, not_false_eq_true]
      rw [h1] at sj
      rw [sj]
      simp only [x_Mod_field_0, x_Mod_field_1, x_Mod_field_2, x_Mod_field_5, x_Mod_field_8, x_Mod_field_9, x_Mod_field_10, x_Mod_field_11, x_Mod_field_13, x_Mod_field_14, x_Mod_field_17, x_Mod_field_18, x_Mod_field_21, x_Mod_field_22, x_Mod_field_23, x_Mod_field_26, x_Mod_field_27, x_Mod_field_30, x_Mod_field_31, x_Mod_field_32, x_Mod_field_35, x_Mod_field_36, x_Mod_field_39, x_Mod_field_40, x_Mod_field_41, x_Mod_field_42, x_Mod_field_45, x_Mod_field_46, x_Mod_field_47, x_Mod_field_50, x_Mod_field_51, x_Mod_field_52, x_Mod_field_55, x_Mod_field_58, x_Mod_field_59, x_Mod_field_62, x_Mod_field_63, x_Mod_field_64, x_Mod_field_65, x_Mod_field_66, nbo, ac_0, ac_i, ac_r, ac_ii, ac_ir, ac_ri, ac_rr, ac_iii, ac_iir, ac_iri, ac_irr, ac_rii, ac_rir, ac_rri, ac_rrr, Option.bind_some, Option.toList_some, Option.toList_none, List.nil_append, List.cons_append, not_false_eq_true]
    · have h := mfield_loop (d := d + 1) (S' := S') hj h1 a1 a3 l95 4 0 rfl
      rw [nI_0] at h
      simp only [e_Mod_field, x_Mod_field_0, x_Mod_field_1, x_Mod_field_2, x_Mod_field_5, x_Mod_field_8, x_Mod_field_9, x_Mod_field_10, x_Mod_field_11, x_Mod_field_13, x_Mod_field_14, x_Mod_field_17, x_Mod_field_18, x_Mod_field_21, x_Mod_field_22, x_Mod_field_23, x_Mod_field_26, x_Mod_field_27, x_Mod_field_30, x_Mod_field_31, x_Mod_field_32, x_Mod_field_35, x_Mod_field_36, x_Mod_field_39, x_Mod_field_40, x_Mod_field_41, x_Mod_field_42, x_Mod_field_45, x_Mod_field_46, x_Mod_field_47, x_Mod_field_50, x_Mod_field_51, x_Mod_field_52, x_Mod_field_55, x_Mod_field_58, x_Mod_field_59, x_Mod_field_62, x_Mod_field_63, x_Mod_field_64, x_Mod_field_65, x_Mod_field_66, i_93, ev_misCard (S := S') hj hx, ac_0, ac_i, ac_r, ac_ii, ac_ir, ac_ri, ac_rr, ac_iii, ac_iir, ac_iri, ac_irr, ac_rii, ac_rir, ac_rri, ac_rrr, Option.bind_some, Option.toList_some, Option.toList_none, List.nil_append, List.cons_append, not_false_eq_true, h0, if_false, h]
      cases tkn S j 4 0 with
      | true => rw [if_pos rfl, if_pos ⟨h1, rfl⟩]
      | false => rw [if_neg (by decide), if_neg (fun z => by cases z.2)]
end FIELD
