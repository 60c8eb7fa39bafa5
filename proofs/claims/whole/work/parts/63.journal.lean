/-! exchanges: faults and notes, both sides -/
def jn (J : st_J) : Nat := J.2.2.2.1
def ju (J : st_J) : Nat := J.2.2.2.2
def flt (F : List Int32) (n : Nat) : Int32 := if n < 128 then F.getD n 0 else 0
def nt (J : st_J) (k x y : Int32) : st_J := (if jn J < 128 then J.1.set (jn J) k else J.1, if jn J < 128 then J.2.1.set (jn J) x else J.2.1, if jn J < 128 then J.2.2.1.set (jn J) y else J.2.2.1, jn J + 1, if y = 0 then ju J + 1 else ju J)
def jS (S : st_S) (J : st_J) : st_S := uS (uS S 63 4 (nI (jn J))) 63 5 (nI (ju J))
def jV (V : st_V) (J : st_J) : st_V := uV (uV (uV V 65 J.1) 66 J.2.1) 67 J.2.2.1
def mS (S : st_S) (J : st_J) (s : Nat) : st_S := uS (uS (uS S 93 30 (nI (jn J))) 93 31 (nI (ju J))) 93 32 (nI s)
def mV (V : st_V) (J : st_J) : st_V := uV (uV (uV V 109 J.1) 110 J.2.1) 111 J.2.2.1
/-- three rows of 128, counts within bounds -/
def JL (J : st_J) : Prop := J.1.length = 128 ∧ J.2.1.length = 128 ∧ J.2.2.1.length = 128 ∧ jn J ≤ 2000000 ∧ ju J ≤ jn J
def JX (S : st_S) (V : st_V) (J : st_J) : Prop := V 65 = J.1 ∧ V 66 = J.2.1 ∧ V 67 = J.2.2.1 ∧ S 63 4 = nI (jn J) ∧ S 63 5 = nI (ju J)
def JM (S : st_S) (V : st_V) (J : st_J) (s : Nat) : Prop := V 109 = J.1 ∧ V 110 = J.2.1 ∧ V 111 = J.2.2.1 ∧ S 93 30 = nI (jn J) ∧ S 93 31 = nI (ju J) ∧ S 93 32 = nI s
theorem nt_n (J : st_J) (k x y : Int32) : jn (nt J k x y) = jn J + 1 := rfl
theorem nt_L {J : st_J} {k x y : Int32} (H : JL J) (h : jn J < 2000000) : JL (nt J k x y) := by
  obtain ⟨h1, h2, h3, h4, h5⟩ := H
  refine ⟨?_, ?_, ?_, ?_, ?_⟩
  · show (if jn J < 128 then J.1.set (jn J) k else J.1).length = 128
    split
    · rw [List.length_set]; exact h1
    · exact h1
  · show (if jn J < 128 then J.2.1.set (jn J) x else J.2.1).length = 128
    split
    · rw [List.length_set]; exact h2
    · exact h2
  · show (if jn J < 128 then J.2.2.1.set (jn J) y else J.2.2.1).length = 128
    split
    · rw [List.length_set]; exact h3
    · exact h3
  · rw [nt_n]; omega
  · rw [nt_n]
    show (if y = 0 then ju J + 1 else ju J) ≤ _
    split <;> omega
theorem jx_set (S : st_S) (V : st_V) (J : st_J) : JX (jS S J) (jV V J) J := by
  refine ⟨?_, ?_, ?_, ?_, ?_⟩
  · unfold jV; rw [uV_ne (by decide), uV_ne (by decide), uV_self]
  · unfold jV; rw [uV_ne (by decide), uV_self]
  · unfold jV; rw [uV_self]
  · unfold jS; rw [uS_ne (by decide), uS_self]
  · unfold jS; rw [uS_self]
theorem jm_set (S : st_S) (V : st_V) (J : st_J) (s : Nat) : JM (mS S J s) (mV V J) J s := by
  refine ⟨?_, ?_, ?_, ?_, ?_, ?_⟩
  · unfold mV; rw [uV_ne (by decide), uV_ne (by decide), uV_self]
  · unfold mV; rw [uV_ne (by decide), uV_self]
  · unfold mV; rw [uV_self]
  · unfold mS; rw [uS_ne (by decide), uS_ne (by decide), uS_self]
  · unfold mS; rw [uS_ne (by decide), uS_self]
  · unfold mS; rw [uS_self]
theorem jS_jS (S : st_S) (J J' : st_J) : jS (jS S J) J' = jS S J' := by
  funext a k; simp only [jS, uS]; split
  · rfl
  · rename_i h1; split
    · rfl
    · rfl
theorem jV_jV (V : st_V) (J J' : st_J) : jV (jV V J) J' = jV V J' := by
  funext a; simp only [jV, uV]; split
  · rfl
  · rename_i h1; split
    · rfl
    · rename_i h2; split
      · rfl
      · rfl
theorem mS_mS (S : st_S) (J J' : st_J) (s s' : Nat) : mS (mS S J s) J' s' = mS S J' s' := by
  funext a k; simp only [mS, uS]; split
  · rfl
  · rename_i h1; split
    · rfl
    · rename_i h2; split
      · rfl
      · rfl
theorem mV_mV (V : st_V) (J J' : st_J) : mV (mV V J) J' = mV V J' := by
  funext a; simp only [mV, uV]; split
  · rfl
  · rename_i h1; split
    · rfl
    · rename_i h2; split
      · rfl
      · rfl
theorem jS_id {S : st_S} {V : st_V} {J : st_J} (H : JX S V J) : jS S J = S := by
  unfold jS
  rw [uS_same (S := S) H.2.2.2.1.symm, uS_same H.2.2.2.2.symm]
theorem jV_id {S : st_S} {V : st_V} {J : st_J} (H : JX S V J) : jV V J = V := by
  unfold jV
  rw [uV_same (V := V) H.1.symm, uV_same (V := V) H.2.1.symm, uV_same (V := V) H.2.2.1.symm]
theorem mS_id {S : st_S} {V : st_V} {J : st_J} {s : Nat} (H : JM S V J s) : mS S J s = S := by
  unfold mS
  rw [uS_same (S := S) H.2.2.2.1.symm, uS_same (S := S) H.2.2.2.2.1.symm, uS_same (S := S) H.2.2.2.2.2.symm]
theorem mV_id {S : st_S} {V : st_V} {J : st_J} {s : Nat} (H : JM S V J s) : mV V J = V := by
  unfold mV
  rw [uV_same (V := V) H.1.symm, uV_same (V := V) H.2.1.symm, uV_same (V := V) H.2.2.1.symm]
section JRN
variable {d : Nat} {S : st_S} {V : st_V} {J : st_J} {F : List Int32}
theorem ev_nextFault (H : JX S V J) (L : JL J) (hF : V 64 = F) (lF : F.length = 128) : ev d 24 [.ref 63] (hs S V) = some (some (.int (flt F (jn J))), hs S V) := by
  have hc := H.2.2.2.1
  have hb := L.2.2.2.1
  simp only [e_Journal_nextFault, x_Journal_nextFault_0, x_Journal_nextFault_1, x_Journal_nextFault_4, x_Journal_nextFault_7, x_Journal_nextFault_10, x_Journal_nextFault_11, x_Journal_nextFault_14, x_Journal_nextFault_15, x_Journal_nextFault_18, x_Journal_nextFault_19, x_Journal_nextFault_22, x_Journal_nextFault_23, g_63_4, g_63_0, hc, ac_0, ac_i, ac_r, ac_ii, ac_ir, ac_ri, ac_rr, ac_iii, ac_iir, ac_iri, ac_irr, ac_rii, ac_rir, ac_rri, ac_rrr, Option.bind_some, Option.toList_some, Option.toList_none, List.nil_append, List.cons_append, not_false_eq_true]
  unfold flt
  by_cases h : jn J < 128
  · have c : nI (jn J) < 128 := nI_lt (b := 128) h (by decide)
    rw [if_pos c, if_pos h, ldN rfl (by omega), hF, List.getElem?_eq_getElem (by omega)]
    simp [List.getD, lF, h]
  · have c : ¬ nI (jn J) < 128 := nI_nlt (b := 128) (by omega) (by omega)
    rw [if_neg c, if_neg h]
theorem ev_faultNow {s : Nat} (H : JM S V J s) (L : JL J) (hF : V 108 = F) (lF : F.length = 128) : ev d 86 [.ref 93] (hs S V) = some (some (.int (flt F (jn J))), hs S V) := by
  have hc := H.2.2.2.1
  have hb := L.2.2.2.1
  simp only [e_Mod_faultNow, x_Mod_faultNow_0, x_Mod_faultNow_1, x_Mod_faultNow_4, x_Mod_faultNow_7, x_Mod_faultNow_10, x_Mod_faultNow_11, x_Mod_faultNow_14, x_Mod_faultNow_15, x_Mod_faultNow_18, x_Mod_faultNow_19, x_Mod_faultNow_22, x_Mod_faultNow_23, g_93_30, g_93_20, hc, ac_0, ac_i, ac_r, ac_ii, ac_ir, ac_ri, ac_rr, ac_iii, ac_iir, ac_iri, ac_irr, ac_rii, ac_rir, ac_rri, ac_rrr, Option.bind_some, Option.toList_some, Option.toList_none, List.nil_append, List.cons_append, not_false_eq_true]
  unfold flt
  by_cases h : jn J < 128
  · have c : nI (jn J) < 128 := nI_lt (b := 128) h (by decide)
    rw [if_pos c, if_pos h, ldN rfl (by omega), hF, List.getElem?_eq_getElem (by omega)]
    simp [List.getD, lF, h]
  · have c : ¬ nI (jn J) < 128 := nI_nlt (b := 128) (by omega) (by omega)
    rw [if_neg c, if_neg h]
theorem nb01 {y : Int32} (h : B01 y) : narrow .boolean (.int y) = .int y := by
  rcases h with rfl | rfl
  · exact nbz
  · exact nbo
theorem bn01 {y : Int32} (h : B01 y) : vp_nar .boolean y = y := by
  rcases h with rfl | rfl
  · exact bn_0
  · exact bn_1
theorem ev_note {k x y : Int32} (H : JX S V J) (L : JL J) (hy : B01 y) : ev d 25 [.ref 63, .int k, .int x, .int y] (hs S V) = some (some (.int y), hs (jS S (nt J k x y)) (jV V (nt J k x y))) := by
  obtain ⟨h1, h2, h3, hc, hu⟩ := H
  obtain ⟨l1, l2, l3, hb, hb2⟩ := L
  have e5 : uS S 63 4 (nI (jn J + 1)) 63 5 = nI (ju J) := by rw [uS_ne (by decide)]; exact hu
  by_cases h : jn J < 128
  · have c : nI (jn J) < 128 := nI_lt (b := 128) h (by decide)
    have s1 : am_sv (hs S V) 65 0 (nI (jn J)) k = some (hs S (sV V 65 (jn J) k)) := svN rfl (by rw [h1, l1]; exact h) (by omega)
    have s2 : am_sv (hs S (sV V 65 (jn J) k)) 66 0 (nI (jn J)) x = some (hs S (sV (sV V 65 (jn J) k) 66 (jn J) x)) := svN rfl (by rw [sV_len, h2, l2]; exact h) (by omega)
    have s3 : am_sv (hs S (sV (sV V 65 (jn J) k) 66 (jn J) x)) 67 1 (nI (jn J)) y = some (hs S (sV (sV (sV V 65 (jn J) k) 66 (jn J) x) 67 (jn J) y)) := svN rfl (by rw [sV_len, sV_len, h3, l3]; exact h) (by omega)
    have hV : jV V (nt J k x y) = sV (sV (sV V 65 (jn J) k) 66 (jn J) x) 67 (jn J) y := by
      unfold jV nt sV
      rw [uV_ne (a' := 66) (a := 65) (by decide), uV_ne (a' := 67) (a := 66) (by decide), uV_ne (a' := 67) (a := 65) (by decide), h1, h2, h3]
      simp only [if_pos h]
    simp only [e_Journal_note, x_Journal_note_0, x_Journal_note_1, x_Journal_note_4, x_Journal_note_7, x_Journal_note_10, x_Journal_note_11, x_Journal_note_14, x_Journal_note_15, x_Journal_note_18, x_Journal_note_19, x_Journal_note_20, x_Journal_note_21, x_Journal_note_24, x_Journal_note_25, x_Journal_note_28, x_Journal_note_29, x_Journal_note_30, x_Journal_note_31, x_Journal_note_34, x_Journal_note_35, x_Journal_note_38, x_Journal_note_39, x_Journal_note_40, x_Journal_note_41, x_Journal_note_41', x_Journal_note_42, x_Journal_note_45, x_Journal_note_46, x_Journal_note_47, x_Journal_note_50, x_Journal_note_51, x_Journal_note_54, x_Journal_note_55, x_Journal_note_55', x_Journal_note_56, x_Journal_note_59, x_Journal_note_60, x_Journal_note_61, x_Journal_note_64, x_Journal_note_65, g_63_4, g_63_1, g_63_2, g_63_3, hc, c, if_true, s1, s2, s3, bn01 hy, p_63_4, nb01 hy, g_63_5, p_63_5, e5, nI_1, ac_0, ac_i, ac_r, ac_ii, ac_ir, ac_ri, ac_rr, ac_iii, ac_iir, ac_iri, ac_irr, ac_rii, ac_rir, ac_rri, ac_rrr, Option.bind_some, Option.toList_some, Option.toList_none, List.nil_append, List.cons_append, not_false_eq_true]
    rw [hV]
    rcases hy with rfl | rfl
    · rw [if_pos rfl]; rfl
    · rw [if_neg (by decide)]
      unfold jS
      show _ = some (_, hs (uS (uS S 63 4 (nI (jn J + 1))) 63 5 (nI (ju J))) _)
      rw [uS_same (S := uS S 63 4 (nI (jn J + 1))) e5.symm]
  · have c : ¬ nI (jn J) < 128 := nI_nlt (b := 128) (by omega) (by omega)
    have hV : jV V (nt J k x y) = V := by
      unfold jV nt
      simp only [if_neg h]
      rw [uV_same (V := V) h1.symm, uV_same (V := V) h2.symm, uV_same (V := V) h3.symm]
    simp only [e_Journal_note, x_Journal_note_0, x_Journal_note_1, x_Journal_note_4, x_Journal_note_7, x_Journal_note_10, x_Journal_note_11, x_Journal_note_14, x_Journal_note_15, x_Journal_note_18, x_Journal_note_19, x_Journal_note_20, x_Journal_note_21, x_Journal_note_24, x_Journal_note_25, x_Journal_note_28, x_Journal_note_29, x_Journal_note_30, x_Journal_note_31, x_Journal_note_34, x_Journal_note_35, x_Journal_note_38, x_Journal_note_39, x_Journal_note_40, x_Journal_note_41, x_Journal_note_41', x_Journal_note_42, x_Journal_note_45, x_Journal_note_46, x_Journal_note_47, x_Journal_note_50, x_Journal_note_51, x_Journal_note_54, x_Journal_note_55, x_Journal_note_55', x_Journal_note_56, x_Journal_note_59, x_Journal_note_60, x_Journal_note_61, x_Journal_note_64, x_Journal_note_65, g_63_4, hc, c, if_false, p_63_4, nb01 hy, g_63_5, p_63_5, e5, nI_1, ac_0, ac_i, ac_r, ac_ii, ac_ir, ac_ri, ac_rr, ac_iii, ac_iir, ac_iri, ac_irr, ac_rii, ac_rir, ac_rri, ac_rrr, Option.bind_some, Option.toList_some, Option.toList_none, List.nil_append, List.cons_append, not_false_eq_true]
    rw [hV]
    rcases hy with rfl | rfl
    · rw [if_pos rfl]; rfl
    · rw [if_neg (by decide)]
      unfold jS
      show _ = some (_, hs (uS (uS S 63 4 (nI (jn J + 1))) 63 5 (nI (ju J))) _)
      rw [uS_same (S := uS S 63 4 (nI (jn J + 1))) e5.symm]
theorem ev_mnote {k x y : Int32} {s : Nat} (H : JM S V J s) (L : JL J) (hy : B01 y) : ev d 87 [.ref 93, .int k, .int x, .int y] (hs S V) = some (some (.int y), hs (mS S (nt J k x y) (if y = 0 then s + 1 else 0)) (mV V (nt J k x y))) := by
  obtain ⟨h1, h2, h3, hc, hu, hsl⟩ := H
  obtain ⟨l1, l2, l3, hb, hb2⟩ := L
  have e1 : uS S 93 30 (nI (jn J + 1)) 93 32 = nI s := by rw [uS_ne (by decide)]; exact hsl
  have e2 : ∀ v, uS (uS S 93 30 (nI (jn J + 1))) 93 32 v 93 31 = nI (ju J) := fun v => by rw [uS_ne (by decide), uS_ne (by decide)]; exact hu
  have fin0 : hs (uS (uS (uS S 93 30 (nI (jn J + 1))) 93 32 (nI (s + 1))) 93 31 (nI (ju J + 1))) = hs (mS S (nt J k x 0) (s + 1)) := by
    unfold mS
    show _ = hs (uS (uS (uS S 93 30 (nI (jn J + 1))) 93 31 (nI (ju J + 1))) 93 32 (nI (s + 1)))
    rw [uS_comm (k := 31) (k' := 32) (by decide)]
  have fin1 : hs (uS (uS S 93 30 (nI (jn J + 1))) 93 32 0) = hs (mS S (nt J k x 1) 0) := by
    unfold mS
    show _ = hs (uS (uS (uS S 93 30 (nI (jn J + 1))) 93 31 (nI (ju J))) 93 32 (nI 0))
    rw [uS_same (S := uS S 93 30 (nI (jn J + 1))) (a := 93) (k := 31) (by rw [uS_ne (by decide)]; exact hu.symm)]
    rfl
  by_cases h : jn J < 128
  · have c : nI (jn J) < 128 := nI_lt (b := 128) h (by decide)
    have s1 : am_sv (hs S V) 109 0 (nI (jn J)) k = some (hs S (sV V 109 (jn J) k)) := svN rfl (by rw [h1, l1]; exact h) (by omega)
    have s2 : am_sv (hs S (sV V 109 (jn J) k)) 110 0 (nI (jn J)) x = some (hs S (sV (sV V 109 (jn J) k) 110 (jn J) x)) := svN rfl (by rw [sV_len, h2, l2]; exact h) (by omega)
    have s3 : am_sv (hs S (sV (sV V 109 (jn J) k) 110 (jn J) x)) 111 1 (nI (jn J)) y = some (hs S (sV (sV (sV V 109 (jn J) k) 110 (jn J) x) 111 (jn J) y)) := svN rfl (by rw [sV_len, sV_len, h3, l3]; exact h) (by omega)
    have hV : mV V (nt J k x y) = sV (sV (sV V 109 (jn J) k) 110 (jn J) x) 111 (jn J) y := by
      unfold mV nt sV
      rw [uV_ne (a' := 110) (a := 109) (by decide), uV_ne (a' := 111) (a := 110) (by decide), uV_ne (a' := 111) (a := 109) (by decide), h1, h2, h3]
      simp only [if_pos h]
    simp only [e_Mod_note, x_Mod_note_0, x_Mod_note_1, x_Mod_note_4, x_Mod_note_7, x_Mod_note_10, x_Mod_note_11, x_Mod_note_14, x_Mod_note_15, x_Mod_note_18, x_Mod_note_19, x_Mod_note_20, x_Mod_note_21, x_Mod_note_24, x_Mod_note_25, x_Mod_note_28, x_Mod_note_29, x_Mod_note_30, x_Mod_note_31, x_Mod_note_34, x_Mod_note_35, x_Mod_note_38, x_Mod_note_39, x_Mod_note_40, x_Mod_note_41, x_Mod_note_41', x_Mod_note_42, x_Mod_note_45, x_Mod_note_46, x_Mod_note_47, x_Mod_note_50, x_Mod_note_51, x_Mod_note_52, x_Mod_note_55, x_Mod_note_56, x_Mod_note_59, x_Mod_note_60, x_Mod_note_63, x_Mod_note_64, x_Mod_note_65, x_Mod_note_68, x_Mod_note_69, x_Mod_note_72, x_Mod_note_73, x_Mod_note_73', x_Mod_note_74, x_Mod_note_77, x_Mod_note_78, x_Mod_note_79, x_Mod_note_82, x_Mod_note_83, g_93_30, g_93_21, g_93_22, g_93_23, hc, c, if_true, s1, s2, s3, bn01 hy, p_93_30, nb01 hy, g_93_31, p_93_31, g_93_32, p_93_32, e1, e2, nI_1, ac_0, ac_i, ac_r, ac_ii, ac_ir, ac_ri, ac_rr, ac_iii, ac_iir, ac_iri, ac_irr, ac_rii, ac_rir, ac_rri, ac_rrr, Option.bind_some, Option.toList_some, Option.toList_none, List.nil_append, List.cons_append, not_false_eq_true]
    rw [hV]
    rcases hy with rfl | rfl
    · rw [if_pos rfl, if_pos rfl, if_pos rfl, fin0]
    · rw [if_neg (by decide), if_neg (by decide), if_neg (by decide), fin1]
  · have c : ¬ nI (jn J) < 128 := nI_nlt (b := 128) (by omega) (by omega)
    have hV : mV V (nt J k x y) = V := by
      unfold mV nt
      simp only [if_neg h]
      rw [uV_same (V := V) h1.symm, uV_same (V := V) h2.symm, uV_same (V := V) h3.symm]
    simp only [e_Mod_note, x_Mod_note_0, x_Mod_note_1, x_Mod_note_4, x_Mod_note_7, x_Mod_note_10, x_Mod_note_11, x_Mod_note_14, x_Mod_note_15, x_Mod_note_18, x_Mod_note_19, x_Mod_note_20, x_Mod_note_21, x_Mod_note_24, x_Mod_note_25, x_Mod_note_28, x_Mod_note_29, x_Mod_note_30, x_Mod_note_31, x_Mod_note_34, x_Mod_note_35, x_Mod_note_38, x_Mod_note_39, x_Mod_note_40, x_Mod_note_41, x_Mod_note_41', x_Mod_note_42, x_Mod_note_45, x_Mod_note_46, x_Mod_note_47, x_Mod_note_50, x_Mod_note_51, x_Mod_note_52, x_Mod_note_55, x_Mod_note_56, x_Mod_note_59, x_Mod_note_60, x_Mod_note_63, x_Mod_note_64, x_Mod_note_65, x_Mod_note_68, x_Mod_note_69, x_Mod_note_72, x_Mod_note_73, x_Mod_note_73', x_Mod_note_74, x_Mod_note_77, x_Mod_note_78, x_Mod_note_79, x_Mod_note_82, x_Mod_note_83, g_93_30, hc, c, if_false, p_93_30, nb01 hy, g_93_31, p_93_31, g_93_32, p_93_32, e1, e2, nI_1, ac_0, ac_i, ac_r, ac_ii, ac_ir, ac_ri, ac_rr, ac_iii, ac_iir, ac_iri, ac_irr, ac_rii, ac_rir, ac_rri, ac_rrr, Option.bind_some, Option.toList_some, Option.toList_none, List.nil_append, List.cons_append, not_false_eq_true]
    rw [hV]
    rcases hy with rfl | rfl
    · rw [if_pos rfl, if_pos rfl, if_pos rfl, fin0]
    · rw [if_neg (by decide), if_neg (by decide), if_neg (by decide), fin1]
end JRN
