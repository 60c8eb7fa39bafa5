/-! cards, records, fields: both sides -/
def sV (V : st_V) (a j : Nat) (v : Int32) : st_V := uV V a ((V a).set j v)
theorem sV_len (V : st_V) (a j a' : Nat) (v : Int32) : (sV V a j v a').length = (V a').length := by
  unfold sV uV
  split
  · rename_i h; subst h; exact List.length_set
  · rfl
theorem sV_ne {V : st_V} {a a' j : Nat} {v : Int32} (h : ¬ a' = a) : sV V a j v a' = V a' := uV_ne h
theorem sV_self (V : st_V) (a j : Nat) (v : Int32) : sV V a j v a = (V a).set j v := uV_self V a _
theorem sV_at {V : st_V} {a j : Nat} {v : Int32} (h : j < (V a).length) : (sV V a j v a)[j]? = some v := by
  rw [sV_self]; exact List.getElem?_set_self h
section IDX
variable {S : st_S} {V : st_V} {a t j : Nat} {v : Int32}
theorem ldN (h1 : sh_L[a]? = some (.inr (.inl t))) (hj : j < 2 ^ 31) : am_ld (hs S V) a t (nI j) = (V a)[j]? := by
  rw [hs_ld h1 (nI_pos hj), nI_clamp hj]
theorem svN (h1 : sh_L[a]? = some (.inr (.inl t))) (hl : j < (V a).length) (hj : j < 2 ^ 31) : am_sv (hs S V) a t (nI j) v = some (hs S (sV V a j v)) := by
  rw [hs_sv h1 (nI_pos hj) (by rw [nI_clamp hj]; exact hl), nI_clamp hj]; rfl
end IDX
theorem bn_0 : vp_nar .boolean 0 = 0 := by decide +kernel
theorem bn_1 : vp_nar .boolean 1 = 1 := by decide +kernel
def rr (b r : Nat) : Nat := b + 2 + 2 * r
theorem r3 {r : Nat} (h : r < 3) : r = 0 ∨ r = 1 ∨ r = 2 := by omega
theorem rec_row {b r : Nat} (H : Crd b) (h : r < 3) : isRow (rr b r) := by
  rcases r3 h with rfl | rfl | rfl
  · exact H.2.2.1
  · exact H.2.2.2.1
  · exact H.2.2.2.2.1
theorem ld_recs {S : st_S} {V : st_V} {b r : Nat} (H : Crd b) (h : r < 3) : am_ldq (hs S V) (b + 1) (nI r) = some (.ref (rr b r)) := by
  rcases r3 h with rfl | rfl | rfl
  · exact hs_ldq H.2.1 rfl (by decide) rfl
  · exact hs_ldq H.2.1 rfl (by decide) rfl
  · exact hs_ldq H.2.1 rfl (by decide) rfl
theorem row_g1 {S : st_S} {V : st_V} {r : Nat} (H : isRow r) : am_get (hs S V) r 0 1 = some (.int (S r 1)) := hs_get H.1 rfl
theorem row_is {S : st_S} {V : st_V} {r : Nat} (H : isRow r) : am_is (hs S V) r 0 = true := hs_is H.1
theorem ev_clr {d : Nat} {S : st_S} {V : st_V} {r : Nat} (H : isRow r) : ev d 1 [.ref r] (hs S V) = some (none, hs (uS S r 1 0) V) := by
  have p1 : am_put (hs S V) r 0 1 (.int 0) = some (hs (uS S r 1 0) V) := hs_put H.1 rfl
  simp only [e_Row_clear, x_Row_clear_0, x_Row_clear_1, x_Row_clear_2, x_Row_clear_5, p1, Option.bind_some]
/-- how many records: by the counts of the three -/
def cnt3 (a b c : Int32) : Int32 := if 0 < c then 3 else if 0 < b then 2 else if 0 < a then 1 else 0
theorem ev_countRecords {d : Nat} {S : st_S} {V : st_V} {b : Nat} (H : Crd b) : ev d 14 [.ref b] (hs S V) = some (some (.int (cnt3 (S (rr b 0) 1) (S (rr b 1) 1) (S (rr b 2) 1))), hs S V) := by
  have e0 : am_ldq (hs S V) (b + 1) 0 = some (.ref (rr b 0)) := ld_recs H (by decide)
  have e1 : am_ldq (hs S V) (b + 1) 1 = some (.ref (rr b 1)) := ld_recs H (r := 1) (by decide)
  have e2 : am_ldq (hs S V) (b + 1) 2 = some (.ref (rr b 2)) := ld_recs H (r := 2) (by decide)
  have c0 := row_g1 (S := S) (V := V) (rec_row H (r := 0) (by decide))
  have c1 := row_g1 (S := S) (V := V) (rec_row H (r := 1) (by decide))
  have c2 := row_g1 (S := S) (V := V) (rec_row H (r := 2) (by decide))
  simp only [e_Card_countRecords, x_Card_countRecords_0, x_Card_countRecords_1, x_Card_countRecords_2, x_Card_countRecords_3, x_Card_countRecords_6, x_Card_countRecords_7, x_Card_countRecords_10, x_Card_countRecords_11, x_Card_countRecords_12, x_Card_countRecords_13, x_Card_countRecords_14, x_Card_countRecords_17, x_Card_countRecords_20, x_Card_countRecords_21, x_Card_countRecords_22, x_Card_countRecords_25, x_Card_countRecords_28, x_Card_countRecords_29, cg_12 H, e0, e1, e2, c0, c1, c2, ac_0, ac_i, ac_r, ac_ii, ac_ir, ac_ri, ac_rr, ac_iii, ac_iir, ac_iri, ac_irr, ac_rii, ac_rir, ac_rri, ac_rrr, Option.bind_some, Option.toList_some, Option.toList_none, List.nil_append, List.cons_append, not_false_eq_true, if_true, if_false, (by decide : (0 : Int32) < 3), (by decide : (0 : Int32) < 2), (by decide : (0 : Int32) < 1), (by decide : ¬ (0 : Int32) < 0), (by decide : (3 : Int32) - 1 = 2), (by decide : (2 : Int32) - 1 = 1), (by decide : (1 : Int32) - 1 = 0), (by decide : (3 : Int32) + (-1) = 2), (by decide : (2 : Int32) + (-1) = 1), (by decide : (1 : Int32) + (-1) = 0)]
  unfold cnt3
  repeat' (split; rfl)
  rfl
theorem ix3 (j r : Nat) : (3 : Int32) * nI j + nI r = nI (3 * j + r) := by
  rw [show (3 : Int32) = nI 3 from rfl, pk_mul, nI_add]
theorem ix3m (j r : Nat) : (3 : Int32) * nI j + nI (r + 1) - 1 = nI (3 * j + r) := by
  rw [ix3, ← Nat.add_assoc]; exact nI_pred _
set_option maxRecDepth 4000 in
theorem ev_manyOf {d : Nat} {S : st_S} {V : st_V} {j n0 n1 n2 : Nat} (hj : j < 4) (h0 : (V 107)[3 * j]? = some (nI n0)) (h1 : (V 107)[3 * j + 1]? = some (nI n1)) (h2 : (V 107)[3 * j + 2]? = some (nI n2)) (l0 : n0 ≤ 24) (l1 : n1 ≤ 24) (l2 : n2 ≤ 24) : ev d 92 [.ref 93, .int (nI j)] (hs S V) = some (some (.int (cnt3 (nI n0) (nI n1) (nI n2))), hs S V) := by
  have e0 : am_ld (hs S V) 107 0 (nI (3 * j + 0)) = some (nI n0) := by rw [ldN rfl (by omega)]; exact h0
  have e1 : am_ld (hs S V) 107 0 (nI (3 * j + 1)) = some (nI n1) := by rw [ldN rfl (by omega)]; exact h1
  have e2 : am_ld (hs S V) 107 0 (nI (3 * j + 2)) = some (nI n2) := by rw [ldN rfl (by omega)]; exact h2
  have i0 : (3 : Int32) * nI j + 1 - 1 = nI (3 * j + 0) := ix3m j 0
  have i1 : (3 : Int32) * nI j + 2 - 1 = nI (3 * j + 1) := ix3m j 1
  have i2 : (3 : Int32) * nI j + 3 - 1 = nI (3 * j + 2) := ix3m j 2
  simp only [e_Mod_manyOf, x_Mod_manyOf_0, x_Mod_manyOf_1, x_Mod_manyOf_3, x_Mod_manyOf_6, x_Mod_manyOf_7, x_Mod_manyOf_10, x_Mod_manyOf_11, x_Mod_manyOf_12, x_Mod_manyOf_13, x_Mod_manyOf_14, x_Mod_manyOf_15, x_Mod_manyOf_16, x_Mod_manyOf_17, x_Mod_manyOf_18, x_Mod_manyOf_21, x_Mod_manyOf_24, x_Mod_manyOf_27, x_Mod_manyOf_28, g_93_13, i0, i1, i2, e0, e1, e2, ac_0, ac_i, ac_r, ac_ii, ac_ir, ac_ri, ac_rr, ac_iii, ac_iir, ac_iri, ac_irr, ac_rii, ac_rir, ac_rri, ac_rrr, Option.bind_some, Option.toList_some, Option.toList_none, List.nil_append, List.cons_append, not_false_eq_true, if_true, if_false, (by decide : (0 : Int32) < 3), (by decide : (0 : Int32) < 2), (by decide : (0 : Int32) < 1), (by decide : ¬ (0 : Int32) < 0), (by decide : (3 : Int32) + (-1) = 2), (by decide : (2 : Int32) + (-1) = 1), (by decide : (1 : Int32) + (-1) = 0)]
  rw [x_Mod_manyOf_2]
  simp only [x_Mod_manyOf_0, x_Mod_manyOf_1, x_Mod_manyOf_3, x_Mod_manyOf_6, x_Mod_manyOf_7, x_Mod_manyOf_10, x_Mod_manyOf_11, x_Mod_manyOf_12, x_Mod_manyOf_13, x_Mod_manyOf_14, x_Mod_manyOf_15, x_Mod_manyOf_16, x_Mod_manyOf_17, x_Mod_manyOf_18, x_Mod_manyOf_21, x_Mod_manyOf_24, x_Mod_manyOf_27, x_Mod_manyOf_28, g_93_13, i0, i1, i2, e0, e1, e2, ac_0, ac_i, ac_r, ac_ii, ac_ir, ac_ri, ac_rr, ac_iii, ac_iir, ac_iri, ac_irr, ac_rii, ac_rir, ac_rri, ac_rrr, Option.bind_some, Option.toList_some, Option.toList_none, List.nil_append, List.cons_append, not_false_eq_true, if_true, if_false, (by decide : (0 : Int32) < 3), (by decide : (0 : Int32) < 2), (by decide : (0 : Int32) < 1), (by decide : ¬ (0 : Int32) < 0), (by decide : (3 : Int32) + (-1) = 2), (by decide : (2 : Int32) + (-1) = 1), (by decide : (1 : Int32) + (-1) = 0)]
  rw [x_Mod_manyOf_2]
  simp only [x_Mod_manyOf_0, x_Mod_manyOf_1, x_Mod_manyOf_3, x_Mod_manyOf_6, x_Mod_manyOf_7, x_Mod_manyOf_10, x_Mod_manyOf_11, x_Mod_manyOf_12, x_Mod_manyOf_13, x_Mod_manyOf_14, x_Mod_manyOf_15, x_Mod_manyOf_16, x_Mod_manyOf_17, x_Mod_manyOf_18, x_Mod_manyOf_21, x_Mod_manyOf_24, x_Mod_manyOf_27, x_Mod_manyOf_28, g_93_13, i0, i1, i2, e0, e1, e2, ac_0, ac_i, ac_r, ac_ii, ac_ir, ac_ri, ac_rr, ac_iii, ac_iir, ac_iri, ac_irr, ac_rii, ac_rir, ac_rri, ac_rrr, Option.bind_some, Option.toList_some, Option.toList_none, List.nil_append, List.cons_append, not_false_eq_true, if_true, if_false, (by decide : (0 : Int32) < 3), (by decide : (0 : Int32) < 2), (by decide : (0 : Int32) < 1), (by decide : ¬ (0 : Int32) < 0), (by decide : (3 : Int32) + (-1) = 2), (by decide : (2 : Int32) + (-1) = 1), (by decide : (1 : Int32) + (-1) = 0)]
  rw [x_Mod_manyOf_2]
  simp only [x_Mod_manyOf_0, x_Mod_manyOf_1, x_Mod_manyOf_3, x_Mod_manyOf_6, x_Mod_manyOf_7, x_Mod_manyOf_10, x_Mod_manyOf_11, x_Mod_manyOf_12, x_Mod_manyOf_13, x_Mod_manyOf_14, x_Mod_manyOf_15, x_Mod_manyOf_16, x_Mod_manyOf_17, x_Mod_manyOf_18, x_Mod_manyOf_21, x_Mod_manyOf_24, x_Mod_manyOf_27, x_Mod_manyOf_28, g_93_13, i0, i1, i2, e0, e1, e2, ac_0, ac_i, ac_r, ac_ii, ac_ir, ac_ri, ac_rr, ac_iii, ac_iir, ac_iri, ac_irr, ac_rii, ac_rir, ac_rri, ac_rrr, Option.bind_some, Option.toList_some, Option.toList_none, List.nil_append, List.cons_append, not_false_eq_true, if_true, if_false, (by decide : (0 : Int32) < 3), (by decide : (0 : Int32) < 2), (by decide : (0 : Int32) < 1), (by decide : ¬ (0 : Int32) < 0), (by decide : (3 : Int32) + (-1) = 2), (by decide : (2 : Int32) + (-1) = 1), (by decide : (1 : Int32) + (-1) = 0)]
  rw [x_Mod_manyOf_2]
  simp only [x_Mod_manyOf_0, x_Mod_manyOf_1, x_Mod_manyOf_3, x_Mod_manyOf_6, x_Mod_manyOf_7, x_Mod_manyOf_10, x_Mod_manyOf_11, x_Mod_manyOf_12, x_Mod_manyOf_13, x_Mod_manyOf_14, x_Mod_manyOf_15, x_Mod_manyOf_16, x_Mod_manyOf_17, x_Mod_manyOf_18, x_Mod_manyOf_21, x_Mod_manyOf_24, x_Mod_manyOf_27, x_Mod_manyOf_28, g_93_13, i0, i1, i2, e0, e1, e2, ac_0, ac_i, ac_r, ac_ii, ac_ir, ac_ri, ac_rr, ac_iii, ac_iir, ac_iri, ac_irr, ac_rii, ac_rir, ac_rri, ac_rrr, Option.bind_some, Option.toList_some, Option.toList_none, List.nil_append, List.cons_append, not_false_eq_true, if_true, if_false, (by decide : (0 : Int32) < 3), (by decide : (0 : Int32) < 2), (by decide : (0 : Int32) < 1), (by decide : ¬ (0 : Int32) < 0), (by decide : (3 : Int32) + (-1) = 2), (by decide : (2 : Int32) + (-1) = 1), (by decide : (1 : Int32) + (-1) = 0)]
  have pos : ∀ n, n ≤ 24 → (0 < nI n ↔ ¬ nI n = 0) := by decide +kernel
  unfold cnt3
  by_cases a2 : nI n2 = 0
  · rw [if_pos a2, if_neg (fun z => (pos n2 l2).mp z a2)]
    by_cases a1 : nI n1 = 0
    · rw [if_pos a1, if_neg (fun z => (pos n1 l1).mp z a1)]
      by_cases a0 : nI n0 = 0
      · rw [if_pos a0, if_neg (fun z => (pos n0 l0).mp z a0)]
      · rw [if_neg a0, if_pos ((pos n0 l0).mpr a0)]
    · rw [if_neg a1, if_pos ((pos n1 l1).mpr a1)]
  · rw [if_neg a2, if_pos ((pos n2 l2).mpr a2)]
section CARDS
variable {d : Nat} {S : st_S} {V : st_V}
theorem ev_look_no {c w : Int32} (h : wi c 4 = 0) : ev (d + 2) 65 [.ref 0, .int c, .int w] (hs S V) = some (some (.int (-1)), hs S V) := by
  have e := ev_isCard_no (d := d) (S := S) (V := V) h
  simp only [e_Tap_look, x_Tap_look_0, x_Tap_look_1, x_Tap_look_2, x_Tap_look_5, x_Tap_look_8, x_Tap_look_9, x_Tap_look_10, x_Tap_look_11, x_Tap_look_14, x_Tap_look_17, x_Tap_look_18, x_Tap_look_19, x_Tap_look_20, x_Tap_look_21, x_Tap_look_60, x_Tap_look_61, x_Tap_look_64, x_Tap_look_67, x_Tap_look_68, x_Tap_look_71, x_Tap_look_72, x_Tap_look_73, x_Tap_look_74, x_Tap_look_77, x_Tap_look_78, x_Tap_look_79, x_Tap_look_82, x_Tap_look_83, x_Tap_look_84, x_Tap_look_87, x_Tap_look_88, x_Tap_look_89, x_Tap_look_92, x_Tap_look_93, x_Tap_look_94, x_Tap_look_97, x_Tap_look_98, x_Tap_look_99, i_0, e, ac_0, ac_i, ac_r, ac_ii, ac_ir, ac_ri, ac_rr, ac_iii, ac_iir, ac_iri, ac_irr, ac_rii, ac_rir, ac_rri, ac_rrr, Option.bind_some, Option.toList_some, Option.toList_none, List.nil_append, List.cons_append, not_false_eq_true, if_true]
theorem ev_look {j : Nat} {w : Int32} (h : j < 4) : ev (d + 2) 65 [.ref 0, .int (nI j), .int w] (hs S V) = some (some (.int (if nz (S (cb j) 0) = 0 then -1 else if w = 0 then nz (S (cb j) 1) else if w = 1 then S (cb j) 3 else if w = 2 then S (cb j) 7 else if w = 3 then S (cb j) 10 else if w = 4 then S (cb j) 11 else if w = 5 then cnt3 (S (rr (cb j) 0) 1) (S (rr (cb j) 1) 1) (S (rr (cb j) 2) 1) else -1)), hs S V) := by
  have H := crd h
  simp only [e_Tap_look, x_Tap_look_0, x_Tap_look_1, x_Tap_look_2, x_Tap_look_5, x_Tap_look_8, x_Tap_look_9, x_Tap_look_10, x_Tap_look_11, x_Tap_look_14, x_Tap_look_17, x_Tap_look_18, x_Tap_look_19, x_Tap_look_20, x_Tap_look_21, x_Tap_look_60, x_Tap_look_61, x_Tap_look_64, x_Tap_look_67, x_Tap_look_68, x_Tap_look_71, x_Tap_look_72, x_Tap_look_73, x_Tap_look_74, x_Tap_look_77, x_Tap_look_78, x_Tap_look_79, x_Tap_look_82, x_Tap_look_83, x_Tap_look_84, x_Tap_look_87, x_Tap_look_88, x_Tap_look_89, x_Tap_look_92, x_Tap_look_93, x_Tap_look_94, x_Tap_look_97, x_Tap_look_98, x_Tap_look_99, i_0, ev_isCard h, ac_0, ac_i, ac_r, ac_ii, ac_ir, ac_ri, ac_rr, ac_iii, ac_iir, ac_iri, ac_irr, ac_rii, ac_rir, ac_rri, ac_rrr, Option.bind_some, Option.toList_some, Option.toList_none, List.nil_append, List.cons_append, not_false_eq_true, g_0_0, g_1_0, ld_cards h, cg_1 H, cg_3 H, cg_7 H, cg_10 H, cg_11 H, c_is H, ev_countRecords H]
  unfold nz
  repeat' (split; first | rfl | (split; first | rfl | (split <;> rfl)))
  all_goals rfl
theorem ev_mlook_no {c w : Int32} (h : is3 c 0 3 = 0) : ev (d + 2) 110 [.ref 93, .int c, .int w] (hs S V) = some (some (.int (-1)), hs S V) := by
  have e := ev_misCard_no (d := d) (S := S) (V := V) h
  simp only [e_Mod_look, x_Mod_look_0, x_Mod_look_1, x_Mod_look_2, x_Mod_look_5, x_Mod_look_8, x_Mod_look_9, x_Mod_look_10, x_Mod_look_11, x_Mod_look_48, x_Mod_look_49, x_Mod_look_52, x_Mod_look_53, x_Mod_look_54, x_Mod_look_57, x_Mod_look_58, x_Mod_look_61, x_Mod_look_62, x_Mod_look_63, x_Mod_look_64, x_Mod_look_67, x_Mod_look_68, x_Mod_look_69, x_Mod_look_70, x_Mod_look_71, x_Mod_look_74, x_Mod_look_75, x_Mod_look_76, x_Mod_look_77, x_Mod_look_78, x_Mod_look_81, x_Mod_look_82, x_Mod_look_83, x_Mod_look_84, x_Mod_look_85, x_Mod_look_88, x_Mod_look_89, x_Mod_look_90, x_Mod_look_91, x_Mod_look_92, x_Mod_look_93, x_Mod_look_96, x_Mod_look_97, x_Mod_look_98, i_93, e, ac_0, ac_i, ac_r, ac_ii, ac_ir, ac_ri, ac_rr, ac_iii, ac_iir, ac_iri, ac_irr, ac_rii, ac_rir, ac_rri, ac_rrr, Option.bind_some, Option.toList_some, Option.toList_none, List.nil_append, List.cons_append, not_false_eq_true, if_true]
end CARDS
