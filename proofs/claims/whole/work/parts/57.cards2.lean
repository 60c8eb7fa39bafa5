/-! look, write, card, field: both sides -/
theorem ev_addA {d : Nat} {S : st_S} {V : st_V} {r n : Nat} {v : Int32} (hr : isRow r) (hn : S r 1 = nI n) (hl : n < (V (r + 1)).length) (hL : (V (r + 1)).length ≤ 1000) : ev d 2 [.ref r, .int v] (hs S V) = some (none, hs (uS S r 1 (nI (n + 1))) (sV V (r + 1) n v)) := by
  have hd : (V (r + 1)).drop n = (V (r + 1))[n] :: (V (r + 1)).drop (n + 1) := List.drop_eq_getElem_cons hl
  have ht : ((V (r + 1)).take n).length = n := by rw [List.length_take]; omega
  have H : Rw S V r ((V (r + 1)).take n) ((V (r + 1))[n] :: (V (r + 1)).drop (n + 1)) := by
    refine ⟨hr, by rw [ht]; exact hn, by rw [← hd, List.take_append_drop], ?_⟩
    rw [ht, List.length_cons, List.length_drop]; omega
  have e := ev_add (d := d) (v := v) H
  rw [ht] at e
  rw [e]
  unfold sV
  rw [List.set_eq_take_append_cons_drop, if_pos hl]
section CARDS2
variable {d : Nat} {S : st_S} {V : st_V}
theorem ev_mlook {j n0 n1 n2 : Nat} {w x0 x1 x3 x7 x10 x11 : Int32} (hj : j < 4) (a0 : (V 94)[j]? = some x0) (a1 : (V 95)[j]? = some x1) (a3 : (V 97)[j]? = some x3) (a7 : (V 101)[j]? = some x7) (a10 : (V 104)[j]? = some x10) (a11 : (V 105)[j]? = some x11) (h0 : (V 107)[3 * j]? = some (nI n0)) (h1 : (V 107)[3 * j + 1]? = some (nI n1)) (h2 : (V 107)[3 * j + 2]? = some (nI n2)) (l0 : n0 ≤ 24) (l1 : n1 ≤ 24) (l2 : n2 ≤ 24) :
    ev (d + 2) 110 [.ref 93, .int (nI j), .int w] (hs S V) = some (some (.int (if nz x0 = 0 then -1 else if w = 0 then nz x1 else if w = 1 then x3 else if w = 2 then x7 else if w = 3 then x10 else if w = 4 then x11 else if w = 5 then cnt3 (nI n0) (nI n1) (nI n2) else -1)), hs S V) := by
  have e1 : am_ld (hs S V) 95 1 (nI j) = some x1 := by rw [ldN rfl (by omega)]; exact a1
  have e3 : am_ld (hs S V) 97 0 (nI j) = some x3 := by rw [ldN rfl (by omega)]; exact a3
  have e7 : am_ld (hs S V) 101 0 (nI j) = some x7 := by rw [ldN rfl (by omega)]; exact a7
  have e10 : am_ld (hs S V) 104 0 (nI j) = some x10 := by rw [ldN rfl (by omega)]; exact a10
  have e11 : am_ld (hs S V) 105 0 (nI j) = some x11 := by rw [ldN rfl (by omega)]; exact a11
  simp only [e_Mod_look, x_Mod_look_0, x_Mod_look_1, x_Mod_look_2, x_Mod_look_5, x_Mod_look_8, x_Mod_look_9, x_Mod_look_10, x_Mod_look_11, x_Mod_look_48, x_Mod_look_49, x_Mod_look_52, x_Mod_look_53, x_Mod_look_54, x_Mod_look_57, x_Mod_look_58, x_Mod_look_61, x_Mod_look_62, x_Mod_look_63, x_Mod_look_64, x_Mod_look_67, x_Mod_look_68, x_Mod_look_69, x_Mod_look_70, x_Mod_look_71, x_Mod_look_74, x_Mod_look_75, x_Mod_look_76, x_Mod_look_77, x_Mod_look_78, x_Mod_look_81, x_Mod_look_82, x_Mod_look_83, x_Mod_look_84, x_Mod_look_85, x_Mod_look_88, x_Mod_look_89, x_Mod_look_90, x_Mod_look_91, x_Mod_look_92, x_Mod_look_93, x_Mod_look_96, x_Mod_look_97, x_Mod_look_98, i_93, ev_misCard hj a0, ac_0, ac_i, ac_r, ac_ii, ac_ir, ac_ri, ac_rr, ac_iii, ac_iir, ac_iri, ac_irr, ac_rii, ac_rir, ac_rri, ac_rrr, Option.bind_some, Option.toList_some, Option.toList_none, List.nil_append, List.cons_append, not_false_eq_true, g_93_1, g_93_3, g_93_7, g_93_10, g_93_11, e1, e3, e7, e10, e11, ev_manyOf hj h0 h1 h2 l0 l1 l2]
  unfold nz
  repeat' (split; first | rfl | (split; first | rfl | (split <;> rfl)))
  all_goals rfl
theorem ev_write_no {c r v : Int32} (h : wi c 4 = 0) : ev (d + 2) 57 [.ref 0, .int c, .int r, .int v] (hs S V) = some (some (.int (-1)), hs S V) := by
  have e := ev_isCard_no (d := d) (S := S) (V := V) h
  simp only [e_Tap_write, x_Tap_write_0, x_Tap_write_1, x_Tap_write_2, x_Tap_write_5, x_Tap_write_8, x_Tap_write_9, x_Tap_write_10, x_Tap_write_13, x_Tap_write_16, x_Tap_write_17, x_Tap_write_20, x_Tap_write_23, x_Tap_write_24, x_Tap_write_25, x_Tap_write_26, x_Tap_write_29, x_Tap_write_32, x_Tap_write_33, x_Tap_write_34, x_Tap_write_37, x_Tap_write_38, x_Tap_write_39, x_Tap_write_41, x_Tap_write_43, x_Tap_write_46, x_Tap_write_48, x_Tap_write_51, x_Tap_write_53, x_Tap_write_54, x_Tap_write_56, x_Tap_write_57, x_Tap_write_60, x_Tap_write_62, x_Tap_write_65, i_0, e, ac_0, ac_i, ac_r, ac_ii, ac_ir, ac_ri, ac_rr, ac_iii, ac_iir, ac_iri, ac_irr, ac_rii, ac_rir, ac_rri, ac_rrr, Option.bind_some, Option.toList_some, Option.toList_none, List.nil_append, List.cons_append, not_false_eq_true, if_true]
theorem ev_write_no2 {j : Nat} {r v : Int32} (hj : j < 4) (h : nz (S (cb j) 0) = 0 ∨ wi r 3 = 0 ∨ wi v 256 = 0) : ev (d + 2) 57 [.ref 0, .int (nI j), .int r, .int v] (hs S V) = some (some (.int (-1)), hs S V) := by
  simp only [e_Tap_write, x_Tap_write_0, x_Tap_write_1, x_Tap_write_2, x_Tap_write_5, x_Tap_write_8, x_Tap_write_9, x_Tap_write_10, x_Tap_write_13, x_Tap_write_16, x_Tap_write_17, x_Tap_write_20, x_Tap_write_23, x_Tap_write_24, x_Tap_write_25, x_Tap_write_26, x_Tap_write_29, x_Tap_write_32, x_Tap_write_33, x_Tap_write_34, x_Tap_write_37, x_Tap_write_38, x_Tap_write_39, x_Tap_write_41, x_Tap_write_43, x_Tap_write_46, x_Tap_write_48, x_Tap_write_51, x_Tap_write_53, x_Tap_write_54, x_Tap_write_56, x_Tap_write_57, x_Tap_write_60, x_Tap_write_62, x_Tap_write_65, e_Tap_write, x_Tap_write_0, x_Tap_write_1, x_Tap_write_2, x_Tap_write_5, x_Tap_write_8, x_Tap_write_9, x_Tap_write_10, x_Tap_write_13, x_Tap_write_16, x_Tap_write_17, x_Tap_write_20, x_Tap_write_23, x_Tap_write_24, i_0, ev_isCard hj, ev_isWithin, ev_isOctet, ac_0, ac_i, ac_r, ac_ii, ac_ir, ac_ri, ac_rr, ac_iii, ac_iir, ac_iri, ac_irr, ac_rii, ac_rir, ac_rri, ac_rrr, Option.bind_some, Option.toList_some, Option.toList_none, List.nil_append, List.cons_append, not_false_eq_true]
  by_cases h1 : nz (S (cb j) 0) = 0
  · rw [if_pos h1]
  · rw [if_neg h1]
    by_cases h2 : wi r 3 = 0
    · rw [if_pos h2]
    · rw [if_neg h2, if_pos ((h.resolve_left h1).resolve_left h2)]
theorem ev_write_full {j r : Nat} {v : Int32} (hj : j < 4) (hr : r < 3) (h1 : ¬ nz (S (cb j) 0) = 0) (h3 : ¬ wi v 256 = 0) (hn : S (rr (cb j) r) 1 = 24) : ev (d + 2) 57 [.ref 0, .int (nI j), .int (nI r), .int v] (hs S V) = some (some (.int (-2)), hs S V) := by
  have H := crd hj
  have h2 : ¬ wi (nI r) 3 = 0 := by rw [show wi (nI r) 3 = 1 from wi_in hr (by decide)]; decide
  have g := row_g1 (S := S) (V := V) (rec_row H hr)
  rw [hn] at g
  simp only [e_Tap_write, x_Tap_write_0, x_Tap_write_1, x_Tap_write_2, x_Tap_write_5, x_Tap_write_8, x_Tap_write_9, x_Tap_write_10, x_Tap_write_13, x_Tap_write_16, x_Tap_write_17, x_Tap_write_20, x_Tap_write_23, x_Tap_write_24, x_Tap_write_25, x_Tap_write_26, x_Tap_write_29, x_Tap_write_32, x_Tap_write_33, x_Tap_write_34, x_Tap_write_37, x_Tap_write_38, x_Tap_write_39, x_Tap_write_41, x_Tap_write_43, x_Tap_write_46, x_Tap_write_48, x_Tap_write_51, x_Tap_write_53, x_Tap_write_54, x_Tap_write_56, x_Tap_write_57, x_Tap_write_60, x_Tap_write_62, x_Tap_write_65, i_0, ev_isCard hj, ev_isWithin, ev_isOctet, ac_0, ac_i, ac_r, ac_ii, ac_ir, ac_ri, ac_rr, ac_iii, ac_iir, ac_iri, ac_irr, ac_rii, ac_rir, ac_rri, ac_rrr, Option.bind_some, Option.toList_some, Option.toList_none, List.nil_append, List.cons_append, not_false_eq_true, h1, h2, h3, if_false, if_true, g_0_0, g_1_0, ld_cards hj, cg_12 H, ld_recs H hr, g]
theorem ev_write {j r n : Nat} {v : Int32} (hj : j < 4) (hr : r < 3) (h1 : ¬ nz (S (cb j) 0) = 0) (h3 : ¬ wi v 256 = 0) (hn : S (rr (cb j) r) 1 = nI n) (hn2 : n < 24) (hL : (V (rr (cb j) r + 1)).length = 24) : ev (d + 2) 57 [.ref 0, .int (nI j), .int (nI r), .int v] (hs S V) = some (some (.int (nI (n + 1))), hs (uS S (rr (cb j) r) 1 (nI (n + 1))) (sV V (rr (cb j) r + 1) n v)) := by
  have H := crd hj
  have h2 : ¬ wi (nI r) 3 = 0 := by rw [show wi (nI r) 3 = 1 from wi_in hr (by decide)]; decide
  have g := row_g1 (S := S) (V := V) (rec_row H hr)
  rw [hn] at g
  have hne : ¬ nI n = 24 := by rw [show (24 : Int32) = nI 24 from rfl, nI_eq (by omega) (by decide)]; omega
  have e := ev_addA (d := d + 1) (v := v) (rec_row H hr) hn (by rw [hL]; exact hn2) (by rw [hL]; decide)
  have g' := row_g1 (S := uS S (rr (cb j) r) 1 (nI (n + 1))) (V := sV V (rr (cb j) r + 1) n v) (rec_row H hr)
  rw [uS_self] at g'
  simp only [e_Tap_write, x_Tap_write_0, x_Tap_write_1, x_Tap_write_2, x_Tap_write_5, x_Tap_write_8, x_Tap_write_9, x_Tap_write_10, x_Tap_write_13, x_Tap_write_16, x_Tap_write_17, x_Tap_write_20, x_Tap_write_23, x_Tap_write_24, x_Tap_write_25, x_Tap_write_26, x_Tap_write_29, x_Tap_write_32, x_Tap_write_33, x_Tap_write_34, x_Tap_write_37, x_Tap_write_38, x_Tap_write_39, x_Tap_write_41, x_Tap_write_43, x_Tap_write_46, x_Tap_write_48, x_Tap_write_51, x_Tap_write_53, x_Tap_write_54, x_Tap_write_56, x_Tap_write_57, x_Tap_write_60, x_Tap_write_62, x_Tap_write_65, i_0, ev_isCard hj, ev_isWithin, ev_isOctet, ac_0, ac_i, ac_r, ac_ii, ac_ir, ac_ri, ac_rr, ac_iii, ac_iir, ac_iri, ac_irr, ac_rii, ac_rir, ac_rri, ac_rrr, Option.bind_some, Option.toList_some, Option.toList_none, List.nil_append, List.cons_append, not_false_eq_true, h1, h2, h3, if_false, g_0_0, g_1_0, ld_cards hj, cg_12 H, ld_recs H hr, g, hne, row_is (rec_row H hr), e, g']
theorem ev_mwrite_no {c r v : Int32} (h : is3 c 0 3 = 0) : ev (d + 2) 81 [.ref 93, .int c, .int r, .int v] (hs S V) = some (some (.int (-1)), hs S V) := by
  have e := ev_misCard_no (d := d) (S := S) (V := V) h
  simp only [e_Mod_write, x_Mod_write_0, x_Mod_write_1, x_Mod_write_2, x_Mod_write_5, x_Mod_write_8, x_Mod_write_9, x_Mod_write_10, x_Mod_write_11, x_Mod_write_14, x_Mod_write_17, x_Mod_write_18, x_Mod_write_19, x_Mod_write_22, x_Mod_write_25, x_Mod_write_28, x_Mod_write_29, x_Mod_write_30, x_Mod_write_31, x_Mod_write_32, x_Mod_write_33, x_Mod_write_34, x_Mod_write_35, x_Mod_write_37, x_Mod_write_38, x_Mod_write_41, x_Mod_write_43, x_Mod_write_44, x_Mod_write_46, x_Mod_write_49, x_Mod_write_51, x_Mod_write_52, x_Mod_write_53, x_Mod_write_56, x_Mod_write_58, x_Mod_write_60, x_Mod_write_61, x_Mod_write_62, x_Mod_write_65, x_Mod_write_67, x_Mod_write_68, x_Mod_write_69, x_Mod_write_70, x_Mod_write_71, x_Mod_write_72, x_Mod_write_75, x_Mod_write_77, x_Mod_write_77', x_Mod_write_78, x_Mod_write_79, x_Mod_write_80, x_Mod_write_81, x_Mod_write_82, x_Mod_write_83, i_93, e, ac_0, ac_i, ac_r, ac_ii, ac_ir, ac_ri, ac_rr, ac_iii, ac_iir, ac_iri, ac_irr, ac_rii, ac_rir, ac_rri, ac_rrr, Option.bind_some, Option.toList_some, Option.toList_none, List.nil_append, List.cons_append, not_false_eq_true, if_true]
theorem ev_mwrite_no2 {j : Nat} {r v x : Int32} (hj : j < 4) (hx : (V 94)[j]? = some x) (h : nz x = 0 ∨ is3 r 0 2 = 0 ∨ is3 v 0 255 = 0) : ev (d + 2) 81 [.ref 93, .int (nI j), .int r, .int v] (hs S V) = some (some (.int (-1)), hs S V) := by
  simp only [e_Mod_write, x_Mod_write_0, x_Mod_write_1, x_Mod_write_2, x_Mod_write_5, x_Mod_write_8, x_Mod_write_9, x_Mod_write_10, x_Mod_write_11, x_Mod_write_14, x_Mod_write_17, x_Mod_write_18, x_Mod_write_19, x_Mod_write_22, x_Mod_write_25, x_Mod_write_28, x_Mod_write_29, i_93, ev_misCard hj hx, ev_is, ac_0, ac_i, ac_r, ac_ii, ac_ir, ac_ri, ac_rr, ac_iii, ac_iir, ac_iri, ac_irr, ac_rii, ac_rir, ac_rri, ac_rrr, Option.bind_some, Option.toList_some, Option.toList_none, List.nil_append, List.cons_append, not_false_eq_true]
  by_cases h1 : nz x = 0
  · rw [if_pos h1]
  · rw [if_neg h1]
    by_cases h2 : is3 r 0 2 = 0
    · rw [if_pos h2]
    · rw [if_neg h2, if_pos ((h.resolve_left h1).resolve_left h2)]
theorem ev_mwrite_full {j r : Nat} {v x : Int32} (hj : j < 4) (hr : r < 3) (hx : (V 94)[j]? = some x) (h1 : ¬ nz x = 0) (h3 : ¬ is3 v 0 255 = 0) (hn : (V 107)[3 * j + r]? = some 24) : ev (d + 2) 81 [.ref 93, .int (nI j), .int (nI r), .int v] (hs S V) = some (some (.int (-2)), hs S V) := by
  have h2 : ¬ is3 (nI r) 0 2 = 0 := by rw [show is3 (nI r) 0 2 = 1 from is3_in (a := 0) (b := 2) (by omega) (by omega) (by decide)]; decide
  have e : am_ld (hs S V) 107 0 (nI (3 * j + r)) = some 24 := by rw [ldN rfl (by omega)]; exact hn
  simp only [e_Mod_write, x_Mod_write_0, x_Mod_write_1, x_Mod_write_2, x_Mod_write_5, x_Mod_write_8, x_Mod_write_9, x_Mod_write_10, x_Mod_write_11, x_Mod_write_14, x_Mod_write_17, x_Mod_write_18, x_Mod_write_19, x_Mod_write_22, x_Mod_write_25, x_Mod_write_28, x_Mod_write_29, x_Mod_write_30, x_Mod_write_31, x_Mod_write_32, x_Mod_write_33, x_Mod_write_34, x_Mod_write_35, x_Mod_write_37, x_Mod_write_38, x_Mod_write_41, x_Mod_write_43, x_Mod_write_44, x_Mod_write_46, x_Mod_write_49, x_Mod_write_51, x_Mod_write_52, x_Mod_write_53, x_Mod_write_56, x_Mod_write_58, x_Mod_write_60, x_Mod_write_61, x_Mod_write_62, x_Mod_write_65, x_Mod_write_67, x_Mod_write_68, x_Mod_write_69, x_Mod_write_70, x_Mod_write_71, x_Mod_write_72, x_Mod_write_75, x_Mod_write_77, x_Mod_write_77', x_Mod_write_78, x_Mod_write_79, x_Mod_write_80, x_Mod_write_81, x_Mod_write_82, x_Mod_write_83, i_93, ev_misCard hj hx, ev_is, ac_0, ac_i, ac_r, ac_ii, ac_ir, ac_ri, ac_rr, ac_iii, ac_iir, ac_iri, ac_irr, ac_rii, ac_rir, ac_rri, ac_rrr, Option.bind_some, Option.toList_some, Option.toList_none, List.nil_append, List.cons_append, not_false_eq_true, h1, h2, h3, if_false, if_true, ix3, g_93_13, e]
theorem ev_mwrite {j r n : Nat} {v x : Int32} (hj : j < 4) (hr : r < 3) (hx : (V 94)[j]? = some x) (h1 : ¬ nz x = 0) (h3 : ¬ is3 v 0 255 = 0) (hn : (V 107)[3 * j + r]? = some (nI n)) (hn2 : n < 24) (hL : (V 106).length = 288) (hL2 : (V 107).length = 12) : ev (d + 2) 81 [.ref 93, .int (nI j), .int (nI r), .int v] (hs S V) = some (some (.int (nI (n + 1))), hs S (sV (sV V 106 (24 * (3 * j + r) + n) v) 107 (3 * j + r) (nI (n + 1)))) := by
  have h2 : ¬ is3 (nI r) 0 2 = 0 := by rw [show is3 (nI r) 0 2 = 1 from is3_in (a := 0) (b := 2) (by omega) (by omega) (by decide)]; decide
  have e : am_ld (hs S V) 107 0 (nI (3 * j + r)) = some (nI n) := by rw [ldN rfl (by omega)]; exact hn
  have hne : ¬ nI n = 24 := by rw [show (24 : Int32) = nI 24 from rfl, nI_eq (by omega) (by decide)]; omega
  have i2 : (24 : Int32) * nI (3 * j + r) + nI n = nI (24 * (3 * j + r) + n) := by rw [show (24 : Int32) = nI 24 from rfl, pk_mul, nI_add]
  have e2 : am_sv (hs S V) 106 0 (nI (24 * (3 * j + r) + n)) v = some (hs S (sV V 106 (24 * (3 * j + r) + n) v)) := svN rfl (by rw [hL]; omega) (by omega)
  have e3 : am_ld (hs S (sV V 106 (24 * (3 * j + r) + n) v)) 107 0 (nI (3 * j + r)) = some (nI n) := by rw [ldN rfl (by omega), sV_ne (by decide)]; exact hn
  have e4 : am_sv (hs S (sV V 106 (24 * (3 * j + r) + n) v)) 107 0 (nI (3 * j + r)) (nI (n + 1)) = some (hs S (sV (sV V 106 (24 * (3 * j + r) + n) v) 107 (3 * j + r) (nI (n + 1)))) := svN rfl (by rw [sV_len, hL2]; omega) (by omega)
  simp only [e_Mod_write, x_Mod_write_0, x_Mod_write_1, x_Mod_write_2, x_Mod_write_5, x_Mod_write_8, x_Mod_write_9, x_Mod_write_10, x_Mod_write_11, x_Mod_write_14, x_Mod_write_17, x_Mod_write_18, x_Mod_write_19, x_Mod_write_22, x_Mod_write_25, x_Mod_write_28, x_Mod_write_29, x_Mod_write_30, x_Mod_write_31, x_Mod_write_32, x_Mod_write_33, x_Mod_write_34, x_Mod_write_35, x_Mod_write_37, x_Mod_write_38, x_Mod_write_41, x_Mod_write_43, x_Mod_write_44, x_Mod_write_46, x_Mod_write_49, x_Mod_write_51, x_Mod_write_52, x_Mod_write_53, x_Mod_write_56, x_Mod_write_58, x_Mod_write_60, x_Mod_write_61, x_Mod_write_62, x_Mod_write_65, x_Mod_write_67, x_Mod_write_68, x_Mod_write_69, x_Mod_write_70, x_Mod_write_71, x_Mod_write_72, x_Mod_write_75, x_Mod_write_77, x_Mod_write_77', x_Mod_write_78, x_Mod_write_79, x_Mod_write_80, x_Mod_write_81, x_Mod_write_82, x_Mod_write_83, i_93, ev_misCard hj hx, ev_is, ac_0, ac_i, ac_r, ac_ii, ac_ir, ac_ri, ac_rr, ac_iii, ac_iir, ac_iri, ac_irr, ac_rii, ac_rir, ac_rri, ac_rrr, Option.bind_some, Option.toList_some, Option.toList_none, List.nil_append, List.cons_append, not_false_eq_true, h1, h2, h3, if_false, ix3, g_93_13, g_93_12, e, hne, i2, e2, e3, nI_1, e4]
/-- a card made new -/
def rnS (S : st_S) (b : Nat) (ad ap ke si : Int32) : st_S := uS (uS (uS (uS (uS (uS (uS (uS (uS (uS (uS (uS (uS (uS S b 0 1) b 1 0) b 3 ad) b 4 ap) b 5 ke) b 6 si) b 7 0) b 8 2147483647) b 9 255) b 10 0) b 11 0) (rr b 0) 1 0) (rr b 1) 1 0) (rr b 2) 1 0
theorem ev_renew {b : Nat} {ad ap ke si : Int32} (H : Crd b) : ev (d + 1) 13 [.ref b, .int ad, .int ap, .int ke, .int si] (hs S V) = some (none, hs (rnS S b ad ap ke si) V) := by
  have q0 : ∀ S : st_S, am_ldq (hs S V) (b + 1) 0 = some (.ref (rr b 0)) := fun S => ld_recs H (r := 0) (by decide)
  have q1 : ∀ S : st_S, am_ldq (hs S V) (b + 1) 1 = some (.ref (rr b 1)) := fun S => ld_recs H (r := 1) (by decide)
  have q2 : ∀ S : st_S, am_ldq (hs S V) (b + 1) 2 = some (.ref (rr b 2)) := fun S => ld_recs H (r := 2) (by decide)
  have k0 := rec_row H (r := 0) (by decide)
  have k1 := rec_row H (r := 1) (by decide)
  have k2 := rec_row H (r := 2) (by decide)
  simp only [e_Card_renew, x_Card_renew_0, x_Card_renew_1, x_Card_renew_2, x_Card_renew_5, x_Card_renew_6, x_Card_renew_7, x_Card_renew_10, x_Card_renew_11, x_Card_renew_12, x_Card_renew_15, x_Card_renew_16, x_Card_renew_17, x_Card_renew_20, x_Card_renew_21, x_Card_renew_22, x_Card_renew_25, x_Card_renew_26, x_Card_renew_28, x_Card_renew_31, x_Card_renew_32, x_Card_renew_33, x_Card_renew_36, x_Card_renew_37, x_Card_renew_39, x_Card_renew_42, x_Card_renew_43, x_Card_renew_46, x_Card_renew_49, x_Card_renew_50, x_Card_renew_51, x_Card_renew_54, x_Card_renew_55, x_Card_renew_56, x_Card_renew_59, x_Card_renew_60, x_Card_renew_64, x_Card_renew_65, x_Card_renew_68, x_Card_renew_69, x_Card_renew_72, x_Card_renew_74, x_Card_renew_75, x_Card_renew_78, x_Card_renew_81, x_Card_renew_84, ac_0, ac_i, ac_r, ac_ii, ac_ir, ac_ri, ac_rr, ac_iii, ac_iir, ac_iri, ac_irr, ac_rii, ac_rir, ac_rri, ac_rrr, Option.bind_some, Option.toList_some, Option.toList_none, List.nil_append, List.cons_append, not_false_eq_true, ob_0, ob_1, cp_0 H, cp_1 H, cp_3 H, cp_4 H, cp_5 H, cp_6 H, cp_7 H, cp_8 H, cp_9 H, cp_10 H, cp_11 H]
  rw [x_Card_renew_62]
  simp only [x_Card_renew_0, x_Card_renew_1, x_Card_renew_2, x_Card_renew_5, x_Card_renew_6, x_Card_renew_7, x_Card_renew_10, x_Card_renew_11, x_Card_renew_12, x_Card_renew_15, x_Card_renew_16, x_Card_renew_17, x_Card_renew_20, x_Card_renew_21, x_Card_renew_22, x_Card_renew_25, x_Card_renew_26, x_Card_renew_28, x_Card_renew_31, x_Card_renew_32, x_Card_renew_33, x_Card_renew_36, x_Card_renew_37, x_Card_renew_39, x_Card_renew_42, x_Card_renew_43, x_Card_renew_46, x_Card_renew_49, x_Card_renew_50, x_Card_renew_51, x_Card_renew_54, x_Card_renew_55, x_Card_renew_56, x_Card_renew_59, x_Card_renew_60, x_Card_renew_64, x_Card_renew_65, x_Card_renew_68, x_Card_renew_69, x_Card_renew_72, x_Card_renew_74, x_Card_renew_75, x_Card_renew_78, x_Card_renew_81, x_Card_renew_84, ac_0, ac_i, ac_r, ac_ii, ac_ir, ac_ri, ac_rr, ac_iii, ac_iir, ac_iri, ac_irr, ac_rii, ac_rir, ac_rri, ac_rrr, Option.bind_some, Option.toList_some, Option.toList_none, List.nil_append, List.cons_append, not_false_eq_true, cg_12 H, q0, row_is k0, ev_clr k0, if_true, (by decide : (0 : Int32) < 3), (by decide : (0 : Int32) + 1 = 1)]
  rw [x_Card_renew_62]
  simp only [x_Card_renew_0, x_Card_renew_1, x_Card_renew_2, x_Card_renew_5, x_Card_renew_6, x_Card_renew_7, x_Card_renew_10, x_Card_renew_11, x_Card_renew_12, x_Card_renew_15, x_Card_renew_16, x_Card_renew_17, x_Card_renew_20, x_Card_renew_21, x_Card_renew_22, x_Card_renew_25, x_Card_renew_26, x_Card_renew_28, x_Card_renew_31, x_Card_renew_32, x_Card_renew_33, x_Card_renew_36, x_Card_renew_37, x_Card_renew_39, x_Card_renew_42, x_Card_renew_43, x_Card_renew_46, x_Card_renew_49, x_Card_renew_50, x_Card_renew_51, x_Card_renew_54, x_Card_renew_55, x_Card_renew_56, x_Card_renew_59, x_Card_renew_60, x_Card_renew_64, x_Card_renew_65, x_Card_renew_68, x_Card_renew_69, x_Card_renew_72, x_Card_renew_74, x_Card_renew_75, x_Card_renew_78, x_Card_renew_81, x_Card_renew_84, ac_0, ac_i, ac_r, ac_ii, ac_ir, ac_ri, ac_rr, ac_iii, ac_iir, ac_iri, ac_irr, ac_rii, ac_rir, ac_rri, ac_rrr, Option.bind_some, Option.toList_some, Option.toList_none, List.nil_append, List.cons_append, not_false_eq_true, cg_12 H, q1, row_is k1, ev_clr k1, if_true, (by decide : (1 : Int32) < 3), (by decide : (1 : Int32) + 1 = 2)]
  rw [x_Card_renew_62]
  simp only [x_Card_renew_0, x_Card_renew_1, x_Card_renew_2, x_Card_renew_5, x_Card_renew_6, x_Card_renew_7, x_Card_renew_10, x_Card_renew_11, x_Card_renew_12, x_Card_renew_15, x_Card_renew_16, x_Card_renew_17, x_Card_renew_20, x_Card_renew_21, x_Card_renew_22, x_Card_renew_25, x_Card_renew_26, x_Card_renew_28, x_Card_renew_31, x_Card_renew_32, x_Card_renew_33, x_Card_renew_36, x_Card_renew_37, x_Card_renew_39, x_Card_renew_42, x_Card_renew_43, x_Card_renew_46, x_Card_renew_49, x_Card_renew_50, x_Card_renew_51, x_Card_renew_54, x_Card_renew_55, x_Card_renew_56, x_Card_renew_59, x_Card_renew_60, x_Card_renew_64, x_Card_renew_65, x_Card_renew_68, x_Card_renew_69, x_Card_renew_72, x_Card_renew_74, x_Card_renew_75, x_Card_renew_78, x_Card_renew_81, x_Card_renew_84, ac_0, ac_i, ac_r, ac_ii, ac_ir, ac_ri, ac_rr, ac_iii, ac_iir, ac_iri, ac_irr, ac_rii, ac_rir, ac_rri, ac_rrr, Option.bind_some, Option.toList_some, Option.toList_none, List.nil_append, List.cons_append, not_false_eq_true, cg_12 H, q2, row_is k2, ev_clr k2, if_true, (by decide : (2 : Int32) < 3), (by decide : (2 : Int32) + 1 = 3)]
  rw [x_Card_renew_62]
  simp only [x_Card_renew_0, x_Card_renew_1, x_Card_renew_2, x_Card_renew_5, x_Card_renew_6, x_Card_renew_7, x_Card_renew_10, x_Card_renew_11, x_Card_renew_12, x_Card_renew_15, x_Card_renew_16, x_Card_renew_17, x_Card_renew_20, x_Card_renew_21, x_Card_renew_22, x_Card_renew_25, x_Card_renew_26, x_Card_renew_28, x_Card_renew_31, x_Card_renew_32, x_Card_renew_33, x_Card_renew_36, x_Card_renew_37, x_Card_renew_39, x_Card_renew_42, x_Card_renew_43, x_Card_renew_46, x_Card_renew_49, x_Card_renew_50, x_Card_renew_51, x_Card_renew_54, x_Card_renew_55, x_Card_renew_56, x_Card_renew_59, x_Card_renew_60, x_Card_renew_64, x_Card_renew_65, x_Card_renew_68, x_Card_renew_69, x_Card_renew_72, x_Card_renew_74, x_Card_renew_75, x_Card_renew_78, x_Card_renew_81, x_Card_renew_84, if_false, (by decide : ¬ (3 : Int32) < 3)]
  rfl
theorem ev_card_no {c ad ap ke si : Int32} (h : wi c 4 = 0 ∨ wi ad 256 = 0 ∨ wi ap 8 = 0 ∨ is3 si 3 16 = 0) : ev (d + 2) 55 [.ref 0, .int c, .int ad, .int ap, .int ke, .int si] (hs S V) = some (some (.int 0), hs S V) := by
  simp only [e_Tap_card, x_Tap_card_0, x_Tap_card_1, x_Tap_card_2, x_Tap_card_5, x_Tap_card_8, x_Tap_card_9, x_Tap_card_12, x_Tap_card_15, x_Tap_card_16, x_Tap_card_18, x_Tap_card_21, x_Tap_card_24, x_Tap_card_26, x_Tap_card_27, x_Tap_card_30, x_Tap_card_32, x_Tap_card_34, x_Tap_card_37, x_Tap_card_38, x_Tap_card_41, x_Tap_card_42, x_Tap_card_44, x_Tap_card_46, x_Tap_card_67, x_Tap_card_69, ev_isWithin, ev_isOctet, ac_0, ac_i, ac_r, ac_ii, ac_ir, ac_ri, ac_rr, ac_iii, ac_iir, ac_iri, ac_irr, ac_rii, ac_rir, ac_rri, ac_rrr, Option.bind_some, Option.toList_some, Option.toList_none, List.nil_append, List.cons_append, not_false_eq_true, if_true, nbz]
  by_cases h1 : wi c 4 = 0
  · rw [if_pos h1]
  · rw [if_neg h1]
    by_cases h2 : wi ad 256 = 0
    · rw [if_pos h2]
    · rw [if_neg h2]
      by_cases h3 : wi ap 8 = 0
      · rw [if_pos h3]
      · rw [if_neg h3]
        have h4 := ((h.resolve_left h1).resolve_left h2).resolve_left h3
        unfold is3 at h4
        by_cases h5 : si < 3
        · rw [if_pos h5]
        · rw [if_neg h5] at h4 ⊢
          by_cases h6 : 16 < si
          · rw [if_pos h6]
          · rw [if_neg h6] at h4; exact absurd h4 (by decide)
theorem ev_card {j : Nat} {ad ap ke si : Int32} (hj : j < 4) (h2 : ¬ wi ad 256 = 0) (h3 : ¬ wi ap 8 = 0) (h4 : ¬ is3 si 3 16 = 0) : ev (d + 2) 55 [.ref 0, .int (nI j), .int ad, .int ap, .int ke, .int si] (hs S V) = some (some (.int 1), hs (rnS S (cb j) ad ap ke si) V) := by
  have h1 : ¬ wi (nI j) 4 = 0 := by rw [show wi (nI j) 4 = 1 from wi_in hj (by decide)]; decide
  have h5 : ¬ si < 3 ∧ ¬ 16 < si := by
    unfold is3 at h4
    refine ⟨fun z => h4 (if_pos z), fun z => h4 ?_⟩
    split
    · rfl
    · rfl
  simp only [e_Tap_card, x_Tap_card_0, x_Tap_card_1, x_Tap_card_2, x_Tap_card_5, x_Tap_card_8, x_Tap_card_9, x_Tap_card_12, x_Tap_card_15, x_Tap_card_16, x_Tap_card_18, x_Tap_card_21, x_Tap_card_24, x_Tap_card_26, x_Tap_card_27, x_Tap_card_30, x_Tap_card_32, x_Tap_card_34, x_Tap_card_37, x_Tap_card_38, x_Tap_card_41, x_Tap_card_42, x_Tap_card_44, x_Tap_card_46, x_Tap_card_49, x_Tap_card_50, x_Tap_card_53, x_Tap_card_56, x_Tap_card_57, x_Tap_card_58, x_Tap_card_59, x_Tap_card_60, x_Tap_card_62, x_Tap_card_64, x_Tap_card_67, x_Tap_card_69, ev_isWithin, ev_isOctet, ac_0, ac_i, ac_r, ac_ii, ac_ir, ac_ri, ac_rr, ac_iii, ac_iir, ac_iri, ac_irr, ac_rii, ac_rir, ac_rri, ac_rrr, Option.bind_some, Option.toList_some, Option.toList_none, List.nil_append, List.cons_append, not_false_eq_true, h1, h2, h3, h5.1, h5.2, if_false, nbo, g_0_0, g_1_0, ld_cards hj, c_is (crd hj), ev_renew (crd hj), (by decide : ¬ (1 : Int32) = 0)]
end CARDS2
