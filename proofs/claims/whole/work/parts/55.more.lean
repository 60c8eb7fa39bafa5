/-! more small methods -/
theorem wi_is {c : Int32} {k : Nat} (hk : k + 1 < 2 ^ 31) : wi c (nI (k + 1)) = is3 c 0 (nI k) := by
  unfold wi is3
  by_cases h0 : c < 0
  · rw [if_pos h0, if_pos h0]
  · rw [if_neg h0, if_neg h0]
    obtain ⟨j, hj, rfl⟩ := nI_of h0
    by_cases h : j < k + 1
    · rw [if_pos ((nI_ltI hj hk).mpr h), if_neg (nI_nlt (by omega) (by omega))]
    · rw [if_neg (fun z => h ((nI_ltI hj hk).mp z)), if_pos (nI_lt (by omega) hj)]
theorem wi_4 (c : Int32) : wi c 4 = is3 c 0 3 := wi_is (k := 3) (by decide)
theorem wi_3 (c : Int32) : wi c 3 = is3 c 0 2 := wi_is (k := 2) (by decide)
theorem wi_8 (c : Int32) : wi c 8 = is3 c 0 7 := wi_is (k := 7) (by decide)
theorem wi_128 (c : Int32) : wi c 128 = is3 c 0 127 := wi_is (k := 127) (by decide)
theorem wi_256 (c : Int32) : wi c 256 = is3 c 0 255 := wi_is (k := 255) (by decide)
theorem wi_ex {c : Int32} {n : Nat} (hn : n < 2 ^ 31) (h : ¬ wi c (nI n) = 0) : ∃ j, j < n ∧ c = nI j := by
  unfold wi at h
  by_cases h0 : c < 0
  · rw [if_pos h0] at h; exact absurd rfl h
  · rw [if_neg h0] at h
    obtain ⟨j, hj, rfl⟩ := nI_of h0
    by_cases h1 : nI j < nI n
    · exact ⟨j, (nI_ltI hj hn).mp h1, rfl⟩
    · rw [if_neg h1] at h; exact absurd rfl h
section MORE
variable {d : Nat} {S : st_S} {V : st_V}
def tS (S : st_S) (p f w o i : Int32) : st_S := uS (uS (uS (uS (uS S 71 0 p) 71 1 f) 71 2 w) 71 3 o) 71 4 i
def mtS (S : st_S) (p f w o i : Int32) : st_S := uS (uS (uS (uS (uS S 93 14 p) 93 15 f) 93 16 w) 93 19 o) 93 17 i
theorem ev_terminal {p f w o i : Int32} (ho : am_ok .boolean (.int o) = true) : ev (d + 2) 59 [.ref 0, .int p, .int f, .int w, .int o, .int i] (hs S V) = if wi p 256 = 0 then some (some (.int 0), hs S V) else if wi w 256 = 0 then some (some (.int 0), hs S V) else if w &&& 1 = 0 then some (some (.int 1), hs (tS S p f w o i) V) else some (some (.int 0), hs S V) := by
  simp only [e_Tap_terminal, x_Tap_terminal_0, x_Tap_terminal_1, x_Tap_terminal_4, x_Tap_terminal_7, x_Tap_terminal_8, x_Tap_terminal_11, x_Tap_terminal_14, x_Tap_terminal_15, x_Tap_terminal_16, x_Tap_terminal_17, x_Tap_terminal_20, x_Tap_terminal_21, x_Tap_terminal_24, x_Tap_terminal_25, x_Tap_terminal_27, x_Tap_terminal_29, x_Tap_terminal_32, x_Tap_terminal_33, x_Tap_terminal_36, x_Tap_terminal_37, x_Tap_terminal_40, x_Tap_terminal_41, x_Tap_terminal_44, x_Tap_terminal_45, x_Tap_terminal_48, x_Tap_terminal_49, x_Tap_terminal_52, x_Tap_terminal_53, x_Tap_terminal_56, x_Tap_terminal_57, x_Tap_terminal_60, x_Tap_terminal_62, x_Tap_terminal_65, x_Tap_terminal_66, x_Tap_terminal_69, x_Tap_terminal_71, x_Tap_terminal_74, x_Tap_terminal_76, ev_isOctet, ac_0, ac_i, ac_r, ac_ii, ac_ir, ac_ri, ac_rr, ac_iii, ac_iir, ac_iri, ac_irr, ac_rii, ac_rir, ac_rri, ac_rrr, Option.bind_some, Option.toList_some, Option.toList_none, List.nil_append, List.cons_append, not_false_eq_true, g_0_1, p_71_0, p_71_1, p_71_2, p_71_3, p_71_4, nbz, nbo, ho, if_true, if_false, (by decide : ¬ (1 : Int32) = 0)]
  rfl
theorem ev_mterminal {p f w o i : Int32} (ho : am_ok .boolean (.int o) = true) : ev (d + 1) 83 [.ref 93, .int p, .int f, .int w, .int o, .int i] (hs S V) = if is3 p 0 255 = 0 then some (some (.int 0), hs S V) else if is3 w 0 254 = 0 then some (some (.int 0), hs S V) else if am_rem w 2 = 1 then some (some (.int 0), hs S V) else some (some (.int 1), hs (mtS S p f w o i) V) := by
  simp only [e_Mod_terminal, x_Mod_terminal_0, x_Mod_terminal_1, x_Mod_terminal_2, x_Mod_terminal_5, x_Mod_terminal_8, x_Mod_terminal_11, x_Mod_terminal_12, x_Mod_terminal_13, x_Mod_terminal_16, x_Mod_terminal_19, x_Mod_terminal_22, x_Mod_terminal_23, x_Mod_terminal_24, x_Mod_terminal_25, x_Mod_terminal_26, x_Mod_terminal_29, x_Mod_terminal_30, x_Mod_terminal_31, x_Mod_terminal_32, x_Mod_terminal_33, x_Mod_terminal_36, x_Mod_terminal_37, x_Mod_terminal_38, x_Mod_terminal_41, x_Mod_terminal_42, x_Mod_terminal_43, x_Mod_terminal_46, x_Mod_terminal_47, x_Mod_terminal_49, x_Mod_terminal_52, x_Mod_terminal_53, x_Mod_terminal_55, x_Mod_terminal_58, x_Mod_terminal_59, ev_is, ac_0, ac_i, ac_r, ac_ii, ac_ir, ac_ri, ac_rr, ac_iii, ac_iir, ac_iri, ac_irr, ac_rii, ac_rir, ac_rri, ac_rrr, Option.bind_some, Option.toList_some, Option.toList_none, List.nil_append, List.cons_append, not_false_eq_true, p_93_14, p_93_15, p_93_16, p_93_17, p_93_19, nbz, nbo, ho, (by decide : ¬ (2 : Int32) = 0)]
  rfl
theorem ev_fault_no {n k : Int32} (h : wi n 128 = 0 ∨ is3 k 0 2 = 0) : ev (d + 1) 61 [.ref 0, .int n, .int k] (hs S V) = some (some (.int (-1)), hs S V) := by
  simp only [e_Tap_fault, x_Tap_fault_0, x_Tap_fault_1, x_Tap_fault_4, x_Tap_fault_7, x_Tap_fault_10, x_Tap_fault_11, x_Tap_fault_14, x_Tap_fault_15, x_Tap_fault_16, x_Tap_fault_19, x_Tap_fault_20, x_Tap_fault_21, x_Tap_fault_22, x_Tap_fault_25, x_Tap_fault_28, x_Tap_fault_31, x_Tap_fault_32, x_Tap_fault_33, x_Tap_fault_34, x_Tap_fault_35, x_Tap_fault_38, x_Tap_fault_41, x_Tap_fault_44, x_Tap_fault_45, x_Tap_fault_46, x_Tap_fault_47, x_Tap_fault_48, ev_isWithin, ac_0, ac_i, ac_r, ac_ii, ac_ir, ac_ri, ac_rr, ac_iii, ac_iir, ac_iri, ac_irr, ac_rii, ac_rir, ac_rri, ac_rrr, Option.bind_some, Option.toList_some, Option.toList_none, List.nil_append, List.cons_append, not_false_eq_true]
  by_cases h1 : wi n 128 = 0
  · rw [if_pos h1]
  · have h2 := h.resolve_left h1
    unfold is3 at h2
    rw [if_neg h1]
    by_cases h3 : k < 0
    · rw [if_pos h3]
    · rw [if_neg h3] at h2 ⊢
      by_cases h4 : 2 < k
      · rw [if_pos h4]
      · rw [if_neg h4] at h2; exact absurd h2 (by decide)
theorem ev_fault {j : Nat} {k x : Int32} (hj : j < 128) (hk : ¬ is3 k 0 2 = 0) (hl : (V 64).length = 128) (hx : (V 64)[j]? = some x) : ev (d + 1) 61 [.ref 0, .int (nI j), .int k] (hs S V) = some (some (.int x), hs S (uV V 64 ((V 64).set j k))) := by
  have h1 : wi (nI j) 128 = 1 := wi_in hj (by decide)
  have hc : (nI j).toNatClampNeg = j := nI_clamp (by omega)
  have h2 : am_ld (hs S V) 64 0 (nI j) = some x := by rw [l_64 (nI_pos (by omega)), hc, hx]
  have h3 : am_sv (hs S V) 64 0 (nI j) k = some (hs S (uV V 64 ((V 64).set j k))) := by rw [s_64 (nI_pos (by omega)) (by rw [hc, hl]; exact hj), hc]
  have h4 : ¬ k < 0 ∧ ¬ 2 < k := by
    unfold is3 at hk
    refine ⟨fun z => hk (if_pos z), fun z => hk ?_⟩
    split
    · rfl
    · rfl
  simp only [e_Tap_fault, x_Tap_fault_0, x_Tap_fault_1, x_Tap_fault_4, x_Tap_fault_7, x_Tap_fault_10, x_Tap_fault_11, x_Tap_fault_14, x_Tap_fault_15, x_Tap_fault_16, x_Tap_fault_19, x_Tap_fault_20, x_Tap_fault_21, x_Tap_fault_22, x_Tap_fault_25, x_Tap_fault_28, x_Tap_fault_31, x_Tap_fault_32, x_Tap_fault_33, x_Tap_fault_34, x_Tap_fault_35, x_Tap_fault_38, x_Tap_fault_41, x_Tap_fault_44, x_Tap_fault_45, x_Tap_fault_46, x_Tap_fault_47, x_Tap_fault_48, ev_isWithin, ac_0, ac_i, ac_r, ac_ii, ac_ir, ac_ri, ac_rr, ac_iii, ac_iir, ac_iri, ac_irr, ac_rii, ac_rir, ac_rri, ac_rrr, Option.bind_some, Option.toList_some, Option.toList_none, List.nil_append, List.cons_append, not_false_eq_true, h1, h2, h3, h4.1, h4.2, if_false, g_0_0, g_1_1, g_63_0, (by decide : ¬ (1 : Int32) = 0)]
theorem ev_mfault_no {n k : Int32} (h : is3 n 0 127 = 0 ∨ is3 k 0 2 = 0) : ev (d + 1) 85 [.ref 93, .int n, .int k] (hs S V) = some (some (.int (-1)), hs S V) := by
  simp only [e_Mod_fault, x_Mod_fault_0, x_Mod_fault_1, x_Mod_fault_2, x_Mod_fault_4, x_Mod_fault_7, x_Mod_fault_10, x_Mod_fault_11, x_Mod_fault_12, x_Mod_fault_13, x_Mod_fault_16, x_Mod_fault_19, x_Mod_fault_20, x_Mod_fault_21, x_Mod_fault_22, x_Mod_fault_25, x_Mod_fault_26, x_Mod_fault_27, x_Mod_fault_28, x_Mod_fault_29, x_Mod_fault_32, x_Mod_fault_33, x_Mod_fault_34, x_Mod_fault_35, x_Mod_fault_36, ev_is, ac_0, ac_i, ac_r, ac_ii, ac_ir, ac_ri, ac_rr, ac_iii, ac_iir, ac_iri, ac_irr, ac_rii, ac_rir, ac_rri, ac_rrr, Option.bind_some, Option.toList_some, Option.toList_none, List.nil_append, List.cons_append, not_false_eq_true]
  by_cases h1 : is3 n 0 127 = 0
  · rw [if_pos h1]
  · rw [if_neg h1, if_pos (h.resolve_left h1)]
theorem ev_mfault {j : Nat} {k x : Int32} (hj : j < 128) (hk : ¬ is3 k 0 2 = 0) (hl : (V 108).length = 128) (hx : (V 108)[j]? = some x) : ev (d + 1) 85 [.ref 93, .int (nI j), .int k] (hs S V) = some (some (.int x), hs S (uV V 108 ((V 108).set j k))) := by
  have h1 : ¬ is3 (nI j) 0 127 = 0 := by rw [show is3 (nI j) 0 127 = 1 from is3_in (a := 0) (b := 127) (by omega) (by omega) (by decide)]; decide
  have hc : (nI j).toNatClampNeg = j := nI_clamp (by omega)
  have h2 : am_ld (hs S V) 108 0 (nI j) = some x := by rw [l_108 (nI_pos (by omega)), hc, hx]
  have h3 : am_sv (hs S V) 108 0 (nI j) k = some (hs S (uV V 108 ((V 108).set j k))) := by rw [s_108 (nI_pos (by omega)) (by rw [hc, hl]; exact hj), hc]
  simp only [e_Mod_fault, x_Mod_fault_0, x_Mod_fault_1, x_Mod_fault_2, x_Mod_fault_4, x_Mod_fault_7, x_Mod_fault_10, x_Mod_fault_11, x_Mod_fault_12, x_Mod_fault_13, x_Mod_fault_16, x_Mod_fault_19, x_Mod_fault_20, x_Mod_fault_21, x_Mod_fault_22, x_Mod_fault_25, x_Mod_fault_26, x_Mod_fault_27, x_Mod_fault_28, x_Mod_fault_29, x_Mod_fault_32, x_Mod_fault_33, x_Mod_fault_34, x_Mod_fault_35, x_Mod_fault_36, ev_is, ac_0, ac_i, ac_r, ac_ii, ac_ir, ac_ri, ac_rr, ac_iii, ac_iir, ac_iri, ac_irr, ac_rii, ac_rir, ac_rri, ac_rrr, Option.bind_some, Option.toList_some, Option.toList_none, List.nil_append, List.cons_append, not_false_eq_true, h1, h2, h3, hk, if_false, g_93_20]
theorem ev_exch_no {n w : Int32} (h : wi n 128 = 0 ∨ ¬ n < S 63 4) : ev (d + 1) 64 [.ref 0, .int n, .int w] (hs S V) = some (some (.int (-1)), hs S V) := by
  simp only [e_Tap_exchange, x_Tap_exchange_0, x_Tap_exchange_1, x_Tap_exchange_4, x_Tap_exchange_7, x_Tap_exchange_8, x_Tap_exchange_9, x_Tap_exchange_12, x_Tap_exchange_15, x_Tap_exchange_18, x_Tap_exchange_19, x_Tap_exchange_20, x_Tap_exchange_23, x_Tap_exchange_26, x_Tap_exchange_27, x_Tap_exchange_28, x_Tap_exchange_29, x_Tap_exchange_56, x_Tap_exchange_57, x_Tap_exchange_60, x_Tap_exchange_61, x_Tap_exchange_62, x_Tap_exchange_63, x_Tap_exchange_64, x_Tap_exchange_67, x_Tap_exchange_68, x_Tap_exchange_69, x_Tap_exchange_70, x_Tap_exchange_71, x_Tap_exchange_74, x_Tap_exchange_75, x_Tap_exchange_76, x_Tap_exchange_79, x_Tap_exchange_80, x_Tap_exchange_83, x_Tap_exchange_84, x_Tap_exchange_85, x_Tap_exchange_86, ev_isWithin, ac_0, ac_i, ac_r, ac_ii, ac_ir, ac_ri, ac_rr, ac_iii, ac_iir, ac_iri, ac_irr, ac_rii, ac_rir, ac_rri, ac_rrr, Option.bind_some, Option.toList_some, Option.toList_none, List.nil_append, List.cons_append, not_false_eq_true, g_0_0, g_1_1, g_63_4]
  by_cases h1 : wi n 128 = 0
  · rw [if_pos h1]
  · rw [if_neg h1, if_neg (h.resolve_left h1)]
theorem ev_exch {j : Nat} {w x y z : Int32} (hj : j < 128) (hn : nI j < S 63 4) (hx : (V 65)[j]? = some x) (hy : (V 66)[j]? = some y) (hz : (V 67)[j]? = some z) : ev (d + 1) 64 [.ref 0, .int (nI j), .int w] (hs S V) = some (some (.int (if w = 0 then x else if w = 1 then y else if w = 2 then nz z else -1)), hs S V) := by
  have h1 : ¬ wi (nI j) 128 = 0 := by rw [show wi (nI j) 128 = 1 from wi_in hj (by decide)]; decide
  have hc : (nI j).toNatClampNeg = j := nI_clamp (by omega)
  have h2 : am_ld (hs S V) 65 0 (nI j) = some x := by rw [l_65 (nI_pos (by omega)), hc, hx]
  have h3 : am_ld (hs S V) 66 0 (nI j) = some y := by rw [l_66 (nI_pos (by omega)), hc, hy]
  have h4 : am_ld (hs S V) 67 1 (nI j) = some z := by rw [l_67 (nI_pos (by omega)), hc, hz]
  simp only [e_Tap_exchange, x_Tap_exchange_0, x_Tap_exchange_1, x_Tap_exchange_4, x_Tap_exchange_7, x_Tap_exchange_8, x_Tap_exchange_9, x_Tap_exchange_12, x_Tap_exchange_15, x_Tap_exchange_18, x_Tap_exchange_19, x_Tap_exchange_20, x_Tap_exchange_23, x_Tap_exchange_26, x_Tap_exchange_27, x_Tap_exchange_28, x_Tap_exchange_29, x_Tap_exchange_56, x_Tap_exchange_57, x_Tap_exchange_60, x_Tap_exchange_61, x_Tap_exchange_62, x_Tap_exchange_63, x_Tap_exchange_64, x_Tap_exchange_67, x_Tap_exchange_68, x_Tap_exchange_69, x_Tap_exchange_70, x_Tap_exchange_71, x_Tap_exchange_74, x_Tap_exchange_75, x_Tap_exchange_76, x_Tap_exchange_79, x_Tap_exchange_80, x_Tap_exchange_83, x_Tap_exchange_84, x_Tap_exchange_85, x_Tap_exchange_86, ev_isWithin, ac_0, ac_i, ac_r, ac_ii, ac_ir, ac_ri, ac_rr, ac_iii, ac_iir, ac_iri, ac_irr, ac_rii, ac_rir, ac_rri, ac_rrr, Option.bind_some, Option.toList_some, Option.toList_none, List.nil_append, List.cons_append, not_false_eq_true, h1, h2, h3, h4, hn, if_false, if_true, g_0_0, g_1_1, g_63_1, g_63_2, g_63_3, g_63_4]
  unfold nz
  repeat' (split; first | rfl | (split <;> rfl))
  rfl
theorem ev_mexch_no {n w : Int32} (h : is3 n 0 127 = 0 ∨ ¬ n < S 93 30) : ev (d + 1) 109 [.ref 93, .int n, .int w] (hs S V) = some (some (.int (-1)), hs S V) := by
  simp only [e_Mod_exchange, x_Mod_exchange_0, x_Mod_exchange_1, x_Mod_exchange_2, x_Mod_exchange_4, x_Mod_exchange_7, x_Mod_exchange_10, x_Mod_exchange_11, x_Mod_exchange_12, x_Mod_exchange_15, x_Mod_exchange_18, x_Mod_exchange_19, x_Mod_exchange_20, x_Mod_exchange_21, x_Mod_exchange_48, x_Mod_exchange_49, x_Mod_exchange_52, x_Mod_exchange_53, x_Mod_exchange_54, x_Mod_exchange_55, x_Mod_exchange_56, x_Mod_exchange_59, x_Mod_exchange_60, x_Mod_exchange_61, x_Mod_exchange_62, x_Mod_exchange_63, x_Mod_exchange_66, x_Mod_exchange_67, x_Mod_exchange_68, x_Mod_exchange_71, x_Mod_exchange_72, x_Mod_exchange_75, x_Mod_exchange_76, x_Mod_exchange_77, x_Mod_exchange_78, ev_is, ac_0, ac_i, ac_r, ac_ii, ac_ir, ac_ri, ac_rr, ac_iii, ac_iir, ac_iri, ac_irr, ac_rii, ac_rir, ac_rri, ac_rrr, Option.bind_some, Option.toList_some, Option.toList_none, List.nil_append, List.cons_append, not_false_eq_true, g_93_30]
  by_cases h1 : is3 n 0 127 = 0
  · rw [if_pos h1]
  · rw [if_neg h1, if_neg (h.resolve_left h1)]
theorem ev_mexch {j : Nat} {w x y z : Int32} (hj : j < 128) (hn : nI j < S 93 30) (hx : (V 109)[j]? = some x) (hy : (V 110)[j]? = some y) (hz : (V 111)[j]? = some z) : ev (d + 1) 109 [.ref 93, .int (nI j), .int w] (hs S V) = some (some (.int (if w = 0 then x else if w = 1 then y else if w = 2 then nz z else -1)), hs S V) := by
  have h1 : ¬ is3 (nI j) 0 127 = 0 := by rw [show is3 (nI j) 0 127 = 1 from is3_in (a := 0) (b := 127) (by omega) (by omega) (by decide)]; decide
  have hc : (nI j).toNatClampNeg = j := nI_clamp (by omega)
  have h2 : am_ld (hs S V) 109 0 (nI j) = some x := by rw [l_109 (nI_pos (by omega)), hc, hx]
  have h3 : am_ld (hs S V) 110 0 (nI j) = some y := by rw [l_110 (nI_pos (by omega)), hc, hy]
  have h4 : am_ld (hs S V) 111 1 (nI j) = some z := by rw [l_111 (nI_pos (by omega)), hc, hz]
  simp only [e_Mod_exchange, x_Mod_exchange_0, x_Mod_exchange_1, x_Mod_exchange_2, x_Mod_exchange_4, x_Mod_exchange_7, x_Mod_exchange_10, x_Mod_exchange_11, x_Mod_exchange_12, x_Mod_exchange_15, x_Mod_exchange_18, x_Mod_exchange_19, x_Mod_exchange_20, x_Mod_exchange_21, x_Mod_exchange_48, x_Mod_exchange_49, x_Mod_exchange_52, x_Mod_exchange_53, x_Mod_exchange_54, x_Mod_exchange_55, x_Mod_exchange_56, x_Mod_exchange_59, x_Mod_exchange_60, x_Mod_exchange_61, x_Mod_exchange_62, x_Mod_exchange_63, x_Mod_exchange_66, x_Mod_exchange_67, x_Mod_exchange_68, x_Mod_exchange_71, x_Mod_exchange_72, x_Mod_exchange_75, x_Mod_exchange_76, x_Mod_exchange_77, x_Mod_exchange_78, ev_is, ac_0, ac_i, ac_r, ac_ii, ac_ir, ac_ri, ac_rr, ac_iii, ac_iir, ac_iri, ac_irr, ac_rii, ac_rir, ac_rri, ac_rrr, Option.bind_some, Option.toList_some, Option.toList_none, List.nil_append, List.cons_append, not_false_eq_true, h1, h2, h3, h4, hn, if_false, if_true, g_93_21, g_93_22, g_93_23, g_93_30]
  unfold nz
  repeat' (split; first | rfl | (split <;> rfl))
  rfl
theorem ev_allow_no {c cap lim : Int32} (h : wi c 4 = 0) : ev (d + 2) 56 [.ref 0, .int c, .int cap, .int lim] (hs S V) = some (some (.int 0), hs S V) := by
  have e := ev_isCard_no (d := d) (S := S) (V := V) h
  simp only [e_Tap_allow, x_Tap_allow_0, x_Tap_allow_1, x_Tap_allow_2, x_Tap_allow_5, x_Tap_allow_8, x_Tap_allow_9, x_Tap_allow_12, x_Tap_allow_15, x_Tap_allow_16, x_Tap_allow_19, x_Tap_allow_20, x_Tap_allow_22, x_Tap_allow_24, x_Tap_allow_27, x_Tap_allow_28, x_Tap_allow_31, x_Tap_allow_34, x_Tap_allow_35, x_Tap_allow_36, x_Tap_allow_37, x_Tap_allow_40, x_Tap_allow_41, x_Tap_allow_44, x_Tap_allow_47, x_Tap_allow_48, x_Tap_allow_49, x_Tap_allow_50, x_Tap_allow_53, x_Tap_allow_55, i_0, e, nbz, ac_0, ac_i, ac_r, ac_ii, ac_ir, ac_ri, ac_rr, ac_iii, ac_iir, ac_iri, ac_irr, ac_rii, ac_rir, ac_rri, ac_rrr, Option.bind_some, Option.toList_some, Option.toList_none, List.nil_append, List.cons_append, not_false_eq_true, if_true]
theorem ev_allow {j : Nat} {cap lim : Int32} (h : j < 4) : ev (d + 2) 56 [.ref 0, .int (nI j), .int cap, .int lim] (hs S V) = if nz (S (cb j) 0) = 0 then some (some (.int 0), hs S V) else if wi lim 256 = 0 then some (some (.int 0), hs S V) else some (some (.int 1), hs (uS (uS S (cb j) 8 cap) (cb j) 9 lim) V) := by
  simp only [e_Tap_allow, x_Tap_allow_0, x_Tap_allow_1, x_Tap_allow_2, x_Tap_allow_5, x_Tap_allow_8, x_Tap_allow_9, x_Tap_allow_12, x_Tap_allow_15, x_Tap_allow_16, x_Tap_allow_19, x_Tap_allow_20, x_Tap_allow_22, x_Tap_allow_24, x_Tap_allow_27, x_Tap_allow_28, x_Tap_allow_31, x_Tap_allow_34, x_Tap_allow_35, x_Tap_allow_36, x_Tap_allow_37, x_Tap_allow_40, x_Tap_allow_41, x_Tap_allow_44, x_Tap_allow_47, x_Tap_allow_48, x_Tap_allow_49, x_Tap_allow_50, x_Tap_allow_53, x_Tap_allow_55, i_0, ev_isCard h, ev_isOctet, nbz, nbo, ac_0, ac_i, ac_r, ac_ii, ac_ir, ac_ri, ac_rr, ac_iii, ac_iir, ac_iri, ac_irr, ac_rii, ac_rir, ac_rri, ac_rrr, Option.bind_some, Option.toList_some, Option.toList_none, List.nil_append, List.cons_append, not_false_eq_true, if_true, if_false, g_0_0, g_1_0, ld_cards h, cp_8 (crd h), cp_9 (crd h), (by decide : ¬ (1 : Int32) = 0)]
theorem ev_mallow_no {c cap lim : Int32} (h : is3 c 0 3 = 0) : ev (d + 2) 80 [.ref 93, .int c, .int cap, .int lim] (hs S V) = some (some (.int 0), hs S V) := by
  have e := ev_misCard_no (d := d) (S := S) (V := V) h
  simp only [e_Mod_allow, x_Mod_allow_0, x_Mod_allow_1, x_Mod_allow_2, x_Mod_allow_5, x_Mod_allow_8, x_Mod_allow_9, x_Mod_allow_10, x_Mod_allow_13, x_Mod_allow_16, x_Mod_allow_19, x_Mod_allow_20, x_Mod_allow_21, x_Mod_allow_22, x_Mod_allow_25, x_Mod_allow_26, x_Mod_allow_27, x_Mod_allow_28, x_Mod_allow_29, x_Mod_allow_32, x_Mod_allow_33, x_Mod_allow_34, x_Mod_allow_35, x_Mod_allow_36, i_93, e, nbz, ac_0, ac_i, ac_r, ac_ii, ac_ir, ac_ri, ac_rr, ac_iii, ac_iir, ac_iri, ac_irr, ac_rii, ac_rir, ac_rri, ac_rrr, Option.bind_some, Option.toList_some, Option.toList_none, List.nil_append, List.cons_append, not_false_eq_true, if_true]
theorem ev_mallow {j : Nat} {cap lim x : Int32} (h : j < 4) (hx : (V 94)[j]? = some x) (h2 : (V 102).length = 4) (h3 : (V 103).length = 4) : ev (d + 2) 80 [.ref 93, .int (nI j), .int cap, .int lim] (hs S V) = if nz x = 0 then some (some (.int 0), hs S V) else if is3 lim 0 255 = 0 then some (some (.int 0), hs S V) else some (some (.int 1), hs S (uV (uV V 102 ((V 102).set j cap)) 103 ((V 103).set j lim))) := by
  have hc : (nI j).toNatClampNeg = j := nI_clamp (by omega)
  have e1 : am_sv (hs S V) 102 0 (nI j) cap = some (hs S (uV V 102 ((V 102).set j cap))) := by rw [s_102 (nI_pos (by omega)) (by rw [hc, h2]; exact h), hc]
  have e2 : am_sv (hs S (uV V 102 ((V 102).set j cap))) 103 0 (nI j) lim = some (hs S (uV (uV V 102 ((V 102).set j cap)) 103 ((V 103).set j lim))) := by
    rw [s_103 (nI_pos (by omega)) (by rw [hc, uV_ne (by decide), h3]; exact h), hc, uV_ne (a' := 103) (a := 102) (by decide)]
  simp only [e_Mod_allow, x_Mod_allow_0, x_Mod_allow_1, x_Mod_allow_2, x_Mod_allow_5, x_Mod_allow_8, x_Mod_allow_9, x_Mod_allow_10, x_Mod_allow_13, x_Mod_allow_16, x_Mod_allow_19, x_Mod_allow_20, x_Mod_allow_21, x_Mod_allow_22, x_Mod_allow_25, x_Mod_allow_26, x_Mod_allow_27, x_Mod_allow_28, x_Mod_allow_29, x_Mod_allow_32, x_Mod_allow_33, x_Mod_allow_34, x_Mod_allow_35, x_Mod_allow_36, i_93, ev_misCard h hx, ev_is, nbz, nbo, ac_0, ac_i, ac_r, ac_ii, ac_ir, ac_ri, ac_rr, ac_iii, ac_iir, ac_iri, ac_irr, ac_rii, ac_rir, ac_rri, ac_rrr, Option.bind_some, Option.toList_some, Option.toList_none, List.nil_append, List.cons_append, not_false_eq_true, g_93_8, g_93_9, e1, e2]
end MORE
