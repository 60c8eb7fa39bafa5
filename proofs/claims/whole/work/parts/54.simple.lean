/-! small methods of both sides -/
theorem nbz : narrow .boolean (.int 0) = .int 0 := by decide +kernel
theorem nbo : narrow .boolean (.int 1) = .int 1 := by decide +kernel
def wi (n b : Int32) : Int32 := if n < 0 then 0 else if n < b then 1 else 0
def is3 (v a b : Int32) : Int32 := if v < a then 0 else if b < v then 0 else 1
theorem wi_nb (n b : Int32) : narrow .boolean (.int (wi n b)) = .int (wi n b) := by
  unfold wi; split
  · rfl
  · split <;> rfl
theorem wi_01 (n b : Int32) : wi n b = 0 ∨ wi n b = 1 := by
  unfold wi; split
  · exact Or.inl rfl
  · split
    · exact Or.inr rfl
    · exact Or.inl rfl
theorem ev_isWithin {d : Nat} {n b : Int32} {h : am_H} : ev d 72 [.int n, .int b] h = some (some (.int (wi n b)), h) := by
  simp only [e_Tap_isWithin, x_Tap_isWithin_0, x_Tap_isWithin_1, x_Tap_isWithin_4, x_Tap_isWithin_5, x_Tap_isWithin_6, x_Tap_isWithin_9, x_Tap_isWithin_10, x_Tap_isWithin_13, x_Tap_isWithin_14, nbz, nbo]
  unfold wi; split
  · rfl
  · split <;> rfl
theorem ev_isOctet {d : Nat} {n : Int32} {h : am_H} : ev (d + 1) 73 [.int n] h = some (some (.int (wi n 256)), h) := by
  simp only [e_Tap_isOctet, x_Tap_isOctet_0, x_Tap_isOctet_1, x_Tap_isOctet_4, x_Tap_isOctet_7, ev_isWithin, wi_nb, ac_0, ac_i, ac_r, ac_ii, ac_ir, ac_ri, ac_rr, ac_iii, ac_iir, ac_iri, ac_irr, ac_rii, ac_rir, ac_rri, ac_rrr, Option.bind_some, Option.toList_some, Option.toList_none, List.nil_append, List.cons_append, not_false_eq_true]
theorem ev_is {d : Nat} {v a b : Int32} {h : am_H} : ev d 76 [.int v, .int a, .int b] h = some (some (.int (is3 v a b)), h) := by
  simp only [e_Mod_is, x_Mod_is_0, x_Mod_is_1, x_Mod_is_2, x_Mod_is_5, x_Mod_is_6, x_Mod_is_7, x_Mod_is_10, x_Mod_is_11, x_Mod_is_14, x_Mod_is_15, nbz, nbo]
  unfold is3; split
  · rfl
  · split <;> rfl
def cb (j : Nat) : Nat := 3 + 15 * j
theorem j4 {j : Nat} (h : j < 4) : j = 0 ∨ j = 1 ∨ j = 2 ∨ j = 3 := by omega
/-- a card's cells -/
def Crd (b : Nat) : Prop := sh_L[b]? = some (sh_card b) ∧ sh_L[b + 1]? = some (.inr (.inr (2, [some (b + 2), some (b + 4), some (b + 6)]))) ∧ isRow (b + 2) ∧ isRow (b + 4) ∧ isRow (b + 6) ∧ sh_L[b + 8]? = some (sh_block (b + 8)) ∧ isRow (b + 9) ∧ isRow (b + 11) ∧ isRow (b + 13)
theorem crd {j : Nat} (h : j < 4) : Crd (cb j) := by
  rcases j4 h with rfl | rfl | rfl | rfl <;> exact ⟨rfl, rfl, ⟨rfl, rfl⟩, ⟨rfl, rfl⟩, ⟨rfl, rfl⟩, rfl, ⟨rfl, rfl⟩, ⟨rfl, rfl⟩, ⟨rfl, rfl⟩⟩
theorem ld_cards {S : st_S} {V : st_V} {j : Nat} (h : j < 4) : am_ldq (hs S V) 2 (nI j) = some (.ref (cb j)) := by
  rcases j4 h with rfl | rfl | rfl | rfl
  · exact q_2_0
  · exact q_2_1
  · exact q_2_2
  · exact q_2_3
section CARD
variable {S : st_S} {V : st_V} {b k : Nat} {v : Int32}
theorem crd_get (H : Crd b) (hk : k < 12) : am_get (hs S V) b 2 k = some (.int (S b k)) := by
  refine hs_get H.1 ?_
  have : ∀ k, k < 12 → ([none, none, none, none, none, none, none, none, none, none, none, none, some (b + 1), some (b + 8), none, some (b + 11), some (b + 13), none] : List (Option Nat))[k]? = some none := by
    intro k hk
    match k, hk with
    | 0, _ => rfl
    | 1, _ => rfl
    | 2, _ => rfl
    | 3, _ => rfl
    | 4, _ => rfl
    | 5, _ => rfl
    | 6, _ => rfl
    | 7, _ => rfl
    | 8, _ => rfl
    | 9, _ => rfl
    | 10, _ => rfl
    | 11, _ => rfl
    | n + 12, h => omega
  exact this k hk
theorem cg_0 (H : Crd b) : am_get (hs S V) b 2 0 = some (.int (S b 0)) := hs_get H.1 rfl
theorem cg_1 (H : Crd b) : am_get (hs S V) b 2 1 = some (.int (S b 1)) := hs_get H.1 rfl
theorem cg_2 (H : Crd b) : am_get (hs S V) b 2 2 = some (.int (S b 2)) := hs_get H.1 rfl
theorem cg_3 (H : Crd b) : am_get (hs S V) b 2 3 = some (.int (S b 3)) := hs_get H.1 rfl
theorem cg_4 (H : Crd b) : am_get (hs S V) b 2 4 = some (.int (S b 4)) := hs_get H.1 rfl
theorem cg_5 (H : Crd b) : am_get (hs S V) b 2 5 = some (.int (S b 5)) := hs_get H.1 rfl
theorem cg_6 (H : Crd b) : am_get (hs S V) b 2 6 = some (.int (S b 6)) := hs_get H.1 rfl
theorem cg_7 (H : Crd b) : am_get (hs S V) b 2 7 = some (.int (S b 7)) := hs_get H.1 rfl
theorem cg_8 (H : Crd b) : am_get (hs S V) b 2 8 = some (.int (S b 8)) := hs_get H.1 rfl
theorem cg_9 (H : Crd b) : am_get (hs S V) b 2 9 = some (.int (S b 9)) := hs_get H.1 rfl
theorem cg_10 (H : Crd b) : am_get (hs S V) b 2 10 = some (.int (S b 10)) := hs_get H.1 rfl
theorem cg_11 (H : Crd b) : am_get (hs S V) b 2 11 = some (.int (S b 11)) := hs_get H.1 rfl
theorem cg_12 (H : Crd b) : am_get (hs S V) b 2 12 = some (.ref (b + 1)) := hs_getr H.1 rfl
theorem cg_13 (H : Crd b) : am_get (hs S V) b 2 13 = some (.ref (b + 8)) := hs_getr H.1 rfl
theorem cg_14 (H : Crd b) : am_get (hs S V) b 2 14 = some (.int (S b 14)) := hs_get H.1 rfl
theorem cg_15 (H : Crd b) : am_get (hs S V) b 2 15 = some (.ref (b + 11)) := hs_getr H.1 rfl
theorem cg_16 (H : Crd b) : am_get (hs S V) b 2 16 = some (.ref (b + 13)) := hs_getr H.1 rfl
theorem cg_17 (H : Crd b) : am_get (hs S V) b 2 17 = some (.int (S b 17)) := hs_get H.1 rfl
theorem cp_0 (H : Crd b) : am_put (hs S V) b 2 0 (.int v) = some (hs (uS S b 0 v) V) := hs_put H.1 rfl
theorem cp_1 (H : Crd b) : am_put (hs S V) b 2 1 (.int v) = some (hs (uS S b 1 v) V) := hs_put H.1 rfl
theorem cp_2 (H : Crd b) : am_put (hs S V) b 2 2 (.int v) = some (hs (uS S b 2 v) V) := hs_put H.1 rfl
theorem cp_3 (H : Crd b) : am_put (hs S V) b 2 3 (.int v) = some (hs (uS S b 3 v) V) := hs_put H.1 rfl
theorem cp_4 (H : Crd b) : am_put (hs S V) b 2 4 (.int v) = some (hs (uS S b 4 v) V) := hs_put H.1 rfl
theorem cp_5 (H : Crd b) : am_put (hs S V) b 2 5 (.int v) = some (hs (uS S b 5 v) V) := hs_put H.1 rfl
theorem cp_6 (H : Crd b) : am_put (hs S V) b 2 6 (.int v) = some (hs (uS S b 6 v) V) := hs_put H.1 rfl
theorem cp_7 (H : Crd b) : am_put (hs S V) b 2 7 (.int v) = some (hs (uS S b 7 v) V) := hs_put H.1 rfl
theorem cp_8 (H : Crd b) : am_put (hs S V) b 2 8 (.int v) = some (hs (uS S b 8 v) V) := hs_put H.1 rfl
theorem cp_9 (H : Crd b) : am_put (hs S V) b 2 9 (.int v) = some (hs (uS S b 9 v) V) := hs_put H.1 rfl
theorem cp_10 (H : Crd b) : am_put (hs S V) b 2 10 (.int v) = some (hs (uS S b 10 v) V) := hs_put H.1 rfl
theorem cp_11 (H : Crd b) : am_put (hs S V) b 2 11 (.int v) = some (hs (uS S b 11 v) V) := hs_put H.1 rfl
theorem cp_14 (H : Crd b) : am_put (hs S V) b 2 14 (.int v) = some (hs (uS S b 14 v) V) := hs_put H.1 rfl
theorem cp_17 (H : Crd b) : am_put (hs S V) b 2 17 (.int v) = some (hs (uS S b 17 v) V) := hs_put H.1 rfl
theorem c_is (H : Crd b) : am_is (hs S V) b 2 = true := hs_is H.1
end CARD
def nz (x : Int32) : Int32 := if x = 0 then 0 else 1
theorem wi_in {j n : Nat} (h : j < n) (hn : n < 2 ^ 31) : wi (nI j) (nI n) = 1 := by
  unfold wi; rw [if_neg (nI_pos (by omega)), if_pos (nI_lt h hn)]
theorem is3_in {j a b : Nat} (h1 : a ≤ j) (h2 : j ≤ b) (hb : b < 2 ^ 31) : is3 (nI j) (nI a) (nI b) = 1 := by
  unfold is3; rw [if_neg (nI_nlt h1 (by omega)), if_neg (nI_nlt h2 hb)]
section SIMPLE
variable {d : Nat} {S : st_S} {V : st_V}
theorem ev_isCard_no {c : Int32} (h : wi c 4 = 0) : ev (d + 1) 71 [.ref 0, .int c] (hs S V) = some (some (.int 0), hs S V) := by
  simp only [e_Tap_isCard, x_Tap_isCard_0, x_Tap_isCard_1, x_Tap_isCard_2, x_Tap_isCard_5, x_Tap_isCard_8, x_Tap_isCard_9, x_Tap_isCard_12, x_Tap_isCard_15, x_Tap_isCard_16, x_Tap_isCard_17, x_Tap_isCard_20, x_Tap_isCard_23, x_Tap_isCard_24, x_Tap_isCard_27, x_Tap_isCard_28, ev_isWithin, h, nbz, ac_0, ac_i, ac_r, ac_ii, ac_ir, ac_ri, ac_rr, ac_iii, ac_iir, ac_iri, ac_irr, ac_rii, ac_rir, ac_rri, ac_rrr, Option.bind_some, Option.toList_some, Option.toList_none, List.nil_append, List.cons_append, not_false_eq_true, if_true]
theorem ev_isCard {j : Nat} (h : j < 4) : ev (d + 1) 71 [.ref 0, .int (nI j)] (hs S V) = some (some (.int (nz (S (cb j) 0))), hs S V) := by
  have h1 : wi (nI j) 4 = 1 := wi_in h (by decide)
  simp only [e_Tap_isCard, x_Tap_isCard_0, x_Tap_isCard_1, x_Tap_isCard_2, x_Tap_isCard_5, x_Tap_isCard_8, x_Tap_isCard_9, x_Tap_isCard_12, x_Tap_isCard_15, x_Tap_isCard_16, x_Tap_isCard_17, x_Tap_isCard_20, x_Tap_isCard_23, x_Tap_isCard_24, x_Tap_isCard_27, x_Tap_isCard_28, ev_isWithin, h1, nbz, nbo, ac_0, ac_i, ac_r, ac_ii, ac_ir, ac_ri, ac_rr, ac_iii, ac_iir, ac_iri, ac_irr, ac_rii, ac_rir, ac_rri, ac_rrr, Option.bind_some, Option.toList_some, Option.toList_none, List.nil_append, List.cons_append, not_false_eq_true, if_false, g_0_0, g_1_0, ld_cards h, cg_0 (crd h), (by decide : ¬ (1 : Int32) = 0)]
  unfold nz
  split <;> rfl
theorem ev_misCard_no {c : Int32} (h : is3 c 0 3 = 0) : ev (d + 1) 77 [.ref 93, .int c] (hs S V) = some (some (.int 0), hs S V) := by
  simp only [e_Mod_isCard, x_Mod_isCard_0, x_Mod_isCard_1, x_Mod_isCard_2, x_Mod_isCard_3, x_Mod_isCard_6, x_Mod_isCard_9, x_Mod_isCard_10, x_Mod_isCard_13, x_Mod_isCard_14, x_Mod_isCard_15, x_Mod_isCard_18, x_Mod_isCard_19, x_Mod_isCard_22, x_Mod_isCard_23, ev_is, h, nbz, ac_0, ac_i, ac_r, ac_ii, ac_ir, ac_ri, ac_rr, ac_iii, ac_iir, ac_iri, ac_irr, ac_rii, ac_rir, ac_rri, ac_rrr, Option.bind_some, Option.toList_some, Option.toList_none, List.nil_append, List.cons_append, not_false_eq_true, if_true]
theorem ev_misCard {j : Nat} {x : Int32} (h : j < 4) (hx : (V 94)[j]? = some x) : ev (d + 1) 77 [.ref 93, .int (nI j)] (hs S V) = some (some (.int (nz x)), hs S V) := by
  have h1 : is3 (nI j) 0 3 = 1 := is3_in (a := 0) (b := 3) (by omega) (by omega) (by decide)
  have h2 : am_ld (hs S V) 94 1 (nI j) = some x := by rw [l_94 (nI_pos (by omega)), nI_clamp (by omega), hx]
  simp only [e_Mod_isCard, x_Mod_isCard_0, x_Mod_isCard_1, x_Mod_isCard_2, x_Mod_isCard_3, x_Mod_isCard_6, x_Mod_isCard_9, x_Mod_isCard_10, x_Mod_isCard_13, x_Mod_isCard_14, x_Mod_isCard_15, x_Mod_isCard_18, x_Mod_isCard_19, x_Mod_isCard_22, x_Mod_isCard_23, ev_is, h1, nbz, nbo, ac_0, ac_i, ac_r, ac_ii, ac_ir, ac_ri, ac_rr, ac_iii, ac_iir, ac_iri, ac_irr, ac_rii, ac_rir, ac_rri, ac_rrr, Option.bind_some, Option.toList_some, Option.toList_none, List.nil_append, List.cons_append, not_false_eq_true, if_false, g_93_0, h2, (by decide : ¬ (1 : Int32) = 0)]
  unfold nz
  split <;> rfl
theorem ev_takes {v : Int32} : ev (d + 2) 60 [.ref 0, .int v] (hs S V) = some (some (.int (wi v 256)), hs (if wi v 256 = 0 then S else uS S 71 5 v) V) := by
  simp only [e_Tap_takes, x_Tap_takes_0, x_Tap_takes_1, x_Tap_takes_4, x_Tap_takes_5, x_Tap_takes_6, x_Tap_takes_9, x_Tap_takes_10, x_Tap_takes_13, x_Tap_takes_14, x_Tap_takes_17, x_Tap_takes_18, ev_isOctet, ac_0, ac_i, ac_r, ac_ii, ac_ir, ac_ri, ac_rr, ac_iii, ac_iir, ac_iri, ac_irr, ac_rii, ac_rir, ac_rri, ac_rrr, Option.bind_some, Option.toList_some, Option.toList_none, List.nil_append, List.cons_append, not_false_eq_true, g_0_1, p_71_5, wi_nb]
  split <;> rfl
theorem ev_mtakes {v : Int32} : ev (d + 1) 84 [.ref 93, .int v] (hs S V) = some (some (.int (nz (is3 v 0 255))), hs (if is3 v 0 255 = 0 then S else uS S 93 18 v) V) := by
  simp only [e_Mod_takes, x_Mod_takes_0, x_Mod_takes_1, x_Mod_takes_2, x_Mod_takes_5, x_Mod_takes_8, x_Mod_takes_11, x_Mod_takes_12, x_Mod_takes_13, x_Mod_takes_14, x_Mod_takes_15, x_Mod_takes_18, x_Mod_takes_19, ev_is, ac_0, ac_i, ac_r, ac_ii, ac_ir, ac_ri, ac_rr, ac_iii, ac_iir, ac_iri, ac_irr, ac_rii, ac_rir, ac_rri, ac_rrr, Option.bind_some, Option.toList_some, Option.toList_none, List.nil_append, List.cons_append, not_false_eq_true, p_93_18, nbz, nbo]
  unfold nz
  split <;> rfl
theorem ev_mix {k a b c e : Int32} : ev (d + 1) 66 [.ref 0, .int k, .int a, .int b, .int c, .int e] (hs S V) = some (some (.int (stir (stir (stir (stir k a) b) c) e)), hs S V) := by
  simp only [e_Tap_mix, x_Tap_mix_0, x_Tap_mix_1, x_Tap_mix_2, x_Tap_mix_5, x_Tap_mix_6, x_Tap_mix_9, x_Tap_mix_11, x_Tap_mix_14, x_Tap_mix_16, x_Tap_mix_19, ev_stir, ac_0, ac_i, ac_r, ac_ii, ac_ir, ac_ri, ac_rr, ac_iii, ac_iir, ac_iri, ac_irr, ac_rii, ac_rir, ac_rri, ac_rrr, Option.bind_some, Option.toList_some, Option.toList_none, List.nil_append, List.cons_append, not_false_eq_true]
theorem ev_mmix {k a b c e : Int32} : ev (d + 1) 111 [.ref 93, .int k, .int a, .int b, .int c, .int e] (hs S V) = some (some (.int (stir (stir (stir (stir k a) b) c) e)), hs S V) := by
  simp only [e_Mod_mix, x_Mod_mix_0, x_Mod_mix_1, x_Mod_mix_2, x_Mod_mix_5, x_Mod_mix_7, x_Mod_mix_9, x_Mod_mix_10, x_Mod_mix_13, x_Mod_mix_15, x_Mod_mix_17, x_Mod_mix_19, x_Mod_mix_22, x_Mod_mix_24, x_Mod_mix_26, x_Mod_mix_28, x_Mod_mix_31, ev_mstir, ac_0, ac_i, ac_r, ac_ii, ac_ir, ac_ri, ac_rr, ac_iii, ac_iir, ac_iri, ac_irr, ac_rii, ac_rir, ac_rri, ac_rrr, Option.bind_some, Option.toList_some, Option.toList_none, List.nil_append, List.cons_append, not_false_eq_true]
theorem ev_told {w : Int32} : ev d 63 [.ref 0, .int w] (hs S V) = some (some (.int (if w = 0 then S 88 0 else if w = 1 then S 88 1 else if w = 2 then S 88 2 else if w = 3 then S 88 3 else if w = 4 then S 88 4 else if w = 5 then S 88 5 else if w = 6 then S 63 4 else if w = 7 then S 63 5 else if w = 8 then S 88 6 else if w = 9 then S 88 7 else -1)), hs S V) := by
  simp only [e_Tap_told, x_Tap_told_0, x_Tap_told_1, x_Tap_told_56, x_Tap_told_57, x_Tap_told_60, x_Tap_told_63, x_Tap_told_64, x_Tap_told_65, x_Tap_told_68, x_Tap_told_71, x_Tap_told_72, x_Tap_told_73, x_Tap_told_76, x_Tap_told_79, x_Tap_told_80, x_Tap_told_81, x_Tap_told_84, x_Tap_told_87, x_Tap_told_88, x_Tap_told_89, x_Tap_told_92, x_Tap_told_95, x_Tap_told_96, x_Tap_told_97, x_Tap_told_100, x_Tap_told_103, x_Tap_told_104, x_Tap_told_105, x_Tap_told_108, x_Tap_told_111, x_Tap_told_114, x_Tap_told_115, x_Tap_told_116, x_Tap_told_119, x_Tap_told_122, x_Tap_told_125, x_Tap_told_126, x_Tap_told_127, x_Tap_told_130, x_Tap_told_133, x_Tap_told_134, x_Tap_told_135, x_Tap_told_138, x_Tap_told_141, x_Tap_told_142, x_Tap_told_143, ac_0, ac_i, ac_r, ac_ii, ac_ir, ac_ri, ac_rr, ac_iii, ac_iir, ac_iri, ac_irr, ac_rii, ac_rir, ac_rri, ac_rrr, Option.bind_some, Option.toList_some, Option.toList_none, List.nil_append, List.cons_append, not_false_eq_true, g_0_3, g_0_0, g_1_1, g_63_4, g_63_5, g_88_0, g_88_1, g_88_2, g_88_3, g_88_4, g_88_5, g_88_6, g_88_7]
  repeat' (split; rfl)
  rfl
theorem ev_mtold {w : Int32} : ev d 108 [.ref 93, .int w] (hs S V) = some (some (.int (if w = 0 then S 93 24 else if w = 1 then S 93 25 else if w = 2 then S 93 26 else if w = 3 then S 93 27 else if w = 4 then S 93 28 else if w = 5 then S 93 29 else if w = 6 then S 93 30 else if w = 7 then S 93 31 else if w = 8 then S 93 33 else if w = 9 then S 93 34 else -1)), hs S V) := by
  simp only [e_Mod_told, x_Mod_told_0, x_Mod_told_1, x_Mod_told_56, x_Mod_told_57, x_Mod_told_60, x_Mod_told_61, x_Mod_told_62, x_Mod_told_65, x_Mod_told_66, x_Mod_told_67, x_Mod_told_70, x_Mod_told_71, x_Mod_told_72, x_Mod_told_75, x_Mod_told_76, x_Mod_told_77, x_Mod_told_80, x_Mod_told_81, x_Mod_told_82, x_Mod_told_85, x_Mod_told_86, x_Mod_told_87, x_Mod_told_90, x_Mod_told_91, x_Mod_told_92, x_Mod_told_95, x_Mod_told_96, x_Mod_told_97, x_Mod_told_100, x_Mod_told_101, x_Mod_told_102, x_Mod_told_105, x_Mod_told_106, x_Mod_told_107, ac_0, ac_i, ac_r, ac_ii, ac_ir, ac_ri, ac_rr, ac_iii, ac_iir, ac_iri, ac_irr, ac_rii, ac_rir, ac_rri, ac_rrr, Option.bind_some, Option.toList_some, Option.toList_none, List.nil_append, List.cons_append, not_false_eq_true, g_93_24, g_93_25, g_93_26, g_93_27, g_93_28, g_93_29, g_93_30, g_93_31, g_93_33, g_93_34]
  repeat' (split; rfl)
  rfl
end SIMPLE
