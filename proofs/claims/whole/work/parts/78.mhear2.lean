/-! the reference: a block is heard -/
def MT (S : st_S) (V : st_V) (j z : Nat) (cmd ans : List Int32) (C C1 : st_S) (R : st_V) (F : List Int32) (J : st_J) (T P : Nat → Int32) (ph o fr t : Nat) : Prop := MX S V (cph C C1 ph) R F J T P ∧ (S 93 39 = nI cmd.length ∧ Px V 112 cmd) ∧ (S 93 43 = nI t ∧ S 93 44 = nI (own ph t) ∧ S 93 47 = nI j) ∧ (S 93 40 = nI (hrd cmd z ph o).length ∧ Px V 113 (hrd cmd z ph o)) ∧ (2 ≤ ph → S 93 45 = nI fr ∧ S 93 41 = nI ans.length ∧ Px V 114 ans) ∧ (S 93 42 = nI (gtt ans z ph fr).length ∧ Px V 115 (gtt ans z ph fr))
def MR (S : st_S) (ph t : Nat) : Prop := (ph = 0 → S 93 48 = 1 ∧ S 93 46 = nI (1 - t)) ∧ (ph = 1 → S 93 48 = 1 ∧ S 93 46 = nI t) ∧ (ph = 2 → S 93 48 = 0)
def heS (a k : Nat) : Prop := a = 93 ∧ (k = 40 ∨ k = 41 ∨ k = 44 ∨ k = 45 ∨ k = 46 ∨ k = 48)
def heV (a : Nat) : Prop := a = 113 ∨ a = 114 ∨ a = 101 ∨ a = 104 ∨ a = 105
def cmS (a k : Nat) : Prop := a = 93 ∧ k = 40
def cmV (a : Nat) : Prop := a = 113
section MHEAR
variable {d : Nat} {S S' : st_S} {V V' : st_V} {j z ph kd o fr t : Nat} {cmd ans : List Int32} {C C1 : st_S} {R : st_V} {F : List Int32} {J : st_J} {T P : Nat → Int32}
theorem nI_sub {a b : Nat} (h : b ≤ a) : nI a - nI b = nI (a - b) := pk_sub h
theorem ev_saySize {n : Nat} (hn : n < 1000) (h41 : S 93 41 = nI n) (h45 : S 93 45 = nI fr) (hf : fr ≤ n) (h47 : S 93 47 = nI j) (hz : (V 100)[j]? = some (nI z)) (hj : j < 4) (hz2 : z < 1000) : ev d 88 [.ref 93] (hs S V) = some (some (.int (nI (min z (n - fr)))), hs S V) := by
  have ld : am_ld (hs S V) 100 0 (nI j) = some (nI z) := (ldN rfl (by omega)).trans hz
  simp only [e_Mod_saySize, x_Mod_saySize_0, x_Mod_saySize_1, x_Mod_saySize_4, x_Mod_saySize_5, x_Mod_saySize_8, x_Mod_saySize_9, x_Mod_saySize_10, x_Mod_saySize_11, x_Mod_saySize_12, x_Mod_saySize_15, x_Mod_saySize_16, x_Mod_saySize_19, x_Mod_saySize_20, x_Mod_saySize_23, x_Mod_saySize_24, x_Mod_saySize_27, x_Mod_saySize_28, x_Mod_saySize_31, x_Mod_saySize_32, x_Mod_saySize_35, x_Mod_saySize_36, g_93_41, g_93_45, h41, h45, nI_sub hf, g_93_6, g_93_47, h47, ld, ac_0, ac_i, ac_r, ac_ii, ac_ir, ac_ri, ac_rr, ac_iii, ac_iir, ac_iri, ac_irr, ac_rii, ac_rir, ac_rri, ac_rrr, Option.bind_some, Option.toList_some, Option.toList_none, List.nil_append, List.cons_append, not_false_eq_true]
  by_cases h : n - fr < z
  · rw [if_pos (nI_lt h (by omega)), Nat.min_eq_right (by omega)]
  · rw [if_neg (nI_nlt (by omega) (by omega)), Nat.min_eq_left (by omega)]
theorem came_loop {l1 l2 l5 : Option Value} {many : Nat} (h0 : o + many ≤ cmd.length) (hL : cmd.length ≤ 11) : ∀ (m k : Nat) (S : st_S) (V : st_V) (xs : List Int32), k + m = many → S 93 40 = nI xs.length → Px V 113 xs → xs.length + m ≤ 16 → (V 113).length = 16 → Px V 112 cmd →
    ∃ S' V', rn d 89 67 [some (.ref 93), l1, l2, some (.int (nI o)), some (.int (nI many)), l5, some (.int (nI k))] [] (hs S V) = rn d 89 105 [some (.ref 93), l1, l2, some (.int (nI o)), some (.int (nI many)), l5, some (.int (nI many))] [] (hs S' V') ∧ S' 93 40 = nI (xs.length + m) ∧ Px V' 113 (xs ++ part cmd (o + k) m) ∧ Fm cmS cmV S V S' V' := by
  intro m
  induction m with
  | zero =>
    intro k S V xs hk h40 H hx l113 Hr
    have hk : k = many := by omega
    subst hk
    refine ⟨S, V, ?_, h40, by rw [show part cmd (o + k) 0 = [] from rfl, List.append_nil]; exact H, Fm.refl _ _⟩
    rw [x_Mod_hear_67]
    simp only [x_Mod_hear_69, x_Mod_hear_71, nI_nlt (Nat.le_refl k) (by omega : k < 2 ^ 31), if_false]
  | succ m ih =>
    intro k S V xs hk h40 H hx l113 Hr
    have ld : ∀ S V, Px V 112 cmd → am_ld (hs S V) 112 0 (nI (o + k)) = some (cmd.getD (o + k) 0) := fun S V h => h.ld rfl (by omega) (by omega)
    have sv : ∀ S : st_S, am_sv (hs S V) 113 0 (nI xs.length) (cmd.getD (o + k) 0) = some (hs S (sV V 113 xs.length (cmd.getD (o + k) 0))) := fun S => svN rfl (by omega) (by omega)
    obtain ⟨S', V', e, a1, a2, a3⟩ := ih (k + 1) (uS S 93 40 (nI (xs.length + 1))) (sV V 113 xs.length (cmd.getD (o + k) 0)) (xs ++ [cmd.getD (o + k) 0]) (by omega) (by rw [uS_self, List.length_append]; rfl) (H.sv (by omega)) (by rw [List.length_append]; simp; omega) (by rw [sV_len]; exact l113) (Hr.cong (sV_ne (by decide)))
    refine ⟨S', V', ?_, ?_, ?_, (((Fm.refl S V).us (show cmS 93 40 from ⟨rfl, rfl⟩)).sv (show cmV 113 from rfl)).trans a3⟩
    · rw [← e, x_Mod_hear_67]
      simp only [x_Mod_hear_69, x_Mod_hear_71, x_Mod_hear_74, x_Mod_hear_75, x_Mod_hear_78, x_Mod_hear_79, x_Mod_hear_79', x_Mod_hear_80, x_Mod_hear_83, x_Mod_hear_83', x_Mod_hear_84, x_Mod_hear_85, x_Mod_hear_86, x_Mod_hear_89, x_Mod_hear_90, x_Mod_hear_93, x_Mod_hear_94, x_Mod_hear_96, x_Mod_hear_97, x_Mod_hear_98, x_Mod_hear_99, x_Mod_hear_102, nI_lt (show k < many by omega) (by omega), if_true, g_93_36, g_93_40, h40, nI_1, p_93_40, g_93_35, nI_add, ld _ _ Hr, sv, ac_0, ac_i, ac_r, ac_ii, ac_ir, ac_ri, ac_rr, ac_iii, ac_iir, ac_iri, ac_irr, ac_rii, ac_rir, ac_rri, ac_rrr, Option.bind_some, Option.toList_some, Option.toList_none, List.nil_append, List.cons_append, not_false_eq_true]
    · rw [a1, List.length_append]; simp; congr 1; omega
    · rw [List.append_assoc] at a2; exact a2
theorem mhear_pre {l5 : Int32} (I : MT S V j z cmd ans C C1 R F J T P 0 o fr t) (ht : t ≤ 1) (ho : o < cmd.length) (hL : cmd.length ≤ 11) : ∃ S2 V2, ev d 89 [.ref 93, .int (nI 5), .int (nI t), .int (nI o), .int (nI (min z (cmd.length - o))), .int l5] (hs S V) = rn d 89 105 [some (.ref 93), some (.int (nI 5)), some (.int (nI t)), some (.int (nI o)), some (.int (nI (min z (cmd.length - o)))), some (.int l5), some (.int (nI (min z (cmd.length - o))))] [] (hs S2 V2) ∧ S2 93 40 = nI (cmd.take (o + z)).length ∧ Px V2 113 (cmd.take (o + z)) ∧ S2 93 44 = nI t ∧ S2 93 46 = nI t ∧ Fm (fun a k => a = 93 ∧ (k = 40 ∨ k = 44 ∨ k = 46)) cmV S V S2 V2 := by
  have nne := tn_ne ht
  obtain ⟨M, ⟨r39, rP⟩, ⟨r43, r44, r47⟩, ⟨h40, hP⟩, hA, ⟨g42, gP⟩⟩ := id I
  have hown : S 93 44 = nI (1 - t) := r44
  have l113 : (V 113).length = 16 := M.len (by decide)
  have hl : (hrd cmd z 0 o).length = o := by show (cmd.take o).length = o; rw [List.length_take]; omega
  have q40 : uS (uS S 93 44 (nI t)) 93 46 (nI t) 93 40 = nI (hrd cmd z 0 o).length := by rw [uS_ne (by decide), uS_ne (by decide)]; exact h40
  obtain ⟨S2, V2, e, a1, a2, a3⟩ := came_loop (d := d) (l1 := some (.int (nI 5))) (l2 := some (.int (nI t))) (l5 := some (.int l5)) (o := o) (cmd := cmd) (many := min z (cmd.length - o)) (by omega) hL (min z (cmd.length - o)) 0 (uS (uS S 93 44 (nI t)) 93 46 (nI t)) V (hrd cmd z 0 o) (by omega) q40 hP (by omega) l113 rP
  rw [nI_0] at e
  have ee : hrd cmd z 0 o ++ part cmd (o + 0) (min z (cmd.length - o)) = cmd.take (o + z) := by
    rw [Nat.add_zero, part_eq _ _ _ (by omega)]
    show cmd.take o ++ (cmd.drop o).take (min z (cmd.length - o)) = _
    rw [List.take_add]
    congr 1
    by_cases h : z ≤ cmd.length - o
    · rw [Nat.min_eq_left h]
    · rw [Nat.min_eq_right (by omega), List.take_of_length_le (by rw [List.length_drop]; exact Nat.le_refl _), List.take_of_length_le (by rw [List.length_drop]; omega)]
  rw [ee] at a2
  refine ⟨S2, V2, ?_, ?_, a2, ?_, ?_, (((Fm.refl S V).us (by omega)).us (by omega)).trans (a3.mono (fun a k z => by unfold cmS at z; omega) (fun a z => z))⟩
  · rw [← e]
    simp only [e_Mod_hear, x_Mod_hear_0, x_Mod_hear_1, x_Mod_hear_2, x_Mod_hear_5, x_Mod_hear_8, x_Mod_hear_9, x_Mod_hear_10, x_Mod_hear_12, x_Mod_hear_29, x_Mod_hear_30, x_Mod_hear_31, x_Mod_hear_34, x_Mod_hear_35, x_Mod_hear_36, x_Mod_hear_39, x_Mod_hear_40, x_Mod_hear_42, x_Mod_hear_64, x_Mod_hear_65, g_93_44, hown, nne, if_false, (by decide : ¬ nI 5 = 7), (by decide : ¬ nI 5 = 6), p_93_44, p_93_46, ac_0, ac_i, ac_r, ac_ii, ac_ir, ac_ri, ac_rr, ac_iii, ac_iir, ac_iri, ac_irr, ac_rii, ac_rir, ac_rri, ac_rrr, Option.bind_some, Option.toList_some, Option.toList_none, List.nil_append, List.cons_append, not_false_eq_true]
  · rw [a1, hl, List.length_take]; congr 1; omega
  · exact (a3.1 _ _ (by unfold cmS; omega)).trans (by rw [uS_ne (by decide), uS_self])
  · exact (a3.1 _ _ (by unfold cmS; omega)).trans (by rw [uS_self])
theorem ev_mhear (hj : j < 4) (I : MT S V j z cmd ans C C1 R F J T P ph o fr t) (A2 : ph = 1 ∨ ph = 2 → MR S ph t) (hz : 3 ≤ z) (hz2 : z ≤ 16) (hzv : (V 100)[j]? = some (nI z)) (W : twf cmd.length z ans.length t ph kd o fr) (hl : olc cmd) (hn : ans.length ≤ 24) (hc : okc cmd) (hex : exe C R j cmd = (C1, ans)) (hR : ∀ i, i < 12 → (R i).length ≤ 24) (hq : ∃ q, q < 65536 ∧ C j 7 = nI q) :
    ∃ S' V', ev (d + 3) 89 [.ref 93, .int (nI kd), .int (nI t), .int (nI o), .int (nI (min z (cmd.length - o))), .int (if o + z < cmd.length then 1 else 0)] (hs S V) = some (none, hs S' V') ∧ MT S' V' j z cmd ans C C1 R F J T P (tkp cmd.length z ph kd o fr).1 o (tkp cmd.length z ph kd o fr).2 t ∧ MR S' (tkp cmd.length z ph kd o fr).1 t ∧ Fm heS heV S V S' V' := by
  have ht := W.1
  have nne := tn_ne ht
  obtain ⟨M, ⟨r39, rP⟩, ⟨r43, r44, r47⟩, ⟨h40, hP⟩, hA, ⟨g42, gP⟩⟩ := id I
  have l113 : (V 113).length = 16 := M.len (by decide)
  have hL := hl.2.1
  rcases tk_q W with ⟨rfl, rfl, a, e⟩ | ⟨rfl, rfl, a, e⟩ | ⟨rfl, rfl, a, b, e⟩ | ⟨rfl, rfl, a, e⟩ | ⟨rfl, hk, a, e⟩ | ⟨rfl, rfl, a, e⟩
  · rw [e]
    have hown : S 93 44 = nI (1 - t) := r44
    have k44 : uS S 93 48 1 93 44 = nI (1 - t) := by rw [uS_ne (by decide)]; exact hown
    have Fx : ∀ P Q, P 93 48 → P 93 46 → Fm P Q S V (uS (uS S 93 48 1) 93 46 (nI (1 - t))) V := fun P Q h1 h2 => ((Fm.refl _ _).us h1).us h2
    refine ⟨uS (uS S 93 48 1) 93 46 (nI (1 - t)), V, ?_, ⟨M.fm (Fx _ _ (by unfold pmS; omega) (by unfold pmS; omega)), ⟨?_, rP⟩, ⟨?_, ?_, ?_⟩, ⟨?_, hP⟩, fun h => by omega, ⟨?_, gP⟩⟩, ⟨fun _ => ⟨?_, ?_⟩, fun h => absurd h (by show ¬ 0 = 1; decide), fun h => absurd h (by show ¬ 0 = 2; decide)⟩, Fx _ _ (by unfold heS; omega) (by unfold heS; omega)⟩
    · simp only [e_Mod_hear, x_Mod_hear_0, x_Mod_hear_1, x_Mod_hear_2, x_Mod_hear_5, x_Mod_hear_8, x_Mod_hear_9, x_Mod_hear_10, x_Mod_hear_12, x_Mod_hear_15, x_Mod_hear_16, x_Mod_hear_17, x_Mod_hear_20, x_Mod_hear_21, x_Mod_hear_22, x_Mod_hear_25, x_Mod_hear_28, g_93_44, hown, nne, if_false, if_true, (by decide : nI 7 = 7), p_93_48, k44, p_93_46, ob_1, bn_1, nbo, ac_0, ac_i, ac_r, ac_ii, ac_ir, ac_ri, ac_rr, ac_iii, ac_iir, ac_iri, ac_irr, ac_rii, ac_rir, ac_rri, ac_rrr, Option.bind_some, Option.toList_some, Option.toList_none, List.nil_append, List.cons_append, not_false_eq_true]
    · rw [uS_ne (by decide), uS_ne (by decide)]; exact r39
    · rw [uS_ne (by decide), uS_ne (by decide)]; exact r43
    · rw [uS_ne (by decide), uS_ne (by decide)]; exact r44
    · rw [uS_ne (by decide), uS_ne (by decide)]; exact r47
    · rw [uS_ne (by decide), uS_ne (by decide)]; exact h40
    · rw [uS_ne (by decide), uS_ne (by decide)]; exact g42
    · rw [uS_ne (by decide), uS_self]
    · rw [uS_self]
  · rw [e]
    have h1 : (if o + z < cmd.length then (1 : Int32) else 0) = 1 := if_pos a
    rw [h1]
    obtain ⟨S2, V2, e2, p40, pP, p44, p46, F2⟩ := mhear_pre (d := d + 3) (l5 := 1) I ht (by omega) hL
    have F3 : Fm (fun a k => a = 93 ∧ (k = 40 ∨ k = 44 ∨ k = 46 ∨ k = 48)) cmV S V (uS S2 93 48 1) V2 := (F2.mono (fun a k z => by omega) (fun a z => z)).us (by omega)
    have s48 : uS S2 93 48 1 93 48 = 1 := uS_self _ _ _ _
    have k40 : uS S2 93 48 1 93 40 = nI (cmd.take (o + z)).length := (uS_ne (by decide)).trans p40
    have k44 : uS S2 93 48 1 93 44 = nI t := (uS_ne (by decide)).trans p44
    have k46 : uS S2 93 48 1 93 46 = nI t := (uS_ne (by decide)).trans p46
    refine ⟨uS S2 93 48 1, V2, ?_, ⟨?_, ⟨?_, ?_⟩, ⟨?_, ?_, ?_⟩, ⟨k40, pP⟩, fun h => absurd h (by show ¬ 2 ≤ 1; decide), ⟨?_, ?_⟩⟩, ⟨fun h => absurd h (by show ¬ 1 = 0; decide), fun _ => ⟨s48, k46⟩, fun h => absurd h (by show ¬ 1 = 2; decide)⟩, F3.mono (fun a k z => by unfold heS; omega) (fun a z => by unfold cmV at z; unfold heV; omega)⟩
    · rw [e2]
      simp only [x_Mod_hear_105, x_Mod_hear_106, x_Mod_hear_108, x_Mod_hear_111, x_Mod_hear_113, x_Mod_hear_116, p_93_48, ob_1, bn_1, nbo, (by decide : ¬ (1 : Int32) = 0), if_false, ac_0, ac_i, ac_r, ac_ii, ac_ir, ac_ri, ac_rr, ac_iii, ac_iir, ac_iri, ac_irr, ac_rii, ac_rir, ac_rri, ac_rrr, Option.bind_some, Option.toList_some, Option.toList_none, List.nil_append, List.cons_append, not_false_eq_true]
    · exact M.fm (F3.mono (fun a k z => by unfold pmS; omega) (fun a z => by unfold cmV at z; unfold pmV; omega))
    · exact (F3.1 _ _ (by omega)).trans r39
    · exact rP.cong (F3.2.1 _ (by unfold cmV; omega))
    · exact (F3.1 _ _ (by omega)).trans r43
    · exact k44
    · exact (F3.1 _ _ (by omega)).trans r47
    · exact (F3.1 _ _ (by omega)).trans g42
    · exact gP.cong (F3.2.1 _ (by unfold cmV; omega))
  · rw [e]
    have h1 : (if o + z < cmd.length then (1 : Int32) else 0) = 0 := if_neg b
    rw [h1]
    obtain ⟨S2, V2, e2, p40, pP, p44, p46, F2⟩ := mhear_pre (d := d + 3) (l5 := 0) I ht (by omega) hL
    rw [List.take_of_length_le (by omega)] at pP
    have F3 : Fm (fun a k => a = 93 ∧ (k = 40 ∨ k = 44 ∨ k = 46 ∨ k = 48)) cmV S V (uS S2 93 48 0) V2 := (F2.mono (fun a k z => by omega) (fun a z => z)).us (by omega)
    have s48 : uS S2 93 48 0 93 48 = 0 := uS_self _ _ _ _
    have k44 : uS S2 93 48 0 93 44 = nI t := (uS_ne (by decide)).trans p44
    have k47 : uS S2 93 48 0 93 47 = nI j := (F3.1 _ _ (by omega)).trans r47
    have M3 : MX (uS S2 93 48 0) V2 C R F J T P := MX.fm (C := C) M (F3.mono (fun a k z => by unfold pmS; omega) (fun a z => by unfold cmV at z; unfold pmV; omega))
    obtain ⟨S4, V4, e4, M4, a41, aP, F4⟩ := ev_command (d := d) M3 hj k47 pP hl hc hR hq
    rw [hex] at M4 a41 aP
    dsimp only at M4 a41 aP
    have G : Fm heS heV S V (uS (uS S4 93 40 0) 93 45 0) V4 := (((F3.mono (fun a k z => by unfold heS; omega) (fun a z => by unfold cmV at z; unfold heV; omega)).trans (F4.mono (fun a k z => by unfold koS at z; unfold heS; omega) (fun a z => by unfold koV at z; unfold heV; omega))).us (by unfold heS; omega)).us (by unfold heS; omega)
    have kk : ∀ k, ¬ k = 40 → ¬ k = 45 → ¬ k = 41 → uS (uS S4 93 40 0) 93 45 0 93 k = uS S2 93 48 0 93 k := fun k h1 h2 h3 => by
      rw [uS_ne (by omega), uS_ne (by omega)]; exact F4.1 _ _ (by unfold koS; omega)
    refine ⟨uS (uS S4 93 40 0) 93 45 0, V4, ?_, ⟨?_, ⟨?_, ?_⟩, ⟨?_, ?_, ?_⟩, ⟨?_, Px.nil _ _⟩, fun _ => ⟨?_, ?_, aP⟩, ⟨?_, ?_⟩⟩, ⟨fun h => absurd h (by show ¬ 2 = 0; decide), fun h => absurd h (by show ¬ 2 = 1; decide), fun _ => ?_⟩, G⟩
    · rw [e2]
      simp only [x_Mod_hear_105, x_Mod_hear_106, x_Mod_hear_108, x_Mod_hear_111, x_Mod_hear_113, x_Mod_hear_116, x_Mod_hear_117, x_Mod_hear_118, x_Mod_hear_121, x_Mod_hear_122, x_Mod_hear_123, x_Mod_hear_126, x_Mod_hear_127, x_Mod_hear_128, x_Mod_hear_131, p_93_48, ob_0, bn_0, nbz, if_true, i_93, e4, p_93_40, p_93_45, ac_0, ac_i, ac_r, ac_ii, ac_ir, ac_ri, ac_rr, ac_iii, ac_iir, ac_iri, ac_irr, ac_rii, ac_rir, ac_rri, ac_rrr, Option.bind_some, Option.toList_some, Option.toList_none, List.nil_append, List.cons_append, not_false_eq_true]
    · exact M4.fm (((Fm.refl _ _).us (by unfold pmS; omega)).us (by unfold pmS; omega))
    · exact (G.1 _ _ (by unfold heS; omega)).trans r39
    · exact rP.cong (G.2.1 _ (by unfold heV; omega))
    · exact (G.1 _ _ (by unfold heS; omega)).trans r43
    · exact (kk 44 (by decide) (by decide) (by decide)).trans k44
    · exact (G.1 _ _ (by unfold heS; omega)).trans r47
    · rw [uS_ne (by decide), uS_self]; rfl
    · rw [uS_self]; rfl
    · rw [uS_ne (by decide), uS_ne (by decide)]; exact a41
    · exact (G.1 _ _ (by unfold heS; omega)).trans g42
    · exact gP.cong (G.2.1 _ (by unfold heV; omega))
    · exact (kk 48 (by decide) (by decide) (by decide)).trans s48
  · rw [e]
    have hown : S 93 44 = nI t := r44
    refine ⟨S, V, ?_, I, A2 (Or.inl rfl), Fm.refl _ _⟩
    simp only [e_Mod_hear, x_Mod_hear_0, x_Mod_hear_1, x_Mod_hear_2, x_Mod_hear_5, x_Mod_hear_8, g_93_44, hown, if_true, ac_0, ac_i, ac_r, ac_ii, ac_ir, ac_ri, ac_rr, ac_iii, ac_iir, ac_iri, ac_irr, ac_rii, ac_rir, ac_rri, ac_rrr, Option.bind_some, Option.toList_some, Option.toList_none, List.nil_append, List.cons_append, not_false_eq_true]
  · rw [e]
    have hown : S 93 44 = nI t := r44
    refine ⟨S, V, ?_, I, A2 (Or.inr rfl), Fm.refl _ _⟩
    simp only [e_Mod_hear, x_Mod_hear_0, x_Mod_hear_1, x_Mod_hear_2, x_Mod_hear_5, x_Mod_hear_8, g_93_44, hown, if_true, ac_0, ac_i, ac_r, ac_ii, ac_ir, ac_ri, ac_rr, ac_iii, ac_iir, ac_iri, ac_irr, ac_rii, ac_rir, ac_rri, ac_rrr, Option.bind_some, Option.toList_some, Option.toList_none, List.nil_append, List.cons_append, not_false_eq_true]
  · rw [e]
    have hown : S 93 44 = nI (1 - t) := r44
    obtain ⟨a45, a41, aP⟩ := hA (by decide)
    have es := ev_saySize (d := d + 2) (S := uS (uS S 93 44 (nI t)) 93 46 (nI t)) (V := V) (n := ans.length) (fr := fr) (z := z) (j := j) (by omega) (by rw [uS_ne (by decide), uS_ne (by decide)]; exact a41) (by rw [uS_ne (by decide), uS_ne (by decide)]; exact a45) (by omega) (by rw [uS_ne (by decide), uS_ne (by decide)]; exact r47) hzv hj (by omega)
    rw [Nat.min_eq_left (by omega)] at es
    have k45 : uS (uS S 93 44 (nI t)) 93 46 (nI t) 93 45 = nI fr := by rw [uS_ne (by decide), uS_ne (by decide)]; exact a45
    have G : ∀ P Q, P 93 44 → P 93 46 → P 93 45 → P 93 48 → Fm P Q S V (uS (uS (uS (uS S 93 44 (nI t)) 93 46 (nI t)) 93 45 (nI (fr + z))) 93 48 0) V := fun P Q h1 h2 h3 h4 => ((((Fm.refl _ _).us h1).us h2).us h3).us h4
    have G' := G heS heV (by unfold heS; omega) (by unfold heS; omega) (by unfold heS; omega) (by unfold heS; omega)
    refine ⟨uS (uS (uS (uS S 93 44 (nI t)) 93 46 (nI t)) 93 45 (nI (fr + z))) 93 48 0, V, ?_, ⟨?_, ⟨?_, rP⟩, ⟨?_, ?_, ?_⟩, ⟨?_, hP⟩, fun _ => ⟨?_, ?_, aP⟩, ⟨?_, gP⟩⟩, ⟨fun h => absurd h (by show ¬ 2 = 0; decide), fun h => absurd h (by show ¬ 2 = 1; decide), fun _ => uS_self _ _ _ _⟩, G'⟩
    · simp only [e_Mod_hear, x_Mod_hear_0, x_Mod_hear_1, x_Mod_hear_2, x_Mod_hear_5, x_Mod_hear_8, x_Mod_hear_9, x_Mod_hear_10, x_Mod_hear_12, x_Mod_hear_29, x_Mod_hear_30, x_Mod_hear_31, x_Mod_hear_34, x_Mod_hear_35, x_Mod_hear_36, x_Mod_hear_39, x_Mod_hear_40, x_Mod_hear_42, x_Mod_hear_45, x_Mod_hear_46, x_Mod_hear_46', x_Mod_hear_47, x_Mod_hear_50, x_Mod_hear_51, x_Mod_hear_54, x_Mod_hear_55, x_Mod_hear_58, x_Mod_hear_59, x_Mod_hear_60, x_Mod_hear_63, g_93_44, hown, nne, if_false, if_true, (by decide : ¬ (6 : Int32) = 7), (by decide : nI 6 = 6), p_93_44, p_93_46, g_93_45, k45, i_93, es, nI_add, p_93_45, p_93_48, ob_0, bn_0, nbz, ac_0, ac_i, ac_r, ac_ii, ac_ir, ac_ri, ac_rr, ac_iii, ac_iir, ac_iri, ac_irr, ac_rii, ac_rir, ac_rri, ac_rrr, Option.bind_some, Option.toList_some, Option.toList_none, List.nil_append, List.cons_append, not_false_eq_true]
    · exact MX.fm (C := C1) M (G pmS pmV (by unfold pmS; omega) (by unfold pmS; omega) (by unfold pmS; omega) (by unfold pmS; omega))
    · exact (G'.1 _ _ (by unfold heS; omega)).trans r39
    · exact (G'.1 _ _ (by unfold heS; omega)).trans r43
    · rw [uS_ne (by decide), uS_ne (by decide), uS_ne (by decide), uS_self]; rfl
    · exact (G'.1 _ _ (by unfold heS; omega)).trans r47
    · rw [uS_ne (by decide), uS_ne (by decide), uS_ne (by decide), uS_ne (by decide)]; exact h40
    · rw [uS_ne (by decide), uS_self]
    · rw [uS_ne (by decide), uS_ne (by decide), uS_ne (by decide), uS_ne (by decide)]; exact a41
    · exact (G'.1 _ _ (by unfold heS; omega)).trans g42
end MHEAR
