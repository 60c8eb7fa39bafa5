/-! a card of the class hears a block -/
def own (ph t : Nat) : Nat := if ph = 0 ∨ ph = 3 then 1 - t else t
def hrd (cmd : List Int32) (z ph o : Nat) : List Int32 := if ph = 0 then cmd.take o else if ph = 1 then cmd.take (o + z) else []
def TA (S : st_S) (V : st_V) (j z : Nat) (cmd ans : List Int32) (ph o fr t : Nat) : Prop := S (cb j) 14 = nI (own ph t) ∧ (∃ jk, Rw S V (cb j + 11) (hrd cmd z ph o) jk) ∧ (2 ≤ ph → S (cb j) 17 = nI fr ∧ ∃ ja, Rw S V (cb j + 13) ans ja)
def RP (S : st_S) (V : st_V) (j z : Nat) (ans : List Int32) (ph fr t : Nat) : Prop := (ph = 0 → S (cb j + 8) 0 = 6 ∧ S (cb j + 8) 1 = nI (1 - t)) ∧ (ph = 1 → S (cb j + 8) 0 = 6 ∧ S (cb j + 8) 1 = nI t) ∧ (ph = 2 → S (cb j + 8) 0 = 5 ∧ S (cb j + 8) 1 = nI t ∧ S (cb j + 8) 2 = (if fr + z < ans.length then 1 else 0) ∧ ∃ jk, Rw S V (cb j + 9) ((ans.drop fr).take z) jk)
def SB (S : st_S) (V : st_V) (z : Nat) (cmd : List Int32) (kd o t : Nat) : Prop := S 68 0 = nI kd ∧ S 68 1 = nI t ∧ (kd = 5 → S 68 2 = (if o + z < cmd.length then 1 else 0) ∧ ∃ jk, Rw S V 69 ((cmd.drop o).take z) jk)
def cph (C C1 : st_S) (ph : Nat) : st_S := if 2 ≤ ph then C1 else C
def cdS (j a _k : Nat) : Prop := cb j ≤ a ∧ a ≤ cb j + 14
def cdV (j a : Nat) : Prop := cb j ≤ a ∧ a ≤ cb j + 14
theorem bl68 : isBl 68 := ⟨rfl, rfl, rfl⟩
theorem crd_bl {b : Nat} (H : Crd b) : isBl (b + 8) := ⟨H.2.2.2.2.2.1, H.2.2.2.2.2.2.1⟩
section HEAR
variable {d : Nat} {S S' : st_S} {V V' : st_V} {j z ph kd o fr t : Nat} {cmd ans : List Int32} {C C1 : st_S} {R : st_V} {F : List Int32} {J : st_J} {T P : Nat → Int32}
theorem TA.cong (H : TA S V j z cmd ans ph o fr t) (h1 : ∀ k, 12 ≤ k → S' (cb j) k = S (cb j) k) (h2 : ∀ a k, cb j + 11 ≤ a → a ≤ cb j + 13 → S' a k = S a k) (h3 : ∀ a, cb j + 12 ≤ a → a ≤ cb j + 14 → V' a = V a) : TA S' V' j z cmd ans ph o fr t := by
  obtain ⟨a1, ⟨jk, a2⟩, a3⟩ := H
  refine ⟨(h1 _ (by decide)).trans a1, ⟨jk, a2.cong (h2 _ _ (by omega) (by omega)) (h3 _ (by omega) (by omega))⟩, fun hp => ?_⟩
  obtain ⟨b1, ja, b2⟩ := a3 hp
  exact ⟨(h1 _ (by decide)).trans b1, ja, b2.cong (h2 _ _ (by omega) (by omega)) (h3 _ (by omega) (by omega))⟩
theorem RP.cong (H : RP S V j z ans ph fr t) (h1 : ∀ k, S' (cb j + 8) k = S (cb j + 8) k) (h2 : ∀ k, S' (cb j + 9) k = S (cb j + 9) k) (h3 : V' (cb j + 10) = V (cb j + 10)) : RP S' V' j z ans ph fr t := by
  obtain ⟨a1, a2, a3⟩ := H
  refine ⟨fun h => ?_, fun h => ?_, fun h => ?_⟩
  · rw [h1, h1]; exact a1 h
  · rw [h1, h1]; exact a2 h
  · obtain ⟨b1, b2, b3, jk, b4⟩ := a3 h
    rw [h1, h1, h1]; exact ⟨b1, b2, b3, jk, b4.cong (h2 1) h3⟩
theorem CX.lens (X : CX S V C R F J T P) (hj : j < 4) : (V (cb j + 10)).length = 16 ∧ (V (cb j + 12)).length = 11 ∧ (V (cb j + 14)).length = 24 := by
  rcases j4 hj with rfl | rfl | rfl | rfl
  · exact ⟨X.len (by decide), X.len (by decide), X.len (by decide)⟩
  · exact ⟨X.len (by decide), X.len (by decide), X.len (by decide)⟩
  · exact ⟨X.len (by decide), X.len (by decide), X.len (by decide)⟩
  · exact ⟨X.len (by decide), X.len (by decide), X.len (by decide)⟩
theorem tn_ne (ht : t ≤ 1) : ¬ nI t = nI (1 - t) := by
  have : t = 0 ∨ t = 1 := by omega
  rcases this with rfl | rfl <;> decide
theorem ev_prepare {jk : List Int32} (Hc : Rw S V 89 cmd jk) (ht : S 1 4 = nI t) (hk : kd = 5 ∨ kd = 6 ∨ kd = 7) (ho : kd = 5 → o ≤ cmd.length) (hz : z ≤ 16) (l70 : (V 70).length = 16) : ∃ S' V', ev (d + 3) 34 [.ref 1, .int (nI kd), .ref 89, .int (nI o), .int (nI z)] (hs S V) = some (none, hs S' V') ∧ SB S' V' z cmd kd o t ∧ Fm (blS 68) (blV 68) S V S' V' := by
  by_cases h5 : kd = 5
  · subst h5
    obtain ⟨S1, V1, e, p0, p1, p2, pr, pf⟩ := ev_becomePart (d := d) (n := nI t) (r := 89) (f := o) (z := z) bl68 l70 Hc (by decide) (by decide) (ho rfl) hz
    refine ⟨S1, V1, ?_, ⟨p0, p1, fun _ => ⟨p2, pr⟩⟩, pf⟩
    simp only [e_Air_prepare, x_Air_prepare_0, x_Air_prepare_1, x_Air_prepare_2, x_Air_prepare_5, x_Air_prepare_6, x_Air_prepare_9, x_Air_prepare_10, x_Air_prepare_13, x_Air_prepare_14, x_Air_prepare_15, x_Air_prepare_17, x_Air_prepare_20, x_Air_prepare_23, x_Air_prepare_24, x_Air_prepare_27, x_Air_prepare_28, x_Air_prepare_29, x_Air_prepare_32, x_Air_prepare_35, (by decide : nI 5 = 5), if_true, g_1_5, g_1_4, ht, i_68, e, ac_0, ac_i, ac_r, ac_ii, ac_ir, ac_ri, ac_rr, ac_iii, ac_iir, ac_iri, ac_irr, ac_rii, ac_rir, ac_rri, ac_rrr, Option.bind_some, Option.toList_some, Option.toList_none, List.nil_append, List.cons_append, not_false_eq_true]
  · obtain ⟨S1, e, p0, p1, p2, pr, pf⟩ := ev_becomePlain (d := d + 1) (S := S) (V := V) (k := nI kd) (n := nI t) bl68 (by rw [show 68 + 2 = 70 from rfl, l70]; decide)
    have c : ¬ nI kd = 5 := by
      rcases hk with rfl | rfl | rfl
      · exact absurd rfl h5
      · decide
      · decide
    refine ⟨S1, V, ?_, ⟨p0, p1, fun h => absurd h h5⟩, pf⟩
    simp only [e_Air_prepare, x_Air_prepare_0, x_Air_prepare_1, x_Air_prepare_2, x_Air_prepare_5, x_Air_prepare_6, x_Air_prepare_9, x_Air_prepare_10, x_Air_prepare_13, x_Air_prepare_14, x_Air_prepare_15, x_Air_prepare_17, x_Air_prepare_20, x_Air_prepare_23, x_Air_prepare_24, x_Air_prepare_27, x_Air_prepare_28, x_Air_prepare_29, x_Air_prepare_32, x_Air_prepare_35, c, if_false, g_1_5, g_1_4, ht, i_68, e, ac_0, ac_i, ac_r, ac_ii, ac_ir, ac_ri, ac_rr, ac_iii, ac_iir, ac_iri, ac_irr, ac_rii, ac_rir, ac_rri, ac_rrr, Option.bind_some, Option.toList_some, Option.toList_none, List.nil_append, List.cons_append, not_false_eq_true]
theorem ev_hear (hj : j < 4) (X : CX S V (cph C C1 ph) R F J T P) (h6 : S (cb j) 6 = nI z) (hz : 3 ≤ z) (hz2 : z ≤ 16) (A : TA S V j z cmd ans ph o fr t) (A2 : ph = 1 ∨ ph = 2 → RP S V j z ans ph fr t) (B : SB S V z cmd kd o t) (W : twf cmd.length z ans.length t ph kd o fr) (hL : cmd.length ≤ 11) (hn : ans.length ≤ 24) (hc : okc cmd) (hex : exe C R j cmd = (C1, ans)) :
    ∃ S' V', ev (d + 4) 17 [.ref (cb j), .ref 68] (hs S V) = some (none, hs S' V') ∧ CX S' V' (cph C C1 (tkp cmd.length z ph kd o fr).1) R F J T P ∧ TA S' V' j z cmd ans (tkp cmd.length z ph kd o fr).1 o (tkp cmd.length z ph kd o fr).2 t ∧ RP S' V' j z ans (tkp cmd.length z ph kd o fr).1 (tkp cmd.length z ph kd o fr).2 t ∧ Fm (cdS j) (cdV j) S V S' V' := by
  have H := crd hj
  have HB := crd_bl H
  have rH := H.2.2.2.2.2.2.2.1
  have rA := H.2.2.2.2.2.2.2.2
  have ht := W.1
  obtain ⟨l10, l12, l14⟩ := X.lens hj
  obtain ⟨A_own, ⟨jh, A_h⟩, A_a⟩ := A
  obtain ⟨B0, B1, B5⟩ := B
  have fB : ∀ {S1 S' : st_S} {V1 V' : st_V}, Fm (blS (cb j + 8)) (blV (cb j + 8)) S1 V1 S' V' → Fm (cdS j) (cdV j) S1 V1 S' V' := fun h => h.mono (fun a k z => by unfold blS at z; unfold cdS; omega) (fun a z => by unfold blV at z; unfold cdV; omega)
  have fP : ∀ {S1 S' : st_S} {V1 V' : st_V}, Fm (blS (cb j + 8)) (blV (cb j + 8)) S1 V1 S' V' → Fm prS prV S1 V1 S' V' := fun h => h.mono (fun a k z => by unfold blS cb at z; unfold prS; omega) (fun a z => by unfold blV cb at z; unfold prV; omega)
  have nne := tn_ne ht
  rcases tk_q W with ⟨rfl, rfl, a, e⟩ | ⟨rfl, rfl, a, e⟩ | ⟨rfl, rfl, a, b, e⟩ | ⟨rfl, rfl, a, e⟩ | ⟨rfl, hk, a, e⟩ | ⟨rfl, rfl, a, e⟩
  · -- it has not heard the block before: ACK with its own number
    rw [e]
    have hown : S (cb j) 14 = nI (1 - t) := A_own
    obtain ⟨S1, e1, p0, p1, p2, pr, pf⟩ := ev_becomePlain (d := d + 2) (S := S) (V := V) (k := 6) (n := nI (1 - t)) HB (by show (V (cb j + 10)).length ≤ 1000; omega)
    refine ⟨S1, V, ?_, X.fm (fP pf), TA.cong ⟨A_own, ⟨jh, A_h⟩, A_a⟩ (fun k _ => pf.1 _ _ (by unfold blS; omega)) (fun a k _ _ => pf.1 _ _ (by unfold blS; omega)) (fun _ _ _ => rfl), ⟨fun _ => ⟨p0, p1⟩, fun h => absurd h (by show ¬ 0 = 1; decide), fun h => absurd h (by show ¬ 0 = 2; decide)⟩, fB pf⟩
    simp only [e_Card_hearBlock, x_Card_hearBlock_0, x_Card_hearBlock_1, x_Card_hearBlock_4, x_Card_hearBlock_5, x_Card_hearBlock_8, x_Card_hearBlock_11, x_Card_hearBlock_12, x_Card_hearBlock_13, x_Card_hearBlock_16, x_Card_hearBlock_18, x_Card_hearBlock_21, x_Card_hearBlock_22, x_Card_hearBlock_25, x_Card_hearBlock_27, x_Card_hearBlock_28, x_Card_hearBlock_31, x_Card_hearBlock_34, x_Card_hearBlock_35, x_Card_hearBlock_36, x_Card_hearBlock_37, x_Card_hearBlock_40, x_Card_hearBlock_43, x_Card_hearBlock_44, x_Card_hearBlock_47, x_Card_hearBlock_49, x_Card_hearBlock_52, x_Card_hearBlock_53, x_Card_hearBlock_53', x_Card_hearBlock_54, x_Card_hearBlock_57, x_Card_hearBlock_58, x_Card_hearBlock_61, x_Card_hearBlock_62, x_Card_hearBlock_65, x_Card_hearBlock_66, x_Card_hearBlock_69, x_Card_hearBlock_70, x_Card_hearBlock_73, x_Card_hearBlock_74, x_Card_hearBlock_77, x_Card_hearBlock_78, x_Card_hearBlock_81, x_Card_hearBlock_82, x_Card_hearBlock_85, x_Card_hearBlock_88, x_Card_hearBlock_89, x_Card_hearBlock_90, x_Card_hearBlock_93, x_Card_hearBlock_94, x_Card_hearBlock_97, x_Card_hearBlock_98, x_Card_hearBlock_99, x_Card_hearBlock_102, x_Card_hearBlock_105, x_Card_hearBlock_108, x_Card_hearBlock_109, x_Card_hearBlock_112, x_Card_hearBlock_115, x_Card_hearBlock_116, x_Card_hearBlock_119, x_Card_hearBlock_121, x_Card_hearBlock_122, x_Card_hearBlock_125, x_Card_hearBlock_128, x_Card_hearBlock_129, x_Card_hearBlock_130, x_Card_hearBlock_133, x_Card_hearBlock_134, x_Card_hearBlock_137, x_Card_hearBlock_140, x_Card_hearBlock_141, x_Card_hearBlock_142, x_Card_hearBlock_145, x_Card_hearBlock_146, x_Card_hearBlock_149, x_Card_hearBlock_150, x_Card_hearBlock_153, x_Card_hearBlock_154, x_Card_hearBlock_157, x_Card_hearBlock_158, x_Card_hearBlock_161, x_Card_hearBlock_162, x_Card_hearBlock_165, x_Card_hearBlock_168, g_68_1, g_68_0, B1, B0, cg_14 H, hown, nne, if_false, (by decide : nI 7 = 7), if_true, cg_13 H, bl_is HB, e1, ac_0, ac_i, ac_r, ac_ii, ac_ir, ac_ri, ac_rr, ac_iii, ac_iir, ac_iri, ac_irr, ac_rii, ac_rir, ac_rri, ac_rrr, Option.bind_some, Option.toList_some, Option.toList_none, List.nil_append, List.cons_append, not_false_eq_true]
  · -- a block, more follow
    rw [e]
    have hown : S (cb j) 14 = nI (1 - t) := A_own
    obtain ⟨b2, jk, br⟩ := B5 rfl
    rw [if_pos a] at b2
    have X1 : CX (uS S (cb j) 14 (nI t)) V (cph C C1 0) R F J T P := X.fm ((Fm.refl _ _).us (by unfold prS cb; omega))
    have F1 : Fm (cdS j) (cdV j) S V (uS S (cb j) 14 (nI t)) V := (Fm.refl _ _).us (by unfold cdS; omega)
    have h1 : Rw (uS S (cb j) 14 (nI t)) V (cb j + 11) (cmd.take o) jh := A_h.cong (uS_ne (by omega)) rfl
    have b1 : Rw (uS S (cb j) 14 (nI t)) V 69 ((cmd.drop o).take z) jk := br.cong (uS_ne (by unfold cb; omega)) rfl
    have jl : o + jh.length = 11 := by
      have q := A_h.2.2.1
      have q2 := congrArg List.length q
      rw [show cb j + 11 + 1 = cb j + 12 from rfl, l12, List.length_append] at q2
      have : (hrd cmd z 0 o).length = o := by show (cmd.take o).length = o; rw [List.length_take]; omega
      omega
    obtain ⟨S2, V2, j2, e2, R2, l2, F2⟩ := rw_addPartX h1 b1 (by unfold cb; omega) (by rw [List.length_take, List.length_drop]; omega)
    rw [← List.take_add] at R2
    have hlen : (V2 (cb j + 10)).length = 16 := (F2.2.2 _).trans l10
    obtain ⟨S3, e3, p0, p1, p2, pr, pf⟩ := ev_becomePlain (d := d + 2) (S := S2) (V := V2) (k := 6) (n := nI t) HB (by show (V2 (cb j + 10)).length ≤ 1000; omega)
    have g2 : S2 (cb j) 14 = nI t := (F2.1 _ _ (by unfold rwS; omega)).trans (uS_self _ _ _ _)
    have gm : S2 68 2 = 1 := (F2.1 _ _ (by unfold rwS cb; omega)).trans ((uS_ne (by unfold cb; omega)).trans b2)
    have fr' : Fm (rwS (cb j + 11)) (rwV (cb j + 11)) (uS S (cb j) 14 (nI t)) V S2 V2 := F2
    refine ⟨S3, V2, ?_, (X1.fm (F2.mono (fun a k z => by unfold rwS cb at z; unfold prS; omega) (fun a z => by unfold rwV cb at z; unfold prV; omega))).fm (fP pf), ⟨?_, ⟨j2, ?_⟩, fun h => absurd h (by show ¬ 2 ≤ 1; decide)⟩, ⟨fun h => absurd h (by show ¬ 1 = 0; decide), fun _ => ⟨p0, p1⟩, fun h => absurd h (by show ¬ 1 = 2; decide)⟩, (F1.trans (F2.mono (fun a k z => by unfold rwS at z; unfold cdS; omega) (fun a z => by unfold rwV at z; unfold cdV; omega))).trans (fB pf)⟩
    · simp only [e_Card_hearBlock, x_Card_hearBlock_0, x_Card_hearBlock_1, x_Card_hearBlock_4, x_Card_hearBlock_5, x_Card_hearBlock_8, x_Card_hearBlock_11, x_Card_hearBlock_12, x_Card_hearBlock_13, x_Card_hearBlock_16, x_Card_hearBlock_18, x_Card_hearBlock_21, x_Card_hearBlock_22, x_Card_hearBlock_25, x_Card_hearBlock_27, x_Card_hearBlock_28, x_Card_hearBlock_31, x_Card_hearBlock_34, x_Card_hearBlock_35, x_Card_hearBlock_36, x_Card_hearBlock_37, x_Card_hearBlock_40, x_Card_hearBlock_43, x_Card_hearBlock_44, x_Card_hearBlock_47, x_Card_hearBlock_49, x_Card_hearBlock_52, x_Card_hearBlock_53, x_Card_hearBlock_53', x_Card_hearBlock_54, x_Card_hearBlock_57, x_Card_hearBlock_58, x_Card_hearBlock_61, x_Card_hearBlock_62, x_Card_hearBlock_65, x_Card_hearBlock_66, x_Card_hearBlock_69, x_Card_hearBlock_70, x_Card_hearBlock_73, x_Card_hearBlock_74, x_Card_hearBlock_77, x_Card_hearBlock_78, x_Card_hearBlock_81, x_Card_hearBlock_82, x_Card_hearBlock_85, x_Card_hearBlock_88, x_Card_hearBlock_89, x_Card_hearBlock_90, x_Card_hearBlock_93, x_Card_hearBlock_94, x_Card_hearBlock_97, x_Card_hearBlock_98, x_Card_hearBlock_99, x_Card_hearBlock_102, x_Card_hearBlock_105, x_Card_hearBlock_108, x_Card_hearBlock_109, x_Card_hearBlock_112, x_Card_hearBlock_115, x_Card_hearBlock_116, x_Card_hearBlock_119, x_Card_hearBlock_121, x_Card_hearBlock_122, x_Card_hearBlock_125, x_Card_hearBlock_128, x_Card_hearBlock_129, x_Card_hearBlock_130, x_Card_hearBlock_133, x_Card_hearBlock_134, x_Card_hearBlock_137, x_Card_hearBlock_140, x_Card_hearBlock_141, x_Card_hearBlock_142, x_Card_hearBlock_145, x_Card_hearBlock_146, x_Card_hearBlock_149, x_Card_hearBlock_150, x_Card_hearBlock_153, x_Card_hearBlock_154, x_Card_hearBlock_157, x_Card_hearBlock_158, x_Card_hearBlock_161, x_Card_hearBlock_162, x_Card_hearBlock_165, x_Card_hearBlock_168, g_68_1, g_68_0, g_68_2, g_68_3, B1, B0, cg_14 H, hown, nne, if_false, (by decide : ¬ nI 5 = 7), (by decide : ¬ nI 5 = 6), cp_14 H, g_69_1, b1.2.1, cg_15 H, row_is rH, e2, gm, g2, (by decide : ¬ (1 : Int32) = 0), cg_13 H, bl_is HB, e3, uS_ne (S := S) (a := cb j) (k := 14) (v := nI t) (a' := 68) (k' := 0) (by unfold cb; omega), ac_0, ac_i, ac_r, ac_ii, ac_ir, ac_ri, ac_rr, ac_iii, ac_iir, ac_iri, ac_irr, ac_rii, ac_rir, ac_rri, ac_rrr, Option.bind_some, Option.toList_some, Option.toList_none, List.nil_append, List.cons_append, not_false_eq_true]
    · exact (pf.1 _ _ (by unfold blS; omega)).trans g2
    · exact R2.cong (pf.1 _ _ (by unfold blS; omega)) rfl
  · -- the last block: the command is obeyed
    rw [e]
    have hown : S (cb j) 14 = nI (1 - t) := A_own
    obtain ⟨b2, jk, br⟩ := B5 rfl
    rw [if_neg b] at b2
    have X1 : CX (uS S (cb j) 14 (nI t)) V C R F J T P := CX.fm (C := C) X ((Fm.refl _ _).us (by unfold prS cb; omega))
    have F1 : Fm (cdS j) (cdV j) S V (uS S (cb j) 14 (nI t)) V := (Fm.refl _ _).us (by unfold cdS; omega)
    have h1 : Rw (uS S (cb j) 14 (nI t)) V (cb j + 11) (cmd.take o) jh := A_h.cong (uS_ne (by omega)) rfl
    have b1 : Rw (uS S (cb j) 14 (nI t)) V 69 ((cmd.drop o).take z) jk := br.cong (uS_ne (by unfold cb; omega)) rfl
    have jl : o + jh.length = 11 := by
      have q := A_h.2.2.1
      have q2 := congrArg List.length q
      rw [show cb j + 11 + 1 = cb j + 12 from rfl, l12, List.length_append] at q2
      have : (hrd cmd z 0 o).length = o := by show (cmd.take o).length = o; rw [List.length_take]; omega
      omega
    obtain ⟨S2, V2, j2, e2, R2, l2, F2⟩ := rw_addPartX h1 b1 (by unfold cb; omega) (by rw [List.length_take, List.length_drop]; omega)
    rw [← List.take_add, List.take_of_length_le (by omega)] at R2
    have X2 : CX S2 V2 C R F J T P := X1.fm (F2.mono (fun a k z => by unfold rwS cb at z; unfold prS; omega) (fun a z => by unfold rwV cb at z; unfold prV; omega))
    have gm : S2 68 2 = 0 := (F2.1 _ _ (by unfold rwS cb; omega)).trans ((uS_ne (by unfold cb; omega)).trans b2)
    have g14 : S2 (cb j) 14 = nI t := (F2.1 _ _ (by unfold rwS; omega)).trans (uS_self _ _ _ _)
    have g6 : S2 (cb j) 6 = nI z := (F2.1 _ _ (by unfold rwS; omega)).trans ((uS_ne (by omega)).trans h6)
    obtain ⟨S3, V3, ja, e3, X3, R3, F3⟩ := ev_obey (d := d) X2 hj R2 hc
    rw [hex] at X3 R3
    dsimp only at X3 R3
    have k14 : uS (uS S3 (cb j + 11) 1 0) (cb j) 17 0 (cb j) 14 = nI t := by rw [uS_ne (by omega), uS_ne (by omega)]; exact (F3.1 _ _ (by unfold obS; omega)).trans g14
    have k6 : uS (uS S3 (cb j + 11) 1 0) (cb j) 17 0 (cb j) 6 = nI z := by rw [uS_ne (by omega), uS_ne (by omega)]; exact (F3.1 _ _ (by unfold obS; omega)).trans g6
    have k17 : uS (uS S3 (cb j + 11) 1 0) (cb j) 17 0 (cb j) 17 = 0 := uS_self _ _ _ _
    have R4 : Rw (uS (uS S3 (cb j + 11) 1 0) (cb j) 17 0) V3 (cb j + 13) ans ja := R3.cong (by rw [uS_ne (by omega), uS_ne (by omega)]) rfl
    have F4 : Fm (cdS j) (cdV j) S3 V3 (uS (uS S3 (cb j + 11) 1 0) (cb j) 17 0) V3 := ((Fm.refl _ _).us (by unfold cdS; omega)).us (by unfold cdS; omega)
    have X4 : CX (uS (uS S3 (cb j + 11) 1 0) (cb j) 17 0) V3 C1 R F J T P := X3.fm (((Fm.refl _ _).us (by unfold prS cb; omega)).us (by unfold prS cb; omega))
    have l3 := X3.lens hj
    have H4 : Rw (uS (uS S3 (cb j + 11) 1 0) (cb j) 17 0) V3 (cb j + 11) [] (V3 (cb j + 12)) := (rw_clr rH (by show (V3 (cb j + 12)).length ≤ 1000; omega)).cong (uS_ne (by omega)) rfl
    generalize hS4 : uS (uS S3 (cb j + 11) 1 0) (cb j) 17 0 = S4 at k14 k6 k17 R4 F4 X4 H4
    obtain ⟨S5, V5, e5, p0, p1, p2, pr, pf⟩ := ev_becomePart (d := d + 1) (n := nI t) (r := cb j + 13) (f := 0) (z := z) HB l3.1 R4 (by omega) (by omega) (by omega) hz2
    rw [nI_0] at e5
    refine ⟨S5, V5, ?_, X4.fm (fP pf), ⟨(pf.1 _ _ (by unfold blS; omega)).trans k14, ⟨_, H4.fm pf (by unfold blS; omega) (by unfold blV; omega)⟩, fun _ => ⟨(pf.1 _ _ (by unfold blS; omega)).trans k17, ja, R4.fm pf (by unfold blS; omega) (by unfold blV; omega)⟩⟩, ⟨fun h => absurd h (by show ¬ 2 = 0; decide), fun h => absurd h (by show ¬ 2 = 1; decide), fun _ => ⟨p0, p1, p2, pr⟩⟩, (((F1.trans (F2.mono (fun a k z => by unfold rwS at z; unfold cdS; omega) (fun a z => by unfold rwV at z; unfold cdV; omega))).trans (F3.mono (fun a k z => by unfold obS at z; unfold cdS; omega) (fun a z => by unfold obV at z; unfold cdV; omega))).trans F4).trans (fB pf)⟩
    simp only [e_Card_hearBlock, x_Card_hearBlock_0, x_Card_hearBlock_1, x_Card_hearBlock_4, x_Card_hearBlock_5, x_Card_hearBlock_8, x_Card_hearBlock_11, x_Card_hearBlock_12, x_Card_hearBlock_13, x_Card_hearBlock_16, x_Card_hearBlock_18, x_Card_hearBlock_21, x_Card_hearBlock_22, x_Card_hearBlock_25, x_Card_hearBlock_27, x_Card_hearBlock_28, x_Card_hearBlock_31, x_Card_hearBlock_34, x_Card_hearBlock_35, x_Card_hearBlock_36, x_Card_hearBlock_37, x_Card_hearBlock_40, x_Card_hearBlock_43, x_Card_hearBlock_44, x_Card_hearBlock_47, x_Card_hearBlock_49, x_Card_hearBlock_52, x_Card_hearBlock_53, x_Card_hearBlock_53', x_Card_hearBlock_54, x_Card_hearBlock_57, x_Card_hearBlock_58, x_Card_hearBlock_61, x_Card_hearBlock_62, x_Card_hearBlock_65, x_Card_hearBlock_66, x_Card_hearBlock_69, x_Card_hearBlock_70, x_Card_hearBlock_73, x_Card_hearBlock_74, x_Card_hearBlock_77, x_Card_hearBlock_78, x_Card_hearBlock_81, x_Card_hearBlock_82, x_Card_hearBlock_85, x_Card_hearBlock_88, x_Card_hearBlock_89, x_Card_hearBlock_90, x_Card_hearBlock_93, x_Card_hearBlock_94, x_Card_hearBlock_97, x_Card_hearBlock_98, x_Card_hearBlock_99, x_Card_hearBlock_102, x_Card_hearBlock_105, x_Card_hearBlock_108, x_Card_hearBlock_109, x_Card_hearBlock_112, x_Card_hearBlock_115, x_Card_hearBlock_116, x_Card_hearBlock_119, x_Card_hearBlock_121, x_Card_hearBlock_122, x_Card_hearBlock_125, x_Card_hearBlock_128, x_Card_hearBlock_129, x_Card_hearBlock_130, x_Card_hearBlock_133, x_Card_hearBlock_134, x_Card_hearBlock_137, x_Card_hearBlock_140, x_Card_hearBlock_141, x_Card_hearBlock_142, x_Card_hearBlock_145, x_Card_hearBlock_146, x_Card_hearBlock_149, x_Card_hearBlock_150, x_Card_hearBlock_153, x_Card_hearBlock_154, x_Card_hearBlock_157, x_Card_hearBlock_158, x_Card_hearBlock_161, x_Card_hearBlock_162, x_Card_hearBlock_165, x_Card_hearBlock_168, g_68_1, g_68_0, g_68_2, g_68_3, B1, B0, cg_14 H, hown, nne, if_false, if_true, (by decide : ¬ nI 5 = 7), (by decide : ¬ nI 5 = 6), cp_14 H, g_69_1, b1.2.1, cg_15 H, row_is rH, e2, gm, c_is H, e3, ev_clr rH, cp_17 H, hS4, k14, k6, k17, cg_13 H, cg_16 H, cg_6 H, cg_17 H, bl_is HB, e5, uS_ne (S := S) (a := cb j) (k := 14) (v := nI t) (a' := 68) (k' := 0) (by unfold cb; omega), ac_0, ac_i, ac_r, ac_ii, ac_ir, ac_ri, ac_rr, ac_iii, ac_iir, ac_iri, ac_irr, ac_rii, ac_rir, ac_rri, ac_rrr, Option.bind_some, Option.toList_some, Option.toList_none, List.nil_append, List.cons_append, not_false_eq_true]
  · -- heard before
    rw [e]
    refine ⟨S, V, ?_, X, ⟨A_own, ⟨jh, A_h⟩, A_a⟩, A2 (Or.inl rfl), Fm.refl _ _⟩
    have hown : S (cb j) 14 = nI t := A_own
    simp only [e_Card_hearBlock, x_Card_hearBlock_0, x_Card_hearBlock_1, x_Card_hearBlock_4, x_Card_hearBlock_5, x_Card_hearBlock_8, x_Card_hearBlock_11, x_Card_hearBlock_12, x_Card_hearBlock_13, x_Card_hearBlock_16, x_Card_hearBlock_18, x_Card_hearBlock_21, x_Card_hearBlock_22, x_Card_hearBlock_25, x_Card_hearBlock_27, x_Card_hearBlock_28, x_Card_hearBlock_31, x_Card_hearBlock_34, x_Card_hearBlock_35, x_Card_hearBlock_36, x_Card_hearBlock_37, x_Card_hearBlock_40, x_Card_hearBlock_43, x_Card_hearBlock_44, x_Card_hearBlock_47, x_Card_hearBlock_49, x_Card_hearBlock_52, x_Card_hearBlock_53, x_Card_hearBlock_53', x_Card_hearBlock_54, x_Card_hearBlock_57, x_Card_hearBlock_58, x_Card_hearBlock_61, x_Card_hearBlock_62, x_Card_hearBlock_65, x_Card_hearBlock_66, x_Card_hearBlock_69, x_Card_hearBlock_70, x_Card_hearBlock_73, x_Card_hearBlock_74, x_Card_hearBlock_77, x_Card_hearBlock_78, x_Card_hearBlock_81, x_Card_hearBlock_82, x_Card_hearBlock_85, x_Card_hearBlock_88, x_Card_hearBlock_89, x_Card_hearBlock_90, x_Card_hearBlock_93, x_Card_hearBlock_94, x_Card_hearBlock_97, x_Card_hearBlock_98, x_Card_hearBlock_99, x_Card_hearBlock_102, x_Card_hearBlock_105, x_Card_hearBlock_108, x_Card_hearBlock_109, x_Card_hearBlock_112, x_Card_hearBlock_115, x_Card_hearBlock_116, x_Card_hearBlock_119, x_Card_hearBlock_121, x_Card_hearBlock_122, x_Card_hearBlock_125, x_Card_hearBlock_128, x_Card_hearBlock_129, x_Card_hearBlock_130, x_Card_hearBlock_133, x_Card_hearBlock_134, x_Card_hearBlock_137, x_Card_hearBlock_140, x_Card_hearBlock_141, x_Card_hearBlock_142, x_Card_hearBlock_145, x_Card_hearBlock_146, x_Card_hearBlock_149, x_Card_hearBlock_150, x_Card_hearBlock_153, x_Card_hearBlock_154, x_Card_hearBlock_157, x_Card_hearBlock_158, x_Card_hearBlock_161, x_Card_hearBlock_162, x_Card_hearBlock_165, x_Card_hearBlock_168, g_68_1, B1, cg_14 H, hown, if_true, ac_0, ac_i, ac_r, ac_ii, ac_ir, ac_ri, ac_rr, ac_iii, ac_iir, ac_iri, ac_irr, ac_rii, ac_rir, ac_rri, ac_rrr, Option.bind_some, Option.toList_some, Option.toList_none, List.nil_append, List.cons_append, not_false_eq_true]
  · rw [e]
    refine ⟨S, V, ?_, X, ⟨A_own, ⟨jh, A_h⟩, A_a⟩, A2 (Or.inr rfl), Fm.refl _ _⟩
    have hown : S (cb j) 14 = nI t := A_own
    simp only [e_Card_hearBlock, x_Card_hearBlock_0, x_Card_hearBlock_1, x_Card_hearBlock_4, x_Card_hearBlock_5, x_Card_hearBlock_8, x_Card_hearBlock_11, x_Card_hearBlock_12, x_Card_hearBlock_13, x_Card_hearBlock_16, x_Card_hearBlock_18, x_Card_hearBlock_21, x_Card_hearBlock_22, x_Card_hearBlock_25, x_Card_hearBlock_27, x_Card_hearBlock_28, x_Card_hearBlock_31, x_Card_hearBlock_34, x_Card_hearBlock_35, x_Card_hearBlock_36, x_Card_hearBlock_37, x_Card_hearBlock_40, x_Card_hearBlock_43, x_Card_hearBlock_44, x_Card_hearBlock_47, x_Card_hearBlock_49, x_Card_hearBlock_52, x_Card_hearBlock_53, x_Card_hearBlock_53', x_Card_hearBlock_54, x_Card_hearBlock_57, x_Card_hearBlock_58, x_Card_hearBlock_61, x_Card_hearBlock_62, x_Card_hearBlock_65, x_Card_hearBlock_66, x_Card_hearBlock_69, x_Card_hearBlock_70, x_Card_hearBlock_73, x_Card_hearBlock_74, x_Card_hearBlock_77, x_Card_hearBlock_78, x_Card_hearBlock_81, x_Card_hearBlock_82, x_Card_hearBlock_85, x_Card_hearBlock_88, x_Card_hearBlock_89, x_Card_hearBlock_90, x_Card_hearBlock_93, x_Card_hearBlock_94, x_Card_hearBlock_97, x_Card_hearBlock_98, x_Card_hearBlock_99, x_Card_hearBlock_102, x_Card_hearBlock_105, x_Card_hearBlock_108, x_Card_hearBlock_109, x_Card_hearBlock_112, x_Card_hearBlock_115, x_Card_hearBlock_116, x_Card_hearBlock_119, x_Card_hearBlock_121, x_Card_hearBlock_122, x_Card_hearBlock_125, x_Card_hearBlock_128, x_Card_hearBlock_129, x_Card_hearBlock_130, x_Card_hearBlock_133, x_Card_hearBlock_134, x_Card_hearBlock_137, x_Card_hearBlock_140, x_Card_hearBlock_141, x_Card_hearBlock_142, x_Card_hearBlock_145, x_Card_hearBlock_146, x_Card_hearBlock_149, x_Card_hearBlock_150, x_Card_hearBlock_153, x_Card_hearBlock_154, x_Card_hearBlock_157, x_Card_hearBlock_158, x_Card_hearBlock_161, x_Card_hearBlock_162, x_Card_hearBlock_165, x_Card_hearBlock_168, g_68_1, B1, cg_14 H, hown, if_true, ac_0, ac_i, ac_r, ac_ii, ac_ir, ac_ri, ac_rr, ac_iii, ac_iir, ac_iri, ac_irr, ac_rii, ac_rir, ac_rri, ac_rrr, Option.bind_some, Option.toList_some, Option.toList_none, List.nil_append, List.cons_append, not_false_eq_true]
  · -- the next part of the answer
    rw [e]
    have hown : S (cb j) 14 = nI (1 - t) := A_own
    obtain ⟨a17, ja, aR⟩ := A_a (by decide)
    have k14 : uS (uS S (cb j) 14 (nI t)) (cb j) 17 (nI (fr + z)) (cb j) 14 = nI t := by rw [uS_ne (by omega), uS_self]
    have k6 : uS (uS S (cb j) 14 (nI t)) (cb j) 17 (nI (fr + z)) (cb j) 6 = nI z := by rw [uS_ne (by omega), uS_ne (by omega)]; exact h6
    have k6' : uS S (cb j) 14 (nI t) (cb j) 6 = nI z := by rw [uS_ne (by omega)]; exact h6
    have k17' : uS S (cb j) 14 (nI t) (cb j) 17 = nI fr := by rw [uS_ne (by omega)]; exact a17
    have k17 : uS (uS S (cb j) 14 (nI t)) (cb j) 17 (nI (fr + z)) (cb j) 17 = nI (fr + z) := uS_self _ _ _ _
    have R4 : Rw (uS (uS S (cb j) 14 (nI t)) (cb j) 17 (nI (fr + z))) V (cb j + 13) ans ja := aR.cong (by rw [uS_ne (by omega), uS_ne (by omega)]) rfl
    have F4 : Fm (cdS j) (cdV j) S V (uS (uS S (cb j) 14 (nI t)) (cb j) 17 (nI (fr + z))) V := ((Fm.refl _ _).us (by unfold cdS; omega)).us (by unfold cdS; omega)
    have X4 : CX (uS (uS S (cb j) 14 (nI t)) (cb j) 17 (nI (fr + z))) V C1 R F J T P := CX.fm (C := C1) X (((Fm.refl _ _).us (by unfold prS cb; omega)).us (by unfold prS cb; omega))
    have H4 : Rw (uS (uS S (cb j) 14 (nI t)) (cb j) 17 (nI (fr + z))) V (cb j + 11) [] jh := A_h.cong (by rw [uS_ne (by omega), uS_ne (by omega)]) rfl
    have q0 : uS S (cb j) 14 (nI t) 68 0 = nI 6 := by rw [uS_ne (by unfold cb; omega)]; exact B0
    generalize hS4 : uS (uS S (cb j) 14 (nI t)) (cb j) 17 (nI (fr + z)) = S4 at k14 k6 k17 R4 F4 X4 H4
    obtain ⟨S5, V5, e5, p0, p1, p2, pr, pf⟩ := ev_becomePart (d := d + 1) (n := nI t) (r := cb j + 13) (f := fr + z) (z := z) HB l10 R4 (by omega) (by omega) (by omega) hz2
    refine ⟨S5, V5, ?_, X4.fm (fP pf), ⟨(pf.1 _ _ (by unfold blS; omega)).trans k14, ⟨_, H4.fm pf (by unfold blS; omega) (by unfold blV; omega)⟩, fun _ => ⟨(pf.1 _ _ (by unfold blS; omega)).trans k17, ja, R4.fm pf (by unfold blS; omega) (by unfold blV; omega)⟩⟩, ⟨fun h => absurd h (by show ¬ 2 = 0; decide), fun h => absurd h (by show ¬ 2 = 1; decide), fun _ => ⟨p0, p1, p2, pr⟩⟩, F4.trans (fB pf)⟩
    simp only [e_Card_hearBlock, x_Card_hearBlock_0, x_Card_hearBlock_1, x_Card_hearBlock_4, x_Card_hearBlock_5, x_Card_hearBlock_8, x_Card_hearBlock_11, x_Card_hearBlock_12, x_Card_hearBlock_13, x_Card_hearBlock_16, x_Card_hearBlock_18, x_Card_hearBlock_21, x_Card_hearBlock_22, x_Card_hearBlock_25, x_Card_hearBlock_27, x_Card_hearBlock_28, x_Card_hearBlock_31, x_Card_hearBlock_34, x_Card_hearBlock_35, x_Card_hearBlock_36, x_Card_hearBlock_37, x_Card_hearBlock_40, x_Card_hearBlock_43, x_Card_hearBlock_44, x_Card_hearBlock_47, x_Card_hearBlock_49, x_Card_hearBlock_52, x_Card_hearBlock_53, x_Card_hearBlock_53', x_Card_hearBlock_54, x_Card_hearBlock_57, x_Card_hearBlock_58, x_Card_hearBlock_61, x_Card_hearBlock_62, x_Card_hearBlock_65, x_Card_hearBlock_66, x_Card_hearBlock_69, x_Card_hearBlock_70, x_Card_hearBlock_73, x_Card_hearBlock_74, x_Card_hearBlock_77, x_Card_hearBlock_78, x_Card_hearBlock_81, x_Card_hearBlock_82, x_Card_hearBlock_85, x_Card_hearBlock_88, x_Card_hearBlock_89, x_Card_hearBlock_90, x_Card_hearBlock_93, x_Card_hearBlock_94, x_Card_hearBlock_97, x_Card_hearBlock_98, x_Card_hearBlock_99, x_Card_hearBlock_102, x_Card_hearBlock_105, x_Card_hearBlock_108, x_Card_hearBlock_109, x_Card_hearBlock_112, x_Card_hearBlock_115, x_Card_hearBlock_116, x_Card_hearBlock_119, x_Card_hearBlock_121, x_Card_hearBlock_122, x_Card_hearBlock_125, x_Card_hearBlock_128, x_Card_hearBlock_129, x_Card_hearBlock_130, x_Card_hearBlock_133, x_Card_hearBlock_134, x_Card_hearBlock_137, x_Card_hearBlock_140, x_Card_hearBlock_141, x_Card_hearBlock_142, x_Card_hearBlock_145, x_Card_hearBlock_146, x_Card_hearBlock_149, x_Card_hearBlock_150, x_Card_hearBlock_153, x_Card_hearBlock_154, x_Card_hearBlock_157, x_Card_hearBlock_158, x_Card_hearBlock_161, x_Card_hearBlock_162, x_Card_hearBlock_165, x_Card_hearBlock_168, g_68_1, g_68_0, B1, B0, cg_14 H, hown, nne, if_false, if_true, (by decide : ¬ (6 : Int32) = 7), (by decide : nI 6 = 6), cp_14 H, q0, cg_17 H, cg_6 H, k6', k17', nI_add, cp_17 H, hS4, k14, k6, k17, cg_13 H, cg_16 H, bl_is HB, e5, ac_0, ac_i, ac_r, ac_ii, ac_ir, ac_ri, ac_rr, ac_iii, ac_iir, ac_iri, ac_irr, ac_rii, ac_rir, ac_rri, ac_rrr, Option.bind_some, Option.toList_some, Option.toList_none, List.nil_append, List.cons_append, not_false_eq_true]
end HEAR
