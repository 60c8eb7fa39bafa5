/-! blocks of the class -/
def isBl (b : Nat) : Prop := sh_L[b]? = some (sh_block b) ∧ isRow (b + 1)
/-- a block's own numbers -/
def blS (b a _k : Nat) : Prop := a = b ∨ a = b + 1
def blV (b a : Nat) : Prop := a = b + 2
section BLK
variable {d : Nat} {S : st_S} {V : st_V} {b : Nat} {v : Int32}
theorem bl_is (H : isBl b) : am_is (hs S V) b 1 = true := hs_is H.1
theorem bg_0 (H : isBl b) : am_get (hs S V) b 1 0 = some (.int (S b 0)) := hs_get H.1 rfl
theorem bg_1 (H : isBl b) : am_get (hs S V) b 1 1 = some (.int (S b 1)) := hs_get H.1 rfl
theorem bg_2 (H : isBl b) : am_get (hs S V) b 1 2 = some (.int (S b 2)) := hs_get H.1 rfl
theorem bg_3 (H : isBl b) : am_get (hs S V) b 1 3 = some (.ref (b + 1)) := hs_getr H.1 rfl
theorem bp_0 (H : isBl b) : am_put (hs S V) b 1 0 (.int v) = some (hs (uS S b 0 v) V) := hs_put H.1 rfl
theorem bp_1 (H : isBl b) : am_put (hs S V) b 1 1 (.int v) = some (hs (uS S b 1 v) V) := hs_put H.1 rfl
theorem bp_2 (H : isBl b) : am_put (hs S V) b 1 2 (.int v) = some (hs (uS S b 2 v) V) := hs_put H.1 rfl
theorem ev_plain {k n : Int32} (H : isBl b) : ev (d + 1) 10 [.ref b, .int k, .int n] (hs S V) = some (none, hs (uS (uS (uS (uS S b 0 k) b 1 n) b 2 0) (b + 1) 1 0) V) := by
  simp only [e_Block_becomePlain, x_Block_becomePlain_0, x_Block_becomePlain_1, x_Block_becomePlain_2, x_Block_becomePlain_5, x_Block_becomePlain_6, x_Block_becomePlain_7, x_Block_becomePlain_10, x_Block_becomePlain_11, x_Block_becomePlain_12, x_Block_becomePlain_15, x_Block_becomePlain_16, x_Block_becomePlain_19, x_Block_becomePlain_22, bp_0 H, bp_1 H, bp_2 H, bg_3 H, row_is H.2, ev_clr H.2, ob_0, bn_0, nbz, ac_0, ac_i, ac_r, ac_ii, ac_ir, ac_ri, ac_rr, ac_iii, ac_iir, ac_iri, ac_irr, ac_rii, ac_rir, ac_rri, ac_rrr, Option.bind_some, Option.toList_some, Option.toList_none, List.nil_append, List.cons_append, not_false_eq_true]
theorem ev_becomePlain {k n : Int32} (H : isBl b) (hl : (V (b + 2)).length ≤ 1000) : ∃ S', ev (d + 1) 10 [.ref b, .int k, .int n] (hs S V) = some (none, hs S' V) ∧ S' b 0 = k ∧ S' b 1 = n ∧ S' b 2 = 0 ∧ Rw S' V (b + 1) [] (V (b + 2)) ∧ Fm (blS b) (blV b) S V S' V := by
  refine ⟨_, ev_plain H, ?_, ?_, ?_, rw_clr H.2 hl, ((((Fm.refl S V).us (Or.inl rfl)).us (Or.inl rfl)).us (Or.inl rfl)).us (Or.inr rfl)⟩
  · rw [uS_ne (by omega), uS_ne (by omega), uS_ne (by omega), uS_self]
  · rw [uS_ne (by omega), uS_ne (by omega), uS_self]
  · rw [uS_ne (by omega), uS_self]
theorem ev_becomePart {n : Int32} {r f z : Nat} {ys kk : List Int32} (H : isBl b) (hl : (V (b + 2)).length = 16) (Hr : Rw S V r ys kk) (hr : ¬ r = b + 1) (hrb : ¬ r = b) (hf : f ≤ ys.length) (hz : z ≤ 16) :
    ∃ S' V', ev (d + 2) 11 [.ref b, .int n, .ref r, .int (nI f), .int (nI z)] (hs S V) = some (none, hs S' V') ∧ S' b 0 = 5 ∧ S' b 1 = n ∧ S' b 2 = (if f + z < ys.length then 1 else 0) ∧ (∃ jk, Rw S' V' (b + 1) ((ys.drop f).take z) jk) ∧ Fm (blS b) (blV b) S V S' V' := by
  obtain ⟨S1, e1, p0, p1, p2, pr, pf⟩ := ev_becomePlain (d := d) (S := S) (V := V) (k := 5) (n := n) H (by omega)
  have hsep : ¬ r = b + 2 := row_sep H.2 Hr.1
  have hlen : ys.length ≤ 1000 := by have := Hr.2.2.2; omega
  have Hr1 : Rw S1 V r ys kk := Hr.cong (pf.1 _ _ (by unfold blS; omega)) rfl
  have m0 : min (f + z) ys.length = f + min z (ys.length - f) := by omega
  have ep := ev_addPart (d := d) (f := f) (m := min z (ys.length - f)) pr Hr1 hr (by omega) (by rw [hl]; omega)
  have ee : part ys f (min z (ys.length - f)) = (ys.drop f).take z := by
    rw [part_eq _ _ _ (by omega)]
    by_cases h : z ≤ ys.length - f
    · rw [Nat.min_eq_left h]
    · rw [Nat.min_eq_right (by omega), List.take_of_length_le (by rw [List.length_drop]; exact Nat.le_refl _), List.take_of_length_le (by rw [List.length_drop]; omega)]
  have er := rw_addPart (f := f) (ys := ys) (m := min z (ys.length - f)) pr (by rw [hl]; omega)
  rw [← m0] at ep
  have mn : (if nI ys.length < nI (f + z) then nI ys.length else nI (f + z)) = nI (min (f + z) ys.length) := by
    by_cases h : ys.length < f + z
    · rw [if_pos (nI_lt h (by omega)), Nat.min_eq_right (by omega)]
    · rw [if_neg (nI_nlt (by omega) (by omega)), Nat.min_eq_left (by omega)]
  have g1 : S1 r 1 = nI ys.length := Hr1.2.1
  generalize hS2 : uS S1 (b + 1) 1 (nI (([] : List Int32).length + min z (ys.length - f))) = S2 at ep er
  generalize hV2 : uV V (b + 1 + 1) ([] ++ (part ys f (min z (ys.length - f)) ++ (V (b + 2)).drop (min z (ys.length - f)))) = V2 at ep er
  have F2 : Fm (blS b) (blV b) S V S2 V2 := by
    rw [← hS2, ← hV2]
    exact (pf.us (Or.inr rfl)).uv rfl (by rw [List.nil_append, List.length_append, part_len, List.length_drop]; show _ = (V (b + 2)).length; omega)
  have q0 : S2 b 0 = 5 := by rw [← hS2, uS_ne (by omega)]; exact p0
  have q1 : S2 b 1 = n := by rw [← hS2, uS_ne (by omega)]; exact p1
  have g2 : S2 r 1 = nI ys.length := by rw [← hS2, uS_ne (by omega)]; exact g1
  rw [List.nil_append, ee] at er
  by_cases h : f + z < ys.length
  · have c : nI (f + z) < nI ys.length := nI_lt h (by omega)
    refine ⟨uS S2 b 2 1, V2, ?_, ?_, ?_, ?_, ⟨_, er.cong (uS_ne (by omega)) rfl⟩, F2.us (Or.inl rfl)⟩
    · simp only [e_Block_becomePart, x_Block_becomePart_0, x_Block_becomePart_1, x_Block_becomePart_2, x_Block_becomePart_3, x_Block_becomePart_6, x_Block_becomePart_7, x_Block_becomePart_10, x_Block_becomePart_11, x_Block_becomePart_12, x_Block_becomePart_13, x_Block_becomePart_15, x_Block_becomePart_16, x_Block_becomePart_17, x_Block_becomePart_20, x_Block_becomePart_23, x_Block_becomePart_26, x_Block_becomePart_27, x_Block_becomePart_28, x_Block_becomePart_30, x_Block_becomePart_31, x_Block_becomePart_32, x_Block_becomePart_35, x_Block_becomePart_38, x_Block_becomePart_39, x_Block_becomePart_42, x_Block_becomePart_43, x_Block_becomePart_46, bl_is H, e1, bg_3 H, row_g1 Hr.1, g1, nI_add, mn, row_is H.2, ep, g2, c, if_true, bp_2 H, ob_1, bn_1, nbo, ac_0, ac_i, ac_r, ac_ii, ac_ir, ac_ri, ac_rr, ac_iii, ac_iir, ac_iri, ac_irr, ac_rii, ac_rir, ac_rri, ac_rrr, Option.bind_some, Option.toList_some, Option.toList_none, List.nil_append, List.cons_append, not_false_eq_true]
    · rw [uS_ne (by omega)]; exact q0
    · rw [uS_ne (by omega)]; exact q1
    · rw [uS_self, if_pos h]
  · have c : ¬ nI (f + z) < nI ys.length := nI_nlt (by omega) (by omega)
    refine ⟨uS S2 b 2 0, V2, ?_, ?_, ?_, ?_, ⟨_, er.cong (uS_ne (by omega)) rfl⟩, F2.us (Or.inl rfl)⟩
    · simp only [e_Block_becomePart, x_Block_becomePart_0, x_Block_becomePart_1, x_Block_becomePart_2, x_Block_becomePart_3, x_Block_becomePart_6, x_Block_becomePart_7, x_Block_becomePart_10, x_Block_becomePart_11, x_Block_becomePart_12, x_Block_becomePart_13, x_Block_becomePart_15, x_Block_becomePart_16, x_Block_becomePart_17, x_Block_becomePart_20, x_Block_becomePart_23, x_Block_becomePart_26, x_Block_becomePart_27, x_Block_becomePart_28, x_Block_becomePart_30, x_Block_becomePart_31, x_Block_becomePart_32, x_Block_becomePart_35, x_Block_becomePart_38, x_Block_becomePart_39, x_Block_becomePart_42, x_Block_becomePart_43, x_Block_becomePart_46, bl_is H, e1, bg_3 H, row_g1 Hr.1, g1, nI_add, mn, row_is H.2, ep, g2, c, if_false, bp_2 H, ob_0, bn_0, nbz, ac_0, ac_i, ac_r, ac_ii, ac_ir, ac_ri, ac_rr, ac_iii, ac_iir, ac_iri, ac_irr, ac_rii, ac_rir, ac_rri, ac_rrr, Option.bind_some, Option.toList_some, Option.toList_none, List.nil_append, List.cons_append, not_false_eq_true]
    · rw [uS_ne (by omega)]; exact q0
    · rw [uS_ne (by omega)]; exact q1
    · rw [uS_self, if_neg h]
end BLK
