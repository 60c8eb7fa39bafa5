/-! rows: parts, numbers; blocks; MIX -/
theorem uS_same {S : st_S} {a k : Nat} {v : Int32} (h : v = S a k) : uS S a k v = S := by
  funext j i
  unfold uS
  split
  · rename_i hc; rw [h, hc.1, hc.2]
  · rfl
theorem uV_same {V : st_V} {a : Nat} {l : List Int32} (h : l = V a) : uV V a l = V := by
  funext j
  unfold uV
  split
  · rename_i hc; rw [h, hc]
  · rfl
theorem row_sep {r o : Nat} (h1 : isRow r) (h2 : isRow o) : ¬ o = r + 1 := by
  intro h
  subst h
  have := h1.2.symm.trans h2.1
  simp [sh_row] at this
theorem Rw.cong {S S' : st_S} {V V' : st_V} {r : Nat} {xs jk : List Int32} (H : Rw S V r xs jk) (h1 : S' r 1 = S r 1) (h2 : V' (r + 1) = V (r + 1)) : Rw S' V' r xs jk :=
  ⟨H.1, h1.trans H.2.1, h2.trans H.2.2.1, H.2.2.2⟩
def part (ys : List Int32) : Nat → Nat → List Int32
  | _, 0 => []
  | i, m + 1 => ys.getD i 0 :: part ys (i + 1) m
theorem part_len (ys : List Int32) : ∀ (i m : Nat), (part ys i m).length = m
  | _, 0 => rfl
  | i, m + 1 => by show (part ys (i + 1) m).length + 1 = m + 1; rw [part_len ys (i + 1) m]
theorem part_eq (ys : List Int32) : ∀ (m i : Nat), i + m ≤ ys.length → part ys i m = (ys.drop i).take m
  | 0, i, _ => by simp [part]
  | m + 1, i, h => by
    have hi : i < ys.length := by omega
    show ys.getD i 0 :: part ys (i + 1) m = _
    rw [part_eq ys m (i + 1) (by omega), List.drop_eq_getElem_cons hi, List.take_succ_cons]
    simp [List.getD, hi]
def stir (h x : Int32) : Int32 := ((h ^^^ x) * 16777619) ^^^ am_ush ((h ^^^ x) * 16777619) 15
theorem ev_stir {d : Nat} {a b : Int32} {h : am_H} : ev d 74 [.int a, .int b] h = some (some (.int (stir a b)), h) := by
  simp only [e_Tap_stir, x_Tap_stir_0, x_Tap_stir_1, x_Tap_stir_2, x_Tap_stir_3, x_Tap_stir_6, x_Tap_stir_7, x_Tap_stir_8, x_Tap_stir_9, x_Tap_stir_10, x_Tap_stir_12, x_Tap_stir_13, x_Tap_stir_14]
  rfl
theorem ev_mstir {d : Nat} {a b : Int32} {h : am_H} : ev d 78 [.int a, .int b] h = some (some (.int (stir a b)), h) := by
  simp only [e_Mod_stir, x_Mod_stir_0, x_Mod_stir_1, x_Mod_stir_2, x_Mod_stir_3, x_Mod_stir_5, x_Mod_stir_6, x_Mod_stir_7, x_Mod_stir_8, x_Mod_stir_9, x_Mod_stir_11, x_Mod_stir_12, x_Mod_stir_13]
  rfl
section ROW2
variable {d : Nat} {S : st_S} {V : st_V} {r o : Nat} {xs jk ys kk : List Int32}
theorem addPart_loop {l2 : Option Value} {t : Nat} (ht : t ≤ 1000) (hro : ¬ o = r) : ∀ (m : Nat) (S : st_S) (V : st_V) (xs jk : List Int32) (i : Nat), Rw S V r xs jk → Rw S V o ys kk → i + m = t → m ≤ jk.length →
    rn (d + 1) 4 3 [some (.ref r), some (.ref o), l2, some (.int (nI t)), some (.int (nI i))] [] (hs S V) = some (none, hs (uS S r 1 (nI (xs.length + m))) (uV V (r + 1) (xs ++ (part ys i m ++ jk.drop m)))) := by
  intro m
  induction m with
  | zero =>
    intro S V xs jk i H Ho hi hm
    have hit : i = t := by omega
    subst hit
    have c : ¬ nI i < nI i := nI_nlt (Nat.le_refl _) (by omega)
    simp only [e_Row_addPart, x_Row_addPart_0, x_Row_addPart_1, x_Row_addPart_3, x_Row_addPart_5, x_Row_addPart_6, x_Row_addPart_9, x_Row_addPart_10, x_Row_addPart_11, x_Row_addPart_13, x_Row_addPart_16, x_Row_addPart_19, x_Row_addPart_22, x_Row_addPart_25, c, if_false]
    rw [uS_same (S := S) (by rw [H.2.1]; rfl), uV_same (V := V) (by rw [H.2.2.1]; simp [part])]
  | succ m ih =>
    intro S V xs jk i H Ho hi hm
    cases jk with
    | nil => simp at hm
    | cons j jk =>
      have c : nI i < nI t := nI_lt (by omega) (by omega)
      have e1 := ev_at (d := d) (i := nI i) Ho
      rw [rAt_n (by omega)] at e1
      have e2 := ev_add (d := d) (v := ys.getD i 0) H
      have H' := rw_add (v := ys.getD i 0) H
      have s1 := row_sep H.1 Ho.1
      have s2 := row_sep Ho.1 H.1
      have Ho' : Rw (uS S r 1 (nI (xs.length + 1))) (uV V (r + 1) (xs ++ ys.getD i 0 :: jk)) o ys kk := Ho.cong (uS_ne (fun z => hro z.1)) (uV_ne (by omega))
      rw [x_Row_addPart_3]
      simp only [x_Row_addPart_5, x_Row_addPart_6, x_Row_addPart_9, x_Row_addPart_10, x_Row_addPart_11, x_Row_addPart_13, x_Row_addPart_16, x_Row_addPart_19, x_Row_addPart_22, x_Row_addPart_25, c, if_true, rw_is Ho, rw_is H, e1, e2, ac_0, ac_i, ac_r, ac_ii, ac_ir, ac_ri, ac_rr, ac_iii, ac_iir, ac_iri, ac_irr, ac_rii, ac_rir, ac_rri, ac_rrr, Option.bind_some, Option.toList_some, Option.toList_none, List.nil_append, List.cons_append, not_false_eq_true, nI_1]
      rw [ih _ _ _ _ (i + 1) H' Ho' (by omega) (by simp at hm; omega)]
      rw [uS_uS, uV_uV]
      simp [part, Nat.add_assoc, Nat.add_comm 1 m]
theorem ev_addPart {f m : Nat} (H : Rw S V r xs jk) (Ho : Rw S V o ys kk) (hro : ¬ o = r) (ht : f + m ≤ 1000) (hm : m ≤ jk.length) : ev (d + 1) 4 [.ref r, .ref o, .int (nI f), .int (nI (f + m))] (hs S V) = some (none, hs (uS S r 1 (nI (xs.length + m))) (uV V (r + 1) (xs ++ (part ys f m ++ jk.drop m)))) := by
  simp only [e_Row_addPart, x_Row_addPart_0, x_Row_addPart_1]
  exact addPart_loop ht hro m S V xs jk f H Ho rfl hm
theorem rw_addPart {f m : Nat} (H : Rw S V r xs jk) (hm : m ≤ jk.length) : Rw (uS S r 1 (nI (xs.length + m))) (uV V (r + 1) (xs ++ (part ys f m ++ jk.drop m))) r (xs ++ part ys f m) (jk.drop m) := by
  refine ⟨H.1, by rw [uS_self]; simp [part_len], by rw [uV_self]; simp, ?_⟩
  have := H.2.2.2
  simp [part_len]
  omega
/-- an end that does not lie behind the beginning: nothing happens -/
theorem ev_addPart0 {a b : Int32} (hab : ¬ a < b) : ev (d + 1) 4 [.ref r, .ref o, .int a, .int b] (hs S V) = some (none, hs S V) := by
  simp only [e_Row_addPart, x_Row_addPart_0, x_Row_addPart_1, x_Row_addPart_3, x_Row_addPart_5, x_Row_addPart_6, x_Row_addPart_9, x_Row_addPart_10, x_Row_addPart_11, x_Row_addPart_13, x_Row_addPart_16, x_Row_addPart_19, x_Row_addPart_22, x_Row_addPart_25, hab, if_false]
theorem ev_pairAt {i : Int32} (H : Rw S V r xs jk) : ev (d + 1) 6 [.ref r, .int i] (hs S V) = some (some (.int ((rAt xs i <<< ((8 : Int32) &&& 31)) ||| rAt xs (i + 1))), hs S V) := by
  have e := fun i => ev_at (d := d) (i := i) H
  simp only [e_Row_pairAt, x_Row_pairAt_0, x_Row_pairAt_1, x_Row_pairAt_2, x_Row_pairAt_5, x_Row_pairAt_7, x_Row_pairAt_8, x_Row_pairAt_9, x_Row_pairAt_10, x_Row_pairAt_11, x_Row_pairAt_12, x_Row_pairAt_15, x_Row_pairAt_16, rw_is H, e, ac_0, ac_i, ac_r, ac_ii, ac_ir, ac_ri, ac_rr, ac_iii, ac_iir, ac_iri, ac_irr, ac_rii, ac_rir, ac_rri, ac_rrr, Option.bind_some, Option.toList_some, Option.toList_none, List.nil_append, List.cons_append, not_false_eq_true]
theorem ev_intAt {i : Int32} (H : Rw S V r xs jk) : ev (d + 1) 7 [.ref r, .int i] (hs S V) = some (some (.int ((((rAt xs i <<< ((24 : Int32) &&& 31)) ||| (rAt xs (i + 1) <<< ((16 : Int32) &&& 31))) ||| (rAt xs (i + 2) <<< ((8 : Int32) &&& 31))) ||| rAt xs (i + 3))), hs S V) := by
  have e := fun i => ev_at (d := d) (i := i) H
  simp only [e_Row_intAt, x_Row_intAt_0, x_Row_intAt_1, x_Row_intAt_2, x_Row_intAt_5, x_Row_intAt_7, x_Row_intAt_8, x_Row_intAt_9, x_Row_intAt_10, x_Row_intAt_11, x_Row_intAt_12, x_Row_intAt_15, x_Row_intAt_17, x_Row_intAt_18, x_Row_intAt_19, x_Row_intAt_20, x_Row_intAt_21, x_Row_intAt_22, x_Row_intAt_23, x_Row_intAt_26, x_Row_intAt_28, x_Row_intAt_29, x_Row_intAt_30, x_Row_intAt_31, x_Row_intAt_32, x_Row_intAt_33, x_Row_intAt_34, x_Row_intAt_37, x_Row_intAt_38, rw_is H, e, ac_0, ac_i, ac_r, ac_ii, ac_ir, ac_ri, ac_rr, ac_iii, ac_iir, ac_iri, ac_irr, ac_rii, ac_rir, ac_rri, ac_rrr, Option.bind_some, Option.toList_some, Option.toList_none, List.nil_append, List.cons_append, not_false_eq_true]
/-- the octets of an int -/
def oct4 (x : Int32) : List Int32 := [am_ush x 24, am_ush x 16 &&& 255, am_ush x 8 &&& 255, x &&& 255]
theorem ev_addInt {x j0 j1 j2 j3 : Int32} (H : Rw S V r xs (j0 :: j1 :: j2 :: j3 :: jk)) : ev (d + 1) 3 [.ref r, .int x] (hs S V) = some (none, hs (uS S r 1 (nI (xs.length + 4))) (uV V (r + 1) (xs ++ (oct4 x ++ jk)))) := by
  have e1 := ev_add (d := d) (v := am_ush x 24) H
  have H1 := rw_add (v := am_ush x 24) H
  have e2 := ev_add (d := d) (v := am_ush x 16 &&& 255) H1
  have H2 := rw_add (v := am_ush x 16 &&& 255) H1
  have e3 := ev_add (d := d) (v := am_ush x 8 &&& 255) H2
  have H3 := rw_add (v := am_ush x 8 &&& 255) H2
  have e4 := ev_add (d := d) (v := x &&& 255) H3
  simp only [e_Row_addInt, x_Row_addInt_0, x_Row_addInt_1, x_Row_addInt_2, x_Row_addInt_4, x_Row_addInt_5, x_Row_addInt_8, x_Row_addInt_9, x_Row_addInt_10, x_Row_addInt_12, x_Row_addInt_13, x_Row_addInt_16, x_Row_addInt_17, x_Row_addInt_20, x_Row_addInt_21, x_Row_addInt_22, x_Row_addInt_24, x_Row_addInt_25, x_Row_addInt_28, x_Row_addInt_29, x_Row_addInt_32, x_Row_addInt_33, x_Row_addInt_34, x_Row_addInt_37, x_Row_addInt_38, x_Row_addInt_41, rw_is H, rw_is H1, rw_is H2, rw_is H3, e1, e2, e3, e4, ac_0, ac_i, ac_r, ac_ii, ac_ir, ac_ri, ac_rr, ac_iii, ac_iir, ac_iri, ac_irr, ac_rii, ac_rir, ac_rri, ac_rrr, Option.bind_some, Option.toList_some, Option.toList_none, List.nil_append, List.cons_append, not_false_eq_true]
  simp only [uS_uS, uV_uV, oct4, List.length_append, List.length_cons, List.length_nil, List.append_assoc, List.cons_append, List.nil_append, Nat.add_assoc, Nat.reduceAdd]
theorem rw_addInt {x j0 j1 j2 j3 : Int32} (H : Rw S V r xs (j0 :: j1 :: j2 :: j3 :: jk)) : Rw (uS S r 1 (nI (xs.length + 4))) (uV V (r + 1) (xs ++ (oct4 x ++ jk))) r (xs ++ oct4 x) jk := by
  refine ⟨H.1, by rw [uS_self]; simp [oct4], by rw [uV_self]; simp, ?_⟩
  have := H.2.2.2
  simp [oct4] at this ⊢
  omega
def stirs (h : Int32) (xs : List Int32) : Int32 := xs.foldl stir h
theorem stirInto_loop {l1 : Option Value} (H : Rw S V r xs jk) : ∀ (m i : Nat) (z : Int32), i + m = xs.length → rn (d + 1) 8 4 [some (.ref r), l1, some (.int z), some (.int (nI i))] [] (hs S V) = some (some (.int (stirs z (xs.drop i))), hs S V) := by
  have hN := H.2.2.2
  have g1 := rw_g1 H
  have g0 := rw_g0 H
  intro m
  induction m with
  | zero =>
    intro i z hi
    have c : ¬ nI i < nI xs.length := nI_nlt (by omega) (by omega)
    simp only [e_Row_stirInto, x_Row_stirInto_0, x_Row_stirInto_1, x_Row_stirInto_2, x_Row_stirInto_3, x_Row_stirInto_4, x_Row_stirInto_5, x_Row_stirInto_6, x_Row_stirInto_9, x_Row_stirInto_12, x_Row_stirInto_13, x_Row_stirInto_14, x_Row_stirInto_17, x_Row_stirInto_18, x_Row_stirInto_19, x_Row_stirInto_22, x_Row_stirInto_23, x_Row_stirInto_26, x_Row_stirInto_29, x_Row_stirInto_30, g1, Option.bind_some, c, if_false]
    rw [List.drop_eq_nil_of_le (by omega)]
    rfl
  | succ m ih =>
    intro i z hi
    have c : nI i < nI xs.length := nI_lt (by omega) (by omega)
    have hl : i < xs.length := by omega
    have ld : am_ld (hs S V) (r + 1) 0 (nI i) = some xs[i] := by
      rw [hs_ld H.1.2 (nI_pos (by omega)), nI_clamp (by omega), H.2.2.1, List.getElem?_append_left hl, List.getElem?_eq_getElem hl]
    rw [x_Row_stirInto_4]
    simp only [x_Row_stirInto_5, x_Row_stirInto_6, x_Row_stirInto_9, x_Row_stirInto_12, x_Row_stirInto_13, x_Row_stirInto_14, x_Row_stirInto_17, x_Row_stirInto_18, x_Row_stirInto_19, x_Row_stirInto_22, x_Row_stirInto_23, x_Row_stirInto_26, x_Row_stirInto_29, x_Row_stirInto_30, g1, g0, ld, ev_stir, c, if_true, ac_0, ac_i, ac_r, ac_ii, ac_ir, ac_ri, ac_rr, ac_iii, ac_iir, ac_iri, ac_irr, ac_rii, ac_rir, ac_rri, ac_rrr, Option.bind_some, Option.toList_some, Option.toList_none, List.nil_append, List.cons_append, not_false_eq_true, nI_1]
    rw [ih (i + 1) _ (by omega), List.drop_eq_getElem_cons hl]
    rfl
theorem ev_stirInto {z : Int32} (H : Rw S V r xs jk) : ev (d + 1) 8 [.ref r, .int z] (hs S V) = some (some (.int (stirs z xs)), hs S V) := by
  have h := stirInto_loop (d := d) (l1 := some (.int z)) H xs.length 0 z (by omega)
  rw [nI_0] at h
  simp only [e_Row_stirInto, x_Row_stirInto_0, x_Row_stirInto_1, x_Row_stirInto_2, x_Row_stirInto_3, h]
  rfl
end ROW2
