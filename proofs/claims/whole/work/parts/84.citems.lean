/-! records are taken apart: the class -/
section CITEMS
variable {d : Nat} {S S' : st_S} {V V' : st_V} {xs jx : List Int32} {it : it_T}
theorem IC.cong (I : IC S V it) (h1 : ∀ a k, 74 ≤ a → a ≤ 84 → S' a k = S a k) (h2 : ∀ a, 75 ≤ a → a ≤ 87 → V' a = V a) : IC S' V' it := by
  intro t ht
  obtain ⟨a, b, jk, c, e⟩ := I t ht
  exact ⟨by rw [h2 87 (by decide) (by decide)]; exact a, by rw [h2 86 (by decide) (by decide)]; exact b, jk, c.cong (h1 _ _ (by omega) (by omega)) (h2 _ (by omega) (by omega)), e⟩
theorem ev_keep {tag a n : Nat} (I : IC S V it) (Hx : Rw S V 91 xs jx) (ht : tag < 256) (hb : a + n ≤ xs.length) (h24 : xs.length ≤ 24) : ∃ S' V', ev (d + 2) 42 [.ref 72, .int (nI tag), .ref 91, .int (nI a), .int (nI (a + n))] (hs S V) = some (none, hs S' V') ∧ IC S' V' (kp it tag ((xs.drop a).take n)) ∧ Fm itS itV S V S' V' := by
  by_cases h1 : tag < 1
  · have c : nI tag < 1 := nI_lt (b := 1) h1 (by decide)
    refine ⟨S, V, ?_, ?_, Fm.refl _ _⟩
    · simp only [e_Items_keepFirst, x_Items_keepFirst_0, x_Items_keepFirst_1, x_Items_keepFirst_2, x_Items_keepFirst_19, c, if_true]
    · unfold kp; rw [if_neg (fun z => by have := z.1; omega)]; exact I
  · have c : ¬ nI tag < 1 := nI_nlt (b := 1) (by omega) (by omega)
    by_cases h5 : 5 < tag
    · have c2 : (5 : Int32) < nI tag := nI_lt (a := 5) h5 (by omega)
      refine ⟨S, V, ?_, ?_, Fm.refl _ _⟩
      · simp only [e_Items_keepFirst, x_Items_keepFirst_0, x_Items_keepFirst_1, x_Items_keepFirst_2, x_Items_keepFirst_5, x_Items_keepFirst_6, x_Items_keepFirst_7, x_Items_keepFirst_19, c, c2, if_true, if_false]
      · unfold kp; rw [if_neg (fun z => by have := z.2.1; omega)]; exact I
    · have c2 : ¬ (5 : Int32) < nI tag := nI_nlt (a := 5) (by omega) (by decide)
      obtain ⟨i1, i2, jk, i3, i4⟩ := I tag (by omega)
      have ld : am_ld (hs S V) 87 1 (nI tag) = some (b2i (it tag).isSome) := (ldN rfl (by omega)).trans i1
      cases hit : it tag with
      | some zs =>
        rw [hit] at ld
        refine ⟨S, V, ?_, ?_, Fm.refl _ _⟩
        · simp only [e_Items_keepFirst, x_Items_keepFirst_0, x_Items_keepFirst_1, x_Items_keepFirst_2, x_Items_keepFirst_5, x_Items_keepFirst_6, x_Items_keepFirst_7, x_Items_keepFirst_10, x_Items_keepFirst_11, x_Items_keepFirst_14, x_Items_keepFirst_15, x_Items_keepFirst_16, x_Items_keepFirst_19, c, c2, if_false, g_72_3, ld, show b2i (some zs).isSome = 1 from rfl, (by decide : ¬ (1 : Int32) = 0), ac_0, ac_i, ac_r, ac_ii, ac_ir, ac_ri, ac_rr, ac_iii, ac_iir, ac_iri, ac_irr, ac_rii, ac_rir, ac_rri, ac_rrr, Option.bind_some, Option.toList_some, Option.toList_none, List.nil_append, List.cons_append, not_false_eq_true]
        · unfold kp; rw [if_neg (fun z => by rw [hit] at z; cases z.2.2)]; exact I
      | none =>
        rw [hit] at ld i3 i4
        have hk : kp it tag ((xs.drop a).take n) = fun t => if t = tag then some ((xs.drop a).take n) else it t := by
          unfold kp; rw [if_pos ⟨by omega, by omega, by rw [hit]; rfl⟩]
        rw [hk]
        have l87 : tag < (V 87).length := (List.getElem?_eq_some_iff.mp i1).1
        have l86 : tag < (V 86).length := (List.getElem?_eq_some_iff.mp i2).1
        have cl : ((xs.drop a).take n).length = n := by rw [List.length_take, List.length_drop]; omega
        have s1 : am_sv (hs S V) 87 1 (nI tag) 1 = some (hs S (sV V 87 tag 1)) := svN rfl l87 (by omega)
        have il := ev_isLength (d := d + 1) (t := tag) (n := n) (h := hs S (sV V 87 tag 1)) (by omega) (by omega) (by omega)
        have sub : nI (a + n) - nI a = nI n := by rw [nI_sub (by omega)]; congr 1; omega
        have F1 : Fm itS itV S V S (sV V 87 tag 1) := (Fm.refl _ _).sv (by unfold itV; omega)
        have i3' : Rw S V (74 + 2 * tag) [] jk := i3
        have i4' : jk.length = 24 := by have : ([] : List Int32).length + jk.length = 24 := i4; simpa using this
        cases hf : fitn tag n with
        | false =>
          rw [hf] at il
          refine ⟨S, sV V 87 tag 1, ?_, ?_, F1⟩
          · simp only [e_Items_keepFirst, x_Items_keepFirst_0, x_Items_keepFirst_1, x_Items_keepFirst_2, x_Items_keepFirst_5, x_Items_keepFirst_6, x_Items_keepFirst_7, x_Items_keepFirst_10, x_Items_keepFirst_11, x_Items_keepFirst_14, x_Items_keepFirst_15, x_Items_keepFirst_16, x_Items_keepFirst_19, x_Items_keepFirst_20, x_Items_keepFirst_21, x_Items_keepFirst_24, x_Items_keepFirst_25, x_Items_keepFirst_26, x_Items_keepFirst_27, x_Items_keepFirst_28, x_Items_keepFirst_30, x_Items_keepFirst_31, x_Items_keepFirst_32, x_Items_keepFirst_35, x_Items_keepFirst_58, c, c2, if_false, if_true, g_72_3, ld, show b2i (none : Option (List Int32)).isSome = 0 from rfl, bn_1, s1, sub, il, show b2i false = 0 from rfl, ac_0, ac_i, ac_r, ac_ii, ac_ir, ac_ri, ac_rr, ac_iii, ac_iir, ac_iri, ac_irr, ac_rii, ac_rir, ac_rri, ac_rrr, Option.bind_some, Option.toList_some, Option.toList_none, List.nil_append, List.cons_append, not_false_eq_true]
          · intro t htt
            by_cases e : t = tag
            · subst e
              dsimp only
              rw [if_pos rfl, sV_self, List.getElem?_set_self l87, sV_ne (by decide)]
              have ff : fit t (some ((xs.drop a).take n)) = false := by show fitn t _ = _; rw [cl]; exact hf
              have iv : itv t (some ((xs.drop a).take n)) = [] := by unfold itv; rw [ff]; rfl
              rw [ff, iv]
              refine ⟨rfl, ?_, jk, i3'.cong rfl (sV_ne (by omega)), by simpa using i4'⟩
              rw [i2, hit]; rfl
            · obtain ⟨q1, q2, jq, q3, q4⟩ := I t htt
              dsimp only
              rw [if_neg e, sV_self, List.getElem?_set_ne (Ne.symm e), sV_ne (by decide)]
              exact ⟨q1, q2, jq, q3.cong rfl (sV_ne (by omega)), q4⟩
        | true =>
          rw [hf] at il
          have s2 : am_sv (hs S (sV V 87 tag 1)) 86 1 (nI tag) 1 = some (hs S (sV (sV V 87 tag 1) 86 tag 1)) := svN rfl (by rw [sV_len]; exact l86) (by omega)
          have R2 : Rw S (sV (sV V 87 tag 1) 86 tag 1) (74 + 2 * tag) [] jk := i3'.cong rfl (by rw [sV_ne (by omega), sV_ne (by omega)])
          have X2 : Rw S (sV (sV V 87 tag 1) 86 tag 1) 91 xs jx := Hx.cong rfl (by rw [sV_ne (by decide), sV_ne (by decide)])
          have ea := ev_addPart (d := d) (f := a) (m := n) R2 X2 (by omega) (by omega) (by omega)
          have er := rw_addPart (f := a) (ys := xs) (m := n) R2 (by omega)
          rw [part_eq _ _ _ (by omega)] at ea er
          have F2 : Fm itS itV S V S (sV (sV V 87 tag 1) 86 tag 1) := F1.sv (by unfold itV; omega)
          have w87 : (sV (sV V 87 tag 1) 86 tag 1) 87 = (V 87).set tag 1 := by rw [sV_ne (by decide), sV_self]
          have w86 : (sV (sV V 87 tag 1) 86 tag 1) 86 = (V 86).set tag 1 := by rw [sV_self, sV_ne (by decide)]
          have wo : ∀ b, ¬ b = 86 → ¬ b = 87 → (sV (sV V 87 tag 1) 86 tag 1) b = V b := fun b h1 h2 => by rw [sV_ne h1, sV_ne h2]
          generalize sV (sV V 87 tag 1) 86 tag 1 = V2 at s2 R2 X2 ea er F2 w87 w86 wo
          have l2 : (V2 (74 + 2 * tag + 1)).length = 24 := by
            have := congrArg List.length R2.2.2.1
            rw [List.nil_append] at this; omega
          have F3 : Fm itS itV S V (uS S (74 + 2 * tag) 1 (nI (([] : List Int32).length + n))) (uV V2 (74 + 2 * tag + 1) ([] ++ ((xs.drop a).take n ++ jk.drop n))) := (F2.us (by unfold itS; omega)).uv (by unfold itV; omega) (by rw [List.nil_append, List.length_append, cl, List.length_drop]; omega)
          refine ⟨_, _, ?_, ?_, F3⟩
          · simp only [e_Items_keepFirst, x_Items_keepFirst_0, x_Items_keepFirst_1, x_Items_keepFirst_2, x_Items_keepFirst_5, x_Items_keepFirst_6, x_Items_keepFirst_7, x_Items_keepFirst_10, x_Items_keepFirst_11, x_Items_keepFirst_14, x_Items_keepFirst_15, x_Items_keepFirst_16, x_Items_keepFirst_19, x_Items_keepFirst_20, x_Items_keepFirst_21, x_Items_keepFirst_24, x_Items_keepFirst_25, x_Items_keepFirst_26, x_Items_keepFirst_27, x_Items_keepFirst_28, x_Items_keepFirst_30, x_Items_keepFirst_31, x_Items_keepFirst_32, x_Items_keepFirst_35, x_Items_keepFirst_38, x_Items_keepFirst_39, x_Items_keepFirst_42, x_Items_keepFirst_43, x_Items_keepFirst_44, x_Items_keepFirst_45, x_Items_keepFirst_46, x_Items_keepFirst_49, x_Items_keepFirst_50, x_Items_keepFirst_51, x_Items_keepFirst_52, x_Items_keepFirst_53, x_Items_keepFirst_55, x_Items_keepFirst_58, c, c2, if_false, if_true, g_72_3, g_72_1, g_72_0, ld, show b2i (none : Option (List Int32)).isSome = 0 from rfl, bn_1, s1, sub, il, show b2i true = 1 from rfl, (by decide : ¬ (1 : Int32) = 0), s2, ld_items (show tag ≤ 5 by omega), row_is (it_row (show tag ≤ 5 by omega)), ea, ac_0, ac_i, ac_r, ac_ii, ac_ir, ac_ri, ac_rr, ac_iii, ac_iir, ac_iri, ac_irr, ac_rii, ac_rir, ac_rri, ac_rrr, Option.bind_some, Option.toList_some, Option.toList_none, List.nil_append, List.cons_append, not_false_eq_true]
          · intro t htt
            by_cases e : t = tag
            · subst e
              dsimp only
              have ff : fit t (some ((xs.drop a).take n)) = true := by show fitn t _ = _; rw [cl]; exact hf
              have iv : itv t (some ((xs.drop a).take n)) = (xs.drop a).take n := by unfold itv; rw [ff]; rfl
              rw [if_pos rfl, uV_ne (by omega), w87, List.getElem?_set_self l87, uV_ne (by omega), w86, List.getElem?_set_self l86, ff, iv]
              refine ⟨rfl, rfl, jk.drop n, er, by rw [cl, List.length_drop]; omega⟩
            · obtain ⟨q1, q2, jq, q3, q4⟩ := I t htt
              dsimp only
              rw [if_neg e, uV_ne (by omega), w87, List.getElem?_set_ne (Ne.symm e), uV_ne (by omega), w86, List.getElem?_set_ne (Ne.symm e)]
              exact ⟨q1, q2, jq, q3.cong (uS_ne (by omega)) (by rw [uV_ne (by omega), wo _ (by omega) (by omega)]), q4⟩
end CITEMS
