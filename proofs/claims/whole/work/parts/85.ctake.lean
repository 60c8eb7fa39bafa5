/-! records are taken apart: the class, a whole record -/
section CTAKE
variable {d : Nat} {S S' : st_S} {V V' : st_V} {xs jx : List Int32} {it : it_T}
theorem take_loop (O : Oc xs) : ∀ (f i to lv e : Nat) (it : it_T) (S : st_S) (V : st_V) (l2 l6 l7 : Option Value), lv + e = 4 → to ≤ xs.length → i ≤ to → to - i < f → IC S V it → Rw S V 91 xs jx →
    ∃ S' V', rn (d + e + 3) 41 3 [some (.ref 72), some (.ref 91), l2, some (.int (nI to)), some (.int (nI lv)), some (.int (nI i)), l6, l7] [] (hs S V) = some (some (.int (b2i (tp xs f i to lv it).1)), hs S' V') ∧ IC S' V' (tp xs f i to lv it).2 ∧ Fm itS itV S V S' V' := by
  have h24 := O.1
  intro f
  induction f with
  | zero => intro i to lv e it S V l2 l6 l7 _ _ _ h; omega
  | succ f ih =>
    intro i to lv e it S V l2 l6 l7 hlv hto hi hf I Hx
    rw [x_Items_takePart_3, tp_s]
    by_cases c0 : i < to
    · rw [if_pos c0]
      have k0 : nI i < nI to := nI_lt c0 (by omega)
      obtain ⟨o1, b1⟩ := O.at (i + 1)
      obtain ⟨o0, b0⟩ := O.at i
      have n1 : nI i + 1 = nI (i + 1) := nI_1 i
      have n2 : nI i + 2 = nI (i + 2) := nI_add i 2
      have r1 : ∀ {S V}, Rw S V 91 xs jx → ∀ d, ev d 5 [.ref 91, .int (nI (i + 1))] (hs S V) = some (some (.int (nI (og xs (i + 1)))), hs S V) := fun H d => by rw [ev_at H, rAt_n (by omega), o1]
      have r0 : ∀ {S V}, Rw S V 91 xs jx → ∀ d, ev d 5 [.ref 91, .int (nI i)] (hs S V) = some (some (.int (nI (og xs i))), hs S V) := fun H d => by rw [ev_at H, rAt_n (by omega), o0]
      by_cases c1 : i + 2 + og xs (i + 1) ≤ to
      · rw [if_pos c1]
        have k1 : ¬ nI to < nI (i + 2) := nI_nlt (by omega) (by omega)
        have k2 : ¬ nI to < nI (i + 2 + og xs (i + 1)) := nI_nlt (by omega) (by omega)
        have n3 : nI (i + 2) + nI (og xs (i + 1)) = nI (i + 2 + og xs (i + 1)) := nI_add _ _
        have n4 : (2 : Int32) + nI (og xs (i + 1)) = nI (2 + og xs (i + 1)) := nI_add 2 _
        have n5 : nI i + nI (2 + og xs (i + 1)) = nI (i + 2 + og xs (i + 1)) := by rw [nI_add]; congr 1; omega
        by_cases c2 : og xs i ≤ 127
        · rw [if_pos c2]
          have k3 : ¬ (127 : Int32) < nI (og xs i) := nI_nlt (a := 127) c2 (by decide)
          obtain ⟨S1, V1, e1, I1, F1⟩ := ev_keep (d := d + e) (tag := og xs i) (a := i + 2) (n := og xs (i + 1)) I Hx b0 (by omega) h24
          have H1 : Rw S1 V1 91 xs jx := Hx.fm F1 (by unfold itS; omega) (by unfold itV; omega)
          obtain ⟨S2, V2, e2, I2, F2⟩ := ih (i + 2 + og xs (i + 1)) to lv e (kp it (og xs i) ((xs.drop (i + 2)).take (og xs (i + 1)))) S1 V1 l2 (some (.int (nI (i + 2)))) (some (.int (nI (i + 2 + og xs (i + 1))))) hlv hto c1 (by omega) I1 H1
          refine ⟨S2, V2, ?_, I2, F1.trans F2⟩
          rw [← e2]
          simp only [x_Items_takePart_5, x_Items_takePart_6, x_Items_takePart_9, x_Items_takePart_11, x_Items_takePart_12, x_Items_takePart_13, x_Items_takePart_15, x_Items_takePart_17, x_Items_takePart_18, x_Items_takePart_21, x_Items_takePart_23, x_Items_takePart_24, x_Items_takePart_26, x_Items_takePart_27, x_Items_takePart_28, x_Items_takePart_31, x_Items_takePart_32, x_Items_takePart_33, x_Items_takePart_36, x_Items_takePart_37, x_Items_takePart_38, x_Items_takePart_40, x_Items_takePart_41, x_Items_takePart_43, x_Items_takePart_44, x_Items_takePart_45, x_Items_takePart_48, x_Items_takePart_49, x_Items_takePart_51, x_Items_takePart_52, x_Items_takePart_54, x_Items_takePart_57, x_Items_takePart_59, x_Items_takePart_62, x_Items_takePart_63, x_Items_takePart_64, x_Items_takePart_66, x_Items_takePart_69, x_Items_takePart_70, x_Items_takePart_72, x_Items_takePart_74, x_Items_takePart_77, x_Items_takePart_104, x_Items_takePart_106, x_Items_takePart_107, x_Items_takePart_108, x_Items_takePart_110, x_Items_takePart_111, x_Items_takePart_112, x_Items_takePart_115, x_Items_takePart_116, x_Items_takePart_117, x_Items_takePart_119, k0, k1, k2, k3, if_true, if_false, n1, n2, n3, n4, n5, i_91, i_72, r1 Hx, r0 Hx, e1, r1 H1, ac_iir, ac_irr, ac_rr, ac_0, ac_i, ac_r, ac_ii, ac_ir, ac_ri, ac_rr, ac_iii, ac_iir, ac_iri, ac_irr, ac_rii, ac_rir, ac_rri, ac_rrr, Option.bind_some, Option.toList_some, Option.toList_none, List.nil_append, List.cons_append, not_false_eq_true]
        · rw [if_neg c2]
          have k3 : (127 : Int32) < nI (og xs i) := nI_lt (a := 127) (by omega) (by omega)
          by_cases c3 : lv = 4
          · rw [if_pos c3]
            refine ⟨S, V, ?_, I, Fm.refl _ _⟩
            have k4 : nI lv = 4 := by rw [c3]; rfl
            simp only [x_Items_takePart_5, x_Items_takePart_6, x_Items_takePart_9, x_Items_takePart_11, x_Items_takePart_12, x_Items_takePart_13, x_Items_takePart_15, x_Items_takePart_17, x_Items_takePart_18, x_Items_takePart_21, x_Items_takePart_23, x_Items_takePart_24, x_Items_takePart_26, x_Items_takePart_27, x_Items_takePart_28, x_Items_takePart_31, x_Items_takePart_32, x_Items_takePart_33, x_Items_takePart_36, x_Items_takePart_37, x_Items_takePart_38, x_Items_takePart_40, x_Items_takePart_41, x_Items_takePart_43, x_Items_takePart_44, x_Items_takePart_45, x_Items_takePart_48, x_Items_takePart_49, x_Items_takePart_51, x_Items_takePart_52, x_Items_takePart_54, x_Items_takePart_57, x_Items_takePart_59, x_Items_takePart_80, x_Items_takePart_82, x_Items_takePart_83, x_Items_takePart_102, x_Items_takePart_103, k0, k1, k2, k3, if_true, if_false, n1, n2, n3, k4, i_91, r1 Hx, r0 Hx, nbz, ac_0, ac_i, ac_r, ac_ii, ac_ir, ac_ri, ac_rr, ac_iii, ac_iir, ac_iri, ac_irr, ac_rii, ac_rir, ac_rri, ac_rrr, Option.bind_some, Option.toList_some, Option.toList_none, List.nil_append, List.cons_append, not_false_eq_true]
            rfl
          · rw [if_neg c3]
            obtain ⟨e', rfl⟩ : ∃ e', e = e' + 1 := ⟨e - 1, by omega⟩
            have k4 : ¬ nI lv = 4 := by
              intro z
              have := (nI_eq (a := lv) (b := 4) (by omega) (by decide)).mp z
              omega
            obtain ⟨S1, V1, e1, I1, F1⟩ := ih (i + 2) (i + 2 + og xs (i + 1)) (lv + 1) e' it S V (some (.int (nI (i + 2)))) none none (by omega) (by omega) (by omega) (by omega) I Hx
            have H1 : Rw S1 V1 91 xs jx := Hx.fm F1 (by unfold itS; omega) (by unfold itV; omega)
            have e1' : ev (d + (e' + 1) + 2) 41 [.ref 72, .ref 91, .int (nI (i + 2)), .int (nI (i + 2 + og xs (i + 1))), .int (nI (lv + 1))] (hs S V) = some (some (.int (b2i (tp xs f (i + 2) (i + 2 + og xs (i + 1)) (lv + 1) it).1)), hs S1 V1) := by
              rw [← e1]
              simp only [e_Items_takePart, x_Items_takePart_0, x_Items_takePart_1]
              rfl
            have n6 : nI lv + 1 = nI (lv + 1) := nI_1 lv
            generalize tp xs f (i + 2) (i + 2 + og xs (i + 1)) (lv + 1) it = q at e1' I1
            obtain ⟨ok, it1⟩ := q
            dsimp only at e1' I1 ⊢
            cases ok with
            | false =>
              rw [if_neg (by decide)]
              refine ⟨S1, V1, ?_, I1, F1⟩
              simp only [x_Items_takePart_5, x_Items_takePart_6, x_Items_takePart_9, x_Items_takePart_11, x_Items_takePart_12, x_Items_takePart_13, x_Items_takePart_15, x_Items_takePart_17, x_Items_takePart_18, x_Items_takePart_21, x_Items_takePart_23, x_Items_takePart_24, x_Items_takePart_26, x_Items_takePart_27, x_Items_takePart_28, x_Items_takePart_31, x_Items_takePart_32, x_Items_takePart_33, x_Items_takePart_36, x_Items_takePart_37, x_Items_takePart_38, x_Items_takePart_40, x_Items_takePart_41, x_Items_takePart_43, x_Items_takePart_44, x_Items_takePart_45, x_Items_takePart_48, x_Items_takePart_49, x_Items_takePart_51, x_Items_takePart_52, x_Items_takePart_54, x_Items_takePart_57, x_Items_takePart_59, x_Items_takePart_80, x_Items_takePart_82, x_Items_takePart_83, x_Items_takePart_86, x_Items_takePart_87, x_Items_takePart_88, x_Items_takePart_90, x_Items_takePart_92, x_Items_takePart_94, x_Items_takePart_95, x_Items_takePart_96, x_Items_takePart_99, x_Items_takePart_102, x_Items_takePart_103, k0, k1, k2, k3, k4, if_true, if_false, n1, n2, n3, n6, i_91, i_72, r1 Hx, r0 Hx, e1', show b2i false = 0 from rfl, nbz, ac_0, ac_i, ac_r, ac_ii, ac_ir, ac_ri, ac_rr, ac_iii, ac_iir, ac_iri, ac_irr, ac_rii, ac_rir, ac_rri, ac_rrr, Option.bind_some, Option.toList_some, Option.toList_none, List.nil_append, List.cons_append, not_false_eq_true]
            | true =>
              rw [if_pos rfl]
              obtain ⟨S2, V2, e2, I2, F2⟩ := ih (i + 2 + og xs (i + 1)) to lv (e' + 1) it1 S1 V1 l2 (some (.int (nI (i + 2)))) (some (.int (nI (i + 2 + og xs (i + 1))))) hlv hto c1 (by omega) I1 H1
              refine ⟨S2, V2, ?_, I2, F1.trans F2⟩
              rw [← e2]
              simp only [x_Items_takePart_5, x_Items_takePart_6, x_Items_takePart_9, x_Items_takePart_11, x_Items_takePart_12, x_Items_takePart_13, x_Items_takePart_15, x_Items_takePart_17, x_Items_takePart_18, x_Items_takePart_21, x_Items_takePart_23, x_Items_takePart_24, x_Items_takePart_26, x_Items_takePart_27, x_Items_takePart_28, x_Items_takePart_31, x_Items_takePart_32, x_Items_takePart_33, x_Items_takePart_36, x_Items_takePart_37, x_Items_takePart_38, x_Items_takePart_40, x_Items_takePart_41, x_Items_takePart_43, x_Items_takePart_44, x_Items_takePart_45, x_Items_takePart_48, x_Items_takePart_49, x_Items_takePart_51, x_Items_takePart_52, x_Items_takePart_54, x_Items_takePart_57, x_Items_takePart_59, x_Items_takePart_80, x_Items_takePart_82, x_Items_takePart_83, x_Items_takePart_86, x_Items_takePart_87, x_Items_takePart_88, x_Items_takePart_90, x_Items_takePart_92, x_Items_takePart_94, x_Items_takePart_95, x_Items_takePart_96, x_Items_takePart_99, x_Items_takePart_104, x_Items_takePart_106, x_Items_takePart_107, x_Items_takePart_108, x_Items_takePart_110, x_Items_takePart_111, x_Items_takePart_112, x_Items_takePart_115, x_Items_takePart_116, x_Items_takePart_117, x_Items_takePart_119, k0, k1, k2, k3, k4, if_true, if_false, n1, n2, n3, n4, n5, n6, i_91, i_72, r1 Hx, r0 Hx, e1', r1 H1, show b2i true = 1 from rfl, (by decide : ¬ (1 : Int32) = 0), ac_0, ac_i, ac_r, ac_ii, ac_ir, ac_ri, ac_rr, ac_iii, ac_iir, ac_iri, ac_irr, ac_rii, ac_rir, ac_rri, ac_rrr, Option.bind_some, Option.toList_some, Option.toList_none, List.nil_append, List.cons_append, not_false_eq_true]
      · rw [if_neg c1]
        refine ⟨S, V, ?_, I, Fm.refl _ _⟩
        by_cases c2 : to < i + 2
        · have k1 : nI to < nI (i + 2) := nI_lt c2 (by omega)
          simp only [x_Items_takePart_5, x_Items_takePart_6, x_Items_takePart_9, x_Items_takePart_11, x_Items_takePart_12, x_Items_takePart_13, x_Items_takePart_15, x_Items_takePart_17, x_Items_takePart_18, x_Items_takePart_36, x_Items_takePart_37, k0, k1, if_true, n2, nbz, ac_0, ac_i, ac_r, ac_ii, ac_ir, ac_ri, ac_rr, ac_iii, ac_iir, ac_iri, ac_irr, ac_rii, ac_rir, ac_rri, ac_rrr, Option.bind_some, Option.toList_some, Option.toList_none, List.nil_append, List.cons_append, not_false_eq_true]
          rfl
        · have k1 : ¬ nI to < nI (i + 2) := nI_nlt (by omega) (by omega)
          have n3 : nI (i + 2) + nI (og xs (i + 1)) = nI (i + 2 + og xs (i + 1)) := nI_add _ _
          have k2 : nI to < nI (i + 2 + og xs (i + 1)) := nI_lt (by omega) (by omega)
          simp only [x_Items_takePart_5, x_Items_takePart_6, x_Items_takePart_9, x_Items_takePart_11, x_Items_takePart_12, x_Items_takePart_13, x_Items_takePart_15, x_Items_takePart_17, x_Items_takePart_18, x_Items_takePart_21, x_Items_takePart_23, x_Items_takePart_24, x_Items_takePart_26, x_Items_takePart_27, x_Items_takePart_28, x_Items_takePart_31, x_Items_takePart_32, x_Items_takePart_33, x_Items_takePart_36, x_Items_takePart_37, k0, k1, k2, if_true, if_false, n1, n2, n3, i_91, r1 Hx, nbz, ac_0, ac_i, ac_r, ac_ii, ac_ir, ac_ri, ac_rr, ac_iii, ac_iir, ac_iri, ac_irr, ac_rii, ac_rir, ac_rri, ac_rrr, Option.bind_some, Option.toList_some, Option.toList_none, List.nil_append, List.cons_append, not_false_eq_true]
          rfl
    · rw [if_neg c0]
      have k0 : ¬ nI i < nI to := nI_nlt (by omega) (by omega)
      refine ⟨S, V, ?_, I, Fm.refl _ _⟩
      simp only [x_Items_takePart_5, x_Items_takePart_6, x_Items_takePart_122, x_Items_takePart_123, k0, if_false, nbo]
      rfl
def tiS (a k : Nat) : Prop := (a = 72 ∧ k = 2) ∨ (74 ≤ a ∧ a ≤ 84)
/-- a record is taken -/
theorem ev_take {g : Bool} (O : Oc xs) (I : IC S V it) (Hx : Rw S V 91 xs jx) (h2 : S 72 2 = b2i g) : ∃ S' V', ev (d + 7) 40 [.ref 72, .ref 91] (hs S V) = some (none, hs S' V') ∧ IC S' V' (tp xs 25 0 xs.length 1 it).2 ∧ S' 72 2 = b2i (g && (tp xs 25 0 xs.length 1 it).1) ∧ Fm tiS itV S V S' V' := by
  have h24 := O.1
  obtain ⟨S1, V1, e1, I1, F1⟩ := take_loop (d := d) O 25 0 xs.length 1 3 it S V (some (.int 0)) none none (by decide) (Nat.le_refl _) (by omega) (by omega) I Hx
  rw [nI_0] at e1
  have e1' : ev (d + 6) 41 [.ref 72, .ref 91, .int 0, .int (nI xs.length), .int 1] (hs S V) = some (some (.int (b2i (tp xs 25 0 xs.length 1 it).1)), hs S1 V1) := by
    have e1'' : rn (d + 6) 41 3 [some (.ref 72), some (.ref 91), some (.int 0), some (.int (nI xs.length)), some (.int 1), some (.int 0), none, none] [] (hs S V) = _ := e1
    rw [← e1'']
    simp only [e_Items_takePart, x_Items_takePart_0, x_Items_takePart_1]
  have s2 : S1 72 2 = b2i g := (F1.1 _ _ (by unfold itS; omega)).trans h2
  have F1' : Fm tiS itV S V S1 V1 := F1.mono (fun a k z => Or.inr z) (fun a z => z)
  generalize tp xs 25 0 xs.length 1 it = q at e1' I1
  obtain ⟨ok, it1⟩ := q
  dsimp only at e1' I1 ⊢
  cases ok with
  | true =>
    refine ⟨S1, V1, ?_, I1, by rw [Bool.and_true]; exact s2, F1'⟩
    simp only [e_Items_take, x_Items_take_0, x_Items_take_1, x_Items_take_2, x_Items_take_3, x_Items_take_4, x_Items_take_7, x_Items_take_8, x_Items_take_11, x_Items_take_14, x_Items_take_15, x_Items_take_16, x_Items_take_19, g_91_1, Hx.2.1, i_72, e1', show b2i true = 1 from rfl, (by decide : ¬ (1 : Int32) = 0), if_false, ac_0, ac_i, ac_r, ac_ii, ac_ir, ac_ri, ac_rr, ac_iii, ac_iir, ac_iri, ac_irr, ac_rii, ac_rir, ac_rri, ac_rrr, Option.bind_some, Option.toList_some, Option.toList_none, List.nil_append, List.cons_append, not_false_eq_true]
  | false =>
    refine ⟨uS S1 72 2 0, V1, ?_, I1.cong (fun a k h1 h2 => uS_ne (by omega)) (fun a _ _ => rfl), by rw [Bool.and_false, uS_self]; rfl, F1'.us (Or.inl ⟨rfl, rfl⟩)⟩
    simp only [e_Items_take, x_Items_take_0, x_Items_take_1, x_Items_take_2, x_Items_take_3, x_Items_take_4, x_Items_take_7, x_Items_take_8, x_Items_take_11, x_Items_take_14, x_Items_take_15, x_Items_take_16, x_Items_take_19, g_91_1, Hx.2.1, i_72, e1', show b2i false = 0 from rfl, if_true, p_72_2, ob_0, bn_0, nbz, ac_0, ac_i, ac_r, ac_ii, ac_ir, ac_ri, ac_rr, ac_iii, ac_iir, ac_iri, ac_irr, ac_rii, ac_rir, ac_rri, ac_rrr, Option.bind_some, Option.toList_some, Option.toList_none, List.nil_append, List.cons_append, not_false_eq_true]
def it0 : it_T := fun _ => none
/-- nothing is kept -/
theorem ev_iclear (l : ∀ t, t ≤ 5 → (V (75 + 2 * t)).length = 24) (l86 : (V 86).length = 6) (l87 : (V 87).length = 6) : ∃ S' V', ev (d + 1) 39 [.ref 72] (hs S V) = some (none, hs S' V') ∧ IC S' V' it0 ∧ S' 72 2 = 1 ∧ Fm tiS itV S V S' V' := by
  have lp : ∀ (m k : Nat) (S1 : st_S) (V1 : st_V), k + m = 6 → Fm tiS itV S V S1 V1 → S1 72 2 = 1 → (∀ t, t < k → (V1 87)[t]? = some 0 ∧ (V1 86)[t]? = some 0 ∧ S1 (74 + 2 * t) 1 = 0) → ∃ S' V', rn (d + 1) 39 7 [some (.ref 72), some (.int (nI k))] [] (hs S1 V1) = some (none, hs S' V') ∧ IC S' V' it0 ∧ S' 72 2 = 1 ∧ Fm tiS itV S V S' V' := by
    intro m
    induction m with
    | zero =>
      intro k S1 V1 hk F1 h2 hh
      have hk : k = 6 := by omega
      subst hk
      refine ⟨S1, V1, ?_, fun t ht => ?_, h2, F1⟩
      · rw [x_Items_clear_7]
        simp only [x_Items_clear_8, x_Items_clear_9, x_Items_clear_41, (by decide : (5 : Int32) < nI 6), if_true]
      · obtain ⟨a, b, c⟩ := hh t (by omega)
        refine ⟨a, b, V1 (74 + 2 * t + 1), ⟨it_row ht, c, rfl, ?_⟩, ?_⟩
        · have : (V1 (74 + 2 * t + 1)).length = 24 := (F1.2.2 _).trans ((by congr 2; omega : (V (74 + 2 * t + 1)).length = (V (75 + 2 * t)).length).trans (l t ht))
          show 0 + _ ≤ 1000; omega
        · have : (V1 (74 + 2 * t + 1)).length = 24 := (F1.2.2 _).trans ((by congr 2; omega : (V (74 + 2 * t + 1)).length = (V (75 + 2 * t)).length).trans (l t ht))
          show 0 + _ = 24; omega
    | succ m ih =>
      intro k S1 V1 hk F1 h2 hh
      have c : ¬ (5 : Int32) < nI k := nI_nlt (a := 5) (by omega) (by decide)
      have L86 : (V1 86).length = 6 := (F1.2.2 _).trans l86
      have L87 : (V1 87).length = 6 := (F1.2.2 _).trans l87
      have s1 : ∀ S : st_S, am_sv (hs S V1) 86 1 (nI k) 0 = some (hs S (sV V1 86 k 0)) := fun S => svN rfl (by omega) (by omega)
      have s2 : ∀ S : st_S, am_sv (hs S (sV V1 86 k 0)) 87 1 (nI k) 0 = some (hs S (sV (sV V1 86 k 0) 87 k 0)) := fun S => svN rfl (by rw [sV_len]; omega) (by omega)
      obtain ⟨S', V', e, r1, r2, r3⟩ := ih (k + 1) (uS S1 (74 + 2 * k) 1 0) (sV (sV V1 86 k 0) 87 k 0) (by omega) (((F1.us (by unfold tiS; omega)).sv (by unfold itV; omega)).sv (by unfold itV; omega)) ((uS_ne (by omega)).trans h2) (fun t ht => by
        rw [sV_self, sV_ne (by decide), sV_ne (by decide), sV_self]
        by_cases e : t = k
        · subst e
          exact ⟨List.getElem?_set_self (by omega), List.getElem?_set_self (by omega), uS_self _ _ _ _⟩
        · obtain ⟨a, b, c⟩ := hh t (by omega)
          rw [List.getElem?_set_ne (Ne.symm e), List.getElem?_set_ne (Ne.symm e), uS_ne (by omega)]
          exact ⟨a, b, c⟩)
      refine ⟨S', V', ?_, r1, r2, r3⟩
      rw [← e, x_Items_clear_7]
      simp only [x_Items_clear_8, x_Items_clear_9, x_Items_clear_12, x_Items_clear_13, x_Items_clear_16, x_Items_clear_17, x_Items_clear_18, x_Items_clear_21, x_Items_clear_22, x_Items_clear_25, x_Items_clear_26, x_Items_clear_27, x_Items_clear_28, x_Items_clear_29, x_Items_clear_32, x_Items_clear_33, x_Items_clear_34, x_Items_clear_35, x_Items_clear_38, c, if_false, g_72_0, ld_items (show k ≤ 5 by omega), row_is (it_row (show k ≤ 5 by omega)), ev_clr (it_row (show k ≤ 5 by omega)), g_72_1, g_72_3, bn_0, s1, s2, nI_1, ac_0, ac_i, ac_r, ac_ii, ac_ir, ac_ri, ac_rr, ac_iii, ac_iir, ac_iri, ac_irr, ac_rii, ac_rir, ac_rri, ac_rrr, Option.bind_some, Option.toList_some, Option.toList_none, List.nil_append, List.cons_append, not_false_eq_true]
  obtain ⟨S', V', e, r⟩ := lp 6 0 (uS S 72 2 1) V (by decide) ((Fm.refl _ _).us (Or.inl ⟨rfl, rfl⟩)) (uS_self _ _ _ _) (fun t ht => by omega)
  refine ⟨S', V', ?_, r⟩
  rw [nI_0] at e
  rw [← e]
  simp only [e_Items_clear, x_Items_clear_0, x_Items_clear_1, x_Items_clear_2, x_Items_clear_5, x_Items_clear_6, p_72_2, ob_1, bn_1, nbo, ac_0, ac_i, ac_r, ac_ii, ac_ir, ac_ri, ac_rr, ac_iii, ac_iir, ac_iri, ac_irr, ac_rii, ac_rir, ac_rri, ac_rrr, Option.bind_some, Option.toList_some, Option.toList_none, List.nil_append, List.cons_append, not_false_eq_true]
end CTAKE
