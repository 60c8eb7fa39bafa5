/-! records are taken apart: the reference -/
def IM (V : st_V) (it : it_T) : Prop := ∀ t, 1 ≤ t → t ≤ 5 → (it t = none → (V 120)[t]? = some (-2)) ∧ ∀ ys, it t = some ys → (V 120)[t]? = some (nI ys.length) ∧ ys.length ≤ 24 ∧ ∃ p, (V 119)[t]? = some (nI p) ∧ p + ys.length ≤ 72 ∧ ∀ k, k < ys.length → (V 116)[p + k]? = ys[k]?
def miS (_a _k : Nat) : Prop := False
def miV (a : Nat) : Prop := a = 118 ∨ a = 119 ∨ a = 120
def enV (a : Nat) : Prop := a = 118
section MITEMS
variable {d : Nat} {S : st_S} {V V' : st_V} {xs : List Int32} {it : it_T} {r : Nat}
theorem IM.cong (I : IM V it) (h0 : V' 116 = V 116) (h1 : V' 119 = V 119) (h2 : V' 120 = V 120) : IM V' it := by
  intro t t1 t5
  obtain ⟨a, b⟩ := I t t1 t5
  rw [h0, h1, h2]
  exact ⟨a, b⟩
theorem mitems_loop (O : Oc xs) (hr : r < 3) : ∀ (f i to lv : Nat) (it : it_T) (V : st_V) (l4 l5 : Option Value), 1 ≤ lv → lv ≤ 4 → to ≤ xs.length → i ≤ to → to - i < f → IM V it → (V 118)[lv]? = some (nI to) → (V 118).length = 5 → (V 119).length = 6 → (V 120).length = 6 → (∀ k, k < xs.length → (V 116)[24 * r + k]? = xs[k]?) →
    ∃ V' l4' l5', rn (d + 1) 103 16 [some (.ref 93), some (.int (nI r)), some (.int (nI i)), some (.int (nI lv)), l4, l5] [] (hs S V) = (if (tp xs f i to lv it).1 = true then rn (d + 1) 103 16 [some (.ref 93), some (.int (nI r)), some (.int (nI to)), some (.int (nI lv)), l4', l5'] [] (hs S V') else some (some (.int 0), hs S V')) ∧ IM V' (tp xs f i to lv it).2 ∧ (∀ l, l ≤ lv → (V' 118)[l]? = (V 118)[l]?) ∧ Fm miS miV S V S V' := by
  have h24 := O.1
  intro f
  induction f with
  | zero => intro i to lv it V l4 l5 _ _ _ _ h; omega
  | succ f ih =>
    intro i to lv it V l4 l5 lv1 lv4 hto hi hf I he l118 l119 l120 hrd
    rw [tp_s]
    by_cases c0 : i < to
    · rw [if_pos c0]
      obtain ⟨o1, b1⟩ := O.at (i + 1)
      obtain ⟨o0, b0⟩ := O.at i
      have k0 : ¬ nI i = nI to := by rw [nI_eq (by omega) (by omega)]; omega
      have lvp : ¬ ¬ (0 : Int32) < nI lv := by intro z; exact z (nI_lt (a := 0) (by omega) (by omega))
      have lvp' : (0 : Int32) < nI lv := nI_lt (a := 0) (by omega) (by omega)
      have le : am_ld (hs S V) 118 0 (nI lv) = some (nI to) := (ldN rfl (by omega)).trans he
      have n2 : nI i + 2 = nI (i + 2) := nI_add i 2
      have x0 : (24 : Int32) * nI r + nI i = nI (24 * r + i) := by rw [show (24 : Int32) = nI 24 from rfl, pk_mul, nI_add]
      have x1 : nI (24 * r + i) + 1 = nI (24 * r + (i + 1)) := by rw [nI_1, Nat.add_assoc]
      have g0 : am_ld (hs S V) 116 0 (nI (24 * r + i)) = some (nI (og xs i)) := by
        rw [ldN rfl (by omega), hrd i (by omega), List.getElem?_eq_getElem (by omega), ← o0]
        simp [List.getD, show i < xs.length by omega]
      rw [x_Mod_items_16]
      by_cases c2 : to < i + 2
      · have nc : ¬ i + 2 + og xs (i + 1) ≤ to := by omega
        rw [if_neg nc]
        refine ⟨V, none, none, ?_, I, fun _ _ => rfl, Fm.refl _ _⟩
        simp only [Bool.false_eq_true, if_false]
        have k1 : nI to < nI (i + 2) := nI_lt c2 (by omega)
        simp only [x_Mod_items_17, x_Mod_items_20, x_Mod_items_21, x_Mod_items_22, x_Mod_items_25, x_Mod_items_26, x_Mod_items_27, x_Mod_items_30, x_Mod_items_33, x_Mod_items_36, x_Mod_items_37, x_Mod_items_38, x_Mod_items_39, x_Mod_items_40, x_Mod_items_43, x_Mod_items_44, x_Mod_items_45, x_Mod_items_48, x_Mod_items_49, lvp', if_true, g_93_47, g_93_48, g_93_49, g_93_50, g_93_51, g_93_52, g_93_53, le, k0, if_false, n2, k1, nbz, ac_0, ac_i, ac_r, ac_ii, ac_ir, ac_ri, ac_rr, ac_iii, ac_iir, ac_iri, ac_irr, ac_rii, ac_rir, ac_rri, ac_rrr, Option.bind_some, Option.toList_some, Option.toList_none, List.nil_append, List.cons_append, not_false_eq_true]
      · have k1 : ¬ nI to < nI (i + 2) := nI_nlt (by omega) (by omega)
        have g1 : am_ld (hs S V) 116 0 (nI (24 * r + (i + 1))) = some (nI (og xs (i + 1))) := by
          rw [ldN rfl (by omega), hrd (i + 1) (by omega), List.getElem?_eq_getElem (by omega), ← o1]
          simp [List.getD, show i + 1 < xs.length by omega]
        have n3 : nI (i + 2) + nI (og xs (i + 1)) = nI (i + 2 + og xs (i + 1)) := nI_add _ _
        have pre : ∀ {t' : Option (Option Value × am_H)}, rn (d + 1) 103 90 [some (.ref 93), some (.int (nI r)), some (.int (nI i)), some (.int (nI lv)), some (.int (nI (og xs i))), some (.int (nI (og xs (i + 1))))] [.int (nI to), .int (nI (i + 2 + og xs (i + 1)))] (hs S V) = t' → rn (d + 1) 103 17 [some (.ref 93), some (.int (nI r)), some (.int (nI i)), some (.int (nI lv)), l4, l5] [.int (nI lv)] (hs S V) = t' := by
          intro t' ht'
          rw [← ht']
          simp only [x_Mod_items_17, x_Mod_items_20, x_Mod_items_21, x_Mod_items_22, x_Mod_items_25, x_Mod_items_26, x_Mod_items_27, x_Mod_items_36, x_Mod_items_37, x_Mod_items_38, x_Mod_items_39, x_Mod_items_40, x_Mod_items_43, x_Mod_items_44, x_Mod_items_45, x_Mod_items_50, x_Mod_items_51, x_Mod_items_54, x_Mod_items_56, x_Mod_items_57, x_Mod_items_58, x_Mod_items_59, x_Mod_items_60, x_Mod_items_61, x_Mod_items_63, x_Mod_items_64, x_Mod_items_67, x_Mod_items_69, x_Mod_items_70, x_Mod_items_71, x_Mod_items_72, x_Mod_items_73, x_Mod_items_74, x_Mod_items_75, x_Mod_items_76, x_Mod_items_78, x_Mod_items_79, x_Mod_items_80, x_Mod_items_81, x_Mod_items_83, x_Mod_items_84, x_Mod_items_85, x_Mod_items_88, x_Mod_items_89, lvp', if_true, g_93_51, le, k0, if_false, n2, k1, g_93_49, x0, x1, g0, g1, n3, ac_0, ac_i, ac_r, ac_ii, ac_ir, ac_ri, ac_rr, ac_iii, ac_iir, ac_iri, ac_irr, ac_rii, ac_rir, ac_rri, ac_rrr, Option.bind_some, Option.toList_some, Option.toList_none, List.nil_append, List.cons_append, not_false_eq_true]
        by_cases c1 : i + 2 + og xs (i + 1) ≤ to
        · rw [if_pos c1]
          have k2 : ¬ nI to < nI (i + 2 + og xs (i + 1)) := nI_nlt (by omega) (by omega)
          by_cases c3 : og xs i ≤ 127
          · rw [if_pos c3]
            have k3 : ¬ (127 : Int32) < nI (og xs i) := nI_nlt (a := 127) c3 (by decide)
            have cl : ((xs.drop (i + 2)).take (og xs (i + 1))).length = og xs (i + 1) := by rw [List.length_take, List.length_drop]; omega
            have hk : ∃ V1, rn (d + 1) 103 90 [some (.ref 93), some (.int (nI r)), some (.int (nI i)), some (.int (nI lv)), some (.int (nI (og xs i))), some (.int (nI (og xs (i + 1))))] [.int (nI to), .int (nI (i + 2 + og xs (i + 1)))] (hs S V) = rn (d + 1) 103 16 [some (.ref 93), some (.int (nI r)), some (.int (nI (i + 2 + og xs (i + 1)))), some (.int (nI lv)), some (.int (nI (og xs i))), some (.int (nI (og xs (i + 1))))] [] (hs S V1) ∧ IM V1 (kp it (og xs i) ((xs.drop (i + 2)).take (og xs (i + 1)))) ∧ Fm miS (fun a => a = 119 ∨ a = 120) S V S V1 := by
              by_cases hin : 1 ≤ og xs i ∧ og xs i ≤ 5
              · obtain ⟨t1, t5⟩ := hin
                have i3 : is3 (nI (og xs i)) 1 5 = 1 := is3_in (a := 1) (b := 5) t1 t5 (by decide)
                obtain ⟨in0, in1⟩ := I (og xs i) t1 t5
                cases hit : it (og xs i) with
                | some ys =>
                  obtain ⟨y1, y2, _⟩ := in1 ys hit
                  have ly : am_ld (hs S V) 120 0 (nI (og xs i)) = some (nI ys.length) := (ldN rfl (by omega)).trans y1
                  have ny : ¬ nI ys.length = -2 := by
                    have : ∀ n, n < 25 → ¬ nI n = -2 := by decide
                    exact this _ (by omega)
                  refine ⟨V, ?_, ?_, Fm.refl _ _⟩
                  · simp only [x_Mod_items_90, x_Mod_items_93, x_Mod_items_95, x_Mod_items_97, x_Mod_items_100, x_Mod_items_101, x_Mod_items_102, x_Mod_items_105, x_Mod_items_106, x_Mod_items_107, x_Mod_items_110, x_Mod_items_112, x_Mod_items_114, x_Mod_items_117, x_Mod_items_118, x_Mod_items_121, x_Mod_items_124, x_Mod_items_125, x_Mod_items_126, x_Mod_items_128, x_Mod_items_129, x_Mod_items_130, x_Mod_items_133, x_Mod_items_135, x_Mod_items_136, x_Mod_items_137, x_Mod_items_140, x_Mod_items_143, x_Mod_items_144, x_Mod_items_147, x_Mod_items_149, x_Mod_items_150, x_Mod_items_152, x_Mod_items_177, x_Mod_items_178, x_Mod_items_180, x_Mod_items_181, x_Mod_items_182, k2, k3, if_false, n2, n3, ev_is, i3, (by decide : ¬ (1 : Int32) = 0), g_93_53, ly, ny, ac_0, ac_i, ac_r, ac_ii, ac_ir, ac_ri, ac_rr, ac_iii, ac_iir, ac_iri, ac_irr, ac_rii, ac_rir, ac_rri, ac_rrr, Option.bind_some, Option.toList_some, Option.toList_none, List.nil_append, List.cons_append, not_false_eq_true]
                  · unfold kp; rw [if_neg (fun z => by rw [hit] at z; cases z.2.2)]; exact I
                | none =>
                  have ly : am_ld (hs S V) 120 0 (nI (og xs i)) = some (-2) := (ldN rfl (by omega)).trans (in0 hit)
                  have s1 : am_sv (hs S V) 120 0 (nI (og xs i)) (nI (og xs (i + 1))) = some (hs S (sV V 120 (og xs i) (nI (og xs (i + 1))))) := svN rfl (by omega) (by omega)
                  have s2 : am_sv (hs S (sV V 120 (og xs i) (nI (og xs (i + 1))))) 119 0 (nI (og xs i)) (nI (24 * r + (i + 2))) = some (hs S (sV (sV V 120 (og xs i) (nI (og xs (i + 1)))) 119 (og xs i) (nI (24 * r + (i + 2))))) := svN rfl (by rw [sV_len]; omega) (by omega)
                  have x2 : (24 : Int32) * nI r + nI (i + 2) = nI (24 * r + (i + 2)) := by rw [show (24 : Int32) = nI 24 from rfl, pk_mul, nI_add]
                  refine ⟨sV (sV V 120 (og xs i) (nI (og xs (i + 1)))) 119 (og xs i) (nI (24 * r + (i + 2))), ?_, ?_, ((Fm.refl _ _).sv (Or.inr rfl)).sv (Or.inl rfl)⟩
                  · simp only [x_Mod_items_90, x_Mod_items_93, x_Mod_items_95, x_Mod_items_97, x_Mod_items_100, x_Mod_items_101, x_Mod_items_102, x_Mod_items_105, x_Mod_items_106, x_Mod_items_107, x_Mod_items_110, x_Mod_items_112, x_Mod_items_114, x_Mod_items_117, x_Mod_items_118, x_Mod_items_121, x_Mod_items_124, x_Mod_items_125, x_Mod_items_126, x_Mod_items_128, x_Mod_items_129, x_Mod_items_130, x_Mod_items_133, x_Mod_items_135, x_Mod_items_136, x_Mod_items_137, x_Mod_items_140, x_Mod_items_143, x_Mod_items_144, x_Mod_items_147, x_Mod_items_149, x_Mod_items_150, x_Mod_items_152, x_Mod_items_155, x_Mod_items_156, x_Mod_items_159, x_Mod_items_161, x_Mod_items_163, x_Mod_items_164, x_Mod_items_165, x_Mod_items_168, x_Mod_items_170, x_Mod_items_172, x_Mod_items_173, x_Mod_items_174, x_Mod_items_175, x_Mod_items_176, x_Mod_items_177, x_Mod_items_178, x_Mod_items_180, x_Mod_items_181, x_Mod_items_182, k2, k3, if_false, if_true, n2, n3, ev_is, i3, (by decide : ¬ (1 : Int32) = 0), g_93_53, g_93_52, ly, s1, x2, s2, ac_0, ac_i, ac_r, ac_ii, ac_ir, ac_ri, ac_rr, ac_iii, ac_iir, ac_iri, ac_irr, ac_rii, ac_rir, ac_rri, ac_rrr, Option.bind_some, Option.toList_some, Option.toList_none, List.nil_append, List.cons_append, not_false_eq_true]
                  · unfold kp
                    rw [if_pos ⟨t1, t5, by rw [hit]; rfl⟩]
                    intro t ta tb
                    have w120 : (sV (sV V 120 (og xs i) (nI (og xs (i + 1)))) 119 (og xs i) (nI (24 * r + (i + 2)))) 120 = (V 120).set (og xs i) (nI (og xs (i + 1))) := by rw [sV_ne (by decide), sV_self]
                    have w119 : (sV (sV V 120 (og xs i) (nI (og xs (i + 1)))) 119 (og xs i) (nI (24 * r + (i + 2)))) 119 = (V 119).set (og xs i) (nI (24 * r + (i + 2))) := by rw [sV_self, sV_ne (by decide)]
                    have w116 : (sV (sV V 120 (og xs i) (nI (og xs (i + 1)))) 119 (og xs i) (nI (24 * r + (i + 2)))) 116 = V 116 := by rw [sV_ne (by decide), sV_ne (by decide)]
                    rw [w120, w119, w116]
                    dsimp only
                    by_cases e : t = og xs i
                    · rw [if_pos e]
                      refine ⟨(fun z => by cases z), ?_⟩
                      intro ys hy
                      cases hy
                      rw [e, List.getElem?_set_self (by omega), List.getElem?_set_self (by omega), cl]
                      refine ⟨rfl, by omega, 24 * r + (i + 2), rfl, by omega, fun k hk => ?_⟩
                      rw [Nat.add_assoc, hrd (i + 2 + k) (by omega), List.getElem?_take_of_lt (by omega), List.getElem?_drop]
                    · rw [if_neg e, List.getElem?_set_ne (Ne.symm e), List.getElem?_set_ne (Ne.symm e)]
                      exact I t ta tb
              · have i3 : is3 (nI (og xs i)) 1 5 = 0 := by
                  unfold is3
                  by_cases h1 : og xs i < 1
                  · have q : nI (og xs i) < 1 := nI_lt (b := 1) h1 (by decide)
                    rw [if_pos q]
                  · have q : ¬ nI (og xs i) < 1 := nI_nlt (b := 1) (by omega) (by omega)
                    have q2 : (5 : Int32) < nI (og xs i) := nI_lt (a := 5) (by omega) (by omega)
                    rw [if_neg q, if_pos q2]
                refine ⟨V, ?_, ?_, Fm.refl _ _⟩
                · simp only [x_Mod_items_90, x_Mod_items_93, x_Mod_items_95, x_Mod_items_97, x_Mod_items_100, x_Mod_items_101, x_Mod_items_102, x_Mod_items_105, x_Mod_items_106, x_Mod_items_107, x_Mod_items_110, x_Mod_items_112, x_Mod_items_114, x_Mod_items_117, x_Mod_items_118, x_Mod_items_121, x_Mod_items_124, x_Mod_items_125, x_Mod_items_126, x_Mod_items_128, x_Mod_items_129, x_Mod_items_130, x_Mod_items_133, x_Mod_items_135, x_Mod_items_136, x_Mod_items_137, x_Mod_items_140, x_Mod_items_177, x_Mod_items_178, x_Mod_items_180, x_Mod_items_181, x_Mod_items_182, k2, k3, if_false, if_true, n2, n3, ev_is, i3, ac_0, ac_i, ac_r, ac_ii, ac_ir, ac_ri, ac_rr, ac_iii, ac_iir, ac_iri, ac_irr, ac_rii, ac_rir, ac_rri, ac_rrr, Option.bind_some, Option.toList_some, Option.toList_none, List.nil_append, List.cons_append, not_false_eq_true]
                · unfold kp; rw [if_neg (fun z => hin ⟨z.1, z.2.1⟩)]; exact I
            obtain ⟨V1, e1, I1, F1⟩ := hk
            have v118 : V1 118 = V 118 := F1.2.1 _ (by decide)
            have v116 : V1 116 = V 116 := F1.2.1 _ (by decide)
            obtain ⟨V2, l4', l5', e2, I2, en2, F2⟩ := ih (i + 2 + og xs (i + 1)) to lv (kp it (og xs i) ((xs.drop (i + 2)).take (og xs (i + 1)))) V1 (some (.int (nI (og xs i)))) (some (.int (nI (og xs (i + 1))))) lv1 lv4 hto c1 (by omega) I1 (by rw [v118]; exact he) ((F1.2.2 _).trans l118) ((F1.2.2 _).trans l119) ((F1.2.2 _).trans l120) (fun k hk => by rw [v116]; exact hrd k hk)
            refine ⟨V2, l4', l5', ?_, I2, fun l hl => by rw [en2 l hl, v118], (F1.mono (fun a k z => z) (fun a z => Or.inr z)).trans F2⟩
            rw [← e2]
            exact pre e1
          · rw [if_neg c3]
            have k3 : (127 : Int32) < nI (og xs i) := nI_lt (a := 127) (by omega) (by omega)
            by_cases c4 : lv = 4
            · rw [if_pos c4]
              refine ⟨V, none, none, ?_, I, fun _ _ => rfl, Fm.refl _ _⟩
              simp only [Bool.false_eq_true, if_false]
              apply pre
              have k4 : nI lv = 4 := by rw [c4]; rfl
              simp only [x_Mod_items_90, x_Mod_items_93, x_Mod_items_95, x_Mod_items_97, x_Mod_items_100, x_Mod_items_101, x_Mod_items_102, x_Mod_items_105, x_Mod_items_106, k2, k3, k4, if_false, if_true, nbz]
            · rw [if_neg c4]
              have k4 : ¬ nI lv = 4 := by
                intro z
                have := (nI_eq (a := lv) (b := 4) (by omega) (by decide)).mp z
                omega
              have s1 : am_sv (hs S V) 118 0 (nI (lv + 1)) (nI (i + 2 + og xs (i + 1))) = some (hs S (sV V 118 (lv + 1) (nI (i + 2 + og xs (i + 1))))) := svN rfl (by omega) (by omega)
              have e1 : rn (d + 1) 103 90 [some (.ref 93), some (.int (nI r)), some (.int (nI i)), some (.int (nI lv)), some (.int (nI (og xs i))), some (.int (nI (og xs (i + 1))))] [.int (nI to), .int (nI (i + 2 + og xs (i + 1)))] (hs S V) = rn (d + 1) 103 16 [some (.ref 93), some (.int (nI r)), some (.int (nI (i + 2))), some (.int (nI (lv + 1))), some (.int (nI (og xs i))), some (.int (nI (og xs (i + 1))))] [] (hs S (sV V 118 (lv + 1) (nI (i + 2 + og xs (i + 1))))) := by
                simp only [x_Mod_items_90, x_Mod_items_93, x_Mod_items_95, x_Mod_items_97, x_Mod_items_100, x_Mod_items_101, x_Mod_items_102, x_Mod_items_105, x_Mod_items_106, x_Mod_items_107, x_Mod_items_110, x_Mod_items_112, x_Mod_items_114, x_Mod_items_117, x_Mod_items_118, x_Mod_items_121, x_Mod_items_124, x_Mod_items_125, x_Mod_items_126, x_Mod_items_128, x_Mod_items_129, x_Mod_items_130, x_Mod_items_182, k2, k3, k4, if_false, if_true, n2, n3, g_93_51, nI_1, s1, ac_0, ac_i, ac_r, ac_ii, ac_ir, ac_ri, ac_rr, ac_iii, ac_iir, ac_iri, ac_irr, ac_rii, ac_rir, ac_rri, ac_rrr, Option.bind_some, Option.toList_some, Option.toList_none, List.nil_append, List.cons_append, not_false_eq_true]
              have v118 : (sV V 118 (lv + 1) (nI (i + 2 + og xs (i + 1)))) 118 = (V 118).set (lv + 1) (nI (i + 2 + og xs (i + 1))) := sV_self _ _ _ _
              have w : ∀ a, ¬ a = 118 → (sV V 118 (lv + 1) (nI (i + 2 + og xs (i + 1)))) a = V a := fun a h => sV_ne h
              have F1 : Fm miS miV S V S (sV V 118 (lv + 1) (nI (i + 2 + og xs (i + 1)))) := (Fm.refl _ _).sv (Or.inl rfl)
              generalize sV V 118 (lv + 1) (nI (i + 2 + og xs (i + 1))) = V1 at e1 v118 w F1
              obtain ⟨V2, m4, m5, e2, I2, en2, F2⟩ := ih (i + 2) (i + 2 + og xs (i + 1)) (lv + 1) it V1 (some (.int (nI (og xs i)))) (some (.int (nI (og xs (i + 1))))) (by omega) (by omega) (by omega) (by omega) (by omega) (I.cong (w _ (by decide)) (w _ (by decide)) (w _ (by decide))) (by rw [v118, List.getElem?_set_self (by omega)]) ((F1.2.2 _).trans l118) ((F1.2.2 _).trans l119) ((F1.2.2 _).trans l120) (fun k hk => by rw [w _ (by decide)]; exact hrd k hk)
              generalize tp xs f (i + 2) (i + 2 + og xs (i + 1)) (lv + 1) it = q at e2 I2
              obtain ⟨ok, it1⟩ := q
              dsimp only at e2 I2 ⊢
              have G2 := F1.trans F2
              have en' : ∀ l, l ≤ lv → (V2 118)[l]? = (V 118)[l]? := fun l hl => by rw [en2 l (by omega), v118, List.getElem?_set_ne (by omega)]
              cases ok with
              | false =>
                rw [if_neg (by decide)] at e2
                refine ⟨V2, none, none, ?_, by rw [if_neg (by decide)]; exact I2, en', G2⟩
                simp only [Bool.false_eq_true, if_false]
                apply pre
                rw [e1, e2]
              | true =>
                rw [if_pos rfl] at e2 ⊢
                have v116 : V2 116 = V 116 := G2.2.1 _ (by unfold miV; omega)
                obtain ⟨V3, p4, p5, e3, I3, en3, F3⟩ := ih (i + 2 + og xs (i + 1)) to lv it1 V2 m4 m5 lv1 lv4 hto c1 (by omega) I2 (by rw [en' lv (Nat.le_refl _)]; exact he) ((G2.2.2 _).trans l118) ((G2.2.2 _).trans l119) ((G2.2.2 _).trans l120) (fun k hk => by rw [v116]; exact hrd k hk)
                refine ⟨V3, p4, p5, ?_, I3, fun l hl => by rw [en3 l hl, en' l hl], G2.trans F3⟩
                rw [← e3]
                apply pre
                rw [e1, e2, x_Mod_items_16]
                have le2 : am_ld (hs S V2) 118 0 (nI (lv + 1)) = some (nI (i + 2 + og xs (i + 1))) := by
                  rw [ldN rfl (by omega), en2 (lv + 1) (Nat.le_refl _), v118, List.getElem?_set_self (by omega)]
                have lvq : (0 : Int32) < nI (lv + 1) := nI_lt (a := 0) (by omega) (by omega)
                simp only [x_Mod_items_17, x_Mod_items_20, x_Mod_items_21, x_Mod_items_22, x_Mod_items_25, x_Mod_items_26, x_Mod_items_27, x_Mod_items_30, x_Mod_items_33, lvq, if_true, g_93_51, le2, nI_dec (show 0 < lv + 1 by omega), Nat.add_sub_cancel, ac_0, ac_i, ac_r, ac_ii, ac_ir, ac_ri, ac_rr, ac_iii, ac_iir, ac_iri, ac_irr, ac_rii, ac_rir, ac_rri, ac_rrr, Option.bind_some, Option.toList_some, Option.toList_none, List.nil_append, List.cons_append, not_false_eq_true]
        · rw [if_neg c1]
          have k2 : nI to < nI (i + 2 + og xs (i + 1)) := nI_lt (by omega) (by omega)
          refine ⟨V, none, none, ?_, I, fun _ _ => rfl, Fm.refl _ _⟩
          simp only [Bool.false_eq_true, if_false]
          apply pre
          simp only [x_Mod_items_90, x_Mod_items_105, x_Mod_items_106, k2, if_true, nbz]
    · rw [if_neg c0]
      have : i = to := by omega
      subst this
      refine ⟨V, l4, l5, ?_, I, fun _ _ => rfl, Fm.refl _ _⟩
      rw [if_pos rfl]
/-- a record is taken apart -/
theorem ev_items (O : Oc xs) (hr : r < 3) (I : IM V it) (l118 : (V 118).length = 5) (l119 : (V 119).length = 6) (l120 : (V 120).length = 6) (hl : (V 117)[r]? = some (nI xs.length)) (hrd : ∀ k, k < xs.length → (V 116)[24 * r + k]? = xs[k]?) : ∃ V', ev (d + 1) 103 [.ref 93, .int (nI r)] (hs S V) = some (some (.int (b2i (tp xs 25 0 xs.length 1 it).1)), hs S V') ∧ IM V' (tp xs 25 0 xs.length 1 it).2 ∧ Fm miS miV S V S V' := by
  have h24 := O.1
  have ll : am_ld (hs S V) 117 0 (nI r) = some (nI xs.length) := (ldN rfl (by omega)).trans hl
  have s1 : am_sv (hs S V) 118 0 1 (nI xs.length) = some (hs S (sV V 118 1 (nI xs.length))) := svN (j := 1) rfl (by omega) (by decide)
  have v118 : (sV V 118 1 (nI xs.length)) 118 = (V 118).set 1 (nI xs.length) := sV_self _ _ _ _
  have w : ∀ a, ¬ a = 118 → (sV V 118 1 (nI xs.length)) a = V a := fun a h => sV_ne h
  have F1 : Fm miS miV S V S (sV V 118 1 (nI xs.length)) := (Fm.refl _ _).sv (Or.inl rfl)
  have e0 : ev (d + 1) 103 [.ref 93, .int (nI r)] (hs S V) = rn (d + 1) 103 16 [some (.ref 93), some (.int (nI r)), some (.int 0), some (.int 1), none, none] [] (hs S (sV V 118 1 (nI xs.length))) := by
    simp only [e_Mod_items, x_Mod_items_0, x_Mod_items_1, x_Mod_items_2, x_Mod_items_3, x_Mod_items_4, x_Mod_items_5, x_Mod_items_8, x_Mod_items_9, x_Mod_items_10, x_Mod_items_13, x_Mod_items_14, x_Mod_items_15, g_93_51, g_93_50, ll, s1, ac_0, ac_i, ac_r, ac_ii, ac_ir, ac_ri, ac_rr, ac_iii, ac_iir, ac_iri, ac_irr, ac_rii, ac_rir, ac_rri, ac_rrr, Option.bind_some, Option.toList_some, Option.toList_none, List.nil_append, List.cons_append, not_false_eq_true]
  generalize sV V 118 1 (nI xs.length) = V1 at e0 v118 w F1
  obtain ⟨V2, m4, m5, e2, I2, en2, F2⟩ := mitems_loop (d := d) (S := S) O hr 25 0 xs.length 1 it V1 none none (by decide) (by decide) (Nat.le_refl _) (by omega) (by omega) (I.cong (w _ (by decide)) (w _ (by decide)) (w _ (by decide))) (by rw [v118, List.getElem?_set_self (by omega)]) ((F1.2.2 _).trans l118) ((F1.2.2 _).trans l119) ((F1.2.2 _).trans l120) (fun k hk => by rw [w _ (by decide)]; exact hrd k hk)
  have e2' : rn (d + 1) 103 16 [some (.ref 93), some (.int (nI r)), some (.int 0), some (.int 1), none, none] [] (hs S V1) = (if (tp xs 25 0 xs.length 1 it).1 = true then rn (d + 1) 103 16 [some (.ref 93), some (.int (nI r)), some (.int (nI xs.length)), some (.int 1), m4, m5] [] (hs S V2) else some (some (.int 0), hs S V2)) := e2
  refine ⟨V2, ?_, I2, F1.trans F2⟩
  rw [e0, e2']
  cases hq : (tp xs 25 0 xs.length 1 it).1 with
  | false => rw [if_neg (by decide)]; rfl
  | true =>
    rw [if_pos rfl]
    have le2 : am_ld (hs S V2) 118 0 1 = some (nI xs.length) := by
      have : am_ld (hs S V2) 118 0 (nI 1) = some (nI xs.length) := by rw [ldN rfl (by decide), en2 1 (Nat.le_refl _), v118, List.getElem?_set_self (by omega)]
      exact this
    rw [x_Mod_items_16]
    simp only [x_Mod_items_17, x_Mod_items_20, x_Mod_items_21, x_Mod_items_22, x_Mod_items_25, x_Mod_items_26, x_Mod_items_27, x_Mod_items_30, x_Mod_items_33, (by decide : (0 : Int32) < 1), if_true, g_93_51, le2, (by decide : (1 : Int32) + -1 = 0), ac_0, ac_i, ac_r, ac_ii, ac_ir, ac_ri, ac_rr, ac_iii, ac_iir, ac_iri, ac_irr, ac_rii, ac_rir, ac_rri, ac_rrr, Option.bind_some, Option.toList_some, Option.toList_none, List.nil_append, List.cons_append, not_false_eq_true]
    rw [x_Mod_items_16]
    simp only [x_Mod_items_17, x_Mod_items_185, x_Mod_items_186, (by decide : ¬ (0 : Int32) < 0), if_false, nbo]
    rfl
end MITEMS
