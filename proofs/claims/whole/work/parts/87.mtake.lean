/-! records are taken apart: the reference, all records -/
def tka (rs : Nat → List Int32) : Nat → Nat → Bool → it_T → Bool × it_T
  | 0, _, g, it => (g, it)
  | m + 1, r, g, it => tka rs m (r + 1) (g && (tp (rs r) 25 0 (rs r).length 1 it).1) (tp (rs r) 25 0 (rs r).length 1 it).2
theorem tka_s (rs : Nat → List Int32) (m r : Nat) (g : Bool) (it : it_T) : tka rs (m + 1) r g it = tka rs m (r + 1) (g && (tp (rs r) 25 0 (rs r).length 1 it).1) (tp (rs r) 25 0 (rs r).length 1 it).2 := rfl
/-- an item, where its length fits -/
def IE (V : st_V) (t : Nat) (o : Option (List Int32)) : Prop := (fit t o = false → (V 120)[t]? = some (-1)) ∧ (fit t o = true → (V 120)[t]? = some (nI (itv t o).length) ∧ (itv t o).length ≤ 24 ∧ ∃ p, (V 119)[t]? = some (nI p) ∧ p + (itv t o).length ≤ 72 ∧ ∀ k, k < (itv t o).length → (V 116)[p + k]? = (itv t o)[k]?)
theorem b2i_and (a b : Bool) : b2i a &&& b2i b = b2i (a && b) := by cases a <;> cases b <;> decide
section MTAKE
variable {d : Nat} {S : st_S} {V V' : st_V} {rs : Nat → List Int32} {it : it_T}
theorem fit_step {t : Nat} {l1 l2 l4 l5 : Option Value} (t1 : 1 ≤ t) (t5 : t ≤ 5) (l120 : (V 120).length = 6) (I : (it t = none → (V 120)[t]? = some (-2)) ∧ ∀ ys, it t = some ys → (V 120)[t]? = some (nI ys.length) ∧ ys.length ≤ 24 ∧ ∃ p, (V 119)[t]? = some (nI p) ∧ p + ys.length ≤ 72 ∧ ∀ k, k < ys.length → (V 116)[p + k]? = ys[k]?) : ∃ V' l4' l5', rn d 102 47 [some (.ref 93), l1, l2, some (.int (nI t)), l4, l5] [] (hs S V) = rn d 102 47 [some (.ref 93), l1, l2, some (.int (nI (t + 1))), l4', l5'] [] (hs S V') ∧ IE V' t (it t) ∧ (∀ k, ¬ k = t → (V' 120)[k]? = (V 120)[k]?) ∧ Fm miS (fun a => a = 120) S V S V' := by
  have c : nI t < 6 := nI_lt (b := 6) (by omega) (by decide)
  have fin : ∀ x : Int32, (V 120)[t]? = some x → rn d 102 61 [some (.ref 93), l1, l2, some (.int (nI t)), some (.int x), l5] [] (hs S V) = rn d 102 154 [some (.ref 93), l1, l2, some (.int (nI t)), some (.int x), l5] [.int (b2i (fit t (it t)))] (hs S V) → ∃ V' l4' l5', rn d 102 47 [some (.ref 93), l1, l2, some (.int (nI t)), l4, l5] [] (hs S V) = rn d 102 47 [some (.ref 93), l1, l2, some (.int (nI (t + 1))), l4', l5'] [] (hs S V') ∧ IE V' t (it t) ∧ (∀ k, ¬ k = t → (V' 120)[k]? = (V 120)[k]?) ∧ Fm miS (fun a => a = 120) S V S V' := by
    intro x hx e
    have lx : am_ld (hs S V) 120 0 (nI t) = some x := (ldN rfl (by omega)).trans hx
    have pre : rn d 102 47 [some (.ref 93), l1, l2, some (.int (nI t)), l4, l5] [] (hs S V) = rn d 102 61 [some (.ref 93), l1, l2, some (.int (nI t)), some (.int x), l5] [] (hs S V) := by
      rw [x_Mod_takeApart_47]
      simp only [x_Mod_takeApart_48, x_Mod_takeApart_50, x_Mod_takeApart_53, x_Mod_takeApart_54, x_Mod_takeApart_57, x_Mod_takeApart_58, x_Mod_takeApart_59, c, if_true, g_93_53, lx, ac_0, ac_i, ac_r, ac_ii, ac_ir, ac_ri, ac_rr, ac_iii, ac_iir, ac_iri, ac_irr, ac_rii, ac_rir, ac_rri, ac_rrr, Option.bind_some, Option.toList_some, Option.toList_none, List.nil_append, List.cons_append, not_false_eq_true]
    rw [pre, e]
    cases hf : fit t (it t) with
    | true =>
      refine ⟨V, some (.int x), some (.int 1), ?_, ⟨fun z => (by rw [hf] at z; cases z), fun _ => ?_⟩, fun _ _ => rfl, Fm.refl _ _⟩
      · simp only [x_Mod_takeApart_154, x_Mod_takeApart_156, x_Mod_takeApart_158, x_Mod_takeApart_168, x_Mod_takeApart_171, show b2i true = 1 from rfl, (by decide : ¬ (1 : Int32) = 0), if_false, nI_1]
      · cases ho : it t with
        | none => rw [ho] at hf; cases hf
        | some ys =>
          rw [ho] at hf
          have iv : itv t (some ys) = ys := by unfold itv; rw [hf]; rfl
          rw [iv]; exact I.2 ys ho
    | false =>
      have s1 : am_sv (hs S V) 120 0 (nI t) (-1) = some (hs S (sV V 120 t (-1))) := svN rfl (by omega) (by omega)
      refine ⟨sV V 120 t (-1), some (.int x), some (.int 0), ?_, ⟨fun _ => ?_, fun z => (by rw [hf] at z; cases z)⟩, fun k hk => ?_, (Fm.refl _ _).sv rfl⟩
      · simp only [x_Mod_takeApart_154, x_Mod_takeApart_156, x_Mod_takeApart_158, x_Mod_takeApart_161, x_Mod_takeApart_162, x_Mod_takeApart_165, x_Mod_takeApart_166, x_Mod_takeApart_167, x_Mod_takeApart_168, x_Mod_takeApart_171, show b2i false = 0 from rfl, if_true, g_93_53, s1, nI_1, ac_0, ac_i, ac_r, ac_ii, ac_ir, ac_ri, ac_rr, ac_iii, ac_iir, ac_iri, ac_irr, ac_rii, ac_rir, ac_rri, ac_rrr, Option.bind_some, Option.toList_some, Option.toList_none, List.nil_append, List.cons_append, not_false_eq_true]
      · rw [sV_self, List.getElem?_set_self (by omega)]
      · rw [sV_self, List.getElem?_set_ne (Ne.symm hk)]
  cases ho : it t with
  | none =>
    rw [ho] at fin
    refine fin (-2) (I.1 ho) ?_
    have hf : fit t none = false := rfl
    rw [hf]
    rcases t6 t5 with rfl | rfl | rfl | rfl | rfl | rfl
    · omega
    · simp only [x_Mod_takeApart_61, x_Mod_takeApart_62, x_Mod_takeApart_63, x_Mod_takeApart_66, x_Mod_takeApart_68, x_Mod_takeApart_69, x_Mod_takeApart_72, x_Mod_takeApart_73, x_Mod_takeApart_76, x_Mod_takeApart_77, x_Mod_takeApart_80, x_Mod_takeApart_81, x_Mod_takeApart_82, x_Mod_takeApart_85, x_Mod_takeApart_87, x_Mod_takeApart_88, x_Mod_takeApart_91, x_Mod_takeApart_92, x_Mod_takeApart_95, x_Mod_takeApart_96, x_Mod_takeApart_99, x_Mod_takeApart_100, x_Mod_takeApart_101, x_Mod_takeApart_104, x_Mod_takeApart_106, x_Mod_takeApart_109, x_Mod_takeApart_111, x_Mod_takeApart_112, x_Mod_takeApart_113, x_Mod_takeApart_116, x_Mod_takeApart_117, x_Mod_takeApart_120, x_Mod_takeApart_121, x_Mod_takeApart_124, x_Mod_takeApart_125, x_Mod_takeApart_126, x_Mod_takeApart_129, x_Mod_takeApart_131, x_Mod_takeApart_132, x_Mod_takeApart_135, x_Mod_takeApart_136, x_Mod_takeApart_139, x_Mod_takeApart_140, x_Mod_takeApart_143, x_Mod_takeApart_145, x_Mod_takeApart_146, x_Mod_takeApart_149, x_Mod_takeApart_150, x_Mod_takeApart_153, (by decide : nI 1 = 1), if_true, if_false, (by decide : ¬ (-2 : Int32) = 2)]; rfl
    · simp only [x_Mod_takeApart_61, x_Mod_takeApart_62, x_Mod_takeApart_63, x_Mod_takeApart_66, x_Mod_takeApart_68, x_Mod_takeApart_69, x_Mod_takeApart_72, x_Mod_takeApart_73, x_Mod_takeApart_76, x_Mod_takeApart_77, x_Mod_takeApart_80, x_Mod_takeApart_81, x_Mod_takeApart_82, x_Mod_takeApart_85, x_Mod_takeApart_87, x_Mod_takeApart_88, x_Mod_takeApart_91, x_Mod_takeApart_92, x_Mod_takeApart_95, x_Mod_takeApart_96, x_Mod_takeApart_99, x_Mod_takeApart_100, x_Mod_takeApart_101, x_Mod_takeApart_104, x_Mod_takeApart_106, x_Mod_takeApart_109, x_Mod_takeApart_111, x_Mod_takeApart_112, x_Mod_takeApart_113, x_Mod_takeApart_116, x_Mod_takeApart_117, x_Mod_takeApart_120, x_Mod_takeApart_121, x_Mod_takeApart_124, x_Mod_takeApart_125, x_Mod_takeApart_126, x_Mod_takeApart_129, x_Mod_takeApart_131, x_Mod_takeApart_132, x_Mod_takeApart_135, x_Mod_takeApart_136, x_Mod_takeApart_139, x_Mod_takeApart_140, x_Mod_takeApart_143, x_Mod_takeApart_145, x_Mod_takeApart_146, x_Mod_takeApart_149, x_Mod_takeApart_150, x_Mod_takeApart_153, (by decide : nI 2 = 2), if_true, if_false, (by decide : ¬ (2 : Int32) = 1), (by decide : ¬ (-2 : Int32) = 1)]; rfl
    · simp only [x_Mod_takeApart_61, x_Mod_takeApart_62, x_Mod_takeApart_63, x_Mod_takeApart_66, x_Mod_takeApart_68, x_Mod_takeApart_69, x_Mod_takeApart_72, x_Mod_takeApart_73, x_Mod_takeApart_76, x_Mod_takeApart_77, x_Mod_takeApart_80, x_Mod_takeApart_81, x_Mod_takeApart_82, x_Mod_takeApart_85, x_Mod_takeApart_87, x_Mod_takeApart_88, x_Mod_takeApart_91, x_Mod_takeApart_92, x_Mod_takeApart_95, x_Mod_takeApart_96, x_Mod_takeApart_99, x_Mod_takeApart_100, x_Mod_takeApart_101, x_Mod_takeApart_104, x_Mod_takeApart_106, x_Mod_takeApart_109, x_Mod_takeApart_111, x_Mod_takeApart_112, x_Mod_takeApart_113, x_Mod_takeApart_116, x_Mod_takeApart_117, x_Mod_takeApart_120, x_Mod_takeApart_121, x_Mod_takeApart_124, x_Mod_takeApart_125, x_Mod_takeApart_126, x_Mod_takeApart_129, x_Mod_takeApart_131, x_Mod_takeApart_132, x_Mod_takeApart_135, x_Mod_takeApart_136, x_Mod_takeApart_139, x_Mod_takeApart_140, x_Mod_takeApart_143, x_Mod_takeApart_145, x_Mod_takeApart_146, x_Mod_takeApart_149, x_Mod_takeApart_150, x_Mod_takeApart_153, (by decide : nI 3 = 3), if_true, if_false, (by decide : ¬ (3 : Int32) = 1), (by decide : ¬ (3 : Int32) = 2), (by decide : (-2 : Int32) < 0)]; rfl
    · simp only [x_Mod_takeApart_61, x_Mod_takeApart_62, x_Mod_takeApart_63, x_Mod_takeApart_66, x_Mod_takeApart_68, x_Mod_takeApart_69, x_Mod_takeApart_72, x_Mod_takeApart_73, x_Mod_takeApart_76, x_Mod_takeApart_77, x_Mod_takeApart_80, x_Mod_takeApart_81, x_Mod_takeApart_82, x_Mod_takeApart_85, x_Mod_takeApart_87, x_Mod_takeApart_88, x_Mod_takeApart_91, x_Mod_takeApart_92, x_Mod_takeApart_95, x_Mod_takeApart_96, x_Mod_takeApart_99, x_Mod_takeApart_100, x_Mod_takeApart_101, x_Mod_takeApart_104, x_Mod_takeApart_106, x_Mod_takeApart_109, x_Mod_takeApart_111, x_Mod_takeApart_112, x_Mod_takeApart_113, x_Mod_takeApart_116, x_Mod_takeApart_117, x_Mod_takeApart_120, x_Mod_takeApart_121, x_Mod_takeApart_124, x_Mod_takeApart_125, x_Mod_takeApart_126, x_Mod_takeApart_129, x_Mod_takeApart_131, x_Mod_takeApart_132, x_Mod_takeApart_135, x_Mod_takeApart_136, x_Mod_takeApart_139, x_Mod_takeApart_140, x_Mod_takeApart_143, x_Mod_takeApart_145, x_Mod_takeApart_146, x_Mod_takeApart_149, x_Mod_takeApart_150, x_Mod_takeApart_153, (by decide : nI 4 = 4), if_true, if_false, (by decide : ¬ (4 : Int32) = 1), (by decide : ¬ (4 : Int32) = 2), (by decide : ¬ (4 : Int32) = 3), (by decide : ¬ (-2 : Int32) = 3)]; rfl
    · simp only [x_Mod_takeApart_61, x_Mod_takeApart_62, x_Mod_takeApart_63, x_Mod_takeApart_66, x_Mod_takeApart_68, x_Mod_takeApart_69, x_Mod_takeApart_72, x_Mod_takeApart_73, x_Mod_takeApart_76, x_Mod_takeApart_77, x_Mod_takeApart_80, x_Mod_takeApart_81, x_Mod_takeApart_82, x_Mod_takeApart_85, x_Mod_takeApart_87, x_Mod_takeApart_88, x_Mod_takeApart_91, x_Mod_takeApart_92, x_Mod_takeApart_95, x_Mod_takeApart_96, x_Mod_takeApart_99, x_Mod_takeApart_100, x_Mod_takeApart_101, x_Mod_takeApart_104, x_Mod_takeApart_106, x_Mod_takeApart_109, x_Mod_takeApart_111, x_Mod_takeApart_112, x_Mod_takeApart_113, x_Mod_takeApart_116, x_Mod_takeApart_117, x_Mod_takeApart_120, x_Mod_takeApart_121, x_Mod_takeApart_124, x_Mod_takeApart_125, x_Mod_takeApart_126, x_Mod_takeApart_129, x_Mod_takeApart_131, x_Mod_takeApart_132, x_Mod_takeApart_135, x_Mod_takeApart_136, x_Mod_takeApart_139, x_Mod_takeApart_140, x_Mod_takeApart_143, x_Mod_takeApart_145, x_Mod_takeApart_146, x_Mod_takeApart_149, x_Mod_takeApart_150, x_Mod_takeApart_153, (by decide : nI 5 = 5), if_true, if_false, (by decide : ¬ (5 : Int32) = 1), (by decide : ¬ (5 : Int32) = 2), (by decide : ¬ (5 : Int32) = 3), (by decide : ¬ (5 : Int32) = 4), (by decide : ¬ (-2 : Int32) = 4)]; rfl
  | some ys =>
    rw [ho] at fin
    obtain ⟨y1, y2, _⟩ := I.2 ys ho
    refine fin (nI ys.length) y1 ?_
    have hf : fit t (some ys) = fitn t ys.length := rfl
    rw [hf]
    generalize ys.length = n at y2
    have e2 : (nI n = 2) ↔ n = 2 := nI_eq (b := 2) (by omega) (by decide)
    have e1 : (nI n = 1) ↔ n = 1 := nI_eq (b := 1) (by omega) (by decide)
    have e3 : (nI n = 3) ↔ n = 3 := nI_eq (b := 3) (by omega) (by decide)
    have e4 : (nI n = 4) ↔ n = 4 := nI_eq (b := 4) (by omega) (by decide)
    have er := rem2 n (by omega)
    have nn : ¬ nI n < 0 := nI_nn (by omega)
    rcases t6 t5 with rfl | rfl | rfl | rfl | rfl | rfl
    · omega
    · simp only [x_Mod_takeApart_61, x_Mod_takeApart_62, x_Mod_takeApart_63, x_Mod_takeApart_66, x_Mod_takeApart_68, x_Mod_takeApart_69, x_Mod_takeApart_72, x_Mod_takeApart_73, x_Mod_takeApart_76, x_Mod_takeApart_77, x_Mod_takeApart_80, x_Mod_takeApart_81, x_Mod_takeApart_82, x_Mod_takeApart_85, x_Mod_takeApart_87, x_Mod_takeApart_88, x_Mod_takeApart_91, x_Mod_takeApart_92, x_Mod_takeApart_95, x_Mod_takeApart_96, x_Mod_takeApart_99, x_Mod_takeApart_100, x_Mod_takeApart_101, x_Mod_takeApart_104, x_Mod_takeApart_106, x_Mod_takeApart_109, x_Mod_takeApart_111, x_Mod_takeApart_112, x_Mod_takeApart_113, x_Mod_takeApart_116, x_Mod_takeApart_117, x_Mod_takeApart_120, x_Mod_takeApart_121, x_Mod_takeApart_124, x_Mod_takeApart_125, x_Mod_takeApart_126, x_Mod_takeApart_129, x_Mod_takeApart_131, x_Mod_takeApart_132, x_Mod_takeApart_135, x_Mod_takeApart_136, x_Mod_takeApart_139, x_Mod_takeApart_140, x_Mod_takeApart_143, x_Mod_takeApart_145, x_Mod_takeApart_146, x_Mod_takeApart_149, x_Mod_takeApart_150, x_Mod_takeApart_153, (by decide : nI 1 = 1), if_true, if_false]
      by_cases c : n = 2
      · rw [if_pos (e2.mpr c)]; simp [fitn, c, b2i]
      · rw [if_neg (fun z => c (e2.mp z))]; simp [fitn, c, b2i]
    · simp only [x_Mod_takeApart_61, x_Mod_takeApart_62, x_Mod_takeApart_63, x_Mod_takeApart_66, x_Mod_takeApart_68, x_Mod_takeApart_69, x_Mod_takeApart_72, x_Mod_takeApart_73, x_Mod_takeApart_76, x_Mod_takeApart_77, x_Mod_takeApart_80, x_Mod_takeApart_81, x_Mod_takeApart_82, x_Mod_takeApart_85, x_Mod_takeApart_87, x_Mod_takeApart_88, x_Mod_takeApart_91, x_Mod_takeApart_92, x_Mod_takeApart_95, x_Mod_takeApart_96, x_Mod_takeApart_99, x_Mod_takeApart_100, x_Mod_takeApart_101, x_Mod_takeApart_104, x_Mod_takeApart_106, x_Mod_takeApart_109, x_Mod_takeApart_111, x_Mod_takeApart_112, x_Mod_takeApart_113, x_Mod_takeApart_116, x_Mod_takeApart_117, x_Mod_takeApart_120, x_Mod_takeApart_121, x_Mod_takeApart_124, x_Mod_takeApart_125, x_Mod_takeApart_126, x_Mod_takeApart_129, x_Mod_takeApart_131, x_Mod_takeApart_132, x_Mod_takeApart_135, x_Mod_takeApart_136, x_Mod_takeApart_139, x_Mod_takeApart_140, x_Mod_takeApart_143, x_Mod_takeApart_145, x_Mod_takeApart_146, x_Mod_takeApart_149, x_Mod_takeApart_150, x_Mod_takeApart_153, (by decide : nI 2 = 2), if_true, if_false, (by decide : ¬ (2 : Int32) = 1)]
      by_cases c : n = 1
      · rw [if_pos (e1.mpr c)]; simp [fitn, c, b2i]
      · rw [if_neg (fun z => c (e1.mp z))]; simp [fitn, c, b2i]
    · simp only [x_Mod_takeApart_61, x_Mod_takeApart_62, x_Mod_takeApart_63, x_Mod_takeApart_66, x_Mod_takeApart_68, x_Mod_takeApart_69, x_Mod_takeApart_72, x_Mod_takeApart_73, x_Mod_takeApart_76, x_Mod_takeApart_77, x_Mod_takeApart_80, x_Mod_takeApart_81, x_Mod_takeApart_82, x_Mod_takeApart_85, x_Mod_takeApart_87, x_Mod_takeApart_88, x_Mod_takeApart_91, x_Mod_takeApart_92, x_Mod_takeApart_95, x_Mod_takeApart_96, x_Mod_takeApart_99, x_Mod_takeApart_100, x_Mod_takeApart_101, x_Mod_takeApart_104, x_Mod_takeApart_106, x_Mod_takeApart_109, x_Mod_takeApart_111, x_Mod_takeApart_112, x_Mod_takeApart_113, x_Mod_takeApart_116, x_Mod_takeApart_117, x_Mod_takeApart_120, x_Mod_takeApart_121, x_Mod_takeApart_124, x_Mod_takeApart_125, x_Mod_takeApart_126, x_Mod_takeApart_129, x_Mod_takeApart_131, x_Mod_takeApart_132, x_Mod_takeApart_135, x_Mod_takeApart_136, x_Mod_takeApart_139, x_Mod_takeApart_140, x_Mod_takeApart_143, x_Mod_takeApart_145, x_Mod_takeApart_146, x_Mod_takeApart_149, x_Mod_takeApart_150, x_Mod_takeApart_153, (by decide : nI 3 = 3), if_true, if_false, (by decide : ¬ (3 : Int32) = 1), (by decide : ¬ (3 : Int32) = 2), nn, (by decide : ¬ (2 : Int32) = 0), not_false_eq_true]
      by_cases c : n % 2 = 0
      · rw [if_pos (er.mpr c)]; simp [fitn, c, b2i]
      · rw [if_neg (fun z => c (er.mp z))]; simp [fitn, c, b2i]
    · simp only [x_Mod_takeApart_61, x_Mod_takeApart_62, x_Mod_takeApart_63, x_Mod_takeApart_66, x_Mod_takeApart_68, x_Mod_takeApart_69, x_Mod_takeApart_72, x_Mod_takeApart_73, x_Mod_takeApart_76, x_Mod_takeApart_77, x_Mod_takeApart_80, x_Mod_takeApart_81, x_Mod_takeApart_82, x_Mod_takeApart_85, x_Mod_takeApart_87, x_Mod_takeApart_88, x_Mod_takeApart_91, x_Mod_takeApart_92, x_Mod_takeApart_95, x_Mod_takeApart_96, x_Mod_takeApart_99, x_Mod_takeApart_100, x_Mod_takeApart_101, x_Mod_takeApart_104, x_Mod_takeApart_106, x_Mod_takeApart_109, x_Mod_takeApart_111, x_Mod_takeApart_112, x_Mod_takeApart_113, x_Mod_takeApart_116, x_Mod_takeApart_117, x_Mod_takeApart_120, x_Mod_takeApart_121, x_Mod_takeApart_124, x_Mod_takeApart_125, x_Mod_takeApart_126, x_Mod_takeApart_129, x_Mod_takeApart_131, x_Mod_takeApart_132, x_Mod_takeApart_135, x_Mod_takeApart_136, x_Mod_takeApart_139, x_Mod_takeApart_140, x_Mod_takeApart_143, x_Mod_takeApart_145, x_Mod_takeApart_146, x_Mod_takeApart_149, x_Mod_takeApart_150, x_Mod_takeApart_153, (by decide : nI 4 = 4), if_true, if_false, (by decide : ¬ (4 : Int32) = 1), (by decide : ¬ (4 : Int32) = 2), (by decide : ¬ (4 : Int32) = 3)]
      by_cases c : n = 3
      · rw [if_pos (e3.mpr c)]; simp [fitn, c, b2i]
      · rw [if_neg (fun z => c (e3.mp z))]; simp [fitn, c, b2i]
    · simp only [x_Mod_takeApart_61, x_Mod_takeApart_62, x_Mod_takeApart_63, x_Mod_takeApart_66, x_Mod_takeApart_68, x_Mod_takeApart_69, x_Mod_takeApart_72, x_Mod_takeApart_73, x_Mod_takeApart_76, x_Mod_takeApart_77, x_Mod_takeApart_80, x_Mod_takeApart_81, x_Mod_takeApart_82, x_Mod_takeApart_85, x_Mod_takeApart_87, x_Mod_takeApart_88, x_Mod_takeApart_91, x_Mod_takeApart_92, x_Mod_takeApart_95, x_Mod_takeApart_96, x_Mod_takeApart_99, x_Mod_takeApart_100, x_Mod_takeApart_101, x_Mod_takeApart_104, x_Mod_takeApart_106, x_Mod_takeApart_109, x_Mod_takeApart_111, x_Mod_takeApart_112, x_Mod_takeApart_113, x_Mod_takeApart_116, x_Mod_takeApart_117, x_Mod_takeApart_120, x_Mod_takeApart_121, x_Mod_takeApart_124, x_Mod_takeApart_125, x_Mod_takeApart_126, x_Mod_takeApart_129, x_Mod_takeApart_131, x_Mod_takeApart_132, x_Mod_takeApart_135, x_Mod_takeApart_136, x_Mod_takeApart_139, x_Mod_takeApart_140, x_Mod_takeApart_143, x_Mod_takeApart_145, x_Mod_takeApart_146, x_Mod_takeApart_149, x_Mod_takeApart_150, x_Mod_takeApart_153, (by decide : nI 5 = 5), if_true, if_false, (by decide : ¬ (5 : Int32) = 1), (by decide : ¬ (5 : Int32) = 2), (by decide : ¬ (5 : Int32) = 3), (by decide : ¬ (5 : Int32) = 4)]
      by_cases c : n = 4
      · rw [if_pos (e4.mpr c)]; simp [fitn, c, b2i]
      · rw [if_neg (fun z => c (e4.mp z))]; simp [fitn, c, b2i]
theorem fit_loop {l1 l2 : Option Value} {g : Bool} (hl2 : l2 = some (.int (b2i g))) : ∀ (m t : Nat) (V : st_V) (l4 l5 : Option Value), t + m = 6 → 1 ≤ t → (V 120).length = 6 → (∀ k, 1 ≤ k → k < t → IE V k (it k)) → (∀ k, t ≤ k → k ≤ 5 → (it k = none → (V 120)[k]? = some (-2)) ∧ ∀ ys, it k = some ys → (V 120)[k]? = some (nI ys.length) ∧ ys.length ≤ 24 ∧ ∃ p, (V 119)[k]? = some (nI p) ∧ p + ys.length ≤ 72 ∧ ∀ q, q < ys.length → (V 116)[p + q]? = ys[q]?) →
    ∃ V', rn d 102 47 [some (.ref 93), l1, l2, some (.int (nI t)), l4, l5] [] (hs S V) = some (some (.int (b2i g)), hs S V') ∧ (∀ k, 1 ≤ k → k ≤ 5 → IE V' k (it k)) ∧ Fm miS (fun a => a = 120) S V S V' := by
  intro m
  induction m with
  | zero =>
    intro t V l4 l5 ht t1 l120 h1 h2
    have : t = 6 := by omega
    subst this
    refine ⟨V, ?_, fun k a b => h1 k a (by omega), Fm.refl _ _⟩
    rw [x_Mod_takeApart_47, hl2]
    simp only [x_Mod_takeApart_48, x_Mod_takeApart_50, x_Mod_takeApart_174, x_Mod_takeApart_175, (by decide : ¬ nI 6 < 6), if_false, nb01 (b2i_01 g)]
  | succ m ih =>
    intro t V l4 l5 ht t1 l120 h1 h2
    obtain ⟨V1, l4', l5', e1, E1, o1, F1⟩ := fit_step (d := d) (S := S) (it := it) (l1 := l1) (l2 := l2) (l4 := l4) (l5 := l5) t1 (by omega) l120 (h2 t (Nat.le_refl _) (by omega))
    have w : ∀ a, ¬ a = 120 → V1 a = V a := fun a h => F1.2.1 a h
    obtain ⟨V2, e2, E2, F2⟩ := ih (t + 1) V1 l4' l5' (by omega) (by omega) ((F1.2.2 _).trans l120) (fun k k1 kt => by
      by_cases e : k = t
      · rw [e]; exact E1
      · obtain ⟨a, b⟩ := h1 k k1 (by omega)
        unfold IE
        rw [o1 k e, w 119 (by decide), w 116 (by decide)]
        exact ⟨a, b⟩) (fun k kt k5 => by
      rw [o1 k (by omega), w 119 (by decide), w 116 (by decide)]
      exact h2 k (by omega) k5)
    exact ⟨V2, e1.trans e2, E2, F1.trans F2⟩
theorem apart_loop {n : Nat} (hn : n ≤ 3) (O : ∀ r, r < n → Oc (rs r)) : ∀ (m r : Nat) (g : Bool) (it : it_T) (V : st_V), r + m = n → IM V it → (V 118).length = 5 → (V 119).length = 6 → (V 120).length = 6 → (∀ r, r < n → (V 117)[r]? = some (nI (rs r).length) ∧ ∀ k, k < (rs r).length → (V 116)[24 * r + k]? = (rs r)[k]?) →
    ∃ V', rn (d + 2) 102 26 [some (.ref 93), some (.int (nI n)), some (.int (b2i g)), some (.int (nI r)), none, none] [] (hs S V) = some (some (.int (b2i (tka rs m r g it).1)), hs S V') ∧ (∀ k, 1 ≤ k → k ≤ 5 → IE V' k ((tka rs m r g it).2 k)) ∧ Fm miS miV S V S V' := by
  intro m
  induction m with
  | zero =>
    intro r g it V hr I l118 l119 l120 hrd
    have : r = n := by omega
    subst this
    have c : ¬ nI r < nI r := nI_nlt (Nat.le_refl _) (by omega)
    obtain ⟨V1, e1, E1, F1⟩ := fit_loop (d := d + 2) (S := S) (it := it) (l1 := some (.int (nI r))) (l2 := some (.int (b2i g))) (g := g) rfl 5 1 V none none (by decide) (by decide) l120 (fun k a b => by omega) (fun k a b => I k a b)
    refine ⟨V1, ?_, E1, F1.mono (fun a k z => z) (fun a z => Or.inr (Or.inr z))⟩
    rw [x_Mod_takeApart_26]
    have e1' : rn (d + 2) 102 47 [some (.ref 93), some (.int (nI r)), some (.int (b2i g)), some (.int 1), none, none] [] (hs S V) = some (some (.int (b2i g)), hs S V1) := e1
    simp only [x_Mod_takeApart_27, x_Mod_takeApart_28, x_Mod_takeApart_45, x_Mod_takeApart_46, c, if_false]
    exact e1'
  | succ m ih =>
    intro r g it V hr I l118 l119 l120 hrd
    have c : nI r < nI n := nI_lt (by omega) (by omega)
    obtain ⟨q1, q2⟩ := hrd r (by omega)
    obtain ⟨V1, e1, I1, F1⟩ := ev_items (d := d) (S := S) (O r (by omega)) (show r < 3 by omega) I l118 l119 l120 q1 q2
    have w : ∀ a, ¬ miV a → V1 a = V a := fun a h => F1.2.1 a h
    obtain ⟨V2, e2, E2, F2⟩ := ih (r + 1) (g && (tp (rs r) 25 0 (rs r).length 1 it).1) (tp (rs r) 25 0 (rs r).length 1 it).2 V1 (by omega) I1 ((F1.2.2 _).trans l118) ((F1.2.2 _).trans l119) ((F1.2.2 _).trans l120) (fun k hk => by rw [w 117 (by unfold miV; omega), w 116 (by unfold miV; omega)]; exact hrd k hk)
    rw [tka_s]
    refine ⟨V2, ?_, E2, F1.trans F2⟩
    rw [← e2, x_Mod_takeApart_26]
    simp only [x_Mod_takeApart_27, x_Mod_takeApart_28, x_Mod_takeApart_31, x_Mod_takeApart_32, x_Mod_takeApart_33, x_Mod_takeApart_34, x_Mod_takeApart_37, x_Mod_takeApart_38, x_Mod_takeApart_39, x_Mod_takeApart_42, c, if_true, i_93, e1, b2i_and, nI_1, ac_0, ac_i, ac_r, ac_ii, ac_ir, ac_ri, ac_rr, ac_iii, ac_iir, ac_iri, ac_irr, ac_rii, ac_rir, ac_rri, ac_rrr, Option.bind_some, Option.toList_some, Option.toList_none, List.nil_append, List.cons_append, not_false_eq_true]
/-- all records -/
theorem ev_apart {n : Nat} (hn : n ≤ 3) (O : ∀ r, r < n → Oc (rs r)) (l118 : (V 118).length = 5) (l119 : (V 119).length = 6) (l120 : (V 120).length = 6) (hrd : ∀ r, r < n → (V 117)[r]? = some (nI (rs r).length) ∧ ∀ k, k < (rs r).length → (V 116)[24 * r + k]? = (rs r)[k]?) : ∃ V', ev (d + 2) 102 [.ref 93, .int (nI n)] (hs S V) = some (some (.int (b2i (tka rs n 0 true it0).1)), hs S V') ∧ (∀ k, 1 ≤ k → k ≤ 5 → IE V' k ((tka rs n 0 true it0).2 k)) ∧ Fm miS miV S V S V' := by
  have lp : ∀ (m t : Nat) (V1 : st_V), t + m = 6 → 1 ≤ t → Fm miS (fun a => a = 120) S V S V1 → (∀ k, 1 ≤ k → k < t → (V1 120)[k]? = some (-2 : Int32)) → ∃ V2 : st_V, rn (d + 2) 102 2 [some (.ref 93), some (.int (nI n)), some (.int (nI t)), none, none, none] [] (hs S V1) = rn (d + 2) 102 26 [some (.ref 93), some (.int (nI n)), some (.int 1), some (.int 0), none, none] [] (hs S V2) ∧ Fm miS (fun a => a = 120) S V S V2 ∧ (∀ k, 1 ≤ k → k ≤ 5 → (V2 120)[k]? = some (-2 : Int32)) := by
    intro m
    induction m with
    | zero =>
      intro t V1 ht t1 F1 h1
      have : t = 6 := by omega
      subst this
      refine ⟨V1, ?_, F1, fun k a b => h1 k a (by omega)⟩
      rw [x_Mod_takeApart_2]
      simp only [x_Mod_takeApart_3, x_Mod_takeApart_5, x_Mod_takeApart_22, x_Mod_takeApart_23, x_Mod_takeApart_24, x_Mod_takeApart_25, (by decide : ¬ nI 6 < 6), if_false]
    | succ m ih =>
      intro t V1 ht t1 F1 h1
      have c : nI t < 6 := nI_lt (b := 6) (by omega) (by decide)
      have L : (V1 120).length = 6 := (F1.2.2 _).trans l120
      have s1 : am_sv (hs S V1) 120 0 (nI t) (-2) = some (hs S (sV V1 120 t (-2))) := svN rfl (by omega) (by omega)
      obtain ⟨V2, e, F2, h2⟩ := ih (t + 1) (sV V1 120 t (-2)) (by omega) (by omega) (F1.sv rfl) (fun k k1 kt => by
        rw [sV_self]
        by_cases e : k = t
        · rw [e, List.getElem?_set_self (by omega)]
        · rw [List.getElem?_set_ne (Ne.symm e)]; exact h1 k k1 (by omega))
      refine ⟨V2, ?_, F2, h2⟩
      rw [← e, x_Mod_takeApart_2]
      simp only [x_Mod_takeApart_3, x_Mod_takeApart_5, x_Mod_takeApart_8, x_Mod_takeApart_9, x_Mod_takeApart_12, x_Mod_takeApart_13, x_Mod_takeApart_15, x_Mod_takeApart_16, x_Mod_takeApart_19, c, if_true, g_93_53, s1, nI_1, ac_0, ac_i, ac_r, ac_ii, ac_ir, ac_ri, ac_rr, ac_iii, ac_iir, ac_iri, ac_irr, ac_rii, ac_rir, ac_rri, ac_rrr, Option.bind_some, Option.toList_some, Option.toList_none, List.nil_append, List.cons_append, not_false_eq_true]
  obtain ⟨V1, e1, F1, h1⟩ := lp 5 1 V (by decide) (by decide) (Fm.refl _ _) (fun k a b => by omega)
  have w : ∀ a, ¬ a = 120 → V1 a = V a := fun a h => F1.2.1 a h
  have I1 : IM V1 it0 := fun t a b => ⟨fun _ => h1 t a b, fun ys h => by cases h⟩
  obtain ⟨V2, e2, E2, F2⟩ := apart_loop (d := d) (S := S) hn O n 0 true it0 V1 (by omega) I1 ((F1.2.2 _).trans l118) ((F1.2.2 _).trans l119) ((F1.2.2 _).trans l120) (fun k hk => by rw [w 117 (by decide), w 116 (by decide)]; exact hrd k hk)
  refine ⟨V2, ?_, E2, (F1.mono (fun a k z => z) (fun a z => Or.inr (Or.inr z))).trans F2⟩
  have e2' : rn (d + 2) 102 26 [some (.ref 93), some (.int (nI n)), some (.int 1), some (.int 0), none, none] [] (hs S V1) = some (some (.int (b2i (tka rs n 0 true it0).1)), hs S V2) := e2
  have e1' : rn (d + 2) 102 2 [some (.ref 93), some (.int (nI n)), some (.int 1), none, none, none] [] (hs S V) = _ := e1
  rw [← e2', ← e1']
  simp only [e_Mod_takeApart, x_Mod_takeApart_0, x_Mod_takeApart_1]
end MTAKE
