/-! records are taken apart: what both sides do; the class -/
abbrev it_T : Type := Nat → Option (List Int32)
def fitn (t n : Nat) : Bool := if t = 1 then decide (n = 2) else if t = 2 then decide (n = 1) else if t = 3 then decide (n % 2 = 0) else if t = 4 then decide (n = 3) else decide (n = 4)
def fit (t : Nat) (o : Option (List Int32)) : Bool := match o with
  | none => false
  | some ys => fitn t ys.length
def itv (t : Nat) (o : Option (List Int32)) : List Int32 := if fit t o = true then o.getD [] else []
def kp (it : it_T) (tag : Nat) (ys : List Int32) : it_T := if 1 ≤ tag ∧ tag ≤ 5 ∧ (it tag).isNone = true then fun t => if t = tag then some ys else it t else it
def og (xs : List Int32) (i : Nat) : Nat := (xs.getD i 0).toNatClampNeg
def tp (xs : List Int32) : Nat → Nat → Nat → Nat → it_T → Bool × it_T
  | 0, _, _, _, it => (false, it)
  | f + 1, i, to, lv, it =>
    if i < to then
      if i + 2 + og xs (i + 1) ≤ to then
        if og xs i ≤ 127 then tp xs f (i + 2 + og xs (i + 1)) to lv (kp it (og xs i) ((xs.drop (i + 2)).take (og xs (i + 1))))
        else if lv = 4 then (false, it)
        else if (tp xs f (i + 2) (i + 2 + og xs (i + 1)) (lv + 1) it).1 = true then tp xs f (i + 2 + og xs (i + 1)) to lv (tp xs f (i + 2) (i + 2 + og xs (i + 1)) (lv + 1) it).2
        else (false, (tp xs f (i + 2) (i + 2 + og xs (i + 1)) (lv + 1) it).2)
      else (false, it)
    else (true, it)
theorem tp_s (xs : List Int32) (f i to lv : Nat) (it : it_T) : tp xs (f + 1) i to lv it = if i < to then
      if i + 2 + og xs (i + 1) ≤ to then
        if og xs i ≤ 127 then tp xs f (i + 2 + og xs (i + 1)) to lv (kp it (og xs i) ((xs.drop (i + 2)).take (og xs (i + 1))))
        else if lv = 4 then (false, it)
        else if (tp xs f (i + 2) (i + 2 + og xs (i + 1)) (lv + 1) it).1 = true then tp xs f (i + 2 + og xs (i + 1)) to lv (tp xs f (i + 2) (i + 2 + og xs (i + 1)) (lv + 1) it).2
        else (false, (tp xs f (i + 2) (i + 2 + og xs (i + 1)) (lv + 1) it).2)
      else (false, it)
    else (true, it) := rfl
def Oc (xs : List Int32) : Prop := xs.length ≤ 24 ∧ ∀ x ∈ xs, oct x
theorem Oc.at {xs : List Int32} (H : Oc xs) (i : Nat) : xs.getD i 0 = nI (og xs i) ∧ og xs i < 256 := by
  have h : oct (xs.getD i 0) := by
    by_cases hi : i < xs.length
    · have : xs.getD i 0 = xs[i] := by simp [List.getD, hi]
      rw [this]; exact H.2 _ (List.getElem_mem hi)
    · have : xs.getD i 0 = 0 := by simp [List.getD, List.getElem?_eq_none (Nat.le_of_not_lt hi)]
      rw [this]; exact ⟨0, by decide, rfl⟩
  obtain ⟨m, hm, e⟩ := h
  have : og xs i = m := by unfold og; rw [e]; exact nI_clamp (by omega)
  rw [this]; exact ⟨e, hm⟩
def IC (S : st_S) (V : st_V) (it : it_T) : Prop := ∀ t, t ≤ 5 → (V 87)[t]? = some (b2i (it t).isSome) ∧ (V 86)[t]? = some (b2i (fit t (it t))) ∧ ∃ jk, Rw S V (74 + 2 * t) (itv t (it t)) jk ∧ (itv t (it t)).length + jk.length = 24
def itS (a _k : Nat) : Prop := 74 ≤ a ∧ a ≤ 84
def itV (a : Nat) : Prop := 75 ≤ a ∧ a ≤ 87
theorem t6 {t : Nat} (h : t ≤ 5) : t = 0 ∨ t = 1 ∨ t = 2 ∨ t = 3 ∨ t = 4 ∨ t = 5 := by omega
section ITEMS
variable {d : Nat} {S : st_S} {V : st_V} {xs : List Int32}
theorem it_row {t : Nat} (h : t ≤ 5) : isRow (74 + 2 * t) := by
  rcases t6 h with rfl | rfl | rfl | rfl | rfl | rfl
  · exact r_74
  · exact r_76
  · exact r_78
  · exact r_80
  · exact r_82
  · exact r_84
theorem ld_items {t : Nat} (h : t ≤ 5) : am_ldq (hs S V) 73 (nI t) = some (.ref (74 + 2 * t)) := by
  rcases t6 h with rfl | rfl | rfl | rfl | rfl | rfl
  · exact q_73_0
  · exact q_73_1
  · exact q_73_2
  · exact q_73_3
  · exact q_73_4
  · exact q_73_5
theorem rem2 : ∀ n, n < 256 → (am_rem (nI n) 2 = 0 ↔ n % 2 = 0) := by decide +kernel
theorem nI_iff {n k : Nat} (hn : n < 2 ^ 31) (hk : k < 2 ^ 31) : (nI n = nI k) = (n = k) := propext (nI_eq hn hk)
theorem ev_isLength {t n : Nat} {h : am_H} (h1 : 1 ≤ t) (h5 : t ≤ 5) (hn : n < 256) : ev d 43 [.int (nI t), .int (nI n)] h = some (some (.int (b2i (fitn t n))), h) := by
  have e2 : (nI n = 2) ↔ n = 2 := nI_eq (b := 2) (by omega) (by decide)
  have e1 : (nI n = 1) ↔ n = 1 := nI_eq (b := 1) (by omega) (by decide)
  have e3 : (nI n = 3) ↔ n = 3 := nI_eq (b := 3) (by omega) (by decide)
  have e4 : (nI n = 4) ↔ n = 4 := nI_eq (b := 4) (by omega) (by decide)
  have er := rem2 n hn
  rcases t6 h5 with rfl | rfl | rfl | rfl | rfl | rfl
  · omega
  · simp only [e_Items_isLength, x_Items_isLength_0, x_Items_isLength_1, x_Items_isLength_36, x_Items_isLength_37, x_Items_isLength_38, x_Items_isLength_41, x_Items_isLength_42, x_Items_isLength_45, x_Items_isLength_46, x_Items_isLength_47, x_Items_isLength_48, x_Items_isLength_49, x_Items_isLength_52, x_Items_isLength_53, x_Items_isLength_56, x_Items_isLength_57, x_Items_isLength_58, x_Items_isLength_59, x_Items_isLength_60, x_Items_isLength_61, x_Items_isLength_64, x_Items_isLength_65, x_Items_isLength_68, x_Items_isLength_69, x_Items_isLength_70, x_Items_isLength_71, x_Items_isLength_72, x_Items_isLength_75, x_Items_isLength_76, x_Items_isLength_79, x_Items_isLength_80, x_Items_isLength_81, x_Items_isLength_82, x_Items_isLength_83, x_Items_isLength_86, x_Items_isLength_87, x_Items_isLength_90, x_Items_isLength_91, x_Items_isLength_92, x_Items_isLength_93, (by decide : nI 1 = 1), if_true, nbz, nbo]
    by_cases c : n = 2
    · rw [if_pos (e2.mpr c)]; simp [fitn, c, b2i]
    · rw [if_neg (fun z => c (e2.mp z))]; simp [fitn, c, b2i]
  · simp only [e_Items_isLength, x_Items_isLength_0, x_Items_isLength_1, x_Items_isLength_36, x_Items_isLength_37, x_Items_isLength_38, x_Items_isLength_41, x_Items_isLength_42, x_Items_isLength_45, x_Items_isLength_46, x_Items_isLength_47, x_Items_isLength_48, x_Items_isLength_49, x_Items_isLength_52, x_Items_isLength_53, x_Items_isLength_56, x_Items_isLength_57, x_Items_isLength_58, x_Items_isLength_59, x_Items_isLength_60, x_Items_isLength_61, x_Items_isLength_64, x_Items_isLength_65, x_Items_isLength_68, x_Items_isLength_69, x_Items_isLength_70, x_Items_isLength_71, x_Items_isLength_72, x_Items_isLength_75, x_Items_isLength_76, x_Items_isLength_79, x_Items_isLength_80, x_Items_isLength_81, x_Items_isLength_82, x_Items_isLength_83, x_Items_isLength_86, x_Items_isLength_87, x_Items_isLength_90, x_Items_isLength_91, x_Items_isLength_92, x_Items_isLength_93, (by decide : nI 2 = 2), if_true, if_false, (by decide : ¬ (2 : Int32) = 1), nbz, nbo]
    by_cases c : n = 1
    · rw [if_pos (e1.mpr c)]; simp [fitn, c, b2i]
    · rw [if_neg (fun z => c (e1.mp z))]; simp [fitn, c, b2i]
  · simp only [e_Items_isLength, x_Items_isLength_0, x_Items_isLength_1, x_Items_isLength_36, x_Items_isLength_37, x_Items_isLength_38, x_Items_isLength_41, x_Items_isLength_42, x_Items_isLength_45, x_Items_isLength_46, x_Items_isLength_47, x_Items_isLength_48, x_Items_isLength_49, x_Items_isLength_52, x_Items_isLength_53, x_Items_isLength_56, x_Items_isLength_57, x_Items_isLength_58, x_Items_isLength_59, x_Items_isLength_60, x_Items_isLength_61, x_Items_isLength_64, x_Items_isLength_65, x_Items_isLength_68, x_Items_isLength_69, x_Items_isLength_70, x_Items_isLength_71, x_Items_isLength_72, x_Items_isLength_75, x_Items_isLength_76, x_Items_isLength_79, x_Items_isLength_80, x_Items_isLength_81, x_Items_isLength_82, x_Items_isLength_83, x_Items_isLength_86, x_Items_isLength_87, x_Items_isLength_90, x_Items_isLength_91, x_Items_isLength_92, x_Items_isLength_93, (by decide : nI 3 = 3), if_true, if_false, (by decide : ¬ (3 : Int32) = 1), (by decide : ¬ (3 : Int32) = 2), (by decide : ¬ (2 : Int32) = 0), not_false_eq_true, nbz, nbo]
    by_cases c : n % 2 = 0
    · rw [if_pos (er.mpr c)]; simp [fitn, c, b2i]
    · rw [if_neg (fun z => c (er.mp z))]; simp [fitn, c, b2i]
  · simp only [e_Items_isLength, x_Items_isLength_0, x_Items_isLength_1, x_Items_isLength_36, x_Items_isLength_37, x_Items_isLength_38, x_Items_isLength_41, x_Items_isLength_42, x_Items_isLength_45, x_Items_isLength_46, x_Items_isLength_47, x_Items_isLength_48, x_Items_isLength_49, x_Items_isLength_52, x_Items_isLength_53, x_Items_isLength_56, x_Items_isLength_57, x_Items_isLength_58, x_Items_isLength_59, x_Items_isLength_60, x_Items_isLength_61, x_Items_isLength_64, x_Items_isLength_65, x_Items_isLength_68, x_Items_isLength_69, x_Items_isLength_70, x_Items_isLength_71, x_Items_isLength_72, x_Items_isLength_75, x_Items_isLength_76, x_Items_isLength_79, x_Items_isLength_80, x_Items_isLength_81, x_Items_isLength_82, x_Items_isLength_83, x_Items_isLength_86, x_Items_isLength_87, x_Items_isLength_90, x_Items_isLength_91, x_Items_isLength_92, x_Items_isLength_93, (by decide : nI 4 = 4), if_true, if_false, (by decide : ¬ (4 : Int32) = 1), (by decide : ¬ (4 : Int32) = 2), (by decide : ¬ (4 : Int32) = 3), nbz, nbo]
    by_cases c : n = 3
    · rw [if_pos (e3.mpr c)]; simp [fitn, c, b2i]
    · rw [if_neg (fun z => c (e3.mp z))]; simp [fitn, c, b2i]
  · simp only [e_Items_isLength, x_Items_isLength_0, x_Items_isLength_1, x_Items_isLength_36, x_Items_isLength_37, x_Items_isLength_38, x_Items_isLength_41, x_Items_isLength_42, x_Items_isLength_45, x_Items_isLength_46, x_Items_isLength_47, x_Items_isLength_48, x_Items_isLength_49, x_Items_isLength_52, x_Items_isLength_53, x_Items_isLength_56, x_Items_isLength_57, x_Items_isLength_58, x_Items_isLength_59, x_Items_isLength_60, x_Items_isLength_61, x_Items_isLength_64, x_Items_isLength_65, x_Items_isLength_68, x_Items_isLength_69, x_Items_isLength_70, x_Items_isLength_71, x_Items_isLength_72, x_Items_isLength_75, x_Items_isLength_76, x_Items_isLength_79, x_Items_isLength_80, x_Items_isLength_81, x_Items_isLength_82, x_Items_isLength_83, x_Items_isLength_86, x_Items_isLength_87, x_Items_isLength_90, x_Items_isLength_91, x_Items_isLength_92, x_Items_isLength_93, (by decide : nI 5 = 5), if_true, if_false, (by decide : ¬ (5 : Int32) = 1), (by decide : ¬ (5 : Int32) = 2), (by decide : ¬ (5 : Int32) = 3), (by decide : ¬ (5 : Int32) = 4), nbz, nbo]
    by_cases c : n = 4
    · rw [if_pos (e4.mpr c)]; simp [fitn, c, b2i]
    · rw [if_neg (fun z => c (e4.mp z))]; simp [fitn, c, b2i]
end ITEMS
