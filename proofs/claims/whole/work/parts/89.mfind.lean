/-! findings: the reference -/
def sgs (s : Int32) (ys : List Int32) : Int32 := ys.foldl (fun s x => (s <<< ((8 : Int32) &&& 31)) ||| x) s
theorem or_mul (a b k : Nat) : (a ||| b) * 2 ^ k = a * 2 ^ k ||| b * 2 ^ k := by
  rw [← Nat.shiftLeft_eq, ← Nat.shiftLeft_eq, ← Nat.shiftLeft_eq, Nat.shiftLeft_or_distrib]
theorem shl8 {n : Nat} (h : n < 2 ^ 24) : nI n <<< ((8 : Int32) &&& 31) = nI (n * 2 ^ 8) := shl_N (n := n) (k := 8) (by omega) (by decide)
theorem sgs4 {ys : List Int32} (O : Oc ys) (hl : ys.length = 4) : sgs 0 ys = int4 ys 0 := by
  obtain ⟨a0, b0⟩ := O.at 0
  obtain ⟨a1, b1⟩ := O.at 1
  obtain ⟨a2, b2⟩ := O.at 2
  obtain ⟨a3, b3⟩ := O.at 3
  have e : sgs 0 ys = (((((((0 <<< ((8 : Int32) &&& 31)) ||| ys.getD 0 0) <<< ((8 : Int32) &&& 31)) ||| ys.getD 1 0) <<< ((8 : Int32) &&& 31)) ||| ys.getD 2 0) <<< ((8 : Int32) &&& 31)) ||| ys.getD 3 0 := by
    match ys, hl with
    | [x0, x1, x2, x3], _ => rfl
  rw [e]
  unfold int4
  rw [a0, show 0 + 1 = 1 from rfl, show 0 + 2 = 2 from rfl, show 0 + 3 = 3 from rfl, a1, a2, a3]
  generalize og ys 0 = A at b0
  generalize og ys 1 = B at b1
  generalize og ys 2 = D at b2
  generalize og ys 3 = E at b3
  have z0 : (0 : Int32) <<< ((8 : Int32) &&& 31) = nI 0 := by decide
  have p8 : (2 : Nat) ^ 8 = 256 := rfl
  have q1 : A * 2 ^ 8 ||| B < 2 ^ 16 := Nat.or_lt_two_pow (n := 16) (by omega) (by omega)
  have q2 : (A * 2 ^ 8 ||| B) * 2 ^ 8 ||| D < 2 ^ 24 := Nat.or_lt_two_pow (n := 24) (by omega) (by omega)
  have s24 : nI A <<< ((24 : Int32) &&& 31) = nI (A * 2 ^ 24) := shl_N (n := A) (k := 24) (by omega) (by decide)
  have s16 : nI B <<< ((16 : Int32) &&& 31) = nI (B * 2 ^ 16) := shl_N (n := B) (k := 16) (by omega) (by decide)
  rw [z0, nx_or, Nat.zero_or, shl8 (Nat.lt_trans b0 (by decide)), nx_or, shl8 (Nat.lt_trans q1 (by decide)), nx_or, shl8 q2, nx_or, s24, s16, shl8 (Nat.lt_trans b2 (by decide)), nx_or, nx_or, nx_or]
  congr 1
  rw [or_mul, or_mul, or_mul, Nat.mul_assoc, Nat.mul_assoc, Nat.mul_assoc, ← Nat.pow_add, ← Nat.pow_add]
section MFIND
variable {d : Nat} {S : st_S} {V : st_V} {it : it_T}
def ml (it : it_T) (t : Nat) : Int32 := if fit t (it t) = true then nI (itv t (it t)).length else -1
theorem IE.len {t : Nat} (E : IE V t (it t)) : (V 120)[t]? = some (ml it t) := by
  unfold ml
  cases h : fit t (it t) with
  | true => rw [if_pos rfl]; exact (E.2 h).1
  | false => rw [if_neg (by decide)]; exact E.1 h
theorem ld_ml {t : Nat} (E : IE V t (it t)) (ht : t ≤ 5) : am_ld (hs S V) 120 0 (nI t) = some (ml it t) := (ldN rfl (by omega)).trans E.len
theorem ev_item {t k : Nat} (E : IE V t (it t)) (ht : t ≤ 5) (hf : fit t (it t) = true) (hk : k < (itv t (it t)).length) : ev d 104 [.ref 93, .int (nI t), .int (nI k)] (hs S V) = some (some (.int ((itv t (it t)).getD k 0)), hs S V) := by
  obtain ⟨_, l24, p, e1, e2, e3⟩ := E.2 hf
  have l1 : am_ld (hs S V) 119 0 (nI t) = some (nI p) := (ldN rfl (by omega)).trans e1
  have l2 : am_ld (hs S V) 116 0 (nI (p + k)) = some ((itv t (it t)).getD k 0) := by
    rw [ldN rfl (by omega), e3 k hk, List.getElem?_eq_getElem hk]
    simp [List.getD, hk]
  simp only [e_Mod_item, x_Mod_item_0, x_Mod_item_1, x_Mod_item_4, x_Mod_item_5, x_Mod_item_8, x_Mod_item_9, x_Mod_item_10, x_Mod_item_11, x_Mod_item_12, x_Mod_item_13, g_93_49, g_93_52, l1, nI_add, l2, ac_0, ac_i, ac_r, ac_ii, ac_ir, ac_ri, ac_rr, ac_iii, ac_iir, ac_iri, ac_irr, ac_rii, ac_rir, ac_rri, ac_rrr, Option.bind_some, Option.toList_some, Option.toList_none, List.nil_append, List.cons_append, not_false_eq_true]
theorem ml_lt {t k : Nat} (hk : k < (itv t (it t)).length) (h24 : (itv t (it t)).length ≤ 24) : fit t (it t) = true ∧ nI k < ml it t := by
  cases hf : fit t (it t) with
  | true => exact ⟨rfl, by unfold ml; rw [if_pos hf]; exact nI_lt hk (by omega)⟩
  | false =>
    have : itv t (it t) = [] := by unfold itv; rw [hf]; rfl
    rw [this] at hk; simp at hk
theorem ml_nlt {t : Nat} (h24 : (itv t (it t)).length ≤ 24) : ¬ nI (itv t (it t)).length < ml it t := by
  unfold ml
  cases hf : fit t (it t) with
  | true => rw [if_pos rfl]; exact nI_nlt (Nat.le_refl _) (by omega)
  | false =>
    have : itv t (it t) = [] := by unfold itv; rw [hf]; rfl
    rw [this, if_neg (by decide)]; decide
theorem mstir_loop {t : Nat} {l1 l2 l3 l5 : Option Value} (E : IE V t (it t)) (ht : t ≤ 5) (h24 : (itv t (it t)).length ≤ 24) : ∀ (m k : Nat) (h : Int32), k + m = (itv t (it t)).length → ∃ l7, rn (d + 1) 105 21 [some (.ref 93), l1, l2, l3, some (.int h), l5, some (.int (nI t)), some (.int (nI k))] [] (hs S V) = rn (d + 1) 105 54 [some (.ref 93), l1, l2, l3, some (.int (stirs h ((itv t (it t)).drop k))), l5, some (.int (nI t)), l7] [] (hs S V) := by
  have lm : am_ld (hs S V) 120 0 (nI t) = some (ml it t) := ld_ml E ht
  intro m
  induction m with
  | zero =>
    intro k h hk
    have : k = (itv t (it t)).length := by omega
    subst this
    refine ⟨some (.int (nI (itv t (it t)).length)), ?_⟩
    rw [x_Mod_find_21]
    simp only [x_Mod_find_23, x_Mod_find_24, x_Mod_find_27, x_Mod_find_29, x_Mod_find_30, g_93_53, lm, ml_nlt h24, if_false, ac_0, ac_i, ac_r, ac_ii, ac_ir, ac_ri, ac_rr, ac_iii, ac_iir, ac_iri, ac_irr, ac_rii, ac_rir, ac_rri, ac_rrr, Option.bind_some, Option.toList_some, Option.toList_none, List.nil_append, List.cons_append, not_false_eq_true]
    rw [List.drop_length]; rfl
  | succ m ih =>
    intro k h hk
    obtain ⟨hf, hlt⟩ := ml_lt (it := it) (t := t) (k := k) (by omega) h24
    have ei := ev_item (d := d) (S := S) E ht hf (show k < (itv t (it t)).length by omega)
    obtain ⟨l7, e⟩ := ih (k + 1) (stir h ((itv t (it t)).getD k 0)) (by omega)
    refine ⟨l7, ?_⟩
    rw [x_Mod_find_21]
    simp only [x_Mod_find_23, x_Mod_find_24, x_Mod_find_27, x_Mod_find_29, x_Mod_find_30, x_Mod_find_33, x_Mod_find_35, x_Mod_find_36, x_Mod_find_38, x_Mod_find_40, x_Mod_find_43, x_Mod_find_46, x_Mod_find_48, x_Mod_find_51, g_93_53, lm, hlt, if_true, i_93, ei, ev_mstir, nI_1, ac_0, ac_i, ac_r, ac_ii, ac_ir, ac_ri, ac_rr, ac_iii, ac_iir, ac_iri, ac_irr, ac_rii, ac_rir, ac_rri, ac_rrr, Option.bind_some, Option.toList_some, Option.toList_none, List.nil_append, List.cons_append, not_false_eq_true]
    rw [e]
    have : (itv t (it t)).drop k = (itv t (it t)).getD k 0 :: (itv t (it t)).drop (k + 1) := by
      rw [List.drop_eq_getElem_cons (show k < (itv t (it t)).length by omega)]
      simp [List.getD, show k < (itv t (it t)).length by omega]
    rw [this]; rfl
theorem msign_loop {l1 l2 l3 l4 l7 : Option Value} (E : IE V 5 (it 5)) (h24 : (itv 5 (it 5)).length ≤ 24) : ∀ (m k : Nat) (s : Int32), k + m = (itv 5 (it 5)).length → ∃ l6, rn (d + 1) 105 63 [some (.ref 93), l1, l2, l3, l4, some (.int s), some (.int (nI k)), l7] [] (hs S V) = rn (d + 1) 105 95 [some (.ref 93), l1, l2, l3, l4, some (.int (sgs s ((itv 5 (it 5)).drop k))), l6, l7] [] (hs S V) := by
  have lm : am_ld (hs S V) 120 0 5 = some (ml it 5) := ld_ml E (by decide)
  intro m
  induction m with
  | zero =>
    intro k s hk
    have : k = (itv 5 (it 5)).length := by omega
    subst this
    refine ⟨some (.int (nI (itv 5 (it 5)).length)), ?_⟩
    rw [x_Mod_find_63]
    simp only [x_Mod_find_65, x_Mod_find_66, x_Mod_find_69, x_Mod_find_70, x_Mod_find_71, g_93_53, lm, ml_nlt h24, if_false, ac_0, ac_i, ac_r, ac_ii, ac_ir, ac_ri, ac_rr, ac_iii, ac_iir, ac_iri, ac_irr, ac_rii, ac_rir, ac_rri, ac_rrr, Option.bind_some, Option.toList_some, Option.toList_none, List.nil_append, List.cons_append, not_false_eq_true]
    rw [List.drop_length]; rfl
  | succ m ih =>
    intro k s hk
    obtain ⟨hf, hlt⟩ := ml_lt (it := it) (t := 5) (k := k) (by omega) h24
    have ei := ev_item (d := d) (S := S) E (by decide) hf (show k < (itv 5 (it 5)).length by omega)
    have ei' : ev d 104 [.ref 93, .int 5, .int (nI k)] (hs S V) = some (some (.int ((itv 5 (it 5)).getD k 0)), hs S V) := ei
    obtain ⟨l6, e⟩ := ih (k + 1) ((s <<< ((8 : Int32) &&& 31)) ||| (itv 5 (it 5)).getD k 0) (by omega)
    refine ⟨l6, ?_⟩
    rw [x_Mod_find_63]
    simp only [x_Mod_find_65, x_Mod_find_66, x_Mod_find_69, x_Mod_find_70, x_Mod_find_71, x_Mod_find_74, x_Mod_find_76, x_Mod_find_78, x_Mod_find_79, x_Mod_find_80, x_Mod_find_81, x_Mod_find_83, x_Mod_find_86, x_Mod_find_87, x_Mod_find_89, x_Mod_find_92, g_93_53, lm, hlt, if_true, i_93, ei', nI_1, ac_0, ac_i, ac_r, ac_ii, ac_ir, ac_ri, ac_rr, ac_iii, ac_iir, ac_iri, ac_irr, ac_rii, ac_rir, ac_rri, ac_rrr, Option.bind_some, Option.toList_some, Option.toList_none, List.nil_append, List.cons_append, not_false_eq_true]
    rw [e]
    have : (itv 5 (it 5)).drop k = (itv 5 (it 5)).getD k 0 :: (itv 5 (it 5)).drop (k + 1) := by
      rw [List.drop_eq_getElem_cons (show k < (itv 5 (it 5)).length by omega)]
      simp [List.getD, show k < (itv 5 (it 5)).length by omega]
    rw [this]; rfl
theorem lt128 (x : Int32) : (x < 128) = ¬ (127 < x) := by
  apply propext
  rw [Int32.lt_iff_toInt_lt, Int32.lt_iff_toInt_lt, (by decide : (128 : Int32).toInt = 128), (by decide : (127 : Int32).toInt = 127)]
  omega
theorem lt8 (x : Int32) : (x < 8) = ¬ (7 < x) := by
  apply propext
  rw [Int32.lt_iff_toInt_lt, Int32.lt_iff_toInt_lt, (by decide : (8 : Int32).toInt = 8), (by decide : (7 : Int32).toInt = 7)]
  omega
theorem mway_loop {am fl : Int32} {wy : Int32} (E : IE V 3 (it 3)) (O : Oc (itv 3 (it 3))) (hfl : S 93 15 = fl) (hw : S 93 16 = wy) (hwy : oct wy) : ∀ (m k : Nat) (l3 l4 l5 l6 : Option Value), (itv 3 (it 3)).length ≤ k + 2 * m → k ≤ 26 → rn (d + 1) 106 2 [some (.ref 93), some (.int am), some (.int (nI k)), l3, l4, l5, l6] [] (hs S V) = some (some (.int (b2i (wgo (itv 3 (it 3)) (decide (¬ am < fl)) wy m k))), hs S V) := by
  have h24 := O.1
  have lm : am_ld (hs S V) 120 0 3 = some (ml it 3) := ld_ml E (by decide)
  have hend : ∀ k, (itv 3 (it 3)).length ≤ k → k ≤ 27 → ¬ nI k < ml it 3 := by
    intro k hk h27
    unfold ml
    cases hf : fit 3 (it 3) with
    | true => rw [if_pos rfl]; exact nI_nlt hk (by omega)
    | false =>
      rw [if_neg (by decide)]
      exact (by decide : ∀ k, k < 28 → ¬ nI k < -1) k (by omega)
  intro m
  induction m with
  | zero =>
    intro k l3 l4 l5 l6 hk h26
    rw [x_Mod_wayGoes_2]
    simp only [x_Mod_wayGoes_3, x_Mod_wayGoes_4, x_Mod_wayGoes_5, x_Mod_wayGoes_6, x_Mod_wayGoes_9, x_Mod_wayGoes_10, x_Mod_wayGoes_11, x_Mod_wayGoes_127, x_Mod_wayGoes_128, nI_1, g_93_53, lm, hend (k + 1) (by omega) (by omega), if_false, nbz, ac_0, ac_i, ac_r, ac_ii, ac_ir, ac_ri, ac_rr, ac_iii, ac_iir, ac_iri, ac_irr, ac_rii, ac_rir, ac_rri, ac_rrr, Option.bind_some, Option.toList_some, Option.toList_none, List.nil_append, List.cons_append, not_false_eq_true]
    rfl
  | succ m ih =>
    intro k l3 l4 l5 l6 hk h26
    rw [x_Mod_wayGoes_2, wgo_s]
    by_cases c0 : k + 1 < (itv 3 (it 3)).length
    · rw [if_pos c0]
      obtain ⟨hf, hlt⟩ := ml_lt (it := it) (t := 3) c0 h24
      have i0 : ev d 104 [.ref 93, .int 3, .int (nI k)] (hs S V) = some (some (.int ((itv 3 (it 3)).getD k 0)), hs S V) := ev_item (d := d) (S := S) E (by decide) hf (show k < (itv 3 (it 3)).length by omega)
      have i1 : ev d 104 [.ref 93, .int 3, .int (nI (k + 1))] (hs S V) = some (some (.int ((itv 3 (it 3)).getD (k + 1) 0)), hs S V) := ev_item (d := d) (S := S) E (by decide) hf c0
      have k2 : nI k + 2 = nI (k + 2) := nI_add k 2
      have ih' := fun l3 l4 l5 l6 => ih (k + 2) l3 l4 l5 l6 (by omega) (by omega)
      obtain ⟨o0, b0⟩ := O.at k
      have sh : ∀ w : Int32, w = (itv 3 (it 3)).getD k 0 &&& 127 → ¬ 7 < w → wy >>> (w &&& 31) = am_ush wy w := by
        intro w hw h7
        refine ushr_eq hwy ?_
        have e : w = nI (og (itv 3 (it 3)) k &&& 127) := by rw [hw, o0, show (127 : Int32) = nI 127 from rfl, nx_and]
        have hb : og (itv 3 (it 3)) k &&& 127 ≤ 127 := Nat.and_le_right
        refine ⟨og (itv 3 (it 3)) k &&& 127, ?_, e⟩
        apply Nat.lt_of_not_le
        intro h8
        apply h7
        rw [e]
        exact nI_lt (a := 7) (by omega) (by omega)
      have now : rn (d + 1) 106 37 [some (.ref 93), some (.int am), some (.int (nI k)), some (.int ((itv 3 (it 3)).getD k 0)), some (.int ((itv 3 (it 3)).getD (k + 1) 0)), some (.int ((itv 3 (it 3)).getD k 0 &&& 127)), l6] [] (hs S V) = rn (d + 1) 106 75 [some (.ref 93), some (.int am), some (.int (nI k)), some (.int ((itv 3 (it 3)).getD k 0)), some (.int ((itv 3 (it 3)).getD (k + 1) 0)), some (.int ((itv 3 (it 3)).getD k 0 &&& 127)), l6] [.int (b2i (nowb ((itv 3 (it 3)).getD (k + 1) 0) (decide (¬ am < fl))))] (hs S V) := by
        simp only [x_Mod_wayGoes_37, x_Mod_wayGoes_39, x_Mod_wayGoes_42, x_Mod_wayGoes_44, x_Mod_wayGoes_45, x_Mod_wayGoes_48, x_Mod_wayGoes_49, x_Mod_wayGoes_50, x_Mod_wayGoes_53, x_Mod_wayGoes_56, x_Mod_wayGoes_58, x_Mod_wayGoes_59, x_Mod_wayGoes_62, x_Mod_wayGoes_63, x_Mod_wayGoes_64, x_Mod_wayGoes_67, x_Mod_wayGoes_70, x_Mod_wayGoes_71, x_Mod_wayGoes_74, g_93_15, hfl, ac_0, ac_i, ac_r, ac_ii, ac_ir, ac_ri, ac_rr, ac_iii, ac_iir, ac_iri, ac_irr, ac_rii, ac_rir, ac_rri, ac_rrr, Option.bind_some, Option.toList_some, Option.toList_none, List.nil_append, List.cons_append, not_false_eq_true]
        unfold nowb
        generalize (itv 3 (it 3)).getD (k + 1) 0 = wh
        by_cases ha : am < fl
        · by_cases h0 : wh = 0
          · simp [h0, ha, b2i]
          · by_cases h1 : wh = 1
            · simp [h1, ha, b2i]
            · by_cases h2 : wh = 2
              · simp [h2, ha, b2i]
              · simp [h0, h1, h2, ha, b2i]
        · by_cases h0 : wh = 0
          · simp [h0, ha, b2i]
          · by_cases h1 : wh = 1
            · simp [h1, ha, b2i]
            · by_cases h2 : wh = 2
              · simp [h2, ha, b2i]
              · simp [h0, h1, h2, ha, b2i]
      simp only [x_Mod_wayGoes_3, x_Mod_wayGoes_4, x_Mod_wayGoes_5, x_Mod_wayGoes_6, x_Mod_wayGoes_9, x_Mod_wayGoes_10, x_Mod_wayGoes_11, x_Mod_wayGoes_14, x_Mod_wayGoes_15, x_Mod_wayGoes_16, x_Mod_wayGoes_17, x_Mod_wayGoes_20, x_Mod_wayGoes_21, x_Mod_wayGoes_22, x_Mod_wayGoes_23, x_Mod_wayGoes_24, x_Mod_wayGoes_25, x_Mod_wayGoes_26, x_Mod_wayGoes_29, x_Mod_wayGoes_31, x_Mod_wayGoes_32, x_Mod_wayGoes_34, x_Mod_wayGoes_35, nI_1, g_93_53, lm, hlt, if_true, i_93, i0, i1, ac_0, ac_i, ac_r, ac_ii, ac_ir, ac_ri, ac_rr, ac_iii, ac_iir, ac_iri, ac_irr, ac_rii, ac_rir, ac_rri, ac_rrr, Option.bind_some, Option.toList_some, Option.toList_none, List.nil_append, List.cons_append, not_false_eq_true]
      rw [now]
      cases nowb ((itv 3 (it 3)).getD (k + 1) 0) (decide (¬ am < fl)) with
      | false =>
        simp only [x_Mod_wayGoes_75, x_Mod_wayGoes_77, x_Mod_wayGoes_79, x_Mod_wayGoes_82, x_Mod_wayGoes_121, x_Mod_wayGoes_124, show b2i false = 0 from rfl, if_true, k2, ih', Bool.false_eq_true, if_false]
      | true =>
        simp only [x_Mod_wayGoes_75, x_Mod_wayGoes_77, x_Mod_wayGoes_79, x_Mod_wayGoes_82, x_Mod_wayGoes_85, x_Mod_wayGoes_87, x_Mod_wayGoes_90, x_Mod_wayGoes_92, x_Mod_wayGoes_94, x_Mod_wayGoes_97, x_Mod_wayGoes_98, x_Mod_wayGoes_101, x_Mod_wayGoes_103, x_Mod_wayGoes_104, x_Mod_wayGoes_105, x_Mod_wayGoes_106, x_Mod_wayGoes_107, x_Mod_wayGoes_110, x_Mod_wayGoes_111, x_Mod_wayGoes_112, x_Mod_wayGoes_113, x_Mod_wayGoes_116, x_Mod_wayGoes_119, x_Mod_wayGoes_120, x_Mod_wayGoes_121, x_Mod_wayGoes_124, show b2i true = 1 from rfl, (by decide : ¬ (1 : Int32) = 0), if_false, if_true, k2, ih', g_93_16, hw, lt128, lt8, nbz, nbo, ac_0, ac_i, ac_r, ac_ii, ac_ir, ac_ri, ac_rr, ac_iii, ac_iir, ac_iri, ac_irr, ac_rii, ac_rir, ac_rri, ac_rrr, Option.bind_some, Option.toList_some, Option.toList_none, List.nil_append, List.cons_append, not_false_eq_true]
        unfold hasb
        by_cases h0 : (itv 3 (it 3)).getD k 0 &&& 127 = 0
        · rw [if_pos h0, if_pos (decide_eq_true (Or.inl h0))]; rfl
        · rw [if_neg h0]
          by_cases h7 : (7 : Int32) < (itv 3 (it 3)).getD k 0 &&& 127
          · rw [if_neg (not_not_intro h7), if_neg (c := decide _ = true) (fun z => (of_decide_eq_true z).elim h0 (fun q => q.1 h7))]
            by_cases h127 : (127 : Int32) < (itv 3 (it 3)).getD k 0
            · rw [if_neg (not_not_intro h127), if_pos h127]
            · rw [if_pos h127, if_neg h127]; rfl
          · rw [if_pos h7, sh _ rfl h7]
            by_cases hb : am_ush wy ((itv 3 (it 3)).getD k 0 &&& 127) &&& 1 = 1
            · rw [if_pos hb, if_pos (decide_eq_true (Or.inr ⟨h7, hb⟩))]; rfl
            · rw [if_neg hb, if_neg (c := decide _ = true) (fun z => (of_decide_eq_true z).elim h0 (fun q => hb q.2))]
              by_cases h127 : (127 : Int32) < (itv 3 (it 3)).getD k 0
              · rw [if_neg (not_not_intro h127), if_pos h127]
              · rw [if_pos h127, if_neg h127]; rfl
    · rw [if_neg c0]
      simp only [x_Mod_wayGoes_3, x_Mod_wayGoes_4, x_Mod_wayGoes_5, x_Mod_wayGoes_6, x_Mod_wayGoes_9, x_Mod_wayGoes_10, x_Mod_wayGoes_11, x_Mod_wayGoes_127, x_Mod_wayGoes_128, nI_1, g_93_53, lm, hend (k + 1) (by omega) (by omega), if_false, nbz, ac_0, ac_i, ac_r, ac_ii, ac_ir, ac_ri, ac_rr, ac_iii, ac_iir, ac_iri, ac_irr, ac_rii, ac_rir, ac_rri, ac_rrr, Option.bind_some, Option.toList_some, Option.toList_none, List.nil_append, List.cons_append, not_false_eq_true]
      rfl
theorem ev_mway {am fl wy : Int32} (E : IE V 3 (it 3)) (O : Oc (itv 3 (it 3))) (hfl : S 93 15 = fl) (hw : S 93 16 = wy) (hwy : oct wy) : ev (d + 1) 106 [.ref 93, .int am] (hs S V) = some (some (.int (b2i (wgo (itv 3 (it 3)) (decide (¬ am < fl)) wy 13 0))), hs S V) := by
  have h24 := O.1
  have e := mway_loop (d := d) (am := am) E O hfl hw hwy 13 0 none none none none (by omega) (by decide)
  rw [nI_0] at e
  rw [← e]
  simp only [e_Mod_wayGoes, x_Mod_wayGoes_0, x_Mod_wayGoes_1]
theorem ev_mtypeFor {fi : Int32} {T : Nat → Int32} (E : IE V 4 (it 4)) (hf : fit 4 (it 4) = true) (h26 : S 93 26 = fi) (h19 : S 93 19 = T 3) : ev (d + 1) 107 [.ref 93] (hs S V) = some (some (.int (typ T (itv 4 (it 4)) fi)), hs S V) := by
  have l3 : (itv 4 (it 4)).length = 3 := by
    cases ho : it 4 with
    | none => rw [ho] at hf; cases hf
    | some ys =>
      rw [ho] at hf
      have : itv 4 (some ys) = ys := by unfold itv; rw [hf]; rfl
      rw [this]
      have : fitn 4 ys.length = true := hf
      simpa [fitn] using this
  have i0 : ev d 104 [.ref 93, .int 4, .int 0] (hs S V) = some (some (.int ((itv 4 (it 4)).getD 0 0)), hs S V) := ev_item (d := d) (S := S) (t := 4) (k := 0) E (by decide) hf (by omega)
  have i1 : ev d 104 [.ref 93, .int 4, .int 1] (hs S V) = some (some (.int ((itv 4 (it 4)).getD 1 0)), hs S V) := ev_item (d := d) (S := S) (t := 4) (k := 1) E (by decide) hf (by omega)
  have i2 : ev d 104 [.ref 93, .int 4, .int 2] (hs S V) = some (some (.int ((itv 4 (it 4)).getD 2 0)), hs S V) := ev_item (d := d) (S := S) (t := 4) (k := 2) E (by decide) hf (by omega)
  simp only [e_Mod_typeFor, x_Mod_typeFor_0, x_Mod_typeFor_1, x_Mod_typeFor_4, x_Mod_typeFor_5, x_Mod_typeFor_6, x_Mod_typeFor_7, x_Mod_typeFor_10, x_Mod_typeFor_11, x_Mod_typeFor_14, x_Mod_typeFor_15, x_Mod_typeFor_16, x_Mod_typeFor_17, x_Mod_typeFor_20, x_Mod_typeFor_21, x_Mod_typeFor_22, x_Mod_typeFor_23, x_Mod_typeFor_26, x_Mod_typeFor_27, x_Mod_typeFor_30, x_Mod_typeFor_31, x_Mod_typeFor_32, x_Mod_typeFor_33, x_Mod_typeFor_36, x_Mod_typeFor_39, x_Mod_typeFor_40, x_Mod_typeFor_43, x_Mod_typeFor_44, x_Mod_typeFor_47, x_Mod_typeFor_48, x_Mod_typeFor_49, x_Mod_typeFor_50, x_Mod_typeFor_53, x_Mod_typeFor_54, x_Mod_typeFor_57, x_Mod_typeFor_58, x_Mod_typeFor_61, x_Mod_typeFor_62, g_93_26, h26, i_93, i0, i1, i2, g_93_19, h19, ac_0, ac_i, ac_r, ac_ii, ac_ir, ac_ri, ac_rr, ac_iii, ac_iir, ac_iri, ac_irr, ac_rii, ac_rir, ac_rri, ac_rrr, Option.bind_some, Option.toList_some, Option.toList_none, List.nil_append, List.cons_append, not_false_eq_true]
  unfold typ
  split
  · split
    · rfl
    · split
      · split <;> rfl
      · rfl
  · rfl
theorem fo_same {s v : Int32} {b : Bool} : fo b s v = if b = true then s ||| v else s := rfl
theorem ev_mfind {T : Nat → Int32} {am rnd day : Int32} (E : ∀ k, 1 ≤ k → k ≤ 5 → IE V k (it k)) (O : ∀ t, Oc (itv t (it t))) (hT : ∀ k, k < 6 → S 93 (tm k) = T k) (hT2 : oct (T 2)) (h26 : S 93 26 = 0) (f1 : fit 1 (it 1) = true) : ev (d + 2) 105 [.ref 93, .int am, .int rnd, .int day] (hs S V) = some (none, hs (uS S 93 26 (fnd T it am rnd day)) V) := by
  have l1 : (itv 1 (it 1)).length = 2 := by
    cases ho : it 1 with
    | none => rw [ho] at f1; cases f1
    | some ys =>
      rw [ho] at f1
      have : itv 1 (some ys) = ys := by unfold itv; rw [f1]; rfl
      rw [this]
      have : fitn 1 ys.length = true := f1
      simpa [fitn] using this
  have l2 : fit 2 (it 2) = true → (itv 2 (it 2)).length = 1 := by
    intro f2
    cases ho : it 2 with
    | none => rw [ho] at f2; cases f2
    | some ys =>
      rw [ho] at f2
      have : itv 2 (some ys) = ys := by unfold itv; rw [f2]; rfl
      rw [this]
      have : fitn 2 ys.length = true := f2
      simpa [fitn] using this
  have l5 : fit 5 (it 5) = true → (itv 5 (it 5)).length = 4 := by
    intro f5
    cases ho : it 5 with
    | none => rw [ho] at f5; cases f5
    | some ys =>
      rw [ho] at f5
      have : itv 5 (some ys) = ys := by unfold itv; rw [f5]; rfl
      rw [this]
      have : fitn 5 ys.length = true := f5
      simpa [fitn] using this
  have w0 : S 93 14 = T 0 := hT 0 (by decide)
  have w1 : S 93 15 = T 1 := hT 1 (by decide)
  have w2 : S 93 16 = T 2 := hT 2 (by decide)
  have w4 : S 93 17 = T 4 := hT 4 (by decide)
  -- MIX of the items
  obtain ⟨x1, y1⟩ := mstir_loop (d := d + 1) (S := S) (l1 := some (.int am)) (l2 := some (.int rnd)) (l3 := some (.int day)) (l5 := some (.int 0)) (E 1 (by decide) (by decide)) (by decide) (O 1).1 (itv 1 (it 1)).length 0 (T 4) (by omega)
  obtain ⟨x2, y2⟩ := mstir_loop (d := d + 1) (S := S) (l1 := some (.int am)) (l2 := some (.int rnd)) (l3 := some (.int day)) (l5 := some (.int 0)) (E 2 (by decide) (by decide)) (by decide) (O 2).1 (itv 2 (it 2)).length 0 (stirs (T 4) (itv 1 (it 1))) (by omega)
  obtain ⟨x3, y3⟩ := mstir_loop (d := d + 1) (S := S) (l1 := some (.int am)) (l2 := some (.int rnd)) (l3 := some (.int day)) (l5 := some (.int 0)) (E 3 (by decide) (by decide)) (by decide) (O 3).1 (itv 3 (it 3)).length 0 (stirs (stirs (T 4) (itv 1 (it 1))) (itv 2 (it 2))) (by omega)
  obtain ⟨x4, y4⟩ := mstir_loop (d := d + 1) (S := S) (l1 := some (.int am)) (l2 := some (.int rnd)) (l3 := some (.int day)) (l5 := some (.int 0)) (E 4 (by decide) (by decide)) (by decide) (O 4).1 (itv 4 (it 4)).length 0 (stirs (stirs (stirs (T 4) (itv 1 (it 1))) (itv 2 (it 2))) (itv 3 (it 3))) (by omega)
  obtain ⟨x5, y5⟩ := msign_loop (d := d + 1) (S := S) (l1 := some (.int am)) (l2 := some (.int rnd)) (l3 := some (.int day)) (l4 := some (.int (stirs (stirs (stirs (stirs (T 4) (itv 1 (it 1))) (itv 2 (it 2))) (itv 3 (it 3))) (itv 4 (it 4))))) (l7 := x4) (E 5 (by decide) (by decide)) (O 5).1 (itv 5 (it 5)).length 0 0 (by omega)
  rw [List.drop_zero] at y1 y2 y3 y4 y5
  have y1' : rn (d + 2) 105 21 [some (.ref 93), some (.int am), some (.int rnd), some (.int day), some (.int (T 4)), some (.int 0), some (.int 1), some (.int 0)] [] (hs S V) = rn (d + 2) 105 54 [some (.ref 93), some (.int am), some (.int rnd), some (.int day), some (.int (stirs (T 4) (itv 1 (it 1)))), some (.int 0), some (.int 1), x1] [] (hs S V) := y1
  have y2' : rn (d + 2) 105 21 [some (.ref 93), some (.int am), some (.int rnd), some (.int day), some (.int (stirs (T 4) (itv 1 (it 1)))), some (.int 0), some (.int 2), some (.int 0)] [] (hs S V) = rn (d + 2) 105 54 [some (.ref 93), some (.int am), some (.int rnd), some (.int day), some (.int (stirs (stirs (T 4) (itv 1 (it 1))) (itv 2 (it 2)))), some (.int 0), some (.int 2), x2] [] (hs S V) := y2
  have y3' : rn (d + 2) 105 21 [some (.ref 93), some (.int am), some (.int rnd), some (.int day), some (.int (stirs (stirs (T 4) (itv 1 (it 1))) (itv 2 (it 2)))), some (.int 0), some (.int 3), some (.int 0)] [] (hs S V) = rn (d + 2) 105 54 [some (.ref 93), some (.int am), some (.int rnd), some (.int day), some (.int (stirs (stirs (stirs (T 4) (itv 1 (it 1))) (itv 2 (it 2))) (itv 3 (it 3)))), some (.int 0), some (.int 3), x3] [] (hs S V) := y3
  have y4' : rn (d + 2) 105 21 [some (.ref 93), some (.int am), some (.int rnd), some (.int day), some (.int (stirs (stirs (stirs (T 4) (itv 1 (it 1))) (itv 2 (it 2))) (itv 3 (it 3)))), some (.int 0), some (.int 4), some (.int 0)] [] (hs S V) = rn (d + 2) 105 54 [some (.ref 93), some (.int am), some (.int rnd), some (.int day), some (.int (stirs (stirs (stirs (stirs (T 4) (itv 1 (it 1))) (itv 2 (it 2))) (itv 3 (it 3))) (itv 4 (it 4)))), some (.int 0), some (.int 4), x4] [] (hs S V) := y4
  have y5' : rn (d + 2) 105 63 [some (.ref 93), some (.int am), some (.int rnd), some (.int day), some (.int (stirs (stirs (stirs (stirs (T 4) (itv 1 (it 1))) (itv 2 (it 2))) (itv 3 (it 3))) (itv 4 (it 4)))), some (.int 0), some (.int 0), x4] [] (hs S V) = rn (d + 2) 105 95 [some (.ref 93), some (.int am), some (.int rnd), some (.int day), some (.int (stirs (stirs (stirs (stirs (T 4) (itv 1 (it 1))) (itv 2 (it 2))) (itv 3 (it 3))) (itv 4 (it 4)))), some (.int (sgs 0 (itv 5 (it 5)))), x5, x4] [] (hs S V) := y5
  have H1 : ev (d + 2) 105 [.ref 93, .int am, .int rnd, .int day] (hs S V) = rn (d + 2) 105 95 [some (.ref 93), some (.int am), some (.int rnd), some (.int day), some (.int (stirs (stirs (stirs (stirs (T 4) (itv 1 (it 1))) (itv 2 (it 2))) (itv 3 (it 3))) (itv 4 (it 4)))), some (.int (sgs 0 (itv 5 (it 5)))), x5, x4] [] (hs S V) := by
    simp only [e_Mod_find, x_Mod_find_0, x_Mod_find_1, x_Mod_find_4, x_Mod_find_6, x_Mod_find_7, x_Mod_find_9, x_Mod_find_10, g_93_17, w4, ac_0, ac_i, ac_r, ac_ii, ac_ir, ac_ri, ac_rr, ac_iii, ac_iir, ac_iri, ac_irr, ac_rii, ac_rir, ac_rri, ac_rrr, Option.bind_some, Option.toList_some, Option.toList_none, List.nil_append, List.cons_append, not_false_eq_true]
    rw [x_Mod_find_12]
    simp only [x_Mod_find_14, x_Mod_find_15, x_Mod_find_18, x_Mod_find_19, (by decide : (1 : Int32) < 5), if_true]
    rw [y1']
    simp only [x_Mod_find_54, x_Mod_find_57, (by decide : (1 : Int32) + 1 = 2)]
    rw [x_Mod_find_12]
    simp only [x_Mod_find_14, x_Mod_find_15, x_Mod_find_18, x_Mod_find_19, (by decide : (2 : Int32) < 5), if_true]
    rw [y2']
    simp only [x_Mod_find_54, x_Mod_find_57, (by decide : (2 : Int32) + 1 = 3)]
    rw [x_Mod_find_12]
    simp only [x_Mod_find_14, x_Mod_find_15, x_Mod_find_18, x_Mod_find_19, (by decide : (3 : Int32) < 5), if_true]
    rw [y3']
    simp only [x_Mod_find_54, x_Mod_find_57, (by decide : (3 : Int32) + 1 = 4)]
    rw [x_Mod_find_12]
    simp only [x_Mod_find_14, x_Mod_find_15, x_Mod_find_18, x_Mod_find_19, (by decide : (4 : Int32) < 5), if_true]
    rw [y4']
    simp only [x_Mod_find_54, x_Mod_find_57, (by decide : (4 : Int32) + 1 = 5)]
    rw [x_Mod_find_12]
    simp only [x_Mod_find_14, x_Mod_find_15, x_Mod_find_60, x_Mod_find_61, (by decide : ¬ (5 : Int32) < 5), if_false]
    rw [y5']
  have S0 : S = uS S 93 26 0 := (uS_same h26.symm).symm
  have gf : ∀ s, uS S 93 26 s 93 26 = s := fun s => uS_self _ _ _ _
  have uu : ∀ s v, uS (uS S 93 26 s) 93 26 v = uS S 93 26 v := fun s v => uS_uS _ _ _ _ _
  have v0 : ∀ s, uS S 93 26 s 93 14 = T 0 := fun s => (uS_ne (by decide)).trans w0
  have v1 : ∀ s, uS S 93 26 s 93 15 = T 1 := fun s => (uS_ne (by decide)).trans w1
  have v2 : ∀ s, uS S 93 26 s 93 16 = T 2 := fun s => (uS_ne (by decide)).trans w2
  have m2 : ∀ S : st_S, am_ld (hs S V) 120 0 2 = some (ml it 2) := fun S => ld_ml (t := 2) (E 2 (by decide) (by decide)) (by decide)
  have m3 : ∀ S : st_S, am_ld (hs S V) 120 0 3 = some (ml it 3) := fun S => ld_ml (t := 3) (E 3 (by decide) (by decide)) (by decide)
  have m5 : ∀ S : st_S, am_ld (hs S V) 120 0 5 = some (ml it 5) := fun S => ld_ml (t := 5) (E 5 (by decide) (by decide)) (by decide)
  have mneg : ∀ t, fit t (it t) = false → ml it t < 0 := fun t h => by unfold ml; rw [h, if_neg (by decide)]; decide
  have mpos : ∀ t, fit t (it t) = true → ¬ ml it t < 0 := fun t h => by
    unfold ml; rw [if_pos h]; exact nI_nn (by have := (O t).1; omega)
  have i10 : ∀ S : st_S, ev (d + 1) 104 [.ref 93, .int 1, .int 0] (hs S V) = some (some (.int ((itv 1 (it 1)).getD 0 0)), hs S V) := fun S => ev_item (t := 1) (k := 0) (E 1 (by decide) (by decide)) (by decide) f1 (by omega)
  have i11 : ∀ S : st_S, ev (d + 1) 104 [.ref 93, .int 1, .int 1] (hs S V) = some (some (.int ((itv 1 (it 1)).getD 1 0)), hs S V) := fun S => ev_item (t := 1) (k := 1) (E 1 (by decide) (by decide)) (by decide) f1 (by omega)
  have pr : ((itv 1 (it 1)).getD 0 0 <<< ((8 : Int32) &&& 31)) ||| (itv 1 (it 1)).getD 1 0 = pair2 (itv 1 (it 1)) 0 := rfl
  have HA : ∀ (hm sg : Int32) (z6 z7 : Option Value), rn (d + 2) 105 95 [some (.ref 93), some (.int am), some (.int rnd), some (.int day), some (.int hm), some (.int sg), z6, z7] [] (hs (uS S 93 26 0) V) = rn (d + 2) 105 129 [some (.ref 93), some (.int am), some (.int rnd), some (.int day), some (.int hm), some (.int sg), some (.int (pair2 (itv 1 (it 1)) 0)), some (.int (b2i (!fit 2 (it 2))))] [] (hs (uS S 93 26 0) V) := fun hm sg z6 z7 => by
    simp only [x_Mod_find_95, x_Mod_find_96, x_Mod_find_97, x_Mod_find_98, x_Mod_find_101, x_Mod_find_103, x_Mod_find_104, x_Mod_find_105, x_Mod_find_106, x_Mod_find_107, x_Mod_find_110, x_Mod_find_111, x_Mod_find_113, x_Mod_find_114, x_Mod_find_117, x_Mod_find_118, x_Mod_find_119, x_Mod_find_122, x_Mod_find_123, x_Mod_find_126, x_Mod_find_127, i_93, i10, i11, pr, g_93_53, m2, ac_0, ac_i, ac_r, ac_ii, ac_ir, ac_ri, ac_rr, ac_iii, ac_iir, ac_iri, ac_irr, ac_rii, ac_rir, ac_rri, ac_rrr, Option.bind_some, Option.toList_some, Option.toList_none, List.nil_append, List.cons_append, not_false_eq_true]
    cases hf : fit 2 (it 2) with
    | true => rw [if_neg (mpos 2 hf)]; rfl
    | false => rw [if_pos (mneg 2 hf)]; rfl
  have B1 : rn (d + 2) 105 129 [some (.ref 93), some (.int am), some (.int rnd), some (.int day), some (.int (stirs (stirs (stirs (stirs (T 4) (itv 1 (it 1))) (itv 2 (it 2))) (itv 3 (it 3))) (itv 4 (it 4)))), some (.int (sgs 0 (itv 5 (it 5)))), some (.int (pair2 (itv 1 (it 1)) 0)), some (.int (b2i (!fit 2 (it 2))))] [] (hs (uS S 93 26 0) V) = rn (d + 2) 105 155 [some (.ref 93), some (.int am), some (.int rnd), some (.int day), some (.int (stirs (stirs (stirs (stirs (T 4) (itv 1 (it 1))) (itv 2 (it 2))) (itv 3 (it 3))) (itv 4 (it 4)))), some (.int (sgs 0 (itv 5 (it 5)))), some (.int (pair2 (itv 1 (it 1)) 0)), some (.int (b2i (!fit 2 (it 2))))] [] (hs (uS S 93 26 (fo (!sgnb T it) 0 1)) V) := by
    simp only [x_Mod_find_129, x_Mod_find_130, x_Mod_find_133, x_Mod_find_134, x_Mod_find_135, x_Mod_find_138, x_Mod_find_140, x_Mod_find_142, x_Mod_find_145, x_Mod_find_146, x_Mod_find_146', x_Mod_find_147, x_Mod_find_150, x_Mod_find_151, x_Mod_find_152, g_93_53, m5, g_93_26, gf, p_93_26, uu, ac_0, ac_i, ac_r, ac_ii, ac_ir, ac_ri, ac_rr, ac_iii, ac_iir, ac_iri, ac_irr, ac_rii, ac_rir, ac_rri, ac_rrr, Option.bind_some, Option.toList_some, Option.toList_none, List.nil_append, List.cons_append, not_false_eq_true]
    unfold sgnb
    cases hf : fit 5 (it 5) with
    | false => rw [if_pos (mneg 5 hf)]; rfl
    | true =>
      rw [if_neg (mpos 5 hf), sgs4 (O 5) (l5 hf)]
      by_cases hh : int4 (itv 5 (it 5)) 0 = stirs (stirs (stirs (stirs (T 4) (itv 1 (it 1))) (itv 2 (it 2))) (itv 3 (it 3))) (itv 4 (it 4))
      · rw [if_pos hh, decide_eq_true hh]; rfl
      · rw [if_neg hh, decide_eq_false hh]; rfl
  generalize stirs (stirs (stirs (stirs (T 4) (itv 1 (it 1))) (itv 2 (it 2))) (itv 3 (it 3))) (itv 4 (it 4)) = hm at H1 B1
  generalize sgs 0 (itv 5 (it 5)) = sg at H1 B1
  have B2 : ∀ s, rn (d + 2) 105 155 [some (.ref 93), some (.int am), some (.int rnd), some (.int day), some (.int hm), some (.int sg), some (.int (pair2 (itv 1 (it 1)) 0)), some (.int (b2i (!fit 2 (it 2))))] [] (hs (uS S 93 26 s) V) = rn (d + 2) 105 171 [some (.ref 93), some (.int am), some (.int rnd), some (.int day), some (.int hm), some (.int sg), some (.int (pair2 (itv 1 (it 1)) 0)), some (.int (b2i (!fit 2 (it 2))))] [] (hs (uS S 93 26 (fo (decide (pair2 (itv 1 (it 1)) 0 < day)) s 2)) V) := fun s => by
    simp only [x_Mod_find_155, x_Mod_find_157, x_Mod_find_158, x_Mod_find_161, x_Mod_find_162, x_Mod_find_162', x_Mod_find_163, x_Mod_find_166, x_Mod_find_167, x_Mod_find_168, g_93_26, gf, p_93_26, uu, ac_0, ac_i, ac_r, ac_ii, ac_ir, ac_ri, ac_rr, ac_iii, ac_iir, ac_iri, ac_irr, ac_rii, ac_rir, ac_rri, ac_rrr, Option.bind_some, Option.toList_some, Option.toList_none, List.nil_append, List.cons_append, not_false_eq_true]
    by_cases h : pair2 (itv 1 (it 1)) 0 < day
    · rw [if_pos h, decide_eq_true h]; rfl
    · rw [if_neg h, decide_eq_false h]; rfl
  have B3 : ∀ s, rn (d + 2) 105 171 [some (.ref 93), some (.int am), some (.int rnd), some (.int day), some (.int hm), some (.int sg), some (.int (pair2 (itv 1 (it 1)) 0)), some (.int (b2i (!fit 2 (it 2))))] [] (hs (uS S 93 26 s) V) = rn (d + 2) 105 199 [some (.ref 93), some (.int am), some (.int rnd), some (.int day), some (.int hm), some (.int sg), some (.int (pair2 (itv 1 (it 1)) 0)), some (.int (b2i (!fit 2 (it 2))))] [] (hs (uS S 93 26 (fo (fit 2 (it 2) && decide (¬ (itv 2 (it 2)).getD 0 0 = T 0)) s 4)) V) := fun s => by
    cases hf : fit 2 (it 2) with
    | false =>
      simp only [x_Mod_find_171, x_Mod_find_173, show b2i (!false) = 1 from rfl, (by decide : ¬ (1 : Int32) = 0), if_false, Bool.false_and]
      rfl
    | true =>
      have i20 : ∀ S : st_S, ev (d + 1) 104 [.ref 93, .int 2, .int 0] (hs S V) = some (some (.int ((itv 2 (it 2)).getD 0 0)), hs S V) := fun S => ev_item (t := 2) (k := 0) (E 2 (by decide) (by decide)) (by decide) hf (by rw [l2 hf]; decide)
      simp only [x_Mod_find_171, x_Mod_find_173, x_Mod_find_176, x_Mod_find_177, x_Mod_find_178, x_Mod_find_179, x_Mod_find_182, x_Mod_find_183, x_Mod_find_186, x_Mod_find_189, x_Mod_find_190, x_Mod_find_190', x_Mod_find_191, x_Mod_find_194, x_Mod_find_195, x_Mod_find_196, show b2i (!true) = 0 from rfl, if_true, i_93, i20, g_93_14, v0, g_93_26, gf, p_93_26, uu, Bool.true_and, ac_0, ac_i, ac_r, ac_ii, ac_ir, ac_ri, ac_rr, ac_iii, ac_iir, ac_iri, ac_irr, ac_rii, ac_rir, ac_rri, ac_rrr, Option.bind_some, Option.toList_some, Option.toList_none, List.nil_append, List.cons_append, not_false_eq_true]
      by_cases h : (itv 2 (it 2)).getD 0 0 = T 0
      · rw [if_pos h, decide_eq_false (not_not_intro h)]; rfl
      · rw [if_neg h, decide_eq_true h]; rfl
  have ew : ∀ s, ev (d + 1) 106 [.ref 93, .int am] (hs (uS S 93 26 s) V) = some (some (.int (b2i (wgo (itv 3 (it 3)) (decide (¬ am < T 1)) (T 2) 13 0))), hs (uS S 93 26 s) V) := fun s => ev_mway (d := d) (E 3 (by decide) (by decide)) (O 3) (v1 s) (v2 s) hT2
  have B4 : ∀ s, rn (d + 2) 105 199 [some (.ref 93), some (.int am), some (.int rnd), some (.int day), some (.int hm), some (.int sg), some (.int (pair2 (itv 1 (it 1)) 0)), some (.int (b2i (!fit 2 (it 2))))] [] (hs (uS S 93 26 s) V) = rn (d + 2) 105 218 [some (.ref 93), some (.int am), some (.int rnd), some (.int day), some (.int hm), some (.int sg), some (.int (pair2 (itv 1 (it 1)) 0)), some (.int (b2i (!fit 2 (it 2))))] [] (hs (uS S 93 26 (fo (!wgo (itv 3 (it 3)) (decide (¬ am < T 1)) (T 2) 13 0) s 8)) V) := fun s => by
    simp only [x_Mod_find_199, x_Mod_find_200, x_Mod_find_201, x_Mod_find_204, x_Mod_find_207, x_Mod_find_208, x_Mod_find_208', x_Mod_find_209, x_Mod_find_212, x_Mod_find_214, x_Mod_find_215, i_93, ew, g_93_26, gf, p_93_26, uu, ac_0, ac_i, ac_r, ac_ii, ac_ir, ac_ri, ac_rr, ac_iii, ac_iir, ac_iri, ac_irr, ac_rii, ac_rir, ac_rri, ac_rrr, Option.bind_some, Option.toList_some, Option.toList_none, List.nil_append, List.cons_append, not_false_eq_true]
    cases wgo (itv 3 (it 3)) (decide (¬ am < T 1)) (T 2) 13 0 <;> rfl
  have B5 : ∀ s, rn (d + 2) 105 218 [some (.ref 93), some (.int am), some (.int rnd), some (.int day), some (.int hm), some (.int sg), some (.int (pair2 (itv 1 (it 1)) 0)), some (.int (b2i (!fit 2 (it 2))))] [] (hs (uS S 93 26 s) V) = rn (d + 2) 105 237 [some (.ref 93), some (.int am), some (.int rnd), some (.int day), some (.int hm), some (.int sg), some (.int (pair2 (itv 1 (it 1)) 0)), some (.int (b2i (!fit 2 (it 2))))] [] (hs (uS S 93 26 (fo (decide (¬ am < T 1)) s 16)) V) := fun s => by
    simp only [x_Mod_find_218, x_Mod_find_219, x_Mod_find_220, x_Mod_find_223, x_Mod_find_226, x_Mod_find_227, x_Mod_find_227', x_Mod_find_228, x_Mod_find_231, x_Mod_find_233, x_Mod_find_234, g_93_15, v1, g_93_26, gf, p_93_26, uu, ac_0, ac_i, ac_r, ac_ii, ac_ir, ac_ri, ac_rr, ac_iii, ac_iir, ac_iri, ac_irr, ac_rii, ac_rir, ac_rri, ac_rrr, Option.bind_some, Option.toList_some, Option.toList_none, List.nil_append, List.cons_append, not_false_eq_true]
    by_cases h : am < T 1
    · rw [if_pos h, decide_eq_false (not_not_intro h)]; rfl
    · rw [if_neg h, decide_eq_true h]; rfl
  have B6 : ∀ s, rn (d + 2) 105 237 [some (.ref 93), some (.int am), some (.int rnd), some (.int day), some (.int hm), some (.int sg), some (.int (pair2 (itv 1 (it 1)) 0)), some (.int (b2i (!fit 2 (it 2))))] [] (hs (uS S 93 26 s) V) = rn (d + 2) 105 255 [some (.ref 93), some (.int am), some (.int rnd), some (.int day), some (.int hm), some (.int sg), some (.int (pair2 (itv 1 (it 1)) 0)), some (.int (b2i (!fit 2 (it 2))))] [] (hs (uS S 93 26 (fo (decide (rnd &&& 7 = 0)) s 32)) V) := fun s => by
    simp only [x_Mod_find_237, x_Mod_find_238, x_Mod_find_240, x_Mod_find_241, x_Mod_find_244, x_Mod_find_245, x_Mod_find_245', x_Mod_find_246, x_Mod_find_249, x_Mod_find_251, x_Mod_find_252, g_93_26, gf, p_93_26, uu, ac_0, ac_i, ac_r, ac_ii, ac_ir, ac_ri, ac_rr, ac_iii, ac_iir, ac_iri, ac_irr, ac_rii, ac_rir, ac_rri, ac_rrr, Option.bind_some, Option.toList_some, Option.toList_none, List.nil_append, List.cons_append, not_false_eq_true]
    by_cases h : rnd &&& 7 = 0
    · rw [if_pos h, decide_eq_true h]; rfl
    · rw [if_neg h, decide_eq_false h]; rfl
  have B7 : ∀ s, rn (d + 2) 105 255 [some (.ref 93), some (.int am), some (.int rnd), some (.int day), some (.int hm), some (.int sg), some (.int (pair2 (itv 1 (it 1)) 0)), some (.int (b2i (!fit 2 (it 2))))] [] (hs (uS S 93 26 s) V) = some (none, hs (uS S 93 26 (fo (!(fit 2 (it 2) && fit 3 (it 3))) s 64)) V) := fun s => by
    cases hf : fit 2 (it 2) with
    | false =>
      simp only [x_Mod_find_255, x_Mod_find_257, x_Mod_find_260, x_Mod_find_261, x_Mod_find_264, x_Mod_find_265, x_Mod_find_266, x_Mod_find_269, x_Mod_find_270, x_Mod_find_270', x_Mod_find_271, x_Mod_find_274, x_Mod_find_276, x_Mod_find_277, x_Mod_find_280, show b2i (!false) = 1 from rfl, (by decide : ¬ (1 : Int32) = 0), if_false, Bool.false_and, g_93_26, gf, p_93_26, uu, ac_0, ac_i, ac_r, ac_ii, ac_ir, ac_ri, ac_rr, ac_iii, ac_iir, ac_iri, ac_irr, ac_rii, ac_rir, ac_rri, ac_rrr, Option.bind_some, Option.toList_some, Option.toList_none, List.nil_append, List.cons_append, not_false_eq_true]
      rfl
    | true =>
      simp only [x_Mod_find_255, x_Mod_find_257, x_Mod_find_260, x_Mod_find_261, x_Mod_find_264, x_Mod_find_265, x_Mod_find_266, x_Mod_find_269, x_Mod_find_270, x_Mod_find_270', x_Mod_find_271, x_Mod_find_274, x_Mod_find_276, x_Mod_find_277, x_Mod_find_280, show b2i (!true) = 0 from rfl, if_true, Bool.true_and, g_93_53, m3, g_93_26, gf, p_93_26, uu, ac_0, ac_i, ac_r, ac_ii, ac_ir, ac_ri, ac_rr, ac_iii, ac_iir, ac_iri, ac_irr, ac_rii, ac_rir, ac_rri, ac_rrr, Option.bind_some, Option.toList_some, Option.toList_none, List.nil_append, List.cons_append, not_false_eq_true]
      cases hf3 : fit 3 (it 3) with
      | true => rw [if_neg (mpos 3 hf3)]; rfl
      | false => rw [if_pos (mneg 3 hf3)]; rfl
  rw [H1]
  conv => lhs; rw [S0]
  rw [HA, B1, B2, B3, B4, B5, B6, B7, fsum_or]
  rfl
end MFIND
