/-! findings: what both sides find; the class -/
def nowb (wh : Int32) (fl : Bool) : Bool := decide (wh = 0 ∨ (wh = 1 ∧ fl = true) ∨ (wh = 2 ∧ fl = false))
def hasb (wy w : Int32) : Bool := decide (w = 0 ∨ (¬ 7 < w ∧ am_ush wy w &&& 1 = 1))
def wgo (ys : List Int32) (fl : Bool) (wy : Int32) : Nat → Nat → Bool
  | 0, _ => false
  | m + 1, k => if k + 1 < ys.length then (if nowb (ys.getD (k + 1) 0) fl = true then (if hasb wy (ys.getD k 0 &&& 127) = true then true else if 127 < ys.getD k 0 then wgo ys fl wy m (k + 2) else false) else wgo ys fl wy m (k + 2)) else false
theorem wgo_s (ys : List Int32) (fl : Bool) (wy : Int32) (m k : Nat) : wgo ys fl wy (m + 1) k = if k + 1 < ys.length then (if nowb (ys.getD (k + 1) 0) fl = true then (if hasb wy (ys.getD k 0 &&& 127) = true then true else if 127 < ys.getD k 0 then wgo ys fl wy m (k + 2) else false) else wgo ys fl wy m (k + 2)) else false := rfl
def fa (b : Bool) (s v : Int32) : Int32 := if b = true then s + v else s
def fo (b : Bool) (s v : Int32) : Int32 := if b = true then s ||| v else s
def fsum (b1 b2 b3 b4 b5 b6 b7 : Bool) : Int32 := fa b7 (fa b6 (fa b5 (fa b4 (fa b3 (fa b2 (fa b1 0 1) 2) 4) 8) 16) 32) 64
theorem fsum_or : ∀ b1 b2 b3 b4 b5 b6 b7 : Bool, fo b7 (fo b6 (fo b5 (fo b4 (fo b3 (fo b2 (fo b1 0 1) 2) 4) 8) 16) 32) 64 = fsum b1 b2 b3 b4 b5 b6 b7 := by decide +kernel
def pair2 (ys : List Int32) (i : Nat) : Int32 := (ys.getD i 0 <<< ((8 : Int32) &&& 31)) ||| ys.getD (i + 1) 0
/-- what is found: T are the settings -/
def sgnb (T : Nat → Int32) (it : it_T) : Bool := fit 5 (it 5) && decide (int4 (itv 5 (it 5)) 0 = stirs (stirs (stirs (stirs (T 4) (itv 1 (it 1))) (itv 2 (it 2))) (itv 3 (it 3))) (itv 4 (it 4)))
def fnd (T : Nat → Int32) (it : it_T) (am rnd day : Int32) : Int32 := fsum (!sgnb T it) (decide (pair2 (itv 1 (it 1)) 0 < day)) (fit 2 (it 2) && decide (¬ (itv 2 (it 2)).getD 0 0 = T 0)) (!wgo (itv 3 (it 3)) (decide (¬ am < T 1)) (T 2) 13 0) (decide (¬ am < T 1)) (decide (rnd &&& 7 = 0)) (!(fit 2 (it 2) && fit 3 (it 3)))
def typ (T : Nat → Int32) (cs : List Int32) (fi : Int32) : Int32 := if fi &&& cs.getD 0 0 = 0 then (if fi &&& cs.getD 1 0 = 0 then 2 else if T 3 = 0 then (if fi &&& cs.getD 2 0 = 0 then 2 else 0) else 1) else 0
section FIND
variable {d : Nat} {S : st_S} {V : st_V} {it : it_T}
theorem ev_isNow {wh : Int32} {fl : Bool} {h : am_H} : ev d 50 [.int wh, .int (b2i fl)] h = some (some (.int (b2i (nowb wh fl))), h) := by
  simp only [e_Settings_isNow, x_Settings_isNow_0, x_Settings_isNow_1, x_Settings_isNow_4, x_Settings_isNow_5, x_Settings_isNow_6, x_Settings_isNow_9, x_Settings_isNow_10, x_Settings_isNow_13, x_Settings_isNow_14, x_Settings_isNow_15, x_Settings_isNow_18, x_Settings_isNow_19, x_Settings_isNow_22, x_Settings_isNow_23, x_Settings_isNow_26, x_Settings_isNow_27, nbz, nbo]
  unfold nowb
  cases fl
  · simp only [show b2i false = 0 from rfl, if_true]
    by_cases h0 : wh = 0
    · simp [h0, b2i]
    · by_cases h2 : wh = 2
      · simp [h2, b2i]
      · simp [h0, h2, b2i]
  · simp only [show b2i true = 1 from rfl, (by decide : ¬ (1 : Int32) = 0), if_false]
    by_cases h0 : wh = 0
    · simp [h0, b2i]
    · by_cases h1 : wh = 1
      · simp [h1, b2i]
      · simp [h0, h1, b2i]
theorem ev_hasWay {w : Int32} : ev d 51 [.ref 71, .int w] (hs S V) = some (some (.int (b2i (hasb (S 71 2) w))), hs S V) := by
  simp only [e_Settings_hasWay, x_Settings_hasWay_0, x_Settings_hasWay_1, x_Settings_hasWay_4, x_Settings_hasWay_5, x_Settings_hasWay_7, x_Settings_hasWay_10, x_Settings_hasWay_11, x_Settings_hasWay_14, x_Settings_hasWay_15, x_Settings_hasWay_16, x_Settings_hasWay_17, x_Settings_hasWay_18, x_Settings_hasWay_19, x_Settings_hasWay_22, x_Settings_hasWay_23, x_Settings_hasWay_26, x_Settings_hasWay_27, g_71_2, nbz, nbo, ac_0, ac_i, ac_r, ac_ii, ac_ir, ac_ri, ac_rr, ac_iii, ac_iir, ac_iri, ac_irr, ac_rii, ac_rir, ac_rri, ac_rrr, Option.bind_some, Option.toList_some, Option.toList_none, List.nil_append, List.cons_append, not_false_eq_true]
  unfold hasb
  by_cases h0 : w = 0
  · simp [h0, b2i]
  · by_cases h7 : 7 < w
    · simp [h0, h7, b2i]
    · by_cases hw : am_ush (S 71 2) w &&& 1 = 1
      · simp [h0, h7, hw, b2i]
      · simp [h0, h7, hw, b2i]
theorem way_loop {r : Nat} {ys jk : List Int32} {fl : Bool} (H : Rw S V r ys jk) (h24 : ys.length ≤ 24) : ∀ (m k : Nat) (l4 : Option Value), ys.length ≤ k + 2 * m → k ≤ 26 → rn (d + 1) 49 2 [some (.ref 71), some (.ref r), some (.int (b2i fl)), some (.int (nI k)), l4] [] (hs S V) = some (some (.int (b2i (wgo ys fl (S 71 2) m k))), hs S V) := by
  intro m
  induction m with
  | zero =>
    intro k l4 hk h26
    have c : ¬ nI (k + 1) < nI ys.length := nI_nlt (by omega) (by omega)
    rw [x_Settings_someWayGoes_2]
    simp only [x_Settings_someWayGoes_3, x_Settings_someWayGoes_4, x_Settings_someWayGoes_5, x_Settings_someWayGoes_6, x_Settings_someWayGoes_9, x_Settings_someWayGoes_62, x_Settings_someWayGoes_63, nI_1, row_g1 H.1, H.2.1, c, if_false, nbz, ac_0, ac_i, ac_r, ac_ii, ac_ir, ac_ri, ac_rr, ac_iii, ac_iir, ac_iri, ac_irr, ac_rii, ac_rir, ac_rri, ac_rrr, Option.bind_some, Option.toList_some, Option.toList_none, List.nil_append, List.cons_append, not_false_eq_true]
    rfl
  | succ m ih =>
    intro k l4 hk h26
    rw [x_Settings_someWayGoes_2, wgo_s]
    by_cases c0 : k + 1 < ys.length
    · have c : nI (k + 1) < nI ys.length := nI_lt c0 (by omega)
      have a0 : ∀ d, ev d 5 [.ref r, .int (nI k)] (hs S V) = some (some (.int (ys.getD k 0)), hs S V) := fun d => by rw [ev_at H, rAt_n (by omega)]
      have a1 : ∀ d, ev d 5 [.ref r, .int (nI (k + 1))] (hs S V) = some (some (.int (ys.getD (k + 1) 0)), hs S V) := fun d => by rw [ev_at H, rAt_n (by omega)]
      have k2 : nI k + 2 = nI (k + 2) := nI_add k 2
      have ih' := fun l4 => ih (k + 2) l4 (by omega) (by omega)
      rw [if_pos c0]
      simp only [x_Settings_someWayGoes_3, x_Settings_someWayGoes_4, x_Settings_someWayGoes_5, x_Settings_someWayGoes_6, x_Settings_someWayGoes_9, x_Settings_someWayGoes_12, x_Settings_someWayGoes_13, x_Settings_someWayGoes_14, x_Settings_someWayGoes_17, x_Settings_someWayGoes_19, x_Settings_someWayGoes_20, x_Settings_someWayGoes_21, x_Settings_someWayGoes_22, x_Settings_someWayGoes_23, x_Settings_someWayGoes_26, x_Settings_someWayGoes_27, x_Settings_someWayGoes_30, x_Settings_someWayGoes_33, x_Settings_someWayGoes_34, x_Settings_someWayGoes_36, x_Settings_someWayGoes_38, x_Settings_someWayGoes_39, x_Settings_someWayGoes_42, x_Settings_someWayGoes_45, x_Settings_someWayGoes_46, x_Settings_someWayGoes_47, x_Settings_someWayGoes_49, x_Settings_someWayGoes_51, x_Settings_someWayGoes_54, x_Settings_someWayGoes_55, x_Settings_someWayGoes_56, x_Settings_someWayGoes_59, x_Settings_someWayGoes_62, x_Settings_someWayGoes_63, nI_1, row_g1 H.1, H.2.1, c, if_true, row_is H.1, a0, a1, ev_isNow, i_71, ev_hasWay, k2, ih', nbz, nbo, ac_0, ac_i, ac_r, ac_ii, ac_ir, ac_ri, ac_rr, ac_iii, ac_iir, ac_iri, ac_irr, ac_rii, ac_rir, ac_rri, ac_rrr, Option.bind_some, Option.toList_some, Option.toList_none, List.nil_append, List.cons_append, not_false_eq_true]
      cases nowb (ys.getD (k + 1) 0) fl
      · simp [b2i]
      · cases hasb (S 71 2) (ys.getD k 0 &&& 127)
        · simp only [show b2i true = 1 from rfl, show b2i false = 0 from rfl, (by decide : ¬ (1 : Int32) = 0), if_true, if_false, Bool.false_eq_true]
          split <;> rfl
        · simp [b2i]
    · have c : ¬ nI (k + 1) < nI ys.length := nI_nlt (by omega) (by omega)
      rw [if_neg c0]
      simp only [x_Settings_someWayGoes_3, x_Settings_someWayGoes_4, x_Settings_someWayGoes_5, x_Settings_someWayGoes_6, x_Settings_someWayGoes_9, x_Settings_someWayGoes_62, x_Settings_someWayGoes_63, nI_1, row_g1 H.1, H.2.1, c, if_false, nbz, ac_0, ac_i, ac_r, ac_ii, ac_ir, ac_ri, ac_rr, ac_iii, ac_iir, ac_iri, ac_irr, ac_rii, ac_rir, ac_rri, ac_rrr, Option.bind_some, Option.toList_some, Option.toList_none, List.nil_append, List.cons_append, not_false_eq_true]
      rfl
theorem ev_someWay {r : Nat} {ys jk : List Int32} {fl : Bool} (H : Rw S V r ys jk) (h24 : ys.length ≤ 24) : ev (d + 1) 49 [.ref 71, .ref r, .int (b2i fl)] (hs S V) = some (some (.int (b2i (wgo ys fl (S 71 2) 13 0))), hs S V) := by
  have e := way_loop (d := d) (fl := fl) H h24 13 0 none (by omega) (by decide)
  rw [nI_0] at e
  rw [← e]
  simp only [e_Settings_someWayGoes, x_Settings_someWayGoes_0, x_Settings_someWayGoes_1]
theorem ev_signed {T : Nat → Int32} (I : IC S V it) (h4 : S 71 4 = T 4) : ev (d + 2) 48 [.ref 71, .ref 72] (hs S V) = some (some (.int (b2i (sgnb T it))), hs S V) := by
  obtain ⟨_, _, j1, r1, _⟩ := I 1 (by decide)
  obtain ⟨_, _, j2, r2, _⟩ := I 2 (by decide)
  obtain ⟨_, _, j3, r3, _⟩ := I 3 (by decide)
  obtain ⟨_, _, j4, r4, _⟩ := I 4 (by decide)
  obtain ⟨_, t5, j5, r5, _⟩ := I 5 (by decide)
  have s1 := fun z => ev_stirInto (d := d) (z := z) r1
  have s2 := fun z => ev_stirInto (d := d) (z := z) r2
  have s3 := fun z => ev_stirInto (d := d) (z := z) r3
  have s4 := fun z => ev_stirInto (d := d) (z := z) r4
  have i5 := ev_intAt (d := d) (i := nI 0) r5
  rw [int4_at (by decide)] at i5
  have i5' : ev (d + 1) 7 [.ref 84, .int 0] (hs S V) = some (some (.int (int4 (itv 5 (it 5)) 0)), hs S V) := i5
  have l5 : am_ld (hs S V) 86 1 5 = some (b2i (fit 5 (it 5))) := (ldN (j := 5) rfl (by decide)).trans t5
  have s1' : ∀ z, ev (d + 1) 8 [.ref 76, .int z] (hs S V) = some (some (.int (stirs z (itv 1 (it 1)))), hs S V) := s1
  have s2' : ∀ z, ev (d + 1) 8 [.ref 78, .int z] (hs S V) = some (some (.int (stirs z (itv 2 (it 2)))), hs S V) := s2
  have s3' : ∀ z, ev (d + 1) 8 [.ref 80, .int z] (hs S V) = some (some (.int (stirs z (itv 3 (it 3)))), hs S V) := s3
  have s4' : ∀ z, ev (d + 1) 8 [.ref 82, .int z] (hs S V) = some (some (.int (stirs z (itv 4 (it 4)))), hs S V) := s4
  simp only [e_Settings_isSigned, x_Settings_isSigned_0, x_Settings_isSigned_1, x_Settings_isSigned_4, x_Settings_isSigned_5, x_Settings_isSigned_6, g_71_4, h4, ac_0, ac_i, ac_r, ac_ii, ac_ir, ac_ri, ac_rr, ac_iii, ac_iir, ac_iri, ac_irr, ac_rii, ac_rir, ac_rri, ac_rrr, Option.bind_some, Option.toList_some, Option.toList_none, List.nil_append, List.cons_append, not_false_eq_true]
  rw [x_Settings_isSigned_7]
  simp only [x_Settings_isSigned_8, x_Settings_isSigned_9, x_Settings_isSigned_12, x_Settings_isSigned_13, x_Settings_isSigned_16, x_Settings_isSigned_17, x_Settings_isSigned_18, x_Settings_isSigned_19, x_Settings_isSigned_22, x_Settings_isSigned_23, x_Settings_isSigned_26, (by decide : ¬ (4 : Int32) < 1), if_false, g_72_0, q_73_1, i_76, s1', (by decide : (1 : Int32) + 1 = 2), ac_0, ac_i, ac_r, ac_ii, ac_ir, ac_ri, ac_rr, ac_iii, ac_iir, ac_iri, ac_irr, ac_rii, ac_rir, ac_rri, ac_rrr, Option.bind_some, Option.toList_some, Option.toList_none, List.nil_append, List.cons_append, not_false_eq_true]
  rw [x_Settings_isSigned_7]
  simp only [x_Settings_isSigned_8, x_Settings_isSigned_9, x_Settings_isSigned_12, x_Settings_isSigned_13, x_Settings_isSigned_16, x_Settings_isSigned_17, x_Settings_isSigned_18, x_Settings_isSigned_19, x_Settings_isSigned_22, x_Settings_isSigned_23, x_Settings_isSigned_26, (by decide : ¬ (4 : Int32) < 2), if_false, g_72_0, q_73_2, i_78, s2', (by decide : (2 : Int32) + 1 = 3), ac_0, ac_i, ac_r, ac_ii, ac_ir, ac_ri, ac_rr, ac_iii, ac_iir, ac_iri, ac_irr, ac_rii, ac_rir, ac_rri, ac_rrr, Option.bind_some, Option.toList_some, Option.toList_none, List.nil_append, List.cons_append, not_false_eq_true]
  rw [x_Settings_isSigned_7]
  simp only [x_Settings_isSigned_8, x_Settings_isSigned_9, x_Settings_isSigned_12, x_Settings_isSigned_13, x_Settings_isSigned_16, x_Settings_isSigned_17, x_Settings_isSigned_18, x_Settings_isSigned_19, x_Settings_isSigned_22, x_Settings_isSigned_23, x_Settings_isSigned_26, (by decide : ¬ (4 : Int32) < 3), if_false, g_72_0, q_73_3, i_80, s3', (by decide : (3 : Int32) + 1 = 4), ac_0, ac_i, ac_r, ac_ii, ac_ir, ac_ri, ac_rr, ac_iii, ac_iir, ac_iri, ac_irr, ac_rii, ac_rir, ac_rri, ac_rrr, Option.bind_some, Option.toList_some, Option.toList_none, List.nil_append, List.cons_append, not_false_eq_true]
  rw [x_Settings_isSigned_7]
  simp only [x_Settings_isSigned_8, x_Settings_isSigned_9, x_Settings_isSigned_12, x_Settings_isSigned_13, x_Settings_isSigned_16, x_Settings_isSigned_17, x_Settings_isSigned_18, x_Settings_isSigned_19, x_Settings_isSigned_22, x_Settings_isSigned_23, x_Settings_isSigned_26, (by decide : ¬ (4 : Int32) < 4), if_false, g_72_0, q_73_4, i_82, s4', (by decide : (4 : Int32) + 1 = 5), ac_0, ac_i, ac_r, ac_ii, ac_ir, ac_ri, ac_rr, ac_iii, ac_iir, ac_iri, ac_irr, ac_rii, ac_rir, ac_rri, ac_rrr, Option.bind_some, Option.toList_some, Option.toList_none, List.nil_append, List.cons_append, not_false_eq_true]
  rw [x_Settings_isSigned_7]
  simp only [x_Settings_isSigned_8, x_Settings_isSigned_9, x_Settings_isSigned_29, x_Settings_isSigned_30, x_Settings_isSigned_33, x_Settings_isSigned_34, x_Settings_isSigned_35, x_Settings_isSigned_38, x_Settings_isSigned_39, x_Settings_isSigned_42, x_Settings_isSigned_43, x_Settings_isSigned_44, x_Settings_isSigned_45, x_Settings_isSigned_48, x_Settings_isSigned_49, x_Settings_isSigned_52, x_Settings_isSigned_53, x_Settings_isSigned_56, x_Settings_isSigned_57, (by decide : (4 : Int32) < 5), if_true, g_72_1, g_72_0, l5, q_73_5, i_84, i5', nbz, nbo, ac_0, ac_i, ac_r, ac_ii, ac_ir, ac_ri, ac_rr, ac_iii, ac_iir, ac_iri, ac_irr, ac_rii, ac_rir, ac_rri, ac_rrr, Option.bind_some, Option.toList_some, Option.toList_none, List.nil_append, List.cons_append, not_false_eq_true]
  unfold sgnb
  cases fit 5 (it 5)
  · simp [b2i]
  · simp only [show b2i true = 1 from rfl, (by decide : ¬ (1 : Int32) = 0), if_false, Bool.true_and]
    by_cases hh : int4 (itv 5 (it 5)) 0 = stirs (stirs (stirs (stirs (T 4) (itv 1 (it 1))) (itv 2 (it 2))) (itv 3 (it 3))) (itv 4 (it 4))
    · rw [if_pos hh, decide_eq_true hh]; rfl
    · rw [if_neg hh, decide_eq_false hh]; rfl
theorem ev_typeFor {r : Nat} {cs jk : List Int32} {fi : Int32} {T : Nat → Int32} (H : Rw S V r cs jk) (h3 : S 71 3 = T 3) : ev (d + 1) 47 [.ref 71, .int fi, .ref r] (hs S V) = some (some (.int (typ T cs fi)), hs S V) := by
  have a0 : ∀ d, ev d 5 [.ref r, .int 0] (hs S V) = some (some (.int (cs.getD 0 0)), hs S V) := fun d => by rw [ev_at H]; exact congrArg (fun x => some (some (Value.int x), hs S V)) (rAt_n (n := 0) (by decide))
  have a1 : ∀ d, ev d 5 [.ref r, .int 1] (hs S V) = some (some (.int (cs.getD 1 0)), hs S V) := fun d => by rw [ev_at H]; exact congrArg (fun x => some (some (Value.int x), hs S V)) (rAt_n (n := 1) (by decide))
  have a2 : ∀ d, ev d 5 [.ref r, .int 2] (hs S V) = some (some (.int (cs.getD 2 0)), hs S V) := fun d => by rw [ev_at H]; exact congrArg (fun x => some (some (Value.int x), hs S V)) (rAt_n (n := 2) (by decide))
  simp only [e_Settings_typeFor, x_Settings_typeFor_0, x_Settings_typeFor_1, x_Settings_typeFor_2, x_Settings_typeFor_3, x_Settings_typeFor_6, x_Settings_typeFor_7, x_Settings_typeFor_10, x_Settings_typeFor_11, x_Settings_typeFor_12, x_Settings_typeFor_13, x_Settings_typeFor_14, x_Settings_typeFor_15, x_Settings_typeFor_18, x_Settings_typeFor_19, x_Settings_typeFor_22, x_Settings_typeFor_23, x_Settings_typeFor_24, x_Settings_typeFor_25, x_Settings_typeFor_28, x_Settings_typeFor_31, x_Settings_typeFor_32, x_Settings_typeFor_33, x_Settings_typeFor_34, x_Settings_typeFor_35, x_Settings_typeFor_36, x_Settings_typeFor_39, x_Settings_typeFor_40, x_Settings_typeFor_43, x_Settings_typeFor_44, x_Settings_typeFor_47, x_Settings_typeFor_48, row_is H.1, a0, a1, a2, g_71_3, h3, ac_0, ac_i, ac_r, ac_ii, ac_ir, ac_ri, ac_rr, ac_iii, ac_iir, ac_iri, ac_irr, ac_rii, ac_rir, ac_rri, ac_rrr, Option.bind_some, Option.toList_some, Option.toList_none, List.nil_append, List.cons_append, not_false_eq_true]
  unfold typ
  split
  · split
    · rfl
    · split
      · split <;> rfl
      · rfl
  · rfl
theorem ev_findings {T : Nat → Int32} {am rnd day : Int32} (I : IC S V it) (hT : ∀ k, k < 6 → S 71 k = T k) : ev (d + 3) 46 [.ref 71, .ref 72, .int am, .int rnd, .int day] (hs S V) = some (some (.int (fnd T it am rnd day)), hs S V) := by
  obtain ⟨_, _, j1, r1, _⟩ := I 1 (by decide)
  obtain ⟨_, t2, j2, r2, _⟩ := I 2 (by decide)
  obtain ⟨_, t3, j3, r3, l3⟩ := I 3 (by decide)
  have es := ev_signed (d := d) (T := T) I (hT 4 (by decide))
  have ep := ev_pairAt (d := d + 1) (i := nI 0) r1
  have ep' : ev (d + 2) 6 [.ref 76, .int 0] (hs S V) = some (some (.int (pair2 (itv 1 (it 1)) 0)), hs S V) := by
    have q : (rAt (itv 1 (it 1)) (nI 0) <<< ((8 : Int32) &&& 31)) ||| rAt (itv 1 (it 1)) (nI 0 + 1) = pair2 (itv 1 (it 1)) 0 := by
      rw [nI_1, rAt_n (by decide), rAt_n (by decide)]; rfl
    rw [q] at ep; exact ep
  have a2 : ∀ d, ev d 5 [.ref 78, .int 0] (hs S V) = some (some (.int ((itv 2 (it 2)).getD 0 0)), hs S V) := fun d => by
    have := ev_at (d := d) (i := nI 0) r2
    rw [rAt_n (by decide)] at this; exact this
  have b2 : am_ld (hs S V) 86 1 2 = some (b2i (fit 2 (it 2))) := (ldN (j := 2) rfl (by decide)).trans t2
  have b3 : am_ld (hs S V) 86 1 3 = some (b2i (fit 3 (it 3))) := (ldN (j := 3) rfl (by decide)).trans t3
  have ew := fun fl : Bool => ev_someWay (d := d + 1) (fl := fl) r3 (by omega)
  have w2 : S 71 2 = T 2 := hT 2 (by decide)
  have w0 : S 71 0 = T 0 := hT 0 (by decide)
  have w1 : S 71 1 = T 1 := hT 1 (by decide)
  rw [w2] at ew
  have ew' : ∀ fl : Bool, ev (d + 2) 49 [.ref 71, .ref 80, .int (b2i fl)] (hs S V) = some (some (.int (b2i (wgo (itv 3 (it 3)) fl (T 2) 13 0))), hs S V) := ew
  have G1 : ev (d + 3) 46 [.ref 71, .ref 72, .int am, .int rnd, .int day] (hs S V) = rn (d + 3) 46 14 [some (.ref 71), some (.ref 72), some (.int am), some (.int rnd), some (.int day), some (.int (fa (!sgnb T it) 0 1))] [] (hs S V) := by
    simp only [e_Settings_findingsOf, x_Settings_findingsOf_0, x_Settings_findingsOf_1, x_Settings_findingsOf_3, x_Settings_findingsOf_4, x_Settings_findingsOf_5, x_Settings_findingsOf_8, x_Settings_findingsOf_11, i_71, es, ac_0, ac_i, ac_r, ac_ii, ac_ir, ac_ri, ac_rr, ac_iii, ac_iir, ac_iri, ac_irr, ac_rii, ac_rir, ac_rri, ac_rrr, Option.bind_some, Option.toList_some, Option.toList_none, List.nil_append, List.cons_append, not_false_eq_true]
    cases sgnb T it <;> rfl
  have G2 : ∀ s, rn (d + 3) 46 14 [some (.ref 71), some (.ref 72), some (.int am), some (.int rnd), some (.int day), some (.int s)] [] (hs S V) = rn (d + 3) 46 32 [some (.ref 71), some (.ref 72), some (.int am), some (.int rnd), some (.int day), some (.int (fa (decide (pair2 (itv 1 (it 1)) 0 < day)) s 2))] [] (hs S V) := fun s => by
    simp only [x_Settings_findingsOf_14, x_Settings_findingsOf_15, x_Settings_findingsOf_18, x_Settings_findingsOf_19, x_Settings_findingsOf_20, x_Settings_findingsOf_21, x_Settings_findingsOf_24, x_Settings_findingsOf_26, x_Settings_findingsOf_29, g_72_0, q_73_1, i_76, ep', ac_0, ac_i, ac_r, ac_ii, ac_ir, ac_ri, ac_rr, ac_iii, ac_iir, ac_iri, ac_irr, ac_rii, ac_rir, ac_rri, ac_rrr, Option.bind_some, Option.toList_some, Option.toList_none, List.nil_append, List.cons_append, not_false_eq_true]
    by_cases h : pair2 (itv 1 (it 1)) 0 < day
    · rw [if_pos h, decide_eq_true h]; rfl
    · rw [if_neg h, decide_eq_false h]; rfl
  have G3 : ∀ s, rn (d + 3) 46 32 [some (.ref 71), some (.ref 72), some (.int am), some (.int rnd), some (.int day), some (.int s)] [] (hs S V) = rn (d + 3) 46 61 [some (.ref 71), some (.ref 72), some (.int am), some (.int rnd), some (.int day), some (.int (fa (fit 2 (it 2) && decide (¬ (itv 2 (it 2)).getD 0 0 = T 0)) s 4))] [] (hs S V) := fun s => by
    simp only [x_Settings_findingsOf_32, x_Settings_findingsOf_33, x_Settings_findingsOf_36, x_Settings_findingsOf_37, x_Settings_findingsOf_38, x_Settings_findingsOf_41, x_Settings_findingsOf_42, x_Settings_findingsOf_45, x_Settings_findingsOf_46, x_Settings_findingsOf_47, x_Settings_findingsOf_48, x_Settings_findingsOf_51, x_Settings_findingsOf_52, x_Settings_findingsOf_55, x_Settings_findingsOf_58, g_72_1, b2, g_72_0, q_73_2, i_78, a2, g_71_0, w0, ac_0, ac_i, ac_r, ac_ii, ac_ir, ac_ri, ac_rr, ac_iii, ac_iir, ac_iri, ac_irr, ac_rii, ac_rir, ac_rri, ac_rrr, Option.bind_some, Option.toList_some, Option.toList_none, List.nil_append, List.cons_append, not_false_eq_true]
    cases fit 2 (it 2)
    · rfl
    · simp only [show b2i true = 1 from rfl, (by decide : ¬ (1 : Int32) = 0), if_false, Bool.true_and]
      by_cases h : (itv 2 (it 2)).getD 0 0 = T 0
      · rw [if_pos h, decide_eq_false (not_not_intro h)]; rfl
      · rw [if_neg h, decide_eq_true h]; rfl
  have G4 : ∀ s, rn (d + 3) 46 61 [some (.ref 71), some (.ref 72), some (.int am), some (.int rnd), some (.int day), some (.int s)] [] (hs S V) = rn (d + 3) 46 90 [some (.ref 71), some (.ref 72), some (.int am), some (.int rnd), some (.int day), some (.int (fa (!wgo (itv 3 (it 3)) (decide (¬ am < T 1)) (T 2) 13 0) s 8))] [] (hs S V) := fun s => by
    by_cases h : am < T 1
    · rw [decide_eq_false (not_not_intro h)]
      have e' : ev (d + 2) 49 [.ref 71, .ref 80, .int 0] (hs S V) = some (some (.int (b2i (wgo (itv 3 (it 3)) false (T 2) 13 0))), hs S V) := ew' false
      simp only [x_Settings_findingsOf_61, x_Settings_findingsOf_62, x_Settings_findingsOf_63, x_Settings_findingsOf_66, x_Settings_findingsOf_67, x_Settings_findingsOf_68, x_Settings_findingsOf_69, x_Settings_findingsOf_70, x_Settings_findingsOf_73, x_Settings_findingsOf_76, x_Settings_findingsOf_77, x_Settings_findingsOf_80, x_Settings_findingsOf_81, x_Settings_findingsOf_84, x_Settings_findingsOf_87, g_72_0, q_73_3, g_71_1, w1, h, if_true, i_71, e', ac_0, ac_i, ac_r, ac_ii, ac_ir, ac_ri, ac_rr, ac_iii, ac_iir, ac_iri, ac_irr, ac_rii, ac_rir, ac_rri, ac_rrr, Option.bind_some, Option.toList_some, Option.toList_none, List.nil_append, List.cons_append, not_false_eq_true]
      cases wgo (itv 3 (it 3)) false (T 2) 13 0 <;> rfl
    · rw [decide_eq_true h]
      have e' : ev (d + 2) 49 [.ref 71, .ref 80, .int 1] (hs S V) = some (some (.int (b2i (wgo (itv 3 (it 3)) true (T 2) 13 0))), hs S V) := ew' true
      simp only [x_Settings_findingsOf_61, x_Settings_findingsOf_62, x_Settings_findingsOf_63, x_Settings_findingsOf_66, x_Settings_findingsOf_67, x_Settings_findingsOf_68, x_Settings_findingsOf_69, x_Settings_findingsOf_70, x_Settings_findingsOf_73, x_Settings_findingsOf_76, x_Settings_findingsOf_77, x_Settings_findingsOf_80, x_Settings_findingsOf_81, x_Settings_findingsOf_84, x_Settings_findingsOf_87, g_72_0, q_73_3, g_71_1, w1, h, if_false, i_71, e', ac_0, ac_i, ac_r, ac_ii, ac_ir, ac_ri, ac_rr, ac_iii, ac_iir, ac_iri, ac_irr, ac_rii, ac_rir, ac_rri, ac_rrr, Option.bind_some, Option.toList_some, Option.toList_none, List.nil_append, List.cons_append, not_false_eq_true]
      cases wgo (itv 3 (it 3)) true (T 2) 13 0 <;> rfl
  have G5 : ∀ s, rn (d + 3) 46 90 [some (.ref 71), some (.ref 72), some (.int am), some (.int rnd), some (.int day), some (.int s)] [] (hs S V) = rn (d + 3) 46 101 [some (.ref 71), some (.ref 72), some (.int am), some (.int rnd), some (.int day), some (.int (fa (decide (¬ am < T 1)) s 16))] [] (hs S V) := fun s => by
    simp only [x_Settings_findingsOf_90, x_Settings_findingsOf_91, x_Settings_findingsOf_92, x_Settings_findingsOf_95, x_Settings_findingsOf_98, g_71_1, w1, ac_0, ac_i, ac_r, ac_ii, ac_ir, ac_ri, ac_rr, ac_iii, ac_iir, ac_iri, ac_irr, ac_rii, ac_rir, ac_rri, ac_rrr, Option.bind_some, Option.toList_some, Option.toList_none, List.nil_append, List.cons_append, not_false_eq_true]
    by_cases h : am < T 1
    · rw [if_pos h, decide_eq_false (not_not_intro h)]; rfl
    · rw [if_neg h, decide_eq_true h]; rfl
  have G6 : ∀ s, rn (d + 3) 46 101 [some (.ref 71), some (.ref 72), some (.int am), some (.int rnd), some (.int day), some (.int s)] [] (hs S V) = rn (d + 3) 46 111 [some (.ref 71), some (.ref 72), some (.int am), some (.int rnd), some (.int day), some (.int (fa (decide (rnd &&& 7 = 0)) s 32))] [] (hs S V) := fun s => by
    simp only [x_Settings_findingsOf_101, x_Settings_findingsOf_102, x_Settings_findingsOf_104, x_Settings_findingsOf_105, x_Settings_findingsOf_108]
    by_cases h : rnd &&& 7 = 0
    · rw [if_pos h, decide_eq_true h]; rfl
    · rw [if_neg h, decide_eq_false h]; rfl
  have G7 : ∀ s, rn (d + 3) 46 111 [some (.ref 71), some (.ref 72), some (.int am), some (.int rnd), some (.int day), some (.int s)] [] (hs S V) = some (some (.int (fa (!(fit 2 (it 2) && fit 3 (it 3))) s 64)), hs S V) := fun s => by
    simp only [x_Settings_findingsOf_111, x_Settings_findingsOf_112, x_Settings_findingsOf_115, x_Settings_findingsOf_116, x_Settings_findingsOf_117, x_Settings_findingsOf_120, x_Settings_findingsOf_121, x_Settings_findingsOf_124, x_Settings_findingsOf_125, x_Settings_findingsOf_126, x_Settings_findingsOf_129, x_Settings_findingsOf_132, x_Settings_findingsOf_134, g_72_1, b2, b3, ac_0, ac_i, ac_r, ac_ii, ac_ir, ac_ri, ac_rr, ac_iii, ac_iir, ac_iri, ac_irr, ac_rii, ac_rir, ac_rri, ac_rrr, Option.bind_some, Option.toList_some, Option.toList_none, List.nil_append, List.cons_append, not_false_eq_true]
    cases fit 2 (it 2)
    · rfl
    · cases fit 3 (it 3) <;> rfl
  rw [G1, G2, G3, G4, G5, G6, G7]
  rfl
end FIND
