/-! a card obeys: what both sides do -/
def int4 (xs : List Int32) (i : Nat) : Int32 := (((xs.getD i 0 <<< ((24 : Int32) &&& 31)) ||| (xs.getD (i + 1) 0 <<< ((16 : Int32) &&& 31))) ||| (xs.getD (i + 2) 0 <<< ((8 : Int32) &&& 31))) ||| xs.getD (i + 3) 0
def dT (cap runs lim ty am : Int32) : Int32 := if cap < am then 0 else if ty = 2 ∧ ¬ runs < lim then 1 else ty
def dN (runs ty : Int32) : Int32 := if ty = 2 then runs + 1 else if ty = 1 then 0 else runs
def exT (C : st_S) (j : Nat) (cmd : List Int32) : Int32 := dT (C j 8) (C j 10) (C j 9) (cmd.getD 1 0) (int4 cmd 2)
def exC (C : st_S) (j : Nat) : Int32 := (C j 7 + 1) &&& 65535
def exH (C : st_S) (j : Nat) (cmd : List Int32) : Int32 := stir (stir (stir (stir (stir (C j 5) (exT C j cmd)) (exC C j)) (int4 cmd 2)) (int4 cmd 6)) (cmd.getD 10 0)
/-- the cards, and the answer, after a command -/
def exe (C : st_S) (R : st_V) (j : Nat) (cmd : List Int32) : st_S × List Int32 :=
  if cmd.getD 0 0 = 1 then (uS C j 11 (C j 11 + 1), [C j 4])
  else if cmd.getD 0 0 = 2 then (uS C j 11 (C j 11 + 1), [cnt3 (nI (R (3 * j)).length) (nI (R (3 * j + 1)).length) (nI (R (3 * j + 2)).length)])
  else if cmd.getD 0 0 = 3 then (uS C j 11 (C j 11 + 1), R (3 * j + (cmd.getD 1 0).toNatClampNeg))
  else (uS (uS (uS C j 11 (C j 11 + 1)) j 7 (exC C j)) j 10 (dN (C j 10) (exT C j cmd)), [exT C j cmd, am_ush (exC C j) 8, exC C j &&& 255] ++ oct4 (exH C j cmd))
def okc (cmd : List Int32) : Prop := cmd.getD 0 0 = 1 ∨ cmd.getD 0 0 = 2 ∨ (cmd.getD 0 0 = 3 ∧ ∃ r, r < 3 ∧ cmd.getD 1 0 = nI r) ∨ cmd.getD 0 0 = 4
def rwS (r a _k : Nat) : Prop := a = r
def rwV (r a : Nat) : Prop := a = r + 1
section RWX
variable {S : st_S} {V : st_V} {r o : Nat} {xs jk ys kk : List Int32}
theorem rw_addX {v : Int32} (H : Rw S V r xs jk) (h : 0 < jk.length) : ∃ S' V' jk', (∀ d, ev d 2 [.ref r, .int v] (hs S V) = some (none, hs S' V')) ∧ Rw S' V' r (xs ++ [v]) jk' ∧ jk'.length + 1 = jk.length ∧ Fm (rwS r) (rwV r) S V S' V' := by
  cases jk with
  | nil => exact absurd h (by decide)
  | cons x jk =>
    refine ⟨_, _, jk, fun d => ev_add H, rw_add H, rfl, ((Fm.refl S V).us (show rwS r r 1 from rfl)).uv (show rwV r (r + 1) from rfl) ?_⟩
    rw [H.2.2.1]; simp
theorem rw_addIntX {v : Int32} (H : Rw S V r xs jk) (h : 4 ≤ jk.length) : ∃ S' V' jk', (∀ d, ev (d + 1) 3 [.ref r, .int v] (hs S V) = some (none, hs S' V')) ∧ Rw S' V' r (xs ++ oct4 v) jk' ∧ jk'.length + 4 = jk.length ∧ Fm (rwS r) (rwV r) S V S' V' := by
  match jk, h with
  | x0 :: x1 :: x2 :: x3 :: jk, _ =>
    refine ⟨_, _, jk, fun d => ev_addInt H, rw_addInt H, by simp, ((Fm.refl S V).us (show rwS r r 1 from rfl)).uv (show rwV r (r + 1) from rfl) ?_⟩
    rw [H.2.2.1]; simp [oct4]
theorem rw_addPartX (H : Rw S V r xs jk) (Ho : Rw S V o ys kk) (hro : ¬ o = r) (h : ys.length ≤ jk.length) : ∃ S' V' jk', (∀ d, ev (d + 1) 4 [.ref r, .ref o, .int 0, .int (nI ys.length)] (hs S V) = some (none, hs S' V')) ∧ Rw S' V' r (xs ++ ys) jk' ∧ jk'.length + ys.length = jk.length ∧ Fm (rwS r) (rwV r) S V S' V' := by
  have hl := Ho.2.2.2
  have e := fun d => ev_addPart (d := d) (f := 0) (m := ys.length) H Ho hro (by omega) h
  have e2 := rw_addPart (f := 0) (ys := ys) (m := ys.length) H h
  have pe : part ys 0 ys.length = ys := by rw [part_eq _ _ _ (by omega), List.drop_zero, List.take_length]
  rw [pe] at e2
  simp only [pe, Nat.zero_add, nI_0] at e
  refine ⟨_, _, jk.drop ys.length, e, e2, by rw [List.length_drop]; omega, ((Fm.refl S V).us (show rwS r r 1 from rfl)).uv (show rwV r (r + 1) from rfl) ?_⟩
  rw [H.2.2.1]; simp; omega
end RWX
def obS (b a k : Nat) : Prop := (a = b ∧ (k = 7 ∨ k = 10 ∨ k = 11)) ∨ a = b + 13
def obV (b a : Nat) : Prop := a = b + 14
section OBEY
variable {d : Nat} {S : st_S} {V : st_V} {b j : Nat} {C : st_S} {R : st_V} {F : List Int32} {J : st_J} {T P : Nat → Int32}
theorem ev_decide {ty am : Int32} (H : Crd b) : ev d 20 [.ref b, .int ty, .int am] (hs S V) = some (some (.int (dT (S b 8) (S b 10) (S b 9) ty am)), hs (uS (uS S b 7 ((S b 7 + 1) &&& 65535)) b 10 (dN (S b 10) (dT (S b 8) (S b 10) (S b 9) ty am))) V) := by
  have k8 : ∀ v, uS S b 7 v b 8 = S b 8 := fun v => uS_ne (by omega)
  have k9 : ∀ v, uS S b 7 v b 9 = S b 9 := fun v => uS_ne (by omega)
  have k10 : ∀ v, uS S b 7 v b 10 = S b 10 := fun v => uS_ne (by omega)
  have sm : ∀ v, uS (uS S b 7 v) b 10 (S b 10) = uS S b 7 v := fun v => uS_same (k10 v).symm
  unfold dN dT
  simp only [e_Card_decide, x_Card_decide_0, x_Card_decide_1, x_Card_decide_2, x_Card_decide_5, x_Card_decide_6, x_Card_decide_7, x_Card_decide_9, x_Card_decide_10, x_Card_decide_13, x_Card_decide_14, x_Card_decide_15, x_Card_decide_16, x_Card_decide_17, x_Card_decide_20, x_Card_decide_23, x_Card_decide_24, x_Card_decide_25, x_Card_decide_28, x_Card_decide_29, x_Card_decide_30, x_Card_decide_33, x_Card_decide_34, x_Card_decide_37, x_Card_decide_38, x_Card_decide_41, x_Card_decide_44, x_Card_decide_45, x_Card_decide_46, x_Card_decide_47, x_Card_decide_48, x_Card_decide_51, x_Card_decide_52, x_Card_decide_52', x_Card_decide_53, x_Card_decide_56, x_Card_decide_57, x_Card_decide_58, x_Card_decide_61, x_Card_decide_64, x_Card_decide_65, x_Card_decide_66, x_Card_decide_69, x_Card_decide_70, x_Card_decide_71, x_Card_decide_74, x_Card_decide_75, cg_7 H, cg_8 H, cg_9 H, cg_10 H, cp_7 H, cp_10 H, k8, k9, k10, ac_0, ac_i, ac_r, ac_ii, ac_ir, ac_ri, ac_rr, ac_iii, ac_iir, ac_iri, ac_irr, ac_rii, ac_rir, ac_rri, ac_rrr, Option.bind_some, Option.toList_some, Option.toList_none, List.nil_append, List.cons_append, not_false_eq_true]
  by_cases h1 : S b 8 < am
  · simp only [if_pos h1, (by decide : ¬ (0 : Int32) = 2), (by decide : ¬ (0 : Int32) = 1), if_false, sm]
  · simp only [if_neg h1]
    by_cases h2 : ty = 2
    · subst h2
      by_cases h3 : S b 10 < S b 9
      · simp only [if_pos h3, true_and, h3, not_true_eq_false, if_true, if_false]
      · simp only [if_neg h3, true_and, h3, not_false_eq_true, if_true, (by decide : ¬ (1 : Int32) = 2), if_false]
    · simp only [if_neg h2, h2, false_and, if_false]
      by_cases h3 : ty = 1
      · simp only [if_pos h3]
      · simp only [if_neg h3, sm]
theorem ev_mixture {ty am rnd fi : Int32} (H : Crd b) : ev (d + 1) 21 [.ref b, .int ty, .int am, .int rnd, .int fi] (hs S V) = some (some (.int (stir (stir (stir (stir (stir (S b 5) ty) (S b 7)) am) rnd) fi)), hs S V) := by
  simp only [e_Card_mixtureOf, x_Card_mixtureOf_0, x_Card_mixtureOf_1, x_Card_mixtureOf_4, x_Card_mixtureOf_5, x_Card_mixtureOf_8, x_Card_mixtureOf_9, x_Card_mixtureOf_12, x_Card_mixtureOf_15, x_Card_mixtureOf_17, x_Card_mixtureOf_19, x_Card_mixtureOf_20, x_Card_mixtureOf_23, x_Card_mixtureOf_24, x_Card_mixtureOf_27, x_Card_mixtureOf_29, x_Card_mixtureOf_32, cg_5 H, cg_7 H, ev_stir, ac_0, ac_i, ac_r, ac_ii, ac_ir, ac_ri, ac_rr, ac_iii, ac_iir, ac_iri, ac_irr, ac_rii, ac_rir, ac_rri, ac_rrr, Option.bind_some, Option.toList_some, Option.toList_none, List.nil_append, List.cons_append, not_false_eq_true]
theorem CX.recRw {r : Nat} (X : CX S V C R F J T P) (hj : j < 4) (hr : r < 3) : ∃ jk, Rw S V (rr (cb j) r) (R (3 * j + r)) jk ∧ (R (3 * j + r)).length ≤ 24 := by
  obtain ⟨jk, e1, e2, e3⟩ := X.2.1 j hj r hr
  exact ⟨jk, ⟨rec_row (crd hj) hr, e3, e1, by omega⟩, by omega⟩
theorem int4_at {h : List Int32} {i : Nat} (hi : i + 3 < 100) : (((rAt h (nI i) <<< ((24 : Int32) &&& 31)) ||| (rAt h (nI i + 1) <<< ((16 : Int32) &&& 31))) ||| (rAt h (nI i + 2) <<< ((8 : Int32) &&& 31))) ||| rAt h (nI i + 3) = int4 h i := by
  rw [show (1 : Int32) = nI 1 from rfl, show (2 : Int32) = nI 2 from rfl, show (3 : Int32) = nI 3 from rfl, nI_add, nI_add, nI_add, rAt_n (by omega), rAt_n (by omega), rAt_n (by omega), rAt_n (by omega)]
  rfl
theorem ev_obey {cmd jk : List Int32} (X : CX S V C R F J T P) (hj : j < 4) (Hh : Rw S V (cb j + 11) cmd jk) (hc : okc cmd) : ∃ S' V' ja, ev (d + 3) 18 [.ref (cb j)] (hs S V) = some (none, hs S' V') ∧ CX S' V' (exe C R j cmd).1 R F J T P ∧ Rw S' V' (cb j + 13) (exe C R j cmd).2 ja ∧ Fm (obS (cb j)) (obV (cb j)) S V S' V' := by
  have H := crd hj
  have rH := H.2.2.2.2.2.2.2.1
  have rA := H.2.2.2.2.2.2.2.2
  have L24 : (V (cb j + 14)).length = 24 := by
    rcases j4 hj with rfl | rfl | rfl | rfl
    · exact X.len (by decide)
    · exact X.len (by decide)
    · exact X.len (by decide)
    · exact X.len (by decide)
  have L24' : (V (cb j + 13 + 1)).length = 24 := L24
  -- the command is counted, the answer emptied
  have e11 : S (cb j) 11 = C j 11 := X.1 j hj 11 (by decide)
  have X1 := X.setC (j := j) (k := 11) (v := C j 11 + 1) hj (by decide)
  have R2 := rw_clr (S := uS S (cb j) 11 (C j 11 + 1)) (V := V) rA (by omega)
  have F2 : Fm (obS (cb j)) (obV (cb j)) S V (uS (uS S (cb j) 11 (C j 11 + 1)) (cb j + 13) 1 0) V := ((Fm.refl S V).us (Or.inl ⟨rfl, by omega⟩)).us (Or.inr rfl)
  have X2 : CX (uS (uS S (cb j) 11 (C j 11 + 1)) (cb j + 13) 1 0) V (uS C j 11 (C j 11 + 1)) R F J T P := X1.fm ((Fm.refl _ _).us (by unfold prS cb; omega))
  generalize hS2 : uS (uS S (cb j) 11 (C j 11 + 1)) (cb j + 13) 1 0 = S2 at R2 F2 X2
  generalize hC2 : uS C j 11 (C j 11 + 1) = C2 at X2
  have H2 : Rw S2 V (cb j + 11) cmd jk := Hh.fm F2 (by unfold obS; omega) (by unfold obV; omega)
  have c2 : ∀ k, k < 11 → C2 j k = C j k := fun k hk => by rw [← hC2]; exact uS_ne (by omega)
  have s2 : ∀ k, k < 11 → S2 (cb j) k = C j k := fun k hk => (X2.1 j hj k (by omega)).trans (c2 k hk)
  have a0 : rAt cmd 0 = cmd.getD 0 0 := rAt_n (n := 0) (by decide)
  have a1 : rAt cmd 1 = cmd.getD 1 0 := rAt_n (n := 1) (by decide)
  have a10 : rAt cmd 10 = cmd.getD 10 0 := rAt_n (n := 10) (by decide)
  have head : ∀ {t : Option (Option Value × am_H)}, rn (d + 3) 18 25 [some (.ref (cb j)), none, none] [.int (cmd.getD 0 0)] (hs S2 V) = t → ev (d + 3) 18 [.ref (cb j)] (hs S V) = t := by
    intro t ht
    rw [← ht]
    simp only [e_Card_obey, x_Card_obey_0, x_Card_obey_1, x_Card_obey_1', x_Card_obey_2, x_Card_obey_5, x_Card_obey_6, x_Card_obey_7, x_Card_obey_10, x_Card_obey_11, x_Card_obey_14, x_Card_obey_17, x_Card_obey_18, x_Card_obey_21, x_Card_obey_22, cg_11 H, cp_11 H, e11, cg_16 H, cg_15 H, row_is rA, row_is rH, ev_clr rA, hS2, ev_at H2, a0, ac_0, ac_i, ac_r, ac_ii, ac_ir, ac_ri, ac_rr, ac_iii, ac_iir, ac_iri, ac_irr, ac_rii, ac_rir, ac_rri, ac_rrr, Option.bind_some, Option.toList_some, Option.toList_none, List.nil_append, List.cons_append, not_false_eq_true]
  have fp : ∀ {S' : st_S} {V' : st_V}, Fm (rwS (cb j + 13)) (rwV (cb j + 13)) S2 V S' V' → Fm (obS (cb j)) (obV (cb j)) S2 V S' V' := fun h => h.mono (fun a k z => Or.inr z) (fun a z => z)
  have fq : ∀ {S1 S' : st_S} {V1 V' : st_V}, Fm (rwS (cb j + 13)) (rwV (cb j + 13)) S1 V1 S' V' → Fm prS prV S1 V1 S' V' := fun h => h.mono (fun a k z => by unfold rwS at z; unfold prS cb at *; omega) (fun a z => by unfold rwV at z; unfold prV cb at *; omega)
  unfold exe
  rw [hC2]
  rcases hc with h | h | ⟨h, r, hr, h1⟩ | h
  · rw [if_pos h]
    obtain ⟨S3, V3, j3, e3, R3, _, F3⟩ := rw_addX (v := C j 4) R2 (by omega)
    refine ⟨S3, V3, j3, head ?_, X2.fm (fq F3), R3, F2.trans (fp F3)⟩
    rw [h]
    simp only [x_Card_obey_25, x_Card_obey_56, x_Card_obey_57, x_Card_obey_60, x_Card_obey_61, x_Card_obey_64, x_Card_obey_67, x_Card_obey_193, if_true, cg_16 H, cg_4 H, s2 4 (by decide), row_is rA, e3, ac_0, ac_i, ac_r, ac_ii, ac_ir, ac_ri, ac_rr, ac_iii, ac_iir, ac_iri, ac_irr, ac_rii, ac_rir, ac_rri, ac_rrr, Option.bind_some, Option.toList_some, Option.toList_none, List.nil_append, List.cons_append, not_false_eq_true]
  · rw [if_neg (by rw [h]; decide), if_pos h]
    have cr := ev_countRecords (d := d + 2) (S := S2) (V := V) H
    obtain ⟨k0, r0, _⟩ := X2.recRw hj (r := 0) (by decide)
    obtain ⟨k1, r1, _⟩ := X2.recRw hj (r := 1) (by decide)
    obtain ⟨k2, r2, _⟩ := X2.recRw hj (r := 2) (by decide)
    rw [r0.2.1, r1.2.1, r2.2.1] at cr
    simp only [Nat.add_zero] at cr
    obtain ⟨S3, V3, j3, e3, R3, _, F3⟩ := rw_addX (v := cnt3 (nI (R (3 * j)).length) (nI (R (3 * j + 1)).length) (nI (R (3 * j + 2)).length)) R2 (by omega)
    refine ⟨S3, V3, j3, head ?_, X2.fm (fq F3), R3, F2.trans (fp F3)⟩
    rw [h]
    simp only [x_Card_obey_25, x_Card_obey_70, x_Card_obey_71, x_Card_obey_74, x_Card_obey_75, x_Card_obey_78, x_Card_obey_81, x_Card_obey_193, if_true, if_false, (by decide : ¬ (2 : Int32) = 1), cg_16 H, c_is H, cr, row_is rA, e3, ac_0, ac_i, ac_r, ac_ii, ac_ir, ac_ri, ac_rr, ac_iii, ac_iir, ac_iri, ac_irr, ac_rii, ac_rir, ac_rri, ac_rrr, Option.bind_some, Option.toList_some, Option.toList_none, List.nil_append, List.cons_append, not_false_eq_true]
  · rw [if_neg (by rw [h]; decide), if_neg (by rw [h]; decide), if_pos h, h1, nI_clamp (by omega)]
    obtain ⟨k0, r0, hl⟩ := X2.recRw hj hr
    obtain ⟨S3, V3, j3, e3, R3, _, F3⟩ := rw_addPartX R2 r0 (by unfold rr; omega) (by omega)
    refine ⟨S3, V3, j3, head ?_, X2.fm (fq F3), R3, F2.trans (fp F3)⟩
    have er : ev (d + 2) 19 [.ref (cb j), .int (nI r)] (hs S2 V) = some (none, hs S3 V3) := by
      have w3 : ¬ wi (nI r) 3 = 0 := by
        have e : wi (nI r) 3 = 1 := wi_in (n := 3) hr (by decide)
        rw [e]; decide
      simp only [e_Card_addRecord, x_Card_addRecord_0, x_Card_addRecord_1, x_Card_addRecord_2, x_Card_addRecord_5, x_Card_addRecord_8, x_Card_addRecord_9, x_Card_addRecord_12, x_Card_addRecord_13, x_Card_addRecord_16, x_Card_addRecord_17, x_Card_addRecord_18, x_Card_addRecord_19, x_Card_addRecord_20, x_Card_addRecord_23, x_Card_addRecord_24, x_Card_addRecord_25, x_Card_addRecord_28, x_Card_addRecord_31, ev_isWithin, w3, if_false, cg_16 H, cg_12 H, ld_recs H hr, row_g1 r0.1, r0.2.1, row_is rA, e3, ac_0, ac_i, ac_r, ac_ii, ac_ir, ac_ri, ac_rr, ac_iii, ac_iir, ac_iri, ac_irr, ac_rii, ac_rir, ac_rri, ac_rrr, Option.bind_some, Option.toList_some, Option.toList_none, List.nil_append, List.cons_append, not_false_eq_true]
    rw [h]
    simp only [x_Card_obey_25, x_Card_obey_84, x_Card_obey_85, x_Card_obey_86, x_Card_obey_89, x_Card_obey_90, x_Card_obey_93, x_Card_obey_96, x_Card_obey_193, if_true, if_false, (by decide : ¬ (3 : Int32) = 1), (by decide : ¬ (3 : Int32) = 2), cg_15 H, row_is rH, ev_at H2, a1, h1, c_is H, er, ac_0, ac_i, ac_r, ac_ii, ac_ir, ac_ri, ac_rr, ac_iii, ac_iir, ac_iri, ac_irr, ac_rii, ac_rir, ac_rri, ac_rrr, Option.bind_some, Option.toList_some, Option.toList_none, List.nil_append, List.cons_append, not_false_eq_true]
  · rw [if_neg (by rw [h]; decide), if_neg (by rw [h]; decide), if_neg (by rw [h]; decide)]
    have i2 := ev_intAt (d := d + 1) (i := nI 2) H2
    rw [int4_at (by decide)] at i2
    have i2' : ev (d + 2) 7 [.ref (cb j + 11), .int 2] (hs S2 V) = some (some (.int (int4 cmd 2)), hs S2 V) := i2
    have ed := ev_decide (d := d + 2) (S := S2) (V := V) (ty := cmd.getD 1 0) (am := int4 cmd 2) H
    rw [s2 8 (by decide), s2 10 (by decide), s2 9 (by decide), s2 7 (by decide)] at ed
    have X3 := (X2.setC (j := j) (k := 7) (v := exC C j) hj (by decide)).setC (j := j) (k := 10) (v := dN (C j 10) (exT C j cmd)) hj (by decide)
    have F3 : Fm (obS (cb j)) (obV (cb j)) S2 V (uS (uS S2 (cb j) 7 (exC C j)) (cb j) 10 (dN (C j 10) (exT C j cmd))) V := ((Fm.refl _ _).us (Or.inl ⟨rfl, by omega⟩)).us (Or.inl ⟨rfl, by omega⟩)
    have R3 : Rw (uS (uS S2 (cb j) 7 (exC C j)) (cb j) 10 (dN (C j 10) (exT C j cmd))) V (cb j + 13) [] (V (cb j + 13 + 1)) := R2.cong (by rw [uS_ne (by omega), uS_ne (by omega)]) rfl
    have H3 := H2.fm F3 (by unfold obS; omega) (by unfold obV; omega)
    have s7 : uS (uS S2 (cb j) 7 (exC C j)) (cb j) 10 (dN (C j 10) (exT C j cmd)) (cb j) 7 = exC C j := by rw [uS_ne (by omega), uS_self]
    have s5 : uS (uS S2 (cb j) 7 (exC C j)) (cb j) 10 (dN (C j 10) (exT C j cmd)) (cb j) 5 = C j 5 := by rw [uS_ne (by omega), uS_ne (by omega)]; exact s2 5 (by decide)
    have ed' : ev (d + 2) 20 [.ref (cb j), .int (cmd.getD 1 0), .int (int4 cmd 2)] (hs S2 V) = some (some (.int (exT C j cmd)), hs (uS (uS S2 (cb j) 7 (exC C j)) (cb j) 10 (dN (C j 10) (exT C j cmd))) V) := ed
    generalize uS (uS S2 (cb j) 7 (exC C j)) (cb j) 10 (dN (C j 10) (exT C j cmd)) = S3 at X3 F3 R3 H3 s7 s5 ed'
    have fa : ∀ {S1 S' : st_S} {V1 V' : st_V}, Fm (rwS (cb j + 13)) (rwV (cb j + 13)) S1 V1 S' V' → S' (cb j) 7 = S1 (cb j) 7 ∧ S' (cb j) 5 = S1 (cb j) 5 := fun h => ⟨h.1 _ _ (by unfold rwS; omega), h.1 _ _ (by unfold rwS; omega)⟩
    obtain ⟨S4, V4, j4', e4, R4, l4, F4⟩ := rw_addX (v := exT C j cmd) R3 (by show 0 < (V (cb j + 14)).length; omega)
    obtain ⟨S5, V5, j5, e5, R5, l5, F5⟩ := rw_addX (v := am_ush (exC C j) 8) R4 (by have : (V (cb j + 13 + 1)).length = 24 := L24; omega)
    obtain ⟨S6, V6, j6, e6, R6, l6, F6⟩ := rw_addX (v := exC C j &&& 255) R5 (by have : (V (cb j + 13 + 1)).length = 24 := L24; omega)
    obtain ⟨S7, V7, j7, e7, R7, l7, F7⟩ := rw_addIntX (v := exH C j cmd) R6 (by have : (V (cb j + 13 + 1)).length = 24 := L24; omega)
    have G6 := (F4.trans F5).trans F6
    have H6 : Rw S6 V6 (cb j + 11) cmd jk := H3.fm G6 (by unfold rwS; omega) (by unfold rwV; omega)
    have i6 := ev_intAt (d := d + 1) (i := nI 6) H6
    rw [int4_at (by decide)] at i6
    have i6' : ev (d + 2) 7 [.ref (cb j + 11), .int 6] (hs S6 V6) = some (some (.int (int4 cmd 6)), hs S6 V6) := i6
    have t4 := (fa F4).1.trans s7
    have t5 := (fa F5).1.trans t4
    have em := ev_mixture (d := d + 1) (S := S6) (V := V6) (ty := exT C j cmd) (am := int4 cmd 2) (rnd := int4 cmd 6) (fi := cmd.getD 10 0) H
    rw [(fa G6).1.trans s7, (fa G6).2.trans s5] at em
    have em' : ev (d + 2) 21 [.ref (cb j), .int (exT C j cmd), .int (int4 cmd 2), .int (int4 cmd 6), .int (cmd.getD 10 0)] (hs S6 V6) = some (some (.int (exH C j cmd)), hs S6 V6) := em
    refine ⟨S7, V7, j7, head ?_, X3.fm (fq (G6.trans F7)), ?_, (F2.trans F3).trans ((G6.trans F7).mono (fun a k z => Or.inr z) (fun a z => z))⟩
    · rw [h]
      simp only [x_Card_obey_25, x_Card_obey_99, x_Card_obey_100, x_Card_obey_103, x_Card_obey_104, x_Card_obey_107, x_Card_obey_108, x_Card_obey_109, x_Card_obey_110, x_Card_obey_113, x_Card_obey_114, x_Card_obey_117, x_Card_obey_118, x_Card_obey_121, x_Card_obey_122, x_Card_obey_123, x_Card_obey_126, x_Card_obey_127, x_Card_obey_130, x_Card_obey_131, x_Card_obey_134, x_Card_obey_135, x_Card_obey_138, x_Card_obey_140, x_Card_obey_141, x_Card_obey_144, x_Card_obey_145, x_Card_obey_148, x_Card_obey_149, x_Card_obey_152, x_Card_obey_155, x_Card_obey_156, x_Card_obey_159, x_Card_obey_160, x_Card_obey_163, x_Card_obey_164, x_Card_obey_165, x_Card_obey_166, x_Card_obey_167, x_Card_obey_170, x_Card_obey_172, x_Card_obey_175, x_Card_obey_176, x_Card_obey_179, x_Card_obey_181, x_Card_obey_184, x_Card_obey_187, x_Card_obey_190, x_Card_obey_193, if_true, if_false, (by decide : ¬ (4 : Int32) = 1), (by decide : ¬ (4 : Int32) = 2), (by decide : ¬ (4 : Int32) = 3), cg_15 H, cg_16 H, row_is rH, row_is rA, i2', ac_iirr, ac_iiirr, ev_at H2, a1, c_is H, ed', e4, cg_7 H, t4, t5, e5, e6, i6', ev_at H6, a10, em', e7, ac_0, ac_i, ac_r, ac_ii, ac_ir, ac_ri, ac_rr, ac_iii, ac_iir, ac_iri, ac_irr, ac_rii, ac_rir, ac_rri, ac_rrr, Option.bind_some, Option.toList_some, Option.toList_none, List.nil_append, List.cons_append, not_false_eq_true]
    · have : [] ++ [exT C j cmd] ++ [am_ush (exC C j) 8] ++ [exC C j &&& 255] ++ oct4 (exH C j cmd) = [exT C j cmd, am_ush (exC C j) 8, exC C j &&& 255] ++ oct4 (exH C j cmd) := rfl
      rw [this] at R7
      exact R7
end OBEY
