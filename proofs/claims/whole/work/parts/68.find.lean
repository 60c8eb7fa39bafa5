/-! one address is found: the class -/
def aks (F : List Int32) (rd : Nat → Int32) (A : Nat → Nat) (n q : Nat) (k : st_J → Nat → Nat → Nat × st_J) (a : Nat) (J : st_J) : Nat × st_J :=
  if (clt F (gN rd A q n 4 0 none 0).1.isSome 2 (nI n) a J false).1 = true then
    if (gN rd A q n 4 0 none 0).2 = 0 then ((gN rd A q n 4 0 none 0).1.getD 0, (clt F (gN rd A q n 4 0 none 0).1.isSome 2 (nI n) a J false).2.2)
    else k (clt F (gN rd A q n 4 0 none 0).1.isSome 2 (nI n) a J false).2.2 (lz8 (gN rd A q n 4 0 none 0).2 + 1) (A ((gN rd A q n 4 0 none 0).1.getD 0) / 2 ^ (8 - lz8 (gN rd A q n 4 0 none 0).2) * 2)
  else (if n = 0 then 4 else 5, (clt F (gN rd A q n 4 0 none 0).1.isSome 2 (nI n) a J false).2.2)
/-- one address is found: which card answers alone, else 4 (no card) or 5 (lost) -/
def ak (F : List Int32) (rd : Nat → Int32) (A : Nat → Nat) : Nat → st_J → Nat → Nat → Nat × st_J
  | 0, J, _, _ => (5, J)
  | m + 1, J, n, q => aks F rd A n q (fun J' n' q' => ak F rd A m J' n' q') 3 J
theorem ak_s (F : List Int32) (rd : Nat → Int32) (A : Nat → Nat) (m : Nat) (J : st_J) (n q : Nat) : ak F rd A (m + 1) J n q = aks F rd A n q (ak F rd A m) 3 J := rfl
theorem clt_hd (F : List Int32) (p : Bool) (k x : Int32) : ∀ (m : Nat) (J : st_J) (hd : Bool), (clt F p k x m J hd).1 = (clt F p k x m J false).1 ∧ (clt F p k x m J hd).2.2 = (clt F p k x m J false).2.2 := by
  intro m
  induction m with
  | zero => intro J hd; exact ⟨rfl, rfl⟩
  | succ m ih =>
    intro J hd
    rw [clt_s, clt_s]
    split
    · exact ⟨rfl, rfl⟩
    · exact ⟨(ih _ _).1.trans (ih _ _).1.symm, (ih _ _).2.trans (ih _ _).2.symm⟩
theorem clt_L {F : List Int32} {p : Bool} {k x : Int32} : ∀ (m : Nat) (J : st_J) (hd : Bool), JL J → jn J + m ≤ 2000000 → JL (clt F p k x m J hd).2.2 ∧ jn (clt F p k x m J hd).2.2 ≤ jn J + m := by
  intro m
  induction m with
  | zero => intro J hd L _; exact ⟨L, Nat.le_refl _⟩
  | succ m ih =>
    intro J hd L hn
    rw [clt_s]
    split
    · exact ⟨nt_L L (by omega), by rw [nt_n]; omega⟩
    · have := ih (nt J k x 0) (hd || (p && decide (¬ flt F (jn J) = 1))) (nt_L L (by omega)) (by rw [nt_n]; omega)
      rw [nt_n] at this
      exact ⟨this.1, by omega⟩
theorem lzf : ∀ D, D < 256 → ∀ z, z < 8 → z ≤ lz8 D → ((nI D &&& am_ush 128 (nI z) = 0) ↔ z < lz8 D) := by decide +kernel
theorem leading_loop {d : Nat} {h : am_H} {D : Nat} (hD : D < 256) : ∀ (m z : Nat), z + m = lz8 D → rn d 37 2 [some (.int (nI D)), some (.int (nI z))] [] h = some (some (.int (nI (lz8 D))), h) := by
  have l8 := lz8_le D hD
  intro m
  induction m with
  | zero =>
    intro z hz
    have hz : z = lz8 D := by omega
    rw [x_Air_leadingZeros_2]
    by_cases h8 : z < 8
    · have c : nI z < 8 := nI_lt (b := 8) h8 (by decide)
      have c2 : ¬ nI D &&& am_ush 128 (nI z) = 0 := fun e => by have := (lzf D hD z h8 (by omega)).mp e; omega
      simp only [x_Air_leadingZeros_0, x_Air_leadingZeros_1, x_Air_leadingZeros_3, x_Air_leadingZeros_5, x_Air_leadingZeros_8, x_Air_leadingZeros_9, x_Air_leadingZeros_12, x_Air_leadingZeros_13, x_Air_leadingZeros_14, x_Air_leadingZeros_15, x_Air_leadingZeros_18, x_Air_leadingZeros_21, x_Air_leadingZeros_24, x_Air_leadingZeros_25, c, c2, if_true, if_false]
      rw [hz]
    · have c : ¬ nI z < 8 := nI_nlt (b := 8) (by omega) (by omega)
      simp only [x_Air_leadingZeros_0, x_Air_leadingZeros_1, x_Air_leadingZeros_3, x_Air_leadingZeros_5, x_Air_leadingZeros_8, x_Air_leadingZeros_9, x_Air_leadingZeros_12, x_Air_leadingZeros_13, x_Air_leadingZeros_14, x_Air_leadingZeros_15, x_Air_leadingZeros_18, x_Air_leadingZeros_21, x_Air_leadingZeros_24, x_Air_leadingZeros_25, c, if_false]
      rw [hz]
  | succ m ih =>
    intro z hz
    have h8 : z < 8 := by omega
    have c : nI z < 8 := nI_lt (b := 8) h8 (by decide)
    have c2 : nI D &&& am_ush 128 (nI z) = 0 := (lzf D hD z h8 (by omega)).mpr (by omega)
    rw [x_Air_leadingZeros_2]
    simp only [x_Air_leadingZeros_0, x_Air_leadingZeros_1, x_Air_leadingZeros_3, x_Air_leadingZeros_5, x_Air_leadingZeros_8, x_Air_leadingZeros_9, x_Air_leadingZeros_12, x_Air_leadingZeros_13, x_Air_leadingZeros_14, x_Air_leadingZeros_15, x_Air_leadingZeros_18, x_Air_leadingZeros_21, x_Air_leadingZeros_24, x_Air_leadingZeros_25, c, c2, if_true, nI_1]
    exact ih (z + 1) (by omega)
theorem ev_leading {d : Nat} {h : am_H} {D : Nat} (hD : D < 256) : ev d 37 [.int (nI D)] h = some (some (.int (nI (lz8 D))), h) := by
  have e := leading_loop (d := d) (h := h) hD (lz8 D) 0 (by omega)
  rw [nI_0] at e
  rw [← e]
  simp only [e_Air_leadingZeros, x_Air_leadingZeros_0, x_Air_leadingZeros_1]
theorem pfx : ∀ a, a < 256 → ∀ c, c < 8 → nI a &&& (am_ush 255 (nI c) ^^^ -1) = nI (a / 2 ^ (8 - c) * 2 ^ (8 - c)) := by decide +kernel
theorem pfx2 : ∀ a, a < 256 → ∀ c, c < 8 → (a / 2 ^ (8 - c) * 2 ^ (8 - c)) / 2 ^ (8 - (c + 1)) = a / 2 ^ (8 - c) * 2 ∧ a / 2 ^ (8 - c) * 2 ^ (8 - c) < 256 := by decide +kernel
def fEnd (c : Nat) : Int32 := if c < 4 then -1 else if c = 4 then 3 else 4
def mEnd (c : Nat) : Int32 := if c < 4 then nI c else if c = 4 then -1 else -2
theorem hS_2 (S : st_S) (b : Nat) (k : Int32) (h3 : ¬ k = 3) (h4 : ¬ k = 4) : hS S b k = S := by
  unfold hS; rw [if_neg h3, if_neg h4]
theorem hdS_same (hd : Bool) (S : st_S) : hdS hd S S = S := by cases hd <;> rfl
section FIND
variable {d : Nat} {S : st_S} {V : st_V} {F : List Int32} {A : Nat → Nat}
/-- a call, whoever answers -/
theorem ev_callw {w : Option Nat} {D k x : Int32} {J : st_J} (h3 : ¬ k = 3) (h4 : ¬ k = 4) (hw : ∀ j, w = some j → j < 4) (hF : V 64 = F) (lF : F.length = 128) (L : JL J) (hn : jn J + 3 ≤ 2000000) : ev (d + 2) 36 [.ref 1, .int k, .int x] (hs (jS (gS S w D) J) (jV V J)) = some (some (.int (b2i (clt F w.isSome k x 3 J false).1)), hs (jS (gS S w D) (clt F w.isSome k x 3 J false).2.2) (jV V (clt F w.isSome k x 3 J false).2.2)) := by
  have X := jx_set (gS S w D) V J
  have hF' : jV V J 64 = F := by rw [jV_ne (by decide)]; exact hF
  have g2 : jS (gS S w D) J 1 2 = pI w := by rw [jS_ne (by decide)]; unfold gS; rw [uS_ne (by decide), uS_self]
  cases w with
  | none => rw [ev_call0 g2 hF' lF X L hn, jS_jS, jV_jV]; rfl
  | some j => rw [ev_call (hw j rfl) g2 hF' lF X L hn, hS_2 _ _ _ h3 h4, hdS_same, jS_jS, jV_jV]; rfl
theorem jS_nek {S : st_S} {J : st_J} {a k : Nat} (h : ¬ (k = 4 ∨ k = 5)) : jS S J a k = S a k := by
  unfold jS
  rw [uS_ne (fun z => h (Or.inr z.2)), uS_ne (fun z => h (Or.inl z.2))]
theorem gS_jS (S : st_S) (J : st_J) (w : Option Nat) (D : Int32) : gS (jS S J) w D = jS (gS S w D) J := by
  unfold gS; rw [jS_uS (by decide), jS_uS (by decide)]
theorem find_loop (R : RA (fun j => S (cb j) 2) (fun j => S (cb j) 3) A) (hF : V 64 = F) (lF : F.length = 128) : ∀ (m r n q p : Nat) (J : st_J) (S0 : st_S) (l4 : Option Value), (∀ w D, gS S0 w D = jS (gS S w D) J) → r + m = 9 → 9 ≤ n + m → n ≤ 8 → p < 256 → p / 2 ^ (8 - n) = q → JL J → jn J + 3 * m ≤ 2000000 →
    ∃ w D, rn (d + 3) 30 6 [some (.ref 1), some (.int (nI p)), some (.int (nI n)), some (.int (nI r)), l4] [] (hs S0 (jV V J)) = some (some (.int (fEnd (ak F (fun j => S (cb j) 2) A m J n q).1)), hs (jS (gS S w D) (ak F (fun j => S (cb j) 2) A m J n q).2) (jV V (ak F (fun j => S (cb j) 2) A m J n q).2)) ∧ ((ak F (fun j => S (cb j) 2) A m J n q).1 < 4 → w = some (ak F (fun j => S (cb j) 2) A m J n q).1 ∧ ¬ S (cb (ak F (fun j => S (cb j) 2) A m J n q).1) 2 = 0) ∧ (ak F (fun j => S (cb j) 2) A m J n q).1 < 6 ∧ JL (ak F (fun j => S (cb j) 2) A m J n q).2 ∧ jn (ak F (fun j => S (cb j) 2) A m J n q).2 ≤ jn J + 3 * m := by
  intro m
  induction m with
  | zero => intro r n q p J S0 l4 _ hr hn h8 _ _ _ _; omega
  | succ m ih =>
    intro r n q p J S0 l4 gj hr hn h8 hp hq L hJ
    have c : ¬ (8 : Int32) < nI r := nI_nlt (a := 8) (by omega) (by decide)
    rw [ak_s]
    obtain ⟨g1, g2⟩ := gth_gN R hp h8 hq 4 0 none 0 (by omega) (gI_0 _ _ _ _)
    have rdE : ∀ k, k < 4 → (fun j => S0 (cb j) k) = fun j => S (cb j) k := fun k hk => by
      funext j
      have e := congrFun (congrFun (gj none 0) (cb j)) k
      rw [gS_ne (by unfold cb; omega), jS_nek (by omega), gS_ne (by unfold cb; omega)] at e
      exact e
    have eg := ev_gather (d := d + 1) (S := S0) (V := jV V J) (p := nI p) (n := nI n)
    rw [rdE 2 (by decide), rdE 3 (by decide), ← nI_0, g1] at eg
    rw [gj] at eg
    generalize hg : gN (fun j => S (cb j) 2) A q n 4 0 none 0 = g at eg g2
    obtain ⟨w, D⟩ := g
    obtain ⟨i1, i2, i3, i4⟩ := g2
    dsimp only at eg i1 i2 i3 i4
    have ec := ev_callw (d := d) (S := S) (V := V) (w := w) (D := nI D) (k := 2) (x := nI n) (by decide) (by decide) (fun j hj => (i4 j hj).1) hF lF L (by omega)
    obtain ⟨LC, JC⟩ := clt_L (F := F) (p := w.isSome) (k := 2) (x := nI n) 3 J false L (by omega)
    unfold aks
    rw [hg]
    dsimp only
    rw [x_Air_findAddress_6]
    generalize hcl : clt F w.isSome 2 (nI n) 3 J false = cl at ec LC JC
    obtain ⟨an, hd, J'⟩ := cl
    dsimp only at ec LC JC ⊢
    cases an with
    | false =>
      rw [if_neg (by decide)]
      have e0 : b2i false = 0 := rfl
      refine ⟨w, nI D, ?_, ?_, ?_, LC, by show jn J' ≤ _; omega⟩
      · simp only [x_Air_findAddress_0, x_Air_findAddress_1, x_Air_findAddress_2, x_Air_findAddress_3, x_Air_findAddress_4, x_Air_findAddress_5, x_Air_findAddress_7, x_Air_findAddress_9, x_Air_findAddress_12, x_Air_findAddress_13, x_Air_findAddress_14, x_Air_findAddress_15, x_Air_findAddress_18, x_Air_findAddress_19, x_Air_findAddress_20, x_Air_findAddress_21, x_Air_findAddress_24, x_Air_findAddress_27, x_Air_findAddress_28, x_Air_findAddress_31, x_Air_findAddress_32, x_Air_findAddress_35, x_Air_findAddress_36, x_Air_findAddress_37, x_Air_findAddress_38, x_Air_findAddress_41, x_Air_findAddress_44, x_Air_findAddress_45, x_Air_findAddress_46, x_Air_findAddress_47, x_Air_findAddress_50, x_Air_findAddress_53, x_Air_findAddress_55, x_Air_findAddress_56, x_Air_findAddress_59, x_Air_findAddress_60, x_Air_findAddress_63, x_Air_findAddress_64, x_Air_findAddress_67, x_Air_findAddress_70, x_Air_findAddress_72, x_Air_findAddress_73, x_Air_findAddress_74, x_Air_findAddress_75, x_Air_findAddress_76, x_Air_findAddress_77, x_Air_findAddress_79, x_Air_findAddress_80, x_Air_findAddress_81, x_Air_findAddress_82, x_Air_findAddress_85, x_Air_findAddress_88, x_Air_findAddress_89, c, if_false, if_true, i_1, eg, ec, e0, ac_0, ac_i, ac_r, ac_ii, ac_ir, ac_ri, ac_rr, ac_iii, ac_iir, ac_iri, ac_irr, ac_rii, ac_rir, ac_rri, ac_rrr, Option.bind_some, Option.toList_some, Option.toList_none, List.nil_append, List.cons_append, not_false_eq_true]
        by_cases hn0 : n = 0
        · subst hn0; rw [if_pos rfl]; rfl
        · have : ¬ nI n = 0 := by rw [← nI_0, nI_eq (by omega) (by decide)]; exact hn0
          rw [if_neg this, if_neg hn0]; rfl
      · intro z; split at z <;> omega
      · show (if n = 0 then 4 else 5) < 6
        split <;> omega
    | true =>
      have e1 : b2i true = 1 := rfl
      rw [if_pos rfl]
      have wj : ∃ j, w = some j := by
        cases w with
        | none =>
          have : (clt F (none : Option Nat).isSome 2 (nI n) 3 J false).1 = false := by
            show (clt F false 2 (nI n) 3 J false).1 = false
            simp only [clt_s, Bool.false_eq_true, false_and, if_false]
            rfl
          rw [hcl] at this; cases this
        | some j => exact ⟨j, rfl⟩
      obtain ⟨j, rfl⟩ := wj
      obtain ⟨j4', jr, jq⟩ := i4 j rfl
      obtain ⟨a1, a2⟩ := R j j4' jr
      have gd : jS (gS S (some j) (nI D)) J' 1 3 = nI D := by rw [jS_ne (by decide)]; unfold gS; rw [uS_self]
      have gp : jS (gS S (some j) (nI D)) J' 1 2 = nI j := by rw [jS_ne (by decide)]; unfold gS; rw [uS_ne (by decide), uS_self]; rfl
      have ga : jS (gS S (some j) (nI D)) J' (cb j) 3 = nI (A j) := by rw [jS_ne (by unfold cb; omega), gS_ne (by unfold cb; omega)]; exact a2
      have hD0 : nI D = 0 ↔ D = 0 := by rw [← nI_0, nI_eq (by omega) (by decide)]
      have go : (some j).getD 0 = j := rfl
      by_cases h0 : D = 0
      · rw [if_pos h0, go]
        refine ⟨some j, nI D, ?_, fun _ => ⟨rfl, jr⟩, by show j < 6; omega, LC, by show jn J' ≤ _; omega⟩
        simp only [x_Air_findAddress_0, x_Air_findAddress_1, x_Air_findAddress_2, x_Air_findAddress_3, x_Air_findAddress_4, x_Air_findAddress_5, x_Air_findAddress_7, x_Air_findAddress_9, x_Air_findAddress_12, x_Air_findAddress_13, x_Air_findAddress_14, x_Air_findAddress_15, x_Air_findAddress_18, x_Air_findAddress_19, x_Air_findAddress_20, x_Air_findAddress_21, x_Air_findAddress_24, x_Air_findAddress_27, x_Air_findAddress_28, x_Air_findAddress_31, x_Air_findAddress_32, x_Air_findAddress_35, x_Air_findAddress_36, x_Air_findAddress_37, x_Air_findAddress_38, x_Air_findAddress_41, x_Air_findAddress_44, x_Air_findAddress_45, x_Air_findAddress_46, x_Air_findAddress_47, x_Air_findAddress_50, x_Air_findAddress_53, x_Air_findAddress_55, x_Air_findAddress_56, x_Air_findAddress_59, x_Air_findAddress_60, x_Air_findAddress_63, x_Air_findAddress_64, x_Air_findAddress_67, x_Air_findAddress_70, x_Air_findAddress_72, x_Air_findAddress_73, x_Air_findAddress_74, x_Air_findAddress_75, x_Air_findAddress_76, x_Air_findAddress_77, x_Air_findAddress_79, x_Air_findAddress_80, x_Air_findAddress_81, x_Air_findAddress_82, x_Air_findAddress_85, x_Air_findAddress_88, x_Air_findAddress_89, c, if_false, if_true, i_1, eg, ec, e1, ac_0, ac_i, ac_r, ac_ii, ac_ir, ac_ri, ac_rr, ac_iii, ac_iir, ac_iri, ac_irr, ac_rii, ac_rir, ac_rri, ac_rrr, Option.bind_some, Option.toList_some, Option.toList_none, List.nil_append, List.cons_append, not_false_eq_true, g_1_3, gd, (by decide : ¬ (1 : Int32) = 0)]
        rw [if_pos (hD0.mpr h0)]
        show _ = some (some (Value.int (fEnd j)), _)
        unfold fEnd
        rw [if_pos j4']
      · rw [if_neg h0, go]
        have hl8 := lz8_le D i1
        have hl7 : lz8 D < 8 := by
          have := lz8_0 D i1
          omega
        have hln : n ≤ lz8 D := (lz8_iff D i1 n (by omega)).mp i2
        have el := ev_leading (d := d + 2) (h := hs (jS (gS S (some j) (nI D)) J') (jV V J')) i1
        obtain ⟨b1, b2⟩ := pfx2 (A j) a1 (lz8 D) hl7
        have ih' := ih (r + 1) (lz8 D + 1) (A j / 2 ^ (8 - lz8 D) * 2) (A j / 2 ^ (8 - lz8 D) * 2 ^ (8 - lz8 D)) J' (jS (gS S (some j) (nI D)) J') (some (.int (nI (lz8 D)))) (fun w D' => by rw [gS_jS, gS_gS]) (by omega) (by omega) (by omega) b2 b1 LC (by omega)
        obtain ⟨w', D', e', r1, r2, r3, r4⟩ := ih'
        refine ⟨w', D', ?_, r1, r2, r3, by omega⟩
        rw [← e']
        simp only [x_Air_findAddress_0, x_Air_findAddress_1, x_Air_findAddress_2, x_Air_findAddress_3, x_Air_findAddress_4, x_Air_findAddress_5, x_Air_findAddress_7, x_Air_findAddress_9, x_Air_findAddress_12, x_Air_findAddress_13, x_Air_findAddress_14, x_Air_findAddress_15, x_Air_findAddress_18, x_Air_findAddress_19, x_Air_findAddress_20, x_Air_findAddress_21, x_Air_findAddress_24, x_Air_findAddress_27, x_Air_findAddress_28, x_Air_findAddress_31, x_Air_findAddress_32, x_Air_findAddress_35, x_Air_findAddress_36, x_Air_findAddress_37, x_Air_findAddress_38, x_Air_findAddress_41, x_Air_findAddress_44, x_Air_findAddress_45, x_Air_findAddress_46, x_Air_findAddress_47, x_Air_findAddress_50, x_Air_findAddress_53, x_Air_findAddress_55, x_Air_findAddress_56, x_Air_findAddress_59, x_Air_findAddress_60, x_Air_findAddress_63, x_Air_findAddress_64, x_Air_findAddress_67, x_Air_findAddress_70, x_Air_findAddress_72, x_Air_findAddress_73, x_Air_findAddress_74, x_Air_findAddress_75, x_Air_findAddress_76, x_Air_findAddress_77, x_Air_findAddress_79, x_Air_findAddress_80, x_Air_findAddress_81, x_Air_findAddress_82, x_Air_findAddress_85, x_Air_findAddress_88, x_Air_findAddress_89, c, if_false, if_true, i_1, eg, ec, e1, ac_0, ac_i, ac_r, ac_ii, ac_ir, ac_ri, ac_rr, ac_iii, ac_iir, ac_iri, ac_irr, ac_rii, ac_rir, ac_rri, ac_rrr, Option.bind_some, Option.toList_some, Option.toList_none, List.nil_append, List.cons_append, not_false_eq_true, g_1_3, g_1_0, g_1_2, gd, gp, ld_cards j4', cg_3 (crd j4'), ga, el, mt hD0.mp h0, (by decide : ¬ (1 : Int32) = 0), pfx (A j) a1 (lz8 D) hl7, nI_1]
theorem ev_find {J : st_J} (R : RA (fun j => S (cb j) 2) (fun j => S (cb j) 3) A) (hF : V 64 = F) (lF : F.length = 128) (X : JX S V J) (L : JL J) (hJ : jn J + 27 ≤ 2000000) : ∃ w D, ev (d + 3) 30 [.ref 1] (hs S V) = some (some (.int (fEnd (ak F (fun j => S (cb j) 2) A 9 J 0 0).1)), hs (jS (gS S w D) (ak F (fun j => S (cb j) 2) A 9 J 0 0).2) (jV V (ak F (fun j => S (cb j) 2) A 9 J 0 0).2)) ∧ ((ak F (fun j => S (cb j) 2) A 9 J 0 0).1 < 4 → w = some (ak F (fun j => S (cb j) 2) A 9 J 0 0).1 ∧ ¬ S (cb (ak F (fun j => S (cb j) 2) A 9 J 0 0).1) 2 = 0) ∧ (ak F (fun j => S (cb j) 2) A 9 J 0 0).1 < 6 ∧ JL (ak F (fun j => S (cb j) 2) A 9 J 0 0).2 ∧ jn (ak F (fun j => S (cb j) 2) A 9 J 0 0).2 ≤ jn J + 27 := by
  have h := find_loop (d := d) R hF lF 9 0 0 0 0 J S none (fun w D => by rw [← gS_jS, jS_id X]) (by omega) (by omega) (by omega) (by decide) (by decide) L (by omega)
  rw [nI_0, jV_id X] at h
  simp only [e_Air_findAddress, x_Air_findAddress_0, x_Air_findAddress_1, x_Air_findAddress_2, x_Air_findAddress_3, x_Air_findAddress_4, x_Air_findAddress_5]
  exact h
end FIND
