/-! one address is found: the reference -/
theorem aks_s {F : List Int32} {rd : Nat → Int32} {A : Nat → Nat} {n q a : Nat} {k : st_J → Nat → Nat → Nat × st_J} {J : st_J} {w : Option Nat} {D : Nat} (hg : gN rd A q n 4 0 none 0 = (w, D)) : aks F rd A n q k (a + 1) J = if w.isSome = true ∧ flt F (jn J) = 0 then (if D = 0 then (w.getD 0, nt J 2 (nI n) 1) else k (nt J 2 (nI n) 1) (lz8 D + 1) (A (w.getD 0) / 2 ^ (8 - lz8 D) * 2)) else aks F rd A n q k a (nt J 2 (nI n) 0) := by
  unfold aks
  rw [hg, clt_s]
  dsimp only
  by_cases h : w.isSome = true ∧ flt F (jn J) = 0
  · rw [if_pos h, if_pos h, if_pos rfl]
  · rw [if_neg h, if_neg h]
    obtain ⟨e1, e2⟩ := clt_hd F w.isSome 2 (nI n) a (nt J 2 (nI n) 0) (false || (w.isSome && decide (¬ flt F (jn J) = 1)))
    rw [e1, e2]
theorem neg1 : (-1 : Int32) < 0 := by decide
theorem nI_nn {a : Nat} (h : a < 2 ^ 31) : ¬ nI a < 0 := by rw [← nI_0]; exact nI_nlt (by omega) h
theorem nI_dec {a : Nat} (h : 0 < a) : nI a + (-1) = nI (a - 1) := by
  obtain ⟨b, rfl⟩ : ∃ b, a = b + 1 := ⟨a - 1, by omega⟩
  rw [← nI_1, Nat.add_sub_cancel, Int32.add_assoc]
  show nI b + (1 + -1) = nI b
  rw [(by decide : (1 : Int32) + -1 = 0), Int32.add_zero]
theorem gN_I {rd ad : Nat → Int32} {A : Nat → Nat} {q n : Nat} (R : RA rd ad A) : ∀ (m c : Nat) (w : Option Nat) (D : Nat), c + m = 4 → gI rd A q n w D → gI rd A q n (gN rd A q n m c w D).1 (gN rd A q n m c w D).2 := by
  intro m
  induction m with
  | zero => intro c w D hc I; exact I
  | succ m ih =>
    intro c w D hc I
    rw [gN_s]
    by_cases h : ¬ rd c = 0 ∧ A c / 2 ^ (8 - n) = q
    · rw [if_pos h]; exact ih _ _ _ (by omega) (gI_step R (by omega) h I).1
    · rw [if_neg h]; exact ih _ _ _ (by omega) I
section ASK
variable {d : Nat} {S : st_S} {V : st_V} {F : List Int32} {A : Nat → Nat} {rd ad : Nat → Int32}
theorem common_loop {l1 l2 l5 : Option Value} {i j : Nat} (hi : i < 4) (hj : j < 4) (ai : A i < 256) (aj : A j < 256) (h3 : (V 97)[i]? = some (nI (A i))) (h4 : (V 97)[j]? = some (nI (A j))) : ∀ (c : Nat), c ≤ 8 → rn d 98 66 [some (.ref 93), l1, l2, some (.int (nI j)), some (.int (nI c)), l5, some (.int (nI i))] [] (hs S V) = rn d 98 100 [some (.ref 93), l1, l2, some (.int (nI j)), some (.int (nI (min c (lz8 (A i ^^^ A j))))), l5, some (.int (nI i))] [] (hs S V) := by
  have hx := xor_lt ai aj
  intro c
  induction c with
  | zero =>
    intro _
    have ld1 : am_ld (hs S V) 97 0 (nI i) = some (nI (A i)) := (ldN rfl (by omega)).trans h3
    have ld2 : am_ld (hs S V) 97 0 (nI j) = some (nI (A j)) := (ldN rfl (by omega)).trans h4
    have e : nI (A i / 2 ^ (8 - 0)) = nI (A j / 2 ^ (8 - 0)) := by
      rw [Nat.div_eq_of_lt (by omega), Nat.div_eq_of_lt (by omega)]
    rw [x_Mod_ask_66]
    simp only [x_Mod_ask_67, x_Mod_ask_70, x_Mod_ask_72, x_Mod_ask_73, x_Mod_ask_75, x_Mod_ask_77, x_Mod_ask_78, x_Mod_ask_79, x_Mod_ask_80, x_Mod_ask_83, x_Mod_ask_84, x_Mod_ask_85, x_Mod_ask_87, x_Mod_ask_89, x_Mod_ask_90, x_Mod_ask_91, g_93_3, ld1, ld2, ac_0, ac_i, ac_r, ac_ii, ac_ir, ac_ri, ac_rr, ac_iii, ac_iir, ac_iri, ac_irr, ac_rii, ac_rir, ac_rri, ac_rrr, Option.bind_some, Option.toList_some, Option.toList_none, List.nil_append, List.cons_append, not_false_eq_true, sub8 (n := 0) (by omega), shr_N (n := A i) (k := 8 - 0) (by omega) (by omega), shr_N (n := A j) (k := 8 - 0) (by omega) (by omega), e, if_true]
    rw [Nat.zero_min]
  | succ c ih =>
    intro hc
    have ld1 : am_ld (hs S V) 97 0 (nI i) = some (nI (A i)) := (ldN rfl (by omega)).trans h3
    have ld2 : am_ld (hs S V) 97 0 (nI j) = some (nI (A j)) := (ldN rfl (by omega)).trans h4
    have e : nI (A i / 2 ^ (8 - (c + 1))) = nI (A j / 2 ^ (8 - (c + 1))) ↔ c + 1 ≤ lz8 (A i ^^^ A j) := by
      rw [nI_eq (Nat.lt_of_le_of_lt (Nat.div_le_self _ _) (by omega)) (Nat.lt_of_le_of_lt (Nat.div_le_self _ _) (by omega)), ← xor_div, lz8_iff _ hx _ (by omega)]
    rw [x_Mod_ask_66]
    simp only [x_Mod_ask_67, x_Mod_ask_70, x_Mod_ask_72, x_Mod_ask_73, x_Mod_ask_75, x_Mod_ask_77, x_Mod_ask_78, x_Mod_ask_79, x_Mod_ask_80, x_Mod_ask_83, x_Mod_ask_84, x_Mod_ask_85, x_Mod_ask_87, x_Mod_ask_89, x_Mod_ask_90, x_Mod_ask_91, x_Mod_ask_94, x_Mod_ask_97, g_93_3, ld1, ld2, ac_0, ac_i, ac_r, ac_ii, ac_ir, ac_ri, ac_rr, ac_iii, ac_iir, ac_iri, ac_irr, ac_rii, ac_rir, ac_rri, ac_rrr, Option.bind_some, Option.toList_some, Option.toList_none, List.nil_append, List.cons_append, not_false_eq_true, sub8 hc, shr_N (n := A i) (k := 8 - (c + 1)) (by omega) (by omega), shr_N (n := A j) (k := 8 - (c + 1)) (by omega) (by omega)]
    by_cases h : c + 1 ≤ lz8 (A i ^^^ A j)
    · rw [if_pos (e.mpr h), Nat.min_eq_left h]
    · rw [if_neg (fun z => h (e.mp z)), nI_dec (by omega), Nat.add_sub_cancel, ih (by omega), Nat.min_eq_right (by omega), Nat.min_eq_right (by omega)]
theorem askfor_loop {l5 : Option Value} {n q : Nat} (R : RA rd ad A) (hr : ∀ j, j < 4 → (V 96)[j]? = some (rd j)) (ha : ∀ j, j < 4 → (V 97)[j]? = some (ad j)) (hn : n ≤ 8) (hq : q < 1000) : ∀ (m c : Nat) (w : Option Nat) (D : Nat), c + m = 4 → gI rd A q n w D → rn d 98 27 [some (.ref 93), some (.int (nI n)), some (.int (nI q)), some (.int (pI w)), some (.int (nI (lz8 D))), l5, some (.int (nI c))] [] (hs S V) = rn d 98 117 [some (.ref 93), some (.int (nI n)), some (.int (nI q)), some (.int (pI (gN rd A q n m c w D).1)), some (.int (nI (lz8 (gN rd A q n m c w D).2))), l5, some (.int (nI 4))] [] (hs S V) := by
  intro m
  induction m with
  | zero =>
    intro c w D hc I
    have : c = 4 := by omega
    subst this
    rw [x_Mod_ask_27]
    simp only [x_Mod_ask_29, x_Mod_ask_30, (by decide : ¬ nI 4 < 4), if_false]
    rfl
  | succ m ih =>
    intro c w D hc I
    have hc4 : c < 4 := by omega
    have cc : nI c < 4 := nI_lt (b := 4) hc4 (by decide)
    have lr : am_ld (hs S V) 96 1 (nI c) = some (rd c) := (ldN rfl (by omega)).trans (hr c hc4)
    have la : am_ld (hs S V) 97 0 (nI c) = some (ad c) := (ldN rfl (by omega)).trans (ha c hc4)
    rw [x_Mod_ask_27, gN_s]
    by_cases h1 : rd c = 0
    · rw [if_neg (fun z => z.1 h1)]
      simp only [x_Mod_ask_29, x_Mod_ask_30, x_Mod_ask_33, x_Mod_ask_34, x_Mod_ask_37, x_Mod_ask_39, x_Mod_ask_40, x_Mod_ask_111, x_Mod_ask_114, g_93_2, lr, h1, if_true, cc, ac_0, ac_i, ac_r, ac_ii, ac_ir, ac_ri, ac_rr, ac_iii, ac_iir, ac_iri, ac_irr, ac_rii, ac_rir, ac_rri, ac_rrr, Option.bind_some, Option.toList_some, Option.toList_none, List.nil_append, List.cons_append, not_false_eq_true, nI_1]
      exact ih (c + 1) w D (by omega) I
    · obtain ⟨a1, a2⟩ := R c hc4 h1
      have e : nI (A c / 2 ^ (8 - n)) = nI q ↔ A c / 2 ^ (8 - n) = q := nI_eq (Nat.lt_of_le_of_lt (Nat.div_le_self _ _) (by omega)) (by omega)
      by_cases h2 : A c / 2 ^ (8 - n) = q
      · obtain ⟨I', w1, w2⟩ := gI_step R hc4 ⟨h1, h2⟩ I
        rw [if_pos ⟨h1, h2⟩]
        cases w with
        | none =>
          have D0 : D = 0 := I.2.2.1 rfl
          subst D0
          have p0 : pI none = -1 := rfl
          have ih' := ih (c + 1) (some c) 0 (by omega) (by simpa using I')
          simp only [x_Mod_ask_29, x_Mod_ask_30, x_Mod_ask_33, x_Mod_ask_34, x_Mod_ask_37, x_Mod_ask_39, x_Mod_ask_40, x_Mod_ask_43, x_Mod_ask_44, x_Mod_ask_47, x_Mod_ask_49, x_Mod_ask_50, x_Mod_ask_52, x_Mod_ask_53, x_Mod_ask_54, x_Mod_ask_55, x_Mod_ask_56, x_Mod_ask_59, x_Mod_ask_62, x_Mod_ask_63, x_Mod_ask_100, x_Mod_ask_101, x_Mod_ask_104, x_Mod_ask_106, x_Mod_ask_109, x_Mod_ask_110, x_Mod_ask_111, x_Mod_ask_114, g_93_2, g_93_3, lr, la, a2, h1, if_true, if_false, cc, ac_0, ac_i, ac_r, ac_ii, ac_ir, ac_ri, ac_rr, ac_iii, ac_iir, ac_iri, ac_irr, ac_rii, ac_rir, ac_rri, ac_rrr, Option.bind_some, Option.toList_some, Option.toList_none, List.nil_append, List.cons_append, not_false_eq_true, sub8 hn, shr_N (n := A c) (k := 8 - n) (by omega) (by omega), e.mpr h2, p0, neg1, nI_1]
          show rn d _ 27 [_, _, _, some (.int (pI (some c))), _, _, _] _ _ = _
          rw [ih']
          simp
        | some j =>
          obtain ⟨j4', _⟩ := I.2.2.2 j rfl
          have hp : pI (some j) = nI j := rfl
          have pn : ¬ nI j < 0 := nI_nn (by omega)
          have aj : (V 97)[j]? = some (nI (A j)) := by rw [ha j j4']; exact congrArg some w2
          have cl := common_loop (d := d) (S := S) (V := V) (A := A) (l1 := some (.int (nI n))) (l2 := some (.int (nI q))) (l5 := l5) (i := c) (j := j) hc4 j4' a1 w1 (by rw [ha c hc4, a2]) aj (lz8 D) (lz8_le D I.1)
          have w1' : A j < 256 := w1
          rw [← lz8_or I.1 (xor_lt a1 w1')] at cl
          simp only [x_Mod_ask_29, x_Mod_ask_30, x_Mod_ask_33, x_Mod_ask_34, x_Mod_ask_37, x_Mod_ask_39, x_Mod_ask_40, x_Mod_ask_43, x_Mod_ask_44, x_Mod_ask_47, x_Mod_ask_49, x_Mod_ask_50, x_Mod_ask_52, x_Mod_ask_53, x_Mod_ask_54, x_Mod_ask_55, x_Mod_ask_56, x_Mod_ask_59, x_Mod_ask_62, x_Mod_ask_63, g_93_2, g_93_3, lr, la, a2, h1, if_true, if_false, cc, ac_0, ac_i, ac_r, ac_ii, ac_ir, ac_ri, ac_rr, ac_iii, ac_iir, ac_iri, ac_irr, ac_rii, ac_rir, ac_rri, ac_rrr, Option.bind_some, Option.toList_some, Option.toList_none, List.nil_append, List.cons_append, not_false_eq_true, sub8 hn, shr_N (n := A c) (k := 8 - n) (by omega) (by omega), e.mpr h2, hp, pn]
          rw [cl]
          simp only [x_Mod_ask_100, x_Mod_ask_101, x_Mod_ask_104, x_Mod_ask_106, x_Mod_ask_109, x_Mod_ask_110, x_Mod_ask_111, x_Mod_ask_114, pn, if_false, nI_1]
          exact ih (c + 1) (some j) _ (by omega) I'
      · rw [if_neg (fun z => h2 z.2)]
        simp only [x_Mod_ask_29, x_Mod_ask_30, x_Mod_ask_33, x_Mod_ask_34, x_Mod_ask_37, x_Mod_ask_39, x_Mod_ask_40, x_Mod_ask_43, x_Mod_ask_44, x_Mod_ask_47, x_Mod_ask_49, x_Mod_ask_50, x_Mod_ask_52, x_Mod_ask_53, x_Mod_ask_54, x_Mod_ask_55, x_Mod_ask_56, x_Mod_ask_59, x_Mod_ask_111, x_Mod_ask_114, g_93_2, g_93_3, lr, la, a2, h1, if_true, if_false, cc, ac_0, ac_i, ac_r, ac_ii, ac_ir, ac_ri, ac_rr, ac_iii, ac_iir, ac_iri, ac_irr, ac_rii, ac_rir, ac_rri, ac_rrr, Option.bind_some, Option.toList_some, Option.toList_none, List.nil_append, List.cons_append, not_false_eq_true, sub8 hn, shr_N (n := A c) (k := 8 - n) (by omega) (by omega), mt e.mp h2, nI_1]
        exact ih (c + 1) w D (by omega) I
def askO (S : st_S) (V : st_V) (r : Nat × st_J) : Option (Option Value × am_H) := some (some (.int (mEnd r.1)), hs (mS S r.2 (if r.1 < 4 then 0 else 3)) (mV V r.2))
theorem ask_att {n q N : Nat} {k : st_J → Nat → Nat → Nat × st_J} (R : RA rd ad A) (hr : ∀ j, j < 4 → (V 96)[j]? = some (rd j)) (ha : ∀ j, j < 4 → (V 97)[j]? = some (ad j)) (hF : V 108 = F) (lF : F.length = 128) (hn : n ≤ 8) (hq : q < 1000) (hN : N ≤ 2000000)
    (hk : ∀ (n' q' : Nat) (J' : st_J) (l3 l4 l5 l6 : Option Value), n < n' → n' ≤ 8 → q' < 1000 → JL J' → jn J' ≤ N → rn (d + 1) 98 4 [some (.ref 93), some (.int (nI n')), some (.int (nI q')), l3, l4, l5, l6] [] (hs (mS S J' 0) (mV V J')) = askO S V (k J' n' q')) : ∀ (a s : Nat) (J : st_J) (l3 l4 l5 l6 : Option Value), s + a = 3 → JL J → jn J + a ≤ N →
    rn (d + 1) 98 4 [some (.ref 93), some (.int (nI n)), some (.int (nI q)), l3, l4, l5, l6] [] (hs (mS S J s) (mV V J)) = askO S V (aks F rd A n q k a J) := by
  intro a
  induction a with
  | zero =>
    intro s J l3 l4 l5 l6 hs' L hJ
    have : s = 3 := by omega
    subst this
    have c : ¬ mS S J 3 93 32 < 3 := by rw [(jm_set _ V J 3).2.2.2.2.2]; decide
    have e : aks F rd A n q k 0 J = (if n = 0 then 4 else 5, J) := rfl
    rw [e, x_Mod_ask_4]
    simp only [x_Mod_ask_5, x_Mod_ask_8, x_Mod_ask_9, x_Mod_ask_175, x_Mod_ask_176, x_Mod_ask_179, x_Mod_ask_180, x_Mod_ask_183, x_Mod_ask_185, g_93_32, c, if_false, ac_0, ac_i, ac_r, ac_ii, ac_ir, ac_ri, ac_rr, ac_iii, ac_iir, ac_iri, ac_irr, ac_rii, ac_rir, ac_rri, ac_rrr, Option.bind_some, Option.toList_some, Option.toList_none, List.nil_append, List.cons_append, not_false_eq_true]
    by_cases h0 : n = 0
    · subst h0; rw [if_pos rfl]; rfl
    · have : ¬ nI n = 0 := by rw [← nI_0, nI_eq (by omega) (by decide)]; exact h0
      rw [if_neg this, if_neg h0]; rfl
  | succ a ih =>
    intro s J l3 l4 l5 l6 hs' L hJ
    have Q := jm_set S V J s
    have c : mS S J s 93 32 < 3 := by rw [Q.2.2.2.2.2]; exact nI_lt (b := 3) (by omega) (by decide)
    have e1 := ev_faultNow (d := d) Q L (F := F) (by rw [mV_ne (by decide)]; exact hF) lF
    have n0 : ev d 87 [.ref 93, .int 2, .int (nI n), .int 0] (hs (mS S J s) (mV V J)) = some (some (.int 0), hs (mS S (nt J 2 (nI n) 0) (s + 1)) (mV V (nt J 2 (nI n) 0))) := by
      rw [ev_mnote Q L (Or.inl rfl), mS_mS, mV_mV, if_pos rfl]
    have n1 : ev d 87 [.ref 93, .int 2, .int (nI n), .int 1] (hs (mS S J s) (mV V J)) = some (some (.int 1), hs (mS S (nt J 2 (nI n) 1) 0) (mV V (nt J 2 (nI n) 1))) := by
      rw [ev_mnote Q L (Or.inr rfl), mS_mS, mV_mV, if_neg (by decide)]
    have fl := askfor_loop (d := d + 1) (S := mS S J s) (V := mV V J) (l5 := some (.int (flt F (jn J)))) (n := n) (q := q) R (fun j hj => by rw [mV_ne (by decide)]; exact hr j hj) (fun j hj => by rw [mV_ne (by decide)]; exact ha j hj) hn hq 4 0 none 0 (by omega) (gI_0 _ _ _ _)
    obtain ⟨_, g2⟩ := gth_gN (A := A) R (p := 0) (q := 0) (n := 0) (by decide) (by decide) (by decide) 4 0 none 0 (by omega) (gI_0 _ _ _ _)
    have gI4 : gI rd A q n (gN rd A q n 4 0 none 0).1 (gN rd A q n 4 0 none 0).2 := gN_I R 4 0 none 0 (by omega) (gI_0 _ _ _ _)
    rw [(by decide : lz8 0 = 8)] at fl
    generalize hg : gN rd A q n 4 0 none 0 = g at fl gI4
    obtain ⟨w, D⟩ := g
    dsimp only at fl gI4
    obtain ⟨i1, i2, i3, i4⟩ := gI4
    rw [aks_s hg, x_Mod_ask_4]
    simp only [x_Mod_ask_5, x_Mod_ask_8, x_Mod_ask_9, x_Mod_ask_12, x_Mod_ask_13, x_Mod_ask_14, x_Mod_ask_16, x_Mod_ask_18, x_Mod_ask_19, x_Mod_ask_22, x_Mod_ask_24, x_Mod_ask_25, g_93_32, c, if_true, i_93, e1, ac_0, ac_i, ac_r, ac_ii, ac_ir, ac_ri, ac_rr, ac_iii, ac_iir, ac_iri, ac_irr, ac_rii, ac_rir, ac_rri, ac_rrr, Option.bind_some, Option.toList_some, Option.toList_none, List.nil_append, List.cons_append, not_false_eq_true]
    rw [show (-1 : Int32) = pI none from rfl, show (8 : Int32) = nI 8 from rfl, show (0 : Int32) = nI 0 from rfl] 
    rw [fl]
    cases w with
    | none =>
      rw [if_neg (fun z => by cases z.1)]
      have p0 : pI none < 0 := by decide
      simp only [x_Mod_ask_117, x_Mod_ask_118, x_Mod_ask_119, x_Mod_ask_120, x_Mod_ask_122, x_Mod_ask_125, x_Mod_ask_126, x_Mod_ask_129, x_Mod_ask_130, x_Mod_ask_133, x_Mod_ask_134, x_Mod_ask_137, x_Mod_ask_140, i_93, n0, ac_0, ac_i, ac_r, ac_ii, ac_ir, ac_ri, ac_rr, ac_iii, ac_iir, ac_iri, ac_irr, ac_rii, ac_rir, ac_rri, ac_rrr, Option.bind_some, Option.toList_some, Option.toList_none, List.nil_append, List.cons_append, not_false_eq_true, p0, if_true, ite_self]
      exact ih (s + 1) _ _ _ _ _ (by omega) (nt_L L (by omega)) (by rw [nt_n]; omega)
    | some j =>
      obtain ⟨j4', jr, jq⟩ := i4 j rfl
      obtain ⟨a1, a2⟩ := R j j4' jr
      have p0 : ¬ pI (some j) < 0 := nI_nn (by omega)
      by_cases f0 : flt F (jn J) = 0
      · have hD : nI (lz8 D) = 8 ↔ D = 0 := by
          rw [show (8 : Int32) = nI 8 from rfl, nI_eq (by have := lz8_le D i1; omega) (by decide)]
          exact lz8_0 D i1
        rw [if_pos ⟨rfl, f0⟩]
        by_cases hD0 : D = 0
        · rw [if_pos hD0]
          simp only [x_Mod_ask_117, x_Mod_ask_118, x_Mod_ask_119, x_Mod_ask_120, x_Mod_ask_122, x_Mod_ask_125, x_Mod_ask_126, x_Mod_ask_129, x_Mod_ask_130, x_Mod_ask_133, x_Mod_ask_134, x_Mod_ask_137, x_Mod_ask_143, x_Mod_ask_145, x_Mod_ask_147, x_Mod_ask_150, x_Mod_ask_151, i_93, n1, ac_0, ac_i, ac_r, ac_ii, ac_ir, ac_ri, ac_rr, ac_iii, ac_iir, ac_iri, ac_irr, ac_rii, ac_rir, ac_rri, ac_rrr, Option.bind_some, Option.toList_some, Option.toList_none, List.nil_append, List.cons_append, not_false_eq_true, p0, f0, if_true, if_false, hD.mpr hD0, (by decide : ¬ (1 : Int32) = 0)]
          show _ = askO S V (j, _)
          unfold askO mEnd
          dsimp only
          rw [if_pos j4', if_pos j4']
          rfl
        · rw [if_neg hD0]
          have hl7 : lz8 D < 8 := by
            have := lz8_le D i1
            have := lz8_0 D i1
            omega
          have hln : n ≤ lz8 D := (lz8_iff D i1 n (by omega)).mp i2
          have la : ∀ J s, am_ld (hs (mS S J s) (mV V J)) 97 0 (nI j) = some (nI (A j)) := fun J s => by
            rw [ldN rfl (by omega), mV_ne (by decide), ha j j4', a2]
          have hd : A j / 2 ^ (8 - lz8 D) < 256 := Nat.lt_of_le_of_lt (Nat.div_le_self _ _) a1
          have sh : nI (A j / 2 ^ (8 - lz8 D)) <<< ((1 : Int32) &&& 31) = nI (A j / 2 ^ (8 - lz8 D) * 2) := shl_N (n := A j / 2 ^ (8 - lz8 D)) (k := 1) (by omega) (by decide)
          have hp : pI (some j) = nI j := rfl
          rw [hp] at p0 ⊢
          simp only [x_Mod_ask_117, x_Mod_ask_118, x_Mod_ask_119, x_Mod_ask_120, x_Mod_ask_122, x_Mod_ask_125, x_Mod_ask_126, x_Mod_ask_129, x_Mod_ask_130, x_Mod_ask_133, x_Mod_ask_134, x_Mod_ask_137, x_Mod_ask_143, x_Mod_ask_145, x_Mod_ask_147, x_Mod_ask_152, x_Mod_ask_154, x_Mod_ask_155, x_Mod_ask_156, x_Mod_ask_157, x_Mod_ask_158, x_Mod_ask_161, x_Mod_ask_162, x_Mod_ask_163, x_Mod_ask_165, x_Mod_ask_167, x_Mod_ask_168, x_Mod_ask_169, x_Mod_ask_170, x_Mod_ask_171, x_Mod_ask_172, i_93, n1, ac_0, ac_i, ac_r, ac_ii, ac_ir, ac_ri, ac_rr, ac_iii, ac_iir, ac_iri, ac_irr, ac_rii, ac_rir, ac_rri, ac_rrr, Option.bind_some, Option.toList_some, Option.toList_none, List.nil_append, List.cons_append, not_false_eq_true, p0, f0, if_true, if_false, mt hD.mp hD0, (by decide : ¬ (1 : Int32) = 0), g_93_3, la, sub8 (n := lz8 D) (by omega), shr_N (n := A j) (k := 8 - lz8 D) (by omega) (by omega), sh, nI_1]
          exact hk (lz8 D + 1) _ (nt J 2 (nI n) 1) _ _ _ _ (by omega) (by omega) (by show A j / 2 ^ (8 - lz8 D) * 2 < 1000; omega) (nt_L L (by omega)) (by rw [nt_n]; omega)
      · rw [if_neg (fun z => f0 z.2)]
        simp only [x_Mod_ask_117, x_Mod_ask_118, x_Mod_ask_119, x_Mod_ask_120, x_Mod_ask_122, x_Mod_ask_133, x_Mod_ask_134, x_Mod_ask_137, x_Mod_ask_140, i_93, n0, ac_0, ac_i, ac_r, ac_ii, ac_ir, ac_ri, ac_rr, ac_iii, ac_iir, ac_iri, ac_irr, ac_rii, ac_rir, ac_rri, ac_rrr, Option.bind_some, Option.toList_some, Option.toList_none, List.nil_append, List.cons_append, not_false_eq_true, f0, if_false, if_true]
        exact ih (s + 1) _ _ _ _ _ (by omega) (nt_L L (by omega)) (by rw [nt_n]; omega)
theorem ask_loop (R : RA rd ad A) (hr : ∀ j, j < 4 → (V 96)[j]? = some (rd j)) (ha : ∀ j, j < 4 → (V 97)[j]? = some (ad j)) (hF : V 108 = F) (lF : F.length = 128) : ∀ (m n q N : Nat) (J : st_J) (l3 l4 l5 l6 : Option Value), 9 ≤ n + m → n ≤ 8 → q < 1000 → JL J → jn J + 3 * m ≤ N → N ≤ 2000000 →
    rn (d + 1) 98 4 [some (.ref 93), some (.int (nI n)), some (.int (nI q)), l3, l4, l5, l6] [] (hs (mS S J 0) (mV V J)) = askO S V (ak F rd A m J n q) := by
  intro m
  induction m with
  | zero => intro n q N J l3 l4 l5 l6 h9 h8; omega
  | succ m ihm =>
    intro n q N J l3 l4 l5 l6 h9 h8 hq L hJ hN
    rw [ak_s]
    refine ask_att (N := N - 3 * m) R hr ha hF lF h8 hq (by omega) (fun n' q' J' l3 l4 l5 l6 h1 h2 h3 h4 h5 => ?_) 3 0 J l3 l4 l5 l6 (by omega) L (by omega)
    exact ihm n' q' N J' l3 l4 l5 l6 (by omega) h2 h3 h4 (by omega) hN
theorem ev_ask {J : st_J} (R : RA rd ad A) (hr : ∀ j, j < 4 → (V 96)[j]? = some (rd j)) (ha : ∀ j, j < 4 → (V 97)[j]? = some (ad j)) (hF : V 108 = F) (lF : F.length = 128) (X : JM S V J 0) (L : JL J) (hJ : jn J + 27 ≤ 2000000) : ev (d + 1) 98 [.ref 93] (hs S V) = askO S V (ak F rd A 9 J 0 0) := by
  have h := ask_loop (d := d) (S := S) R hr ha hF lF 9 0 0 2000000 J none none none none (by decide) (by decide) (by decide) L (by omega) (by omega)
  rw [mS_id X, mV_id X, nI_0] at h
  rw [← h]
  simp only [e_Mod_ask, x_Mod_ask_0, x_Mod_ask_1, x_Mod_ask_2, x_Mod_ask_3]
theorem ev_mwake {J : st_J} (hr : ∀ j, j < 4 → (V 96)[j]? = some (rd j)) (hF : V 108 = F) (lF : F.length = 128) (X : JM S V J 0) (L : JL J) (hJ : jn J + 3 ≤ 2000000) : ev (d + 1) 97 [.ref 93] (hs S V) = some (some (.int (b2i (clt F (decide (¬ anyR rd = 0)) 1 0 3 J false).1)), hs (mS S (clt F (decide (¬ anyR rd = 0)) 1 0 3 J false).2.2 (if (clt F (decide (¬ anyR rd = 0)) 1 0 3 J false).1 = true then 0 else 3)) (mV V (clt F (decide (¬ anyR rd = 0)) 1 0 3 J false).2.2)) := by
  have h := mwake_loop (d := d) (S := S) (hr 0 (by decide)) (hr 1 (by decide)) (hr 2 (by decide)) (hr 3 (by decide)) hF lF 3 0 J false none none (by omega) L (by omega)
  rw [mS_id X, mV_id X] at h
  exact h
end ASK
