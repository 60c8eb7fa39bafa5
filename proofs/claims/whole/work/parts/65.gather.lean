/-! the class: who answers; waking -/
section GATHER
variable {d : Nat} {S : st_S} {V : st_V} {F : List Int32}
theorem call_loop0 {k x : Int32} (hp : S 1 2 = -1) (hF : V 64 = F) (lF : F.length = 128) : ∀ (m a : Nat) (J : st_J) (hd : Bool) (l5 : Option Value), a + m = 3 → JL J → jn J + 3 ≤ 2000000 + a →
    rn (d + 2) 36 5 [some (.ref 1), some (.int k), some (.int x), some (.int 0), some (.int (nI a)), l5] [] (hs (jS S J) (jV V J)) = some (some (.int (b2i (clt F false k x m J hd).1)), hs (jS S (clt F false k x m J hd).2.2) (jV V (clt F false k x m J hd).2.2)) := by
  have hp2 : ∀ (J : st_J), jS S J 1 2 = -1 := fun J => by rw [jS_ne (by decide)]; exact hp
  intro m
  induction m with
  | zero =>
    intro a J hd l5 ha L hn
    have : a = 3 := by omega
    subst this
    rw [x_Air_call_5]
    simp only [x_Air_call_0, x_Air_call_1, x_Air_call_2, x_Air_call_3, x_Air_call_7, x_Air_call_8, x_Air_call_11, x_Air_call_12, x_Air_call_15, x_Air_call_16, x_Air_call_19, x_Air_call_22, x_Air_call_24, x_Air_call_25, x_Air_call_28, x_Air_call_29, x_Air_call_32, x_Air_call_34, x_Air_call_35, x_Air_call_38, x_Air_call_39, x_Air_call_42, x_Air_call_43, x_Air_call_46, x_Air_call_47, x_Air_call_48, x_Air_call_51, x_Air_call_52, x_Air_call_55, x_Air_call_56, x_Air_call_57, x_Air_call_58, x_Air_call_61, x_Air_call_62, x_Air_call_65, x_Air_call_67, x_Air_call_70, x_Air_call_71, x_Air_call_74, x_Air_call_75, x_Air_call_78, x_Air_call_79, x_Air_call_82, x_Air_call_85, x_Air_call_86, (by decide : ¬ nI 3 < 3), if_false, nbz]
    rfl
  | succ m ih =>
    intro a J hd l5 ha L hn
    have c : nI a < 3 := nI_lt (b := 3) (by omega) (by decide)
    have e1 := ev_nextFault (d := d + 1) (jx_set S V J) L (F := F) (by rw [jV_ne (by decide)]; exact hF) lF
    have Ln : ∀ y, JL (nt J k x y) := fun y => nt_L L (by omega)
    have e3 : ev (d + 1) 25 [.ref 63, .int k, .int x, .int 0] (hs (jS S J) (jV V J)) = some (some (.int 0), hs (jS S (nt J k x 0)) (jV V (nt J k x 0))) := by
      rw [ev_note (jx_set _ V J) L (Or.inl rfl), jS_jS, jV_jV]
    rw [x_Air_call_5]
    simp only [x_Air_call_0, x_Air_call_1, x_Air_call_2, x_Air_call_3, x_Air_call_7, x_Air_call_8, x_Air_call_11, x_Air_call_12, x_Air_call_15, x_Air_call_16, x_Air_call_19, x_Air_call_22, x_Air_call_24, x_Air_call_25, x_Air_call_28, x_Air_call_29, x_Air_call_32, x_Air_call_34, x_Air_call_35, x_Air_call_38, x_Air_call_39, x_Air_call_42, x_Air_call_43, x_Air_call_46, x_Air_call_47, x_Air_call_48, x_Air_call_51, x_Air_call_52, x_Air_call_55, x_Air_call_56, x_Air_call_57, x_Air_call_58, x_Air_call_61, x_Air_call_62, x_Air_call_65, x_Air_call_67, x_Air_call_70, x_Air_call_71, x_Air_call_74, x_Air_call_75, x_Air_call_78, x_Air_call_79, x_Air_call_85, x_Air_call_86, c, if_true, g_1_1, i_63, e1, ac_0, ac_i, ac_r, ac_ii, ac_ir, ac_ri, ac_rr, ac_iii, ac_iir, ac_iri, ac_irr, ac_rii, ac_rir, ac_rri, ac_rrr, Option.bind_some, Option.toList_some, Option.toList_none, List.nil_append, List.cons_append, not_false_eq_true, g_1_2, hp2 J, e3]
    rw [clt_s, x_Air_call_82]
    have := ih (a + 1) (nt J k x 0) (hd || (false && decide (¬ flt F (jn J) = 1))) (some (.int (flt F (jn J)))) (by omega) (Ln 0) (by rw [nt_n]; omega)
    rw [← nI_1] at this
    rw [this, if_neg (fun z => by cases z.1)]
theorem ev_call {j : Nat} {k x : Int32} {J : st_J} (hj : j < 4) (hp : S 1 2 = nI j) (hF : V 64 = F) (lF : F.length = 128) (X : JX S V J) (L : JL J) (hn : jn J + 3 ≤ 2000000) : ev (d + 2) 36 [.ref 1, .int k, .int x] (hs S V) = some (some (.int (b2i (clt F true k x 3 J false).1)), hs (jS (hdS (clt F true k x 3 J false).2.1 S (hS S (cb j) k)) (clt F true k x 3 J false).2.2) (jV V (clt F true k x 3 J false).2.2)) := by
  have h := call_loop (d := d) (k := k) (x := x) hj hp hF lF 3 0 J false none (by omega) L (by omega)
  rw [nI_0] at h
  rw [← h]
  have e1 : jS (hdS false S (hS S (cb j) k)) J = S := jS_id X
  rw [e1, jV_id X]
  simp only [e_Air_call, x_Air_call_0, x_Air_call_1, x_Air_call_2, x_Air_call_3]
theorem ev_call0 {k x : Int32} {J : st_J} (hp : S 1 2 = -1) (hF : V 64 = F) (lF : F.length = 128) (X : JX S V J) (L : JL J) (hn : jn J + 3 ≤ 2000000) : ev (d + 2) 36 [.ref 1, .int k, .int x] (hs S V) = some (some (.int (b2i (clt F false k x 3 J false).1)), hs (jS S (clt F false k x 3 J false).2.2) (jV V (clt F false k x 3 J false).2.2)) := by
  have h := call_loop0 (d := d) (k := k) (x := x) hp hF lF 3 0 J false none (by omega) L (by omega)
  rw [nI_0] at h
  rw [← h, jS_id X, jV_id X]
  simp only [e_Air_call, x_Air_call_0, x_Air_call_1, x_Air_call_2, x_Air_call_3]
theorem ev_begins {b : Nat} {p n : Int32} (H : Crd b) : ev d 15 [.ref b, .int p, .int n] (hs S V) = some (some (.int (if am_ush (S b 3 ^^^ p) (8 - n) = 0 then 1 else 0)), hs S V) := by
  simp only [e_Card_beginsWith, x_Card_beginsWith_0, x_Card_beginsWith_1, x_Card_beginsWith_4, x_Card_beginsWith_5, x_Card_beginsWith_6, x_Card_beginsWith_8, x_Card_beginsWith_9, x_Card_beginsWith_10, x_Card_beginsWith_11, x_Card_beginsWith_14, x_Card_beginsWith_15, x_Card_beginsWith_18, x_Card_beginsWith_19, cg_3 H, ac_0, ac_i, ac_r, ac_ii, ac_ir, ac_ri, ac_rr, ac_iii, ac_iir, ac_iri, ac_irr, ac_rii, ac_rir, ac_rri, ac_rrr, Option.bind_some, Option.toList_some, Option.toList_none, List.nil_append, List.cons_append, not_false_eq_true, nbz, nbo]
  split <;> rfl
/-- who answers to a prefix: the first, and where the addresses part -/
def gth (rd ad : Nat → Int32) (p n : Int32) : Nat → Nat → Option Nat → Int32 → Option Nat × Int32
  | 0, _, w, df => (w, df)
  | m + 1, c, w, df => if ¬ rd c = 0 ∧ am_ush (ad c ^^^ p) (8 - n) = 0 then gth rd ad p n m (c + 1) (some (w.getD c)) (df ||| (ad c ^^^ ad (w.getD c))) else gth rd ad p n m (c + 1) w df
theorem gth_s (rd ad : Nat → Int32) (p n : Int32) (m c : Nat) (w : Option Nat) (df : Int32) : gth rd ad p n (m + 1) c w df = if ¬ rd c = 0 ∧ am_ush (ad c ^^^ p) (8 - n) = 0 then gth rd ad p n m (c + 1) (some (w.getD c)) (df ||| (ad c ^^^ ad (w.getD c))) else gth rd ad p n m (c + 1) w df := rfl
def pI (w : Option Nat) : Int32 := match w with
  | none => -1
  | some j => nI j
def gS (S : st_S) (w : Option Nat) (df : Int32) : st_S := uS (uS S 1 2 (pI w)) 1 3 df
theorem gS_gS (S : st_S) (w w' : Option Nat) (df df' : Int32) : gS (gS S w df) w' df' = gS S w' df' := by
  unfold gS
  rw [uS_comm (a := 1) (k := 3) (a' := 1) (k' := 2) (by decide), uS_uS, uS_uS]
theorem gS_ne {S : st_S} {w : Option Nat} {df : Int32} {a k : Nat} (h : ¬ a = 1) : gS S w df a k = S a k := by
  unfold gS; rw [uS_ne (fun z => h z.1), uS_ne (fun z => h z.1)]
theorem gather_loop {p n : Int32} : ∀ (m c : Nat) (w : Option Nat) (df : Int32), c + m = 4 → (∀ j, w = some j → j < 4) →
    rn (d + 1) 35 12 [some (.ref 1), some (.int p), some (.int n), some (.int (nI c))] [] (hs (gS S w df) V) = some (none, hs (gS S (gth (fun j => S (cb j) 2) (fun j => S (cb j) 3) p n m c w df).1 (gth (fun j => S (cb j) 2) (fun j => S (cb j) 3) p n m c w df).2) V) := by
  intro m
  induction m with
  | zero =>
    intro c w df hc hw
    have : c = 4 := by omega
    subst this
    rw [x_Air_gather_12]
    simp only [x_Air_gather_0, x_Air_gather_1, x_Air_gather_2, x_Air_gather_5, x_Air_gather_6, x_Air_gather_7, x_Air_gather_10, x_Air_gather_11, x_Air_gather_13, x_Air_gather_14, x_Air_gather_17, x_Air_gather_18, x_Air_gather_21, x_Air_gather_22, x_Air_gather_23, x_Air_gather_26, x_Air_gather_29, x_Air_gather_30, x_Air_gather_33, x_Air_gather_34, x_Air_gather_35, x_Air_gather_36, x_Air_gather_37, x_Air_gather_40, x_Air_gather_43, x_Air_gather_44, x_Air_gather_45, x_Air_gather_48, x_Air_gather_49, x_Air_gather_52, x_Air_gather_53, x_Air_gather_56, x_Air_gather_57, x_Air_gather_60, x_Air_gather_63, x_Air_gather_64, x_Air_gather_64', x_Air_gather_65, x_Air_gather_68, x_Air_gather_69, x_Air_gather_72, x_Air_gather_73, x_Air_gather_74, x_Air_gather_77, x_Air_gather_78, x_Air_gather_81, x_Air_gather_82, x_Air_gather_85, x_Air_gather_86, x_Air_gather_89, x_Air_gather_90, x_Air_gather_91, x_Air_gather_94, x_Air_gather_97, x_Air_gather_100, (by decide : ¬ nI 4 < 4), if_false]
    rfl
  | succ m ih =>
    intro c w df hc hw
    have hc4 : c < 4 := by omega
    have cc : nI c < 4 := nI_lt (b := 4) hc4 (by decide)
    have r2 : ∀ j w df, j < 4 → gS S w df (cb j) 2 = S (cb j) 2 := fun j w df hj => gS_ne (by unfold cb; omega)
    have r3 : ∀ j w df, j < 4 → gS S w df (cb j) 3 = S (cb j) 3 := fun j w df hj => gS_ne (by unfold cb; omega)
    have a1 : gS S w df 1 2 = pI w := by unfold gS; rw [uS_ne (by decide), uS_self]
    have a3 : ∀ v, uS (gS S w df) 1 2 v 1 3 = df := fun v => by rw [uS_ne (by decide)]; unfold gS; rw [uS_self]
    have a2 : ∀ v, uS (gS S w df) 1 2 v 1 2 = v := fun v => uS_self _ _ _ _
    rw [gth_s, x_Air_gather_12]
    have e := ev_begins (d := d) (S := gS S w df) (V := V) (p := p) (n := n) (crd hc4)
    rw [r3 c w df hc4] at e
    have hwj : w.getD c < 4 := by
      cases w with
      | none => exact hc4
      | some j => exact hw j rfl
    have ad : ∀ j v, j < 4 → uS (gS S w df) 1 2 v (cb j) 3 = S (cb j) 3 := fun j v hj => by rw [uS_ne (fun z => by have := z.1; unfold cb at this; omega)]; exact r3 j w df hj
    by_cases h1 : S (cb c) 2 = 0
    · simp only [x_Air_gather_0, x_Air_gather_1, x_Air_gather_2, x_Air_gather_5, x_Air_gather_6, x_Air_gather_7, x_Air_gather_10, x_Air_gather_11, x_Air_gather_13, x_Air_gather_14, x_Air_gather_17, x_Air_gather_18, x_Air_gather_21, x_Air_gather_22, x_Air_gather_23, x_Air_gather_26, x_Air_gather_29, x_Air_gather_30, x_Air_gather_33, x_Air_gather_34, x_Air_gather_35, x_Air_gather_36, x_Air_gather_37, x_Air_gather_40, x_Air_gather_43, x_Air_gather_44, x_Air_gather_45, x_Air_gather_48, x_Air_gather_49, x_Air_gather_52, x_Air_gather_53, x_Air_gather_56, x_Air_gather_57, x_Air_gather_60, x_Air_gather_63, x_Air_gather_64, x_Air_gather_64', x_Air_gather_65, x_Air_gather_68, x_Air_gather_69, x_Air_gather_72, x_Air_gather_73, x_Air_gather_74, x_Air_gather_77, x_Air_gather_78, x_Air_gather_81, x_Air_gather_82, x_Air_gather_85, x_Air_gather_86, x_Air_gather_89, x_Air_gather_90, x_Air_gather_91, x_Air_gather_94, x_Air_gather_97, x_Air_gather_100, cc, if_true, g_1_0, ld_cards hc4, cg_2 (crd hc4), r2 c w df hc4, h1, ac_0, ac_i, ac_r, ac_ii, ac_ir, ac_ri, ac_rr, ac_iii, ac_iir, ac_iri, ac_irr, ac_rii, ac_rir, ac_rri, ac_rrr, Option.bind_some, Option.toList_some, Option.toList_none, List.nil_append, List.cons_append, not_false_eq_true, nI_1]
      rw [if_neg (fun z => z.1 trivial), ih (c + 1) w df (by omega) hw]
    · by_cases h2 : am_ush (S (cb c) 3 ^^^ p) (8 - n) = 0
      · rw [if_pos h2] at e
        rw [if_pos ⟨h1, h2⟩]
        have ih' := ih (c + 1) (some (w.getD c)) (df ||| (S (cb c) 3 ^^^ S (cb (w.getD c)) 3)) (by omega) (fun j hj => by cases hj; exact hwj)
        have fin : uS (uS (gS S w df) 1 2 (nI (w.getD c))) 1 3 (df ||| (S (cb c) 3 ^^^ S (cb (w.getD c)) 3)) = gS S (some (w.getD c)) (df ||| (S (cb c) 3 ^^^ S (cb (w.getD c)) 3)) := by
          have := gS_gS S w (some (w.getD c)) df (df ||| (S (cb c) 3 ^^^ S (cb (w.getD c)) 3))
          rw [← this]; rfl
        cases w with
        | none =>
          have pn : pI none = -1 := rfl
          simp only [x_Air_gather_0, x_Air_gather_1, x_Air_gather_2, x_Air_gather_5, x_Air_gather_6, x_Air_gather_7, x_Air_gather_10, x_Air_gather_11, x_Air_gather_13, x_Air_gather_14, x_Air_gather_17, x_Air_gather_18, x_Air_gather_21, x_Air_gather_22, x_Air_gather_23, x_Air_gather_26, x_Air_gather_29, x_Air_gather_30, x_Air_gather_33, x_Air_gather_34, x_Air_gather_35, x_Air_gather_36, x_Air_gather_37, x_Air_gather_40, x_Air_gather_43, x_Air_gather_44, x_Air_gather_45, x_Air_gather_48, x_Air_gather_49, x_Air_gather_52, x_Air_gather_53, x_Air_gather_56, x_Air_gather_57, x_Air_gather_60, x_Air_gather_63, x_Air_gather_64, x_Air_gather_64', x_Air_gather_65, x_Air_gather_68, x_Air_gather_69, x_Air_gather_72, x_Air_gather_73, x_Air_gather_74, x_Air_gather_77, x_Air_gather_78, x_Air_gather_81, x_Air_gather_82, x_Air_gather_85, x_Air_gather_86, x_Air_gather_89, x_Air_gather_90, x_Air_gather_91, x_Air_gather_94, x_Air_gather_97, x_Air_gather_100, cc, if_true, if_false, g_1_0, ld_cards hc4, cg_2 (crd hc4), cg_3 (crd hc4), c_is (crd hc4), r2 c none df hc4, h1, e, g_1_2, p_1_2, g_1_3, p_1_3, a1, pn, a2, a3, ad c _ hc4, ac_0, ac_i, ac_r, ac_ii, ac_ir, ac_ri, ac_rr, ac_iii, ac_iir, ac_iri, ac_irr, ac_rii, ac_rir, ac_rri, ac_rrr, Option.bind_some, Option.toList_some, Option.toList_none, List.nil_append, List.cons_append, not_false_eq_true, nI_1, (by decide : ¬ (1 : Int32) = 0)]
          simp only [Option.getD_none] at fin ih'
          rw [fin, ih']
          rfl
        | some j =>
          have hj : j < 4 := hw j rfl
          have pn : ¬ pI (some j) = -1 := by
            show ¬ nI j = -1
            rcases j4 hj with rfl | rfl | rfl | rfl <;> decide
          have pj : pI (some j) = nI j := rfl
          simp only [x_Air_gather_0, x_Air_gather_1, x_Air_gather_2, x_Air_gather_5, x_Air_gather_6, x_Air_gather_7, x_Air_gather_10, x_Air_gather_11, x_Air_gather_13, x_Air_gather_14, x_Air_gather_17, x_Air_gather_18, x_Air_gather_21, x_Air_gather_22, x_Air_gather_23, x_Air_gather_26, x_Air_gather_29, x_Air_gather_30, x_Air_gather_33, x_Air_gather_34, x_Air_gather_35, x_Air_gather_36, x_Air_gather_37, x_Air_gather_40, x_Air_gather_43, x_Air_gather_44, x_Air_gather_45, x_Air_gather_48, x_Air_gather_49, x_Air_gather_52, x_Air_gather_53, x_Air_gather_56, x_Air_gather_57, x_Air_gather_60, x_Air_gather_63, x_Air_gather_64, x_Air_gather_64', x_Air_gather_65, x_Air_gather_68, x_Air_gather_69, x_Air_gather_72, x_Air_gather_73, x_Air_gather_74, x_Air_gather_77, x_Air_gather_78, x_Air_gather_81, x_Air_gather_82, x_Air_gather_85, x_Air_gather_86, x_Air_gather_89, x_Air_gather_90, x_Air_gather_91, x_Air_gather_94, x_Air_gather_97, x_Air_gather_100, cc, if_true, if_false, g_1_0, ld_cards hc4, cg_2 (crd hc4), cg_3 (crd hc4), c_is (crd hc4), r2 c (some j) df hc4, h1, e, g_1_2, p_1_2, g_1_3, p_1_3, a1, pn, a2, a3, ad c _ hc4, ac_0, ac_i, ac_r, ac_ii, ac_ir, ac_ri, ac_rr, ac_iii, ac_iir, ac_iri, ac_irr, ac_rii, ac_rir, ac_rri, ac_rrr, Option.bind_some, Option.toList_some, Option.toList_none, List.nil_append, List.cons_append, not_false_eq_true, nI_1, (by decide : ¬ (1 : Int32) = 0)]
          simp only [pj, ld_cards hj, cg_3 (crd hj), ad j _ hj, x_Air_gather_0, x_Air_gather_1, x_Air_gather_2, x_Air_gather_5, x_Air_gather_6, x_Air_gather_7, x_Air_gather_10, x_Air_gather_11, x_Air_gather_13, x_Air_gather_14, x_Air_gather_17, x_Air_gather_18, x_Air_gather_21, x_Air_gather_22, x_Air_gather_23, x_Air_gather_26, x_Air_gather_29, x_Air_gather_30, x_Air_gather_33, x_Air_gather_34, x_Air_gather_35, x_Air_gather_36, x_Air_gather_37, x_Air_gather_40, x_Air_gather_43, x_Air_gather_44, x_Air_gather_45, x_Air_gather_48, x_Air_gather_49, x_Air_gather_52, x_Air_gather_53, x_Air_gather_56, x_Air_gather_57, x_Air_gather_60, x_Air_gather_63, x_Air_gather_64, x_Air_gather_64', x_Air_gather_65, x_Air_gather_68, x_Air_gather_69, x_Air_gather_72, x_Air_gather_73, x_Air_gather_74, x_Air_gather_77, x_Air_gather_78, x_Air_gather_81, x_Air_gather_82, x_Air_gather_85, x_Air_gather_86, x_Air_gather_89, x_Air_gather_90, x_Air_gather_91, x_Air_gather_94, x_Air_gather_97, x_Air_gather_100, p_1_3, g_1_3, ac_0, ac_i, ac_r, ac_ii, ac_ir, ac_ri, ac_rr, ac_iii, ac_iir, ac_iri, ac_irr, ac_rii, ac_rir, ac_rri, ac_rrr, Option.bind_some, Option.toList_some, Option.toList_none, List.nil_append, List.cons_append, not_false_eq_true, nI_1]
          simp only [Option.getD_some] at fin ih'
          rw [fin, ih']
          rfl
      · rw [if_neg h2] at e
        rw [if_neg (fun z => h2 z.2)]
        simp only [x_Air_gather_0, x_Air_gather_1, x_Air_gather_2, x_Air_gather_5, x_Air_gather_6, x_Air_gather_7, x_Air_gather_10, x_Air_gather_11, x_Air_gather_13, x_Air_gather_14, x_Air_gather_17, x_Air_gather_18, x_Air_gather_21, x_Air_gather_22, x_Air_gather_23, x_Air_gather_26, x_Air_gather_29, x_Air_gather_30, x_Air_gather_33, x_Air_gather_34, x_Air_gather_35, x_Air_gather_36, x_Air_gather_37, x_Air_gather_40, x_Air_gather_43, x_Air_gather_44, x_Air_gather_45, x_Air_gather_48, x_Air_gather_49, x_Air_gather_52, x_Air_gather_53, x_Air_gather_56, x_Air_gather_57, x_Air_gather_60, x_Air_gather_63, x_Air_gather_64, x_Air_gather_64', x_Air_gather_65, x_Air_gather_68, x_Air_gather_69, x_Air_gather_72, x_Air_gather_73, x_Air_gather_74, x_Air_gather_77, x_Air_gather_78, x_Air_gather_81, x_Air_gather_82, x_Air_gather_85, x_Air_gather_86, x_Air_gather_89, x_Air_gather_90, x_Air_gather_91, x_Air_gather_94, x_Air_gather_97, x_Air_gather_100, cc, if_true, if_false, g_1_0, ld_cards hc4, cg_2 (crd hc4), c_is (crd hc4), r2 c w df hc4, h1, e, ac_0, ac_i, ac_r, ac_ii, ac_ir, ac_ri, ac_rr, ac_iii, ac_iir, ac_iri, ac_irr, ac_rii, ac_rir, ac_rri, ac_rrr, Option.bind_some, Option.toList_some, Option.toList_none, List.nil_append, List.cons_append, not_false_eq_true, nI_1]
        rw [ih (c + 1) w df (by omega) hw]
theorem ev_gather {p n : Int32} : ev (d + 1) 35 [.ref 1, .int p, .int n] (hs S V) = some (none, hs (gS S (gth (fun j => S (cb j) 2) (fun j => S (cb j) 3) p n 4 0 none 0).1 (gth (fun j => S (cb j) 2) (fun j => S (cb j) 3) p n 4 0 none 0).2) V) := by
  have h := gather_loop (d := d) (S := S) (V := V) (p := p) (n := n) 4 0 none 0 (by omega) (fun j hj => by cases hj)
  rw [nI_0] at h
  rw [← h]
  simp only [e_Air_gather, x_Air_gather_0, x_Air_gather_1, x_Air_gather_2, x_Air_gather_5, x_Air_gather_6, x_Air_gather_7, x_Air_gather_10, x_Air_gather_11, p_1_2, p_1_3, ac_0, ac_i, ac_r, ac_ii, ac_ir, ac_ri, ac_rr, ac_iii, ac_iir, ac_iri, ac_irr, ac_rii, ac_rir, ac_rri, ac_rrr, Option.bind_some, Option.toList_some, Option.toList_none, List.nil_append, List.cons_append, not_false_eq_true]
  rfl
end GATHER
