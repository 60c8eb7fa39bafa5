/-! the reference: calls that are no blocks; waking -/
theorem mS_uS {S : st_S} {J : st_J} {s a k : Nat} {v : Int32} (h : ¬ (a = 93 ∧ (k = 30 ∨ k = 31 ∨ k = 32))) : mS (uS S a k v) J s = uS (mS S J s) a k v := by
  unfold mS
  rw [uS_comm (S := S) (a := a) (k := k) (by omega), uS_comm (a := a) (k := k) (k' := 31) (by omega), uS_comm (a := a) (k := k) (k' := 32) (by omega)]
theorem mS_ne {S : st_S} {J : st_J} {s a k : Nat} (h : ¬ (a = 93 ∧ (k = 30 ∨ k = 31 ∨ k = 32))) : mS S J s a k = S a k := by
  unfold mS
  rw [uS_ne (by omega), uS_ne (by omega), uS_ne (by omega)]
theorem mV_ne {V : st_V} {J : st_J} {a : Nat} (h : ¬ (a = 109 ∨ a = 110 ∨ a = 111)) : mV V J a = V a := by
  unfold mV
  rw [uV_ne (by omega), uV_ne (by omega), uV_ne (by omega)]
theorem uV_comm {V : st_V} {a a' : Nat} {l l' : List Int32} (h : ¬ a = a') : uV (uV V a l) a' l' = uV (uV V a' l') a l := by
  funext x
  unfold uV
  by_cases h1 : x = a'
  · rw [if_pos h1, if_neg (fun z => h (z.symm.trans h1)), if_pos h1]
  · rw [if_neg h1]
    by_cases h2 : x = a
    · rw [if_pos h2, if_pos h2]
    · rw [if_neg h2, if_neg h2, if_neg h1]
theorem mV_uV {V : st_V} {J : st_J} {a : Nat} {l : List Int32} (h : ¬ (a = 109 ∨ a = 110 ∨ a = 111)) : mV (uV V a l) J = uV (mV V J) a l := by
  unfold mV
  rw [uV_comm (V := V) (a := a) (by omega), uV_comm (a := a) (a' := 110) (by omega), uV_comm (a := a) (a' := 111) (by omega)]
theorem mV_sV {V : st_V} {J : st_J} {a j : Nat} {v : Int32} (h : ¬ (a = 109 ∨ a = 110 ∨ a = 111)) : mV (sV V a j v) J = sV (mV V J) a j v := by
  unfold sV
  rw [mV_uV h, mV_ne h]
theorem mV_len {V : st_V} {J : st_J} {a n : Nat} (h : ¬ (a = 109 ∨ a = 110 ∨ a = 111)) (hl : (V a).length = n) : (mV V J a).length = n := by rw [mV_ne h]; exact hl
def mhS (S : st_S) (k : Int32) : st_S := if k = 3 then uS S 93 44 1 else S
def mhV (V : st_V) (j : Nat) (k : Int32) : st_V := if k = 4 then sV V 96 j 0 else V
def hdV (hd : Bool) (V V' : st_V) : st_V := if hd = true then V' else V
theorem sV_sV (V : st_V) (a j : Nat) (v : Int32) : sV (sV V a j v) a j v = sV V a j v := by
  unfold sV
  rw [uV_self, uV_uV, List.set_set]
section MCALL
variable {d : Nat} {S : st_S} {V : st_V} {F : List Int32}
theorem mcall_loop {j : Nat} {k x : Int32} (hj : j < 4) (hk : k = 3 ∨ k = 4) (hx : (V 97)[j]? = some x) (l96 : (V 96).length = 4) (hF : V 108 = F) (lF : F.length = 128) : ∀ (m s : Nat) (J : st_J) (hd : Bool) (l3 : Option Value), s + m = 3 → JL J → jn J + 3 ≤ 2000000 + s →
    rn (d + 1) 99 0 [some (.ref 93), some (.int k), some (.int (nI j)), l3] [] (hs (mS (hdS hd S (mhS S k)) J s) (mV (hdV hd V (mhV V j k)) J)) = some (some (.int (b2i (clt F true k x m J hd).1)), hs (mS (hdS (clt F true k x m J hd).2.1 S (mhS S k)) (clt F true k x m J hd).2.2 (if (clt F true k x m J hd).1 = true then 0 else 3)) (mV (hdV (clt F true k x m J hd).2.1 V (mhV V j k)) (clt F true k x m J hd).2.2)) := by
  intro m
  induction m with
  | zero =>
    intro s J hd l3 ha L hn
    have : s = 3 := by omega
    subst this
    have c : ¬ mS (hdS hd S (mhS S k)) J 3 93 32 < 3 := by rw [(jm_set _ V J 3).2.2.2.2.2]; decide
    rw [x_Mod_call_0]
    simp only [x_Mod_call_1, x_Mod_call_4, x_Mod_call_5, x_Mod_call_8, x_Mod_call_9, x_Mod_call_12, x_Mod_call_13, x_Mod_call_14, x_Mod_call_15, x_Mod_call_18, x_Mod_call_19, x_Mod_call_20, x_Mod_call_23, x_Mod_call_24, x_Mod_call_25, x_Mod_call_28, x_Mod_call_29, x_Mod_call_30, x_Mod_call_33, x_Mod_call_34, x_Mod_call_35, x_Mod_call_38, x_Mod_call_39, x_Mod_call_42, x_Mod_call_43, x_Mod_call_44, x_Mod_call_45, x_Mod_call_46, x_Mod_call_47, x_Mod_call_48, x_Mod_call_51, x_Mod_call_52, x_Mod_call_53, x_Mod_call_54, x_Mod_call_57, x_Mod_call_58, x_Mod_call_61, x_Mod_call_62, x_Mod_call_65, x_Mod_call_68, x_Mod_call_69, x_Mod_call_70, x_Mod_call_73, x_Mod_call_74, g_93_32, c, if_false, nbz, ac_0, ac_i, ac_r, ac_ii, ac_ir, ac_ri, ac_rr, ac_iii, ac_iir, ac_iri, ac_irr, ac_rii, ac_rir, ac_rri, ac_rrr, Option.bind_some, Option.toList_some, Option.toList_none, List.nil_append, List.cons_append, not_false_eq_true]
    rfl
  | succ m ih =>
    intro s J hd l3 ha L hn
    have Q := fun hd => jm_set (hdS hd S (mhS S k)) (hdV hd V (mhV V j k)) J s
    have c : ∀ hd, mS (hdS hd S (mhS S k)) J s 93 32 < 3 := fun hd => by rw [(Q hd).2.2.2.2.2]; exact nI_lt (b := 3) (by omega) (by decide)
    have v97 : ∀ hd, (mV (hdV hd V (mhV V j k)) J) 97 = V 97 := fun hd => by
      rw [mV_ne (by decide)]
      unfold hdV mhV
      split
      · split
        · exact sV_ne (by decide)
        · rfl
      · rfl
    have v108 : ∀ hd, (mV (hdV hd V (mhV V j k)) J) 108 = F := fun hd => by
      rw [mV_ne (by decide)]
      unfold hdV mhV
      split
      · split
        · rw [sV_ne (by decide)]; exact hF
        · exact hF
      · exact hF
    have v96 : ∀ hd, ((mV (hdV hd V (mhV V j k)) J) 96).length = 4 := fun hd => by
      rw [mV_ne (by decide)]
      unfold hdV mhV
      split
      · split
        · rw [sV_len]; exact l96
        · exact l96
      · exact l96
    have e1 := fun hd => ev_faultNow (d := d) (Q hd) L (v108 hd) lF
    have ld : ∀ hd, am_ld (hs (mS (hdS hd S (mhS S k)) J s) (mV (hdV hd V (mhV V j k)) J)) 97 0 (nI j) = some x := fun hd => by rw [ldN rfl (by omega), v97 hd]; exact hx
    have Ln : ∀ y, JL (nt J k x y) := fun y => nt_L L (by omega)
    have e3 : ∀ (hd : Bool) (y : Int32), B01 y → ev d 87 [.ref 93, .int k, .int x, .int y] (hs (mS (hdS hd S (mhS S k)) J s) (mV (hdV hd V (mhV V j k)) J)) = some (some (.int y), hs (mS (hdS hd S (mhS S k)) (nt J k x y) (if y = 0 then s + 1 else 0)) (mV (hdV hd V (mhV V j k)) (nt J k x y))) := fun hd y hy => by
      rw [ev_mnote (Q hd) L hy, mS_mS, mV_mV]
    rw [x_Mod_call_0]
    have back : ∀ hd', rn (d + 1) 99 45 [some (.ref 93), some (.int k), some (.int (nI j)), some (.int (flt F (jn J)))] [] (hs (mS (hdS hd' S (mhS S k)) J s) (mV (hdV hd' V (mhV V j k)) J)) = (if flt F (jn J) = 0 then some (some (.int 1), hs (mS (hdS hd' S (mhS S k)) (nt J k x 1) 0) (mV (hdV hd' V (mhV V j k)) (nt J k x 1))) else rn (d + 1) 99 0 [some (.ref 93), some (.int k), some (.int (nI j)), some (.int (flt F (jn J)))] [] (hs (mS (hdS hd' S (mhS S k)) (nt J k x 0) (s + 1)) (mV (hdV hd' V (mhV V j k)) (nt J k x 0)))) := by
      intro hd'
      have n0 := e3 hd' 0 (Or.inl rfl)
      have n1 := e3 hd' 1 (Or.inr rfl)
      rw [if_pos rfl] at n0
      rw [if_neg (by decide)] at n1
      simp only [x_Mod_call_45, x_Mod_call_46, x_Mod_call_47, x_Mod_call_48, x_Mod_call_51, x_Mod_call_52, x_Mod_call_53, x_Mod_call_54, x_Mod_call_57, x_Mod_call_58, x_Mod_call_61, x_Mod_call_62, x_Mod_call_65, x_Mod_call_68, x_Mod_call_69, x_Mod_call_70, g_93_3, ld hd', i_93, n0, n1, ac_0, ac_i, ac_r, ac_ii, ac_ir, ac_ri, ac_rr, ac_iii, ac_iir, ac_iri, ac_irr, ac_rii, ac_rir, ac_rri, ac_rrr, Option.bind_some, Option.toList_some, Option.toList_none, List.nil_append, List.cons_append, not_false_eq_true, nbo, if_true, if_false, (by decide : ¬ (1 : Int32) = 0)]
    rw [clt_s]
    have mid : rn (d + 1) 99 1 [some (.ref 93), some (.int k), some (.int (nI j)), l3] [.ref 93] (hs (mS (hdS hd S (mhS S k)) J s) (mV (hdV hd V (mhV V j k)) J)) = (if flt F (jn J) = 1 then rn (d + 1) 99 45 [some (.ref 93), some (.int k), some (.int (nI j)), some (.int (flt F (jn J)))] [] (hs (mS (hdS hd S (mhS S k)) J s) (mV (hdV hd V (mhV V j k)) J)) else rn (d + 1) 99 45 [some (.ref 93), some (.int k), some (.int (nI j)), some (.int (flt F (jn J)))] [] (hs (mS (hdS true S (mhS S k)) J s) (mV (hdV true V (mhV V j k)) J))) := by
      rcases hk with rfl | rfl
      · have u : uS (mS (hdS hd S (mhS S 3)) J s) 93 44 1 = mS (hdS true S (mhS S 3)) J s := by
          rw [← mS_uS (by decide)]
          congr 1
          unfold hdS mhS
          rw [if_pos rfl, if_pos rfl]
          split
          · rw [uS_uS]
          · rfl
        have u2 : hdV hd V (mhV V j 3) = hdV true V (mhV V j 3) := by
          have z : mhV V j 3 = V := if_neg (by decide)
          rw [z]; cases hd <;> rfl
        simp only [x_Mod_call_1, x_Mod_call_4, x_Mod_call_5, x_Mod_call_8, x_Mod_call_9, x_Mod_call_12, x_Mod_call_13, x_Mod_call_14, x_Mod_call_15, x_Mod_call_18, x_Mod_call_19, x_Mod_call_20, x_Mod_call_23, x_Mod_call_24, x_Mod_call_25, x_Mod_call_28, x_Mod_call_29, x_Mod_call_30, x_Mod_call_33, x_Mod_call_34, x_Mod_call_35, x_Mod_call_38, x_Mod_call_39, x_Mod_call_42, x_Mod_call_43, x_Mod_call_44, g_93_32, c hd, if_true, i_93, e1 hd, ac_0, ac_i, ac_r, ac_ii, ac_ir, ac_ri, ac_rr, ac_iii, ac_iir, ac_iri, ac_irr, ac_rii, ac_rir, ac_rri, ac_rrr, Option.bind_some, Option.toList_some, Option.toList_none, List.nil_append, List.cons_append, not_false_eq_true, p_93_44, u, (by decide : ¬ (3 : Int32) = 4), if_false, ite_self]
        split
        · rfl
        · rw [u2]
      · have u : am_sv (hs (mS (hdS hd S (mhS S 4)) J s) (mV (hdV hd V (mhV V j 4)) J)) 96 1 (nI j) 0 = some (hs (mS (hdS true S (mhS S 4)) J s) (mV (hdV true V (mhV V j 4)) J)) := by
          rw [svN rfl (by rw [v96]; exact hj) (by omega), ← mV_sV (by decide)]
          have a1 : hdS hd S (mhS S 4) = hdS true S (mhS S 4) := by
            have z : mhS S 4 = S := if_neg (by decide)
            rw [z]; cases hd <;> rfl
          have a2 : sV (hdV hd V (mhV V j 4)) 96 j 0 = hdV true V (mhV V j 4) := by
            unfold hdV mhV
            rw [if_pos rfl, if_pos rfl]
            split
            · rw [sV_sV]
            · rfl
          rw [a1, a2]
        simp only [x_Mod_call_1, x_Mod_call_4, x_Mod_call_5, x_Mod_call_8, x_Mod_call_9, x_Mod_call_12, x_Mod_call_13, x_Mod_call_14, x_Mod_call_15, x_Mod_call_18, x_Mod_call_19, x_Mod_call_20, x_Mod_call_23, x_Mod_call_24, x_Mod_call_25, x_Mod_call_28, x_Mod_call_29, x_Mod_call_30, x_Mod_call_33, x_Mod_call_34, x_Mod_call_35, x_Mod_call_38, x_Mod_call_39, x_Mod_call_42, x_Mod_call_43, x_Mod_call_44, g_93_32, c hd, if_true, i_93, e1 hd, ac_0, ac_i, ac_r, ac_ii, ac_ir, ac_ri, ac_rr, ac_iii, ac_iir, ac_iri, ac_irr, ac_rii, ac_rir, ac_rri, ac_rrr, Option.bind_some, Option.toList_some, Option.toList_none, List.nil_append, List.cons_append, not_false_eq_true, g_93_2, bn_0, u, (by decide : ¬ (4 : Int32) = 3), if_false, ite_self]
    rw [mid]
    by_cases f0 : flt F (jn J) = 0
    · have f1 : ¬ flt F (jn J) = 1 := by rw [f0]; decide
      rw [if_neg f1, back true, if_pos f0, if_pos ⟨rfl, f0⟩]
      rfl
    · rw [if_neg (c := true = true ∧ flt F (jn J) = 0) (fun z => f0 z.2)]
      by_cases f1 : flt F (jn J) = 1
      · rw [if_pos f1, back hd, if_neg f0, ih (s + 1) (nt J k x 0) hd _ (by omega) (Ln 0) (by rw [nt_n]; omega)]
        simp [f1]
      · rw [if_neg f1, back true, if_neg f0, ih (s + 1) (nt J k x 0) true _ (by omega) (Ln 0) (by rw [nt_n]; omega)]
        simp [f1]
theorem ev_mcall {j : Nat} {k x : Int32} {J : st_J} (hj : j < 4) (hk : k = 3 ∨ k = 4) (hx : (V 97)[j]? = some x) (l96 : (V 96).length = 4) (hF : V 108 = F) (lF : F.length = 128) (X : JM S V J 0) (L : JL J) (hn : jn J + 3 ≤ 2000000) : ev (d + 1) 99 [.ref 93, .int k, .int (nI j)] (hs S V) = some (some (.int (b2i (clt F true k x 3 J false).1)), hs (mS (hdS (clt F true k x 3 J false).2.1 S (mhS S k)) (clt F true k x 3 J false).2.2 (if (clt F true k x 3 J false).1 = true then 0 else 3)) (mV (hdV (clt F true k x 3 J false).2.1 V (mhV V j k)) (clt F true k x 3 J false).2.2)) := by
  have h := mcall_loop (d := d) (S := S) hj hk hx l96 hF lF 3 0 J false none (by omega) L (by omega)
  rw [← h]
  have e1 : mS (hdS false S (mhS S k)) J 0 = S := mS_id X
  have e2 : mV (hdV false V (mhV V j k)) J = V := mV_id X
  rw [e1, e2]
  rfl
/-- is a card ready? -/
def anyR (rd : Nat → Int32) : Int32 := (((0 ||| rd 0) ||| rd 1) ||| rd 2) ||| rd 3
theorem mwake_loop {r0 r1 r2 r3 : Int32} (h0 : (V 96)[0]? = some r0) (h1 : (V 96)[1]? = some r1) (h2 : (V 96)[2]? = some r2) (h3 : (V 96)[3]? = some r3) (hF : V 108 = F) (lF : F.length = 128) : ∀ (m s : Nat) (J : st_J) (hd : Bool) (l1 l2 : Option Value), s + m = 3 → JL J → jn J + 3 ≤ 2000000 + s →
    rn (d + 1) 97 0 [some (.ref 93), l1, l2] [] (hs (mS S J s) (mV V J)) = some (some (.int (b2i (clt F (decide (¬ (((0 ||| r0) ||| r1) ||| r2) ||| r3 = 0)) 1 0 m J hd).1)), hs (mS S (clt F (decide (¬ (((0 ||| r0) ||| r1) ||| r2) ||| r3 = 0)) 1 0 m J hd).2.2 (if (clt F (decide (¬ (((0 ||| r0) ||| r1) ||| r2) ||| r3 = 0)) 1 0 m J hd).1 = true then 0 else 3)) (mV V (clt F (decide (¬ (((0 ||| r0) ||| r1) ||| r2) ||| r3 = 0)) 1 0 m J hd).2.2)) := by
  intro m
  induction m with
  | zero =>
    intro s J hd l1 l2 ha L hn
    have : s = 3 := by omega
    subst this
    have c : ¬ mS S J 3 93 32 < 3 := by rw [(jm_set _ V J 3).2.2.2.2.2]; decide
    rw [x_Mod_wake_0]
    simp only [x_Mod_wake_1, x_Mod_wake_4, x_Mod_wake_5, x_Mod_wake_64, x_Mod_wake_65, g_93_32, c, if_false, nbz, ac_0, ac_i, ac_r, ac_ii, ac_ir, ac_ri, ac_rr, ac_iii, ac_iir, ac_iri, ac_irr, ac_rii, ac_rir, ac_rri, ac_rrr, Option.bind_some, Option.toList_some, Option.toList_none, List.nil_append, List.cons_append, not_false_eq_true]
    rfl
  | succ m ih =>
    intro s J hd l1 l2 ha L hn
    have Q := jm_set S V J s
    have c : mS S J s 93 32 < 3 := by rw [Q.2.2.2.2.2]; exact nI_lt (b := 3) (by omega) (by decide)
    have e1 := ev_faultNow (d := d) Q L (F := F) (by rw [mV_ne (by decide)]; exact hF) lF
    have Ln : ∀ y, JL (nt J 1 0 y) := fun y => nt_L L (by omega)
    have n0 : ev d 87 [.ref 93, .int 1, .int 0, .int 0] (hs (mS S J s) (mV V J)) = some (some (.int 0), hs (mS S (nt J 1 0 0) (s + 1)) (mV V (nt J 1 0 0))) := by
      rw [ev_mnote Q L (Or.inl rfl), mS_mS, mV_mV, if_pos rfl]
    have n1 : ev d 87 [.ref 93, .int 1, .int 0, .int 1] (hs (mS S J s) (mV V J)) = some (some (.int 1), hs (mS S (nt J 1 0 1) 0) (mV V (nt J 1 0 1))) := by
      rw [ev_mnote Q L (Or.inr rfl), mS_mS, mV_mV, if_neg (by decide)]
    have b0 : am_ld (hs (mS S J s) (mV V J)) 96 1 0 = some r0 := (ldN (j := 0) rfl (by decide)).trans (by rw [mV_ne (by decide)]; exact h0)
    have b1 : am_ld (hs (mS S J s) (mV V J)) 96 1 1 = some r1 := (ldN (j := 1) rfl (by decide)).trans (by rw [mV_ne (by decide)]; exact h1)
    have b2 : am_ld (hs (mS S J s) (mV V J)) 96 1 2 = some r2 := (ldN (j := 2) rfl (by decide)).trans (by rw [mV_ne (by decide)]; exact h2)
    have b3 : am_ld (hs (mS S J s) (mV V J)) 96 1 3 = some r3 := (ldN (j := 3) rfl (by decide)).trans (by rw [mV_ne (by decide)]; exact h3)
    rw [x_Mod_wake_0]
    simp only [x_Mod_wake_1, x_Mod_wake_4, x_Mod_wake_5, x_Mod_wake_8, x_Mod_wake_9, x_Mod_wake_10, x_Mod_wake_11, g_93_32, c, if_true, ac_0, ac_i, ac_r, ac_ii, ac_ir, ac_ri, ac_rr, ac_iii, ac_iir, ac_iri, ac_irr, ac_rii, ac_rir, ac_rri, ac_rrr, Option.bind_some, Option.toList_some, Option.toList_none, List.nil_append, List.cons_append, not_false_eq_true]
    rw [x_Mod_wake_12]
    simp only [x_Mod_wake_13, x_Mod_wake_14, x_Mod_wake_17, x_Mod_wake_18, x_Mod_wake_19, x_Mod_wake_22, x_Mod_wake_23, x_Mod_wake_24, x_Mod_wake_25, x_Mod_wake_26, x_Mod_wake_29, g_93_2, b0, ac_0, ac_i, ac_r, ac_ii, ac_ir, ac_ri, ac_rr, ac_iii, ac_iir, ac_iri, ac_irr, ac_rii, ac_rir, ac_rri, ac_rrr, Option.bind_some, Option.toList_some, Option.toList_none, List.nil_append, List.cons_append, not_false_eq_true, if_true, (by decide : (0 : Int32) < 4), (by decide : (0 : Int32) + 1 = 1)]
    rw [x_Mod_wake_12]
    simp only [x_Mod_wake_13, x_Mod_wake_14, x_Mod_wake_17, x_Mod_wake_18, x_Mod_wake_19, x_Mod_wake_22, x_Mod_wake_23, x_Mod_wake_24, x_Mod_wake_25, x_Mod_wake_26, x_Mod_wake_29, g_93_2, b1, ac_0, ac_i, ac_r, ac_ii, ac_ir, ac_ri, ac_rr, ac_iii, ac_iir, ac_iri, ac_irr, ac_rii, ac_rir, ac_rri, ac_rrr, Option.bind_some, Option.toList_some, Option.toList_none, List.nil_append, List.cons_append, not_false_eq_true, if_true, (by decide : (1 : Int32) < 4), (by decide : (1 : Int32) + 1 = 2)]
    rw [x_Mod_wake_12]
    simp only [x_Mod_wake_13, x_Mod_wake_14, x_Mod_wake_17, x_Mod_wake_18, x_Mod_wake_19, x_Mod_wake_22, x_Mod_wake_23, x_Mod_wake_24, x_Mod_wake_25, x_Mod_wake_26, x_Mod_wake_29, g_93_2, b2, ac_0, ac_i, ac_r, ac_ii, ac_ir, ac_ri, ac_rr, ac_iii, ac_iir, ac_iri, ac_irr, ac_rii, ac_rir, ac_rri, ac_rrr, Option.bind_some, Option.toList_some, Option.toList_none, List.nil_append, List.cons_append, not_false_eq_true, if_true, (by decide : (2 : Int32) < 4), (by decide : (2 : Int32) + 1 = 3)]
    rw [x_Mod_wake_12]
    simp only [x_Mod_wake_13, x_Mod_wake_14, x_Mod_wake_17, x_Mod_wake_18, x_Mod_wake_19, x_Mod_wake_22, x_Mod_wake_23, x_Mod_wake_24, x_Mod_wake_25, x_Mod_wake_26, x_Mod_wake_29, g_93_2, b3, ac_0, ac_i, ac_r, ac_ii, ac_ir, ac_ri, ac_rr, ac_iii, ac_iir, ac_iri, ac_irr, ac_rii, ac_rir, ac_rri, ac_rrr, Option.bind_some, Option.toList_some, Option.toList_none, List.nil_append, List.cons_append, not_false_eq_true, if_true, (by decide : (3 : Int32) < 4), (by decide : (3 : Int32) + 1 = 4)]
    rw [x_Mod_wake_12]
    simp only [x_Mod_wake_13, x_Mod_wake_14, x_Mod_wake_32, x_Mod_wake_33, x_Mod_wake_36, x_Mod_wake_37, x_Mod_wake_38, x_Mod_wake_39, x_Mod_wake_40, x_Mod_wake_41, x_Mod_wake_44, x_Mod_wake_45, x_Mod_wake_48, x_Mod_wake_49, x_Mod_wake_52, x_Mod_wake_53, x_Mod_wake_56, x_Mod_wake_59, x_Mod_wake_60, x_Mod_wake_61, i_93, e1, n0, n1, ac_0, ac_i, ac_r, ac_ii, ac_ir, ac_ri, ac_rr, ac_iii, ac_iir, ac_iri, ac_irr, ac_rii, ac_rir, ac_rri, ac_rrr, Option.bind_some, Option.toList_some, Option.toList_none, List.nil_append, List.cons_append, not_false_eq_true, if_true, if_false, nbo, (by decide : ¬ (4 : Int32) < 4), (by decide : ¬ (1 : Int32) = 0)]
    rw [clt_s]
    by_cases f0 : flt F (jn J) = 0
    · rw [if_pos f0]
      by_cases hz : (((0 ||| r0) ||| r1) ||| r2) ||| r3 = 0
      · rw [if_pos hz, if_neg (fun z => (of_decide_eq_true z.1) hz)]
        rw [ih (s + 1) (nt J 1 0 0) _ _ _ (by omega) (Ln 0) (by rw [nt_n]; omega)]
      · rw [if_neg hz, if_pos ⟨decide_eq_true hz, f0⟩]
        rfl
    · rw [if_neg f0, if_neg (fun z => f0 z.2)]
      rw [ih (s + 1) (nt J 1 0 0) _ _ _ (by omega) (Ln 0) (by rw [nt_n]; omega)]
end MCALL
