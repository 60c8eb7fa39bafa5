/-! the class: calls that are no blocks -/
theorem jS_uS {S : st_S} {J : st_J} {a k : Nat} {v : Int32} (h : ¬ a = 63) : jS (uS S a k v) J = uS (jS S J) a k v := by
  unfold jS
  rw [uS_comm (S := S) (a := a) (k := k) (fun z => h z.1), uS_comm (a := a) (k := k) (fun z => h z.1)]
theorem jS_ne {S : st_S} {J : st_J} {a k : Nat} (h : ¬ a = 63) : jS S J a k = S a k := by
  unfold jS
  rw [uS_ne (fun z => h z.1), uS_ne (fun z => h z.1)]
theorem jV_ne {V : st_V} {J : st_J} {a : Nat} (h : ¬ (a = 65 ∨ a = 66 ∨ a = 67)) : jV V J a = V a := by
  unfold jV
  rw [uV_ne (by omega), uV_ne (by omega), uV_ne (by omega)]
/-- what a card does that hears such a call -/
def hS (S : st_S) (b : Nat) (k : Int32) : st_S := if k = 3 then uS (uS S b 14 1) (b + 11) 1 0 else if k = 4 then uS S b 2 0 else S
theorem ev_hearCall {d : Nat} {S : st_S} {V : st_V} {b : Nat} {k : Int32} (H : Crd b) : ev (d + 1) 16 [.ref b, .int k] (hs S V) = some (none, hs (hS S b k) V) := by
  have hr := H.2.2.2.2.2.2.2.1
  simp only [e_Card_hearCall, x_Card_hearCall_0, x_Card_hearCall_1, x_Card_hearCall_2, x_Card_hearCall_5, x_Card_hearCall_6, x_Card_hearCall_7, x_Card_hearCall_10, x_Card_hearCall_11, x_Card_hearCall_14, x_Card_hearCall_17, x_Card_hearCall_20, x_Card_hearCall_21, x_Card_hearCall_22, x_Card_hearCall_25, x_Card_hearCall_26, x_Card_hearCall_27, x_Card_hearCall_30, ac_0, ac_i, ac_r, ac_ii, ac_ir, ac_ri, ac_rr, ac_iii, ac_iir, ac_iri, ac_irr, ac_rii, ac_rir, ac_rri, ac_rrr, Option.bind_some, Option.toList_some, Option.toList_none, List.nil_append, List.cons_append, not_false_eq_true, cp_14 H, cp_2 H, cg_15 H, ob_0, row_is hr, ev_clr hr]
  unfold hS
  by_cases h3 : k = 3
  · rw [if_pos h3, if_pos h3]
  · rw [if_neg h3, if_neg h3]
    by_cases h4 : k = 4
    · rw [if_pos h4, if_pos h4]
    · rw [if_neg h4, if_neg h4]
theorem hS_idem (S : st_S) (b : Nat) (k : Int32) : hS (hS S b k) b k = hS S b k := by
  unfold hS
  by_cases h3 : k = 3
  · simp only [if_pos h3]
    rw [uS_comm (a := b + 11) (k := 1) (a' := b) (k' := 14) (by omega), uS_uS, uS_uS]
  · simp only [if_neg h3]
    by_cases h4 : k = 4
    · simp only [if_pos h4]; rw [uS_uS]
    · simp only [if_neg h4]
theorem hS_jS {S : st_S} {b : Nat} {k : Int32} {J : st_J} (hb : b + 11 < 63) : hS (jS S J) b k = jS (hS S b k) J := by
  unfold hS
  by_cases h3 : k = 3
  · simp only [if_pos h3]; rw [jS_uS (by omega), jS_uS (by omega)]
  · simp only [if_neg h3]
    by_cases h4 : k = 4
    · simp only [if_pos h4]; rw [jS_uS (by omega)]
    · simp only [if_neg h4]
theorem hS_ne {S : st_S} {b a i : Nat} {k : Int32} (h1 : ¬ a = b) (h2 : ¬ a = b + 11) : hS S b k a i = S a i := by
  unfold hS
  split
  · rw [uS_ne (fun z => h2 z.1), uS_ne (fun z => h1 z.1)]
  · split
    · rw [uS_ne (fun z => h1 z.1)]
    · rfl
/-- a call is sent up to m times: was it answered, was it heard, the exchanges -/
def clt (F : List Int32) (p : Bool) (k x : Int32) : Nat → st_J → Bool → Bool × Bool × st_J
  | 0, J, hd => (false, hd, J)
  | m + 1, J, hd => if p = true ∧ flt F (jn J) = 0 then (true, true, nt J k x 1) else clt F p k x m (nt J k x 0) (hd || (p && decide (¬ flt F (jn J) = 1)))
theorem clt_s (F : List Int32) (p : Bool) (k x : Int32) (m : Nat) (J : st_J) (hd : Bool) : clt F p k x (m + 1) J hd = if p = true ∧ flt F (jn J) = 0 then (true, true, nt J k x 1) else clt F p k x m (nt J k x 0) (hd || (p && decide (¬ flt F (jn J) = 1))) := rfl
def hdS (hd : Bool) (S S' : st_S) : st_S := if hd = true then S' else S
section CALL
variable {d : Nat} {S : st_S} {V : st_V} {F : List Int32}
theorem call_loop {j : Nat} {k x : Int32} (hj : j < 4) (hp : S 1 2 = nI j) (hF : V 64 = F) (lF : F.length = 128) : ∀ (m a : Nat) (J : st_J) (hd : Bool) (l5 : Option Value), a + m = 3 → JL J → jn J + 3 ≤ 2000000 + a →
    rn (d + 2) 36 5 [some (.ref 1), some (.int k), some (.int x), some (.int 0), some (.int (nI a)), l5] [] (hs (jS (hdS hd S (hS S (cb j) k)) J) (jV V J)) = some (some (.int (b2i (clt F true k x m J hd).1)), hs (jS (hdS (clt F true k x m J hd).2.1 S (hS S (cb j) k)) (clt F true k x m J hd).2.2) (jV V (clt F true k x m J hd).2.2)) := by
  have hb : cb j + 11 < 63 := by unfold cb; omega
  have hp2 : ∀ (hd : Bool) (J : st_J), jS (hdS hd S (hS S (cb j) k)) J 1 2 = nI j := fun hd J => by
    rw [jS_ne (by decide)]
    unfold hdS
    split
    · rw [hS_ne (by unfold cb; omega) (by unfold cb; omega)]; exact hp
    · exact hp
  have hne : ¬ nI j = -1 := by rcases j4 hj with rfl | rfl | rfl | rfl <;> decide
  intro m
  induction m with
  | zero =>
    intro a J hd l5 ha L hn
    have : a = 3 := by omega
    subst this
    rw [x_Air_call_5]
    simp only [x_Air_call_0, x_Air_call_1, x_Air_call_2, x_Air_call_3, x_Air_call_7, x_Air_call_8, x_Air_call_11, x_Air_call_12, x_Air_call_15, x_Air_call_16, x_Air_call_19, x_Air_call_22, x_Air_call_24, x_Air_call_25, x_Air_call_28, x_Air_call_29, x_Air_call_32, x_Air_call_34, x_Air_call_35, x_Air_call_38, x_Air_call_39, x_Air_call_42, x_Air_call_43, x_Air_call_46, x_Air_call_47, x_Air_call_48, x_Air_call_51, x_Air_call_52, x_Air_call_55, x_Air_call_56, x_Air_call_57, x_Air_call_58, x_Air_call_61, x_Air_call_62, x_Air_call_65, x_Air_call_67, x_Air_call_70, x_Air_call_71, x_Air_call_74, x_Air_call_75, x_Air_call_78, x_Air_call_79, x_Air_call_82, x_Air_call_85, x_Air_call_86, (by decide : ¬ nI 3 < 3), if_false, nbz]
    rfl
  | succ m ih =>
    intro a J hd l5 ha L hn
    have c : nI a < 3 := nI_lt (b := 3) (by omega) (by decide)
    have X := jx_set (hdS hd S (hS S (cb j) k)) V J
    have e1 := ev_nextFault (d := d + 1) X L (F := F) (by rw [jV_ne (by decide)]; exact hF) lF
    have e2 : ev (d + 1) 16 [.ref (cb j), .int k] (hs (jS (hdS hd S (hS S (cb j) k)) J) (jV V J)) = some (none, hs (jS (hS S (cb j) k) J) (jV V J)) := by
      rw [ev_hearCall (crd hj), hS_jS hb]
      unfold hdS
      cases hd
      · rfl
      · rw [if_pos rfl, hS_idem]
    have Ln : ∀ y, JL (nt J k x y) := fun y => nt_L L (by omega)
    have hh : hs (jS (hS S (cb j) k) J) (jV V J) = hs (jS (hdS true S (hS S (cb j) k)) J) (jV V J) := rfl
    have p1 : ∀ hd : Bool, jS (hdS hd S (hS S (cb j) k)) J 1 2 = nI j := fun hd => hp2 hd J
    have e3 : ∀ (hd : Bool) (y : Int32), B01 y → ev (d + 1) 25 [.ref 63, .int k, .int x, .int y] (hs (jS (hdS hd S (hS S (cb j) k)) J) (jV V J)) = some (some (.int y), hs (jS (hdS hd S (hS S (cb j) k)) (nt J k x y)) (jV V (nt J k x y))) := fun hd y hy => by
      rw [ev_note (jx_set _ V J) L hy, jS_jS, jV_jV]
    rw [x_Air_call_5]
    simp only [x_Air_call_0, x_Air_call_1, x_Air_call_2, x_Air_call_3, x_Air_call_7, x_Air_call_8, x_Air_call_11, x_Air_call_12, x_Air_call_15, x_Air_call_16, x_Air_call_19, x_Air_call_22, x_Air_call_24, x_Air_call_25, x_Air_call_28, x_Air_call_29, x_Air_call_32, x_Air_call_34, x_Air_call_35, x_Air_call_38, x_Air_call_39, x_Air_call_42, x_Air_call_43, x_Air_call_46, x_Air_call_47, x_Air_call_48, x_Air_call_51, x_Air_call_52, x_Air_call_55, x_Air_call_56, x_Air_call_57, x_Air_call_58, x_Air_call_61, x_Air_call_62, x_Air_call_65, x_Air_call_67, x_Air_call_70, x_Air_call_71, x_Air_call_74, x_Air_call_75, x_Air_call_78, x_Air_call_79, x_Air_call_85, x_Air_call_86, c, if_true, g_1_1, i_63, e1, ac_0, ac_i, ac_r, ac_ii, ac_ir, ac_ri, ac_rr, ac_iii, ac_iir, ac_iri, ac_irr, ac_rii, ac_rir, ac_rri, ac_rrr, Option.bind_some, Option.toList_some, Option.toList_none, List.nil_append, List.cons_append, not_false_eq_true, g_1_2, p1, hne, if_false, g_1_0, ld_cards hj, c_is (crd hj), e2, hh, e3 _ 0 (Or.inl rfl), e3 _ 1 (Or.inr rfl)]
    rw [clt_s]
    by_cases f0 : flt F (jn J) = 0
    · have f1 : ¬ flt F (jn J) = 1 := by rw [f0]; decide
      simp only [if_neg f1, if_pos f0, true_and, if_true]
      rw [x_Air_call_82, x_Air_call_5]
      simp only [x_Air_call_0, x_Air_call_1, x_Air_call_2, x_Air_call_3, x_Air_call_7, x_Air_call_8, x_Air_call_11, x_Air_call_12, x_Air_call_15, x_Air_call_16, x_Air_call_19, x_Air_call_22, x_Air_call_24, x_Air_call_25, x_Air_call_28, x_Air_call_29, x_Air_call_32, x_Air_call_34, x_Air_call_35, x_Air_call_38, x_Air_call_39, x_Air_call_42, x_Air_call_43, x_Air_call_46, x_Air_call_47, x_Air_call_48, x_Air_call_51, x_Air_call_52, x_Air_call_55, x_Air_call_56, x_Air_call_57, x_Air_call_58, x_Air_call_61, x_Air_call_62, x_Air_call_65, x_Air_call_67, x_Air_call_70, x_Air_call_71, x_Air_call_74, x_Air_call_75, x_Air_call_78, x_Air_call_79, x_Air_call_85, x_Air_call_86, if_false, nbo, (by decide : ¬ (1 : Int32) = 0), ite_self]
      rfl
    · simp only [if_neg f0, true_and, if_false, Bool.true_and]
      by_cases f1 : flt F (jn J) = 1
      · rw [if_pos f1, x_Air_call_82]
        have := ih (a + 1) (nt J k x 0) hd (some (.int (flt F (jn J)))) (by omega) (Ln 0) (by rw [nt_n]; omega)
        rw [← nI_1] at this
        rw [this]
        simp [f1]
      · rw [if_neg f1, x_Air_call_82]
        have := ih (a + 1) (nt J k x 0) true (some (.int (flt F (jn J)))) (by omega) (Ln 0) (by rw [nt_n]; omega)
        rw [← nI_1] at this
        rw [this]
        simp [f1]
end CALL
