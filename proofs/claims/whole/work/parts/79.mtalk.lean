/-! a command and its answer: the reference -/
def taS (a k : Nat) : Prop := a = 93 ∧ (k = 30 ∨ k = 31 ∨ k = 32 ∨ (40 ≤ k ∧ k ≤ 46) ∨ k = 48)
def taV (a : Nat) : Prop := a = 109 ∨ a = 110 ∨ a = 111 ∨ a = 101 ∨ a = 104 ∨ a = 105 ∨ a = 113 ∨ a = 114 ∨ a = 115
def goS (a k : Nat) : Prop := a = 93 ∧ k = 42
def goV (a : Nat) : Prop := a = 115
section MTALK
variable {d : Nat} {S S' : st_S} {V V' : st_V} {j z ph kd o fr t : Nat} {cmd ans : List Int32} {C C1 : st_S} {R : st_V} {F : List Int32} {J J' : st_J} {T P : Nat → Int32}
theorem MT.far (H : MT S V j z cmd ans C C1 R F J T P ph o fr t) (h1 : ∀ k, 39 ≤ k → S' 93 k = S 93 k) (h2 : ∀ a, 112 ≤ a → V' a = V a) (X : MX S' V' (cph C C1 ph) R F J' T P) : MT S' V' j z cmd ans C C1 R F J' T P ph o fr t := by
  obtain ⟨M, ⟨r39, rP⟩, ⟨r43, r44, r47⟩, ⟨h40, hP⟩, hA, ⟨g42, gP⟩⟩ := H
  refine ⟨X, ⟨(h1 _ (by decide)).trans r39, rP.cong (h2 _ (by decide))⟩, ⟨(h1 _ (by decide)).trans r43, (h1 _ (by decide)).trans r44, (h1 _ (by decide)).trans r47⟩, ⟨(h1 _ (by decide)).trans h40, hP.cong (h2 _ (by decide))⟩, fun h => ?_, ⟨(h1 _ (by decide)).trans g42, gP.cong (h2 _ (by decide))⟩⟩
  obtain ⟨u1, u2, u3⟩ := hA h
  exact ⟨(h1 _ (by decide)).trans u1, (h1 _ (by decide)).trans u2, u3.cong (h2 _ (by decide))⟩
theorem got_loop {l1 l2 l3 l4 l5 l6 : Option Value} {pt : Nat} (h0 : fr + pt ≤ ans.length) (hL : ans.length ≤ 24) : ∀ (m k : Nat) (S : st_S) (V : st_V) (xs : List Int32), k + m = pt → S 93 42 = nI xs.length → Px V 115 xs → xs.length + m ≤ 24 → (V 115).length = 24 → Px V 114 ans → S 93 45 = nI fr →
    ∃ S' V', rn d 94 167 [some (.ref 93), l1, l2, l3, l4, l5, l6, some (.int (nI pt)), some (.int (nI k))] [] (hs S V) = rn d 94 208 [some (.ref 93), l1, l2, l3, l4, l5, l6, some (.int (nI pt)), some (.int (nI pt))] [] (hs S' V') ∧ S' 93 42 = nI (xs.length + m) ∧ Px V' 115 (xs ++ part ans (fr + k) m) ∧ Fm goS goV S V S' V' := by
  intro m
  induction m with
  | zero =>
    intro k S V xs hk h40 H hx l113 Hr h45
    have hk : k = pt := by omega
    subst hk
    refine ⟨S, V, ?_, h40, by rw [show part ans (fr + k) 0 = [] from rfl, List.append_nil]; exact H, Fm.refl _ _⟩
    rw [x_Mod_talk_167]
    simp only [x_Mod_talk_169, x_Mod_talk_171, nI_nlt (Nat.le_refl k) (by omega : k < 2 ^ 31), if_false]
  | succ m ih =>
    intro k S V xs hk h40 H hx l113 Hr h45
    have ld : ∀ S, am_ld (hs S V) 114 0 (nI (fr + k)) = some (ans.getD (fr + k) 0) := fun S => Hr.ld rfl (by omega) (by omega)
    have sv : ∀ S : st_S, am_sv (hs S V) 115 0 (nI xs.length) (ans.getD (fr + k) 0) = some (hs S (sV V 115 xs.length (ans.getD (fr + k) 0))) := fun S => svN rfl (by omega) (by omega)
    have k45 : uS S 93 42 (nI (xs.length + 1)) 93 45 = nI fr := (uS_ne (by decide)).trans h45
    obtain ⟨S', V', e, a1, a2, a3⟩ := ih (k + 1) (uS S 93 42 (nI (xs.length + 1))) (sV V 115 xs.length (ans.getD (fr + k) 0)) (xs ++ [ans.getD (fr + k) 0]) (by omega) (by rw [uS_self, List.length_append]; rfl) (H.sv (by omega)) (by rw [List.length_append]; simp; omega) (by rw [sV_len]; exact l113) (Hr.cong (sV_ne (by decide))) k45
    refine ⟨S', V', ?_, ?_, ?_, (((Fm.refl S V).us (show goS 93 42 from ⟨rfl, rfl⟩)).sv (show goV 115 from rfl)).trans a3⟩
    · rw [← e, x_Mod_talk_167]
      simp only [x_Mod_talk_169, x_Mod_talk_171, x_Mod_talk_174, x_Mod_talk_175, x_Mod_talk_178, x_Mod_talk_179, x_Mod_talk_179', x_Mod_talk_180, x_Mod_talk_183, x_Mod_talk_183', x_Mod_talk_184, x_Mod_talk_185, x_Mod_talk_186, x_Mod_talk_189, x_Mod_talk_190, x_Mod_talk_193, x_Mod_talk_194, x_Mod_talk_197, x_Mod_talk_199, x_Mod_talk_200, x_Mod_talk_201, x_Mod_talk_202, x_Mod_talk_205, nI_lt (show k < pt by omega) (by omega), if_true, g_93_38, g_93_42, h40, nI_1, p_93_42, g_93_37, g_93_45, k45, nI_add, ld, sv, ac_0, ac_i, ac_r, ac_ii, ac_ir, ac_ri, ac_rr, ac_iii, ac_iir, ac_iri, ac_irr, ac_rii, ac_rir, ac_rri, ac_rrr, Option.bind_some, Option.toList_some, Option.toList_none, List.nil_append, List.cons_append, not_false_eq_true]
    · rw [a1, List.length_append]; simp; congr 1; omega
    · rw [List.append_assoc] at a2; exact a2
theorem mtalk_loop (hj : j < 4) (hC : C j 6 = nI z) (hz : 3 ≤ z) (hz2 : z ≤ 16) (hl : olc cmd) (hn : ans.length ≤ 24) (hc : okc cmd) (hex : exe C R j cmd = (C1, ans)) (lF : F.length = 128) (hR : ∀ i, i < 12 → (R i).length ≤ 24) (hq : ∃ q, q < 65536 ∧ C j 7 = nI q) : ∀ (m : Nat) (S : st_S) (V : st_V) (J : st_J) (s t ph kd o fr : Nat) (l3 l4 l5 l6 l7 l8 : Option Value), MT S V j z cmd ans C C1 R F J T P ph o fr t → S 93 32 = nI s → (ph = 1 ∨ ph = 2 → MR S ph t) → twf cmd.length z ans.length t ph kd o fr → o < cmd.length → s ≤ 3 → tmu J cmd.length ans.length ph kd o fr ≤ m → JL J → jn J + m ≤ 2000000 →
    ∃ S' V', rn (d + 4) 94 9 [some (.ref 93), some (.int (nI o)), some (.int (nI kd)), l3, l4, l5, l6, l7, l8] [] (hs S V) = some (some (.int (b2i (tk F cmd.length z ans.length m J s t ph kd o fr).1)), hs S' V') ∧ MX S' V' (cph C C1 (tk F cmd.length z ans.length m J s t ph kd o fr).2.2.2) R F (tk F cmd.length z ans.length m J s t ph kd o fr).2.1 T P ∧ ((tk F cmd.length z ans.length m J s t ph kd o fr).1 = true → S' 93 43 = nI (tk F cmd.length z ans.length m J s t ph kd o fr).2.2.1 ∧ S' 93 44 = nI (1 - (tk F cmd.length z ans.length m J s t ph kd o fr).2.2.1) ∧ S' 93 40 = 0 ∧ S' 93 42 = nI ans.length ∧ Px V' 115 ans ∧ S' 93 32 = 0) ∧ Fm taS taV S V S' V' := by
  have hL := hl.2.1
  intro m
  induction m with
  | zero =>
    intro S V J s t ph kd o fr l3 l4 l5 l6 l7 l8 I h32 A2 W ho hs3 hm
    have := tmu_pos (J := J) W hz
    omega
  | succ m ih =>
    intro S V J s t ph kd o fr l3 l4 l5 l6 l7 l8 I h32 A2 W ho hs3 hm L hJ
    rw [x_Mod_talk_9, tk_s]
    by_cases h3 : 3 ≤ s
    · have : s = 3 := by omega
      subst this
      rw [if_pos h3]
      refine ⟨S, V, ?_, I.1, fun z => by (cases z), Fm.refl _ _⟩
      have c : ¬ S 93 32 < 3 := by rw [h32]; decide
      simp only [x_Mod_talk_10, x_Mod_talk_13, x_Mod_talk_14, x_Mod_talk_240, x_Mod_talk_241, g_93_32, c, if_false, nbz, ac_0, ac_i, ac_r, ac_ii, ac_ir, ac_ri, ac_rr, ac_iii, ac_iir, ac_iri, ac_irr, ac_rii, ac_rir, ac_rri, ac_rrr, Option.bind_some, Option.toList_some, Option.toList_none, List.nil_append, List.cons_append, not_false_eq_true]
      rfl
    · rw [if_neg h3]
      have cs : S 93 32 < 3 := by rw [h32]; exact nI_lt (b := 3) (by omega) (by decide)
      obtain ⟨M, ⟨r39, rP⟩, ⟨r43, r44, r47⟩, ⟨h40, hP⟩, hA, ⟨g42, gP⟩⟩ := id I
      have ht := W.1
      have hkd : kd = 5 ∨ kd = 6 ∨ kd = 7 := by unfold twf at W; omega
      have hzv : (V 100)[j]? = some (nI z) := (M.1 j hj 6 (by decide)).trans (by rw [cph6 hC hex])
      have ldz : am_ld (hs S V) 100 0 (nI j) = some (nI z) := (ldN rfl (by omega)).trans hzv
      have X := M.JM h32
      have ef := ev_faultNow (d := d + 3) X L M.2.2.1 lF
      have lf : nI cmd.length - nI o = nI (cmd.length - o) := nI_sub (by omega)
      -- up to the fault
      have to64 : rn (d + 4) 94 10 [some (.ref 93), some (.int (nI o)), some (.int (nI kd)), l3, l4, l5, l6, l7, l8] [.ref 93] (hs S V) = rn (d + 4) 94 64 [some (.ref 93), some (.int (nI o)), some (.int (nI kd)), some (.int (nI (cmd.length - o))), some (.int (nI (min z (cmd.length - o)))), some (.int (flt F (jn J))), some (.int (nI t)), l7, l8] [] (hs S V) := by
        by_cases h : cmd.length - o < z
        · simp only [x_Mod_talk_10, x_Mod_talk_13, x_Mod_talk_14, x_Mod_talk_17, x_Mod_talk_18, x_Mod_talk_21, x_Mod_talk_22, x_Mod_talk_23, x_Mod_talk_24, x_Mod_talk_25, x_Mod_talk_26, x_Mod_talk_29, x_Mod_talk_30, x_Mod_talk_33, x_Mod_talk_34, x_Mod_talk_37, x_Mod_talk_38, x_Mod_talk_41, x_Mod_talk_42, x_Mod_talk_45, x_Mod_talk_46, x_Mod_talk_49, x_Mod_talk_50, x_Mod_talk_52, x_Mod_talk_53, x_Mod_talk_56, x_Mod_talk_58, x_Mod_talk_59, x_Mod_talk_62, g_93_32, cs, if_true, g_93_39, r39, lf, g_93_6, g_93_47, r47, ldz, nI_lt h (by omega), i_93, ef, g_93_43, r43, ac_0, ac_i, ac_r, ac_ii, ac_ir, ac_ri, ac_rr, ac_iii, ac_iir, ac_iri, ac_irr, ac_rii, ac_rir, ac_rri, ac_rrr, Option.bind_some, Option.toList_some, Option.toList_none, List.nil_append, List.cons_append, not_false_eq_true]
          rw [Nat.min_eq_right (by omega)]
        · simp only [x_Mod_talk_10, x_Mod_talk_13, x_Mod_talk_14, x_Mod_talk_17, x_Mod_talk_18, x_Mod_talk_21, x_Mod_talk_22, x_Mod_talk_23, x_Mod_talk_24, x_Mod_talk_25, x_Mod_talk_26, x_Mod_talk_29, x_Mod_talk_30, x_Mod_talk_33, x_Mod_talk_34, x_Mod_talk_37, x_Mod_talk_38, x_Mod_talk_41, x_Mod_talk_42, x_Mod_talk_45, x_Mod_talk_46, x_Mod_talk_49, x_Mod_talk_50, x_Mod_talk_52, x_Mod_talk_53, x_Mod_talk_56, x_Mod_talk_58, x_Mod_talk_59, x_Mod_talk_62, g_93_32, cs, if_true, g_93_39, r39, lf, g_93_6, g_93_47, r47, ldz, nI_nlt (show z ≤ cmd.length - o by omega) (by omega), if_false, i_93, ef, g_93_43, r43, ac_0, ac_i, ac_r, ac_ii, ac_ir, ac_ri, ac_rr, ac_iii, ac_iir, ac_iri, ac_irr, ac_rii, ac_rir, ac_rri, ac_rrr, Option.bind_some, Option.toList_some, Option.toList_none, List.nil_append, List.cons_append, not_false_eq_true]
          rw [Nat.min_eq_left (by omega)]
      have hh : ∃ S2 V2, rn (d + 4) 94 64 [some (.ref 93), some (.int (nI o)), some (.int (nI kd)), some (.int (nI (cmd.length - o))), some (.int (nI (min z (cmd.length - o)))), some (.int (flt F (jn J))), some (.int (nI t)), l7, l8] [] (hs S V) = rn (d + 4) 94 91 [some (.ref 93), some (.int (nI o)), some (.int (nI kd)), some (.int (nI (cmd.length - o))), some (.int (nI (min z (cmd.length - o)))), some (.int (flt F (jn J))), some (.int (nI t)), l7, l8] [] (hs S2 V2) ∧ MT S2 V2 j z cmd ans C C1 R F J T P (tkq F J cmd.length z ph kd o fr).1 o (tkq F J cmd.length z ph kd o fr).2 t ∧ ((tkq F J cmd.length z ph kd o fr).1 = 1 ∨ (tkq F J cmd.length z ph kd o fr).1 = 2 ∨ ¬ flt F (jn J) = 1 → MR S2 (tkq F J cmd.length z ph kd o fr).1 t) ∧ Fm heS heV S V S2 V2 := by
        by_cases f1 : flt F (jn J) = 1
        · have q : tkq F J cmd.length z ph kd o fr = (ph, fr) := by unfold tkq; rw [if_pos f1]
          rw [q]
          refine ⟨S, V, ?_, I, ?_, Fm.refl _ _⟩
          · simp only [x_Mod_talk_64, x_Mod_talk_66, x_Mod_talk_67, f1, if_true]
          · intro h
            rcases h with h | h | h
            · exact A2 (Or.inl h)
            · exact A2 (Or.inr h)
            · exact absurd f1 h
        · have q : tkq F J cmd.length z ph kd o fr = tkp cmd.length z ph kd o fr := by unfold tkq; rw [if_neg f1]
          rw [q]
          obtain ⟨S2, V2, e2, I2, R2, F2⟩ := ev_mhear (d := d) hj I A2 hz hz2 hzv W hl hn hc hex hR hq
          refine ⟨S2, V2, ?_, I2, fun _ => R2, F2⟩
          by_cases h : o + z < cmd.length
          · rw [if_pos h] at e2
            simp only [x_Mod_talk_64, x_Mod_talk_66, x_Mod_talk_67, x_Mod_talk_70, x_Mod_talk_71, x_Mod_talk_72, x_Mod_talk_74, x_Mod_talk_75, x_Mod_talk_77, x_Mod_talk_79, x_Mod_talk_80, x_Mod_talk_83, x_Mod_talk_84, x_Mod_talk_87, x_Mod_talk_88, f1, if_false, if_true, nI_lt (show min z (cmd.length - o) < cmd.length - o by omega) (by omega), i_93, e2, ac_0, ac_i, ac_r, ac_ii, ac_ir, ac_ri, ac_rr, ac_iii, ac_iir, ac_iri, ac_irr, ac_rii, ac_rir, ac_rri, ac_rrr, Option.bind_some, Option.toList_some, Option.toList_none, List.nil_append, List.cons_append, not_false_eq_true]
          · rw [if_neg h] at e2
            simp only [x_Mod_talk_64, x_Mod_talk_66, x_Mod_talk_67, x_Mod_talk_70, x_Mod_talk_71, x_Mod_talk_72, x_Mod_talk_74, x_Mod_talk_75, x_Mod_talk_77, x_Mod_talk_79, x_Mod_talk_80, x_Mod_talk_83, x_Mod_talk_84, x_Mod_talk_87, x_Mod_talk_88, f1, if_false, nI_nlt (show cmd.length - o ≤ min z (cmd.length - o) by omega) (by omega), i_93, e2, ac_0, ac_i, ac_r, ac_ii, ac_ir, ac_ri, ac_rr, ac_iii, ac_iir, ac_iri, ac_irr, ac_rii, ac_rir, ac_rri, ac_rrr, Option.bind_some, Option.toList_some, Option.toList_none, List.nil_append, List.cons_append, not_false_eq_true]
      obtain ⟨S2, V2, e2, I2, R2, G2⟩ := hh
      have hx : ∀ y, JL (nt J (nI kd) (nI t) y) := fun y => nt_L L (by omega)
      have t2 : S2 93 32 = nI s := (G2.1 _ _ (by unfold heS; omega)).trans h32
      have en : ∀ y, B01 y → ev (d + 3) 87 [.ref 93, .int (nI kd), .int (nI t), .int y] (hs S2 V2) = some (some (.int y), hs (mS S2 (nt J (nI kd) (nI t) y) (if y = 0 then s + 1 else 0)) (mV V2 (nt J (nI kd) (nI t) y))) := fun y hy => ev_mnote (I2.1.JM t2) L hy
      have I3 : ∀ y q, MT (mS S2 (nt J (nI kd) (nI t) y) q) (mV V2 (nt J (nI kd) (nI t) y)) j z cmd ans C C1 R F (nt J (nI kd) (nI t) y) T P (tkq F J cmd.length z ph kd o fr).1 o (tkq F J cmd.length z ph kd o fr).2 t := fun y q => I2.far (fun k h => mS_ne (by omega)) (fun a h => mV_ne (by omega)) (I2.1.setJ (hx y))
      have R3 : ∀ y q, ((tkq F J cmd.length z ph kd o fr).1 = 1 ∨ (tkq F J cmd.length z ph kd o fr).1 = 2 ∨ ¬ flt F (jn J) = 1 → MR (mS S2 (nt J (nI kd) (nI t) y) q) (tkq F J cmd.length z ph kd o fr).1 t) := fun y q h => by
        obtain ⟨b1, b2, b3⟩ := R2 h
        refine ⟨fun h => ?_, fun h => ?_, fun h => ?_⟩
        · rw [mS_ne (by omega), mS_ne (by omega)]; exact b1 h
        · rw [mS_ne (by omega), mS_ne (by omega)]; exact b2 h
        · rw [mS_ne (by omega)]; exact b3 h
      have G3 : ∀ y q, Fm taS taV S V (mS S2 (nt J (nI kd) (nI t) y) q) (mV V2 (nt J (nI kd) (nI t) y)) := fun y q => (G2.mono (fun a k z => by unfold heS at z; unfold taS; omega) (fun a z => by unfold heV at z; unfold taV; omega)).mSV (hx y) (I2.1.len (by decide)) (I2.1.len (by decide)) (I2.1.len (by decide)) (by unfold taS; omega) (by unfold taS; omega) (by unfold taS; omega) (by unfold taV; omega) (by unfold taV; omega) (by unfold taV; omega)
      have K3 : ∀ y q, mS S2 (nt J (nI kd) (nI t) y) q 93 32 = nI q := fun y q => (jm_set S2 V2 (nt J (nI kd) (nI t) y) q).2.2.2.2.2
      rw [to64, e2]
      by_cases f0 : flt F (jn J) = 0
      · rw [if_pos f0]
        have f1 : ¬ flt F (jn J) = 1 := by rw [f0]; decide
        have q : tkq F J cmd.length z ph kd o fr = tkp cmd.length z ph kd o fr := by unfold tkq; rw [if_neg f1]
        have I' := I3 1 0
        have R' := R3 1 0 (Or.inr (Or.inr f1))
        have en' := en 1 (Or.inr rfl)
        rw [if_neg (by decide)] at en'
        have G' := G3 1 0
        have K' := K3 1 0
        rw [q] at I' R'
        generalize mS S2 (nt J (nI kd) (nI t) 1) 0 = S3 at I' R' en' G' K'
        generalize mV V2 (nt J (nI kd) (nI t) 1) = V3 at I' R' en' G'
        have s1 : (1 : Int32) - nI t = nI (1 - t) := pk_sub (a := 1) ht
        have nne := tn_ne ht
        obtain ⟨M3, ⟨u39, uP⟩, ⟨u43, u44, u47⟩, ⟨u40, uH⟩, uA, ⟨u42, uG⟩⟩ := id I'
        by_cases q0 : (tkp cmd.length z ph kd o fr).1 = 0
        · rw [if_pos q0]
          obtain ⟨W', M'⟩ := tk_y0 (J := J) W q0
          obtain ⟨rk, rn'⟩ := R'.1 q0
          rw [q0] at I'
          obtain ⟨S4, V4, e4, r1, r2, r3⟩ := ih S3 V3 (nt J (nI kd) (nI t) 1) 0 t 0 5 o (tkp cmd.length z ph kd o fr).2 (some (.int (nI (cmd.length - o)))) (some (.int (nI (min z (cmd.length - o))))) (some (.int (flt F (jn J)))) (some (.int (nI t))) l7 l8 I' K' (fun h => by omega) W' ho (by omega) (by omega) (hx 1) (by rw [nt_n]; omega)
          refine ⟨S4, V4, ?_, r1, r2, G'.trans r3⟩
          rw [← e4]
          simp only [x_Mod_talk_91, x_Mod_talk_92, x_Mod_talk_93, x_Mod_talk_95, x_Mod_talk_97, x_Mod_talk_100, x_Mod_talk_101, x_Mod_talk_104, x_Mod_talk_105, x_Mod_talk_108, x_Mod_talk_122, x_Mod_talk_123, x_Mod_talk_126, x_Mod_talk_129, x_Mod_talk_130, x_Mod_talk_133, x_Mod_talk_135, x_Mod_talk_138, x_Mod_talk_139, x_Mod_talk_140, x_Mod_talk_141, x_Mod_talk_144, x_Mod_talk_145, x_Mod_talk_148, x_Mod_talk_149, x_Mod_talk_151, x_Mod_talk_152, x_Mod_talk_153, x_Mod_talk_154, x_Mod_talk_155, f0, if_false, if_true, i_93, en', (by decide : ¬ (1 : Int32) = 0), g_93_48, rk, g_93_46, rn', Ne.symm nne, ac_0, ac_i, ac_r, ac_ii, ac_ir, ac_ri, ac_rr, ac_iii, ac_iir, ac_iri, ac_irr, ac_rii, ac_rir, ac_rri, ac_rrr, Option.bind_some, Option.toList_some, Option.toList_none, List.nil_append, List.cons_append, not_false_eq_true]
          rfl
        · rw [if_neg q0]
          by_cases q1 : (tkp cmd.length z ph kd o fr).1 = 1
          · rw [if_pos q1]
            obtain ⟨W', M'⟩ := tk_y1 (J := J) W hz q1
            obtain ⟨rk, rn'⟩ := R'.2.1 q1
            have hoz : o + z < cmd.length := by
              rcases tk_q W with ⟨_, _, _, e⟩ | ⟨_, _, hh, e⟩ | ⟨_, _, _, _, e⟩ | ⟨_, _, hh, e⟩ | ⟨_, _, _, e⟩ | ⟨_, _, _, e⟩ <;> rw [e] at q0 q1 <;> first | exact absurd rfl q0 | exact hh | (exfalso; simp at q1; done)
            rw [q1] at M3 u44 u40 uH u42 uG
            have mz : nI o + nI (min z (cmd.length - o)) = nI (o + z) := by rw [nI_add, Nat.min_eq_left (by omega)]
            have I4 : MT (uS S3 93 43 (nI (1 - t))) V3 j z cmd ans C C1 R F (nt J (nI kd) (nI t) 1) T P 0 (o + z) (tkp cmd.length z ph kd o fr).2 (1 - t) := by
              refine ⟨MX.fm (C := C) M3 ((Fm.refl _ _).us (by unfold pmS; omega)), ⟨(uS_ne (by decide)).trans u39, uP⟩, ⟨uS_self _ _ _ _, ?_, (uS_ne (by decide)).trans u47⟩, ⟨(uS_ne (by decide)).trans u40, uH⟩, fun h => by omega, ⟨(uS_ne (by decide)).trans u42, uG⟩⟩
              rw [uS_ne (by decide), u44]
              show nI t = nI (1 - (1 - t))
              rw [show 1 - (1 - t) = t by omega]
            obtain ⟨S4, V4, e4, r1, r2, r3⟩ := ih (uS S3 93 43 (nI (1 - t))) V3 (nt J (nI kd) (nI t) 1) 0 (1 - t) 0 5 (o + z) (tkp cmd.length z ph kd o fr).2 (some (.int (nI (cmd.length - o)))) (some (.int (nI (min z (cmd.length - o))))) (some (.int (flt F (jn J)))) (some (.int (nI t))) l7 l8 I4 ((uS_ne (by decide)).trans K') (fun h => by omega) W' hoz (by omega) (by omega) (hx 1) (by rw [nt_n]; omega)
            refine ⟨S4, V4, ?_, r1, r2, (G'.us (by unfold taS; omega)).trans r3⟩
            rw [← e4]
            simp only [x_Mod_talk_91, x_Mod_talk_92, x_Mod_talk_93, x_Mod_talk_95, x_Mod_talk_97, x_Mod_talk_100, x_Mod_talk_101, x_Mod_talk_104, x_Mod_talk_105, x_Mod_talk_108, x_Mod_talk_122, x_Mod_talk_123, x_Mod_talk_126, x_Mod_talk_129, x_Mod_talk_130, x_Mod_talk_133, x_Mod_talk_135, x_Mod_talk_138, x_Mod_talk_139, x_Mod_talk_140, x_Mod_talk_141, x_Mod_talk_144, x_Mod_talk_145, x_Mod_talk_148, x_Mod_talk_149, x_Mod_talk_151, x_Mod_talk_152, x_Mod_talk_153, x_Mod_talk_154, x_Mod_talk_155, f0, if_false, if_true, i_93, en', (by decide : ¬ (1 : Int32) = 0), g_93_48, rk, g_93_46, rn', g_93_43, u43, s1, p_93_43, mz, ac_0, ac_i, ac_r, ac_ii, ac_ir, ac_ri, ac_rr, ac_iii, ac_iir, ac_iri, ac_irr, ac_rii, ac_rir, ac_rri, ac_rrr, Option.bind_some, Option.toList_some, Option.toList_none, List.nil_append, List.cons_append, not_false_eq_true]
            rfl
          · rw [if_neg q1]
            have q2 : (tkp cmd.length z ph kd o fr).1 = 2 := by
              rcases tk_q W with ⟨_, _, _, e⟩ | ⟨_, _, _, e⟩ | ⟨_, _, _, _, e⟩ | ⟨_, _, _, e⟩ | ⟨_, _, _, e⟩ | ⟨_, _, _, e⟩ <;> rw [e] at q0 q1 ⊢ <;> first | exact absurd rfl q0 | exact absurd rfl q1 | rfl
            have qn : (tkp cmd.length z ph kd o fr).2 ≤ ans.length := by
              rcases tk_q W with ⟨_, _, _, e⟩ | ⟨_, _, _, e⟩ | ⟨_, _, _, _, e⟩ | ⟨_, _, hh, e⟩ | ⟨_, _, hh, e⟩ | ⟨_, _, hh, e⟩ <;> rw [e] at q0 q1 ⊢ <;> first | exact absurd rfl q0 | exact absurd rfl q1 | skip
              · exact Nat.zero_le _
              · exact hh
              · exact Nat.le_of_lt hh
            have rk := R'.2.2 q2
            rw [q2] at M3 u44 u40 uH u42 uG uA
            have WM0 := fun h => tk_y2 (J := J) W hz q0 q1 h
            generalize (tkp cmd.length z ph kd o fr).2 = fr' at *
            obtain ⟨u45, u41, uR⟩ := uA (Nat.le_refl 2)
            have hzv3 : (V3 100)[j]? = some (nI z) := (M3.1 j hj 6 (by decide)).trans (by rw [cph6 hC hex])
            have es := ev_saySize (d := d + 3) (S := S3) (V := V3) (n := ans.length) (fr := fr') (z := z) (j := j) (by omega) u41 u45 qn u47 hzv3 hj (by omega)
            have gl : (gtt ans z 2 fr').length = fr' := by show (ans.take fr').length = fr'; rw [List.length_take]; omega
            obtain ⟨S5, V5, e5, g1, g2, F5⟩ := got_loop (d := d + 4) (l1 := some (.int (nI o))) (l2 := some (.int (nI kd))) (l3 := some (.int (nI (cmd.length - o)))) (l4 := some (.int (nI (min z (cmd.length - o))))) (l5 := some (.int (flt F (jn J)))) (l6 := some (.int (nI t))) (fr := fr') (ans := ans) (pt := min z (ans.length - fr')) (by omega) hn (min z (ans.length - fr')) 0 S3 V3 (gtt ans z 2 fr') (by omega) u42 uG (by omega) (M3.len (by decide)) uR u45
            rw [nI_0] at e5
            have ee : gtt ans z 2 fr' ++ part ans (fr' + 0) (min z (ans.length - fr')) = ans.take (fr' + z) := by
              rw [Nat.add_zero, part_eq _ _ _ (by omega)]
              show ans.take fr' ++ (ans.drop fr').take (min z (ans.length - fr')) = _
              rw [List.take_add]
              congr 1
              by_cases h : z ≤ ans.length - fr'
              · rw [Nat.min_eq_left h]
              · rw [Nat.min_eq_right (by omega), List.take_of_length_le (by rw [List.length_drop]; exact Nat.le_refl _), List.take_of_length_le (by rw [List.length_drop]; omega)]
            rw [ee] at g2
            have g1' : S5 93 42 = nI (ans.take (fr' + z)).length := by rw [g1, gl, List.length_take]; congr 1; omega
            have kk : ∀ k, ¬ k = 42 → S5 93 k = S3 93 k := fun k h => F5.1 _ _ (by unfold goS; omega)
            have k43 : S5 93 43 = nI t := (kk 43 (by decide)).trans u43
            have M5 : MX (uS S5 93 43 (nI (1 - t))) V5 (cph C C1 2) R F (nt J (nI kd) (nI t) 1) T P := (M3.fm (F5.mono (fun a k z => by unfold goS at z; unfold pmS; omega) (fun a z => by unfold goV at z; unfold pmV; omega))).fm ((Fm.refl _ _).us (by unfold pmS; omega))
            have G5 : Fm taS taV S V (uS S5 93 43 (nI (1 - t))) V5 := (G'.trans (F5.mono (fun a k z => by unfold goS at z; unfold taS; omega) (fun a z => by unfold goV at z; unfold taV; omega))).us (by unfold taS; omega)
            have k45 : uS S5 93 43 (nI (1 - t)) 93 45 = nI fr' := by rw [uS_ne (by decide), kk _ (by decide)]; exact u45
            have k41 : uS S5 93 43 (nI (1 - t)) 93 41 = nI ans.length := by rw [uS_ne (by decide), kk _ (by decide)]; exact u41
            have k44 : uS S5 93 43 (nI (1 - t)) 93 44 = nI t := by rw [uS_ne (by decide), kk _ (by decide)]; exact u44
            have k40 : uS S5 93 43 (nI (1 - t)) 93 40 = 0 := by rw [uS_ne (by decide), kk _ (by decide)]; exact u40
            have k32 : uS S5 93 43 (nI (1 - t)) 93 32 = nI 0 := by rw [uS_ne (by decide), kk _ (by decide)]; exact K'
            have k42 : uS S5 93 43 (nI (1 - t)) 93 42 = nI (ans.take (fr' + z)).length := by rw [uS_ne (by decide)]; exact g1'
            have fin : ∀ {t' : Option (Option Value × am_H)}, rn (d + 4) 94 229 [some (.ref 93), some (.int (nI o)), some (.int (nI kd)), some (.int (nI (cmd.length - o))), some (.int (nI (min z (cmd.length - o)))), some (.int (flt F (jn J))), some (.int (nI t)), some (.int (nI (min z (ans.length - fr')))), some (.int (nI (min z (ans.length - fr'))))] [.int (nI ans.length), .int (nI (fr' + min z (ans.length - fr')))] (hs (uS S5 93 43 (nI (1 - t))) V5) = t' → rn (d + 4) 94 91 [some (.ref 93), some (.int (nI o)), some (.int (nI kd)), some (.int (nI (cmd.length - o))), some (.int (nI (min z (cmd.length - o)))), some (.int (flt F (jn J))), some (.int (nI t)), l7, l8] [] (hs S2 V2) = t' := by
              intro t' ht'
              rw [← ht']
              simp only [x_Mod_talk_91, x_Mod_talk_92, x_Mod_talk_93, x_Mod_talk_95, x_Mod_talk_97, x_Mod_talk_100, x_Mod_talk_101, x_Mod_talk_104, x_Mod_talk_105, x_Mod_talk_108, x_Mod_talk_122, x_Mod_talk_123, x_Mod_talk_126, x_Mod_talk_158, x_Mod_talk_159, x_Mod_talk_162, x_Mod_talk_164, x_Mod_talk_165, f0, if_false, if_true, i_93, en', (by decide : ¬ (1 : Int32) = 0), g_93_48, rk, es, ac_0, ac_i, ac_r, ac_ii, ac_ir, ac_ri, ac_rr, ac_iii, ac_iir, ac_iri, ac_irr, ac_rii, ac_rir, ac_rri, ac_rrr, Option.bind_some, Option.toList_some, Option.toList_none, List.nil_append, List.cons_append, not_false_eq_true]
              rw [f0] at e5
              rw [e5]
              simp only [x_Mod_talk_208, x_Mod_talk_209, x_Mod_talk_210, x_Mod_talk_211, x_Mod_talk_214, x_Mod_talk_215, x_Mod_talk_218, x_Mod_talk_219, x_Mod_talk_222, x_Mod_talk_224, x_Mod_talk_225, x_Mod_talk_226, g_93_43, k43, s1, p_93_43, g_93_45, k45, nI_add, g_93_41, k41, ac_0, ac_i, ac_r, ac_ii, ac_ir, ac_ri, ac_rr, ac_iii, ac_iir, ac_iri, ac_irr, ac_rii, ac_rir, ac_rri, ac_rrr, Option.bind_some, Option.toList_some, Option.toList_none, List.nil_append, List.cons_append, not_false_eq_true]
            by_cases q3 : fr' + z < ans.length
            · rw [if_pos q3]
              obtain ⟨W', M'⟩ := WM0 q3
              have I5 : MT (uS S5 93 43 (nI (1 - t))) V5 j z cmd ans C C1 R F (nt J (nI kd) (nI t) 1) T P 3 o fr' (1 - t) := by
                refine ⟨M5, ⟨?_, uP.cong (F5.2.1 _ (by unfold goV; omega))⟩, ⟨uS_self _ _ _ _, ?_, ?_⟩, ⟨?_, Px.nil _ _⟩, fun _ => ⟨k45, k41, uR.cong (F5.2.1 _ (by unfold goV; omega))⟩, ⟨k42, g2⟩⟩
                · rw [uS_ne (by decide), kk _ (by decide)]; exact u39
                · rw [k44]
                  show nI t = nI (1 - (1 - t))
                  rw [show 1 - (1 - t) = t by omega]
                · rw [uS_ne (by decide), kk _ (by decide)]; exact u47
                · rw [k40]; rfl
              obtain ⟨S6, V6, e6, r1, r2, r3⟩ := ih (uS S5 93 43 (nI (1 - t))) V5 (nt J (nI kd) (nI t) 1) 0 (1 - t) 3 6 o fr' (some (.int (nI (cmd.length - o)))) (some (.int (nI (min z (cmd.length - o))))) (some (.int (flt F (jn J)))) (some (.int (nI t))) (some (.int (nI (min z (ans.length - fr'))))) (some (.int (nI (min z (ans.length - fr'))))) I5 k32 (fun h => by omega) W' ho (by omega) (by omega) (hx 1) (by rw [nt_n]; omega)
              refine ⟨S6, V6, ?_, r1, r2, G5.trans r3⟩
              rw [← e6]
              apply fin
              have c : ¬ nI (fr' + min z (ans.length - fr')) = nI ans.length := by rw [nI_eq (by omega) (by omega)]; omega
              simp only [x_Mod_talk_229, x_Mod_talk_234, x_Mod_talk_236, x_Mod_talk_237, c, if_false]
              rfl
            · rw [if_neg q3]
              refine ⟨uS S5 93 43 (nI (1 - t)), V5, ?_, M5, fun _ => ⟨uS_self _ _ _ _, ?_, k40, ?_, ?_, k32⟩, G5⟩
              · apply fin
                have c : nI (fr' + min z (ans.length - fr')) = nI ans.length := by congr 1; omega
                simp only [x_Mod_talk_229, x_Mod_talk_232, x_Mod_talk_233, c, if_true, nbo]
                rfl
              · rw [k44]
                show nI t = nI (1 - (1 - t))
                rw [show 1 - (1 - t) = t by omega]
              · rw [k42, List.take_of_length_le (by omega)]
              · rw [List.take_of_length_le (by omega)] at g2; exact g2
      · rw [if_neg f0]
        have I' := I3 0 (s + 1)
        have R' := R3 0 (s + 1)
        have en' := en 0 (Or.inl rfl)
        rw [if_pos rfl] at en'
        have G' := G3 0 (s + 1)
        have K' := K3 0 (s + 1)
        obtain ⟨W', M'⟩ := tk_no (F := F) (J := J) W hz f0
        generalize mS S2 (nt J (nI kd) (nI t) 0) (s + 1) = S3 at I' R' en' G' K'
        generalize mV V2 (nt J (nI kd) (nI t) 0) = V3 at I' R' en' G'
        obtain ⟨S4, V4, e4, r1, r2, r3⟩ := ih S3 V3 (nt J (nI kd) (nI t) 0) (s + 1) t (tkq F J cmd.length z ph kd o fr).1 (if kd = 6 then 6 else 7) o (tkq F J cmd.length z ph kd o fr).2 (some (.int (nI (cmd.length - o)))) (some (.int (nI (min z (cmd.length - o))))) (some (.int (flt F (jn J)))) (some (.int (nI t))) l7 l8 I' K' (fun h => R' (by omega)) W' ho (by omega) (by omega) (hx 0) (by rw [nt_n]; omega)
        refine ⟨S4, V4, ?_, r1, r2, G'.trans r3⟩
        rw [← e4]
        simp only [x_Mod_talk_91, x_Mod_talk_92, x_Mod_talk_93, x_Mod_talk_95, x_Mod_talk_97, x_Mod_talk_100, x_Mod_talk_101, x_Mod_talk_104, x_Mod_talk_105, x_Mod_talk_108, x_Mod_talk_111, x_Mod_talk_112, x_Mod_talk_113, x_Mod_talk_116, x_Mod_talk_118, x_Mod_talk_119, f0, if_false, if_true, i_93, en', ac_0, ac_i, ac_r, ac_ii, ac_ir, ac_ri, ac_rr, ac_iii, ac_iir, ac_iri, ac_irr, ac_rii, ac_rir, ac_rri, ac_rrr, Option.bind_some, Option.toList_some, Option.toList_none, List.nil_append, List.cons_append, not_false_eq_true]
        rcases hkd with rfl | rfl | rfl
        · rw [if_pos (by decide), if_neg (by decide)]; rfl
        · rw [if_neg (by decide), if_pos rfl]
        · rw [if_neg (by decide), if_neg (by decide)]
/-- a command is sent, its answer taken -/
theorem ev_talk (hj : j < 4) (hC : C j 6 = nI z) (hz : 3 ≤ z) (hz2 : z ≤ 16) (hl : olc cmd) (hn : ans.length ≤ 24) (hc : okc cmd) (hex : exe C R j cmd = (C1, ans)) (lF : F.length = 128) (hR : ∀ i, i < 12 → (R i).length ≤ 24) (hq : ∃ q, q < 65536 ∧ C j 7 = nI q) (X : MX S V C R F J T P) (L : JL J) (hJ : jn J + 340 ≤ 2000000) (h32 : S 93 32 = 0) (ht : t ≤ 1) (h43 : S 93 43 = nI t) (h44 : S 93 44 = nI (1 - t)) (h40 : S 93 40 = 0) (h47 : S 93 47 = nI j) (h39 : S 93 39 = nI cmd.length) (Hc : Px V 112 cmd) :
    ∃ S' V', ev (d + 4) 94 [.ref 93] (hs S V) = some (some (.int (b2i (tk F cmd.length z ans.length 340 J 0 t 0 5 0 0).1)), hs S' V') ∧ MX S' V' (cph C C1 (tk F cmd.length z ans.length 340 J 0 t 0 5 0 0).2.2.2) R F (tk F cmd.length z ans.length 340 J 0 t 0 5 0 0).2.1 T P ∧ ((tk F cmd.length z ans.length 340 J 0 t 0 5 0 0).1 = true → S' 93 43 = nI (tk F cmd.length z ans.length 340 J 0 t 0 5 0 0).2.2.1 ∧ S' 93 44 = nI (1 - (tk F cmd.length z ans.length 340 J 0 t 0 5 0 0).2.2.1) ∧ S' 93 40 = 0 ∧ S' 93 42 = nI ans.length ∧ Px V' 115 ans ∧ S' 93 32 = 0) ∧ Fm taS taV S V S' V' := by
  have I : MT (uS S 93 42 0) V j z cmd ans C C1 R F J T P 0 0 0 t := ⟨X.fm ((Fm.refl _ _).us (by unfold pmS; omega)), ⟨(uS_ne (by decide)).trans h39, Hc⟩, ⟨(uS_ne (by decide)).trans h43, (uS_ne (by decide)).trans h44, (uS_ne (by decide)).trans h47⟩, ⟨(uS_ne (by decide)).trans h40, Px.nil _ _⟩, fun h => by omega, ⟨uS_self _ _ _ _, Px.nil _ _⟩⟩
  have hL0 := hl.1
  have hL := hl.2.1
  obtain ⟨S', V', e, r1, r2, r3⟩ := mtalk_loop (d := d) hj hC hz hz2 hl hn hc hex lF hR hq 340 (uS S 93 42 0) V J 0 t 0 5 0 0 none none none none none none I ((uS_ne (by decide)).trans h32) (fun h => by omega) ⟨ht, Or.inl ⟨rfl, Or.inl rfl, hL0⟩⟩ hL0 (by omega) (by unfold tmu; simp; omega) L hJ
  refine ⟨S', V', ?_, r1, r2, ((Fm.refl S V).us (show taS 93 42 by unfold taS; omega)).trans r3⟩
  rw [← e]
  simp only [e_Mod_talk, x_Mod_talk_0, x_Mod_talk_1, x_Mod_talk_2, x_Mod_talk_3, x_Mod_talk_4, x_Mod_talk_5, x_Mod_talk_6, p_93_42, ac_0, ac_i, ac_r, ac_ii, ac_ir, ac_ri, ac_rr, ac_iii, ac_iir, ac_iri, ac_irr, ac_rii, ac_rir, ac_rri, ac_rrr, Option.bind_some, Option.toList_some, Option.toList_none, List.nil_append, List.cons_append, not_false_eq_true]
  rfl
end MTALK
