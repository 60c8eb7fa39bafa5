/-! a command and its answer: the class -/
def gtt (ans : List Int32) (z ph fr : Nat) : List Int32 := if ph = 2 then ans.take fr else if ph = 3 then ans.take (fr + z) else []
def trS (a k : Nat) : Prop := (a = 1 ∧ k = 4) ∨ a = 63 ∨ a = 68 ∨ a = 69 ∨ a = 91 ∨ (3 ≤ a ∧ a < 63)
def trV (a : Nat) : Prop := a = 65 ∨ a = 66 ∨ a = 67 ∨ a = 70 ∨ a = 92 ∨ (3 ≤ a ∧ a < 63)
def TT (S : st_S) (V : st_V) (j z : Nat) (cmd ans : List Int32) (C C1 : st_S) (R : st_V) (F : List Int32) (J : st_J) (T P : Nat → Int32) (ph o fr t : Nat) : Prop := CX S V (cph C C1 ph) R F J T P ∧ TA S V j z cmd ans ph o fr t ∧ S 1 4 = nI t ∧ (∃ jc, Rw S V 89 cmd jc) ∧ (∃ jg, Rw S V 91 (gtt ans z ph fr) jg)
theorem gtt_q {L z n t ph kd o fr : Nat} (ans : List Int32) (W : twf L z n t ph kd o fr) : gtt ans z (tkp L z ph kd o fr).1 (tkp L z ph kd o fr).2 = gtt ans z ph fr := by
  rcases tk_q W with ⟨rfl, rfl, a, e⟩ | ⟨rfl, rfl, a, e⟩ | ⟨rfl, rfl, a, b, e⟩ | ⟨rfl, rfl, a, e⟩ | ⟨rfl, hk, a, e⟩ | ⟨rfl, rfl, a, e⟩ <;> rw [e] <;> rfl
section TRANS
variable {d : Nat} {S S' : st_S} {V V' : st_V} {j z ph kd o fr t : Nat} {cmd ans : List Int32} {C C1 : st_S} {R : st_V} {F : List Int32} {J J' : st_J} {T P : Nat → Int32}
theorem TT.far (H : TT S V j z cmd ans C C1 R F J T P ph o fr t) (hj : j < 4) (h1 : ∀ a k, ¬ (a = 63 ∨ a = 68 ∨ a = 69) → S' a k = S a k) (h2 : ∀ a, ¬ (a = 65 ∨ a = 66 ∨ a = 67 ∨ a = 70) → V' a = V a) (X : CX S' V' (cph C C1 ph) R F J' T P) : TT S' V' j z cmd ans C C1 R F J' T P ph o fr t := by
  obtain ⟨_, a2, a3, ⟨jc, a4⟩, ⟨jg, a5⟩⟩ := H
  refine ⟨X, a2.cong (fun k _ => h1 _ _ (by unfold cb; omega)) (fun a k _ _ => h1 _ _ (by unfold cb at *; omega)) (fun a _ _ => h2 _ (by unfold cb at *; omega)), (h1 _ _ (by decide)).trans a3, ⟨jc, a4.cong (h1 _ _ (by decide)) (h2 _ (by decide))⟩, ⟨jg, a5.cong (h1 _ _ (by decide)) (h2 _ (by decide))⟩⟩
theorem RP.far (H : RP S V j z ans ph fr t) (hj : j < 4) (h1 : ∀ a k, ¬ (a = 63 ∨ a = 68 ∨ a = 69) → S' a k = S a k) (h2 : ∀ a, ¬ (a = 65 ∨ a = 66 ∨ a = 67 ∨ a = 70) → V' a = V a) : RP S' V' j z ans ph fr t :=
  H.cong (fun k => h1 _ _ (by unfold cb; omega)) (fun k => h1 _ _ (by unfold cb; omega)) (h2 _ (by unfold cb; omega))
theorem cph6 (hC : C j 6 = nI z) (hex : exe C R j cmd = (C1, ans)) (ph : Nat) : cph C C1 ph j 6 = nI z := by
  have h1 : C1 j 6 = nI z := by
    have : C1 = (exe C R j cmd).1 := by rw [hex]
    rw [this]
    unfold exe
    split
    · exact (uS_ne (by omega)).trans hC
    · split
      · exact (uS_ne (by omega)).trans hC
      · split
        · exact (uS_ne (by omega)).trans hC
        · exact (uS_ne (by omega)).trans ((uS_ne (by omega)).trans ((uS_ne (by omega)).trans hC))
  unfold cph
  split
  · exact h1
  · exact hC
theorem transmit_loop (hj : j < 4) (hC : C j 6 = nI z) (hz : 3 ≤ z) (hz2 : z ≤ 16) (hL : cmd.length ≤ 11) (hn : ans.length ≤ 24) (hc : okc cmd) (hex : exe C R j cmd = (C1, ans)) (lF : F.length = 128) : ∀ (m : Nat) (S : st_S) (V : st_V) (J : st_J) (s t ph kd o fr blk : Nat) (l8 l9 l10 : Option Value), TT S V j z cmd ans C C1 R F J T P ph o fr t → (ph = 1 ∨ ph = 2 → RP S V j z ans ph fr t) → twf cmd.length z ans.length t ph kd o fr → s ≤ 3 → tmu J cmd.length ans.length ph kd o fr ≤ m → JL J → jn J + m ≤ 2000000 → blk + m ≤ 1000000 →
    ∃ S' V', rn (d + 5) 33 26 [some (.ref 1), some (.ref 89), some (.ref 91), some (.ref (cb j)), some (.int (nI kd)), some (.int (nI o)), some (.int (nI s)), some (.int (nI blk)), l8, l9, l10] [] (hs S V) = some (some (.int (b2i (tk F cmd.length z ans.length m J s t ph kd o fr).1)), hs S' V') ∧ CX S' V' (cph C C1 (tk F cmd.length z ans.length m J s t ph kd o fr).2.2.2) R F (tk F cmd.length z ans.length m J s t ph kd o fr).2.1 T P ∧ ((tk F cmd.length z ans.length m J s t ph kd o fr).1 = true → S' 1 4 = nI (tk F cmd.length z ans.length m J s t ph kd o fr).2.2.1 ∧ S' (cb j) 14 = nI (1 - (tk F cmd.length z ans.length m J s t ph kd o fr).2.2.1) ∧ (∃ jh, Rw S' V' (cb j + 11) [] jh) ∧ ∃ jg, Rw S' V' 91 ans jg) ∧ Fm trS trV S V S' V' := by
  have H := crd hj
  intro m
  induction m with
  | zero =>
    intro S V J s t ph kd o fr blk l8 l9 l10 I A2 W hs3 hm
    have := tmu_pos (J := J) W hz
    omega
  | succ m ih =>
    intro S V J s t ph kd o fr blk l8 l9 l10 I A2 W hs3 hm L hJ hb
    have cb' : nI blk < 1000000 := nI_lt (b := 1000000) (by omega) (by decide)
    rw [x_Air_transmit_26, tk_s]
    by_cases h3 : 3 ≤ s
    · have : s = 3 := by omega
      subst this
      rw [if_pos h3]
      refine ⟨S, V, ?_, I.1, fun z => by (cases z), Fm.refl _ _⟩
      simp only [x_Air_transmit_28, x_Air_transmit_30, x_Air_transmit_33, x_Air_transmit_35, x_Air_transmit_36, x_Air_transmit_239, x_Air_transmit_240, cb', if_true, (by decide : ¬ nI 3 < 3), if_false, nbz]
      rfl
    · rw [if_neg h3]
      have cs : nI s < 3 := nI_lt (b := 3) (by omega) (by decide)
      obtain ⟨X, A, ht4, ⟨jc, Hc⟩, ⟨jg, Hg⟩⟩ := id I
      have ht := W.1
      have hkd : kd = 5 ∨ kd = 6 ∨ kd = 7 := by unfold twf at W; omega
      have hoL : kd = 5 → o ≤ cmd.length := by unfold twf at W; omega
      have h6 : ∀ {S : st_S} {V : st_V} {J : st_J} {ph : Nat}, CX S V (cph C C1 ph) R F J T P → S (cb j) 6 = nI z := fun X => (X.1 j hj 6 (by decide)).trans (cph6 hC hex _)
      obtain ⟨S1, V1, e1, B, F1⟩ := ev_prepare (d := d + 1) Hc ht4 hkd hoL hz2 (X.len (by decide))
      have X1 : CX S1 V1 (cph C C1 ph) R F J T P := X.fm (F1.mono (fun a k z => by unfold blS at z; unfold prS; omega) (fun a z => by unfold blV at z; unfold prV; omega))
      have I1 : TT S1 V1 j z cmd ans C C1 R F J T P ph o fr t := I.far hj (fun a k h => F1.1 a k (by unfold blS; omega)) (fun a h => F1.2.1 a (by unfold blV; omega)) X1
      have A21 : ph = 1 ∨ ph = 2 → RP S1 V1 j z ans ph fr t := fun h => (A2 h).far hj (fun a k h => F1.1 a k (by unfold blS; omega)) (fun a h => F1.2.1 a (by unfold blV; omega))
      have G1 : Fm trS trV S V S1 V1 := F1.mono (fun a k z => by unfold blS at z; unfold trS; omega) (fun a z => by unfold blV at z; unfold trV; omega)
      have ef := ev_nextFault (d := d + 4) X1.JX L (X1.2.2.1) lF
      have hh : ∃ S2 V2, rn (d + 5) 33 61 [some (.ref 1), some (.ref 89), some (.ref 91), some (.ref (cb j)), some (.int (nI kd)), some (.int (nI o)), some (.int (nI s)), some (.int (nI blk)), some (.int (flt F (jn J))), l9, l10] [] (hs S1 V1) = rn (d + 5) 33 75 [some (.ref 1), some (.ref 89), some (.ref 91), some (.ref (cb j)), some (.int (nI kd)), some (.int (nI o)), some (.int (nI s)), some (.int (nI blk)), some (.int (flt F (jn J))), l9, l10] [] (hs S2 V2) ∧ TT S2 V2 j z cmd ans C C1 R F J T P (tkq F J cmd.length z ph kd o fr).1 o (tkq F J cmd.length z ph kd o fr).2 t ∧ ((tkq F J cmd.length z ph kd o fr).1 = 1 ∨ (tkq F J cmd.length z ph kd o fr).1 = 2 ∨ ¬ flt F (jn J) = 1 → RP S2 V2 j z ans (tkq F J cmd.length z ph kd o fr).1 (tkq F J cmd.length z ph kd o fr).2 t) ∧ Fm trS trV S1 V1 S2 V2 := by
        by_cases f1 : flt F (jn J) = 1
        · have q : tkq F J cmd.length z ph kd o fr = (ph, fr) := by unfold tkq; rw [if_pos f1]
          rw [q]
          refine ⟨S1, V1, ?_, I1, ?_, Fm.refl _ _⟩
          · simp only [x_Air_transmit_61, x_Air_transmit_63, x_Air_transmit_64, f1, if_true]
          · intro h
            rcases h with h | h | h
            · exact A21 (Or.inl h)
            · exact A21 (Or.inr h)
            · exact absurd f1 h
        · have q : tkq F J cmd.length z ph kd o fr = tkp cmd.length z ph kd o fr := by unfold tkq; rw [if_neg f1]
          rw [q]
          obtain ⟨_, A1, t1, ⟨jc1, c1⟩, ⟨jg1, g1⟩⟩ := id I1
          obtain ⟨S2, V2, e2, X2, A2', R2, F2⟩ := ev_hear (d := d) hj X1 (h6 X1) hz hz2 A1 A21 B W hL hn hc hex
          refine ⟨S2, V2, ?_, ⟨X2, A2', ?_, ⟨jc1, ?_⟩, ⟨jg1, ?_⟩⟩, fun _ => R2, F2.mono (fun a k z => by unfold cdS cb at z; unfold trS; omega) (fun a z => by unfold cdV cb at z; unfold trV; omega)⟩
          · simp only [x_Air_transmit_61, x_Air_transmit_63, x_Air_transmit_64, x_Air_transmit_67, x_Air_transmit_68, x_Air_transmit_69, x_Air_transmit_72, f1, if_false, g_1_5, c_is H, e2, ac_0, ac_i, ac_r, ac_ii, ac_ir, ac_ri, ac_rr, ac_iii, ac_iir, ac_iri, ac_irr, ac_rii, ac_rir, ac_rri, ac_rrr, Option.bind_some, Option.toList_some, Option.toList_none, List.nil_append, List.cons_append, not_false_eq_true]
          · exact (F2.1 _ _ (by unfold cdS cb; omega)).trans t1
          · exact c1.fm F2 (by unfold cdS cb; omega) (by unfold cdV cb; omega)
          · rw [gtt_q ans W]; exact g1.fm F2 (by unfold cdS cb; omega) (by unfold cdV cb; omega)
      obtain ⟨S2, V2, e2, I2, R2, G2⟩ := hh
      have hx : ∀ y, JL (nt J (nI kd) (nI t) y) := fun y => nt_L L (by omega)
      have t2 : S2 1 4 = nI t := I2.2.2.1
      have en : ∀ y, B01 y → ev (d + 4) 25 [.ref 63, .int (nI kd), .int (nI t), .int y] (hs S2 V2) = some (some (.int y), hs (jS S2 (nt J (nI kd) (nI t) y)) (jV V2 (nt J (nI kd) (nI t) y))) := fun y hy => ev_note I2.1.JX L hy
      have I3 : ∀ y, TT (jS S2 (nt J (nI kd) (nI t) y)) (jV V2 (nt J (nI kd) (nI t) y)) j z cmd ans C C1 R F (nt J (nI kd) (nI t) y) T P (tkq F J cmd.length z ph kd o fr).1 o (tkq F J cmd.length z ph kd o fr).2 t := fun y => I2.far hj (fun a k h => jS_ne (by omega)) (fun a h => jV_ne (by omega)) (I2.1.setJ (hx y))
      have R3 : ∀ y, ((tkq F J cmd.length z ph kd o fr).1 = 1 ∨ (tkq F J cmd.length z ph kd o fr).1 = 2 ∨ ¬ flt F (jn J) = 1 → RP (jS S2 (nt J (nI kd) (nI t) y)) (jV V2 (nt J (nI kd) (nI t) y)) j z ans (tkq F J cmd.length z ph kd o fr).1 (tkq F J cmd.length z ph kd o fr).2 t) := fun y h => (R2 h).far hj (fun a k h => jS_ne (by omega)) (fun a h => jV_ne (by omega))
      have G3 : ∀ y, Fm trS trV S V (jS S2 (nt J (nI kd) (nI t) y)) (jV V2 (nt J (nI kd) (nI t) y)) := fun y => (G1.trans G2).jSV (hx y) (I2.1.len (by decide)) (I2.1.len (by decide)) (I2.1.len (by decide)) (by unfold trS; omega) (by unfold trS; omega) (by unfold trV; omega) (by unfold trV; omega) (by unfold trV; omega)
      have to61 : ∀ {t' : Option (Option Value × am_H)}, rn (d + 5) 33 61 [some (.ref 1), some (.ref 89), some (.ref 91), some (.ref (cb j)), some (.int (nI kd)), some (.int (nI o)), some (.int (nI s)), some (.int (nI blk)), some (.int (flt F (jn J))), l9, l10] [] (hs S1 V1) = t' → rn (d + 5) 33 28 [some (.ref 1), some (.ref 89), some (.ref 91), some (.ref (cb j)), some (.int (nI kd)), some (.int (nI o)), some (.int (nI s)), some (.int (nI blk)), l8, l9, l10] [.int (nI blk)] (hs S V) = t' := by
        intro t' h'
        rw [← h']
        simp only [x_Air_transmit_28, x_Air_transmit_30, x_Air_transmit_33, x_Air_transmit_35, x_Air_transmit_36, x_Air_transmit_39, x_Air_transmit_40, x_Air_transmit_42, x_Air_transmit_43, x_Air_transmit_45, x_Air_transmit_46, x_Air_transmit_49, x_Air_transmit_52, x_Air_transmit_53, x_Air_transmit_56, x_Air_transmit_59, cb', cs, if_true, cg_6 H, h6 X, i_1, e1, g_1_1, i_63, ef, ac_0, ac_i, ac_r, ac_ii, ac_ir, ac_ri, ac_rr, ac_iii, ac_iir, ac_iri, ac_irr, ac_rii, ac_rir, ac_rri, ac_rrr, Option.bind_some, Option.toList_some, Option.toList_none, List.nil_append, List.cons_append, not_false_eq_true]
      by_cases f0 : flt F (jn J) = 0
      · rw [if_pos f0]
        have f1 : ¬ flt F (jn J) = 1 := by rw [f0]; decide
        have q : tkq F J cmd.length z ph kd o fr = tkp cmd.length z ph kd o fr := by unfold tkq; rw [if_neg f1]
        have I' := I3 1
        have R' := R3 1 (Or.inr (Or.inr f1))
        have en' := en 1 (Or.inr rfl)
        have G' := G3 1
        rw [q] at I' R'
        generalize jS S2 (nt J (nI kd) (nI t) 1) = S3 at I' R' en' G'
        generalize jV V2 (nt J (nI kd) (nI t) 1) = V3 at I' R' en' G'
        have HB := crd_bl H
        have t3 : S3 1 4 = nI t := I'.2.2.1
        have s1 : (1 : Int32) - nI t = nI (1 - t) := pk_sub (a := 1) ht
        have nne := tn_ne ht
        obtain ⟨X3, A3, _, ⟨jc3, c3⟩, ⟨jg3, g3⟩⟩ := id I'
        have z3 := h6 X3
        by_cases q0 : (tkp cmd.length z ph kd o fr).1 = 0
        · rw [if_pos q0]
          obtain ⟨W', M'⟩ := tk_y0 (J := J) W q0
          obtain ⟨rk, rn'⟩ := R'.1 q0
          rw [q0] at I'
          obtain ⟨S4, V4, e4, r1, r2, r3⟩ := ih S3 V3 (nt J (nI kd) (nI t) 1) 0 t 0 5 o (tkp cmd.length z ph kd o fr).2 (blk + 1) (some (.int (flt F (jn J)))) (some (.ref (cb j + 8))) (some (.int 0)) I' (fun h => by omega) W' (by omega) (by omega) (hx 1) (by rw [nt_n]; omega) (by omega)
          refine ⟨S4, V4, to61 ?_, r1, r2, G'.trans r3⟩
          rw [e2, ← e4]
          simp only [x_Air_transmit_75, x_Air_transmit_76, x_Air_transmit_79, x_Air_transmit_81, x_Air_transmit_82, x_Air_transmit_85, x_Air_transmit_87, x_Air_transmit_90, x_Air_transmit_91, x_Air_transmit_94, x_Air_transmit_95, x_Air_transmit_98, x_Air_transmit_123, x_Air_transmit_124, x_Air_transmit_126, x_Air_transmit_127, x_Air_transmit_130, x_Air_transmit_132, x_Air_transmit_134, x_Air_transmit_137, x_Air_transmit_138, x_Air_transmit_141, x_Air_transmit_144, x_Air_transmit_145, x_Air_transmit_148, x_Air_transmit_149, x_Air_transmit_151, x_Air_transmit_153, x_Air_transmit_156, x_Air_transmit_157, x_Air_transmit_158, x_Air_transmit_159, x_Air_transmit_162, x_Air_transmit_163, x_Air_transmit_166, x_Air_transmit_168, x_Air_transmit_171, x_Air_transmit_173, x_Air_transmit_176, x_Air_transmit_178, x_Air_transmit_181, x_Air_transmit_183, x_Air_transmit_184, x_Air_transmit_187, x_Air_transmit_188, x_Air_transmit_191, x_Air_transmit_193, x_Air_transmit_195, x_Air_transmit_196, x_Air_transmit_198, x_Air_transmit_233, x_Air_transmit_236, g_1_1, g_1_4, t2, t3, f0, if_false, if_true, i_63, en', (by decide : ¬ (1 : Int32) = 0), cg_13 H, bg_1 HB, bg_0 HB, rn', rk, Ne.symm nne, nI_1, ac_0, ac_i, ac_r, ac_ii, ac_ir, ac_ri, ac_rr, ac_iii, ac_iir, ac_iri, ac_irr, ac_rii, ac_rir, ac_rri, ac_rrr, Option.bind_some, Option.toList_some, Option.toList_none, List.nil_append, List.cons_append, not_false_eq_true]
          rfl
        · rw [if_neg q0]
          by_cases q1 : (tkp cmd.length z ph kd o fr).1 = 1
          · rw [if_pos q1]
            obtain ⟨W', M'⟩ := tk_y1 (J := J) W hz q1
            obtain ⟨rk, rn'⟩ := R'.2.1 q1
            have X4 : CX (uS S3 1 4 (nI (1 - t))) V3 (cph C C1 0) R F (nt J (nI kd) (nI t) 1) T P := by
              have : cph C C1 0 = cph C C1 (tkp cmd.length z ph kd o fr).1 := by rw [q1]; rfl
              rw [this]
              exact X3.fm ((Fm.refl _ _).us (by unfold prS; omega))
            have I4 : TT (uS S3 1 4 (nI (1 - t))) V3 j z cmd ans C C1 R F (nt J (nI kd) (nI t) 1) T P 0 (o + z) (tkp cmd.length z ph kd o fr).2 (1 - t) := by
              rw [q1] at A3 g3
              obtain ⟨u1, ⟨uj, u2⟩, u3⟩ := A3
              refine ⟨X4, ⟨?_, ⟨uj, u2.cong (uS_ne (by unfold cb; omega)) rfl⟩, fun h => by omega⟩, uS_self _ _ _ _, ⟨jc3, c3.cong (uS_ne (by decide)) rfl⟩, ⟨jg3, g3.cong (uS_ne (by decide)) rfl⟩⟩
              rw [uS_ne (by unfold cb; omega), u1]
              show nI t = nI (1 - (1 - t))
              rw [show 1 - (1 - t) = t by omega]
            obtain ⟨S4, V4, e4, r1, r2, r3⟩ := ih (uS S3 1 4 (nI (1 - t))) V3 (nt J (nI kd) (nI t) 1) 0 (1 - t) 0 5 (o + z) (tkp cmd.length z ph kd o fr).2 (blk + 1) (some (.int (flt F (jn J)))) (some (.ref (cb j + 8))) (some (.int 1)) I4 (fun h => by omega) W' (by omega) (by omega) (hx 1) (by rw [nt_n]; omega) (by omega)
            refine ⟨S4, V4, to61 ?_, r1, r2, (G'.us (by unfold trS; omega)).trans r3⟩
            rw [e2, ← e4]
            simp only [x_Air_transmit_75, x_Air_transmit_76, x_Air_transmit_79, x_Air_transmit_81, x_Air_transmit_82, x_Air_transmit_85, x_Air_transmit_87, x_Air_transmit_90, x_Air_transmit_91, x_Air_transmit_94, x_Air_transmit_95, x_Air_transmit_98, x_Air_transmit_123, x_Air_transmit_124, x_Air_transmit_126, x_Air_transmit_127, x_Air_transmit_130, x_Air_transmit_132, x_Air_transmit_134, x_Air_transmit_137, x_Air_transmit_138, x_Air_transmit_141, x_Air_transmit_144, x_Air_transmit_145, x_Air_transmit_148, x_Air_transmit_149, x_Air_transmit_151, x_Air_transmit_153, x_Air_transmit_156, x_Air_transmit_157, x_Air_transmit_158, x_Air_transmit_159, x_Air_transmit_162, x_Air_transmit_163, x_Air_transmit_166, x_Air_transmit_168, x_Air_transmit_171, x_Air_transmit_173, x_Air_transmit_176, x_Air_transmit_178, x_Air_transmit_181, x_Air_transmit_183, x_Air_transmit_184, x_Air_transmit_187, x_Air_transmit_188, x_Air_transmit_191, x_Air_transmit_193, x_Air_transmit_195, x_Air_transmit_196, x_Air_transmit_198, x_Air_transmit_233, x_Air_transmit_236, g_1_1, g_1_4, t2, t3, f0, if_false, if_true, i_63, en', (by decide : ¬ (1 : Int32) = 0), cg_13 H, bg_1 HB, bg_0 HB, rn', s1, p_1_4, uS_ne (S := S3) (a := 1) (k := 4) (v := nI (1 - t)) (a' := cb j + 8) (k' := 0) (by unfold cb; omega), rk, cg_6 H, uS_ne (S := S3) (a := 1) (k := 4) (v := nI (1 - t)) (a' := cb j) (k' := 6) (by unfold cb; omega), z3, nI_add, nI_1, ac_0, ac_i, ac_r, ac_ii, ac_ir, ac_ri, ac_rr, ac_iii, ac_iir, ac_iri, ac_irr, ac_rii, ac_rir, ac_rri, ac_rrr, Option.bind_some, Option.toList_some, Option.toList_none, List.nil_append, List.cons_append, not_false_eq_true]
            rfl
          · rw [if_neg q1]
            have q2 : (tkp cmd.length z ph kd o fr).1 = 2 := by
              rcases tk_q W with ⟨_, _, _, e⟩ | ⟨_, _, _, e⟩ | ⟨_, _, _, _, e⟩ | ⟨_, _, _, e⟩ | ⟨_, _, _, e⟩ | ⟨_, _, _, e⟩ <;> rw [e] at q0 q1 ⊢ <;> first | exact absurd rfl q0 | exact absurd rfl q1 | rfl
            have qn : (tkp cmd.length z ph kd o fr).2 ≤ ans.length := by
              rcases tk_q W with ⟨_, _, _, e⟩ | ⟨_, _, _, e⟩ | ⟨_, _, _, _, e⟩ | ⟨_, _, hh, e⟩ | ⟨_, _, hh, e⟩ | ⟨_, _, hh, e⟩ <;> rw [e] at q0 q1 ⊢ <;> first | exact absurd rfl q0 | exact absurd rfl q1 | skip
              · exact Nat.zero_le _
              · exact hh
              · exact Nat.le_of_lt hh
            obtain ⟨rk, rn', rm, jr, rr'⟩ := R'.2.2 q2
            rw [q2] at A3 g3 X3
            have WM0 := fun h => tk_y2 (J := J) W hz q0 q1 h
            generalize (tkp cmd.length z ph kd o fr).2 = fr' at *
            have g3' : Rw S3 V3 91 (ans.take fr') jg3 := g3
            have gl : fr' + jg3.length = 24 := by
              have u := congrArg List.length g3'.2.2.1
              rw [X3.len (a := 91 + 1) (n := 24) (by decide), List.length_append, List.length_take] at u
              omega
            have g4 : Rw (uS S3 1 4 (nI (1 - t))) V3 91 (ans.take fr') jg3 := g3'.cong (uS_ne (by decide)) rfl
            have rr4 : Rw (uS S3 1 4 (nI (1 - t))) V3 (cb j + 9) ((ans.drop fr').take z) jr := rr'.cong (uS_ne (by unfold cb; omega)) rfl
            obtain ⟨S5, V5, j5, e5, R5, l5, F5⟩ := rw_addPartX g4 rr4 (by unfold cb; omega) (by rw [List.length_take, List.length_drop]; omega)
            rw [← List.take_add] at R5
            have X5 : CX S5 V5 (cph C C1 2) R F (nt J (nI kd) (nI t) 1) T P := (X3.fm ((Fm.refl _ _).us (by unfold prS; omega))).fm (F5.mono (fun a k z => by unfold rwS at z; unfold prS; omega) (fun a z => by unfold rwV at z; unfold prV; omega))
            have G5 : Fm trS trV S V S5 V5 := (G'.us (by unfold trS; omega)).trans (F5.mono (fun a k z => by unfold rwS at z; unfold trS; omega) (fun a z => by unfold rwV at z; unfold trV; omega))
            have t5 : S5 1 4 = nI (1 - t) := (F5.1 _ _ (by unfold rwS; omega)).trans (uS_self _ _ _ _)
            have m5 : S5 (cb j + 8) 2 = (if fr' + z < ans.length then 1 else 0) := (F5.1 _ _ (by unfold rwS cb; omega)).trans ((uS_ne (by unfold cb; omega)).trans rm)
            obtain ⟨u1, ⟨uj, u2⟩, u3⟩ := A3
            obtain ⟨u17, ja, uR⟩ := u3 (Nat.le_refl 2)
            have v14 : S5 (cb j) 14 = nI t := (F5.1 _ _ (by unfold rwS cb; omega)).trans ((uS_ne (by unfold cb; omega)).trans u1)
            have v17 : S5 (cb j) 17 = nI fr' := (F5.1 _ _ (by unfold rwS cb; omega)).trans ((uS_ne (by unfold cb; omega)).trans u17)
            have vh : Rw S5 V5 (cb j + 11) [] uj := (u2.cong (S' := uS S3 1 4 (nI (1 - t))) (V' := V3) (uS_ne (by unfold cb; omega)) rfl).fm F5 (by unfold rwS cb; omega) (by unfold rwV cb; omega)
            have va : Rw S5 V5 (cb j + 13) ans ja := (uR.cong (S' := uS S3 1 4 (nI (1 - t))) (V' := V3) (uS_ne (by unfold cb; omega)) rfl).fm F5 (by unfold rwS cb; omega) (by unfold rwV cb; omega)
            have vc : Rw S5 V5 89 cmd jc3 := (c3.cong (S' := uS S3 1 4 (nI (1 - t))) (V' := V3) (uS_ne (by decide)) rfl).fm F5 (by unfold rwS; omega) (by unfold rwV; omega)
            have ev75 : ∀ {t' : Option (Option Value × am_H)}, rn (d + 5) 33 224 [some (.ref 1), some (.ref 89), some (.ref 91), some (.ref (cb j)), some (.int (nI kd)), some (.int (nI o)), some (.int 0), some (.int (nI blk)), some (.int (flt F (jn J))), some (.ref (cb j + 8)), some (.int 1)] [.int (if fr' + z < ans.length then 1 else 0)] (hs S5 V5) = t' → rn (d + 5) 33 75 [some (.ref 1), some (.ref 89), some (.ref 91), some (.ref (cb j)), some (.int (nI kd)), some (.int (nI o)), some (.int (nI s)), some (.int (nI blk)), some (.int (flt F (jn J))), l9, l10] [] (hs S2 V2) = t' := by
              intro t' ht'
              rw [← ht']
              simp only [x_Air_transmit_75, x_Air_transmit_76, x_Air_transmit_79, x_Air_transmit_81, x_Air_transmit_82, x_Air_transmit_85, x_Air_transmit_87, x_Air_transmit_90, x_Air_transmit_91, x_Air_transmit_94, x_Air_transmit_95, x_Air_transmit_98, x_Air_transmit_123, x_Air_transmit_124, x_Air_transmit_126, x_Air_transmit_127, x_Air_transmit_130, x_Air_transmit_132, x_Air_transmit_134, x_Air_transmit_137, x_Air_transmit_138, x_Air_transmit_141, x_Air_transmit_144, x_Air_transmit_145, x_Air_transmit_148, x_Air_transmit_149, x_Air_transmit_151, x_Air_transmit_153, x_Air_transmit_156, x_Air_transmit_157, x_Air_transmit_158, x_Air_transmit_159, x_Air_transmit_162, x_Air_transmit_163, x_Air_transmit_166, x_Air_transmit_168, x_Air_transmit_171, x_Air_transmit_173, x_Air_transmit_201, x_Air_transmit_202, x_Air_transmit_204, x_Air_transmit_207, x_Air_transmit_208, x_Air_transmit_210, x_Air_transmit_213, x_Air_transmit_216, x_Air_transmit_219, x_Air_transmit_221, g_1_1, g_1_4, t2, t3, f0, if_false, if_true, i_63, en', (by decide : ¬ (1 : Int32) = 0), cg_13 H, bg_1 HB, bg_0 HB, rn', s1, p_1_4, uS_ne (S := S3) (a := 1) (k := 4) (v := nI (1 - t)) (a' := cb j + 8) (k' := 0) (by unfold cb; omega), rk, (by decide : ¬ (5 : Int32) = 6), bg_3 HB, row_g1 HB.2, rr4.2.1, i_91, e5, bg_2 HB, m5, ac_0, ac_i, ac_r, ac_ii, ac_ir, ac_ri, ac_rr, ac_iii, ac_iir, ac_iri, ac_irr, ac_rii, ac_rir, ac_rri, ac_rrr, Option.bind_some, Option.toList_some, Option.toList_none, List.nil_append, List.cons_append, not_false_eq_true]
            by_cases q3 : fr' + z < ans.length
            · rw [if_pos q3]
              have WM : twf cmd.length z ans.length (1 - t) 3 6 o fr' ∧ tmu (nt J (nI kd) (nI t) 1) cmd.length ans.length 3 6 o fr' < tmu J cmd.length ans.length ph kd o fr := WM0 q3
              obtain ⟨W', M'⟩ := WM
              have I5 : TT S5 V5 j z cmd ans C C1 R F (nt J (nI kd) (nI t) 1) T P 3 o fr' (1 - t) := by
                refine ⟨X5, ⟨?_, ⟨uj, vh⟩, fun _ => ⟨v17, ja, va⟩⟩, t5, ⟨jc3, vc⟩, ⟨j5, R5⟩⟩
                rw [v14]
                show nI t = nI (1 - (1 - t))
                rw [show 1 - (1 - t) = t by omega]
              obtain ⟨S6, V6, e6, r1, r2, r3⟩ := ih S5 V5 (nt J (nI kd) (nI t) 1) 0 (1 - t) 3 6 o fr' (blk + 1) (some (.int (flt F (jn J)))) (some (.ref (cb j + 8))) (some (.int 1)) I5 (fun h => by omega) W' (by omega) (by omega) (hx 1) (by rw [nt_n]; omega) (by omega)
              refine ⟨S6, V6, to61 ?_, r1, r2, G5.trans r3⟩
              rw [e2, ← e6]
              apply ev75
              simp only [x_Air_transmit_224, x_Air_transmit_229, x_Air_transmit_231, x_Air_transmit_233, x_Air_transmit_236, q3, if_true, if_false, (by decide : ¬ (1 : Int32) = 0), nI_1]
              rfl
            · rw [if_neg q3]
              refine ⟨S5, V5, to61 ?_, X5, fun _ => ⟨t5, ?_, ⟨uj, vh⟩, ⟨j5, ?_⟩⟩, G5⟩
              · rw [e2]
                apply ev75
                simp only [x_Air_transmit_224, x_Air_transmit_227, x_Air_transmit_228, q3, if_true, if_false, nbo]
                rfl
              · rw [v14]
                show nI t = nI (1 - (1 - t))
                rw [show 1 - (1 - t) = t by omega]
              · rw [List.take_of_length_le (by omega)] at R5; exact R5
      · rw [if_neg f0]
        have I' := I3 0
        have R' := R3 0
        have en' := en 0 (Or.inl rfl)
        have G' := G3 0
        obtain ⟨W', M'⟩ := tk_no (F := F) (J := J) W hz f0
        generalize jS S2 (nt J (nI kd) (nI t) 0) = S3 at I' R' en' G'
        generalize jV V2 (nt J (nI kd) (nI t) 0) = V3 at I' R' en' G'
        obtain ⟨S4, V4, e4, r1, r2, r3⟩ := ih S3 V3 (nt J (nI kd) (nI t) 0) (s + 1) t (tkq F J cmd.length z ph kd o fr).1 (if kd = 6 then 6 else 7) o (tkq F J cmd.length z ph kd o fr).2 (blk + 1) (some (.int (flt F (jn J)))) l9 l10 I' (fun h => R' (by omega)) W' (by omega) (by omega) (hx 0) (by rw [nt_n]; omega) (by omega)
        refine ⟨S4, V4, to61 ?_, r1, r2, G'.trans r3⟩
        rw [e2, ← e4]
        by_cases k6 : kd = 6
        · have c6 : nI kd = 6 := by rw [k6]; rfl
          simp only [x_Air_transmit_75, x_Air_transmit_76, x_Air_transmit_79, x_Air_transmit_81, x_Air_transmit_82, x_Air_transmit_85, x_Air_transmit_87, x_Air_transmit_90, x_Air_transmit_91, x_Air_transmit_94, x_Air_transmit_95, x_Air_transmit_98, x_Air_transmit_101, x_Air_transmit_104, x_Air_transmit_106, x_Air_transmit_108, x_Air_transmit_111, x_Air_transmit_113, x_Air_transmit_116, x_Air_transmit_118, x_Air_transmit_120, x_Air_transmit_233, x_Air_transmit_236, g_1_1, g_1_4, t2, f0, if_false, if_true, i_63, en', nI_1, ac_0, ac_i, ac_r, ac_ii, ac_ir, ac_ri, ac_rr, ac_iii, ac_iir, ac_iri, ac_irr, ac_rii, ac_rir, ac_rri, ac_rrr, Option.bind_some, Option.toList_some, Option.toList_none, List.nil_append, List.cons_append, not_false_eq_true]
          rw [if_pos c6, if_pos k6]
          rfl
        · have c6 : ¬ nI kd = 6 := by
            rcases hkd with rfl | rfl | rfl
            · decide
            · exact absurd rfl k6
            · decide
          simp only [x_Air_transmit_75, x_Air_transmit_76, x_Air_transmit_79, x_Air_transmit_81, x_Air_transmit_82, x_Air_transmit_85, x_Air_transmit_87, x_Air_transmit_90, x_Air_transmit_91, x_Air_transmit_94, x_Air_transmit_95, x_Air_transmit_98, x_Air_transmit_101, x_Air_transmit_104, x_Air_transmit_106, x_Air_transmit_108, x_Air_transmit_111, x_Air_transmit_113, x_Air_transmit_116, x_Air_transmit_118, x_Air_transmit_120, x_Air_transmit_233, x_Air_transmit_236, g_1_1, g_1_4, t2, f0, if_false, if_true, i_63, en', c6, nI_1, ac_0, ac_i, ac_r, ac_ii, ac_ir, ac_ri, ac_rr, ac_iii, ac_iir, ac_iri, ac_irr, ac_rii, ac_rir, ac_rri, ac_rrr, Option.bind_some, Option.toList_some, Option.toList_none, List.nil_append, List.cons_append, not_false_eq_true]
          rw [if_neg k6]
          rfl
/-- a command is sent, its answer taken -/
theorem ev_transmit {jc : List Int32} (hj : j < 4) (hC : C j 6 = nI z) (hz : 3 ≤ z) (hz2 : z ≤ 16) (hL0 : 0 < cmd.length) (hL : cmd.length ≤ 11) (hn : ans.length ≤ 24) (hc : okc cmd) (hex : exe C R j cmd = (C1, ans)) (lF : F.length = 128) (X : CX S V C R F J T P) (L : JL J) (hJ : jn J + 340 ≤ 2000000) (hp : S 1 2 = nI j) (ht : t ≤ 1) (h4 : S 1 4 = nI t) (h14 : S (cb j) 14 = nI (1 - t)) (hh : ∃ jh, Rw S V (cb j + 11) [] jh) (Hc : Rw S V 89 cmd jc) :
    ∃ S' V', ev (d + 5) 33 [.ref 1, .ref 89, .ref 91] (hs S V) = some (some (.int (b2i (tk F cmd.length z ans.length 340 J 0 t 0 5 0 0).1)), hs S' V') ∧ CX S' V' (cph C C1 (tk F cmd.length z ans.length 340 J 0 t 0 5 0 0).2.2.2) R F (tk F cmd.length z ans.length 340 J 0 t 0 5 0 0).2.1 T P ∧ ((tk F cmd.length z ans.length 340 J 0 t 0 5 0 0).1 = true → S' 1 4 = nI (tk F cmd.length z ans.length 340 J 0 t 0 5 0 0).2.2.1 ∧ S' (cb j) 14 = nI (1 - (tk F cmd.length z ans.length 340 J 0 t 0 5 0 0).2.2.1) ∧ (∃ jh, Rw S' V' (cb j + 11) [] jh) ∧ ∃ jg, Rw S' V' 91 ans jg) ∧ Fm trS trV S V S' V' := by
  have F1 : Fm trS trV S V (uS S 91 1 0) V := (Fm.refl _ _).us (by unfold trS; omega)
  have X1 : CX (uS S 91 1 0) V C R F J T P := X.fm ((Fm.refl _ _).us (by unfold prS; omega))
  have l92 : (V (91 + 1)).length = 24 := X.len (by decide)
  obtain ⟨jh, hh⟩ := hh
  have I : TT (uS S 91 1 0) V j z cmd ans C C1 R F J T P 0 0 0 t := ⟨X1, ⟨(uS_ne (by unfold cb; omega)).trans h14, ⟨jh, hh.cong (uS_ne (by unfold cb; omega)) rfl⟩, fun h => by omega⟩, (uS_ne (by decide)).trans h4, ⟨jc, Hc.cong (uS_ne (by decide)) rfl⟩, ⟨_, rw_clr r_91 (by omega)⟩⟩
  obtain ⟨S', V', e, r1, r2, r3⟩ := transmit_loop (d := d) hj hC hz hz2 hL hn hc hex lF 340 (uS S 91 1 0) V J 0 t 0 5 0 0 0 none none none I (fun h => by omega) ⟨ht, Or.inl ⟨rfl, Or.inl rfl, hL0⟩⟩ (by omega) (by unfold tmu; simp; omega) L hJ (by omega)
  refine ⟨S', V', ?_, r1, r2, F1.trans r3⟩
  rw [← e]
  simp only [e_Air_transmit, x_Air_transmit_0, x_Air_transmit_1, x_Air_transmit_4, x_Air_transmit_5, x_Air_transmit_8, x_Air_transmit_9, x_Air_transmit_10, x_Air_transmit_11, x_Air_transmit_13, x_Air_transmit_14, x_Air_transmit_16, x_Air_transmit_17, x_Air_transmit_19, x_Air_transmit_20, x_Air_transmit_23, x_Air_transmit_24, g_1_0, g_1_2, hp, ld_cards hj, i_91, ev_clr r_91, ac_0, ac_i, ac_r, ac_ii, ac_ir, ac_ri, ac_rr, ac_iii, ac_iir, ac_iri, ac_irr, ac_rii, ac_rir, ac_rri, ac_rrr, Option.bind_some, Option.toList_some, Option.toList_none, List.nil_append, List.cons_append, not_false_eq_true]
  rfl
end TRANS
