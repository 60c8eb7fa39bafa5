/-! records are read, the card decides: the class -/
section CREAD
variable {d : Nat} {S S' : st_S} {V V' : st_V} {j z t n B : Nat} {cmd ans jc : List Int32} {C C1 : st_S} {R : st_V} {F : List Int32} {J : st_J} {T P : Nat → Int32}
theorem ctrans (hj : j < 4) (X : CX S V C R F J T P) (K : ChC S V j t) (ht : t ≤ 1) (Hc : Rw S V 89 cmd jc) (hC : C j 6 = nI z) (hz : 3 ≤ z) (hz2 : z ≤ 16) (hL0 : 0 < cmd.length) (hL : cmd.length ≤ 11) (hn : ans.length ≤ 24) (hc : okc cmd) (hex : exe C R j cmd = (C1, ans)) (lF : F.length = 128) (L : JL J) (hJ : jn J ≤ B) (hB : B + 340 ≤ 2000000) :
    ∃ S' V', ev (d + 5) 33 [.ref 1, .ref 89, .ref 91] (hs S V) = some (some (.int (b2i (tk F cmd.length z ans.length 340 J 0 t 0 5 0 0).1)), hs S' V') ∧ CX S' V' (cph C C1 (tk F cmd.length z ans.length 340 J 0 t 0 5 0 0).2.2.2) R F (tk F cmd.length z ans.length 340 J 0 t 0 5 0 0).2.1 T P ∧ ((tk F cmd.length z ans.length 340 J 0 t 0 5 0 0).1 = true → ChC S' V' j (tk F cmd.length z ans.length 340 J 0 t 0 5 0 0).2.2.1 ∧ ∃ jg, Rw S' V' 91 ans jg) ∧ Fm trS trV S V S' V' := by
  obtain ⟨k1, k2, k3, k4⟩ := K
  obtain ⟨S1, V1, e, X1, h1, F1⟩ := ev_transmit (d := d) hj hC hz hz2 hL0 hL hn hc hex lF X L (le_340 hJ hB) k1 ht k2 k3 k4 Hc
  refine ⟨S1, V1, e, X1, fun h => ?_, F1⟩
  obtain ⟨a, b, c, g⟩ := h1 h
  exact ⟨⟨(F1.1 _ _ (by unfold trS; omega)).trans k1, a, b, c⟩, g⟩
theorem ChC.fm {PS : Nat → Nat → Prop} {Q : Nat → Prop} (K : ChC S V j t) (h : Fm PS Q S V S' V') (hj : j < 4) (h1 : ∀ a k, PS a k → 71 ≤ a) (h2 : ∀ a, Q a → 71 ≤ a) : ChC S' V' j t := by
  obtain ⟨k1, k2, k3, jh, k4⟩ := K
  exact ⟨(h.1 _ _ (fun z => by have := h1 _ _ z; omega)).trans k1, (h.1 _ _ (fun z => by have := h1 _ _ z; omega)).trans k2, (h.1 _ _ (fun z => by have := h1 _ _ z; unfold cb at this; omega)).trans k3, jh, k4.fm h (fun z => by have := h1 _ _ z; unfold cb at this; omega) (fun z => by have := h2 _ z; unfold cb at this; omega)⟩
theorem okc_3 {r : Nat} (hr : r < 3) : okc [3, nI r] := Or.inr (Or.inr (Or.inl ⟨rfl, r, hr, rfl⟩))
theorem read_loop {b ch fi ty ct mx se am : Int32} (hj : j < 4) (hz : 3 ≤ z) (hz2 : z ≤ 16) (lF : F.length = 128) (hO : ∀ i, i < 12 → Oc (R i)) (hn : n ≤ 3) : ∀ (m r : Nat) (C : st_S) (J : st_J) (t : Nat) (re : Int32) (g : Bool) (it : it_T) (B : Nat) (S : st_S) (V : st_V), r + m = n → C j 6 = nI z → CX S V C R F J T (mkP b ch fi ty ct mx se re) → ChC S V j t → t ≤ 1 → IC S V it → S 72 2 = b2i g → JL J → jn J ≤ B → B + 340 * m ≤ 2000000 →
    ∃ S' V', rn (d + 8) 68 55 [some (.ref 0), some (.int am), some (.int (nI n)), some (.int (nI r))] [] (hs S V) = some (some (.int (if (rdz F R j z m r C J t re).1 = true then -1 else 4)), hs S' V') ∧ CX S' V' (rdz F R j z m r C J t re).2.1 R F (rdz F R j z m r C J t re).2.2.1 T (mkP b ch fi ty ct mx se (rdz F R j z m r C J t re).2.2.2.2) ∧ ((rdz F R j z m r C J t re).1 = true → ChC S' V' j (rdz F R j z m r C J t re).2.2.2.1 ∧ IC S' V' (tka (fun i => R (3 * j + i)) m r g it).2 ∧ S' 72 2 = b2i (tka (fun i => R (3 * j + i)) m r g it).1) ∧ Fm klS klV S V S' V' := by
  intro m
  induction m with
  | zero =>
    intro r C J t re g it B S V hr hC X K ht I h2 L hJ hB
    have : r = n := by omega
    subst this
    have c : ¬ nI r < nI r := nI_nlt (Nat.le_refl _) (by omega)
    refine ⟨S, V, ?_, X, fun _ => ⟨K, I, h2⟩, Fm.refl _ _⟩
    rw [x_Tap_readRecords_55]
    simp only [x_Tap_readRecords_56, x_Tap_readRecords_57, x_Tap_readRecords_123, x_Tap_readRecords_124, c, if_false]
    rfl
  | succ m ih =>
    intro r C J t re g it B S V hr hC X K ht I h2 L hJ hB
    have hr3 : r < 3 := by omega
    have eB : B + 340 * (m + 1) = B + 340 + 340 * m := by rw [Nat.mul_add, Nat.mul_one, Nat.add_comm (340 * m), Nat.add_assoc]
    rw [eB] at hB
    have hB1 : B + 340 ≤ 2000000 := Nat.le_trans (Nat.le_add_right _ _) hB
    have c : nI r < nI n := nI_lt (by omega) (by omega)
    obtain ⟨S1, V1, j1, e1, R1, l1, F1⟩ := ev_start (d := d + 6) (S := S) (V := V) (v := 3) (X.len (by decide))
    obtain ⟨S2, V2, j2, e2, R2, l2, F2⟩ := rw_addX (v := nI r) R1 (by omega)
    have F12 := F1.trans F2
    have X2 : CX S2 V2 C R F J T (mkP b ch fi ty ct mx se re) := X.fm (F12.mono (fun a k z => by unfold rwS at z; unfold prS; omega) (fun a z => by unfold rwV at z; unfold prV; omega))
    have K2 : ChC S2 V2 j t := K.fm F12 hj (fun a k z => by unfold rwS at z; omega) (fun a z => by unfold rwV at z; omega)
    have I2 : IC S2 V2 it := I.cong (fun a k h1 h2 => F12.1 a k (by unfold rwS; omega)) (fun a h1 h2 => F12.2.1 a (by unfold rwV; omega))
    have g2 : S2 72 2 = b2i g := (F12.1 _ _ (by unfold rwS; omega)).trans h2
    have hOr := hO (3 * j + r) (by omega)
    obtain ⟨S3, V3, e3, X3, k3, F3⟩ := ctrans (d := d + 2) (cmd := [3, nI r]) hj X2 K2 ht R2 hC hz hz2 (by show 0 < 2; decide) (by show 2 ≤ 11; decide) hOr.1 (okc_3 hr3) (exe_3 hr3) lF L hJ hB1
    obtain ⟨a1, a2, a3⟩ := tk_0 (F := F) (L := 2) (n := (R (3 * j + r)).length) hz (by decide) ht L hJ hB1
    have e3' : ev (d + 7) 33 [.ref 1, .ref 89, .ref 91] (hs S2 V2) = some (some (.int (b2i (tk F 2 z (R (3 * j + r)).length 340 J 0 t 0 5 0 0).1)), hs S3 V3) := e3
    have X3' : CX S3 V3 (cph C (c11 C j) (tk F 2 z (R (3 * j + r)).length 340 J 0 t 0 5 0 0).2.2.2) R F (tk F 2 z (R (3 * j + r)).length 340 J 0 t 0 5 0 0).2.1 T (mkP b ch fi ty ct mx se re) := X3
    have k3' : (tk F 2 z (R (3 * j + r)).length 340 J 0 t 0 5 0 0).1 = true → ChC S3 V3 j (tk F 2 z (R (3 * j + r)).length 340 J 0 t 0 5 0 0).2.2.1 ∧ ∃ jg, Rw S3 V3 91 (R (3 * j + r)) jg := k3
    clear e3 X3 k3
    have G3 : Fm klS klV S V S3 V3 := (F12.mono (fun a k z => by unfold rwS at z; unfold klS; omega) (fun a z => by unfold rwV at z; unfold klV; omega)).trans (trS_kl F3)
    rw [x_Tap_readRecords_55, rdz_s]
    generalize tk F 2 z (R (3 * j + r)).length 340 J 0 t 0 5 0 0 = q at e3' X3' k3' a1 a2 a3
    obtain ⟨ok, J1, t1, ph⟩ := q
    dsimp only at e3' X3' k3' a1 a2 a3 ⊢
    have k6 : cph C (c11 C j) ph j 6 = nI z := (cph_k (uS_ne (by omega))).trans hC
    cases ok with
    | false =>
      simp only [Bool.false_eq_true, if_false]
      refine ⟨S3, V3, ?_, X3', fun h => absurd h (by decide), G3⟩
      simp only [x_Tap_readRecords_56, x_Tap_readRecords_57, x_Tap_readRecords_60, x_Tap_readRecords_61, x_Tap_readRecords_62, x_Tap_readRecords_65, x_Tap_readRecords_66, x_Tap_readRecords_69, x_Tap_readRecords_70, x_Tap_readRecords_73, x_Tap_readRecords_74, x_Tap_readRecords_77, x_Tap_readRecords_78, x_Tap_readRecords_81, x_Tap_readRecords_82, x_Tap_readRecords_85, x_Tap_readRecords_88, x_Tap_readRecords_91, x_Tap_readRecords_92, c, if_true, i_0, e1, g_0_4, i_89, e2, g_0_0, g_0_5, i_1, e3', show b2i false = 0 from rfl, ac_0, ac_i, ac_r, ac_ii, ac_ir, ac_ri, ac_rr, ac_iii, ac_iir, ac_iri, ac_irr, ac_rii, ac_rir, ac_rri, ac_rrr, Option.bind_some, Option.toList_some, Option.toList_none, List.nil_append, List.cons_append, not_false_eq_true]
    | true =>
      rw [if_pos rfl]
      obtain ⟨K3, jg, R3⟩ := k3' rfl
      have s7 : S3 88 7 = re := X3'.2.2.2.2.2.1 7 (by decide)
      have X4 : CX (uS S3 88 7 (re + 1)) V3 (cph C (c11 C j) ph) R F J1 T (mkP b ch fi ty ct mx se (re + 1)) := (X3'.setP (k := 7) (v := re + 1)).congP mkP_7
      have K4 : ChC (uS S3 88 7 (re + 1)) V3 j t1 := K3.fm (PS := fun a _ => a = 88) (Q := fun _ => False) ((Fm.refl S3 V3).us rfl) hj (fun a k z => by omega) (fun a z => z.elim)
      have I4 : IC (uS S3 88 7 (re + 1)) V3 it := I2.cong (fun a k h1 h2 => (uS_ne (by omega)).trans (F3.1 a k (by unfold trS; omega))) (fun a h1 h2 => F3.2.1 a (by unfold trV; omega))
      have g4 : uS S3 88 7 (re + 1) 72 2 = b2i g := (uS_ne (by decide)).trans ((F3.1 _ _ (by unfold trS; omega)).trans g2)
      have R4 : Rw (uS S3 88 7 (re + 1)) V3 91 (R (3 * j + r)) jg := R3.cong (uS_ne (by decide)) rfl
      obtain ⟨S5, V5, e5, I5, g5, F5⟩ := ev_take (d := d) hOr I4 R4 g4
      have X5 : CX S5 V5 (cph C (c11 C j) ph) R F J1 T (mkP b ch fi ty ct mx se (re + 1)) := X4.fm (F5.mono (fun a k z => by unfold tiS at z; unfold prS; omega) (fun a z => by unfold itV at z; unfold prV; omega))
      have K5 : ChC S5 V5 j t1 := K4.fm F5 hj (fun a k z => by unfold tiS at z; omega) (fun a z => by unfold itV at z; omega)
      obtain ⟨S6, V6, e6, X6, k6', F6⟩ := ih (r + 1) (cph C (c11 C j) ph) J1 t1 (re + 1) (g && (tp (R (3 * j + r)) 25 0 (R (3 * j + r)).length 1 it).1) (tp (R (3 * j + r)) 25 0 (R (3 * j + r)).length 1 it).2 (B + 340) S5 V5 (by omega) k6 X5 K5 a3 I5 g5 a1 a2 hB
      refine ⟨S6, V6, ?_, X6, k6', ((G3.us (show klS 88 7 by unfold klS; omega)).trans (F5.mono (fun a k z => by unfold tiS at z; unfold klS; omega) (fun a z => by unfold itV at z; unfold klV; omega))).trans F6⟩
      rw [← e6]
      simp only [x_Tap_readRecords_56, x_Tap_readRecords_57, x_Tap_readRecords_60, x_Tap_readRecords_61, x_Tap_readRecords_62, x_Tap_readRecords_65, x_Tap_readRecords_66, x_Tap_readRecords_69, x_Tap_readRecords_70, x_Tap_readRecords_73, x_Tap_readRecords_74, x_Tap_readRecords_77, x_Tap_readRecords_78, x_Tap_readRecords_81, x_Tap_readRecords_82, x_Tap_readRecords_85, x_Tap_readRecords_88, x_Tap_readRecords_91, x_Tap_readRecords_92, x_Tap_readRecords_93, x_Tap_readRecords_94, x_Tap_readRecords_97, x_Tap_readRecords_97', x_Tap_readRecords_98, x_Tap_readRecords_101, x_Tap_readRecords_102, x_Tap_readRecords_103, x_Tap_readRecords_106, x_Tap_readRecords_107, x_Tap_readRecords_110, x_Tap_readRecords_111, x_Tap_readRecords_114, x_Tap_readRecords_117, x_Tap_readRecords_120, c, if_true, i_0, e1, g_0_4, i_89, e2, g_0_0, g_0_5, i_1, e3', show b2i true = 1 from rfl, (by decide : ¬ (1 : Int32) = 0), if_false, g_0_3, g_88_7, s7, p_88_7, g_0_2, i_72, e5, nI_1, ac_0, ac_i, ac_r, ac_ii, ac_ir, ac_ri, ac_rr, ac_iii, ac_iir, ac_iri, ac_irr, ac_rii, ac_rir, ac_rri, ac_rrr, Option.bind_some, Option.toList_some, Option.toList_none, List.nil_append, List.cons_append, not_false_eq_true]
theorem okc_2 {am : Int32} : okc ([2] ++ oct4 am) := Or.inr (Or.inl rfl)
theorem ev_readRecords {b ch fi ty ct mx se am : Int32} (hj : j < 4) (hz : 3 ≤ z) (hz2 : z ≤ 16) (lF : F.length = 128) (hO : ∀ i, i < 12 → Oc (R i)) (hC : C j 6 = nI z) (X : CX S V C R F J T (mkP b ch fi ty ct mx se 0)) (K : ChC S V j t) (ht : t ≤ 1) (L : JL J) (hJ : jn J ≤ B) (hB : B + 1360 ≤ 2000000) :
    ∃ S' V', ev (d + 8) 68 [.ref 0, .int am] (hs S V) = some (some (.int (if (rda F R j z C J t).1 = true then -1 else 4)), hs S' V') ∧ CX S' V' (rda F R j z C J t).2.1 R F (rda F R j z C J t).2.2.1 T (mkP b ch fi ty ct mx se (rda F R j z C J t).2.2.2.2) ∧ ((rda F R j z C J t).1 = true → ChC S' V' j (rda F R j z C J t).2.2.2.1 ∧ IC S' V' (tka (fun i => R (3 * j + i)) (nrec R j) 0 true it0).2 ∧ S' 72 2 = b2i (tka (fun i => R (3 * j + i)) (nrec R j) 0 true it0).1) ∧ Fm klS klV S V S' V' := by
  have hB1 : B + 340 ≤ 2000000 := Nat.le_trans (Nat.add_le_add_left (by decide) B) hB
  have hn := nrec_le R j
  have hR := fun i hi => (hO i hi).1
  obtain ⟨S1, V1, j1, e1, R1, l1, F1⟩ := ev_start (d := d + 6) (S := S) (V := V) (v := 2) (X.len (by decide))
  obtain ⟨S2, V2, j2, e2, R2, l2, F2⟩ := rw_addIntX (v := am) R1 (by omega)
  have F12 := F1.trans F2
  have X2 : CX S2 V2 C R F J T (mkP b ch fi ty ct mx se 0) := X.fm (F12.mono (fun a k z => by unfold rwS at z; unfold prS; omega) (fun a z => by unfold rwV at z; unfold prV; omega))
  have K2 : ChC S2 V2 j t := K.fm F12 hj (fun a k z => by unfold rwS at z; omega) (fun a z => by unfold rwV at z; omega)
  obtain ⟨S3, V3, e3, X3, k3, F3⟩ := ctrans (d := d + 2) (cmd := [2] ++ oct4 am) hj X2 K2 ht R2 hC hz hz2 (by show 0 < 5; decide) (by show 5 ≤ 11; decide) (by show 1 ≤ 24; decide) okc_2 (exe_2 hR hj) lF L hJ hB1
  obtain ⟨a1, a2, a3⟩ := tk_0 (F := F) (L := 5) (n := 1) hz (by decide) ht L hJ hB1
  have e3' : ev (d + 7) 33 [.ref 1, .ref 89, .ref 91] (hs S2 V2) = some (some (.int (b2i (tk F 5 z 1 340 J 0 t 0 5 0 0).1)), hs S3 V3) := e3
  have X3' : CX S3 V3 (cph C (c11 C j) (tk F 5 z 1 340 J 0 t 0 5 0 0).2.2.2) R F (tk F 5 z 1 340 J 0 t 0 5 0 0).2.1 T (mkP b ch fi ty ct mx se 0) := X3
  have k3' : (tk F 5 z 1 340 J 0 t 0 5 0 0).1 = true → ChC S3 V3 j (tk F 5 z 1 340 J 0 t 0 5 0 0).2.2.1 ∧ ∃ jg, Rw S3 V3 91 [nI (nrec R j)] jg := k3
  clear e3 X3 k3
  have G3 : Fm klS klV S V S3 V3 := (F12.mono (fun a k z => by unfold rwS at z; unfold klS; omega) (fun a z => by unfold rwV at z; unfold klV; omega)).trans (trS_kl F3)
  unfold rda
  generalize tk F 5 z 1 340 J 0 t 0 5 0 0 = q at e3' X3' k3' a1 a2 a3
  obtain ⟨ok, J1, t1, ph⟩ := q
  dsimp only at e3' X3' k3' a1 a2 a3 ⊢
  have k6 : cph C (c11 C j) ph j 6 = nI z := (cph_k (uS_ne (by omega))).trans hC
  cases ok with
  | false =>
    simp only [Bool.false_eq_true, if_false]
    refine ⟨S3, V3, ?_, X3', fun h => absurd h (by decide), G3⟩
    simp only [e_Tap_readRecords, x_Tap_readRecords_0, x_Tap_readRecords_1, x_Tap_readRecords_2, x_Tap_readRecords_5, x_Tap_readRecords_6, x_Tap_readRecords_9, x_Tap_readRecords_10, x_Tap_readRecords_13, x_Tap_readRecords_14, x_Tap_readRecords_17, x_Tap_readRecords_18, x_Tap_readRecords_21, x_Tap_readRecords_22, x_Tap_readRecords_25, x_Tap_readRecords_28, x_Tap_readRecords_31, x_Tap_readRecords_32, i_0, e1, g_0_4, i_89, e2, g_0_0, g_0_5, i_1, e3', show b2i false = 0 from rfl, if_true, ac_0, ac_i, ac_r, ac_ii, ac_ir, ac_ri, ac_rr, ac_iii, ac_iir, ac_iri, ac_irr, ac_rii, ac_rir, ac_rri, ac_rrr, Option.bind_some, Option.toList_some, Option.toList_none, List.nil_append, List.cons_append, not_false_eq_true]
  | true =>
    rw [if_pos rfl]
    obtain ⟨K3, jg, R3⟩ := k3' rfl
    have at0 : ∀ d, ev d 5 [.ref 91, .int 0] (hs S3 V3) = some (some (.int (nI (nrec R j))), hs S3 V3) := fun d => ev_at (i := 0) R3
    have mn : (if (3 : Int32) < nI (nrec R j) then 3 else nI (nrec R j)) = nI (nrec R j) := if_neg (nI_nlt (a := 3) hn (by decide))
    obtain ⟨S4, V4, e4, I4, g4, F4⟩ := ev_iclear (d := d + 6) (S := S3) (V := V3) (fun t ht => by
      rcases t6 ht with rfl | rfl | rfl | rfl | rfl | rfl
      · exact X3'.len (by decide)
      · exact X3'.len (by decide)
      · exact X3'.len (by decide)
      · exact X3'.len (by decide)
      · exact X3'.len (by decide)
      · exact X3'.len (by decide)) (X3'.len (by decide)) (X3'.len (by decide))
    have X4 : CX S4 V4 (cph C (c11 C j) ph) R F J1 T (mkP b ch fi ty ct mx se 0) := X3'.fm (F4.mono (fun a k z => by unfold tiS at z; unfold prS; omega) (fun a z => by unfold itV at z; unfold prV; omega))
    have K4 : ChC S4 V4 j t1 := K3.fm F4 hj (fun a k z => by unfold tiS at z; omega) (fun a z => by unfold itV at z; omega)
    have hm : B + 340 + 340 * nrec R j ≤ 2000000 := by
      refine Nat.le_trans ?_ hB
      rw [Nat.add_assoc]
      have h1 : 340 * nrec R j ≤ 1020 := Nat.le_trans (Nat.mul_le_mul_left 340 hn) (by decide)
      have h2 : 340 + 340 * nrec R j ≤ 1360 := Nat.add_le_add_left h1 340
      exact Nat.add_le_add_left h2 B
    obtain ⟨S5, V5, e5, X5, k5, F5⟩ := read_loop (d := d) (am := am) hj hz hz2 lF hO hn (nrec R j) 0 (cph C (c11 C j) ph) J1 t1 0 true it0 (B + 340) S4 V4 (by omega) k6 X4 K4 a3 I4 g4 a1 a2 hm
    refine ⟨S5, V5, ?_, X5, k5, (G3.trans (F4.mono (fun a k z => by unfold tiS at z; unfold klS; omega) (fun a z => by unfold itV at z; unfold klV; omega))).trans F5⟩
    rw [← e5, nI_0]
    simp only [e_Tap_readRecords, x_Tap_readRecords_0, x_Tap_readRecords_1, x_Tap_readRecords_2, x_Tap_readRecords_5, x_Tap_readRecords_6, x_Tap_readRecords_9, x_Tap_readRecords_10, x_Tap_readRecords_13, x_Tap_readRecords_14, x_Tap_readRecords_17, x_Tap_readRecords_18, x_Tap_readRecords_21, x_Tap_readRecords_22, x_Tap_readRecords_25, x_Tap_readRecords_28, x_Tap_readRecords_31, x_Tap_readRecords_32, x_Tap_readRecords_33, x_Tap_readRecords_34, x_Tap_readRecords_37, x_Tap_readRecords_38, x_Tap_readRecords_41, x_Tap_readRecords_42, x_Tap_readRecords_45, x_Tap_readRecords_46, x_Tap_readRecords_47, x_Tap_readRecords_50, x_Tap_readRecords_53, x_Tap_readRecords_54, i_0, e1, g_0_4, i_89, e2, g_0_0, g_0_5, i_1, i_91, e3', show b2i true = 1 from rfl, (by decide : ¬ (1 : Int32) = 0), if_false, at0, mn, g_0_2, i_72, e4, ac_0, ac_i, ac_r, ac_ii, ac_ir, ac_ri, ac_rr, ac_iii, ac_iir, ac_iri, ac_irr, ac_rii, ac_rir, ac_rri, ac_rrr, Option.bind_some, Option.toList_some, Option.toList_none, List.nil_append, List.cons_append, not_false_eq_true]
theorem okc_4 {ty am rnd fi : Int32} : okc (cmd4 ty am rnd fi) := Or.inr (Or.inr (Or.inr rfl))
theorem ev_settle {b ch se re am rnd day : Int32} {it : it_T} {g : Bool} (hj : j < 4) (hz : 3 ≤ z) (hz2 : z ≤ 16) (lF : F.length = 128) (hC : C j 6 = nI z) (X : CX S V C R F J T (mkP b ch 0 (-1) 0 0 se re)) (K : ChC S V j t) (ht : t ≤ 1) (I : IC S V it) (h2 : S 72 2 = b2i g) (L : JL J) (hJ : jn J ≤ B) (hB : B + 340 ≤ 2000000) :
    ∃ S' V', ev (d + 6) 69 [.ref 0, .int am, .int rnd, .int day] (hs S V) = some (some (.int (if (g && (fit 1 (it 1) && fit 4 (it 4))) = true then dcd F R T j z am rnd day it C J t re else (5, C, J, 0, -1, 0, 0, re)).1), hs S' V') ∧ CX S' V' (if (g && (fit 1 (it 1) && fit 4 (it 4))) = true then dcd F R T j z am rnd day it C J t re else (5, C, J, 0, -1, 0, 0, re)).2.1 R F (if (g && (fit 1 (it 1) && fit 4 (it 4))) = true then dcd F R T j z am rnd day it C J t re else (5, C, J, 0, -1, 0, 0, re)).2.2.1 T (mkP b ch (if (g && (fit 1 (it 1) && fit 4 (it 4))) = true then dcd F R T j z am rnd day it C J t re else (5, C, J, 0, -1, 0, 0, re)).2.2.2.1 (if (g && (fit 1 (it 1) && fit 4 (it 4))) = true then dcd F R T j z am rnd day it C J t re else (5, C, J, 0, -1, 0, 0, re)).2.2.2.2.1 (if (g && (fit 1 (it 1) && fit 4 (it 4))) = true then dcd F R T j z am rnd day it C J t re else (5, C, J, 0, -1, 0, 0, re)).2.2.2.2.2.1 (if (g && (fit 1 (it 1) && fit 4 (it 4))) = true then dcd F R T j z am rnd day it C J t re else (5, C, J, 0, -1, 0, 0, re)).2.2.2.2.2.2.1 se (if (g && (fit 1 (it 1) && fit 4 (it 4))) = true then dcd F R T j z am rnd day it C J t re else (5, C, J, 0, -1, 0, 0, re)).2.2.2.2.2.2.2) ∧ Fm klS klV S V S' V' := by
  have t1 : am_ld (hs S V) 86 1 1 = some (b2i (fit 1 (it 1))) := (ldN (j := 1) rfl (by decide)).trans (I 1 (by decide)).2.1
  have t4 : am_ld (hs S V) 86 1 4 = some (b2i (fit 4 (it 4))) := (ldN (j := 4) rfl (by decide)).trans (I 4 (by decide)).2.1
  by_cases hc : (g && (fit 1 (it 1) && fit 4 (it 4))) = true
  · simp only [if_pos hc]
    obtain ⟨hg, h1, h4⟩ : g = true ∧ fit 1 (it 1) = true ∧ fit 4 (it 4) = true := by
      cases g <;> cases h1 : fit 1 (it 1) <;> cases h4 : fit 4 (it 4) <;> simp [h1, h4] at hc ⊢
    subst hg
    rw [h1] at t1
    rw [h4] at t4
    have hT : ∀ k, k < 6 → S 71 k = T k := fun k hk => X.2.2.2.2.1 k hk
    have ef := ev_findings (d := d + 2) (S := S) (V := V) (it := it) (T := T) (am := am) (rnd := rnd) (day := day) I hT
    have X1 : CX (uS S 88 2 (fnd T it am rnd day)) V C R F J T (mkP b ch (fnd T it am rnd day) (-1) 0 0 se re) := (X.setP (k := 2) (v := fnd T it am rnd day)).congP mkP_2
    have I1 : IC (uS S 88 2 (fnd T it am rnd day)) V it := I.cong (fun a k h1 h2 => uS_ne (by omega)) (fun a _ _ => rfl)
    have g2 : uS S 88 2 (fnd T it am rnd day) 88 2 = fnd T it am rnd day := uS_self _ _ _ _
    obtain ⟨_, _, j4', r4, _⟩ := I1 4 (by decide)
    have et : ev (d + 5) 47 [.ref 71, .int (fnd T it am rnd day), .ref 82] (hs (uS S 88 2 (fnd T it am rnd day)) V) = some (some (.int (typ T (itv 4 (it 4)) (fnd T it am rnd day))), hs (uS S 88 2 (fnd T it am rnd day)) V) := ev_typeFor (d := d + 4) (T := T) r4 ((uS_ne (by decide)).trans (hT 3 (by decide)))
    have X2 : CX (uS (uS S 88 2 (fnd T it am rnd day)) 88 3 (typ T (itv 4 (it 4)) (fnd T it am rnd day))) V C R F J T (mkP b ch (fnd T it am rnd day) (typ T (itv 4 (it 4)) (fnd T it am rnd day)) 0 0 se re) := (X1.setP (k := 3) (v := typ T (itv 4 (it 4)) (fnd T it am rnd day))).congP mkP_3
    unfold dcd
    generalize hfi : fnd T it am rnd day = fi at ef X1 g2 et X2
    generalize hty : typ T (itv 4 (it 4)) fi = ty at et X2
    have F2 : Fm (fun a _ => a = 88) (fun _ => False) S V (uS (uS S 88 2 fi) 88 3 ty) V := Fm.us (P := fun a _ => a = 88) (a := 88) (k := 3) (Fm.us (P := fun a _ => a = 88) (a := 88) (k := 2) (Fm.refl S V) rfl) rfl
    have K2 : ChC (uS (uS S 88 2 fi) 88 3 ty) V j t := K.fm F2 hj (fun a k z => by omega) (fun a z => z.elim)
    have v2 : uS (uS S 88 2 fi) 88 3 ty 88 2 = fi := by rw [uS_ne (by decide), uS_self]
    have v3 : uS (uS S 88 2 fi) 88 3 ty 88 3 = ty := uS_self _ _ _ _
    have G2 : Fm klS klV S V (uS (uS S 88 2 fi) 88 3 ty) V := F2.mono (fun a k z => by unfold klS; omega) (fun a z => z.elim)
    have p2 : am_put (hs S V) 88 7 2 (.int fi) = some (hs (uS S 88 2 fi) V) := p_88_2
    have p3 : am_put (hs (uS S 88 2 fi) V) 88 7 3 (.int ty) = some (hs (uS (uS S 88 2 fi) 88 3 ty) V) := p_88_3
    generalize uS (uS S 88 2 fi) 88 3 ty = S2 at X2 F2 K2 v2 v3 G2 p3
    obtain ⟨S3, V3, j3, e3, R3, l3, F3⟩ := ev_start (d := d + 4) (S := S2) (V := V) (v := 4) (X2.len (by decide))
    obtain ⟨S4, V4, j4, e4, R4, l4, F4⟩ := rw_addX (v := ty) R3 (by omega)
    obtain ⟨S5, V5, j5, e5, R5, l5, F5⟩ := rw_addIntX (v := am) R4 (by omega)
    obtain ⟨S6, V6, j6, e6, R6, l6, F6⟩ := rw_addIntX (v := rnd) R5 (by omega)
    obtain ⟨S7, V7, j7, e7, R7, l7, F7⟩ := rw_addX (v := fi) R6 (by omega)
    have w3 : S3 88 3 = ty := (F3.1 _ _ (by unfold rwS; omega)).trans v3
    have F36 := ((F3.trans F4).trans F5).trans F6
    have w2 : S6 88 2 = fi := (F36.1 _ _ (by unfold rwS; omega)).trans v2
    have F37 := F36.trans F7
    have X7 : CX S7 V7 C R F J T (mkP b ch fi ty 0 0 se re) := X2.fm (F37.mono (fun a k z => by unfold rwS at z; unfold prS; omega) (fun a z => by unfold rwV at z; unfold prV; omega))
    have K7 : ChC S7 V7 j t := K2.fm F37 hj (fun a k z => by unfold rwS at z; omega) (fun a z => by unfold rwV at z; omega)
    obtain ⟨S8, V8, e8, X8, k8, F8⟩ := ctrans (d := d) (cmd := cmd4 ty am rnd fi) (C1 := (exe C R j (cmd4 ty am rnd fi)).1) (ans := (exe C R j (cmd4 ty am rnd fi)).2) hj X7 K7 ht R7 hC hz hz2 (by show 0 < 11; decide) (by show 11 ≤ 11; decide) (by rw [exe_4]; decide) okc_4 rfl lF L hJ hB
    have e8' : ev (d + 5) 33 [.ref 1, .ref 89, .ref 91] (hs S7 V7) = some (some (.int (b2i (tk F 11 z 7 340 J 0 t 0 5 0 0).1)), hs S8 V8) := e8
    have X8' : CX S8 V8 (cph C (exe C R j (cmd4 ty am rnd fi)).1 (tk F 11 z 7 340 J 0 t 0 5 0 0).2.2.2) R F (tk F 11 z 7 340 J 0 t 0 5 0 0).2.1 T (mkP b ch fi ty 0 0 se re) := X8
    have k8' : (tk F 11 z 7 340 J 0 t 0 5 0 0).1 = true → ChC S8 V8 j (tk F 11 z 7 340 J 0 t 0 5 0 0).2.2.1 ∧ ∃ jg, Rw S8 V8 91 (exe C R j (cmd4 ty am rnd fi)).2 jg := k8
    clear e8 X8 k8
    have G8 : Fm klS klV S V S8 V8 := (G2.trans (F37.mono (fun a k z => by unfold rwS at z; unfold klS; omega) (fun a z => by unfold rwV at z; unfold klV; omega))).trans (trS_kl F8)
    generalize tk F 11 z 7 340 J 0 t 0 5 0 0 = q at e8' X8' k8'
    generalize hx : exe C R j (cmd4 ty am rnd fi) = x at X8' k8'
    obtain ⟨Cx, ax⟩ := x
    obtain ⟨ok, J1, t1', ph⟩ := q
    dsimp only at e8' X8' k8' ⊢
    have pre : ∀ {t' : Option (Option Value × am_H)}, rn (d + 6) 69 151 [some (.ref 0), some (.int am), some (.int rnd), some (.int day)] [.int (b2i ok)] (hs S8 V8) = t' → ev (d + 6) 69 [.ref 0, .int am, .int rnd, .int day] (hs S V) = t' := by
      intro t' ht'
      rw [← ht']
      simp only [e_Tap_settle, x_Tap_settle_0, x_Tap_settle_1, x_Tap_settle_4, x_Tap_settle_7, x_Tap_settle_10, x_Tap_settle_11, x_Tap_settle_14, x_Tap_settle_17, x_Tap_settle_18, x_Tap_settle_19, x_Tap_settle_22, x_Tap_settle_23, x_Tap_settle_26, x_Tap_settle_29, x_Tap_settle_30, x_Tap_settle_31, x_Tap_settle_34, x_Tap_settle_35, x_Tap_settle_36, x_Tap_settle_37, x_Tap_settle_40, x_Tap_settle_41, x_Tap_settle_44, x_Tap_settle_45, x_Tap_settle_48, x_Tap_settle_49, x_Tap_settle_50, x_Tap_settle_51, x_Tap_settle_54, x_Tap_settle_57, x_Tap_settle_58, x_Tap_settle_61, x_Tap_settle_62, x_Tap_settle_65, x_Tap_settle_66, x_Tap_settle_69, x_Tap_settle_72, x_Tap_settle_73, x_Tap_settle_76, x_Tap_settle_79, x_Tap_settle_80, x_Tap_settle_81, x_Tap_settle_84, x_Tap_settle_87, x_Tap_settle_88, x_Tap_settle_89, x_Tap_settle_92, x_Tap_settle_93, x_Tap_settle_96, x_Tap_settle_97, x_Tap_settle_100, x_Tap_settle_103, x_Tap_settle_106, x_Tap_settle_107, x_Tap_settle_110, x_Tap_settle_111, x_Tap_settle_114, x_Tap_settle_115, x_Tap_settle_118, x_Tap_settle_119, x_Tap_settle_122, x_Tap_settle_123, x_Tap_settle_126, x_Tap_settle_127, x_Tap_settle_130, x_Tap_settle_133, x_Tap_settle_136, x_Tap_settle_137, x_Tap_settle_140, x_Tap_settle_141, x_Tap_settle_144, x_Tap_settle_145, x_Tap_settle_148, g_0_2, g_72_2, h2, show b2i true = 1 from rfl, (by decide : ¬ (1 : Int32) = 0), if_false, g_72_1, t1, t4, g_0_3, g_0_1, i_71, ef, p2, g_88_2, g2, g_72_0, q_73_4, et, p3, i_0, e3, g_0_4, g_88_3, w3, i_89, e4, e5, e6, w2, e7, g_0_0, g_0_5, i_1, e8', ac_irii, ac_0, ac_i, ac_r, ac_ii, ac_ir, ac_ri, ac_rr, ac_iii, ac_iir, ac_iri, ac_irr, ac_rii, ac_rir, ac_rri, ac_rrr, Option.bind_some, Option.toList_some, Option.toList_none, List.nil_append, List.cons_append, not_false_eq_true]
    cases ok with
    | false =>
      simp only [Bool.false_eq_true, if_false]
      refine ⟨S8, V8, pre ?_, X8', G8⟩
      simp only [x_Tap_settle_151, x_Tap_settle_154, x_Tap_settle_155, show b2i false = 0 from rfl, if_true]
    | true =>
      simp only [if_true]
      obtain ⟨_, jg, R8⟩ := k8' rfl
      have ep : ev (d + 5) 6 [.ref 91, .int 1] (hs S8 V8) = some (some (.int (pair2 ax 1)), hs S8 V8) := by
        have := ev_pairAt (d := d + 4) (i := nI 1) R8
        rw [nI_1, rAt_n (by decide), rAt_n (by decide)] at this
        exact this
      have X9 : CX (uS S8 88 4 (pair2 ax 1)) V8 (cph C Cx ph) R F J1 T (mkP b ch fi ty (pair2 ax 1) 0 se re) := (X8'.setP (k := 4) (v := pair2 ax 1)).congP mkP_4
      have R9 : Rw (uS S8 88 4 (pair2 ax 1)) V8 91 ax jg := R8.cong (uS_ne (by decide)) rfl
      have ei : ev (d + 5) 7 [.ref 91, .int 3] (hs (uS S8 88 4 (pair2 ax 1)) V8) = some (some (.int (int4 ax 3)), hs (uS S8 88 4 (pair2 ax 1)) V8) := by
        have := ev_intAt (d := d + 4) (i := nI 3) R9
        rw [int4_at (by decide)] at this
        exact this
      have X10 : CX (uS (uS S8 88 4 (pair2 ax 1)) 88 5 (int4 ax 3)) V8 (cph C Cx ph) R F J1 T (mkP b ch fi ty (pair2 ax 1) (int4 ax 3) se re) := (X9.setP (k := 5) (v := int4 ax 3)).congP mkP_5
      have R10 : Rw (uS (uS S8 88 4 (pair2 ax 1)) 88 5 (int4 ax 3)) V8 91 ax jg := R9.cong (uS_ne (by decide)) rfl
      have ea : ∀ d, ev d 5 [.ref 91, .int 0] (hs (uS (uS S8 88 4 (pair2 ax 1)) 88 5 (int4 ax 3)) V8) = some (some (.int (ax.getD 0 0)), hs (uS (uS S8 88 4 (pair2 ax 1)) 88 5 (int4 ax 3)) V8) := fun d => by
        have := ev_at (d := d) (i := nI 0) R10
        rw [rAt_n (by decide)] at this
        exact this
      refine ⟨_, _, pre ?_, X10, (G8.us (by unfold klS; omega)).us (by unfold klS; omega)⟩
      simp only [x_Tap_settle_151, x_Tap_settle_156, x_Tap_settle_157, x_Tap_settle_160, x_Tap_settle_161, x_Tap_settle_164, x_Tap_settle_165, x_Tap_settle_168, x_Tap_settle_171, x_Tap_settle_172, x_Tap_settle_175, x_Tap_settle_176, x_Tap_settle_179, x_Tap_settle_180, x_Tap_settle_183, x_Tap_settle_186, x_Tap_settle_187, x_Tap_settle_190, x_Tap_settle_191, x_Tap_settle_194, show b2i true = 1 from rfl, (by decide : ¬ (1 : Int32) = 0), if_false, g_0_3, g_0_5, i_91, ep, p_88_4, ei, p_88_5, ea, ac_0, ac_i, ac_r, ac_ii, ac_ir, ac_ri, ac_rr, ac_iii, ac_iir, ac_iri, ac_irr, ac_rii, ac_rir, ac_rri, ac_rrr, Option.bind_some, Option.toList_some, Option.toList_none, List.nil_append, List.cons_append, not_false_eq_true]
  · simp only [if_neg hc]
    refine ⟨S, V, ?_, X, Fm.refl _ _⟩
    cases g
    · simp only [e_Tap_settle, x_Tap_settle_0, x_Tap_settle_1, x_Tap_settle_4, x_Tap_settle_7, x_Tap_settle_10, x_Tap_settle_11, x_Tap_settle_14, x_Tap_settle_17, x_Tap_settle_18, x_Tap_settle_19, x_Tap_settle_22, x_Tap_settle_23, x_Tap_settle_26, x_Tap_settle_29, x_Tap_settle_30, x_Tap_settle_31, x_Tap_settle_34, x_Tap_settle_35, g_0_2, g_72_2, h2, show b2i false = 0 from rfl, if_true, ac_0, ac_i, ac_r, ac_ii, ac_ir, ac_ri, ac_rr, ac_iii, ac_iir, ac_iri, ac_irr, ac_rii, ac_rir, ac_rri, ac_rrr, Option.bind_some, Option.toList_some, Option.toList_none, List.nil_append, List.cons_append, not_false_eq_true]
    · cases h1 : fit 1 (it 1)
      · rw [h1] at t1
        simp only [e_Tap_settle, x_Tap_settle_0, x_Tap_settle_1, x_Tap_settle_4, x_Tap_settle_7, x_Tap_settle_10, x_Tap_settle_11, x_Tap_settle_14, x_Tap_settle_17, x_Tap_settle_18, x_Tap_settle_19, x_Tap_settle_22, x_Tap_settle_23, x_Tap_settle_26, x_Tap_settle_29, x_Tap_settle_30, x_Tap_settle_31, x_Tap_settle_34, x_Tap_settle_35, g_0_2, g_72_2, h2, show b2i true = 1 from rfl, show b2i false = 0 from rfl, (by decide : ¬ (1 : Int32) = 0), if_false, if_true, g_72_1, t1, ac_0, ac_i, ac_r, ac_ii, ac_ir, ac_ri, ac_rr, ac_iii, ac_iir, ac_iri, ac_irr, ac_rii, ac_rir, ac_rri, ac_rrr, Option.bind_some, Option.toList_some, Option.toList_none, List.nil_append, List.cons_append, not_false_eq_true]
      · cases h4 : fit 4 (it 4)
        · rw [h1] at t1
          rw [h4] at t4
          simp only [e_Tap_settle, x_Tap_settle_0, x_Tap_settle_1, x_Tap_settle_4, x_Tap_settle_7, x_Tap_settle_10, x_Tap_settle_11, x_Tap_settle_14, x_Tap_settle_17, x_Tap_settle_18, x_Tap_settle_19, x_Tap_settle_22, x_Tap_settle_23, x_Tap_settle_26, x_Tap_settle_29, x_Tap_settle_30, x_Tap_settle_31, x_Tap_settle_34, x_Tap_settle_35, g_0_2, g_72_2, h2, show b2i true = 1 from rfl, show b2i false = 0 from rfl, (by decide : ¬ (1 : Int32) = 0), if_false, if_true, g_72_1, t1, t4, ac_0, ac_i, ac_r, ac_ii, ac_ir, ac_ri, ac_rr, ac_iii, ac_iir, ac_iri, ac_irr, ac_rii, ac_rir, ac_rri, ac_rrr, Option.bind_some, Option.toList_some, Option.toList_none, List.nil_append, List.cons_append, not_false_eq_true]
        · rw [h1, h4] at hc; exact absurd rfl hc
end CREAD
