/-! the law's loop, and the law from its entry -/
theorem lw_sub6 {i L : Nat} (hL : L ≤ 3072) (hi : i ≤ 4000) (h : ¬ nI i > Int32.ofNat L - 6) : i + 6 ≤ L := by
  apply Nat.le_of_not_lt
  intro hlt
  apply h
  show Int32.ofNat L - 6 < nI i
  by_cases h6 : 6 ≤ L
  · obtain ⟨k, rfl⟩ : ∃ k, L = k + 6 := ⟨L - 6, by omega⟩
    have e : Int32.ofNat (k + 6) - 6 = nI k := by
      show nI (k + 6) - 6 = nI k
      rw [← nI_add k 6]
      show nI k + 6 - 6 = nI k
      rw [Int32.add_sub_cancel]
    rw [e]
    exact nI_lt (by omega) (by omega)
  · have hn : (0 : Int32) ≤ nI i := by
      have := nI_le (a := 0) (b := i) (by omega) (by omega)
      exact this
    have hz : Int32.ofNat L - 6 < 0 := by
      have hlt : L < 6 := by omega
      exact (by decide : ∀ L, L < 6 → Int32.ofNat L - 6 < 0) L hlt
    exact Int32.lt_of_lt_of_le hz hn
section LWL
variable {p : Program} {l : Launch} {e : Env} {s : State} {m : MethodId} {below : List Frame} {meth : Method} {c : Code} {b L : Nat} {xs : Nat → Int32} {D : va_G} {tc : Nat → ClassId}
theorem lw_round {i : Nat} {S : st_S} {V : st_V} {H : Heap} {locs : List Loc} {ls : Array Slot} (C0 : lw_At p s m meth c b L xs) (hK : am_Kn D tc s) (hL : L ≤ 3072) (hi : i ≤ 4000) (I : Inv S V) (hH : lw_H D tc s (hs S V) H locs) (hl : lv_has ls 4 [(0, .ref b), (1, .ref (s.heap.size + 0)), (2, .ref (s.heap.size + 93)), (3, .int (nI i))])
    (K : i + 6 ≤ L → ∀ (S' : st_S) (V' : st_V) (H' : Heap) (locs' : List Loc) (ls' : Array Slot), Inv S' V' → lw_H D tc s (hs S' V') H' locs' → lv_has ls' 4 [(0, .ref b), (1, .ref (s.heap.size + 0)), (2, .ref (s.heap.size + 93)), (3, .int (nI (i + 6)))] → W p l e room_1 s m #[Value.ref b] below meth c H' locs' 121 2508 (lw_Z below #[Value.ref b] s) (F0 m 18 ls' [])) :
    W p l e room_1 s m #[Value.ref b] below meth c H locs 121 2508 (lw_Z below #[Value.ref b] s) (F0 m 18 ls []) := by
  obtain ⟨hx, hb, hr, hml, hown, hts, hX, hbl, hlocks, hgv⟩ := id C0
  have hbA : ¬ (fun q : Nat => s.heap.size ≤ q) b := Nat.not_le.mpr hbl
  refine lv_iload_n hx hb d_law_18 rfl (lv_at hl 3 rfl) ?_
  refine lv_aload_n hx hb d_law_19 rfl (lv_at hl 0 rfl) ?_
  refine va_slen hx hb hX hbl hbA hH.S d_law_20 ?_
  refine lv_bipush (v := 6) hx hb d_law_21 (by decide) ?_
  refine lv_isub hx hb d_law_23 ?_
  refine lv_icmp_gt (tgt := 630) hx hb d_law_24 (by decide) (fun z => ?_) (fun z => ?_)
  · refine lv_iconst (v := 1) hx hb d_law_630 (by decide) ?_
    refine va_forget (fun q hq => hH.2.2 q hq) ?_
    refine W.widen (k := 600000) (n := 7302250) (by decide) (by decide) ?_
    exact lw_ret hx hb hr hlocks d_law_631
  · have h6 := lw_sub6 hL hi z
    refine lv_aload_n hx hb d_law_27 rfl (lv_at hl 0 rfl) ?_
    refine lv_iload_n hx hb d_law_28 rfl (lv_at hl 3 rfl) ?_
    refine va_sld hx hb hX hbl hbA hH.S (vp_in_nI (by omega) (by omega)) d_law_29 ?_
    refine lv_bipush (v := 15) hx hb d_law_30 (by decide) ?_
    refine lv_iand hx hb d_law_32 ?_
    have kk : ∀ (S' : st_S) (V' : st_V) (H' : Heap) (locs' : List Loc), Inv S' V' → lw_H D tc s (hs S' V') H' locs' → W p l e room_1 s m #[Value.ref b] below meth c H' locs' 121 2508 (lw_Z below #[Value.ref b] s) (F0 m 624 ls []) := by
      intro S' V' H' locs' I' hH'
      refine lv_iinc (v := nI (i + 6)) (lv' := [(3, .int (nI (i + 6))), (0, .ref b), (1, .ref (s.heap.size + 0)), (2, .ref (s.heap.size + 93))]) hx hb d_law_624 hl (k := 3) rfl (nI_add i 6) (by decide) rfl (fun ls' hl' => ?_)
      refine lv_goto (tgt := 18) hx hb d_law_627 (by decide) ?_
      exact K h6 S' V' H' locs' ls' I' hH' (lv_sub hl' [1, 2, 3, 0] rfl)
    obtain ⟨k, hk, ek⟩ := pk_andE (xs (nI i).toNatClampNeg) (m := 15) 4 (by decide)
    rw [ek]
    have hk : k < 16 := hk
    clear ek z
    match k, hk with
    | 0, _ => exact lv_tableIn (off := 63) (tgt := 96) hx hb d_law_33 (by decide) (by decide) (by decide) (by decide) (lw_case_0 C0 hK I hH hl hL h6 kk)
    | 1, _ => exact lv_tableIn (off := 126) (tgt := 159) hx hb d_law_33 (by decide) (by decide) (by decide) (by decide) (lw_case_1 C0 hK I hH hl hL h6 kk)
    | 2, _ => exact lv_tableIn (off := 169) (tgt := 202) hx hb d_law_33 (by decide) (by decide) (by decide) (by decide) (lw_case_2 C0 hK I hH hl hL h6 kk)
    | 3, _ => exact lv_tableIn (off := 212) (tgt := 245) hx hb d_law_33 (by decide) (by decide) (by decide) (by decide) (lw_case_3 C0 hK I hH hl hL h6 kk)
    | 4, _ => exact lv_tableIn (off := 261) (tgt := 294) hx hb d_law_33 (by decide) (by decide) (by decide) (by decide) (lw_case_4 C0 hK I hH hl hL h6 kk)
    | 5, _ => exact lv_tableIn (off := 340) (tgt := 373) hx hb d_law_33 (by decide) (by decide) (by decide) (by decide) (lw_case_5 C0 hK I hH hl hL h6 kk)
    | 6, _ => exact lv_tableIn (off := 363) (tgt := 396) hx hb d_law_33 (by decide) (by decide) (by decide) (by decide) (lw_case_6 C0 hK I hH hl hL h6 kk)
    | 7, _ => exact lv_tableIn (off := 396) (tgt := 429) hx hb d_law_33 (by decide) (by decide) (by decide) (by decide) (lw_case_7 C0 hK I hH hl hL h6 kk)
    | 8, _ => exact lv_tableIn (off := 439) (tgt := 472) hx hb d_law_33 (by decide) (by decide) (by decide) (by decide) (lw_case_8 C0 hK I hH hl hL h6 kk)
    | 9, _ => exact lv_tableIn (off := 462) (tgt := 495) hx hb d_law_33 (by decide) (by decide) (by decide) (by decide) (lw_case_9 C0 hK I hH hl hL h6 kk)
    | 10, _ => exact lv_tableIn (off := 495) (tgt := 528) hx hb d_law_33 (by decide) (by decide) (by decide) (by decide) (lw_case_10 C0 hK I hH hl hL h6 kk)
    | 11, _ => exact lv_tableIn (off := 528) (tgt := 561) hx hb d_law_33 (by decide) (by decide) (by decide) (by decide) (lw_case_11 C0 hK I hH hl hL h6 kk)
    | 12, _ => exact lv_tableOut (tgt := 624) hx hb d_law_33 (Or.inr (by decide)) (by decide) (kk S V H locs I hH)
    | 13, _ => exact lv_tableOut (tgt := 624) hx hb d_law_33 (Or.inr (by decide)) (by decide) (kk S V H locs I hH)
    | 14, _ => exact lv_tableOut (tgt := 624) hx hb d_law_33 (Or.inr (by decide)) (by decide) (kk S V H locs I hH)
    | 15, _ => exact lv_tableOut (tgt := 624) hx hb d_law_33 (Or.inr (by decide)) (by decide) (kk S V H locs I hH)
    | k + 16, hk => exact absurd hk (by omega)
theorem lw_loop (C0 : lw_At p s m meth c b L xs) (hK : am_Kn D tc s) (hL : L ≤ 3072) : ∀ (n i : Nat) (S : st_S) (V : st_V) (H : Heap) (locs : List Loc) (ls : Array Slot), L + 1 ≤ i + n → i ≤ L + 6 → Inv S V → lw_H D tc s (hs S V) H locs → lv_has ls 4 [(0, .ref b), (1, .ref (s.heap.size + 0)), (2, .ref (s.heap.size + 93)), (3, .int (nI i))] → W p l e room_1 s m #[Value.ref b] below meth c H locs 121 2508 (lw_Z below #[Value.ref b] s) (F0 m 18 ls []) := by
  intro n
  induction n with
  | zero =>
    intro i S V H locs ls hn hi I hH hl
    exact lw_round C0 hK hL (by omega) I hH hl (fun h6 => absurd h6 (by omega))
  | succ n ih =>
    intro i S V H locs ls hn hi I hH hl
    exact lw_round C0 hK hL (by omega) I hH hl (fun h6 S' V' H' locs' ls' I' hH' hl' => ih (i + 6) S' V' H' locs' ls' (by omega) (by omega) I' hH' hl')
end LWL
theorem whole_start {p : Program} {e : Env} {s : State} {m : MethodId} {below : List Frame} {meth : Method} {c : Code} (l : Launch) {b L : Nat} {xs : Nat → Int32} (hL : L ≤ 3072) (C0 : lw_At p s m meth c b L xs) : W p l e room_1 s m #[Value.ref b] below meth c s.heap [] 0 0 (lw_Z below #[Value.ref b] s) (entryFrame m ([Value.ref b] : List Value).toArray 4) := by
  obtain ⟨hx, hb, hr, hml, hown, hts, hX, hbl, hlocks, hgv⟩ := id C0
  obtain ⟨D, tc, hK⟩ := lw_Kn hts
  have hl := lv_entry ([.ref b]) (n := 4) (Nat.le_of_ble_eq_true rfl)
  rw [lg_entry_eq]
  generalize (lg_sl ([.ref b]) ++ List.replicate (4 - (lg_sl ([.ref b])).length) Slot.unset).toArray = ls at hl ⊢
  have hl : lv_has ls 4 [(0, .ref b)] := hl
  have hH0 : lw_H D tc s (0, 0, fun _ => none) s.heap [] := ⟨⟨rfl, fun k x h => by cases h⟩, fun q _ => rfl, fun x hx => by cases hx⟩
  refine lw_new (ci := 8) (N := 6) (C0 := C0) (hK := hK) (hH := hH0) cp_Tap.1 cp_Tap.2.1 cp_Tap.2.2.1 lwc_0 lwn_8 kw_1_1 (by decide +kernel) rfl (by decide +kernel) (by decide) (by decide) d_law_0 (fun H1 hH1 => ?_)
  refine lv_dup hx hb d_law_3 rfl ?_
  obtain ⟨G1, g1, g2, g3, g4⟩ := ev_made1
  refine lw_make (a := 0) (q := q_Tap_init) (h := h0) (h' := G1) C0 hK hH1 rfl g1 rfl (by decide +kernel) rfl rfl lwl_4 lwm_4 rfl (by rw [g2]; decide) (by rw [g3]; decide) (by show 1 ≤ 8; decide) hl.1 d_law_4 (fun H2 locs2 hH2 => ?_)
  have hH2 : lw_H D tc s hT H2 locs2 := hH2.weak (by rw [g2]; rfl) g4
  rw [g2, g3]
  refine lv_astore_n (lv' := [(1, .ref (s.heap.size + 0)), (0, .ref b)]) hx hb d_law_7 rfl hl (by decide) rfl (fun ls hl => ?_)
  refine lw_new (ci := 9) (N := 54) (C0 := C0) (hK := hK) (hH := hH2) cp_Mod.1 cp_Mod.2.1 cp_Mod.2.2.1 lwc_8 lwn_9 kw_1_10 (by decide +kernel) rfl (by decide +kernel) (by decide) (by decide) d_law_8 (fun H3 hH3 => ?_)
  refine lv_dup hx hb d_law_11 rfl ?_
  obtain ⟨G2, k1, k2, k3, k4⟩ := ev_made2
  refine lw_make (a := 93) (q := q_Mod_init) (h := hN) (h' := G2) C0 hK hH3 rfl k1 rfl (by decide +kernel) rfl rfl lwl_12 lwm_12 rfl (by rw [k2]; decide) (by rw [k3]; decide) (by show 1 ≤ 8; decide) hl.1 d_law_12 (fun H4 locs4 hH4 => ?_)
  have hH4 : lw_H D tc s (hs S0 V0) H4 locs4 := hH4.weak (by rw [k2]; rfl) k4
  rw [k2, k3]
  refine lv_astore_n (lv' := [(2, .ref (s.heap.size + 93)), (1, .ref (s.heap.size + 0)), (0, .ref b)]) hx hb d_law_15 rfl hl (by decide) rfl (fun ls hl => ?_)
  refine lv_iconst (v := 0) hx hb d_law_16 (by decide) ?_
  refine lv_istore_n (lv' := [(3, .int 0), (2, .ref (s.heap.size + 93)), (1, .ref (s.heap.size + 0)), (0, .ref b)]) hx hb d_law_17 rfl hl (by decide) rfl (fun ls hl => ?_)
  refine W.widen (k := 121) (n := 2508) (by decide) (by decide) ?_
  exact lw_loop C0 hK hL (L + 1) 0 S0 V0 H4 locs4 ls (by omega) (by omega) inv_0 hH4 (lv_sub hl [3, 2, 1, 0] rfl)
