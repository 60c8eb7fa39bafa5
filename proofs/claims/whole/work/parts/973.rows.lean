/-! the law's own rows: the classes as the tables have them; an argument out of the script; a call -/
theorem lw_kw {b : Nat} {s : State} (hts : ∀ w ∈ lw_tbl, w.before #[Value.ref b] s = true) : ∀ w ∈ am_kw, w.before #[Value.ref b] s = true := fun w hw => hts w (List.mem_filter.mp hw).1
theorem lw_cls : ∀ (k : Nat) (q : vw_C), classes[k]? = some q → (∀ w ∈ u_ws q.1 q.2.1 q.2.2, w ∈ am_kw) ∧ Jvm.Cond.instantiable q.1 q.2.2 ∈ am_kw := by
  intro k q hq
  match k, hq with
  | 0, hq => cases hq; exact ⟨cp_Row.2.1, lwn_0⟩
  | 1, hq => cases hq; exact ⟨cp_Block.2.1, lwn_1⟩
  | 2, hq => cases hq; exact ⟨cp_Card.2.1, lwn_2⟩
  | 3, hq => cases hq; exact ⟨cp_Journal.2.1, lwn_3⟩
  | 4, hq => cases hq; exact ⟨cp_Air.2.1, lwn_4⟩
  | 5, hq => cases hq; exact ⟨cp_Items.2.1, lwn_5⟩
  | 6, hq => cases hq; exact ⟨cp_Settings.2.1, lwn_6⟩
  | 7, hq => cases hq; exact ⟨cp_Report.2.1, lwn_7⟩
  | 8, hq => cases hq; exact ⟨cp_Tap.2.1, lwn_8⟩
  | 9, hq => cases hq; exact ⟨cp_Mod.2.1, lwn_9⟩
  | k + 10, hq => simp [classes] at hq
theorem lw_arrC {b : Nat} {s : State} {ty : FieldType} (h : (Jvm.Cond.arrayClass ty).before #[Value.ref b] s = true) : ∃ cA : ClassId, ArrOfT s cA ty ∧ s.vm.findClass ("[" ++ ty.toString) = some cA := by
  obtain ⟨cA, k, comp, h1, h2, h3⟩ := Cond.arrayClass_spec h
  exact ⟨cA, fun n z => ⟨fun k h => (by cases h), k, h2, comp, h3⟩, h1⟩
theorem lw_arrO {b : Nat} {s : State} {C : String} (h : (Jvm.Cond.arrayOver (.object C)).before #[Value.ref b] s = true) : ∃ cA : ClassId, ArrOfT s cA (.object C) ∧ va_RA s cA (.object C) := by
  obtain ⟨comp, cA, k, h1, h2, h3, h4, h5⟩ := Cond.arrayOver_spec h
  exact ⟨cA, fun n z => ⟨fun k h => (by cases h), k, h3, comp, h4⟩, k, comp, h3, h4, h1, h5⟩
theorem lw_Kn {b : Nat} {s : State} (hts : ∀ w ∈ lw_tbl, w.before #[Value.ref b] s = true) : ∃ (D : va_G) (tc : Nat → ClassId), am_Kn D tc s := by
  have htk := lw_kw hts
  have hc : ∀ k : Nat, ∃ (cC : ClassId) (iS : Nat → Nat), ∀ q : vw_C, classes[k]? = some q → u_Kn s q.1 q.2.1 q.2.2 cC iS := by
    intro k
    cases hk : classes[k]? with
    | none => exact ⟨0, fun _ => 0, fun q hq => by cases hq⟩
    | some q =>
      obtain ⟨h1, h2⟩ := lw_cls k q hk
      obtain ⟨cC, iS, h⟩ := u_known (C := q.1) (T := q.2.1) (N := q.2.2) (n := q.2.2) htk h1 (htk _ h2)
      exact ⟨cC, iS, fun q' hq' => by cases hq'; exact h⟩
  have ht : ∀ t : Nat, ∃ cA : ClassId, ∀ ty : FieldType, am_ats[t]? = some ty → ArrOfT s cA ty ∧ va_RA s cA ty := by
    intro t
    match t with
    | 0 =>
      obtain ⟨cA, h1, h2⟩ := lw_arrC (htk _ kw_1_53)
      exact ⟨cA, fun ty h => by cases h; exact ⟨h1, h2⟩⟩
    | 1 =>
      obtain ⟨cA, h1, h2⟩ := lw_arrC (htk _ kw_1_183)
      exact ⟨cA, fun ty h => by cases h; exact ⟨h1, h2⟩⟩
    | 2 =>
      obtain ⟨cA, h1, h2⟩ := lw_arrO (hts _ ao_Row)
      exact ⟨cA, fun ty h => by cases h; exact ⟨h1, h2⟩⟩
    | 3 =>
      obtain ⟨cA, h1, h2⟩ := lw_arrO (hts _ ao_Card)
      exact ⟨cA, fun ty h => by cases h; exact ⟨h1, h2⟩⟩
    | t + 4 => exact ⟨0, fun ty h => by simp [am_ats] at h⟩
  refine ⟨(fun k => Classical.choose (hc k), fun k => Classical.choose (Classical.choose_spec (hc k))), fun t => Classical.choose (ht t), ⟨fun k q hq => Classical.choose_spec (Classical.choose_spec (hc k)) q hq, fun k q h => by simp at h⟩, fun t ty h => Classical.choose_spec (ht t) ty h, fun w hw => va_Nw.of ((by decide +kernel : ∀ w ∈ am_nest, w.onTables = true) w hw) (hts w (am_nest_in w hw)), fun C hC => ?_⟩
  have hC : C ∈ ["TapTerminal$Row", "TapTerminal$Card"] := hC
  simp only [List.mem_cons, List.not_mem_nil, or_false] at hC
  rcases hC with rfl | rfl
  · exact va_AO.of (hts _ ao_Row)
  · exact va_AO.of (hts _ ao_Card)
/-- the heap of the law's run: the small machine's heap from the first new address on, nothing old has changed -/
def lw_H (D : va_G) (tc : Nat → ClassId) (s : State) (h : am_H) (H : Heap) (locs : List Loc) : Prop := am_R D tc s.heap.size h H ∧ (∀ q, q < s.heap.size → H[q]? = s.heap[q]?) ∧ ∀ x ∈ locs, s.heap.size ≤ x.base
theorem lw_H.S {D : va_G} {tc : Nat → ClassId} {s : State} {h : am_H} {H : Heap} {locs : List Loc} (hH : lw_H D tc s h H locs) : va_S (fun q : Nat => s.heap.size ≤ q) s.heap H locs := ⟨by rw [hH.1.1]; exact Nat.le_add_right _ _, fun q hq _ => hH.2.1 q hq, hH.2.2⟩
section LWR
variable {p : Program} {l : Launch} {e : Env} {s : State} {m : MethodId} {below : List Frame} {meth : Method} {c : Code} {b L : Nat} {xs : Nat → Int32} {D : va_G} {tc : Nat → ClassId} {h h' : am_H} {H : Heap} {locs : List Loc} {cells slots : Nat} {Q : State → Prop} {pc : Nat} {ls : Array Slot} {st rest : List Value}
theorem lw_arg {i k : Nat} {lv : List (Nat × Value)} (C0 : lw_At p s m meth c b L xs) (hH : lw_H D tc s h H locs) (hl : lv_has ls 4 [(0, .ref b), (1, .ref (s.heap.size + 0)), (2, .ref (s.heap.size + 93)), (3, .int (nI i))]) (hL : L ≤ 3072) (hi : i + k < L) (d0 : decode code pc = .ok (.aload_n 0, 1)) (d1 : decode code (pc + 1) = .ok (.iload_n 3, 1)) (d2 : decode code (pc + 2) = .ok (.iconst (k : Int), 1)) (d3 : decode code (pc + 3) = .ok (.iadd, 1)) (d4 : decode code (pc + 4) = .ok (.iaload, 1))
    (kk : W p l e room_1 s m #[Value.ref b] below meth c H locs cells slots Q (F0 m (pc + 5) ls (.int (xs (i + k)) :: st))) : W p l e room_1 s m #[Value.ref b] below meth c H locs cells slots Q (F0 m pc ls st) := by
  obtain ⟨hx, hb, hr, hml, hown, hts, hX, hbl, hlocks, hgv⟩ := C0
  have hbA : ¬ (fun q : Nat => s.heap.size ≤ q) b := Nat.not_le.mpr hbl
  refine lv_aload_n hx hb d0 rfl (lv_at hl 0 rfl) ?_
  refine lv_iload_n hx hb d1 rfl (lv_at hl 3 rfl) ?_
  refine lv_iconst (v := nI k) hx hb d2 (by rfl) ?_
  refine lv_iadd hx hb d3 ?_
  have e1 : nI i + nI k = nI (i + k) := nI_add i k
  rw [e1]
  refine va_sld hx hb hX hbl hbA hH.S (vp_in_nI hi (by omega)) d4 ?_
  rw [nI_clamp (by omega)]
  exact kk
def nzb (x : Int32) : Int32 := if x = 0 then 0 else 1
theorem nzb_01 (x : Int32) : B01 (nzb x) := by
  unfold nzb
  split
  · exact Or.inl rfl
  · exact Or.inr rfl
theorem lw_bool {x : Int32} (C0 : lw_At p s m meth c b L xs) (d0 : decode code pc = .ok (.ifCond .eq 7, 3)) (d1 : decode code (pc + 3) = .ok (.iconst 1, 1)) (d2 : decode code (pc + 4) = .ok (.goto 4, 3)) (d3 : decode code (pc + 7) = .ok (.iconst 0, 1))
    (kk : W p l e room_1 s m #[Value.ref b] below meth c H locs cells slots Q (F0 m (pc + 8) ls (.int (nzb x) :: st))) : W p l e room_1 s m #[Value.ref b] below meth c H locs cells slots Q (F0 m pc ls (.int x :: st)) := by
  obtain ⟨hx, hb, hr, hml, hown, hts, hX, hbl, hlocks, hgv⟩ := C0
  refine lv_if_eq (tgt := pc + 7) hx hb d0 (by omega) (fun z => ?_) (fun z => ?_)
  · refine lv_iconst (v := 0) hx hb d3 (by decide) ?_
    have e1 : nzb x = 0 := if_pos z
    rw [e1] at kk
    exact kk
  · refine lv_iconst (v := 1) hx hb d1 (by decide) ?_
    refine lv_goto (tgt := pc + 8) hx hb d2 (by omega) ?_
    have e1 : nzb x = 1 := if_neg z
    rw [e1] at kk
    exact kk
theorem lw_call {y d idx a : Nat} {q : am_M} {as : List Value} {r : Int32} {lv : List (Nat × Value)} (C0 : lw_At p s m meth c b L xs) (hK : am_Kn D tc s) (hH : lw_H D tc s h H locs) (hq : am_ms[y]? = some q) (hrun : ev d y (.ref a :: as) h = some (some (.int r), h')) (hg : am_g y (as.length + 1) (.ref a :: as) [] = true) (hrc : am_rc h a y = true) (hpn : (parseMethodDescriptor q.1.desc).map (fun d => d.parameters.length) = some as.length)
    (w1 : Jvm.Cond.methodLink R_law idx q.1 ∈ am_kw) (w2 : Jvm.Cond.instanceMethod q.1 ∈ am_kw) (w3 : Jvm.Cond.selects q.1.cls q.1 q.1 ∈ am_kw) (hd : d = 40) (hc1 : h'.1 = h.1) (hc2 : h'.2.1 = h.2.1) (hcl : cells ≤ 600000) (hsl : slots ≤ 7302250) (hr8 : (rest.map fun v => v.category).sum ≤ 8) (hsz : ls.size = 4) (hst : st = (as.map (am_u s.heap.size)).reverse ++ .ref (s.heap.size + a) :: rest) (hdg : decode code pc = .ok (.invokevirtual idx, 3))
    (kk : ∀ (H' : Heap) (locs' : List Loc), lw_H D tc s h' H' locs' → W p l e room_1 s m #[Value.ref b] below meth c H' locs' cells slots Q (F0 m (pc + 3) ls (.int r :: rest))) : W p l e room_1 s m #[Value.ref b] below meth c H locs cells slots Q (F0 m pc ls st) := by
  subst hd
  obtain ⟨hx, hb, hr, hml, hown, hts, hX, hbl, hlocks, hgv⟩ := C0
  have htk := lw_kw hts
  obtain ⟨hcn, hcode, hini, hmh, hvh, hpl, hit, hmx⟩ := am_ms_ok y q hq
  obtain ⟨g1, g2, g3, g4⟩ := am_g_sp hq hg
  have hM := am_sound l D tc s.heap.size hq hrun g1 g2
  have mc0 : h'.1 - h.1 = 0 := by omega
  have ms0 : h'.2.1 - h.2.1 = 0 := by omega
  rw [mc0, ms0] at hM
  have hpre : ∀ U : State, U.heap = H → s.WarmedH U.vm → va_Pc ((Value.ref a :: as).map (am_u s.heap.size)) (am_Pr D tc s.heap.size h) ((Value.ref a :: as).map (am_u s.heap.size)).toArray U := fun U hU hW => ⟨rfl, by rw [hU]; exact hH.1, am_Kn.moved hW hK⟩
  have hcell : ∃ cellB : Cell, H[s.heap.size + a]? = some cellB ∧ cellB.vm.isStatics = false ∧ s.vm.findClass q.1.cls = some cellB.cls := by
    unfold am_rc at hrc
    split at hrc
    · rename_i o ho
      rw [hq] at hrc
      dsimp only at hrc
      have ho1 : o.1 = q.2.2.2.2.1 := of_decide_eq_true hrc
      obtain ⟨rr, z1, cell, z2, z3, z4, -⟩ := hH.1.2 a _ ho
      refine ⟨cell, z2, by rw [z4]; rfl, ?_⟩
      have z5 := (hK.1.1 o.1 rr z1).2.1
      rw [am_cls_ok o.1 rr z1, ho1, hcn] at z5
      rw [z3]
      show _ = some (D.1 o.1)
      rw [ho1]; exact z5
    · cases hrc
  have hsig : ∀ sig, parseMethodDescriptor q.1.desc = some sig → as.length = sig.parameters.length := fun sig h => by
    rw [h] at hpn; exact (Option.some.inj hpn).symm
  have hrm : (am_rm 40 0 0).frames + 1 ≤ room_1.frames ∧ 8 + (q.2.2.1 + 11) + (am_rm 40 0 0).locals ≤ room_1.locals := ⟨by decide, by show 8 + (q.2.2.1 + 11) + 60 * 41 ≤ 84000; omega⟩
  have run := va_runV (p := p) (e := e) (R := room_1) (below := below) (meth := meth) (H := H) (locs := locs) (cells := cells) (slots := slots) (bytes := q.2.1) (maxL := q.2.2.1) (nL := 4) (ret := q.2.2.2.1) (C := q.1.cls) (own := R_law) (n := as.length) (b := s.heap.size + a) (As := as.map (am_u s.heap.size)) (rest := rest) (g := F0 m pc ls st) ⟨hx, hb, hml, hown, hts⟩ hM ⟨⟨rfl, rfl, hrm.1, hrm.2, am_pay htk hcode, List.mem_cons_self, htk _ hcode, htk _ hini, ⟨hmh, hvh⟩, hsig, htk _ w1⟩, htk _ w2, htk _ w3⟩ ⟨am_blind, hcell, hpre⟩ rfl (List.length_map _) hsz hst (lv_room hr8) hdg ⟨hcl, hsl⟩
  refine am_w_call run (fun v st₀ t T' L h0 h1 hL hq => ?_)
  obtain ⟨o1, o2, o3⟩ := hq
  cases o1
  exact kk T'.heap (locs ++ L) ⟨by rw [h1]; exact o2.1, fun x hx => by rw [h1, o3 x hx, h0]; exact hH.2.1 x hx, fun x hx => (List.mem_append.mp hx).elim (hH.2.2 x) (hL x)⟩
theorem lw_make {y d idx a : Nat} {q : am_M} (C0 : lw_At p s m meth c b L xs) (hK : am_Kn D tc s) (hH : lw_H D tc s h H locs) (hq : am_ms[y]? = some q) (hrun : ev d y [.ref a] h = some (none, h')) (hg : am_g y 1 [.ref a] [] = true) (hpn : (parseMethodDescriptor q.1.desc).map (fun d => d.parameters.length) = some 0) (hnm : q.1.name = "<init>") (hrt : q.2.2.2.1 = none)
    (w1 : Jvm.Cond.methodLink R_law idx q.1 ∈ am_kw) (w2 : Jvm.Cond.instanceMethod q.1 ∈ am_kw) (hd : d = 20) (hcl : cells + (h'.1 - h.1) ≤ 600000) (hsl : slots + (h'.2.1 - h.2.1) ≤ 7302250) (hr8 : (rest.map fun v => v.category).sum ≤ 8) (hsz : ls.size = 4) (hdg : decode code pc = .ok (.invokespecial idx, 3))
    (kk : ∀ (H' : Heap) (locs' : List Loc), lw_H D tc s h' H' locs' → W p l e room_1 s m #[Value.ref b] below meth c H' locs' (cells + (h'.1 - h.1)) (slots + (h'.2.1 - h.2.1)) Q (F0 m (pc + 3) ls rest)) : W p l e room_1 s m #[Value.ref b] below meth c H locs cells slots Q (F0 m pc ls (.ref (s.heap.size + a) :: rest)) := by
  subst hd
  obtain ⟨hx, hb, hr, hml, hown, hts, hX, hbl, hlocks, hgv⟩ := C0
  have htk := lw_kw hts
  obtain ⟨hcn, hcode, hini, hmh, hvh, hpl, hit, hmx⟩ := am_ms_ok y q hq
  obtain ⟨g1, g2, g3, g4⟩ := am_g_sp hq hg
  have hM := am_sound l D tc s.heap.size hq hrun g1 g2
  have hpre : ∀ U : State, U.heap = H → s.WarmedH U.vm → va_Pc ([Value.ref a].map (am_u s.heap.size)) (am_Pr D tc s.heap.size h) ([Value.ref a].map (am_u s.heap.size)).toArray U := fun U hU hW => ⟨rfl, by rw [hU]; exact hH.1, am_Kn.moved hW hK⟩
  have hsig : ∀ sig, parseMethodDescriptor q.1.desc = some sig → 0 = sig.parameters.length := fun sig h => by
    rw [h] at hpn; exact (Option.some.inj hpn).symm
  have hrm : (am_rm 20 (h'.1 - h.1) (h'.2.1 - h.2.1)).frames + 1 ≤ room_1.frames ∧ 8 + (q.2.2.1 + 11) + (am_rm 20 (h'.1 - h.1) (h'.2.1 - h.2.1)).locals ≤ room_1.locals := ⟨by show 21 + 1 ≤ 2048; decide, by show 8 + (q.2.2.1 + 11) + 60 * 21 ≤ 84000; omega⟩
  have hpay := am_pay (q := q) htk hcode
  have hcode' := hcode
  rw [hrt] at hcode'
  have run := va_runI (p := p) (e := e) (R := room_1) (below := below) (meth := meth) (H := H) (locs := locs) (cells := cells) (slots := slots) (bytes := q.2.1) (maxL := q.2.2.1) (nL := 4) (own := R_law) (n := 0) (b := s.heap.size + a) (As := []) (rest := rest) (g := F0 m pc ls (.ref (s.heap.size + a) :: rest)) ⟨hx, hb, hml, hown, hts⟩ hM ⟨⟨rfl, rfl, hrm.1, hrm.2, hpay, by rw [← hrt]; exact List.mem_cons_self, htk _ hcode', htk _ hini, ⟨hmh, hvh⟩, hsig, htk _ w1⟩, hnm, htk _ w2⟩ ⟨am_blind, hpre⟩ rfl rfl hsz rfl (lv_room hr8) hdg ⟨hcl, hsl⟩
  refine am_w_call run (fun v st₀ t T' L h0 h1 hL hq => ?_)
  obtain ⟨o1, o2, o3⟩ := hq
  cases o1
  exact kk T'.heap (locs ++ L) ⟨by rw [h1]; exact o2.1, fun x hx => by rw [h1, o3 x hx, h0]; exact hH.2.1 x hx, fun x hx => (List.mem_append.mp hx).elim (hH.2.2 x) (hL x)⟩
theorem lw_new {idx ci N : Nat} {C : String} {T : u_T} {t0 : Nat → FieldType} (C0 : lw_At p s m meth c b L xs) (hK : am_Kn D tc s) (hH : lw_H D tc s h H locs) (hc : classes[ci]? = some (C, T, N)) (hin : ∀ w ∈ u_ws C T N, w ∈ am_kw) (hty : ∀ k, k < N → parseFieldDescriptor (T k).2.2.1 = some (t0 k)) (hlink : Jvm.Cond.classLink R_law idx C ∈ am_kw) (hinst : Jvm.Cond.instantiable C N ∈ am_kw) (hini : Jvm.Cond.initialized C ∈ am_kw) (hdf : ∀ j, j < N → defaultValue (t0 j) = vp_V (am_df ci) j) (hN : (am_df ci).length = N) (hmap : ∀ v ∈ am_df ci, v = .int 0 ∨ v = .null) (hcl : cells + 1 ≤ 600000) (hsl : slots + N ≤ 7302250) (hdg : decode code pc = .ok (.new idx, 3))
    (kk : ∀ H1 : Heap, lw_H D tc s (am_new h (.inl (ci, am_df ci)) (am_df ci).length) H1 locs → W p l e room_1 s m #[Value.ref b] below meth c H1 locs (cells + 1) (slots + N) Q (F0 m (pc + 3) ls (.ref (s.heap.size + h.1) :: st))) : W p l e room_1 s m #[Value.ref b] below meth c H locs cells slots Q (F0 m pc ls st) := by
  obtain ⟨hx, hb, hr, hml, hown, hts, hX, hbl, hlocks, hgv⟩ := C0
  have htk := lw_kw hts
  have hKn := hK.1.1 ci _ hc
  refine W.newcK hx hb hown (htk _ hlink) (htk _ hinst) (htk _ hini) rfl hdg hcl hsl hKn.2.1 hH.1.1 fun H1 kC hkC e1 z1 o1 => ?_
  refine kk H1 ⟨am_R.push _ hH.1 z1 ?_ o1, fun x hx => (o1 x (by omega)).trans (hH.2.1 x hx), hH.2.2⟩
  exact ⟨_, hc, (u_born t0 htk hin hKn hkC e1 hty).to (fun j hj => by show _ = vp_V ((am_df ci).map (am_u s.heap.size)) j; rw [am_df_u hmap]; exact hdf j hj)⟩
end LWR
