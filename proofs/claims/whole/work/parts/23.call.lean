theorem am_g_sp {y n : Nat} {as rest : List Value} {q : am_M} (hq : am_ms[y]? = some q) (hg : am_g y n as rest = true) : as.length ≤ q.2.2.1 ∧ (∀ v ∈ as, v.category = 1) ∧ am_cat rest ≤ 8 ∧ as.length = n := by
  unfold am_g at hg
  rw [hq] at hg
  simp only [Bool.and_eq_true, decide_eq_true_eq, List.all_eq_true] at hg
  exact ⟨hg.1.1.1, fun v hv => hg.1.1.2 v hv, hg.1.2, hg.2⟩
theorem am_sl1 : ∀ (vs : List Value), (∀ v ∈ vs, v.category = 1) → lg_sl vs = vs.map Slot.val
  | [], _ => rfl
  | v :: vs, hv => by
    have h1 : v.category = 1 := hv v List.mem_cons_self
    have h2 := am_sl1 vs (fun w hw => hv w (List.mem_cons_of_mem _ hw))
    unfold lg_sl at h2 ⊢
    rw [List.flatMap_cons, h2, if_neg (by omega)]
    rfl
theorem am_en_LR {lo y : Nat} {as : List Value} {q : am_M} (hq : am_ms[y]? = some q) (hl : as.length ≤ q.2.2.1) (hc : ∀ v ∈ as, v.category = 1) : am_LR lo (am_en y as) ((lg_sl (as.map (am_u lo)) ++ List.replicate (q.2.2.1 - (lg_sl (as.map (am_u lo))).length) Slot.unset).toArray) ∧ ((lg_sl (as.map (am_u lo)) ++ List.replicate (q.2.2.1 - (lg_sl (as.map (am_u lo))).length) Slot.unset).toArray).size = q.2.2.1 := by
  have hs : lg_sl (as.map (am_u lo)) = (as.map (am_u lo)).map Slot.val := am_sl1 _ (fun v hv => by
    obtain ⟨w, hw, rfl⟩ := List.mem_map.mp hv
    rw [am_u_cat]; exact hc w hw)
  have hlen : (lg_sl (as.map (am_u lo))).length = as.length := by rw [hs]; simp
  have hent := lv_entry (as.map (am_u lo)) (n := q.2.2.1) (by rw [hlen]; exact hl)
  refine ⟨⟨?_, hent.2.1, fun i v hi => ?_⟩, hent.1⟩
  · rw [hent.1]
    unfold am_en
    rw [hq]
    simp
    omega
  · unfold am_en at hi
    rw [hq] at hi
    dsimp only at hi
    by_cases hil : i < as.length
    · rw [List.getElem?_append_left (by simpa using hil), List.getElem?_map] at hi
      cases hv : as[i]? with
      | none => rw [hv] at hi; cases hi
      | some w =>
        rw [hv] at hi
        obtain rfl : w = v := by simpa using hi
        refine ⟨hc _ (List.mem_of_getElem? hv), ?_⟩
        rw [hs]
        rw [List.getElem?_toArray, List.getElem?_append_left (by simpa using hil), List.getElem?_map, List.getElem?_map, hv]
        rfl
    · rw [List.getElem?_append_right (by simp; omega), List.getElem?_replicate] at hi
      split at hi <;> cases hi
theorem am_pay {s : State} {args : Array Value} {q : am_M} (hts : ∀ w ∈ am_kw, w.before args s = true) (hq : Jvm.Cond.code q.1 q.2.1 q.2.2.1 q.2.2.2.1 ∈ am_kw) : ∀ w ∈ am_ws q, ∀ (a' : Array Value) (U : State), s.WarmedH U.vm → w.before a' U = true := by
  intro w hw a' U hW
  have hm : w ∈ am_kw := by
    rcases List.mem_cons.mp hw with h | h
    · rw [h]; exact hq
    · exact h
  exact word_at hW (am_good w hm) (hts w hm)
theorem am_blind {D : va_G} {tc : Nat → ClassId} {lo : Nat} {h : am_H} {av : List Value} : FrameBlind (va_Pc av (am_Pr D tc lo h)) := fun _ U g mk q => ⟨q.1, q.2.1, am_Kn.same (s := U) rfl q.2.2⟩
section AMC
variable {p : Program} {l : Launch} {e : Env} {R : Room} {s : State} {m : MethodId} {args : Array Value} {below : List Frame} {meth : Method} {c : Code} {H : Heap} {locs : List Loc} {cells slots : Nat} {Q : State → Prop}
variable {pc len : Nat} {ls : Array Slot} {D : va_G} {tc : Nat → ClassId} {lo : Nat} {h h' : am_H} {q : am_M} {i : Instr} {lc lc' : am_L} {st st' : List Value}
theorem am_w_call {g : JFrame} {rest : List Value} {mc ms : Nat} {Qa : State → Outcome → State → Prop} {free : Addr → Prop} (hr : va_Run p l e R s m args below meth c H locs cells slots mc ms g rest Qa free)
    (kk : ∀ (v : Option Value) (st₀ t T' : State) (L : List Loc), st₀.heap = H → T'.heap = t.heap → (∀ x ∈ L, free x.base) → Qa st₀ (.returned v) t → W p l e R s m args below meth c T'.heap (locs ++ L) (cells + mc) (slots + ms) Q { g with pc := g.pc + 3, stack := v.toList ++ rest }) : W p l e R s m args below meth c H locs cells slots Q g := by
  intro T hT X
  obtain ⟨v, st₀, t, T', L, h0, X', hL, e1, e2, hq, st⟩ := hr T hT X
  obtain ⟨t2, a1, b1⟩ := kk v st₀ t T' L h0 e1 hL hq T' rfl X'
  exact ⟨t2, st t2 a1, b1⟩
set_option maxHeartbeats 4000000 in
theorem am_w_ca {y' d' mc' ms' : Nat} {as rest : List Value} {q' : am_M} {Qc : Array Value → State → Outcome → State → Prop} {free : Addr → Prop} (X : am_X D tc q p s m args meth c) (hca : am_ca q i len st h = some (y', as, rest)) (hdg : decode q.2.1 pc = .ok (i, len)) (hR : am_R D tc lo h H) (hsz : ls.size = q.2.2.1) (hq' : am_ms[y']? = some q')
    (hM : Met l q'.1 (am_ws q') (am_rm d' mc' ms') (va_Pc (as.map (am_u lo)) (am_Pr D tc lo h)) Qc mc' ms' free) (hfr : d' + 2 ≤ R.frames) (hlo : 60 * (d' + 1) + 60 ≤ R.locals) (hcells : cells + mc' ≤ R.cells) (hslots : slots + ms' ≤ R.slots) :
    va_Run p l e R s m args below meth c H locs cells slots mc' ms' (F0 m pc ls (st.map (am_u lo))) (rest.map (am_u lo)) (Qc (as.map (am_u lo)).toArray) free ∧ ∃ n, am_g y' n as rest = true := by
  obtain ⟨hx, hb, hml, hown, hts, hr, hlk, hin, hK⟩ := X
  obtain ⟨hcn, hcode, hini, hmh, hvh, hpl, hit, hmx⟩ := am_ms_ok y' q' hq'
  have hrm : (am_rm d' mc' ms').frames + 1 ≤ R.frames ∧ 8 + (q'.2.2.1 + 11) + (am_rm d' mc' ms').locals ≤ R.locals := ⟨hfr, by show 8 + (q'.2.2.1 + 11) + 60 * (d' + 1) ≤ _; omega⟩
  have hpre : ∀ U : State, U.heap = H → s.WarmedH U.vm → va_Pc (as.map (am_u lo)) (am_Pr D tc lo h) (as.map (am_u lo)).toArray U := fun U hU hW => ⟨rfl, by rw [hU]; exact hR, am_Kn.moved hW hK⟩
  have hrest : ∀ {ry : List Value}, am_cat ry ≤ 8 → 2 * (F0 m pc ls (st.map (am_u lo))).monitorRoom + ((ry.map (am_u lo)).map fun v => v.category).sum ≤ 8 := fun hy => by
    show 2 * 0 + _ ≤ 8
    rw [am_cat_u]; omega
  unfold am_ca at hca
  split at hca
  · split at hca
    · rename_i f hf
      split at hca
      · rename_i b r hdr
        split at hca
        · rename_i hc
          obtain ⟨hk, hrc, hg⟩ := hc
          cases hca
          obtain ⟨q2, hq2, hpn, m0, m1, -⟩ := (am_ml_ok _ _ _ hf).1 (by omega)
          cases hq'.symm.trans hq2
          obtain ⟨g1, g2, g3, g4⟩ := am_g_sp hq' hg
          refine ⟨?_, _, hg⟩
          have hcell : ∃ cellB : Cell, H[lo + b]? = some cellB ∧ cellB.vm.isStatics = false ∧ s.vm.findClass q'.1.cls = some cellB.cls := by
            unfold am_rc at hrc
            split at hrc
            · rename_i o ho
              rw [hq'] at hrc
              dsimp only at hrc
              have ho1 : o.1 = q'.2.2.2.2.1 := of_decide_eq_true hrc
              obtain ⟨rr, z1, cell, z2, z3, z4, -⟩ := hR.2 b _ ho
              refine ⟨cell, z2, by rw [z4]; rfl, ?_⟩
              have z5 := (hK.1.1 o.1 rr z1).2.1
              rw [am_cls_ok o.1 rr z1, ho1, hcn] at z5
              rw [z3]
              show _ = some (D.1 o.1)
              rw [ho1]; exact z5
            · cases hrc
          have hst : st = st.take f.2.2 ++ .ref b :: rest := by rw [← hdr]; exact (List.take_append_drop _ _).symm
          have hstack : (F0 m pc ls (st.map (am_u lo))).stack = (((st.take f.2.2).reverse).map (am_u lo)).reverse ++ .ref (lo + b) :: rest.map (am_u lo) := by
            show st.map (am_u lo) = _
            conv => lhs; rw [hst]
            rw [List.map_append, List.map_reverse, List.reverse_reverse]
            rfl
          have hlen : (((st.take f.2.2).reverse).map (am_u lo)).length = f.2.2 := by
            rw [List.length_cons] at g4
            rw [List.length_map]; omega
          have hsig : ∀ sig, parseMethodDescriptor q'.1.desc = some sig → f.2.2 = sig.parameters.length := fun sig h => by
            rw [h] at hpn; exact (Option.some.inj hpn).symm
          rcases hk with hk | hk
          · obtain ⟨w1, w2, w3⟩ := m0 hk
            exact va_runV (bytes := q'.2.1) (maxL := q'.2.2.1) (ret := q'.2.2.2.1) (C := q'.1.cls) (own := am_cn q.2.2.2.2.1) (n := f.2.2) ⟨hx, hb, hml, hown, hts⟩ hM ⟨⟨rfl, rfl, hrm.1, hrm.2, am_pay hts hcode, List.mem_cons_self, hts _ hcode, hts _ hini, ⟨hmh, hvh⟩, hsig, hts _ w1⟩, hts _ w2, hts _ w3⟩ ⟨am_blind, hcell, hpre⟩ rfl hlen hsz hstack (hrest g3) hdg ⟨hcells, hslots⟩
          · obtain ⟨⟨host, w1⟩, w2, w3⟩ := m1 hk
            exact va_runVN (bytes := q'.2.1) (maxL := q'.2.2.1) (ret := q'.2.2.2.1) (C := q'.1.cls) (own := am_cn q.2.2.2.2.1) (n := f.2.2) ⟨hx, hb, hml, hown, hts⟩ hM ⟨⟨⟨rfl, rfl, hrm.1, hrm.2, am_pay hts hcode, List.mem_cons_self⟩, hts _ hcode, hts _ hini, ⟨hmh, hvh⟩, hsig, va_Nw.use rfl (hK.2.2.1 _ w1)⟩, hts _ w2, hts _ w3⟩ ⟨am_blind, hcell, hpre⟩ rfl hlen hsz hstack (hrest g3) hdg ⟨hcells, hslots⟩
        · cases hca
      · cases hca
    · cases hca
  · split at hca
    · rename_i f hf
      split at hca
      · rename_i hc
        obtain ⟨hk, hg⟩ := hc
        cases hca
        obtain ⟨q2, hq2, hpn, -, -, m2, m3, -⟩ := (am_ml_ok _ _ _ hf).1 (by omega)
        cases hq'.symm.trans hq2
        obtain ⟨g1, g2, g3, g4⟩ := am_g_sp hq' hg
        refine ⟨?_, _, hg⟩
        have hstack : (F0 m pc ls (st.map (am_u lo))).stack = (((st.take f.2.2).reverse).map (am_u lo)).reverse ++ (st.drop f.2.2).map (am_u lo) := by
          show st.map (am_u lo) = _
          rw [List.map_reverse, List.reverse_reverse, ← List.map_append, List.take_append_drop]
        have hlen : (((st.take f.2.2).reverse).map (am_u lo)).length = f.2.2 := by
          rw [List.length_map]; exact g4
        have hsig : ∀ sig, parseMethodDescriptor q'.1.desc = some sig → f.2.2 = sig.parameters.length := fun sig h => by
          rw [h] at hpn; exact (Option.some.inj hpn).symm
        rcases hk with hk | hk
        · obtain ⟨w1, w2⟩ := m2 hk
          exact va_runS (bytes := q'.2.1) (maxL := q'.2.2.1) (ret := q'.2.2.2.1) (own := am_cn q.2.2.2.2.1) (n := f.2.2) ⟨hx, hb, hml, hown, hts⟩ hM ⟨⟨rfl, rfl, hrm.1, hrm.2, am_pay hts hcode, List.mem_cons_self, hts _ hcode, hts _ hini, ⟨hmh, hvh⟩, hsig, hts _ w1⟩, hts _ w2⟩ ⟨am_blind, hpre⟩ rfl hlen hsz hstack (hrest g3) hdg ⟨hcells, hslots⟩
        · obtain ⟨⟨host, w1⟩, w2⟩ := m3 hk
          exact va_runSN (bytes := q'.2.1) (maxL := q'.2.2.1) (ret := q'.2.2.2.1) (own := am_cn q.2.2.2.2.1) (n := f.2.2) ⟨hx, hb, hml, hown, hts⟩ hM ⟨⟨⟨rfl, rfl, hrm.1, hrm.2, am_pay hts hcode, List.mem_cons_self⟩, hts _ hcode, hts _ hini, ⟨hmh, hvh⟩, hsig, va_Nw.use rfl (hK.2.2.1 _ w1)⟩, hts _ w2, trivial⟩ ⟨am_blind, hpre⟩ rfl hlen hsz hstack (hrest g3) hdg ⟨hcells, hslots⟩
      · cases hca
    · cases hca
  · split at hca
    · rename_i f hf
      split at hca
      · rename_i b r hdr
        split at hca
        · rename_i hc
          obtain ⟨hk, hg⟩ := hc
          cases hca
          obtain ⟨q2, hq2, hpn, -, -, -, -, m4, m5⟩ := (am_ml_ok _ _ _ hf).1 (by omega)
          cases hq'.symm.trans hq2
          obtain ⟨g1, g2, g3, g4⟩ := am_g_sp hq' hg
          refine ⟨?_, _, hg⟩
          have hst : st = st.take f.2.2 ++ .ref b :: rest := by rw [← hdr]; exact (List.take_append_drop _ _).symm
          have hstack : (F0 m pc ls (st.map (am_u lo))).stack = (((st.take f.2.2).reverse).map (am_u lo)).reverse ++ .ref (lo + b) :: rest.map (am_u lo) := by
            show st.map (am_u lo) = _
            conv => lhs; rw [hst]
            rw [List.map_append, List.map_reverse, List.reverse_reverse]
            rfl
          have hlen : (((st.take f.2.2).reverse).map (am_u lo)).length = f.2.2 := by
            rw [List.length_cons] at g4
            rw [List.length_map]; omega
          have hsig : ∀ sig, parseMethodDescriptor q'.1.desc = some sig → f.2.2 = sig.parameters.length := fun sig h => by
            rw [h] at hpn; exact (Option.some.inj hpn).symm
          rcases hk with hk | hk
          · obtain ⟨w1, w2, w3, w4⟩ := m4 hk
            rw [w4] at hcode
            have hpay := am_pay (q := q') hts (by rw [w4]; exact hcode)
            exact va_runI (bytes := q'.2.1) (maxL := q'.2.2.1) (own := am_cn q.2.2.2.2.1) (n := f.2.2) ⟨hx, hb, hml, hown, hts⟩ hM ⟨⟨rfl, rfl, hrm.1, hrm.2, hpay, by rw [← w4]; exact List.mem_cons_self, hts _ hcode, hts _ hini, ⟨hmh, hvh⟩, hsig, hts _ w1⟩, w2, hts _ w3⟩ ⟨am_blind, hpre⟩ rfl hlen hsz hstack (hrest g3) hdg ⟨hcells, hslots⟩
          · obtain ⟨⟨host, w1⟩, w2, w3, w4⟩ := m5 hk
            rw [w4] at hcode
            have hpay := am_pay (q := q') hts (by rw [w4]; exact hcode)
            exact va_runIN (bytes := q'.2.1) (maxL := q'.2.2.1) (own := am_cn q.2.2.2.2.1) (n := f.2.2) ⟨hx, hb, hml, hown, hts⟩ hM ⟨⟨⟨rfl, rfl, hrm.1, hrm.2, hpay, by rw [← w4]; exact List.mem_cons_self⟩, hts _ hcode, hts _ hini, ⟨hmh, hvh⟩, hsig, va_Nw.use rfl (hK.2.2.1 _ w1)⟩, w2, hts _ w3⟩ ⟨am_blind, hpre⟩ rfl hlen hsz hstack (hrest g3) hdg ⟨hcells, hslots⟩
        · cases hca
      · cases hca
    · cases hca
  · cases hca
end AMC
theorem am_hp_mono {q : am_M} {i : Instr} {len : Nat} {st st' : List Value} {h h1 : am_H} (hp : am_hp q i len st h = some (st', h1)) : h.1 ≤ h1.1 ∧ h.2.1 ≤ h1.2.1 := by
  have put : ∀ {a ci k : Nat} {v : Value} {h2 : am_H}, am_put h a ci k v = some h2 → h.1 ≤ h2.1 ∧ h.2.1 ≤ h2.2.1 := fun hv => by
    obtain ⟨_, -, -, rfl⟩ := am_put_sp hv; exact ⟨Nat.le_refl _, Nat.le_refl _⟩
  have sv : ∀ {a t : Nat} {x v : Int32} {h2 : am_H}, am_sv h a t x v = some h2 → h.1 ≤ h2.1 ∧ h.2.1 ≤ h2.2.1 := fun hv => by
    obtain ⟨_, -, -, -, rfl⟩ := am_sv_sp hv; exact ⟨Nat.le_refl _, Nat.le_refl _⟩
  have sq : ∀ {a v : Nat} {x : Int32} {h2 : am_H}, am_stq h a x v = some h2 → h.1 ≤ h2.1 ∧ h.2.1 ≤ h2.2.1 := fun hv => by
    obtain ⟨_, _, _, _, -, -, -, -, -, rfl⟩ := am_stq_sp hv; exact ⟨Nat.le_refl _, Nat.le_refl _⟩
  have nw : ∀ {x : am_E} {n : Nat}, h.1 ≤ (am_new h x n).1 ∧ h.2.1 ≤ (am_new h x n).2.1 := fun {x n} => ⟨Nat.le_add_right _ _, Nat.le_add_right _ _⟩
  unfold am_hp at hp
  repeat' split at hp
  all_goals first
    | (cases hp; done)
    | (cases hp; exact nw)
    | (cases hp; exact ⟨Nat.le_refl _, Nat.le_refl _⟩)
    | (obtain ⟨v, hv, hh⟩ := am_mapo hp; cases hh; first | exact put hv | exact sv hv | exact sq hv | exact ⟨Nat.le_refl _, Nat.le_refl _⟩)
theorem am_go_sp {q : am_M} {i : Instr} {len pc : Nat} {lc : am_L} {st : List Value} {h : am_H} {r : Nat × am_L × List Value × am_H} (hg : am_go q i len pc lc st h = some (.inl r)) : (am_pu i len lc st = some (r.2.1, r.2.2.1) ∧ r.1 = pc + len ∧ r.2.2.2 = h) ∨ (am_bb i len pc st = some (r.1, r.2.2.1) ∧ r.2.1 = lc ∧ r.2.2.2 = h) ∨ (am_hp q i len st h = some (r.2.2.1, r.2.2.2) ∧ r.1 = pc + len ∧ r.2.1 = lc) := by
  unfold am_go at hg
  split at hg
  · rename_i x hx; cases hg; exact Or.inl ⟨hx, rfl, rfl⟩
  · split at hg
    · rename_i x hx; cases hg; exact Or.inr (Or.inl ⟨hx, rfl, rfl⟩)
    · split at hg
      · rename_i x hx; cases hg; exact Or.inr (Or.inr ⟨hx, rfl, rfl⟩)
      · split at hg
        · cases hg
        · split at hg
          · cases hg
          · cases hg
theorem am_go_rt {q : am_M} {i : Instr} {len pc : Nat} {lc : am_L} {st : List Value} {h : am_H} {r : Option Value} (hg : am_go q i len pc lc st h = some (.inr (.inl r))) : am_rt q i len st = some r := by
  unfold am_go at hg
  split at hg
  · cases hg
  · split at hg
    · cases hg
    · split at hg
      · cases hg
      · split at hg
        · rename_i x hx; cases hg; exact hx
        · split at hg
          · cases hg
          · cases hg
theorem am_go_ca {q : am_M} {i : Instr} {len pc : Nat} {lc : am_L} {st : List Value} {h : am_H} {r : Nat × List Value × List Value} (hg : am_go q i len pc lc st h = some (.inr (.inr r))) : am_ca q i len st h = some r := by
  unfold am_go at hg
  split at hg
  · cases hg
  · split at hg
    · cases hg
    · split at hg
      · cases hg
      · split at hg
        · cases hg
        · split at hg
          · rename_i x hx; cases hg; exact hx
          · cases hg
theorem am_run_mono (n : Nat) : ∀ (d y pc : Nat) (lc : am_L) (st : List Value) (h : am_H) (R : Option Value × am_H), am_run n d y pc lc st h = some R → h.1 ≤ R.2.1 ∧ h.2.1 ≤ R.2.2.1 := by
  induction n with
  | zero => intro d y pc lc st h R hR; cases hR
  | succ n ih =>
    intro d y pc lc st h R hR
    rw [am_run] at hR
    unfold am_bd at hR
    cases hq : am_ms[y]? with
    | none => rw [hq] at hR; cases hR
    | some q =>
      rw [hq] at hR
      dsimp only at hR
      cases hd : decode q.2.1 pc with
      | error e => rw [hd] at hR; cases hR
      | ok il =>
        rw [hd] at hR
        dsimp only at hR
        cases hg : am_go q il.1 il.2 pc lc st h with
        | none => rw [hg] at hR; cases hR
        | some z =>
          rw [hg] at hR
          obtain r | r | r := z
          · have h2 := ih _ _ _ _ _ _ _ hR
            rcases am_go_sp hg with ⟨-, -, e⟩ | ⟨-, -, e⟩ | ⟨e, -, -⟩
            · rw [e] at h2; exact h2
            · rw [e] at h2; exact h2
            · have h1 := am_hp_mono e
              exact ⟨Nat.le_trans h1.1 h2.1, Nat.le_trans h1.2 h2.2⟩
          · cases hR; exact ⟨Nat.le_refl _, Nat.le_refl _⟩
          · cases d with
            | zero => cases hR
            | succ d' =>
              dsimp only at hR
              cases hc : am_run n d' r.1 0 (am_en r.1 r.2.1) [] h with
              | none => rw [hc] at hR; cases hR
              | some x =>
                rw [hc] at hR
                have h1 := ih _ _ _ _ _ _ _ hc
                have h2 := ih _ _ _ _ _ _ _ hR
                exact ⟨Nat.le_trans h1.1 h2.1, Nat.le_trans h1.2 h2.2⟩
theorem am_pu_len {i : Instr} {len : Nat} {lc lc' : am_L} {st st' : List Value} (hp : am_pu i len lc st = some (lc', st')) : lc'.length = lc.length := by
  unfold am_pu at hp
  split at hp
  all_goals first
    | (cases hp; done)
    | (cases hp; rfl)
    | (obtain ⟨x, h1, rfl, rfl⟩ := am_li_sp hp; rfl)
    | (obtain ⟨x, h1, rfl, rfl⟩ := am_la_sp hp; rfl)
    | (obtain ⟨x, h1, h2, rfl⟩ := am_si_sp hp; exact List.length_set)
    | (obtain ⟨x, h1, h2, rfl⟩ := am_sa_sp hp; exact List.length_set)
    | (obtain ⟨x, h1, h2, rfl, rfl⟩ := am_ii_sp hp; exact List.length_set)
    | (obtain ⟨x, y, r, h1, rfl, h2⟩ := am_b2_sp hp; rfl)
    | (split at hp
       · first
         | (cases hp; rfl)
         | (split at hp
            · cases hp; rfl
            · cases hp)
       · cases hp)
theorem am_ca_g {q : am_M} {i : Instr} {len y' : Nat} {st as rest : List Value} {h : am_H} (hca : am_ca q i len st h = some (y', as, rest)) : ∃ n, am_g y' n as rest = true := by
  unfold am_ca at hca
  split at hca
  · split at hca
    · split at hca
      · split at hca
        · rename_i hc
          cases hca
          exact ⟨_, hc.2.2⟩
        · cases hca
      · cases hca
    · cases hca
  · split at hca
    · split at hca
      · rename_i hc
        cases hca
        exact ⟨_, hc.2⟩
      · cases hca
    · cases hca
  · split at hca
    · split at hca
      · split at hca
        · rename_i hc
          cases hca
          exact ⟨_, hc.2⟩
        · cases hca
      · cases hca
    · cases hca
  · cases hca
theorem am_ca_ms {q : am_M} {i : Instr} {len y' : Nat} {st as rest : List Value} {h : am_H} (hca : am_ca q i len st h = some (y', as, rest)) : ∃ q', am_ms[y']? = some q' := by
  obtain ⟨n, hg⟩ := am_ca_g hca
  unfold am_g at hg
  split at hg
  · rename_i q' hq'
    exact ⟨q', hq'⟩
  · cases hg
/-- the small machine's run from a place in a method, as a walk of the large one -/
def am_B (l : Launch) (D : va_G) (tc : Nat → ClassId) (lo n : Nat) : Prop := ∀ (d y : Nat) (q : am_M) (pc : Nat) (lc : am_L) (st : List Value) (h : am_H) (r : Option Value) (h' : am_H), am_ms[y]? = some q → am_run n d y pc lc st h = some (r, h') →
  ∀ (p : Program) (e : Env) (s : State) (m : MethodId) (args : Array Value) (below : List Frame) (meth : Method) (c : Code), am_X D tc q p s m args meth c →
  ∀ (mc ms : Nat) (H : Heap) (locs : List Loc) (cells slots : Nat) (ls : Array Slot), am_R D tc lo h H → am_LR lo lc ls → ls.size = q.2.2.1 → (∀ x ∈ locs, lo ≤ x.base) → (∀ a, a < lo → H[a]? = s.heap[a]?) → cells + (h'.1 - h.1) = mc → slots + (h'.2.1 - h.2.1) = ms →
  W p l e (am_rm d mc ms) s m args below meth c H locs cells slots (MQ below (am_Q D tc lo r h') args s mc ms (fun a => lo ≤ a)) (F0 m pc ls (st.map (am_u lo)))
theorem am_met {l : Launch} {D : va_G} {tc : Nat → ClassId} {lo n : Nat} (hB : am_B l D tc lo n) {d y : Nat} {q : am_M} {as : List Value} {h h' : am_H} {r : Option Value} (hq : am_ms[y]? = some q) (hrun : am_run n d y 0 (am_en y as) [] h = some (r, h')) (hl : as.length ≤ q.2.2.1) (hc : ∀ v ∈ as, v.category = 1) :
    Met l q.1 (am_ws q) (am_rm d (h'.1 - h.1) (h'.2.1 - h.2.1)) (va_Pc (as.map (am_u lo)) (am_Pr D tc lo h)) (am_Q D tc lo r h') (h'.1 - h.1) (h'.2.1 - h.2.1) (fun a => lo ≤ a) := by
  obtain ⟨hcn, hcode, hini, hmh, hvh, hpl, hit, hmx⟩ := am_ms_ok y q hq
  refine Met.ofW (cc := q.2.1) (maxL := q.2.2.1) (ret := q.2.2.2.1) hpl rfl ?_
  intro p e s m args below meth c s₁ B hml hv
  obtain ⟨rfl, hR, hK⟩ := hv
  have hts := atoms_spec (ws := am_ws q) B.pre
  have hown : s.vm.findClass q.1.cls = some m.cls := findClass_of_methodNamed B.named
  obtain ⟨hL, hsz⟩ := am_en_LR (lo := lo) hq hl hc
  rw [lg_entry_eq]
  exact hB d y q 0 (am_en y as) [] h r h' hq hrun p e s m _ below meth c ⟨B.exec, B.bytes, hml, by rw [hcn]; exact hown, fun w hw => hts w (List.mem_cons_of_mem _ hw), B.returns, B.notSynchronized, fun hi => (name_of_methodNamed B.named B.method).1.trans (hit hi), hK⟩ _ _ _ [] 0 0 _ hR hL hsz (fun x hx => by cases hx) (fun a _ => rfl) (Nat.zero_add _) (Nat.zero_add _)
set_option maxHeartbeats 4000000 in
theorem am_body (l : Launch) (D : va_G) (tc : Nat → ClassId) (lo n : Nat) : am_B l D tc lo n := by
  induction n with
  | zero => intro d y q pc lc st h r h' _ hR; cases hR
  | succ n ih =>
    intro d y q pc lc st h r h' hq hR p e s m args below meth c X mc ms H locs cells slots ls hh hL hsz hlo hs0 hmc hms
    rw [am_run] at hR
    unfold am_bd at hR
    rw [hq] at hR
    dsimp only at hR
    cases hd : decode q.2.1 pc with
    | error e => rw [hd] at hR; cases hR
    | ok il =>
      rw [hd] at hR
      dsimp only at hR
      obtain ⟨i, len⟩ := il
      cases hg : am_go q i len pc lc st h with
      | none => rw [hg] at hR; cases hR
      | some z =>
        rw [hg] at hR
        obtain z | z | z := z
        · obtain ⟨pc', lc', st', h1⟩ := z
          dsimp only at hR
          have hm2 := am_run_mono _ _ _ _ _ _ _ _ hR
          dsimp only at hm2
          rcases am_go_sp hg with ⟨e1, e2, e3⟩ | ⟨e1, e2, e3⟩ | ⟨e1, e2, e3⟩
          · dsimp only at e1 e2 e3
            subst e2; subst e3
            exact am_w_pu X.1 X.2.1 e1 hd hL (fun ls' hL' => ih d y q _ lc' st' _ r h' hq hR p e s m args below meth c X mc ms H locs cells slots ls' hh hL' (by rw [← hL'.1]; rw [← hsz, ← hL.1]; exact am_pu_len e1) hlo hs0 hmc hms)
          · dsimp only at e1 e2 e3
            subst e2; subst e3
            exact am_w_bb X.1 X.2.1 e1 hd (ih d y q _ _ st' _ r h' hq hR p e s m args below meth c X mc ms H locs cells slots ls hh hL hsz hlo hs0 hmc hms)
          · dsimp only at e1 e2 e3
            subst e2; subst e3
            have hm1 := am_hp_mono e1
            refine am_w_hp (R := am_rm d mc ms) X e1 hd hh hsz (by show 1 ≤ d + 1; omega) (by show 60 ≤ 60 * (d + 1); omega) (by show _ ≤ mc; omega) (by show _ ≤ ms; omega) (fun H1 locs1 r1 r2 r3 => ?_)
            exact ih d y q _ _ st' h1 r h' hq hR p e s m args below meth c X mc ms H1 locs1 _ _ ls r1 hL hsz (fun x hx => (r3 x hx).elim (hlo x) id) (fun a ha => (r2 a ha).trans (hs0 a ha)) (by omega) (by omega)
        · have hrt := am_go_rt hg
          cases hR
          have hmc' : cells = mc := by omega
          have hms' : slots = ms := by omega
          subst hmc'; subst hms'
          obtain ⟨hx, hb, hml, hown, hts, hr, hlk, hin, hK⟩ := X
          have fin : ∀ (t : State), t.heap = H → s.WarmedH t.vm → am_Pr D tc lo h t ∧ ∀ a, a < lo → t.heap[a]? = s.heap[a]? := fun t ht hW => ⟨⟨by rw [ht]; exact hh, am_Kn.moved hW hK⟩, fun a ha => by rw [ht]; exact hs0 a ha⟩
          unfold am_rt at hrt
          split at hrt
          · split at hrt
            · rename_i v ty hty
              split at hrt
              · rename_i hn
                cases hrt
                exact W.zret hx hb (by rw [hr]; exact hty) hn (fun t ht hW => ⟨rfl, (fin t ht hW).1, (fin t ht hW).2⟩) hlo hd hlk
              · cases hrt
            · cases hrt
          · split at hrt
            · rename_i hty
              cases hrt
              exact W.vret hx hb (by rw [hr]; exact hty) (fun t ht hW => ⟨rfl, (fin t ht hW).1, (fin t ht hW).2⟩) hlo hd hlk
            · cases hrt
          · split at hrt
            · rename_i a nm hty
              cases hrt
              exact W.aret hx hb (by rw [hr]; exact hty) (Or.inl ⟨_, rfl⟩) (Or.inr ⟨_, rfl⟩) (fun t ht hW => ⟨rfl, (fin t ht hW).1, (fin t ht hW).2⟩) hlo hd hlk
            · rename_i a nm hty
              cases hrt
              exact W.aret hx hb (by rw [hr]; exact hty) (Or.inr ⟨_, rfl⟩) (Or.inr ⟨_, rfl⟩) (fun t ht hW => ⟨rfl, (fin t ht hW).1, (fin t ht hW).2⟩) hlo hd hlk
            · cases hrt
          · cases hrt
        · obtain ⟨y', as, rest⟩ := z
          dsimp only at hR
          have hca := am_go_ca hg
          cases d with
          | zero => cases hR
          | succ d' =>
            dsimp only at hR
            cases hc : am_run n d' y' 0 (am_en y' as) [] h with
            | none => rw [hc] at hR; cases hR
            | some x =>
              rw [hc] at hR
              dsimp only at hR
              obtain ⟨r1, h1⟩ := x
              dsimp only at hR
              have m1 := am_run_mono _ _ _ _ _ _ _ _ hc
              have m2 := am_run_mono _ _ _ _ _ _ _ _ hR
              dsimp only at m1 m2
              obtain ⟨q', hq'⟩ := am_ca_ms hca
              obtain ⟨nn, hgg⟩ := am_ca_g hca
              obtain ⟨g1, g2, -, -⟩ := am_g_sp hq' hgg
              have hM := am_met ih hq' hc g1 g2
              have hrun := (am_w_ca (R := am_rm (d' + 1) mc ms) (l := l) (e := e) (below := below) (locs := locs) (cells := cells) (slots := slots) X hca hd hh hsz hq' hM (by show d' + 2 ≤ d' + 1 + 1; omega) (by show 60 * (d' + 1) + 60 ≤ 60 * (d' + 1 + 1); omega) (by show _ ≤ mc; omega) (by show _ ≤ ms; omega)).1
              refine am_w_call hrun (fun v st₀ t T' L k0 k1 kL kQ => ?_)
              obtain ⟨kv, ⟨kR, kK⟩, kO⟩ := kQ
              cases kv
              have e1 : (r1.map (am_u lo)).toList ++ rest.map (am_u lo) = (r1.toList ++ rest).map (am_u lo) := by cases r1 <;> rfl
              rw [e1]
              rw [k1]
              refine ih (d' + 1) y q (pc + 3) lc (r1.toList ++ rest) h1 r h' hq hR p e s m args below meth c X mc ms t.heap _ _ _ ls kR hL hsz (fun x hx => ?_) (fun a ha => (kO a ha).trans (by rw [k0]; exact hs0 a ha)) (by omega) (by omega)
              rcases List.mem_append.mp hx with hx | hx
              · exact hlo x hx
              · exact kL x hx
/-- **A method's contract, out of the small machine's run** -/
theorem am_sound (l : Launch) (D : va_G) (tc : Nat → ClassId) (lo : Nat) {d y : Nat} {q : am_M} {as : List Value} {h h' : am_H} {r : Option Value} (hq : am_ms[y]? = some q) (hrun : rn d y 0 (am_en y as) [] h = some (r, h')) (hl : as.length ≤ q.2.2.1) (hc : ∀ v ∈ as, v.category = 1) :
    Met l q.1 (am_ws q) (am_rm d (h'.1 - h.1) (h'.2.1 - h.2.1)) (va_Pc (as.map (am_u lo)) (am_Pr D tc lo h)) (am_Q D tc lo r h') (h'.1 - h.1) (h'.2.1 - h.2.1) (fun a => lo ≤ a) := by
  obtain ⟨n, hn⟩ := rn_iff.mp hrun
  exact am_met (am_body l D tc lo n) hq hn hl hc
