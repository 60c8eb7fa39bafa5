/-! THE SMALL MACHINE IS TRUE TO THE LARGE ONE: its cells lie from the address 'lo' on -/
def am_u (lo : Nat) (v : Value) : Value := match v with
  | .ref a => .ref (lo + a)
  | v => v
theorem am_u_cat (lo : Nat) (v : Value) : (am_u lo v).category = v.category := by cases v <;> rfl
theorem am_u_rf (lo : Nat) (q : Option Nat) : am_u lo (va_rf q) = va_rf (q.map (fun a => lo + a)) := by cases q <;> rfl
theorem am_u_ok {lo : Nat} {ty : FieldType} {v : Value} (h : am_ok ty v = true) : narrow ty (am_u lo v) = am_u lo v ∧ fits ty (am_u lo v) = true := by
  simp only [am_ok, Bool.and_eq_true, decide_eq_true_eq] at h
  cases v with
  | ref a => cases ty <;> exact ⟨rfl, h.2⟩
  | _ => exact h
theorem am_cat_u (lo : Nat) (st : List Value) : ((st.map (am_u lo)).map fun v => v.category).sum = am_cat st := by
  unfold am_cat
  rw [List.map_map]
  congr 1
  exact List.map_congr_left fun v _ => am_u_cat lo v
def am_c (tc : Nat → ClassId) (lo : Nat) (e : am_E) : va_E := match e with
  | .inl o => .inr (o.1, o.2.map (am_u lo))
  | .inr (.inl a) => .inl (tc a.1, a.2.length, .inl (fun j => a.2.getD j 0))
  | .inr (.inr a) => .inl (tc a.1, a.2.length, .inr (.inr (.inr (.inr (fun j => (a.2.getD j none).map (fun q => lo + q))))))
def am_R (D : va_G) (tc : Nat → ClassId) (lo : Nat) (h : am_H) (H : Heap) : Prop := H.size = lo + h.1 ∧ ∀ (k : Nat) (e : am_E), h.2.2 k = some e → va_at D classes (lo + k, am_c tc lo e) H
def am_LR (lo : Nat) (lc : am_L) (ls : Array Slot) : Prop := lc.length = ls.size ∧ lv_wf ls ∧ ∀ (i : Nat) (v : Value), lc[i]? = some (some v) → v.category = 1 ∧ ls[i]? = some (.val (am_u lo v))
def am_Kn (D : va_G) (tc : Nat → ClassId) (U : State) : Prop := va_K D classes [] U ∧ (∀ (t : Nat) (ty : FieldType), am_ats[t]? = some ty → ArrOfT U (tc t) ty ∧ va_RA U (tc t) ty) ∧ (∀ w ∈ am_nest, va_Nw w U) ∧ ∀ C ∈ am_aos, va_AO C U
theorem am_nw {w : Jvm.Cond} (hw : am_isN w = true) {s U : State} (hW : s.WarmedH U.vm) (h : va_Nw w s) : va_Nw w U := by
  unfold am_isN at hw
  split at hw
  · exact va_Nw.warmF hW h
  · exact va_Nw.warmM hW h
  · cases hw
theorem am_nws {w : Jvm.Cond} (hw : am_isN w = true) {s U : State} (hW : s.vm = U.vm) (h : va_Nw w s) : va_Nw w U := by
  unfold am_isN at hw
  split at hw
  · exact va_Nw.same rfl hW h
  · exact va_Nw.same rfl hW h
  · cases hw
theorem am_Kn.moved {D : va_G} {tc : Nat → ClassId} {s U : State} (hW : s.WarmedH U.vm) (h : am_Kn D tc s) : am_Kn D tc U :=
  ⟨va_K.moved hW.alike h.1, fun t ty ht => ⟨arrOfT_moved hW.alike (h.2.1 t ty ht).1, (h.2.1 t ty ht).2.moved hW.alike⟩, fun w hw => am_nw (am_nest_ok w hw) hW (h.2.2.1 w hw), fun C hC => va_AO.moved hW.alike (h.2.2.2 C hC)⟩
theorem am_Kn.same {D : va_G} {tc : Nat → ClassId} {s U : State} (hW : s.vm = U.vm) (h : am_Kn D tc s) : am_Kn D tc U := by
  have ha : s.vm.Alike U.vm := hW ▸ Vm.Alike.refl s.vm
  exact ⟨va_K.moved ha h.1, fun t ty ht => ⟨arrOfT_moved ha (h.2.1 t ty ht).1, (h.2.1 t ty ht).2.moved ha⟩, fun w hw => am_nws (am_nest_ok w hw) hW (h.2.2.1 w hw), fun C hC => va_AO.moved ha (h.2.2.2 C hC)⟩
theorem am_P1 {D : va_G} {x : Nat × va_E} {H : Heap} (h : va_at D classes x H) : va_P D classes [x] H := by
  intro k q hk
  cases k with
  | zero => cases hk; exact h
  | succ k => simp at hk
theorem am_R.up {D : va_G} {tc : Nat → ClassId} {lo : Nat} {h : am_H} {H H1 : Heap} {k : Nat} {e : am_E} (hR : am_R D tc lo h H) (z : H1.size = H.size) (he : va_at D classes (lo + k, am_c tc lo e) H1) (oq : ∀ q, q ≠ lo + k → H1[q]? = H[q]?) : am_R D tc lo (h.1, h.2.1, am_up h.2.2 k e) H1 := by
  refine ⟨by rw [z]; exact hR.1, fun j e' hj => ?_⟩
  dsimp only [am_up] at hj
  by_cases hjk : j = k
  · subst hjk
    rw [if_pos rfl] at hj
    cases hj
    exact he
  · rw [if_neg hjk] at hj
    exact (hR.2 j e' hj).kept (oq _ (by dsimp only; omega))
theorem am_R.push {D : va_G} {tc : Nat → ClassId} {lo : Nat} {h : am_H} {H H1 : Heap} {e : am_E} (n : Nat) (hR : am_R D tc lo h H) (z : H1.size = lo + h.1 + 1) (he : va_at D classes (lo + h.1, am_c tc lo e) H1) (oq : ∀ q, q < lo + h.1 → H1[q]? = H[q]?) : am_R D tc lo (am_new h e n) H1 := by
  refine ⟨by rw [z]; rfl, fun j e' hj => ?_⟩
  dsimp only [am_new, am_up] at hj
  by_cases hjk : j = h.1
  · subst hjk
    rw [if_pos rfl] at hj
    cases hj
    exact he
  · rw [if_neg hjk] at hj
    have h1 := hR.2 j e' hj
    have h2 := h1.lt
    rw [hR.1] at h2
    exact h1.kept (oq _ h2)
theorem am_get_sp {h : am_H} {a ci k : Nat} {v : Value} (hg : am_get h a ci k = some v) : ∃ fs, h.2.2 a = some (.inl (ci, fs)) ∧ fs[k]? = some v := by
  unfold am_get at hg
  split at hg
  · rename_i o ho
    split at hg
    · rename_i hc
      exact ⟨o.2, by rw [ho, ← hc], hg⟩
    · cases hg
  · cases hg
theorem am_put_sp {h h' : am_H} {a ci k : Nat} {v : Value} (hg : am_put h a ci k v = some h') : ∃ fs, h.2.2 a = some (.inl (ci, fs)) ∧ k < fs.length ∧ (h.1, h.2.1, am_up h.2.2 a (.inl (ci, fs.set k v))) = h' := by
  unfold am_put at hg
  split at hg
  · rename_i o ho
    split at hg
    · rename_i hc
      exact ⟨o.2, by rw [ho, ← hc.1], hc.2, Option.some.inj hg⟩
    · cases hg
  · cases hg
theorem am_ld_sp {h : am_H} {a t : Nat} {i v : Int32} (hg : am_ld h a t i = some v) : ∃ xs, h.2.2 a = some (.inr (.inl (t, xs))) ∧ ¬ i < 0 ∧ xs[i.toNatClampNeg]? = some v := by
  unfold am_ld at hg
  split at hg
  · rename_i o ho
    split at hg
    · rename_i hc
      exact ⟨o.2, by rw [ho, ← hc.1], hc.2, hg⟩
    · cases hg
  · cases hg
theorem am_sv_sp {h h' : am_H} {a t : Nat} {i v : Int32} (hg : am_sv h a t i v = some h') : ∃ xs, h.2.2 a = some (.inr (.inl (t, xs))) ∧ ¬ i < 0 ∧ i.toNatClampNeg < xs.length ∧ (h.1, h.2.1, am_up h.2.2 a (.inr (.inl (t, xs.set i.toNatClampNeg v)))) = h' := by
  unfold am_sv at hg
  split at hg
  · rename_i o ho
    split at hg
    · rename_i hc
      exact ⟨o.2, by rw [ho, ← hc.1], hc.2.1, hc.2.2, Option.some.inj hg⟩
    · cases hg
  · cases hg
theorem am_ldq_sp {h : am_H} {a : Nat} {i : Int32} {v : Value} (hg : am_ldq h a i = some v) : ∃ t qs q, h.2.2 a = some (.inr (.inr (t, qs))) ∧ am_isq t = true ∧ ¬ i < 0 ∧ qs[i.toNatClampNeg]? = some q ∧ v = va_rf q := by
  unfold am_ldq at hg
  split at hg
  · rename_i o ho
    split at hg
    · rename_i hc
      cases hq : o.2[i.toNatClampNeg]? with
      | none => rw [hq] at hg; cases hg
      | some q => rw [hq] at hg; exact ⟨o.1, o.2, q, ho, hc.1, hc.2, hq, (Option.some.inj hg).symm⟩
    · cases hg
  · cases hg
theorem am_stq_sp {h h' : am_H} {a v : Nat} {i : Int32} (hg : am_stq h a i v = some h') : ∃ t qs ci vs, h.2.2 a = some (.inr (.inr (t, qs))) ∧ h.2.2 v = some (.inl (ci, vs)) ∧ am_ac t = some ci ∧ ¬ i < 0 ∧ i.toNatClampNeg < qs.length ∧ (h.1, h.2.1, am_up h.2.2 a (.inr (.inr (t, qs.set i.toNatClampNeg (some v))))) = h' := by
  unfold am_stq at hg
  split at hg
  · rename_i o ho
    split at hg
    · rename_i x hx
      split at hg
      · rename_i hc
        exact ⟨o.1, o.2, x.1, x.2, ho, hx, hc.1, hc.2.1, hc.2.2, Option.some.inj hg⟩
      · cases hg
    · cases hg
  · cases hg
theorem am_isq_sp {t : Nat} (h : am_isq t = true) : ∃ C, am_ats[t]? = some (.object C) := by
  unfold am_isq at h
  split at h
  · rename_i C hC
    exact ⟨C, hC⟩
  · cases h
theorem am_in {i : Int32} {n : Nat} (h0 : ¬ i < 0) (h1 : i.toNatClampNeg < n) : vp_in i n := fun q => q.elim h0 (fun z => absurd z (Nat.not_le.mpr h1))
theorem am_setD {α : Type} (xs : List α) (d : α) {k : Nat} (v : α) (hk : k < xs.length) (j : Nat) : (xs.set k v).getD j d = if j = k then v else xs.getD j d := by
  by_cases hj : j = k
  · subst hj
    simp [List.getD, hk]
  · simp [List.getD, List.getElem?_set_ne (Ne.symm hj), hj]
theorem am_repD {α : Type} (n : Nat) (d : α) (j : Nat) : (List.replicate n d).getD j d = d := by
  simp only [List.getD, List.getElem?_replicate]
  split <;> rfl
theorem am_store {lo : Nat} {lc : am_L} {ls : Array Slot} {i : Nat} {v : Value} (hL : am_LR lo lc ls) (hi : i < lc.length) (hc : v.category = 1) : ∃ ls', storeLocals ls i (am_u lo v) = some ls' ∧ am_LR lo (lc.set i (some v)) ls' := by
  obtain ⟨hs, hw, hv⟩ := hL
  have hc' : (am_u lo v).category = 1 := by rw [am_u_cat]; exact hc
  have hi' : i < ls.size := by rw [← hs]; exact hi
  obtain ⟨ls', e', h'⟩ := lv_store1 (nL := ls.size) (l := []) ⟨rfl, hw, fun q hq => by cases hq⟩ hi' hc'
  refine ⟨ls', e', by rw [List.length_set, hs]; exact h'.1.symm, h'.2.1, fun j w hj => ?_⟩
  by_cases hji : j = i
  · subst hji
    rw [List.getElem?_set_self hi] at hj
    cases hj
    exact ⟨hc, h'.2.2 _ List.mem_cons_self⟩
  · rw [List.getElem?_set_ne (Ne.symm hji)] at hj
    obtain ⟨c1, c2⟩ := hv j w hj
    refine ⟨c1, ?_⟩
    obtain ⟨ls2, e2, h2⟩ := lv_store1 (nL := ls.size) (l := [(j, am_u lo w)]) ⟨rfl, hw, fun q hq => by rw [List.mem_singleton] at hq; subst hq; exact c2⟩ hi' hc'
    rw [e'] at e2
    cases e2
    refine h2.2.2 (j, am_u lo w) (List.mem_cons_of_mem _ (List.mem_filter.mpr ⟨List.mem_singleton.mpr rfl, ?_⟩))
    simp [hji, am_u_cat, c1]
theorem am_df_u {lo : Nat} {vs : List Value} (h : ∀ v ∈ vs, v = .int 0 ∨ v = .null) : vs.map (am_u lo) = vs := by
  have h2 : vs.map (am_u lo) = vs.map id := List.map_congr_left fun v hv => by rcases h v hv with rfl | rfl <;> rfl
  rw [h2, List.map_id]
section AMW
variable {p : Program} {l : Launch} {e : Env} {R : Room} {s : State} {m : MethodId} {args : Array Value} {below : List Frame} {meth : Method} {c : Code} {H : Heap} {locs : List Loc} {cells slots : Nat} {Q : State → Prop}
variable {cc : ByteArray} {pc : Nat} {ls : Array Slot} {rest : List Value} {D : va_G} {tc : Nat → ClassId} {lo : Nat} {h h' : am_H} {oc : Nat}
theorem am_w_istn (hexec : p.tables.exec = Jvm.exec) (hb : c.code = cc) {k : Fin 4} {x : Int32} {ls' : Array Slot} (hdg : decode cc pc = .ok (.istore_n k, 1)) (e' : storeLocals ls k (.int x) = some ls') (kk : W p l e R s m args below meth c H locs cells slots Q (F0 m (pc + 1) ls' rest)) : W p l e R s m args below meth c H locs cells slots Q (F0 m pc ls (.int x :: rest)) := by
  intro T hT X
  obtain ⟨t, a, b⟩ := kk T hT X
  refine ⟨t, ?_, b⟩
  jvm_step X.here [X.here.top, ↓top_set X.here.top, hexec, hb, hdg, e']
  exact a
theorem am_w_ist (hexec : p.tables.exec = Jvm.exec) (hb : c.code = cc) {k : Nat} {x : Int32} {ls' : Array Slot} (hdg : decode cc pc = .ok (.istore k, 2)) (e' : storeLocals ls k (.int x) = some ls') (kk : W p l e R s m args below meth c H locs cells slots Q (F0 m (pc + 2) ls' rest)) : W p l e R s m args below meth c H locs cells slots Q (F0 m pc ls (.int x :: rest)) := by
  intro T hT X
  obtain ⟨t, a, b⟩ := kk T hT X
  refine ⟨t, ?_, b⟩
  jvm_step X.here [X.here.top, ↓top_set X.here.top, hexec, hb, hdg, e']
  exact a
theorem am_w_astn (hexec : p.tables.exec = Jvm.exec) (hb : c.code = cc) {k : Fin 4} {x : Nat} {ls' : Array Slot} (hdg : decode cc pc = .ok (.astore_n k, 1)) (e' : storeLocals ls k (.ref x) = some ls') (kk : W p l e R s m args below meth c H locs cells slots Q (F0 m (pc + 1) ls' rest)) : W p l e R s m args below meth c H locs cells slots Q (F0 m pc ls (.ref x :: rest)) := by
  intro T hT X
  obtain ⟨t, a, b⟩ := kk T hT X
  refine ⟨t, ?_, b⟩
  jvm_step X.here [X.here.top, ↓top_set X.here.top, hexec, hb, hdg, e', Value.isRef]
  exact a
theorem am_w_ast (hexec : p.tables.exec = Jvm.exec) (hb : c.code = cc) {k : Nat} {x : Nat} {ls' : Array Slot} (hdg : decode cc pc = .ok (.astore k, 2)) (e' : storeLocals ls k (.ref x) = some ls') (kk : W p l e R s m args below meth c H locs cells slots Q (F0 m (pc + 2) ls' rest)) : W p l e R s m args below meth c H locs cells slots Q (F0 m pc ls (.ref x :: rest)) := by
  intro T hT X
  obtain ⟨t, a, b⟩ := kk T hT X
  refine ⟨t, ?_, b⟩
  jvm_step X.here [X.here.top, ↓top_set X.here.top, hexec, hb, hdg, e', Value.isRef]
  exact a
theorem am_w_iinc (hexec : p.tables.exec = Jvm.exec) (hb : c.code = cc) {k : Nat} {n : Int} {x : Int32} {ls' : Array Slot} (hdg : decode cc pc = .ok (.iinc k n, 3)) (hg : ls[k]? = some (.val (.int x))) (e' : storeLocals ls k (.int (x + Int32.ofInt n)) = some ls') (kk : W p l e R s m args below meth c H locs cells slots Q (F0 m (pc + 3) ls' rest)) : W p l e R s m args below meth c H locs cells slots Q (F0 m pc ls rest) := by
  intro T hT X
  obtain ⟨t, a, b⟩ := kk T hT X
  refine ⟨t, ?_, b⟩
  jvm_step X.here [X.here.top, ↓top_set X.here.top, hexec, hb, hdg, hg, e']
  exact a
theorem am_w_get (hx : p.tables.exec = Jvm.exec) (hb : c.code = cc) (hts : ∀ w ∈ am_kw, w.before args s = true) (hown : s.vm.findClass (am_cn oc) = some m.cls) (hK : am_Kn D tc s) (hR : am_R D tc lo h H) {idx a : Nat} {f : Nat × Nat × FieldType × Bool} {v : Value} (hf : am_fl oc idx = some f) (hg : am_get h a f.1 f.2.1 = some v) (hdg : decode cc pc = .ok (.getfield idx, 3))
    (kk : W p l e R s m args below meth c H locs cells slots Q (F0 m (pc + 3) ls (am_u lo v :: rest))) : W p l e R s m args below meth c H locs cells slots Q (F0 m pc ls (.ref (lo + a) :: rest)) := by
  obtain ⟨fs, he, hv⟩ := am_get_sp hg
  obtain ⟨C, T, N, t0, hc, hk, hin, hty, hnm, hT1, hfin, hd, hl, -⟩ := am_fl_ok oc idx f hf
  have hP := am_P1 (hR.2 a _ he)
  have hv' : (fs.map (am_u lo))[f.2.1]? = some (am_u lo v) := by rw [List.getElem?_map, hv]; rfl
  rcases hl with hl | ⟨host, hl⟩
  · exact va_get (D := D) (cl := classes) (tys := []) hx hb hts hin hown hK.1 hP 0 rfl hc f.2.1 hk (hts _ hl) (fun x h9 => by rw [hT1] at h9; exact h9) hv' hdg kk
  · exact va_getN (D := D) (cl := classes) (tys := []) hx hb hts hin hown hK.1 hP 0 rfl hc f.2.1 hk (va_Nw.use rfl (hK.2.2.1 _ hl)) (fun x h9 => by rw [hT1] at h9; exact h9) hv' hdg kk
theorem am_w_put (hx : p.tables.exec = Jvm.exec) (hb : c.code = cc) (hts : ∀ w ∈ am_kw, w.before args s = true) (hown : s.vm.findClass (am_cn oc) = some m.cls) (hK : am_Kn D tc s) (hR : am_R D tc lo h H) {idx a : Nat} {f : Nat × Nat × FieldType × Bool} {v : Value} (hf : am_fl oc idx = some f) (hi : f.2.2.2 = false ∨ (oc = f.1 ∧ meth.name = "<init>")) (hok : am_ok f.2.2.1 v = true) (hg : am_put h a f.1 f.2.1 v = some h') (hdg : decode cc pc = .ok (.putfield idx, 3))
    (kk : ∀ (H1 : Heap) (sl : Nat), am_R D tc lo h' H1 → (∀ x, x < lo → H1[x]? = H[x]?) → W p l e R s m args below meth c H1 (locs ++ [⟨lo + a, sl⟩]) cells slots Q (F0 m (pc + 3) ls rest)) : W p l e R s m args below meth c H locs cells slots Q (F0 m pc ls (am_u lo v :: .ref (lo + a) :: rest)) := by
  obtain ⟨fs, he, hlen, rfl⟩ := am_put_sp hg
  obtain ⟨C, T, N, t0, hc, hk, hin, hty, hnm, hT1, hfin, hd, hl, hll⟩ := am_fl_ok oc idx f hf
  have hap := va_apart (own := "") (D := D) (cl := classes) (tys := []) hts hin t0 hty hnm hK.1 hc
  obtain ⟨r, h1, cell, q1, q2, q3, q4⟩ := hR.2 a _ he
  have hr : r = (C, T, N) := Option.some.inj (h1.symm.trans hc)
  subst hr
  obtain ⟨hS, hfc, kC, hkC, hkind⟩ := hK.1.1 f.1 _ hc
  obtain ⟨cf, kf, fi, fd, hi', hsl⟩ := hS f.2.1 hk
  have hlay := hts _ (hin _ (u_in_lay hk))
  unfold u_lay at hlay
  have hst := (u_facts hfc hkC (u_lays hts hin hk) hi').1
  obtain ⟨hn, hfit⟩ := am_u_ok (lo := lo) hok
  have fin : ∀ H' : Heap, H'[lo + a]? = some (cell.setSlot (D.2 f.1 f.2.1) (am_u lo v)) → H'.size = H.size → (∀ q, q ≠ lo + a → H'[q]? = H[q]?) → am_R D tc lo (h.1, h.2.1, am_up h.2.2 a (.inl (f.1, fs.set f.2.1 v))) H' ∧ ∀ x, x < lo → H'[x]? = H[x]? := by
    intro H' e1 e2 e3
    refine ⟨am_R.up hR e2 ?_ e3, fun x hx => e3 x (by omega)⟩
    refine ⟨_, hc, t_OB.to (V := updV (vp_V (fs.map (am_u lo))) f.2.1 (am_u lo v)) ⟨_, e1, q2, q3, t_set q4 hap hk _⟩ (fun j _ => ?_)⟩
    show _ = vp_V ((fs.set f.2.1 v).map (am_u lo)) j
    rw [vp_updV_set (by simpa using hlen), List.map_set]
  have hi2 : s.fieldFound? C (T f.2.1).2.1 (T f.2.1).2.2.1 = some (cf, kf, fi, fd) := by rw [← hT1]; exact hi'
  by_cases hF : f.2.2.2 = false
  · rw [if_neg (by rw [hfin, hF]; decide)] at hlay
    have h6 := u_store hfc hkC hkind hlay hi' hd hn hfit
    rcases hl with hl | ⟨host, hl⟩
    · refine W.putK hx hb (f := fd) ⟨hown, hts _ hl, ⟨_, _, _, hi2⟩, hst⟩ (by rw [q2]; exact h6) q1 q3 (by rw [hsl]; exact k2_hasslot (q4 _ hk)) rfl rfl hdg fun H' e1 e2 e3 => ?_
      rw [hsl] at e1
      exact kk H' _ (fin H' e1 e2 e3).1 (fin H' e1 e2 e3).2
    · refine va_WputK hx hb (f := fd) hown (va_Nw.use rfl (hK.2.2.1 _ hl)) hi2 hst (by rw [q2]; exact h6) q1 q3 (by rw [hsl]; exact k2_hasslot (q4 _ hk)) rfl rfl hdg fun H' e1 e2 e3 => ?_
      rw [hsl] at e1
      exact kk H' _ (fin H' e1 e2 e3).1 (fin H' e1 e2 e3).2
  · obtain ⟨ho, hin2⟩ := hi.resolve_left hF
    have hF' : f.2.2.2 = true := by cases hz : f.2.2.2 with
      | true => rfl
      | false => exact absurd hz hF
    obtain ⟨hl2, hcn⟩ := hll ho
    rw [if_pos (by rw [hfin, hF'])] at hlay
    have hcf : m.cls = cf := by
      obtain ⟨_, _, c', _, _, _, -, -, hf', -, -, -, hown2, -⟩ := Cond.laysFinal_spec hlay
      have e1 : c' = cf := by have := hi'.symm.trans hf'; simp at this; exact this.1.symm
      rw [hT1, ← hcn] at hown2
      rw [← e1]; exact Option.some.inj (hown.symm.trans hown2)
    have h6 := u_fits hfc hkC hkind (Or.inr hlay) hi' hd hn hfit
    refine W.putFinK hx hb hown (hts _ hl2) hi2 hst hcf hin2 (by rw [q2]; exact h6) q1 q3 (by rw [hsl]; exact k2_hasslot (q4 _ hk)) rfl rfl hdg fun H' e1 e2 e3 => ?_
    rw [hsl] at e1
    exact kk H' _ (fin H' e1 e2 e3).1 (fin H' e1 e2 e3).2
theorem am_K1 {t : Nat} {ty : FieldType} (hK : am_Kn D tc s) (ht : am_ats[t]? = some ty) : va_K D classes [(tc t, ty)] s := by
  refine ⟨hK.1.1, fun k q hk => ?_⟩
  cases k with
  | zero => cases hk; exact hK.2.1 t ty ht
  | succ k => simp at hk
theorem am_getD {α : Type} {xs : List α} {d v : α} {k : Nat} (h : xs[k]? = some v) : xs.getD k d = v := by simp [List.getD, h]
theorem am_w_ild (hx : p.tables.exec = Jvm.exec) (hb : c.code = cc) (hK : am_Kn D tc s) (hR : am_R D tc lo h H) {a : Nat} {i v : Int32} (hg : am_ld h a 0 i = some v) (hdg : decode cc pc = .ok (.iaload, 1))
    (kk : W p l e R s m args below meth c H locs cells slots Q (F0 m (pc + 1) ls (.int v :: rest))) : W p l e R s m args below meth c H locs cells slots Q (F0 m pc ls (.int i :: .ref (lo + a) :: rest)) := by
  obtain ⟨xs, he, h0, hv⟩ := am_ld_sp hg
  refine va_iald (D := D) (cl := classes) (n := xs.length) (f := fun j => xs.getD j 0) hx hb (am_K1 hK (t := 0) (ty := .int) am_ats_0) (am_P1 (hR.2 a _ he)) 0 0 rfl rfl (am_in h0 (List.getElem?_eq_some_iff.mp hv).1) hdg ?_
  rw [am_getD hv]
  exact kk
theorem am_w_zld (hx : p.tables.exec = Jvm.exec) (hb : c.code = cc) (hK : am_Kn D tc s) (hR : am_R D tc lo h H) {a : Nat} {i v : Int32} (hg : am_ld h a 1 i = some v) (hdg : decode cc pc = .ok (.baload, 1))
    (kk : W p l e R s m args below meth c H locs cells slots Q (F0 m (pc + 1) ls (.int v :: rest))) : W p l e R s m args below meth c H locs cells slots Q (F0 m pc ls (.int i :: .ref (lo + a) :: rest)) := by
  obtain ⟨xs, he, h0, hv⟩ := am_ld_sp hg
  refine va_zald (D := D) (cl := classes) (n := xs.length) (f := fun j => xs.getD j 0) hx hb (am_K1 hK (t := 1) (ty := .boolean) am_ats_1) (am_P1 (hR.2 a _ he)) 0 0 rfl rfl (am_in h0 (List.getElem?_eq_some_iff.mp hv).1) hdg ?_
  rw [am_getD hv]
  exact kk
theorem am_w_qld (hx : p.tables.exec = Jvm.exec) (hb : c.code = cc) (hK : am_Kn D tc s) (hR : am_R D tc lo h H) {a : Nat} {i : Int32} {v : Value} (hg : am_ldq h a i = some v) (hdg : decode cc pc = .ok (.aaload, 1))
    (kk : W p l e R s m args below meth c H locs cells slots Q (F0 m (pc + 1) ls (am_u lo v :: rest))) : W p l e R s m args below meth c H locs cells slots Q (F0 m pc ls (.int i :: .ref (lo + a) :: rest)) := by
  obtain ⟨t, qs, q, he, hq, h0, hv, rfl⟩ := am_ldq_sp hg
  obtain ⟨C, hC⟩ := am_isq_sp hq
  refine va_aldq (D := D) (cl := classes) (n := qs.length) (f := fun j => (qs.getD j none).map (fun q => lo + q)) hx hb (am_K1 hK (t := t) (ty := .object C) hC) (am_P1 (hR.2 a _ he)) 0 0 rfl rfl (am_in h0 (List.getElem?_eq_some_iff.mp hv).1) hdg ?_
  rw [am_getD hv, ← am_u_rf]
  exact kk
theorem am_w_len (hx : p.tables.exec = Jvm.exec) (hb : c.code = cc) (hK : am_Kn D tc s) (hR : am_R D tc lo h H) {a : Nat} {v : Int32} (hg : am_len h a = some v) (hdg : decode cc pc = .ok (.arraylength, 1))
    (kk : W p l e R s m args below meth c H locs cells slots Q (F0 m (pc + 1) ls (.int v :: rest))) : W p l e R s m args below meth c H locs cells slots Q (F0 m pc ls (.ref (lo + a) :: rest)) := by
  unfold am_len at hg
  split at hg
  · rename_i o ho
    split at hg
    · rename_i hs
      obtain ⟨ty, hty⟩ := Option.isSome_iff_exists.mp hs
      exact va_alen (D := D) (cl := classes) hx hb (am_K1 hK hty) (am_P1 (hR.2 a _ ho)) 0 0 rfl rfl (Option.some.inj hg) hdg kk
    · cases hg
  · rename_i o ho
    split at hg
    · rename_i hs
      obtain ⟨ty, hty⟩ := Option.isSome_iff_exists.mp hs
      exact va_alen (D := D) (cl := classes) hx hb (am_K1 hK hty) (am_P1 (hR.2 a _ ho)) 0 0 rfl rfl (Option.some.inj hg) hdg kk
    · cases hg
  · cases hg
theorem am_w_ist' (hx : p.tables.exec = Jvm.exec) (hb : c.code = cc) (hK : am_Kn D tc s) (hR : am_R D tc lo h H) {a : Nat} {i v : Int32} (hg : am_sv h a 0 i v = some h') (hdg : decode cc pc = .ok (.iastore, 1))
    (kk : ∀ (H1 : Heap) (sl : Nat), am_R D tc lo h' H1 → (∀ x, x < lo → H1[x]? = H[x]?) → W p l e R s m args below meth c H1 (locs ++ [⟨lo + a, sl⟩]) cells slots Q (F0 m (pc + 1) ls rest)) : W p l e R s m args below meth c H locs cells slots Q (F0 m pc ls (.int v :: .int i :: .ref (lo + a) :: rest)) := by
  obtain ⟨xs, he, h0, hlt, rfl⟩ := am_sv_sp hg
  have hA := (hK.2.1 0 .int am_ats_0).1 xs.length (fun j => .int (xs.getD j 0))
  refine W.iast hx hb (hR.2 a _ he) hA (fun q => by cases q) (by show ¬ (i < 0 ∨ (arrV _ _ _).slots.size ≤ _); rw [arrV_size]; exact am_in h0 hlt) rfl rfl hdg fun H1 e z oq => ?_
  refine kk H1 _ (am_R.up hR z ?_ oq) (fun x hx => oq x (Nat.ne_of_lt (Nat.lt_of_lt_of_le hx (Nat.le_add_right _ _))))
  show H1[lo + a]? = some (arrV (tc 0) (xs.set i.toNatClampNeg v).length (fun j => .int ((xs.set i.toNatClampNeg v).getD j 0)))
  have e' : H1[lo + a]? = some ((arrV (tc 0) xs.length (fun j => .int (xs.getD j 0))).setSlot i.toNatClampNeg (.int v)) := e
  rw [e', arrV_store, List.length_set]
  congr 2
  funext j
  rw [am_setD xs 0 v hlt j]
  unfold updV
  split <;> rfl
theorem am_w_zst' (hx : p.tables.exec = Jvm.exec) (hb : c.code = cc) (hK : am_Kn D tc s) (hR : am_R D tc lo h H) {a : Nat} {i v : Int32} (hg : am_sv h a 1 i (vp_nar .boolean v) = some h') (hdg : decode cc pc = .ok (.bastore, 1))
    (kk : ∀ (H1 : Heap) (sl : Nat), am_R D tc lo h' H1 → (∀ x, x < lo → H1[x]? = H[x]?) → W p l e R s m args below meth c H1 (locs ++ [⟨lo + a, sl⟩]) cells slots Q (F0 m (pc + 1) ls rest)) : W p l e R s m args below meth c H locs cells slots Q (F0 m pc ls (.int v :: .int i :: .ref (lo + a) :: rest)) := by
  obtain ⟨xs, he, h0, hlt, rfl⟩ := am_sv_sp hg
  have hA := (hK.2.1 1 .boolean am_ats_1).1 xs.length (fun j => .int (xs.getD j 0))
  refine W.zast hx hb (hR.2 a _ he) hA (fun q => by cases q) (by show ¬ (i < 0 ∨ (arrV _ _ _).slots.size ≤ _); rw [arrV_size]; exact am_in h0 hlt) rfl rfl hdg fun H1 e z oq => ?_
  refine kk H1 _ (am_R.up hR z ?_ oq) (fun x hx => oq x (Nat.ne_of_lt (Nat.lt_of_lt_of_le hx (Nat.le_add_right _ _))))
  show H1[lo + a]? = some (arrV (tc 1) (xs.set i.toNatClampNeg (vp_nar .boolean v)).length (fun j => .int ((xs.set i.toNatClampNeg (vp_nar .boolean v)).getD j 0)))
  have e' : H1[lo + a]? = some ((arrV (tc 1) xs.length (fun j => .int (xs.getD j 0))).setSlot i.toNatClampNeg (narrow .boolean (.int v))) := e
  rw [e', arrV_store, List.length_set]
  congr 2
  funext j
  rw [am_setD xs 0 (vp_nar .boolean v) hlt j]
  unfold updV
  split <;> rfl
theorem am_w_qst' (hx : p.tables.exec = Jvm.exec) (hb : c.code = cc) (hK : am_Kn D tc s) (hR : am_R D tc lo h H) {a v : Nat} {i : Int32} (hg : am_stq h a i v = some h') (hdg : decode cc pc = .ok (.aastore, 1))
    (kk : ∀ (H1 : Heap) (sl : Nat), am_R D tc lo h' H1 → (∀ x, x < lo → H1[x]? = H[x]?) → W p l e R s m args below meth c H1 (locs ++ [⟨lo + a, sl⟩]) cells slots Q (F0 m (pc + 1) ls rest)) : W p l e R s m args below meth c H locs cells slots Q (F0 m pc ls (.ref (lo + v) :: .int i :: .ref (lo + a) :: rest)) := by
  obtain ⟨t, qs, ci, vs, he, hv, hac, h0, hlt, rfl⟩ := am_stq_sp hg
  obtain ⟨r, hc, hty⟩ := am_ac_ok t ci hac
  obtain ⟨r', hr', cellV, g1, g2, g3, -⟩ := hR.2 v _ hv
  have hcls := (hK.1.1 ci r hc).2
  obtain ⟨kA, comp, k1, k2, k3, -⟩ := (hK.2.1 t _ hty).2
  have hcomp : comp = D.1 ci := Option.some.inj (k3.symm.trans hcls.1)
  subst hcomp
  obtain ⟨kC, hkC, -⟩ := hcls.2
  refine W.aast hx hb (hR.2 a _ he) (fun q h => by cases h) (fun h => by cases h) k1 k2 rfl hkC ⟨h0, by show _ < (arrV _ _ _).slots.size; rw [arrV_size]; exact hlt⟩ g1 (fun q h => by rw [g3] at h; cases h) (by rw [g2]; exact hkC) (by rw [g2]; exact va_assign hcls) rfl rfl hdg fun H1 e z oq => ?_
  refine kk H1 _ (am_R.up hR z ?_ oq) (fun x hx => oq x (Nat.ne_of_lt (Nat.lt_of_lt_of_le hx (Nat.le_add_right _ _))))
  show H1[lo + a]? = some (arrV (tc t) (qs.set i.toNatClampNeg (some v)).length (fun j => va_rf (((qs.set i.toNatClampNeg (some v)).getD j none).map (fun q => lo + q))))
  have e' : H1[lo + a]? = some ((arrV (tc t) qs.length (fun j => va_rf ((qs.getD j none).map (fun q => lo + q)))).setSlot i.toNatClampNeg (.ref (lo + v))) := e
  rw [e', arrV_store, List.length_set]
  congr 2
  funext j
  rw [am_setD qs none (some v) hlt j]
  unfold updV
  split <;> rfl
theorem am_w_new (hx : p.tables.exec = Jvm.exec) (hb : c.code = cc) (hts : ∀ w ∈ am_kw, w.before args s = true) (hown : s.vm.findClass (am_cn oc) = some m.cls) (hK : am_Kn D tc s) (hR : am_R D tc lo h H) {idx ci : Nat} (hf : am_cl oc idx = some ci) (hcells : cells + 1 ≤ R.cells) (hslots : slots + (am_df ci).length ≤ R.slots) (hdg : decode cc pc = .ok (.new idx, 3))
    (kk : ∀ H1 : Heap, am_R D tc lo (am_new h (.inl (ci, am_df ci)) (am_df ci).length) H1 → (∀ x, x < lo → H1[x]? = H[x]?) → W p l e R s m args below meth c H1 locs (cells + 1) (slots + (am_df ci).length) Q (F0 m (pc + 3) ls (.ref (lo + h.1) :: rest))) : W p l e R s m args below meth c H locs cells slots Q (F0 m pc ls rest) := by
  obtain ⟨C, T, N, t0, hc, hin, hty, hlink, hinst, hini, hdf, hN, hmap⟩ := am_cl_ok0 oc idx ci hf
  have hKn := hK.1.1 ci _ hc
  subst hN
  refine W.newcK hx hb hown (hts _ hlink) (hts _ hinst) (hts _ hini) rfl hdg hcells hslots hKn.2.1 hR.1 fun H1 kC hkC e1 z1 o1 => ?_
  refine kk H1 (am_R.push _ hR z1 ?_ o1) (fun x hx => o1 x (by omega))
  exact ⟨_, hc, (u_born t0 hts hin hKn hkC e1 hty).to (fun j hj => by show _ = vp_V ((am_df ci).map (am_u lo)) j; rw [am_df_u hmap]; exact hdf j hj)⟩
theorem am_w_newi (hx : p.tables.exec = Jvm.exec) (hb : c.code = cc) (hts : ∀ w ∈ am_kw, w.before args s = true) (hK : am_Kn D tc s) (hR : am_R D tc lo h H) {n : Int32} (hn : ¬ n < 0) (hN : n.toNatClampNeg ≤ 1000000) (hcells : cells + 1 ≤ R.cells) (hslots : slots + n.toNatClampNeg ≤ R.slots) (hdg : decode cc pc = .ok (.newarray .int, 2))
    (kk : ∀ H1 : Heap, am_R D tc lo (am_new h (.inr (.inl (0, List.replicate n.toNatClampNeg 0))) n.toNatClampNeg) H1 → (∀ x, x < lo → H1[x]? = H[x]?) → W p l e R s m args below meth c H1 locs (cells + 1) (slots + n.toNatClampNeg) Q (F0 m (pc + 2) ls (.ref (lo + h.1) :: rest))) : W p l e R s m args below meth c H locs cells slots Q (F0 m pc ls (.int n :: rest)) := by
  refine va_newaK hx hb (hts _ am_kw_int) rfl hdg rfl hn rfl (by show _ * 4 ≤ _; omega) hcells hslots hR.1 fun H1 cA e1 z1 o1 hAr hNm => ?_
  have hcA : cA = tc 0 := Option.some.inj (hNm.symm.trans (hK.2.1 0 .int am_ats_0).2)
  subst hcA
  refine kk H1 (am_R.push _ hR z1 ?_ o1) (fun x hx => o1 x (by omega))
  show H1[lo + h.1]? = some (arrV (tc 0) (List.replicate n.toNatClampNeg (0 : Int32)).length (fun j => .int ((List.replicate n.toNatClampNeg (0 : Int32)).getD j 0)))
  rw [e1, List.length_replicate]
  congr 2
  funext j
  rw [am_repD]
  rfl
theorem am_w_newz (hx : p.tables.exec = Jvm.exec) (hb : c.code = cc) (hts : ∀ w ∈ am_kw, w.before args s = true) (hK : am_Kn D tc s) (hR : am_R D tc lo h H) {n : Int32} (hn : ¬ n < 0) (hN : n.toNatClampNeg ≤ 1000000) (hcells : cells + 1 ≤ R.cells) (hslots : slots + n.toNatClampNeg ≤ R.slots) (hdg : decode cc pc = .ok (.newarray .boolean, 2))
    (kk : ∀ H1 : Heap, am_R D tc lo (am_new h (.inr (.inl (1, List.replicate n.toNatClampNeg 0))) n.toNatClampNeg) H1 → (∀ x, x < lo → H1[x]? = H[x]?) → W p l e R s m args below meth c H1 locs (cells + 1) (slots + n.toNatClampNeg) Q (F0 m (pc + 2) ls (.ref (lo + h.1) :: rest))) : W p l e R s m args below meth c H locs cells slots Q (F0 m pc ls (.int n :: rest)) := by
  refine va_newaK hx hb (hts _ am_kw_bool) rfl hdg rfl hn rfl (by show _ * 1 ≤ _; omega) hcells hslots hR.1 fun H1 cA e1 z1 o1 hAr hNm => ?_
  have hcA : cA = tc 1 := Option.some.inj (hNm.symm.trans (hK.2.1 1 .boolean am_ats_1).2)
  subst hcA
  refine kk H1 (am_R.push _ hR z1 ?_ o1) (fun x hx => o1 x (by omega))
  show H1[lo + h.1]? = some (arrV (tc 1) (List.replicate n.toNatClampNeg (0 : Int32)).length (fun j => .int ((List.replicate n.toNatClampNeg (0 : Int32)).getD j 0)))
  rw [e1, List.length_replicate]
  congr 2
  funext j
  rw [am_repD]
  rfl
theorem am_w_newq (hx : p.tables.exec = Jvm.exec) (hb : c.code = cc) (hts : ∀ w ∈ am_kw, w.before args s = true) (hown : s.vm.findClass (am_cn oc) = some m.cls) (hK : am_Kn D tc s) (hR : am_R D tc lo h H) {idx t : Nat} (hf : am_al oc idx = some t) {n : Int32} (hn : ¬ n < 0) (hN : n.toNatClampNeg ≤ 1000000) (hcells : cells + 1 ≤ R.cells) (hslots : slots + n.toNatClampNeg ≤ R.slots) (hdg : decode cc pc = .ok (.anewarray idx, 3))
    (kk : ∀ H1 : Heap, am_R D tc lo (am_new h (.inr (.inr (t, List.replicate n.toNatClampNeg none))) n.toNatClampNeg) H1 → (∀ x, x < lo → H1[x]? = H[x]?) → W p l e R s m args below meth c H1 locs (cells + 1) (slots + n.toNatClampNeg) Q (F0 m (pc + 3) ls (.ref (lo + h.1) :: rest))) : W p l e R s m args below meth c H locs cells slots Q (F0 m pc ls (.int n :: rest)) := by
  obtain ⟨C, hty, hlink, hao⟩ := am_al_ok oc idx t hf
  refine W.anew hx hb hown (hts _ hlink) (va_AO.use (hK.2.2.2 C hao)) rfl hdg rfl hn (by omega) hcells hslots fun cA kA comp f1 f2 f3 f4 => ?_
  obtain ⟨kA', comp', k1, k2, k3, k4⟩ := (hK.2.1 t _ hty).2
  have hcA : cA = tc t := Option.some.inj (f1.symm.trans k4)
  subst hcA
  have hsz := hR.1
  generalize hH1 : H.push ({ cls := tc t, slots := Array.replicate n.toNatClampNeg .null, vm := .none } : Cell) = H1
  have z1 : H1.size = lo + h.1 + 1 := by rw [← hH1, Array.size_push, hsz]
  have e1 : H1[lo + h.1]? = some (arrV (tc t) n.toNatClampNeg (fun _ => .null)) := by rw [← hH1, ← hsz, Array.getElem?_push_size, ← arrV_new]
  have o1 : ∀ q : Nat, q < lo + h.1 → H1[q]? = H[q]? := fun q hq => by rw [← hH1, Array.getElem?_push, if_neg (Nat.ne_of_lt (by rw [hsz]; exact hq))]
  rw [hsz]
  refine kk H1 (am_R.push _ hR z1 ?_ o1) (fun x hx => o1 x (by omega))
  show H1[lo + h.1]? = some (arrV (tc t) (List.replicate n.toNatClampNeg (none : Option Nat)).length (fun j => va_rf (((List.replicate n.toNatClampNeg (none : Option Nat)).getD j none).map (fun q => lo + q))))
  rw [e1, List.length_replicate]
  congr 2
  funext j
  rw [am_repD]
  rfl
end AMW
