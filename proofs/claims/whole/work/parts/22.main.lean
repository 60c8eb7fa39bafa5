def am_rm (d mc ms : Nat) : Room := { frames := d + 1, cells := mc, slots := ms, locals := 60 * (d + 1) }
def am_ws (q : am_M) : List Jvm.Cond := Jvm.Cond.code q.1 q.2.1 q.2.2.1 q.2.2.2.1 :: am_kw
def am_Pr (D : va_G) (tc : Nat → ClassId) (lo : Nat) (h : am_H) (U : State) : Prop := am_R D tc lo h U.heap ∧ am_Kn D tc U
def am_Q (D : va_G) (tc : Nat → ClassId) (lo : Nat) (r : Option Value) (h' : am_H) : Array Value → State → Outcome → State → Prop := fun _ st o t => o = .returned (r.map (am_u lo)) ∧ am_Pr D tc lo h' t ∧ ∀ a, a < lo → t.heap[a]? = st.heap[a]?
def am_X (D : va_G) (tc : Nat → ClassId) (q : am_M) (p : Program) (s : State) (m : MethodId) (args : Array Value) (meth : Method) (c : Code) : Prop := p.tables.exec = Jvm.exec ∧ c.code = q.2.1 ∧ c.maxLocals = q.2.2.1 ∧ s.vm.findClass (am_cn q.2.2.2.2.1) = some m.cls ∧ (∀ w ∈ am_kw, w.before args s = true) ∧ meth.sig.returnType = q.2.2.2.1 ∧ meth.locks = false ∧ (q.2.2.2.2.2 = true → meth.name = "<init>") ∧ am_Kn D tc s
theorem am_li_sp {lc lc' : am_L} {i : Nat} {st st' : List Value} (h : am_li lc i st = some (lc', st')) : ∃ x, lc[i]? = some (some (.int x)) ∧ lc = lc' ∧ .int x :: st = st' := by
  unfold am_li at h
  split at h
  · rename_i x hx
    cases h
    exact ⟨x, hx, rfl, rfl⟩
  · cases h
theorem am_la_sp {lc lc' : am_L} {i : Nat} {st st' : List Value} (h : am_la lc i st = some (lc', st')) : ∃ x, lc[i]? = some (some (.ref x)) ∧ lc = lc' ∧ .ref x :: st = st' := by
  unfold am_la at h
  split at h
  · rename_i x hx
    cases h
    exact ⟨x, hx, rfl, rfl⟩
  · cases h
theorem am_si_sp {lc lc' : am_L} {i : Nat} {st st' : List Value} (h : am_si lc i st = some (lc', st')) : ∃ x, .int x :: st' = st ∧ i < lc.length ∧ lc.set i (some (.int x)) = lc' := by
  unfold am_si at h
  split at h
  · rename_i x r
    split at h
    · rename_i hi
      cases h
      exact ⟨x, rfl, hi, rfl⟩
    · cases h
  · cases h
theorem am_sa_sp {lc lc' : am_L} {i : Nat} {st st' : List Value} (h : am_sa lc i st = some (lc', st')) : ∃ x, .ref x :: st' = st ∧ i < lc.length ∧ lc.set i (some (.ref x)) = lc' := by
  unfold am_sa at h
  split at h
  · rename_i x r
    split at h
    · rename_i hi
      cases h
      exact ⟨x, rfl, hi, rfl⟩
    · cases h
  · cases h
theorem am_ii_sp {lc lc' : am_L} {i : Nat} {n : Int} {st st' : List Value} (h : am_ii lc i n st = some (lc', st')) : ∃ x, lc[i]? = some (some (.int x)) ∧ i < lc.length ∧ lc.set i (some (.int (x + Int32.ofInt n))) = lc' ∧ st = st' := by
  unfold am_ii at h
  split at h
  · rename_i x hx
    split at h
    · rename_i hi
      cases h
      exact ⟨x, hx, hi, rfl, rfl⟩
    · cases h
  · cases h
theorem am_b2_sp {f : Int32 → Int32 → Int32} {lc lc' : am_L} {st st' : List Value} (h : am_b2 f lc st = some (lc', st')) : ∃ x y r, .int y :: .int x :: r = st ∧ lc = lc' ∧ .int (f x y) :: r = st' := by
  unfold am_b2 at h
  split at h
  · rename_i y x r
    cases h
    exact ⟨x, y, r, rfl, rfl, rfl⟩
  · cases h
section AMP
variable {p : Program} {l : Launch} {e : Env} {R : Room} {s : State} {m : MethodId} {args : Array Value} {below : List Frame} {meth : Method} {c : Code} {H : Heap} {locs : List Loc} {cells slots : Nat} {Q : State → Prop}
variable {cc : ByteArray} {pc len : Nat} {ls : Array Slot} {D : va_G} {tc : Nat → ClassId} {lo : Nat} {h h' : am_H} {q : am_M} {i : Instr} {lc lc' : am_L} {st st' : List Value}
set_option maxHeartbeats 4000000 in
theorem am_w_pu (hx : p.tables.exec = Jvm.exec) (hb : c.code = cc) (hp : am_pu i len lc st = some (lc', st')) (hdg : decode cc pc = .ok (i, len)) (hL : am_LR lo lc ls) (kk : ∀ ls', am_LR lo lc' ls' → W p l e R s m args below meth c H locs cells slots Q (F0 m (pc + len) ls' (st'.map (am_u lo)))) : W p l e R s m args below meth c H locs cells slots Q (F0 m pc ls (st.map (am_u lo))) := by
  unfold am_pu at hp
  split at hp
  · cases hp; exact lv_iconst hx hb hdg rfl (kk ls hL)
  · cases hp; exact lv_bipush hx hb hdg rfl (kk ls hL)
  · cases hp; exact lv_sipush hx hb hdg rfl (kk ls hL)
  · obtain ⟨x, h1, rfl, rfl⟩ := am_li_sp hp; exact lv_iload_n hx hb hdg rfl (hL.2.2 _ _ h1).2 (kk ls hL)
  · obtain ⟨x, h1, rfl, rfl⟩ := am_li_sp hp; exact lv_iload hx hb hdg (hL.2.2 _ _ h1).2 (kk ls hL)
  · obtain ⟨x, h1, rfl, rfl⟩ := am_la_sp hp; exact lv_aload_n hx hb hdg rfl (hL.2.2 _ _ h1).2 (kk ls hL)
  · obtain ⟨x, h1, rfl, rfl⟩ := am_la_sp hp; exact lv_aload hx hb hdg (hL.2.2 _ _ h1).2 (kk ls hL)
  · obtain ⟨x, rfl, h1, rfl⟩ := am_si_sp hp
    obtain ⟨ls', e', h'⟩ := am_store (v := .int x) hL h1 rfl
    exact am_w_istn hx hb hdg e' (kk ls' h')
  · obtain ⟨x, rfl, h1, rfl⟩ := am_si_sp hp
    obtain ⟨ls', e', h'⟩ := am_store (v := .int x) hL h1 rfl
    exact am_w_ist hx hb hdg e' (kk ls' h')
  · obtain ⟨x, rfl, h1, rfl⟩ := am_sa_sp hp
    obtain ⟨ls', e', h'⟩ := am_store (v := .ref x) hL h1 rfl
    exact am_w_astn hx hb hdg e' (kk ls' h')
  · obtain ⟨x, rfl, h1, rfl⟩ := am_sa_sp hp
    obtain ⟨ls', e', h'⟩ := am_store (v := .ref x) hL h1 rfl
    exact am_w_ast hx hb hdg e' (kk ls' h')
  · obtain ⟨x, h0, h1, rfl, rfl⟩ := am_ii_sp hp
    obtain ⟨ls', e', h'⟩ := am_store hL h1 (v := .int (x + Int32.ofInt _)) rfl
    exact am_w_iinc hx hb hdg (hL.2.2 _ _ h0).2 e' (kk ls' h')
  · obtain ⟨x, y, r, rfl, rfl, rfl⟩ := am_b2_sp hp; exact lv_iadd hx hb hdg (kk ls hL)
  · obtain ⟨x, y, r, rfl, rfl, rfl⟩ := am_b2_sp hp; exact lv_isub hx hb hdg (kk ls hL)
  · obtain ⟨x, y, r, rfl, rfl, rfl⟩ := am_b2_sp hp; exact lv_imul hx hb hdg (kk ls hL)
  · obtain ⟨x, y, r, rfl, rfl, rfl⟩ := am_b2_sp hp; exact lv_iand hx hb hdg (kk ls hL)
  · obtain ⟨x, y, r, rfl, rfl, rfl⟩ := am_b2_sp hp; exact lv_ior hx hb hdg (kk ls hL)
  · obtain ⟨x, y, r, rfl, rfl, rfl⟩ := am_b2_sp hp; exact lv_ixor hx hb hdg (kk ls hL)
  · obtain ⟨x, y, r, rfl, rfl, rfl⟩ := am_b2_sp hp; exact lv_ishl hx hb hdg (kk ls hL)
  · obtain ⟨x, y, r, rfl, rfl, rfl⟩ := am_b2_sp hp; exact lv_ishr hx hb hdg (kk ls hL)
  · obtain ⟨x, y, r, rfl, rfl, rfl⟩ := am_b2_sp hp; exact lv_iushr hx hb hdg rfl (kk ls hL)
  · split at hp
    · split at hp
      · rename_i hne
        cases hp; exact lv_irem hx hb hdg hne (kk ls hL)
      · cases hp
    · cases hp
  · split at hp
    · split at hp
      · rename_i hne
        cases hp; exact lv_idiv hx hb hdg hne (kk ls hL)
      · cases hp
    · cases hp
  · split at hp
    · cases hp; exact lv_ineg hx hb hdg (kk ls hL)
    · cases hp
  · split at hp
    · split at hp
      · rename_i hc
        cases hp; exact lv_dup hx hb hdg (by rw [am_u_cat]; exact hc) (kk ls hL)
      · cases hp
    · cases hp
  · split at hp
    · split at hp
      · rename_i hc
        cases hp; exact lv_pop hx hb hdg (by rw [am_u_cat]; exact hc) (kk ls hL)
      · cases hp
    · cases hp
  · split at hp
    · split at hp
      · rename_i hc
        cases hp; exact lv_dup_x1 hx hb hdg (by rw [am_u_cat]; exact hc.1) (by rw [am_u_cat]; exact hc.2) (kk ls hL)
      · cases hp
    · cases hp
  · split at hp
    · split at hp
      · rename_i hc
        cases hp; exact lv_dup_x2 hx hb hdg (by rw [am_u_cat]; exact hc.1) (by rw [am_u_cat]; exact hc.2.1) (by rw [am_u_cat]; exact hc.2.2) (kk ls hL)
      · cases hp
    · cases hp
  · split at hp
    · split at hp
      · rename_i hc
        cases hp; exact lv_dup2_11 hx hb hdg (by rw [am_u_cat]; exact hc.1) (by rw [am_u_cat]; exact hc.2) (kk ls hL)
      · cases hp
    · cases hp
  · cases hp
theorem am_jt {pc : Nat} {off : Int} (h0 : 0 ≤ (pc : Int) + off) : (pc : Int) + off = ((am_j pc off : Nat) : Int) := (Int.toNat_of_nonneg h0).symm
set_option maxHeartbeats 4000000 in
theorem am_w_bb {pc' : Nat} (hx : p.tables.exec = Jvm.exec) (hb : c.code = cc) (hp : am_bb i len pc st = some (pc', st')) (hdg : decode cc pc = .ok (i, len)) (kk : W p l e R s m args below meth c H locs cells slots Q (F0 m pc' ls (st'.map (am_u lo)))) : W p l e R s m args below meth c H locs cells slots Q (F0 m pc ls (st.map (am_u lo))) := by
  unfold am_bb at hp
  split at hp
  · rename_i cd off
    split at hp
    · rename_i x r
      split at hp
      · rename_i hc
        obtain ⟨rfl, h0⟩ := hc
        cases hp
        have ht := am_jt h0
        cases cd
        · exact lv_if_eq hx hb hdg ht (fun z => by simpa [am_c1, z] using kk) (fun z => by simpa [am_c1, z] using kk)
        · exact lv_if_ne hx hb hdg ht (fun z => by simpa [am_c1, z] using kk) (fun z => by simpa [am_c1, z] using kk)
        · exact lv_if_lt hx hb hdg ht (fun z => by rw [if_pos (by simpa [am_c1] using z)] at kk; exact kk) (fun z => by rw [if_neg (by simpa [am_c1] using z)] at kk; exact kk)
        · exact lv_if_ge hx hb hdg ht (fun z => by rw [if_pos (by simpa [am_c1] using z)] at kk; exact kk) (fun z => by rw [if_neg (by simpa [am_c1] using z)] at kk; exact kk)
        · exact lv_if_gt hx hb hdg ht (fun z => by rw [if_pos (by simpa [am_c1] using z)] at kk; exact kk) (fun z => by rw [if_neg (by simpa [am_c1] using z)] at kk; exact kk)
        · exact lv_if_le hx hb hdg ht (fun z => by rw [if_pos (by simpa [am_c1] using z)] at kk; exact kk) (fun z => by rw [if_neg (by simpa [am_c1] using z)] at kk; exact kk)
      · cases hp
    · cases hp
  · rename_i cd off
    split at hp
    · rename_i y x r
      split at hp
      · rename_i hc
        obtain ⟨rfl, h0⟩ := hc
        cases hp
        have ht := am_jt h0
        cases cd
        · exact lv_icmp_eq hx hb hdg ht (fun z => by rw [if_pos (by simpa [am_c2] using z)] at kk; exact kk) (fun z => by rw [if_neg (by simpa [am_c2] using z)] at kk; exact kk)
        · exact lv_icmp_ne hx hb hdg ht (fun z => by rw [if_pos (by simpa [am_c2] using z)] at kk; exact kk) (fun z => by rw [if_neg (by simpa [am_c2] using z)] at kk; exact kk)
        · exact lv_icmp_lt hx hb hdg ht (fun z => by rw [if_pos (by simpa [am_c2] using z)] at kk; exact kk) (fun z => by rw [if_neg (by simpa [am_c2] using z)] at kk; exact kk)
        · exact lv_icmp_ge hx hb hdg ht (fun z => by rw [if_pos (by simpa [am_c2] using z)] at kk; exact kk) (fun z => by rw [if_neg (by simpa [am_c2] using z)] at kk; exact kk)
        · exact lv_icmp_gt hx hb hdg ht (fun z => by rw [if_pos (by simpa [am_c2] using z)] at kk; exact kk) (fun z => by rw [if_neg (by simpa [am_c2] using z)] at kk; exact kk)
        · exact lv_icmp_le hx hb hdg ht (fun z => by rw [if_pos (by simpa [am_c2] using z)] at kk; exact kk) (fun z => by rw [if_neg (by simpa [am_c2] using z)] at kk; exact kk)
      · cases hp
    · cases hp
  · split at hp
    · rename_i hc
      obtain ⟨rfl, h0⟩ := hc
      cases hp
      exact lv_goto hx hb hdg (am_jt h0) kk
    · cases hp
  · rename_i dflt a b offs
    split at hp
    · rename_i x r
      split at hp
      · rename_i hr
        split at hp
        · rename_i h0
          cases hp
          exact lv_tableOut hx hb hdg hr (am_jt h0) kk
        · cases hp
      · rename_i hr
        split at hp
        · rename_i off ho
          split at hp
          · rename_i h0
            cases hp
            exact lv_tableIn hx hb hdg (fun z => hr (Or.inl z)) (fun z => hr (Or.inr z)) ho (am_jt h0) kk
          · cases hp
        · cases hp
    · cases hp
  · rename_i dflt ps
    split at hp
    · rename_i x r
      split at hp
      · rename_i hc
        cases hp
        exact lv_lookup hx hb hdg hc.1 rfl (am_jt hc.2) kk
      · cases hp
    · cases hp
  · cases hp
theorem am_mapo {α β : Type} {o : Option α} {f : α → β} {b : β} (h : o.map f = some b) : ∃ a, o = some a ∧ f a = b := by
  cases o with
  | none => cases h
  | some a => exact ⟨a, rfl, Option.some.inj h⟩
set_option maxHeartbeats 4000000 in
theorem am_w_hp {h1 : am_H} (X : am_X D tc q p s m args meth c) (hp : am_hp q i len st h = some (st', h1)) (hdg : decode q.2.1 pc = .ok (i, len)) (hR : am_R D tc lo h H) (hsz : ls.size = q.2.2.1) (hrf : 1 ≤ R.frames) (hrl : 60 ≤ R.locals) (hcells : cells + (h1.1 - h.1) ≤ R.cells) (hslots : slots + (h1.2.1 - h.2.1) ≤ R.slots)
    (kk : ∀ (H1 : Heap) (locs1 : List Loc), am_R D tc lo h1 H1 → (∀ x, x < lo → H1[x]? = H[x]?) → (∀ x ∈ locs1, x ∈ locs ∨ lo ≤ x.base) → W p l e R s m args below meth c H1 locs1 (cells + (h1.1 - h.1)) (slots + (h1.2.1 - h.2.1)) Q (F0 m (pc + len) ls (st'.map (am_u lo)))) : W p l e R s m args below meth c H locs cells slots Q (F0 m pc ls (st.map (am_u lo))) := by
  obtain ⟨hx, hb, hml, hown, hts, hr, hlk, hin, hK⟩ := X
  have stay : ∀ {st2 : List Value} {ln : Nat}, (∀ (H1 : Heap) (locs1 : List Loc), am_R D tc lo h H1 → (∀ x, x < lo → H1[x]? = H[x]?) → (∀ x ∈ locs1, x ∈ locs ∨ lo ≤ x.base) → W p l e R s m args below meth c H1 locs1 (cells + (h.1 - h.1)) (slots + (h.2.1 - h.2.1)) Q (F0 m (pc + ln) ls (st2.map (am_u lo)))) → W p l e R s m args below meth c H locs cells slots Q (F0 m (pc + ln) ls (st2.map (am_u lo))) := by
    intro st2 ln k2
    have := k2 H locs hR (fun _ _ => rfl) (fun x hx => Or.inl hx)
    rw [Nat.sub_self, Nat.sub_self, Nat.add_zero, Nat.add_zero] at this
    exact this
  have gone : ∀ {a sl : Nat} {x : Loc}, x ∈ locs ++ [⟨lo + a, sl⟩] → x ∈ locs ∨ lo ≤ x.base := by
    intro a sl x hx
    rcases List.mem_append.mp hx with h | h
    · exact Or.inl h
    · rw [List.mem_singleton.mp h]
      exact Or.inr (Nat.le_add_right _ _)
  have back : ∀ {f2 : Nat → Option am_E} {st2 : List Value} {ln : Nat}, (∀ (H1 : Heap) (locs1 : List Loc), am_R D tc lo (h.1, h.2.1, f2) H1 → (∀ x, x < lo → H1[x]? = H[x]?) → (∀ x ∈ locs1, x ∈ locs ∨ lo ≤ x.base) → W p l e R s m args below meth c H1 locs1 (cells + (h.1 - h.1)) (slots + (h.2.1 - h.2.1)) Q (F0 m (pc + ln) ls (st2.map (am_u lo)))) → ∀ (H1 : Heap) (lx : List Loc), am_R D tc lo (h.1, h.2.1, f2) H1 → (∀ x, x < lo → H1[x]? = H[x]?) → (∀ x ∈ lx, x ∈ locs ∨ lo ≤ x.base) → W p l e R s m args below meth c H1 lx cells slots Q (F0 m (pc + ln) ls (st2.map (am_u lo))) := by
    intro f2 st2 ln k2 H1 lx r1 r2 r3
    have := k2 H1 lx r1 r2 r3
    rw [Nat.sub_self, Nat.sub_self, Nat.add_zero, Nat.add_zero] at this
    exact this
  unfold am_hp at hp
  split at hp
  · split at hp
    · rename_i f hf
      split at hp
      · obtain ⟨v, hv, hh⟩ := am_mapo hp
        cases hh
        exact am_w_get hx hb hts hown hK hR hf hv hdg (stay kk)
      · cases hp
    · cases hp
  · split at hp
    · rename_i f hf
      split at hp
      · split at hp
        · rename_i hc
          obtain ⟨h2, hv, hh⟩ := am_mapo hp
          cases hh
          have hh1 := am_put_sp hv
          refine am_w_put hx hb hts hown hK hR hf (hc.2.imp id (fun z => ⟨z.2, hin z.1⟩)) hc.1 hv hdg (fun H1 sl r1 r2 => ?_)
          obtain ⟨fs, -, -, rfl⟩ := hh1
          refine back kk H1 _ r1 r2 (fun x hx => gone hx)
        · cases hp
      · cases hp
    · cases hp
  · split at hp
    · obtain ⟨v, hv, hh⟩ := am_mapo hp
      cases hh
      exact am_w_ild hx hb hK hR hv hdg (stay kk)
    · cases hp
  · split at hp
    · obtain ⟨v, hv, hh⟩ := am_mapo hp
      cases hh
      exact am_w_zld hx hb hK hR hv hdg (stay kk)
    · cases hp
  · split at hp
    · obtain ⟨v, hv, hh⟩ := am_mapo hp
      cases hh
      exact am_w_qld hx hb hK hR hv hdg (stay kk)
    · cases hp
  · split at hp
    · obtain ⟨h2, hv, hh⟩ := am_mapo hp
      cases hh
      have hh1 := am_sv_sp hv
      refine am_w_ist' hx hb hK hR hv hdg (fun H1 sl r1 r2 => ?_)
      obtain ⟨fs, -, -, -, rfl⟩ := hh1
      refine back kk H1 _ r1 r2 (fun x hx => gone hx)
    · cases hp
  · split at hp
    · obtain ⟨h2, hv, hh⟩ := am_mapo hp
      cases hh
      have hh1 := am_sv_sp hv
      refine am_w_zst' hx hb hK hR hv hdg (fun H1 sl r1 r2 => ?_)
      obtain ⟨fs, -, -, -, rfl⟩ := hh1
      refine back kk H1 _ r1 r2 (fun x hx => gone hx)
    · cases hp
  · split at hp
    · obtain ⟨h2, hv, hh⟩ := am_mapo hp
      cases hh
      have hh1 := am_stq_sp hv
      refine am_w_qst' hx hb hK hR hv hdg (fun H1 sl r1 r2 => ?_)
      obtain ⟨_, _, _, _, -, -, -, -, -, rfl⟩ := hh1
      refine back kk H1 _ r1 r2 (fun x hx => gone hx)
    · cases hp
  · split at hp
    · obtain ⟨v, hv, hh⟩ := am_mapo hp
      cases hh
      exact am_w_len hx hb hK hR hv hdg (stay kk)
    · cases hp
  · split at hp
    · rename_i ci hf
      cases hp
      dsimp only [am_new] at hcells hslots kk
      rw [Nat.add_sub_cancel_left] at hcells hslots kk
      rw [Nat.add_sub_cancel_left] at kk
      exact am_w_new hx hb hts hown hK hR hf hcells hslots hdg (fun H1 r1 r2 => kk H1 locs r1 r2 (fun x hx => Or.inl hx))
    · cases hp
  · split at hp
    · split at hp
      · rename_i hc
        cases hp
        dsimp only [am_new] at hcells hslots kk
        rw [Nat.add_sub_cancel_left] at hcells hslots kk
        rw [Nat.add_sub_cancel_left] at kk
        exact am_w_newi hx hb hts hK hR hc.1 hc.2 hcells hslots hdg (fun H1 r1 r2 => kk H1 locs r1 r2 (fun x hx => Or.inl hx))
      · cases hp
    · cases hp
  · split at hp
    · split at hp
      · rename_i hc
        cases hp
        dsimp only [am_new] at hcells hslots kk
        rw [Nat.add_sub_cancel_left] at hcells hslots kk
        rw [Nat.add_sub_cancel_left] at kk
        exact am_w_newz hx hb hts hK hR hc.1 hc.2 hcells hslots hdg (fun H1 r1 r2 => kk H1 locs r1 r2 (fun x hx => Or.inl hx))
      · cases hp
    · cases hp
  · split at hp
    · rename_i t hf
      split at hp
      · split at hp
        · rename_i hc
          cases hp
          dsimp only [am_new] at hcells hslots kk
          rw [Nat.add_sub_cancel_left] at hcells hslots kk
          rw [Nat.add_sub_cancel_left] at kk
          exact am_w_newq hx hb hts hown hK hR hf hc.1 hc.2 hcells hslots hdg (fun H1 r1 r2 => kk H1 locs r1 r2 (fun x hx => Or.inl hx))
        · cases hp
      · cases hp
    · cases hp
  · split at hp
    · rename_i v hf
      cases hp
      exact lv_ldc hx hb hown (hts _ (am_kc_ok _ _ _ hf)) hdg (stay kk)
    · cases hp
  · split at hp
    · rename_i v hf
      cases hp
      exact lv_ldcw hx hb hown (hts _ (am_kc_ok _ _ _ hf)) hdg (stay kk)
    · cases hp
  · split at hp
    · rename_i f hf
      split at hp
      · rename_i a r
        split at hp
        · rename_i hc
          cases hp
          have hl := (am_ml_ok _ _ _ hf).2.1 hc.1
          refine W.objInit hx hb hown (hts _ hl) (hts _ am_kw_obj.1) (hts _ am_kw_obj.2) rfl (by rw [hml]; exact hsz) rfl hdg hrf ?_ (stay kk)
          show 2 * 0 + _ + 12 ≤ _
          have := am_cat_u lo st'
          omega
        · cases hp
      · cases hp
    · cases hp
  · split at hp
    · rename_i f hf
      split at hp
      · rename_i y x r
        split at hp
        · rename_i hc
          cases hp
          have hl := (am_ml_ok _ _ _ hf).2.2 hc.1
          refine va_mmin hx hb (by rw [hml]; exact hsz.symm) hown (hts _ hl) (hts _ am_kw_min.1) (hts _ am_kw_min.2.1) (hts _ am_kw_min.2.2) hrf ?_ (by omega) (by omega) hdg (stay kk)
          have := am_cat_u lo r
          omega
        · cases hp
      · cases hp
    · cases hp
  · cases hp
end AMP
