/-! one equation an instruction -/
section RNI
variable {d y pc pc' : Nat} {lc : am_L} {st : List Value} {h : am_H} {q : am_M}
theorem rn_iconst {n : Int} {v : Int32} (hq : am_ms[y]? = some q) (hd : decode q.2.1 pc = .ok (.iconst n, 1)) (hv : Int32.ofInt n = v) (hp : pc + 1 = pc') : rn d y pc lc st h = rn d y pc' lc (.int v :: st) h := by
  subst hp; subst hv; exact rn_nx hq hd rfl
theorem rn_bipush {n : Int} {v : Int32} (hq : am_ms[y]? = some q) (hd : decode q.2.1 pc = .ok (.bipush n, 2)) (hv : (Int8.ofInt n).toInt32 = v) (hp : pc + 2 = pc') : rn d y pc lc st h = rn d y pc' lc (.int v :: st) h := by
  subst hp; subst hv; exact rn_nx hq hd rfl
theorem rn_sipush {n : Int} {v : Int32} (hq : am_ms[y]? = some q) (hd : decode q.2.1 pc = .ok (.sipush n, 3)) (hv : (Int16.ofInt n).toInt32 = v) (hp : pc + 3 = pc') : rn d y pc lc st h = rn d y pc' lc (.int v :: st) h := by
  subst hp; subst hv; exact rn_nx hq hd rfl
theorem am_go_pu {i : Instr} {len : Nat} {r : am_L × List Value} (hp : am_pu i len lc st = some r) : am_go q i len pc lc st h = some (.inl (pc + len, r.1, r.2, h)) := by
  unfold am_go; rw [hp]
theorem rn_iload_n {k : Fin 4} {x : Int32} (hq : am_ms[y]? = some q) (hd : decode q.2.1 pc = .ok (.iload_n k, 1)) (hl : lc[(k : Nat)]? = some (some (.int x))) (hp : pc + 1 = pc') : rn d y pc lc st h = rn d y pc' lc (.int x :: st) h := by
  subst hp
  exact rn_nx hq hd (am_go_pu (r := (lc, .int x :: st)) (by show am_li lc k st = _; unfold am_li; rw [hl]))
theorem rn_iload {k : Nat} {x : Int32} (hq : am_ms[y]? = some q) (hd : decode q.2.1 pc = .ok (.iload k, 2)) (hl : lc[k]? = some (some (.int x))) (hp : pc + 2 = pc') : rn d y pc lc st h = rn d y pc' lc (.int x :: st) h := by
  subst hp
  exact rn_nx hq hd (am_go_pu (r := (lc, .int x :: st)) (by show am_li lc k st = _; unfold am_li; rw [hl]))
theorem rn_aload_n {k : Fin 4} {x : Nat} (hq : am_ms[y]? = some q) (hd : decode q.2.1 pc = .ok (.aload_n k, 1)) (hl : lc[(k : Nat)]? = some (some (.ref x))) (hp : pc + 1 = pc') : rn d y pc lc st h = rn d y pc' lc (.ref x :: st) h := by
  subst hp
  exact rn_nx hq hd (am_go_pu (r := (lc, .ref x :: st)) (by show am_la lc k st = _; unfold am_la; rw [hl]))
theorem rn_aload {k : Nat} {x : Nat} (hq : am_ms[y]? = some q) (hd : decode q.2.1 pc = .ok (.aload k, 2)) (hl : lc[k]? = some (some (.ref x))) (hp : pc + 2 = pc') : rn d y pc lc st h = rn d y pc' lc (.ref x :: st) h := by
  subst hp
  exact rn_nx hq hd (am_go_pu (r := (lc, .ref x :: st)) (by show am_la lc k st = _; unfold am_la; rw [hl]))
theorem rn_istore_n {k : Fin 4} {x : Int32} {lc' : am_L} (hq : am_ms[y]? = some q) (hd : decode q.2.1 pc = .ok (.istore_n k, 1)) (hk : (k : Nat) < lc.length) (hl : lc.set k (some (.int x)) = lc') (hp : pc + 1 = pc') : rn d y pc lc (.int x :: st) h = rn d y pc' lc' st h := by
  subst hp; subst hl
  exact rn_nx hq hd (am_go_pu (r := (lc.set k (some (.int x)), st)) (if_pos hk))
theorem rn_istore {k : Nat} {x : Int32} {lc' : am_L} (hq : am_ms[y]? = some q) (hd : decode q.2.1 pc = .ok (.istore k, 2)) (hk : k < lc.length) (hl : lc.set k (some (.int x)) = lc') (hp : pc + 2 = pc') : rn d y pc lc (.int x :: st) h = rn d y pc' lc' st h := by
  subst hp; subst hl
  exact rn_nx hq hd (am_go_pu (r := (lc.set k (some (.int x)), st)) (if_pos hk))
theorem rn_astore_n {k : Fin 4} {x : Nat} {lc' : am_L} (hq : am_ms[y]? = some q) (hd : decode q.2.1 pc = .ok (.astore_n k, 1)) (hk : (k : Nat) < lc.length) (hl : lc.set k (some (.ref x)) = lc') (hp : pc + 1 = pc') : rn d y pc lc (.ref x :: st) h = rn d y pc' lc' st h := by
  subst hp; subst hl
  exact rn_nx hq hd (am_go_pu (r := (lc.set k (some (.ref x)), st)) (if_pos hk))
theorem rn_astore {k : Nat} {x : Nat} {lc' : am_L} (hq : am_ms[y]? = some q) (hd : decode q.2.1 pc = .ok (.astore k, 2)) (hk : k < lc.length) (hl : lc.set k (some (.ref x)) = lc') (hp : pc + 2 = pc') : rn d y pc lc (.ref x :: st) h = rn d y pc' lc' st h := by
  subst hp; subst hl
  exact rn_nx hq hd (am_go_pu (r := (lc.set k (some (.ref x)), st)) (if_pos hk))
theorem rn_iinc {k : Nat} {n : Int} {x v : Int32} {lc' : am_L} (hq : am_ms[y]? = some q) (hd : decode q.2.1 pc = .ok (.iinc k n, 3)) (hg : lc[k]? = some (some (.int x))) (hv : Int32.ofInt n = v) (hl : lc.set k (some (.int (x + v))) = lc') (hp : pc + 3 = pc') : rn d y pc lc st h = rn d y pc' lc' st h := by
  subst hp; subst hl; subst hv
  exact rn_nx hq hd (am_go_pu (r := (lc.set k (some (.int (x + Int32.ofInt n))), st)) (by show am_ii lc k n st = _; unfold am_ii; rw [hg]; exact if_pos (List.getElem?_eq_some_iff.mp hg).1))
section
variable {a b : Int32}
theorem rn_iadd (hq : am_ms[y]? = some q) (hd : decode q.2.1 pc = .ok (.iadd, 1)) (hp : pc + 1 = pc') : rn d y pc lc (.int b :: .int a :: st) h = rn d y pc' lc (.int (a + b) :: st) h := by subst hp; exact rn_nx hq hd rfl
theorem rn_isub (hq : am_ms[y]? = some q) (hd : decode q.2.1 pc = .ok (.isub, 1)) (hp : pc + 1 = pc') : rn d y pc lc (.int b :: .int a :: st) h = rn d y pc' lc (.int (a - b) :: st) h := by subst hp; exact rn_nx hq hd rfl
theorem rn_imul (hq : am_ms[y]? = some q) (hd : decode q.2.1 pc = .ok (.imul, 1)) (hp : pc + 1 = pc') : rn d y pc lc (.int b :: .int a :: st) h = rn d y pc' lc (.int (a * b) :: st) h := by subst hp; exact rn_nx hq hd rfl
theorem rn_iand (hq : am_ms[y]? = some q) (hd : decode q.2.1 pc = .ok (.iand, 1)) (hp : pc + 1 = pc') : rn d y pc lc (.int b :: .int a :: st) h = rn d y pc' lc (.int (a &&& b) :: st) h := by subst hp; exact rn_nx hq hd rfl
theorem rn_ior (hq : am_ms[y]? = some q) (hd : decode q.2.1 pc = .ok (.ior, 1)) (hp : pc + 1 = pc') : rn d y pc lc (.int b :: .int a :: st) h = rn d y pc' lc (.int (a ||| b) :: st) h := by subst hp; exact rn_nx hq hd rfl
theorem rn_ixor (hq : am_ms[y]? = some q) (hd : decode q.2.1 pc = .ok (.ixor, 1)) (hp : pc + 1 = pc') : rn d y pc lc (.int b :: .int a :: st) h = rn d y pc' lc (.int (a ^^^ b) :: st) h := by subst hp; exact rn_nx hq hd rfl
theorem rn_ishl (hq : am_ms[y]? = some q) (hd : decode q.2.1 pc = .ok (.ishl, 1)) (hp : pc + 1 = pc') : rn d y pc lc (.int b :: .int a :: st) h = rn d y pc' lc (.int (a <<< (b &&& 31)) :: st) h := by subst hp; exact rn_nx hq hd rfl
theorem rn_ishr (hq : am_ms[y]? = some q) (hd : decode q.2.1 pc = .ok (.ishr, 1)) (hp : pc + 1 = pc') : rn d y pc lc (.int b :: .int a :: st) h = rn d y pc' lc (.int (a >>> (b &&& 31)) :: st) h := by subst hp; exact rn_nx hq hd rfl
def am_ush (a b : Int32) : Int32 := (a.toUInt32 >>> (b.toUInt32 &&& Int32.toUInt32 31)).toInt32
theorem rn_iushr (hq : am_ms[y]? = some q) (hd : decode q.2.1 pc = .ok (.iushr, 1)) (hp : pc + 1 = pc') : rn d y pc lc (.int b :: .int a :: st) h = rn d y pc' lc (.int (am_ush a b) :: st) h := by subst hp; exact rn_nx hq hd rfl
def am_rem (a b : Int32) : Int32 := a - a / b * b
theorem rn_irem (hq : am_ms[y]? = some q) (hd : decode q.2.1 pc = .ok (.irem, 1)) (hb : ¬ b = 0) (hp : pc + 1 = pc') : rn d y pc lc (.int b :: .int a :: st) h = rn d y pc' lc (.int (am_rem a b) :: st) h := by
  subst hp
  exact rn_nx hq hd (am_go_pu (r := (lc, .int (am_rem a b) :: st)) (by show (if ¬ b = 0 then _ else _) = _; rw [if_pos hb]; rfl))
theorem rn_idiv (hq : am_ms[y]? = some q) (hd : decode q.2.1 pc = .ok (.idiv, 1)) (hb : ¬ b = 0) (hp : pc + 1 = pc') : rn d y pc lc (.int b :: .int a :: st) h = rn d y pc' lc (.int (a / b) :: st) h := by
  subst hp
  exact rn_nx hq hd (am_go_pu (r := (lc, .int (a / b) :: st)) (by show (if ¬ b = 0 then _ else _) = _; rw [if_pos hb]))
theorem rn_ineg (hq : am_ms[y]? = some q) (hd : decode q.2.1 pc = .ok (.ineg, 1)) (hp : pc + 1 = pc') : rn d y pc lc (.int a :: st) h = rn d y pc' lc (.int (-a) :: st) h := by subst hp; exact rn_nx hq hd rfl
end
section
variable {v w : Value}
theorem rn_dup (hq : am_ms[y]? = some q) (hd : decode q.2.1 pc = .ok (.dup, 1)) (hv : v.category = 1) (hp : pc + 1 = pc') : rn d y pc lc (v :: st) h = rn d y pc' lc (v :: v :: st) h := by
  subst hp
  exact rn_nx hq hd (am_go_pu (r := (lc, v :: v :: st)) (if_pos hv))
theorem rn_pop (hq : am_ms[y]? = some q) (hd : decode q.2.1 pc = .ok (.pop, 1)) (hv : v.category = 1) (hp : pc + 1 = pc') : rn d y pc lc (v :: st) h = rn d y pc' lc st h := by
  subst hp
  exact rn_nx hq hd (am_go_pu (r := (lc, st)) (if_pos hv))
theorem rn_dup_x1 (hq : am_ms[y]? = some q) (hd : decode q.2.1 pc = .ok (.dup_x1, 1)) (hv : v.category = 1) (hw : w.category = 1) (hp : pc + 1 = pc') : rn d y pc lc (v :: w :: st) h = rn d y pc' lc (v :: w :: v :: st) h := by
  subst hp
  exact rn_nx hq hd (am_go_pu (r := (lc, v :: w :: v :: st)) (if_pos ⟨hv, hw⟩))
theorem rn_dup2 (hq : am_ms[y]? = some q) (hd : decode q.2.1 pc = .ok (.dup2, 1)) (hv : v.category = 1) (hw : w.category = 1) (hp : pc + 1 = pc') : rn d y pc lc (v :: w :: st) h = rn d y pc' lc (v :: w :: v :: w :: st) h := by
  subst hp
  exact rn_nx hq hd (am_go_pu (r := (lc, v :: w :: v :: w :: st)) (if_pos ⟨hv, hw⟩))
theorem rn_dup_x2 {x : Value} (hq : am_ms[y]? = some q) (hd : decode q.2.1 pc = .ok (.dup_x2, 1)) (hv : v.category = 1) (hw : w.category = 1) (hx : x.category = 1) (hp : pc + 1 = pc') : rn d y pc lc (v :: w :: x :: st) h = rn d y pc' lc (v :: w :: x :: v :: st) h := by
  subst hp
  exact rn_nx hq hd (am_go_pu (r := (lc, v :: w :: x :: v :: st)) (if_pos ⟨hv, hw, hx⟩))
end
theorem am_go_bb {i : Instr} {len : Nat} {r : Nat × List Value} (hn : am_pu i len lc st = none) (hp : am_bb i len pc st = some r) : am_go q i len pc lc st h = some (.inl (r.1, lc, r.2, h)) := by
  unfold am_go; rw [hn]; dsimp only; rw [hp]
theorem am_ite {α : Type} {c : Prop} [Decidable c] {b : Bool} (hb : b = true ↔ c) (f : Nat → α) (m n : Nat) : f (if b = true then m else n) = if c then f m else f n := by
  by_cases hc : c
  · rw [if_pos hc, if_pos (hb.mpr hc)]
  · rw [if_neg hc, if_neg (fun z => hc (hb.mp z))]
section
variable {x a b : Int32} {off : Int} {tgt : Nat}
theorem rn_if (cd : Jvm.ClassFile.Cond) {c : Prop} [Decidable c] (hc : am_c1 cd x = true ↔ c) (hq : am_ms[y]? = some q) (hd : decode q.2.1 pc = .ok (.ifCond cd off, 3)) (ht : (pc : Int) + off = (tgt : Int)) (hp : pc + 3 = pc') : rn d y pc lc (.int x :: st) h = if c then rn d y tgt lc st h else rn d y pc' lc st h := by
  subst hp
  have h0 : 0 ≤ (pc : Int) + off := by omega
  have hj : am_j pc off = tgt := by unfold am_j; omega
  rw [rn_nx (st := .int x :: st) hq hd (am_go_bb (r := (if am_c1 cd x = true then am_j pc off else pc + 3, st)) rfl (if_pos ⟨rfl, h0⟩)), hj]
  exact am_ite hc (fun n => rn d y n lc st h) tgt (pc + 3)
theorem rn_icmp (cd : Jvm.ClassFile.Cond) {c : Prop} [Decidable c] (hc : am_c2 cd a b = true ↔ c) (hq : am_ms[y]? = some q) (hd : decode q.2.1 pc = .ok (.if_icmp cd off, 3)) (ht : (pc : Int) + off = (tgt : Int)) (hp : pc + 3 = pc') : rn d y pc lc (.int b :: .int a :: st) h = if c then rn d y tgt lc st h else rn d y pc' lc st h := by
  subst hp
  have h0 : 0 ≤ (pc : Int) + off := by omega
  have hj : am_j pc off = tgt := by unfold am_j; omega
  rw [rn_nx (st := .int b :: .int a :: st) hq hd (am_go_bb (r := (if am_c2 cd a b = true then am_j pc off else pc + 3, st)) rfl (if_pos ⟨rfl, h0⟩)), hj]
  exact am_ite hc (fun n => rn d y n lc st h) tgt (pc + 3)
theorem rn_goto (hq : am_ms[y]? = some q) (hd : decode q.2.1 pc = .ok (.goto off, 3)) (ht : (pc : Int) + off = (tgt : Int)) : rn d y pc lc st h = rn d y tgt lc st h := by
  have h0 : 0 ≤ (pc : Int) + off := by omega
  have hj : am_j pc off = tgt := by unfold am_j; omega
  rw [rn_nx hq hd (am_go_bb (r := (am_j pc off, st)) rfl (if_pos ⟨rfl, h0⟩)), hj]
theorem rn_tsOut {dflt lo hi : Int} {offs : Array Int} {len : Nat} (hq : am_ms[y]? = some q) (hd : decode q.2.1 pc = .ok (.tableswitch dflt lo hi offs, len)) (hr : x.toInt < lo ∨ hi < x.toInt) (ht : (pc : Int) + dflt = (tgt : Int)) : rn d y pc lc (.int x :: st) h = rn d y tgt lc st h := by
  have h0 : 0 ≤ (pc : Int) + dflt := by omega
  have hj : am_j pc dflt = tgt := by unfold am_j; omega
  rw [rn_nx hq hd (am_go_bb (r := (am_j pc dflt, st)) rfl (by show (if _ then _ else _) = _; rw [if_pos hr, if_pos h0])), hj]
theorem rn_tsIn {dflt lo hi : Int} {offs : Array Int} {len : Nat} (hq : am_ms[y]? = some q) (hd : decode q.2.1 pc = .ok (.tableswitch dflt lo hi offs, len)) (h1 : ¬ x.toInt < lo) (h2 : ¬ hi < x.toInt) (ho : offs[(x.toInt - lo).toNat]? = some off) (ht : (pc : Int) + off = (tgt : Int)) : rn d y pc lc (.int x :: st) h = rn d y tgt lc st h := by
  have h0 : 0 ≤ (pc : Int) + off := by omega
  have hj : am_j pc off = tgt := by unfold am_j; omega
  rw [rn_nx hq hd (am_go_bb (r := (am_j pc off, st)) rfl (by show (if _ then _ else _) = _; rw [if_neg (fun z => z.elim h1 h2), ho]; exact if_pos h0)), hj]
end
theorem am_go_hp {i : Instr} {len : Nat} {r : List Value × am_H} (hn : am_pu i len lc st = none) (hn2 : am_bb i len pc st = none) (hp : am_hp q i len st h = some r) : am_go q i len pc lc st h = some (.inl (pc + len, lc, r.1, r.2)) := by
  unfold am_go; rw [hn]; dsimp only; rw [hn2]; dsimp only; rw [hp]
theorem am_go_no {i : Instr} {len : Nat} (hn : am_pu i len lc st = none) (hn2 : am_bb i len pc st = none) (hp : am_hp q i len st h = none) (hn3 : am_rt q i len st = none) (hn4 : am_ca q i len st h = none) : am_go q i len pc lc st h = none := by
  unfold am_go; rw [hn]; dsimp only; rw [hn2]; dsimp only; rw [hp]; dsimp only; rw [hn3]; dsimp only; rw [hn4]
theorem rn_getf {idx a ci k : Nat} {ty : FieldType} {fn : Bool} (hq : am_ms[y]? = some q) (hd : decode q.2.1 pc = .ok (.getfield idx, 3)) (hf : am_fl q.2.2.2.2.1 idx = some (ci, k, ty, fn)) (hp : pc + 3 = pc') : rn d y pc lc (.ref a :: st) h = (am_get h a ci k).bind (fun v => rn d y pc' lc (v :: st) h) := by
  subst hp
  have e : am_hp q (.getfield idx) 3 (.ref a :: st) h = (am_get h a ci k).map (fun v => (v :: st, h)) := by
    show (match am_fl q.2.2.2.2.1 idx with | some f => _ | none => none) = _
    rw [hf]
  cases hg : am_get h a ci k with
  | none => exact rn_no hq hd (am_go_no rfl rfl (by rw [e, hg]; rfl) rfl rfl)
  | some v => exact rn_nx hq hd (am_go_hp (r := (v :: st, h)) rfl rfl (by rw [e, hg]; rfl))
theorem rn_putf {idx a ci k : Nat} {ty : FieldType} {fn : Bool} {v : Value} (hq : am_ms[y]? = some q) (hd : decode q.2.1 pc = .ok (.putfield idx, 3)) (hf : am_fl q.2.2.2.2.1 idx = some (ci, k, ty, fn)) (hi : fn = false ∨ (q.2.2.2.2.2 = true ∧ q.2.2.2.2.1 = ci)) (hv : am_ok ty v = true) (hp : pc + 3 = pc') : rn d y pc lc (v :: .ref a :: st) h = (am_put h a ci k v).bind (fun h' => rn d y pc' lc st h') := by
  subst hp
  have e : am_hp q (.putfield idx) 3 (v :: .ref a :: st) h = (am_put h a ci k v).map (fun h' => (st, h')) := by
    show (match am_fl q.2.2.2.2.1 idx with | some f => _ | none => none) = _
    rw [hf]
    exact if_pos ⟨hv, hi⟩
  cases hg : am_put h a ci k v with
  | none => exact rn_no hq hd (am_go_no rfl rfl (by rw [e, hg]; rfl) rfl rfl)
  | some v' => exact rn_nx hq hd (am_go_hp (r := (st, v')) rfl rfl (by rw [e, hg]; rfl))
theorem rn_iald {a : Nat} {x : Int32} (hq : am_ms[y]? = some q) (hd : decode q.2.1 pc = .ok (.iaload, 1)) (hp : pc + 1 = pc') : rn d y pc lc (.int x :: .ref a :: st) h = (am_ld h a 0 x).bind (fun v => rn d y pc' lc (.int v :: st) h) := by
  subst hp
  cases hg : am_ld h a 0 x with
  | none => exact rn_no hq hd (am_go_no rfl rfl (by show (am_ld h a 0 x).map _ = none; rw [hg]; rfl) rfl rfl)
  | some v => exact rn_nx hq hd (am_go_hp (r := (.int v :: st, h)) rfl rfl (by show (am_ld h a 0 x).map _ = _; rw [hg]; rfl))
theorem rn_zald {a : Nat} {x : Int32} (hq : am_ms[y]? = some q) (hd : decode q.2.1 pc = .ok (.baload, 1)) (hp : pc + 1 = pc') : rn d y pc lc (.int x :: .ref a :: st) h = (am_ld h a 1 x).bind (fun v => rn d y pc' lc (.int v :: st) h) := by
  subst hp
  cases hg : am_ld h a 1 x with
  | none => exact rn_no hq hd (am_go_no rfl rfl (by show (am_ld h a 1 x).map _ = none; rw [hg]; rfl) rfl rfl)
  | some v => exact rn_nx hq hd (am_go_hp (r := (.int v :: st, h)) rfl rfl (by show (am_ld h a 1 x).map _ = _; rw [hg]; rfl))
theorem rn_aald {a : Nat} {x : Int32} (hq : am_ms[y]? = some q) (hd : decode q.2.1 pc = .ok (.aaload, 1)) (hp : pc + 1 = pc') : rn d y pc lc (.int x :: .ref a :: st) h = (am_ldq h a x).bind (fun v => rn d y pc' lc (v :: st) h) := by
  subst hp
  cases hg : am_ldq h a x with
  | none => exact rn_no hq hd (am_go_no rfl rfl (by show (am_ldq h a x).map _ = none; rw [hg]; rfl) rfl rfl)
  | some v => exact rn_nx hq hd (am_go_hp (r := (v :: st, h)) rfl rfl (by show (am_ldq h a x).map _ = _; rw [hg]; rfl))
theorem rn_iast {a : Nat} {x v : Int32} (hq : am_ms[y]? = some q) (hd : decode q.2.1 pc = .ok (.iastore, 1)) (hp : pc + 1 = pc') : rn d y pc lc (.int v :: .int x :: .ref a :: st) h = (am_sv h a 0 x v).bind (fun h' => rn d y pc' lc st h') := by
  subst hp
  cases hg : am_sv h a 0 x v with
  | none => exact rn_no hq hd (am_go_no rfl rfl (by show (am_sv h a 0 x v).map _ = none; rw [hg]; rfl) rfl rfl)
  | some v' => exact rn_nx hq hd (am_go_hp (r := (st, v')) rfl rfl (by show (am_sv h a 0 x v).map _ = _; rw [hg]; rfl))
theorem rn_zast {a : Nat} {x v : Int32} (hq : am_ms[y]? = some q) (hd : decode q.2.1 pc = .ok (.bastore, 1)) (hp : pc + 1 = pc') : rn d y pc lc (.int v :: .int x :: .ref a :: st) h = (am_sv h a 1 x (vp_nar .boolean v)).bind (fun h' => rn d y pc' lc st h') := by
  subst hp
  cases hg : am_sv h a 1 x (vp_nar .boolean v) with
  | none => exact rn_no hq hd (am_go_no rfl rfl (by show (am_sv h a 1 x (vp_nar .boolean v)).map _ = none; rw [hg]; rfl) rfl rfl)
  | some v' => exact rn_nx hq hd (am_go_hp (r := (st, v')) rfl rfl (by show (am_sv h a 1 x (vp_nar .boolean v)).map _ = _; rw [hg]; rfl))
theorem rn_aast {a v : Nat} {x : Int32} (hq : am_ms[y]? = some q) (hd : decode q.2.1 pc = .ok (.aastore, 1)) (hp : pc + 1 = pc') : rn d y pc lc (.ref v :: .int x :: .ref a :: st) h = (am_stq h a x v).bind (fun h' => rn d y pc' lc st h') := by
  subst hp
  cases hg : am_stq h a x v with
  | none => exact rn_no hq hd (am_go_no rfl rfl (by show (am_stq h a x v).map _ = none; rw [hg]; rfl) rfl rfl)
  | some v' => exact rn_nx hq hd (am_go_hp (r := (st, v')) rfl rfl (by show (am_stq h a x v).map _ = _; rw [hg]; rfl))
theorem rn_alen {a : Nat} (hq : am_ms[y]? = some q) (hd : decode q.2.1 pc = .ok (.arraylength, 1)) (hp : pc + 1 = pc') : rn d y pc lc (.ref a :: st) h = (am_len h a).bind (fun v => rn d y pc' lc (.int v :: st) h) := by
  subst hp
  cases hg : am_len h a with
  | none => exact rn_no hq hd (am_go_no rfl rfl (by show (am_len h a).map _ = none; rw [hg]; rfl) rfl rfl)
  | some v' => exact rn_nx hq hd (am_go_hp (r := (.int v' :: st, h)) rfl rfl (by show (am_len h a).map _ = _; rw [hg]; rfl))
theorem rn_new {idx ci : Nat} (hq : am_ms[y]? = some q) (hd : decode q.2.1 pc = .ok (.new idx, 3)) (hf : am_cl q.2.2.2.2.1 idx = some ci) (hp : pc + 3 = pc') : rn d y pc lc st h = rn d y pc' lc (.ref h.1 :: st) (am_new h (.inl (ci, am_df ci)) (am_df ci).length) := by
  subst hp
  refine rn_nx hq hd (am_go_hp (r := (.ref h.1 :: st, am_new h (.inl (ci, am_df ci)) (am_df ci).length)) rfl rfl ?_)
  show (match am_cl q.2.2.2.2.1 idx with | some ci => _ | none => none) = _
  rw [hf]
theorem rn_newi {n : Int32} {N : Nat} (hq : am_ms[y]? = some q) (hd : decode q.2.1 pc = .ok (.newarray .int, 2)) (hn : ¬ n < 0) (hN : n.toNatClampNeg = N) (hl : N ≤ 1000000) (hp : pc + 2 = pc') : rn d y pc lc (.int n :: st) h = rn d y pc' lc (.ref h.1 :: st) (am_new h (.inr (.inl (0, List.replicate N 0))) N) := by
  subst hp; subst hN
  exact rn_nx hq hd (am_go_hp (r := (.ref h.1 :: st, _)) rfl rfl (if_pos ⟨hn, hl⟩))
theorem rn_newz {n : Int32} {N : Nat} (hq : am_ms[y]? = some q) (hd : decode q.2.1 pc = .ok (.newarray .boolean, 2)) (hn : ¬ n < 0) (hN : n.toNatClampNeg = N) (hl : N ≤ 1000000) (hp : pc + 2 = pc') : rn d y pc lc (.int n :: st) h = rn d y pc' lc (.ref h.1 :: st) (am_new h (.inr (.inl (1, List.replicate N 0))) N) := by
  subst hp; subst hN
  exact rn_nx hq hd (am_go_hp (r := (.ref h.1 :: st, _)) rfl rfl (if_pos ⟨hn, hl⟩))
theorem rn_newq {n : Int32} {N idx t : Nat} (hq : am_ms[y]? = some q) (hd : decode q.2.1 pc = .ok (.anewarray idx, 3)) (hf : am_al q.2.2.2.2.1 idx = some t) (hn : ¬ n < 0) (hN : n.toNatClampNeg = N) (hl : N ≤ 1000000) (hp : pc + 3 = pc') : rn d y pc lc (.int n :: st) h = rn d y pc' lc (.ref h.1 :: st) (am_new h (.inr (.inr (t, List.replicate N none))) N) := by
  subst hp; subst hN
  refine rn_nx hq hd (am_go_hp (r := (.ref h.1 :: st, _)) rfl rfl ?_)
  show (match am_al q.2.2.2.2.1 idx with | some t => _ | none => none) = _
  rw [hf]
  exact if_pos ⟨hn, hl⟩
theorem rn_ldc {idx : Nat} {v : Int32} (hq : am_ms[y]? = some q) (hd : decode q.2.1 pc = .ok (.ldc idx, 2)) (hf : am_kc q.2.2.2.2.1 idx = some v) (hp : pc + 2 = pc') : rn d y pc lc st h = rn d y pc' lc (.int v :: st) h := by
  subst hp
  refine rn_nx hq hd (am_go_hp (r := (.int v :: st, h)) rfl rfl ?_)
  show (match am_kc q.2.2.2.2.1 idx with | some v => _ | none => none) = _
  rw [hf]
theorem rn_ldcw {idx : Nat} {v : Int32} (hq : am_ms[y]? = some q) (hd : decode q.2.1 pc = .ok (.ldc_w idx, 3)) (hf : am_kc q.2.2.2.2.1 idx = some v) (hp : pc + 3 = pc') : rn d y pc lc st h = rn d y pc' lc (.int v :: st) h := by
  subst hp
  refine rn_nx hq hd (am_go_hp (r := (.int v :: st, h)) rfl rfl ?_)
  show (match am_kc q.2.2.2.2.1 idx with | some v => _ | none => none) = _
  rw [hf]
theorem rn_obj {idx a y' n : Nat} (hq : am_ms[y]? = some q) (hd : decode q.2.1 pc = .ok (.invokespecial idx, 3)) (hf : am_ml q.2.2.2.2.1 idx = some (y', 6, n)) (hr : am_cat st ≤ 8) (hp : pc + 3 = pc') : rn d y pc lc (.ref a :: st) h = rn d y pc' lc st h := by
  subst hp
  refine rn_nx hq hd (am_go_hp (r := (st, h)) rfl rfl ?_)
  show (match am_ml q.2.2.2.2.1 idx with | some v => _ | none => none) = _
  rw [hf]
  exact if_pos ⟨rfl, hr⟩
theorem rn_min {idx y' n : Nat} {a b : Int32} (hq : am_ms[y]? = some q) (hd : decode q.2.1 pc = .ok (.invokestatic idx, 3)) (hf : am_ml q.2.2.2.2.1 idx = some (y', 7, n)) (hr : am_cat st ≤ 8) (hp : pc + 3 = pc') : rn d y pc lc (.int b :: .int a :: st) h = rn d y pc' lc (.int (if b < a then b else a) :: st) h := by
  subst hp
  refine rn_nx hq hd (am_go_hp (r := (.int (if b < a then b else a) :: st, h)) rfl rfl ?_)
  show (match am_ml q.2.2.2.2.1 idx with | some v => _ | none => none) = _
  rw [hf]
  exact if_pos ⟨rfl, hr⟩
theorem am_go_rt' {i : Instr} {len : Nat} {r : Option Value} (hn : am_pu i len lc st = none) (hn2 : am_bb i len pc st = none) (hn3 : am_hp q i len st h = none) (hp : am_rt q i len st = some r) : am_go q i len pc lc st h = some (.inr (.inl r)) := by
  unfold am_go; rw [hn]; dsimp only; rw [hn2]; dsimp only; rw [hn3]; dsimp only; rw [hp]
theorem rn_iret {v : Int32} {ty : FieldType} (hq : am_ms[y]? = some q) (hd : decode q.2.1 pc = .ok (.ireturn, 1)) (hr : q.2.2.2.1 = some ty) (hn : narrow ty (.int v) = .int v) : rn d y pc lc [.int v] h = some (some (.int v), h) := by
  refine rn_rt hq hd (am_go_rt' rfl rfl rfl ?_)
  unfold am_rt
  dsimp only
  rw [hr]
  exact if_pos hn
theorem rn_vret (hq : am_ms[y]? = some q) (hd : decode q.2.1 pc = .ok (.return_, 1)) (hr : q.2.2.2.1 = none) : rn d y pc lc [] h = some (none, h) := by
  refine rn_rt hq hd (am_go_rt' rfl rfl rfl ?_)
  unfold am_rt
  dsimp only
  rw [hr]
  rfl
/-- a call of a method of this system, by what its run comes to -/
noncomputable def ev (d y : Nat) (as : List Value) (h : am_H) : Option (Option Value × am_H) := rn d y 0 (am_en y as) [] h
theorem am_go_ca' {i : Instr} {len : Nat} {r : Nat × List Value × List Value} (hn : am_pu i len lc st = none) (hn2 : am_bb i len pc st = none) (hn3 : am_hp q i len st h = none) (hn4 : am_rt q i len st = none) (hp : am_ca q i len st h = some r) : am_go q i len pc lc st h = some (.inr (.inr r)) := by
  unfold am_go; rw [hn]; dsimp only; rw [hn2]; dsimp only; rw [hn3]; dsimp only; rw [hn4]; dsimp only; rw [hp]
/-- invokevirtual: the receiver lies below the arguments -/
theorem rn_virt {idx y' k n b : Nat} {as rest : List Value} (hq : am_ms[y]? = some q) (hd : decode q.2.1 pc = .ok (.invokevirtual idx, 3)) (hf : am_ml q.2.2.2.2.1 idx = some (y', k, n)) (hk : k = 0 ∨ k = 1) (hs : st = as.reverse ++ .ref b :: rest) (hn : as.length = n) (hrc : am_rc h b y' = true) (hg : am_g y' (n + 1) (.ref b :: as) rest = true) (hp : pc + 3 = pc') : rn (d + 1) y pc lc st h = (ev d y' (.ref b :: as) h).bind (fun x => rn (d + 1) y pc' lc (x.1.toList ++ rest) x.2) := by
  subst hp
  have e1 : st.drop n = .ref b :: rest := by rw [hs, ← hn, ← List.length_reverse (as := as)]; simp
  have e2 : (st.take n).reverse = as := by rw [hs, ← hn, ← List.length_reverse (as := as)]; simp
  refine rn_ca hq hd (am_go_ca' (r := (y', .ref b :: as, rest)) rfl rfl rfl rfl ?_)
  show (match am_ml q.2.2.2.2.1 idx with | some f => _ | none => none) = _
  rw [hf]
  dsimp only
  rw [e1, e2]
  exact if_pos ⟨hk, hrc, hg⟩
theorem rn_stat {idx y' k n : Nat} {as rest : List Value} (hq : am_ms[y]? = some q) (hd : decode q.2.1 pc = .ok (.invokestatic idx, 3)) (hf : am_ml q.2.2.2.2.1 idx = some (y', k, n)) (hk : k = 2 ∨ k = 3) (hs : st = as.reverse ++ rest) (hn : as.length = n) (hg : am_g y' n as rest = true) (hp : pc + 3 = pc') : rn (d + 1) y pc lc st h = (ev d y' as h).bind (fun x => rn (d + 1) y pc' lc (x.1.toList ++ rest) x.2) := by
  subst hp
  have e1 : st.drop n = rest := by rw [hs, ← hn, ← List.length_reverse (as := as)]; simp
  have e2 : (st.take n).reverse = as := by rw [hs, ← hn, ← List.length_reverse (as := as)]; simp
  have hno : am_hp q (.invokestatic idx) 3 st h = none := by
    show (match am_ml q.2.2.2.2.1 idx with | some f => _ | none => none) = _
    rw [hf]
    dsimp only
    split
    · exact if_neg (fun z => by omega)
    · rfl
  refine rn_ca hq hd (am_go_ca' (r := (y', as, rest)) rfl rfl hno rfl ?_)
  show (match am_ml q.2.2.2.2.1 idx with | some f => _ | none => none) = _
  rw [hf]
  dsimp only
  rw [e1, e2]
  exact if_pos ⟨hk, hg⟩
theorem rn_spec {idx y' k n b : Nat} {as rest : List Value} (hq : am_ms[y]? = some q) (hd : decode q.2.1 pc = .ok (.invokespecial idx, 3)) (hf : am_ml q.2.2.2.2.1 idx = some (y', k, n)) (hk : k = 4 ∨ k = 5) (hs : st = as.reverse ++ .ref b :: rest) (hn : as.length = n) (hg : am_g y' (n + 1) (.ref b :: as) rest = true) (hp : pc + 3 = pc') : rn (d + 1) y pc lc st h = (ev d y' (.ref b :: as) h).bind (fun x => rn (d + 1) y pc' lc (x.1.toList ++ rest) x.2) := by
  subst hp
  have e1 : st.drop n = .ref b :: rest := by rw [hs, ← hn, ← List.length_reverse (as := as)]; simp
  have e2 : (st.take n).reverse = as := by rw [hs, ← hn, ← List.length_reverse (as := as)]; simp
  have hno : am_hp q (.invokespecial idx) 3 st h = none := by
    show (match am_ml q.2.2.2.2.1 idx with | some f => _ | none => none) = _
    rw [hf]
    dsimp only
    split
    · exact if_neg (fun z => by omega)
    · rfl
  refine rn_ca hq hd (am_go_ca' (r := (y', .ref b :: as, rest)) rfl rfl hno rfl ?_)
  show (match am_ml q.2.2.2.2.1 idx with | some f => _ | none => none) = _
  rw [hf]
  dsimp only
  rw [e1, e2]
  exact if_pos ⟨hk, hg⟩
end RNI
