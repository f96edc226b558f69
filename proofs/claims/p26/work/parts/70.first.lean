/-! The first settings: the row of a static field, cloned -/
section ZFS
variable {p : Program} {l : Launch} {e : Env} {R : Room} {s : State} {m : MethodId} {args : Array Value} {below : List Frame} {meth : Method} {c : Code} {nL k n : Nat} {Q : State → Prop} {cc : ByteArray} {pc : Nat} {lv : List (Nat × Value)} {rest : List Value} {D : va_G} {cl : List vw_C} {tys : List (ClassId × FieldType)} {ws : va_W} {A : Nat → Prop}
theorem z_first {own : String} {i1 i2 i3 : Nat} (hx : p.tables.exec = Jvm.exec) (hb : c.code = cc) (hml : c.maxLocals = nL) (hown : s.vm.findClass own = some m.cls) (hnest : (Cond.fieldLinkNest own i1 "BlockCoaster" "FIRST_SETTINGS" "[I" "BlockCoaster").before args s = true)
    (hlink : (Cond.methodLink own i2 ⟨"[I", "clone", "()Ljava/lang/Object;"⟩).before args s = true) (hsame : (Cond.sameMethod "[I" "java/lang/Object" "clone" "()Ljava/lang/Object;").before args s = true) (hnat : (Cond.native ⟨"java/lang/Object", "clone", "()Ljava/lang/Object;"⟩).before args s = true) (hinst : (Cond.instanceMethod ⟨"java/lang/Object", "clone", "()Ljava/lang/Object;"⟩).before args s = true) (hsel : (Cond.selects "[I" ⟨"[I", "clone", "()Ljava/lang/Object;"⟩ ⟨"java/lang/Object", "clone", "()Ljava/lang/Object;"⟩).before args s = true) (hcl : va_Nw (.castable "[I" "java/lang/Cloneable") s) (hcast : (Cond.classLink own i3 "[I").before args s = true)
    (hF : zFst A s s.heap) (hK : va_K D cl tys s) (hA : ∀ q, s.heap.size ≤ q → A q) (t0 : Nat) {cA : ClassId} (ht : tys[t0]? = some (cA, .int)) (hfr : 1 ≤ R.frames) (hlo : 22 ≤ R.locals) (hW : (rest.map fun v => v.category).sum ≤ 8) (hc : k + 1 ≤ R.cells) (hs : n + 4 ≤ R.slots)
    (d0 : decode cc pc = .ok (.getstatic i1, 3)) (d1 : decode cc (pc + 3) = .ok (.invokevirtual i2, 3)) (d2 : decode cc (pc + 6) = .ok (.checkcast i3, 3))
    (K : ∀ q : Nat, Gz p l e R s m args below meth c nL (k + 1) (n + 4) Q (Zw D cl A s (ws ++ [(q, .inl (cA, 4, .inl (zA (st4 3 5 0 20))))])) (pc + 9) lv (.ref q :: rest)) : Gz p l e R s m args below meth c nL k n Q (Zw D cl A s ws) pc lv rest := by
  intro H locs ls hI hl
  obtain ⟨t, ce, hZ, hce, hci, hsl, hst, hun, hnA⟩ := hF
  obtain ⟨hP, hD, hS⟩ := hI
  have r2 : va_RA s cA .int := (hK.2 t0 _ ht).2
  have ecA : ce.cls = cA := Option.some.inj (hci.symm.trans (va_nm_int r2))
  obtain ⟨c0, t0', f1, f2, f3⟩ := Cond.castable_spec (va_Nw.use (A := args) rfl hcl)
  have ec0 : c0 = ce.cls := Option.some.inj (f1.symm.trans hci)
  subst ec0
  refine va_getsN hx hb hZ hS hown hnest (fun _ h => h) d0 ?_
  have hceH : H[t]? = some ce := by rw [hS.2.1 t (Array.getElem?_eq_some_iff.mp hce).1 hnA]; exact hce
  obtain ⟨-, kS, hkS, compS, hkindS⟩ := (hK.2 t0 _ ht).1 0 (fun _ => .null)
  have hcell : ({ cls := ce.cls, slots := ce.slots } : Cell) = vp_cell cA (4, .inl (zA (st4 3 5 0 20))) := by
    rw [hsl, ecA, vp_cell_i]
    rfl
  intro T hT X
  obtain ⟨-, kA, hkA, comp, hkind⟩ := State.isArrayOf_alike X.warmed.alike ((hK.2 t0 _ ht).1 0 (fun _ => .null))
  obtain ⟨vm', X', st⟩ := X.cloneArray hx hown hlink hsame hnat hinst hsel (a := t) (cell := ce) (by rw [hT]; exact hceH) hst hun hci f2 f3
    (fun i v hv => by
      have hk' : T.vm.classes[ce.cls]? = some kA := by rw [ecA]; exact hkA
      have hfit : fits .int v = true := by
        rw [hsl] at hv
        have hi : i < 4 := by
          have := (Array.getElem?_eq_some_iff.mp hv).1
          simpa using this
        rcases (show i = 0 ∨ i = 1 ∨ i = 2 ∨ i = 3 by omega) with rfl | rfl | rfl | rfl <;> (simp at hv; subst hv; rfl)
      simpa [State.fitsSlot, State.slotType?, hk', hkind] using hfit)
    (g := F0 m (pc + 3) ls (.ref t :: rest)) rfl (by rw [hml]; exact hl.1) rfl (by rw [hb]; exact d1) hfr (by show 2 * 0 + _ + 14 ≤ _; omega) hc (by rw [hsl]; exact hs) (hloader := by rw [ecA]; exact Vm.clonesLoader_of_array hkS hkindS)
  rw [hcell, hsl] at X'
  generalize hH1 : H.push (vp_cell cA (4, .inl (zA (st4 3 5 0 20)))) = H1
  have z1 : H1.size = H.size + 1 := by rw [← hH1, Array.size_push]
  have e1 : H1[H.size]? = some (vp_cell cA (4, .inl (zA (st4 3 5 0 20)))) := by rw [← hH1, Array.getElem?_push_size]
  have o1 : ∀ q : Nat, q < H.size → H1[q]? = H[q]? := fun q hq => by rw [← hH1, Array.getElem?_push, if_neg (Nat.ne_of_lt hq)]
  have hk : ∀ (k : Nat) (y : Nat × va_E), ws[k]? = some y → H1[y.1]? = H[y.1]? := fun k y hy => o1 y.1 ((hP k y hy).lt)
  have hP1 : va_P D cl (ws ++ [(H.size, .inl (cA, 4, .inl (zA (st4 3 5 0 20))))]) H1 := (hP.kept hk).app (fun k y hy => by
    have hz : k < 1 := (List.getElem?_eq_some_iff.mp hy).1
    rw [show k = 0 by omega] at hy
    cases hy
    exact e1)
  have hD1 : va_D A (ws ++ [(H.size, .inl (cA, 4, .inl (zA (st4 3 5 0 20))))]) := hD.push hP rfl (hA _ hS.1)
  have hS1 : va_S A s.heap H1 locs := ⟨Nat.le_trans hS.1 (by omega), fun y h1 h2 => (o1 y (Nat.lt_of_lt_of_le h1 hS.1)).trans (hS.2.1 y h1 h2), hS.2.2⟩
  obtain ⟨t2, b1, b2⟩ := va_castA (p := p) (l := l) (e := e) (R := R) (s := s) (m := m) (args := args) (below := below) (meth := meth) (c := c) (locs := locs) (cells := k + 1) (slots := n + 4) (Q := Q) (pc := pc + 6) (ls := ls) (rest := rest) hx hb hown hcast hP1 ws.length (List.getElem?_concat_length ..) (va_nm_int r2) d2 (K H.size H1 locs ls ⟨hP1, hD1, hS1⟩ hl) ((T.setVm vm').pushCell (vp_cell cA (4, .inl (zA (st4 3 5 0 20))))) (by rw [← hH1, ← hT]; rfl) X'
  refine ⟨t2, st t2 ?_, b2⟩
  rw [hcell]
  rw [← hT] at b1
  exact b1
end ZFS
