/-! What is made: rows for constructors; the order of a world's cells -/
section ZN
variable {p : Program} {l : Launch} {e : Env} {R : Room} {s : State} {m : MethodId} {args : Array Value} {below : List Frame} {meth : Method} {c : Code} {nL k n : Nat} {Q : State → Prop} {cc : ByteArray} {pc : Nat} {lv : List (Nat × Value)} {rest : List Value} {D : va_G} {cl : List vw_C} {tys : List (ClassId × FieldType)} {ws : va_W} {A : Nat → Prop} {I : Heap → List Loc → Prop} {a : Nat}
theorem Zw_perm {w w' : va_W} (h : w.Perm w') {H : Heap} {locs : List Loc} (q : Zw D cl A s w H locs) : Zw D cl A s w' H locs := by
  obtain ⟨h1, h2, h3⟩ := q
  refine ⟨?_, ?_, h3⟩
  · rw [zP_iff] at h1 ⊢
    exact fun x hx => h1 x (h.mem_iff.mpr hx)
  · rw [zD_iff] at h2 ⊢
    exact ⟨((h.map _).nodup_iff).mp h2.1, fun x hx => h2.2 x (h.mem_iff.mpr hx)⟩
theorem z_perm {w w' : va_W} (h : w.Perm w') (K : Gz p l e R s m args below meth c nL k n Q (Zw D cl A s w') pc lv rest) : Gz p l e R s m args below meth c nL k n Q (Zw D cl A s w) pc lv rest := fun H locs ls hI hl => K H locs ls (Zw_perm h hI) hl
theorem z_oinit (hx : p.tables.exec = Jvm.exec) (hb : c.code = cc) (hml : c.maxLocals = nL) {own : String} {index : Nat} (hown : s.vm.findClass own = some m.cls) (hlink : (Cond.methodLink own index Lib.objectInit).before args s = true) (hinst : (Cond.instanceMethod Lib.objectInit).before args s = true) (hcode : (Cond.code Lib.objectInit ⟨#[0xb1]⟩ 1 none).before args s = true) (hframes : 1 ≤ R.frames) (hlocals : (rest.map fun v => v.category).sum + 12 ≤ R.locals) (hdg : decode cc pc = .ok (.invokespecial index, 3))
    (K : Gz p l e R s m args below meth c nL k n Q I (pc + 3) lv rest) : Gz p l e R s m args below meth c nL k n Q I pc lv (.ref a :: rest) := fun H locs ls hI hl =>
  W.objInit hx hb hown hlink hinst hcode rfl (hl.1.trans hml.symm) rfl hdg hframes (by show 2 * 0 + _ + 12 ≤ _; omega) (W.eq (g2 := F0 m (pc + 3) ls rest) rfl (K H locs ls hI hl))
theorem z_putF (hx : p.tables.exec = Jvm.exec) (hb : c.code = cc) {own ref C : String} {T : u_T} {N ci index : Nat} {Ts : List Cond} (hts : ∀ w ∈ Ts, w.before args s = true) (hin : ∀ w ∈ u_ws C T N, w ∈ Ts) {ty0 : Nat → FieldType} (hty : ∀ k, k < N → parseFieldDescriptor (T k).2.2.1 = some (ty0 k)) (hnm : ∀ a, a < N → ∀ b, b < N → a ≠ b → (T a).2.1 ≠ (T b).2.1) (hown : s.vm.findClass own = some m.cls) (hK : va_K D cl tys s) (q0 : Nat) {fs : List Value} (he : ws[q0]? = some (a, .inr (ci, fs))) (hc : cl[ci]? = some (C, T, N)) (f : Nat) (hf : f < N) (hlink : (Cond.fieldLink own index ref (T f).2.1 (T f).2.2.1).before args s = true) (hsame : ∀ x, s.fieldFound? (T f).1 (T f).2.1 (T f).2.2.1 = some x → s.fieldFound? ref (T f).2.1 (T f).2.2.1 = some x) (hfin : (T f).2.2.2 = true) (hin2 : meth.name = "<init>") (hdecl : (T f).1 = own) {ty : FieldType} {v : Value} (hd : parseFieldDescriptor (T f).2.2.1 = some ty) (hn : narrow ty v = v) (hfit : fits ty v = true) (hlen : f < fs.length) (hdg : decode cc pc = .ok (.putfield index, 3)) (ws' : va_W) (hws : ws.set q0 (a, .inr (ci, fs.set f v)) = ws')
    (K : Gz p l e R s m args below meth c nL k n Q (Zw D cl A s ws') (pc + 3) lv rest) : Gz p l e R s m args below meth c nL k n Q (Zw D cl A s ws) pc lv (v :: .ref a :: rest) := fun H locs ls hI hl => va_putF hx hb hts hin ty0 hty hnm hown hK hI.1 hI.2.1 hI.2.2 q0 he hc f hf hlink hsame hfin hin2 hdecl hd hn hfit hlen hdg (fun H1 locs1 hP1 hD1 hS1 => by
      rw [hws] at hP1 hD1
      exact K H1 locs1 ls ⟨hP1, hD1, hS1⟩ hl)
theorem z_newI (hx : p.tables.exec = Jvm.exec) (hb : c.code = cc) (harr : (Cond.arrayClass .int).before args s = true) (hK : va_K D cl tys s) (hA : ∀ q, s.heap.size ≤ q → A q) (t0 : Nat) {cA : ClassId} (ht0 : tys[t0]? = some (cA, .int)) {nz : Int} {N : Nat} (hnz : nz = (N : Int)) (hN : N ≤ 1000) (hcells : k + 1 ≤ R.cells) (hslots : n + N ≤ R.slots) (hdg : decode cc pc = .ok (.newarray .int, 2))
    (K : ∀ q : Nat, Gz p l e R s m args below meth c nL (k + 1) (n + N) Q (Zw D cl A s (ws ++ [(q, .inl (cA, N, .inl (zA (fun _ => 0))))])) (pc + 2) lv (.ref q :: rest)) : Gz p l e R s m args below meth c nL k n Q (Zw D cl A s ws) pc lv (.int (iZ nz) :: rest) := fun H locs ls hI hl => by
  have cn : (iZ nz).toNatClampNeg = N := by rw [iZ_clamp (by omega) (by omega)]; omega
  have gn : ¬ iZ nz < 0 := by rw [show (0 : Int32) = iZ 0 from rfl, iZ_lt (by omega) (by omega)]; omega
  refine va_newa (atype := .int) (ty := .int) hx hb harr rfl hK hI.1 hI.2.1 hI.2.2 hA (a0 := (N, .inl (zA (fun _ => 0)))) (fun cB => by rw [vp_cell_i]; rfl) gn cn (by show N * 4 ≤ _; omega) hcells hslots hdg (fun q cB H1 hK1 hP1 hD1 hS1 => ?_)
  have r1 : va_RA s cB .int := (hK1.2 tys.length (cB, .int) (by rw [List.getElem?_append_right (Nat.le_refl _), Nat.sub_self]; rfl)).2
  have r2 : va_RA s cA .int := (hK.2 t0 _ ht0).2
  have ec : cB = cA := Option.some.inj ((va_nm_int r1).symm.trans (va_nm_int r2))
  subst ec
  exact K q H1 locs ls ⟨hP1, hD1, hS1⟩ hl
theorem z_newQ (hx : p.tables.exec = Jvm.exec) (hb : c.code = cc) {own C : String} {index : Nat} (hown : s.vm.findClass own = some m.cls) (hclink : (Cond.classLink own index C).before args s = true) (hover : va_AO C s) (hK : va_K D cl tys s) (hA : ∀ q, s.heap.size ≤ q → A q) (t0 : Nat) {cA : ClassId} (ht0 : tys[t0]? = some (cA, .object C)) {nz : Int} {N : Nat} (hnz : nz = (N : Int)) (hN : N ≤ 1000) (hcells : k + 1 ≤ R.cells) (hslots : n + N ≤ R.slots) (hdg : decode cc pc = .ok (.anewarray index, 3))
    (K : ∀ q : Nat, Gz p l e R s m args below meth c nL (k + 1) (n + N) Q (Zw D cl A s (ws ++ [(q, .inl (cA, N, .inr (.inr (.inr (.inr (fun _ => none))))))])) (pc + 3) lv (.ref q :: rest)) : Gz p l e R s m args below meth c nL k n Q (Zw D cl A s ws) pc lv (.int (iZ nz) :: rest) := fun H locs ls hI hl => by
  have cn : (iZ nz).toNatClampNeg = N := by rw [iZ_clamp (by omega) (by omega)]; omega
  have gn : ¬ iZ nz < 0 := by rw [show (0 : Int32) = iZ 0 from rfl, iZ_lt (by omega) (by omega)]; omega
  refine va_newq hx hb hown hclink hover hK hI.1 hI.2.1 hI.2.2 hA gn cn (by omega) hcells hslots hdg (fun q cB H1 hK1 hP1 hD1 hS1 => ?_)
  have r1 : va_RA s cB (.object C) := (hK1.2 tys.length (cB, .object C) (by rw [List.getElem?_append_right (Nat.le_refl _), Nat.sub_self]; rfl)).2
  have r2 : va_RA s cA (.object C) := (hK.2 t0 _ ht0).2
  obtain ⟨_, _, _, _, _, f1⟩ := r1
  obtain ⟨_, _, _, _, _, f2⟩ := r2
  have ec : cB = cA := Option.some.inj (f1.symm.trans f2)
  subst ec
  exact K q H1 locs ls ⟨hP1, hD1, hS1⟩ hl
theorem z_new {own C : String} {T : u_T} {N ci index : Nat} {Ts : List Cond} (hx : p.tables.exec = Jvm.exec) (hb : c.code = cc) (hts : ∀ w ∈ Ts, w.before args s = true) (hin : ∀ w ∈ u_ws C T N, w ∈ Ts) {ty : Nat → FieldType} (hty : ∀ k, k < N → parseFieldDescriptor (T k).2.2.1 = some (ty k)) (hown : s.vm.findClass own = some m.cls) (hcl : (Cond.classLink own index C).before args s = true) (hinst : (Cond.instantiable C N).before args s = true) (hini : (Cond.initialized C).before args s = true)
    (hK : va_K D cl tys s) (hA : ∀ q, s.heap.size ≤ q → A q) (hc : cl[ci]? = some (C, T, N)) (fs : List Value) (hfs : ∀ j, j < N → defaultValue (ty j) = vp_V fs j) (hcells : k + 1 ≤ R.cells) (hslots : n + N ≤ R.slots) (hdg : decode cc pc = .ok (.new index, 3))
    (K : ∀ q : Nat, Gz p l e R s m args below meth c nL (k + 1) (n + N) Q (Zw D cl A s (ws ++ [(q, .inr (ci, fs))])) (pc + 3) lv (.ref q :: rest)) : Gz p l e R s m args below meth c nL k n Q (Zw D cl A s ws) pc lv rest := fun H locs ls hI hl =>
  va_new hx hb hts hin ty hty hown hcl hinst hini hK hI.1 hI.2.1 hI.2.2 hA hc hfs hcells hslots hdg (fun q H1 hP1 hD1 hS1 => K q H1 locs ls ⟨hP1, hD1, hS1⟩ hl)
theorem z_aast (hx : p.tables.exec = Jvm.exec) (hb : c.code = cc) (hK : va_K D cl tys s) (q0 t0 qk ci : Nat) {cA : ClassId} {r : vw_C} {N v : Nat} {vs : List Value} {f : Nat → Option Nat} (ha : ws[q0]? = some (a, .inl (cA, N, .inr (.inr (.inr (.inr f)))))) (ht : tys[t0]? = some (cA, .object r.1)) (hv : ws[qk]? = some (v, .inr (ci, vs))) (hc : cl[ci]? = some r) {i : Nat} (hN : N ≤ 2147483647) (hi : i < N) (hdg : decode cc pc = .ok (.aastore, 1)) (ws' : va_W) (hws : ws.set q0 (a, .inl (cA, N, .inr (.inr (.inr (.inr (va_up f i (some v))))))) = ws')
    (K : Gz p l e R s m args below meth c nL k n Q (Zw D cl A s ws') (pc + 1) lv rest) : Gz p l e R s m args below meth c nL k n Q (Zw D cl A s ws) pc lv (.ref v :: .int (iZ (i : Int)) :: .ref a :: rest) := fun H locs ls hI hl => by
  have ci : (iZ (i : Int)).toNatClampNeg = i := by rw [iZ_clamp (by omega) (by omega)]; omega
  refine va_astq hx hb hK hI.1 hI.2.1 hI.2.2 q0 t0 qk _ ha ht hv hc (zin (by omega) hN) hdg (fun H1 locs1 hP1 hD1 hS1 => ?_)
  rw [ci, hws] at hP1 hD1
  exact K H1 locs1 ls ⟨hP1, hD1, hS1⟩ hl
theorem z_callC {y : MethodName} {bytes : ByteArray} {maxL index nA mc ms : Nat} {W1 : List Cond} {rm : Room} {Ts : List Cond} {own : String} {b : Addr} {As : List Value} {wa wc wb : va_W} {stk : List Value} {S : Type} {post : S → Prop} {wf : S → va_W} (F : CallFix p m c cc nL s args Ts own) (hK : va_K D cl tys s) (hA : ∀ q, s.heap.size ≤ q → A q) (hM : ∀ sz, Met l y W1 rm (zPw D cl tys wc sz (.ref b :: As)) (va_Qv post (zB D cl tys wc sz wf) (va_A wc sz)) mc ms (va_A wc sz)) (cw : CallB R s args own index y bytes maxL none W1 rm mc ms nA ∧ y.name = "<init>" ∧ (Cond.instanceMethod y).before args s = true) (hws : ws = wa ++ wc ++ wb) (hn : As.length = nA) (hstk : stk = As.reverse ++ .ref b :: rest) (hW : (rest.map fun v => v.category).sum ≤ 8) (hkn : k + mc ≤ R.cells ∧ n + ms ≤ R.slots) (hdg : decode cc pc = .ok (.invokespecial index, 3))
    (K : ∀ u : S, post u → Gz p l e R s m args below meth c nL (k + mc) (n + ms) Q (Zw D cl A s (wa ++ wf u ++ wb)) (pc + 3) lv rest) : Gz p l e R s m args below meth c nL k n Q (Zw D cl A s ws) pc lv stk := by
  intro H locs ls hI hl
  obtain ⟨hP, hD, hS⟩ := hI
  subst hws
  have hF := z_mine hD hS hA
  refine va_callv (va_runI F (hM H.size) cw ⟨zPw_blind, fun U hU hW => ⟨rfl, by rw [hU], by rw [hU]; exact zP_mid hP, va_K.moved hW.alike hK, zD_mid hD (fun _ _ => trivial)⟩⟩ rfl hn hl.1 hstk (lv_room hW) hdg hkn) hS (fun q _ h => hF q h) hF (fun u t H1 locs1 ht hvm hw hB hz hk hS1 => ?_)
  obtain ⟨hP1, hK1, hD1⟩ := hB
  rw [ht] at hP1
  obtain ⟨hP2, hD2⟩ := z_join hP hD hk hF hP1 hD1
  exact K u hw H1 locs1 ls ⟨hP2, hD2, hS1⟩ hl
end ZN
