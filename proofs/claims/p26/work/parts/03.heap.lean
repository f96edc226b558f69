/-! Fields, arrays, heads, returns and calls over a picture -/
theorem zD_iff {A : Nat → Prop} {ws : va_W} : va_D A ws ↔ (ws.map (·.1)).Nodup ∧ ∀ q ∈ ws, A q.1 := by
  constructor
  · intro h
    refine ⟨?_, fun q hq => ?_⟩
    · rw [List.nodup_iff_pairwise_ne, List.pairwise_iff_getElem]
      intro i j hi hj hij e
      simp only [List.length_map] at hi hj
      simp only [List.getElem_map] at e
      have := h.1 i j _ _ (List.getElem?_eq_getElem hi) (List.getElem?_eq_getElem hj) e
      omega
    · obtain ⟨i, hi⟩ := List.getElem?_of_mem hq
      exact h.2 i q hi
  · intro h
    refine ⟨fun i j x y hi hj hxy => ?_, fun k q hk => h.2 q (List.mem_of_getElem? hk)⟩
    have h1 := h.1
    rw [List.nodup_iff_pairwise_ne, List.pairwise_iff_getElem] at h1
    obtain ⟨hi', rfl⟩ := List.getElem?_eq_some_iff.mp hi
    obtain ⟨hj', rfl⟩ := List.getElem?_eq_some_iff.mp hj
    rcases Nat.lt_trichotomy i j with q | q | q
    · exact (h1 i j (by simpa using hi') (by simpa using hj') q (by simp only [List.getElem_map]; exact hxy)).elim
    · exact q
    · exact (h1 j i (by simpa using hj') (by simpa using hi') q (by simp only [List.getElem_map]; exact hxy.symm)).elim
theorem zP_iff {D : va_G} {cl : List vw_C} {ws : va_W} {H : Heap} : va_P D cl ws H ↔ ∀ q ∈ ws, va_at D cl q H := by
  constructor
  · intro h q hq
    obtain ⟨i, hi⟩ := List.getElem?_of_mem hq
    exact h i q hi
  · intro h k q hk
    exact h q (List.mem_of_getElem? hk)
theorem zP_sub {D : va_G} {cl : List vw_C} {ws w1 : va_W} {H : Heap} (hs : ∀ q ∈ w1, q ∈ ws) (h : va_P D cl ws H) : va_P D cl w1 H := zP_iff.mpr fun q hq => zP_iff.mp h q (hs q hq)
/-- a part of a world is replaced by what a callee left there -/
theorem z_join {D : va_G} {cl : List vw_C} {A : Nat → Prop} {wa wc wb w1 : va_W} {H H1 : Heap} (hP : va_P D cl (wa ++ wc ++ wb) H) (hD : va_D A (wa ++ wc ++ wb)) (hk : ∀ q : Nat, q < H.size → ¬ va_A wc H.size q → H1[q]? = H[q]?) (hF : ∀ q, va_A wc H.size q → A q) (hP1 : va_P D cl w1 H1) (hD1 : va_D (va_A wc H.size) w1) :
    va_P D cl (wa ++ w1 ++ wb) H1 ∧ va_D A (wa ++ w1 ++ wb) := by
  rw [zD_iff] at hD hD1 ⊢
  rw [zP_iff] at hP hP1 ⊢
  have hn := hD.1
  simp only [List.map_append, List.nodup_append, List.mem_append, List.mem_map] at hn
  have out : ∀ q ∈ wa ++ wb, q.1 < H.size ∧ ¬ va_A wc H.size q.1 := by
    intro q hq
    have hq' : q ∈ wa ++ wc ++ wb := by
      rcases List.mem_append.mp hq with h | h
      · simp [h]
      · simp [h]
    have hl := (hP q hq').lt
    refine ⟨hl, fun h => ?_⟩
    rcases h with ⟨k2, e, h⟩ | h
    · have hm := List.mem_of_getElem? h
      rcases List.mem_append.mp hq with h2 | h2
      · exact hn.1.2.2 q.1 ⟨q, h2, rfl⟩ q.1 ⟨_, hm, rfl⟩ rfl
      · exact hn.2.2 q.1 (Or.inr ⟨_, hm, rfl⟩) q.1 ⟨q, h2, rfl⟩ rfl
    · omega
  have keep : ∀ q ∈ wa ++ wb, va_at D cl q H1 := by
    intro q hq
    obtain ⟨g1, g2⟩ := out q hq
    have hq' : q ∈ wa ++ wc ++ wb := by
      rcases List.mem_append.mp hq with h | h
      · simp [h]
      · simp [h]
    exact (hP q hq').kept (hk q.1 g1 g2)
  refine ⟨fun q hq => ?_, ?_, fun q hq => ?_⟩
  · simp only [List.mem_append] at hq
    rcases hq with (h | h) | h
    · exact keep q (List.mem_append.mpr (Or.inl h))
    · exact hP1 q h
    · exact keep q (List.mem_append.mpr (Or.inr h))
  · simp only [List.map_append, List.nodup_append, List.mem_append, List.mem_map]
    refine ⟨⟨hn.1.1, hD1.1, ?_⟩, hn.2.1, ?_⟩
    · rintro x ⟨q, hq, rfl⟩ y ⟨r, hr, rfl⟩ e
      exact (out q (List.mem_append.mpr (Or.inl hq))).2 (by rw [e]; exact hD1.2 r hr)
    · rintro x (⟨q, hq, rfl⟩ | ⟨q, hq, rfl⟩) y ⟨r, hr, rfl⟩ e
      · exact hn.2.2 q.1 (Or.inl ⟨q, hq, rfl⟩) r.1 ⟨r, hr, rfl⟩ e
      · exact (out r (List.mem_append.mpr (Or.inr hr))).2 (by rw [← e]; exact hD1.2 q hq)
  · simp only [List.mem_append] at hq
    rcases hq with (h | h) | h
    · exact hD.2 q (by simp [h])
    · exact hF _ (hD1.2 q h)
    · exact hD.2 q (by simp [h])
theorem z_mine {A : Nat → Prop} {wa wc wb : va_W} {H0 H : Heap} {locs : List Loc} (hD : va_D A (wa ++ wc ++ wb)) (hS : va_S A H0 H locs) (hA : ∀ q, H0.size ≤ q → A q) : ∀ q, va_A wc H.size q → A q := by
  intro q h
  rcases h with ⟨k, e, h⟩ | h
  · exact (zD_iff.mp hD).2 (q, e) (by simp [List.mem_of_getElem? h])
  · exact hA q (Nat.le_trans hS.1 h)
theorem zD_mid {A B : Nat → Prop} {wa wc wb : va_W} (hD : va_D A (wa ++ wc ++ wb)) (hB : ∀ q ∈ wc, B q.1) : va_D B wc := by
  rw [zD_iff] at hD ⊢
  have hn := hD.1
  simp only [List.map_append, List.nodup_append] at hn
  exact ⟨hn.1.2.1, hB⟩
theorem zP_mid {D : va_G} {cl : List vw_C} {wa wc wb : va_W} {H : Heap} (h : va_P D cl (wa ++ wc ++ wb) H) : va_P D cl wc H := zP_sub (fun q hq => by simp [hq]) h
/-- contracts: a pure one, and one over a world -/
def zPp (D : va_G) (cl : List vw_C) (tys : List (ClassId × FieldType)) (ws : va_W) (av : List Value) : Array Value → State → Prop := va_Pc av (fun U => va_P D cl ws U.heap ∧ va_K D cl tys U)
def zPw (D : va_G) (cl : List vw_C) (tys : List (ClassId × FieldType)) (ws : va_W) (sz : Nat) (av : List Value) : Array Value → State → Prop := va_Pc av (fun U => U.heap.size = sz ∧ va_P D cl ws U.heap ∧ va_K D cl tys U ∧ va_D (fun _ => True) ws)
def zB (D : va_G) (cl : List vw_C) (tys : List (ClassId × FieldType)) (ws : va_W) (sz : Nat) {S : Type} (wf : S → va_W) : S → State → Prop := fun u t => va_P D cl (wf u) t.heap ∧ va_K D cl tys t ∧ va_D (va_A ws sz) (wf u)
theorem zPp_blind {D : va_G} {cl : List vw_C} {tys : List (ClassId × FieldType)} {ws : va_W} {av : List Value} : FrameBlind (zPp D cl tys ws av) := fun a U g mk q => ⟨q.1, q.2.1, va_K.moved (u := U) (U := U.calling g mk a) (Vm.Alike.refl U.vm) q.2.2⟩
theorem zPw_blind {D : va_G} {cl : List vw_C} {tys : List (ClassId × FieldType)} {ws : va_W} {sz : Nat} {av : List Value} : FrameBlind (zPw D cl tys ws sz av) := fun a U g mk q => ⟨q.1, q.2.1, q.2.2.1, va_K.moved (u := U) (U := U.calling g mk a) (Vm.Alike.refl U.vm) q.2.2.2.1, q.2.2.2.2⟩
theorem z_headP {l : Launch} {D : va_G} {cl : List vw_C} {tys : List (ClassId × FieldType)} {ws : va_W} {av : List Value} {y : MethodName} {W W' : List Cond} {rm : Room} {Qc : Array Value → State → Outcome → State → Prop} {cc : ByteArray} {maxL : Nat} {ret : Option FieldType} {free : Addr → Prop} (lv : List (Nat × Value)) (hlv : lv_args 0 av = lv) (hsl : (lg_sl av).length ≤ maxL) (hy : plainName y.cls = true) (hw : W = Cond.code y cc maxL ret :: W')
    (body : ∀ (p : Program) (e : Env) (s : State) (m : MethodId) (below : List Frame) (meth : Method) (c : Code), p.tables.exec = Jvm.exec → c.code = cc → meth.sig.returnType = ret → c.maxLocals = maxL → s.vm.findClass y.cls = some m.cls → (∀ w ∈ W, w.before av.toArray s = true) → meth.locks = false → va_K D cl tys s → va_P D cl ws s.heap →
      Gz p l e rm s m av.toArray below meth c maxL 0 0 (MQ below Qc av.toArray s 0 0 free) (Zp s) 0 lv []) (hrm : (headSpec W rm).room = rm := by rfl) : Met l y W rm (zPp D cl tys ws av) Qc 0 0 free := by
  refine Met.ofW (cc := cc) (maxL := maxL) (ret := ret) hy hw ?_
  intro p e s m args below meth c s₁ B hml hv
  obtain ⟨rfl, hP, hK⟩ := hv
  have k := body p e s m below meth c B.exec B.bytes B.returns hml (findClass_of_methodNamed B.named) (atoms_spec (ws := W) B.pre) B.notSynchronized hK hP
  rw [hrm, lg_entry_eq]
  have hl := lv_entry av (n := maxL) hsl
  rw [hlv] at hl
  exact k s.heap [] _ ⟨rfl, rfl⟩ hl
theorem z_headW {l : Launch} {D : va_G} {cl : List vw_C} {tys : List (ClassId × FieldType)} {ws : va_W} {sz : Nat} {av : List Value} {y : MethodName} {W W' : List Cond} {rm : Room} {Qc : Array Value → State → Outcome → State → Prop} {cc : ByteArray} {maxL : Nat} {ret : Option FieldType} {mc ms : Nat} {free : Addr → Prop} (lv : List (Nat × Value)) (hlv : lv_args 0 av = lv) (hsl : (lg_sl av).length ≤ maxL) (hy : plainName y.cls = true) (hw : W = Cond.code y cc maxL ret :: W')
    (body : ∀ (p : Program) (e : Env) (s : State) (m : MethodId) (below : List Frame) (meth : Method) (c : Code), p.tables.exec = Jvm.exec → c.code = cc → meth.sig.returnType = ret → c.maxLocals = maxL → s.vm.findClass y.cls = some m.cls → (∀ w ∈ W, w.before av.toArray s = true) → meth.locks = false → va_K D cl tys s → meth.name = y.name → s.heap.size = sz → (∀ q, s.heap.size ≤ q → va_A ws sz q) →
      Gz p l e rm s m av.toArray below meth c maxL 0 0 (MQ below Qc av.toArray s mc ms free) (Zw D cl (va_A ws sz) s ws) 0 lv []) (hrm : (headSpec W rm).room = rm := by rfl) : Met l y W rm (zPw D cl tys ws sz av) Qc mc ms free := by
  refine Met.ofW (cc := cc) (maxL := maxL) (ret := ret) hy hw ?_
  intro p e s m args below meth c s₁ B hml hv
  obtain ⟨rfl, hsz, hP, hK, hD⟩ := hv
  have k := body p e s m below meth c B.exec B.bytes B.returns hml (findClass_of_methodNamed B.named) (atoms_spec (ws := W) B.pre) B.notSynchronized hK (name_of_methodNamed B.named B.method).1 hsz (fun q h => Or.inr (by rw [← hsz]; exact h))
  rw [hrm, lg_entry_eq]
  have hl := lv_entry av (n := maxL) hsl
  rw [hlv] at hl
  exact k s.heap [] _ ⟨hP, hD.self, va_S.rf⟩ hl
section ZH
variable {p : Program} {l : Launch} {e : Env} {R : Room} {s : State} {m : MethodId} {args : Array Value} {below : List Frame} {meth : Method} {c : Code} {nL k n : Nat} {Q : State → Prop} {I : Heap → List Loc → Prop} {cc : ByteArray} {pc : Nat} {lv : List (Nat × Value)} {rest : List Value} {D : va_G} {cl : List vw_C} {tys : List (ClassId × FieldType)} {ws : va_W} {A : Nat → Prop} {a : Nat}
theorem z_get (hx : p.tables.exec = Jvm.exec) (hb : c.code = cc) {own ref C : String} {T : u_T} {N ci index : Nat} {Ts : List Cond} (hts : ∀ w ∈ Ts, w.before args s = true) (hin : ∀ w ∈ u_ws C T N, w ∈ Ts) (hown : s.vm.findClass own = some m.cls) (hK : va_K D cl tys s) (hg : ∀ H locs, I H locs → va_P D cl ws H) (q0 : Nat) {fs : List Value} (he : ws[q0]? = some (a, .inr (ci, fs))) (hc : cl[ci]? = some (C, T, N)) (f : Nat) (hf : f < N) (hlink : (Cond.fieldLink own index ref (T f).2.1 (T f).2.2.1).before args s = true) (hsame : ∀ x, s.fieldFound? (T f).1 (T f).2.1 (T f).2.2.1 = some x → s.fieldFound? ref (T f).2.1 (T f).2.2.1 = some x) {v : Value} (hv : fs[f]? = some v) (hdg : decode cc pc = .ok (.getfield index, 3))
    (K : Gz p l e R s m args below meth c nL k n Q I (pc + 3) lv (v :: rest)) : Gz p l e R s m args below meth c nL k n Q I pc lv (.ref a :: rest) := fun H locs ls hI hl => va_get hx hb hts hin hown hK (hg H locs hI) q0 he hc f hf hlink hsame hv hdg (K H locs ls hI hl)
theorem z_iald (hx : p.tables.exec = Jvm.exec) (hb : c.code = cc) (hK : va_K D cl tys s) (hg : ∀ H locs, I H locs → va_P D cl ws H) (q0 t0 : Nat) {cA : ClassId} {N : Nat} {f : Int → Int} (he : ws[q0]? = some (a, .inl (cA, N, .inl (zA f)))) (ht : tys[t0]? = some (cA, .int)) {i : Int} (hN : N ≤ 2147483647) (hi : 0 ≤ i ∧ i < (N : Int)) (hdg : decode cc pc = .ok (.iaload, 1))
    (K : Gz p l e R s m args below meth c nL k n Q I (pc + 1) lv (.int (iZ (f i)) :: rest)) : Gz p l e R s m args below meth c nL k n Q I pc lv (.int (iZ i) :: .ref a :: rest) := fun H locs ls hI hl => va_iald hx hb hK (hg H locs hI) q0 t0 he ht (zin hi hN) hdg (by rw [zA_at hi.1 (by omega)]; exact K H locs ls hI hl)
theorem z_iast (hx : p.tables.exec = Jvm.exec) (hb : c.code = cc) (hK : va_K D cl tys s) (q0 t0 : Nat) {cA : ClassId} {N : Nat} {f : Int → Int} (he : ws[q0]? = some (a, .inl (cA, N, .inl (zA f)))) (ht : tys[t0]? = some (cA, .int)) {i x : Int} (hN : N ≤ 2147483647) (hi : 0 ≤ i ∧ i < (N : Int)) (hdg : decode cc pc = .ok (.iastore, 1)) (ws' : va_W) (hws : ws.set q0 (a, .inl (cA, N, .inl (zA (zu f i x)))) = ws')
    (K : Gz p l e R s m args below meth c nL k n Q (Zw D cl A s ws') (pc + 1) lv rest) : Gz p l e R s m args below meth c nL k n Q (Zw D cl A s ws) pc lv (.int (iZ x) :: .int (iZ i) :: .ref a :: rest) := fun H locs ls hI hl => va_iast hx hb hK hI.1 hI.2.1 hI.2.2 q0 t0 he ht (zin hi hN) hdg (fun H1 locs1 hP1 hD1 hS1 => by
      rw [zA_up hi.1 (by omega), hws] at hP1 hD1
      exact K H1 locs1 ls ⟨hP1, hD1, hS1⟩ hl)
theorem z_put (hx : p.tables.exec = Jvm.exec) (hb : c.code = cc) {own ref C : String} {T : u_T} {N ci index : Nat} {Ts : List Cond} (hts : ∀ w ∈ Ts, w.before args s = true) (hin : ∀ w ∈ u_ws C T N, w ∈ Ts) {ty0 : Nat → FieldType} (hty : ∀ k, k < N → parseFieldDescriptor (T k).2.2.1 = some (ty0 k)) (hnm : ∀ a, a < N → ∀ b, b < N → a ≠ b → (T a).2.1 ≠ (T b).2.1) (hown : s.vm.findClass own = some m.cls) (hK : va_K D cl tys s) (q0 : Nat) {fs : List Value} (he : ws[q0]? = some (a, .inr (ci, fs))) (hc : cl[ci]? = some (C, T, N)) (f : Nat) (hf : f < N) (hlink : (Cond.fieldLink own index ref (T f).2.1 (T f).2.2.1).before args s = true) (hsame : ∀ x, s.fieldFound? (T f).1 (T f).2.1 (T f).2.2.1 = some x → s.fieldFound? ref (T f).2.1 (T f).2.2.1 = some x) (hfin : (T f).2.2.2 = false) {ty : FieldType} {v : Value} (hd : parseFieldDescriptor (T f).2.2.1 = some ty) (hn : narrow ty v = v) (hfit : fits ty v = true) (hlen : f < fs.length) (hdg : decode cc pc = .ok (.putfield index, 3)) (ws' : va_W) (hws : ws.set q0 (a, .inr (ci, fs.set f v)) = ws')
    (K : Gz p l e R s m args below meth c nL k n Q (Zw D cl A s ws') (pc + 3) lv rest) : Gz p l e R s m args below meth c nL k n Q (Zw D cl A s ws) pc lv (v :: .ref a :: rest) := fun H locs ls hI hl => va_put hx hb hts hin ty0 hty hnm hown hK hI.1 hI.2.1 hI.2.2 q0 he hc f hf hlink hsame hfin hd hn hfit hlen hdg (fun H1 locs1 hP1 hD1 hS1 => by
      rw [hws] at hP1 hD1
      exact K H1 locs1 ls ⟨hP1, hD1, hS1⟩ hl)
theorem z_tin (z : Int) (hx : p.tables.exec = Jvm.exec) (hb : c.code = cc) {dflt lo hi : Int} {offs : Array Int} {len : Nat} {x off : Int} {tgt : Nat} (hz : x = z) (hr : -2147483648 ≤ z ∧ z ≤ 2147483647) (hdg : decode cc pc = .ok (.tableswitch dflt lo hi offs, len)) (h1 : ¬ z < lo) (h2 : ¬ hi < z) (ho : offs[(z - lo).toNat]? = some off) (ht : (pc : Int) + off = (tgt : Int)) (K : Gz p l e R s m args below meth c nL k n Q I tgt lv rest) : Gz p l e R s m args below meth c nL k n Q I pc lv (.int (iZ x) :: rest) := fun H locs ls hI hl => by
  subst hz
  exact lv_tableIn hx hb hdg (by rw [iZ_toInt hr]; exact h1) (by rw [iZ_toInt hr]; exact h2) (by rw [iZ_toInt hr]; exact ho) ht (K H locs ls hI hl)
theorem z_tout (hx : p.tables.exec = Jvm.exec) (hb : c.code = cc) {dflt lo hi : Int} {offs : Array Int} {len : Nat} {x : Int} {tgt : Nat} (hr : -2147483648 ≤ x ∧ x ≤ 2147483647) (h : x < lo ∨ hi < x) (hdg : decode cc pc = .ok (.tableswitch dflt lo hi offs, len)) (ht : (pc : Int) + dflt = (tgt : Int)) (K : Gz p l e R s m args below meth c nL k n Q I tgt lv rest) : Gz p l e R s m args below meth c nL k n Q I pc lv (.int (iZ x) :: rest) := fun H locs ls hI hl => lv_tableOut hx hb hdg (by rw [iZ_toInt hr]; exact h) ht (K H locs ls hI hl)
def wz (z : Int) : Int := (iZ z).toInt
theorem z_i2lw (hx : p.tables.exec = Jvm.exec) (hb : c.code = cc) {z : Int} (hdg : decode cc pc = .ok (.i2l, 1)) (K : Gz p l e R s m args below meth c nL k n Q I (pc + 1) lv (.long (lZ (wz z)) :: rest)) : Gz p l e R s m args below meth c nL k n Q I pc lv (.int (iZ z) :: rest) := fun H locs ls hI hl => lv_i2l hx hb hdg (show (iZ z).toInt64 = lZ (wz z) from rfl) (K H locs ls hI hl)
theorem z_ldc2 (hx : p.tables.exec = Jvm.exec) (hb : c.code = cc) {own : String} {index : Nat} {v : Int64} {z : Int} (hown : s.vm.findClass own = some m.cls) (hconst : (Jvm.Cond.constantLong own index v).before args s = true) (hz : v = lZ z) (hdg : decode cc pc = .ok (.ldc2_w index, 3)) (K : Gz p l e R s m args below meth c nL k n Q I (pc + 3) lv (.long (lZ z) :: rest)) : Gz p l e R s m args below meth c nL k n Q I pc lv rest := fun H locs ls hI hl => lv_ldc2 hx hb hown hconst hdg (by rw [hz]; exact K H locs ls hI hl)
/-- returns of a pure method -/
theorem z_retP {free : Addr → Prop} (hx : p.tables.exec = Jvm.exec) (hb : c.code = cc) (hr : meth.sig.returnType = some .int) (hlocks : meth.locks = false) {res z : Int} (hz : z = res) (hdg : decode cc pc = .ok (.ireturn, 1)) : Gz p l e R s m args below meth c nL 0 0 (MQ below (vp_Si (fun r => r = iZ res)) args s 0 0 free) (Zp s) pc lv [.int (iZ z)] := by
  intro H locs ls hI hl
  obtain ⟨rfl, rfl⟩ := hI
  exact W.iret hx hb hr (fun t ht _ => ⟨iZ z, rfl, by rw [hz], ht⟩) (fun q h => nomatch h) hdg hlocks
theorem z_retB {free : Addr → Prop} (hx : p.tables.exec = Jvm.exec) (hb : c.code = cc) (hr : meth.sig.returnType = some .boolean) (hlocks : meth.locks = false) {P : Prop} [Decidable P] {z : Int} (hz : z = b2z P) (hdg : decode cc pc = .ok (.ireturn, 1)) : Gz p l e R s m args below meth c nL 0 0 (MQ below (vp_Si (fun r => r = iZ (b2z P))) args s 0 0 free) (Zp s) pc lv [.int (iZ z)] := by
  intro H locs ls hI hl
  obtain ⟨rfl, rfl⟩ := hI
  exact W.zret hx hb hr (narrow_z (by rw [hz]; exact b2z_01 P)) (fun t ht _ => ⟨iZ z, rfl, by rw [hz], ht⟩) (fun q h => nomatch h) hdg hlocks
/-- returns over a world -/
theorem z_retV {S : Type} {post : S → Prop} {wf : S → va_W} {w0 : va_W} {sz : Nat} (hx : p.tables.exec = Jvm.exec) (hb : c.code = cc) (hr : meth.sig.returnType = none) (hlocks : meth.locks = false) (hK : va_K D cl tys s) (u : S) (hu : post u) (hws : ws = wf u) (hdg : decode cc pc = .ok (.return_, 1)) : Gz p l e R s m args below meth c nL k n (MQ below (va_Qv post (zB D cl tys w0 sz wf) (va_A w0 sz)) args s k n (va_A w0 sz)) (Zw D cl (va_A w0 sz) s ws) pc lv [] := by
  intro H locs ls hI hl
  subst hws
  exact W.vret hx hb hr (fun t ht hW => ⟨⟨u, rfl, hu, by rw [ht]; exact hI.1, va_K.moved hW.alike hK, hI.2.1⟩, hI.2.2.F ht⟩) hI.2.2.2.2 hdg hlocks
theorem z_retI {S : Type} {post : Int32 → S → Prop} {wf : S → va_W} {w0 : va_W} {sz : Nat} {z : Int} (hx : p.tables.exec = Jvm.exec) (hb : c.code = cc) (hr : meth.sig.returnType = some .int) (hlocks : meth.locks = false) (hK : va_K D cl tys s) (u : S) (hu : post (iZ z) u) (hws : ws = wf u) (hdg : decode cc pc = .ok (.ireturn, 1)) : Gz p l e R s m args below meth c nL k n (MQ below (va_Qi post (zB D cl tys w0 sz wf) (va_A w0 sz)) args s k n (va_A w0 sz)) (Zw D cl (va_A w0 sz) s ws) pc lv [.int (iZ z)] := by
  intro H locs ls hI hl
  subst hws
  exact W.iret hx hb hr (fun t ht hW => ⟨⟨iZ z, u, rfl, hu, by rw [ht]; exact hI.1, va_K.moved hW.alike hK, hI.2.1⟩, hI.2.2.F ht⟩) hI.2.2.2.2 hdg hlocks
/-- pure calls -/
theorem z_callP {y : MethodName} {bytes : ByteArray} {maxL index nA : Nat} {ret : Option FieldType} {W1 : List Cond} {rm : Room} {Ts : List Cond} {own C : String} {b : Addr} {As : List Value} {w1 : va_W} {res : Int} {stk : List Value} {ci : Nat} {q : vw_C} {fs : List Value} (S : CallFix p m c cc nL s args Ts own) (hK : va_K D cl tys s) (hg : ∀ H locs, I H locs → va_P D cl ws H) (hM : Met l y W1 rm (zPp D cl tys w1 (.ref b :: As)) (vp_Si (fun r => r = iZ res)) 0 0 (fun _ => False)) (cw : CallW R s args own C index y bytes maxL ret W1 rm 0 0 nA) (sub : ∀ x ∈ w1, x ∈ ws) (q0 : Nat) (he : ws[q0]? = some (b, .inr (ci, fs))) (hc : cl[ci]? = some q) (hC : q.1 = C) (hn : As.length = nA) (hstk : stk = As.reverse ++ .ref b :: rest) (hW : (rest.map fun v => v.category).sum ≤ 8) (hkn : k ≤ R.cells ∧ n ≤ R.slots) (hdg : decode cc pc = .ok (.invokevirtual index, 3))
    (K : Gz p l e R s m args below meth c nL k n Q I (pc + 3) lv (.int (iZ res) :: rest)) : Gz p l e R s m args below meth c nL k n Q I pc lv stk := by
  intro H locs ls hI hl
  have hP := hg H locs hI
  subst hC
  exact vp_callSi (W.runV S hM cw ⟨zPp_blind, va_recv hK hP hc he, fun U hU hW => ⟨rfl, by rw [hU]; exact zP_sub sub hP, va_K.moved hW.alike hK⟩⟩ rfl hn hl.1 hstk (lv_room hW) hdg hkn) (fun r hr => by rw [hr]; exact K H locs ls hI hl)
theorem z_callPS {y : MethodName} {bytes : ByteArray} {maxL index nA : Nat} {ret : Option FieldType} {W1 : List Cond} {rm : Room} {Ts : List Cond} {own : String} {As : List Value} {w1 : va_W} {res : Int} {stk : List Value} (S : CallFix p m c cc nL s args Ts own) (hK : va_K D cl tys s) (hg : ∀ H locs, I H locs → va_P D cl ws H) (hM : Met l y W1 rm (zPp D cl tys w1 As) (vp_Si (fun r => r = iZ res)) 0 0 (fun _ => False)) (cw : CallB R s args own index y bytes maxL ret W1 rm 0 0 nA ∧ (Cond.static y).before args s = true) (sub : ∀ x ∈ w1, x ∈ ws) (hn : As.length = nA) (hstk : stk = As.reverse ++ rest) (hW : (rest.map fun v => v.category).sum ≤ 8) (hkn : k ≤ R.cells ∧ n ≤ R.slots) (hdg : decode cc pc = .ok (.invokestatic index, 3))
    (K : Gz p l e R s m args below meth c nL k n Q I (pc + 3) lv (.int (iZ res) :: rest)) : Gz p l e R s m args below meth c nL k n Q I pc lv stk := by
  intro H locs ls hI hl
  have hP := hg H locs hI
  exact vp_callSi (W.runS S hM cw ⟨zPp_blind, fun U hU hW => ⟨rfl, by rw [hU]; exact zP_sub sub hP, va_K.moved hW.alike hK⟩⟩ rfl hn hl.1 hstk (lv_room hW) hdg hkn) (fun r hr => by rw [hr]; exact K H locs ls hI hl)
/-- calls that write: the callee's world is a stretch of this one -/
theorem z_callV {y : MethodName} {bytes : ByteArray} {maxL index nA mc ms : Nat} {ret : Option FieldType} {W1 : List Cond} {rm : Room} {Ts : List Cond} {own C : String} {b : Addr} {As : List Value} {wa wc wb : va_W} {stk : List Value} {ci : Nat} {q : vw_C} {fs : List Value} {S : Type} {post : S → Prop} {wf : S → va_W} (F : CallFix p m c cc nL s args Ts own) (hK : va_K D cl tys s) (hA : ∀ q, s.heap.size ≤ q → A q) (hM : ∀ sz, Met l y W1 rm (zPw D cl tys wc sz (.ref b :: As)) (va_Qv post (zB D cl tys wc sz wf) (va_A wc sz)) mc ms (va_A wc sz)) (cw : CallW R s args own C index y bytes maxL ret W1 rm mc ms nA) (hws : ws = wa ++ wc ++ wb) (q0 : Nat) (he : ws[q0]? = some (b, .inr (ci, fs))) (hc : cl[ci]? = some q) (hC : q.1 = C) (hn : As.length = nA) (hstk : stk = As.reverse ++ .ref b :: rest) (hW : (rest.map fun v => v.category).sum ≤ 8) (hkn : k + mc ≤ R.cells ∧ n + ms ≤ R.slots) (hdg : decode cc pc = .ok (.invokevirtual index, 3))
    (K : ∀ u : S, post u → Gz p l e R s m args below meth c nL (k + mc) (n + ms) Q (Zw D cl A s (wa ++ wf u ++ wb)) (pc + 3) lv rest) : Gz p l e R s m args below meth c nL k n Q (Zw D cl A s ws) pc lv stk := by
  intro H locs ls hI hl
  obtain ⟨hP, hD, hS⟩ := hI
  subst hC
  have hr := va_recv hK hP hc he
  subst hws
  have hF := z_mine hD hS hA
  refine va_callv (va_runV F (hM H.size) cw ⟨zPw_blind, hr, fun U hU hW => ⟨rfl, by rw [hU], by rw [hU]; exact zP_mid hP, va_K.moved hW.alike hK, zD_mid hD (fun _ _ => trivial)⟩⟩ rfl hn hl.1 hstk (lv_room hW) hdg hkn) hS (fun q _ h => hF q h) hF (fun u t H1 locs1 ht hvm hw hB hz hk hS1 => ?_)
  obtain ⟨hP1, hK1, hD1⟩ := hB
  rw [ht] at hP1
  obtain ⟨hP2, hD2⟩ := z_join hP hD hk hF hP1 hD1
  exact K u hw H1 locs1 ls ⟨hP2, hD2, hS1⟩ hl
theorem z_callI {y : MethodName} {bytes : ByteArray} {maxL index nA mc ms : Nat} {ret : Option FieldType} {W1 : List Cond} {rm : Room} {Ts : List Cond} {own C : String} {b : Addr} {As : List Value} {wa wc wb : va_W} {stk : List Value} {ci : Nat} {q : vw_C} {fs : List Value} {S : Type} {post : Int32 → S → Prop} {wf : S → va_W} (F : CallFix p m c cc nL s args Ts own) (hK : va_K D cl tys s) (hA : ∀ q, s.heap.size ≤ q → A q) (hM : ∀ sz, Met l y W1 rm (zPw D cl tys wc sz (.ref b :: As)) (va_Qi post (zB D cl tys wc sz wf) (va_A wc sz)) mc ms (va_A wc sz)) (cw : CallW R s args own C index y bytes maxL ret W1 rm mc ms nA) (hws : ws = wa ++ wc ++ wb) (q0 : Nat) (he : ws[q0]? = some (b, .inr (ci, fs))) (hc : cl[ci]? = some q) (hC : q.1 = C) (hn : As.length = nA) (hstk : stk = As.reverse ++ .ref b :: rest) (hW : (rest.map fun v => v.category).sum ≤ 8) (hkn : k + mc ≤ R.cells ∧ n + ms ≤ R.slots) (hdg : decode cc pc = .ok (.invokevirtual index, 3))
    (K : ∀ (r : Int32) (u : S), post r u → Gz p l e R s m args below meth c nL (k + mc) (n + ms) Q (Zw D cl A s (wa ++ wf u ++ wb)) (pc + 3) lv (.int r :: rest)) : Gz p l e R s m args below meth c nL k n Q (Zw D cl A s ws) pc lv stk := by
  intro H locs ls hI hl
  obtain ⟨hP, hD, hS⟩ := hI
  subst hC
  have hr := va_recv hK hP hc he
  subst hws
  have hF := z_mine hD hS hA
  refine va_calli (va_runV F (hM H.size) cw ⟨zPw_blind, hr, fun U hU hW => ⟨rfl, by rw [hU], by rw [hU]; exact zP_mid hP, va_K.moved hW.alike hK, zD_mid hD (fun _ _ => trivial)⟩⟩ rfl hn hl.1 hstk (lv_room hW) hdg hkn) hS (fun q _ h => hF q h) hF (fun r u t H1 locs1 ht hvm hw hB hz hk hS1 => ?_)
  obtain ⟨hP1, hK1, hD1⟩ := hB
  rw [ht] at hP1
  obtain ⟨hP2, hD2⟩ := z_join hP hD hk hF hP1 hD1
  exact K r u hw H1 locs1 ls ⟨hP2, hD2, hS1⟩ hl
end ZH
