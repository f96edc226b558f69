/-! The law's take and part: any number, and one below n -/
section ZTK
variable {p : Program} {l : Launch} {e : Env} {R : Room} {s : State} {m : MethodId} {args : Array Value} {below : List Frame} {meth : Method} {c : Code} {nL k n : Nat} {Q : State → Prop} {I : Heap → List Loc → Prop} {cc : ByteArray} {pc : Nat} {lv : List (Nat × Value)} {rest : List Value} {b L : Nat} {xs : Nat → Int32}
theorem z_ishrR (hx : p.tables.exec = Jvm.exec) (hb : c.code = cc) {u v : Int32} (hdg : decode cc pc = .ok (.ishr, 1)) (K : ∀ w : Int, -2147483648 ≤ w ∧ w ≤ 2147483647 → Gz p l e R s m args below meth c nL k n Q I (pc + 1) lv (.int (iZ w) :: rest)) : Gz p l e R s m args below meth c nL k n Q I pc lv (.int v :: .int u :: rest) := fun H locs ls hI hl =>
  lv_ishr hx hb hdg (by
    rw [← iZ_of (u >>> (v &&& 31))]
    exact K _ (iZ_rng _) H locs ls hI hl)
theorem z_ixorR (hx : p.tables.exec = Jvm.exec) (hb : c.code = cc) {u v : Int32} (hdg : decode cc pc = .ok (.ixor, 1)) (K : ∀ w : Int, -2147483648 ≤ w ∧ w ≤ 2147483647 → Gz p l e R s m args below meth c nL k n Q I (pc + 1) lv (.int (iZ w) :: rest)) : Gz p l e R s m args below meth c nL k n Q I pc lv (.int v :: .int u :: rest) := fun H locs ls hI hl =>
  lv_ixor hx hb hdg (by
    rw [← iZ_of (u ^^^ v)]
    exact K _ (iZ_rng _) H locs ls hI hl)
theorem z_maskR (hx : p.tables.exec = Jvm.exec) (hb : c.code = cc) {u : Int32} (hdg : decode cc pc = .ok (.iand, 1)) (K : ∀ w : Int, 0 ≤ w ∧ w ≤ 2147483647 → Gz p l e R s m args below meth c nL k n Q I (pc + 1) lv (.int (iZ w) :: rest)) : Gz p l e R s m args below meth c nL k n Q I pc lv (.int (iZ 2147483647) :: .int u :: rest) := fun H locs ls hI hl =>
  lv_iand hx hb hdg (by
    rw [← iZ_of (u &&& iZ 2147483647)]
    exact K _ ⟨mask_nn u, (iZ_rng _).2⟩ H locs ls hI hl)
theorem z_sldP (hx : p.tables.exec = Jvm.exec) (hb : c.code = cc) (hX : va_X b L xs s s.heap) (hbl : b < s.heap.size) {i : Int} (hi : 0 ≤ i ∧ i < (L : Int)) (hL : L ≤ 260) (hdg : decode cc pc = .ok (.iaload, 1))
    (K : Gz p l e R s m args below meth c nL k n Q (Zp s) (pc + 1) lv (.int (iZ (xsI xs i)) :: rest)) : Gz p l e R s m args below meth c nL k n Q (Zp s) pc lv (.int (iZ i) :: .ref b :: rest) := fun H locs ls hI hl => by
  obtain ⟨rfl, rfl⟩ := hI
  exact va_sld (A := fun _ => False) hx hb hX hbl (fun h => h) va_S.rf (zin hi (by omega)) hdg (by
    rw [iZ_clamp (by omega) (by omega), ← iZ_of (xs i.toNat)]
    exact K s.heap [] ls ⟨rfl, rfl⟩ hl)
theorem z_slenP (hx : p.tables.exec = Jvm.exec) (hb : c.code = cc) (hX : va_X b L xs s s.heap) (hbl : b < s.heap.size) (hdg : decode cc pc = .ok (.arraylength, 1))
    (K : Gz p l e R s m args below meth c nL k n Q (Zp s) (pc + 1) lv (.int (iZ (L : Int)) :: rest)) : Gz p l e R s m args below meth c nL k n Q (Zp s) pc lv (.ref b :: rest) := fun H locs ls hI hl => by
  obtain ⟨rfl, rfl⟩ := hI
  exact va_slen (A := fun _ => False) hx hb hX hbl (fun h => h) va_S.rf hdg (by
    rw [show Int32.ofNat L = iZ (L : Int) from (Int32.ofInt_eq_ofNat (n := L)).symm]
    exact K s.heap [] ls ⟨rfl, rfl⟩ hl)
theorem z_retPp {free : Addr → Prop} {post : Int32 → Prop} (hx : p.tables.exec = Jvm.exec) (hb : c.code = cc) (hr : meth.sig.returnType = some .int) (hlocks : meth.locks = false) {z : Int} (hz : post (iZ z)) (hdg : decode cc pc = .ok (.ireturn, 1)) : Gz p l e R s m args below meth c nL 0 0 (MQ below (vp_Si post) args s 0 0 free) (Zp s) pc lv [.int (iZ z)] := by
  intro H locs ls hI hl
  obtain ⟨rfl, rfl⟩ := hI
  exact W.iret hx hb hr (fun t ht _ => ⟨iZ z, rfl, hz, ht⟩) (fun q h => nomatch h) hdg hlocks
end ZTK
set_option maxRecDepth 100000 in
theorem c_L_part (l : Launch) (D : va_G) (y : Nat → ClassId) (x n : Int) (hn : 0 < n ∧ n ≤ 2147483647) : Met l yL_part wsL_part ({ frames := 0, cells := 0, slots := 0, locals := 0 } : Room) (zPp D vwCl (zT y) [] [.int (iZ x), .int (iZ n)]) (vp_Si (fun r => ∃ z : Int, r = iZ z ∧ 0 ≤ z ∧ z < n)) 0 0 (fun _ => False) := by
  refine z_headP (cc := cL_part) (maxL := 2) (ret := some .int) [(0, .int (iZ x)), (1, .int (iZ n))] rfl (Nat.le_of_ble_eq_true rfl) (by decide +kernel) rfl ?_
  intro pp ee ss mm below meth cd mx mb mr mml mo mts mlk hK hP
  generalize ([.int (iZ x), .int (iZ n)] : List Value).toArray = args at mts ⊢
  refine z_iload_n mx mb dL_part_0 rfl 0 rfl ?_
  refine z_ldc (z := 2147483647) mx mb mo (mts _ (List.mem_of_getElem? (i := 1) rfl)) (by decide +kernel) dL_part_1 ?_
  refine z_maskR mx mb dL_part_3 (fun w hw => ?_)
  refine z_iload_n mx mb dL_part_4 rfl 1 rfl ?_
  refine z_irem mx mb (by omega) (by omega) dL_part_5 ?_
  exact z_retPp mx mb mr mlk ⟨w % n, rfl, Int.emod_nonneg _ (by omega), Int.emod_lt_of_pos _ hn.1⟩ dL_part_6
/-- the script, seen by a callee -/
def zPx (b L : Nat) (xs : Nat → Int32) (av : List Value) : Array Value → State → Prop := va_Pc av (fun U => va_X b L xs U U.heap ∧ b < U.heap.size)
theorem zPx_blind {b L : Nat} {xs : Nat → Int32} {av : List Value} : FrameBlind (zPx b L xs av) := fun a U g mk q => ⟨q.1, va_X.moved (u := U) (U := U.calling g mk a) (Vm.Alike.refl U.vm) q.2.1, q.2.2⟩
set_option maxRecDepth 100000 in
theorem c_L_take (l : Launch) (b L : Nat) (xs : Nat → Int32) (k : Int) (hk : 0 ≤ k ∧ k ≤ 1000) (hL : L ≤ 260) : Met l yL_take wsL_take ({ frames := 0, cells := 0, slots := 0, locals := 0 } : Room) (zPx b L xs [.ref b, .int (iZ k)]) (vp_Si (fun _ => True)) 0 0 (fun _ => False) := by
  refine Met.ofW (cc := cL_take) (maxL := 2) (ret := some .int) (by decide +kernel) rfl ?_
  intro pp ee ss mm args below meth cd s₁ B hml hv
  obtain ⟨rfl, hX, hbl⟩ := hv
  have mx := B.exec; have mb := B.bytes; have mr := B.returns; have mlk := B.notSynchronized
  have mo := findClass_of_methodNamed B.named
  have mts := atoms_spec (ws := wsL_take) B.pre
  have hrm : (headSpec wsL_take ({ frames := 0, cells := 0, slots := 0, locals := 0 } : Room)).room = ({ frames := 0, cells := 0, slots := 0, locals := 0 } : Room) := rfl
  have key : Gz pp l ee ({ frames := 0, cells := 0, slots := 0, locals := 0 } : Room) ss mm ([.ref b, .int (iZ k)] : List Value).toArray below meth cd 2 0 0 (MQ below (vp_Si (fun _ => True)) ([.ref b, .int (iZ k)] : List Value).toArray ss 0 0 (fun _ => False)) (Zp ss) 0 [(0, .ref b), (1, .int (iZ k))] [] := by
    generalize ([.ref b, .int (iZ k)] : List Value).toArray = args at mts ⊢
    refine z_aload_n mx mb dL_take_0 rfl 0 rfl ?_
    refine z_slenP mx mb hX hbl dL_take_1 ?_
    refine z_if_ne (tgt := 15) mx mb (by omega) dL_take_2 (by decide) (fun c2 => ?_) (fun c2 => ?_)
    · refine z_aload_n mx mb dL_take_15 rfl 0 rfl ?_
      refine z_iload_n mx mb dL_take_16 rfl 1 rfl ?_
      refine z_aload_n mx mb dL_take_17 rfl 0 rfl ?_
      refine z_slenP mx mb hX hbl dL_take_18 ?_
      refine z_irem mx mb (by omega) (by omega) dL_take_19 ?_
      have e1 := Int.emod_nonneg k (show (L : Int) ≠ 0 by omega)
      have e2 := Int.emod_lt_of_pos k (show 0 < (L : Int) by omega)
      refine z_sldP mx mb hX hbl ⟨e1, e2⟩ hL dL_take_20 ?_
      refine z_iload_n mx mb dL_take_21 rfl 1 rfl ?_
      refine z_bipush mx mb dL_take_22 (by decide +kernel) ?_
      refine z_irem mx mb (by omega) (by omega) dL_take_24 ?_
      refine z_ishrR mx mb dL_take_25 (fun w1 _ => ?_)
      refine z_iload_n mx mb dL_take_26 rfl 1 rfl ?_
      refine z_aload_n mx mb dL_take_27 rfl 0 rfl ?_
      refine z_slenP mx mb hX hbl dL_take_28 ?_
      refine z_idiv mx mb (by omega) (by omega) dL_take_29 ?_
      refine z_bipush mx mb dL_take_30 (by decide +kernel) ?_
      refine z_imul mx mb dL_take_32 ?_
      refine z_ixorR mx mb dL_take_33 (fun w2 _ => ?_)
      refine z_iload_n mx mb dL_take_34 rfl 1 rfl ?_
      refine z_ldc (z := 2654435) mx mb mo (mts _ (List.mem_of_getElem? (i := 1) rfl)) (by decide +kernel) dL_take_35 ?_
      refine z_imul mx mb dL_take_37 ?_
      refine z_ixorR mx mb dL_take_38 (fun w3 _ => ?_)
      exact z_retPp mx mb mr mlk trivial dL_take_39
    · refine z_sipush mx mb dL_take_5 (by decide +kernel) ?_
      refine z_iload_n mx mb dL_take_8 rfl 1 rfl ?_
      refine z_imul mx mb dL_take_9 ?_
      refine z_iconst mx mb dL_take_10 ?_
      refine z_iadd mx mb dL_take_11 ?_
      refine z_goto (tgt := 39) mx mb dL_take_12 (by decide) ?_
      exact z_retPp mx mb mr mlk trivial dL_take_39
  rw [hrm, lg_entry_eq]
  have hl := lv_entry ([.ref b, .int (iZ k)] : List Value) (n := 2) (Nat.le_of_ble_eq_true rfl)
  exact key ss.heap [] _ ⟨rfl, rfl⟩ hl
section ZTC
variable {p : Program} {l : Launch} {e : Env} {R : Room} {s : State} {m : MethodId} {args : Array Value} {below : List Frame} {meth : Method} {c : Code} {nL k n : Nat} {Q : State → Prop} {I : Heap → List Loc → Prop} {cc : ByteArray} {pc : Nat} {lv : List (Nat × Value)} {rest : List Value} {D : va_G} {cl : List vw_C} {ws : va_W} {A : Nat → Prop} {b L : Nat} {xs : Nat → Int32}
/-- take is called: the script is as it was -/
theorem z_take {bytes : ByteArray} {maxL index : Nat} {ret : Option FieldType} {W1 : List Cond} {rm : Room} {Ts : List Cond} {own : String} {y : MethodName} {i : Int} {stk : List Value} (F : CallFix p m c cc nL s args Ts own) (hX : va_X b L xs s s.heap) (hbl : b < s.heap.size) (hbA : ¬ A b) (hM : Met l y W1 rm (zPx b L xs [.ref b, .int (iZ i)]) (vp_Si (fun _ => True)) 0 0 (fun _ => False)) (cw : CallB R s args own index y bytes maxL ret W1 rm 0 0 2 ∧ (Cond.static y).before args s = true) (hstk : stk = .int (iZ i) :: .ref b :: rest) (hW : (rest.map fun v => v.category).sum ≤ 8) (hkn : k ≤ R.cells ∧ n ≤ R.slots) (hdg : decode cc pc = .ok (.invokestatic index, 3))
    (K : ∀ w : Int, -2147483648 ≤ w ∧ w ≤ 2147483647 → Gz p l e R s m args below meth c nL k n Q (Zw D cl A s ws) (pc + 3) lv (.int (iZ w) :: rest)) : Gz p l e R s m args below meth c nL k n Q (Zw D cl A s ws) pc lv stk := by
  intro H locs ls hI hl
  have hS := hI.2.2
  have hq : H[b]? = s.heap[b]? := hS.2.1 b hbl hbA
  have hX1 := hX.kept hq
  have hb1 : b < H.size := Nat.lt_of_lt_of_le hbl hS.1
  exact vp_callSi (W.runS F hM cw ⟨zPx_blind, fun U hU hWm => ⟨rfl, by rw [hU]; exact va_X.moved hWm.alike hX1, by rw [hU]; exact hb1⟩⟩ rfl rfl hl.1 hstk (lv_room hW) hdg hkn) (fun r _ => by
    rw [← iZ_of r]
    exact K _ (iZ_rng r) H locs ls hI hl)
/-- part is called -/
theorem z_part {bytes : ByteArray} {maxL index : Nat} {ret : Option FieldType} {W1 : List Cond} {rm : Room} {Ts : List Cond} {own : String} {y : MethodName} {tys : List (ClassId × FieldType)} {x j : Int} {stk : List Value} (F : CallFix p m c cc nL s args Ts own) (hK : va_K D cl tys s) (hM : Met l y W1 rm (zPp D cl tys [] [.int (iZ x), .int (iZ j)]) (vp_Si (fun r => ∃ z : Int, r = iZ z ∧ 0 ≤ z ∧ z < j)) 0 0 (fun _ => False)) (cw : CallB R s args own index y bytes maxL ret W1 rm 0 0 2 ∧ (Cond.static y).before args s = true) (hstk : stk = .int (iZ j) :: .int (iZ x) :: rest) (hW : (rest.map fun v => v.category).sum ≤ 8) (hkn : k ≤ R.cells ∧ n ≤ R.slots) (hdg : decode cc pc = .ok (.invokestatic index, 3))
    (K : ∀ w : Int, 0 ≤ w ∧ w < j → Gz p l e R s m args below meth c nL k n Q I (pc + 3) lv (.int (iZ w) :: rest)) : Gz p l e R s m args below meth c nL k n Q I pc lv stk :=
  z_callPS1 (w1 := []) (As := [.int (iZ x), .int (iZ j)]) F hK (fun _ _ _ => fun k q hk => by simp at hk) hM cw rfl hstk hW hkn hdg (fun r hr => by
    obtain ⟨z, rfl, h0, h1⟩ := hr
    exact K z ⟨h0, h1⟩)
end ZTC
/-- what holds all through the law's body -/
def LC (p : Program) (l : Launch) (s : State) (m : MethodId) (args : Array Value) (c : Code) (b L : Nat) (xs : Nat → Int32) (D : va_G) (y : Nat → ClassId) (A : Nat → Prop) : Prop :=
  p.tables.exec = Jvm.exec ∧ c.code = code ∧ c.maxLocals = 8 ∧ s.vm.findClass RL = some m.cls ∧ (∀ w ∈ wsL_law, w.before args s = true) ∧ va_K D vwCl (zT y) s ∧ zE A s s.heap ∧ va_X b L xs s s.heap ∧ b < s.heap.size ∧ l.stackTraces = false ∧ L ≤ 260 ∧ (∀ q : Nat, s.heap.size ≤ q → A q) ∧ ¬ A b
