/-! What the class stands on beside its own cells: its three rows of settings, the machine's two statics for a throw, words on tables, its texts -/
def nm2 : List String := ["java/lang/RuntimeException", "java/lang/Exception"]
def eWs : List Cond := [.declares (Bundle.initS "java/lang/RuntimeException"), .declares (Bundle.initS "java/lang/Exception"), .declares (Bundle.initS "java/lang/Throwable"), .castable "java/lang/IndexOutOfBoundsException" "java/lang/IndexOutOfBoundsException", .castable "java/lang/IllegalStateException" "java/lang/IllegalStateException", .castable "java/lang/IllegalArgumentException" "java/lang/IllegalArgumentException", .castable "[I" "java/lang/Cloneable",
  .fieldLinkNest "BlockCoaster$Ride" 24 "BlockCoaster" "FIRST_SETTINGS" "[I" "BlockCoaster",
  .methodLinkNest RX0 11 yX1_init "BlockCoaster", .methodLinkNest RX0 55 yX3_init "BlockCoaster", .methodLinkNest RX4 29 yX2_init "BlockCoaster"]
def eStr : List (Nat × String) := [(121, "there is no such number"), (132, "the value is out of range"), (141, "the height is out of range"), (146, "the ticks are out of range"), (152, "there would be more than 100000 ticks"), (181, "a train has no such value"), (193, "a cell has no such value"), (207, "a block has no such value"), (224, "there is no such value"), (229, "not so many dispatches are kept"), (240, "a dispatch has no such value"), (253, "the gap is out of range"), (258, "the value is no byte of a text"), (262, "the text has 90 bytes"), (270, "there is no saved state"), (310, "there is no such train"), (312, "there is no such cell"), (314, "there is no such block"), (66, "there are 4 trains"), (75, "the block is not free"), (83, "there is no train"), (97, "the train does not lie in a valley")]
def st4 (a b c d : Int) : Int → Int := fun i => if i = 0 then a else if i = 1 then b else if i = 2 then c else d
def zRow (nm : String) (F : Int → Int) (A : Nat → Prop) (U : State) (H : Heap) : Prop := ∃ t : Nat, va_Z "BlockCoaster" nm "[I" (.ref t) A U H ∧ va_T .int t 4 (fun j => .int (iZ (F (j : Int)))) A U H
def zFst (A : Nat → Prop) (U : State) (H : Heap) : Prop := ∃ (t : Nat) (ce : Cell), va_Z "BlockCoaster" "FIRST_SETTINGS" "[I" (.ref t) A U H ∧ H[t]? = some ce ∧ U.vm.findClass "[I" = some ce.cls ∧ ce.slots = #[.int 3, .int 5, .int 0, .int 20] ∧ (∀ k, ce.vm ≠ VmData.statics k) ∧ ce.vm ≠ .unknown ∧ ¬ A t
/-- what a catch passes by -/
def zNc (U : State) : Prop := va_Nc "java/lang/IllegalStateException" "java/lang/IndexOutOfBoundsException" U ∧ va_Nc "java/lang/IllegalArgumentException" "java/lang/IndexOutOfBoundsException" U ∧ va_Nc "java/lang/IllegalStateException" "java/lang/IllegalArgumentException" U
def zE (A : Nat → Prop) (U : State) (H : Heap) : Prop :=
  (vx_Zq Bundle.tN "UNASSIGNED_STACK" Bundle.steD A U H ∧ vx_Zq Bundle.tN "SUPPRESSED_SENTINEL" Bundle.listD A U H) ∧ (zRow "LEAST_SETTINGS" (st4 0 1 0 0) A U H ∧ zRow "GREATEST_SETTINGS" (st4 20 50 500 40) A U H ∧ zFst A U H) ∧
  (va_AO "BlockCoaster$Train" U ∧ va_AO "BlockCoaster$Ride" U ∧ zNc U) ∧ (∀ w ∈ eWs, va_Nw w U) ∧ (∀ q ∈ eStr, ∃ a, vk_R "BlockCoaster" q.1 q.2 a U) ∧ ∃ sa va : Nat, vk_R "BlockCoaster" 42 "0b1l3l5l7l7b4.1.3.2.4b2.1.0b" sa U ∧ zStr sa va A U H
theorem zRow.kept {nm : String} {F : Int → Int} {A : Nat → Prop} {U : State} {H H1 : Heap} (h : zRow nm F A U H) (hq : ∀ a : Nat, a < H.size → ¬ A a → H1[a]? = H[a]?) : zRow nm F A U H1 := by
  obtain ⟨t, h1, h2⟩ := h
  exact ⟨t, h1.kept hq, h2.kept hq⟩
theorem zRow.narrow {nm : String} {F : Int → Int} {A B : Nat → Prop} {U : State} {H : Heap} (h : zRow nm F A U H) (hAB : ∀ q, B q → A q) : zRow nm F B U H := by
  obtain ⟨t, h1, h2⟩ := h
  exact ⟨t, h1.narrow hAB, h2.narrow hAB⟩
theorem zRow.moved {nm : String} {F : Int → Int} {A : Nat → Prop} {u U : State} {H : Heap} (hvm : u.vm.Alike U.vm) (h : zRow nm F A u H) : zRow nm F A U H := by
  obtain ⟨t, h1, h2⟩ := h
  exact ⟨t, va_Z.moved hvm h1, va_T.moved hvm h2⟩
theorem zFst.kept {A : Nat → Prop} {U : State} {H H1 : Heap} (h : zFst A U H) (hq : ∀ a : Nat, a < H.size → ¬ A a → H1[a]? = H[a]?) : zFst A U H1 := by
  obtain ⟨t, ce, h1, h2, h3, h4, h5, h6, h7⟩ := h
  exact ⟨t, ce, h1.kept hq, by rw [hq t (Array.getElem?_eq_some_iff.mp h2).1 h7]; exact h2, h3, h4, h5, h6, h7⟩
theorem zFst.narrow {A B : Nat → Prop} {U : State} {H : Heap} (h : zFst A U H) (hAB : ∀ q, B q → A q) : zFst B U H := by
  obtain ⟨t, ce, h1, h2, h3, h4, h5, h6, h7⟩ := h
  exact ⟨t, ce, h1.narrow hAB, h2, h3, h4, h5, h6, fun z => h7 (hAB _ z)⟩
theorem zFst.moved {A : Nat → Prop} {u U : State} {H : Heap} (hvm : u.vm.Alike U.vm) (h : zFst A u H) : zFst A U H := by
  obtain ⟨t, ce, h1, h2, h3, h4⟩ := h
  exact ⟨t, ce, va_Z.moved hvm h1, h2, by rw [hvm.findClass]; exact h3, h4⟩
theorem eWs_warm {s U : State} (hW : s.WarmedH U.vm) (h : ∀ w ∈ eWs, va_Nw w s) : ∀ w ∈ eWs, va_Nw w U := by
  have hd : ∀ x : MethodName, va_Nw (.declares x) s → va_Nw (.declares x) U := fun x hZ => va_tabs rfl (rfl : (s.setVm U.vm).vm = U.vm) (by rw [Cond.declares_setVm hW.alike]; exact hZ)
  intro w hw
  have hh := h w hw
  simp only [eWs, List.mem_cons, List.not_mem_nil, or_false] at hw
  rcases hw with rfl | rfl | rfl | rfl | rfl | rfl | rfl | rfl | rfl | rfl | rfl
  · exact hd _ hh
  · exact hd _ hh
  · exact hd _ hh
  · exact va_Nw.warmC hW hh
  · exact va_Nw.warmC hW hh
  · exact va_Nw.warmC hW hh
  · exact va_Nw.warmC hW hh
  · exact va_Nw.warmF hW hh
  · exact va_Nw.warmM hW hh
  · exact va_Nw.warmM hW hh
  · exact va_Nw.warmM hW hh
theorem zE.kept {A : Nat → Prop} {U : State} {H H1 : Heap} (h : zE A U H) (hq : ∀ a : Nat, a < H.size → ¬ A a → H1[a]? = H[a]?) : zE A U H1 :=
  ⟨⟨h.1.1.kept hq, h.1.2.kept hq⟩, ⟨h.2.1.1.kept hq, h.2.1.2.1.kept hq, h.2.1.2.2.kept hq⟩, h.2.2.1, h.2.2.2.1, h.2.2.2.2.1, h.2.2.2.2.2.imp fun _ k => k.imp fun _ j => ⟨j.1, j.2.kept hq⟩⟩
theorem zE.narrow {A B : Nat → Prop} {U : State} {H : Heap} (h : zE A U H) (hAB : ∀ q, B q → A q) : zE B U H :=
  ⟨⟨h.1.1.narrow hAB, h.1.2.narrow hAB⟩, ⟨h.2.1.1.narrow hAB, h.2.1.2.1.narrow hAB, h.2.1.2.2.narrow hAB⟩, h.2.2.1, h.2.2.2.1, h.2.2.2.2.1, h.2.2.2.2.2.imp fun _ k => k.imp fun _ j => ⟨j.1, j.2.narrow hAB⟩⟩
theorem zE.warm {A : Nat → Prop} {s U : State} {H : Heap} (hW : s.WarmedH U.vm) (h : zE A s H) : zE A U H :=
  ⟨⟨vx_Zq.moved hW.alike h.1.1, vx_Zq.moved hW.alike h.1.2⟩, ⟨zRow.moved hW.alike h.2.1.1, zRow.moved hW.alike h.2.1.2.1, zFst.moved hW.alike h.2.1.2.2⟩, ⟨va_AO.moved hW.alike h.2.2.1.1, va_AO.moved hW.alike h.2.2.1.2.1, va_Nc.moved hW.alike h.2.2.1.2.2.1, va_Nc.moved hW.alike h.2.2.1.2.2.2.1, va_Nc.moved hW.alike h.2.2.1.2.2.2.2⟩, eWs_warm hW h.2.2.2.1, fun q hq => by
    obtain ⟨a, k⟩ := h.2.2.2.2.1 q hq
    exact ⟨a, vk_R.warm hW k⟩, h.2.2.2.2.2.imp fun _ k => k.imp fun _ j => ⟨vk_R.warm hW j.1, j.2.moved hW.alike⟩⟩
/-- seen by a callee -/
theorem zE.call {A B : Nat → Prop} {s U : State} {H : Heap} {locs : List Loc} (h : zE A s s.heap) (hS : va_S A s.heap H locs) (hAB : ∀ q, B q → A q) (hU : U.heap = H) (hW : s.WarmedH U.vm) : zE B U U.heap := by
  rw [hU]
  exact ((h.kept hS.2.1).narrow hAB).warm hW
def zPe (D : va_G) (cl : List vw_C) (tys : List (ClassId × FieldType)) (ws : va_W) (sz : Nat) (av : List Value) : Array Value → State → Prop := va_Pc av (fun U => U.heap.size = sz ∧ va_P D cl ws U.heap ∧ va_K D cl tys U ∧ va_D (fun _ => True) ws ∧ zE (va_A ws sz) U U.heap)
theorem zPe_blind {D : va_G} {cl : List vw_C} {tys : List (ClassId × FieldType)} {ws : va_W} {sz : Nat} {av : List Value} : FrameBlind (zPe D cl tys ws sz av) := fun a U g mk q => ⟨q.1, q.2.1, q.2.2.1, va_K.moved (u := U) (U := U.calling g mk a) (Vm.Alike.refl U.vm) q.2.2.2.1, q.2.2.2.2.1, zE.warm (s := U) (U := U.calling g mk a) (State.WarmedH.refl U) q.2.2.2.2.2⟩
theorem z_headE {l : Launch} {D : va_G} {cl : List vw_C} {tys : List (ClassId × FieldType)} {ws : va_W} {sz : Nat} {av : List Value} {y : MethodName} {W W' : List Cond} {rm : Room} {Qc : Array Value → State → Outcome → State → Prop} {cc : ByteArray} {maxL : Nat} {ret : Option FieldType} {mc ms : Nat} {free : Addr → Prop} (lv : List (Nat × Value)) (hlv : lv_args 0 av = lv) (hsl : (lg_sl av).length ≤ maxL) (hy : plainName y.cls = true) (hw : W = Cond.code y cc maxL ret :: W')
    (body : ∀ (p : Program) (e : Env) (s : State) (m : MethodId) (below : List Frame) (meth : Method) (c : Code), p.tables.exec = Jvm.exec → c.code = cc → meth.sig.returnType = ret → c.maxLocals = maxL → s.vm.findClass y.cls = some m.cls → (∀ w ∈ W, w.before av.toArray s = true) → meth.locks = false → va_K D cl tys s → meth.name = y.name → s.heap.size = sz → (∀ q, s.heap.size ≤ q → va_A ws sz q) → zE (va_A ws sz) s s.heap →
      Gz p l e rm s m av.toArray below meth c maxL 0 0 (MQ below Qc av.toArray s mc ms free) (Zw D cl (va_A ws sz) s ws) 0 lv []) (hrm : (headSpec W rm).room = rm := by rfl) : Met l y W rm (zPe D cl tys ws sz av) Qc mc ms free := by
  refine Met.ofW (cc := cc) (maxL := maxL) (ret := ret) hy hw ?_
  intro p e s m args below meth c s₁ B hml hv
  obtain ⟨rfl, hsz, hP, hK, hD, hE⟩ := hv
  have k := body p e s m below meth c B.exec B.bytes B.returns hml (findClass_of_methodNamed B.named) (atoms_spec (ws := W) B.pre) B.notSynchronized hK (name_of_methodNamed B.named B.method).1 hsz (fun q h => Or.inr (by rw [← hsz]; exact h)) hE
  rw [hrm, lg_entry_eq]
  have hl := lv_entry av (n := maxL) hsl
  rw [hlv] at hl
  exact k s.heap [] _ ⟨hP, hD.self, va_S.rf⟩ hl
section ZE
variable {p : Program} {l : Launch} {e : Env} {R : Room} {s : State} {m : MethodId} {args : Array Value} {below : List Frame} {meth : Method} {c : Code} {nL k n : Nat} {Q : State → Prop} {cc : ByteArray} {pc : Nat} {lv : List (Nat × Value)} {rest : List Value} {D : va_G} {cl : List vw_C} {tys : List (ClassId × FieldType)} {ws : va_W} {A : Nat → Prop}
/-- a row of settings, one of its places read -/
theorem z_row {nm : String} {F : Int → Int} {own ref : String} {index : Nat} (hx : p.tables.exec = Jvm.exec) (hb : c.code = cc) (hR : zRow nm F A s s.heap) (hown : s.vm.findClass own = some m.cls) (hlink : (Cond.fieldLink own index ref nm "[I").before args s = true) (hsame : ∀ x, s.fieldFound? "BlockCoaster" nm "[I" = some x → s.fieldFound? ref nm "[I" = some x) (hdg : decode cc pc = .ok (.getstatic index, 3))
    (K : ∀ t : Nat, va_T .int t 4 (fun j => .int (iZ (F (j : Int)))) A s s.heap → Gz p l e R s m args below meth c nL k n Q (Zw D cl A s ws) (pc + 3) lv (.ref t :: rest)) : Gz p l e R s m args below meth c nL k n Q (Zw D cl A s ws) pc lv rest := fun H locs ls hI hl => by
  obtain ⟨t, hZ, hT⟩ := hR
  exact va_gets hx hb hZ hI.2.2 hown hlink hsame hdg (K t hT H locs ls hI hl)
theorem z_rowAt {t : Nat} {F : Int → Int} {i : Int} (hx : p.tables.exec = Jvm.exec) (hb : c.code = cc) (hT : va_T .int t 4 (fun j => .int (iZ (F (j : Int)))) A s s.heap) (hi : 0 ≤ i ∧ i < 4) (hdg : decode cc pc = .ok (.iaload, 1))
    (K : Gz p l e R s m args below meth c nL k n Q (Zw D cl A s ws) (pc + 1) lv (.int (iZ (F i)) :: rest)) : Gz p l e R s m args below meth c nL k n Q (Zw D cl A s ws) pc lv (.int (iZ i) :: .ref t :: rest) := fun H locs ls hI hl =>
  va_ti hx hb hT hI.2.2 (zin hi (by omega)) (v := .int (iZ (F i))) (by rw [iZ_clamp (by omega) (by omega), Int.toNat_of_nonneg hi.1]) hdg (K H locs ls hI hl)
end ZE
