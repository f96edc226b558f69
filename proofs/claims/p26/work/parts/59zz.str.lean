/-! The first track's text: a String constant, its length and its letters -/
def fBl : List Int := [48, 98, 49, 108, 51, 108, 53, 108, 55, 108, 55, 98, 52, 46, 49, 46, 51, 46, 50, 46, 52, 98, 50, 46, 49, 46, 48, 98]
def fB (i : Int) : Int := fBl.getD i.toNat 0
def zStr (sa va : Nat) (A : Nat → Prop) (U : State) (H : Heap) : Prop := va_O "java/lang/String" sa A U H ∧ va_OF "java/lang/String" "coder" "B" (.int 0) sa A U H ∧ va_OF "java/lang/String" "value" "[B" (.ref va) sa A U H ∧ va_T .byte va 28 (fun j => .int (iZ (fB (j : Int)))) A U H ∧ va_Z "java/lang/String" "COMPACT_STRINGS" "Z" (.int 1) A U H ∧ va_Zq "jdk/internal/util/Preconditions" "SIOOBE_FORMATTER" "Ljava/util/function/BiFunction;" A U H
theorem zStr.kept {sa va : Nat} {A : Nat → Prop} {U : State} {H H1 : Heap} (h : zStr sa va A U H) (hq : ∀ a : Nat, a < H.size → ¬ A a → H1[a]? = H[a]?) : zStr sa va A U H1 := ⟨h.1.kept hq, h.2.1.kept hq, h.2.2.1.kept hq, h.2.2.2.1.kept hq, h.2.2.2.2.1.kept hq, h.2.2.2.2.2.kept hq⟩
theorem zStr.narrow {sa va : Nat} {A B : Nat → Prop} {U : State} {H : Heap} (h : zStr sa va A U H) (hAB : ∀ q, B q → A q) : zStr sa va B U H := ⟨h.1.narrow hAB, h.2.1.narrow hAB, h.2.2.1.narrow hAB, h.2.2.2.1.narrow hAB, h.2.2.2.2.1.narrow hAB, h.2.2.2.2.2.narrow hAB⟩
theorem zStr.moved {sa va : Nat} {A : Nat → Prop} {u U : State} {H : Heap} (hvm : u.vm.Alike U.vm) (h : zStr sa va A u H) : zStr sa va A U H := ⟨va_O.moved hvm h.1, va_OF.moved hvm h.2.1, va_OF.moved hvm h.2.2.1, va_T.moved hvm h.2.2.2.1, va_Z.moved hvm h.2.2.2.2.1, va_Zq.moved hvm h.2.2.2.2.2⟩
def zPj (sa va : Nat) (av : List Value) : Array Value → State → Prop := va_Pc av (fun U => zStr sa va (fun _ => False) U U.heap)
theorem zPj_blind {sa va : Nat} {av : List Value} : FrameBlind (zPj sa va av) := fun a U g mk q => ⟨q.1, zStr.moved (u := U) (U := U.calling g mk a) (Vm.Alike.refl U.vm) q.2⟩
def vp_S0 : Array Value → State → Outcome → State → Prop := fun _ st o t => o = .returned none ∧ t.heap = st.heap
theorem z_headJ {l : Launch} {sa va : Nat} {av : List Value} {y : MethodName} {Wl W' : List Cond} {rm : Room} {Qc : Array Value → State → Outcome → State → Prop} {cc : ByteArray} {maxL : Nat} {ret : Option FieldType} {free : Addr → Prop} (lv : List (Nat × Value)) (hlv : lv_args 0 av = lv) (hsl : (lg_sl av).length ≤ maxL) (hy : plainName y.cls = true) (hw : Wl = Cond.code y cc maxL ret :: W')
    (body : ∀ (p : Program) (e : Env) (s : State) (m : MethodId) (below : List Frame) (meth : Method) (c : Code) (ls : Array Slot), p.tables.exec = Jvm.exec → c.code = cc → meth.sig.returnType = ret → c.maxLocals = maxL → s.vm.findClass y.cls = some m.cls → (∀ w ∈ Wl, w.before av.toArray s = true) → meth.locks = false → zStr sa va (fun _ => False) s s.heap → va_S (fun _ => False) s.heap s.heap [] → lv_has ls maxL lv →
      W p l e rm s m av.toArray below meth c s.heap [] 0 0 (MQ below Qc av.toArray s 0 0 free) (F0 m 0 ls [])) (hrm : (headSpec Wl rm).room = rm := by rfl) : Met l y Wl rm (zPj sa va av) Qc 0 0 free := by
  refine Met.ofW (cc := cc) (maxL := maxL) (ret := ret) hy hw ?_
  intro p e s m args below meth c s₁ B hml hv
  obtain ⟨rfl, hJ⟩ := hv
  rw [hrm, lg_entry_eq]
  have hl := lv_entry av (n := maxL) hsl
  rw [hlv] at hl
  exact body p e s m below meth c _ B.exec B.bytes B.returns hml (findClass_of_methodNamed B.named) (atoms_spec (ws := Wl) B.pre) B.notSynchronized hJ va_S.rf hl
section ZJ
variable {p : Program} {l : Launch} {e : Env} {R : Room} {s : State} {m : MethodId} {args : Array Value} {below : List Frame} {meth : Method} {c : Code} {nL k n : Nat} {Q : State → Prop} {cc : ByteArray} {pc : Nat} {rest : List Value} {H : Heap} {locs : List Loc} {ls : Array Slot} {sa va : Nat}
theorem z_callJV {y : MethodName} {bytes : ByteArray} {maxL index nA : Nat} {ret : Option FieldType} {W1 : List Cond} {rm : Room} {Ts : List Cond} {own : String} {As : List Value} {res : Int} {stk : List Value} (S : CallFix p m c cc nL s args Ts own) (hJ : zStr sa va (fun _ => False) s H) (hM : Met l y W1 rm (zPj sa va (.ref sa :: As)) (vp_Si (fun r => r = iZ res)) 0 0 (fun _ => False)) (cw : CallW R s args own "java/lang/String" index y bytes maxL ret W1 rm 0 0 nA) (hn : As.length = nA) (hls : ls.size = nL) (hstk : stk = As.reverse ++ .ref sa :: rest) (hW : (rest.map fun v => v.category).sum ≤ 8) (hkn : k ≤ R.cells ∧ n ≤ R.slots) (hdg : decode cc pc = .ok (.invokevirtual index, 3))
    (K : W p l e R s m args below meth c H locs k n Q (F0 m (pc + 3) ls (.int (iZ res) :: rest))) : W p l e R s m args below meth c H locs k n Q (F0 m pc ls stk) := by
  obtain ⟨cell, h1, h2, h3, -⟩ := hJ.1
  exact vp_callSi (W.runV S hM cw ⟨zPj_blind, ⟨cell, h1, h2, h3⟩, fun U hU hW => ⟨rfl, by show zStr sa va _ U U.heap; rw [hU]; exact hJ.moved hW.alike⟩⟩ rfl hn hls hstk (lv_room hW) hdg hkn) (fun r hr => by rw [hr]; exact K)
theorem z_callJS {y : MethodName} {bytes : ByteArray} {maxL index nA : Nat} {ret : Option FieldType} {W1 : List Cond} {rm : Room} {Ts : List Cond} {own : String} {As : List Value} {res : Int} {stk : List Value} (S : CallFix p m c cc nL s args Ts own) (hJ : zStr sa va (fun _ => False) s H) (hM : Met l y W1 rm (zPj sa va As) (vp_Si (fun r => r = iZ res)) 0 0 (fun _ => False)) (cw : CallB R s args own index y bytes maxL ret W1 rm 0 0 nA ∧ (Cond.static y).before args s = true) (hn : As.length = nA) (hls : ls.size = nL) (hstk : stk = As.reverse ++ rest) (hW : (rest.map fun v => v.category).sum ≤ 8) (hkn : k ≤ R.cells ∧ n ≤ R.slots) (hdg : decode cc pc = .ok (.invokestatic index, 3))
    (K : W p l e R s m args below meth c H locs k n Q (F0 m (pc + 3) ls (.int (iZ res) :: rest))) : W p l e R s m args below meth c H locs k n Q (F0 m pc ls stk) :=
  vp_callSi (W.runS S hM cw ⟨zPj_blind, fun U hU hW => ⟨rfl, by show zStr sa va _ U U.heap; rw [hU]; exact hJ.moved hW.alike⟩⟩ rfl hn hls hstk (lv_room hW) hdg hkn) (fun r hr => by rw [hr]; exact K)
theorem z_callJ0 {y : MethodName} {bytes : ByteArray} {maxL index nA : Nat} {ret : Option FieldType} {W1 : List Cond} {rm : Room} {Ts : List Cond} {own : String} {As : List Value} {stk : List Value} (S : CallFix p m c cc nL s args Ts own) (hJ : zStr sa va (fun _ => False) s H) (hM : Met l y W1 rm (zPj sa va As) vp_S0 0 0 (fun _ => False)) (cw : CallB R s args own index y bytes maxL ret W1 rm 0 0 nA ∧ (Cond.static y).before args s = true) (hn : As.length = nA) (hls : ls.size = nL) (hstk : stk = As.reverse ++ rest) (hW : (rest.map fun v => v.category).sum ≤ 8) (hkn : k ≤ R.cells ∧ n ≤ R.slots) (hdg : decode cc pc = .ok (.invokestatic index, 3))
    (K : W p l e R s m args below meth c H locs k n Q (F0 m (pc + 3) ls rest)) : W p l e R s m args below meth c H locs k n Q (F0 m pc ls stk) := by
  have hr := W.runS (g := F0 m pc ls stk) (rest := rest) (e := e) (meth := meth) (below := below) (H := H) (locs := locs) (cells := k) (slots := n) S hM cw ⟨zPj_blind, fun U hU hW => ⟨rfl, by show zStr sa va _ U U.heap; rw [hU]; exact hJ.moved hW.alike⟩⟩ rfl hn hls hstk (lv_room hW) hdg hkn
  intro T hT X
  obtain ⟨v, st₀, t, T', L, h0, X', hL, e1, ⟨hv, hh⟩, st⟩ := hr T hT X
  cases hv
  obtain ⟨t2, a1, b1⟩ := K T' (by rw [e1, hh, h0]) (Stand.forget X' (fun q h => (hL q h).elim))
  exact ⟨t2, st t2 a1, b1⟩
end ZJ
theorem c_J0_coder (l : Launch) (sa va : Nat) : Met l yJ0_coder_7d493 wsJ0_coder_7d493 ({ frames := 0, cells := 0, slots := 0, locals := 0 } : Room) (zPj sa va [.ref sa]) (vp_Si (fun r => r = iZ 0)) 0 0 (fun _ => False) := by
  refine z_headJ (cc := cJ0_coder_7d493) (maxL := 1) (ret := some .byte) [(0, .ref sa)] rfl (Nat.le_of_ble_eq_true rfl) (by decide +kernel) rfl ?_
  intro p e s m below meth c ls hx hb hr hml ho hts hlk hJ hS hl
  generalize ([.ref sa] : List Value).toArray = args at hts ⊢
  refine va_gets hx hb hJ.2.2.2.2.1 hS ho (hts _ (List.mem_of_getElem? (i := 1) rfl)) (fun _ h => h) dJ0_coder_7d493_0 ?_
  refine lv_if_eq (tgt := 13) hx hb dJ0_coder_7d493_3 (by decide) (fun h => absurd h (by decide)) (fun _ => ?_)
  refine lv_aload_n hx hb dJ0_coder_7d493_6 rfl (lv_at hl 0 rfl) ?_
  refine vk_getf hx hb hJ.2.1 hS ho (hts _ (List.mem_of_getElem? (i := 2) rfl)) (fun _ h => h) dJ0_coder_7d493_7 ?_
  refine lv_goto (tgt := 14) hx hb dJ0_coder_7d493_10 (by decide) ?_
  exact W.zret hx hb hr (by decide) (fun t ht _ => ⟨0, rfl, rfl, ht⟩) (fun q h => nomatch h) dJ0_coder_7d493_14 hlk
theorem c_J0_isLatin1 (l : Launch) (sa va : Nat) : Met l yJ0_isLatin1_aae02 wsJ0_isLatin1_aae02 ({ frames := 0, cells := 0, slots := 0, locals := 0 } : Room) (zPj sa va [.ref sa]) (vp_Si (fun r => r = iZ 1)) 0 0 (fun _ => False) := by
  refine z_headJ (cc := cJ0_isLatin1_aae02) (maxL := 1) (ret := some .boolean) [(0, .ref sa)] rfl (Nat.le_of_ble_eq_true rfl) (by decide +kernel) rfl ?_
  intro p e s m below meth c ls hx hb hr hml ho hts hlk hJ hS hl
  generalize ([.ref sa] : List Value).toArray = args at hts ⊢
  refine va_gets hx hb hJ.2.2.2.2.1 hS ho (hts _ (List.mem_of_getElem? (i := 1) rfl)) (fun _ h => h) dJ0_isLatin1_aae02_0 ?_
  refine lv_if_eq (tgt := 17) hx hb dJ0_isLatin1_aae02_3 (by decide) (fun h => absurd h (by decide)) (fun _ => ?_)
  refine lv_aload_n hx hb dJ0_isLatin1_aae02_6 rfl (lv_at hl 0 rfl) ?_
  refine vk_getf hx hb hJ.2.1 hS ho (hts _ (List.mem_of_getElem? (i := 2) rfl)) (fun _ h => h) dJ0_isLatin1_aae02_7 ?_
  refine lv_if_ne (tgt := 17) hx hb dJ0_isLatin1_aae02_10 (by decide) (fun h => absurd rfl h) (fun _ => ?_)
  refine lv_iconst (v := 1) hx hb dJ0_isLatin1_aae02_13 (by decide) ?_
  refine lv_goto (tgt := 18) hx hb dJ0_isLatin1_aae02_14 (by decide) ?_
  exact W.zret hx hb hr (by decide) (fun t ht _ => ⟨1, rfl, rfl, ht⟩) (fun q h => nomatch h) dJ0_isLatin1_aae02_18 hlk
theorem c_J0_length (l : Launch) (sa va : Nat) : Met l yJ0_length_8abf5 wsJ0_length_8abf5 ({ frames := 1, cells := 0, slots := 0, locals := 20 } : Room) (zPj sa va [.ref sa]) (vp_Si (fun r => r = iZ 28)) 0 0 (fun _ => False) := by
  refine z_headJ (cc := cJ0_length_8abf5) (maxL := 1) (ret := some .int) [(0, .ref sa)] rfl (Nat.le_of_ble_eq_true rfl) (by decide +kernel) rfl ?_
  intro p e s m below meth c ls hx hb hr hml ho hts hlk hJ hS hl
  generalize ([.ref sa] : List Value).toArray = args at hts ⊢
  refine lv_aload_n hx hb dJ0_length_8abf5_0 rfl (lv_at hl 0 rfl) ?_
  refine vk_getf hx hb hJ.2.2.1 hS ho (hts _ (List.mem_of_getElem? (i := 1) rfl)) (fun _ h => h) dJ0_length_8abf5_1 ?_
  refine va_tlen hx hb hJ.2.2.2.1 hS (v := iZ 28) rfl dJ0_length_8abf5_4 ?_
  refine lv_aload_n hx hb dJ0_length_8abf5_5 rfl (lv_at hl 0 rfl) ?_
  refine z_callJV (As := []) (rest := [.int (iZ 28)]) ⟨hx, hb, hml, ho, hts⟩ hJ (c_J0_coder l sa va) (cwV 0 hts gJ0_length_8abf5_J0_coder_7d493 rfl rfl rfl (by decide +kernel) ⟨Nat.le_of_ble_eq_true rfl, Nat.le_of_ble_eq_true rfl⟩) rfl hl.1 rfl (Nat.le_of_ble_eq_true rfl) ⟨Nat.zero_le _, Nat.zero_le _⟩ dJ0_length_8abf5_6 ?_
  refine lv_ishr hx hb dJ0_length_8abf5_9 ?_
  exact W.iret hx hb hr (fun t ht _ => ⟨_, rfl, by decide, ht⟩) (fun q h => nomatch h) dJ0_length_8abf5_10 hlk
theorem c_J3_checkIndex (l : Launch) (sa va : Nat) (v : Value) (i : Int) (hi : 0 ≤ i ∧ i < 28) (hv : v = .null ∨ ∃ t : Nat, v = .ref t) : Met l yJ3_checkIndex_8e157 wsJ3_checkIndex_8e157 ({ frames := 0, cells := 0, slots := 0, locals := 0 } : Room) (zPj sa va [.int (iZ i), .int (iZ 28), v]) (vp_Si (fun r => r = iZ i)) 0 0 (fun _ => False) := by
  have hlv : lv_args 0 [.int (iZ i), .int (iZ 28), v] = [(0, .int (iZ i)), (1, .int (iZ 28)), (2, v)] := by rcases hv with rfl | ⟨t, rfl⟩ <;> rfl
  have hsl : (lg_sl [.int (iZ i), .int (iZ 28), v]).length ≤ 3 := by rcases hv with rfl | ⟨t, rfl⟩ <;> exact Nat.le_of_ble_eq_true rfl
  refine z_headJ (cc := cJ3_checkIndex_8e157) (maxL := 3) (ret := some .int) [(0, .int (iZ i)), (1, .int (iZ 28)), (2, v)] hlv hsl (by decide +kernel) rfl ?_
  intro p e s m below meth c ls hx hb hr hml ho hts hlk hJ hS hl
  generalize ([.int (iZ i), .int (iZ 28), v] : List Value).toArray = args at hts ⊢
  have e0 : (0 : Int32) = iZ 0 := rfl
  refine lv_iload_n hx hb dJ3_checkIndex_8e157_0 rfl (lv_at hl 0 rfl) ?_
  refine lv_if_lt (tgt := 9) hx hb dJ3_checkIndex_8e157_1 (by decide) (fun h => absurd h (by rw [e0, iZ_lt (by omega) (by omega)]; omega)) (fun _ => ?_)
  refine lv_iload_n hx hb dJ3_checkIndex_8e157_4 rfl (lv_at hl 0 rfl) ?_
  refine lv_iload_n hx hb dJ3_checkIndex_8e157_5 rfl (lv_at hl 1 rfl) ?_
  refine lv_icmp_lt (tgt := 16) hx hb dJ3_checkIndex_8e157_6 (by decide) (fun _ => ?_) (fun h => absurd ((iZ_lt (by omega) (by omega)).mpr (show i < 28 by omega)) h)
  refine lv_iload_n hx hb dJ3_checkIndex_8e157_16 rfl (lv_at hl 0 rfl) ?_
  exact W.iret hx hb hr (fun t ht _ => ⟨_, rfl, rfl, ht⟩) (fun q h => nomatch h) dJ3_checkIndex_8e157_17 hlk
theorem c_J0_checkIndex (l : Launch) (sa va : Nat) (i : Int) (hi : 0 ≤ i ∧ i < 28) : Met l yJ0_checkIndex_df160 wsJ0_checkIndex_df160 ({ frames := 1, cells := 0, slots := 0, locals := 22 } : Room) (zPj sa va [.int (iZ i), .int (iZ 28)]) vp_S0 0 0 (fun _ => False) := by
  refine z_headJ (cc := cJ0_checkIndex_df160) (maxL := 2) (ret := none) [(0, .int (iZ i)), (1, .int (iZ 28))] rfl (Nat.le_of_ble_eq_true rfl) (by decide +kernel) rfl ?_
  intro p e s m below meth c ls hx hb hr hml ho hts hlk hJ hS hl
  generalize ([.int (iZ i), .int (iZ 28)] : List Value).toArray = args at hts ⊢
  have K : ∀ v : Value, (v = .null ∨ ∃ t : Nat, v = .ref t) → W p l e ({ frames := 1, cells := 0, slots := 0, locals := 22 } : Room) s m args below meth c s.heap [] 0 0 (MQ below vp_S0 args s 0 0 (fun _ => False)) (F0 m 5 ls [v, .int (iZ 28), .int (iZ i)]) := by
    intro v hv
    refine z_callJS (As := [.int (iZ i), .int (iZ 28), v]) (rest := []) ⟨hx, hb, hml, ho, hts⟩ hJ (c_J3_checkIndex l sa va v i hi hv) (va_cwS 3 hts gJ0_checkIndex_df160_J3_checkIndex_8e157 rfl rfl rfl (by decide +kernel) ⟨Nat.le_of_ble_eq_true rfl, Nat.le_of_ble_eq_true rfl⟩) rfl hl.1 rfl (Nat.le_of_ble_eq_true rfl) ⟨Nat.zero_le _, Nat.zero_le _⟩ dJ0_checkIndex_df160_5 ?_
    refine lv_pop hx hb dJ0_checkIndex_df160_8 rfl ?_
    exact W.vret hx hb hr (fun t ht _ => ⟨rfl, ht⟩) (fun q h => nomatch h) dJ0_checkIndex_df160_9 hlk
  refine lv_iload_n hx hb dJ0_checkIndex_df160_0 rfl (lv_at hl 0 rfl) ?_
  refine lv_iload_n hx hb dJ0_checkIndex_df160_1 rfl (lv_at hl 1 rfl) ?_
  rcases hJ.2.2.2.2.2 with hZ | ⟨t, hZ⟩
  · exact va_gets hx hb hZ hS ho (hts _ (List.mem_of_getElem? (i := 1) rfl)) (fun _ h => h) dJ0_checkIndex_df160_2 (K _ (Or.inl rfl))
  · exact va_gets hx hb hZ hS ho (hts _ (List.mem_of_getElem? (i := 1) rfl)) (fun _ h => h) dJ0_checkIndex_df160_2 (K _ (Or.inr ⟨t, rfl⟩))
theorem fB_all : ∀ j : Nat, j < 28 → (((iZ (fB (j : Int)) &&& 255).toUInt32 % 65536).toInt32 = iZ (fB (j : Int)) ∧ narrow .char (.int (iZ (fB (j : Int)))) = .int (iZ (fB (j : Int))) ∧ 46 ≤ fB (j : Int) ∧ fB (j : Int) ≤ 108) := by decide +kernel
theorem fB_i {i : Int} (hi : 0 ≤ i ∧ i < 28) : ((iZ (fB i) &&& 255).toUInt32 % 65536).toInt32 = iZ (fB i) ∧ narrow .char (.int (iZ (fB i))) = .int (iZ (fB i)) ∧ 46 ≤ fB i ∧ fB i ≤ 108 := by
  obtain ⟨j, rfl⟩ : ∃ j : Nat, i = (j : Int) := ⟨i.toNat, by omega⟩
  exact fB_all j (by omega)
theorem c_J1_charAt (l : Launch) (sa va : Nat) (i : Int) (hi : 0 ≤ i ∧ i < 28) : Met l yJ1_charAt_3b067 wsJ1_charAt_3b067 ({ frames := 2, cells := 0, slots := 0, locals := 43 } : Room) (zPj sa va [.ref va, .int (iZ i)]) (vp_Si (fun r => r = iZ (fB i))) 0 0 (fun _ => False) := by
  refine z_headJ (cc := cJ1_charAt_3b067) (maxL := 2) (ret := some .char) [(0, .ref va), (1, .int (iZ i))] rfl (Nat.le_of_ble_eq_true rfl) (by decide +kernel) rfl ?_
  intro p e s m below meth c ls hx hb hr hml ho hts hlk hJ hS hl
  generalize ([.ref va, .int (iZ i)] : List Value).toArray = args at hts ⊢
  obtain ⟨f1, f2, -, -⟩ := fB_i hi
  refine lv_iload_n hx hb dJ1_charAt_3b067_0 rfl (lv_at hl 1 rfl) ?_
  refine lv_aload_n hx hb dJ1_charAt_3b067_1 rfl (lv_at hl 0 rfl) ?_
  refine va_tlen hx hb hJ.2.2.2.1 hS (v := iZ 28) rfl dJ1_charAt_3b067_2 ?_
  refine z_callJ0 (As := [.int (iZ i), .int (iZ 28)]) (rest := []) ⟨hx, hb, hml, ho, hts⟩ hJ (c_J0_checkIndex l sa va i hi) (va_cwS 2 hts gJ1_charAt_3b067_J0_checkIndex_df160 rfl rfl rfl (by decide +kernel) ⟨Nat.le_of_ble_eq_true rfl, Nat.le_of_ble_eq_true rfl⟩) rfl hl.1 rfl (Nat.le_of_ble_eq_true rfl) ⟨Nat.zero_le _, Nat.zero_le _⟩ dJ1_charAt_3b067_3 ?_
  refine lv_aload_n hx hb dJ1_charAt_3b067_6 rfl (lv_at hl 0 rfl) ?_
  refine lv_iload_n hx hb dJ1_charAt_3b067_7 rfl (lv_at hl 1 rfl) ?_
  refine va_tb hx hb hJ.2.2.2.1 hS (zin hi (by omega)) (v := .int (iZ (fB i))) (by rw [iZ_clamp (by omega) (by omega), Int.toNat_of_nonneg hi.1]) dJ1_charAt_3b067_8 ?_
  refine lv_sipush (v := 255) hx hb dJ1_charAt_3b067_9 (by decide) ?_
  refine lv_iand hx hb dJ1_charAt_3b067_12 ?_
  refine lv_i2c hx hb dJ1_charAt_3b067_13 f1 ?_
  exact W.zret hx hb hr f2 (fun t ht _ => ⟨_, rfl, rfl, ht⟩) (fun q h => nomatch h) dJ1_charAt_3b067_14 hlk
theorem c_J0_charAt (l : Launch) (sa va : Nat) (i : Int) (hi : 0 ≤ i ∧ i < 28) : Met l yJ0_charAt_5068e wsJ0_charAt_5068e ({ frames := 3, cells := 0, slots := 0, locals := 64 } : Room) (zPj sa va [.ref sa, .int (iZ i)]) (vp_Si (fun r => r = iZ (fB i))) 0 0 (fun _ => False) := by
  refine z_headJ (cc := cJ0_charAt_5068e) (maxL := 2) (ret := some .char) [(0, .ref sa), (1, .int (iZ i))] rfl (Nat.le_of_ble_eq_true rfl) (by decide +kernel) rfl ?_
  intro p e s m below meth c ls hx hb hr hml ho hts hlk hJ hS hl
  generalize ([.ref sa, .int (iZ i)] : List Value).toArray = args at hts ⊢
  obtain ⟨f1, f2, -, -⟩ := fB_i hi
  refine lv_aload_n hx hb dJ0_charAt_5068e_0 rfl (lv_at hl 0 rfl) ?_
  refine z_callJV (As := []) (rest := []) ⟨hx, hb, hml, ho, hts⟩ hJ (c_J0_isLatin1 l sa va) (cwV 0 hts gJ0_charAt_5068e_J0_isLatin1_aae02 rfl rfl rfl (by decide +kernel) ⟨Nat.le_of_ble_eq_true rfl, Nat.le_of_ble_eq_true rfl⟩) rfl hl.1 rfl (Nat.le_of_ble_eq_true rfl) ⟨Nat.zero_le _, Nat.zero_le _⟩ dJ0_charAt_5068e_1 ?_
  refine lv_if_eq (tgt := 16) hx hb dJ0_charAt_5068e_4 (by decide) (fun h => absurd h (by decide)) (fun _ => ?_)
  refine lv_aload_n hx hb dJ0_charAt_5068e_7 rfl (lv_at hl 0 rfl) ?_
  refine vk_getf hx hb hJ.2.2.1 hS ho (hts _ (List.mem_of_getElem? (i := 1) rfl)) (fun _ h => h) dJ0_charAt_5068e_8 ?_
  refine lv_iload_n hx hb dJ0_charAt_5068e_11 rfl (lv_at hl 1 rfl) ?_
  refine z_callJS (As := [.ref va, .int (iZ i)]) (rest := []) ⟨hx, hb, hml, ho, hts⟩ hJ (c_J1_charAt l sa va i hi) (va_cwS 2 hts gJ0_charAt_5068e_J1_charAt_3b067 rfl rfl rfl (by decide +kernel) ⟨Nat.le_of_ble_eq_true rfl, Nat.le_of_ble_eq_true rfl⟩) rfl hl.1 rfl (Nat.le_of_ble_eq_true rfl) ⟨Nat.zero_le _, Nat.zero_le _⟩ dJ0_charAt_5068e_12 ?_
  exact W.zret hx hb hr f2 (fun t ht _ => ⟨_, rfl, rfl, ht⟩) (fun q h => nomatch h) dJ0_charAt_5068e_15 hlk
