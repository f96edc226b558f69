/-! What the start gives: the three rows, the first track's text, the words of a throw -/
abbrev gN : List Cond := flatC (Jvm.Cond.and given_1 narrow_1)
theorem l_row {args : Array Value} {s : State} {nm : String} {F : Int → Int} {A : Nat → Prop} (hl : (Cond.laysStatic "BlockCoaster" nm "[I").before args s = true) (hini : (Cond.initialized "BlockCoaster").before args s = true) (har : (Cond.arrayOf (.static "BlockCoaster" nm "[I") .int).before args s = true) (hlen : (Cond.eq (.length (.static "BlockCoaster" nm "[I")) (.int (Int32.ofNat 4))).before args s = true)
    (hel : ∀ j : Nat, j < 4 → (Cond.eq (.elem (.static "BlockCoaster" nm "[I") (.int (Int32.ofNat j))) (.int (iZ (F (j : Int))))).before args s = true) (hA : ∀ a : Nat, a < s.heap.size → ¬ A a) : zRow nm F A s s.heap := by
  obtain ⟨t, ht, hT⟩ := va_Tof (N := 4) (f := fun j => .int (iZ (F (j : Int)))) (by decide) har (va_eqt hlen) (fun j hj => va_eqt (hel j hj)) hA
  exact ⟨t, va_Zref hl hini ht hA, hT⟩
theorem l_size {args : Array Value} {s : State} {t : Term} {N : Nat} {cell : Cell} {a : Nat} (hN : N < 2 ^ 31) (h : (Term.length t).eval args s none [] s = some (.int (Int32.ofNat N))) (ht : t.eval args s none [] s = some (.ref a)) (hc : s.heap[a]? = some cell) : cell.slots.size = N := by
  simp only [Term.eval, Option.bind_eq_bind, ht, Option.bind_some] at h
  obtain ⟨ce, hce, h⟩ := Option.bind_eq_some_iff.mp h
  obtain ⟨h1, -⟩ := State.arrayAt?_spec hce
  cases h1.symm.trans hc
  by_cases hn : cell.slots.size < 2 ^ 31
  · rw [if_pos hn] at h
    have e : cell.slots.size.toInt32 = Int32.ofNat N := Value.int.inj (Option.some.inj h)
    have q1 := Int32.toInt_ofNat_of_lt (n := cell.slots.size) hn
    have q2 := Int32.toInt_ofNat_of_lt (n := N) hN
    have e2 : Int32.ofNat cell.slots.size = Int32.ofNat N := e
    rw [e2] at q1
    omega
  · rw [if_neg hn] at h
    cases h
theorem l_fst {args : Array Value} {s : State} {A : Nat → Prop} (hl : (Cond.laysStatic "BlockCoaster" "FIRST_SETTINGS" "[I").before args s = true) (hini : (Cond.initialized "BlockCoaster").before args s = true) (har : (Cond.arrayOf (.static "BlockCoaster" "FIRST_SETTINGS" "[I") .int).before args s = true) (hex : (Cond.exactly (.static "BlockCoaster" "FIRST_SETTINGS" "[I") "[I").before args s = true) (hlen : (Cond.eq (.length (.static "BlockCoaster" "FIRST_SETTINGS" "[I")) (.int (Int32.ofNat 4))).before args s = true)
    (hel : ∀ j : Nat, j < 4 → (Cond.eq (.elem (.static "BlockCoaster" "FIRST_SETTINGS" "[I") (.int (Int32.ofNat j))) (.int (iZ (st4 3 5 0 20 (j : Int))))).before args s = true) (hA : ∀ a : Nat, a < s.heap.size → ¬ A a) : zFst A s s.heap := by
  obtain ⟨t, ht, cell, h1, h2, h3, h4, h5, h6, h7⟩ := va_Tof (N := 4) (f := fun j => .int (iZ (st4 3 5 0 20 (j : Int)))) (by decide) har (va_eqt hlen) (fun j hj => va_eqt (hel j hj)) hA
  obtain ⟨a, c, cA, kA, q1, q2, q3, q4, q5, q6, -⟩ := Cond.exactly_spec (args := args) (first := s) (o := none) (s := s) (idx := []) hex
  cases ht.symm.trans q1
  cases h1.symm.trans q3
  have hz := l_size (by decide) (va_eqt hlen) ht h1
  refine ⟨t, cell, va_Zref hl hini ht hA, h1, by rw [q6]; exact q2, ?_, (fun k hk => by rw [hk] at q5; cases q5), h3, h7⟩
  apply Array.ext_getElem?
  intro i
  by_cases hi : i < 4
  · rw [h6 i hi]
    have e : i = 0 ∨ i = 1 ∨ i = 2 ∨ i = 3 := by omega
    rcases e with rfl | rfl | rfl | rfl <;> rfl
  · rw [Array.getElem?_eq_none (by omega), Array.getElem?_eq_none (by show 4 ≤ i; omega)]
theorem l_strR {args : Array Value} {s : State} {own tx : String} {k : Nat} (h : (Cond.stringRef own k tx).before args s = true) : ∃ a, vk_R own k tx a s := by
  cases hc : s.vm.findClass own with
  | none => simp [Cond.before, Cond.holds, Cond.value, hc] at h
  | some cur =>
    obtain ⟨_, _, _, a, -, -, -, -, -, hev⟩ := Cond.stringRef_spec hc h
    exact ⟨a, vk_R.of (A := args) h hev⟩
set_option maxRecDepth 100000 in
theorem l_m1 : ∀ w ∈ eWs, w ∈ lw_tbl := by decide +kernel
set_option maxRecDepth 100000 in
theorem l_m2 : ∀ q ∈ eStr, Cond.stringRef "BlockCoaster" q.1 q.2 ∈ lw_tbl := by decide +kernel
set_option maxRecDepth 100000 in
theorem l_m3 : ∀ w ∈ ([.stringRef "BlockCoaster" 42 "0b1l3l5l7l7b4.1.3.2.4b2.1.0b", .initialized "BlockCoaster", .initialized "java/lang/String", .initialized "java/lang/Throwable", .initialized "jdk/internal/util/Preconditions", .laysStatic "BlockCoaster" "FIRST_SETTINGS" "[I", .laysStatic "BlockCoaster" "GREATEST_SETTINGS" "[I", .laysStatic "BlockCoaster" "LEAST_SETTINGS" "[I", .laysStatic "java/lang/String" "COMPACT_STRINGS" "Z", .laysStatic "java/lang/Throwable" "SUPPRESSED_SENTINEL" "Ljava/util/List;", .laysStatic "java/lang/Throwable" "UNASSIGNED_STACK" "[Ljava/lang/StackTraceElement;", .laysStatic "jdk/internal/util/Preconditions" "SIOOBE_FORMATTER" "Ljava/util/function/BiFunction;", .arrayOver (.object "BlockCoaster$Ride"), .arrayOver (.object "BlockCoaster$Train"), .arrayClass .int, .arrayClass .long, .instantiable RX0 9, .instantiable RX1 6, .instantiable RX2 2, .instantiable RX3 8, .instantiable RX4 5] : List Cond), w ∈ lw_tbl := by decide +kernel
set_option maxRecDepth 100000 in
theorem l_n1 : ∀ w ∈ ([.isRef (.static "jdk/internal/util/Preconditions" "SIOOBE_FORMATTER" "Ljava/util/function/BiFunction;"), .isRef (.static "java/lang/Throwable" "UNASSIGNED_STACK" "[Ljava/lang/StackTraceElement;"), .isRef (.static "java/lang/Throwable" "SUPPRESSED_SENTINEL" "Ljava/util/List;"), .eq (.static "java/lang/String" "COMPACT_STRINGS" "Z") (.int 1), .arrayOf (.static "BlockCoaster" "FIRST_SETTINGS" "[I") .int, .arrayOf (.static "BlockCoaster" "GREATEST_SETTINGS" "[I") .int, .arrayOf (.static "BlockCoaster" "LEAST_SETTINGS" "[I") .int, .eq (.length (.static "BlockCoaster" "FIRST_SETTINGS" "[I")) (.int (Int32.ofNat 4)), .eq (.length (.static "BlockCoaster" "GREATEST_SETTINGS" "[I")) (.int (Int32.ofNat 4)), .eq (.length (.static "BlockCoaster" "LEAST_SETTINGS" "[I")) (.int (Int32.ofNat 4)), .not (.castable "java/lang/IllegalStateException" "java/lang/IndexOutOfBoundsException"), .not (.castable "java/lang/IllegalArgumentException" "java/lang/IndexOutOfBoundsException"), .not (.castable "java/lang/IllegalStateException" "java/lang/IllegalArgumentException"), .exactly (.string "BlockCoaster" 42) "java/lang/String", .eq (.field (.string "BlockCoaster" 42) "java/lang/String" "coder" "B") (.int 0), .arrayOf (.field (.string "BlockCoaster" 42) "java/lang/String" "value" "[B") .byte, .eq (.length (.field (.string "BlockCoaster" 42) "java/lang/String" "value" "[B")) (.int (Int32.ofNat 28))] : List Cond), w ∈ gN := by decide +kernel
set_option maxRecDepth 100000 in
theorem l_n2 : ∀ j : Nat, j < 28 → Cond.eq (.elem (.field (.string "BlockCoaster" 42) "java/lang/String" "value" "[B") (.int (Int32.ofNat j))) (.int (iZ (fB (j : Int)))) ∈ gN := by decide +kernel
set_option maxRecDepth 100000 in
theorem l_n3 : ∀ j : Nat, j < 4 → Cond.eq (.elem (.static "BlockCoaster" "FIRST_SETTINGS" "[I") (.int (Int32.ofNat j))) (.int (iZ (st4 3 5 0 20 (j : Int)))) ∈ gN := by decide +kernel
set_option maxRecDepth 100000 in
theorem l_n4 : ∀ j : Nat, j < 4 → Cond.eq (.elem (.static "BlockCoaster" "GREATEST_SETTINGS" "[I") (.int (Int32.ofNat j))) (.int (iZ (st4 20 50 500 40 (j : Int)))) ∈ gN := by decide +kernel
set_option maxRecDepth 100000 in
theorem l_n5 : ∀ j : Nat, j < 4 → Cond.eq (.elem (.static "BlockCoaster" "LEAST_SETTINGS" "[I") (.int (Int32.ofNat j))) (.int (iZ (st4 0 1 0 0 (j : Int)))) ∈ gN := by decide +kernel
set_option maxRecDepth 100000 in
theorem l_n6 : (Cond.exactly (.static "BlockCoaster" "FIRST_SETTINGS" "[I") "[I") ∈ gN := by decide +kernel
set_option maxRecDepth 100000 in
theorem l_E {args : Array Value} {s : State} (ht : ∀ w ∈ lw_tbl, w.before args s = true) (hn : ∀ w ∈ gN, w.before args s = true) : zE (fun q => s.heap.size ≤ q) s s.heap := by
  have hA : ∀ a : Nat, a < s.heap.size → ¬ (fun q : Nat => s.heap.size ≤ q) a := fun a h => Nat.not_le.mpr h
  have T : ∀ (i : Nat) (w : Cond), _ := fun i w => fun hw : ([.stringRef "BlockCoaster" 42 "0b1l3l5l7l7b4.1.3.2.4b2.1.0b", .initialized "BlockCoaster", .initialized "java/lang/String", .initialized "java/lang/Throwable", .initialized "jdk/internal/util/Preconditions", .laysStatic "BlockCoaster" "FIRST_SETTINGS" "[I", .laysStatic "BlockCoaster" "GREATEST_SETTINGS" "[I", .laysStatic "BlockCoaster" "LEAST_SETTINGS" "[I", .laysStatic "java/lang/String" "COMPACT_STRINGS" "Z", .laysStatic "java/lang/Throwable" "SUPPRESSED_SENTINEL" "Ljava/util/List;", .laysStatic "java/lang/Throwable" "UNASSIGNED_STACK" "[Ljava/lang/StackTraceElement;", .laysStatic "jdk/internal/util/Preconditions" "SIOOBE_FORMATTER" "Ljava/util/function/BiFunction;", .arrayOver (.object "BlockCoaster$Ride"), .arrayOver (.object "BlockCoaster$Train"), .arrayClass .int, .arrayClass .long, .instantiable RX0 9, .instantiable RX1 6, .instantiable RX2 2, .instantiable RX3 8, .instantiable RX4 5] : List Cond)[i]? = some w => ht w (l_m3 w (List.mem_of_getElem? hw))
  have N := fun (w : Cond) hw => hn w (l_n1 w hw)
  have hB := T 1 _ rfl
  have hTh := T 3 _ rfl
  refine ⟨⟨vx_Zqof (T 10 _ rfl) hTh (N _ (List.mem_of_getElem? (i := 1) rfl)) hA, vx_Zqof (T 9 _ rfl) hTh (N _ (List.mem_of_getElem? (i := 2) rfl)) hA⟩, ⟨?_, ?_, ?_⟩, ⟨T 13 _ rfl, T 12 _ rfl, va_Nc.of (N _ (List.mem_of_getElem? (i := 10) rfl)), va_Nc.of (N _ (List.mem_of_getElem? (i := 11) rfl)), va_Nc.of (N _ (List.mem_of_getElem? (i := 12) rfl))⟩, fun w hw => ?_, fun q hq => l_strR (ht _ (l_m2 q hq)), ?_⟩
  · exact l_row (T 7 _ rfl) hB (N _ (List.mem_of_getElem? (i := 6) rfl)) (N _ (List.mem_of_getElem? (i := 9) rfl)) (fun j hj => hn _ (l_n5 j hj)) hA
  · exact l_row (T 6 _ rfl) hB (N _ (List.mem_of_getElem? (i := 5) rfl)) (N _ (List.mem_of_getElem? (i := 8) rfl)) (fun j hj => hn _ (l_n4 j hj)) hA
  · exact l_fst (T 5 _ rfl) hB (N _ (List.mem_of_getElem? (i := 4) rfl)) (hn _ l_n6) (N _ (List.mem_of_getElem? (i := 7) rfl)) (fun j hj => hn _ (l_n3 j hj)) hA
  · exact va_Nw.of (eW_ot w hw) (ht w (l_m1 w hw))
  · obtain ⟨sa, hsa⟩ := l_strR (T 0 _ rfl)
    have hex := N _ (List.mem_of_getElem? (i := 13) rfl)
    obtain ⟨a, c, cA, kA, q1, q2, q3, q4, q5, q6, -⟩ := Cond.exactly_spec (args := args) (first := s) (o := none) (s := s) (idx := []) hex
    obtain ⟨t, hte, hT⟩ := va_Tof (N := 28) (f := fun j => .int (iZ (fB (j : Int)))) (by decide) (N _ (List.mem_of_getElem? (i := 15) rfl)) (va_eqt (N _ (List.mem_of_getElem? (i := 16) rfl))) (fun j hj => va_eqt (hn _ (l_n2 j hj))) hA
    obtain rfl : a = sa := by
      have h2 := hsa.2
      have h1 : (Term.string "BlockCoaster" 42).eval #[] s none [] s = (Term.string "BlockCoaster" 42).eval args s none [] s := Term.string_eval_of_vm rfl
      rw [h1, q1] at h2
      exact Value.ref.inj (Option.some.inj h2)
    exact ⟨a, t, hsa, ⟨cA, q3, q5, by rw [q6]; exact q2, hA a (Array.getElem?_eq_some_iff.mp q3).1⟩, vk_OFof q1 (va_eqt (N _ (List.mem_of_getElem? (i := 14) rfl))) hA, vk_OFof q1 hte hA, hT, va_Zof (T 8 _ rfl) (T 2 _ rfl) (va_eqi (N _ (List.mem_of_getElem? (i := 3) rfl))) hA, va_Zqof (T 11 _ rfl) (T 4 _ rfl) (N _ (List.mem_of_getElem? (i := 0) rfl)) hA⟩
