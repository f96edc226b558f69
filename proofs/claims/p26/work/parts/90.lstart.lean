/-! The law's entry: the classes of the tables, the class, the reference, the digests' cell, the loop -/
theorem l_K {args : Array Value} {s : State} (ht : ∀ w ∈ lw_tbl, w.before args s = true) : ∃ (D : va_G) (y : Nat → ClassId), va_K D vwCl (zT y) s := by
  have T : ∀ (i : Nat) (w : Cond), _ := fun i w => fun hw : ([.stringRef "BlockCoaster" 42 "0b1l3l5l7l7b4.1.3.2.4b2.1.0b", .initialized "BlockCoaster", .initialized "java/lang/String", .initialized "java/lang/Throwable", .initialized "jdk/internal/util/Preconditions", .laysStatic "BlockCoaster" "FIRST_SETTINGS" "[I", .laysStatic "BlockCoaster" "GREATEST_SETTINGS" "[I", .laysStatic "BlockCoaster" "LEAST_SETTINGS" "[I", .laysStatic "java/lang/String" "COMPACT_STRINGS" "Z", .laysStatic "java/lang/Throwable" "SUPPRESSED_SENTINEL" "Ljava/util/List;", .laysStatic "java/lang/Throwable" "UNASSIGNED_STACK" "[Ljava/lang/StackTraceElement;", .laysStatic "jdk/internal/util/Preconditions" "SIOOBE_FORMATTER" "Ljava/util/function/BiFunction;", .arrayOver (.object "BlockCoaster$Ride"), .arrayOver (.object "BlockCoaster$Train"), .arrayClass .int, .arrayClass .long, .instantiable RX0 9, .instantiable RX1 6, .instantiable RX2 2, .instantiable RX3 8, .instantiable RX4 5] : List Cond)[i]? = some w => ht w (l_m3 w (List.mem_of_getElem? hw))
  obtain ⟨c0, i0, k0⟩ := u_known (T := TX0) (N := 9) ht inX0 (T 16 _ rfl)
  obtain ⟨c1, i1, k1⟩ := u_known (T := TX1) (N := 6) ht inX1 (T 17 _ rfl)
  obtain ⟨c2, i2, k2⟩ := u_known (T := TX2) (N := 2) ht inX2 (T 18 _ rfl)
  obtain ⟨c3, i3, k3⟩ := u_known (T := TX3) (N := 8) ht inX3 (T 19 _ rfl)
  obtain ⟨c4, i4, k4⟩ := u_known (T := TX4) (N := 5) ht inX4 (T 20 _ rfl)
  obtain ⟨y0, m0, n0, a1, a2, a3⟩ := Cond.arrayClass_spec (T 14 _ rfl)
  obtain ⟨y3, m3, n3, d1, d2, d3⟩ := Cond.arrayClass_spec (T 15 _ rfl)
  obtain ⟨n2, y2, m2, g1, -, g2, g3, g4⟩ := Cond.arrayOver_spec (T 12 _ rfl)
  obtain ⟨n1, y1, m1, f1, -, f2, f3, f4⟩ := Cond.arrayOver_spec (T 13 _ rfl)
  refine ⟨(fun c => [c0, c1, c2, c3, c4].getD c c0, fun c => [i0, i1, i2, i3, i4].getD c i0), fun k => [y0, y1, y2, y3].getD k y0, ?_, ?_⟩
  · intro c q hq
    match c, hq with
    | 0, hq => cases hq; exact k0
    | 1, hq => cases hq; exact k1
    | 2, hq => cases hq; exact k2
    | 3, hq => cases hq; exact k3
    | 4, hq => cases hq; exact k4
    | c + 5, hq => cases hq
  · intro k q hq
    match k, hq with
    | 0, hq => cases hq; exact ⟨fun n z => ⟨(fun k h => by cases h), m0, a2, n0, a3⟩, a1⟩
    | 1, hq => cases hq; exact ⟨fun n z => ⟨(fun k h => by cases h), m1, f2, n1, f3⟩, m1, n1, f2, f3, f1, f4⟩
    | 2, hq => cases hq; exact ⟨fun n z => ⟨(fun k h => by cases h), m2, g2, n2, g3⟩, m2, n2, g2, g3, g1, g4⟩
    | 3, hq => cases hq; exact ⟨fun n z => ⟨(fun k h => by cases h), m3, d2, n3, d3⟩, d1⟩
    | k + 4, hq => cases hq
