theorem in_X4_init_X0 : ∀ w ∈ wsX00, w ∈ wsX4_init := by decide +kernel
theorem in_X4_init_X2 : ∀ w ∈ wsX20, w ∈ wsX4_init := by decide +kernel
theorem in_X4_init_X4 : ∀ w ∈ wsX40, w ∈ wsX4_init := by decide +kernel
set_option maxRecDepth 100000 in
set_option maxHeartbeats 4000000 in
theorem c_X4_init (l : Launch) (D : va_G) (sz : Nat) (y : Nat → ClassId) (x0 : Nat)  : Met l yX4_init wsX4_init ({ frames := 5, cells := 95, slots := 1514, locals := 106 } : Room) (zPe D vwCl (zT y) ([(x0, .inr (4, [.null, .null, .null, .null, .int (iZ 0)]))] : va_W) sz [.ref x0]) (va_Qv (fun u : (Nat → Nat) × (Nat → Nat → Nat) × (Nat → Nat → Int → Int) × (Nat → Nat) => u.1 0 = x0 ∧ Rel f1 (u.2.2.1 0)) (zB D vwCl (zT y) ([(x0, .inr (4, [.null, .null, .null, .null, .int (iZ 0)]))] : va_W) sz (fun u : (Nat → Nat) × (Nat → Nat → Nat) × (Nat → Nat → Int → Int) × (Nat → Nat) => wBq y u.1 u.2.1 u.2.2.1 u.2.2.2 (fun _ => 0) 0 0 (sav u.2.1) p6)) (va_A ([(x0, .inr (4, [.null, .null, .null, .null, .int (iZ 0)]))] : va_W) sz)) 95 1514 (va_A ([(x0, .inr (4, [.null, .null, .null, .null, .int (iZ 0)]))] : va_W) sz) := by
  refine z_headE (cc := cX4_init) (maxL := 2) (ret := none) [(0, .ref x0)] rfl (Nat.le_of_ble_eq_true rfl) (by decide +kernel) rfl ?_
  intro pp ee ss mm below meth cd mx mb mr mml mo mts mlk hK hname hsz hA hE
  generalize ([.ref x0] : List Value).toArray = args at mts ⊢
  obtain ⟨wst, hw0⟩ : ∃ wst, wst = ([(x0, .inr (4, [.null, .null, .null, .null, .int (iZ 0)]))] : va_W) := ⟨_, rfl⟩
  replace hE : zE (va_A wst sz) ss ss.heap := by rw [hw0]; exact hE
  replace hA : ∀ q, ss.heap.size ≤ q → va_A wst sz q := by rw [hw0]; exact hA
  obtain ⟨Q, hQ⟩ : ∃ Q, Q = MQ below (va_Qv (fun u : (Nat → Nat) × (Nat → Nat → Nat) × (Nat → Nat → Int → Int) × (Nat → Nat) => u.1 0 = x0 ∧ Rel f1 (u.2.2.1 0)) (zB D vwCl (zT y) wst sz (fun u : (Nat → Nat) × (Nat → Nat → Nat) × (Nat → Nat → Int → Int) × (Nat → Nat) => wBq y u.1 u.2.1 u.2.2.1 u.2.2.2 (fun _ => 0) 0 0 (sav u.2.1) p6)) (va_A wst sz)) args ss 95 1514 (va_A wst sz) := ⟨_, rfl⟩
  have hstart : Gz pp l ee ({ frames := 5, cells := 95, slots := 1514, locals := 106 } : Room) ss mm args below meth cd 2 0 0 Q (Zw D vwCl (va_A wst sz) ss ([(x0, .inr (4, [.null, .null, .null, .null, .int (iZ 0)]))] : va_W)) 0 [(0, .ref x0)] [] := by
    refine z_aload_n mx mb dX4_init_0 rfl 0 rfl ?_
    refine z_oinit mx mb mml mo (mts _ (List.mem_of_getElem? (i := 1) rfl)) (mts _ (List.mem_of_getElem? (i := 2) rfl)) (mts _ (List.mem_of_getElem? (i := 3) rfl)) (Nat.le_of_ble_eq_true rfl) (Nat.le_of_ble_eq_true rfl) dX4_init_1 ?_
    refine z_aload_n mx mb dX4_init_4 rfl 0 rfl ?_
    refine z_new (ci := 0) (C := RX0) (T := TX0) (N := 9) mx mb mts (in_X4_init_X0) tyX0_ok mo (mts _ (List.mem_of_getElem? (i := 4) rfl)) (mts _ (List.mem_of_getElem? (i := 5) rfl)) (mts _ (List.mem_of_getElem? (i := 6) rfl)) hK hA rfl [.null, .null, .null, .null, .null, .null, .int (iZ 0), .int (iZ 0), .int (iZ 0)] (by decide) (Nat.le_of_ble_eq_true rfl) (Nat.le_of_ble_eq_true rfl) dX4_init_5 (fun q5 => ?_)
    show Gz pp l ee ({ frames := 5, cells := 95, slots := 1514, locals := 106 } : Room) ss mm args below meth cd 2 1 9 Q (Zw D vwCl (va_A wst sz) ss (([(x0, .inr (4, [.null, .null, .null, .null, .int (iZ 0)]))] : va_W) ++ ([(q5, .inr (0, [.null, .null, .null, .null, .null, .null, .int (iZ 0), .int (iZ 0), .int (iZ 0)]))] : va_W))) 8 [(0, .ref x0)] [.ref q5, .ref x0]
    refine z_dup mx mb dX4_init_8 rfl ?_
    refine z_callCE (wa := ([(x0, .inr (4, [.null, .null, .null, .null, .int (iZ 0)]))] : va_W)) (wc := ([(q5, .inr (0, [.null, .null, .null, .null, .null, .null, .int (iZ 0), .int (iZ 0), .int (iZ 0)]))] : va_W)) (wb := []) (As := []) (rest := [.ref q5, .ref x0]) ⟨mx, mb, mml, mo, mts⟩ hK hA hE (fun sz => c_X0_init l D sz y q5) (cwI 0 mts gX4_init_X0_init rfl rfl rfl (mts _ (List.mem_of_getElem? (i := 6) rfl)) (mts _ (List.mem_of_getElem? (i := 15) rfl)) (mts _ (List.mem_of_getElem? (i := 16) rfl)) rfl (by decide +kernel) ⟨Nat.le_of_ble_eq_true rfl, Nat.le_of_ble_eq_true rfl⟩) (List.append_nil _).symm rfl rfl (Nat.le_of_ble_eq_true rfl) ⟨Nat.le_of_ble_eq_true rfl, Nat.le_of_ble_eq_true rfl⟩ dX4_init_9 (fun u9 hu9 => ?_)
    obtain ⟨a9, R9⟩ := u9
    obtain ⟨h9, s9⟩ := hu9
    replace h9 : a9 0 = q5 := h9
    subst h9
    rw [List.append_nil]
    show Gz pp l ee ({ frames := 5, cells := 95, slots := 1514, locals := 106 } : Room) ss mm args below meth cd 2 15 221 Q (Zw D vwCl (va_A wst sz) ss (([(x0, .inr (4, [.null, .null, .null, .null, .int (iZ 0)]))] : va_W) ++ wR y a9 R9)) 12 [(0, .ref x0)] [.ref (a9 0), .ref x0]
    refine z_putF (ty := .object "BlockCoaster$Ride") (C := RX4) (T := TX4) (N := 5) mx mb mts (in_X4_init_X4) tyX4_ok nmX4 mo hK 0 rfl rfl 0 (by decide) (mts _ (List.mem_of_getElem? (i := 7) rfl)) (fun _ h9 => h9) rfl hname rfl (by decide +kernel) rfl rfl (Nat.le_of_ble_eq_true rfl) dX4_init_12 (([(x0, .inr (4, [.ref (a9 0), .null, .null, .null, .int (iZ 0)]))] : va_W) ++ wR y a9 R9) rfl ?_
    refine z_aload_n mx mb dX4_init_15 rfl 0 rfl ?_
    refine z_new (ci := 0) (C := RX0) (T := TX0) (N := 9) mx mb mts (in_X4_init_X0) tyX0_ok mo (mts _ (List.mem_of_getElem? (i := 4) rfl)) (mts _ (List.mem_of_getElem? (i := 5) rfl)) (mts _ (List.mem_of_getElem? (i := 6) rfl)) hK hA rfl [.null, .null, .null, .null, .null, .null, .int (iZ 0), .int (iZ 0), .int (iZ 0)] (by decide) (Nat.le_of_ble_eq_true rfl) (Nat.le_of_ble_eq_true rfl) dX4_init_16 (fun q16 => ?_)
    show Gz pp l ee ({ frames := 5, cells := 95, slots := 1514, locals := 106 } : Room) ss mm args below meth cd 2 16 230 Q (Zw D vwCl (va_A wst sz) ss ((([(x0, .inr (4, [.ref (a9 0), .null, .null, .null, .int (iZ 0)]))] : va_W) ++ wR y a9 R9) ++ ([(q16, .inr (0, [.null, .null, .null, .null, .null, .null, .int (iZ 0), .int (iZ 0), .int (iZ 0)]))] : va_W))) 19 [(0, .ref x0)] [.ref q16, .ref x0]
    refine z_dup mx mb dX4_init_19 rfl ?_
    refine z_callCE (wa := (([(x0, .inr (4, [.ref (a9 0), .null, .null, .null, .int (iZ 0)]))] : va_W) ++ wR y a9 R9)) (wc := ([(q16, .inr (0, [.null, .null, .null, .null, .null, .null, .int (iZ 0), .int (iZ 0), .int (iZ 0)]))] : va_W)) (wb := []) (As := []) (rest := [.ref q16, .ref x0]) ⟨mx, mb, mml, mo, mts⟩ hK hA hE (fun sz => c_X0_init l D sz y q16) (cwI 0 mts gX4_init_X0_init rfl rfl rfl (mts _ (List.mem_of_getElem? (i := 6) rfl)) (mts _ (List.mem_of_getElem? (i := 15) rfl)) (mts _ (List.mem_of_getElem? (i := 16) rfl)) rfl (by decide +kernel) ⟨Nat.le_of_ble_eq_true rfl, Nat.le_of_ble_eq_true rfl⟩) (List.append_nil _).symm rfl rfl (Nat.le_of_ble_eq_true rfl) ⟨Nat.le_of_ble_eq_true rfl, Nat.le_of_ble_eq_true rfl⟩ dX4_init_20 (fun u20 hu20 => ?_)
    obtain ⟨a20, R20⟩ := u20
    obtain ⟨h20, s20⟩ := hu20
    replace h20 : a20 0 = q16 := h20
    subst h20
    rw [List.append_nil]
    show Gz pp l ee ({ frames := 5, cells := 95, slots := 1514, locals := 106 } : Room) ss mm args below meth cd 2 30 442 Q (Zw D vwCl (va_A wst sz) ss ((([(x0, .inr (4, [.ref (a9 0), .null, .null, .null, .int (iZ 0)]))] : va_W) ++ wR y a9 R9) ++ wR y a20 R20)) 23 [(0, .ref x0)] [.ref (a20 0), .ref x0]
    refine z_putF (ty := .object "BlockCoaster$Ride") (C := RX4) (T := TX4) (N := 5) mx mb mts (in_X4_init_X4) tyX4_ok nmX4 mo hK 0 rfl rfl 1 (by decide) (mts _ (List.mem_of_getElem? (i := 8) rfl)) (fun _ h9 => h9) rfl hname rfl (by decide +kernel) rfl rfl (Nat.le_of_ble_eq_true rfl) dX4_init_23 ((([(x0, .inr (4, [.ref (a9 0), .ref (a20 0), .null, .null, .int (iZ 0)]))] : va_W) ++ wR y a9 R9) ++ wR y a20 R20) rfl ?_
    refine z_aload_n mx mb dX4_init_26 rfl 0 rfl ?_
    refine z_iconst mx mb dX4_init_27 ?_
    refine z_newQ (C := RX0) (N := 4) mx mb mo (mts _ (List.mem_of_getElem? (i := 4) rfl)) hE.2.2.1.2.1 hK hA 2 rfl rfl (by decide) (Nat.le_of_ble_eq_true rfl) (Nat.le_of_ble_eq_true rfl) dX4_init_28 (fun q28 => ?_)
    show Gz pp l ee ({ frames := 5, cells := 95, slots := 1514, locals := 106 } : Room) ss mm args below meth cd 2 31 446 Q (Zw D vwCl (va_A wst sz) ss (((([(x0, .inr (4, [.ref (a9 0), .ref (a20 0), .null, .null, .int (iZ 0)]))] : va_W) ++ wR y a9 R9) ++ wR y a20 R20) ++ ([(q28, .inl (y 2, 4, .inr (.inr (.inr (.inr (fun _ => none))))))] : va_W))) 31 [(0, .ref x0)] [.ref q28, .ref x0]
    refine z_putF (ty := .array (.object "BlockCoaster$Ride")) (C := RX4) (T := TX4) (N := 5) mx mb mts (in_X4_init_X4) tyX4_ok nmX4 mo hK 0 rfl rfl 2 (by decide) (mts _ (List.mem_of_getElem? (i := 9) rfl)) (fun _ h9 => h9) rfl hname rfl (by decide +kernel) rfl rfl (Nat.le_of_ble_eq_true rfl) dX4_init_31 (((([(x0, .inr (4, [.ref (a9 0), .ref (a20 0), .ref q28, .null, .int (iZ 0)]))] : va_W) ++ wR y a9 R9) ++ wR y a20 R20) ++ ([(q28, .inl (y 2, 4, .inr (.inr (.inr (.inr (fun _ => none))))))] : va_W)) rfl ?_
    refine z_iconst mx mb dX4_init_34 ?_
    refine z_istore_n mx mb dX4_init_35 rfl (by decide) [(1, .int (iZ 0)), (0, .ref x0)] rfl ?_
    refine z_iload_n mx mb dX4_init_36 rfl 0 rfl ?_
    refine z_iconst mx mb dX4_init_37 ?_
    refine z_icmp_ge (tgt := 60) mx mb (by omega) (by omega) dX4_init_38 (by decide) (fun c38 => ?_) (fun c38 => ?_)
    · skip
      exact absurd c38 (by omega)
    · skip
      refine z_aload_n mx mb dX4_init_41 rfl 1 rfl ?_
      refine z_get (C := RX4) (T := TX4) (N := 5) mx mb mts (in_X4_init_X4) mo hK zgw 0 rfl rfl 2 (by decide) (mts _ (List.mem_of_getElem? (i := 9) rfl)) (fun _ h9 => h9) rfl dX4_init_42 ?_
      refine z_iload_n mx mb dX4_init_45 rfl 0 rfl ?_
      refine z_new (ci := 0) (C := RX0) (T := TX0) (N := 9) mx mb mts (in_X4_init_X0) tyX0_ok mo (mts _ (List.mem_of_getElem? (i := 4) rfl)) (mts _ (List.mem_of_getElem? (i := 5) rfl)) (mts _ (List.mem_of_getElem? (i := 6) rfl)) hK hA rfl [.null, .null, .null, .null, .null, .null, .int (iZ 0), .int (iZ 0), .int (iZ 0)] (by decide) (Nat.le_of_ble_eq_true rfl) (Nat.le_of_ble_eq_true rfl) dX4_init_46 (fun q46 => ?_)
      show Gz pp l ee ({ frames := 5, cells := 95, slots := 1514, locals := 106 } : Room) ss mm args below meth cd 2 32 455 Q (Zw D vwCl (va_A wst sz) ss ((((([(x0, .inr (4, [.ref (a9 0), .ref (a20 0), .ref q28, .null, .int (iZ 0)]))] : va_W) ++ wR y a9 R9) ++ wR y a20 R20) ++ ([(q28, .inl (y 2, 4, .inr (.inr (.inr (.inr (fun _ => none))))))] : va_W)) ++ ([(q46, .inr (0, [.null, .null, .null, .null, .null, .null, .int (iZ 0), .int (iZ 0), .int (iZ 0)]))] : va_W))) 49 [(1, .int (iZ 0)), (0, .ref x0)] [.ref q46, .int (iZ 0), .ref q28]
      refine z_dup mx mb dX4_init_49 rfl ?_
      refine z_callCE (wa := (((([(x0, .inr (4, [.ref (a9 0), .ref (a20 0), .ref q28, .null, .int (iZ 0)]))] : va_W) ++ wR y a9 R9) ++ wR y a20 R20) ++ ([(q28, .inl (y 2, 4, .inr (.inr (.inr (.inr (fun _ => none))))))] : va_W))) (wc := ([(q46, .inr (0, [.null, .null, .null, .null, .null, .null, .int (iZ 0), .int (iZ 0), .int (iZ 0)]))] : va_W)) (wb := []) (As := []) (rest := [.ref q46, .int (iZ 0), .ref q28]) ⟨mx, mb, mml, mo, mts⟩ hK hA hE (fun sz => c_X0_init l D sz y q46) (cwI 0 mts gX4_init_X0_init rfl rfl rfl (mts _ (List.mem_of_getElem? (i := 6) rfl)) (mts _ (List.mem_of_getElem? (i := 15) rfl)) (mts _ (List.mem_of_getElem? (i := 16) rfl)) rfl (by decide +kernel) ⟨Nat.le_of_ble_eq_true rfl, Nat.le_of_ble_eq_true rfl⟩) (List.append_nil _).symm rfl rfl (Nat.le_of_ble_eq_true rfl) ⟨Nat.le_of_ble_eq_true rfl, Nat.le_of_ble_eq_true rfl⟩ dX4_init_50 (fun u50 hu50 => ?_)
      obtain ⟨a50, R50⟩ := u50
      obtain ⟨h50, s50⟩ := hu50
      replace h50 : a50 0 = q46 := h50
      subst h50
      rw [List.append_nil]
      show Gz pp l ee ({ frames := 5, cells := 95, slots := 1514, locals := 106 } : Room) ss mm args below meth cd 2 46 667 Q (Zw D vwCl (va_A wst sz) ss ((((([(x0, .inr (4, [.ref (a9 0), .ref (a20 0), .ref q28, .null, .int (iZ 0)]))] : va_W) ++ wR y a9 R9) ++ wR y a20 R20) ++ ([(q28, .inl (y 2, 4, .inr (.inr (.inr (.inr (fun _ => none))))))] : va_W)) ++ wR y a50 R50)) 53 [(1, .int (iZ 0)), (0, .ref x0)] [.ref (a50 0), .int (iZ 0), .ref q28]
      refine z_aast (r := (RX0, TX0, 9)) (i := 0) mx mb hK 31 2 32 0 rfl rfl rfl rfl (by decide) (by decide) dX4_init_53 ((((([(x0, .inr (4, [.ref (a9 0), .ref (a20 0), .ref q28, .null, .int (iZ 0)]))] : va_W) ++ wR y a9 R9) ++ wR y a20 R20) ++ ([(q28, .inl (y 2, 4, .inr (.inr (.inr (.inr (va_up (fun _ => none) 0 (some (a50 0))))))))] : va_W)) ++ wR y a50 R50) rfl ?_
      refine z_iinc mx mb dX4_init_54 0 rfl (by decide) [(1, .int (iZ (0 + 1))), (0, .ref x0)] rfl ?_
      refine z_goto (tgt := 36) mx mb dX4_init_57 (by decide) ?_
      refine z_iload_n mx mb dX4_init_36 rfl 0 rfl ?_
      refine z_iconst mx mb dX4_init_37 ?_
      refine z_icmp_ge (tgt := 60) mx mb (by omega) (by omega) dX4_init_38 (by decide) (fun c38 => ?_) (fun c38 => ?_)
      · skip
        exact absurd c38 (by omega)
      · skip
        refine z_aload_n mx mb dX4_init_41 rfl 1 rfl ?_
        refine z_get (C := RX4) (T := TX4) (N := 5) mx mb mts (in_X4_init_X4) mo hK zgw 0 rfl rfl 2 (by decide) (mts _ (List.mem_of_getElem? (i := 9) rfl)) (fun _ h9 => h9) rfl dX4_init_42 ?_
        refine z_iload_n mx mb dX4_init_45 rfl 0 rfl ?_
        refine z_new (ci := 0) (C := RX0) (T := TX0) (N := 9) mx mb mts (in_X4_init_X0) tyX0_ok mo (mts _ (List.mem_of_getElem? (i := 4) rfl)) (mts _ (List.mem_of_getElem? (i := 5) rfl)) (mts _ (List.mem_of_getElem? (i := 6) rfl)) hK hA rfl [.null, .null, .null, .null, .null, .null, .int (iZ 0), .int (iZ 0), .int (iZ 0)] (by decide) (Nat.le_of_ble_eq_true rfl) (Nat.le_of_ble_eq_true rfl) dX4_init_46 (fun q46_1 => ?_)
        show Gz pp l ee ({ frames := 5, cells := 95, slots := 1514, locals := 106 } : Room) ss mm args below meth cd 2 47 676 Q (Zw D vwCl (va_A wst sz) ss (((((([(x0, .inr (4, [.ref (a9 0), .ref (a20 0), .ref q28, .null, .int (iZ 0)]))] : va_W) ++ wR y a9 R9) ++ wR y a20 R20) ++ ([(q28, .inl (y 2, 4, .inr (.inr (.inr (.inr (va_up (fun _ => none) 0 (some (a50 0))))))))] : va_W)) ++ wR y a50 R50) ++ ([(q46_1, .inr (0, [.null, .null, .null, .null, .null, .null, .int (iZ 0), .int (iZ 0), .int (iZ 0)]))] : va_W))) 49 [(1, .int (iZ (0 + 1))), (0, .ref x0)] [.ref q46_1, .int (iZ (0 + 1)), .ref q28]
        refine z_dup mx mb dX4_init_49 rfl ?_
        refine z_callCE (wa := ((((([(x0, .inr (4, [.ref (a9 0), .ref (a20 0), .ref q28, .null, .int (iZ 0)]))] : va_W) ++ wR y a9 R9) ++ wR y a20 R20) ++ ([(q28, .inl (y 2, 4, .inr (.inr (.inr (.inr (va_up (fun _ => none) 0 (some (a50 0))))))))] : va_W)) ++ wR y a50 R50)) (wc := ([(q46_1, .inr (0, [.null, .null, .null, .null, .null, .null, .int (iZ 0), .int (iZ 0), .int (iZ 0)]))] : va_W)) (wb := []) (As := []) (rest := [.ref q46_1, .int (iZ (0 + 1)), .ref q28]) ⟨mx, mb, mml, mo, mts⟩ hK hA hE (fun sz => c_X0_init l D sz y q46_1) (cwI 0 mts gX4_init_X0_init rfl rfl rfl (mts _ (List.mem_of_getElem? (i := 6) rfl)) (mts _ (List.mem_of_getElem? (i := 15) rfl)) (mts _ (List.mem_of_getElem? (i := 16) rfl)) rfl (by decide +kernel) ⟨Nat.le_of_ble_eq_true rfl, Nat.le_of_ble_eq_true rfl⟩) (List.append_nil _).symm rfl rfl (Nat.le_of_ble_eq_true rfl) ⟨Nat.le_of_ble_eq_true rfl, Nat.le_of_ble_eq_true rfl⟩ dX4_init_50 (fun u50_1 hu50_1 => ?_)
        obtain ⟨a50_1, R50_1⟩ := u50_1
        obtain ⟨h50_1, s50_1⟩ := hu50_1
        replace h50_1 : a50_1 0 = q46_1 := h50_1
        subst h50_1
        rw [List.append_nil]
        show Gz pp l ee ({ frames := 5, cells := 95, slots := 1514, locals := 106 } : Room) ss mm args below meth cd 2 61 888 Q (Zw D vwCl (va_A wst sz) ss (((((([(x0, .inr (4, [.ref (a9 0), .ref (a20 0), .ref q28, .null, .int (iZ 0)]))] : va_W) ++ wR y a9 R9) ++ wR y a20 R20) ++ ([(q28, .inl (y 2, 4, .inr (.inr (.inr (.inr (va_up (fun _ => none) 0 (some (a50 0))))))))] : va_W)) ++ wR y a50 R50) ++ wR y a50_1 R50_1)) 53 [(1, .int (iZ (0 + 1))), (0, .ref x0)] [.ref (a50_1 0), .int (iZ (0 + 1)), .ref q28]
        show Gz pp l ee ({ frames := 5, cells := 95, slots := 1514, locals := 106 } : Room) ss mm args below meth cd 2 61 888 Q (Zw D vwCl (va_A wst sz) ss (((((([(x0, .inr (4, [.ref (a9 0), .ref (a20 0), .ref q28, .null, .int (iZ 0)]))] : va_W) ++ wR y a9 R9) ++ wR y a20 R20) ++ ([(q28, .inl (y 2, 4, .inr (.inr (.inr (.inr (va_up (fun _ => none) 0 (some (a50 0))))))))] : va_W)) ++ wR y a50 R50) ++ wR y a50_1 R50_1)) 53 [(1, .int (iZ (0 + 1))), (0, .ref x0)] [.ref (a50_1 0), .int (iZ ((1 : Nat) : Int)), .ref q28]
        refine z_aast (r := (RX0, TX0, 9)) (i := 1) mx mb hK 31 2 47 0 rfl rfl rfl rfl (by decide) (by decide) dX4_init_53 (((((([(x0, .inr (4, [.ref (a9 0), .ref (a20 0), .ref q28, .null, .int (iZ 0)]))] : va_W) ++ wR y a9 R9) ++ wR y a20 R20) ++ ([(q28, .inl (y 2, 4, .inr (.inr (.inr (.inr (va_up (va_up (fun _ => none) 0 (some (a50 0))) 1 (some (a50_1 0))))))))] : va_W)) ++ wR y a50 R50) ++ wR y a50_1 R50_1) rfl ?_
        refine z_iinc mx mb dX4_init_54 0 rfl (by decide) [(1, .int (iZ ((0 + 1) + 1))), (0, .ref x0)] rfl ?_
        refine z_goto (tgt := 36) mx mb dX4_init_57 (by decide) ?_
        refine z_iload_n mx mb dX4_init_36 rfl 0 rfl ?_
        refine z_iconst mx mb dX4_init_37 ?_
        refine z_icmp_ge (tgt := 60) mx mb (by omega) (by omega) dX4_init_38 (by decide) (fun c38 => ?_) (fun c38 => ?_)
        · skip
          exact absurd c38 (by omega)
        · skip
          refine z_aload_n mx mb dX4_init_41 rfl 1 rfl ?_
          refine z_get (C := RX4) (T := TX4) (N := 5) mx mb mts (in_X4_init_X4) mo hK zgw 0 rfl rfl 2 (by decide) (mts _ (List.mem_of_getElem? (i := 9) rfl)) (fun _ h9 => h9) rfl dX4_init_42 ?_
          refine z_iload_n mx mb dX4_init_45 rfl 0 rfl ?_
          refine z_new (ci := 0) (C := RX0) (T := TX0) (N := 9) mx mb mts (in_X4_init_X0) tyX0_ok mo (mts _ (List.mem_of_getElem? (i := 4) rfl)) (mts _ (List.mem_of_getElem? (i := 5) rfl)) (mts _ (List.mem_of_getElem? (i := 6) rfl)) hK hA rfl [.null, .null, .null, .null, .null, .null, .int (iZ 0), .int (iZ 0), .int (iZ 0)] (by decide) (Nat.le_of_ble_eq_true rfl) (Nat.le_of_ble_eq_true rfl) dX4_init_46 (fun q46_2 => ?_)
          show Gz pp l ee ({ frames := 5, cells := 95, slots := 1514, locals := 106 } : Room) ss mm args below meth cd 2 62 897 Q (Zw D vwCl (va_A wst sz) ss ((((((([(x0, .inr (4, [.ref (a9 0), .ref (a20 0), .ref q28, .null, .int (iZ 0)]))] : va_W) ++ wR y a9 R9) ++ wR y a20 R20) ++ ([(q28, .inl (y 2, 4, .inr (.inr (.inr (.inr (va_up (va_up (fun _ => none) 0 (some (a50 0))) 1 (some (a50_1 0))))))))] : va_W)) ++ wR y a50 R50) ++ wR y a50_1 R50_1) ++ ([(q46_2, .inr (0, [.null, .null, .null, .null, .null, .null, .int (iZ 0), .int (iZ 0), .int (iZ 0)]))] : va_W))) 49 [(1, .int (iZ ((0 + 1) + 1))), (0, .ref x0)] [.ref q46_2, .int (iZ ((0 + 1) + 1)), .ref q28]
          refine z_dup mx mb dX4_init_49 rfl ?_
          refine z_callCE (wa := (((((([(x0, .inr (4, [.ref (a9 0), .ref (a20 0), .ref q28, .null, .int (iZ 0)]))] : va_W) ++ wR y a9 R9) ++ wR y a20 R20) ++ ([(q28, .inl (y 2, 4, .inr (.inr (.inr (.inr (va_up (va_up (fun _ => none) 0 (some (a50 0))) 1 (some (a50_1 0))))))))] : va_W)) ++ wR y a50 R50) ++ wR y a50_1 R50_1)) (wc := ([(q46_2, .inr (0, [.null, .null, .null, .null, .null, .null, .int (iZ 0), .int (iZ 0), .int (iZ 0)]))] : va_W)) (wb := []) (As := []) (rest := [.ref q46_2, .int (iZ ((0 + 1) + 1)), .ref q28]) ⟨mx, mb, mml, mo, mts⟩ hK hA hE (fun sz => c_X0_init l D sz y q46_2) (cwI 0 mts gX4_init_X0_init rfl rfl rfl (mts _ (List.mem_of_getElem? (i := 6) rfl)) (mts _ (List.mem_of_getElem? (i := 15) rfl)) (mts _ (List.mem_of_getElem? (i := 16) rfl)) rfl (by decide +kernel) ⟨Nat.le_of_ble_eq_true rfl, Nat.le_of_ble_eq_true rfl⟩) (List.append_nil _).symm rfl rfl (Nat.le_of_ble_eq_true rfl) ⟨Nat.le_of_ble_eq_true rfl, Nat.le_of_ble_eq_true rfl⟩ dX4_init_50 (fun u50_2 hu50_2 => ?_)
          obtain ⟨a50_2, R50_2⟩ := u50_2
          obtain ⟨h50_2, s50_2⟩ := hu50_2
          replace h50_2 : a50_2 0 = q46_2 := h50_2
          subst h50_2
          rw [List.append_nil]
          show Gz pp l ee ({ frames := 5, cells := 95, slots := 1514, locals := 106 } : Room) ss mm args below meth cd 2 76 1109 Q (Zw D vwCl (va_A wst sz) ss ((((((([(x0, .inr (4, [.ref (a9 0), .ref (a20 0), .ref q28, .null, .int (iZ 0)]))] : va_W) ++ wR y a9 R9) ++ wR y a20 R20) ++ ([(q28, .inl (y 2, 4, .inr (.inr (.inr (.inr (va_up (va_up (fun _ => none) 0 (some (a50 0))) 1 (some (a50_1 0))))))))] : va_W)) ++ wR y a50 R50) ++ wR y a50_1 R50_1) ++ wR y a50_2 R50_2)) 53 [(1, .int (iZ ((0 + 1) + 1))), (0, .ref x0)] [.ref (a50_2 0), .int (iZ ((0 + 1) + 1)), .ref q28]
          show Gz pp l ee ({ frames := 5, cells := 95, slots := 1514, locals := 106 } : Room) ss mm args below meth cd 2 76 1109 Q (Zw D vwCl (va_A wst sz) ss ((((((([(x0, .inr (4, [.ref (a9 0), .ref (a20 0), .ref q28, .null, .int (iZ 0)]))] : va_W) ++ wR y a9 R9) ++ wR y a20 R20) ++ ([(q28, .inl (y 2, 4, .inr (.inr (.inr (.inr (va_up (va_up (fun _ => none) 0 (some (a50 0))) 1 (some (a50_1 0))))))))] : va_W)) ++ wR y a50 R50) ++ wR y a50_1 R50_1) ++ wR y a50_2 R50_2)) 53 [(1, .int (iZ ((0 + 1) + 1))), (0, .ref x0)] [.ref (a50_2 0), .int (iZ ((2 : Nat) : Int)), .ref q28]
          refine z_aast (r := (RX0, TX0, 9)) (i := 2) mx mb hK 31 2 62 0 rfl rfl rfl rfl (by decide) (by decide) dX4_init_53 ((((((([(x0, .inr (4, [.ref (a9 0), .ref (a20 0), .ref q28, .null, .int (iZ 0)]))] : va_W) ++ wR y a9 R9) ++ wR y a20 R20) ++ ([(q28, .inl (y 2, 4, .inr (.inr (.inr (.inr (va_up (va_up (va_up (fun _ => none) 0 (some (a50 0))) 1 (some (a50_1 0))) 2 (some (a50_2 0))))))))] : va_W)) ++ wR y a50 R50) ++ wR y a50_1 R50_1) ++ wR y a50_2 R50_2) rfl ?_
          refine z_iinc mx mb dX4_init_54 0 rfl (by decide) [(1, .int (iZ (((0 + 1) + 1) + 1))), (0, .ref x0)] rfl ?_
          refine z_goto (tgt := 36) mx mb dX4_init_57 (by decide) ?_
          refine z_iload_n mx mb dX4_init_36 rfl 0 rfl ?_
          refine z_iconst mx mb dX4_init_37 ?_
          refine z_icmp_ge (tgt := 60) mx mb (by omega) (by omega) dX4_init_38 (by decide) (fun c38 => ?_) (fun c38 => ?_)
          · skip
            exact absurd c38 (by omega)
          · skip
            refine z_aload_n mx mb dX4_init_41 rfl 1 rfl ?_
            refine z_get (C := RX4) (T := TX4) (N := 5) mx mb mts (in_X4_init_X4) mo hK zgw 0 rfl rfl 2 (by decide) (mts _ (List.mem_of_getElem? (i := 9) rfl)) (fun _ h9 => h9) rfl dX4_init_42 ?_
            refine z_iload_n mx mb dX4_init_45 rfl 0 rfl ?_
            refine z_new (ci := 0) (C := RX0) (T := TX0) (N := 9) mx mb mts (in_X4_init_X0) tyX0_ok mo (mts _ (List.mem_of_getElem? (i := 4) rfl)) (mts _ (List.mem_of_getElem? (i := 5) rfl)) (mts _ (List.mem_of_getElem? (i := 6) rfl)) hK hA rfl [.null, .null, .null, .null, .null, .null, .int (iZ 0), .int (iZ 0), .int (iZ 0)] (by decide) (Nat.le_of_ble_eq_true rfl) (Nat.le_of_ble_eq_true rfl) dX4_init_46 (fun q46_3 => ?_)
            show Gz pp l ee ({ frames := 5, cells := 95, slots := 1514, locals := 106 } : Room) ss mm args below meth cd 2 77 1118 Q (Zw D vwCl (va_A wst sz) ss (((((((([(x0, .inr (4, [.ref (a9 0), .ref (a20 0), .ref q28, .null, .int (iZ 0)]))] : va_W) ++ wR y a9 R9) ++ wR y a20 R20) ++ ([(q28, .inl (y 2, 4, .inr (.inr (.inr (.inr (va_up (va_up (va_up (fun _ => none) 0 (some (a50 0))) 1 (some (a50_1 0))) 2 (some (a50_2 0))))))))] : va_W)) ++ wR y a50 R50) ++ wR y a50_1 R50_1) ++ wR y a50_2 R50_2) ++ ([(q46_3, .inr (0, [.null, .null, .null, .null, .null, .null, .int (iZ 0), .int (iZ 0), .int (iZ 0)]))] : va_W))) 49 [(1, .int (iZ (((0 + 1) + 1) + 1))), (0, .ref x0)] [.ref q46_3, .int (iZ (((0 + 1) + 1) + 1)), .ref q28]
            refine z_dup mx mb dX4_init_49 rfl ?_
            refine z_callCE (wa := ((((((([(x0, .inr (4, [.ref (a9 0), .ref (a20 0), .ref q28, .null, .int (iZ 0)]))] : va_W) ++ wR y a9 R9) ++ wR y a20 R20) ++ ([(q28, .inl (y 2, 4, .inr (.inr (.inr (.inr (va_up (va_up (va_up (fun _ => none) 0 (some (a50 0))) 1 (some (a50_1 0))) 2 (some (a50_2 0))))))))] : va_W)) ++ wR y a50 R50) ++ wR y a50_1 R50_1) ++ wR y a50_2 R50_2)) (wc := ([(q46_3, .inr (0, [.null, .null, .null, .null, .null, .null, .int (iZ 0), .int (iZ 0), .int (iZ 0)]))] : va_W)) (wb := []) (As := []) (rest := [.ref q46_3, .int (iZ (((0 + 1) + 1) + 1)), .ref q28]) ⟨mx, mb, mml, mo, mts⟩ hK hA hE (fun sz => c_X0_init l D sz y q46_3) (cwI 0 mts gX4_init_X0_init rfl rfl rfl (mts _ (List.mem_of_getElem? (i := 6) rfl)) (mts _ (List.mem_of_getElem? (i := 15) rfl)) (mts _ (List.mem_of_getElem? (i := 16) rfl)) rfl (by decide +kernel) ⟨Nat.le_of_ble_eq_true rfl, Nat.le_of_ble_eq_true rfl⟩) (List.append_nil _).symm rfl rfl (Nat.le_of_ble_eq_true rfl) ⟨Nat.le_of_ble_eq_true rfl, Nat.le_of_ble_eq_true rfl⟩ dX4_init_50 (fun u50_3 hu50_3 => ?_)
            obtain ⟨a50_3, R50_3⟩ := u50_3
            obtain ⟨h50_3, s50_3⟩ := hu50_3
            replace h50_3 : a50_3 0 = q46_3 := h50_3
            subst h50_3
            rw [List.append_nil]
            show Gz pp l ee ({ frames := 5, cells := 95, slots := 1514, locals := 106 } : Room) ss mm args below meth cd 2 91 1330 Q (Zw D vwCl (va_A wst sz) ss (((((((([(x0, .inr (4, [.ref (a9 0), .ref (a20 0), .ref q28, .null, .int (iZ 0)]))] : va_W) ++ wR y a9 R9) ++ wR y a20 R20) ++ ([(q28, .inl (y 2, 4, .inr (.inr (.inr (.inr (va_up (va_up (va_up (fun _ => none) 0 (some (a50 0))) 1 (some (a50_1 0))) 2 (some (a50_2 0))))))))] : va_W)) ++ wR y a50 R50) ++ wR y a50_1 R50_1) ++ wR y a50_2 R50_2) ++ wR y a50_3 R50_3)) 53 [(1, .int (iZ (((0 + 1) + 1) + 1))), (0, .ref x0)] [.ref (a50_3 0), .int (iZ (((0 + 1) + 1) + 1)), .ref q28]
            show Gz pp l ee ({ frames := 5, cells := 95, slots := 1514, locals := 106 } : Room) ss mm args below meth cd 2 91 1330 Q (Zw D vwCl (va_A wst sz) ss (((((((([(x0, .inr (4, [.ref (a9 0), .ref (a20 0), .ref q28, .null, .int (iZ 0)]))] : va_W) ++ wR y a9 R9) ++ wR y a20 R20) ++ ([(q28, .inl (y 2, 4, .inr (.inr (.inr (.inr (va_up (va_up (va_up (fun _ => none) 0 (some (a50 0))) 1 (some (a50_1 0))) 2 (some (a50_2 0))))))))] : va_W)) ++ wR y a50 R50) ++ wR y a50_1 R50_1) ++ wR y a50_2 R50_2) ++ wR y a50_3 R50_3)) 53 [(1, .int (iZ (((0 + 1) + 1) + 1))), (0, .ref x0)] [.ref (a50_3 0), .int (iZ ((3 : Nat) : Int)), .ref q28]
            refine z_aast (r := (RX0, TX0, 9)) (i := 3) mx mb hK 31 2 77 0 rfl rfl rfl rfl (by decide) (by decide) dX4_init_53 (((((((([(x0, .inr (4, [.ref (a9 0), .ref (a20 0), .ref q28, .null, .int (iZ 0)]))] : va_W) ++ wR y a9 R9) ++ wR y a20 R20) ++ ([(q28, .inl (y 2, 4, .inr (.inr (.inr (.inr (va_up (va_up (va_up (va_up (fun _ => none) 0 (some (a50 0))) 1 (some (a50_1 0))) 2 (some (a50_2 0))) 3 (some (a50_3 0))))))))] : va_W)) ++ wR y a50 R50) ++ wR y a50_1 R50_1) ++ wR y a50_2 R50_2) ++ wR y a50_3 R50_3) rfl ?_
            refine z_iinc mx mb dX4_init_54 0 rfl (by decide) [(1, .int (iZ ((((0 + 1) + 1) + 1) + 1))), (0, .ref x0)] rfl ?_
            refine z_goto (tgt := 36) mx mb dX4_init_57 (by decide) ?_
            refine z_iload_n mx mb dX4_init_36 rfl 0 rfl ?_
            refine z_iconst mx mb dX4_init_37 ?_
            refine z_icmp_ge (tgt := 60) mx mb (by omega) (by omega) dX4_init_38 (by decide) (fun c38 => ?_) (fun c38 => ?_)
            · skip
              refine z_aload_n mx mb dX4_init_60 rfl 1 rfl ?_
              refine z_iconst mx mb dX4_init_61 ?_
              refine z_put (ty := .int) (C := RX4) (T := TX4) (N := 5) mx mb mts (in_X4_init_X4) tyX4_ok nmX4 mo hK 0 rfl rfl 4 (by decide) (mts _ (List.mem_of_getElem? (i := 10) rfl)) (fun _ h9 => h9) rfl (by decide +kernel) rfl rfl (Nat.le_of_ble_eq_true rfl) dX4_init_62 (((((((([(x0, .inr (4, [.ref (a9 0), .ref (a20 0), .ref q28, .null, .int (iZ 0)]))] : va_W) ++ wR y a9 R9) ++ wR y a20 R20) ++ ([(q28, .inl (y 2, 4, .inr (.inr (.inr (.inr (va_up (va_up (va_up (va_up (fun _ => none) 0 (some (a50 0))) 1 (some (a50_1 0))) 2 (some (a50_2 0))) 3 (some (a50_3 0))))))))] : va_W)) ++ wR y a50 R50) ++ wR y a50_1 R50_1) ++ wR y a50_2 R50_2) ++ wR y a50_3 R50_3) rfl ?_
              refine z_aload_n mx mb dX4_init_65 rfl 1 rfl ?_
              refine z_new (ci := 2) (C := RX2) (T := TX2) (N := 2) mx mb mts (in_X4_init_X2) tyX2_ok mo (mts _ (List.mem_of_getElem? (i := 11) rfl)) (mts _ (List.mem_of_getElem? (i := 12) rfl)) (mts _ (List.mem_of_getElem? (i := 13) rfl)) hK hA rfl [.null, .int (iZ 0)] (by decide) (Nat.le_of_ble_eq_true rfl) (Nat.le_of_ble_eq_true rfl) dX4_init_66 (fun q66_4 => ?_)
              show Gz pp l ee ({ frames := 5, cells := 95, slots := 1514, locals := 106 } : Room) ss mm args below meth cd 2 92 1332 Q (Zw D vwCl (va_A wst sz) ss ((((((((([(x0, .inr (4, [.ref (a9 0), .ref (a20 0), .ref q28, .null, .int (iZ 0)]))] : va_W) ++ wR y a9 R9) ++ wR y a20 R20) ++ ([(q28, .inl (y 2, 4, .inr (.inr (.inr (.inr (va_up (va_up (va_up (va_up (fun _ => none) 0 (some (a50 0))) 1 (some (a50_1 0))) 2 (some (a50_2 0))) 3 (some (a50_3 0))))))))] : va_W)) ++ wR y a50 R50) ++ wR y a50_1 R50_1) ++ wR y a50_2 R50_2) ++ wR y a50_3 R50_3) ++ ([(q66_4, .inr (2, [.null, .int (iZ 0)]))] : va_W))) 69 [(1, .int (iZ ((((0 + 1) + 1) + 1) + 1))), (0, .ref x0)] [.ref q66_4, .ref x0]
              refine z_dup mx mb dX4_init_69 rfl ?_
              refine z_callCN (wa := (((((((([(x0, .inr (4, [.ref (a9 0), .ref (a20 0), .ref q28, .null, .int (iZ 0)]))] : va_W) ++ wR y a9 R9) ++ wR y a20 R20) ++ ([(q28, .inl (y 2, 4, .inr (.inr (.inr (.inr (va_up (va_up (va_up (va_up (fun _ => none) 0 (some (a50 0))) 1 (some (a50_1 0))) 2 (some (a50_2 0))) 3 (some (a50_3 0))))))))] : va_W)) ++ wR y a50 R50) ++ wR y a50_1 R50_1) ++ wR y a50_2 R50_2) ++ wR y a50_3 R50_3)) (wc := ([(q66_4, .inr (2, [.null, .int (iZ 0)]))] : va_W)) (wb := []) (As := []) (rest := [.ref q66_4, .ref x0]) ⟨mx, mb, mml, mo, mts⟩ hK hA (fun sz => c_X2_init l D sz y q66_4) ⟨va_cnB 0 mts gX4_init_X2_init_n29 rfl rfl rfl (hE.2.2.2.1 _ (List.mem_of_getElem? (i := 10) rfl)) (mts _ (List.mem_of_getElem? (i := 13) rfl)) (by decide +kernel) ⟨Nat.le_of_ble_eq_true rfl, Nat.le_of_ble_eq_true rfl⟩, rfl, (mts _ (List.mem_of_getElem? (i := 61) rfl))⟩ (List.append_nil _).symm rfl rfl (Nat.le_of_ble_eq_true rfl) ⟨Nat.le_of_ble_eq_true rfl, Nat.le_of_ble_eq_true rfl⟩ dX4_init_70 (fun u70_4 _ => ?_)
              rw [List.append_nil]
              obtain ⟨tb, htb⟩ : ∃ tb : Nat → Nat, tb = fun i => ([q66_4, u70_4] : List Nat).getD i 0 := ⟨_, rfl⟩
              have tb0 : tb 0 = q66_4 := by rw [htb]; rfl
              have tb1 : tb 1 = u70_4 := by rw [htb]; rfl
              clear htb
              subst tb0 tb1
              show Gz pp l ee ({ frames := 5, cells := 95, slots := 1514, locals := 106 } : Room) ss mm args below meth cd 2 93 1422 Q (Zw D vwCl (va_A wst sz) ss ((((((((([(x0, .inr (4, [.ref (a9 0), .ref (a20 0), .ref q28, .null, .int (iZ 0)]))] : va_W) ++ wR y a9 R9) ++ wR y a20 R20) ++ ([(q28, .inl (y 2, 4, .inr (.inr (.inr (.inr (va_up (va_up (va_up (va_up (fun _ => none) 0 (some (a50 0))) 1 (some (a50_1 0))) 2 (some (a50_2 0))) 3 (some (a50_3 0))))))))] : va_W)) ++ wR y a50 R50) ++ wR y a50_1 R50_1) ++ wR y a50_2 R50_2) ++ wR y a50_3 R50_3) ++ wX y tb (fun _ => 0) 0)) 73 [(1, .int (iZ ((((0 + 1) + 1) + 1) + 1))), (0, .ref x0)] [.ref (tb 0), .ref x0]
              refine z_putF (ty := .object "BlockCoaster$TrackText") (C := RX4) (T := TX4) (N := 5) mx mb mts (in_X4_init_X4) tyX4_ok nmX4 mo hK 0 rfl rfl 3 (by decide) (mts _ (List.mem_of_getElem? (i := 14) rfl)) (fun _ h9 => h9) rfl hname rfl (by decide +kernel) rfl rfl (Nat.le_of_ble_eq_true rfl) dX4_init_73 ((((((((([(x0, .inr (4, [.ref (a9 0), .ref (a20 0), .ref q28, .ref (tb 0), .int (iZ 0)]))] : va_W) ++ wR y a9 R9) ++ wR y a20 R20) ++ ([(q28, .inl (y 2, 4, .inr (.inr (.inr (.inr (va_up (va_up (va_up (va_up (fun _ => none) 0 (some (a50 0))) 1 (some (a50_1 0))) 2 (some (a50_2 0))) 3 (some (a50_3 0))))))))] : va_W)) ++ wR y a50 R50) ++ wR y a50_1 R50_1) ++ wR y a50_2 R50_2) ++ wR y a50_3 R50_3) ++ wX y tb (fun _ => 0) 0) rfl ?_
              refine z_aload_n mx mb dX4_init_76 rfl 1 rfl ?_
              refine z_get (C := RX4) (T := TX4) (N := 5) mx mb mts (in_X4_init_X4) mo hK zgw 0 rfl rfl 0 (by decide) (mts _ (List.mem_of_getElem? (i := 7) rfl)) (fun _ h9 => h9) rfl dX4_init_77 ?_
              refine z_callSR (rest := [.ref (a9 0)]) ⟨mx, mb, mml, mo, mts⟩ hK hA hE (fun sz => c_X4_firstTrack l D sz y) (va_cwS 0 mts gX4_init_X4_firstTrack rfl rfl rfl (by decide +kernel) ⟨Nat.le_of_ble_eq_true rfl, Nat.le_of_ble_eq_true rfl⟩) (Nat.le_of_ble_eq_true rfl) ⟨Nat.le_of_ble_eq_true rfl, Nat.le_of_ble_eq_true rfl⟩ dX4_init_80 (fun ug hug => ?_)
              obtain ⟨gb, gt⟩ := ug
              obtain ⟨hg1, hg2⟩ := hug
              replace hg1 : ∀ k : Int, 0 ≤ k → k < 28 → gt k = fB k := hg1
              replace hg2 : ∀ k : Int, 28 ≤ k → gt k = 0 := hg2
              show Gz pp l ee ({ frames := 5, cells := 95, slots := 1514, locals := 106 } : Room) ss mm args below meth cd 2 95 1514 Q (Zw D vwCl (va_A wst sz) ss (((((((((([(x0, .inr (4, [.ref (a9 0), .ref (a20 0), .ref q28, .ref (tb 0), .int (iZ 0)]))] : va_W) ++ wR y a9 R9) ++ wR y a20 R20) ++ ([(q28, .inl (y 2, 4, .inr (.inr (.inr (.inr (va_up (va_up (va_up (va_up (fun _ => none) 0 (some (a50 0))) 1 (some (a50_1 0))) 2 (some (a50_2 0))) 3 (some (a50_3 0))))))))] : va_W)) ++ wR y a50 R50) ++ wR y a50_1 R50_1) ++ wR y a50_2 R50_2) ++ wR y a50_3 R50_3) ++ wX y tb (fun _ => 0) 0) ++ wX y gb gt 28)) 83 [(1, .int (iZ ((((0 + 1) + 1) + 1) + 1))), (0, .ref x0)] [.ref (gb 0), .ref (a9 0)]
              obtain ⟨a, ea⟩ : ∃ a : Nat → Nat → Nat, a = fun j => match j with | 0 => a9 | 1 => a20 | 2 => a50 | 3 => a50_1 | 4 => a50_2 | _ => a50_3 := ⟨_, rfl⟩
              obtain ⟨S, eS⟩ : ∃ S : Nat → Nat → Int → Int, S = fun j => match j with | 0 => R9 | 1 => R20 | 2 => R50 | 3 => R50_1 | 4 => R50_2 | _ => R50_3 := ⟨_, rfl⟩
              have ea0 : a9 = a 0 := (congrFun ea 0).symm
              have eS0 : R9 = S 0 := (congrFun eS 0).symm
              have ea1 : a20 = a 1 := (congrFun ea 1).symm
              have eS1 : R20 = S 1 := (congrFun eS 1).symm
              have ea2 : a50 = a 2 := (congrFun ea 2).symm
              have eS2 : R50 = S 2 := (congrFun eS 2).symm
              have ea3 : a50_1 = a 3 := (congrFun ea 3).symm
              have eS3 : R50_1 = S 3 := (congrFun eS 3).symm
              have ea4 : a50_2 = a 4 := (congrFun ea 4).symm
              have eS4 : R50_2 = S 4 := (congrFun eS 4).symm
              have ea5 : a50_3 = a 5 := (congrFun ea 5).symm
              have eS5 : R50_3 = S 5 := (congrFun eS 5).symm
              obtain ⟨o, eo⟩ : ∃ o : Nat → Nat, o = fun i => ([x0, q28] : List Nat).getD i 0 := ⟨_, rfl⟩
              have eo0 : x0 = o 0 := by rw [eo]; rfl
              have eo1 : q28 = o 1 := by rw [eo]; rfl
              have hs9 : S 0 7 0 = fS 4 ∧ S 0 7 1 = fS 5 ∧ S 0 7 2 = fS 6 ∧ S 0 7 3 = fS 7 := by rw [← eS0]; exact s9
              have hp9 : ((((((((((([(x0, .inr (4, [.ref (a9 0), .ref (a20 0), .ref q28, .ref (tb 0), .int (iZ 0)]))] : va_W) ++ wR y a9 R9) ++ wR y a20 R20) ++ ([(q28, .inl (y 2, 4, .inr (.inr (.inr (.inr (va_up (va_up (va_up (va_up (fun _ => none) 0 (some (a50 0))) 1 (some (a50_1 0))) 2 (some (a50_2 0))) 3 (some (a50_3 0))))))))] : va_W)) ++ wR y a50 R50) ++ wR y a50_1 R50_1) ++ wR y a50_2 R50_2) ++ wR y a50_3 R50_3) ++ wX y tb (fun _ => 0) 0) ++ wX y gb gt 28)).Perm (((([(x0, .inr (4, [.ref (a9 0), .ref (a20 0), .ref q28, .ref (tb 0), .int (iZ 0)]))] : va_W) ++ ([(q28, .inl (y 2, 4, .inr (.inr (.inr (.inr (va_up (va_up (va_up (va_up (fun _ => none) 0 (some (a50 0))) 1 (some (a50_1 0))) 2 (some (a50_2 0))) 3 (some (a50_3 0))))))))] : va_W)) ++ wX y tb (fun _ => 0) 0) ++ (wR y a9 R9 ++ wX y gb gt 28) ++ (wR y a20 R20 ++ (((wR y a50 R50 ++ wR y a50_1 R50_1) ++ wR y a50_2 R50_2) ++ wR y a50_3 R50_3))) := by
                have := zperm5 ([(x0, .inr (4, [.ref (a9 0), .ref (a20 0), .ref q28, .ref (tb 0), .int (iZ 0)]))] : va_W) (wR y a9 R9) ([(q28, .inl (y 2, 4, .inr (.inr (.inr (.inr (va_up (va_up (va_up (va_up (fun _ => none) 0 (some (a50 0))) 1 (some (a50_1 0))) 2 (some (a50_2 0))) 3 (some (a50_3 0))))))))] : va_W) (((wR y a50 R50 ++ wR y a50_1 R50_1) ++ wR y a50_2 R50_2) ++ wR y a50_3 R50_3) (wX y tb (fun _ => 0) 0) (wX y gb gt 28) (wR y a20 R20)
                simpa only [List.append_assoc] using this
              refine z_perm hp9 ?_
              clear hp9
              rw [ea0, ea1, ea2, ea3, ea4, ea5, eS0, eS1, eS2, eS3, eS4, eS5, eo0, eo1]
              refine z_I (I' := Zw D vwCl (va_A wst sz) ss ((wO y o a tb (sav a) 0 ++ wX y tb (fun _ => 0) 0) ++ wRX y (a 0) (S 0) gb gt 28 ++ wRs y a S [1, 2, 3, 4, 5])) (fun H locs h9 => ?_) ?_
              · have h8 : Zw D vwCl (va_A wst sz) ss (((([((o 0), .inr (4, [.ref ((a 0) 0), .ref ((a 1) 0), .ref (o 1), .ref (tb 0), .int (iZ 0)]))] : va_W) ++ ([((o 1), .inl (y 2, 4, .inr (.inr (.inr (.inr (va_up (va_up (va_up (va_up (fun _ => none) 0 (some ((a 2) 0))) 1 (some ((a 3) 0))) 2 (some ((a 4) 0))) 3 (some ((a 5) 0))))))))] : va_W)) ++ wX y tb (fun _ => 0) 0) ++ (wR y (a 0) (S 0) ++ wX y gb gt 28) ++ (wR y (a 1) (S 1) ++ (wR y (a 2) (S 2) ++ (wR y (a 3) (S 3) ++ (wR y (a 4) (S 4) ++ (wR y (a 5) (S 5) ++ [])))))) H locs := by simpa only [List.append_assoc, List.append_nil] using h9
                exact Zw_cell (i := 1) (e2 := (4, .inr (.inr (.inr (.inr (sav a)))))) rfl (zQ_ext (fun j hj => by rcases (show j = 0 ∨ j = 1 ∨ j = 2 ∨ j = 3 by omega) with rfl | rfl | rfl | rfl <;> rfl)) h8
              have fc := fst_congr (x := gt) (x' := fB) (2 * 14) (fun k hk => hg1 k (by omega) (by omega))
              refine z_callV (wa := wO y o a tb (sav a) 0 ++ wX y tb (fun _ => 0) 0) (wc := wRX y (a 0) (S 0) gb gt 28) (wb := wRs y a S [1, 2, 3, 4, 5]) (As := [.ref (gb 0)]) (rest := []) ⟨mx, mb, mml, mo, mts⟩ hK hA (fun sz => c_X0_begin l D sz y (a 0) (S 0) gb gt 28 14 fS (by omega) (fc.1.trans fB_fst) (by rw [fc.2, fB_brs]; omega) (fun k k0 k1 => by by_cases z : k < 28; (rw [hg1 k k0 z]; have := fB_i (i := k) (by omega); omega); (rw [hg2 k (by omega)]; omega)) hs9) (cwV 1 mts gX4_init_X0_begin rfl rfl rfl (by decide +kernel) ⟨Nat.le_of_ble_eq_true rfl, Nat.le_of_ble_eq_true rfl⟩) rfl 4 rfl rfl rfl rfl rfl (Nat.le_of_ble_eq_true rfl) ⟨Nat.le_of_ble_eq_true rfl, Nat.le_of_ble_eq_true rfl⟩ dX4_init_83 (fun Rz hRz => ?_)
              refine z_endK ?_
              show Gz pp l ee ({ frames := 5, cells := 95, slots := 1514, locals := 106 } : Room) ss mm args below meth cd 2 95 1514 Q (Zw D vwCl (va_A wst sz) ss (wBq y o a (uR S 0 Rz) tb (fun _ => 0) 0 0 (sav a) p6)) 86 [(1, .int (iZ ((((0 + 1) + 1) + 1) + 1))), (0, .ref (o 0))] []
              rw [hQ]
              exact z_retV mx mb mr mlk hK (o, a, uR S 0 Rz, tb) (by exact ⟨eo0.symm, by show Rel f1 (uR S 0 Rz 0); rw [uR_s]; unfold f1; rw [← parsed_congr (x := gt) 14 (fun k k0 k1 => hg1 k k0 (by omega))]; exact hRz⟩) rfl dX4_init_86
            · skip
              exact absurd c38 (by omega)
  subst hQ
  subst hw0
  exact hstart
