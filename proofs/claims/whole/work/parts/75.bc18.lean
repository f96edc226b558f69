theorem fS_zu : fS = zu (zu (zu (fun _ => 0) 4 3) 5 5) 7 20 := by
  funext i
  show (if i = 4 then (3 : Int) else if i = 5 then 5 else if i = 7 then 20 else 0) = if i = 7 then 20 else if i = 5 then 5 else if i = 4 then 3 else 0
  by_cases h4 : i = 4 <;> by_cases h5 : i = 5 <;> by_cases h7 : i = 7 <;> simp [h4, h5, h7] <;> omega
theorem f1_eq : f1 = addCell (addCell (addCell (addCell (addCell (addCell (addCell (addCell (addCell (addCell (addCell (addCell (addCell (addCell (begun (zu (zu (zu (fun _ => 0) 4 3) 5 5) 7 20)) 0 2) 1 1) 3 1) 5 1) 7 1) 7 2) 4 0) 1 0) 3 0) 2 0) 4 2) 2 0) 1 0) 0 2 := by
  rw [← fS_zu]
  rfl
theorem in_X5_init_X5 : ∀ w ∈ wsX50, w ∈ wsX5_init := by decide +kernel
set_option maxRecDepth 100000 in
set_option maxHeartbeats 4000000 in
theorem c_X5_init (l : Launch) (D : va_G) (sz : Nat) (y : Nat → ClassId) (b : Nat)  : Met l yX5_init wsX5_init ({ frames := 2, cells := 4, slots := 1116, locals := 43 } : Room) (zPw D vwCl (zT y) ([(b, .inr (5, [.null, .null, .null, .int (iZ 0), .null, .int (iZ 0), .int (iZ 0), .long (lZ 0)]))] : va_W) sz [.ref b]) (va_Qv (fun u : (Nat → Nat) × (Int → Int) => u.1 0 = b ∧ u.2 = f1) (zB D vwCl (zT y) ([(b, .inr (5, [.null, .null, .null, .int (iZ 0), .null, .int (iZ 0), .int (iZ 0), .long (lZ 0)]))] : va_W) sz (fun u : (Nat → Nat) × (Int → Int) => wM y u.1 u.2 (fun _ => 0) (fun _ => 0) (fun _ => 0) 0 0 0 0)) (va_A ([(b, .inr (5, [.null, .null, .null, .int (iZ 0), .null, .int (iZ 0), .int (iZ 0), .long (lZ 0)]))] : va_W) sz)) 4 1116 (va_A ([(b, .inr (5, [.null, .null, .null, .int (iZ 0), .null, .int (iZ 0), .int (iZ 0), .long (lZ 0)]))] : va_W) sz) := by
  refine z_headW (cc := cX5_init) (maxL := 1) (ret := none) [(0, .ref b)] rfl (Nat.le_of_ble_eq_true rfl) (by decide +kernel) rfl ?_
  intro pp ee ss mm below meth cd mx mb mr mml mo mts mlk hK hname hsz hA
  generalize ([.ref b] : List Value).toArray = args at mts ⊢
  obtain ⟨wst, hw0⟩ : ∃ wst, wst = ([(b, .inr (5, [.null, .null, .null, .int (iZ 0), .null, .int (iZ 0), .int (iZ 0), .long (lZ 0)]))] : va_W) := ⟨_, rfl⟩
  replace hA : ∀ q, ss.heap.size ≤ q → va_A wst sz q := by rw [hw0]; exact hA
  obtain ⟨Q, hQ⟩ : ∃ Q, Q = MQ below (va_Qv (fun u : (Nat → Nat) × (Int → Int) => u.1 0 = b ∧ u.2 = f1) (zB D vwCl (zT y) wst sz (fun u : (Nat → Nat) × (Int → Int) => wM y u.1 u.2 (fun _ => 0) (fun _ => 0) (fun _ => 0) 0 0 0 0)) (va_A wst sz)) args ss 4 1116 (va_A wst sz) := ⟨_, rfl⟩
  have hstart : Gz pp l ee ({ frames := 2, cells := 4, slots := 1116, locals := 43 } : Room) ss mm args below meth cd 1 0 0 Q (Zw D vwCl (va_A wst sz) ss ([(b, .inr (5, [.null, .null, .null, .int (iZ 0), .null, .int (iZ 0), .int (iZ 0), .long (lZ 0)]))] : va_W)) 0 [(0, .ref b)] [] := by
    refine z_aload_n mx mb dX5_init_0 rfl 0 rfl ?_
    refine z_oinit mx mb mml mo (mts _ (List.mem_of_getElem? (i := 1) rfl)) (mts _ (List.mem_of_getElem? (i := 2) rfl)) (mts _ (List.mem_of_getElem? (i := 3) rfl)) (Nat.le_of_ble_eq_true rfl) (Nat.le_of_ble_eq_true rfl) dX5_init_1 ?_
    refine z_aload_n mx mb dX5_init_4 rfl 0 rfl ?_
    refine z_sipush mx mb dX5_init_5 (by decide +kernel) ?_
    refine z_newI (N := 171) mx mb (mts _ (List.mem_of_getElem? (i := 4) rfl)) hK hA 0 rfl rfl (by decide) (Nat.le_of_ble_eq_true rfl) (Nat.le_of_ble_eq_true rfl) dX5_init_8 (fun q8 => ?_)
    show Gz pp l ee ({ frames := 2, cells := 4, slots := 1116, locals := 43 } : Room) ss mm args below meth cd 1 1 171 Q (Zw D vwCl (va_A wst sz) ss ([(b, .inr (5, [.null, .null, .null, .int (iZ 0), .null, .int (iZ 0), .int (iZ 0), .long (lZ 0)])), (q8, .inl (y 0, 171, .inl (zA (fun _ => 0))))] : va_W)) 10 [(0, .ref b)] [.ref q8, .ref b]
    refine z_putF (ty := .array .int) (C := RX5) (T := TX5) (N := 8) mx mb mts (in_X5_init_X5) tyX5_ok nmX5 mo hK 0 rfl rfl 0 (by decide) (mts _ (List.mem_of_getElem? (i := 5) rfl)) (fun _ h9 => h9) rfl hname rfl (by decide +kernel) rfl rfl (Nat.le_of_ble_eq_true rfl) dX5_init_10 ([(b, .inr (5, [.ref q8, .null, .null, .int (iZ 0), .null, .int (iZ 0), .int (iZ 0), .long (lZ 0)])), (q8, .inl (y 0, 171, .inl (zA (fun _ => 0))))] : va_W) rfl ?_
    refine z_aload_n mx mb dX5_init_13 rfl 0 rfl ?_
    refine z_sipush mx mb dX5_init_14 (by decide +kernel) ?_
    refine z_newI (N := 684) mx mb (mts _ (List.mem_of_getElem? (i := 4) rfl)) hK hA 0 rfl rfl (by decide) (Nat.le_of_ble_eq_true rfl) (Nat.le_of_ble_eq_true rfl) dX5_init_17 (fun q17 => ?_)
    show Gz pp l ee ({ frames := 2, cells := 4, slots := 1116, locals := 43 } : Room) ss mm args below meth cd 1 2 855 Q (Zw D vwCl (va_A wst sz) ss ([(b, .inr (5, [.ref q8, .null, .null, .int (iZ 0), .null, .int (iZ 0), .int (iZ 0), .long (lZ 0)])), (q8, .inl (y 0, 171, .inl (zA (fun _ => 0)))), (q17, .inl (y 0, 684, .inl (zA (fun _ => 0))))] : va_W)) 19 [(0, .ref b)] [.ref q17, .ref b]
    refine z_putF (ty := .array .int) (C := RX5) (T := TX5) (N := 8) mx mb mts (in_X5_init_X5) tyX5_ok nmX5 mo hK 0 rfl rfl 1 (by decide) (mts _ (List.mem_of_getElem? (i := 6) rfl)) (fun _ h9 => h9) rfl hname rfl (by decide +kernel) rfl rfl (Nat.le_of_ble_eq_true rfl) dX5_init_19 ([(b, .inr (5, [.ref q8, .ref q17, .null, .int (iZ 0), .null, .int (iZ 0), .int (iZ 0), .long (lZ 0)])), (q8, .inl (y 0, 171, .inl (zA (fun _ => 0)))), (q17, .inl (y 0, 684, .inl (zA (fun _ => 0))))] : va_W) rfl ?_
    refine z_aload_n mx mb dX5_init_22 rfl 0 rfl ?_
    refine z_sipush mx mb dX5_init_23 (by decide +kernel) ?_
    refine z_newI (N := 171) mx mb (mts _ (List.mem_of_getElem? (i := 4) rfl)) hK hA 0 rfl rfl (by decide) (Nat.le_of_ble_eq_true rfl) (Nat.le_of_ble_eq_true rfl) dX5_init_26 (fun q26 => ?_)
    show Gz pp l ee ({ frames := 2, cells := 4, slots := 1116, locals := 43 } : Room) ss mm args below meth cd 1 3 1026 Q (Zw D vwCl (va_A wst sz) ss ([(b, .inr (5, [.ref q8, .ref q17, .null, .int (iZ 0), .null, .int (iZ 0), .int (iZ 0), .long (lZ 0)])), (q8, .inl (y 0, 171, .inl (zA (fun _ => 0)))), (q17, .inl (y 0, 684, .inl (zA (fun _ => 0)))), (q26, .inl (y 0, 171, .inl (zA (fun _ => 0))))] : va_W)) 28 [(0, .ref b)] [.ref q26, .ref b]
    refine z_putF (ty := .array .int) (C := RX5) (T := TX5) (N := 8) mx mb mts (in_X5_init_X5) tyX5_ok nmX5 mo hK 0 rfl rfl 2 (by decide) (mts _ (List.mem_of_getElem? (i := 7) rfl)) (fun _ h9 => h9) rfl hname rfl (by decide +kernel) rfl rfl (Nat.le_of_ble_eq_true rfl) dX5_init_28 ([(b, .inr (5, [.ref q8, .ref q17, .ref q26, .int (iZ 0), .null, .int (iZ 0), .int (iZ 0), .long (lZ 0)])), (q8, .inl (y 0, 171, .inl (zA (fun _ => 0)))), (q17, .inl (y 0, 684, .inl (zA (fun _ => 0)))), (q26, .inl (y 0, 171, .inl (zA (fun _ => 0))))] : va_W) rfl ?_
    refine z_aload_n mx mb dX5_init_31 rfl 0 rfl ?_
    refine z_bipush mx mb dX5_init_32 (by decide +kernel) ?_
    refine z_newI (N := 90) mx mb (mts _ (List.mem_of_getElem? (i := 4) rfl)) hK hA 0 rfl rfl (by decide) (Nat.le_of_ble_eq_true rfl) (Nat.le_of_ble_eq_true rfl) dX5_init_34 (fun q34 => ?_)
    show Gz pp l ee ({ frames := 2, cells := 4, slots := 1116, locals := 43 } : Room) ss mm args below meth cd 1 4 1116 Q (Zw D vwCl (va_A wst sz) ss ([(b, .inr (5, [.ref q8, .ref q17, .ref q26, .int (iZ 0), .null, .int (iZ 0), .int (iZ 0), .long (lZ 0)])), (q8, .inl (y 0, 171, .inl (zA (fun _ => 0)))), (q17, .inl (y 0, 684, .inl (zA (fun _ => 0)))), (q26, .inl (y 0, 171, .inl (zA (fun _ => 0)))), (q34, .inl (y 0, 90, .inl (zA (fun _ => 0))))] : va_W)) 36 [(0, .ref b)] [.ref q34, .ref b]
    refine z_putF (ty := .array .int) (C := RX5) (T := TX5) (N := 8) mx mb mts (in_X5_init_X5) tyX5_ok nmX5 mo hK 0 rfl rfl 4 (by decide) (mts _ (List.mem_of_getElem? (i := 8) rfl)) (fun _ h9 => h9) rfl hname rfl (by decide +kernel) rfl rfl (Nat.le_of_ble_eq_true rfl) dX5_init_36 ([(b, .inr (5, [.ref q8, .ref q17, .ref q26, .int (iZ 0), .ref q34, .int (iZ 0), .int (iZ 0), .long (lZ 0)])), (q8, .inl (y 0, 171, .inl (zA (fun _ => 0)))), (q17, .inl (y 0, 684, .inl (zA (fun _ => 0)))), (q26, .inl (y 0, 171, .inl (zA (fun _ => 0)))), (q34, .inl (y 0, 90, .inl (zA (fun _ => 0))))] : va_W) rfl ?_
    obtain ⟨a, ea⟩ : ∃ a : Nat → Nat, a = fun i => ([b, q8, q17, q26, q34] : List Nat).getD i 0 := ⟨_, rfl⟩
    have ea0 : b = a 0 := (congrFun ea 0).symm
    have ea1 : q8 = a 1 := (congrFun ea 1).symm
    have ea2 : q17 = a 2 := (congrFun ea 2).symm
    have ea3 : q26 = a 3 := (congrFun ea 3).symm
    have ea4 : q34 = a 4 := (congrFun ea 4).symm
    rw [ea0, ea1, ea2, ea3, ea4]
    show Gz pp l ee ({ frames := 2, cells := 4, slots := 1116, locals := 43 } : Room) ss mm args below meth cd 1 4 1116 Q (Zw D vwCl (va_A wst sz) ss (wM y a (fun _ => 0) (fun _ => 0) (fun _ => 0) (fun _ => 0) 0 0 0 0)) 39 [(0, .ref (a 0))] []
    refine z_aload_n mx mb dX5_init_39 rfl 0 rfl ?_
    refine z_get (C := RX5) (T := TX5) (N := 8) mx mb mts (in_X5_init_X5) mo hK zgw 0 wM_0 rfl 0 (by decide) (mts _ (List.mem_of_getElem? (i := 5) rfl)) (fun _ h9 => h9) rfl dX5_init_40 ?_
    refine z_iconst mx mb dX5_init_43 ?_
    refine z_iconst mx mb dX5_init_44 ?_
    refine z_iast mx mb hK 1 0 wM_1 rfl (by decide) (by omega) dX5_init_45 (wM y a (zu (fun _ => 0) 4 3) (fun _ => 0) (fun _ => 0) (fun _ => 0) 0 0 0 0) wM_s1 ?_
    refine z_aload_n mx mb dX5_init_46 rfl 0 rfl ?_
    refine z_get (C := RX5) (T := TX5) (N := 8) mx mb mts (in_X5_init_X5) mo hK zgw 0 wM_0 rfl 0 (by decide) (mts _ (List.mem_of_getElem? (i := 5) rfl)) (fun _ h9 => h9) rfl dX5_init_47 ?_
    refine z_iconst mx mb dX5_init_50 ?_
    refine z_iconst mx mb dX5_init_51 ?_
    refine z_iast mx mb hK 1 0 wM_1 rfl (by decide) (by omega) dX5_init_52 (wM y a (zu (zu (fun _ => 0) 4 3) 5 5) (fun _ => 0) (fun _ => 0) (fun _ => 0) 0 0 0 0) wM_s1 ?_
    refine z_aload_n mx mb dX5_init_53 rfl 0 rfl ?_
    refine z_get (C := RX5) (T := TX5) (N := 8) mx mb mts (in_X5_init_X5) mo hK zgw 0 wM_0 rfl 0 (by decide) (mts _ (List.mem_of_getElem? (i := 5) rfl)) (fun _ h9 => h9) rfl dX5_init_54 ?_
    refine z_bipush mx mb dX5_init_57 (by decide +kernel) ?_
    refine z_bipush mx mb dX5_init_59 (by decide +kernel) ?_
    refine z_iast mx mb hK 1 0 wM_1 rfl (by decide) (by omega) dX5_init_61 (wM y a (zu (zu (zu (fun _ => 0) 4 3) 5 5) 7 20) (fun _ => 0) (fun _ => 0) (fun _ => 0) 0 0 0 0) wM_s1 ?_
    refine z_aload_n mx mb dX5_init_62 rfl 0 rfl ?_
    refine z_callV0 (As := []) (rest := []) ⟨mx, mb, mml, mo, mts⟩ hK hA (fun sz => c_X5_begins l D sz y a (zu (zu (zu (fun _ => 0) 4 3) 5 5) 7 20) (fun _ => 0) (fun _ => 0) (fun _ => 0) 0 0 0 0  ) (cwV 0 mts gX5_init_X5_begins rfl rfl rfl (by decide +kernel) ⟨Nat.le_of_ble_eq_true rfl, Nat.le_of_ble_eq_true rfl⟩) 0 wM_0 rfl rfl rfl rfl (Nat.le_of_ble_eq_true rfl) ⟨Nat.le_of_ble_eq_true rfl, Nat.le_of_ble_eq_true rfl⟩ dX5_init_63 (fun u63 hu63 => ?_)
    show Gz pp l ee ({ frames := 2, cells := 4, slots := 1116, locals := 43 } : Room) ss mm args below meth cd 1 4 1116 Q (Zw D vwCl (va_A wst sz) ss (wM y a (begun (zu (zu (zu (fun _ => 0) 4 3) 5 5) 7 20)) (fun _ => 0) (fun _ => 0) (fun _ => 0) 0 0 0 0)) 66 [(0, .ref (a 0))] []
    refine z_aload_n mx mb dX5_init_66 rfl 0 rfl ?_
    refine z_iconst mx mb dX5_init_67 ?_
    refine z_iconst mx mb dX5_init_68 ?_
    have k0 : (begun (zu (zu (zu (fun _ => 0) 4 3) 5 5) 7 20)) 0 = 0 := by rw [begun_0]; rfl
    refine z_callV0 (As := [.int (iZ 0), .int (iZ 2)]) (rest := []) ⟨mx, mb, mml, mo, mts⟩ hK hA (fun sz => c_X5_cell0 l D sz y a (begun (zu (zu (zu (fun _ => 0) 4 3) 5 5) 7 20)) (fun _ => 0) (fun _ => 0) (fun _ => 0) 0 0 0 0 0 2 ⟨by rw [k0]; omega, by rw [k0]; omega⟩ (by omega)) (cwV 2 mts gX5_init_X5_cell0 rfl rfl rfl (by decide +kernel) ⟨Nat.le_of_ble_eq_true rfl, Nat.le_of_ble_eq_true rfl⟩) 0 wM_0 rfl rfl rfl rfl (Nat.le_of_ble_eq_true rfl) ⟨Nat.le_of_ble_eq_true rfl, Nat.le_of_ble_eq_true rfl⟩ dX5_init_69 (fun u69 hu69 => ?_)
    show Gz pp l ee ({ frames := 2, cells := 4, slots := 1116, locals := 43 } : Room) ss mm args below meth cd 1 4 1116 Q (Zw D vwCl (va_A wst sz) ss (wM y a (addCell (begun (zu (zu (zu (fun _ => 0) 4 3) 5 5) 7 20)) 0 2) (fun _ => 0) (fun _ => 0) (fun _ => 0) 0 0 0 0)) 72 [(0, .ref (a 0))] []
    refine z_aload_n mx mb dX5_init_72 rfl 0 rfl ?_
    refine z_iconst mx mb dX5_init_73 ?_
    refine z_iconst mx mb dX5_init_74 ?_
    have k1 : (addCell (begun (zu (zu (zu (fun _ => 0) 4 3) 5 5) 7 20)) 0 2) 0 = 1 := by rw [addCell_0 (by rw [k0]; omega), k0]; rfl
    refine z_callV0 (As := [.int (iZ 1), .int (iZ 1)]) (rest := []) ⟨mx, mb, mml, mo, mts⟩ hK hA (fun sz => c_X5_cell0 l D sz y a (addCell (begun (zu (zu (zu (fun _ => 0) 4 3) 5 5) 7 20)) 0 2) (fun _ => 0) (fun _ => 0) (fun _ => 0) 0 0 0 0 1 1 ⟨by rw [k1]; omega, by rw [k1]; omega⟩ (by omega)) (cwV 2 mts gX5_init_X5_cell0 rfl rfl rfl (by decide +kernel) ⟨Nat.le_of_ble_eq_true rfl, Nat.le_of_ble_eq_true rfl⟩) 0 wM_0 rfl rfl rfl rfl (Nat.le_of_ble_eq_true rfl) ⟨Nat.le_of_ble_eq_true rfl, Nat.le_of_ble_eq_true rfl⟩ dX5_init_75 (fun u75 hu75 => ?_)
    show Gz pp l ee ({ frames := 2, cells := 4, slots := 1116, locals := 43 } : Room) ss mm args below meth cd 1 4 1116 Q (Zw D vwCl (va_A wst sz) ss (wM y a (addCell (addCell (begun (zu (zu (zu (fun _ => 0) 4 3) 5 5) 7 20)) 0 2) 1 1) (fun _ => 0) (fun _ => 0) (fun _ => 0) 0 0 0 0)) 78 [(0, .ref (a 0))] []
    refine z_aload_n mx mb dX5_init_78 rfl 0 rfl ?_
    refine z_iconst mx mb dX5_init_79 ?_
    refine z_iconst mx mb dX5_init_80 ?_
    have k2 : (addCell (addCell (begun (zu (zu (zu (fun _ => 0) 4 3) 5 5) 7 20)) 0 2) 1 1) 0 = 2 := by rw [addCell_0 (by rw [k1]; omega), k1]; rfl
    refine z_callV0 (As := [.int (iZ 3), .int (iZ 1)]) (rest := []) ⟨mx, mb, mml, mo, mts⟩ hK hA (fun sz => c_X5_cell0 l D sz y a (addCell (addCell (begun (zu (zu (zu (fun _ => 0) 4 3) 5 5) 7 20)) 0 2) 1 1) (fun _ => 0) (fun _ => 0) (fun _ => 0) 0 0 0 0 3 1 ⟨by rw [k2]; omega, by rw [k2]; omega⟩ (by omega)) (cwV 2 mts gX5_init_X5_cell0 rfl rfl rfl (by decide +kernel) ⟨Nat.le_of_ble_eq_true rfl, Nat.le_of_ble_eq_true rfl⟩) 0 wM_0 rfl rfl rfl rfl (Nat.le_of_ble_eq_true rfl) ⟨Nat.le_of_ble_eq_true rfl, Nat.le_of_ble_eq_true rfl⟩ dX5_init_81 (fun u81 hu81 => ?_)
    show Gz pp l ee ({ frames := 2, cells := 4, slots := 1116, locals := 43 } : Room) ss mm args below meth cd 1 4 1116 Q (Zw D vwCl (va_A wst sz) ss (wM y a (addCell (addCell (addCell (begun (zu (zu (zu (fun _ => 0) 4 3) 5 5) 7 20)) 0 2) 1 1) 3 1) (fun _ => 0) (fun _ => 0) (fun _ => 0) 0 0 0 0)) 84 [(0, .ref (a 0))] []
    refine z_aload_n mx mb dX5_init_84 rfl 0 rfl ?_
    refine z_iconst mx mb dX5_init_85 ?_
    refine z_iconst mx mb dX5_init_86 ?_
    have k3 : (addCell (addCell (addCell (begun (zu (zu (zu (fun _ => 0) 4 3) 5 5) 7 20)) 0 2) 1 1) 3 1) 0 = 3 := by rw [addCell_0 (by rw [k2]; omega), k2]; rfl
    refine z_callV0 (As := [.int (iZ 5), .int (iZ 1)]) (rest := []) ⟨mx, mb, mml, mo, mts⟩ hK hA (fun sz => c_X5_cell0 l D sz y a (addCell (addCell (addCell (begun (zu (zu (zu (fun _ => 0) 4 3) 5 5) 7 20)) 0 2) 1 1) 3 1) (fun _ => 0) (fun _ => 0) (fun _ => 0) 0 0 0 0 5 1 ⟨by rw [k3]; omega, by rw [k3]; omega⟩ (by omega)) (cwV 2 mts gX5_init_X5_cell0 rfl rfl rfl (by decide +kernel) ⟨Nat.le_of_ble_eq_true rfl, Nat.le_of_ble_eq_true rfl⟩) 0 wM_0 rfl rfl rfl rfl (Nat.le_of_ble_eq_true rfl) ⟨Nat.le_of_ble_eq_true rfl, Nat.le_of_ble_eq_true rfl⟩ dX5_init_87 (fun u87 hu87 => ?_)
    show Gz pp l ee ({ frames := 2, cells := 4, slots := 1116, locals := 43 } : Room) ss mm args below meth cd 1 4 1116 Q (Zw D vwCl (va_A wst sz) ss (wM y a (addCell (addCell (addCell (addCell (begun (zu (zu (zu (fun _ => 0) 4 3) 5 5) 7 20)) 0 2) 1 1) 3 1) 5 1) (fun _ => 0) (fun _ => 0) (fun _ => 0) 0 0 0 0)) 90 [(0, .ref (a 0))] []
    refine z_aload_n mx mb dX5_init_90 rfl 0 rfl ?_
    refine z_bipush mx mb dX5_init_91 (by decide +kernel) ?_
    refine z_iconst mx mb dX5_init_93 ?_
    have k4 : (addCell (addCell (addCell (addCell (begun (zu (zu (zu (fun _ => 0) 4 3) 5 5) 7 20)) 0 2) 1 1) 3 1) 5 1) 0 = 4 := by rw [addCell_0 (by rw [k3]; omega), k3]; rfl
    refine z_callV0 (As := [.int (iZ 7), .int (iZ 1)]) (rest := []) ⟨mx, mb, mml, mo, mts⟩ hK hA (fun sz => c_X5_cell0 l D sz y a (addCell (addCell (addCell (addCell (begun (zu (zu (zu (fun _ => 0) 4 3) 5 5) 7 20)) 0 2) 1 1) 3 1) 5 1) (fun _ => 0) (fun _ => 0) (fun _ => 0) 0 0 0 0 7 1 ⟨by rw [k4]; omega, by rw [k4]; omega⟩ (by omega)) (cwV 2 mts gX5_init_X5_cell0 rfl rfl rfl (by decide +kernel) ⟨Nat.le_of_ble_eq_true rfl, Nat.le_of_ble_eq_true rfl⟩) 0 wM_0 rfl rfl rfl rfl (Nat.le_of_ble_eq_true rfl) ⟨Nat.le_of_ble_eq_true rfl, Nat.le_of_ble_eq_true rfl⟩ dX5_init_94 (fun u94 hu94 => ?_)
    show Gz pp l ee ({ frames := 2, cells := 4, slots := 1116, locals := 43 } : Room) ss mm args below meth cd 1 4 1116 Q (Zw D vwCl (va_A wst sz) ss (wM y a (addCell (addCell (addCell (addCell (addCell (begun (zu (zu (zu (fun _ => 0) 4 3) 5 5) 7 20)) 0 2) 1 1) 3 1) 5 1) 7 1) (fun _ => 0) (fun _ => 0) (fun _ => 0) 0 0 0 0)) 97 [(0, .ref (a 0))] []
    refine z_aload_n mx mb dX5_init_97 rfl 0 rfl ?_
    refine z_bipush mx mb dX5_init_98 (by decide +kernel) ?_
    refine z_iconst mx mb dX5_init_100 ?_
    have k5 : (addCell (addCell (addCell (addCell (addCell (begun (zu (zu (zu (fun _ => 0) 4 3) 5 5) 7 20)) 0 2) 1 1) 3 1) 5 1) 7 1) 0 = 5 := by rw [addCell_0 (by rw [k4]; omega), k4]; rfl
    refine z_callV0 (As := [.int (iZ 7), .int (iZ 2)]) (rest := []) ⟨mx, mb, mml, mo, mts⟩ hK hA (fun sz => c_X5_cell0 l D sz y a (addCell (addCell (addCell (addCell (addCell (begun (zu (zu (zu (fun _ => 0) 4 3) 5 5) 7 20)) 0 2) 1 1) 3 1) 5 1) 7 1) (fun _ => 0) (fun _ => 0) (fun _ => 0) 0 0 0 0 7 2 ⟨by rw [k5]; omega, by rw [k5]; omega⟩ (by omega)) (cwV 2 mts gX5_init_X5_cell0 rfl rfl rfl (by decide +kernel) ⟨Nat.le_of_ble_eq_true rfl, Nat.le_of_ble_eq_true rfl⟩) 0 wM_0 rfl rfl rfl rfl (Nat.le_of_ble_eq_true rfl) ⟨Nat.le_of_ble_eq_true rfl, Nat.le_of_ble_eq_true rfl⟩ dX5_init_101 (fun u101 hu101 => ?_)
    show Gz pp l ee ({ frames := 2, cells := 4, slots := 1116, locals := 43 } : Room) ss mm args below meth cd 1 4 1116 Q (Zw D vwCl (va_A wst sz) ss (wM y a (addCell (addCell (addCell (addCell (addCell (addCell (begun (zu (zu (zu (fun _ => 0) 4 3) 5 5) 7 20)) 0 2) 1 1) 3 1) 5 1) 7 1) 7 2) (fun _ => 0) (fun _ => 0) (fun _ => 0) 0 0 0 0)) 104 [(0, .ref (a 0))] []
    refine z_aload_n mx mb dX5_init_104 rfl 0 rfl ?_
    refine z_iconst mx mb dX5_init_105 ?_
    refine z_iconst mx mb dX5_init_106 ?_
    have k6 : (addCell (addCell (addCell (addCell (addCell (addCell (begun (zu (zu (zu (fun _ => 0) 4 3) 5 5) 7 20)) 0 2) 1 1) 3 1) 5 1) 7 1) 7 2) 0 = 6 := by rw [addCell_0 (by rw [k5]; omega), k5]; rfl
    refine z_callV0 (As := [.int (iZ 4), .int (iZ 0)]) (rest := []) ⟨mx, mb, mml, mo, mts⟩ hK hA (fun sz => c_X5_cell0 l D sz y a (addCell (addCell (addCell (addCell (addCell (addCell (begun (zu (zu (zu (fun _ => 0) 4 3) 5 5) 7 20)) 0 2) 1 1) 3 1) 5 1) 7 1) 7 2) (fun _ => 0) (fun _ => 0) (fun _ => 0) 0 0 0 0 4 0 ⟨by rw [k6]; omega, by rw [k6]; omega⟩ (by omega)) (cwV 2 mts gX5_init_X5_cell0 rfl rfl rfl (by decide +kernel) ⟨Nat.le_of_ble_eq_true rfl, Nat.le_of_ble_eq_true rfl⟩) 0 wM_0 rfl rfl rfl rfl (Nat.le_of_ble_eq_true rfl) ⟨Nat.le_of_ble_eq_true rfl, Nat.le_of_ble_eq_true rfl⟩ dX5_init_107 (fun u107 hu107 => ?_)
    show Gz pp l ee ({ frames := 2, cells := 4, slots := 1116, locals := 43 } : Room) ss mm args below meth cd 1 4 1116 Q (Zw D vwCl (va_A wst sz) ss (wM y a (addCell (addCell (addCell (addCell (addCell (addCell (addCell (begun (zu (zu (zu (fun _ => 0) 4 3) 5 5) 7 20)) 0 2) 1 1) 3 1) 5 1) 7 1) 7 2) 4 0) (fun _ => 0) (fun _ => 0) (fun _ => 0) 0 0 0 0)) 110 [(0, .ref (a 0))] []
    refine z_aload_n mx mb dX5_init_110 rfl 0 rfl ?_
    refine z_iconst mx mb dX5_init_111 ?_
    refine z_iconst mx mb dX5_init_112 ?_
    have k7 : (addCell (addCell (addCell (addCell (addCell (addCell (addCell (begun (zu (zu (zu (fun _ => 0) 4 3) 5 5) 7 20)) 0 2) 1 1) 3 1) 5 1) 7 1) 7 2) 4 0) 0 = 7 := by rw [addCell_0 (by rw [k6]; omega), k6]; rfl
    refine z_callV0 (As := [.int (iZ 1), .int (iZ 0)]) (rest := []) ⟨mx, mb, mml, mo, mts⟩ hK hA (fun sz => c_X5_cell0 l D sz y a (addCell (addCell (addCell (addCell (addCell (addCell (addCell (begun (zu (zu (zu (fun _ => 0) 4 3) 5 5) 7 20)) 0 2) 1 1) 3 1) 5 1) 7 1) 7 2) 4 0) (fun _ => 0) (fun _ => 0) (fun _ => 0) 0 0 0 0 1 0 ⟨by rw [k7]; omega, by rw [k7]; omega⟩ (by omega)) (cwV 2 mts gX5_init_X5_cell0 rfl rfl rfl (by decide +kernel) ⟨Nat.le_of_ble_eq_true rfl, Nat.le_of_ble_eq_true rfl⟩) 0 wM_0 rfl rfl rfl rfl (Nat.le_of_ble_eq_true rfl) ⟨Nat.le_of_ble_eq_true rfl, Nat.le_of_ble_eq_true rfl⟩ dX5_init_113 (fun u113 hu113 => ?_)
    show Gz pp l ee ({ frames := 2, cells := 4, slots := 1116, locals := 43 } : Room) ss mm args below meth cd 1 4 1116 Q (Zw D vwCl (va_A wst sz) ss (wM y a (addCell (addCell (addCell (addCell (addCell (addCell (addCell (addCell (begun (zu (zu (zu (fun _ => 0) 4 3) 5 5) 7 20)) 0 2) 1 1) 3 1) 5 1) 7 1) 7 2) 4 0) 1 0) (fun _ => 0) (fun _ => 0) (fun _ => 0) 0 0 0 0)) 116 [(0, .ref (a 0))] []
    refine z_aload_n mx mb dX5_init_116 rfl 0 rfl ?_
    refine z_iconst mx mb dX5_init_117 ?_
    refine z_iconst mx mb dX5_init_118 ?_
    have k8 : (addCell (addCell (addCell (addCell (addCell (addCell (addCell (addCell (begun (zu (zu (zu (fun _ => 0) 4 3) 5 5) 7 20)) 0 2) 1 1) 3 1) 5 1) 7 1) 7 2) 4 0) 1 0) 0 = 8 := by rw [addCell_0 (by rw [k7]; omega), k7]; rfl
    refine z_callV0 (As := [.int (iZ 3), .int (iZ 0)]) (rest := []) ⟨mx, mb, mml, mo, mts⟩ hK hA (fun sz => c_X5_cell0 l D sz y a (addCell (addCell (addCell (addCell (addCell (addCell (addCell (addCell (begun (zu (zu (zu (fun _ => 0) 4 3) 5 5) 7 20)) 0 2) 1 1) 3 1) 5 1) 7 1) 7 2) 4 0) 1 0) (fun _ => 0) (fun _ => 0) (fun _ => 0) 0 0 0 0 3 0 ⟨by rw [k8]; omega, by rw [k8]; omega⟩ (by omega)) (cwV 2 mts gX5_init_X5_cell0 rfl rfl rfl (by decide +kernel) ⟨Nat.le_of_ble_eq_true rfl, Nat.le_of_ble_eq_true rfl⟩) 0 wM_0 rfl rfl rfl rfl (Nat.le_of_ble_eq_true rfl) ⟨Nat.le_of_ble_eq_true rfl, Nat.le_of_ble_eq_true rfl⟩ dX5_init_119 (fun u119 hu119 => ?_)
    show Gz pp l ee ({ frames := 2, cells := 4, slots := 1116, locals := 43 } : Room) ss mm args below meth cd 1 4 1116 Q (Zw D vwCl (va_A wst sz) ss (wM y a (addCell (addCell (addCell (addCell (addCell (addCell (addCell (addCell (addCell (begun (zu (zu (zu (fun _ => 0) 4 3) 5 5) 7 20)) 0 2) 1 1) 3 1) 5 1) 7 1) 7 2) 4 0) 1 0) 3 0) (fun _ => 0) (fun _ => 0) (fun _ => 0) 0 0 0 0)) 122 [(0, .ref (a 0))] []
    refine z_aload_n mx mb dX5_init_122 rfl 0 rfl ?_
    refine z_iconst mx mb dX5_init_123 ?_
    refine z_iconst mx mb dX5_init_124 ?_
    have k9 : (addCell (addCell (addCell (addCell (addCell (addCell (addCell (addCell (addCell (begun (zu (zu (zu (fun _ => 0) 4 3) 5 5) 7 20)) 0 2) 1 1) 3 1) 5 1) 7 1) 7 2) 4 0) 1 0) 3 0) 0 = 9 := by rw [addCell_0 (by rw [k8]; omega), k8]; rfl
    refine z_callV0 (As := [.int (iZ 2), .int (iZ 0)]) (rest := []) ⟨mx, mb, mml, mo, mts⟩ hK hA (fun sz => c_X5_cell0 l D sz y a (addCell (addCell (addCell (addCell (addCell (addCell (addCell (addCell (addCell (begun (zu (zu (zu (fun _ => 0) 4 3) 5 5) 7 20)) 0 2) 1 1) 3 1) 5 1) 7 1) 7 2) 4 0) 1 0) 3 0) (fun _ => 0) (fun _ => 0) (fun _ => 0) 0 0 0 0 2 0 ⟨by rw [k9]; omega, by rw [k9]; omega⟩ (by omega)) (cwV 2 mts gX5_init_X5_cell0 rfl rfl rfl (by decide +kernel) ⟨Nat.le_of_ble_eq_true rfl, Nat.le_of_ble_eq_true rfl⟩) 0 wM_0 rfl rfl rfl rfl (Nat.le_of_ble_eq_true rfl) ⟨Nat.le_of_ble_eq_true rfl, Nat.le_of_ble_eq_true rfl⟩ dX5_init_125 (fun u125 hu125 => ?_)
    show Gz pp l ee ({ frames := 2, cells := 4, slots := 1116, locals := 43 } : Room) ss mm args below meth cd 1 4 1116 Q (Zw D vwCl (va_A wst sz) ss (wM y a (addCell (addCell (addCell (addCell (addCell (addCell (addCell (addCell (addCell (addCell (begun (zu (zu (zu (fun _ => 0) 4 3) 5 5) 7 20)) 0 2) 1 1) 3 1) 5 1) 7 1) 7 2) 4 0) 1 0) 3 0) 2 0) (fun _ => 0) (fun _ => 0) (fun _ => 0) 0 0 0 0)) 128 [(0, .ref (a 0))] []
    refine z_aload_n mx mb dX5_init_128 rfl 0 rfl ?_
    refine z_iconst mx mb dX5_init_129 ?_
    refine z_iconst mx mb dX5_init_130 ?_
    have k10 : (addCell (addCell (addCell (addCell (addCell (addCell (addCell (addCell (addCell (addCell (begun (zu (zu (zu (fun _ => 0) 4 3) 5 5) 7 20)) 0 2) 1 1) 3 1) 5 1) 7 1) 7 2) 4 0) 1 0) 3 0) 2 0) 0 = 10 := by rw [addCell_0 (by rw [k9]; omega), k9]; rfl
    refine z_callV0 (As := [.int (iZ 4), .int (iZ 2)]) (rest := []) ⟨mx, mb, mml, mo, mts⟩ hK hA (fun sz => c_X5_cell0 l D sz y a (addCell (addCell (addCell (addCell (addCell (addCell (addCell (addCell (addCell (addCell (begun (zu (zu (zu (fun _ => 0) 4 3) 5 5) 7 20)) 0 2) 1 1) 3 1) 5 1) 7 1) 7 2) 4 0) 1 0) 3 0) 2 0) (fun _ => 0) (fun _ => 0) (fun _ => 0) 0 0 0 0 4 2 ⟨by rw [k10]; omega, by rw [k10]; omega⟩ (by omega)) (cwV 2 mts gX5_init_X5_cell0 rfl rfl rfl (by decide +kernel) ⟨Nat.le_of_ble_eq_true rfl, Nat.le_of_ble_eq_true rfl⟩) 0 wM_0 rfl rfl rfl rfl (Nat.le_of_ble_eq_true rfl) ⟨Nat.le_of_ble_eq_true rfl, Nat.le_of_ble_eq_true rfl⟩ dX5_init_131 (fun u131 hu131 => ?_)
    show Gz pp l ee ({ frames := 2, cells := 4, slots := 1116, locals := 43 } : Room) ss mm args below meth cd 1 4 1116 Q (Zw D vwCl (va_A wst sz) ss (wM y a (addCell (addCell (addCell (addCell (addCell (addCell (addCell (addCell (addCell (addCell (addCell (begun (zu (zu (zu (fun _ => 0) 4 3) 5 5) 7 20)) 0 2) 1 1) 3 1) 5 1) 7 1) 7 2) 4 0) 1 0) 3 0) 2 0) 4 2) (fun _ => 0) (fun _ => 0) (fun _ => 0) 0 0 0 0)) 134 [(0, .ref (a 0))] []
    refine z_aload_n mx mb dX5_init_134 rfl 0 rfl ?_
    refine z_iconst mx mb dX5_init_135 ?_
    refine z_iconst mx mb dX5_init_136 ?_
    have k11 : (addCell (addCell (addCell (addCell (addCell (addCell (addCell (addCell (addCell (addCell (addCell (begun (zu (zu (zu (fun _ => 0) 4 3) 5 5) 7 20)) 0 2) 1 1) 3 1) 5 1) 7 1) 7 2) 4 0) 1 0) 3 0) 2 0) 4 2) 0 = 11 := by rw [addCell_0 (by rw [k10]; omega), k10]; rfl
    refine z_callV0 (As := [.int (iZ 2), .int (iZ 0)]) (rest := []) ⟨mx, mb, mml, mo, mts⟩ hK hA (fun sz => c_X5_cell0 l D sz y a (addCell (addCell (addCell (addCell (addCell (addCell (addCell (addCell (addCell (addCell (addCell (begun (zu (zu (zu (fun _ => 0) 4 3) 5 5) 7 20)) 0 2) 1 1) 3 1) 5 1) 7 1) 7 2) 4 0) 1 0) 3 0) 2 0) 4 2) (fun _ => 0) (fun _ => 0) (fun _ => 0) 0 0 0 0 2 0 ⟨by rw [k11]; omega, by rw [k11]; omega⟩ (by omega)) (cwV 2 mts gX5_init_X5_cell0 rfl rfl rfl (by decide +kernel) ⟨Nat.le_of_ble_eq_true rfl, Nat.le_of_ble_eq_true rfl⟩) 0 wM_0 rfl rfl rfl rfl (Nat.le_of_ble_eq_true rfl) ⟨Nat.le_of_ble_eq_true rfl, Nat.le_of_ble_eq_true rfl⟩ dX5_init_137 (fun u137 hu137 => ?_)
    show Gz pp l ee ({ frames := 2, cells := 4, slots := 1116, locals := 43 } : Room) ss mm args below meth cd 1 4 1116 Q (Zw D vwCl (va_A wst sz) ss (wM y a (addCell (addCell (addCell (addCell (addCell (addCell (addCell (addCell (addCell (addCell (addCell (addCell (begun (zu (zu (zu (fun _ => 0) 4 3) 5 5) 7 20)) 0 2) 1 1) 3 1) 5 1) 7 1) 7 2) 4 0) 1 0) 3 0) 2 0) 4 2) 2 0) (fun _ => 0) (fun _ => 0) (fun _ => 0) 0 0 0 0)) 140 [(0, .ref (a 0))] []
    refine z_aload_n mx mb dX5_init_140 rfl 0 rfl ?_
    refine z_iconst mx mb dX5_init_141 ?_
    refine z_iconst mx mb dX5_init_142 ?_
    have k12 : (addCell (addCell (addCell (addCell (addCell (addCell (addCell (addCell (addCell (addCell (addCell (addCell (begun (zu (zu (zu (fun _ => 0) 4 3) 5 5) 7 20)) 0 2) 1 1) 3 1) 5 1) 7 1) 7 2) 4 0) 1 0) 3 0) 2 0) 4 2) 2 0) 0 = 12 := by rw [addCell_0 (by rw [k11]; omega), k11]; rfl
    refine z_callV0 (As := [.int (iZ 1), .int (iZ 0)]) (rest := []) ⟨mx, mb, mml, mo, mts⟩ hK hA (fun sz => c_X5_cell0 l D sz y a (addCell (addCell (addCell (addCell (addCell (addCell (addCell (addCell (addCell (addCell (addCell (addCell (begun (zu (zu (zu (fun _ => 0) 4 3) 5 5) 7 20)) 0 2) 1 1) 3 1) 5 1) 7 1) 7 2) 4 0) 1 0) 3 0) 2 0) 4 2) 2 0) (fun _ => 0) (fun _ => 0) (fun _ => 0) 0 0 0 0 1 0 ⟨by rw [k12]; omega, by rw [k12]; omega⟩ (by omega)) (cwV 2 mts gX5_init_X5_cell0 rfl rfl rfl (by decide +kernel) ⟨Nat.le_of_ble_eq_true rfl, Nat.le_of_ble_eq_true rfl⟩) 0 wM_0 rfl rfl rfl rfl (Nat.le_of_ble_eq_true rfl) ⟨Nat.le_of_ble_eq_true rfl, Nat.le_of_ble_eq_true rfl⟩ dX5_init_143 (fun u143 hu143 => ?_)
    show Gz pp l ee ({ frames := 2, cells := 4, slots := 1116, locals := 43 } : Room) ss mm args below meth cd 1 4 1116 Q (Zw D vwCl (va_A wst sz) ss (wM y a (addCell (addCell (addCell (addCell (addCell (addCell (addCell (addCell (addCell (addCell (addCell (addCell (addCell (begun (zu (zu (zu (fun _ => 0) 4 3) 5 5) 7 20)) 0 2) 1 1) 3 1) 5 1) 7 1) 7 2) 4 0) 1 0) 3 0) 2 0) 4 2) 2 0) 1 0) (fun _ => 0) (fun _ => 0) (fun _ => 0) 0 0 0 0)) 146 [(0, .ref (a 0))] []
    refine z_aload_n mx mb dX5_init_146 rfl 0 rfl ?_
    refine z_iconst mx mb dX5_init_147 ?_
    refine z_iconst mx mb dX5_init_148 ?_
    have k13 : (addCell (addCell (addCell (addCell (addCell (addCell (addCell (addCell (addCell (addCell (addCell (addCell (addCell (begun (zu (zu (zu (fun _ => 0) 4 3) 5 5) 7 20)) 0 2) 1 1) 3 1) 5 1) 7 1) 7 2) 4 0) 1 0) 3 0) 2 0) 4 2) 2 0) 1 0) 0 = 13 := by rw [addCell_0 (by rw [k12]; omega), k12]; rfl
    refine z_callV0 (As := [.int (iZ 0), .int (iZ 2)]) (rest := []) ⟨mx, mb, mml, mo, mts⟩ hK hA (fun sz => c_X5_cell0 l D sz y a (addCell (addCell (addCell (addCell (addCell (addCell (addCell (addCell (addCell (addCell (addCell (addCell (addCell (begun (zu (zu (zu (fun _ => 0) 4 3) 5 5) 7 20)) 0 2) 1 1) 3 1) 5 1) 7 1) 7 2) 4 0) 1 0) 3 0) 2 0) 4 2) 2 0) 1 0) (fun _ => 0) (fun _ => 0) (fun _ => 0) 0 0 0 0 0 2 ⟨by rw [k13]; omega, by rw [k13]; omega⟩ (by omega)) (cwV 2 mts gX5_init_X5_cell0 rfl rfl rfl (by decide +kernel) ⟨Nat.le_of_ble_eq_true rfl, Nat.le_of_ble_eq_true rfl⟩) 0 wM_0 rfl rfl rfl rfl (Nat.le_of_ble_eq_true rfl) ⟨Nat.le_of_ble_eq_true rfl, Nat.le_of_ble_eq_true rfl⟩ dX5_init_149 (fun u149 hu149 => ?_)
    show Gz pp l ee ({ frames := 2, cells := 4, slots := 1116, locals := 43 } : Room) ss mm args below meth cd 1 4 1116 Q (Zw D vwCl (va_A wst sz) ss (wM y a (addCell (addCell (addCell (addCell (addCell (addCell (addCell (addCell (addCell (addCell (addCell (addCell (addCell (addCell (begun (zu (zu (zu (fun _ => 0) 4 3) 5 5) 7 20)) 0 2) 1 1) 3 1) 5 1) 7 1) 7 2) 4 0) 1 0) 3 0) 2 0) 4 2) 2 0) 1 0) 0 2) (fun _ => 0) (fun _ => 0) (fun _ => 0) 0 0 0 0)) 152 [(0, .ref (a 0))] []
    rw [hQ]
    exact z_retV mx mb mr mlk hK (a, addCell (addCell (addCell (addCell (addCell (addCell (addCell (addCell (addCell (addCell (addCell (addCell (addCell (addCell (begun (zu (zu (zu (fun _ => 0) 4 3) 5 5) 7 20)) 0 2) 1 1) 3 1) 5 1) 7 1) 7 2) 4 0) 1 0) 3 0) 2 0) 4 2) 2 0) 1 0) 0 2) (by exact ⟨ea0.symm, f1_eq.symm⟩) rfl dX5_init_152
  subst hQ
  subst hw0
  exact hstart
