/-! The law from its entry to its end -/
set_option maxRecDepth 100000 in
set_option maxHeartbeats 4000000 in
theorem l_start {p : Program} {l : Launch} {e : Env} {s : State} {m : MethodId} {args : Array Value} {below : List Frame} {meth : Method} {c : Code} {b L : Nat} {xs : Nat → Int32} {D : va_G} {y : Nat → ClassId} {Q : State → Prop} (C : LC p l s m args meth c b L xs D y)
    (K : ∀ {o : Nat → Nat} {tb : Nat → Nat} {ob : Nat} {am : Nat → Nat} (a : Nat → Nat → Nat) (S : Nat → Nat → Int → Int) (x : Int → Int) (ln sm : Int) (g : Nat → Int64) (f sv ai : Int → Int) (th hh : Int) (i : Int), Gz p l e room_1 s m args below meth c 9 601024 7293034 Q (Zw D vwCl (fun q => s.heap.size ≤ q) s (LWd y o a S tb x ln sm ob g am f sv ai th hh)) 1257 (lv0 b o am ob i) []) : Gz p l e room_1 s m args below meth c 9 0 0 Q (Zw D vwCl (fun q => s.heap.size ≤ q) s ([] : va_W)) 0 [(0, .ref b)] [] := by
  obtain ⟨mx, mb, mml, mo, mts, hK, hE, hX, hbl, hl0, hL⟩ := id C
  have hA : ∀ q : Nat, s.heap.size ≤ q → (fun q : Nat => s.heap.size ≤ q) q := fun _ h => h
  refine z_new (ci := 4) (C := RX4) (T := TX4) (N := 5) mx mb mts inlX4 tyX4_ok mo (mts _ (List.mem_of_getElem? (i := 0) rfl)) (mts _ (List.mem_of_getElem? (i := 1) rfl)) (mts _ (List.mem_of_getElem? (i := 2) rfl)) hK hA rfl [.null, .null, .null, .null, .int (iZ 0)] (by decide) (Nat.le_of_ble_eq_true rfl) (Nat.le_of_ble_eq_true rfl) dL_law_0 (fun x0 => ?_)
  show Gz p l e room_1 s m args below meth c 9 1 5 Q (Zw D vwCl (fun q => s.heap.size ≤ q) s ([(x0, .inr (4, [.null, .null, .null, .null, .int (iZ 0)]))] : va_W)) 3 [(0, .ref b)] [.ref x0]
  refine z_dup mx mb dL_law_3 rfl ?_
  refine z_callCE (wa := []) (wc := ([(x0, .inr (4, [.null, .null, .null, .null, .int (iZ 0)]))] : va_W)) (wb := []) (As := []) (rest := [.ref x0]) ⟨mx, mb, mml, mo, mts⟩ hK hA hE (fun sz => c_X4_init l D sz y x0) (cwI 0 mts gL_law_X4_init rfl rfl rfl (mts _ (List.mem_of_getElem? (i := 2) rfl)) (mts _ (List.mem_of_getElem? (i := 7) rfl)) (mts _ (List.mem_of_getElem? (i := 8) rfl)) rfl (by decide +kernel) ⟨Nat.le_of_ble_eq_true rfl, Nat.le_of_ble_eq_true rfl⟩) (List.append_nil _).symm rfl rfl (Nat.le_of_ble_eq_true rfl) ⟨Nat.le_of_ble_eq_true rfl, Nat.le_of_ble_eq_true rfl⟩ dL_law_4 (fun u hu => ?_)
  obtain ⟨o, a, S, tb⟩ := u
  obtain ⟨h0, hRel⟩ := hu
  replace h0 : o 0 = x0 := h0
  replace hRel : Rel f1 (S 0) := hRel
  subst h0
  rw [List.append_nil]
  show Gz p l e room_1 s m args below meth c 9 96 1519 Q (Zw D vwCl (fun q => s.heap.size ≤ q) s (wBq y o a S tb (fun _ => 0) 0 0 (sav a) p6)) 7 [(0, .ref b)] [.ref (o 0)]
  refine z_astore_n mx mb dL_law_7 rfl (by decide) [(1, .ref (o 0)), (0, .ref b)] rfl ?_
  refine z_new (ci := 5) (C := RX5) (T := TX5) (N := 8) mx mb mts inlX5 tyX5_ok mo (mts _ (List.mem_of_getElem? (i := 3) rfl)) (mts _ (List.mem_of_getElem? (i := 4) rfl)) (mts _ (List.mem_of_getElem? (i := 5) rfl)) hK hA rfl [.null, .null, .null, .int (iZ 0), .null, .int (iZ 0), .int (iZ 0), .long (lZ 0)] (by decide) (Nat.le_of_ble_eq_true rfl) (Nat.le_of_ble_eq_true rfl) dL_law_8 (fun b5 => ?_)
  show Gz p l e room_1 s m args below meth c 9 97 1527 Q (Zw D vwCl (fun q => s.heap.size ≤ q) s (wBq y o a S tb (fun _ => 0) 0 0 (sav a) p6 ++ ([(b5, .inr (5, [.null, .null, .null, .int (iZ 0), .null, .int (iZ 0), .int (iZ 0), .long (lZ 0)]))] : va_W))) 11 [(1, .ref (o 0)), (0, .ref b)] [.ref b5]
  refine z_dup mx mb dL_law_11 rfl ?_
  refine z_callC (wa := wBq y o a S tb (fun _ => 0) 0 0 (sav a) p6) (wc := ([(b5, .inr (5, [.null, .null, .null, .int (iZ 0), .null, .int (iZ 0), .int (iZ 0), .long (lZ 0)]))] : va_W)) (wb := []) (As := []) (rest := [.ref b5]) ⟨mx, mb, mml, mo, mts⟩ hK hA (fun sz => c_X5_init l D sz y b5) (cwI 0 mts gL_law_X5_init rfl rfl rfl (mts _ (List.mem_of_getElem? (i := 5) rfl)) (mts _ (List.mem_of_getElem? (i := 148) rfl)) (mts _ (List.mem_of_getElem? (i := 149) rfl)) rfl (by decide +kernel) ⟨Nat.le_of_ble_eq_true rfl, Nat.le_of_ble_eq_true rfl⟩) (List.append_nil _).symm rfl rfl (Nat.le_of_ble_eq_true rfl) ⟨Nat.le_of_ble_eq_true rfl, Nat.le_of_ble_eq_true rfl⟩ dL_law_12 (fun u hu => ?_)
  obtain ⟨am, f⟩ := u
  obtain ⟨h0, hf⟩ := hu
  replace h0 : am 0 = b5 := h0
  replace hf : f = f1 := hf
  subst h0
  subst hf
  rw [List.append_nil]
  show Gz p l e room_1 s m args below meth c 9 101 2643 Q (Zw D vwCl (fun q => s.heap.size ≤ q) s (wBq y o a S tb (fun _ => 0) 0 0 (sav a) p6 ++ wM y am f1 (fun _ => 0) (fun _ => 0) (fun _ => 0) 0 0 0 0)) 15 [(1, .ref (o 0)), (0, .ref b)] [.ref (am 0)]
  refine z_astore_n mx mb dL_law_15 rfl (by decide) [(2, .ref (am 0)), (1, .ref (o 0)), (0, .ref b)] rfl ?_
  refine z_iconst mx mb dL_law_16 ?_
  refine z_newL mx mb (mts _ (List.mem_of_getElem? (i := 6) rfl)) hK hA 3 rfl (N := 1) rfl (by decide) (Nat.le_of_ble_eq_true rfl) (Nat.le_of_ble_eq_true rfl) dL_law_17 (fun ob => ?_)
  show Gz p l e room_1 s m args below meth c 9 102 2644 Q (Zw D vwCl (fun q => s.heap.size ≤ q) s ((wBq y o a S tb (fun _ => 0) 0 0 (sav a) p6 ++ wM y am f1 (fun _ => 0) (fun _ => 0) (fun _ => 0) 0 0 0 0) ++ wO1 y ob (fun _ => 0))) 19 [(2, .ref (am 0)), (1, .ref (o 0)), (0, .ref b)] [.ref ob]
  refine z_astore_n mx mb dL_law_19 rfl (by decide) [(3, .ref ob), (2, .ref (am 0)), (1, .ref (o 0)), (0, .ref b)] rfl ?_
  refine z_iconst mx mb dL_law_20 ?_
  refine z_istore mx mb dL_law_21 (by decide) [(4, .int (iZ 0)), (3, .ref ob), (2, .ref (am 0)), (1, .ref (o 0)), (0, .ref b)] rfl ?_
  refine z_lv [0, 4, 3, 2, 1] rfl ?_
  refine z_perm (w' := LWd y o a S tb (fun _ => 0) 0 0 ob (fun _ => 0) am f1 (fun _ => 0) (fun _ => 0) 0 0) ?_ ?_
  · show List.Perm _ ((wBq y o a S tb (fun _ => 0) 0 0 (sav a) p6 ++ wO1 y ob (fun _ => 0)) ++ wM y am f1 (fun _ => 0) (fun _ => 0) (fun _ => 0) 0 0 0 0)
    rw [List.append_assoc, List.append_assoc]
    exact List.Perm.append_left _ List.perm_append_comm
  · exact l_loop C (fun a S x ln sm g f sv ai th hh i => K a S x ln sm g f sv ai th hh i) (L + 1) a S (fun _ => 0) 0 0 (fun _ => 0) f1 (fun _ => 0) (fun _ => 0) 0 0 0 (by omega) (by omega) (by omega) (by omega) (by omega) (tie_new hRel)
