set_option maxRecDepth 100000 in
set_option maxHeartbeats 4000000 in
theorem lc_ticksToValley {p : Program} {l : Launch} {e : Env} {s : State} {m : MethodId} {args : Array Value} {below : List Frame} {meth : Method} {c : Code} {b L : Nat} {xs : Nat → Int32} {D : va_G} {y : Nat → ClassId} {Q : State → Prop} (C : LC p l s m args meth c b L xs D y) {o : Nat → Nat} {tb : Nat → Nat} {ob : Nat} {am : Nat → Nat} (a : Nat → Nat → Nat) (S : Nat → Nat → Int → Int) (x : Int → Int) (ln sm : Int) (g : Nat → Int64) (f sv ai : Int → Int) (th hh : Int) (i : Int) (hi : 0 ≤ i ∧ i + 2 < (L : Int)) {k n : Nat} (hk : k + 2 ≤ 601024) (hn : n + 7 ≤ 7293034) (hT : Tie f sv x sm ln S)
    (K : ∀ (a : Nat → Nat → Nat) (S : Nat → Nat → Int → Int) (x : Int → Int) (ln sm : Int) (g : Nat → Int64) (f sv ai : Int → Int) (th hh : Int), Tie f sv x sm ln S → Gz p l e room_1 s m args below meth c 9 (k + 1) (n + 6) Q (Zw D vwCl (fun q => s.heap.size ≤ q) s (LWd y o a S tb x ln sm ob g am f sv ai th hh)) 1251 (lv0 b o am ob i) []) : Gz p l e room_1 s m args below meth c 9 k n Q (Zw D vwCl (fun q => s.heap.size ≤ q) s (LWd y o a S tb x ln sm ob g am f sv ai th hh)) 932 (lv0 b o am ob i) [] := by
  obtain ⟨mx, mb, mml, mo, mts, hK, hE, hX, hbl, hl0, hL⟩ := C
  have hA : ∀ q : Nat, s.heap.size ≤ q → (fun q : Nat => s.heap.size ≤ q) q := fun _ h => h
  have hbA : ¬ (fun q : Nat => s.heap.size ≤ q) b := Nat.not_le.mpr hbl
  obtain ⟨⟨hR, hI, kp⟩, hsc, hTS, hl, htx⟩ := id hT
  have x1 := xsI_rng xs (i + 1)
  have x2 := xsI_rng xs (i + 2)
  show Gz p l e room_1 s m args below meth c 9 k n Q (Zw D vwCl (fun q => s.heap.size ≤ q) s ((wBq y o a S tb x ln sm (sav a) p6 ++ wO1 y ob g) ++ wM y am f sv ai x sm ln th hh)) 932 [(4, .int (iZ i)), (0, .ref b), (1, .ref (o 0)), (2, .ref (am 0)), (3, .ref ob)] []
  refine z_aload_n mx mb dL_law_932 rfl 2 rfl ?_
  refine z_callI (wa := []) (wc := wBq y o a S tb x ln sm (sav a) p6) (wb := (wO1 y ob g ++ wM y am f sv ai x sm ln th hh)) (As := []) (rest := []) ⟨mx, mb, mml, mo, mts⟩ hK hA (fun sz => c_X4_ticksToValley l D sz y o a S tb x ln sm f hR hI kp) (cwV 0 mts gL_law_X4_ticksToValley rfl rfl rfl (by decide +kernel) ⟨Nat.le_of_ble_eq_true rfl, Nat.le_of_ble_eq_true rfl⟩) (List.append_assoc _ _ _) 0 rfl rfl rfl rfl rfl (Nat.le_of_ble_eq_true rfl) ⟨by show _ ≤ 601024; omega, by show _ ≤ 7293034; omega⟩ dL_law_933 (fun r1 u1 hu1 => ?_)
  obtain ⟨hr1, v0⟩ := hu1
  have tie2 : Tie f sv x sm ln u1 := tie_trial hT v0
  obtain rfl : r1 = iZ (toValley f 2000) := hr1
  show Gz p l e room_1 s m args below meth c 9 (k) (n) Q (Zw D vwCl (fun q => s.heap.size ≤ q) s (wBq y o a u1 tb x ln sm (sav a) p6 ++ (wO1 y ob g ++ wM y am f sv ai x sm ln th hh))) 936 [(4, .int (iZ i)), (0, .ref b), (1, .ref (o 0)), (2, .ref (am 0)), (3, .ref ob)] [.int (iZ (toValley f 2000))]
  rw [← List.append_assoc]
  refine z_aload_n mx mb dL_law_936 rfl 3 rfl ?_
  refine z_callI (wa := (wBq y o a u1 tb x ln sm (sav a) p6 ++ wO1 y ob g)) (wc := wM y am f sv ai x sm ln th hh) (wb := []) (As := []) (rest := [.int (iZ (toValley f 2000))]) ⟨mx, mb, mml, mo, mts⟩ hK hA (fun sz => c_X5_ticksToValley l D sz y am f sv ai x sm ln th hh hI) (cwV 0 mts gL_law_X5_ticksToValley rfl rfl rfl (by decide +kernel) ⟨Nat.le_of_ble_eq_true rfl, Nat.le_of_ble_eq_true rfl⟩) (List.append_nil _).symm 95 rfl rfl rfl rfl rfl (Nat.le_of_ble_eq_true rfl) ⟨by show _ ≤ 601024; omega, by show _ ≤ 7293034; omega⟩ dL_law_937 (fun r2 u2 hu2 => ?_)
  obtain rfl : r2 = iZ (toValley f 2000) := hu2
  rw [List.append_nil]
  show Gz p l e room_1 s m args below meth c 9 (k) (n) Q (Zw D vwCl (fun q => s.heap.size ≤ q) s ((wBq y o a u1 tb x ln sm (sav a) p6 ++ wO1 y ob g) ++ wM y am f sv u2 x sm ln 0 hh)) 940 [(4, .int (iZ i)), (0, .ref b), (1, .ref (o 0)), (2, .ref (am 0)), (3, .ref ob)] [.int (iZ (toValley f 2000)), .int (iZ (toValley f 2000))]
  have q9 : -1 ≤ toValley f 2000 ∧ toValley f 2000 ≤ 2000 := toValley_rng f 2000
  have hrg : -2147483648 ≤ toValley f 2000 ∧ toValley f 2000 ≤ 2147483647 := by omega
  refine z_icmp_eq (tgt := 1251) mx mb hrg hrg dL_law_940 (by decide) (fun _ => ?_) (fun h => absurd rfl h)
  refine z_widen (k1 := k + 1) (n1 := n + 6) (by omega) (by omega) ?_
  exact K a u1 x ln sm g f sv u2 0 hh tie2

set_option maxRecDepth 100000 in
set_option maxHeartbeats 4000000 in
theorem lc_mostFriction {p : Program} {l : Launch} {e : Env} {s : State} {m : MethodId} {args : Array Value} {below : List Frame} {meth : Method} {c : Code} {b L : Nat} {xs : Nat → Int32} {D : va_G} {y : Nat → ClassId} {Q : State → Prop} (C : LC p l s m args meth c b L xs D y) {o : Nat → Nat} {tb : Nat → Nat} {ob : Nat} {am : Nat → Nat} (a : Nat → Nat → Nat) (S : Nat → Nat → Int → Int) (x : Int → Int) (ln sm : Int) (g : Nat → Int64) (f sv ai : Int → Int) (th hh : Int) (i : Int) (hi : 0 ≤ i ∧ i + 2 < (L : Int)) {k n : Nat} (hk : k + 2 ≤ 601024) (hn : n + 7 ≤ 7293034) (hT : Tie f sv x sm ln S)
    (K : ∀ (a : Nat → Nat → Nat) (S : Nat → Nat → Int → Int) (x : Int → Int) (ln sm : Int) (g : Nat → Int64) (f sv ai : Int → Int) (th hh : Int), Tie f sv x sm ln S → Gz p l e room_1 s m args below meth c 9 (k + 1) (n + 6) Q (Zw D vwCl (fun q => s.heap.size ≤ q) s (LWd y o a S tb x ln sm ob g am f sv ai th hh)) 1251 (lv0 b o am ob i) []) : Gz p l e room_1 s m args below meth c 9 k n Q (Zw D vwCl (fun q => s.heap.size ≤ q) s (LWd y o a S tb x ln sm ob g am f sv ai th hh)) 1001 (lv0 b o am ob i) [] := by
  obtain ⟨mx, mb, mml, mo, mts, hK, hE, hX, hbl, hl0, hL⟩ := C
  have hA : ∀ q : Nat, s.heap.size ≤ q → (fun q : Nat => s.heap.size ≤ q) q := fun _ h => h
  have hbA : ¬ (fun q : Nat => s.heap.size ≤ q) b := Nat.not_le.mpr hbl
  obtain ⟨⟨hR, hI, kp⟩, hsc, hTS, hl, htx⟩ := id hT
  have x1 := xsI_rng xs (i + 1)
  have x2 := xsI_rng xs (i + 2)
  show Gz p l e room_1 s m args below meth c 9 k n Q (Zw D vwCl (fun q => s.heap.size ≤ q) s ((wBq y o a S tb x ln sm (sav a) p6 ++ wO1 y ob g) ++ wM y am f sv ai x sm ln th hh)) 1001 [(4, .int (iZ i)), (0, .ref b), (1, .ref (o 0)), (2, .ref (am 0)), (3, .ref ob)] []
  refine z_aload_n mx mb dL_law_1001 rfl 2 rfl ?_
  refine z_callIE (wa := []) (wc := wBq y o a S tb x ln sm (sav a) p6) (wb := (wO1 y ob g ++ wM y am f sv ai x sm ln th hh)) (As := []) (rest := []) ⟨mx, mb, mml, mo, mts⟩ hK hA hE (fun sz => c_X4_mostFriction l D sz y o a S tb x ln sm f hR hI kp) (cwV 0 mts gL_law_X4_mostFriction rfl rfl rfl (by decide +kernel) ⟨Nat.le_of_ble_eq_true rfl, Nat.le_of_ble_eq_true rfl⟩) (List.append_assoc _ _ _) 0 rfl rfl rfl rfl rfl (Nat.le_of_ble_eq_true rfl) ⟨by show _ ≤ 601024; omega, by show _ ≤ 7293034; omega⟩ dL_law_1002 (fun r1 u1 hu1 => ?_)
  obtain ⟨hr1, v0⟩ := hu1
  have tie2 : Tie f sv x sm ln u1 := tie_trial hT v0
  obtain rfl : r1 = iZ (mostF f 21) := hr1
  show Gz p l e room_1 s m args below meth c 9 (k) (n) Q (Zw D vwCl (fun q => s.heap.size ≤ q) s (wBq y o a u1 tb x ln sm (sav a) p6 ++ (wO1 y ob g ++ wM y am f sv ai x sm ln th hh))) 1005 [(4, .int (iZ i)), (0, .ref b), (1, .ref (o 0)), (2, .ref (am 0)), (3, .ref ob)] [.int (iZ (mostF f 21))]
  rw [← List.append_assoc]
  refine z_aload_n mx mb dL_law_1005 rfl 3 rfl ?_
  refine z_callI (wa := (wBq y o a u1 tb x ln sm (sav a) p6 ++ wO1 y ob g)) (wc := wM y am f sv ai x sm ln th hh) (wb := []) (As := []) (rest := [.int (iZ (mostF f 21))]) ⟨mx, mb, mml, mo, mts⟩ hK hA (fun sz => c_X5_mostFriction l D sz y am f sv ai x sm ln th hh hI) (cwV 0 mts gL_law_X5_mostFriction rfl rfl rfl (by decide +kernel) ⟨Nat.le_of_ble_eq_true rfl, Nat.le_of_ble_eq_true rfl⟩) (List.append_nil _).symm 95 rfl rfl rfl rfl rfl (Nat.le_of_ble_eq_true rfl) ⟨by show _ ≤ 601024; omega, by show _ ≤ 7293034; omega⟩ dL_law_1006 (fun r2 u2 hu2 => ?_)
  obtain rfl : r2 = iZ (mostF f 21) := hu2
  rw [List.append_nil]
  show Gz p l e room_1 s m args below meth c 9 (k) (n) Q (Zw D vwCl (fun q => s.heap.size ≤ q) s ((wBq y o a u1 tb x ln sm (sav a) p6 ++ wO1 y ob g) ++ wM y am f sv u2 x sm ln 0 hh)) 1009 [(4, .int (iZ i)), (0, .ref b), (1, .ref (o 0)), (2, .ref (am 0)), (3, .ref ob)] [.int (iZ (mostF f 21)), .int (iZ (mostF f 21))]
  have q9 : ∀ j : Nat, j ≤ 21 → -1 ≤ mostF f j ∧ mostF f j ≤ 20 := fun j => by
    induction j with
    | zero => intro _; show -1 ≤ (-1 : Int) ∧ (-1 : Int) ≤ 20; omega
    | succ j ih => intro hj; have := ih (by omega); rw [mostF]; split <;> (try split) <;> omega
  have q8 := q9 21 (by omega)
  have hrg : -2147483648 ≤ mostF f 21 ∧ mostF f 21 ≤ 2147483647 := by omega
  refine z_icmp_eq (tgt := 1251) mx mb hrg hrg dL_law_1009 (by decide) (fun _ => ?_) (fun h => absurd rfl h)
  refine z_widen (k1 := k + 1) (n1 := n + 6) (by omega) (by omega) ?_
  exact K a u1 x ln sm g f sv u2 0 hh tie2

set_option maxRecDepth 100000 in
set_option maxHeartbeats 4000000 in
theorem lc_clearText {p : Program} {l : Launch} {e : Env} {s : State} {m : MethodId} {args : Array Value} {below : List Frame} {meth : Method} {c : Code} {b L : Nat} {xs : Nat → Int32} {D : va_G} {y : Nat → ClassId} {Q : State → Prop} (C : LC p l s m args meth c b L xs D y) {o : Nat → Nat} {tb : Nat → Nat} {ob : Nat} {am : Nat → Nat} (a : Nat → Nat → Nat) (S : Nat → Nat → Int → Int) (x : Int → Int) (ln sm : Int) (g : Nat → Int64) (f sv ai : Int → Int) (th hh : Int) (i : Int) (hi : 0 ≤ i ∧ i + 2 < (L : Int)) {k n : Nat} (hk : k + 2 ≤ 601024) (hn : n + 7 ≤ 7293034) (hT : Tie f sv x sm ln S)
    (K : ∀ (a : Nat → Nat → Nat) (S : Nat → Nat → Int → Int) (x : Int → Int) (ln sm : Int) (g : Nat → Int64) (f sv ai : Int → Int) (th hh : Int), Tie f sv x sm ln S → Gz p l e room_1 s m args below meth c 9 (k + 1) (n + 6) Q (Zw D vwCl (fun q => s.heap.size ≤ q) s (LWd y o a S tb x ln sm ob g am f sv ai th hh)) 1251 (lv0 b o am ob i) []) : Gz p l e room_1 s m args below meth c 9 k n Q (Zw D vwCl (fun q => s.heap.size ≤ q) s (LWd y o a S tb x ln sm ob g am f sv ai th hh)) 1167 (lv0 b o am ob i) [] := by
  obtain ⟨mx, mb, mml, mo, mts, hK, hE, hX, hbl, hl0, hL⟩ := C
  have hA : ∀ q : Nat, s.heap.size ≤ q → (fun q : Nat => s.heap.size ≤ q) q := fun _ h => h
  have hbA : ¬ (fun q : Nat => s.heap.size ≤ q) b := Nat.not_le.mpr hbl
  obtain ⟨⟨hR, hI, kp⟩, hsc, hTS, hl, htx⟩ := id hT
  have x1 := xsI_rng xs (i + 1)
  have x2 := xsI_rng xs (i + 2)
  show Gz p l e room_1 s m args below meth c 9 k n Q (Zw D vwCl (fun q => s.heap.size ≤ q) s ((wBq y o a S tb x ln sm (sav a) p6 ++ wO1 y ob g) ++ wM y am f sv ai x sm ln th hh)) 1167 [(4, .int (iZ i)), (0, .ref b), (1, .ref (o 0)), (2, .ref (am 0)), (3, .ref ob)] []
  refine z_aload_n mx mb dL_law_1167 rfl 2 rfl ?_
  refine z_callI (wa := []) (wc := wBq y o a S tb x ln sm (sav a) p6) (wb := (wO1 y ob g ++ wM y am f sv ai x sm ln th hh)) (As := []) (rest := []) ⟨mx, mb, mml, mo, mts⟩ hK hA (fun sz => c_X4_clearText l D sz y o a S tb x ln sm f) (cwV 0 mts gL_law_X4_clearText rfl rfl rfl (by decide +kernel) ⟨Nat.le_of_ble_eq_true rfl, Nat.le_of_ble_eq_true rfl⟩) (List.append_assoc _ _ _) 0 rfl rfl rfl rfl rfl (Nat.le_of_ble_eq_true rfl) ⟨by show _ ≤ 601024; omega, by show _ ≤ 7293034; omega⟩ dL_law_1168 (fun r1 u1 hu1 => ?_)
  have tie2 : Tie f sv x sm 0 S := tie_text hT (by omega) htx
  obtain rfl : r1 = iZ ln := hu1
  show Gz p l e room_1 s m args below meth c 9 (k) (n) Q (Zw D vwCl (fun q => s.heap.size ≤ q) s (wBq y o a S tb x 0 sm (sav a) p6 ++ (wO1 y ob g ++ wM y am f sv ai x sm ln th hh))) 1171 [(4, .int (iZ i)), (0, .ref b), (1, .ref (o 0)), (2, .ref (am 0)), (3, .ref ob)] [.int (iZ ln)]
  rw [← List.append_assoc]
  refine z_aload_n mx mb dL_law_1171 rfl 3 rfl ?_
  refine z_callI (wa := (wBq y o a S tb x 0 sm (sav a) p6 ++ wO1 y ob g)) (wc := wM y am f sv ai x sm ln th hh) (wb := []) (As := []) (rest := [.int (iZ ln)]) ⟨mx, mb, mml, mo, mts⟩ hK hA (fun sz => c_X5_clearText l D sz y am f sv ai x sm ln th hh hl) (cwV 0 mts gL_law_X5_clearText rfl rfl rfl (by decide +kernel) ⟨Nat.le_of_ble_eq_true rfl, Nat.le_of_ble_eq_true rfl⟩) (List.append_nil _).symm 95 rfl rfl rfl rfl rfl (Nat.le_of_ble_eq_true rfl) ⟨by show _ ≤ 601024; omega, by show _ ≤ 7293034; omega⟩ dL_law_1172 (fun r2 u2 hu2 => ?_)
  obtain rfl : r2 = iZ ln := hu2
  rw [List.append_nil]
  show Gz p l e room_1 s m args below meth c 9 (k) (n) Q (Zw D vwCl (fun q => s.heap.size ≤ q) s ((wBq y o a S tb x 0 sm (sav a) p6 ++ wO1 y ob g) ++ wM y am f sv ai x sm 0 0 hh)) 1175 [(4, .int (iZ i)), (0, .ref b), (1, .ref (o 0)), (2, .ref (am 0)), (3, .ref ob)] [.int (iZ ln), .int (iZ ln)]
  have hrg : -2147483648 ≤ ln ∧ ln ≤ 2147483647 := by omega
  refine z_icmp_eq (tgt := 1251) mx mb hrg hrg dL_law_1175 (by decide) (fun _ => ?_) (fun h => absurd rfl h)
  refine z_widen (k1 := k + 1) (n1 := n + 6) (by omega) (by omega) ?_
  exact K a S x 0 sm g f sv ai 0 hh tie2

set_option maxRecDepth 100000 in
set_option maxHeartbeats 4000000 in
theorem lc_parse {p : Program} {l : Launch} {e : Env} {s : State} {m : MethodId} {args : Array Value} {below : List Frame} {meth : Method} {c : Code} {b L : Nat} {xs : Nat → Int32} {D : va_G} {y : Nat → ClassId} {Q : State → Prop} (C : LC p l s m args meth c b L xs D y) {o : Nat → Nat} {tb : Nat → Nat} {ob : Nat} {am : Nat → Nat} (a : Nat → Nat → Nat) (S : Nat → Nat → Int → Int) (x : Int → Int) (ln sm : Int) (g : Nat → Int64) (f sv ai : Int → Int) (th hh : Int) (i : Int) (hi : 0 ≤ i ∧ i + 2 < (L : Int)) {k n : Nat} (hk : k + 2 ≤ 601024) (hn : n + 7 ≤ 7293034) (hT : Tie f sv x sm ln S)
    (K : ∀ (a : Nat → Nat → Nat) (S : Nat → Nat → Int → Int) (x : Int → Int) (ln sm : Int) (g : Nat → Int64) (f sv ai : Int → Int) (th hh : Int), Tie f sv x sm ln S → Gz p l e room_1 s m args below meth c 9 (k + 1) (n + 6) Q (Zw D vwCl (fun q => s.heap.size ≤ q) s (LWd y o a S tb x ln sm ob g am f sv ai th hh)) 1251 (lv0 b o am ob i) []) : Gz p l e room_1 s m args below meth c 9 k n Q (Zw D vwCl (fun q => s.heap.size ≤ q) s (LWd y o a S tb x ln sm ob g am f sv ai th hh)) 1180 (lv0 b o am ob i) [] := by
  obtain ⟨mx, mb, mml, mo, mts, hK, hE, hX, hbl, hl0, hL⟩ := C
  have hA : ∀ q : Nat, s.heap.size ≤ q → (fun q : Nat => s.heap.size ≤ q) q := fun _ h => h
  have hbA : ¬ (fun q : Nat => s.heap.size ≤ q) b := Nat.not_le.mpr hbl
  obtain ⟨⟨hR, hI, kp⟩, hsc, hTS, hl, htx⟩ := id hT
  have x1 := xsI_rng xs (i + 1)
  have x2 := xsI_rng xs (i + 2)
  show Gz p l e room_1 s m args below meth c 9 k n Q (Zw D vwCl (fun q => s.heap.size ≤ q) s ((wBq y o a S tb x ln sm (sav a) p6 ++ wO1 y ob g) ++ wM y am f sv ai x sm ln th hh)) 1180 [(4, .int (iZ i)), (0, .ref b), (1, .ref (o 0)), (2, .ref (am 0)), (3, .ref ob)] []
  refine z_aload_n mx mb dL_law_1180 rfl 2 rfl ?_
  have fr := fault_rng (x := x) hl
  have rest9 : ∀ (a2 : Nat → Nat → Nat) (S2 : Nat → Nat → Int → Int), Tie (if fault x ln = -1 then parsed f x (ln / 2).toNat else f) (if fault x ln = -1 then svS sv f sm else sv) x (if fault x ln = -1 then smS sm else sm) ln S2 → Gz p l e room_1 s m args below meth c 9 (k) (n) Q (Zw D vwCl (fun q => s.heap.size ≤ q) s ((wBq y o a2 S2 tb x ln (if fault x ln = -1 then smS sm else sm) (sav a2) p6 ++ wO1 y ob g) ++ wM y am f sv ai x sm ln th hh)) 1184 [(4, .int (iZ i)), (0, .ref b), (1, .ref (o 0)), (2, .ref (am 0)), (3, .ref ob)] [.int (iZ (if fault x ln = -1 then ln / 2 else -10 - fault x ln))] := by
    intro a2 S2 tie2
    refine z_aload_n mx mb dL_law_1184 rfl 3 rfl ?_
    refine z_callI (wa := (wBq y o a2 S2 tb x ln (if fault x ln = -1 then smS sm else sm) (sav a2) p6 ++ wO1 y ob g)) (wc := wM y am f sv ai x sm ln th hh) (wb := []) (As := []) (rest := [.int (iZ (if fault x ln = -1 then ln / 2 else -10 - fault x ln))]) ⟨mx, mb, mml, mo, mts⟩ hK hA (fun sz => c_X5_parse l D sz y am f sv ai x sm ln th hh hI hsc hl htx) (cwV 0 mts gL_law_X5_parse rfl rfl rfl (by decide +kernel) ⟨Nat.le_of_ble_eq_true rfl, Nat.le_of_ble_eq_true rfl⟩) (List.append_nil _).symm 95 rfl rfl rfl rfl rfl (Nat.le_of_ble_eq_true rfl) ⟨by show _ ≤ 601024; omega, by show _ ≤ 7293034; omega⟩ dL_law_1185 (fun r2 u2 hu2 => ?_)
    obtain rfl : r2 = iZ (if fault x ln = -1 then ln / 2 else -10 - fault x ln) := hu2
    rw [List.append_nil]
    show Gz p l e room_1 s m args below meth c 9 (k) (n) Q (Zw D vwCl (fun q => s.heap.size ≤ q) s ((wBq y o a2 S2 tb x ln (if fault x ln = -1 then smS sm else sm) (sav a2) p6 ++ wO1 y ob g) ++ wM y am (if fault x ln = -1 then parsed f x (ln / 2).toNat else f) (if fault x ln = -1 then svS sv f sm else sv) ai x (if fault x ln = -1 then smS sm else sm) ln 0 hh)) 1188 [(4, .int (iZ i)), (0, .ref b), (1, .ref (o 0)), (2, .ref (am 0)), (3, .ref ob)] [.int (iZ (if fault x ln = -1 then ln / 2 else -10 - fault x ln)), .int (iZ (if fault x ln = -1 then ln / 2 else -10 - fault x ln))]
    have hrg : -2147483648 ≤ (if fault x ln = -1 then ln / 2 else -10 - fault x ln) ∧ (if fault x ln = -1 then ln / 2 else -10 - fault x ln) ≤ 2147483647 := by split <;> omega
    refine z_icmp_eq (tgt := 1251) mx mb hrg hrg dL_law_1188 (by decide) (fun _ => ?_) (fun h => absurd rfl h)
    refine z_widen (k1 := k + 1) (n1 := n + 6) (by omega) (by omega) ?_
    exact K a2 S2 x ln (if fault x ln = -1 then smS sm else sm) g (if fault x ln = -1 then parsed f x (ln / 2).toNat else f) (if fault x ln = -1 then svS sv f sm else sv) ai 0 hh tie2
  by_cases hft : fault x ln = -1
  · obtain ⟨q1, q2, q3, q4, q5⟩ := fault_ok hl hft
    have e2n : ln.toNat = 2 * (ln / 2).toNat := by omega
    rw [e2n] at q4 q5
    refine z_callI (wa := []) (wc := wBq y o a S tb x ln sm (sav a) p6) (wb := (wO1 y ob g ++ wM y am f sv ai x sm ln th hh)) (As := []) (rest := []) ⟨mx, mb, mml, mo, mts⟩ hK hA (fun sz => c_X4_parse l D sz y o a S tb x ln sm f hR hI kp hsc hl htx hft) (cwV 0 mts gL_law_X4_parse rfl rfl rfl (by decide +kernel) ⟨Nat.le_of_ble_eq_true rfl, Nat.le_of_ble_eq_true rfl⟩) (List.append_assoc _ _ _) 0 rfl rfl rfl rfl rfl (Nat.le_of_ble_eq_true rfl) ⟨by show _ ≤ 601024; omega, by show _ ≤ 7293034; omega⟩ dL_law_1181 (fun r1 u1 hu1 => ?_)
    obtain ⟨a2, S2⟩ := u1
    obtain ⟨hr, v0, v1, v2, v3, v4⟩ := hu1
    have tie2 := tie_save (g := parsed f x (ln / 2).toNat) hT v2 (parsed_keep hI (by omega) (by omega) q5 (by omega) q4) v3 v4
    obtain rfl : r1 = iZ (ln / 2) := hr
    have r9 := rest9 a2 S2 (by rw [if_pos hft, if_pos hft, if_pos hft]; exact tie2)
    rw [if_pos hft, if_pos hft] at r9
    rw [List.append_assoc] at r9
    exact r9
  · refine z_callI (wa := []) (wc := wBq y o a S tb x ln sm (sav a) p6) (wb := (wO1 y ob g ++ wM y am f sv ai x sm ln th hh)) (As := []) (rest := []) ⟨mx, mb, mml, mo, mts⟩ hK hA (fun sz => c_X4_parse_bad l D sz y o a S tb x ln sm f hl htx hft) (cwV 0 mts gL_law_X4_parse rfl rfl rfl (by decide +kernel) ⟨Nat.le_of_ble_eq_true rfl, Nat.le_of_ble_eq_true rfl⟩) (List.append_assoc _ _ _) 0 rfl rfl rfl rfl rfl (Nat.le_of_ble_eq_true rfl) ⟨by show _ ≤ 601024; omega, by show _ ≤ 7293034; omega⟩ dL_law_1181 (fun r1 u1 hu1 => ?_)
    obtain rfl : r1 = iZ (-10 - fault x ln) := hu1
    have r9 := rest9 a S (by rw [if_neg hft, if_neg hft, if_neg hft]; exact hT)
    rw [if_neg hft, if_neg hft] at r9
    rw [List.append_assoc] at r9
    exact r9

set_option maxRecDepth 100000 in
set_option maxHeartbeats 4000000 in
theorem lc_digest {p : Program} {l : Launch} {e : Env} {s : State} {m : MethodId} {args : Array Value} {below : List Frame} {meth : Method} {c : Code} {b L : Nat} {xs : Nat → Int32} {D : va_G} {y : Nat → ClassId} {Q : State → Prop} (C : LC p l s m args meth c b L xs D y) {o : Nat → Nat} {tb : Nat → Nat} {ob : Nat} {am : Nat → Nat} (a : Nat → Nat → Nat) (S : Nat → Nat → Int → Int) (x : Int → Int) (ln sm : Int) (g : Nat → Int64) (f sv ai : Int → Int) (th hh : Int) (i : Int) (hi : 0 ≤ i ∧ i + 2 < (L : Int)) {k n : Nat} (hk : k + 2 ≤ 601024) (hn : n + 7 ≤ 7293034) (hT : Tie f sv x sm ln S)
    (K : ∀ (a : Nat → Nat → Nat) (S : Nat → Nat → Int → Int) (x : Int → Int) (ln sm : Int) (g : Nat → Int64) (f sv ai : Int → Int) (th hh : Int), Tie f sv x sm ln S → Gz p l e room_1 s m args below meth c 9 (k + 1) (n + 6) Q (Zw D vwCl (fun q => s.heap.size ≤ q) s (LWd y o a S tb x ln sm ob g am f sv ai th hh)) 1251 (lv0 b o am ob i) []) : Gz p l e room_1 s m args below meth c 9 k n Q (Zw D vwCl (fun q => s.heap.size ≤ q) s (LWd y o a S tb x ln sm ob g am f sv ai th hh)) 1237 (lv0 b o am ob i) [] := by
  obtain ⟨mx, mb, mml, mo, mts, hK, hE, hX, hbl, hl0, hL⟩ := C
  have hA : ∀ q : Nat, s.heap.size ≤ q → (fun q : Nat => s.heap.size ≤ q) q := fun _ h => h
  have hbA : ¬ (fun q : Nat => s.heap.size ≤ q) b := Nat.not_le.mpr hbl
  obtain ⟨⟨hR, hI, kp⟩, hsc, hTS, hl, htx⟩ := id hT
  have x1 := xsI_rng xs (i + 1)
  have x2 := xsI_rng xs (i + 2)
  show Gz p l e room_1 s m args below meth c 9 k n Q (Zw D vwCl (fun q => s.heap.size ≤ q) s ((wBq y o a S tb x ln sm (sav a) p6 ++ wO1 y ob g) ++ wM y am f sv ai x sm ln th hh)) 1237 [(4, .int (iZ i)), (0, .ref b), (1, .ref (o 0)), (2, .ref (am 0)), (3, .ref ob)] []
  refine z_aload_n mx mb dL_law_1237 rfl 2 rfl ?_
  refine z_callL (wa := []) (wc := wBq y o a S tb x ln sm (sav a) p6) (wb := (wO1 y ob g ++ wM y am f sv ai x sm ln th hh)) (As := []) (rest := []) ⟨mx, mb, mml, mo, mts⟩ hK hA (fun sz => c_X4_digest l D sz y o a S tb x ln sm f hR hI kp) (cwV 0 mts gL_law_X4_digest rfl rfl rfl (by decide +kernel) ⟨Nat.le_of_ble_eq_true rfl, Nat.le_of_ble_eq_true rfl⟩) (List.append_assoc _ _ _) 0 rfl rfl rfl rfl rfl (Nat.le_of_ble_eq_true rfl) ⟨by show _ ≤ 601024; omega, by show _ ≤ 7293034; omega⟩ dL_law_1238 (fun r1 u1 hu1 => ?_)
  obtain ⟨hr1, v0⟩ := hu1
  have tie2 : Tie f sv x sm ln u1 := tie_trial hT v0
  obtain rfl : r1 = lZ (dg f ln sm) := hr1
  show Gz p l e room_1 s m args below meth c 9 (k) (n) Q (Zw D vwCl (fun q => s.heap.size ≤ q) s (wBq y o a u1 tb x ln sm (sav a) p6 ++ (wO1 y ob g ++ wM y am f sv ai x sm ln th hh))) 1241 [(4, .int (iZ i)), (0, .ref b), (1, .ref (o 0)), (2, .ref (am 0)), (3, .ref ob)] [.long (lZ (dg f ln sm))]
  rw [← List.append_assoc]
  refine z_aload_n mx mb dL_law_1241 rfl 3 rfl ?_
  refine z_callL (wa := (wBq y o a u1 tb x ln sm (sav a) p6 ++ wO1 y ob g)) (wc := wM y am f sv ai x sm ln th hh) (wb := []) (As := []) (rest := [.long (lZ (dg f ln sm))]) ⟨mx, mb, mml, mo, mts⟩ hK hA (fun sz => c_X5_digest l D sz y am f sv ai x sm ln th hh hI hsc hl) (cwV 0 mts gL_law_X5_digest rfl rfl rfl (by decide +kernel) ⟨Nat.le_of_ble_eq_true rfl, Nat.le_of_ble_eq_true rfl⟩) (List.append_nil _).symm 95 rfl rfl rfl rfl rfl (Nat.le_of_ble_eq_true rfl) ⟨by show _ ≤ 601024; omega, by show _ ≤ 7293034; omega⟩ dL_law_1242 (fun r2 u2 hu2 => ?_)
  obtain rfl : r2 = lZ (dg f ln sm) := hu2
  rw [List.append_nil]
  show Gz p l e room_1 s m args below meth c 9 (k) (n) Q (Zw D vwCl (fun q => s.heap.size ≤ q) s ((wBq y o a u1 tb x ln sm (sav a) p6 ++ wO1 y ob g) ++ wM y am f sv u2 x sm ln 0 (dg f ln sm))) 1245 [(4, .int (iZ i)), (0, .ref b), (1, .ref (o 0)), (2, .ref (am 0)), (3, .ref ob)] [.long (lZ (dg f ln sm)), .long (lZ (dg f ln sm))]
  refine z_lcmp0 mx mb rfl dL_law_1245 ?_
  refine z_if_eq (tgt := 1251) mx mb (by decide) dL_law_1246 (by decide) (fun _ => ?_) (fun h => absurd rfl h)
  refine z_widen (k1 := k + 1) (n1 := n + 6) (by omega) (by omega) ?_
  exact K a u1 x ln sm g f sv u2 0 (dg f ln sm) tie2

set_option maxRecDepth 100000 in
set_option maxHeartbeats 4000000 in
theorem lc_meanWarmth {p : Program} {l : Launch} {e : Env} {s : State} {m : MethodId} {args : Array Value} {below : List Frame} {meth : Method} {c : Code} {b L : Nat} {xs : Nat → Int32} {D : va_G} {y : Nat → ClassId} {Q : State → Prop} (C : LC p l s m args meth c b L xs D y) {o : Nat → Nat} {tb : Nat → Nat} {ob : Nat} {am : Nat → Nat} (a : Nat → Nat → Nat) (S : Nat → Nat → Int → Int) (x : Int → Int) (ln sm : Int) (g : Nat → Int64) (f sv ai : Int → Int) (th hh : Int) (i : Int) (hi : 0 ≤ i ∧ i + 2 < (L : Int)) {k n : Nat} (hk : k + 2 ≤ 601024) (hn : n + 7 ≤ 7293034) (hT : Tie f sv x sm ln S)
    (K : ∀ (a : Nat → Nat → Nat) (S : Nat → Nat → Int → Int) (x : Int → Int) (ln sm : Int) (g : Nat → Int64) (f sv ai : Int → Int) (th hh : Int), Tie f sv x sm ln S → Gz p l e room_1 s m args below meth c 9 (k + 1) (n + 6) Q (Zw D vwCl (fun q => s.heap.size ≤ q) s (LWd y o a S tb x ln sm ob g am f sv ai th hh)) 1251 (lv0 b o am ob i) []) : Gz p l e room_1 s m args below meth c 9 k n Q (Zw D vwCl (fun q => s.heap.size ≤ q) s (LWd y o a S tb x ln sm ob g am f sv ai th hh)) 1070 (lv0 b o am ob i) [] := by
  obtain ⟨mx, mb, mml, mo, mts, hK, hE, hX, hbl, hl0, hL⟩ := C
  have hA : ∀ q : Nat, s.heap.size ≤ q → (fun q : Nat => s.heap.size ≤ q) q := fun _ h => h
  have hbA : ¬ (fun q : Nat => s.heap.size ≤ q) b := Nat.not_le.mpr hbl
  obtain ⟨⟨hR, hI, kp⟩, hsc, hTS, hl, htx⟩ := id hT
  have x1 := xsI_rng xs (i + 1)
  have x2 := xsI_rng xs (i + 2)
  show Gz p l e room_1 s m args below meth c 9 k n Q (Zw D vwCl (fun q => s.heap.size ≤ q) s ((wBq y o a S tb x ln sm (sav a) p6 ++ wO1 y ob g) ++ wM y am f sv ai x sm ln th hh)) 1070 [(4, .int (iZ i)), (0, .ref b), (1, .ref (o 0)), (2, .ref (am 0)), (3, .ref ob)] []
  refine z_aload_n mx mb dL_law_1070 rfl 2 rfl ?_
  refine z_callD (wa := []) (wc := wBq y o a S tb x ln sm (sav a) p6) (wb := (wO1 y ob g ++ wM y am f sv ai x sm ln th hh)) (As := []) (rest := []) ⟨mx, mb, mml, mo, mts⟩ hK hA (fun sz => c_X4_meanWarmth l D sz y o a S tb x ln sm f hR hI kp) (cwV 0 mts gL_law_X4_meanWarmth rfl rfl rfl (by decide +kernel) ⟨Nat.le_of_ble_eq_true rfl, Nat.le_of_ble_eq_true rfl⟩) (List.append_assoc _ _ _) 0 rfl rfl rfl rfl rfl (Nat.le_of_ble_eq_true rfl) ⟨by show _ ≤ 601024; omega, by show _ ≤ 7293034; omega⟩ dL_law_1071 (fun r1 u1 hu1 => ?_)
  obtain rfl : r1 = warmM f := hu1
  show Gz p l e room_1 s m args below meth c 9 (k) (n) Q (Zw D vwCl (fun q => s.heap.size ≤ q) s (wBq y o a S tb x ln sm (sav a) p6 ++ (wO1 y ob g ++ wM y am f sv ai x sm ln th hh))) 1074 [(4, .int (iZ i)), (0, .ref b), (1, .ref (o 0)), (2, .ref (am 0)), (3, .ref ob)] [.double (warmM f)]
  rw [← List.append_assoc]
  refine z_dstore mx mb dL_law_1074 (by decide) [(5, .double (warmM f)), (4, .int (iZ i)), (0, .ref b), (1, .ref (o 0)), (2, .ref (am 0)), (3, .ref ob)] rfl ?_
  refine z_aload_n mx mb dL_law_1076 rfl 4 rfl ?_
  refine z_callD (wa := (wBq y o a S tb x ln sm (sav a) p6 ++ wO1 y ob g)) (wc := wM y am f sv ai x sm ln th hh) (wb := []) (As := []) (rest := []) ⟨mx, mb, mml, mo, mts⟩ hK hA (fun sz => c_X5_meanWarmth l D sz y am f sv ai x sm ln th hh hI) (cwV 0 mts gL_law_X5_meanWarmth rfl rfl rfl (by decide +kernel) ⟨Nat.le_of_ble_eq_true rfl, Nat.le_of_ble_eq_true rfl⟩) (List.append_nil _).symm 95 rfl rfl rfl rfl rfl (Nat.le_of_ble_eq_true rfl) ⟨by show _ ≤ 601024; omega, by show _ ≤ 7293034; omega⟩ dL_law_1077 (fun r2 u2 hu2 => ?_)
  obtain rfl : r2 = warmM f := hu2
  rw [List.append_nil]
  show Gz p l e room_1 s m args below meth c 9 (k) (n) Q (Zw D vwCl (fun q => s.heap.size ≤ q) s ((wBq y o a S tb x ln sm (sav a) p6 ++ wO1 y ob g) ++ wM y am f sv ai x sm ln 0 hh)) 1080 [(5, .double (warmM f)), (4, .int (iZ i)), (0, .ref b), (1, .ref (o 0)), (2, .ref (am 0)), (3, .ref ob)] [.double (warmM f)]
  refine z_dstore mx mb dL_law_1080 (by decide) [(7, .double (warmM f)), (5, .double (warmM f)), (4, .int (iZ i)), (0, .ref b), (1, .ref (o 0)), (2, .ref (am 0)), (3, .ref ob)] rfl ?_
  have fin : Gz p l e room_1 s m args below meth c 9 (k) (n) Q (Zw D vwCl (fun q => s.heap.size ≤ q) s ((wBq y o a S tb x ln sm (sav a) p6 ++ wO1 y ob g) ++ wM y am f sv ai x sm ln 0 hh)) 1108 [(7, .double (warmM f)), (5, .double (warmM f)), (4, .int (iZ i)), (0, .ref b), (1, .ref (o 0)), (2, .ref (am 0)), (3, .ref ob)] [] := by
    refine z_goto (tgt := 1251) mx mb dL_law_1108 (by decide) ?_
    refine z_lv [2, 3, 4, 5, 6] rfl ?_
    refine z_widen (k1 := k + 1) (n1 := n + 6) (by omega) (by omega) ?_
    exact K a S x ln sm g f sv ai 0 hh hT
  obtain ⟨v0, hv0⟩ : ∃ v0, v0 = Op.cmpValue (FP.dcmp (warmM f) (warmM f)) CmpOp.l := ⟨_, rfl⟩
  refine z_dload mx mb dL_law_1082 1 rfl ?_
  refine z_dload mx mb dL_law_1084 0 rfl ?_
  refine z_dcmp mx mb hv0 dL_law_1086 ?_
  refine z_ifq (tgt := 1108) mx mb dL_law_1087 (by decide) (fun _ => fin) (fun hn0 => ?_)
  refine z_dload mx mb dL_law_1090 1 rfl ?_
  refine z_dload mx mb dL_law_1092 1 rfl ?_
  refine z_dcmp mx mb hv0 dL_law_1094 ?_
  refine z_ifq (tgt := 1106) mx mb dL_law_1095 (by decide) (fun h => absurd h hn0) (fun _ => ?_)
  refine z_dload mx mb dL_law_1098 0 rfl ?_
  refine z_dload mx mb dL_law_1100 0 rfl ?_
  refine z_dcmp mx mb hv0 dL_law_1102 ?_
  exact z_ifnq (tgt := 1108) mx mb dL_law_1103 (by decide) (fun _ => fin) (fun h => absurd h hn0)
