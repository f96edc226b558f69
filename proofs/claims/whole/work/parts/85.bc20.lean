set_option maxRecDepth 100000 in
set_option maxHeartbeats 4000000 in
theorem lc_addTrain {p : Program} {l : Launch} {e : Env} {s : State} {m : MethodId} {args : Array Value} {below : List Frame} {meth : Method} {c : Code} {b L : Nat} {xs : Nat → Int32} {D : va_G} {y : Nat → ClassId} {Q : State → Prop} (C : LC p l s m args meth c b L xs D y) {o : Nat → Nat} {tb : Nat → Nat} {ob : Nat} {am : Nat → Nat} (a : Nat → Nat → Nat) (S : Nat → Nat → Int → Int) (x : Int → Int) (ln sm : Int) (g : Nat → Int64) (f sv ai : Int → Int) (th hh : Int) (i : Int) (hi : 0 ≤ i ∧ i + 2 < (L : Int)) {k n : Nat} (hk : k + 2 ≤ 601024) (hn : n + 7 ≤ 7293034) (hT : Tie f sv x sm ln S)
    (K : ∀ (a : Nat → Nat → Nat) (S : Nat → Nat → Int → Int) (x : Int → Int) (ln sm : Int) (g : Nat → Int64) (f sv ai : Int → Int) (th hh : Int), Tie f sv x sm ln S → Gz p l e room_1 s m args below meth c 9 (k + 1) (n + 6) Q (Zw D vwCl (fun q => s.heap.size ≤ q) s (LWd y o a S tb x ln sm ob g am f sv ai th hh)) 1251 (lv0 b o am ob i) []) : Gz p l e room_1 s m args below meth c 9 k n Q (Zw D vwCl (fun q => s.heap.size ≤ q) s (LWd y o a S tb x ln sm ob g am f sv ai th hh)) 144 (lv0 b o am ob i) [] := by
  obtain ⟨mx, mb, mml, mo, mts, hK, hE, hX, hbl, hl0, hL⟩ := C
  have hA : ∀ q : Nat, s.heap.size ≤ q → (fun q : Nat => s.heap.size ≤ q) q := fun _ h => h
  have hbA : ¬ (fun q : Nat => s.heap.size ≤ q) b := Nat.not_le.mpr hbl
  obtain ⟨⟨hR, hI, kp⟩, hsc, hTS, hl, htx⟩ := id hT
  have x1 := xsI_rng xs (i + 1)
  have x2 := xsI_rng xs (i + 2)
  show Gz p l e room_1 s m args below meth c 9 k n Q (Zw D vwCl (fun q => s.heap.size ≤ q) s ((wBq y o a S tb x ln sm (sav a) p6 ++ wO1 y ob g) ++ wM y am f sv ai x sm ln th hh)) 144 [(4, .int (iZ i)), (0, .ref b), (1, .ref (o 0)), (2, .ref (am 0)), (3, .ref ob)] []
  refine z_aload_n mx mb dL_law_144 rfl 2 rfl ?_
  refine z_aload_n mx mb dL_law_145 rfl 1 rfl ?_
  refine z_iload mx mb dL_law_146 0 rfl ?_
  refine z_iconst mx mb dL_law_148 ?_
  refine z_iadd mx mb dL_law_149 ?_
  refine z_sld mx mb hX hbl hbA (by omega) hL dL_law_150 ?_
  refine z_aload_n mx mb dL_law_151 rfl 4 rfl ?_
  refine z_callSI (wa := []) (wc := (wBq y o a S tb x ln sm (sav a) p6 ++ wO1 y ob g)) (wb := wM y am f sv ai x sm ln th hh) (As := [.ref (o 0), .int (iZ (xsI xs (i + 1))), .ref ob]) (rest := []) ⟨mx, mb, mml, mo, mts⟩ hK hA hE (fun sz => c_L_addTrain l hl0 D sz y o a S tb x ln sm f sv (xsI xs (i + 1)) ob g x1 hT) (vx_cwSW 3 mts gL_law_L_addTrain rfl rfl rfl (by decide +kernel) ⟨Nat.le_of_ble_eq_true rfl, Nat.le_of_ble_eq_true rfl⟩) rfl rfl rfl (Nat.le_of_ble_eq_true rfl) ⟨by show _ ≤ 601024; omega, by show _ ≤ 7293034; omega⟩ dL_law_152 (fun r5 u5 hu5 => ?_)
  obtain ⟨a2, S2, g2⟩ := u5
  obtain ⟨hr5, hg5, tie2⟩ := hu5
  replace hg5 : thAdd f (xsI xs (i + 1)) = 0 → g2 0 = lZ (wz (f 2)) := hg5
  replace tie2 : Tie (if thAdd f (xsI xs (i + 1)) = 0 then addT f (xsI xs (i + 1)) else f) (if thAdd f (xsI xs (i + 1)) = 0 then svS sv f sm else sv) x (if thAdd f (xsI xs (i + 1)) = 0 then smS sm else sm) ln S2 := tie2
  obtain rfl : r5 = iZ (thAdd f (xsI xs (i + 1))) := hr5
  show Gz p l e room_1 s m args below meth c 9 (k + 1) (n + 6) Q (Zw D vwCl (fun q => s.heap.size ≤ q) s ((wBq y o a2 S2 tb x ln (if thAdd f (xsI xs (i + 1)) = 0 then smS sm else sm) (sav a2) p6 ++ wO1 y ob g2) ++ wM y am f sv ai x sm ln th hh)) 155 [(4, .int (iZ i)), (0, .ref b), (1, .ref (o 0)), (2, .ref (am 0)), (3, .ref ob)] [.int (iZ (thAdd f (xsI xs (i + 1))))]
  refine z_istore mx mb dL_law_155 (by decide) [(5, .int (iZ (thAdd f (xsI xs (i + 1))))), (4, .int (iZ i)), (0, .ref b), (1, .ref (o 0)), (2, .ref (am 0)), (3, .ref ob)] rfl ?_
  refine z_aload_n mx mb dL_law_157 rfl 4 rfl ?_
  refine z_aload_n mx mb dL_law_158 rfl 2 rfl ?_
  refine z_iload mx mb dL_law_159 1 rfl ?_
  refine z_iconst mx mb dL_law_161 ?_
  refine z_iadd mx mb dL_law_162 ?_
  refine z_sld mx mb hX hbl hbA (by omega) hL dL_law_163 ?_
  refine z_callI (wa := (wBq y o a2 S2 tb x ln (if thAdd f (xsI xs (i + 1)) = 0 then smS sm else sm) (sav a2) p6 ++ wO1 y ob g2)) (wc := wM y am f sv ai x sm ln th hh) (wb := []) (As := [.int (iZ (xsI xs (i + 1)))]) (rest := []) ⟨mx, mb, mml, mo, mts⟩ hK hA (fun sz => c_X5_addTrain l D sz y am f sv ai x sm ln th hh (xsI xs (i + 1)) x1 hI hsc) (cwV 1 mts gL_law_X5_addTrain rfl rfl rfl (by decide +kernel) ⟨Nat.le_of_ble_eq_true rfl, Nat.le_of_ble_eq_true rfl⟩) (List.append_nil _).symm 95 rfl rfl rfl rfl rfl (Nat.le_of_ble_eq_true rfl) ⟨by show _ ≤ 601024; omega, by show _ ≤ 7293034; omega⟩ dL_law_164 (fun r6 u6 hu6 => ?_)
  obtain rfl : r6 = iZ (if thAdd f (xsI xs (i + 1)) = 0 then f 2 else 0) := hu6
  rw [List.append_nil]
  show Gz p l e room_1 s m args below meth c 9 (k + 1) (n + 6) Q (Zw D vwCl (fun q => s.heap.size ≤ q) s ((wBq y o a2 S2 tb x ln (if thAdd f (xsI xs (i + 1)) = 0 then smS sm else sm) (sav a2) p6 ++ wO1 y ob g2) ++ wM y am (if thAdd f (xsI xs (i + 1)) = 0 then addT f (xsI xs (i + 1)) else f) (if thAdd f (xsI xs (i + 1)) = 0 then svS sv f sm else sv) ai x (if thAdd f (xsI xs (i + 1)) = 0 then smS sm else sm) ln (thAdd f (xsI xs (i + 1))) hh)) 167 [(5, .int (iZ (thAdd f (xsI xs (i + 1))))), (4, .int (iZ i)), (0, .ref b), (1, .ref (o 0)), (2, .ref (am 0)), (3, .ref ob)] [.int (iZ (if thAdd f (xsI xs (i + 1)) = 0 then f 2 else 0))]
  refine z_istore mx mb dL_law_167 (by decide) [(6, .int (iZ (if thAdd f (xsI xs (i + 1)) = 0 then f 2 else 0))), (5, .int (iZ (thAdd f (xsI xs (i + 1))))), (4, .int (iZ i)), (0, .ref b), (1, .ref (o 0)), (2, .ref (am 0)), (3, .ref ob)] rfl ?_
  refine z_aload_n mx mb dL_law_169 rfl 5 rfl ?_
  refine z_callP (As := []) (rest := []) ⟨mx, mb, mml, mo, mts⟩ hK zgw (c_X5_thrown l D y am (if thAdd f (xsI xs (i + 1)) = 0 then addT f (xsI xs (i + 1)) else f) (if thAdd f (xsI xs (i + 1)) = 0 then svS sv f sm else sv) ai x (if thAdd f (xsI xs (i + 1)) = 0 then smS sm else sm) ln (thAdd f (xsI xs (i + 1))) hh) (cwV 0 mts gL_law_X5_thrown rfl rfl rfl (by decide +kernel) ⟨Nat.le_of_ble_eq_true rfl, Nat.le_of_ble_eq_true rfl⟩) (fun _ h => List.mem_append_right _ h) 95 rfl rfl rfl rfl rfl (Nat.le_of_ble_eq_true rfl) ⟨by show _ ≤ 601024; omega, by show _ ≤ 7293034; omega⟩ dL_law_170 ?_
  refine z_iload mx mb dL_law_173 1 rfl ?_
  have hth : -2147483648 ≤ thAdd f (xsI xs (i + 1)) ∧ thAdd f (xsI xs (i + 1)) ≤ 2147483647 := by have q := thAdd_c f (xsI xs (i + 1)); omega
  refine z_icmp_eq (tgt := 180) mx mb hth hth dL_law_175 (by decide) (fun _ => ?_) (fun h => absurd rfl h)
  refine z_iload mx mb dL_law_180 1 rfl ?_
  have fin : Gz p l e room_1 s m args below meth c 9 (k + 1) (n + 6) Q (Zw D vwCl (fun q => s.heap.size ≤ q) s ((wBq y o a2 S2 tb x ln (if thAdd f (xsI xs (i + 1)) = 0 then smS sm else sm) (sav a2) p6 ++ wO1 y ob g2) ++ wM y am (if thAdd f (xsI xs (i + 1)) = 0 then addT f (xsI xs (i + 1)) else f) (if thAdd f (xsI xs (i + 1)) = 0 then svS sv f sm else sv) ai x (if thAdd f (xsI xs (i + 1)) = 0 then smS sm else sm) ln (thAdd f (xsI xs (i + 1))) hh)) 197 [(6, .int (iZ (if thAdd f (xsI xs (i + 1)) = 0 then f 2 else 0))), (5, .int (iZ (thAdd f (xsI xs (i + 1))))), (4, .int (iZ i)), (0, .ref b), (1, .ref (o 0)), (2, .ref (am 0)), (3, .ref ob)] [] := by
    refine z_goto (tgt := 1251) mx mb dL_law_197 (by decide) ?_
    refine z_lv [2, 3, 4, 5, 6] rfl ?_
    exact K a2 S2 x ln (if thAdd f (xsI xs (i + 1)) = 0 then smS sm else sm) g2 (if thAdd f (xsI xs (i + 1)) = 0 then addT f (xsI xs (i + 1)) else f) (if thAdd f (xsI xs (i + 1)) = 0 then svS sv f sm else sv) ai (thAdd f (xsI xs (i + 1))) hh tie2
  refine z_if_ne (tgt := 197) mx mb hth dL_law_182 (by decide) (fun _ => fin) (fun h0 => ?_)
  refine z_aload_n mx mb dL_law_185 rfl 6 rfl ?_
  refine z_iconst mx mb dL_law_186 ?_
  refine z_lald mx mb hK 94 3 rfl rfl dL_law_187 ?_
  refine z_iload mx mb dL_law_188 0 rfl ?_
  refine z_i2lw mx mb dL_law_190 ?_
  refine z_lcmp0 mx mb (by rw [hg5 h0, if_pos h0]) dL_law_191 ?_
  exact z_if_eq (tgt := 197) mx mb (by decide) dL_law_192 (by decide) (fun _ => fin) (fun h => absurd rfl h)

set_option maxRecDepth 100000 in
set_option maxHeartbeats 4000000 in
theorem lc_takeTrain {p : Program} {l : Launch} {e : Env} {s : State} {m : MethodId} {args : Array Value} {below : List Frame} {meth : Method} {c : Code} {b L : Nat} {xs : Nat → Int32} {D : va_G} {y : Nat → ClassId} {Q : State → Prop} (C : LC p l s m args meth c b L xs D y) {o : Nat → Nat} {tb : Nat → Nat} {ob : Nat} {am : Nat → Nat} (a : Nat → Nat → Nat) (S : Nat → Nat → Int → Int) (x : Int → Int) (ln sm : Int) (g : Nat → Int64) (f sv ai : Int → Int) (th hh : Int) (i : Int) (hi : 0 ≤ i ∧ i + 2 < (L : Int)) {k n : Nat} (hk : k + 2 ≤ 601024) (hn : n + 7 ≤ 7293034) (hT : Tie f sv x sm ln S)
    (K : ∀ (a : Nat → Nat → Nat) (S : Nat → Nat → Int → Int) (x : Int → Int) (ln sm : Int) (g : Nat → Int64) (f sv ai : Int → Int) (th hh : Int), Tie f sv x sm ln S → Gz p l e room_1 s m args below meth c 9 (k + 1) (n + 6) Q (Zw D vwCl (fun q => s.heap.size ≤ q) s (LWd y o a S tb x ln sm ob g am f sv ai th hh)) 1251 (lv0 b o am ob i) []) : Gz p l e room_1 s m args below meth c 9 k n Q (Zw D vwCl (fun q => s.heap.size ≤ q) s (LWd y o a S tb x ln sm ob g am f sv ai th hh)) 200 (lv0 b o am ob i) [] := by
  obtain ⟨mx, mb, mml, mo, mts, hK, hE, hX, hbl, hl0, hL⟩ := C
  have hA : ∀ q : Nat, s.heap.size ≤ q → (fun q : Nat => s.heap.size ≤ q) q := fun _ h => h
  have hbA : ¬ (fun q : Nat => s.heap.size ≤ q) b := Nat.not_le.mpr hbl
  obtain ⟨⟨hR, hI, kp⟩, hsc, hTS, hl, htx⟩ := id hT
  have x1 := xsI_rng xs (i + 1)
  have x2 := xsI_rng xs (i + 2)
  show Gz p l e room_1 s m args below meth c 9 k n Q (Zw D vwCl (fun q => s.heap.size ≤ q) s ((wBq y o a S tb x ln sm (sav a) p6 ++ wO1 y ob g) ++ wM y am f sv ai x sm ln th hh)) 200 [(4, .int (iZ i)), (0, .ref b), (1, .ref (o 0)), (2, .ref (am 0)), (3, .ref ob)] []
  refine z_aload_n mx mb dL_law_200 rfl 2 rfl ?_
  refine z_aload_n mx mb dL_law_201 rfl 4 rfl ?_
  refine z_callSI (wa := []) (wc := (wBq y o a S tb x ln sm (sav a) p6 ++ wO1 y ob g)) (wb := wM y am f sv ai x sm ln th hh) (As := [.ref (o 0), .ref ob]) (rest := []) ⟨mx, mb, mml, mo, mts⟩ hK hA hE (fun sz => c_L_takeTrain l hl0 D sz y o a S tb x ln sm f sv  ob g  hT) (vx_cwSW 2 mts gL_law_L_takeTrain rfl rfl rfl (by decide +kernel) ⟨Nat.le_of_ble_eq_true rfl, Nat.le_of_ble_eq_true rfl⟩) rfl rfl rfl (Nat.le_of_ble_eq_true rfl) ⟨by show _ ≤ 601024; omega, by show _ ≤ 7293034; omega⟩ dL_law_202 (fun r5 u5 hu5 => ?_)
  obtain ⟨a2, S2, g2⟩ := u5
  obtain ⟨hr5, hg5, tie2⟩ := hu5
  replace hg5 : thTake f = 0 → g2 0 = lZ (wz (f 2 - 1)) := hg5
  replace tie2 : Tie (if thTake f = 0 then zu f 2 (f 2 - 1) else f) (if thTake f = 0 then svS sv f sm else sv) x (if thTake f = 0 then smS sm else sm) ln S2 := tie2
  obtain rfl : r5 = iZ (thTake f) := hr5
  show Gz p l e room_1 s m args below meth c 9 (k + 1) (n + 6) Q (Zw D vwCl (fun q => s.heap.size ≤ q) s ((wBq y o a2 S2 tb x ln (if thTake f = 0 then smS sm else sm) (sav a2) p6 ++ wO1 y ob g2) ++ wM y am f sv ai x sm ln th hh)) 205 [(4, .int (iZ i)), (0, .ref b), (1, .ref (o 0)), (2, .ref (am 0)), (3, .ref ob)] [.int (iZ (thTake f))]
  refine z_istore mx mb dL_law_205 (by decide) [(5, .int (iZ (thTake f))), (4, .int (iZ i)), (0, .ref b), (1, .ref (o 0)), (2, .ref (am 0)), (3, .ref ob)] rfl ?_
  refine z_aload_n mx mb dL_law_207 rfl 4 rfl ?_
  refine z_callI (wa := (wBq y o a2 S2 tb x ln (if thTake f = 0 then smS sm else sm) (sav a2) p6 ++ wO1 y ob g2)) (wc := wM y am f sv ai x sm ln th hh) (wb := []) (As := []) (rest := []) ⟨mx, mb, mml, mo, mts⟩ hK hA (fun sz => c_X5_takeTrain l D sz y am f sv ai x sm ln th hh  hI hsc) (cwV 0 mts gL_law_X5_takeTrain rfl rfl rfl (by decide +kernel) ⟨Nat.le_of_ble_eq_true rfl, Nat.le_of_ble_eq_true rfl⟩) (List.append_nil _).symm 95 rfl rfl rfl rfl rfl (Nat.le_of_ble_eq_true rfl) ⟨by show _ ≤ 601024; omega, by show _ ≤ 7293034; omega⟩ dL_law_208 (fun r6 u6 hu6 => ?_)
  obtain rfl : r6 = iZ (if thTake f = 0 then f 2 - 1 else 0) := hu6
  rw [List.append_nil]
  show Gz p l e room_1 s m args below meth c 9 (k + 1) (n + 6) Q (Zw D vwCl (fun q => s.heap.size ≤ q) s ((wBq y o a2 S2 tb x ln (if thTake f = 0 then smS sm else sm) (sav a2) p6 ++ wO1 y ob g2) ++ wM y am (if thTake f = 0 then zu f 2 (f 2 - 1) else f) (if thTake f = 0 then svS sv f sm else sv) ai x (if thTake f = 0 then smS sm else sm) ln (thTake f) hh)) 211 [(5, .int (iZ (thTake f))), (4, .int (iZ i)), (0, .ref b), (1, .ref (o 0)), (2, .ref (am 0)), (3, .ref ob)] [.int (iZ (if thTake f = 0 then f 2 - 1 else 0))]
  refine z_istore mx mb dL_law_211 (by decide) [(6, .int (iZ (if thTake f = 0 then f 2 - 1 else 0))), (5, .int (iZ (thTake f))), (4, .int (iZ i)), (0, .ref b), (1, .ref (o 0)), (2, .ref (am 0)), (3, .ref ob)] rfl ?_
  refine z_aload_n mx mb dL_law_213 rfl 5 rfl ?_
  refine z_callP (As := []) (rest := []) ⟨mx, mb, mml, mo, mts⟩ hK zgw (c_X5_thrown l D y am (if thTake f = 0 then zu f 2 (f 2 - 1) else f) (if thTake f = 0 then svS sv f sm else sv) ai x (if thTake f = 0 then smS sm else sm) ln (thTake f) hh) (cwV 0 mts gL_law_X5_thrown rfl rfl rfl (by decide +kernel) ⟨Nat.le_of_ble_eq_true rfl, Nat.le_of_ble_eq_true rfl⟩) (fun _ h => List.mem_append_right _ h) 95 rfl rfl rfl rfl rfl (Nat.le_of_ble_eq_true rfl) ⟨by show _ ≤ 601024; omega, by show _ ≤ 7293034; omega⟩ dL_law_214 ?_
  refine z_iload mx mb dL_law_217 1 rfl ?_
  have hth : -2147483648 ≤ thTake f ∧ thTake f ≤ 2147483647 := by have q := thTake_c f; omega
  refine z_icmp_eq (tgt := 224) mx mb hth hth dL_law_219 (by decide) (fun _ => ?_) (fun h => absurd rfl h)
  refine z_iload mx mb dL_law_224 1 rfl ?_
  have fin : Gz p l e room_1 s m args below meth c 9 (k + 1) (n + 6) Q (Zw D vwCl (fun q => s.heap.size ≤ q) s ((wBq y o a2 S2 tb x ln (if thTake f = 0 then smS sm else sm) (sav a2) p6 ++ wO1 y ob g2) ++ wM y am (if thTake f = 0 then zu f 2 (f 2 - 1) else f) (if thTake f = 0 then svS sv f sm else sv) ai x (if thTake f = 0 then smS sm else sm) ln (thTake f) hh)) 241 [(6, .int (iZ (if thTake f = 0 then f 2 - 1 else 0))), (5, .int (iZ (thTake f))), (4, .int (iZ i)), (0, .ref b), (1, .ref (o 0)), (2, .ref (am 0)), (3, .ref ob)] [] := by
    refine z_goto (tgt := 1251) mx mb dL_law_241 (by decide) ?_
    refine z_lv [2, 3, 4, 5, 6] rfl ?_
    exact K a2 S2 x ln (if thTake f = 0 then smS sm else sm) g2 (if thTake f = 0 then zu f 2 (f 2 - 1) else f) (if thTake f = 0 then svS sv f sm else sv) ai (thTake f) hh tie2
  refine z_if_ne (tgt := 241) mx mb hth dL_law_226 (by decide) (fun _ => fin) (fun h0 => ?_)
  refine z_aload_n mx mb dL_law_229 rfl 6 rfl ?_
  refine z_iconst mx mb dL_law_230 ?_
  refine z_lald mx mb hK 94 3 rfl rfl dL_law_231 ?_
  refine z_iload mx mb dL_law_232 0 rfl ?_
  refine z_i2lw mx mb dL_law_234 ?_
  refine z_lcmp0 mx mb (by rw [hg5 h0, if_pos h0]) dL_law_235 ?_
  exact z_if_eq (tgt := 241) mx mb (by decide) dL_law_236 (by decide) (fun _ => fin) (fun h => absurd rfl h)

set_option maxRecDepth 100000 in
set_option maxHeartbeats 4000000 in
theorem lc_rescue {p : Program} {l : Launch} {e : Env} {s : State} {m : MethodId} {args : Array Value} {below : List Frame} {meth : Method} {c : Code} {b L : Nat} {xs : Nat → Int32} {D : va_G} {y : Nat → ClassId} {Q : State → Prop} (C : LC p l s m args meth c b L xs D y) {o : Nat → Nat} {tb : Nat → Nat} {ob : Nat} {am : Nat → Nat} (a : Nat → Nat → Nat) (S : Nat → Nat → Int → Int) (x : Int → Int) (ln sm : Int) (g : Nat → Int64) (f sv ai : Int → Int) (th hh : Int) (i : Int) (hi : 0 ≤ i ∧ i + 2 < (L : Int)) {k n : Nat} (hk : k + 2 ≤ 601024) (hn : n + 7 ≤ 7293034) (hT : Tie f sv x sm ln S)
    (K : ∀ (a : Nat → Nat → Nat) (S : Nat → Nat → Int → Int) (x : Int → Int) (ln sm : Int) (g : Nat → Int64) (f sv ai : Int → Int) (th hh : Int), Tie f sv x sm ln S → Gz p l e room_1 s m args below meth c 9 (k + 1) (n + 6) Q (Zw D vwCl (fun q => s.heap.size ≤ q) s (LWd y o a S tb x ln sm ob g am f sv ai th hh)) 1251 (lv0 b o am ob i) []) : Gz p l e room_1 s m args below meth c 9 k n Q (Zw D vwCl (fun q => s.heap.size ≤ q) s (LWd y o a S tb x ln sm ob g am f sv ai th hh)) 244 (lv0 b o am ob i) [] := by
  obtain ⟨mx, mb, mml, mo, mts, hK, hE, hX, hbl, hl0, hL⟩ := C
  have hA : ∀ q : Nat, s.heap.size ≤ q → (fun q : Nat => s.heap.size ≤ q) q := fun _ h => h
  have hbA : ¬ (fun q : Nat => s.heap.size ≤ q) b := Nat.not_le.mpr hbl
  obtain ⟨⟨hR, hI, kp⟩, hsc, hTS, hl, htx⟩ := id hT
  have x1 := xsI_rng xs (i + 1)
  have x2 := xsI_rng xs (i + 2)
  show Gz p l e room_1 s m args below meth c 9 k n Q (Zw D vwCl (fun q => s.heap.size ≤ q) s ((wBq y o a S tb x ln sm (sav a) p6 ++ wO1 y ob g) ++ wM y am f sv ai x sm ln th hh)) 244 [(4, .int (iZ i)), (0, .ref b), (1, .ref (o 0)), (2, .ref (am 0)), (3, .ref ob)] []
  refine z_aload_n mx mb dL_law_244 rfl 2 rfl ?_
  refine z_aload_n mx mb dL_law_245 rfl 1 rfl ?_
  refine z_iload mx mb dL_law_246 0 rfl ?_
  refine z_iconst mx mb dL_law_248 ?_
  refine z_iadd mx mb dL_law_249 ?_
  refine z_sld mx mb hX hbl hbA (by omega) hL dL_law_250 ?_
  refine z_aload_n mx mb dL_law_251 rfl 4 rfl ?_
  refine z_callSI (wa := []) (wc := (wBq y o a S tb x ln sm (sav a) p6 ++ wO1 y ob g)) (wb := wM y am f sv ai x sm ln th hh) (As := [.ref (o 0), .int (iZ (xsI xs (i + 1))), .ref ob]) (rest := []) ⟨mx, mb, mml, mo, mts⟩ hK hA hE (fun sz => c_L_rescue l hl0 D sz y o a S tb x ln sm f sv (xsI xs (i + 1)) ob g x1 hT) (vx_cwSW 3 mts gL_law_L_rescue rfl rfl rfl (by decide +kernel) ⟨Nat.le_of_ble_eq_true rfl, Nat.le_of_ble_eq_true rfl⟩) rfl rfl rfl (Nat.le_of_ble_eq_true rfl) ⟨by show _ ≤ 601024; omega, by show _ ≤ 7293034; omega⟩ dL_law_252 (fun r5 u5 hu5 => ?_)
  obtain ⟨a2, S2, g2⟩ := u5
  obtain ⟨hr5, hg5, tie2⟩ := hu5
  replace hg5 : thRes f (xsI xs (i + 1)) = 0 → g2 0 = lZ (wz (f (79 + 8 * (xsI xs (i + 1)) + 0))) := hg5
  replace tie2 : Tie (if thRes f (xsI xs (i + 1)) = 0 then resT f (xsI xs (i + 1)) else f) (if thRes f (xsI xs (i + 1)) = 0 then svS sv f sm else sv) x (if thRes f (xsI xs (i + 1)) = 0 then smS sm else sm) ln S2 := tie2
  obtain rfl : r5 = iZ (thRes f (xsI xs (i + 1))) := hr5
  show Gz p l e room_1 s m args below meth c 9 (k + 1) (n + 6) Q (Zw D vwCl (fun q => s.heap.size ≤ q) s ((wBq y o a2 S2 tb x ln (if thRes f (xsI xs (i + 1)) = 0 then smS sm else sm) (sav a2) p6 ++ wO1 y ob g2) ++ wM y am f sv ai x sm ln th hh)) 255 [(4, .int (iZ i)), (0, .ref b), (1, .ref (o 0)), (2, .ref (am 0)), (3, .ref ob)] [.int (iZ (thRes f (xsI xs (i + 1))))]
  refine z_istore mx mb dL_law_255 (by decide) [(5, .int (iZ (thRes f (xsI xs (i + 1))))), (4, .int (iZ i)), (0, .ref b), (1, .ref (o 0)), (2, .ref (am 0)), (3, .ref ob)] rfl ?_
  refine z_aload_n mx mb dL_law_257 rfl 4 rfl ?_
  refine z_aload_n mx mb dL_law_258 rfl 2 rfl ?_
  refine z_iload mx mb dL_law_259 1 rfl ?_
  refine z_iconst mx mb dL_law_261 ?_
  refine z_iadd mx mb dL_law_262 ?_
  refine z_sld mx mb hX hbl hbA (by omega) hL dL_law_263 ?_
  refine z_callI (wa := (wBq y o a2 S2 tb x ln (if thRes f (xsI xs (i + 1)) = 0 then smS sm else sm) (sav a2) p6 ++ wO1 y ob g2)) (wc := wM y am f sv ai x sm ln th hh) (wb := []) (As := [.int (iZ (xsI xs (i + 1)))]) (rest := []) ⟨mx, mb, mml, mo, mts⟩ hK hA (fun sz => c_X5_rescue l D sz y am f sv ai x sm ln th hh (xsI xs (i + 1)) x1 hI hsc) (cwV 1 mts gL_law_X5_rescue rfl rfl rfl (by decide +kernel) ⟨Nat.le_of_ble_eq_true rfl, Nat.le_of_ble_eq_true rfl⟩) (List.append_nil _).symm 95 rfl rfl rfl rfl rfl (Nat.le_of_ble_eq_true rfl) ⟨by show _ ≤ 601024; omega, by show _ ≤ 7293034; omega⟩ dL_law_264 (fun r6 u6 hu6 => ?_)
  obtain rfl : r6 = iZ (if thRes f (xsI xs (i + 1)) = 0 then f (79 + 8 * (xsI xs (i + 1)) + 0) else 0) := hu6
  rw [List.append_nil]
  show Gz p l e room_1 s m args below meth c 9 (k + 1) (n + 6) Q (Zw D vwCl (fun q => s.heap.size ≤ q) s ((wBq y o a2 S2 tb x ln (if thRes f (xsI xs (i + 1)) = 0 then smS sm else sm) (sav a2) p6 ++ wO1 y ob g2) ++ wM y am (if thRes f (xsI xs (i + 1)) = 0 then resT f (xsI xs (i + 1)) else f) (if thRes f (xsI xs (i + 1)) = 0 then svS sv f sm else sv) ai x (if thRes f (xsI xs (i + 1)) = 0 then smS sm else sm) ln (thRes f (xsI xs (i + 1))) hh)) 267 [(5, .int (iZ (thRes f (xsI xs (i + 1))))), (4, .int (iZ i)), (0, .ref b), (1, .ref (o 0)), (2, .ref (am 0)), (3, .ref ob)] [.int (iZ (if thRes f (xsI xs (i + 1)) = 0 then f (79 + 8 * (xsI xs (i + 1)) + 0) else 0))]
  refine z_istore mx mb dL_law_267 (by decide) [(6, .int (iZ (if thRes f (xsI xs (i + 1)) = 0 then f (79 + 8 * (xsI xs (i + 1)) + 0) else 0))), (5, .int (iZ (thRes f (xsI xs (i + 1))))), (4, .int (iZ i)), (0, .ref b), (1, .ref (o 0)), (2, .ref (am 0)), (3, .ref ob)] rfl ?_
  refine z_aload_n mx mb dL_law_269 rfl 5 rfl ?_
  refine z_callP (As := []) (rest := []) ⟨mx, mb, mml, mo, mts⟩ hK zgw (c_X5_thrown l D y am (if thRes f (xsI xs (i + 1)) = 0 then resT f (xsI xs (i + 1)) else f) (if thRes f (xsI xs (i + 1)) = 0 then svS sv f sm else sv) ai x (if thRes f (xsI xs (i + 1)) = 0 then smS sm else sm) ln (thRes f (xsI xs (i + 1))) hh) (cwV 0 mts gL_law_X5_thrown rfl rfl rfl (by decide +kernel) ⟨Nat.le_of_ble_eq_true rfl, Nat.le_of_ble_eq_true rfl⟩) (fun _ h => List.mem_append_right _ h) 95 rfl rfl rfl rfl rfl (Nat.le_of_ble_eq_true rfl) ⟨by show _ ≤ 601024; omega, by show _ ≤ 7293034; omega⟩ dL_law_270 ?_
  refine z_iload mx mb dL_law_273 1 rfl ?_
  have hth : -2147483648 ≤ thRes f (xsI xs (i + 1)) ∧ thRes f (xsI xs (i + 1)) ≤ 2147483647 := by have q := thRes_c f (xsI xs (i + 1)); omega
  refine z_icmp_eq (tgt := 280) mx mb hth hth dL_law_275 (by decide) (fun _ => ?_) (fun h => absurd rfl h)
  refine z_iload mx mb dL_law_280 1 rfl ?_
  have fin : Gz p l e room_1 s m args below meth c 9 (k + 1) (n + 6) Q (Zw D vwCl (fun q => s.heap.size ≤ q) s ((wBq y o a2 S2 tb x ln (if thRes f (xsI xs (i + 1)) = 0 then smS sm else sm) (sav a2) p6 ++ wO1 y ob g2) ++ wM y am (if thRes f (xsI xs (i + 1)) = 0 then resT f (xsI xs (i + 1)) else f) (if thRes f (xsI xs (i + 1)) = 0 then svS sv f sm else sv) ai x (if thRes f (xsI xs (i + 1)) = 0 then smS sm else sm) ln (thRes f (xsI xs (i + 1))) hh)) 297 [(6, .int (iZ (if thRes f (xsI xs (i + 1)) = 0 then f (79 + 8 * (xsI xs (i + 1)) + 0) else 0))), (5, .int (iZ (thRes f (xsI xs (i + 1))))), (4, .int (iZ i)), (0, .ref b), (1, .ref (o 0)), (2, .ref (am 0)), (3, .ref ob)] [] := by
    refine z_goto (tgt := 1251) mx mb dL_law_297 (by decide) ?_
    refine z_lv [2, 3, 4, 5, 6] rfl ?_
    exact K a2 S2 x ln (if thRes f (xsI xs (i + 1)) = 0 then smS sm else sm) g2 (if thRes f (xsI xs (i + 1)) = 0 then resT f (xsI xs (i + 1)) else f) (if thRes f (xsI xs (i + 1)) = 0 then svS sv f sm else sv) ai (thRes f (xsI xs (i + 1))) hh tie2
  refine z_if_ne (tgt := 297) mx mb hth dL_law_282 (by decide) (fun _ => fin) (fun h0 => ?_)
  refine z_aload_n mx mb dL_law_285 rfl 6 rfl ?_
  refine z_iconst mx mb dL_law_286 ?_
  refine z_lald mx mb hK 94 3 rfl rfl dL_law_287 ?_
  refine z_iload mx mb dL_law_288 0 rfl ?_
  refine z_i2lw mx mb dL_law_290 ?_
  refine z_lcmp0 mx mb (by rw [hg5 h0, if_pos h0]) dL_law_291 ?_
  exact z_if_eq (tgt := 297) mx mb (by decide) dL_law_292 (by decide) (fun _ => fin) (fun h => absurd rfl h)

set_option maxRecDepth 100000 in
set_option maxHeartbeats 4000000 in
theorem lc_set {p : Program} {l : Launch} {e : Env} {s : State} {m : MethodId} {args : Array Value} {below : List Frame} {meth : Method} {c : Code} {b L : Nat} {xs : Nat → Int32} {D : va_G} {y : Nat → ClassId} {Q : State → Prop} (C : LC p l s m args meth c b L xs D y) {o : Nat → Nat} {tb : Nat → Nat} {ob : Nat} {am : Nat → Nat} (a : Nat → Nat → Nat) (S : Nat → Nat → Int → Int) (x : Int → Int) (ln sm : Int) (g : Nat → Int64) (f sv ai : Int → Int) (th hh : Int) (i : Int) (hi : 0 ≤ i ∧ i + 2 < (L : Int)) {k n : Nat} (hk : k + 2 ≤ 601024) (hn : n + 7 ≤ 7293034) (hT : Tie f sv x sm ln S)
    (K : ∀ (a : Nat → Nat → Nat) (S : Nat → Nat → Int → Int) (x : Int → Int) (ln sm : Int) (g : Nat → Int64) (f sv ai : Int → Int) (th hh : Int), Tie f sv x sm ln S → Gz p l e room_1 s m args below meth c 9 (k + 1) (n + 6) Q (Zw D vwCl (fun q => s.heap.size ≤ q) s (LWd y o a S tb x ln sm ob g am f sv ai th hh)) 1251 (lv0 b o am ob i) []) : Gz p l e room_1 s m args below meth c 9 k n Q (Zw D vwCl (fun q => s.heap.size ≤ q) s (LWd y o a S tb x ln sm ob g am f sv ai th hh)) 300 (lv0 b o am ob i) [] := by
  obtain ⟨mx, mb, mml, mo, mts, hK, hE, hX, hbl, hl0, hL⟩ := C
  have hA : ∀ q : Nat, s.heap.size ≤ q → (fun q : Nat => s.heap.size ≤ q) q := fun _ h => h
  have hbA : ¬ (fun q : Nat => s.heap.size ≤ q) b := Nat.not_le.mpr hbl
  obtain ⟨⟨hR, hI, kp⟩, hsc, hTS, hl, htx⟩ := id hT
  have x1 := xsI_rng xs (i + 1)
  have x2 := xsI_rng xs (i + 2)
  show Gz p l e room_1 s m args below meth c 9 k n Q (Zw D vwCl (fun q => s.heap.size ≤ q) s ((wBq y o a S tb x ln sm (sav a) p6 ++ wO1 y ob g) ++ wM y am f sv ai x sm ln th hh)) 300 [(4, .int (iZ i)), (0, .ref b), (1, .ref (o 0)), (2, .ref (am 0)), (3, .ref ob)] []
  refine z_aload_n mx mb dL_law_300 rfl 2 rfl ?_
  refine z_aload_n mx mb dL_law_301 rfl 1 rfl ?_
  refine z_iload mx mb dL_law_302 0 rfl ?_
  refine z_iconst mx mb dL_law_304 ?_
  refine z_iadd mx mb dL_law_305 ?_
  refine z_sld mx mb hX hbl hbA (by omega) hL dL_law_306 ?_
  refine z_aload_n mx mb dL_law_307 rfl 1 rfl ?_
  refine z_iload mx mb dL_law_308 0 rfl ?_
  refine z_iconst mx mb dL_law_310 ?_
  refine z_iadd mx mb dL_law_311 ?_
  refine z_sld mx mb hX hbl hbA (by omega) hL dL_law_312 ?_
  refine z_aload_n mx mb dL_law_313 rfl 4 rfl ?_
  refine z_callSI (wa := []) (wc := (wBq y o a S tb x ln sm (sav a) p6 ++ wO1 y ob g)) (wb := wM y am f sv ai x sm ln th hh) (As := [.ref (o 0), .int (iZ (xsI xs (i + 1))), .int (iZ (xsI xs (i + 2))), .ref ob]) (rest := []) ⟨mx, mb, mml, mo, mts⟩ hK hA hE (fun sz => c_L_set l hl0 D sz y o a S tb x ln sm f sv (xsI xs (i + 1)) (xsI xs (i + 2)) ob g x1 x2 hT) (vx_cwSW 4 mts gL_law_L_set rfl rfl rfl (by decide +kernel) ⟨Nat.le_of_ble_eq_true rfl, Nat.le_of_ble_eq_true rfl⟩) rfl rfl rfl (Nat.le_of_ble_eq_true rfl) ⟨by show _ ≤ 601024; omega, by show _ ≤ 7293034; omega⟩ dL_law_314 (fun r5 u5 hu5 => ?_)
  obtain ⟨a2, S2, g2⟩ := u5
  obtain ⟨hr5, hg5, tie2⟩ := hu5
  replace hg5 : thSet (xsI xs (i + 1)) (xsI xs (i + 2)) = 0 → g2 0 = lZ (wz (f (4 + (xsI xs (i + 1))))) := hg5
  replace tie2 : Tie (if thSet (xsI xs (i + 1)) (xsI xs (i + 2)) = 0 then zu f (4 + (xsI xs (i + 1))) (xsI xs (i + 2)) else f) (if thSet (xsI xs (i + 1)) (xsI xs (i + 2)) = 0 then svS sv f sm else sv) x (if thSet (xsI xs (i + 1)) (xsI xs (i + 2)) = 0 then smS sm else sm) ln S2 := tie2
  obtain rfl : r5 = iZ (thSet (xsI xs (i + 1)) (xsI xs (i + 2))) := hr5
  show Gz p l e room_1 s m args below meth c 9 (k + 1) (n + 6) Q (Zw D vwCl (fun q => s.heap.size ≤ q) s ((wBq y o a2 S2 tb x ln (if thSet (xsI xs (i + 1)) (xsI xs (i + 2)) = 0 then smS sm else sm) (sav a2) p6 ++ wO1 y ob g2) ++ wM y am f sv ai x sm ln th hh)) 317 [(4, .int (iZ i)), (0, .ref b), (1, .ref (o 0)), (2, .ref (am 0)), (3, .ref ob)] [.int (iZ (thSet (xsI xs (i + 1)) (xsI xs (i + 2))))]
  refine z_istore mx mb dL_law_317 (by decide) [(5, .int (iZ (thSet (xsI xs (i + 1)) (xsI xs (i + 2))))), (4, .int (iZ i)), (0, .ref b), (1, .ref (o 0)), (2, .ref (am 0)), (3, .ref ob)] rfl ?_
  refine z_aload_n mx mb dL_law_319 rfl 4 rfl ?_
  refine z_aload_n mx mb dL_law_320 rfl 2 rfl ?_
  refine z_iload mx mb dL_law_321 1 rfl ?_
  refine z_iconst mx mb dL_law_323 ?_
  refine z_iadd mx mb dL_law_324 ?_
  refine z_sld mx mb hX hbl hbA (by omega) hL dL_law_325 ?_
  refine z_aload_n mx mb dL_law_326 rfl 2 rfl ?_
  refine z_iload mx mb dL_law_327 1 rfl ?_
  refine z_iconst mx mb dL_law_329 ?_
  refine z_iadd mx mb dL_law_330 ?_
  refine z_sld mx mb hX hbl hbA (by omega) hL dL_law_331 ?_
  refine z_callI (wa := (wBq y o a2 S2 tb x ln (if thSet (xsI xs (i + 1)) (xsI xs (i + 2)) = 0 then smS sm else sm) (sav a2) p6 ++ wO1 y ob g2)) (wc := wM y am f sv ai x sm ln th hh) (wb := []) (As := [.int (iZ (xsI xs (i + 1))), .int (iZ (xsI xs (i + 2)))]) (rest := []) ⟨mx, mb, mml, mo, mts⟩ hK hA (fun sz => c_X5_set l D sz y am f sv ai x sm ln th hh (xsI xs (i + 1)) (xsI xs (i + 2)) x1 x2 hI hsc) (cwV 2 mts gL_law_X5_set rfl rfl rfl (by decide +kernel) ⟨Nat.le_of_ble_eq_true rfl, Nat.le_of_ble_eq_true rfl⟩) (List.append_nil _).symm 95 rfl rfl rfl rfl rfl (Nat.le_of_ble_eq_true rfl) ⟨by show _ ≤ 601024; omega, by show _ ≤ 7293034; omega⟩ dL_law_332 (fun r6 u6 hu6 => ?_)
  obtain rfl : r6 = iZ (if thSet (xsI xs (i + 1)) (xsI xs (i + 2)) = 0 then f (4 + (xsI xs (i + 1))) else 0) := hu6
  rw [List.append_nil]
  show Gz p l e room_1 s m args below meth c 9 (k + 1) (n + 6) Q (Zw D vwCl (fun q => s.heap.size ≤ q) s ((wBq y o a2 S2 tb x ln (if thSet (xsI xs (i + 1)) (xsI xs (i + 2)) = 0 then smS sm else sm) (sav a2) p6 ++ wO1 y ob g2) ++ wM y am (if thSet (xsI xs (i + 1)) (xsI xs (i + 2)) = 0 then zu f (4 + (xsI xs (i + 1))) (xsI xs (i + 2)) else f) (if thSet (xsI xs (i + 1)) (xsI xs (i + 2)) = 0 then svS sv f sm else sv) ai x (if thSet (xsI xs (i + 1)) (xsI xs (i + 2)) = 0 then smS sm else sm) ln (thSet (xsI xs (i + 1)) (xsI xs (i + 2))) hh)) 335 [(5, .int (iZ (thSet (xsI xs (i + 1)) (xsI xs (i + 2))))), (4, .int (iZ i)), (0, .ref b), (1, .ref (o 0)), (2, .ref (am 0)), (3, .ref ob)] [.int (iZ (if thSet (xsI xs (i + 1)) (xsI xs (i + 2)) = 0 then f (4 + (xsI xs (i + 1))) else 0))]
  refine z_istore mx mb dL_law_335 (by decide) [(6, .int (iZ (if thSet (xsI xs (i + 1)) (xsI xs (i + 2)) = 0 then f (4 + (xsI xs (i + 1))) else 0))), (5, .int (iZ (thSet (xsI xs (i + 1)) (xsI xs (i + 2))))), (4, .int (iZ i)), (0, .ref b), (1, .ref (o 0)), (2, .ref (am 0)), (3, .ref ob)] rfl ?_
  refine z_aload_n mx mb dL_law_337 rfl 5 rfl ?_
  refine z_callP (As := []) (rest := []) ⟨mx, mb, mml, mo, mts⟩ hK zgw (c_X5_thrown l D y am (if thSet (xsI xs (i + 1)) (xsI xs (i + 2)) = 0 then zu f (4 + (xsI xs (i + 1))) (xsI xs (i + 2)) else f) (if thSet (xsI xs (i + 1)) (xsI xs (i + 2)) = 0 then svS sv f sm else sv) ai x (if thSet (xsI xs (i + 1)) (xsI xs (i + 2)) = 0 then smS sm else sm) ln (thSet (xsI xs (i + 1)) (xsI xs (i + 2))) hh) (cwV 0 mts gL_law_X5_thrown rfl rfl rfl (by decide +kernel) ⟨Nat.le_of_ble_eq_true rfl, Nat.le_of_ble_eq_true rfl⟩) (fun _ h => List.mem_append_right _ h) 95 rfl rfl rfl rfl rfl (Nat.le_of_ble_eq_true rfl) ⟨by show _ ≤ 601024; omega, by show _ ≤ 7293034; omega⟩ dL_law_338 ?_
  refine z_iload mx mb dL_law_341 1 rfl ?_
  have hth : -2147483648 ≤ thSet (xsI xs (i + 1)) (xsI xs (i + 2)) ∧ thSet (xsI xs (i + 1)) (xsI xs (i + 2)) ≤ 2147483647 := by have q := thSet_c (xsI xs (i + 1)) (xsI xs (i + 2)); omega
  refine z_icmp_eq (tgt := 348) mx mb hth hth dL_law_343 (by decide) (fun _ => ?_) (fun h => absurd rfl h)
  refine z_iload mx mb dL_law_348 1 rfl ?_
  have fin : Gz p l e room_1 s m args below meth c 9 (k + 1) (n + 6) Q (Zw D vwCl (fun q => s.heap.size ≤ q) s ((wBq y o a2 S2 tb x ln (if thSet (xsI xs (i + 1)) (xsI xs (i + 2)) = 0 then smS sm else sm) (sav a2) p6 ++ wO1 y ob g2) ++ wM y am (if thSet (xsI xs (i + 1)) (xsI xs (i + 2)) = 0 then zu f (4 + (xsI xs (i + 1))) (xsI xs (i + 2)) else f) (if thSet (xsI xs (i + 1)) (xsI xs (i + 2)) = 0 then svS sv f sm else sv) ai x (if thSet (xsI xs (i + 1)) (xsI xs (i + 2)) = 0 then smS sm else sm) ln (thSet (xsI xs (i + 1)) (xsI xs (i + 2))) hh)) 365 [(6, .int (iZ (if thSet (xsI xs (i + 1)) (xsI xs (i + 2)) = 0 then f (4 + (xsI xs (i + 1))) else 0))), (5, .int (iZ (thSet (xsI xs (i + 1)) (xsI xs (i + 2))))), (4, .int (iZ i)), (0, .ref b), (1, .ref (o 0)), (2, .ref (am 0)), (3, .ref ob)] [] := by
    refine z_goto (tgt := 1251) mx mb dL_law_365 (by decide) ?_
    refine z_lv [2, 3, 4, 5, 6] rfl ?_
    exact K a2 S2 x ln (if thSet (xsI xs (i + 1)) (xsI xs (i + 2)) = 0 then smS sm else sm) g2 (if thSet (xsI xs (i + 1)) (xsI xs (i + 2)) = 0 then zu f (4 + (xsI xs (i + 1))) (xsI xs (i + 2)) else f) (if thSet (xsI xs (i + 1)) (xsI xs (i + 2)) = 0 then svS sv f sm else sv) ai (thSet (xsI xs (i + 1)) (xsI xs (i + 2))) hh tie2
  refine z_if_ne (tgt := 365) mx mb hth dL_law_350 (by decide) (fun _ => fin) (fun h0 => ?_)
  refine z_aload_n mx mb dL_law_353 rfl 6 rfl ?_
  refine z_iconst mx mb dL_law_354 ?_
  refine z_lald mx mb hK 94 3 rfl rfl dL_law_355 ?_
  refine z_iload mx mb dL_law_356 0 rfl ?_
  refine z_i2lw mx mb dL_law_358 ?_
  refine z_lcmp0 mx mb (by rw [hg5 h0, if_pos h0]) dL_law_359 ?_
  exact z_if_eq (tgt := 365) mx mb (by decide) dL_law_360 (by decide) (fun _ => fin) (fun h => absurd rfl h)

set_option maxRecDepth 100000 in
set_option maxHeartbeats 4000000 in
theorem lc_setHeight {p : Program} {l : Launch} {e : Env} {s : State} {m : MethodId} {args : Array Value} {below : List Frame} {meth : Method} {c : Code} {b L : Nat} {xs : Nat → Int32} {D : va_G} {y : Nat → ClassId} {Q : State → Prop} (C : LC p l s m args meth c b L xs D y) {o : Nat → Nat} {tb : Nat → Nat} {ob : Nat} {am : Nat → Nat} (a : Nat → Nat → Nat) (S : Nat → Nat → Int → Int) (x : Int → Int) (ln sm : Int) (g : Nat → Int64) (f sv ai : Int → Int) (th hh : Int) (i : Int) (hi : 0 ≤ i ∧ i + 2 < (L : Int)) {k n : Nat} (hk : k + 2 ≤ 601024) (hn : n + 7 ≤ 7293034) (hT : Tie f sv x sm ln S)
    (K : ∀ (a : Nat → Nat → Nat) (S : Nat → Nat → Int → Int) (x : Int → Int) (ln sm : Int) (g : Nat → Int64) (f sv ai : Int → Int) (th hh : Int), Tie f sv x sm ln S → Gz p l e room_1 s m args below meth c 9 (k + 1) (n + 6) Q (Zw D vwCl (fun q => s.heap.size ≤ q) s (LWd y o a S tb x ln sm ob g am f sv ai th hh)) 1251 (lv0 b o am ob i) []) : Gz p l e room_1 s m args below meth c 9 k n Q (Zw D vwCl (fun q => s.heap.size ≤ q) s (LWd y o a S tb x ln sm ob g am f sv ai th hh)) 368 (lv0 b o am ob i) [] := by
  obtain ⟨mx, mb, mml, mo, mts, hK, hE, hX, hbl, hl0, hL⟩ := C
  have hA : ∀ q : Nat, s.heap.size ≤ q → (fun q : Nat => s.heap.size ≤ q) q := fun _ h => h
  have hbA : ¬ (fun q : Nat => s.heap.size ≤ q) b := Nat.not_le.mpr hbl
  obtain ⟨⟨hR, hI, kp⟩, hsc, hTS, hl, htx⟩ := id hT
  have x1 := xsI_rng xs (i + 1)
  have x2 := xsI_rng xs (i + 2)
  show Gz p l e room_1 s m args below meth c 9 k n Q (Zw D vwCl (fun q => s.heap.size ≤ q) s ((wBq y o a S tb x ln sm (sav a) p6 ++ wO1 y ob g) ++ wM y am f sv ai x sm ln th hh)) 368 [(4, .int (iZ i)), (0, .ref b), (1, .ref (o 0)), (2, .ref (am 0)), (3, .ref ob)] []
  refine z_aload_n mx mb dL_law_368 rfl 2 rfl ?_
  refine z_aload_n mx mb dL_law_369 rfl 1 rfl ?_
  refine z_iload mx mb dL_law_370 0 rfl ?_
  refine z_iconst mx mb dL_law_372 ?_
  refine z_iadd mx mb dL_law_373 ?_
  refine z_sld mx mb hX hbl hbA (by omega) hL dL_law_374 ?_
  refine z_aload_n mx mb dL_law_375 rfl 1 rfl ?_
  refine z_iload mx mb dL_law_376 0 rfl ?_
  refine z_iconst mx mb dL_law_378 ?_
  refine z_iadd mx mb dL_law_379 ?_
  refine z_sld mx mb hX hbl hbA (by omega) hL dL_law_380 ?_
  refine z_aload_n mx mb dL_law_381 rfl 4 rfl ?_
  refine z_callSI (wa := []) (wc := (wBq y o a S tb x ln sm (sav a) p6 ++ wO1 y ob g)) (wb := wM y am f sv ai x sm ln th hh) (As := [.ref (o 0), .int (iZ (xsI xs (i + 1))), .int (iZ (xsI xs (i + 2))), .ref ob]) (rest := []) ⟨mx, mb, mml, mo, mts⟩ hK hA hE (fun sz => c_L_setHeight l hl0 D sz y o a S tb x ln sm f sv (xsI xs (i + 1)) (xsI xs (i + 2)) ob g x1 x2 hT) (vx_cwSW 4 mts gL_law_L_setHeight rfl rfl rfl (by decide +kernel) ⟨Nat.le_of_ble_eq_true rfl, Nat.le_of_ble_eq_true rfl⟩) rfl rfl rfl (Nat.le_of_ble_eq_true rfl) ⟨by show _ ≤ 601024; omega, by show _ ≤ 7293034; omega⟩ dL_law_382 (fun r5 u5 hu5 => ?_)
  obtain ⟨a2, S2, g2⟩ := u5
  obtain ⟨hr5, hg5, tie2⟩ := hu5
  replace hg5 : thHgt f (xsI xs (i + 1)) (xsI xs (i + 2)) = 0 → g2 0 = lZ (wz (f (11 + (xsI xs (i + 1))))) := hg5
  replace tie2 : Tie (if thHgt f (xsI xs (i + 1)) (xsI xs (i + 2)) = 0 then zu f (11 + (xsI xs (i + 1))) (xsI xs (i + 2)) else f) (if thHgt f (xsI xs (i + 1)) (xsI xs (i + 2)) = 0 then svS sv f sm else sv) x (if thHgt f (xsI xs (i + 1)) (xsI xs (i + 2)) = 0 then smS sm else sm) ln S2 := tie2
  obtain rfl : r5 = iZ (thHgt f (xsI xs (i + 1)) (xsI xs (i + 2))) := hr5
  show Gz p l e room_1 s m args below meth c 9 (k + 1) (n + 6) Q (Zw D vwCl (fun q => s.heap.size ≤ q) s ((wBq y o a2 S2 tb x ln (if thHgt f (xsI xs (i + 1)) (xsI xs (i + 2)) = 0 then smS sm else sm) (sav a2) p6 ++ wO1 y ob g2) ++ wM y am f sv ai x sm ln th hh)) 385 [(4, .int (iZ i)), (0, .ref b), (1, .ref (o 0)), (2, .ref (am 0)), (3, .ref ob)] [.int (iZ (thHgt f (xsI xs (i + 1)) (xsI xs (i + 2))))]
  refine z_istore mx mb dL_law_385 (by decide) [(5, .int (iZ (thHgt f (xsI xs (i + 1)) (xsI xs (i + 2))))), (4, .int (iZ i)), (0, .ref b), (1, .ref (o 0)), (2, .ref (am 0)), (3, .ref ob)] rfl ?_
  refine z_aload_n mx mb dL_law_387 rfl 4 rfl ?_
  refine z_aload_n mx mb dL_law_388 rfl 2 rfl ?_
  refine z_iload mx mb dL_law_389 1 rfl ?_
  refine z_iconst mx mb dL_law_391 ?_
  refine z_iadd mx mb dL_law_392 ?_
  refine z_sld mx mb hX hbl hbA (by omega) hL dL_law_393 ?_
  refine z_aload_n mx mb dL_law_394 rfl 2 rfl ?_
  refine z_iload mx mb dL_law_395 1 rfl ?_
  refine z_iconst mx mb dL_law_397 ?_
  refine z_iadd mx mb dL_law_398 ?_
  refine z_sld mx mb hX hbl hbA (by omega) hL dL_law_399 ?_
  refine z_callI (wa := (wBq y o a2 S2 tb x ln (if thHgt f (xsI xs (i + 1)) (xsI xs (i + 2)) = 0 then smS sm else sm) (sav a2) p6 ++ wO1 y ob g2)) (wc := wM y am f sv ai x sm ln th hh) (wb := []) (As := [.int (iZ (xsI xs (i + 1))), .int (iZ (xsI xs (i + 2)))]) (rest := []) ⟨mx, mb, mml, mo, mts⟩ hK hA (fun sz => c_X5_setHeight l D sz y am f sv ai x sm ln th hh (xsI xs (i + 1)) (xsI xs (i + 2)) x1 x2 hI hsc) (cwV 2 mts gL_law_X5_setHeight rfl rfl rfl (by decide +kernel) ⟨Nat.le_of_ble_eq_true rfl, Nat.le_of_ble_eq_true rfl⟩) (List.append_nil _).symm 95 rfl rfl rfl rfl rfl (Nat.le_of_ble_eq_true rfl) ⟨by show _ ≤ 601024; omega, by show _ ≤ 7293034; omega⟩ dL_law_400 (fun r6 u6 hu6 => ?_)
  obtain rfl : r6 = iZ (if thHgt f (xsI xs (i + 1)) (xsI xs (i + 2)) = 0 then f (11 + (xsI xs (i + 1))) else 0) := hu6
  rw [List.append_nil]
  show Gz p l e room_1 s m args below meth c 9 (k + 1) (n + 6) Q (Zw D vwCl (fun q => s.heap.size ≤ q) s ((wBq y o a2 S2 tb x ln (if thHgt f (xsI xs (i + 1)) (xsI xs (i + 2)) = 0 then smS sm else sm) (sav a2) p6 ++ wO1 y ob g2) ++ wM y am (if thHgt f (xsI xs (i + 1)) (xsI xs (i + 2)) = 0 then zu f (11 + (xsI xs (i + 1))) (xsI xs (i + 2)) else f) (if thHgt f (xsI xs (i + 1)) (xsI xs (i + 2)) = 0 then svS sv f sm else sv) ai x (if thHgt f (xsI xs (i + 1)) (xsI xs (i + 2)) = 0 then smS sm else sm) ln (thHgt f (xsI xs (i + 1)) (xsI xs (i + 2))) hh)) 403 [(5, .int (iZ (thHgt f (xsI xs (i + 1)) (xsI xs (i + 2))))), (4, .int (iZ i)), (0, .ref b), (1, .ref (o 0)), (2, .ref (am 0)), (3, .ref ob)] [.int (iZ (if thHgt f (xsI xs (i + 1)) (xsI xs (i + 2)) = 0 then f (11 + (xsI xs (i + 1))) else 0))]
  refine z_istore mx mb dL_law_403 (by decide) [(6, .int (iZ (if thHgt f (xsI xs (i + 1)) (xsI xs (i + 2)) = 0 then f (11 + (xsI xs (i + 1))) else 0))), (5, .int (iZ (thHgt f (xsI xs (i + 1)) (xsI xs (i + 2))))), (4, .int (iZ i)), (0, .ref b), (1, .ref (o 0)), (2, .ref (am 0)), (3, .ref ob)] rfl ?_
  refine z_aload_n mx mb dL_law_405 rfl 5 rfl ?_
  refine z_callP (As := []) (rest := []) ⟨mx, mb, mml, mo, mts⟩ hK zgw (c_X5_thrown l D y am (if thHgt f (xsI xs (i + 1)) (xsI xs (i + 2)) = 0 then zu f (11 + (xsI xs (i + 1))) (xsI xs (i + 2)) else f) (if thHgt f (xsI xs (i + 1)) (xsI xs (i + 2)) = 0 then svS sv f sm else sv) ai x (if thHgt f (xsI xs (i + 1)) (xsI xs (i + 2)) = 0 then smS sm else sm) ln (thHgt f (xsI xs (i + 1)) (xsI xs (i + 2))) hh) (cwV 0 mts gL_law_X5_thrown rfl rfl rfl (by decide +kernel) ⟨Nat.le_of_ble_eq_true rfl, Nat.le_of_ble_eq_true rfl⟩) (fun _ h => List.mem_append_right _ h) 95 rfl rfl rfl rfl rfl (Nat.le_of_ble_eq_true rfl) ⟨by show _ ≤ 601024; omega, by show _ ≤ 7293034; omega⟩ dL_law_406 ?_
  refine z_iload mx mb dL_law_409 1 rfl ?_
  have hth : -2147483648 ≤ thHgt f (xsI xs (i + 1)) (xsI xs (i + 2)) ∧ thHgt f (xsI xs (i + 1)) (xsI xs (i + 2)) ≤ 2147483647 := by have q := thHgt_c f (xsI xs (i + 1)) (xsI xs (i + 2)); omega
  refine z_icmp_eq (tgt := 416) mx mb hth hth dL_law_411 (by decide) (fun _ => ?_) (fun h => absurd rfl h)
  refine z_iload mx mb dL_law_416 1 rfl ?_
  have fin : Gz p l e room_1 s m args below meth c 9 (k + 1) (n + 6) Q (Zw D vwCl (fun q => s.heap.size ≤ q) s ((wBq y o a2 S2 tb x ln (if thHgt f (xsI xs (i + 1)) (xsI xs (i + 2)) = 0 then smS sm else sm) (sav a2) p6 ++ wO1 y ob g2) ++ wM y am (if thHgt f (xsI xs (i + 1)) (xsI xs (i + 2)) = 0 then zu f (11 + (xsI xs (i + 1))) (xsI xs (i + 2)) else f) (if thHgt f (xsI xs (i + 1)) (xsI xs (i + 2)) = 0 then svS sv f sm else sv) ai x (if thHgt f (xsI xs (i + 1)) (xsI xs (i + 2)) = 0 then smS sm else sm) ln (thHgt f (xsI xs (i + 1)) (xsI xs (i + 2))) hh)) 433 [(6, .int (iZ (if thHgt f (xsI xs (i + 1)) (xsI xs (i + 2)) = 0 then f (11 + (xsI xs (i + 1))) else 0))), (5, .int (iZ (thHgt f (xsI xs (i + 1)) (xsI xs (i + 2))))), (4, .int (iZ i)), (0, .ref b), (1, .ref (o 0)), (2, .ref (am 0)), (3, .ref ob)] [] := by
    refine z_goto (tgt := 1251) mx mb dL_law_433 (by decide) ?_
    refine z_lv [2, 3, 4, 5, 6] rfl ?_
    exact K a2 S2 x ln (if thHgt f (xsI xs (i + 1)) (xsI xs (i + 2)) = 0 then smS sm else sm) g2 (if thHgt f (xsI xs (i + 1)) (xsI xs (i + 2)) = 0 then zu f (11 + (xsI xs (i + 1))) (xsI xs (i + 2)) else f) (if thHgt f (xsI xs (i + 1)) (xsI xs (i + 2)) = 0 then svS sv f sm else sv) ai (thHgt f (xsI xs (i + 1)) (xsI xs (i + 2))) hh tie2
  refine z_if_ne (tgt := 433) mx mb hth dL_law_418 (by decide) (fun _ => fin) (fun h0 => ?_)
  refine z_aload_n mx mb dL_law_421 rfl 6 rfl ?_
  refine z_iconst mx mb dL_law_422 ?_
  refine z_lald mx mb hK 94 3 rfl rfl dL_law_423 ?_
  refine z_iload mx mb dL_law_424 0 rfl ?_
  refine z_i2lw mx mb dL_law_426 ?_
  refine z_lcmp0 mx mb (by rw [hg5 h0, if_pos h0]) dL_law_427 ?_
  exact z_if_eq (tgt := 433) mx mb (by decide) dL_law_428 (by decide) (fun _ => fin) (fun h => absurd rfl h)

set_option maxRecDepth 100000 in
set_option maxHeartbeats 4000000 in
theorem lc_pass {p : Program} {l : Launch} {e : Env} {s : State} {m : MethodId} {args : Array Value} {below : List Frame} {meth : Method} {c : Code} {b L : Nat} {xs : Nat → Int32} {D : va_G} {y : Nat → ClassId} {Q : State → Prop} (C : LC p l s m args meth c b L xs D y) {o : Nat → Nat} {tb : Nat → Nat} {ob : Nat} {am : Nat → Nat} (a : Nat → Nat → Nat) (S : Nat → Nat → Int → Int) (x : Int → Int) (ln sm : Int) (g : Nat → Int64) (f sv ai : Int → Int) (th hh : Int) (i : Int) (hi : 0 ≤ i ∧ i + 2 < (L : Int)) {k n : Nat} (hk : k + 2 ≤ 601024) (hn : n + 7 ≤ 7293034) (hT : Tie f sv x sm ln S)
    (K : ∀ (a : Nat → Nat → Nat) (S : Nat → Nat → Int → Int) (x : Int → Int) (ln sm : Int) (g : Nat → Int64) (f sv ai : Int → Int) (th hh : Int), Tie f sv x sm ln S → Gz p l e room_1 s m args below meth c 9 (k + 1) (n + 6) Q (Zw D vwCl (fun q => s.heap.size ≤ q) s (LWd y o a S tb x ln sm ob g am f sv ai th hh)) 1251 (lv0 b o am ob i) []) : Gz p l e room_1 s m args below meth c 9 k n Q (Zw D vwCl (fun q => s.heap.size ≤ q) s (LWd y o a S tb x ln sm ob g am f sv ai th hh)) 436 (lv0 b o am ob i) [] := by
  obtain ⟨mx, mb, mml, mo, mts, hK, hE, hX, hbl, hl0, hL⟩ := C
  have hA : ∀ q : Nat, s.heap.size ≤ q → (fun q : Nat => s.heap.size ≤ q) q := fun _ h => h
  have hbA : ¬ (fun q : Nat => s.heap.size ≤ q) b := Nat.not_le.mpr hbl
  obtain ⟨⟨hR, hI, kp⟩, hsc, hTS, hl, htx⟩ := id hT
  have x1 := xsI_rng xs (i + 1)
  have x2 := xsI_rng xs (i + 2)
  show Gz p l e room_1 s m args below meth c 9 k n Q (Zw D vwCl (fun q => s.heap.size ≤ q) s ((wBq y o a S tb x ln sm (sav a) p6 ++ wO1 y ob g) ++ wM y am f sv ai x sm ln th hh)) 436 [(4, .int (iZ i)), (0, .ref b), (1, .ref (o 0)), (2, .ref (am 0)), (3, .ref ob)] []
  refine z_aload_n mx mb dL_law_436 rfl 2 rfl ?_
  refine z_aload_n mx mb dL_law_437 rfl 1 rfl ?_
  refine z_iload mx mb dL_law_438 0 rfl ?_
  refine z_iconst mx mb dL_law_440 ?_
  refine z_iadd mx mb dL_law_441 ?_
  refine z_sld mx mb hX hbl hbA (by omega) hL dL_law_442 ?_
  refine z_aload_n mx mb dL_law_443 rfl 4 rfl ?_
  refine z_callSI (wa := []) (wc := (wBq y o a S tb x ln sm (sav a) p6 ++ wO1 y ob g)) (wb := wM y am f sv ai x sm ln th hh) (As := [.ref (o 0), .int (iZ (xsI xs (i + 1))), .ref ob]) (rest := []) ⟨mx, mb, mml, mo, mts⟩ hK hA hE (fun sz => c_L_pass l hl0 D sz y o a S tb x ln sm f sv (xsI xs (i + 1)) ob g x1 hT) (vx_cwSW 3 mts gL_law_L_pass rfl rfl rfl (by decide +kernel) ⟨Nat.le_of_ble_eq_true rfl, Nat.le_of_ble_eq_true rfl⟩) rfl rfl rfl (Nat.le_of_ble_eq_true rfl) ⟨by show _ ≤ 601024; omega, by show _ ≤ 7293034; omega⟩ dL_law_444 (fun r5 u5 hu5 => ?_)
  obtain ⟨a2, S2, g2⟩ := u5
  obtain ⟨hr5, hg5, tie2⟩ := hu5
  replace hg5 : thPass f (xsI xs (i + 1)) = 0 → g2 0 = lZ (wz (ticks f (xsI xs (i + 1)).toNat 8 - f 8)) := hg5
  replace tie2 : Tie (if thPass f (xsI xs (i + 1)) = 0 then ticks f (xsI xs (i + 1)).toNat else f) (if thPass f (xsI xs (i + 1)) = 0 then svS sv f sm else sv) x (if thPass f (xsI xs (i + 1)) = 0 then smS sm else sm) ln S2 := tie2
  obtain rfl : r5 = iZ (thPass f (xsI xs (i + 1))) := hr5
  show Gz p l e room_1 s m args below meth c 9 (k + 1) (n + 6) Q (Zw D vwCl (fun q => s.heap.size ≤ q) s ((wBq y o a2 S2 tb x ln (if thPass f (xsI xs (i + 1)) = 0 then smS sm else sm) (sav a2) p6 ++ wO1 y ob g2) ++ wM y am f sv ai x sm ln th hh)) 447 [(4, .int (iZ i)), (0, .ref b), (1, .ref (o 0)), (2, .ref (am 0)), (3, .ref ob)] [.int (iZ (thPass f (xsI xs (i + 1))))]
  refine z_istore mx mb dL_law_447 (by decide) [(5, .int (iZ (thPass f (xsI xs (i + 1))))), (4, .int (iZ i)), (0, .ref b), (1, .ref (o 0)), (2, .ref (am 0)), (3, .ref ob)] rfl ?_
  refine z_aload_n mx mb dL_law_449 rfl 4 rfl ?_
  refine z_aload_n mx mb dL_law_450 rfl 2 rfl ?_
  refine z_iload mx mb dL_law_451 1 rfl ?_
  refine z_iconst mx mb dL_law_453 ?_
  refine z_iadd mx mb dL_law_454 ?_
  refine z_sld mx mb hX hbl hbA (by omega) hL dL_law_455 ?_
  refine z_callI (wa := (wBq y o a2 S2 tb x ln (if thPass f (xsI xs (i + 1)) = 0 then smS sm else sm) (sav a2) p6 ++ wO1 y ob g2)) (wc := wM y am f sv ai x sm ln th hh) (wb := []) (As := [.int (iZ (xsI xs (i + 1)))]) (rest := []) ⟨mx, mb, mml, mo, mts⟩ hK hA (fun sz => c_X5_pass l D sz y am f sv ai x sm ln th hh (xsI xs (i + 1)) x1 hI hsc) (cwV 1 mts gL_law_X5_pass rfl rfl rfl (by decide +kernel) ⟨Nat.le_of_ble_eq_true rfl, Nat.le_of_ble_eq_true rfl⟩) (List.append_nil _).symm 95 rfl rfl rfl rfl rfl (Nat.le_of_ble_eq_true rfl) ⟨by show _ ≤ 601024; omega, by show _ ≤ 7293034; omega⟩ dL_law_456 (fun r6 u6 hu6 => ?_)
  obtain rfl : r6 = iZ (if thPass f (xsI xs (i + 1)) = 0 then ticks f (xsI xs (i + 1)).toNat 8 - f 8 else 0) := hu6
  rw [List.append_nil]
  show Gz p l e room_1 s m args below meth c 9 (k + 1) (n + 6) Q (Zw D vwCl (fun q => s.heap.size ≤ q) s ((wBq y o a2 S2 tb x ln (if thPass f (xsI xs (i + 1)) = 0 then smS sm else sm) (sav a2) p6 ++ wO1 y ob g2) ++ wM y am (if thPass f (xsI xs (i + 1)) = 0 then ticks f (xsI xs (i + 1)).toNat else f) (if thPass f (xsI xs (i + 1)) = 0 then svS sv f sm else sv) ai x (if thPass f (xsI xs (i + 1)) = 0 then smS sm else sm) ln (thPass f (xsI xs (i + 1))) hh)) 459 [(5, .int (iZ (thPass f (xsI xs (i + 1))))), (4, .int (iZ i)), (0, .ref b), (1, .ref (o 0)), (2, .ref (am 0)), (3, .ref ob)] [.int (iZ (if thPass f (xsI xs (i + 1)) = 0 then ticks f (xsI xs (i + 1)).toNat 8 - f 8 else 0))]
  refine z_istore mx mb dL_law_459 (by decide) [(6, .int (iZ (if thPass f (xsI xs (i + 1)) = 0 then ticks f (xsI xs (i + 1)).toNat 8 - f 8 else 0))), (5, .int (iZ (thPass f (xsI xs (i + 1))))), (4, .int (iZ i)), (0, .ref b), (1, .ref (o 0)), (2, .ref (am 0)), (3, .ref ob)] rfl ?_
  refine z_aload_n mx mb dL_law_461 rfl 5 rfl ?_
  refine z_callP (As := []) (rest := []) ⟨mx, mb, mml, mo, mts⟩ hK zgw (c_X5_thrown l D y am (if thPass f (xsI xs (i + 1)) = 0 then ticks f (xsI xs (i + 1)).toNat else f) (if thPass f (xsI xs (i + 1)) = 0 then svS sv f sm else sv) ai x (if thPass f (xsI xs (i + 1)) = 0 then smS sm else sm) ln (thPass f (xsI xs (i + 1))) hh) (cwV 0 mts gL_law_X5_thrown rfl rfl rfl (by decide +kernel) ⟨Nat.le_of_ble_eq_true rfl, Nat.le_of_ble_eq_true rfl⟩) (fun _ h => List.mem_append_right _ h) 95 rfl rfl rfl rfl rfl (Nat.le_of_ble_eq_true rfl) ⟨by show _ ≤ 601024; omega, by show _ ≤ 7293034; omega⟩ dL_law_462 ?_
  refine z_iload mx mb dL_law_465 1 rfl ?_
  have hth : -2147483648 ≤ thPass f (xsI xs (i + 1)) ∧ thPass f (xsI xs (i + 1)) ≤ 2147483647 := by have q := thPass_c f (xsI xs (i + 1)); omega
  refine z_icmp_eq (tgt := 472) mx mb hth hth dL_law_467 (by decide) (fun _ => ?_) (fun h => absurd rfl h)
  refine z_iload mx mb dL_law_472 1 rfl ?_
  have fin : Gz p l e room_1 s m args below meth c 9 (k + 1) (n + 6) Q (Zw D vwCl (fun q => s.heap.size ≤ q) s ((wBq y o a2 S2 tb x ln (if thPass f (xsI xs (i + 1)) = 0 then smS sm else sm) (sav a2) p6 ++ wO1 y ob g2) ++ wM y am (if thPass f (xsI xs (i + 1)) = 0 then ticks f (xsI xs (i + 1)).toNat else f) (if thPass f (xsI xs (i + 1)) = 0 then svS sv f sm else sv) ai x (if thPass f (xsI xs (i + 1)) = 0 then smS sm else sm) ln (thPass f (xsI xs (i + 1))) hh)) 489 [(6, .int (iZ (if thPass f (xsI xs (i + 1)) = 0 then ticks f (xsI xs (i + 1)).toNat 8 - f 8 else 0))), (5, .int (iZ (thPass f (xsI xs (i + 1))))), (4, .int (iZ i)), (0, .ref b), (1, .ref (o 0)), (2, .ref (am 0)), (3, .ref ob)] [] := by
    refine z_goto (tgt := 1251) mx mb dL_law_489 (by decide) ?_
    refine z_lv [2, 3, 4, 5, 6] rfl ?_
    exact K a2 S2 x ln (if thPass f (xsI xs (i + 1)) = 0 then smS sm else sm) g2 (if thPass f (xsI xs (i + 1)) = 0 then ticks f (xsI xs (i + 1)).toNat else f) (if thPass f (xsI xs (i + 1)) = 0 then svS sv f sm else sv) ai (thPass f (xsI xs (i + 1))) hh tie2
  refine z_if_ne (tgt := 489) mx mb hth dL_law_474 (by decide) (fun _ => fin) (fun h0 => ?_)
  refine z_aload_n mx mb dL_law_477 rfl 6 rfl ?_
  refine z_iconst mx mb dL_law_478 ?_
  refine z_lald mx mb hK 94 3 rfl rfl dL_law_479 ?_
  refine z_iload mx mb dL_law_480 0 rfl ?_
  refine z_i2lw mx mb dL_law_482 ?_
  refine z_lcmp0 mx mb (by rw [hg5 h0, if_pos h0]) dL_law_483 ?_
  exact z_if_eq (tgt := 489) mx mb (by decide) dL_law_484 (by decide) (fun _ => fin) (fun h => absurd rfl h)

set_option maxRecDepth 100000 in
set_option maxHeartbeats 4000000 in
theorem lc_train {p : Program} {l : Launch} {e : Env} {s : State} {m : MethodId} {args : Array Value} {below : List Frame} {meth : Method} {c : Code} {b L : Nat} {xs : Nat → Int32} {D : va_G} {y : Nat → ClassId} {Q : State → Prop} (C : LC p l s m args meth c b L xs D y) {o : Nat → Nat} {tb : Nat → Nat} {ob : Nat} {am : Nat → Nat} (a : Nat → Nat → Nat) (S : Nat → Nat → Int → Int) (x : Int → Int) (ln sm : Int) (g : Nat → Int64) (f sv ai : Int → Int) (th hh : Int) (i : Int) (hi : 0 ≤ i ∧ i + 2 < (L : Int)) {k n : Nat} (hk : k + 2 ≤ 601024) (hn : n + 7 ≤ 7293034) (hT : Tie f sv x sm ln S)
    (K : ∀ (a : Nat → Nat → Nat) (S : Nat → Nat → Int → Int) (x : Int → Int) (ln sm : Int) (g : Nat → Int64) (f sv ai : Int → Int) (th hh : Int), Tie f sv x sm ln S → Gz p l e room_1 s m args below meth c 9 (k + 1) (n + 6) Q (Zw D vwCl (fun q => s.heap.size ≤ q) s (LWd y o a S tb x ln sm ob g am f sv ai th hh)) 1251 (lv0 b o am ob i) []) : Gz p l e room_1 s m args below meth c 9 k n Q (Zw D vwCl (fun q => s.heap.size ≤ q) s (LWd y o a S tb x ln sm ob g am f sv ai th hh)) 492 (lv0 b o am ob i) [] := by
  obtain ⟨mx, mb, mml, mo, mts, hK, hE, hX, hbl, hl0, hL⟩ := C
  have hA : ∀ q : Nat, s.heap.size ≤ q → (fun q : Nat => s.heap.size ≤ q) q := fun _ h => h
  have hbA : ¬ (fun q : Nat => s.heap.size ≤ q) b := Nat.not_le.mpr hbl
  obtain ⟨⟨hR, hI, kp⟩, hsc, hTS, hl, htx⟩ := id hT
  have x1 := xsI_rng xs (i + 1)
  have x2 := xsI_rng xs (i + 2)
  show Gz p l e room_1 s m args below meth c 9 k n Q (Zw D vwCl (fun q => s.heap.size ≤ q) s ((wBq y o a S tb x ln sm (sav a) p6 ++ wO1 y ob g) ++ wM y am f sv ai x sm ln th hh)) 492 [(4, .int (iZ i)), (0, .ref b), (1, .ref (o 0)), (2, .ref (am 0)), (3, .ref ob)] []
  refine z_aload_n mx mb dL_law_492 rfl 2 rfl ?_
  refine z_aload_n mx mb dL_law_493 rfl 1 rfl ?_
  refine z_iload mx mb dL_law_494 0 rfl ?_
  refine z_iconst mx mb dL_law_496 ?_
  refine z_iadd mx mb dL_law_497 ?_
  refine z_sld mx mb hX hbl hbA (by omega) hL dL_law_498 ?_
  refine z_aload_n mx mb dL_law_499 rfl 1 rfl ?_
  refine z_iload mx mb dL_law_500 0 rfl ?_
  refine z_iconst mx mb dL_law_502 ?_
  refine z_iadd mx mb dL_law_503 ?_
  refine z_sld mx mb hX hbl hbA (by omega) hL dL_law_504 ?_
  refine z_aload_n mx mb dL_law_505 rfl 4 rfl ?_
  refine z_callSI (wa := []) (wc := (wBq y o a S tb x ln sm (sav a) p6 ++ wO1 y ob g)) (wb := wM y am f sv ai x sm ln th hh) (As := [.ref (o 0), .int (iZ (xsI xs (i + 1))), .int (iZ (xsI xs (i + 2))), .ref ob]) (rest := []) ⟨mx, mb, mml, mo, mts⟩ hK hA hE (fun sz => c_L_train l hl0 D sz y o a S tb x ln sm f sv (xsI xs (i + 1)) (xsI xs (i + 2)) ob g x1 x2 hT) (vx_cwSW 4 mts gL_law_L_train rfl rfl rfl (by decide +kernel) ⟨Nat.le_of_ble_eq_true rfl, Nat.le_of_ble_eq_true rfl⟩) rfl rfl rfl (Nat.le_of_ble_eq_true rfl) ⟨by show _ ≤ 601024; omega, by show _ ≤ 7293034; omega⟩ dL_law_506 (fun r5 u5 hu5 => ?_)
  obtain ⟨a2, S2, g2⟩ := u5
  obtain ⟨hr5, hg5, tie2⟩ := hu5
  replace hg5 : thIn (xsI xs (i + 1)) (f 2 - 1) (xsI xs (i + 2)) 9 = 0 → g2 0 = lZ (wz (trainOf f (xsI xs (i + 1)) (xsI xs (i + 2)))) := hg5
  replace tie2 : Tie f sv x sm ln S2 := tie2
  obtain rfl : r5 = iZ (thIn (xsI xs (i + 1)) (f 2 - 1) (xsI xs (i + 2)) 9) := hr5
  show Gz p l e room_1 s m args below meth c 9 (k + 1) (n + 6) Q (Zw D vwCl (fun q => s.heap.size ≤ q) s ((wBq y o a2 S2 tb x ln sm (sav a2) p6 ++ wO1 y ob g2) ++ wM y am f sv ai x sm ln th hh)) 509 [(4, .int (iZ i)), (0, .ref b), (1, .ref (o 0)), (2, .ref (am 0)), (3, .ref ob)] [.int (iZ (thIn (xsI xs (i + 1)) (f 2 - 1) (xsI xs (i + 2)) 9))]
  refine z_istore mx mb dL_law_509 (by decide) [(5, .int (iZ (thIn (xsI xs (i + 1)) (f 2 - 1) (xsI xs (i + 2)) 9))), (4, .int (iZ i)), (0, .ref b), (1, .ref (o 0)), (2, .ref (am 0)), (3, .ref ob)] rfl ?_
  refine z_aload_n mx mb dL_law_511 rfl 4 rfl ?_
  refine z_aload_n mx mb dL_law_512 rfl 2 rfl ?_
  refine z_iload mx mb dL_law_513 1 rfl ?_
  refine z_iconst mx mb dL_law_515 ?_
  refine z_iadd mx mb dL_law_516 ?_
  refine z_sld mx mb hX hbl hbA (by omega) hL dL_law_517 ?_
  refine z_aload_n mx mb dL_law_518 rfl 2 rfl ?_
  refine z_iload mx mb dL_law_519 1 rfl ?_
  refine z_iconst mx mb dL_law_521 ?_
  refine z_iadd mx mb dL_law_522 ?_
  refine z_sld mx mb hX hbl hbA (by omega) hL dL_law_523 ?_
  refine z_callI (wa := (wBq y o a2 S2 tb x ln sm (sav a2) p6 ++ wO1 y ob g2)) (wc := wM y am f sv ai x sm ln th hh) (wb := []) (As := [.int (iZ (xsI xs (i + 1))), .int (iZ (xsI xs (i + 2)))]) (rest := []) ⟨mx, mb, mml, mo, mts⟩ hK hA (fun sz => c_X5_train l D sz y am f sv ai x sm ln th hh (xsI xs (i + 1)) (xsI xs (i + 2)) x1 x2 hI) (cwV 2 mts gL_law_X5_train rfl rfl rfl (by decide +kernel) ⟨Nat.le_of_ble_eq_true rfl, Nat.le_of_ble_eq_true rfl⟩) (List.append_nil _).symm 95 rfl rfl rfl rfl rfl (Nat.le_of_ble_eq_true rfl) ⟨by show _ ≤ 601024; omega, by show _ ≤ 7293034; omega⟩ dL_law_524 (fun r6 u6 hu6 => ?_)
  obtain rfl : r6 = iZ (if thIn (xsI xs (i + 1)) (f 2 - 1) (xsI xs (i + 2)) 9 = 0 then trainOf f (xsI xs (i + 1)) (xsI xs (i + 2)) else 0) := hu6
  rw [List.append_nil]
  show Gz p l e room_1 s m args below meth c 9 (k + 1) (n + 6) Q (Zw D vwCl (fun q => s.heap.size ≤ q) s ((wBq y o a2 S2 tb x ln sm (sav a2) p6 ++ wO1 y ob g2) ++ wM y am f sv ai x sm ln (thIn (xsI xs (i + 1)) (f 2 - 1) (xsI xs (i + 2)) 9) hh)) 527 [(5, .int (iZ (thIn (xsI xs (i + 1)) (f 2 - 1) (xsI xs (i + 2)) 9))), (4, .int (iZ i)), (0, .ref b), (1, .ref (o 0)), (2, .ref (am 0)), (3, .ref ob)] [.int (iZ (if thIn (xsI xs (i + 1)) (f 2 - 1) (xsI xs (i + 2)) 9 = 0 then trainOf f (xsI xs (i + 1)) (xsI xs (i + 2)) else 0))]
  refine z_istore mx mb dL_law_527 (by decide) [(6, .int (iZ (if thIn (xsI xs (i + 1)) (f 2 - 1) (xsI xs (i + 2)) 9 = 0 then trainOf f (xsI xs (i + 1)) (xsI xs (i + 2)) else 0))), (5, .int (iZ (thIn (xsI xs (i + 1)) (f 2 - 1) (xsI xs (i + 2)) 9))), (4, .int (iZ i)), (0, .ref b), (1, .ref (o 0)), (2, .ref (am 0)), (3, .ref ob)] rfl ?_
  refine z_aload_n mx mb dL_law_529 rfl 5 rfl ?_
  refine z_callP (As := []) (rest := []) ⟨mx, mb, mml, mo, mts⟩ hK zgw (c_X5_thrown l D y am f sv ai x sm ln (thIn (xsI xs (i + 1)) (f 2 - 1) (xsI xs (i + 2)) 9) hh) (cwV 0 mts gL_law_X5_thrown rfl rfl rfl (by decide +kernel) ⟨Nat.le_of_ble_eq_true rfl, Nat.le_of_ble_eq_true rfl⟩) (fun _ h => List.mem_append_right _ h) 95 rfl rfl rfl rfl rfl (Nat.le_of_ble_eq_true rfl) ⟨by show _ ≤ 601024; omega, by show _ ≤ 7293034; omega⟩ dL_law_530 ?_
  refine z_iload mx mb dL_law_533 1 rfl ?_
  have hth : -2147483648 ≤ thIn (xsI xs (i + 1)) (f 2 - 1) (xsI xs (i + 2)) 9 ∧ thIn (xsI xs (i + 1)) (f 2 - 1) (xsI xs (i + 2)) 9 ≤ 2147483647 := by unfold thIn; split <;> (try split) <;> omega
  refine z_icmp_eq (tgt := 540) mx mb hth hth dL_law_535 (by decide) (fun _ => ?_) (fun h => absurd rfl h)
  refine z_iload mx mb dL_law_540 1 rfl ?_
  have fin : Gz p l e room_1 s m args below meth c 9 (k + 1) (n + 6) Q (Zw D vwCl (fun q => s.heap.size ≤ q) s ((wBq y o a2 S2 tb x ln sm (sav a2) p6 ++ wO1 y ob g2) ++ wM y am f sv ai x sm ln (thIn (xsI xs (i + 1)) (f 2 - 1) (xsI xs (i + 2)) 9) hh)) 557 [(6, .int (iZ (if thIn (xsI xs (i + 1)) (f 2 - 1) (xsI xs (i + 2)) 9 = 0 then trainOf f (xsI xs (i + 1)) (xsI xs (i + 2)) else 0))), (5, .int (iZ (thIn (xsI xs (i + 1)) (f 2 - 1) (xsI xs (i + 2)) 9))), (4, .int (iZ i)), (0, .ref b), (1, .ref (o 0)), (2, .ref (am 0)), (3, .ref ob)] [] := by
    refine z_goto (tgt := 1251) mx mb dL_law_557 (by decide) ?_
    refine z_lv [2, 3, 4, 5, 6] rfl ?_
    exact K a2 S2 x ln sm g2 f sv ai (thIn (xsI xs (i + 1)) (f 2 - 1) (xsI xs (i + 2)) 9) hh tie2
  refine z_if_ne (tgt := 557) mx mb hth dL_law_542 (by decide) (fun _ => fin) (fun h0 => ?_)
  refine z_aload_n mx mb dL_law_545 rfl 6 rfl ?_
  refine z_iconst mx mb dL_law_546 ?_
  refine z_lald mx mb hK 94 3 rfl rfl dL_law_547 ?_
  refine z_iload mx mb dL_law_548 0 rfl ?_
  refine z_i2lw mx mb dL_law_550 ?_
  refine z_lcmp0 mx mb (by rw [hg5 h0, if_pos h0]) dL_law_551 ?_
  exact z_if_eq (tgt := 557) mx mb (by decide) dL_law_552 (by decide) (fun _ => fin) (fun h => absurd rfl h)

set_option maxRecDepth 100000 in
set_option maxHeartbeats 4000000 in
theorem lc_cell {p : Program} {l : Launch} {e : Env} {s : State} {m : MethodId} {args : Array Value} {below : List Frame} {meth : Method} {c : Code} {b L : Nat} {xs : Nat → Int32} {D : va_G} {y : Nat → ClassId} {Q : State → Prop} (C : LC p l s m args meth c b L xs D y) {o : Nat → Nat} {tb : Nat → Nat} {ob : Nat} {am : Nat → Nat} (a : Nat → Nat → Nat) (S : Nat → Nat → Int → Int) (x : Int → Int) (ln sm : Int) (g : Nat → Int64) (f sv ai : Int → Int) (th hh : Int) (i : Int) (hi : 0 ≤ i ∧ i + 2 < (L : Int)) {k n : Nat} (hk : k + 2 ≤ 601024) (hn : n + 7 ≤ 7293034) (hT : Tie f sv x sm ln S)
    (K : ∀ (a : Nat → Nat → Nat) (S : Nat → Nat → Int → Int) (x : Int → Int) (ln sm : Int) (g : Nat → Int64) (f sv ai : Int → Int) (th hh : Int), Tie f sv x sm ln S → Gz p l e room_1 s m args below meth c 9 (k + 1) (n + 6) Q (Zw D vwCl (fun q => s.heap.size ≤ q) s (LWd y o a S tb x ln sm ob g am f sv ai th hh)) 1251 (lv0 b o am ob i) []) : Gz p l e room_1 s m args below meth c 9 k n Q (Zw D vwCl (fun q => s.heap.size ≤ q) s (LWd y o a S tb x ln sm ob g am f sv ai th hh)) 560 (lv0 b o am ob i) [] := by
  obtain ⟨mx, mb, mml, mo, mts, hK, hE, hX, hbl, hl0, hL⟩ := C
  have hA : ∀ q : Nat, s.heap.size ≤ q → (fun q : Nat => s.heap.size ≤ q) q := fun _ h => h
  have hbA : ¬ (fun q : Nat => s.heap.size ≤ q) b := Nat.not_le.mpr hbl
  obtain ⟨⟨hR, hI, kp⟩, hsc, hTS, hl, htx⟩ := id hT
  have x1 := xsI_rng xs (i + 1)
  have x2 := xsI_rng xs (i + 2)
  show Gz p l e room_1 s m args below meth c 9 k n Q (Zw D vwCl (fun q => s.heap.size ≤ q) s ((wBq y o a S tb x ln sm (sav a) p6 ++ wO1 y ob g) ++ wM y am f sv ai x sm ln th hh)) 560 [(4, .int (iZ i)), (0, .ref b), (1, .ref (o 0)), (2, .ref (am 0)), (3, .ref ob)] []
  refine z_aload_n mx mb dL_law_560 rfl 2 rfl ?_
  refine z_aload_n mx mb dL_law_561 rfl 1 rfl ?_
  refine z_iload mx mb dL_law_562 0 rfl ?_
  refine z_iconst mx mb dL_law_564 ?_
  refine z_iadd mx mb dL_law_565 ?_
  refine z_sld mx mb hX hbl hbA (by omega) hL dL_law_566 ?_
  refine z_aload_n mx mb dL_law_567 rfl 1 rfl ?_
  refine z_iload mx mb dL_law_568 0 rfl ?_
  refine z_iconst mx mb dL_law_570 ?_
  refine z_iadd mx mb dL_law_571 ?_
  refine z_sld mx mb hX hbl hbA (by omega) hL dL_law_572 ?_
  refine z_aload_n mx mb dL_law_573 rfl 4 rfl ?_
  refine z_callSI (wa := []) (wc := (wBq y o a S tb x ln sm (sav a) p6 ++ wO1 y ob g)) (wb := wM y am f sv ai x sm ln th hh) (As := [.ref (o 0), .int (iZ (xsI xs (i + 1))), .int (iZ (xsI xs (i + 2))), .ref ob]) (rest := []) ⟨mx, mb, mml, mo, mts⟩ hK hA hE (fun sz => c_L_cell l hl0 D sz y o a S tb x ln sm f sv (xsI xs (i + 1)) (xsI xs (i + 2)) ob g x1 x2 hT) (vx_cwSW 4 mts gL_law_L_cell rfl rfl rfl (by decide +kernel) ⟨Nat.le_of_ble_eq_true rfl, Nat.le_of_ble_eq_true rfl⟩) rfl rfl rfl (Nat.le_of_ble_eq_true rfl) ⟨by show _ ≤ 601024; omega, by show _ ≤ 7293034; omega⟩ dL_law_574 (fun r5 u5 hu5 => ?_)
  obtain ⟨a2, S2, g2⟩ := u5
  obtain ⟨hr5, hg5, tie2⟩ := hu5
  replace hg5 : thIn (xsI xs (i + 1)) (f 0 - 1) (xsI xs (i + 2)) 3 = 0 → g2 0 = lZ (wz (cellOf f (xsI xs (i + 1)) (xsI xs (i + 2)))) := hg5
  replace tie2 : Tie f sv x sm ln S2 := tie2
  obtain rfl : r5 = iZ (thIn (xsI xs (i + 1)) (f 0 - 1) (xsI xs (i + 2)) 3) := hr5
  show Gz p l e room_1 s m args below meth c 9 (k + 1) (n + 6) Q (Zw D vwCl (fun q => s.heap.size ≤ q) s ((wBq y o a2 S2 tb x ln sm (sav a2) p6 ++ wO1 y ob g2) ++ wM y am f sv ai x sm ln th hh)) 577 [(4, .int (iZ i)), (0, .ref b), (1, .ref (o 0)), (2, .ref (am 0)), (3, .ref ob)] [.int (iZ (thIn (xsI xs (i + 1)) (f 0 - 1) (xsI xs (i + 2)) 3))]
  refine z_istore mx mb dL_law_577 (by decide) [(5, .int (iZ (thIn (xsI xs (i + 1)) (f 0 - 1) (xsI xs (i + 2)) 3))), (4, .int (iZ i)), (0, .ref b), (1, .ref (o 0)), (2, .ref (am 0)), (3, .ref ob)] rfl ?_
  refine z_aload_n mx mb dL_law_579 rfl 4 rfl ?_
  refine z_aload_n mx mb dL_law_580 rfl 2 rfl ?_
  refine z_iload mx mb dL_law_581 1 rfl ?_
  refine z_iconst mx mb dL_law_583 ?_
  refine z_iadd mx mb dL_law_584 ?_
  refine z_sld mx mb hX hbl hbA (by omega) hL dL_law_585 ?_
  refine z_aload_n mx mb dL_law_586 rfl 2 rfl ?_
  refine z_iload mx mb dL_law_587 1 rfl ?_
  refine z_iconst mx mb dL_law_589 ?_
  refine z_iadd mx mb dL_law_590 ?_
  refine z_sld mx mb hX hbl hbA (by omega) hL dL_law_591 ?_
  refine z_callI (wa := (wBq y o a2 S2 tb x ln sm (sav a2) p6 ++ wO1 y ob g2)) (wc := wM y am f sv ai x sm ln th hh) (wb := []) (As := [.int (iZ (xsI xs (i + 1))), .int (iZ (xsI xs (i + 2)))]) (rest := []) ⟨mx, mb, mml, mo, mts⟩ hK hA (fun sz => c_X5_cell l D sz y am f sv ai x sm ln th hh (xsI xs (i + 1)) (xsI xs (i + 2)) x1 x2 hI) (cwV 2 mts gL_law_X5_cell rfl rfl rfl (by decide +kernel) ⟨Nat.le_of_ble_eq_true rfl, Nat.le_of_ble_eq_true rfl⟩) (List.append_nil _).symm 95 rfl rfl rfl rfl rfl (Nat.le_of_ble_eq_true rfl) ⟨by show _ ≤ 601024; omega, by show _ ≤ 7293034; omega⟩ dL_law_592 (fun r6 u6 hu6 => ?_)
  obtain rfl : r6 = iZ (if thIn (xsI xs (i + 1)) (f 0 - 1) (xsI xs (i + 2)) 3 = 0 then cellOf f (xsI xs (i + 1)) (xsI xs (i + 2)) else 0) := hu6
  rw [List.append_nil]
  show Gz p l e room_1 s m args below meth c 9 (k + 1) (n + 6) Q (Zw D vwCl (fun q => s.heap.size ≤ q) s ((wBq y o a2 S2 tb x ln sm (sav a2) p6 ++ wO1 y ob g2) ++ wM y am f sv ai x sm ln (thIn (xsI xs (i + 1)) (f 0 - 1) (xsI xs (i + 2)) 3) hh)) 595 [(5, .int (iZ (thIn (xsI xs (i + 1)) (f 0 - 1) (xsI xs (i + 2)) 3))), (4, .int (iZ i)), (0, .ref b), (1, .ref (o 0)), (2, .ref (am 0)), (3, .ref ob)] [.int (iZ (if thIn (xsI xs (i + 1)) (f 0 - 1) (xsI xs (i + 2)) 3 = 0 then cellOf f (xsI xs (i + 1)) (xsI xs (i + 2)) else 0))]
  refine z_istore mx mb dL_law_595 (by decide) [(6, .int (iZ (if thIn (xsI xs (i + 1)) (f 0 - 1) (xsI xs (i + 2)) 3 = 0 then cellOf f (xsI xs (i + 1)) (xsI xs (i + 2)) else 0))), (5, .int (iZ (thIn (xsI xs (i + 1)) (f 0 - 1) (xsI xs (i + 2)) 3))), (4, .int (iZ i)), (0, .ref b), (1, .ref (o 0)), (2, .ref (am 0)), (3, .ref ob)] rfl ?_
  refine z_aload_n mx mb dL_law_597 rfl 5 rfl ?_
  refine z_callP (As := []) (rest := []) ⟨mx, mb, mml, mo, mts⟩ hK zgw (c_X5_thrown l D y am f sv ai x sm ln (thIn (xsI xs (i + 1)) (f 0 - 1) (xsI xs (i + 2)) 3) hh) (cwV 0 mts gL_law_X5_thrown rfl rfl rfl (by decide +kernel) ⟨Nat.le_of_ble_eq_true rfl, Nat.le_of_ble_eq_true rfl⟩) (fun _ h => List.mem_append_right _ h) 95 rfl rfl rfl rfl rfl (Nat.le_of_ble_eq_true rfl) ⟨by show _ ≤ 601024; omega, by show _ ≤ 7293034; omega⟩ dL_law_598 ?_
  refine z_iload mx mb dL_law_601 1 rfl ?_
  have hth : -2147483648 ≤ thIn (xsI xs (i + 1)) (f 0 - 1) (xsI xs (i + 2)) 3 ∧ thIn (xsI xs (i + 1)) (f 0 - 1) (xsI xs (i + 2)) 3 ≤ 2147483647 := by unfold thIn; split <;> (try split) <;> omega
  refine z_icmp_eq (tgt := 608) mx mb hth hth dL_law_603 (by decide) (fun _ => ?_) (fun h => absurd rfl h)
  refine z_iload mx mb dL_law_608 1 rfl ?_
  have fin : Gz p l e room_1 s m args below meth c 9 (k + 1) (n + 6) Q (Zw D vwCl (fun q => s.heap.size ≤ q) s ((wBq y o a2 S2 tb x ln sm (sav a2) p6 ++ wO1 y ob g2) ++ wM y am f sv ai x sm ln (thIn (xsI xs (i + 1)) (f 0 - 1) (xsI xs (i + 2)) 3) hh)) 625 [(6, .int (iZ (if thIn (xsI xs (i + 1)) (f 0 - 1) (xsI xs (i + 2)) 3 = 0 then cellOf f (xsI xs (i + 1)) (xsI xs (i + 2)) else 0))), (5, .int (iZ (thIn (xsI xs (i + 1)) (f 0 - 1) (xsI xs (i + 2)) 3))), (4, .int (iZ i)), (0, .ref b), (1, .ref (o 0)), (2, .ref (am 0)), (3, .ref ob)] [] := by
    refine z_goto (tgt := 1251) mx mb dL_law_625 (by decide) ?_
    refine z_lv [2, 3, 4, 5, 6] rfl ?_
    exact K a2 S2 x ln sm g2 f sv ai (thIn (xsI xs (i + 1)) (f 0 - 1) (xsI xs (i + 2)) 3) hh tie2
  refine z_if_ne (tgt := 625) mx mb hth dL_law_610 (by decide) (fun _ => fin) (fun h0 => ?_)
  refine z_aload_n mx mb dL_law_613 rfl 6 rfl ?_
  refine z_iconst mx mb dL_law_614 ?_
  refine z_lald mx mb hK 94 3 rfl rfl dL_law_615 ?_
  refine z_iload mx mb dL_law_616 0 rfl ?_
  refine z_i2lw mx mb dL_law_618 ?_
  refine z_lcmp0 mx mb (by rw [hg5 h0, if_pos h0]) dL_law_619 ?_
  exact z_if_eq (tgt := 625) mx mb (by decide) dL_law_620 (by decide) (fun _ => fin) (fun h => absurd rfl h)

set_option maxRecDepth 100000 in
set_option maxHeartbeats 4000000 in
theorem lc_block {p : Program} {l : Launch} {e : Env} {s : State} {m : MethodId} {args : Array Value} {below : List Frame} {meth : Method} {c : Code} {b L : Nat} {xs : Nat → Int32} {D : va_G} {y : Nat → ClassId} {Q : State → Prop} (C : LC p l s m args meth c b L xs D y) {o : Nat → Nat} {tb : Nat → Nat} {ob : Nat} {am : Nat → Nat} (a : Nat → Nat → Nat) (S : Nat → Nat → Int → Int) (x : Int → Int) (ln sm : Int) (g : Nat → Int64) (f sv ai : Int → Int) (th hh : Int) (i : Int) (hi : 0 ≤ i ∧ i + 2 < (L : Int)) {k n : Nat} (hk : k + 2 ≤ 601024) (hn : n + 7 ≤ 7293034) (hT : Tie f sv x sm ln S)
    (K : ∀ (a : Nat → Nat → Nat) (S : Nat → Nat → Int → Int) (x : Int → Int) (ln sm : Int) (g : Nat → Int64) (f sv ai : Int → Int) (th hh : Int), Tie f sv x sm ln S → Gz p l e room_1 s m args below meth c 9 (k + 1) (n + 6) Q (Zw D vwCl (fun q => s.heap.size ≤ q) s (LWd y o a S tb x ln sm ob g am f sv ai th hh)) 1251 (lv0 b o am ob i) []) : Gz p l e room_1 s m args below meth c 9 k n Q (Zw D vwCl (fun q => s.heap.size ≤ q) s (LWd y o a S tb x ln sm ob g am f sv ai th hh)) 628 (lv0 b o am ob i) [] := by
  obtain ⟨mx, mb, mml, mo, mts, hK, hE, hX, hbl, hl0, hL⟩ := C
  have hA : ∀ q : Nat, s.heap.size ≤ q → (fun q : Nat => s.heap.size ≤ q) q := fun _ h => h
  have hbA : ¬ (fun q : Nat => s.heap.size ≤ q) b := Nat.not_le.mpr hbl
  obtain ⟨⟨hR, hI, kp⟩, hsc, hTS, hl, htx⟩ := id hT
  have x1 := xsI_rng xs (i + 1)
  have x2 := xsI_rng xs (i + 2)
  show Gz p l e room_1 s m args below meth c 9 k n Q (Zw D vwCl (fun q => s.heap.size ≤ q) s ((wBq y o a S tb x ln sm (sav a) p6 ++ wO1 y ob g) ++ wM y am f sv ai x sm ln th hh)) 628 [(4, .int (iZ i)), (0, .ref b), (1, .ref (o 0)), (2, .ref (am 0)), (3, .ref ob)] []
  refine z_aload_n mx mb dL_law_628 rfl 2 rfl ?_
  refine z_aload_n mx mb dL_law_629 rfl 1 rfl ?_
  refine z_iload mx mb dL_law_630 0 rfl ?_
  refine z_iconst mx mb dL_law_632 ?_
  refine z_iadd mx mb dL_law_633 ?_
  refine z_sld mx mb hX hbl hbA (by omega) hL dL_law_634 ?_
  refine z_aload_n mx mb dL_law_635 rfl 1 rfl ?_
  refine z_iload mx mb dL_law_636 0 rfl ?_
  refine z_iconst mx mb dL_law_638 ?_
  refine z_iadd mx mb dL_law_639 ?_
  refine z_sld mx mb hX hbl hbA (by omega) hL dL_law_640 ?_
  refine z_aload_n mx mb dL_law_641 rfl 4 rfl ?_
  refine z_callSI (wa := []) (wc := (wBq y o a S tb x ln sm (sav a) p6 ++ wO1 y ob g)) (wb := wM y am f sv ai x sm ln th hh) (As := [.ref (o 0), .int (iZ (xsI xs (i + 1))), .int (iZ (xsI xs (i + 2))), .ref ob]) (rest := []) ⟨mx, mb, mml, mo, mts⟩ hK hA hE (fun sz => c_L_block l hl0 D sz y o a S tb x ln sm f sv (xsI xs (i + 1)) (xsI xs (i + 2)) ob g x1 x2 hT) (vx_cwSW 4 mts gL_law_L_block rfl rfl rfl (by decide +kernel) ⟨Nat.le_of_ble_eq_true rfl, Nat.le_of_ble_eq_true rfl⟩) rfl rfl rfl (Nat.le_of_ble_eq_true rfl) ⟨by show _ ≤ 601024; omega, by show _ ≤ 7293034; omega⟩ dL_law_642 (fun r5 u5 hu5 => ?_)
  obtain ⟨a2, S2, g2⟩ := u5
  obtain ⟨hr5, hg5, tie2⟩ := hu5
  replace hg5 : thIn (xsI xs (i + 1)) (f 1 - 1) (xsI xs (i + 2)) 4 = 0 → g2 0 = lZ (wz (blockOf f (xsI xs (i + 1)) (xsI xs (i + 2)))) := hg5
  replace tie2 : Tie f sv x sm ln S2 := tie2
  obtain rfl : r5 = iZ (thIn (xsI xs (i + 1)) (f 1 - 1) (xsI xs (i + 2)) 4) := hr5
  show Gz p l e room_1 s m args below meth c 9 (k + 1) (n + 6) Q (Zw D vwCl (fun q => s.heap.size ≤ q) s ((wBq y o a2 S2 tb x ln sm (sav a2) p6 ++ wO1 y ob g2) ++ wM y am f sv ai x sm ln th hh)) 645 [(4, .int (iZ i)), (0, .ref b), (1, .ref (o 0)), (2, .ref (am 0)), (3, .ref ob)] [.int (iZ (thIn (xsI xs (i + 1)) (f 1 - 1) (xsI xs (i + 2)) 4))]
  refine z_istore mx mb dL_law_645 (by decide) [(5, .int (iZ (thIn (xsI xs (i + 1)) (f 1 - 1) (xsI xs (i + 2)) 4))), (4, .int (iZ i)), (0, .ref b), (1, .ref (o 0)), (2, .ref (am 0)), (3, .ref ob)] rfl ?_
  refine z_aload_n mx mb dL_law_647 rfl 4 rfl ?_
  refine z_aload_n mx mb dL_law_648 rfl 2 rfl ?_
  refine z_iload mx mb dL_law_649 1 rfl ?_
  refine z_iconst mx mb dL_law_651 ?_
  refine z_iadd mx mb dL_law_652 ?_
  refine z_sld mx mb hX hbl hbA (by omega) hL dL_law_653 ?_
  refine z_aload_n mx mb dL_law_654 rfl 2 rfl ?_
  refine z_iload mx mb dL_law_655 1 rfl ?_
  refine z_iconst mx mb dL_law_657 ?_
  refine z_iadd mx mb dL_law_658 ?_
  refine z_sld mx mb hX hbl hbA (by omega) hL dL_law_659 ?_
  refine z_callI (wa := (wBq y o a2 S2 tb x ln sm (sav a2) p6 ++ wO1 y ob g2)) (wc := wM y am f sv ai x sm ln th hh) (wb := []) (As := [.int (iZ (xsI xs (i + 1))), .int (iZ (xsI xs (i + 2)))]) (rest := []) ⟨mx, mb, mml, mo, mts⟩ hK hA (fun sz => c_X5_block l D sz y am f sv ai x sm ln th hh (xsI xs (i + 1)) (xsI xs (i + 2)) x1 x2 hI) (cwV 2 mts gL_law_X5_block rfl rfl rfl (by decide +kernel) ⟨Nat.le_of_ble_eq_true rfl, Nat.le_of_ble_eq_true rfl⟩) (List.append_nil _).symm 95 rfl rfl rfl rfl rfl (Nat.le_of_ble_eq_true rfl) ⟨by show _ ≤ 601024; omega, by show _ ≤ 7293034; omega⟩ dL_law_660 (fun r6 u6 hu6 => ?_)
  obtain rfl : r6 = iZ (if thIn (xsI xs (i + 1)) (f 1 - 1) (xsI xs (i + 2)) 4 = 0 then blockOf f (xsI xs (i + 1)) (xsI xs (i + 2)) else 0) := hu6
  rw [List.append_nil]
  show Gz p l e room_1 s m args below meth c 9 (k + 1) (n + 6) Q (Zw D vwCl (fun q => s.heap.size ≤ q) s ((wBq y o a2 S2 tb x ln sm (sav a2) p6 ++ wO1 y ob g2) ++ wM y am f sv ai x sm ln (thIn (xsI xs (i + 1)) (f 1 - 1) (xsI xs (i + 2)) 4) hh)) 663 [(5, .int (iZ (thIn (xsI xs (i + 1)) (f 1 - 1) (xsI xs (i + 2)) 4))), (4, .int (iZ i)), (0, .ref b), (1, .ref (o 0)), (2, .ref (am 0)), (3, .ref ob)] [.int (iZ (if thIn (xsI xs (i + 1)) (f 1 - 1) (xsI xs (i + 2)) 4 = 0 then blockOf f (xsI xs (i + 1)) (xsI xs (i + 2)) else 0))]
  refine z_istore mx mb dL_law_663 (by decide) [(6, .int (iZ (if thIn (xsI xs (i + 1)) (f 1 - 1) (xsI xs (i + 2)) 4 = 0 then blockOf f (xsI xs (i + 1)) (xsI xs (i + 2)) else 0))), (5, .int (iZ (thIn (xsI xs (i + 1)) (f 1 - 1) (xsI xs (i + 2)) 4))), (4, .int (iZ i)), (0, .ref b), (1, .ref (o 0)), (2, .ref (am 0)), (3, .ref ob)] rfl ?_
  refine z_aload_n mx mb dL_law_665 rfl 5 rfl ?_
  refine z_callP (As := []) (rest := []) ⟨mx, mb, mml, mo, mts⟩ hK zgw (c_X5_thrown l D y am f sv ai x sm ln (thIn (xsI xs (i + 1)) (f 1 - 1) (xsI xs (i + 2)) 4) hh) (cwV 0 mts gL_law_X5_thrown rfl rfl rfl (by decide +kernel) ⟨Nat.le_of_ble_eq_true rfl, Nat.le_of_ble_eq_true rfl⟩) (fun _ h => List.mem_append_right _ h) 95 rfl rfl rfl rfl rfl (Nat.le_of_ble_eq_true rfl) ⟨by show _ ≤ 601024; omega, by show _ ≤ 7293034; omega⟩ dL_law_666 ?_
  refine z_iload mx mb dL_law_669 1 rfl ?_
  have hth : -2147483648 ≤ thIn (xsI xs (i + 1)) (f 1 - 1) (xsI xs (i + 2)) 4 ∧ thIn (xsI xs (i + 1)) (f 1 - 1) (xsI xs (i + 2)) 4 ≤ 2147483647 := by unfold thIn; split <;> (try split) <;> omega
  refine z_icmp_eq (tgt := 676) mx mb hth hth dL_law_671 (by decide) (fun _ => ?_) (fun h => absurd rfl h)
  refine z_iload mx mb dL_law_676 1 rfl ?_
  have fin : Gz p l e room_1 s m args below meth c 9 (k + 1) (n + 6) Q (Zw D vwCl (fun q => s.heap.size ≤ q) s ((wBq y o a2 S2 tb x ln sm (sav a2) p6 ++ wO1 y ob g2) ++ wM y am f sv ai x sm ln (thIn (xsI xs (i + 1)) (f 1 - 1) (xsI xs (i + 2)) 4) hh)) 693 [(6, .int (iZ (if thIn (xsI xs (i + 1)) (f 1 - 1) (xsI xs (i + 2)) 4 = 0 then blockOf f (xsI xs (i + 1)) (xsI xs (i + 2)) else 0))), (5, .int (iZ (thIn (xsI xs (i + 1)) (f 1 - 1) (xsI xs (i + 2)) 4))), (4, .int (iZ i)), (0, .ref b), (1, .ref (o 0)), (2, .ref (am 0)), (3, .ref ob)] [] := by
    refine z_goto (tgt := 1251) mx mb dL_law_693 (by decide) ?_
    refine z_lv [2, 3, 4, 5, 6] rfl ?_
    exact K a2 S2 x ln sm g2 f sv ai (thIn (xsI xs (i + 1)) (f 1 - 1) (xsI xs (i + 2)) 4) hh tie2
  refine z_if_ne (tgt := 693) mx mb hth dL_law_678 (by decide) (fun _ => fin) (fun h0 => ?_)
  refine z_aload_n mx mb dL_law_681 rfl 6 rfl ?_
  refine z_iconst mx mb dL_law_682 ?_
  refine z_lald mx mb hK 94 3 rfl rfl dL_law_683 ?_
  refine z_iload mx mb dL_law_684 0 rfl ?_
  refine z_i2lw mx mb dL_law_686 ?_
  refine z_lcmp0 mx mb (by rw [hg5 h0, if_pos h0]) dL_law_687 ?_
  exact z_if_eq (tgt := 693) mx mb (by decide) dL_law_688 (by decide) (fun _ => fin) (fun h => absurd rfl h)

set_option maxRecDepth 100000 in
set_option maxHeartbeats 4000000 in
theorem lc_value {p : Program} {l : Launch} {e : Env} {s : State} {m : MethodId} {args : Array Value} {below : List Frame} {meth : Method} {c : Code} {b L : Nat} {xs : Nat → Int32} {D : va_G} {y : Nat → ClassId} {Q : State → Prop} (C : LC p l s m args meth c b L xs D y) {o : Nat → Nat} {tb : Nat → Nat} {ob : Nat} {am : Nat → Nat} (a : Nat → Nat → Nat) (S : Nat → Nat → Int → Int) (x : Int → Int) (ln sm : Int) (g : Nat → Int64) (f sv ai : Int → Int) (th hh : Int) (i : Int) (hi : 0 ≤ i ∧ i + 2 < (L : Int)) {k n : Nat} (hk : k + 2 ≤ 601024) (hn : n + 7 ≤ 7293034) (hT : Tie f sv x sm ln S)
    (K : ∀ (a : Nat → Nat → Nat) (S : Nat → Nat → Int → Int) (x : Int → Int) (ln sm : Int) (g : Nat → Int64) (f sv ai : Int → Int) (th hh : Int), Tie f sv x sm ln S → Gz p l e room_1 s m args below meth c 9 (k + 1) (n + 6) Q (Zw D vwCl (fun q => s.heap.size ≤ q) s (LWd y o a S tb x ln sm ob g am f sv ai th hh)) 1251 (lv0 b o am ob i) []) : Gz p l e room_1 s m args below meth c 9 k n Q (Zw D vwCl (fun q => s.heap.size ≤ q) s (LWd y o a S tb x ln sm ob g am f sv ai th hh)) 696 (lv0 b o am ob i) [] := by
  obtain ⟨mx, mb, mml, mo, mts, hK, hE, hX, hbl, hl0, hL⟩ := C
  have hA : ∀ q : Nat, s.heap.size ≤ q → (fun q : Nat => s.heap.size ≤ q) q := fun _ h => h
  have hbA : ¬ (fun q : Nat => s.heap.size ≤ q) b := Nat.not_le.mpr hbl
  obtain ⟨⟨hR, hI, kp⟩, hsc, hTS, hl, htx⟩ := id hT
  have x1 := xsI_rng xs (i + 1)
  have x2 := xsI_rng xs (i + 2)
  show Gz p l e room_1 s m args below meth c 9 k n Q (Zw D vwCl (fun q => s.heap.size ≤ q) s ((wBq y o a S tb x ln sm (sav a) p6 ++ wO1 y ob g) ++ wM y am f sv ai x sm ln th hh)) 696 [(4, .int (iZ i)), (0, .ref b), (1, .ref (o 0)), (2, .ref (am 0)), (3, .ref ob)] []
  refine z_aload_n mx mb dL_law_696 rfl 2 rfl ?_
  refine z_aload_n mx mb dL_law_697 rfl 1 rfl ?_
  refine z_iload mx mb dL_law_698 0 rfl ?_
  refine z_iconst mx mb dL_law_700 ?_
  refine z_iadd mx mb dL_law_701 ?_
  refine z_sld mx mb hX hbl hbA (by omega) hL dL_law_702 ?_
  refine z_aload_n mx mb dL_law_703 rfl 4 rfl ?_
  refine z_callSI (wa := []) (wc := (wBq y o a S tb x ln sm (sav a) p6 ++ wO1 y ob g)) (wb := wM y am f sv ai x sm ln th hh) (As := [.ref (o 0), .int (iZ (xsI xs (i + 1))), .ref ob]) (rest := []) ⟨mx, mb, mml, mo, mts⟩ hK hA hE (fun sz => c_L_value l hl0 D sz y o a S tb x ln sm f sv (xsI xs (i + 1)) ob g x1 hT) (vx_cwSW 3 mts gL_law_L_value rfl rfl rfl (by decide +kernel) ⟨Nat.le_of_ble_eq_true rfl, Nat.le_of_ble_eq_true rfl⟩) rfl rfl rfl (Nat.le_of_ble_eq_true rfl) ⟨by show _ ≤ 601024; omega, by show _ ≤ 7293034; omega⟩ dL_law_704 (fun r5 u5 hu5 => ?_)
  obtain ⟨a2, S2, g2⟩ := u5
  obtain ⟨hr5, hg5, tie2⟩ := hu5
  replace hg5 : thOne (xsI xs (i + 1)) 11 = 0 → g2 0 = lZ (wz (valueOf f (xsI xs (i + 1)))) := hg5
  replace tie2 : Tie f sv x sm ln S2 := tie2
  obtain rfl : r5 = iZ (thOne (xsI xs (i + 1)) 11) := hr5
  show Gz p l e room_1 s m args below meth c 9 (k + 1) (n + 6) Q (Zw D vwCl (fun q => s.heap.size ≤ q) s ((wBq y o a2 S2 tb x ln sm (sav a2) p6 ++ wO1 y ob g2) ++ wM y am f sv ai x sm ln th hh)) 707 [(4, .int (iZ i)), (0, .ref b), (1, .ref (o 0)), (2, .ref (am 0)), (3, .ref ob)] [.int (iZ (thOne (xsI xs (i + 1)) 11))]
  refine z_istore mx mb dL_law_707 (by decide) [(5, .int (iZ (thOne (xsI xs (i + 1)) 11))), (4, .int (iZ i)), (0, .ref b), (1, .ref (o 0)), (2, .ref (am 0)), (3, .ref ob)] rfl ?_
  refine z_aload_n mx mb dL_law_709 rfl 4 rfl ?_
  refine z_aload_n mx mb dL_law_710 rfl 2 rfl ?_
  refine z_iload mx mb dL_law_711 1 rfl ?_
  refine z_iconst mx mb dL_law_713 ?_
  refine z_iadd mx mb dL_law_714 ?_
  refine z_sld mx mb hX hbl hbA (by omega) hL dL_law_715 ?_
  refine z_callI (wa := (wBq y o a2 S2 tb x ln sm (sav a2) p6 ++ wO1 y ob g2)) (wc := wM y am f sv ai x sm ln th hh) (wb := []) (As := [.int (iZ (xsI xs (i + 1)))]) (rest := []) ⟨mx, mb, mml, mo, mts⟩ hK hA (fun sz => c_X5_value l D sz y am f sv ai x sm ln th hh (xsI xs (i + 1)) x1 hI) (cwV 1 mts gL_law_X5_value rfl rfl rfl (by decide +kernel) ⟨Nat.le_of_ble_eq_true rfl, Nat.le_of_ble_eq_true rfl⟩) (List.append_nil _).symm 95 rfl rfl rfl rfl rfl (Nat.le_of_ble_eq_true rfl) ⟨by show _ ≤ 601024; omega, by show _ ≤ 7293034; omega⟩ dL_law_716 (fun r6 u6 hu6 => ?_)
  obtain rfl : r6 = iZ (if thOne (xsI xs (i + 1)) 11 = 0 then valueOf f (xsI xs (i + 1)) else 0) := hu6
  rw [List.append_nil]
  show Gz p l e room_1 s m args below meth c 9 (k + 1) (n + 6) Q (Zw D vwCl (fun q => s.heap.size ≤ q) s ((wBq y o a2 S2 tb x ln sm (sav a2) p6 ++ wO1 y ob g2) ++ wM y am f sv ai x sm ln (thOne (xsI xs (i + 1)) 11) hh)) 719 [(5, .int (iZ (thOne (xsI xs (i + 1)) 11))), (4, .int (iZ i)), (0, .ref b), (1, .ref (o 0)), (2, .ref (am 0)), (3, .ref ob)] [.int (iZ (if thOne (xsI xs (i + 1)) 11 = 0 then valueOf f (xsI xs (i + 1)) else 0))]
  refine z_istore mx mb dL_law_719 (by decide) [(6, .int (iZ (if thOne (xsI xs (i + 1)) 11 = 0 then valueOf f (xsI xs (i + 1)) else 0))), (5, .int (iZ (thOne (xsI xs (i + 1)) 11))), (4, .int (iZ i)), (0, .ref b), (1, .ref (o 0)), (2, .ref (am 0)), (3, .ref ob)] rfl ?_
  refine z_aload_n mx mb dL_law_721 rfl 5 rfl ?_
  refine z_callP (As := []) (rest := []) ⟨mx, mb, mml, mo, mts⟩ hK zgw (c_X5_thrown l D y am f sv ai x sm ln (thOne (xsI xs (i + 1)) 11) hh) (cwV 0 mts gL_law_X5_thrown rfl rfl rfl (by decide +kernel) ⟨Nat.le_of_ble_eq_true rfl, Nat.le_of_ble_eq_true rfl⟩) (fun _ h => List.mem_append_right _ h) 95 rfl rfl rfl rfl rfl (Nat.le_of_ble_eq_true rfl) ⟨by show _ ≤ 601024; omega, by show _ ≤ 7293034; omega⟩ dL_law_722 ?_
  refine z_iload mx mb dL_law_725 1 rfl ?_
  have hth : -2147483648 ≤ thOne (xsI xs (i + 1)) 11 ∧ thOne (xsI xs (i + 1)) 11 ≤ 2147483647 := by unfold thOne; split <;> omega
  refine z_icmp_eq (tgt := 732) mx mb hth hth dL_law_727 (by decide) (fun _ => ?_) (fun h => absurd rfl h)
  refine z_iload mx mb dL_law_732 1 rfl ?_
  have fin : Gz p l e room_1 s m args below meth c 9 (k + 1) (n + 6) Q (Zw D vwCl (fun q => s.heap.size ≤ q) s ((wBq y o a2 S2 tb x ln sm (sav a2) p6 ++ wO1 y ob g2) ++ wM y am f sv ai x sm ln (thOne (xsI xs (i + 1)) 11) hh)) 749 [(6, .int (iZ (if thOne (xsI xs (i + 1)) 11 = 0 then valueOf f (xsI xs (i + 1)) else 0))), (5, .int (iZ (thOne (xsI xs (i + 1)) 11))), (4, .int (iZ i)), (0, .ref b), (1, .ref (o 0)), (2, .ref (am 0)), (3, .ref ob)] [] := by
    refine z_goto (tgt := 1251) mx mb dL_law_749 (by decide) ?_
    refine z_lv [2, 3, 4, 5, 6] rfl ?_
    exact K a2 S2 x ln sm g2 f sv ai (thOne (xsI xs (i + 1)) 11) hh tie2
  refine z_if_ne (tgt := 749) mx mb hth dL_law_734 (by decide) (fun _ => fin) (fun h0 => ?_)
  refine z_aload_n mx mb dL_law_737 rfl 6 rfl ?_
  refine z_iconst mx mb dL_law_738 ?_
  refine z_lald mx mb hK 94 3 rfl rfl dL_law_739 ?_
  refine z_iload mx mb dL_law_740 0 rfl ?_
  refine z_i2lw mx mb dL_law_742 ?_
  refine z_lcmp0 mx mb (by rw [hg5 h0, if_pos h0]) dL_law_743 ?_
  exact z_if_eq (tgt := 749) mx mb (by decide) dL_law_744 (by decide) (fun _ => fin) (fun h => absurd rfl h)

set_option maxRecDepth 100000 in
set_option maxHeartbeats 4000000 in
theorem lc_dispatch {p : Program} {l : Launch} {e : Env} {s : State} {m : MethodId} {args : Array Value} {below : List Frame} {meth : Method} {c : Code} {b L : Nat} {xs : Nat → Int32} {D : va_G} {y : Nat → ClassId} {Q : State → Prop} (C : LC p l s m args meth c b L xs D y) {o : Nat → Nat} {tb : Nat → Nat} {ob : Nat} {am : Nat → Nat} (a : Nat → Nat → Nat) (S : Nat → Nat → Int → Int) (x : Int → Int) (ln sm : Int) (g : Nat → Int64) (f sv ai : Int → Int) (th hh : Int) (i : Int) (hi : 0 ≤ i ∧ i + 2 < (L : Int)) {k n : Nat} (hk : k + 2 ≤ 601024) (hn : n + 7 ≤ 7293034) (hT : Tie f sv x sm ln S)
    (K : ∀ (a : Nat → Nat → Nat) (S : Nat → Nat → Int → Int) (x : Int → Int) (ln sm : Int) (g : Nat → Int64) (f sv ai : Int → Int) (th hh : Int), Tie f sv x sm ln S → Gz p l e room_1 s m args below meth c 9 (k + 1) (n + 6) Q (Zw D vwCl (fun q => s.heap.size ≤ q) s (LWd y o a S tb x ln sm ob g am f sv ai th hh)) 1251 (lv0 b o am ob i) []) : Gz p l e room_1 s m args below meth c 9 k n Q (Zw D vwCl (fun q => s.heap.size ≤ q) s (LWd y o a S tb x ln sm ob g am f sv ai th hh)) 752 (lv0 b o am ob i) [] := by
  obtain ⟨mx, mb, mml, mo, mts, hK, hE, hX, hbl, hl0, hL⟩ := C
  have hA : ∀ q : Nat, s.heap.size ≤ q → (fun q : Nat => s.heap.size ≤ q) q := fun _ h => h
  have hbA : ¬ (fun q : Nat => s.heap.size ≤ q) b := Nat.not_le.mpr hbl
  obtain ⟨⟨hR, hI, kp⟩, hsc, hTS, hl, htx⟩ := id hT
  have x1 := xsI_rng xs (i + 1)
  have x2 := xsI_rng xs (i + 2)
  show Gz p l e room_1 s m args below meth c 9 k n Q (Zw D vwCl (fun q => s.heap.size ≤ q) s ((wBq y o a S tb x ln sm (sav a) p6 ++ wO1 y ob g) ++ wM y am f sv ai x sm ln th hh)) 752 [(4, .int (iZ i)), (0, .ref b), (1, .ref (o 0)), (2, .ref (am 0)), (3, .ref ob)] []
  refine z_aload_n mx mb dL_law_752 rfl 2 rfl ?_
  refine z_aload_n mx mb dL_law_753 rfl 1 rfl ?_
  refine z_iload mx mb dL_law_754 0 rfl ?_
  refine z_iconst mx mb dL_law_756 ?_
  refine z_iadd mx mb dL_law_757 ?_
  refine z_sld mx mb hX hbl hbA (by omega) hL dL_law_758 ?_
  refine z_aload_n mx mb dL_law_759 rfl 1 rfl ?_
  refine z_iload mx mb dL_law_760 0 rfl ?_
  refine z_iconst mx mb dL_law_762 ?_
  refine z_iadd mx mb dL_law_763 ?_
  refine z_sld mx mb hX hbl hbA (by omega) hL dL_law_764 ?_
  refine z_aload_n mx mb dL_law_765 rfl 4 rfl ?_
  refine z_callSI (wa := []) (wc := (wBq y o a S tb x ln sm (sav a) p6 ++ wO1 y ob g)) (wb := wM y am f sv ai x sm ln th hh) (As := [.ref (o 0), .int (iZ (xsI xs (i + 1))), .int (iZ (xsI xs (i + 2))), .ref ob]) (rest := []) ⟨mx, mb, mml, mo, mts⟩ hK hA hE (fun sz => c_L_dispatch l hl0 D sz y o a S tb x ln sm f sv (xsI xs (i + 1)) (xsI xs (i + 2)) ob g x1 x2 hT) (vx_cwSW 4 mts gL_law_L_dispatch rfl rfl rfl (by decide +kernel) ⟨Nat.le_of_ble_eq_true rfl, Nat.le_of_ble_eq_true rfl⟩) rfl rfl rfl (Nat.le_of_ble_eq_true rfl) ⟨by show _ ≤ 601024; omega, by show _ ≤ 7293034; omega⟩ dL_law_766 (fun r5 u5 hu5 => ?_)
  obtain ⟨a2, S2, g2⟩ := u5
  obtain ⟨hr5, hg5, tie2⟩ := hu5
  replace hg5 : thIn (xsI xs (i + 1)) (f 10 - 1) (xsI xs (i + 2)) 1 = 0 → g2 0 = lZ (wz (f (111 + 2 * (f 10 - 1 - (xsI xs (i + 1))) + (xsI xs (i + 2))))) := hg5
  replace tie2 : Tie f sv x sm ln S2 := tie2
  obtain rfl : r5 = iZ (thIn (xsI xs (i + 1)) (f 10 - 1) (xsI xs (i + 2)) 1) := hr5
  show Gz p l e room_1 s m args below meth c 9 (k + 1) (n + 6) Q (Zw D vwCl (fun q => s.heap.size ≤ q) s ((wBq y o a2 S2 tb x ln sm (sav a2) p6 ++ wO1 y ob g2) ++ wM y am f sv ai x sm ln th hh)) 769 [(4, .int (iZ i)), (0, .ref b), (1, .ref (o 0)), (2, .ref (am 0)), (3, .ref ob)] [.int (iZ (thIn (xsI xs (i + 1)) (f 10 - 1) (xsI xs (i + 2)) 1))]
  refine z_istore mx mb dL_law_769 (by decide) [(5, .int (iZ (thIn (xsI xs (i + 1)) (f 10 - 1) (xsI xs (i + 2)) 1))), (4, .int (iZ i)), (0, .ref b), (1, .ref (o 0)), (2, .ref (am 0)), (3, .ref ob)] rfl ?_
  refine z_aload_n mx mb dL_law_771 rfl 4 rfl ?_
  refine z_aload_n mx mb dL_law_772 rfl 2 rfl ?_
  refine z_iload mx mb dL_law_773 1 rfl ?_
  refine z_iconst mx mb dL_law_775 ?_
  refine z_iadd mx mb dL_law_776 ?_
  refine z_sld mx mb hX hbl hbA (by omega) hL dL_law_777 ?_
  refine z_aload_n mx mb dL_law_778 rfl 2 rfl ?_
  refine z_iload mx mb dL_law_779 1 rfl ?_
  refine z_iconst mx mb dL_law_781 ?_
  refine z_iadd mx mb dL_law_782 ?_
  refine z_sld mx mb hX hbl hbA (by omega) hL dL_law_783 ?_
  refine z_callI (wa := (wBq y o a2 S2 tb x ln sm (sav a2) p6 ++ wO1 y ob g2)) (wc := wM y am f sv ai x sm ln th hh) (wb := []) (As := [.int (iZ (xsI xs (i + 1))), .int (iZ (xsI xs (i + 2)))]) (rest := []) ⟨mx, mb, mml, mo, mts⟩ hK hA (fun sz => c_X5_dispatch l D sz y am f sv ai x sm ln th hh (xsI xs (i + 1)) (xsI xs (i + 2)) x1 x2 hI) (cwV 2 mts gL_law_X5_dispatch rfl rfl rfl (by decide +kernel) ⟨Nat.le_of_ble_eq_true rfl, Nat.le_of_ble_eq_true rfl⟩) (List.append_nil _).symm 95 rfl rfl rfl rfl rfl (Nat.le_of_ble_eq_true rfl) ⟨by show _ ≤ 601024; omega, by show _ ≤ 7293034; omega⟩ dL_law_784 (fun r6 u6 hu6 => ?_)
  obtain rfl : r6 = iZ (if thIn (xsI xs (i + 1)) (f 10 - 1) (xsI xs (i + 2)) 1 = 0 then f (111 + 2 * (f 10 - 1 - (xsI xs (i + 1))) + (xsI xs (i + 2))) else 0) := hu6
  rw [List.append_nil]
  show Gz p l e room_1 s m args below meth c 9 (k + 1) (n + 6) Q (Zw D vwCl (fun q => s.heap.size ≤ q) s ((wBq y o a2 S2 tb x ln sm (sav a2) p6 ++ wO1 y ob g2) ++ wM y am f sv ai x sm ln (thIn (xsI xs (i + 1)) (f 10 - 1) (xsI xs (i + 2)) 1) hh)) 787 [(5, .int (iZ (thIn (xsI xs (i + 1)) (f 10 - 1) (xsI xs (i + 2)) 1))), (4, .int (iZ i)), (0, .ref b), (1, .ref (o 0)), (2, .ref (am 0)), (3, .ref ob)] [.int (iZ (if thIn (xsI xs (i + 1)) (f 10 - 1) (xsI xs (i + 2)) 1 = 0 then f (111 + 2 * (f 10 - 1 - (xsI xs (i + 1))) + (xsI xs (i + 2))) else 0))]
  refine z_istore mx mb dL_law_787 (by decide) [(6, .int (iZ (if thIn (xsI xs (i + 1)) (f 10 - 1) (xsI xs (i + 2)) 1 = 0 then f (111 + 2 * (f 10 - 1 - (xsI xs (i + 1))) + (xsI xs (i + 2))) else 0))), (5, .int (iZ (thIn (xsI xs (i + 1)) (f 10 - 1) (xsI xs (i + 2)) 1))), (4, .int (iZ i)), (0, .ref b), (1, .ref (o 0)), (2, .ref (am 0)), (3, .ref ob)] rfl ?_
  refine z_aload_n mx mb dL_law_789 rfl 5 rfl ?_
  refine z_callP (As := []) (rest := []) ⟨mx, mb, mml, mo, mts⟩ hK zgw (c_X5_thrown l D y am f sv ai x sm ln (thIn (xsI xs (i + 1)) (f 10 - 1) (xsI xs (i + 2)) 1) hh) (cwV 0 mts gL_law_X5_thrown rfl rfl rfl (by decide +kernel) ⟨Nat.le_of_ble_eq_true rfl, Nat.le_of_ble_eq_true rfl⟩) (fun _ h => List.mem_append_right _ h) 95 rfl rfl rfl rfl rfl (Nat.le_of_ble_eq_true rfl) ⟨by show _ ≤ 601024; omega, by show _ ≤ 7293034; omega⟩ dL_law_790 ?_
  refine z_iload mx mb dL_law_793 1 rfl ?_
  have hth : -2147483648 ≤ thIn (xsI xs (i + 1)) (f 10 - 1) (xsI xs (i + 2)) 1 ∧ thIn (xsI xs (i + 1)) (f 10 - 1) (xsI xs (i + 2)) 1 ≤ 2147483647 := by unfold thIn; split <;> (try split) <;> omega
  refine z_icmp_eq (tgt := 800) mx mb hth hth dL_law_795 (by decide) (fun _ => ?_) (fun h => absurd rfl h)
  refine z_iload mx mb dL_law_800 1 rfl ?_
  have fin : Gz p l e room_1 s m args below meth c 9 (k + 1) (n + 6) Q (Zw D vwCl (fun q => s.heap.size ≤ q) s ((wBq y o a2 S2 tb x ln sm (sav a2) p6 ++ wO1 y ob g2) ++ wM y am f sv ai x sm ln (thIn (xsI xs (i + 1)) (f 10 - 1) (xsI xs (i + 2)) 1) hh)) 817 [(6, .int (iZ (if thIn (xsI xs (i + 1)) (f 10 - 1) (xsI xs (i + 2)) 1 = 0 then f (111 + 2 * (f 10 - 1 - (xsI xs (i + 1))) + (xsI xs (i + 2))) else 0))), (5, .int (iZ (thIn (xsI xs (i + 1)) (f 10 - 1) (xsI xs (i + 2)) 1))), (4, .int (iZ i)), (0, .ref b), (1, .ref (o 0)), (2, .ref (am 0)), (3, .ref ob)] [] := by
    refine z_goto (tgt := 1251) mx mb dL_law_817 (by decide) ?_
    refine z_lv [2, 3, 4, 5, 6] rfl ?_
    exact K a2 S2 x ln sm g2 f sv ai (thIn (xsI xs (i + 1)) (f 10 - 1) (xsI xs (i + 2)) 1) hh tie2
  refine z_if_ne (tgt := 817) mx mb hth dL_law_802 (by decide) (fun _ => fin) (fun h0 => ?_)
  refine z_aload_n mx mb dL_law_805 rfl 6 rfl ?_
  refine z_iconst mx mb dL_law_806 ?_
  refine z_lald mx mb hK 94 3 rfl rfl dL_law_807 ?_
  refine z_iload mx mb dL_law_808 0 rfl ?_
  refine z_i2lw mx mb dL_law_810 ?_
  refine z_lcmp0 mx mb (by rw [hg5 h0, if_pos h0]) dL_law_811 ?_
  exact z_if_eq (tgt := 817) mx mb (by decide) dL_law_812 (by decide) (fun _ => fin) (fun h => absurd rfl h)

set_option maxRecDepth 100000 in
set_option maxHeartbeats 4000000 in
theorem lc_why {p : Program} {l : Launch} {e : Env} {s : State} {m : MethodId} {args : Array Value} {below : List Frame} {meth : Method} {c : Code} {b L : Nat} {xs : Nat → Int32} {D : va_G} {y : Nat → ClassId} {Q : State → Prop} (C : LC p l s m args meth c b L xs D y) {o : Nat → Nat} {tb : Nat → Nat} {ob : Nat} {am : Nat → Nat} (a : Nat → Nat → Nat) (S : Nat → Nat → Int → Int) (x : Int → Int) (ln sm : Int) (g : Nat → Int64) (f sv ai : Int → Int) (th hh : Int) (i : Int) (hi : 0 ≤ i ∧ i + 2 < (L : Int)) {k n : Nat} (hk : k + 2 ≤ 601024) (hn : n + 7 ≤ 7293034) (hT : Tie f sv x sm ln S)
    (K : ∀ (a : Nat → Nat → Nat) (S : Nat → Nat → Int → Int) (x : Int → Int) (ln sm : Int) (g : Nat → Int64) (f sv ai : Int → Int) (th hh : Int), Tie f sv x sm ln S → Gz p l e room_1 s m args below meth c 9 (k + 1) (n + 6) Q (Zw D vwCl (fun q => s.heap.size ≤ q) s (LWd y o a S tb x ln sm ob g am f sv ai th hh)) 1251 (lv0 b o am ob i) []) : Gz p l e room_1 s m args below meth c 9 k n Q (Zw D vwCl (fun q => s.heap.size ≤ q) s (LWd y o a S tb x ln sm ob g am f sv ai th hh)) 820 (lv0 b o am ob i) [] := by
  obtain ⟨mx, mb, mml, mo, mts, hK, hE, hX, hbl, hl0, hL⟩ := C
  have hA : ∀ q : Nat, s.heap.size ≤ q → (fun q : Nat => s.heap.size ≤ q) q := fun _ h => h
  have hbA : ¬ (fun q : Nat => s.heap.size ≤ q) b := Nat.not_le.mpr hbl
  obtain ⟨⟨hR, hI, kp⟩, hsc, hTS, hl, htx⟩ := id hT
  have x1 := xsI_rng xs (i + 1)
  have x2 := xsI_rng xs (i + 2)
  show Gz p l e room_1 s m args below meth c 9 k n Q (Zw D vwCl (fun q => s.heap.size ≤ q) s ((wBq y o a S tb x ln sm (sav a) p6 ++ wO1 y ob g) ++ wM y am f sv ai x sm ln th hh)) 820 [(4, .int (iZ i)), (0, .ref b), (1, .ref (o 0)), (2, .ref (am 0)), (3, .ref ob)] []
  refine z_aload_n mx mb dL_law_820 rfl 2 rfl ?_
  refine z_aload_n mx mb dL_law_821 rfl 1 rfl ?_
  refine z_iload mx mb dL_law_822 0 rfl ?_
  refine z_iconst mx mb dL_law_824 ?_
  refine z_iadd mx mb dL_law_825 ?_
  refine z_sld mx mb hX hbl hbA (by omega) hL dL_law_826 ?_
  refine z_aload_n mx mb dL_law_827 rfl 4 rfl ?_
  refine z_callSI (wa := []) (wc := (wBq y o a S tb x ln sm (sav a) p6 ++ wO1 y ob g)) (wb := wM y am f sv ai x sm ln th hh) (As := [.ref (o 0), .int (iZ (xsI xs (i + 1))), .ref ob]) (rest := []) ⟨mx, mb, mml, mo, mts⟩ hK hA hE (fun sz => c_L_why l hl0 D sz y o a S tb x ln sm f sv (xsI xs (i + 1)) ob g x1 hT) (vx_cwSW 3 mts gL_law_L_why rfl rfl rfl (by decide +kernel) ⟨Nat.le_of_ble_eq_true rfl, Nat.le_of_ble_eq_true rfl⟩) rfl rfl rfl (Nat.le_of_ble_eq_true rfl) ⟨by show _ ≤ 601024; omega, by show _ ≤ 7293034; omega⟩ dL_law_828 (fun r5 u5 hu5 => ?_)
  obtain ⟨a2, S2, g2⟩ := u5
  obtain ⟨hr5, hg5, tie2⟩ := hu5
  replace hg5 : thOne (xsI xs (i + 1)) (f 2 - 1) = 0 → g2 0 = lZ (wz (whyOf f (xsI xs (i + 1)))) := hg5
  replace tie2 : Tie f sv x sm ln S2 := tie2
  obtain rfl : r5 = iZ (thOne (xsI xs (i + 1)) (f 2 - 1)) := hr5
  show Gz p l e room_1 s m args below meth c 9 (k + 1) (n + 6) Q (Zw D vwCl (fun q => s.heap.size ≤ q) s ((wBq y o a2 S2 tb x ln sm (sav a2) p6 ++ wO1 y ob g2) ++ wM y am f sv ai x sm ln th hh)) 831 [(4, .int (iZ i)), (0, .ref b), (1, .ref (o 0)), (2, .ref (am 0)), (3, .ref ob)] [.int (iZ (thOne (xsI xs (i + 1)) (f 2 - 1)))]
  refine z_istore mx mb dL_law_831 (by decide) [(5, .int (iZ (thOne (xsI xs (i + 1)) (f 2 - 1)))), (4, .int (iZ i)), (0, .ref b), (1, .ref (o 0)), (2, .ref (am 0)), (3, .ref ob)] rfl ?_
  refine z_aload_n mx mb dL_law_833 rfl 4 rfl ?_
  refine z_aload_n mx mb dL_law_834 rfl 2 rfl ?_
  refine z_iload mx mb dL_law_835 1 rfl ?_
  refine z_iconst mx mb dL_law_837 ?_
  refine z_iadd mx mb dL_law_838 ?_
  refine z_sld mx mb hX hbl hbA (by omega) hL dL_law_839 ?_
  refine z_callI (wa := (wBq y o a2 S2 tb x ln sm (sav a2) p6 ++ wO1 y ob g2)) (wc := wM y am f sv ai x sm ln th hh) (wb := []) (As := [.int (iZ (xsI xs (i + 1)))]) (rest := []) ⟨mx, mb, mml, mo, mts⟩ hK hA (fun sz => c_X5_why l D sz y am f sv ai x sm ln th hh (xsI xs (i + 1)) x1 hI) (cwV 1 mts gL_law_X5_why rfl rfl rfl (by decide +kernel) ⟨Nat.le_of_ble_eq_true rfl, Nat.le_of_ble_eq_true rfl⟩) (List.append_nil _).symm 95 rfl rfl rfl rfl rfl (Nat.le_of_ble_eq_true rfl) ⟨by show _ ≤ 601024; omega, by show _ ≤ 7293034; omega⟩ dL_law_840 (fun r6 u6 hu6 => ?_)
  obtain rfl : r6 = iZ (if thOne (xsI xs (i + 1)) (f 2 - 1) = 0 then whyOf f (xsI xs (i + 1)) else 0) := hu6
  rw [List.append_nil]
  show Gz p l e room_1 s m args below meth c 9 (k + 1) (n + 6) Q (Zw D vwCl (fun q => s.heap.size ≤ q) s ((wBq y o a2 S2 tb x ln sm (sav a2) p6 ++ wO1 y ob g2) ++ wM y am f sv ai x sm ln (thOne (xsI xs (i + 1)) (f 2 - 1)) hh)) 843 [(5, .int (iZ (thOne (xsI xs (i + 1)) (f 2 - 1)))), (4, .int (iZ i)), (0, .ref b), (1, .ref (o 0)), (2, .ref (am 0)), (3, .ref ob)] [.int (iZ (if thOne (xsI xs (i + 1)) (f 2 - 1) = 0 then whyOf f (xsI xs (i + 1)) else 0))]
  refine z_istore mx mb dL_law_843 (by decide) [(6, .int (iZ (if thOne (xsI xs (i + 1)) (f 2 - 1) = 0 then whyOf f (xsI xs (i + 1)) else 0))), (5, .int (iZ (thOne (xsI xs (i + 1)) (f 2 - 1)))), (4, .int (iZ i)), (0, .ref b), (1, .ref (o 0)), (2, .ref (am 0)), (3, .ref ob)] rfl ?_
  refine z_aload_n mx mb dL_law_845 rfl 5 rfl ?_
  refine z_callP (As := []) (rest := []) ⟨mx, mb, mml, mo, mts⟩ hK zgw (c_X5_thrown l D y am f sv ai x sm ln (thOne (xsI xs (i + 1)) (f 2 - 1)) hh) (cwV 0 mts gL_law_X5_thrown rfl rfl rfl (by decide +kernel) ⟨Nat.le_of_ble_eq_true rfl, Nat.le_of_ble_eq_true rfl⟩) (fun _ h => List.mem_append_right _ h) 95 rfl rfl rfl rfl rfl (Nat.le_of_ble_eq_true rfl) ⟨by show _ ≤ 601024; omega, by show _ ≤ 7293034; omega⟩ dL_law_846 ?_
  refine z_iload mx mb dL_law_849 1 rfl ?_
  have hth : -2147483648 ≤ thOne (xsI xs (i + 1)) (f 2 - 1) ∧ thOne (xsI xs (i + 1)) (f 2 - 1) ≤ 2147483647 := by unfold thOne; split <;> omega
  refine z_icmp_eq (tgt := 856) mx mb hth hth dL_law_851 (by decide) (fun _ => ?_) (fun h => absurd rfl h)
  refine z_iload mx mb dL_law_856 1 rfl ?_
  have fin : Gz p l e room_1 s m args below meth c 9 (k + 1) (n + 6) Q (Zw D vwCl (fun q => s.heap.size ≤ q) s ((wBq y o a2 S2 tb x ln sm (sav a2) p6 ++ wO1 y ob g2) ++ wM y am f sv ai x sm ln (thOne (xsI xs (i + 1)) (f 2 - 1)) hh)) 873 [(6, .int (iZ (if thOne (xsI xs (i + 1)) (f 2 - 1) = 0 then whyOf f (xsI xs (i + 1)) else 0))), (5, .int (iZ (thOne (xsI xs (i + 1)) (f 2 - 1)))), (4, .int (iZ i)), (0, .ref b), (1, .ref (o 0)), (2, .ref (am 0)), (3, .ref ob)] [] := by
    refine z_goto (tgt := 1251) mx mb dL_law_873 (by decide) ?_
    refine z_lv [2, 3, 4, 5, 6] rfl ?_
    exact K a2 S2 x ln sm g2 f sv ai (thOne (xsI xs (i + 1)) (f 2 - 1)) hh tie2
  refine z_if_ne (tgt := 873) mx mb hth dL_law_858 (by decide) (fun _ => fin) (fun h0 => ?_)
  refine z_aload_n mx mb dL_law_861 rfl 6 rfl ?_
  refine z_iconst mx mb dL_law_862 ?_
  refine z_lald mx mb hK 94 3 rfl rfl dL_law_863 ?_
  refine z_iload mx mb dL_law_864 0 rfl ?_
  refine z_i2lw mx mb dL_law_866 ?_
  refine z_lcmp0 mx mb (by rw [hg5 h0, if_pos h0]) dL_law_867 ?_
  exact z_if_eq (tgt := 873) mx mb (by decide) dL_law_868 (by decide) (fun _ => fin) (fun h => absurd rfl h)

set_option maxRecDepth 100000 in
set_option maxHeartbeats 4000000 in
theorem lc_ticksToStation {p : Program} {l : Launch} {e : Env} {s : State} {m : MethodId} {args : Array Value} {below : List Frame} {meth : Method} {c : Code} {b L : Nat} {xs : Nat → Int32} {D : va_G} {y : Nat → ClassId} {Q : State → Prop} (C : LC p l s m args meth c b L xs D y) {o : Nat → Nat} {tb : Nat → Nat} {ob : Nat} {am : Nat → Nat} (a : Nat → Nat → Nat) (S : Nat → Nat → Int → Int) (x : Int → Int) (ln sm : Int) (g : Nat → Int64) (f sv ai : Int → Int) (th hh : Int) (i : Int) (hi : 0 ≤ i ∧ i + 2 < (L : Int)) {k n : Nat} (hk : k + 2 ≤ 601024) (hn : n + 7 ≤ 7293034) (hT : Tie f sv x sm ln S)
    (K : ∀ (a : Nat → Nat → Nat) (S : Nat → Nat → Int → Int) (x : Int → Int) (ln sm : Int) (g : Nat → Int64) (f sv ai : Int → Int) (th hh : Int), Tie f sv x sm ln S → Gz p l e room_1 s m args below meth c 9 (k + 1) (n + 6) Q (Zw D vwCl (fun q => s.heap.size ≤ q) s (LWd y o a S tb x ln sm ob g am f sv ai th hh)) 1251 (lv0 b o am ob i) []) : Gz p l e room_1 s m args below meth c 9 k n Q (Zw D vwCl (fun q => s.heap.size ≤ q) s (LWd y o a S tb x ln sm ob g am f sv ai th hh)) 876 (lv0 b o am ob i) [] := by
  obtain ⟨mx, mb, mml, mo, mts, hK, hE, hX, hbl, hl0, hL⟩ := C
  have hA : ∀ q : Nat, s.heap.size ≤ q → (fun q : Nat => s.heap.size ≤ q) q := fun _ h => h
  have hbA : ¬ (fun q : Nat => s.heap.size ≤ q) b := Nat.not_le.mpr hbl
  obtain ⟨⟨hR, hI, kp⟩, hsc, hTS, hl, htx⟩ := id hT
  have x1 := xsI_rng xs (i + 1)
  have x2 := xsI_rng xs (i + 2)
  show Gz p l e room_1 s m args below meth c 9 k n Q (Zw D vwCl (fun q => s.heap.size ≤ q) s ((wBq y o a S tb x ln sm (sav a) p6 ++ wO1 y ob g) ++ wM y am f sv ai x sm ln th hh)) 876 [(4, .int (iZ i)), (0, .ref b), (1, .ref (o 0)), (2, .ref (am 0)), (3, .ref ob)] []
  refine z_aload_n mx mb dL_law_876 rfl 2 rfl ?_
  refine z_aload_n mx mb dL_law_877 rfl 1 rfl ?_
  refine z_iload mx mb dL_law_878 0 rfl ?_
  refine z_iconst mx mb dL_law_880 ?_
  refine z_iadd mx mb dL_law_881 ?_
  refine z_sld mx mb hX hbl hbA (by omega) hL dL_law_882 ?_
  refine z_aload_n mx mb dL_law_883 rfl 4 rfl ?_
  refine z_callSI (wa := []) (wc := (wBq y o a S tb x ln sm (sav a) p6 ++ wO1 y ob g)) (wb := wM y am f sv ai x sm ln th hh) (As := [.ref (o 0), .int (iZ (xsI xs (i + 1))), .ref ob]) (rest := []) ⟨mx, mb, mml, mo, mts⟩ hK hA hE (fun sz => c_L_ticksToStation l hl0 D sz y o a S tb x ln sm f sv (xsI xs (i + 1)) ob g x1 hT) (vx_cwSW 3 mts gL_law_L_ticksToStation rfl rfl rfl (by decide +kernel) ⟨Nat.le_of_ble_eq_true rfl, Nat.le_of_ble_eq_true rfl⟩) rfl rfl rfl (Nat.le_of_ble_eq_true rfl) ⟨by show _ ≤ 601024; omega, by show _ ≤ 7293034; omega⟩ dL_law_884 (fun r5 u5 hu5 => ?_)
  obtain ⟨a2, S2, g2⟩ := u5
  obtain ⟨hr5, hg5, tie2⟩ := hu5
  replace hg5 : thOne (xsI xs (i + 1)) (f 2 - 1) = 0 → g2 0 = lZ (wz (toStation f (xsI xs (i + 1)))) := hg5
  replace tie2 : Tie f sv x sm ln S2 := tie2
  obtain rfl : r5 = iZ (thOne (xsI xs (i + 1)) (f 2 - 1)) := hr5
  show Gz p l e room_1 s m args below meth c 9 (k + 1) (n + 6) Q (Zw D vwCl (fun q => s.heap.size ≤ q) s ((wBq y o a2 S2 tb x ln sm (sav a2) p6 ++ wO1 y ob g2) ++ wM y am f sv ai x sm ln th hh)) 887 [(4, .int (iZ i)), (0, .ref b), (1, .ref (o 0)), (2, .ref (am 0)), (3, .ref ob)] [.int (iZ (thOne (xsI xs (i + 1)) (f 2 - 1)))]
  refine z_istore mx mb dL_law_887 (by decide) [(5, .int (iZ (thOne (xsI xs (i + 1)) (f 2 - 1)))), (4, .int (iZ i)), (0, .ref b), (1, .ref (o 0)), (2, .ref (am 0)), (3, .ref ob)] rfl ?_
  refine z_aload_n mx mb dL_law_889 rfl 4 rfl ?_
  refine z_aload_n mx mb dL_law_890 rfl 2 rfl ?_
  refine z_iload mx mb dL_law_891 1 rfl ?_
  refine z_iconst mx mb dL_law_893 ?_
  refine z_iadd mx mb dL_law_894 ?_
  refine z_sld mx mb hX hbl hbA (by omega) hL dL_law_895 ?_
  refine z_callI (wa := (wBq y o a2 S2 tb x ln sm (sav a2) p6 ++ wO1 y ob g2)) (wc := wM y am f sv ai x sm ln th hh) (wb := []) (As := [.int (iZ (xsI xs (i + 1)))]) (rest := []) ⟨mx, mb, mml, mo, mts⟩ hK hA (fun sz => c_X5_ticksToStation l D sz y am f sv ai x sm ln th hh (xsI xs (i + 1)) x1 hI) (cwV 1 mts gL_law_X5_ticksToStation rfl rfl rfl (by decide +kernel) ⟨Nat.le_of_ble_eq_true rfl, Nat.le_of_ble_eq_true rfl⟩) (List.append_nil _).symm 95 rfl rfl rfl rfl rfl (Nat.le_of_ble_eq_true rfl) ⟨by show _ ≤ 601024; omega, by show _ ≤ 7293034; omega⟩ dL_law_896 (fun r6 u6 hu6 => ?_)
  obtain rfl : r6 = iZ (if thOne (xsI xs (i + 1)) (f 2 - 1) = 0 then toStation f (xsI xs (i + 1)) else 0) := hu6
  rw [List.append_nil]
  show Gz p l e room_1 s m args below meth c 9 (k + 1) (n + 6) Q (Zw D vwCl (fun q => s.heap.size ≤ q) s ((wBq y o a2 S2 tb x ln sm (sav a2) p6 ++ wO1 y ob g2) ++ wM y am f sv u6 x sm ln (thOne (xsI xs (i + 1)) (f 2 - 1)) hh)) 899 [(5, .int (iZ (thOne (xsI xs (i + 1)) (f 2 - 1)))), (4, .int (iZ i)), (0, .ref b), (1, .ref (o 0)), (2, .ref (am 0)), (3, .ref ob)] [.int (iZ (if thOne (xsI xs (i + 1)) (f 2 - 1) = 0 then toStation f (xsI xs (i + 1)) else 0))]
  refine z_istore mx mb dL_law_899 (by decide) [(6, .int (iZ (if thOne (xsI xs (i + 1)) (f 2 - 1) = 0 then toStation f (xsI xs (i + 1)) else 0))), (5, .int (iZ (thOne (xsI xs (i + 1)) (f 2 - 1)))), (4, .int (iZ i)), (0, .ref b), (1, .ref (o 0)), (2, .ref (am 0)), (3, .ref ob)] rfl ?_
  refine z_aload_n mx mb dL_law_901 rfl 5 rfl ?_
  refine z_callP (As := []) (rest := []) ⟨mx, mb, mml, mo, mts⟩ hK zgw (c_X5_thrown l D y am f sv u6 x sm ln (thOne (xsI xs (i + 1)) (f 2 - 1)) hh) (cwV 0 mts gL_law_X5_thrown rfl rfl rfl (by decide +kernel) ⟨Nat.le_of_ble_eq_true rfl, Nat.le_of_ble_eq_true rfl⟩) (fun _ h => List.mem_append_right _ h) 95 rfl rfl rfl rfl rfl (Nat.le_of_ble_eq_true rfl) ⟨by show _ ≤ 601024; omega, by show _ ≤ 7293034; omega⟩ dL_law_902 ?_
  refine z_iload mx mb dL_law_905 1 rfl ?_
  have hth : -2147483648 ≤ thOne (xsI xs (i + 1)) (f 2 - 1) ∧ thOne (xsI xs (i + 1)) (f 2 - 1) ≤ 2147483647 := by unfold thOne; split <;> omega
  refine z_icmp_eq (tgt := 912) mx mb hth hth dL_law_907 (by decide) (fun _ => ?_) (fun h => absurd rfl h)
  refine z_iload mx mb dL_law_912 1 rfl ?_
  have fin : Gz p l e room_1 s m args below meth c 9 (k + 1) (n + 6) Q (Zw D vwCl (fun q => s.heap.size ≤ q) s ((wBq y o a2 S2 tb x ln sm (sav a2) p6 ++ wO1 y ob g2) ++ wM y am f sv u6 x sm ln (thOne (xsI xs (i + 1)) (f 2 - 1)) hh)) 929 [(6, .int (iZ (if thOne (xsI xs (i + 1)) (f 2 - 1) = 0 then toStation f (xsI xs (i + 1)) else 0))), (5, .int (iZ (thOne (xsI xs (i + 1)) (f 2 - 1)))), (4, .int (iZ i)), (0, .ref b), (1, .ref (o 0)), (2, .ref (am 0)), (3, .ref ob)] [] := by
    refine z_goto (tgt := 1251) mx mb dL_law_929 (by decide) ?_
    refine z_lv [2, 3, 4, 5, 6] rfl ?_
    exact K a2 S2 x ln sm g2 f sv u6 (thOne (xsI xs (i + 1)) (f 2 - 1)) hh tie2
  refine z_if_ne (tgt := 929) mx mb hth dL_law_914 (by decide) (fun _ => fin) (fun h0 => ?_)
  refine z_aload_n mx mb dL_law_917 rfl 6 rfl ?_
  refine z_iconst mx mb dL_law_918 ?_
  refine z_lald mx mb hK 94 3 rfl rfl dL_law_919 ?_
  refine z_iload mx mb dL_law_920 0 rfl ?_
  refine z_i2lw mx mb dL_law_922 ?_
  refine z_lcmp0 mx mb (by rw [hg5 h0, if_pos h0]) dL_law_923 ?_
  exact z_if_eq (tgt := 929) mx mb (by decide) dL_law_924 (by decide) (fun _ => fin) (fun h => absurd rfl h)

set_option maxRecDepth 100000 in
set_option maxHeartbeats 4000000 in
theorem lc_dispatchesWith {p : Program} {l : Launch} {e : Env} {s : State} {m : MethodId} {args : Array Value} {below : List Frame} {meth : Method} {c : Code} {b L : Nat} {xs : Nat → Int32} {D : va_G} {y : Nat → ClassId} {Q : State → Prop} (C : LC p l s m args meth c b L xs D y) {o : Nat → Nat} {tb : Nat → Nat} {ob : Nat} {am : Nat → Nat} (a : Nat → Nat → Nat) (S : Nat → Nat → Int → Int) (x : Int → Int) (ln sm : Int) (g : Nat → Int64) (f sv ai : Int → Int) (th hh : Int) (i : Int) (hi : 0 ≤ i ∧ i + 2 < (L : Int)) {k n : Nat} (hk : k + 2 ≤ 601024) (hn : n + 7 ≤ 7293034) (hT : Tie f sv x sm ln S)
    (K : ∀ (a : Nat → Nat → Nat) (S : Nat → Nat → Int → Int) (x : Int → Int) (ln sm : Int) (g : Nat → Int64) (f sv ai : Int → Int) (th hh : Int), Tie f sv x sm ln S → Gz p l e room_1 s m args below meth c 9 (k + 1) (n + 6) Q (Zw D vwCl (fun q => s.heap.size ≤ q) s (LWd y o a S tb x ln sm ob g am f sv ai th hh)) 1251 (lv0 b o am ob i) []) : Gz p l e room_1 s m args below meth c 9 k n Q (Zw D vwCl (fun q => s.heap.size ≤ q) s (LWd y o a S tb x ln sm ob g am f sv ai th hh)) 945 (lv0 b o am ob i) [] := by
  obtain ⟨mx, mb, mml, mo, mts, hK, hE, hX, hbl, hl0, hL⟩ := C
  have hA : ∀ q : Nat, s.heap.size ≤ q → (fun q : Nat => s.heap.size ≤ q) q := fun _ h => h
  have hbA : ¬ (fun q : Nat => s.heap.size ≤ q) b := Nat.not_le.mpr hbl
  obtain ⟨⟨hR, hI, kp⟩, hsc, hTS, hl, htx⟩ := id hT
  have x1 := xsI_rng xs (i + 1)
  have x2 := xsI_rng xs (i + 2)
  show Gz p l e room_1 s m args below meth c 9 k n Q (Zw D vwCl (fun q => s.heap.size ≤ q) s ((wBq y o a S tb x ln sm (sav a) p6 ++ wO1 y ob g) ++ wM y am f sv ai x sm ln th hh)) 945 [(4, .int (iZ i)), (0, .ref b), (1, .ref (o 0)), (2, .ref (am 0)), (3, .ref ob)] []
  refine z_aload_n mx mb dL_law_945 rfl 2 rfl ?_
  refine z_aload_n mx mb dL_law_946 rfl 1 rfl ?_
  refine z_iload mx mb dL_law_947 0 rfl ?_
  refine z_iconst mx mb dL_law_949 ?_
  refine z_iadd mx mb dL_law_950 ?_
  refine z_sld mx mb hX hbl hbA (by omega) hL dL_law_951 ?_
  refine z_aload_n mx mb dL_law_952 rfl 4 rfl ?_
  refine z_callSI (wa := []) (wc := (wBq y o a S tb x ln sm (sav a) p6 ++ wO1 y ob g)) (wb := wM y am f sv ai x sm ln th hh) (As := [.ref (o 0), .int (iZ (xsI xs (i + 1))), .ref ob]) (rest := []) ⟨mx, mb, mml, mo, mts⟩ hK hA hE (fun sz => c_L_dispatchesWith l hl0 D sz y o a S tb x ln sm f sv (xsI xs (i + 1)) ob g x1 hT) (vx_cwSW 3 mts gL_law_L_dispatchesWith rfl rfl rfl (by decide +kernel) ⟨Nat.le_of_ble_eq_true rfl, Nat.le_of_ble_eq_true rfl⟩) rfl rfl rfl (Nat.le_of_ble_eq_true rfl) ⟨by show _ ≤ 601024; omega, by show _ ≤ 7293034; omega⟩ dL_law_953 (fun r5 u5 hu5 => ?_)
  obtain ⟨a2, S2, g2⟩ := u5
  obtain ⟨hr5, hg5, tie2⟩ := hu5
  replace hg5 : thOne (xsI xs (i + 1)) 500 = 0 → g2 0 = lZ (wz (dispWith f (xsI xs (i + 1)))) := hg5
  replace tie2 : Tie f sv x sm ln S2 := tie2
  obtain rfl : r5 = iZ (thOne (xsI xs (i + 1)) 500) := hr5
  show Gz p l e room_1 s m args below meth c 9 (k + 1) (n + 6) Q (Zw D vwCl (fun q => s.heap.size ≤ q) s ((wBq y o a2 S2 tb x ln sm (sav a2) p6 ++ wO1 y ob g2) ++ wM y am f sv ai x sm ln th hh)) 956 [(4, .int (iZ i)), (0, .ref b), (1, .ref (o 0)), (2, .ref (am 0)), (3, .ref ob)] [.int (iZ (thOne (xsI xs (i + 1)) 500))]
  refine z_istore mx mb dL_law_956 (by decide) [(5, .int (iZ (thOne (xsI xs (i + 1)) 500))), (4, .int (iZ i)), (0, .ref b), (1, .ref (o 0)), (2, .ref (am 0)), (3, .ref ob)] rfl ?_
  refine z_aload_n mx mb dL_law_958 rfl 4 rfl ?_
  refine z_aload_n mx mb dL_law_959 rfl 2 rfl ?_
  refine z_iload mx mb dL_law_960 1 rfl ?_
  refine z_iconst mx mb dL_law_962 ?_
  refine z_iadd mx mb dL_law_963 ?_
  refine z_sld mx mb hX hbl hbA (by omega) hL dL_law_964 ?_
  refine z_callI (wa := (wBq y o a2 S2 tb x ln sm (sav a2) p6 ++ wO1 y ob g2)) (wc := wM y am f sv ai x sm ln th hh) (wb := []) (As := [.int (iZ (xsI xs (i + 1)))]) (rest := []) ⟨mx, mb, mml, mo, mts⟩ hK hA (fun sz => c_X5_dispatchesWith l D sz y am f sv ai x sm ln th hh (xsI xs (i + 1)) x1 hI) (cwV 1 mts gL_law_X5_dispatchesWith rfl rfl rfl (by decide +kernel) ⟨Nat.le_of_ble_eq_true rfl, Nat.le_of_ble_eq_true rfl⟩) (List.append_nil _).symm 95 rfl rfl rfl rfl rfl (Nat.le_of_ble_eq_true rfl) ⟨by show _ ≤ 601024; omega, by show _ ≤ 7293034; omega⟩ dL_law_965 (fun r6 u6 hu6 => ?_)
  obtain rfl : r6 = iZ (if thOne (xsI xs (i + 1)) 500 = 0 then dispWith f (xsI xs (i + 1)) else 0) := hu6
  rw [List.append_nil]
  show Gz p l e room_1 s m args below meth c 9 (k + 1) (n + 6) Q (Zw D vwCl (fun q => s.heap.size ≤ q) s ((wBq y o a2 S2 tb x ln sm (sav a2) p6 ++ wO1 y ob g2) ++ wM y am f sv u6 x sm ln (thOne (xsI xs (i + 1)) 500) hh)) 968 [(5, .int (iZ (thOne (xsI xs (i + 1)) 500))), (4, .int (iZ i)), (0, .ref b), (1, .ref (o 0)), (2, .ref (am 0)), (3, .ref ob)] [.int (iZ (if thOne (xsI xs (i + 1)) 500 = 0 then dispWith f (xsI xs (i + 1)) else 0))]
  refine z_istore mx mb dL_law_968 (by decide) [(6, .int (iZ (if thOne (xsI xs (i + 1)) 500 = 0 then dispWith f (xsI xs (i + 1)) else 0))), (5, .int (iZ (thOne (xsI xs (i + 1)) 500))), (4, .int (iZ i)), (0, .ref b), (1, .ref (o 0)), (2, .ref (am 0)), (3, .ref ob)] rfl ?_
  refine z_aload_n mx mb dL_law_970 rfl 5 rfl ?_
  refine z_callP (As := []) (rest := []) ⟨mx, mb, mml, mo, mts⟩ hK zgw (c_X5_thrown l D y am f sv u6 x sm ln (thOne (xsI xs (i + 1)) 500) hh) (cwV 0 mts gL_law_X5_thrown rfl rfl rfl (by decide +kernel) ⟨Nat.le_of_ble_eq_true rfl, Nat.le_of_ble_eq_true rfl⟩) (fun _ h => List.mem_append_right _ h) 95 rfl rfl rfl rfl rfl (Nat.le_of_ble_eq_true rfl) ⟨by show _ ≤ 601024; omega, by show _ ≤ 7293034; omega⟩ dL_law_971 ?_
  refine z_iload mx mb dL_law_974 1 rfl ?_
  have hth : -2147483648 ≤ thOne (xsI xs (i + 1)) 500 ∧ thOne (xsI xs (i + 1)) 500 ≤ 2147483647 := by unfold thOne; split <;> omega
  refine z_icmp_eq (tgt := 981) mx mb hth hth dL_law_976 (by decide) (fun _ => ?_) (fun h => absurd rfl h)
  refine z_iload mx mb dL_law_981 1 rfl ?_
  have fin : Gz p l e room_1 s m args below meth c 9 (k + 1) (n + 6) Q (Zw D vwCl (fun q => s.heap.size ≤ q) s ((wBq y o a2 S2 tb x ln sm (sav a2) p6 ++ wO1 y ob g2) ++ wM y am f sv u6 x sm ln (thOne (xsI xs (i + 1)) 500) hh)) 998 [(6, .int (iZ (if thOne (xsI xs (i + 1)) 500 = 0 then dispWith f (xsI xs (i + 1)) else 0))), (5, .int (iZ (thOne (xsI xs (i + 1)) 500))), (4, .int (iZ i)), (0, .ref b), (1, .ref (o 0)), (2, .ref (am 0)), (3, .ref ob)] [] := by
    refine z_goto (tgt := 1251) mx mb dL_law_998 (by decide) ?_
    refine z_lv [2, 3, 4, 5, 6] rfl ?_
    exact K a2 S2 x ln sm g2 f sv u6 (thOne (xsI xs (i + 1)) 500) hh tie2
  refine z_if_ne (tgt := 998) mx mb hth dL_law_983 (by decide) (fun _ => fin) (fun h0 => ?_)
  refine z_aload_n mx mb dL_law_986 rfl 6 rfl ?_
  refine z_iconst mx mb dL_law_987 ?_
  refine z_lald mx mb hK 94 3 rfl rfl dL_law_988 ?_
  refine z_iload mx mb dL_law_989 0 rfl ?_
  refine z_i2lw mx mb dL_law_991 ?_
  refine z_lcmp0 mx mb (by rw [hg5 h0, if_pos h0]) dL_law_992 ?_
  exact z_if_eq (tgt := 998) mx mb (by decide) dL_law_993 (by decide) (fun _ => fin) (fun h => absurd rfl h)

set_option maxRecDepth 100000 in
set_option maxHeartbeats 4000000 in
theorem lc_leastSquare {p : Program} {l : Launch} {e : Env} {s : State} {m : MethodId} {args : Array Value} {below : List Frame} {meth : Method} {c : Code} {b L : Nat} {xs : Nat → Int32} {D : va_G} {y : Nat → ClassId} {Q : State → Prop} (C : LC p l s m args meth c b L xs D y) {o : Nat → Nat} {tb : Nat → Nat} {ob : Nat} {am : Nat → Nat} (a : Nat → Nat → Nat) (S : Nat → Nat → Int → Int) (x : Int → Int) (ln sm : Int) (g : Nat → Int64) (f sv ai : Int → Int) (th hh : Int) (i : Int) (hi : 0 ≤ i ∧ i + 2 < (L : Int)) {k n : Nat} (hk : k + 2 ≤ 601024) (hn : n + 7 ≤ 7293034) (hT : Tie f sv x sm ln S)
    (K : ∀ (a : Nat → Nat → Nat) (S : Nat → Nat → Int → Int) (x : Int → Int) (ln sm : Int) (g : Nat → Int64) (f sv ai : Int → Int) (th hh : Int), Tie f sv x sm ln S → Gz p l e room_1 s m args below meth c 9 (k + 1) (n + 6) Q (Zw D vwCl (fun q => s.heap.size ≤ q) s (LWd y o a S tb x ln sm ob g am f sv ai th hh)) 1251 (lv0 b o am ob i) []) : Gz p l e room_1 s m args below meth c 9 k n Q (Zw D vwCl (fun q => s.heap.size ≤ q) s (LWd y o a S tb x ln sm ob g am f sv ai th hh)) 1014 (lv0 b o am ob i) [] := by
  obtain ⟨mx, mb, mml, mo, mts, hK, hE, hX, hbl, hl0, hL⟩ := C
  have hA : ∀ q : Nat, s.heap.size ≤ q → (fun q : Nat => s.heap.size ≤ q) q := fun _ h => h
  have hbA : ¬ (fun q : Nat => s.heap.size ≤ q) b := Nat.not_le.mpr hbl
  obtain ⟨⟨hR, hI, kp⟩, hsc, hTS, hl, htx⟩ := id hT
  have x1 := xsI_rng xs (i + 1)
  have x2 := xsI_rng xs (i + 2)
  show Gz p l e room_1 s m args below meth c 9 k n Q (Zw D vwCl (fun q => s.heap.size ≤ q) s ((wBq y o a S tb x ln sm (sav a) p6 ++ wO1 y ob g) ++ wM y am f sv ai x sm ln th hh)) 1014 [(4, .int (iZ i)), (0, .ref b), (1, .ref (o 0)), (2, .ref (am 0)), (3, .ref ob)] []
  refine z_aload_n mx mb dL_law_1014 rfl 2 rfl ?_
  refine z_aload_n mx mb dL_law_1015 rfl 1 rfl ?_
  refine z_iload mx mb dL_law_1016 0 rfl ?_
  refine z_iconst mx mb dL_law_1018 ?_
  refine z_iadd mx mb dL_law_1019 ?_
  refine z_sld mx mb hX hbl hbA (by omega) hL dL_law_1020 ?_
  refine z_aload_n mx mb dL_law_1021 rfl 4 rfl ?_
  refine z_callSI (wa := []) (wc := (wBq y o a S tb x ln sm (sav a) p6 ++ wO1 y ob g)) (wb := wM y am f sv ai x sm ln th hh) (As := [.ref (o 0), .int (iZ (xsI xs (i + 1))), .ref ob]) (rest := []) ⟨mx, mb, mml, mo, mts⟩ hK hA hE (fun sz => c_L_leastSquare l hl0 D sz y o a S tb x ln sm f sv (xsI xs (i + 1)) ob g x1 hT) (vx_cwSW 3 mts gL_law_L_leastSquare rfl rfl rfl (by decide +kernel) ⟨Nat.le_of_ble_eq_true rfl, Nat.le_of_ble_eq_true rfl⟩) rfl rfl rfl (Nat.le_of_ble_eq_true rfl) ⟨by show _ ≤ 601024; omega, by show _ ≤ 7293034; omega⟩ dL_law_1022 (fun r5 u5 hu5 => ?_)
  obtain ⟨a2, S2, g2⟩ := u5
  obtain ⟨hr5, hg5, tie2⟩ := hu5
  replace hg5 : thOne (xsI xs (i + 1)) (f 0 - 1) = 0 → g2 0 = lZ (wz (leastS f (xsI xs (i + 1)))) := hg5
  replace tie2 : Tie f sv x sm ln S2 := tie2
  obtain rfl : r5 = iZ (thOne (xsI xs (i + 1)) (f 0 - 1)) := hr5
  show Gz p l e room_1 s m args below meth c 9 (k + 1) (n + 6) Q (Zw D vwCl (fun q => s.heap.size ≤ q) s ((wBq y o a2 S2 tb x ln sm (sav a2) p6 ++ wO1 y ob g2) ++ wM y am f sv ai x sm ln th hh)) 1025 [(4, .int (iZ i)), (0, .ref b), (1, .ref (o 0)), (2, .ref (am 0)), (3, .ref ob)] [.int (iZ (thOne (xsI xs (i + 1)) (f 0 - 1)))]
  refine z_istore mx mb dL_law_1025 (by decide) [(5, .int (iZ (thOne (xsI xs (i + 1)) (f 0 - 1)))), (4, .int (iZ i)), (0, .ref b), (1, .ref (o 0)), (2, .ref (am 0)), (3, .ref ob)] rfl ?_
  refine z_aload_n mx mb dL_law_1027 rfl 4 rfl ?_
  refine z_aload_n mx mb dL_law_1028 rfl 2 rfl ?_
  refine z_iload mx mb dL_law_1029 1 rfl ?_
  refine z_iconst mx mb dL_law_1031 ?_
  refine z_iadd mx mb dL_law_1032 ?_
  refine z_sld mx mb hX hbl hbA (by omega) hL dL_law_1033 ?_
  refine z_callI (wa := (wBq y o a2 S2 tb x ln sm (sav a2) p6 ++ wO1 y ob g2)) (wc := wM y am f sv ai x sm ln th hh) (wb := []) (As := [.int (iZ (xsI xs (i + 1)))]) (rest := []) ⟨mx, mb, mml, mo, mts⟩ hK hA (fun sz => c_X5_leastSquare l D sz y am f sv ai x sm ln th hh (xsI xs (i + 1)) x1 hI) (cwV 1 mts gL_law_X5_leastSquare rfl rfl rfl (by decide +kernel) ⟨Nat.le_of_ble_eq_true rfl, Nat.le_of_ble_eq_true rfl⟩) (List.append_nil _).symm 95 rfl rfl rfl rfl rfl (Nat.le_of_ble_eq_true rfl) ⟨by show _ ≤ 601024; omega, by show _ ≤ 7293034; omega⟩ dL_law_1034 (fun r6 u6 hu6 => ?_)
  obtain rfl : r6 = iZ (if thOne (xsI xs (i + 1)) (f 0 - 1) = 0 then leastS f (xsI xs (i + 1)) else 0) := hu6
  rw [List.append_nil]
  show Gz p l e room_1 s m args below meth c 9 (k + 1) (n + 6) Q (Zw D vwCl (fun q => s.heap.size ≤ q) s ((wBq y o a2 S2 tb x ln sm (sav a2) p6 ++ wO1 y ob g2) ++ wM y am f sv ai x sm ln (thOne (xsI xs (i + 1)) (f 0 - 1)) hh)) 1037 [(5, .int (iZ (thOne (xsI xs (i + 1)) (f 0 - 1)))), (4, .int (iZ i)), (0, .ref b), (1, .ref (o 0)), (2, .ref (am 0)), (3, .ref ob)] [.int (iZ (if thOne (xsI xs (i + 1)) (f 0 - 1) = 0 then leastS f (xsI xs (i + 1)) else 0))]
  refine z_istore mx mb dL_law_1037 (by decide) [(6, .int (iZ (if thOne (xsI xs (i + 1)) (f 0 - 1) = 0 then leastS f (xsI xs (i + 1)) else 0))), (5, .int (iZ (thOne (xsI xs (i + 1)) (f 0 - 1)))), (4, .int (iZ i)), (0, .ref b), (1, .ref (o 0)), (2, .ref (am 0)), (3, .ref ob)] rfl ?_
  refine z_aload_n mx mb dL_law_1039 rfl 5 rfl ?_
  refine z_callP (As := []) (rest := []) ⟨mx, mb, mml, mo, mts⟩ hK zgw (c_X5_thrown l D y am f sv ai x sm ln (thOne (xsI xs (i + 1)) (f 0 - 1)) hh) (cwV 0 mts gL_law_X5_thrown rfl rfl rfl (by decide +kernel) ⟨Nat.le_of_ble_eq_true rfl, Nat.le_of_ble_eq_true rfl⟩) (fun _ h => List.mem_append_right _ h) 95 rfl rfl rfl rfl rfl (Nat.le_of_ble_eq_true rfl) ⟨by show _ ≤ 601024; omega, by show _ ≤ 7293034; omega⟩ dL_law_1040 ?_
  refine z_iload mx mb dL_law_1043 1 rfl ?_
  have hth : -2147483648 ≤ thOne (xsI xs (i + 1)) (f 0 - 1) ∧ thOne (xsI xs (i + 1)) (f 0 - 1) ≤ 2147483647 := by unfold thOne; split <;> omega
  refine z_icmp_eq (tgt := 1050) mx mb hth hth dL_law_1045 (by decide) (fun _ => ?_) (fun h => absurd rfl h)
  refine z_iload mx mb dL_law_1050 1 rfl ?_
  have fin : Gz p l e room_1 s m args below meth c 9 (k + 1) (n + 6) Q (Zw D vwCl (fun q => s.heap.size ≤ q) s ((wBq y o a2 S2 tb x ln sm (sav a2) p6 ++ wO1 y ob g2) ++ wM y am f sv ai x sm ln (thOne (xsI xs (i + 1)) (f 0 - 1)) hh)) 1067 [(6, .int (iZ (if thOne (xsI xs (i + 1)) (f 0 - 1) = 0 then leastS f (xsI xs (i + 1)) else 0))), (5, .int (iZ (thOne (xsI xs (i + 1)) (f 0 - 1)))), (4, .int (iZ i)), (0, .ref b), (1, .ref (o 0)), (2, .ref (am 0)), (3, .ref ob)] [] := by
    refine z_goto (tgt := 1251) mx mb dL_law_1067 (by decide) ?_
    refine z_lv [2, 3, 4, 5, 6] rfl ?_
    exact K a2 S2 x ln sm g2 f sv ai (thOne (xsI xs (i + 1)) (f 0 - 1)) hh tie2
  refine z_if_ne (tgt := 1067) mx mb hth dL_law_1052 (by decide) (fun _ => fin) (fun h0 => ?_)
  refine z_aload_n mx mb dL_law_1055 rfl 6 rfl ?_
  refine z_iconst mx mb dL_law_1056 ?_
  refine z_lald mx mb hK 94 3 rfl rfl dL_law_1057 ?_
  refine z_iload mx mb dL_law_1058 0 rfl ?_
  refine z_i2lw mx mb dL_law_1060 ?_
  refine z_lcmp0 mx mb (by rw [hg5 h0, if_pos h0]) dL_law_1061 ?_
  exact z_if_eq (tgt := 1067) mx mb (by decide) dL_law_1062 (by decide) (fun _ => fin) (fun h => absurd rfl h)

set_option maxRecDepth 100000 in
set_option maxHeartbeats 4000000 in
theorem lc_append {p : Program} {l : Launch} {e : Env} {s : State} {m : MethodId} {args : Array Value} {below : List Frame} {meth : Method} {c : Code} {b L : Nat} {xs : Nat → Int32} {D : va_G} {y : Nat → ClassId} {Q : State → Prop} (C : LC p l s m args meth c b L xs D y) {o : Nat → Nat} {tb : Nat → Nat} {ob : Nat} {am : Nat → Nat} (a : Nat → Nat → Nat) (S : Nat → Nat → Int → Int) (x : Int → Int) (ln sm : Int) (g : Nat → Int64) (f sv ai : Int → Int) (th hh : Int) (i : Int) (hi : 0 ≤ i ∧ i + 2 < (L : Int)) {k n : Nat} (hk : k + 2 ≤ 601024) (hn : n + 7 ≤ 7293034) (hT : Tie f sv x sm ln S)
    (K : ∀ (a : Nat → Nat → Nat) (S : Nat → Nat → Int → Int) (x : Int → Int) (ln sm : Int) (g : Nat → Int64) (f sv ai : Int → Int) (th hh : Int), Tie f sv x sm ln S → Gz p l e room_1 s m args below meth c 9 (k + 1) (n + 6) Q (Zw D vwCl (fun q => s.heap.size ≤ q) s (LWd y o a S tb x ln sm ob g am f sv ai th hh)) 1251 (lv0 b o am ob i) []) : Gz p l e room_1 s m args below meth c 9 k n Q (Zw D vwCl (fun q => s.heap.size ≤ q) s (LWd y o a S tb x ln sm ob g am f sv ai th hh)) 1111 (lv0 b o am ob i) [] := by
  obtain ⟨mx, mb, mml, mo, mts, hK, hE, hX, hbl, hl0, hL⟩ := C
  have hA : ∀ q : Nat, s.heap.size ≤ q → (fun q : Nat => s.heap.size ≤ q) q := fun _ h => h
  have hbA : ¬ (fun q : Nat => s.heap.size ≤ q) b := Nat.not_le.mpr hbl
  obtain ⟨⟨hR, hI, kp⟩, hsc, hTS, hl, htx⟩ := id hT
  have x1 := xsI_rng xs (i + 1)
  have x2 := xsI_rng xs (i + 2)
  show Gz p l e room_1 s m args below meth c 9 k n Q (Zw D vwCl (fun q => s.heap.size ≤ q) s ((wBq y o a S tb x ln sm (sav a) p6 ++ wO1 y ob g) ++ wM y am f sv ai x sm ln th hh)) 1111 [(4, .int (iZ i)), (0, .ref b), (1, .ref (o 0)), (2, .ref (am 0)), (3, .ref ob)] []
  refine z_aload_n mx mb dL_law_1111 rfl 2 rfl ?_
  refine z_aload_n mx mb dL_law_1112 rfl 1 rfl ?_
  refine z_iload mx mb dL_law_1113 0 rfl ?_
  refine z_iconst mx mb dL_law_1115 ?_
  refine z_iadd mx mb dL_law_1116 ?_
  refine z_sld mx mb hX hbl hbA (by omega) hL dL_law_1117 ?_
  refine z_aload_n mx mb dL_law_1118 rfl 4 rfl ?_
  refine z_callSI (wa := []) (wc := (wBq y o a S tb x ln sm (sav a) p6 ++ wO1 y ob g)) (wb := wM y am f sv ai x sm ln th hh) (As := [.ref (o 0), .int (iZ (xsI xs (i + 1))), .ref ob]) (rest := []) ⟨mx, mb, mml, mo, mts⟩ hK hA hE (fun sz => c_L_append l hl0 D sz y o a S tb x ln sm f sv (xsI xs (i + 1)) ob g x1 hT) (vx_cwSW 3 mts gL_law_L_append rfl rfl rfl (by decide +kernel) ⟨Nat.le_of_ble_eq_true rfl, Nat.le_of_ble_eq_true rfl⟩) rfl rfl rfl (Nat.le_of_ble_eq_true rfl) ⟨by show _ ≤ 601024; omega, by show _ ≤ 7293034; omega⟩ dL_law_1119 (fun r5 u5 hu5 => ?_)
  obtain ⟨a2, S2, g2⟩ := u5
  obtain ⟨hr5, hg5, tie2⟩ := hu5
  replace hg5 : thApp (xsI xs (i + 1)) ln = 0 → g2 0 = lZ (wz (ln + 1)) := hg5
  replace tie2 : Tie f sv (if thApp (xsI xs (i + 1)) ln = 0 then zu x ln (xsI xs (i + 1)) else x) sm (if thApp (xsI xs (i + 1)) ln = 0 then ln + 1 else ln) S2 := tie2
  obtain rfl : r5 = iZ (thApp (xsI xs (i + 1)) ln) := hr5
  show Gz p l e room_1 s m args below meth c 9 (k + 1) (n + 6) Q (Zw D vwCl (fun q => s.heap.size ≤ q) s ((wBq y o a2 S2 tb (if thApp (xsI xs (i + 1)) ln = 0 then zu x ln (xsI xs (i + 1)) else x) (if thApp (xsI xs (i + 1)) ln = 0 then ln + 1 else ln) sm (sav a2) p6 ++ wO1 y ob g2) ++ wM y am f sv ai x sm ln th hh)) 1122 [(4, .int (iZ i)), (0, .ref b), (1, .ref (o 0)), (2, .ref (am 0)), (3, .ref ob)] [.int (iZ (thApp (xsI xs (i + 1)) ln))]
  refine z_istore mx mb dL_law_1122 (by decide) [(5, .int (iZ (thApp (xsI xs (i + 1)) ln))), (4, .int (iZ i)), (0, .ref b), (1, .ref (o 0)), (2, .ref (am 0)), (3, .ref ob)] rfl ?_
  refine z_aload_n mx mb dL_law_1124 rfl 4 rfl ?_
  refine z_aload_n mx mb dL_law_1125 rfl 2 rfl ?_
  refine z_iload mx mb dL_law_1126 1 rfl ?_
  refine z_iconst mx mb dL_law_1128 ?_
  refine z_iadd mx mb dL_law_1129 ?_
  refine z_sld mx mb hX hbl hbA (by omega) hL dL_law_1130 ?_
  refine z_callI (wa := (wBq y o a2 S2 tb (if thApp (xsI xs (i + 1)) ln = 0 then zu x ln (xsI xs (i + 1)) else x) (if thApp (xsI xs (i + 1)) ln = 0 then ln + 1 else ln) sm (sav a2) p6 ++ wO1 y ob g2)) (wc := wM y am f sv ai x sm ln th hh) (wb := []) (As := [.int (iZ (xsI xs (i + 1)))]) (rest := []) ⟨mx, mb, mml, mo, mts⟩ hK hA (fun sz => c_X5_append l D sz y am f sv ai x sm ln th hh (xsI xs (i + 1)) x1 hl) (cwV 1 mts gL_law_X5_append rfl rfl rfl (by decide +kernel) ⟨Nat.le_of_ble_eq_true rfl, Nat.le_of_ble_eq_true rfl⟩) (List.append_nil _).symm 95 rfl rfl rfl rfl rfl (Nat.le_of_ble_eq_true rfl) ⟨by show _ ≤ 601024; omega, by show _ ≤ 7293034; omega⟩ dL_law_1131 (fun r6 u6 hu6 => ?_)
  obtain rfl : r6 = iZ (if thApp (xsI xs (i + 1)) ln = 0 then ln + 1 else 0) := hu6
  rw [List.append_nil]
  show Gz p l e room_1 s m args below meth c 9 (k + 1) (n + 6) Q (Zw D vwCl (fun q => s.heap.size ≤ q) s ((wBq y o a2 S2 tb (if thApp (xsI xs (i + 1)) ln = 0 then zu x ln (xsI xs (i + 1)) else x) (if thApp (xsI xs (i + 1)) ln = 0 then ln + 1 else ln) sm (sav a2) p6 ++ wO1 y ob g2) ++ wM y am f sv ai (if thApp (xsI xs (i + 1)) ln = 0 then zu x ln (xsI xs (i + 1)) else x) sm (if thApp (xsI xs (i + 1)) ln = 0 then ln + 1 else ln) (thApp (xsI xs (i + 1)) ln) hh)) 1134 [(5, .int (iZ (thApp (xsI xs (i + 1)) ln))), (4, .int (iZ i)), (0, .ref b), (1, .ref (o 0)), (2, .ref (am 0)), (3, .ref ob)] [.int (iZ (if thApp (xsI xs (i + 1)) ln = 0 then ln + 1 else 0))]
  refine z_istore mx mb dL_law_1134 (by decide) [(6, .int (iZ (if thApp (xsI xs (i + 1)) ln = 0 then ln + 1 else 0))), (5, .int (iZ (thApp (xsI xs (i + 1)) ln))), (4, .int (iZ i)), (0, .ref b), (1, .ref (o 0)), (2, .ref (am 0)), (3, .ref ob)] rfl ?_
  refine z_aload_n mx mb dL_law_1136 rfl 5 rfl ?_
  refine z_callP (As := []) (rest := []) ⟨mx, mb, mml, mo, mts⟩ hK zgw (c_X5_thrown l D y am f sv ai (if thApp (xsI xs (i + 1)) ln = 0 then zu x ln (xsI xs (i + 1)) else x) sm (if thApp (xsI xs (i + 1)) ln = 0 then ln + 1 else ln) (thApp (xsI xs (i + 1)) ln) hh) (cwV 0 mts gL_law_X5_thrown rfl rfl rfl (by decide +kernel) ⟨Nat.le_of_ble_eq_true rfl, Nat.le_of_ble_eq_true rfl⟩) (fun _ h => List.mem_append_right _ h) 95 rfl rfl rfl rfl rfl (Nat.le_of_ble_eq_true rfl) ⟨by show _ ≤ 601024; omega, by show _ ≤ 7293034; omega⟩ dL_law_1137 ?_
  refine z_iload mx mb dL_law_1140 1 rfl ?_
  have hth : -2147483648 ≤ thApp (xsI xs (i + 1)) ln ∧ thApp (xsI xs (i + 1)) ln ≤ 2147483647 := by have q := thApp_c (xsI xs (i + 1)) ln; omega
  refine z_icmp_eq (tgt := 1147) mx mb hth hth dL_law_1142 (by decide) (fun _ => ?_) (fun h => absurd rfl h)
  refine z_iload mx mb dL_law_1147 1 rfl ?_
  have fin : Gz p l e room_1 s m args below meth c 9 (k + 1) (n + 6) Q (Zw D vwCl (fun q => s.heap.size ≤ q) s ((wBq y o a2 S2 tb (if thApp (xsI xs (i + 1)) ln = 0 then zu x ln (xsI xs (i + 1)) else x) (if thApp (xsI xs (i + 1)) ln = 0 then ln + 1 else ln) sm (sav a2) p6 ++ wO1 y ob g2) ++ wM y am f sv ai (if thApp (xsI xs (i + 1)) ln = 0 then zu x ln (xsI xs (i + 1)) else x) sm (if thApp (xsI xs (i + 1)) ln = 0 then ln + 1 else ln) (thApp (xsI xs (i + 1)) ln) hh)) 1164 [(6, .int (iZ (if thApp (xsI xs (i + 1)) ln = 0 then ln + 1 else 0))), (5, .int (iZ (thApp (xsI xs (i + 1)) ln))), (4, .int (iZ i)), (0, .ref b), (1, .ref (o 0)), (2, .ref (am 0)), (3, .ref ob)] [] := by
    refine z_goto (tgt := 1251) mx mb dL_law_1164 (by decide) ?_
    refine z_lv [2, 3, 4, 5, 6] rfl ?_
    exact K a2 S2 (if thApp (xsI xs (i + 1)) ln = 0 then zu x ln (xsI xs (i + 1)) else x) (if thApp (xsI xs (i + 1)) ln = 0 then ln + 1 else ln) sm g2 f sv ai (thApp (xsI xs (i + 1)) ln) hh tie2
  refine z_if_ne (tgt := 1164) mx mb hth dL_law_1149 (by decide) (fun _ => fin) (fun h0 => ?_)
  refine z_aload_n mx mb dL_law_1152 rfl 6 rfl ?_
  refine z_iconst mx mb dL_law_1153 ?_
  refine z_lald mx mb hK 94 3 rfl rfl dL_law_1154 ?_
  refine z_iload mx mb dL_law_1155 0 rfl ?_
  refine z_i2lw mx mb dL_law_1157 ?_
  refine z_lcmp0 mx mb (by rw [hg5 h0, if_pos h0]) dL_law_1158 ?_
  exact z_if_eq (tgt := 1164) mx mb (by decide) dL_law_1159 (by decide) (fun _ => fin) (fun h => absurd rfl h)

set_option maxRecDepth 100000 in
set_option maxHeartbeats 4000000 in
theorem lc_undo {p : Program} {l : Launch} {e : Env} {s : State} {m : MethodId} {args : Array Value} {below : List Frame} {meth : Method} {c : Code} {b L : Nat} {xs : Nat → Int32} {D : va_G} {y : Nat → ClassId} {Q : State → Prop} (C : LC p l s m args meth c b L xs D y) {o : Nat → Nat} {tb : Nat → Nat} {ob : Nat} {am : Nat → Nat} (a : Nat → Nat → Nat) (S : Nat → Nat → Int → Int) (x : Int → Int) (ln sm : Int) (g : Nat → Int64) (f sv ai : Int → Int) (th hh : Int) (i : Int) (hi : 0 ≤ i ∧ i + 2 < (L : Int)) {k n : Nat} (hk : k + 2 ≤ 601024) (hn : n + 7 ≤ 7293034) (hT : Tie f sv x sm ln S)
    (K : ∀ (a : Nat → Nat → Nat) (S : Nat → Nat → Int → Int) (x : Int → Int) (ln sm : Int) (g : Nat → Int64) (f sv ai : Int → Int) (th hh : Int), Tie f sv x sm ln S → Gz p l e room_1 s m args below meth c 9 (k + 1) (n + 6) Q (Zw D vwCl (fun q => s.heap.size ≤ q) s (LWd y o a S tb x ln sm ob g am f sv ai th hh)) 1251 (lv0 b o am ob i) []) : Gz p l e room_1 s m args below meth c 9 k n Q (Zw D vwCl (fun q => s.heap.size ≤ q) s (LWd y o a S tb x ln sm ob g am f sv ai th hh)) 1193 (lv0 b o am ob i) [] := by
  obtain ⟨mx, mb, mml, mo, mts, hK, hE, hX, hbl, hl0, hL⟩ := C
  have hA : ∀ q : Nat, s.heap.size ≤ q → (fun q : Nat => s.heap.size ≤ q) q := fun _ h => h
  have hbA : ¬ (fun q : Nat => s.heap.size ≤ q) b := Nat.not_le.mpr hbl
  obtain ⟨⟨hR, hI, kp⟩, hsc, hTS, hl, htx⟩ := id hT
  have x1 := xsI_rng xs (i + 1)
  have x2 := xsI_rng xs (i + 2)
  show Gz p l e room_1 s m args below meth c 9 k n Q (Zw D vwCl (fun q => s.heap.size ≤ q) s ((wBq y o a S tb x ln sm (sav a) p6 ++ wO1 y ob g) ++ wM y am f sv ai x sm ln th hh)) 1193 [(4, .int (iZ i)), (0, .ref b), (1, .ref (o 0)), (2, .ref (am 0)), (3, .ref ob)] []
  refine z_aload_n mx mb dL_law_1193 rfl 2 rfl ?_
  refine z_aload_n mx mb dL_law_1194 rfl 4 rfl ?_
  refine z_callSI (wa := []) (wc := (wBq y o a S tb x ln sm (sav a) p6 ++ wO1 y ob g)) (wb := wM y am f sv ai x sm ln th hh) (As := [.ref (o 0), .ref ob]) (rest := []) ⟨mx, mb, mml, mo, mts⟩ hK hA hE (fun sz => c_L_undo l hl0 D sz y o a S tb x ln sm f sv  ob g  hT) (vx_cwSW 2 mts gL_law_L_undo rfl rfl rfl (by decide +kernel) ⟨Nat.le_of_ble_eq_true rfl, Nat.le_of_ble_eq_true rfl⟩) rfl rfl rfl (Nat.le_of_ble_eq_true rfl) ⟨by show _ ≤ 601024; omega, by show _ ≤ 7293034; omega⟩ dL_law_1195 (fun r5 u5 hu5 => ?_)
  obtain ⟨a2, S2, g2⟩ := u5
  obtain ⟨hr5, hg5, tie2⟩ := hu5
  replace hg5 : (if sm = 0 then (1 : Int) else 0) = 0 → g2 0 = lZ (wz (sm - 1)) := hg5
  replace tie2 : Tie (if sm = 0 then f else cpO f sv (171 * (sm - 1)) 171) sv x (if sm = 0 then 0 else sm - 1) ln S2 := tie2
  obtain rfl : r5 = iZ (if sm = 0 then (1 : Int) else 0) := hr5
  show Gz p l e room_1 s m args below meth c 9 (k + 1) (n + 6) Q (Zw D vwCl (fun q => s.heap.size ≤ q) s ((wBq y o a2 S2 tb x ln (if sm = 0 then 0 else sm - 1) (sav a2) p6 ++ wO1 y ob g2) ++ wM y am f sv ai x sm ln th hh)) 1198 [(4, .int (iZ i)), (0, .ref b), (1, .ref (o 0)), (2, .ref (am 0)), (3, .ref ob)] [.int (iZ (if sm = 0 then (1 : Int) else 0))]
  refine z_istore mx mb dL_law_1198 (by decide) [(5, .int (iZ (if sm = 0 then (1 : Int) else 0))), (4, .int (iZ i)), (0, .ref b), (1, .ref (o 0)), (2, .ref (am 0)), (3, .ref ob)] rfl ?_
  refine z_aload_n mx mb dL_law_1200 rfl 4 rfl ?_
  refine z_callI (wa := (wBq y o a2 S2 tb x ln (if sm = 0 then 0 else sm - 1) (sav a2) p6 ++ wO1 y ob g2)) (wc := wM y am f sv ai x sm ln th hh) (wb := []) (As := []) (rest := []) ⟨mx, mb, mml, mo, mts⟩ hK hA (fun sz => c_X5_undo l D sz y am f sv ai x sm ln th hh  hsc) (cwV 0 mts gL_law_X5_undo rfl rfl rfl (by decide +kernel) ⟨Nat.le_of_ble_eq_true rfl, Nat.le_of_ble_eq_true rfl⟩) (List.append_nil _).symm 95 rfl rfl rfl rfl rfl (Nat.le_of_ble_eq_true rfl) ⟨by show _ ≤ 601024; omega, by show _ ≤ 7293034; omega⟩ dL_law_1201 (fun r6 u6 hu6 => ?_)
  obtain rfl : r6 = iZ (if sm = 0 then 0 else sm - 1) := hu6
  rw [List.append_nil]
  show Gz p l e room_1 s m args below meth c 9 (k + 1) (n + 6) Q (Zw D vwCl (fun q => s.heap.size ≤ q) s ((wBq y o a2 S2 tb x ln (if sm = 0 then 0 else sm - 1) (sav a2) p6 ++ wO1 y ob g2) ++ wM y am (if sm = 0 then f else cpO f sv (171 * (sm - 1)) 171) sv ai x (if sm = 0 then 0 else sm - 1) ln (if sm = 0 then (1 : Int) else 0) hh)) 1204 [(5, .int (iZ (if sm = 0 then (1 : Int) else 0))), (4, .int (iZ i)), (0, .ref b), (1, .ref (o 0)), (2, .ref (am 0)), (3, .ref ob)] [.int (iZ (if sm = 0 then 0 else sm - 1))]
  refine z_istore mx mb dL_law_1204 (by decide) [(6, .int (iZ (if sm = 0 then 0 else sm - 1))), (5, .int (iZ (if sm = 0 then (1 : Int) else 0))), (4, .int (iZ i)), (0, .ref b), (1, .ref (o 0)), (2, .ref (am 0)), (3, .ref ob)] rfl ?_
  refine z_aload_n mx mb dL_law_1206 rfl 5 rfl ?_
  refine z_callP (As := []) (rest := []) ⟨mx, mb, mml, mo, mts⟩ hK zgw (c_X5_thrown l D y am (if sm = 0 then f else cpO f sv (171 * (sm - 1)) 171) sv ai x (if sm = 0 then 0 else sm - 1) ln (if sm = 0 then (1 : Int) else 0) hh) (cwV 0 mts gL_law_X5_thrown rfl rfl rfl (by decide +kernel) ⟨Nat.le_of_ble_eq_true rfl, Nat.le_of_ble_eq_true rfl⟩) (fun _ h => List.mem_append_right _ h) 95 rfl rfl rfl rfl rfl (Nat.le_of_ble_eq_true rfl) ⟨by show _ ≤ 601024; omega, by show _ ≤ 7293034; omega⟩ dL_law_1207 ?_
  refine z_iload mx mb dL_law_1210 1 rfl ?_
  have hth : -2147483648 ≤ (if sm = 0 then (1 : Int) else 0) ∧ (if sm = 0 then (1 : Int) else 0) ≤ 2147483647 := by split <;> omega
  refine z_icmp_eq (tgt := 1217) mx mb hth hth dL_law_1212 (by decide) (fun _ => ?_) (fun h => absurd rfl h)
  refine z_iload mx mb dL_law_1217 1 rfl ?_
  have fin : Gz p l e room_1 s m args below meth c 9 (k + 1) (n + 6) Q (Zw D vwCl (fun q => s.heap.size ≤ q) s ((wBq y o a2 S2 tb x ln (if sm = 0 then 0 else sm - 1) (sav a2) p6 ++ wO1 y ob g2) ++ wM y am (if sm = 0 then f else cpO f sv (171 * (sm - 1)) 171) sv ai x (if sm = 0 then 0 else sm - 1) ln (if sm = 0 then (1 : Int) else 0) hh)) 1234 [(6, .int (iZ (if sm = 0 then 0 else sm - 1))), (5, .int (iZ (if sm = 0 then (1 : Int) else 0))), (4, .int (iZ i)), (0, .ref b), (1, .ref (o 0)), (2, .ref (am 0)), (3, .ref ob)] [] := by
    refine z_goto (tgt := 1251) mx mb dL_law_1234 (by decide) ?_
    refine z_lv [2, 3, 4, 5, 6] rfl ?_
    exact K a2 S2 x ln (if sm = 0 then 0 else sm - 1) g2 (if sm = 0 then f else cpO f sv (171 * (sm - 1)) 171) sv ai (if sm = 0 then (1 : Int) else 0) hh tie2
  refine z_if_ne (tgt := 1234) mx mb hth dL_law_1219 (by decide) (fun _ => fin) (fun h0 => ?_)
  refine z_aload_n mx mb dL_law_1222 rfl 6 rfl ?_
  refine z_iconst mx mb dL_law_1223 ?_
  refine z_lald mx mb hK 94 3 rfl rfl dL_law_1224 ?_
  refine z_iload mx mb dL_law_1225 0 rfl ?_
  refine z_i2lw mx mb dL_law_1227 ?_
  refine z_lcmp0 mx mb (by rw [hg5 h0, if_neg (fun z => by rw [if_pos z] at h0; exact absurd h0 (by decide))]) dL_law_1228 ?_
  exact z_if_eq (tgt := 1234) mx mb (by decide) dL_law_1229 (by decide) (fun _ => fin) (fun h => absurd rfl h)
