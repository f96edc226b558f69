set_option maxRecDepth 100000 in
set_option maxHeartbeats 4000000 in
theorem lc_addTrain {p : Program} {l : Launch} {e : Env} {s : State} {m : MethodId} {args : Array Value} {below : List Frame} {meth : Method} {c : Code} {b L : Nat} {xs : Nat → Int32} {D : va_G} {y : Nat → ClassId} {Q : State → Prop} (C : LC p l s m args meth c b L xs D y) {o : Nat → Nat} {tb : Nat → Nat} {ob : Nat} {am : Nat → Nat} (a : Nat → Nat → Nat) (S : Nat → Nat → Int → Int) (x : Int → Int) (ln sm : Int) (g : Nat → Int64) (f sv ai : Int → Int) (th hh : Int) (i : Int) (hi : 0 ≤ i ∧ i + 2 < (L : Int)) {k n : Nat} (hk : k + 2 ≤ 601024) (hn : n + 7 ≤ 7293034) (hT : Tie f sv x sm ln S)
    (K : ∀ (a : Nat → Nat → Nat) (S : Nat → Nat → Int → Int) (x : Int → Int) (ln sm : Int) (g : Nat → Int64) (f sv ai : Int → Int) (th hh : Int), Tie f sv x sm ln S → Gz p l e room_1 s m args below meth c 9 (k + 1) (n + 6) Q (Zw D vwCl (fun q => s.heap.size ≤ q) s (LWd y o a S tb x ln sm ob g am f sv ai th hh)) 1251 (lv0 b o am ob i) []) : Gz p l e room_1 s m args below meth c 9 k n Q (Zw D vwCl (fun q => s.heap.size ≤ q) s (LWd y o a S tb x ln sm ob g am f sv ai th hh)) 144 (lv0 b o am ob i) [] := by
  obtain ⟨mx, mb, mml, mo, mts, hK, hE, hX, hbl, hl0, hL⟩ := C
  have hA : ∀ q : Nat, s.heap.size ≤ q → (fun q : Nat => s.heap.size ≤ q) q := fun _ h => h
  have hbA : ¬ (fun q : Nat => s.heap.size ≤ q) b := Nat.not_le.mpr hbl
  obtain ⟨⟨hR, hI, kp⟩, hsc, hTS, hl, htx⟩ := id hT
  have x1 := xsI_rng xs (i + 1)
  have x2 := xsI_rng xs (i + 2)
  show Gz p l e room_1 s m args below meth c 9 k n Q (Zw D vwCl (fun q => s.heap.size ≤ q) s ((wBq y o a S tb x ln sm (sav a) p6 ++ wO1 y ob g) ++ wM y am f sv ai x sm ln th hh)) 144 [(4, .int (iZ i)), (0, .ref b), (1, .ref (o 0)), (2, .ref (am 0)), (3, .ref ob)] []
  refine z_aload_n mx mb dL_law_144 rfl 2 rfl ?_
  refine z_aload_n mx mb dL_law_145 rfl 1 rfl ?_
  refine z_iload mx mb dL_law_146 0 rfl ?_
  refine z_iconst mx mb dL_law_148 ?_
  refine z_iadd mx mb dL_law_149 ?_
  refine z_sld mx mb hX hbl hbA (by omega) hL dL_law_150 ?_
  refine z_aload_n mx mb dL_law_151 rfl 4 rfl ?_
  refine z_callSI (wa := []) (wc := (wBq y o a S tb x ln sm (sav a) p6 ++ wO1 y ob g)) (wb := wM y am f sv ai x sm ln th hh) (As := [.ref (o 0), .int (iZ (xsI xs (i + 1))), .ref ob]) (rest := []) ⟨mx, mb, mml, mo, mts⟩ hK hA hE (fun sz => c_L_addTrain l hl0 D sz y o a S tb x ln sm f sv (xsI xs (i + 1)) ob g x1 hT) (vx_cwSW 3 mts gL_law_L_addTrain rfl rfl rfl (by decide +kernel) ⟨Nat.le_of_ble_eq_true rfl, Nat.le_of_ble_eq_true rfl⟩) rfl rfl rfl (Nat.le_of_ble_eq_true rfl) ⟨by show _ ≤ 601024; omega, by show _ ≤ 7293034; omega⟩ dL_law_152 (fun r5 u5 hu5 => ?_)
  obtain ⟨a2, S2, g2⟩ := u5
  obtain ⟨hr5, hg5, tie2⟩ := hu5
  replace hg5 : thAdd f (xsI xs (i + 1)) = 0 → g2 0 = lZ (wz (f 2)) := hg5
  replace tie2 : Tie (if thAdd f (xsI xs (i + 1)) = 0 then addT f (xsI xs (i + 1)) else f) (if thAdd f (xsI xs (i + 1)) = 0 then svS sv f sm else sv) x (if thAdd f (xsI xs (i + 1)) = 0 then smS sm else sm) ln S2 := tie2
  obtain rfl : r5 = iZ (thAdd f (xsI xs (i + 1))) := hr5
  show Gz p l e room_1 s m args below meth c 9 (k + 1) (n + 6) Q (Zw D vwCl (fun q => s.heap.size ≤ q) s ((wBq y o a2 S2 tb x ln (if thAdd f (xsI xs (i + 1)) = 0 then smS sm else sm) (sav a2) p6 ++ wO1 y ob g2) ++ wM y am f sv ai x sm ln th hh)) 155 [(4, .int (iZ i)), (0, .ref b), (1, .ref (o 0)), (2, .ref (am 0)), (3, .ref ob)] [.int (iZ (thAdd f (xsI xs (i + 1))))]
  refine z_istore mx mb dL_law_155 (by decide) [(5, .int (iZ (thAdd f (xsI xs (i + 1))))), (4, .int (iZ i)), (0, .ref b), (1, .ref (o 0)), (2, .ref (am 0)), (3, .ref ob)] rfl ?_
  refine z_aload_n mx mb dL_law_157 rfl 4 rfl ?_
  refine z_aload_n mx mb dL_law_158 rfl 2 rfl ?_
  refine z_iload mx mb dL_law_159 1 rfl ?_
  refine z_iconst mx mb dL_law_161 ?_
  refine z_iadd mx mb dL_law_162 ?_
  refine z_sld mx mb hX hbl hbA (by omega) hL dL_law_163 ?_
  refine z_callI (wa := (wBq y o a2 S2 tb x ln (if thAdd f (xsI xs (i + 1)) = 0 then smS sm else sm) (sav a2) p6 ++ wO1 y ob g2)) (wc := wM y am f sv ai x sm ln th hh) (wb := []) (As := [.int (iZ (xsI xs (i + 1)))]) (rest := []) ⟨mx, mb, mml, mo, mts⟩ hK hA (fun sz => c_X5_addTrain l D sz y am f sv ai x sm ln th hh (xsI xs (i + 1)) x1 hI hsc) (cwV 1 mts gL_law_X5_addTrain rfl rfl rfl (by decide +kernel) ⟨Nat.le_of_ble_eq_true rfl, Nat.le_of_ble_eq_true rfl⟩) (List.append_nil _).symm 95 rfl rfl rfl rfl rfl (Nat.le_of_ble_eq_true rfl) ⟨by show _ ≤ 601024; omega, by show _ ≤ 7293034; omega⟩ dL_law_164 (fun r6 u6 hu6 => ?_)
  obtain rfl : r6 = iZ (if thAdd f (xsI xs (i + 1)) = 0 then f 2 else 0) := hu6
  rw [List.append_nil]
  show Gz p l e room_1 s m args below meth c 9 (k + 1) (n + 6) Q (Zw D vwCl (fun q => s.heap.size ≤ q) s ((wBq y o a2 S2 tb x ln (if thAdd f (xsI xs (i + 1)) = 0 then smS sm else sm) (sav a2) p6 ++ wO1 y ob g2) ++ wM y am (if thAdd f (xsI xs (i + 1)) = 0 then addT f (xsI xs (i + 1)) else f) (if thAdd f (xsI xs (i + 1)) = 0 then svS sv f sm else sv) ai x (if thAdd f (xsI xs (i + 1)) = 0 then smS sm else sm) ln (thAdd f (xsI xs (i + 1))) hh)) 167 [(5, .int (iZ (thAdd f (xsI xs (i + 1))))), (4, .int (iZ i)), (0, .ref b), (1, .ref (o 0)), (2, .ref (am 0)), (3, .ref ob)] [.int (iZ (if thAdd f (xsI xs (i + 1)) = 0 then f 2 else 0))]
  refine z_istore mx mb dL_law_167 (by decide) [(6, .int (iZ (if thAdd f (xsI xs (i + 1)) = 0 then f 2 else 0))), (5, .int (iZ (thAdd f (xsI xs (i + 1))))), (4, .int (iZ i)), (0, .ref b), (1, .ref (o 0)), (2, .ref (am 0)), (3, .ref ob)] rfl ?_
  refine z_aload_n mx mb dL_law_169 rfl 5 rfl ?_
  refine z_callP (As := []) (rest := []) ⟨mx, mb, mml, mo, mts⟩ hK zgw (c_X5_thrown l D y am (if thAdd f (xsI xs (i + 1)) = 0 then addT f (xsI xs (i + 1)) else f) (if thAdd f (xsI xs (i + 1)) = 0 then svS sv f sm else sv) ai x (if thAdd f (xsI xs (i + 1)) = 0 then smS sm else sm) ln (thAdd f (xsI xs (i + 1))) hh) (cwV 0 mts gL_law_X5_thrown rfl rfl rfl (by decide +kernel) ⟨Nat.le_of_ble_eq_true rfl, Nat.le_of_ble_eq_true rfl⟩) (fun _ h => List.mem_append_right _ h) 95 rfl rfl rfl rfl rfl (Nat.le_of_ble_eq_true rfl) ⟨by show _ ≤ 601024; omega, by show _ ≤ 7293034; omega⟩ dL_law_170 ?_
  refine z_iload mx mb dL_law_173 1 rfl ?_
  have hth : -2147483648 ≤ thAdd f (xsI xs (i + 1)) ∧ thAdd f (xsI xs (i + 1)) ≤ 2147483647 := by have q := thAdd_c f (xsI xs (i + 1)); omega
  refine z_icmp_eq (tgt := 180) mx mb hth hth dL_law_175 (by decide) (fun _ => ?_) (fun h => absurd rfl h)
  refine z_iload mx mb dL_law_180 1 rfl ?_
  have fin : Gz p l e room_1 s m args below meth c 9 (k + 1) (n + 6) Q (Zw D vwCl (fun q => s.heap.size ≤ q) s ((wBq y o a2 S2 tb x ln (if thAdd f (xsI xs (i + 1)) = 0 then smS sm else sm) (sav a2) p6 ++ wO1 y ob g2) ++ wM y am (if thAdd f (xsI xs (i + 1)) = 0 then addT f (xsI xs (i + 1)) else f) (if thAdd f (xsI xs (i + 1)) = 0 then svS sv f sm else sv) ai x (if thAdd f (xsI xs (i + 1)) = 0 then smS sm else sm) ln (thAdd f (xsI xs (i + 1))) hh)) 197 [(6, .int (iZ (if thAdd f (xsI xs (i + 1)) = 0 then f 2 else 0))), (5, .int (iZ (thAdd f (xsI xs (i + 1))))), (4, .int (iZ i)), (0, .ref b), (1, .ref (o 0)), (2, .ref (am 0)), (3, .ref ob)] [] := by
    refine z_goto (tgt := 1251) mx mb dL_law_197 (by decide) ?_
    refine z_lv [2, 3, 4, 5, 6] rfl ?_
    exact K a2 S2 x ln (if thAdd f (xsI xs (i + 1)) = 0 then smS sm else sm) g2 (if thAdd f (xsI xs (i + 1)) = 0 then addT f (xsI xs (i + 1)) else f) (if thAdd f (xsI xs (i + 1)) = 0 then svS sv f sm else sv) ai (thAdd f (xsI xs (i + 1))) hh tie2
  refine z_if_ne (tgt := 197) mx mb hth dL_law_182 (by decide) (fun _ => fin) (fun h0 => ?_)
  refine z_aload_n mx mb dL_law_185 rfl 6 rfl ?_
  refine z_iconst mx mb dL_law_186 ?_
  refine z_lald mx mb hK 94 3 rfl rfl dL_law_187 ?_
  refine z_iload mx mb dL_law_188 0 rfl ?_
  refine z_i2lw mx mb dL_law_190 ?_
  refine z_lcmp0 mx mb (by rw [hg5 h0, if_pos h0]) dL_law_191 ?_
  exact z_if_eq (tgt := 197) mx mb (by decide) dL_law_192 (by decide) (fun _ => fin) (fun h => absurd rfl h)
