set_option maxRecDepth 100000 in
set_option maxHeartbeats 4000000 in
theorem l_go {p : Program} {l : Launch} {e : Env} {s : State} {m : MethodId} {args : Array Value} {below : List Frame} {meth : Method} {c : Code} {b L : Nat} {xs : Nat → Int32} {D : va_G} {y : Nat → ClassId} {Q : State → Prop} (C : LC p l s m args meth c b L xs D y) {o : Nat → Nat} {tb : Nat → Nat} {ob : Nat} {am : Nat → Nat} (a : Nat → Nat → Nat) (S : Nat → Nat → Int → Int) (x : Int → Int) (ln sm : Int) (g : Nat → Int64) (f sv ai : Int → Int) (th hh : Int) (i : Int) (hi : 0 ≤ i ∧ i + 2 < (L : Int)) {k n : Nat} (hk : k + 2 ≤ 601024) (hn : n + 7 ≤ 7293034) (hT : Tie f sv x sm ln S)
    (K : ∀ (a : Nat → Nat → Nat) (S : Nat → Nat → Int → Int) (x : Int → Int) (ln sm : Int) (g : Nat → Int64) (f sv ai : Int → Int) (th hh : Int), Tie f sv x sm ln S → Gz p l e room_1 s m args below meth c 9 (k + 1) (n + 6) Q (Zw D vwCl (fun q => s.heap.size ≤ q) s (LWd y o a S tb x ln sm ob g am f sv ai th hh)) 1251 (lv0 b o am ob i) []) : Gz p l e room_1 s m args below meth c 9 k n Q (Zw D vwCl (fun q => s.heap.size ≤ q) s (LWd y o a S tb x ln sm ob g am f sv ai th hh)) 32 (lv0 b o am ob i) [] := by
  obtain ⟨mx, mb, mml, mo, mts, hK, hE, hX, hbl, hl0, hL⟩ := id C
  have hbA : ¬ (fun q : Nat => s.heap.size ≤ q) b := Nat.not_le.mpr hbl
  refine z_aload_n mx mb dL_law_32 rfl 1 rfl ?_
  refine z_iload mx mb dL_law_33 0 rfl ?_
  refine z_sld mx mb hX hbl hbA (by omega) hL dL_law_35 ?_
  refine z_bipush mx mb dL_law_36 (by decide) ?_
  refine z_iandR mx mb dL_law_38 (fun w hw => ?_)
  by_cases h0 : w = 0
  · exact z_tin 0 mx mb h0 (by decide) dL_law_39 (by decide) (by decide) rfl (by decide) (lc_addTrain C a S x ln sm g f sv ai th hh i hi hk hn hT K)
  by_cases h1 : w = 1
  · exact z_tin 1 mx mb h1 (by decide) dL_law_39 (by decide) (by decide) rfl (by decide) (lc_takeTrain C a S x ln sm g f sv ai th hh i hi hk hn hT K)
  by_cases h2 : w = 2
  · exact z_tin 2 mx mb h2 (by decide) dL_law_39 (by decide) (by decide) rfl (by decide) (lc_rescue C a S x ln sm g f sv ai th hh i hi hk hn hT K)
  by_cases h3 : w = 3
  · exact z_tin 3 mx mb h3 (by decide) dL_law_39 (by decide) (by decide) rfl (by decide) (lc_set C a S x ln sm g f sv ai th hh i hi hk hn hT K)
  by_cases h4 : w = 4
  · exact z_tin 4 mx mb h4 (by decide) dL_law_39 (by decide) (by decide) rfl (by decide) (lc_setHeight C a S x ln sm g f sv ai th hh i hi hk hn hT K)
  by_cases h5 : w = 5
  · exact z_tin 5 mx mb h5 (by decide) dL_law_39 (by decide) (by decide) rfl (by decide) (lc_pass C a S x ln sm g f sv ai th hh i hi hk hn hT K)
  by_cases h6 : w = 6
  · exact z_tin 6 mx mb h6 (by decide) dL_law_39 (by decide) (by decide) rfl (by decide) (lc_train C a S x ln sm g f sv ai th hh i hi hk hn hT K)
  by_cases h7 : w = 7
  · exact z_tin 7 mx mb h7 (by decide) dL_law_39 (by decide) (by decide) rfl (by decide) (lc_cell C a S x ln sm g f sv ai th hh i hi hk hn hT K)
  by_cases h8 : w = 8
  · exact z_tin 8 mx mb h8 (by decide) dL_law_39 (by decide) (by decide) rfl (by decide) (lc_block C a S x ln sm g f sv ai th hh i hi hk hn hT K)
  by_cases h9 : w = 9
  · exact z_tin 9 mx mb h9 (by decide) dL_law_39 (by decide) (by decide) rfl (by decide) (lc_value C a S x ln sm g f sv ai th hh i hi hk hn hT K)
  by_cases h10 : w = 10
  · exact z_tin 10 mx mb h10 (by decide) dL_law_39 (by decide) (by decide) rfl (by decide) (lc_dispatch C a S x ln sm g f sv ai th hh i hi hk hn hT K)
  by_cases h11 : w = 11
  · exact z_tin 11 mx mb h11 (by decide) dL_law_39 (by decide) (by decide) rfl (by decide) (lc_why C a S x ln sm g f sv ai th hh i hi hk hn hT K)
  by_cases h12 : w = 12
  · exact z_tin 12 mx mb h12 (by decide) dL_law_39 (by decide) (by decide) rfl (by decide) (lc_ticksToStation C a S x ln sm g f sv ai th hh i hi hk hn hT K)
  by_cases h13 : w = 13
  · exact z_tin 13 mx mb h13 (by decide) dL_law_39 (by decide) (by decide) rfl (by decide) (lc_ticksToValley C a S x ln sm g f sv ai th hh i hi hk hn hT K)
  by_cases h14 : w = 14
  · exact z_tin 14 mx mb h14 (by decide) dL_law_39 (by decide) (by decide) rfl (by decide) (lc_dispatchesWith C a S x ln sm g f sv ai th hh i hi hk hn hT K)
  by_cases h15 : w = 15
  · exact z_tin 15 mx mb h15 (by decide) dL_law_39 (by decide) (by decide) rfl (by decide) (lc_mostFriction C a S x ln sm g f sv ai th hh i hi hk hn hT K)
  by_cases h16 : w = 16
  · exact z_tin 16 mx mb h16 (by decide) dL_law_39 (by decide) (by decide) rfl (by decide) (lc_leastSquare C a S x ln sm g f sv ai th hh i hi hk hn hT K)
  by_cases h17 : w = 17
  · exact z_tin 17 mx mb h17 (by decide) dL_law_39 (by decide) (by decide) rfl (by decide) (lc_meanWarmth C a S x ln sm g f sv ai th hh i hi hk hn hT K)
  by_cases h18 : w = 18
  · exact z_tin 18 mx mb h18 (by decide) dL_law_39 (by decide) (by decide) rfl (by decide) (lc_append C a S x ln sm g f sv ai th hh i hi hk hn hT K)
  by_cases h19 : w = 19
  · exact z_tin 19 mx mb h19 (by decide) dL_law_39 (by decide) (by decide) rfl (by decide) (lc_clearText C a S x ln sm g f sv ai th hh i hi hk hn hT K)
  by_cases h20 : w = 20
  · exact z_tin 20 mx mb h20 (by decide) dL_law_39 (by decide) (by decide) rfl (by decide) (lc_parse C a S x ln sm g f sv ai th hh i hi hk hn hT K)
  by_cases h21 : w = 21
  · exact z_tin 21 mx mb h21 (by decide) dL_law_39 (by decide) (by decide) rfl (by decide) (lc_undo C a S x ln sm g f sv ai th hh i hi hk hn hT K)
  by_cases h22 : w = 22
  · exact z_tin 22 mx mb h22 (by decide) dL_law_39 (by decide) (by decide) rfl (by decide) (lc_digest C a S x ln sm g f sv ai th hh i hi hk hn hT K)
  refine z_tout (tgt := 1251) mx mb hw (by omega) dL_law_39 (by decide) ?_
  refine z_widen (k1 := k + 1) (n1 := n + 6) (by omega) (by omega) ?_
  exact K a S x ln sm g f sv ai th hh hT
set_option maxRecDepth 100000 in
set_option maxHeartbeats 4000000 in
theorem l_loop {p : Program} {l : Launch} {e : Env} {s : State} {m : MethodId} {args : Array Value} {below : List Frame} {meth : Method} {c : Code} {b L : Nat} {xs : Nat → Int32} {D : va_G} {y : Nat → ClassId} {Q : State → Prop} (C : LC p l s m args meth c b L xs D y) {o : Nat → Nat} {tb : Nat → Nat} {ob : Nat} {am : Nat → Nat}
    (K : ∀ (a : Nat → Nat → Nat) (S : Nat → Nat → Int → Int) (x : Int → Int) (ln sm : Int) (g : Nat → Int64) (f sv ai : Int → Int) (th hh : Int) (i : Int), Gz p l e room_1 s m args below meth c 9 601024 7293034 Q (Zw D vwCl (fun q => s.heap.size ≤ q) s (LWd y o a S tb x ln sm ob g am f sv ai th hh)) 1257 (lv0 b o am ob i) []) : ∀ (nn : Nat) (a : Nat → Nat → Nat) (S : Nat → Nat → Int → Int) (x : Int → Int) (ln sm : Int) (g : Nat → Int64) (f sv ai : Int → Int) (th hh : Int) (i : Int) {k n : Nat}, 0 ≤ i → i ≤ (L : Int) + 2 → (L : Int) - i < (nn : Int) → (k : Int) ≤ 300 + i → (n : Int) ≤ 20000 + 6 * i → Tie f sv x sm ln S → Gz p l e room_1 s m args below meth c 9 k n Q (Zw D vwCl (fun q => s.heap.size ≤ q) s (LWd y o a S tb x ln sm ob g am f sv ai th hh)) 23 (lv0 b o am ob i) [] := by
  obtain ⟨mx, mb, mml, mo, mts, hK, hE, hX, hbl, hl0, hL⟩ := id C
  have hbA : ¬ (fun q : Nat => s.heap.size ≤ q) b := Nat.not_le.mpr hbl
  intro nn
  induction nn with
  | zero =>
    intro a S x ln sm g f sv ai th hh i k n hi0 hi1 hnn hk hn hT
    refine z_iload mx mb dL_law_23 0 rfl ?_
    refine z_aload_n mx mb dL_law_25 rfl 1 rfl ?_
    refine z_slen mx mb hX hbl hbA dL_law_26 ?_
    refine z_iconst mx mb dL_law_27 ?_
    refine z_isub mx mb dL_law_28 ?_
    refine z_icmp_gt (tgt := 1257) mx mb (by omega) (by omega) dL_law_29 (by decide) (fun _ => ?_) (fun hle => ?_)
    · exact z_widen (k1 := 601024) (n1 := 7293034) (by omega) (by omega) (K a S x ln sm g f sv ai th hh i)
    · exact absurd hle (by omega)
  | succ nn ih =>
    intro a S x ln sm g f sv ai th hh i k n hi0 hi1 hnn hk hn hT
    refine z_iload mx mb dL_law_23 0 rfl ?_
    refine z_aload_n mx mb dL_law_25 rfl 1 rfl ?_
    refine z_slen mx mb hX hbl hbA dL_law_26 ?_
    refine z_iconst mx mb dL_law_27 ?_
    refine z_isub mx mb dL_law_28 ?_
    refine z_icmp_gt (tgt := 1257) mx mb (by omega) (by omega) dL_law_29 (by decide) (fun _ => ?_) (fun hle => ?_)
    · exact z_widen (k1 := 601024) (n1 := 7293034) (by omega) (by omega) (K a S x ln sm g f sv ai th hh i)
    · refine l_go C a S x ln sm g f sv ai th hh i (by omega) (by omega) (by omega) hT (fun a S x ln sm g f sv ai th hh hT => ?_)
      refine z_iinc mx mb dL_law_1251 0 rfl (by decide) (lv0 b o am ob (i + 3)) rfl ?_
      refine z_goto (tgt := 23) mx mb dL_law_1254 (by decide) ?_
      exact ih a S x ln sm g f sv ai th hh (i + 3) (by omega) (by omega) (by omega) (by omega) (by omega) hT
