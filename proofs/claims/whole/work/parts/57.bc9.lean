theorem in_X5_mix_X5 : ∀ w ∈ wsX50, w ∈ wsX5_mix := by decide +kernel
set_option maxRecDepth 100000 in
set_option maxHeartbeats 4000000 in
theorem c_X5_mix (l : Launch) (D : va_G) (sz : Nat) (y : Nat → ClassId) (a : Nat → Nat) (f sv ai tx : Int → Int) (sm ln th hh : Int) (v : Int)  : Met l yX5_mix wsX5_mix ({ frames := 0, cells := 0, slots := 0, locals := 0 } : Room) (zPw D vwCl (zT y) (wM y a f sv ai tx sm ln th hh) sz [.ref (a 0), .int (iZ v)]) (va_Qv (fun _ : Unit => True) (zB D vwCl (zT y) (wM y a f sv ai tx sm ln th hh) sz (fun _ : Unit => wM y a f sv ai tx sm ln th (31 * hh + wz v))) (va_A (wM y a f sv ai tx sm ln th hh) sz)) 0 0 (va_A (wM y a f sv ai tx sm ln th hh) sz) := by
  refine z_headW (cc := cX5_mix) (maxL := 2) (ret := none) [(0, .ref (a 0)), (1, .int (iZ v))] rfl (Nat.le_of_ble_eq_true rfl) (by decide +kernel) rfl ?_
  intro pp ee ss mm below meth cd mx mb mr mml mo mts mlk hK hname hsz hA
  generalize ([.ref (a 0), .int (iZ v)] : List Value).toArray = args at mts ⊢
  obtain ⟨wst, hw0⟩ : ∃ wst, wst = wM y a f sv ai tx sm ln th hh := ⟨_, rfl⟩
  have hA : ∀ q, ss.heap.size ≤ q → va_A wst sz q := by rw [hw0]; exact hA
  obtain ⟨Q, hQ⟩ : ∃ Q, Q = MQ below (va_Qv (fun _ : Unit => True) (zB D vwCl (zT y) wst sz (fun _ : Unit => wM y a f sv ai tx sm ln th (31 * hh + wz v))) (va_A wst sz)) args ss 0 0 (va_A wst sz) := ⟨_, rfl⟩
  have hstart : Gz pp l ee ({ frames := 0, cells := 0, slots := 0, locals := 0 } : Room) ss mm args below meth cd 2 0 0 Q (Zw D vwCl (va_A wst sz) ss (wM y a f sv ai tx sm ln th hh)) 0 [(0, .ref (a 0)), (1, .int (iZ v))] [] := by
    refine z_aload_n mx mb dX5_mix_0 rfl 0 rfl ?_
    refine z_ldc2 (z := 31) mx mb mo (mts _ (List.mem_of_getElem? (i := 1) rfl)) (by decide +kernel) dX5_mix_1 ?_
    refine z_aload_n mx mb dX5_mix_4 rfl 0 rfl ?_
    refine z_get (C := RX5) (T := TX5) (N := 8) mx mb mts (in_X5_mix_X5) mo hK zgw 0 wM_0 rfl 7 (by decide) (mts _ (List.mem_of_getElem? (i := 2) rfl)) (fun _ h9 => h9) rfl dX5_mix_5 ?_
    refine z_lmul mx mb dX5_mix_8 ?_
    refine z_iload_n mx mb dX5_mix_9 rfl 1 rfl ?_
    refine z_i2lw mx mb dX5_mix_10 ?_
    refine z_ladd mx mb dX5_mix_11 ?_
    refine z_put (ty := .long) (C := RX5) (T := TX5) (N := 8) mx mb mts (in_X5_mix_X5) tyX5_ok nmX5 mo hK 0 wM_0 rfl 7 (by decide) (mts _ (List.mem_of_getElem? (i := 2) rfl)) (fun _ h9 => h9) rfl (by decide +kernel) rfl rfl (Nat.le_of_ble_eq_true rfl) dX5_mix_12 (wM y a f sv ai tx sm ln th ((31 * hh) + (wz v))) rfl ?_
    rw [hQ]
    exact z_retV mx mb mr mlk hK () (by trivial) rfl dX5_mix_15
  subst hQ
  subst hw0
  exact hstart
