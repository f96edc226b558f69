theorem in_X4_undo_X4 : ∀ w ∈ wsX40, w ∈ wsX4_undo := by decide +kernel
set_option maxRecDepth 100000 in
set_option maxHeartbeats 4000000 in
theorem c_X4_undo (l : Launch) (D : va_G) (sz : Nat) (y : Nat → ClassId) (o : Nat → Nat) (a : Nat → Nat → Nat) (S : Nat → Nat → Int → Int) (tb : Nat → Nat) (x : Int → Int) (ln sc : Int) (f : Int → Int) (fk : Int → Int) (hsc : 1 ≤ sc ∧ sc ≤ 4) (hk : Rel fk (S (2 + (sc - 1).toNat))) (hWk : Wf fk) : Met l yX4_undo wsX4_undo ({ frames := 3, cells := 0, slots := 0, locals := 91 } : Room) (zPw D vwCl (zT y) (wBq y o a S tb x ln sc (sav a) p6) sz [.ref (o 0)]) (va_Qi (fun (r : Int32) (S' : Nat → Nat → Int → Int) => r = iZ (sc - 1) ∧ Rel fk (S' 0) ∧ ∀ j : Nat, j ≠ 0 → S' j = S j) (zB D vwCl (zT y) (wBq y o a S tb x ln sc (sav a) p6) sz (fun S' : Nat → Nat → Int → Int => wBq y o a S' tb x ln (sc - 1) (sav a) p6)) (va_A (wBq y o a S tb x ln sc (sav a) p6) sz)) 0 0 (va_A (wBq y o a S tb x ln sc (sav a) p6) sz) := by
  refine z_headW (cc := cX4_undo) (maxL := 1) (ret := (some .int)) [(0, .ref (o 0))] rfl (Nat.le_of_ble_eq_true rfl) (by decide +kernel) rfl ?_
  intro pp ee ss mm below meth cd mx mb mr mml mo mts mlk hK hname hsz hA
  generalize ([.ref (o 0)] : List Value).toArray = args at mts ⊢
  obtain ⟨wst, hw0⟩ : ∃ wst, wst = wBq y o a S tb x ln sc (sav a) p6 := ⟨_, rfl⟩
  replace hA : ∀ q, ss.heap.size ≤ q → va_A wst sz q := by rw [hw0]; exact hA
  obtain ⟨Q, hQ⟩ : ∃ Q, Q = MQ below (va_Qi (fun (r : Int32) (S' : Nat → Nat → Int → Int) => r = iZ (sc - 1) ∧ Rel fk (S' 0) ∧ ∀ j : Nat, j ≠ 0 → S' j = S j) (zB D vwCl (zT y) wst sz (fun S' : Nat → Nat → Int → Int => wBq y o a S' tb x ln (sc - 1) (sav a) p6)) (va_A wst sz)) args ss 0 0 (va_A wst sz) := ⟨_, rfl⟩
  have hstart : Gz pp l ee ({ frames := 3, cells := 0, slots := 0, locals := 91 } : Room) ss mm args below meth cd 1 0 0 Q (Zw D vwCl (va_A wst sz) ss (wBq y o a S tb x ln sc (sav a) p6)) 0 [(0, .ref (o 0))] [] := by
    rcases (show sc = 1 ∨ sc = 2 ∨ sc = 3 ∨ sc = 4 from by omega) with rfl | rfl | rfl | rfl
    · skip
      refine z_aload_n mx mb dX4_undo_0 rfl 0 rfl ?_
      refine z_get (C := RX4) (T := TX4) (N := 5) mx mb mts (in_X4_undo_X4) mo hK zgw 0 wB_0 rfl 4 (by decide) (mts _ (List.mem_of_getElem? (i := 3) rfl)) (fun _ h9 => h9) rfl dX4_undo_1 ?_
      refine z_if_ne (tgt := 18) mx mb (by omega) dX4_undo_4 (by decide) (fun c4 => ?_) (fun c4 => ?_)
      · skip
        refine z_aload_n mx mb dX4_undo_18 rfl 0 rfl ?_
        refine z_dup mx mb dX4_undo_19 rfl ?_
        refine z_get (C := RX4) (T := TX4) (N := 5) mx mb mts (in_X4_undo_X4) mo hK zgw 0 wB_0 rfl 4 (by decide) (mts _ (List.mem_of_getElem? (i := 3) rfl)) (fun _ h9 => h9) rfl dX4_undo_20 ?_
        refine z_iconst mx mb dX4_undo_23 ?_
        refine z_isub mx mb dX4_undo_24 ?_
        refine z_put (ty := .int) (C := RX4) (T := TX4) (N := 5) mx mb mts (in_X4_undo_X4) tyX4_ok nmX4 mo hK 0 wB_0 rfl 4 (by decide) (mts _ (List.mem_of_getElem? (i := 3) rfl)) (fun _ h9 => h9) rfl (by decide +kernel) rfl rfl (Nat.le_of_ble_eq_true rfl) dX4_undo_25 (wBq y o a S tb x ln (1 - 1) (sav a) p6) wB_s0 ?_
        refine z_aload_n mx mb dX4_undo_28 rfl 0 rfl ?_
        refine z_get (C := RX4) (T := TX4) (N := 5) mx mb mts (in_X4_undo_X4) mo hK zgw 0 wB_0 rfl 0 (by decide) (mts _ (List.mem_of_getElem? (i := 4) rfl)) (fun _ h9 => h9) rfl dX4_undo_29 ?_
        refine z_aload_n mx mb dX4_undo_32 rfl 0 rfl ?_
        refine z_get (C := RX4) (T := TX4) (N := 5) mx mb mts (in_X4_undo_X4) mo hK zgw 0 wB_0 rfl 2 (by decide) (mts _ (List.mem_of_getElem? (i := 5) rfl)) (fun _ h9 => h9) rfl dX4_undo_33 ?_
        refine z_aload_n mx mb dX4_undo_36 rfl 0 rfl ?_
        refine z_get (C := RX4) (T := TX4) (N := 5) mx mb mts (in_X4_undo_X4) mo hK zgw 0 wB_0 rfl 4 (by decide) (mts _ (List.mem_of_getElem? (i := 3) rfl)) (fun _ h9 => h9) rfl dX4_undo_37 ?_
        refine z_top (show 1 - 1 = 0 from by omega) ?_
        refine z_aldq (i := 0) (b := a 2 0) mx mb hK zgw 1 2 wB_1 rfl (by decide) (by decide) rfl dX4_undo_40 ?_
        refine z_copy (i := 0) (j := 2) (ps := [1, 3, 4, 5]) (rest := []) (by decide) (by decide) (by decide) ⟨mx, mb, mml, mo, mts⟩ hK hA (fun sz => c_X0_copyFrom l D sz y (a 0) (S 0) (a 2) (S 2) fk hk hWk) (cwV 1 mts gX4_undo_X0_copyFrom rfl rfl rfl (by decide +kernel) ⟨Nat.le_of_ble_eq_true rfl, Nat.le_of_ble_eq_true rfl⟩) (Nat.le_of_ble_eq_true rfl) ⟨Nat.zero_le _, Nat.zero_le _⟩ dX4_undo_41 (fun u41 hu41 => ?_)
        show Gz pp l ee ({ frames := 3, cells := 0, slots := 0, locals := 91 } : Room) ss mm args below meth cd 1 0 0 Q (Zw D vwCl (va_A wst sz) ss (wBq y o a (uR S 0 u41) tb x ln (1 - 1) (sav a) p6)) 44 [(0, .ref (o 0))] []
        refine z_aload_n mx mb dX4_undo_44 rfl 0 rfl ?_
        refine z_get (C := RX4) (T := TX4) (N := 5) mx mb mts (in_X4_undo_X4) mo hK zgw 0 wB_0 rfl 4 (by decide) (mts _ (List.mem_of_getElem? (i := 3) rfl)) (fun _ h9 => h9) rfl dX4_undo_45 ?_
        rw [hQ]
        exact z_retI mx mb mr mlk hK (uR S 0 u41) (by exact ⟨rfl, by show Rel fk (uR S 0 u41 0); rw [uR_s]; exact hu41, fun j hj => uR_n hj⟩) rfl dX4_undo_48
      · skip
        exact absurd c4 (by omega)
    · skip
      refine z_aload_n mx mb dX4_undo_0 rfl 0 rfl ?_
      refine z_get (C := RX4) (T := TX4) (N := 5) mx mb mts (in_X4_undo_X4) mo hK zgw 0 wB_0 rfl 4 (by decide) (mts _ (List.mem_of_getElem? (i := 3) rfl)) (fun _ h9 => h9) rfl dX4_undo_1 ?_
      refine z_if_ne (tgt := 18) mx mb (by omega) dX4_undo_4 (by decide) (fun c4 => ?_) (fun c4 => ?_)
      · skip
        refine z_aload_n mx mb dX4_undo_18 rfl 0 rfl ?_
        refine z_dup mx mb dX4_undo_19 rfl ?_
        refine z_get (C := RX4) (T := TX4) (N := 5) mx mb mts (in_X4_undo_X4) mo hK zgw 0 wB_0 rfl 4 (by decide) (mts _ (List.mem_of_getElem? (i := 3) rfl)) (fun _ h9 => h9) rfl dX4_undo_20 ?_
        refine z_iconst mx mb dX4_undo_23 ?_
        refine z_isub mx mb dX4_undo_24 ?_
        refine z_put (ty := .int) (C := RX4) (T := TX4) (N := 5) mx mb mts (in_X4_undo_X4) tyX4_ok nmX4 mo hK 0 wB_0 rfl 4 (by decide) (mts _ (List.mem_of_getElem? (i := 3) rfl)) (fun _ h9 => h9) rfl (by decide +kernel) rfl rfl (Nat.le_of_ble_eq_true rfl) dX4_undo_25 (wBq y o a S tb x ln (2 - 1) (sav a) p6) wB_s0 ?_
        refine z_aload_n mx mb dX4_undo_28 rfl 0 rfl ?_
        refine z_get (C := RX4) (T := TX4) (N := 5) mx mb mts (in_X4_undo_X4) mo hK zgw 0 wB_0 rfl 0 (by decide) (mts _ (List.mem_of_getElem? (i := 4) rfl)) (fun _ h9 => h9) rfl dX4_undo_29 ?_
        refine z_aload_n mx mb dX4_undo_32 rfl 0 rfl ?_
        refine z_get (C := RX4) (T := TX4) (N := 5) mx mb mts (in_X4_undo_X4) mo hK zgw 0 wB_0 rfl 2 (by decide) (mts _ (List.mem_of_getElem? (i := 5) rfl)) (fun _ h9 => h9) rfl dX4_undo_33 ?_
        refine z_aload_n mx mb dX4_undo_36 rfl 0 rfl ?_
        refine z_get (C := RX4) (T := TX4) (N := 5) mx mb mts (in_X4_undo_X4) mo hK zgw 0 wB_0 rfl 4 (by decide) (mts _ (List.mem_of_getElem? (i := 3) rfl)) (fun _ h9 => h9) rfl dX4_undo_37 ?_
        refine z_top (show 2 - 1 = 1 from by omega) ?_
        refine z_aldq (i := 1) (b := a 3 0) mx mb hK zgw 1 2 wB_1 rfl (by decide) (by decide) rfl dX4_undo_40 ?_
        refine z_copy (i := 0) (j := 3) (ps := [1, 2, 4, 5]) (rest := []) (by decide) (by decide) (by decide) ⟨mx, mb, mml, mo, mts⟩ hK hA (fun sz => c_X0_copyFrom l D sz y (a 0) (S 0) (a 3) (S 3) fk hk hWk) (cwV 1 mts gX4_undo_X0_copyFrom rfl rfl rfl (by decide +kernel) ⟨Nat.le_of_ble_eq_true rfl, Nat.le_of_ble_eq_true rfl⟩) (Nat.le_of_ble_eq_true rfl) ⟨Nat.zero_le _, Nat.zero_le _⟩ dX4_undo_41 (fun u41 hu41 => ?_)
        show Gz pp l ee ({ frames := 3, cells := 0, slots := 0, locals := 91 } : Room) ss mm args below meth cd 1 0 0 Q (Zw D vwCl (va_A wst sz) ss (wBq y o a (uR S 0 u41) tb x ln (2 - 1) (sav a) p6)) 44 [(0, .ref (o 0))] []
        refine z_aload_n mx mb dX4_undo_44 rfl 0 rfl ?_
        refine z_get (C := RX4) (T := TX4) (N := 5) mx mb mts (in_X4_undo_X4) mo hK zgw 0 wB_0 rfl 4 (by decide) (mts _ (List.mem_of_getElem? (i := 3) rfl)) (fun _ h9 => h9) rfl dX4_undo_45 ?_
        rw [hQ]
        exact z_retI mx mb mr mlk hK (uR S 0 u41) (by exact ⟨rfl, by show Rel fk (uR S 0 u41 0); rw [uR_s]; exact hu41, fun j hj => uR_n hj⟩) rfl dX4_undo_48
      · skip
        exact absurd c4 (by omega)
    · skip
      refine z_aload_n mx mb dX4_undo_0 rfl 0 rfl ?_
      refine z_get (C := RX4) (T := TX4) (N := 5) mx mb mts (in_X4_undo_X4) mo hK zgw 0 wB_0 rfl 4 (by decide) (mts _ (List.mem_of_getElem? (i := 3) rfl)) (fun _ h9 => h9) rfl dX4_undo_1 ?_
      refine z_if_ne (tgt := 18) mx mb (by omega) dX4_undo_4 (by decide) (fun c4 => ?_) (fun c4 => ?_)
      · skip
        refine z_aload_n mx mb dX4_undo_18 rfl 0 rfl ?_
        refine z_dup mx mb dX4_undo_19 rfl ?_
        refine z_get (C := RX4) (T := TX4) (N := 5) mx mb mts (in_X4_undo_X4) mo hK zgw 0 wB_0 rfl 4 (by decide) (mts _ (List.mem_of_getElem? (i := 3) rfl)) (fun _ h9 => h9) rfl dX4_undo_20 ?_
        refine z_iconst mx mb dX4_undo_23 ?_
        refine z_isub mx mb dX4_undo_24 ?_
        refine z_put (ty := .int) (C := RX4) (T := TX4) (N := 5) mx mb mts (in_X4_undo_X4) tyX4_ok nmX4 mo hK 0 wB_0 rfl 4 (by decide) (mts _ (List.mem_of_getElem? (i := 3) rfl)) (fun _ h9 => h9) rfl (by decide +kernel) rfl rfl (Nat.le_of_ble_eq_true rfl) dX4_undo_25 (wBq y o a S tb x ln (3 - 1) (sav a) p6) wB_s0 ?_
        refine z_aload_n mx mb dX4_undo_28 rfl 0 rfl ?_
        refine z_get (C := RX4) (T := TX4) (N := 5) mx mb mts (in_X4_undo_X4) mo hK zgw 0 wB_0 rfl 0 (by decide) (mts _ (List.mem_of_getElem? (i := 4) rfl)) (fun _ h9 => h9) rfl dX4_undo_29 ?_
        refine z_aload_n mx mb dX4_undo_32 rfl 0 rfl ?_
        refine z_get (C := RX4) (T := TX4) (N := 5) mx mb mts (in_X4_undo_X4) mo hK zgw 0 wB_0 rfl 2 (by decide) (mts _ (List.mem_of_getElem? (i := 5) rfl)) (fun _ h9 => h9) rfl dX4_undo_33 ?_
        refine z_aload_n mx mb dX4_undo_36 rfl 0 rfl ?_
        refine z_get (C := RX4) (T := TX4) (N := 5) mx mb mts (in_X4_undo_X4) mo hK zgw 0 wB_0 rfl 4 (by decide) (mts _ (List.mem_of_getElem? (i := 3) rfl)) (fun _ h9 => h9) rfl dX4_undo_37 ?_
        refine z_top (show 3 - 1 = 2 from by omega) ?_
        refine z_aldq (i := 2) (b := a 4 0) mx mb hK zgw 1 2 wB_1 rfl (by decide) (by decide) rfl dX4_undo_40 ?_
        refine z_copy (i := 0) (j := 4) (ps := [1, 2, 3, 5]) (rest := []) (by decide) (by decide) (by decide) ⟨mx, mb, mml, mo, mts⟩ hK hA (fun sz => c_X0_copyFrom l D sz y (a 0) (S 0) (a 4) (S 4) fk hk hWk) (cwV 1 mts gX4_undo_X0_copyFrom rfl rfl rfl (by decide +kernel) ⟨Nat.le_of_ble_eq_true rfl, Nat.le_of_ble_eq_true rfl⟩) (Nat.le_of_ble_eq_true rfl) ⟨Nat.zero_le _, Nat.zero_le _⟩ dX4_undo_41 (fun u41 hu41 => ?_)
        show Gz pp l ee ({ frames := 3, cells := 0, slots := 0, locals := 91 } : Room) ss mm args below meth cd 1 0 0 Q (Zw D vwCl (va_A wst sz) ss (wBq y o a (uR S 0 u41) tb x ln (3 - 1) (sav a) p6)) 44 [(0, .ref (o 0))] []
        refine z_aload_n mx mb dX4_undo_44 rfl 0 rfl ?_
        refine z_get (C := RX4) (T := TX4) (N := 5) mx mb mts (in_X4_undo_X4) mo hK zgw 0 wB_0 rfl 4 (by decide) (mts _ (List.mem_of_getElem? (i := 3) rfl)) (fun _ h9 => h9) rfl dX4_undo_45 ?_
        rw [hQ]
        exact z_retI mx mb mr mlk hK (uR S 0 u41) (by exact ⟨rfl, by show Rel fk (uR S 0 u41 0); rw [uR_s]; exact hu41, fun j hj => uR_n hj⟩) rfl dX4_undo_48
      · skip
        exact absurd c4 (by omega)
    · skip
      refine z_aload_n mx mb dX4_undo_0 rfl 0 rfl ?_
      refine z_get (C := RX4) (T := TX4) (N := 5) mx mb mts (in_X4_undo_X4) mo hK zgw 0 wB_0 rfl 4 (by decide) (mts _ (List.mem_of_getElem? (i := 3) rfl)) (fun _ h9 => h9) rfl dX4_undo_1 ?_
      refine z_if_ne (tgt := 18) mx mb (by omega) dX4_undo_4 (by decide) (fun c4 => ?_) (fun c4 => ?_)
      · skip
        refine z_aload_n mx mb dX4_undo_18 rfl 0 rfl ?_
        refine z_dup mx mb dX4_undo_19 rfl ?_
        refine z_get (C := RX4) (T := TX4) (N := 5) mx mb mts (in_X4_undo_X4) mo hK zgw 0 wB_0 rfl 4 (by decide) (mts _ (List.mem_of_getElem? (i := 3) rfl)) (fun _ h9 => h9) rfl dX4_undo_20 ?_
        refine z_iconst mx mb dX4_undo_23 ?_
        refine z_isub mx mb dX4_undo_24 ?_
        refine z_put (ty := .int) (C := RX4) (T := TX4) (N := 5) mx mb mts (in_X4_undo_X4) tyX4_ok nmX4 mo hK 0 wB_0 rfl 4 (by decide) (mts _ (List.mem_of_getElem? (i := 3) rfl)) (fun _ h9 => h9) rfl (by decide +kernel) rfl rfl (Nat.le_of_ble_eq_true rfl) dX4_undo_25 (wBq y o a S tb x ln (4 - 1) (sav a) p6) wB_s0 ?_
        refine z_aload_n mx mb dX4_undo_28 rfl 0 rfl ?_
        refine z_get (C := RX4) (T := TX4) (N := 5) mx mb mts (in_X4_undo_X4) mo hK zgw 0 wB_0 rfl 0 (by decide) (mts _ (List.mem_of_getElem? (i := 4) rfl)) (fun _ h9 => h9) rfl dX4_undo_29 ?_
        refine z_aload_n mx mb dX4_undo_32 rfl 0 rfl ?_
        refine z_get (C := RX4) (T := TX4) (N := 5) mx mb mts (in_X4_undo_X4) mo hK zgw 0 wB_0 rfl 2 (by decide) (mts _ (List.mem_of_getElem? (i := 5) rfl)) (fun _ h9 => h9) rfl dX4_undo_33 ?_
        refine z_aload_n mx mb dX4_undo_36 rfl 0 rfl ?_
        refine z_get (C := RX4) (T := TX4) (N := 5) mx mb mts (in_X4_undo_X4) mo hK zgw 0 wB_0 rfl 4 (by decide) (mts _ (List.mem_of_getElem? (i := 3) rfl)) (fun _ h9 => h9) rfl dX4_undo_37 ?_
        refine z_top (show 4 - 1 = 3 from by omega) ?_
        refine z_aldq (i := 3) (b := a 5 0) mx mb hK zgw 1 2 wB_1 rfl (by decide) (by decide) rfl dX4_undo_40 ?_
        refine z_copy (i := 0) (j := 5) (ps := [1, 2, 3, 4]) (rest := []) (by decide) (by decide) (by decide) ⟨mx, mb, mml, mo, mts⟩ hK hA (fun sz => c_X0_copyFrom l D sz y (a 0) (S 0) (a 5) (S 5) fk hk hWk) (cwV 1 mts gX4_undo_X0_copyFrom rfl rfl rfl (by decide +kernel) ⟨Nat.le_of_ble_eq_true rfl, Nat.le_of_ble_eq_true rfl⟩) (Nat.le_of_ble_eq_true rfl) ⟨Nat.zero_le _, Nat.zero_le _⟩ dX4_undo_41 (fun u41 hu41 => ?_)
        show Gz pp l ee ({ frames := 3, cells := 0, slots := 0, locals := 91 } : Room) ss mm args below meth cd 1 0 0 Q (Zw D vwCl (va_A wst sz) ss (wBq y o a (uR S 0 u41) tb x ln (4 - 1) (sav a) p6)) 44 [(0, .ref (o 0))] []
        refine z_aload_n mx mb dX4_undo_44 rfl 0 rfl ?_
        refine z_get (C := RX4) (T := TX4) (N := 5) mx mb mts (in_X4_undo_X4) mo hK zgw 0 wB_0 rfl 4 (by decide) (mts _ (List.mem_of_getElem? (i := 3) rfl)) (fun _ h9 => h9) rfl dX4_undo_45 ?_
        rw [hQ]
        exact z_retI mx mb mr mlk hK (uR S 0 u41) (by exact ⟨rfl, by show Rel fk (uR S 0 u41 0); rw [uR_s]; exact hu41, fun j hj => uR_n hj⟩) rfl dX4_undo_48
      · skip
        exact absurd c4 (by omega)
  subst hQ
  subst hw0
  exact hstart
