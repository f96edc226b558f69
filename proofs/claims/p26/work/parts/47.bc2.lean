theorem in_X4_save_X4 : ∀ w ∈ wsX40, w ∈ wsX4_save := by decide +kernel
set_option maxRecDepth 100000 in
set_option maxHeartbeats 4000000 in
theorem c_X4_save (l : Launch) (D : va_G) (sz : Nat) (y : Nat → ClassId) (o : Nat → Nat) (a : Nat → Nat → Nat) (S : Nat → Nat → Int → Int) (tb : Nat → Nat) (x : Int → Int) (ln sc : Int) (f : Int → Int) (hsc : 0 ≤ sc ∧ sc ≤ 4) (hR : Rel f (S 0)) (hW : Wf f) : Met l yX4_save wsX4_save ({ frames := 3, cells := 0, slots := 0, locals := 91 } : Room) (zPw D vwCl (zT y) (wBq y o a S tb x ln sc (sav a) p6) sz [.ref (o 0)]) (va_Qv (fun u : (Nat → Nat → Nat) × (Nat → Nat → Int → Int) => u.1 0 = a 0 ∧ u.1 1 = a 1 ∧ u.2 0 = S 0 ∧ u.2 1 = S 1 ∧ Rel f (u.2 (2 + (if sc = 4 then 3 else sc.toNat))) ∧ ∀ j : Nat, j < (if sc = 4 then 3 else sc.toNat) → u.2 (2 + j) = S (2 + j + (if sc = 4 then 1 else 0))) (zB D vwCl (zT y) (wBq y o a S tb x ln sc (sav a) p6) sz (fun u : (Nat → Nat → Nat) × (Nat → Nat → Int → Int) => wBq y o u.1 u.2 tb x ln (smS sc) (sav u.1) p6)) (va_A (wBq y o a S tb x ln sc (sav a) p6) sz)) 0 0 (va_A (wBq y o a S tb x ln sc (sav a) p6) sz) := by
  refine z_headW (cc := cX4_save) (maxL := 3) (ret := none) [(0, .ref (o 0))] rfl (Nat.le_of_ble_eq_true rfl) (by decide +kernel) rfl ?_
  intro pp ee ss mm below meth cd mx mb mr mml mo mts mlk hK hname hsz hA
  generalize ([.ref (o 0)] : List Value).toArray = args at mts ⊢
  obtain ⟨wst, hw0⟩ : ∃ wst, wst = wBq y o a S tb x ln sc (sav a) p6 := ⟨_, rfl⟩
  replace hA : ∀ q, ss.heap.size ≤ q → va_A wst sz q := by rw [hw0]; exact hA
  obtain ⟨Q, hQ⟩ : ∃ Q, Q = MQ below (va_Qv (fun u : (Nat → Nat → Nat) × (Nat → Nat → Int → Int) => u.1 0 = a 0 ∧ u.1 1 = a 1 ∧ u.2 0 = S 0 ∧ u.2 1 = S 1 ∧ Rel f (u.2 (2 + (if sc = 4 then 3 else sc.toNat))) ∧ ∀ j : Nat, j < (if sc = 4 then 3 else sc.toNat) → u.2 (2 + j) = S (2 + j + (if sc = 4 then 1 else 0))) (zB D vwCl (zT y) wst sz (fun u : (Nat → Nat → Nat) × (Nat → Nat → Int → Int) => wBq y o u.1 u.2 tb x ln (smS sc) (sav u.1) p6)) (va_A wst sz)) args ss 0 0 (va_A wst sz) := ⟨_, rfl⟩
  have hstart : Gz pp l ee ({ frames := 3, cells := 0, slots := 0, locals := 91 } : Room) ss mm args below meth cd 3 0 0 Q (Zw D vwCl (va_A wst sz) ss (wBq y o a S tb x ln sc (sav a) p6)) 0 [(0, .ref (o 0))] [] := by
    rcases (show sc = 0 ∨ sc = 1 ∨ sc = 2 ∨ sc = 3 ∨ sc = 4 from by omega) with rfl | rfl | rfl | rfl | rfl
    · skip
      refine z_aload_n mx mb dX4_save_0 rfl 0 rfl ?_
      refine z_get (C := RX4) (T := TX4) (N := 5) mx mb mts (in_X4_save_X4) mo hK zgw 0 wB_0 rfl 4 (by decide) (mts _ (List.mem_of_getElem? (i := 1) rfl)) (fun _ h9 => h9) rfl dX4_save_1 ?_
      refine z_iconst mx mb dX4_save_4 ?_
      refine z_icmp_ne (tgt := 57) mx mb (by omega) (by omega) dX4_save_5 (by decide) (fun c5 => ?_) (fun c5 => ?_)
      · skip
        refine z_aload_n mx mb dX4_save_57 rfl 0 rfl ?_
        refine z_get (C := RX4) (T := TX4) (N := 5) mx mb mts (in_X4_save_X4) mo hK zgw 0 wB_0 rfl 2 (by decide) (mts _ (List.mem_of_getElem? (i := 2) rfl)) (fun _ h9 => h9) rfl dX4_save_58 ?_
        refine z_aload_n mx mb dX4_save_61 rfl 0 rfl ?_
        refine z_get (C := RX4) (T := TX4) (N := 5) mx mb mts (in_X4_save_X4) mo hK zgw 0 wB_0 rfl 4 (by decide) (mts _ (List.mem_of_getElem? (i := 1) rfl)) (fun _ h9 => h9) rfl dX4_save_62 ?_
        refine z_aldq (i := 0) (b := a 2 0) mx mb hK zgw 1 2 wB_1 rfl (by decide) (by decide) rfl dX4_save_65 ?_
        refine z_aload_n mx mb dX4_save_66 rfl 0 rfl ?_
        refine z_get (C := RX4) (T := TX4) (N := 5) mx mb mts (in_X4_save_X4) mo hK zgw 0 wB_0 rfl 0 (by decide) (mts _ (List.mem_of_getElem? (i := 3) rfl)) (fun _ h9 => h9) rfl dX4_save_67 ?_
        refine z_copy (i := 2) (j := 0) (ps := [1, 3, 4, 5]) (rest := []) (by decide) (by decide) (by decide) ⟨mx, mb, mml, mo, mts⟩ hK hA (fun sz => c_X0_copyFrom l D sz y (a 2) (S 2) (a 0) (S 0) f (by assumption) hW) (cwV 1 mts gX4_save_X0_copyFrom rfl rfl rfl (by decide +kernel) ⟨Nat.le_of_ble_eq_true rfl, Nat.le_of_ble_eq_true rfl⟩) (Nat.le_of_ble_eq_true rfl) ⟨Nat.zero_le _, Nat.zero_le _⟩ dX4_save_70 (fun u70 hu70 => ?_)
        show Gz pp l ee ({ frames := 3, cells := 0, slots := 0, locals := 91 } : Room) ss mm args below meth cd 3 0 0 Q (Zw D vwCl (va_A wst sz) ss (wBq y o a (uR S 2 u70) tb x ln 0 (sav a) p6)) 73 [(0, .ref (o 0))] []
        refine z_aload_n mx mb dX4_save_73 rfl 0 rfl ?_
        refine z_dup mx mb dX4_save_74 rfl ?_
        refine z_get (C := RX4) (T := TX4) (N := 5) mx mb mts (in_X4_save_X4) mo hK zgw 0 wB_0 rfl 4 (by decide) (mts _ (List.mem_of_getElem? (i := 1) rfl)) (fun _ h9 => h9) rfl dX4_save_75 ?_
        refine z_iconst mx mb dX4_save_78 ?_
        refine z_iadd mx mb dX4_save_79 ?_
        refine z_put (ty := .int) (C := RX4) (T := TX4) (N := 5) mx mb mts (in_X4_save_X4) tyX4_ok nmX4 mo hK 0 wB_0 rfl 4 (by decide) (mts _ (List.mem_of_getElem? (i := 1) rfl)) (fun _ h9 => h9) rfl (by decide +kernel) rfl rfl (Nat.le_of_ble_eq_true rfl) dX4_save_80 (wBq y o a (uR S 2 u70) tb x ln (0 + 1) (sav a) p6) wB_s0 ?_
        rw [hQ]
        exact z_retV mx mb mr mlk hK (a, uR S 2 u70) (by exact ⟨rfl, rfl, uR_n (R := S) (S := u70) (i := 0) (show 0 ≠ 2 by omega), uR_n (R := S) (S := u70) (i := 1) (show 1 ≠ 2 by omega), by show Rel f (uR S 2 u70 2); rw [uR_s]; exact hu70, fun j hj => (by have hj2 : j < 0 := hj; show uR S 2 u70 (2 + j) = S (2 + j + 0); rw [uR_n (by omega)]; rfl)⟩) rfl dX4_save_83
      · skip
        exact absurd c5 (by omega)
    · skip
      refine z_aload_n mx mb dX4_save_0 rfl 0 rfl ?_
      refine z_get (C := RX4) (T := TX4) (N := 5) mx mb mts (in_X4_save_X4) mo hK zgw 0 wB_0 rfl 4 (by decide) (mts _ (List.mem_of_getElem? (i := 1) rfl)) (fun _ h9 => h9) rfl dX4_save_1 ?_
      refine z_iconst mx mb dX4_save_4 ?_
      refine z_icmp_ne (tgt := 57) mx mb (by omega) (by omega) dX4_save_5 (by decide) (fun c5 => ?_) (fun c5 => ?_)
      · skip
        refine z_aload_n mx mb dX4_save_57 rfl 0 rfl ?_
        refine z_get (C := RX4) (T := TX4) (N := 5) mx mb mts (in_X4_save_X4) mo hK zgw 0 wB_0 rfl 2 (by decide) (mts _ (List.mem_of_getElem? (i := 2) rfl)) (fun _ h9 => h9) rfl dX4_save_58 ?_
        refine z_aload_n mx mb dX4_save_61 rfl 0 rfl ?_
        refine z_get (C := RX4) (T := TX4) (N := 5) mx mb mts (in_X4_save_X4) mo hK zgw 0 wB_0 rfl 4 (by decide) (mts _ (List.mem_of_getElem? (i := 1) rfl)) (fun _ h9 => h9) rfl dX4_save_62 ?_
        refine z_aldq (i := 1) (b := a 3 0) mx mb hK zgw 1 2 wB_1 rfl (by decide) (by decide) rfl dX4_save_65 ?_
        refine z_aload_n mx mb dX4_save_66 rfl 0 rfl ?_
        refine z_get (C := RX4) (T := TX4) (N := 5) mx mb mts (in_X4_save_X4) mo hK zgw 0 wB_0 rfl 0 (by decide) (mts _ (List.mem_of_getElem? (i := 3) rfl)) (fun _ h9 => h9) rfl dX4_save_67 ?_
        refine z_copy (i := 3) (j := 0) (ps := [1, 2, 4, 5]) (rest := []) (by decide) (by decide) (by decide) ⟨mx, mb, mml, mo, mts⟩ hK hA (fun sz => c_X0_copyFrom l D sz y (a 3) (S 3) (a 0) (S 0) f (by assumption) hW) (cwV 1 mts gX4_save_X0_copyFrom rfl rfl rfl (by decide +kernel) ⟨Nat.le_of_ble_eq_true rfl, Nat.le_of_ble_eq_true rfl⟩) (Nat.le_of_ble_eq_true rfl) ⟨Nat.zero_le _, Nat.zero_le _⟩ dX4_save_70 (fun u70 hu70 => ?_)
        show Gz pp l ee ({ frames := 3, cells := 0, slots := 0, locals := 91 } : Room) ss mm args below meth cd 3 0 0 Q (Zw D vwCl (va_A wst sz) ss (wBq y o a (uR S 3 u70) tb x ln 1 (sav a) p6)) 73 [(0, .ref (o 0))] []
        refine z_aload_n mx mb dX4_save_73 rfl 0 rfl ?_
        refine z_dup mx mb dX4_save_74 rfl ?_
        refine z_get (C := RX4) (T := TX4) (N := 5) mx mb mts (in_X4_save_X4) mo hK zgw 0 wB_0 rfl 4 (by decide) (mts _ (List.mem_of_getElem? (i := 1) rfl)) (fun _ h9 => h9) rfl dX4_save_75 ?_
        refine z_iconst mx mb dX4_save_78 ?_
        refine z_iadd mx mb dX4_save_79 ?_
        refine z_put (ty := .int) (C := RX4) (T := TX4) (N := 5) mx mb mts (in_X4_save_X4) tyX4_ok nmX4 mo hK 0 wB_0 rfl 4 (by decide) (mts _ (List.mem_of_getElem? (i := 1) rfl)) (fun _ h9 => h9) rfl (by decide +kernel) rfl rfl (Nat.le_of_ble_eq_true rfl) dX4_save_80 (wBq y o a (uR S 3 u70) tb x ln (1 + 1) (sav a) p6) wB_s0 ?_
        rw [hQ]
        exact z_retV mx mb mr mlk hK (a, uR S 3 u70) (by exact ⟨rfl, rfl, uR_n (R := S) (S := u70) (i := 0) (show 0 ≠ 3 by omega), uR_n (R := S) (S := u70) (i := 1) (show 1 ≠ 3 by omega), by show Rel f (uR S 3 u70 3); rw [uR_s]; exact hu70, fun j hj => (by have hj2 : j < 1 := hj; show uR S 3 u70 (2 + j) = S (2 + j + 0); rw [uR_n (by omega)]; rfl)⟩) rfl dX4_save_83
      · skip
        exact absurd c5 (by omega)
    · skip
      refine z_aload_n mx mb dX4_save_0 rfl 0 rfl ?_
      refine z_get (C := RX4) (T := TX4) (N := 5) mx mb mts (in_X4_save_X4) mo hK zgw 0 wB_0 rfl 4 (by decide) (mts _ (List.mem_of_getElem? (i := 1) rfl)) (fun _ h9 => h9) rfl dX4_save_1 ?_
      refine z_iconst mx mb dX4_save_4 ?_
      refine z_icmp_ne (tgt := 57) mx mb (by omega) (by omega) dX4_save_5 (by decide) (fun c5 => ?_) (fun c5 => ?_)
      · skip
        refine z_aload_n mx mb dX4_save_57 rfl 0 rfl ?_
        refine z_get (C := RX4) (T := TX4) (N := 5) mx mb mts (in_X4_save_X4) mo hK zgw 0 wB_0 rfl 2 (by decide) (mts _ (List.mem_of_getElem? (i := 2) rfl)) (fun _ h9 => h9) rfl dX4_save_58 ?_
        refine z_aload_n mx mb dX4_save_61 rfl 0 rfl ?_
        refine z_get (C := RX4) (T := TX4) (N := 5) mx mb mts (in_X4_save_X4) mo hK zgw 0 wB_0 rfl 4 (by decide) (mts _ (List.mem_of_getElem? (i := 1) rfl)) (fun _ h9 => h9) rfl dX4_save_62 ?_
        refine z_aldq (i := 2) (b := a 4 0) mx mb hK zgw 1 2 wB_1 rfl (by decide) (by decide) rfl dX4_save_65 ?_
        refine z_aload_n mx mb dX4_save_66 rfl 0 rfl ?_
        refine z_get (C := RX4) (T := TX4) (N := 5) mx mb mts (in_X4_save_X4) mo hK zgw 0 wB_0 rfl 0 (by decide) (mts _ (List.mem_of_getElem? (i := 3) rfl)) (fun _ h9 => h9) rfl dX4_save_67 ?_
        refine z_copy (i := 4) (j := 0) (ps := [1, 2, 3, 5]) (rest := []) (by decide) (by decide) (by decide) ⟨mx, mb, mml, mo, mts⟩ hK hA (fun sz => c_X0_copyFrom l D sz y (a 4) (S 4) (a 0) (S 0) f (by assumption) hW) (cwV 1 mts gX4_save_X0_copyFrom rfl rfl rfl (by decide +kernel) ⟨Nat.le_of_ble_eq_true rfl, Nat.le_of_ble_eq_true rfl⟩) (Nat.le_of_ble_eq_true rfl) ⟨Nat.zero_le _, Nat.zero_le _⟩ dX4_save_70 (fun u70 hu70 => ?_)
        show Gz pp l ee ({ frames := 3, cells := 0, slots := 0, locals := 91 } : Room) ss mm args below meth cd 3 0 0 Q (Zw D vwCl (va_A wst sz) ss (wBq y o a (uR S 4 u70) tb x ln 2 (sav a) p6)) 73 [(0, .ref (o 0))] []
        refine z_aload_n mx mb dX4_save_73 rfl 0 rfl ?_
        refine z_dup mx mb dX4_save_74 rfl ?_
        refine z_get (C := RX4) (T := TX4) (N := 5) mx mb mts (in_X4_save_X4) mo hK zgw 0 wB_0 rfl 4 (by decide) (mts _ (List.mem_of_getElem? (i := 1) rfl)) (fun _ h9 => h9) rfl dX4_save_75 ?_
        refine z_iconst mx mb dX4_save_78 ?_
        refine z_iadd mx mb dX4_save_79 ?_
        refine z_put (ty := .int) (C := RX4) (T := TX4) (N := 5) mx mb mts (in_X4_save_X4) tyX4_ok nmX4 mo hK 0 wB_0 rfl 4 (by decide) (mts _ (List.mem_of_getElem? (i := 1) rfl)) (fun _ h9 => h9) rfl (by decide +kernel) rfl rfl (Nat.le_of_ble_eq_true rfl) dX4_save_80 (wBq y o a (uR S 4 u70) tb x ln (2 + 1) (sav a) p6) wB_s0 ?_
        rw [hQ]
        exact z_retV mx mb mr mlk hK (a, uR S 4 u70) (by exact ⟨rfl, rfl, uR_n (R := S) (S := u70) (i := 0) (show 0 ≠ 4 by omega), uR_n (R := S) (S := u70) (i := 1) (show 1 ≠ 4 by omega), by show Rel f (uR S 4 u70 4); rw [uR_s]; exact hu70, fun j hj => (by have hj2 : j < 2 := hj; show uR S 4 u70 (2 + j) = S (2 + j + 0); rw [uR_n (by omega)]; rfl)⟩) rfl dX4_save_83
      · skip
        exact absurd c5 (by omega)
    · skip
      refine z_aload_n mx mb dX4_save_0 rfl 0 rfl ?_
      refine z_get (C := RX4) (T := TX4) (N := 5) mx mb mts (in_X4_save_X4) mo hK zgw 0 wB_0 rfl 4 (by decide) (mts _ (List.mem_of_getElem? (i := 1) rfl)) (fun _ h9 => h9) rfl dX4_save_1 ?_
      refine z_iconst mx mb dX4_save_4 ?_
      refine z_icmp_ne (tgt := 57) mx mb (by omega) (by omega) dX4_save_5 (by decide) (fun c5 => ?_) (fun c5 => ?_)
      · skip
        refine z_aload_n mx mb dX4_save_57 rfl 0 rfl ?_
        refine z_get (C := RX4) (T := TX4) (N := 5) mx mb mts (in_X4_save_X4) mo hK zgw 0 wB_0 rfl 2 (by decide) (mts _ (List.mem_of_getElem? (i := 2) rfl)) (fun _ h9 => h9) rfl dX4_save_58 ?_
        refine z_aload_n mx mb dX4_save_61 rfl 0 rfl ?_
        refine z_get (C := RX4) (T := TX4) (N := 5) mx mb mts (in_X4_save_X4) mo hK zgw 0 wB_0 rfl 4 (by decide) (mts _ (List.mem_of_getElem? (i := 1) rfl)) (fun _ h9 => h9) rfl dX4_save_62 ?_
        refine z_aldq (i := 3) (b := a 5 0) mx mb hK zgw 1 2 wB_1 rfl (by decide) (by decide) rfl dX4_save_65 ?_
        refine z_aload_n mx mb dX4_save_66 rfl 0 rfl ?_
        refine z_get (C := RX4) (T := TX4) (N := 5) mx mb mts (in_X4_save_X4) mo hK zgw 0 wB_0 rfl 0 (by decide) (mts _ (List.mem_of_getElem? (i := 3) rfl)) (fun _ h9 => h9) rfl dX4_save_67 ?_
        refine z_copy (i := 5) (j := 0) (ps := [1, 2, 3, 4]) (rest := []) (by decide) (by decide) (by decide) ⟨mx, mb, mml, mo, mts⟩ hK hA (fun sz => c_X0_copyFrom l D sz y (a 5) (S 5) (a 0) (S 0) f (by assumption) hW) (cwV 1 mts gX4_save_X0_copyFrom rfl rfl rfl (by decide +kernel) ⟨Nat.le_of_ble_eq_true rfl, Nat.le_of_ble_eq_true rfl⟩) (Nat.le_of_ble_eq_true rfl) ⟨Nat.zero_le _, Nat.zero_le _⟩ dX4_save_70 (fun u70 hu70 => ?_)
        show Gz pp l ee ({ frames := 3, cells := 0, slots := 0, locals := 91 } : Room) ss mm args below meth cd 3 0 0 Q (Zw D vwCl (va_A wst sz) ss (wBq y o a (uR S 5 u70) tb x ln 3 (sav a) p6)) 73 [(0, .ref (o 0))] []
        refine z_aload_n mx mb dX4_save_73 rfl 0 rfl ?_
        refine z_dup mx mb dX4_save_74 rfl ?_
        refine z_get (C := RX4) (T := TX4) (N := 5) mx mb mts (in_X4_save_X4) mo hK zgw 0 wB_0 rfl 4 (by decide) (mts _ (List.mem_of_getElem? (i := 1) rfl)) (fun _ h9 => h9) rfl dX4_save_75 ?_
        refine z_iconst mx mb dX4_save_78 ?_
        refine z_iadd mx mb dX4_save_79 ?_
        refine z_put (ty := .int) (C := RX4) (T := TX4) (N := 5) mx mb mts (in_X4_save_X4) tyX4_ok nmX4 mo hK 0 wB_0 rfl 4 (by decide) (mts _ (List.mem_of_getElem? (i := 1) rfl)) (fun _ h9 => h9) rfl (by decide +kernel) rfl rfl (Nat.le_of_ble_eq_true rfl) dX4_save_80 (wBq y o a (uR S 5 u70) tb x ln (3 + 1) (sav a) p6) wB_s0 ?_
        rw [hQ]
        exact z_retV mx mb mr mlk hK (a, uR S 5 u70) (by exact ⟨rfl, rfl, uR_n (R := S) (S := u70) (i := 0) (show 0 ≠ 5 by omega), uR_n (R := S) (S := u70) (i := 1) (show 1 ≠ 5 by omega), by show Rel f (uR S 5 u70 5); rw [uR_s]; exact hu70, fun j hj => (by have hj2 : j < 3 := hj; show uR S 5 u70 (2 + j) = S (2 + j + 0); rw [uR_n (by omega)]; rfl)⟩) rfl dX4_save_83
      · skip
        exact absurd c5 (by omega)
    · skip
      refine z_aload_n mx mb dX4_save_0 rfl 0 rfl ?_
      refine z_get (C := RX4) (T := TX4) (N := 5) mx mb mts (in_X4_save_X4) mo hK zgw 0 wB_0 rfl 4 (by decide) (mts _ (List.mem_of_getElem? (i := 1) rfl)) (fun _ h9 => h9) rfl dX4_save_1 ?_
      refine z_iconst mx mb dX4_save_4 ?_
      refine z_icmp_ne (tgt := 57) mx mb (by omega) (by omega) dX4_save_5 (by decide) (fun c5 => ?_) (fun c5 => ?_)
      · skip
        exact absurd c5 (by omega)
      · skip
        refine z_aload_n mx mb dX4_save_8 rfl 0 rfl ?_
        refine z_get (C := RX4) (T := TX4) (N := 5) mx mb mts (in_X4_save_X4) mo hK zgw 0 wB_0 rfl 2 (by decide) (mts _ (List.mem_of_getElem? (i := 2) rfl)) (fun _ h9 => h9) rfl dX4_save_9 ?_
        refine z_iconst mx mb dX4_save_12 ?_
        refine z_aldq (i := 0) (b := a 2 0) mx mb hK zgw 1 2 wB_1 rfl (by decide) (by decide) rfl dX4_save_13 ?_
        refine z_astore_n mx mb dX4_save_14 rfl (by decide) [(1, .ref (a 2 0)), (0, .ref (o 0))] rfl ?_
        refine z_iconst mx mb dX4_save_15 ?_
        refine z_istore_n mx mb dX4_save_16 rfl (by decide) [(2, .int (iZ 1)), (1, .ref (a 2 0)), (0, .ref (o 0))] rfl ?_
        refine z_iload_n mx mb dX4_save_17 rfl 0 rfl ?_
        refine z_iconst mx mb dX4_save_18 ?_
        refine z_icmp_ge (tgt := 42) mx mb (by omega) (by omega) dX4_save_19 (by decide) (fun c19 => ?_) (fun c19 => ?_)
        · skip
          exact absurd c19 (by omega)
        · skip
          refine z_aload_n mx mb dX4_save_22 rfl 2 rfl ?_
          refine z_get (C := RX4) (T := TX4) (N := 5) mx mb mts (in_X4_save_X4) mo hK zgw 0 wB_0 rfl 2 (by decide) (mts _ (List.mem_of_getElem? (i := 2) rfl)) (fun _ h9 => h9) rfl dX4_save_23 ?_
          refine z_iload_n mx mb dX4_save_26 rfl 0 rfl ?_
          refine z_iconst mx mb dX4_save_27 ?_
          refine z_isub mx mb dX4_save_28 ?_
          refine z_aload_n mx mb dX4_save_29 rfl 2 rfl ?_
          refine z_get (C := RX4) (T := TX4) (N := 5) mx mb mts (in_X4_save_X4) mo hK zgw 0 wB_0 rfl 2 (by decide) (mts _ (List.mem_of_getElem? (i := 2) rfl)) (fun _ h9 => h9) rfl dX4_save_30 ?_
          refine z_iload_n mx mb dX4_save_33 rfl 0 rfl ?_
          refine z_aldq (i := 1) (b := a 3 0) mx mb hK zgw 1 2 wB_1 rfl (by decide) (by decide) rfl dX4_save_34 ?_
          refine z_aast (r := (RX0, TX0, 9)) (i := 0) mx mb hK 1 2 (4 + 15 * 3 + 0) 0 wB_1 rfl ((wB_get 3 0 (by omega) (by omega)).trans wR_0) rfl (by decide) (by decide) dX4_save_35 (wBq y o a S tb x ln 4 (va_up (sav a) 0 (some (a 3 0))) p6) rfl ?_
          refine z_iinc mx mb dX4_save_36 0 rfl (by decide) [(2, .int (iZ (1 + 1))), (1, .ref (a 2 0)), (0, .ref (o 0))] rfl ?_
          refine z_goto (tgt := 17) mx mb dX4_save_39 (by decide) ?_
          refine z_iload_n mx mb dX4_save_17 rfl 0 rfl ?_
          refine z_iconst mx mb dX4_save_18 ?_
          refine z_icmp_ge (tgt := 42) mx mb (by omega) (by omega) dX4_save_19 (by decide) (fun c19 => ?_) (fun c19 => ?_)
          · skip
            exact absurd c19 (by omega)
          · skip
            refine z_aload_n mx mb dX4_save_22 rfl 2 rfl ?_
            refine z_get (C := RX4) (T := TX4) (N := 5) mx mb mts (in_X4_save_X4) mo hK zgw 0 wB_0 rfl 2 (by decide) (mts _ (List.mem_of_getElem? (i := 2) rfl)) (fun _ h9 => h9) rfl dX4_save_23 ?_
            refine z_iload_n mx mb dX4_save_26 rfl 0 rfl ?_
            refine z_iconst mx mb dX4_save_27 ?_
            refine z_isub mx mb dX4_save_28 ?_
            refine z_aload_n mx mb dX4_save_29 rfl 2 rfl ?_
            refine z_get (C := RX4) (T := TX4) (N := 5) mx mb mts (in_X4_save_X4) mo hK zgw 0 wB_0 rfl 2 (by decide) (mts _ (List.mem_of_getElem? (i := 2) rfl)) (fun _ h9 => h9) rfl dX4_save_30 ?_
            refine z_iload_n mx mb dX4_save_33 rfl 0 rfl ?_
            refine z_top (show 1 + 1 = 2 from by omega) ?_
            refine z_aldq (i := 2) (b := a 4 0) mx mb hK zgw 1 2 wB_1 rfl (by decide) (by decide) rfl dX4_save_34 ?_
            refine z_aast (r := (RX0, TX0, 9)) (i := 1) mx mb hK 1 2 (4 + 15 * 4 + 0) 0 wB_1 rfl ((wB_get 4 0 (by omega) (by omega)).trans wR_0) rfl (by decide) (by decide) dX4_save_35 (wBq y o a S tb x ln 4 (va_up (va_up (sav a) 0 (some (a 3 0))) 1 (some (a 4 0))) p6) rfl ?_
            refine z_iinc mx mb dX4_save_36 0 rfl (by decide) [(2, .int (iZ ((1 + 1) + 1))), (1, .ref (a 2 0)), (0, .ref (o 0))] rfl ?_
            refine z_goto (tgt := 17) mx mb dX4_save_39 (by decide) ?_
            refine z_iload_n mx mb dX4_save_17 rfl 0 rfl ?_
            refine z_iconst mx mb dX4_save_18 ?_
            refine z_icmp_ge (tgt := 42) mx mb (by omega) (by omega) dX4_save_19 (by decide) (fun c19 => ?_) (fun c19 => ?_)
            · skip
              exact absurd c19 (by omega)
            · skip
              refine z_aload_n mx mb dX4_save_22 rfl 2 rfl ?_
              refine z_get (C := RX4) (T := TX4) (N := 5) mx mb mts (in_X4_save_X4) mo hK zgw 0 wB_0 rfl 2 (by decide) (mts _ (List.mem_of_getElem? (i := 2) rfl)) (fun _ h9 => h9) rfl dX4_save_23 ?_
              refine z_iload_n mx mb dX4_save_26 rfl 0 rfl ?_
              refine z_iconst mx mb dX4_save_27 ?_
              refine z_isub mx mb dX4_save_28 ?_
              refine z_aload_n mx mb dX4_save_29 rfl 2 rfl ?_
              refine z_get (C := RX4) (T := TX4) (N := 5) mx mb mts (in_X4_save_X4) mo hK zgw 0 wB_0 rfl 2 (by decide) (mts _ (List.mem_of_getElem? (i := 2) rfl)) (fun _ h9 => h9) rfl dX4_save_30 ?_
              refine z_iload_n mx mb dX4_save_33 rfl 0 rfl ?_
              refine z_top (show (1 + 1) + 1 = 3 from by omega) ?_
              refine z_aldq (i := 3) (b := a 5 0) mx mb hK zgw 1 2 wB_1 rfl (by decide) (by decide) rfl dX4_save_34 ?_
              refine z_aast (r := (RX0, TX0, 9)) (i := 2) mx mb hK 1 2 (4 + 15 * 5 + 0) 0 wB_1 rfl ((wB_get 5 0 (by omega) (by omega)).trans wR_0) rfl (by decide) (by decide) dX4_save_35 (wBq y o a S tb x ln 4 (va_up (va_up (va_up (sav a) 0 (some (a 3 0))) 1 (some (a 4 0))) 2 (some (a 5 0))) p6) rfl ?_
              refine z_iinc mx mb dX4_save_36 0 rfl (by decide) [(2, .int (iZ (((1 + 1) + 1) + 1))), (1, .ref (a 2 0)), (0, .ref (o 0))] rfl ?_
              refine z_goto (tgt := 17) mx mb dX4_save_39 (by decide) ?_
              refine z_iload_n mx mb dX4_save_17 rfl 0 rfl ?_
              refine z_iconst mx mb dX4_save_18 ?_
              refine z_icmp_ge (tgt := 42) mx mb (by omega) (by omega) dX4_save_19 (by decide) (fun c19 => ?_) (fun c19 => ?_)
              · skip
                refine z_aload_n mx mb dX4_save_42 rfl 2 rfl ?_
                refine z_iconst mx mb dX4_save_43 ?_
                refine z_put (ty := .int) (C := RX4) (T := TX4) (N := 5) mx mb mts (in_X4_save_X4) tyX4_ok nmX4 mo hK 0 wB_0 rfl 4 (by decide) (mts _ (List.mem_of_getElem? (i := 1) rfl)) (fun _ h9 => h9) rfl (by decide +kernel) rfl rfl (Nat.le_of_ble_eq_true rfl) dX4_save_44 (wBq y o a S tb x ln 3 (va_up (va_up (va_up (sav a) 0 (some (a 3 0))) 1 (some (a 4 0))) 2 (some (a 5 0))) p6) wB_s0 ?_
                refine z_aload_n mx mb dX4_save_47 rfl 2 rfl ?_
                refine z_get (C := RX4) (T := TX4) (N := 5) mx mb mts (in_X4_save_X4) mo hK zgw 0 wB_0 rfl 2 (by decide) (mts _ (List.mem_of_getElem? (i := 2) rfl)) (fun _ h9 => h9) rfl dX4_save_48 ?_
                refine z_aload_n mx mb dX4_save_51 rfl 2 rfl ?_
                refine z_get (C := RX4) (T := TX4) (N := 5) mx mb mts (in_X4_save_X4) mo hK zgw 0 wB_0 rfl 4 (by decide) (mts _ (List.mem_of_getElem? (i := 1) rfl)) (fun _ h9 => h9) rfl dX4_save_52 ?_
                refine z_aload_n mx mb dX4_save_55 rfl 1 rfl ?_
                refine z_aast (r := (RX0, TX0, 9)) (i := 3) mx mb hK 1 2 (4 + 15 * 2 + 0) 0 wB_1 rfl ((wB_get 2 0 (by omega) (by omega)).trans wR_0) rfl (by decide) (by decide) dX4_save_56 (wBq y o a S tb x ln 3 (va_up (va_up (va_up (va_up (sav a) 0 (some (a 3 0))) 1 (some (a 4 0))) 2 (some (a 5 0))) 3 (some (a 2 0))) p6) rfl ?_
                refine z_rot (fun j hj => ?_) ?_
                · rcases (show j = 0 ∨ j = 1 ∨ j = 2 ∨ j = 3 by omega) with rfl | rfl | rfl | rfl <;> rfl
                obtain ⟨a2, ea2⟩ : ∃ z, z = fun j => a (rt4 j) := ⟨_, rfl⟩
                obtain ⟨S2, eS2⟩ : ∃ z, z = fun j => S (rt4 j) := ⟨_, rfl⟩
                rw [← ea2, ← eS2]
                have t0 : S2 0 = S 0 := (by rw [eS2]; rfl)
                have t1 : S2 1 = S 1 := (by rw [eS2]; rfl)
                have b0 : a2 0 = a 0 := (by rw [ea2]; rfl)
                have b1 : a2 1 = a 1 := (by rw [ea2]; rfl)
                have t2 : ∀ j : Nat, j < 3 → S2 (2 + j) = S (2 + j + 1) := fun j hj => (by rw [eS2]; rcases (show j = 0 ∨ j = 1 ∨ j = 2 by omega) with rfl | rfl | rfl <;> rfl)
                have hR2 : Rel f (S2 0) := (by rw [t0]; exact hR)
                refine z_aload_n mx mb dX4_save_57 rfl 2 rfl ?_
                refine z_get (C := RX4) (T := TX4) (N := 5) mx mb mts (in_X4_save_X4) mo hK zgw 0 wB_0 rfl 2 (by decide) (mts _ (List.mem_of_getElem? (i := 2) rfl)) (fun _ h9 => h9) rfl dX4_save_58 ?_
                refine z_aload_n mx mb dX4_save_61 rfl 2 rfl ?_
                refine z_get (C := RX4) (T := TX4) (N := 5) mx mb mts (in_X4_save_X4) mo hK zgw 0 wB_0 rfl 4 (by decide) (mts _ (List.mem_of_getElem? (i := 1) rfl)) (fun _ h9 => h9) rfl dX4_save_62 ?_
                refine z_aldq (i := 3) (b := a2 5 0) mx mb hK zgw 1 2 wB_1 rfl (by decide) (by decide) rfl dX4_save_65 ?_
                refine z_aload_n mx mb dX4_save_66 rfl 2 rfl ?_
                refine z_get (C := RX4) (T := TX4) (N := 5) mx mb mts (in_X4_save_X4) mo hK zgw 0 wB_0 rfl 0 (by decide) (mts _ (List.mem_of_getElem? (i := 3) rfl)) (fun _ h9 => h9) rfl dX4_save_67 ?_
                refine z_copy (i := 5) (j := 0) (ps := [1, 2, 3, 4]) (rest := []) (by decide) (by decide) (by decide) ⟨mx, mb, mml, mo, mts⟩ hK hA (fun sz => c_X0_copyFrom l D sz y (a2 5) (S2 5) (a2 0) (S2 0) f (by assumption) hW) (cwV 1 mts gX4_save_X0_copyFrom rfl rfl rfl (by decide +kernel) ⟨Nat.le_of_ble_eq_true rfl, Nat.le_of_ble_eq_true rfl⟩) (Nat.le_of_ble_eq_true rfl) ⟨Nat.zero_le _, Nat.zero_le _⟩ dX4_save_70 (fun u70 hu70 => ?_)
                show Gz pp l ee ({ frames := 3, cells := 0, slots := 0, locals := 91 } : Room) ss mm args below meth cd 3 0 0 Q (Zw D vwCl (va_A wst sz) ss (wBq y o a2 (uR S2 5 u70) tb x ln 3 (sav a2) p6)) 73 [(2, .int (iZ (((1 + 1) + 1) + 1))), (1, .ref (a 2 0)), (0, .ref (o 0))] []
                refine z_aload_n mx mb dX4_save_73 rfl 2 rfl ?_
                refine z_dup mx mb dX4_save_74 rfl ?_
                refine z_get (C := RX4) (T := TX4) (N := 5) mx mb mts (in_X4_save_X4) mo hK zgw 0 wB_0 rfl 4 (by decide) (mts _ (List.mem_of_getElem? (i := 1) rfl)) (fun _ h9 => h9) rfl dX4_save_75 ?_
                refine z_iconst mx mb dX4_save_78 ?_
                refine z_iadd mx mb dX4_save_79 ?_
                refine z_put (ty := .int) (C := RX4) (T := TX4) (N := 5) mx mb mts (in_X4_save_X4) tyX4_ok nmX4 mo hK 0 wB_0 rfl 4 (by decide) (mts _ (List.mem_of_getElem? (i := 1) rfl)) (fun _ h9 => h9) rfl (by decide +kernel) rfl rfl (Nat.le_of_ble_eq_true rfl) dX4_save_80 (wBq y o a2 (uR S2 5 u70) tb x ln (3 + 1) (sav a2) p6) wB_s0 ?_
                rw [hQ]
                exact z_retV mx mb mr mlk hK (a2, uR S2 5 u70) (by exact ⟨b0, b1, (uR_n (R := S2) (S := u70) (i := 0) (show 0 ≠ 5 by omega)).trans t0, (uR_n (R := S2) (S := u70) (i := 1) (show 1 ≠ 5 by omega)).trans t1, by show Rel f (uR S2 5 u70 5); rw [uR_s]; exact hu70, fun j hj => (by have hj2 : j < 3 := hj; show uR S2 5 u70 (2 + j) = S (2 + j + 1); rw [uR_n (by omega)]; exact t2 j hj2)⟩) rfl dX4_save_83
              · skip
                exact absurd c19 (by omega)
  subst hQ
  subst hw0
  exact hstart
