theorem in_X4_append_X2 : ∀ w ∈ wsX20, w ∈ wsX4_append := by decide +kernel
theorem in_X4_append_X4 : ∀ w ∈ wsX40, w ∈ wsX4_append := by decide +kernel
set_option maxRecDepth 100000 in
set_option maxHeartbeats 4000000 in
theorem c_X4_append (l : Launch) (D : va_G) (sz : Nat) (y : Nat → ClassId) (o : Nat → Nat) (a : Nat → Nat → Nat) (S : Nat → Nat → Int → Int) (tb : Nat → Nat) (x : Int → Int) (ln sc : Int) (f : Int → Int) (v : Int) (hv : 0 ≤ v ∧ v ≤ 127) (hl : 0 ≤ ln ∧ ln < 90) : Met l yX4_append wsX4_append ({ frames := 1, cells := 0, slots := 0, locals := 21 } : Room) (zPw D vwCl (zT y) (wBq y o a S tb x ln sc (sav a) p6) sz [.ref (o 0), .int (iZ v)]) (va_Qi (fun (r : Int32) (_ : Unit) => r = iZ (ln + 1)) (zB D vwCl (zT y) (wBq y o a S tb x ln sc (sav a) p6) sz (fun _ : Unit => wBq y o a S tb (zu x ln v) (ln + 1) sc (sav a) p6)) (va_A (wBq y o a S tb x ln sc (sav a) p6) sz)) 0 0 (va_A (wBq y o a S tb x ln sc (sav a) p6) sz) := by
  refine z_headW (cc := cX4_append) (maxL := 2) (ret := (some .int)) [(0, .ref (o 0)), (1, .int (iZ v))] rfl (Nat.le_of_ble_eq_true rfl) (by decide +kernel) rfl ?_
  intro pp ee ss mm below meth cd mx mb mr mml mo mts mlk hK hname hsz hA
  generalize ([.ref (o 0), .int (iZ v)] : List Value).toArray = args at mts ⊢
  obtain ⟨wst, hw0⟩ : ∃ wst, wst = wBq y o a S tb x ln sc (sav a) p6 := ⟨_, rfl⟩
  have hA : ∀ q, ss.heap.size ≤ q → va_A wst sz q := by rw [hw0]; exact hA
  obtain ⟨Q, hQ⟩ : ∃ Q, Q = MQ below (va_Qi (fun (r : Int32) (_ : Unit) => r = iZ (ln + 1)) (zB D vwCl (zT y) wst sz (fun _ : Unit => wBq y o a S tb (zu x ln v) (ln + 1) sc (sav a) p6)) (va_A wst sz)) args ss 0 0 (va_A wst sz) := ⟨_, rfl⟩
  have hstart : Gz pp l ee ({ frames := 1, cells := 0, slots := 0, locals := 21 } : Room) ss mm args below meth cd 2 0 0 Q (Zw D vwCl (va_A wst sz) ss (wBq y o a S tb x ln sc (sav a) p6)) 0 [(0, .ref (o 0)), (1, .int (iZ v))] [] := by
    refine z_iload_n mx mb dX4_append_0 rfl 1 rfl ?_
    refine z_if_lt (tgt := 10) mx mb (by omega) dX4_append_1 (by decide) (fun c1 => ?_) (fun c1 => ?_)
    · skip
      exact absurd c1 (by omega)
    · skip
      refine z_iload_n mx mb dX4_append_4 rfl 1 rfl ?_
      refine z_bipush mx mb dX4_append_5 (by decide +kernel) ?_
      refine z_icmp_le (tgt := 21) mx mb (by omega) (by omega) dX4_append_7 (by decide) (fun c7 => ?_) (fun c7 => ?_)
      · skip
        refine z_aload_n mx mb dX4_append_21 rfl 0 rfl ?_
        refine z_get (C := RX4) (T := TX4) (N := 5) mx mb mts (in_X4_append_X4) mo hK zgw 0 wB_0 rfl 3 (by decide) (mts _ (List.mem_of_getElem? (i := 5) rfl)) (fun _ h9 => h9) rfl dX4_append_22 ?_
        refine z_get (C := RX2) (T := TX2) (N := 2) mx mb mts (in_X4_append_X2) mo hK zgw 2 wB_2 rfl 1 (by decide) (mts _ (List.mem_of_getElem? (i := 6) rfl)) (fun _ h9 => h9) rfl dX4_append_25 ?_
        refine z_bipush mx mb dX4_append_28 (by decide +kernel) ?_
        refine z_icmp_ne (tgt := 44) mx mb (by omega) (by omega) dX4_append_30 (by decide) (fun c30 => ?_) (fun c30 => ?_)
        · skip
          refine z_aload_n mx mb dX4_append_44 rfl 0 rfl ?_
          refine z_get (C := RX4) (T := TX4) (N := 5) mx mb mts (in_X4_append_X4) mo hK zgw 0 wB_0 rfl 3 (by decide) (mts _ (List.mem_of_getElem? (i := 5) rfl)) (fun _ h9 => h9) rfl dX4_append_45 ?_
          refine z_iload_n mx mb dX4_append_48 rfl 1 rfl ?_
          refine z_textV (As := [.int (iZ v)]) (rest := []) ⟨mx, mb, mml, mo, mts⟩ hK hA (fun sz => c_X2_add l D sz y tb x ln v (by omega)) (cwV 1 mts gX4_append_X2_add rfl rfl rfl (by decide +kernel) ⟨Nat.le_of_ble_eq_true rfl, Nat.le_of_ble_eq_true rfl⟩) rfl rfl (Nat.le_of_ble_eq_true rfl) ⟨Nat.zero_le _, Nat.zero_le _⟩ dX4_append_49 ?_
          show Gz pp l ee ({ frames := 1, cells := 0, slots := 0, locals := 21 } : Room) ss mm args below meth cd 2 0 0 Q (Zw D vwCl (va_A wst sz) ss (wBq y o a S tb (zu x ln v) (ln + 1) sc (sav a) p6)) 52 [(0, .ref (o 0)), (1, .int (iZ v))] []
          refine z_aload_n mx mb dX4_append_52 rfl 0 rfl ?_
          refine z_get (C := RX4) (T := TX4) (N := 5) mx mb mts (in_X4_append_X4) mo hK zgw 0 wB_0 rfl 3 (by decide) (mts _ (List.mem_of_getElem? (i := 5) rfl)) (fun _ h9 => h9) rfl dX4_append_53 ?_
          refine z_get (C := RX2) (T := TX2) (N := 2) mx mb mts (in_X4_append_X2) mo hK zgw 2 wB_2 rfl 1 (by decide) (mts _ (List.mem_of_getElem? (i := 6) rfl)) (fun _ h9 => h9) rfl dX4_append_56 ?_
          rw [hQ]
          exact z_retI mx mb mr mlk hK () (by rfl) rfl dX4_append_59
        · skip
          exact absurd c30 (by omega)
      · skip
        exact absurd c7 (by omega)
  subst hQ
  subst hw0
  exact hstart

theorem in_X4_clearText_X2 : ∀ w ∈ wsX20, w ∈ wsX4_clearText := by decide +kernel
theorem in_X4_clearText_X4 : ∀ w ∈ wsX40, w ∈ wsX4_clearText := by decide +kernel
set_option maxRecDepth 100000 in
set_option maxHeartbeats 4000000 in
theorem c_X4_clearText (l : Launch) (D : va_G) (sz : Nat) (y : Nat → ClassId) (o : Nat → Nat) (a : Nat → Nat → Nat) (S : Nat → Nat → Int → Int) (tb : Nat → Nat) (x : Int → Int) (ln sc : Int) (f : Int → Int)  : Met l yX4_clearText wsX4_clearText ({ frames := 1, cells := 0, slots := 0, locals := 20 } : Room) (zPw D vwCl (zT y) (wBq y o a S tb x ln sc (sav a) p6) sz [.ref (o 0)]) (va_Qi (fun (r : Int32) (_ : Unit) => r = iZ ln) (zB D vwCl (zT y) (wBq y o a S tb x ln sc (sav a) p6) sz (fun _ : Unit => wBq y o a S tb x 0 sc (sav a) p6)) (va_A (wBq y o a S tb x ln sc (sav a) p6) sz)) 0 0 (va_A (wBq y o a S tb x ln sc (sav a) p6) sz) := by
  refine z_headW (cc := cX4_clearText) (maxL := 2) (ret := (some .int)) [(0, .ref (o 0))] rfl (Nat.le_of_ble_eq_true rfl) (by decide +kernel) rfl ?_
  intro pp ee ss mm below meth cd mx mb mr mml mo mts mlk hK hname hsz hA
  generalize ([.ref (o 0)] : List Value).toArray = args at mts ⊢
  obtain ⟨wst, hw0⟩ : ∃ wst, wst = wBq y o a S tb x ln sc (sav a) p6 := ⟨_, rfl⟩
  have hA : ∀ q, ss.heap.size ≤ q → va_A wst sz q := by rw [hw0]; exact hA
  obtain ⟨Q, hQ⟩ : ∃ Q, Q = MQ below (va_Qi (fun (r : Int32) (_ : Unit) => r = iZ ln) (zB D vwCl (zT y) wst sz (fun _ : Unit => wBq y o a S tb x 0 sc (sav a) p6)) (va_A wst sz)) args ss 0 0 (va_A wst sz) := ⟨_, rfl⟩
  have hstart : Gz pp l ee ({ frames := 1, cells := 0, slots := 0, locals := 20 } : Room) ss mm args below meth cd 2 0 0 Q (Zw D vwCl (va_A wst sz) ss (wBq y o a S tb x ln sc (sav a) p6)) 0 [(0, .ref (o 0))] [] := by
    refine z_aload_n mx mb dX4_clearText_0 rfl 0 rfl ?_
    refine z_get (C := RX4) (T := TX4) (N := 5) mx mb mts (in_X4_clearText_X4) mo hK zgw 0 wB_0 rfl 3 (by decide) (mts _ (List.mem_of_getElem? (i := 1) rfl)) (fun _ h9 => h9) rfl dX4_clearText_1 ?_
    refine z_get (C := RX2) (T := TX2) (N := 2) mx mb mts (in_X4_clearText_X2) mo hK zgw 2 wB_2 rfl 1 (by decide) (mts _ (List.mem_of_getElem? (i := 2) rfl)) (fun _ h9 => h9) rfl dX4_clearText_4 ?_
    refine z_istore_n mx mb dX4_clearText_7 rfl (by decide) [(1, .int (iZ ln)), (0, .ref (o 0))] rfl ?_
    refine z_aload_n mx mb dX4_clearText_8 rfl 1 rfl ?_
    refine z_get (C := RX4) (T := TX4) (N := 5) mx mb mts (in_X4_clearText_X4) mo hK zgw 0 wB_0 rfl 3 (by decide) (mts _ (List.mem_of_getElem? (i := 1) rfl)) (fun _ h9 => h9) rfl dX4_clearText_9 ?_
    refine z_textV (As := []) (rest := []) ⟨mx, mb, mml, mo, mts⟩ hK hA (fun sz => c_X2_clear l D sz y tb x ln  ) (cwV 0 mts gX4_clearText_X2_clear rfl rfl rfl (by decide +kernel) ⟨Nat.le_of_ble_eq_true rfl, Nat.le_of_ble_eq_true rfl⟩) rfl rfl (Nat.le_of_ble_eq_true rfl) ⟨Nat.zero_le _, Nat.zero_le _⟩ dX4_clearText_12 ?_
    show Gz pp l ee ({ frames := 1, cells := 0, slots := 0, locals := 20 } : Room) ss mm args below meth cd 2 0 0 Q (Zw D vwCl (va_A wst sz) ss (wBq y o a S tb x 0 sc (sav a) p6)) 15 [(1, .int (iZ ln)), (0, .ref (o 0))] []
    refine z_iload_n mx mb dX4_clearText_15 rfl 0 rfl ?_
    rw [hQ]
    exact z_retI mx mb mr mlk hK () (by rfl) rfl dX4_clearText_16
  subst hQ
  subst hw0
  exact hstart
