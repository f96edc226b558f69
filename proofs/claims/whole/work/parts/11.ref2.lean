set_option maxRecDepth 100000 in
set_option maxHeartbeats 4000000 in
theorem c_X5_trainOf (l : Launch) (D : va_G) (y : Nat → ClassId) (a : Nat → Nat) (f sv ai tx : Int → Int) (sm ln th hh : Int) (t w : Int) (ht : 0 ≤ t ∧ t < 4) (hw : 0 ≤ w ∧ w ≤ 9) (hwm : 0 ≤ f (79 + 8 * t + 3) ∧ f (79 + 8 * t + 3) ≤ 1000) (hW : Wf f) : Met l yX5_trainOf wsX5_trainOf ({ frames := 2, cells := 0, slots := 0, locals := 44 } : Room) (zPp D vwCl (zT y) (wM y a f sv ai tx sm ln th hh) [.ref (a 0), .int (iZ t), .int (iZ w)]) (vp_Si (fun r => r = iZ (trainOf f t w))) 0 0 (fun _ => False) := by
  refine z_headP (cc := cX5_trainOf) (maxL := 3) (ret := (some .int)) [(0, .ref (a 0)), (1, .int (iZ t)), (2, .int (iZ w))] rfl (Nat.le_of_ble_eq_true rfl) (by decide +kernel) rfl ?_
  intro pp ee ss mm below meth cd mx mb mr mml mo mts mlk hK hP
  generalize ([.ref (a 0), .int (iZ t), .int (iZ w)] : List Value).toArray = args at mts ⊢
  obtain ⟨Q, hQ⟩ : ∃ Q, Q = MQ below (vp_Si (fun r => r = iZ (trainOf f t w))) args ss 0 0 (fun _ => False) := ⟨_, rfl⟩
  rw [← hQ]
  obtain ⟨w0, w1, w2, w3, w4, w5, w6⟩ := id hW
  have k0 := w6 t (by omega) (by omega)
  refine z_iload_n mx mb dX5_trainOf_0 rfl 2 rfl ?_
  rcases (show w = 0 ∨ w = 1 ∨ w = 2 ∨ w = 3 ∨ w = 4 ∨ w = 5 ∨ w = 6 ∨ w = 7 ∨ (w < 0 ∨ 7 < w) from by omega) with t1 | t1 | t1 | t1 | t1 | t1 | t1 | t1 | t1
  · skip
    refine z_tin 0 (tgt := 48) mx mb t1 (by decide) dX5_trainOf_1 (by decide) (by decide) rfl (by decide) ?_
    refine z_aload_n mx mb dX5_trainOf_48 rfl 0 rfl ?_
    refine z_iload_n mx mb dX5_trainOf_49 rfl 1 rfl ?_
    refine z_iconst mx mb dX5_trainOf_50 ?_
    refine z_callP (As := [.int (iZ t), .int (iZ 0)]) (rest := []) ⟨mx, mb, mml, mo, mts⟩ hK (zgp hP) (c_X5_of l D y a f sv ai tx sm ln th hh t 0 (by omega)) (cwV 2 mts gX5_trainOf_X5_of rfl rfl rfl (by decide +kernel) ⟨Nat.le_of_ble_eq_true rfl, Nat.le_of_ble_eq_true rfl⟩) (fun _ h => h) 0 wM_0 rfl rfl rfl rfl (Nat.le_of_ble_eq_true rfl) ⟨Nat.zero_le _, Nat.zero_le _⟩ dX5_trainOf_51 ?_
    rw [hQ]
    exact z_retP mx mb mr mlk (by unfold trainOf; first | (rw [if_pos (by omega)]; done) | (rw [if_neg (by omega), if_pos (by omega)]; done) | (rw [if_neg (by omega), if_neg (by omega), if_pos (by omega)]; first | (rw [if_pos (by omega)]; done) | (rw [if_neg (by omega)]; done)) | (rw [if_neg (by omega), if_neg (by omega), if_neg (by omega), if_pos (by omega)]; done) | (rw [if_neg (by omega), if_neg (by omega), if_neg (by omega), if_neg (by omega)]; first | (rw [if_pos (by omega)]; done) | (rw [if_neg (by omega)]; done))) dX5_trainOf_54
  · skip
    refine z_tin 1 (tgt := 55) mx mb t1 (by decide) dX5_trainOf_1 (by decide) (by decide) rfl (by decide) ?_
    refine z_aload_n mx mb dX5_trainOf_55 rfl 0 rfl ?_
    refine z_aload_n mx mb dX5_trainOf_56 rfl 0 rfl ?_
    refine z_iload_n mx mb dX5_trainOf_57 rfl 1 rfl ?_
    refine z_iconst mx mb dX5_trainOf_58 ?_
    refine z_callP (As := [.int (iZ t), .int (iZ 0)]) (rest := [.ref (a 0)]) ⟨mx, mb, mml, mo, mts⟩ hK (zgp hP) (c_X5_of l D y a f sv ai tx sm ln th hh t 0 (by omega)) (cwV 2 mts gX5_trainOf_X5_of rfl rfl rfl (by decide +kernel) ⟨Nat.le_of_ble_eq_true rfl, Nat.le_of_ble_eq_true rfl⟩) (fun _ h => h) 0 wM_0 rfl rfl rfl rfl (Nat.le_of_ble_eq_true rfl) ⟨Nat.zero_le _, Nat.zero_le _⟩ dX5_trainOf_59 ?_
    refine z_callP (As := [.int (iZ (f (79 + 8 * t + 0)))]) (rest := []) ⟨mx, mb, mml, mo, mts⟩ hK (zgp hP) (c_X5_blockAt l D y a f sv ai tx sm ln th hh (f (79 + 8 * t + 0)) (by omega) hW) (cwV 1 mts gX5_trainOf_X5_blockAt rfl rfl rfl (by decide +kernel) ⟨Nat.le_of_ble_eq_true rfl, Nat.le_of_ble_eq_true rfl⟩) (fun _ h => h) 0 wM_0 rfl rfl rfl rfl (Nat.le_of_ble_eq_true rfl) ⟨Nat.zero_le _, Nat.zero_le _⟩ dX5_trainOf_62 ?_
    rw [hQ]
    exact z_retP mx mb mr mlk (by unfold trainOf; first | (rw [if_pos (by omega)]; done) | (rw [if_neg (by omega), if_pos (by omega)]; done) | (rw [if_neg (by omega), if_neg (by omega), if_pos (by omega)]; first | (rw [if_pos (by omega)]; done) | (rw [if_neg (by omega)]; done)) | (rw [if_neg (by omega), if_neg (by omega), if_neg (by omega), if_pos (by omega)]; done) | (rw [if_neg (by omega), if_neg (by omega), if_neg (by omega), if_neg (by omega)]; first | (rw [if_pos (by omega)]; done) | (rw [if_neg (by omega)]; done))) dX5_trainOf_65
  · skip
    refine z_tin 2 (tgt := 93) mx mb t1 (by decide) dX5_trainOf_1 (by decide) (by decide) rfl (by decide) ?_
    refine z_aload_n mx mb dX5_trainOf_93 rfl 0 rfl ?_
    refine z_iload_n mx mb dX5_trainOf_94 rfl 1 rfl ?_
    refine z_iload_n mx mb dX5_trainOf_95 rfl 2 rfl ?_
    refine z_bipush mx mb dX5_trainOf_96 (by decide +kernel) ?_
    refine z_icmp_ge (tgt := 107) mx mb (by omega) (by omega) dX5_trainOf_98 (by decide) (fun c98 => ?_) (fun c98 => ?_)
    · skip
      refine z_iload_n mx mb dX5_trainOf_107 rfl 2 rfl ?_
      refine z_iconst mx mb dX5_trainOf_108 ?_
      refine z_isub mx mb dX5_trainOf_109 ?_
      refine z_callP (As := [.int (iZ t), .int (iZ (w - 2))]) (rest := []) ⟨mx, mb, mml, mo, mts⟩ hK (zgp hP) (c_X5_of l D y a f sv ai tx sm ln th hh t (w - 2) (by omega)) (cwV 2 mts gX5_trainOf_X5_of rfl rfl rfl (by decide +kernel) ⟨Nat.le_of_ble_eq_true rfl, Nat.le_of_ble_eq_true rfl⟩) (fun _ h => h) 0 wM_0 rfl rfl rfl rfl (Nat.le_of_ble_eq_true rfl) ⟨Nat.zero_le _, Nat.zero_le _⟩ dX5_trainOf_110 ?_
      rw [hQ]
      exact z_retP mx mb mr mlk (by unfold trainOf; first | (rw [if_pos (by omega)]; done) | (rw [if_neg (by omega), if_pos (by omega)]; done) | (rw [if_neg (by omega), if_neg (by omega), if_pos (by omega)]; first | (rw [if_pos (by omega)]; done) | (rw [if_neg (by omega)]; done)) | (rw [if_neg (by omega), if_neg (by omega), if_neg (by omega), if_pos (by omega)]; done) | (rw [if_neg (by omega), if_neg (by omega), if_neg (by omega), if_neg (by omega)]; first | (rw [if_pos (by omega)]; done) | (rw [if_neg (by omega)]; done))) dX5_trainOf_113
    · skip
      refine z_iload_n mx mb dX5_trainOf_101 rfl 2 rfl ?_
      refine z_iconst mx mb dX5_trainOf_102 ?_
      refine z_isub mx mb dX5_trainOf_103 ?_
      refine z_goto (tgt := 110) mx mb dX5_trainOf_104 (by decide) ?_
      refine z_callP (As := [.int (iZ t), .int (iZ (w - 1))]) (rest := []) ⟨mx, mb, mml, mo, mts⟩ hK (zgp hP) (c_X5_of l D y a f sv ai tx sm ln th hh t (w - 1) (by omega)) (cwV 2 mts gX5_trainOf_X5_of rfl rfl rfl (by decide +kernel) ⟨Nat.le_of_ble_eq_true rfl, Nat.le_of_ble_eq_true rfl⟩) (fun _ h => h) 0 wM_0 rfl rfl rfl rfl (Nat.le_of_ble_eq_true rfl) ⟨Nat.zero_le _, Nat.zero_le _⟩ dX5_trainOf_110 ?_
      rw [hQ]
      exact z_retP mx mb mr mlk (by unfold trainOf; first | (rw [if_pos (by omega)]; done) | (rw [if_neg (by omega), if_pos (by omega)]; done) | (rw [if_neg (by omega), if_neg (by omega), if_pos (by omega)]; first | (rw [if_pos (by omega)]; done) | (rw [if_neg (by omega)]; done)) | (rw [if_neg (by omega), if_neg (by omega), if_neg (by omega), if_pos (by omega)]; done) | (rw [if_neg (by omega), if_neg (by omega), if_neg (by omega), if_neg (by omega)]; first | (rw [if_pos (by omega)]; done) | (rw [if_neg (by omega)]; done))) dX5_trainOf_113
  · skip
    refine z_tin 3 (tgt := 93) mx mb t1 (by decide) dX5_trainOf_1 (by decide) (by decide) rfl (by decide) ?_
    refine z_aload_n mx mb dX5_trainOf_93 rfl 0 rfl ?_
    refine z_iload_n mx mb dX5_trainOf_94 rfl 1 rfl ?_
    refine z_iload_n mx mb dX5_trainOf_95 rfl 2 rfl ?_
    refine z_bipush mx mb dX5_trainOf_96 (by decide +kernel) ?_
    refine z_icmp_ge (tgt := 107) mx mb (by omega) (by omega) dX5_trainOf_98 (by decide) (fun c98 => ?_) (fun c98 => ?_)
    · skip
      refine z_iload_n mx mb dX5_trainOf_107 rfl 2 rfl ?_
      refine z_iconst mx mb dX5_trainOf_108 ?_
      refine z_isub mx mb dX5_trainOf_109 ?_
      refine z_callP (As := [.int (iZ t), .int (iZ (w - 2))]) (rest := []) ⟨mx, mb, mml, mo, mts⟩ hK (zgp hP) (c_X5_of l D y a f sv ai tx sm ln th hh t (w - 2) (by omega)) (cwV 2 mts gX5_trainOf_X5_of rfl rfl rfl (by decide +kernel) ⟨Nat.le_of_ble_eq_true rfl, Nat.le_of_ble_eq_true rfl⟩) (fun _ h => h) 0 wM_0 rfl rfl rfl rfl (Nat.le_of_ble_eq_true rfl) ⟨Nat.zero_le _, Nat.zero_le _⟩ dX5_trainOf_110 ?_
      rw [hQ]
      exact z_retP mx mb mr mlk (by unfold trainOf; first | (rw [if_pos (by omega)]; done) | (rw [if_neg (by omega), if_pos (by omega)]; done) | (rw [if_neg (by omega), if_neg (by omega), if_pos (by omega)]; first | (rw [if_pos (by omega)]; done) | (rw [if_neg (by omega)]; done)) | (rw [if_neg (by omega), if_neg (by omega), if_neg (by omega), if_pos (by omega)]; done) | (rw [if_neg (by omega), if_neg (by omega), if_neg (by omega), if_neg (by omega)]; first | (rw [if_pos (by omega)]; done) | (rw [if_neg (by omega)]; done))) dX5_trainOf_113
    · skip
      refine z_iload_n mx mb dX5_trainOf_101 rfl 2 rfl ?_
      refine z_iconst mx mb dX5_trainOf_102 ?_
      refine z_isub mx mb dX5_trainOf_103 ?_
      refine z_goto (tgt := 110) mx mb dX5_trainOf_104 (by decide) ?_
      refine z_callP (As := [.int (iZ t), .int (iZ (w - 1))]) (rest := []) ⟨mx, mb, mml, mo, mts⟩ hK (zgp hP) (c_X5_of l D y a f sv ai tx sm ln th hh t (w - 1) (by omega)) (cwV 2 mts gX5_trainOf_X5_of rfl rfl rfl (by decide +kernel) ⟨Nat.le_of_ble_eq_true rfl, Nat.le_of_ble_eq_true rfl⟩) (fun _ h => h) 0 wM_0 rfl rfl rfl rfl (Nat.le_of_ble_eq_true rfl) ⟨Nat.zero_le _, Nat.zero_le _⟩ dX5_trainOf_110 ?_
      rw [hQ]
      exact z_retP mx mb mr mlk (by unfold trainOf; first | (rw [if_pos (by omega)]; done) | (rw [if_neg (by omega), if_pos (by omega)]; done) | (rw [if_neg (by omega), if_neg (by omega), if_pos (by omega)]; first | (rw [if_pos (by omega)]; done) | (rw [if_neg (by omega)]; done)) | (rw [if_neg (by omega), if_neg (by omega), if_neg (by omega), if_pos (by omega)]; done) | (rw [if_neg (by omega), if_neg (by omega), if_neg (by omega), if_neg (by omega)]; first | (rw [if_pos (by omega)]; done) | (rw [if_neg (by omega)]; done))) dX5_trainOf_113
  · skip
    refine z_tin 4 (tgt := 93) mx mb t1 (by decide) dX5_trainOf_1 (by decide) (by decide) rfl (by decide) ?_
    refine z_aload_n mx mb dX5_trainOf_93 rfl 0 rfl ?_
    refine z_iload_n mx mb dX5_trainOf_94 rfl 1 rfl ?_
    refine z_iload_n mx mb dX5_trainOf_95 rfl 2 rfl ?_
    refine z_bipush mx mb dX5_trainOf_96 (by decide +kernel) ?_
    refine z_icmp_ge (tgt := 107) mx mb (by omega) (by omega) dX5_trainOf_98 (by decide) (fun c98 => ?_) (fun c98 => ?_)
    · skip
      refine z_iload_n mx mb dX5_trainOf_107 rfl 2 rfl ?_
      refine z_iconst mx mb dX5_trainOf_108 ?_
      refine z_isub mx mb dX5_trainOf_109 ?_
      refine z_callP (As := [.int (iZ t), .int (iZ (w - 2))]) (rest := []) ⟨mx, mb, mml, mo, mts⟩ hK (zgp hP) (c_X5_of l D y a f sv ai tx sm ln th hh t (w - 2) (by omega)) (cwV 2 mts gX5_trainOf_X5_of rfl rfl rfl (by decide +kernel) ⟨Nat.le_of_ble_eq_true rfl, Nat.le_of_ble_eq_true rfl⟩) (fun _ h => h) 0 wM_0 rfl rfl rfl rfl (Nat.le_of_ble_eq_true rfl) ⟨Nat.zero_le _, Nat.zero_le _⟩ dX5_trainOf_110 ?_
      rw [hQ]
      exact z_retP mx mb mr mlk (by unfold trainOf; first | (rw [if_pos (by omega)]; done) | (rw [if_neg (by omega), if_pos (by omega)]; done) | (rw [if_neg (by omega), if_neg (by omega), if_pos (by omega)]; first | (rw [if_pos (by omega)]; done) | (rw [if_neg (by omega)]; done)) | (rw [if_neg (by omega), if_neg (by omega), if_neg (by omega), if_pos (by omega)]; done) | (rw [if_neg (by omega), if_neg (by omega), if_neg (by omega), if_neg (by omega)]; first | (rw [if_pos (by omega)]; done) | (rw [if_neg (by omega)]; done))) dX5_trainOf_113
    · skip
      refine z_iload_n mx mb dX5_trainOf_101 rfl 2 rfl ?_
      refine z_iconst mx mb dX5_trainOf_102 ?_
      refine z_isub mx mb dX5_trainOf_103 ?_
      refine z_goto (tgt := 110) mx mb dX5_trainOf_104 (by decide) ?_
      refine z_callP (As := [.int (iZ t), .int (iZ (w - 1))]) (rest := []) ⟨mx, mb, mml, mo, mts⟩ hK (zgp hP) (c_X5_of l D y a f sv ai tx sm ln th hh t (w - 1) (by omega)) (cwV 2 mts gX5_trainOf_X5_of rfl rfl rfl (by decide +kernel) ⟨Nat.le_of_ble_eq_true rfl, Nat.le_of_ble_eq_true rfl⟩) (fun _ h => h) 0 wM_0 rfl rfl rfl rfl (Nat.le_of_ble_eq_true rfl) ⟨Nat.zero_le _, Nat.zero_le _⟩ dX5_trainOf_110 ?_
      rw [hQ]
      exact z_retP mx mb mr mlk (by unfold trainOf; first | (rw [if_pos (by omega)]; done) | (rw [if_neg (by omega), if_pos (by omega)]; done) | (rw [if_neg (by omega), if_neg (by omega), if_pos (by omega)]; first | (rw [if_pos (by omega)]; done) | (rw [if_neg (by omega)]; done)) | (rw [if_neg (by omega), if_neg (by omega), if_neg (by omega), if_pos (by omega)]; done) | (rw [if_neg (by omega), if_neg (by omega), if_neg (by omega), if_neg (by omega)]; first | (rw [if_pos (by omega)]; done) | (rw [if_neg (by omega)]; done))) dX5_trainOf_113
  · skip
    refine z_tin 5 (tgt := 93) mx mb t1 (by decide) dX5_trainOf_1 (by decide) (by decide) rfl (by decide) ?_
    refine z_aload_n mx mb dX5_trainOf_93 rfl 0 rfl ?_
    refine z_iload_n mx mb dX5_trainOf_94 rfl 1 rfl ?_
    refine z_iload_n mx mb dX5_trainOf_95 rfl 2 rfl ?_
    refine z_bipush mx mb dX5_trainOf_96 (by decide +kernel) ?_
    refine z_icmp_ge (tgt := 107) mx mb (by omega) (by omega) dX5_trainOf_98 (by decide) (fun c98 => ?_) (fun c98 => ?_)
    · skip
      refine z_iload_n mx mb dX5_trainOf_107 rfl 2 rfl ?_
      refine z_iconst mx mb dX5_trainOf_108 ?_
      refine z_isub mx mb dX5_trainOf_109 ?_
      refine z_callP (As := [.int (iZ t), .int (iZ (w - 2))]) (rest := []) ⟨mx, mb, mml, mo, mts⟩ hK (zgp hP) (c_X5_of l D y a f sv ai tx sm ln th hh t (w - 2) (by omega)) (cwV 2 mts gX5_trainOf_X5_of rfl rfl rfl (by decide +kernel) ⟨Nat.le_of_ble_eq_true rfl, Nat.le_of_ble_eq_true rfl⟩) (fun _ h => h) 0 wM_0 rfl rfl rfl rfl (Nat.le_of_ble_eq_true rfl) ⟨Nat.zero_le _, Nat.zero_le _⟩ dX5_trainOf_110 ?_
      rw [hQ]
      exact z_retP mx mb mr mlk (by unfold trainOf; first | (rw [if_pos (by omega)]; done) | (rw [if_neg (by omega), if_pos (by omega)]; done) | (rw [if_neg (by omega), if_neg (by omega), if_pos (by omega)]; first | (rw [if_pos (by omega)]; done) | (rw [if_neg (by omega)]; done)) | (rw [if_neg (by omega), if_neg (by omega), if_neg (by omega), if_pos (by omega)]; done) | (rw [if_neg (by omega), if_neg (by omega), if_neg (by omega), if_neg (by omega)]; first | (rw [if_pos (by omega)]; done) | (rw [if_neg (by omega)]; done))) dX5_trainOf_113
    · skip
      refine z_iload_n mx mb dX5_trainOf_101 rfl 2 rfl ?_
      refine z_iconst mx mb dX5_trainOf_102 ?_
      refine z_isub mx mb dX5_trainOf_103 ?_
      refine z_goto (tgt := 110) mx mb dX5_trainOf_104 (by decide) ?_
      refine z_callP (As := [.int (iZ t), .int (iZ (w - 1))]) (rest := []) ⟨mx, mb, mml, mo, mts⟩ hK (zgp hP) (c_X5_of l D y a f sv ai tx sm ln th hh t (w - 1) (by omega)) (cwV 2 mts gX5_trainOf_X5_of rfl rfl rfl (by decide +kernel) ⟨Nat.le_of_ble_eq_true rfl, Nat.le_of_ble_eq_true rfl⟩) (fun _ h => h) 0 wM_0 rfl rfl rfl rfl (Nat.le_of_ble_eq_true rfl) ⟨Nat.zero_le _, Nat.zero_le _⟩ dX5_trainOf_110 ?_
      rw [hQ]
      exact z_retP mx mb mr mlk (by unfold trainOf; first | (rw [if_pos (by omega)]; done) | (rw [if_neg (by omega), if_pos (by omega)]; done) | (rw [if_neg (by omega), if_neg (by omega), if_pos (by omega)]; first | (rw [if_pos (by omega)]; done) | (rw [if_neg (by omega)]; done)) | (rw [if_neg (by omega), if_neg (by omega), if_neg (by omega), if_pos (by omega)]; done) | (rw [if_neg (by omega), if_neg (by omega), if_neg (by omega), if_neg (by omega)]; first | (rw [if_pos (by omega)]; done) | (rw [if_neg (by omega)]; done))) dX5_trainOf_113
  · skip
    refine z_tin 6 (tgt := 66) mx mb t1 (by decide) dX5_trainOf_1 (by decide) (by decide) rfl (by decide) ?_
    refine z_aload_n mx mb dX5_trainOf_66 rfl 0 rfl ?_
    refine z_iload_n mx mb dX5_trainOf_67 rfl 1 rfl ?_
    refine z_iconst mx mb dX5_trainOf_68 ?_
    refine z_callP (As := [.int (iZ t), .int (iZ 4)]) (rest := []) ⟨mx, mb, mml, mo, mts⟩ hK (zgp hP) (c_X5_of l D y a f sv ai tx sm ln th hh t 4 (by omega)) (cwV 2 mts gX5_trainOf_X5_of rfl rfl rfl (by decide +kernel) ⟨Nat.le_of_ble_eq_true rfl, Nat.le_of_ble_eq_true rfl⟩) (fun _ h => h) 0 wM_0 rfl rfl rfl rfl (Nat.le_of_ble_eq_true rfl) ⟨Nat.zero_le _, Nat.zero_le _⟩ dX5_trainOf_69 ?_
    refine z_iconst mx mb dX5_trainOf_72 ?_
    refine z_icmp_ne (tgt := 85) mx mb (by omega) (by omega) dX5_trainOf_73 (by decide) (fun c73 => ?_) (fun c73 => ?_)
    · skip
      refine z_iconst mx mb dX5_trainOf_85 ?_
      rw [hQ]
      exact z_retP mx mb mr mlk (by unfold trainOf; first | (rw [if_pos (by omega)]; done) | (rw [if_neg (by omega), if_pos (by omega)]; done) | (rw [if_neg (by omega), if_neg (by omega), if_pos (by omega)]; first | (rw [if_pos (by omega)]; done) | (rw [if_neg (by omega)]; done)) | (rw [if_neg (by omega), if_neg (by omega), if_neg (by omega), if_pos (by omega)]; done) | (rw [if_neg (by omega), if_neg (by omega), if_neg (by omega), if_neg (by omega)]; first | (rw [if_pos (by omega)]; done) | (rw [if_neg (by omega)]; done))) dX5_trainOf_86
    · skip
      refine z_aload_n mx mb dX5_trainOf_76 rfl 0 rfl ?_
      refine z_iload_n mx mb dX5_trainOf_77 rfl 1 rfl ?_
      refine z_iconst mx mb dX5_trainOf_78 ?_
      refine z_callP (As := [.int (iZ t), .int (iZ 5)]) (rest := []) ⟨mx, mb, mml, mo, mts⟩ hK (zgp hP) (c_X5_of l D y a f sv ai tx sm ln th hh t 5 (by omega)) (cwV 2 mts gX5_trainOf_X5_of rfl rfl rfl (by decide +kernel) ⟨Nat.le_of_ble_eq_true rfl, Nat.le_of_ble_eq_true rfl⟩) (fun _ h => h) 0 wM_0 rfl rfl rfl rfl (Nat.le_of_ble_eq_true rfl) ⟨Nat.zero_le _, Nat.zero_le _⟩ dX5_trainOf_79 ?_
      refine z_goto (tgt := 86) mx mb dX5_trainOf_82 (by decide) ?_
      rw [hQ]
      exact z_retP mx mb mr mlk (by unfold trainOf; first | (rw [if_pos (by omega)]; done) | (rw [if_neg (by omega), if_pos (by omega)]; done) | (rw [if_neg (by omega), if_neg (by omega), if_pos (by omega)]; first | (rw [if_pos (by omega)]; done) | (rw [if_neg (by omega)]; done)) | (rw [if_neg (by omega), if_neg (by omega), if_neg (by omega), if_pos (by omega)]; done) | (rw [if_neg (by omega), if_neg (by omega), if_neg (by omega), if_neg (by omega)]; first | (rw [if_pos (by omega)]; done) | (rw [if_neg (by omega)]; done))) dX5_trainOf_86
  · skip
    refine z_tin 7 (tgt := 87) mx mb t1 (by decide) dX5_trainOf_1 (by decide) (by decide) rfl (by decide) ?_
    refine z_aload_n mx mb dX5_trainOf_87 rfl 0 rfl ?_
    refine z_iload_n mx mb dX5_trainOf_88 rfl 1 rfl ?_
    refine z_callP (As := [.int (iZ t)]) (rest := []) ⟨mx, mb, mml, mo, mts⟩ hK (zgp hP) (c_X5_drag l D y a f sv ai tx sm ln th hh t (by omega) (by omega)) (cwV 1 mts gX5_trainOf_X5_drag rfl rfl rfl (by decide +kernel) ⟨Nat.le_of_ble_eq_true rfl, Nat.le_of_ble_eq_true rfl⟩) (fun _ h => h) 0 wM_0 rfl rfl rfl rfl (Nat.le_of_ble_eq_true rfl) ⟨Nat.zero_le _, Nat.zero_le _⟩ dX5_trainOf_89 ?_
    rw [hQ]
    exact z_retP mx mb mr mlk (by unfold trainOf; first | (rw [if_pos (by omega)]; done) | (rw [if_neg (by omega), if_pos (by omega)]; done) | (rw [if_neg (by omega), if_neg (by omega), if_pos (by omega)]; first | (rw [if_pos (by omega)]; done) | (rw [if_neg (by omega)]; done)) | (rw [if_neg (by omega), if_neg (by omega), if_neg (by omega), if_pos (by omega)]; done) | (rw [if_neg (by omega), if_neg (by omega), if_neg (by omega), if_neg (by omega)]; first | (rw [if_pos (by omega)]; done) | (rw [if_neg (by omega)]; done))) dX5_trainOf_92
  · skip
    refine z_tout (tgt := 93) mx mb (by omega) t1 dX5_trainOf_1 (by decide) ?_
    refine z_aload_n mx mb dX5_trainOf_93 rfl 0 rfl ?_
    refine z_iload_n mx mb dX5_trainOf_94 rfl 1 rfl ?_
    refine z_iload_n mx mb dX5_trainOf_95 rfl 2 rfl ?_
    refine z_bipush mx mb dX5_trainOf_96 (by decide +kernel) ?_
    refine z_icmp_ge (tgt := 107) mx mb (by omega) (by omega) dX5_trainOf_98 (by decide) (fun c98 => ?_) (fun c98 => ?_)
    · skip
      refine z_iload_n mx mb dX5_trainOf_107 rfl 2 rfl ?_
      refine z_iconst mx mb dX5_trainOf_108 ?_
      refine z_isub mx mb dX5_trainOf_109 ?_
      refine z_callP (As := [.int (iZ t), .int (iZ (w - 2))]) (rest := []) ⟨mx, mb, mml, mo, mts⟩ hK (zgp hP) (c_X5_of l D y a f sv ai tx sm ln th hh t (w - 2) (by omega)) (cwV 2 mts gX5_trainOf_X5_of rfl rfl rfl (by decide +kernel) ⟨Nat.le_of_ble_eq_true rfl, Nat.le_of_ble_eq_true rfl⟩) (fun _ h => h) 0 wM_0 rfl rfl rfl rfl (Nat.le_of_ble_eq_true rfl) ⟨Nat.zero_le _, Nat.zero_le _⟩ dX5_trainOf_110 ?_
      rw [hQ]
      exact z_retP mx mb mr mlk (by unfold trainOf; first | (rw [if_pos (by omega)]; done) | (rw [if_neg (by omega), if_pos (by omega)]; done) | (rw [if_neg (by omega), if_neg (by omega), if_pos (by omega)]; first | (rw [if_pos (by omega)]; done) | (rw [if_neg (by omega)]; done)) | (rw [if_neg (by omega), if_neg (by omega), if_neg (by omega), if_pos (by omega)]; done) | (rw [if_neg (by omega), if_neg (by omega), if_neg (by omega), if_neg (by omega)]; first | (rw [if_pos (by omega)]; done) | (rw [if_neg (by omega)]; done))) dX5_trainOf_113
    · skip
      refine z_iload_n mx mb dX5_trainOf_101 rfl 2 rfl ?_
      refine z_iconst mx mb dX5_trainOf_102 ?_
      refine z_isub mx mb dX5_trainOf_103 ?_
      refine z_goto (tgt := 110) mx mb dX5_trainOf_104 (by decide) ?_
      refine z_callP (As := [.int (iZ t), .int (iZ (w - 1))]) (rest := []) ⟨mx, mb, mml, mo, mts⟩ hK (zgp hP) (c_X5_of l D y a f sv ai tx sm ln th hh t (w - 1) (by omega)) (cwV 2 mts gX5_trainOf_X5_of rfl rfl rfl (by decide +kernel) ⟨Nat.le_of_ble_eq_true rfl, Nat.le_of_ble_eq_true rfl⟩) (fun _ h => h) 0 wM_0 rfl rfl rfl rfl (Nat.le_of_ble_eq_true rfl) ⟨Nat.zero_le _, Nat.zero_le _⟩ dX5_trainOf_110 ?_
      rw [hQ]
      exact z_retP mx mb mr mlk (by unfold trainOf; first | (rw [if_pos (by omega)]; done) | (rw [if_neg (by omega), if_pos (by omega)]; done) | (rw [if_neg (by omega), if_neg (by omega), if_pos (by omega)]; first | (rw [if_pos (by omega)]; done) | (rw [if_neg (by omega)]; done)) | (rw [if_neg (by omega), if_neg (by omega), if_neg (by omega), if_pos (by omega)]; done) | (rw [if_neg (by omega), if_neg (by omega), if_neg (by omega), if_neg (by omega)]; first | (rw [if_pos (by omega)]; done) | (rw [if_neg (by omega)]; done))) dX5_trainOf_113

theorem in_X5_blockOf_X5 : ∀ w ∈ wsX50, w ∈ wsX5_blockOf := by decide +kernel
set_option maxRecDepth 100000 in
set_option maxHeartbeats 4000000 in
theorem c_X5_blockOf (l : Launch) (D : va_G) (y : Nat → ClassId) (a : Nat → Nat) (f sv ai tx : Int → Int) (sm ln th hh : Int) (b w : Int) (hb : 0 ≤ b ∧ b < f 1) (hw : 0 ≤ w ∧ w ≤ 4) (hW : Wf f) : Met l yX5_blockOf wsX5_blockOf ({ frames := 2, cells := 0, slots := 0, locals := 46 } : Room) (zPp D vwCl (zT y) (wM y a f sv ai tx sm ln th hh) [.ref (a 0), .int (iZ b), .int (iZ w)]) (vp_Si (fun r => r = iZ (blockOf f b w))) 0 0 (fun _ => False) := by
  refine z_headP (cc := cX5_blockOf) (maxL := 3) (ret := (some .int)) [(0, .ref (a 0)), (1, .int (iZ b)), (2, .int (iZ w))] rfl (Nat.le_of_ble_eq_true rfl) (by decide +kernel) rfl ?_
  intro pp ee ss mm below meth cd mx mb mr mml mo mts mlk hK hP
  generalize ([.ref (a 0), .int (iZ b), .int (iZ w)] : List Value).toArray = args at mts ⊢
  obtain ⟨Q, hQ⟩ : ∃ Q, Q = MQ below (vp_Si (fun r => r = iZ (blockOf f b w))) args ss 0 0 (fun _ => False) := ⟨_, rfl⟩
  rw [← hQ]
  obtain ⟨w0, w1, w2, w3, w4, w5, w6⟩ := id hW
  have a1 := ahead_rng hW hb
  obtain ⟨b0, b1, b2, b3⟩ := brakeOf_spec hW a1
  refine z_iload_n mx mb dX5_blockOf_0 rfl 2 rfl ?_
  rcases (show w = 0 ∨ w = 1 ∨ w = 2 ∨ w = 3 ∨ (w < 0 ∨ 3 < w) from by omega) with t1 | t1 | t1 | t1 | t1
  · skip
    refine z_tin 0 (tgt := 32) mx mb t1 (by decide) dX5_blockOf_1 (by decide) (by decide) rfl (by decide) ?_
    refine z_aload_n mx mb dX5_blockOf_32 rfl 0 rfl ?_
    refine z_aload_n mx mb dX5_blockOf_33 rfl 0 rfl ?_
    refine z_aload_n mx mb dX5_blockOf_34 rfl 0 rfl ?_
    refine z_iload_n mx mb dX5_blockOf_35 rfl 1 rfl ?_
    refine z_callP (As := [.int (iZ b)]) (rest := [.ref (a 0), .ref (a 0)]) ⟨mx, mb, mml, mo, mts⟩ hK (zgp hP) (c_X5_blockAhead l D y a f sv ai tx sm ln th hh b (by omega)) (cwV 1 mts gX5_blockOf_X5_blockAhead rfl rfl rfl (by decide +kernel) ⟨Nat.le_of_ble_eq_true rfl, Nat.le_of_ble_eq_true rfl⟩) (fun _ h => h) 0 wM_0 rfl rfl rfl rfl (Nat.le_of_ble_eq_true rfl) ⟨Nat.zero_le _, Nat.zero_le _⟩ dX5_blockOf_36 ?_
    refine z_callP (As := [.int (iZ (ahead f b))]) (rest := [.ref (a 0)]) ⟨mx, mb, mml, mo, mts⟩ hK (zgp hP) (c_X5_brakeOf l D y a f sv ai tx sm ln th hh (ahead f b) (by omega) hW) (cwV 1 mts gX5_blockOf_X5_brakeOf rfl rfl rfl (by decide +kernel) ⟨Nat.le_of_ble_eq_true rfl, Nat.le_of_ble_eq_true rfl⟩) (fun _ h => h) 0 wM_0 rfl rfl rfl rfl (Nat.le_of_ble_eq_true rfl) ⟨Nat.zero_le _, Nat.zero_le _⟩ dX5_blockOf_39 ?_
    refine z_callP (As := [.int (iZ (brakeOf f (ahead f b)))]) (rest := []) ⟨mx, mb, mml, mo, mts⟩ hK (zgp hP) (c_X5_after l D y a f sv ai tx sm ln th hh (brakeOf f (ahead f b)) (by omega) (by omega)) (cwV 1 mts gX5_blockOf_X5_after rfl rfl rfl (by decide +kernel) ⟨Nat.le_of_ble_eq_true rfl, Nat.le_of_ble_eq_true rfl⟩) (fun _ h => h) 0 wM_0 rfl rfl rfl rfl (Nat.le_of_ble_eq_true rfl) ⟨Nat.zero_le _, Nat.zero_le _⟩ dX5_blockOf_42 ?_
    rw [hQ]
    exact z_retP mx mb mr mlk (by unfold blockOf; first | (rw [if_pos (by omega)]; done) | (rw [if_neg (by omega), if_pos (by omega)]; done) | (rw [if_neg (by omega), if_neg (by omega), if_pos (by omega)]; done) | (rw [if_neg (by omega), if_neg (by omega), if_neg (by omega), if_pos (by omega)]; done) | (rw [if_neg (by omega), if_neg (by omega), if_neg (by omega), if_neg (by omega)]; done)) dX5_blockOf_45
  · skip
    refine z_tin 1 (tgt := 46) mx mb t1 (by decide) dX5_blockOf_1 (by decide) (by decide) rfl (by decide) ?_
    refine z_aload_n mx mb dX5_blockOf_46 rfl 0 rfl ?_
    refine z_iload_n mx mb dX5_blockOf_47 rfl 1 rfl ?_
    refine z_callP (As := [.int (iZ b)]) (rest := []) ⟨mx, mb, mml, mo, mts⟩ hK (zgp hP) (c_X5_brakeOf l D y a f sv ai tx sm ln th hh b (by omega) hW) (cwV 1 mts gX5_blockOf_X5_brakeOf rfl rfl rfl (by decide +kernel) ⟨Nat.le_of_ble_eq_true rfl, Nat.le_of_ble_eq_true rfl⟩) (fun _ h => h) 0 wM_0 rfl rfl rfl rfl (Nat.le_of_ble_eq_true rfl) ⟨Nat.zero_le _, Nat.zero_le _⟩ dX5_blockOf_48 ?_
    rw [hQ]
    exact z_retP mx mb mr mlk (by unfold blockOf; first | (rw [if_pos (by omega)]; done) | (rw [if_neg (by omega), if_pos (by omega)]; done) | (rw [if_neg (by omega), if_neg (by omega), if_pos (by omega)]; done) | (rw [if_neg (by omega), if_neg (by omega), if_neg (by omega), if_pos (by omega)]; done) | (rw [if_neg (by omega), if_neg (by omega), if_neg (by omega), if_neg (by omega)]; done)) dX5_blockOf_51
  · skip
    refine z_tin 2 (tgt := 52) mx mb t1 (by decide) dX5_blockOf_1 (by decide) (by decide) rfl (by decide) ?_
    refine z_aload_n mx mb dX5_blockOf_52 rfl 0 rfl ?_
    refine z_iload_n mx mb dX5_blockOf_53 rfl 1 rfl ?_
    refine z_callP (As := [.int (iZ b)]) (rest := []) ⟨mx, mb, mml, mo, mts⟩ hK (zgp hP) (c_X5_cellsOf l D y a f sv ai tx sm ln th hh b (by omega) hW) (cwV 1 mts gX5_blockOf_X5_cellsOf rfl rfl rfl (by decide +kernel) ⟨Nat.le_of_ble_eq_true rfl, Nat.le_of_ble_eq_true rfl⟩) (fun _ h => h) 0 wM_0 rfl rfl rfl rfl (Nat.le_of_ble_eq_true rfl) ⟨Nat.zero_le _, Nat.zero_le _⟩ dX5_blockOf_54 ?_
    rw [hQ]
    exact z_retP mx mb mr mlk (by unfold blockOf; first | (rw [if_pos (by omega)]; done) | (rw [if_neg (by omega), if_pos (by omega)]; done) | (rw [if_neg (by omega), if_neg (by omega), if_pos (by omega)]; done) | (rw [if_neg (by omega), if_neg (by omega), if_neg (by omega), if_pos (by omega)]; done) | (rw [if_neg (by omega), if_neg (by omega), if_neg (by omega), if_neg (by omega)]; done)) dX5_blockOf_57
  · skip
    refine z_tin 3 (tgt := 58) mx mb t1 (by decide) dX5_blockOf_1 (by decide) (by decide) rfl (by decide) ?_
    refine z_aload_n mx mb dX5_blockOf_58 rfl 0 rfl ?_
    refine z_iload_n mx mb dX5_blockOf_59 rfl 1 rfl ?_
    refine z_callP (As := [.int (iZ b)]) (rest := []) ⟨mx, mb, mml, mo, mts⟩ hK (zgp hP) (c_X5_trainIn l D y a f sv ai tx sm ln th hh b (by omega) hW) (cwV 1 mts gX5_blockOf_X5_trainIn rfl rfl rfl (by decide +kernel) ⟨Nat.le_of_ble_eq_true rfl, Nat.le_of_ble_eq_true rfl⟩) (fun _ h => h) 0 wM_0 rfl rfl rfl rfl (Nat.le_of_ble_eq_true rfl) ⟨Nat.zero_le _, Nat.zero_le _⟩ dX5_blockOf_60 ?_
    rw [hQ]
    exact z_retP mx mb mr mlk (by unfold blockOf; first | (rw [if_pos (by omega)]; done) | (rw [if_neg (by omega), if_pos (by omega)]; done) | (rw [if_neg (by omega), if_neg (by omega), if_pos (by omega)]; done) | (rw [if_neg (by omega), if_neg (by omega), if_neg (by omega), if_pos (by omega)]; done) | (rw [if_neg (by omega), if_neg (by omega), if_neg (by omega), if_neg (by omega)]; done)) dX5_blockOf_63
  · skip
    refine z_tout (tgt := 64) mx mb (by omega) t1 dX5_blockOf_1 (by decide) ?_
    refine z_aload_n mx mb dX5_blockOf_64 rfl 0 rfl ?_
    refine z_get (C := RX5) (T := TX5) (N := 8) mx mb mts (in_X5_blockOf_X5) mo hK (zgp hP) 0 wM_0 rfl 0 (by decide) (mts _ (List.mem_of_getElem? (i := 1) rfl)) (fun _ h9 => h9) rfl dX5_blockOf_65 ?_
    refine z_bipush mx mb dX5_blockOf_68 (by decide +kernel) ?_
    refine z_iload_n mx mb dX5_blockOf_70 rfl 1 rfl ?_
    refine z_iadd mx mb dX5_blockOf_71 ?_
    refine z_iald mx mb hK (zgp hP) 1 0 wM_1 rfl (by decide) (by omega) dX5_blockOf_72 ?_
    rw [hQ]
    exact z_retP mx mb mr mlk (by unfold blockOf; first | (rw [if_pos (by omega)]; done) | (rw [if_neg (by omega), if_pos (by omega)]; done) | (rw [if_neg (by omega), if_neg (by omega), if_pos (by omega)]; done) | (rw [if_neg (by omega), if_neg (by omega), if_neg (by omega), if_pos (by omega)]; done) | (rw [if_neg (by omega), if_neg (by omega), if_neg (by omega), if_neg (by omega)]; done)) dX5_blockOf_73

theorem in_X5_comesBy_X5 : ∀ w ∈ wsX50, w ∈ wsX5_comesBy := by decide +kernel
set_option maxRecDepth 100000 in
set_option maxHeartbeats 4000000 in
theorem c_X5_comesBy (l : Launch) (D : va_G) (y : Nat → ClassId) (a : Nat → Nat) (f sv ai tx : Int → Int) (sm ln th hh : Int) (c v : Int) (hc : 0 ≤ c ∧ c < f 0) (hv : 0 ≤ v ∧ v ≤ 10000) (hf : 0 ≤ f 4 ∧ f 4 ≤ 20) (hW : Wf f) : Met l yX5_comesBy wsX5_comesBy ({ frames := 1, cells := 0, slots := 0, locals := 25 } : Room) (zPp D vwCl (zT y) (wM y a f sv ai tx sm ln th hh) [.ref (a 0), .int (iZ c), .int (iZ v)]) (vp_Si (fun r => r = iZ (b2z (cb f (f 4) 30 c v = true)))) 0 0 (fun _ => False) := by
  refine z_headP (cc := cX5_comesBy) (maxL := 6) (ret := (some .boolean)) [(0, .ref (a 0)), (1, .int (iZ c)), (2, .int (iZ v))] rfl (Nat.le_of_ble_eq_true rfl) (by decide +kernel) rfl ?_
  intro pp ee ss mm below meth cd mx mb mr mml mo mts mlk hK hP
  generalize ([.ref (a 0), .int (iZ c), .int (iZ v)] : List Value).toArray = args at mts ⊢
  obtain ⟨Q, hQ⟩ : ∃ Q, Q = MQ below (vp_Si (fun r => r = iZ (b2z (cb f (f 4) 30 c v = true)))) args ss 0 0 (fun _ => False) := ⟨_, rfl⟩
  rw [← hQ]
  obtain ⟨w0, w1, w2, w3, w4, w5, w6⟩ := id hW
  have d0 := dist_rng hW hc
  refine z_iload_n mx mb dX5_comesBy_0 rfl 1 rfl ?_
  refine z_istore_n mx mb dX5_comesBy_1 rfl (by decide) [(3, .int (iZ c)), (0, .ref (a 0)), (1, .int (iZ c)), (2, .int (iZ v))] rfl ?_
  refine z_iload_n mx mb dX5_comesBy_2 rfl 3 rfl ?_
  refine z_istore mx mb dX5_comesBy_3 (by decide) [(4, .int (iZ v)), (3, .int (iZ c)), (0, .ref (a 0)), (1, .int (iZ c)), (2, .int (iZ v))] rfl ?_
  have lp5 : ∀ (nn : Nat) (k : Nat) (x3 x4 : Int), k < nn → (0 ≤ x3 ∧ x3 < f 0) → (0 ≤ x4 ∧ x4 ≤ 10000) → (dist f x3 ≤ k) → (cb f (f 4) k x3 x4 = cb f (f 4) 30 c v) → Gz pp l ee ({ frames := 1, cells := 0, slots := 0, locals := 25 } : Room) ss mm args below meth cd 6 0 0 Q (Zp ss) 5 [(0, .ref (a 0)), (1, .int (iZ c)), (2, .int (iZ v)), (3, .int (iZ x3)), (4, .int (iZ x4))] [] := by
    intro nn
    induction nn with
    | zero => exact fun k x3 x4 hm => absurd hm (Nat.not_lt_zero _)
    | succ nn ih =>
      intro k x3 x4 hm h3 h4 hd he
      have k1 := w4 x3 (by omega) (by omega)
      refine z_aload_n mx mb dX5_comesBy_5 rfl 0 rfl ?_
      refine z_get (C := RX5) (T := TX5) (N := 8) mx mb mts (in_X5_comesBy_X5) mo hK (zgp hP) 0 wM_0 rfl 0 (by decide) (mts _ (List.mem_of_getElem? (i := 1) rfl)) (fun _ h9 => h9) rfl dX5_comesBy_6 ?_
      refine z_bipush mx mb dX5_comesBy_9 (by decide +kernel) ?_
      refine z_iload_n mx mb dX5_comesBy_11 rfl 3 rfl ?_
      refine z_iadd mx mb dX5_comesBy_12 ?_
      refine z_iald mx mb hK (zgp hP) 1 0 wM_1 rfl (by decide) (by omega) dX5_comesBy_13 ?_
      refine z_iconst mx mb dX5_comesBy_14 ?_
      refine z_icmp_eq (tgt := 73) mx mb (by omega) (by omega) dX5_comesBy_15 (by decide) (fun c15 => ?_) (fun c15 => ?_)
      · skip
        refine z_iconst mx mb dX5_comesBy_73 ?_
        rw [hQ]
        exact z_retB mx mb mr mlk (by rw [← he]; cases k with
    | zero => rfl
    | succ k => rw [cb, if_pos c15]; rfl) dX5_comesBy_74
      · skip
        obtain ⟨k, rfl⟩ : ∃ j, k = j + 1 := ⟨k - 1, by have := dist_0 hW h3 c15; omega⟩
        have k2 := after_rng hW h3
        have k3 := dist_step hW h3 c15
        have k4 := squareOn_up (sq := x4) (d := f 4) hW (show 0 ≤ x3 ∧ x3 < 30 by omega) (show 0 ≤ after f x3 ∧ after f x3 < 30 by omega)
        have k5 := k4.2 h4.1 (by omega)
        have k6 := w4 (after f x3) (by omega) (by omega)
        refine z_aload_n mx mb dX5_comesBy_18 rfl 0 rfl ?_
        refine z_iload_n mx mb dX5_comesBy_19 rfl 3 rfl ?_
        refine z_callP (As := [.int (iZ x3)]) (rest := []) ⟨mx, mb, mml, mo, mts⟩ hK (zgp hP) (c_X5_after l D y a f sv ai tx sm ln th hh x3 (by omega) (by omega)) (cwV 1 mts gX5_comesBy_X5_after rfl rfl rfl (by decide +kernel) ⟨Nat.le_of_ble_eq_true rfl, Nat.le_of_ble_eq_true rfl⟩) (fun _ h => h) 0 wM_0 rfl rfl rfl rfl (Nat.le_of_ble_eq_true rfl) ⟨Nat.zero_le _, Nat.zero_le _⟩ dX5_comesBy_20 ?_
        refine z_istore mx mb dX5_comesBy_23 (by decide) [(5, .int (iZ (after f x3))), (0, .ref (a 0)), (1, .int (iZ c)), (2, .int (iZ v)), (3, .int (iZ x3)), (4, .int (iZ x4))] rfl ?_
        refine z_aload_n mx mb dX5_comesBy_25 rfl 1 rfl ?_
        refine z_iload_n mx mb dX5_comesBy_26 rfl 4 rfl ?_
        refine z_iload mx mb dX5_comesBy_27 0 rfl ?_
        refine z_iload mx mb dX5_comesBy_29 5 rfl ?_
        refine z_aload_n mx mb dX5_comesBy_31 rfl 1 rfl ?_
        refine z_get (C := RX5) (T := TX5) (N := 8) mx mb mts (in_X5_comesBy_X5) mo hK (zgp hP) 0 wM_0 rfl 0 (by decide) (mts _ (List.mem_of_getElem? (i := 1) rfl)) (fun _ h9 => h9) rfl dX5_comesBy_32 ?_
        refine z_iconst mx mb dX5_comesBy_35 ?_
        refine z_iald mx mb hK (zgp hP) 1 0 wM_1 rfl (by decide) (by omega) dX5_comesBy_36 ?_
        refine z_callP (As := [.int (iZ x3), .int (iZ (after f x3)), .int (iZ x4), .int (iZ (f 4))]) (rest := []) ⟨mx, mb, mml, mo, mts⟩ hK (zgp hP) (c_X5_squareOn l D y a f sv ai tx sm ln th hh x3 (after f x3) x4 (f 4) (by omega) (by omega) (by omega) (by omega) hW) (cwV 4 mts gX5_comesBy_X5_squareOn rfl rfl rfl (by decide +kernel) ⟨Nat.le_of_ble_eq_true rfl, Nat.le_of_ble_eq_true rfl⟩) (fun _ h => h) 0 wM_0 rfl rfl rfl rfl (Nat.le_of_ble_eq_true rfl) ⟨Nat.zero_le _, Nat.zero_le _⟩ dX5_comesBy_37 ?_
        refine z_istore mx mb dX5_comesBy_40 (by decide) [(4, .int (iZ (squareOn f x3 (after f x3) x4 (f 4)))), (5, .int (iZ (after f x3))), (0, .ref (a 0)), (1, .int (iZ c)), (2, .int (iZ v)), (3, .int (iZ x3))] rfl ?_
        refine z_iload mx mb dX5_comesBy_42 0 rfl ?_
        refine z_if_lt (tgt := 65) mx mb (by omega) dX5_comesBy_44 (by decide) (fun c44 => ?_) (fun c44 => ?_)
        · skip
          refine z_iconst mx mb dX5_comesBy_65 ?_
          rw [hQ]
          exact z_retB mx mb mr mlk (by rw [← he, cb, if_neg c15, if_pos (Or.inl c44)]; rfl) dX5_comesBy_66
        · skip
          refine z_iload mx mb dX5_comesBy_47 0 rfl ?_
          refine z_if_ne (tgt := 67) mx mb (by omega) dX5_comesBy_49 (by decide) (fun c49 => ?_) (fun c49 => ?_)
          · skip
            refine z_iload mx mb dX5_comesBy_67 1 rfl ?_
            refine z_istore_n mx mb dX5_comesBy_69 rfl (by decide) [(3, .int (iZ (after f x3))), (4, .int (iZ (squareOn f x3 (after f x3) x4 (f 4)))), (5, .int (iZ (after f x3))), (0, .ref (a 0)), (1, .int (iZ c)), (2, .int (iZ v))] rfl ?_
            refine z_goto (tgt := 5) mx mb dX5_comesBy_70 (by decide) ?_
            refine z_lv [3, 4, 5, 0, 1] rfl ?_
            exact ih k _ _ (by omega) (by exact k2) (by omega) (by rw [k3]; omega) (by rw [← he, cb, if_neg c15, if_neg (fun q => q.elim (fun z => absurd z (by omega)) (fun z => absurd z.1 (by omega)))])
          · skip
            refine z_aload_n mx mb dX5_comesBy_52 rfl 2 rfl ?_
            refine z_get (C := RX5) (T := TX5) (N := 8) mx mb mts (in_X5_comesBy_X5) mo hK (zgp hP) 0 wM_0 rfl 0 (by decide) (mts _ (List.mem_of_getElem? (i := 1) rfl)) (fun _ h9 => h9) rfl dX5_comesBy_53 ?_
            refine z_bipush mx mb dX5_comesBy_56 (by decide +kernel) ?_
            refine z_iload mx mb dX5_comesBy_58 1 rfl ?_
            refine z_iadd mx mb dX5_comesBy_60 ?_
            refine z_iald mx mb hK (zgp hP) 1 0 wM_1 rfl (by decide) (by omega) dX5_comesBy_61 ?_
            refine z_if_ne (tgt := 67) mx mb (by omega) dX5_comesBy_62 (by decide) (fun c62 => ?_) (fun c62 => ?_)
            · skip
              refine z_iload mx mb dX5_comesBy_67 1 rfl ?_
              refine z_istore_n mx mb dX5_comesBy_69 rfl (by decide) [(3, .int (iZ (after f x3))), (4, .int (iZ (squareOn f x3 (after f x3) x4 (f 4)))), (5, .int (iZ (after f x3))), (0, .ref (a 0)), (1, .int (iZ c)), (2, .int (iZ v))] rfl ?_
              refine z_goto (tgt := 5) mx mb dX5_comesBy_70 (by decide) ?_
              refine z_lv [3, 4, 5, 0, 1] rfl ?_
              exact ih k _ _ (by omega) (by exact k2) (by omega) (by rw [k3]; omega) (by rw [← he, cb, if_neg c15, if_neg (fun q => q.elim (fun z => absurd z (by omega)) (fun z => c62 z.2))])
            · skip
              refine z_iconst mx mb dX5_comesBy_65 ?_
              rw [hQ]
              exact z_retB mx mb mr mlk (by rw [← he, cb, if_neg c15, if_pos (Or.inr ⟨c49, c62⟩)]; rfl) dX5_comesBy_66
  refine z_lv [2, 3, 4, 1, 0] rfl ?_
  exact lp5 _ 30 c v (Nat.lt_succ_self _) (by exact hc) (by exact hv) (by omega) (by rfl)

set_option maxRecDepth 100000 in
set_option maxHeartbeats 4000000 in
theorem c_X5_kindBy (l : Launch) (D : va_G) (y : Nat → ClassId) (c : Int) (hc : -2147483648 ≤ c ∧ c ≤ 2147483647) : Met l yX5_kindBy wsX5_kindBy ({ frames := 0, cells := 0, slots := 0, locals := 0 } : Room) (zPp D vwCl (zT y) ([]) [.int (iZ c)]) (vp_Si (fun r => r = iZ (kindBy c))) 0 0 (fun _ => False) := by
  refine z_headP (cc := cX5_kindBy) (maxL := 1) (ret := (some .int)) [(0, .int (iZ c))] rfl (Nat.le_of_ble_eq_true rfl) (by decide +kernel) rfl ?_
  intro pp ee ss mm below meth cd mx mb mr mml mo mts mlk hK hP
  generalize ([.int (iZ c)] : List Value).toArray = args at mts ⊢
  obtain ⟨Q, hQ⟩ : ∃ Q, Q = MQ below (vp_Si (fun r => r = iZ (kindBy c))) args ss 0 0 (fun _ => False) := ⟨_, rfl⟩
  rw [← hQ]
  refine z_iload_n mx mb dX5_kindBy_0 rfl 0 rfl ?_
  refine z_bipush mx mb dX5_kindBy_1 (by decide +kernel) ?_
  refine z_icmp_ne (tgt := 10) mx mb (by omega) (by omega) dX5_kindBy_3 (by decide) (fun c3 => ?_) (fun c3 => ?_)
  · skip
    refine z_iload_n mx mb dX5_kindBy_10 rfl 0 rfl ?_
    refine z_bipush mx mb dX5_kindBy_11 (by decide +kernel) ?_
    refine z_icmp_ne (tgt := 20) mx mb (by omega) (by omega) dX5_kindBy_13 (by decide) (fun c13 => ?_) (fun c13 => ?_)
    · skip
      refine z_iload_n mx mb dX5_kindBy_20 rfl 0 rfl ?_
      refine z_bipush mx mb dX5_kindBy_21 (by decide +kernel) ?_
      refine z_icmp_ne (tgt := 30) mx mb (by omega) (by omega) dX5_kindBy_23 (by decide) (fun c23 => ?_) (fun c23 => ?_)
      · skip
        refine z_iconst mx mb dX5_kindBy_30 ?_
        rw [hQ]
        exact z_retP mx mb mr mlk (by unfold kindBy; first | (rw [if_pos (by omega)]; done) | (rw [if_neg (by omega), if_pos (by omega)]; done) | (rw [if_neg (by omega), if_neg (by omega), if_pos (by omega)]; done) | (rw [if_neg (by omega), if_neg (by omega), if_neg (by omega)]; done)) dX5_kindBy_31
      · skip
        refine z_iconst mx mb dX5_kindBy_26 ?_
        refine z_goto (tgt := 31) mx mb dX5_kindBy_27 (by decide) ?_
        rw [hQ]
        exact z_retP mx mb mr mlk (by unfold kindBy; first | (rw [if_pos (by omega)]; done) | (rw [if_neg (by omega), if_pos (by omega)]; done) | (rw [if_neg (by omega), if_neg (by omega), if_pos (by omega)]; done) | (rw [if_neg (by omega), if_neg (by omega), if_neg (by omega)]; done)) dX5_kindBy_31
    · skip
      refine z_iconst mx mb dX5_kindBy_16 ?_
      refine z_goto (tgt := 31) mx mb dX5_kindBy_17 (by decide) ?_
      rw [hQ]
      exact z_retP mx mb mr mlk (by unfold kindBy; first | (rw [if_pos (by omega)]; done) | (rw [if_neg (by omega), if_pos (by omega)]; done) | (rw [if_neg (by omega), if_neg (by omega), if_pos (by omega)]; done) | (rw [if_neg (by omega), if_neg (by omega), if_neg (by omega)]; done)) dX5_kindBy_31
  · skip
    refine z_iconst mx mb dX5_kindBy_6 ?_
    refine z_goto (tgt := 31) mx mb dX5_kindBy_7 (by decide) ?_
    rw [hQ]
    exact z_retP mx mb mr mlk (by unfold kindBy; first | (rw [if_pos (by omega)]; done) | (rw [if_neg (by omega), if_pos (by omega)]; done) | (rw [if_neg (by omega), if_neg (by omega), if_pos (by omega)]; done) | (rw [if_neg (by omega), if_neg (by omega), if_neg (by omega)]; done)) dX5_kindBy_31

theorem in_X5_fault_X5 : ∀ w ∈ wsX50, w ∈ wsX5_fault := by decide +kernel
set_option maxRecDepth 100000 in
set_option maxHeartbeats 4000000 in
theorem c_X5_fault (l : Launch) (D : va_G) (y : Nat → ClassId) (a : Nat → Nat) (f sv ai tx : Int → Int) (sm ln th hh : Int) (hl : 0 ≤ ln ∧ ln ≤ 90) (ht : ∀ k : Int, 0 ≤ k → k < 90 → 0 ≤ tx k ∧ tx k ≤ 127) : Met l yX5_fault wsX5_fault ({ frames := 1, cells := 0, slots := 0, locals := 22 } : Room) (zPp D vwCl (zT y) (wM y a f sv ai tx sm ln th hh) [.ref (a 0)]) (vp_Si (fun r => r = iZ (fault tx ln))) 0 0 (fun _ => False) := by
  refine z_headP (cc := cX5_fault) (maxL := 5) (ret := (some .int)) [(0, .ref (a 0))] rfl (Nat.le_of_ble_eq_true rfl) (by decide +kernel) rfl ?_
  intro pp ee ss mm below meth cd mx mb mr mml mo mts mlk hK hP
  generalize ([.ref (a 0)] : List Value).toArray = args at mts ⊢
  obtain ⟨Q, hQ⟩ : ∃ Q, Q = MQ below (vp_Si (fun r => r = iZ (fault tx ln))) args ss 0 0 (fun _ => False) := ⟨_, rfl⟩
  rw [← hQ]
  refine z_iconst mx mb dX5_fault_0 ?_
  refine z_istore_n mx mb dX5_fault_1 rfl (by decide) [(1, .int (iZ 0)), (0, .ref (a 0))] rfl ?_
  refine z_iconst mx mb dX5_fault_2 ?_
  refine z_istore_n mx mb dX5_fault_3 rfl (by decide) [(2, .int (iZ 0)), (1, .int (iZ 0)), (0, .ref (a 0))] rfl ?_
  refine z_iconst mx mb dX5_fault_4 ?_
  refine z_istore_n mx mb dX5_fault_5 rfl (by decide) [(3, .int (iZ 0)), (2, .int (iZ 0)), (1, .int (iZ 0)), (0, .ref (a 0))] rfl ?_
  have lp6 : ∀ (nn : Nat) (i : Nat) (x1 x2 x3 : Int), ln.toNat - i < nn → ((i : Int) ≤ ln) → (x1 = (i : Int) / 2) → (x2 = brs tx i) → (x3 = (i : Int)) → (fst' tx i = -1) → Gz pp l ee ({ frames := 1, cells := 0, slots := 0, locals := 22 } : Room) ss mm args below meth cd 5 0 0 Q (Zp ss) 6 [(0, .ref (a 0)), (1, .int (iZ x1)), (2, .int (iZ x2)), (3, .int (iZ x3))] [] := by
    intro nn
    induction nn with
    | zero => exact fun i x1 x2 x3 hm => absurd hm (Nat.not_lt_zero _)
    | succ nn ih =>
      intro i x1 x2 x3 hm hi e1 e2 e3 e4
      have r2 := brs_rng tx i
      refine z_iload_n mx mb dX5_fault_6 rfl 3 rfl ?_
      refine z_aload_n mx mb dX5_fault_7 rfl 0 rfl ?_
      refine z_get (C := RX5) (T := TX5) (N := 8) mx mb mts (in_X5_fault_X5) mo hK (zgp hP) 0 wM_0 rfl 5 (by decide) (mts _ (List.mem_of_getElem? (i := 1) rfl)) (fun _ h9 => h9) rfl dX5_fault_8 ?_
      refine z_icmp_ge (tgt := 98) mx mb (by omega) (by omega) dX5_fault_11 (by decide) (fun c11 => ?_) (fun c11 => ?_)
      · skip
        have hi2 : i = ln.toNat := by omega
        refine z_aload_n mx mb dX5_fault_98 rfl 0 rfl ?_
        refine z_get (C := RX5) (T := TX5) (N := 8) mx mb mts (in_X5_fault_X5) mo hK (zgp hP) 0 wM_0 rfl 5 (by decide) (mts _ (List.mem_of_getElem? (i := 1) rfl)) (fun _ h9 => h9) rfl dX5_fault_99 ?_
        refine z_iconst mx mb dX5_fault_102 ?_
        refine z_irem mx mb (by omega) (by omega) dX5_fault_103 ?_
        refine z_iconst mx mb dX5_fault_104 ?_
        refine z_icmp_eq (tgt := 118) mx mb (by omega) (by omega) dX5_fault_105 (by decide) (fun c105 => ?_) (fun c105 => ?_)
        · skip
          refine z_aload_n mx mb dX5_fault_118 rfl 0 rfl ?_
          refine z_get (C := RX5) (T := TX5) (N := 8) mx mb mts (in_X5_fault_X5) mo hK (zgp hP) 0 wM_0 rfl 5 (by decide) (mts _ (List.mem_of_getElem? (i := 1) rfl)) (fun _ h9 => h9) rfl dX5_fault_119 ?_
          refine z_goto (tgt := 126) mx mb dX5_fault_122 (by decide) ?_
          rw [hQ]
          exact z_retP mx mb mr mlk (by unfold fault; rw [← hi2, if_pos e4]; first | (rw [if_pos (by omega)]; done) | (rw [if_neg (by omega)]; done)) dX5_fault_126
        · skip
          refine z_iload_n mx mb dX5_fault_108 rfl 1 rfl ?_
          refine z_iconst mx mb dX5_fault_109 ?_
          refine z_icmp_lt (tgt := 118) mx mb (by omega) (by omega) dX5_fault_110 (by decide) (fun c110 => ?_) (fun c110 => ?_)
          · skip
            refine z_aload_n mx mb dX5_fault_118 rfl 0 rfl ?_
            refine z_get (C := RX5) (T := TX5) (N := 8) mx mb mts (in_X5_fault_X5) mo hK (zgp hP) 0 wM_0 rfl 5 (by decide) (mts _ (List.mem_of_getElem? (i := 1) rfl)) (fun _ h9 => h9) rfl dX5_fault_119 ?_
            refine z_goto (tgt := 126) mx mb dX5_fault_122 (by decide) ?_
            rw [hQ]
            exact z_retP mx mb mr mlk (by unfold fault; rw [← hi2, if_pos e4]; first | (rw [if_pos (by omega)]; done) | (rw [if_neg (by omega)]; done)) dX5_fault_126
          · skip
            refine z_iload_n mx mb dX5_fault_113 rfl 2 rfl ?_
            refine z_iconst mx mb dX5_fault_114 ?_
            refine z_icmp_ge (tgt := 125) mx mb (by omega) (by omega) dX5_fault_115 (by decide) (fun c115 => ?_) (fun c115 => ?_)
            · skip
              refine z_iconst mx mb dX5_fault_125 ?_
              rw [hQ]
              exact z_retP mx mb mr mlk (by unfold fault; rw [← hi2, if_pos e4]; first | (rw [if_pos (by omega)]; done) | (rw [if_neg (by omega)]; done)) dX5_fault_126
            · skip
              refine z_aload_n mx mb dX5_fault_118 rfl 0 rfl ?_
              refine z_get (C := RX5) (T := TX5) (N := 8) mx mb mts (in_X5_fault_X5) mo hK (zgp hP) 0 wM_0 rfl 5 (by decide) (mts _ (List.mem_of_getElem? (i := 1) rfl)) (fun _ h9 => h9) rfl dX5_fault_119 ?_
              refine z_goto (tgt := 126) mx mb dX5_fault_122 (by decide) ?_
              rw [hQ]
              exact z_retP mx mb mr mlk (by unfold fault; rw [← hi2, if_pos e4]; first | (rw [if_pos (by omega)]; done) | (rw [if_neg (by omega)]; done)) dX5_fault_126
      · skip
        have k1 := ht x3 (by omega) (by omega)
        have k2 := kindBy_rng (tx x3)
        refine z_iload_n mx mb dX5_fault_14 rfl 3 rfl ?_
        refine z_iconst mx mb dX5_fault_15 ?_
        refine z_irem mx mb (by omega) (by omega) dX5_fault_16 ?_
        refine z_if_ne (tgt := 44) mx mb (by omega) dX5_fault_17 (by decide) (fun c17 => ?_) (fun c17 => ?_)
        · skip
          refine z_aload_n mx mb dX5_fault_44 rfl 0 rfl ?_
          refine z_get (C := RX5) (T := TX5) (N := 8) mx mb mts (in_X5_fault_X5) mo hK (zgp hP) 0 wM_0 rfl 4 (by decide) (mts _ (List.mem_of_getElem? (i := 2) rfl)) (fun _ h9 => h9) rfl dX5_fault_45 ?_
          refine z_iload_n mx mb dX5_fault_48 rfl 3 rfl ?_
          refine z_iald mx mb hK (zgp hP) 4 0 wM_4 rfl (by decide) (by omega) dX5_fault_49 ?_
          refine z_callPS (As := [.int (iZ (tx x3))]) (rest := []) ⟨mx, mb, mml, mo, mts⟩ hK (zgp hP) (c_X5_kindBy l D y (tx x3) (by omega)) (cwS 1 mts gX5_fault_X5_kindBy rfl rfl rfl (by decide +kernel) ⟨Nat.le_of_ble_eq_true rfl, Nat.le_of_ble_eq_true rfl⟩) (fun _ h => nomatch h) rfl rfl (Nat.le_of_ble_eq_true rfl) ⟨Nat.zero_le _, Nat.zero_le _⟩ dX5_fault_50 ?_
          refine z_istore mx mb dX5_fault_53 (by decide) [(4, .int (iZ (kindBy (tx x3)))), (0, .ref (a 0)), (1, .int (iZ x1)), (2, .int (iZ x2)), (3, .int (iZ x3))] rfl ?_
          refine z_iload mx mb dX5_fault_55 0 rfl ?_
          refine z_iconst mx mb dX5_fault_57 ?_
          refine z_icmp_eq (tgt := 73) mx mb (by omega) (by omega) dX5_fault_58 (by decide) (fun c58 => ?_) (fun c58 => ?_)
          · skip
            refine z_iload_n mx mb dX5_fault_73 rfl 4 rfl ?_
            rw [hQ]
            exact z_retP mx mb mr mlk (by rw [e3]; refine (fault_at (by omega) e4 ((bad_odd (by omega)).mpr (by rw [← e3, ← e2]; omega))).symm) dX5_fault_74
          · skip
            refine z_iload mx mb dX5_fault_61 0 rfl ?_
            refine z_iconst mx mb dX5_fault_63 ?_
            refine z_icmp_ne (tgt := 75) mx mb (by omega) (by omega) dX5_fault_64 (by decide) (fun c64 => ?_) (fun c64 => ?_)
            · skip
              refine z_iinc mx mb dX5_fault_75 2 rfl (by decide) [(1, .int (iZ (x1 + 1))), (4, .int (iZ (kindBy (tx x3)))), (0, .ref (a 0)), (2, .int (iZ x2)), (3, .int (iZ x3))] rfl ?_
              refine z_iload_n mx mb dX5_fault_78 rfl 3 rfl ?_
              refine z_iload mx mb dX5_fault_79 1 rfl ?_
              refine z_iconst mx mb dX5_fault_81 ?_
              refine z_icmp_ne (tgt := 89) mx mb (by omega) (by omega) dX5_fault_82 (by decide) (fun c82 => ?_) (fun c82 => ?_)
              · skip
                refine z_iconst mx mb dX5_fault_89 ?_
                refine z_iadd mx mb dX5_fault_90 ?_
                refine z_istore_n mx mb dX5_fault_91 rfl (by decide) [(2, .int (iZ (x2 + 0))), (1, .int (iZ (x1 + 1))), (4, .int (iZ (kindBy (tx x3)))), (0, .ref (a 0)), (3, .int (iZ x3))] rfl ?_
                refine z_iinc mx mb dX5_fault_92 4 rfl (by decide) [(3, .int (iZ (x3 + 1))), (2, .int (iZ (x2 + 0))), (1, .int (iZ (x1 + 1))), (4, .int (iZ (kindBy (tx x3)))), (0, .ref (a 0))] rfl ?_
                refine z_goto (tgt := 6) mx mb dX5_fault_95 (by decide) ?_
                refine z_lv [4, 2, 1, 0] rfl ?_
                exact ih (i + 1) _ _ _ (by omega) (by omega) (by omega) (by rw [brs, if_neg (fun q => c82 (kindBy_2.mpr (by rw [e3]; exact q.2))), e2]) (by omega) (by exact fst_next e4 (fun q => by have := (bad_odd (by omega)).mp q; rw [← e3, ← e2] at this; omega))
              · skip
                refine z_iconst mx mb dX5_fault_85 ?_
                refine z_goto (tgt := 90) mx mb dX5_fault_86 (by decide) ?_
                refine z_iadd mx mb dX5_fault_90 ?_
                refine z_istore_n mx mb dX5_fault_91 rfl (by decide) [(2, .int (iZ (x2 + 1))), (1, .int (iZ (x1 + 1))), (4, .int (iZ (kindBy (tx x3)))), (0, .ref (a 0)), (3, .int (iZ x3))] rfl ?_
                refine z_iinc mx mb dX5_fault_92 4 rfl (by decide) [(3, .int (iZ (x3 + 1))), (2, .int (iZ (x2 + 1))), (1, .int (iZ (x1 + 1))), (4, .int (iZ (kindBy (tx x3)))), (0, .ref (a 0))] rfl ?_
                refine z_goto (tgt := 6) mx mb dX5_fault_95 (by decide) ?_
                refine z_lv [4, 2, 1, 0] rfl ?_
                exact ih (i + 1) _ _ _ (by omega) (by omega) (by omega) (by rw [brs, if_pos ⟨by omega, by rw [← e3]; exact kindBy_2.mp c82⟩, e2]) (by omega) (by exact fst_next e4 (fun q => by have := (bad_odd (by omega)).mp q; rw [← e3, ← e2] at this; omega))
            · skip
              refine z_iload_n mx mb dX5_fault_67 rfl 3 rfl ?_
              refine z_bipush mx mb dX5_fault_68 (by decide +kernel) ?_
              refine z_icmp_ne (tgt := 75) mx mb (by omega) (by omega) dX5_fault_70 (by decide) (fun c70 => ?_) (fun c70 => ?_)
              · skip
                refine z_iinc mx mb dX5_fault_75 2 rfl (by decide) [(1, .int (iZ (x1 + 1))), (4, .int (iZ (kindBy (tx x3)))), (0, .ref (a 0)), (2, .int (iZ x2)), (3, .int (iZ x3))] rfl ?_
                refine z_iload_n mx mb dX5_fault_78 rfl 3 rfl ?_
                refine z_iload mx mb dX5_fault_79 1 rfl ?_
                refine z_iconst mx mb dX5_fault_81 ?_
                refine z_icmp_ne (tgt := 89) mx mb (by omega) (by omega) dX5_fault_82 (by decide) (fun c82 => ?_) (fun c82 => ?_)
                · skip
                  refine z_iconst mx mb dX5_fault_89 ?_
                  refine z_iadd mx mb dX5_fault_90 ?_
                  refine z_istore_n mx mb dX5_fault_91 rfl (by decide) [(2, .int (iZ (x2 + 0))), (1, .int (iZ (x1 + 1))), (4, .int (iZ (kindBy (tx x3)))), (0, .ref (a 0)), (3, .int (iZ x3))] rfl ?_
                  refine z_iinc mx mb dX5_fault_92 4 rfl (by decide) [(3, .int (iZ (x3 + 1))), (2, .int (iZ (x2 + 0))), (1, .int (iZ (x1 + 1))), (4, .int (iZ (kindBy (tx x3)))), (0, .ref (a 0))] rfl ?_
                  refine z_goto (tgt := 6) mx mb dX5_fault_95 (by decide) ?_
                  refine z_lv [4, 2, 1, 0] rfl ?_
                  exact ih (i + 1) _ _ _ (by omega) (by omega) (by omega) (by rw [brs, if_neg (fun q => c82 (kindBy_2.mpr (by rw [e3]; exact q.2))), e2]) (by omega) (by exact fst_next e4 (fun q => by have := (bad_odd (by omega)).mp q; rw [← e3, ← e2] at this; omega))
                · skip
                  refine z_iconst mx mb dX5_fault_85 ?_
                  refine z_goto (tgt := 90) mx mb dX5_fault_86 (by decide) ?_
                  refine z_iadd mx mb dX5_fault_90 ?_
                  refine z_istore_n mx mb dX5_fault_91 rfl (by decide) [(2, .int (iZ (x2 + 1))), (1, .int (iZ (x1 + 1))), (4, .int (iZ (kindBy (tx x3)))), (0, .ref (a 0)), (3, .int (iZ x3))] rfl ?_
                  refine z_iinc mx mb dX5_fault_92 4 rfl (by decide) [(3, .int (iZ (x3 + 1))), (2, .int (iZ (x2 + 1))), (1, .int (iZ (x1 + 1))), (4, .int (iZ (kindBy (tx x3)))), (0, .ref (a 0))] rfl ?_
                  refine z_goto (tgt := 6) mx mb dX5_fault_95 (by decide) ?_
                  refine z_lv [4, 2, 1, 0] rfl ?_
                  exact ih (i + 1) _ _ _ (by omega) (by omega) (by omega) (by rw [brs, if_pos ⟨by omega, by rw [← e3]; exact kindBy_2.mp c82⟩, e2]) (by omega) (by exact fst_next e4 (fun q => by have := (bad_odd (by omega)).mp q; rw [← e3, ← e2] at this; omega))
              · skip
                refine z_iload_n mx mb dX5_fault_73 rfl 4 rfl ?_
                rw [hQ]
                exact z_retP mx mb mr mlk (by rw [e3]; refine (fault_at (by omega) e4 ((bad_odd (by omega)).mpr (by rw [← e3, ← e2]; omega))).symm) dX5_fault_74
        · skip
          refine z_aload_n mx mb dX5_fault_20 rfl 0 rfl ?_
          refine z_get (C := RX5) (T := TX5) (N := 8) mx mb mts (in_X5_fault_X5) mo hK (zgp hP) 0 wM_0 rfl 4 (by decide) (mts _ (List.mem_of_getElem? (i := 2) rfl)) (fun _ h9 => h9) rfl dX5_fault_21 ?_
          refine z_iload_n mx mb dX5_fault_24 rfl 3 rfl ?_
          refine z_iald mx mb hK (zgp hP) 4 0 wM_4 rfl (by decide) (by omega) dX5_fault_25 ?_
          refine z_bipush mx mb dX5_fault_26 (by decide +kernel) ?_
          refine z_bipush mx mb dX5_fault_28 (by decide +kernel) ?_
          refine z_callPS (As := [.int (iZ (tx x3)), .int (iZ 48), .int (iZ 57)]) (rest := []) ⟨mx, mb, mml, mo, mts⟩ hK (zgp hP) (c_X5_in l D y (tx x3) 48 57 (by omega) (by omega) (by omega)) (cwS 3 mts gX5_fault_X5_in rfl rfl rfl (by decide +kernel) ⟨Nat.le_of_ble_eq_true rfl, Nat.le_of_ble_eq_true rfl⟩) (fun _ h => nomatch h) rfl rfl (Nat.le_of_ble_eq_true rfl) ⟨Nat.zero_le _, Nat.zero_le _⟩ dX5_fault_30 ?_
          refine z_if_eq (tgt := 42) mx mb (b2z_rng _) dX5_fault_33 (by decide) (fun c33 => ?_) (fun c33 => ?_)
          · skip
            refine z_iload_n mx mb dX5_fault_42 rfl 3 rfl ?_
            rw [hQ]
            exact z_retP mx mb mr mlk (by rw [e3]; refine (fault_at (by omega) e4 ((bad_even (by omega)).mpr (Or.inl (fun q => b2z_e c33 (by rw [e3]; exact q))))).symm) dX5_fault_43
          · skip
            refine z_iload_n mx mb dX5_fault_36 rfl 1 rfl ?_
            refine z_bipush mx mb dX5_fault_37 (by decide +kernel) ?_
            refine z_icmp_ne (tgt := 92) mx mb (by omega) (by omega) dX5_fault_39 (by decide) (fun c39 => ?_) (fun c39 => ?_)
            · skip
              refine z_iinc mx mb dX5_fault_92 3 rfl (by decide) [(3, .int (iZ (x3 + 1))), (0, .ref (a 0)), (1, .int (iZ x1)), (2, .int (iZ x2))] rfl ?_
              refine z_goto (tgt := 6) mx mb dX5_fault_95 (by decide) ?_
              refine z_lv [1, 2, 3, 0] rfl ?_
              exact ih (i + 1) _ _ _ (by omega) (by omega) (by omega) (by rw [brs, if_neg (fun q => by omega), e2, Int.add_zero]) (by omega) (by exact fst_next e4 (fun q => by have := (bad_even (by omega)).mp q; rw [← e3] at this; have z := b2z_ne c33; omega))
            · skip
              refine z_iload_n mx mb dX5_fault_42 rfl 3 rfl ?_
              rw [hQ]
              exact z_retP mx mb mr mlk (by rw [e3]; refine (fault_at (by omega) e4 ((bad_even (by omega)).mpr (Or.inr (by omega)))).symm) dX5_fault_43
  refine z_lv [3, 2, 1, 0] rfl ?_
  exact lp6 _ 0 0 0 0 (Nat.lt_succ_self _) (by omega) (by rfl) (by rfl) (by rfl) (by rfl)
