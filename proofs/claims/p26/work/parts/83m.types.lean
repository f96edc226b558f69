/-- the characters of a word, the first at place 7; and what typing the last n of them leaves -/
def btOf (w : Int) (k : Nat) : Int := w / 256 ^ k % 256
def Wd (w : Int) : Prop := ∀ k : Nat, k < 8 → ((lZ w >>> ((iZ (8 * (k : Int))).toInt64 &&& 63)) &&& lZ 255).toInt32 = iZ (btOf w k) ∧ 0 ≤ btOf w k ∧ btOf w k ≤ 127
def typ1 (st : CSt) (v : Int) : CSt := if v = 0 then st else typS st v
def typW (w : Int) : Nat → CSt → CSt
  | 0, st => st
  | n + 1, st => typW w n (typ1 st (btOf w n))
theorem typ_in {st : CSt} {v : Int} (hv : 0 ≤ v ∧ v ≤ 127) (hl : st.2.2.2.2 < 90) : typV st v = st.2.2.2.2 + 1 ∧ typS st v = txd st (zu st.2.2.2.1 st.2.2.2.2 v) (st.2.2.2.2 + 1) := by
  have e0 : thApp v st.2.2.2.2 = 0 := by unfold thApp; rw [if_pos hv, if_neg (by omega)]
  exact ⟨v3_0 e0, s3_0 e0⟩
theorem typS_keep (st : CSt) (v : Int) : (typS st v).1 = st.1 ∧ (typS st v).2.1 = st.2.1 ∧ (typS st v).2.2.1 = st.2.2.1 ∧ (typS st v).2.2.2.2 ≤ st.2.2.2.2 + 1 ∧ st.2.2.2.2 ≤ (typS st v).2.2.2.2 := by
  unfold typS s3
  split
  · exact ⟨rfl, rfl, rfl, Int.le_refl _, by show st.2.2.2.2 ≤ st.2.2.2.2 + 1; omega⟩
  · exact ⟨rfl, rfl, rfl, by omega, Int.le_refl _⟩
theorem typW_keep (w : Int) (n : Nat) : ∀ st : CSt, (typW w n st).1 = st.1 ∧ (typW w n st).2.1 = st.2.1 ∧ (typW w n st).2.2.1 = st.2.2.1 ∧ (typW w n st).2.2.2.2 ≤ st.2.2.2.2 + n := by
  induction n with
  | zero => intro st; exact ⟨rfl, rfl, rfl, by show st.2.2.2.2 ≤ st.2.2.2.2 + 0; omega⟩
  | succ n ih =>
    intro st
    obtain ⟨a, b, c, d⟩ := ih (typ1 st (btOf w n))
    have k : (typ1 st (btOf w n)).1 = st.1 ∧ (typ1 st (btOf w n)).2.1 = st.2.1 ∧ (typ1 st (btOf w n)).2.2.1 = st.2.2.1 ∧ (typ1 st (btOf w n)).2.2.2.2 ≤ st.2.2.2.2 + 1 := by
      unfold typ1
      split
      · exact ⟨rfl, rfl, rfl, by omega⟩
      · have q := typS_keep st (btOf w n)
        exact ⟨q.1, q.2.1, q.2.2.1, q.2.2.2.1⟩
    exact ⟨a.trans k.1, b.trans k.2.1, c.trans k.2.2.1, by show (typW w n (typ1 st (btOf w n))).2.2.2.2 ≤ _; omega⟩

set_option maxRecDepth 100000 in
set_option maxHeartbeats 8000000 in
theorem c_L_types (l : Launch) (hl0 : l.stackTraces = false) (D : va_G) (sz : Nat) (y : Nat → ClassId) (o : Nat → Nat) (a : Nat → Nat → Nat) (S : Nat → Nat → Int → Int) (tb : Nat → Nat) (st : CSt) (w : Int) (hb : Wd w) (hl8 : st.2.2.2.2 + 8 ≤ 90) (hT : Tie st S) : Met l yL_types wsL_types ({ frames := 8, cells := 8, slots := 48, locals := 133 } : Room) (zPe D vwCl (zT y) (wC y o a S tb st) sz [.ref (o 0), .long (lZ w)]) (va_Qv (fun u : (Nat → Nat → Nat) × (Nat → Nat → Int → Int) => Tie (typW w 8 st) u.2) (zB D vwCl (zT y) (wC y o a S tb st) sz (fun u : (Nat → Nat → Nat) × (Nat → Nat → Int → Int) => wC y o u.1 u.2 tb (typW w 8 st))) (va_A (wC y o a S tb st) sz)) 8 48 (va_A (wC y o a S tb st) sz) := by
  refine z_headE (cc := cL_types) (maxL := 5) (ret := none) [(0, .ref (o 0)), (1, .long (lZ w))] rfl (Nat.le_of_ble_eq_true rfl) (by decide +kernel) rfl ?_
  intro pp ee ss mm below meth cd mx mb mr mml mo mts mlk hK hname hsz hA hE
  generalize ([.ref (o 0), .long (lZ w)] : List Value).toArray = args at mts ⊢
  obtain ⟨wst, hw0⟩ : ∃ wst, wst = wC y o a S tb st := ⟨_, rfl⟩
  replace hE : zE (va_A wst sz) ss ss.heap := by rw [hw0]; exact hE
  replace hA : ∀ q, ss.heap.size ≤ q → va_A wst sz q := by rw [hw0]; exact hA
  obtain ⟨Q, hQ⟩ : ∃ Q, Q = MQ below (va_Qv (fun u : (Nat → Nat → Nat) × (Nat → Nat → Int → Int) => Tie (typW w 8 st) u.2) (zB D vwCl (zT y) wst sz (fun u : (Nat → Nat → Nat) × (Nat → Nat → Int → Int) => wC y o u.1 u.2 tb (typW w 8 st))) (va_A wst sz)) args ss 8 48 (va_A wst sz) := ⟨_, rfl⟩
  have hstart : Gz pp l ee ({ frames := 8, cells := 8, slots := 48, locals := 133 } : Room) ss mm args below meth cd 5 0 0 Q (Zw D vwCl (va_A wst sz) ss (wC y o a S tb st)) 0 [(0, .ref (o 0)), (1, .long (lZ w))] [] := by
    refine z_bipush mx mb dL_types_0 (by decide +kernel) ?_
    refine z_istore_n mx mb dL_types_2 rfl (by decide) [(3, .int (iZ 7)), (0, .ref (o 0)), (1, .long (lZ w))] rfl ?_
    have lp3 : ∀ (nn : Nat) (m9 : Nat) (x3 : Int) (c9 : CSt) (a9 : Nat → Nat → Nat) (S9 : Nat → Nat → Int → Int) (k n : Nat), m9 < nn → (x3 = (m9 : Int) - 1) → (m9 ≤ 8) → (typW w 8 st = typW w m9 c9) → (c9.2.2.2.2 + m9 ≤ 90) → (k ≤ 8 - m9) → (n ≤ 6 * (8 - m9)) → (Tie c9 S9) → Gz pp l ee ({ frames := 8, cells := 8, slots := 48, locals := 133 } : Room) ss mm args below meth cd 5 k n Q (Zw D vwCl (va_A wst sz) ss (wC y o a9 S9 tb c9)) 3 [(0, .ref (o 0)), (1, .long (lZ w)), (3, .int (iZ x3))] [] := by
      intro nn
      induction nn with
      | zero => exact fun m9 x3 c9 a9 S9 k n hm => absurd hm (Nat.not_lt_zero _)
      | succ nn ih3 =>
        intro m9 x3 c9 a9 S9 k n hm h9e h9m h9w h9l h9k h9n h9T
        refine z_iload_n mx mb dL_types_3 rfl 2 rfl ?_
        refine z_if_lt (tgt := 41) mx mb (by omega) dL_types_4 (by decide) (fun c4 => ?_) (fun c4 => ?_)
        · skip
          obtain rfl : m9 = 0 := by omega
          refine z_widen (k1 := 8) (n1 := 48) (by omega) (by omega) ?_
          rw [hQ]
          exact z_retV mx mb mr mlk hK (a9, S9) (by exact (by rw [h9w]; exact h9T)) (by rw [h9w]; rfl) dL_types_41
        · skip
          obtain ⟨k1, rfl⟩ : ∃ k1, m9 = k1 + 1 := ⟨m9 - 1, by omega⟩
          have e3 : x3 = (k1 : Int) := by omega
          have hb1 := hb k1 (by omega)
          have tl := h9T.2.2.2.1
          refine z_lload_n mx mb dL_types_7 rfl 1 rfl ?_
          refine z_bipush mx mb dL_types_8 (by decide +kernel) ?_
          refine z_iload_n mx mb dL_types_10 rfl 2 rfl ?_
          refine z_imul mx mb dL_types_11 ?_
          refine z_lshr mx mb dL_types_12 rfl ?_
          refine z_ldc2 (z := 255) mx mb mo (mts _ (List.mem_of_getElem? (i := 1) rfl)) (by decide +kernel) dL_types_13 ?_
          refine z_land mx mb dL_types_16 ?_
          refine z_l2i (v := iZ (btOf w k1)) mx mb dL_types_17 (by rw [e3]; exact hb1.1) ?_
          refine z_istore mx mb dL_types_18 (by decide) [(4, .int (iZ (btOf w k1))), (0, .ref (o 0)), (1, .long (lZ w)), (3, .int (iZ x3))] rfl ?_
          refine z_iload mx mb dL_types_20 0 rfl ?_
          refine z_if_eq (tgt := 35) mx mb (by omega) dL_types_22 (by decide) (fun c22 => ?_) (fun c22 => ?_)
          · skip
            have bw : typW w 8 st = typW w k1 c9 := by rw [h9w]; show typW w k1 (typ1 c9 (btOf w k1)) = _; unfold typ1; rw [if_pos c22]
            have bl : c9.2.2.2.2 + (k1 : Int) ≤ 90 := by omega
            refine z_iinc mx mb dL_types_35 3 rfl (by decide) [(3, .int (iZ (x3 + (-1)))), (4, .int (iZ (btOf w k1))), (0, .ref (o 0)), (1, .long (lZ w))] rfl ?_
            refine z_goto (tgt := 3) mx mb dL_types_38 (by decide) ?_
            refine z_lv [2, 3, 0] rfl ?_
            exact ih3 k1 _ c9 a9 S9 k n (by omega) (by omega) (by omega) (by exact bw) (by exact bl) (by omega) (by omega) (by exact h9T)
          · skip
            have bw : typW w 8 st = typW w k1 (typS c9 (btOf w k1)) := by rw [h9w]; show typW w k1 (typ1 c9 (btOf w k1)) = _; unfold typ1; rw [if_neg c22]
            have bl : (typS c9 (btOf w k1)).2.2.2.2 + (k1 : Int) ≤ 90 := by have q := (typS_keep c9 (btOf w k1)).2.2.2.1; omega
            refine z_aload_n mx mb dL_types_25 rfl 1 rfl ?_
            refine z_iload mx mb dL_types_26 0 rfl ?_
            refine z_callSI (wa := []) (wc := (wC y o a9 S9 tb c9)) (wb := []) (As := [.ref (o 0), .int (iZ (btOf w k1))]) (rest := []) ⟨mx, mb, mml, mo, mts⟩ hK hA hE (fun sz => c_L_typing l hl0 D sz y o a9 S9 tb c9 (btOf w k1) (by omega) h9T) (vx_cwSW 2 mts gL_types_L_typing rfl rfl rfl (by decide +kernel) ⟨Nat.le_of_ble_eq_true rfl, Nat.le_of_ble_eq_true rfl⟩) (List.append_nil _).symm rfl rfl (Nat.le_of_ble_eq_true rfl) ⟨by show _ ≤ 8; omega, by show _ ≤ 48; omega⟩ dL_types_28 (fun r28 u28 hu28 => ?_)
            rw [List.nil_append, List.append_nil]
            obtain ⟨a28, S28⟩ := u28
            obtain ⟨hr, hT28⟩ := hu28
            replace hT28 : Tie (typS c9 (btOf w k1)) S28 := hT28
            obtain rfl : r28 = iZ (c9.2.2.2.2 + 1) := hr.trans (congrArg iZ (typ_in (by omega) (by omega)).1)
            show Gz pp l ee ({ frames := 8, cells := 8, slots := 48, locals := 133 } : Room) ss mm args below meth cd 5 (k + 1) (n + 6) Q (Zw D vwCl (va_A wst sz) ss (wC y o a28 S28 tb (typS c9 (btOf w k1)))) 31 [(4, .int (iZ (btOf w k1))), (0, .ref (o 0)), (1, .long (lZ w)), (3, .int (iZ x3))] [.int (iZ (c9.2.2.2.2 + 1))]
            refine z_if_ge (tgt := 35) mx mb (by omega) dL_types_31 (by decide) (fun c31 => ?_) (fun c31 => absurd c31 (by omega))
            refine z_iinc mx mb dL_types_35 3 rfl (by decide) [(3, .int (iZ (x3 + (-1)))), (4, .int (iZ (btOf w k1))), (0, .ref (o 0)), (1, .long (lZ w))] rfl ?_
            refine z_goto (tgt := 3) mx mb dL_types_38 (by decide) ?_
            refine z_lv [2, 3, 0] rfl ?_
            exact ih3 k1 _ (typS c9 (btOf w k1)) a28 S28 (k + 1) (n + 6) (by omega) (by omega) (by omega) (by exact bw) (by exact bl) (by omega) (by omega) (by exact hT28)
    refine z_lv [1, 2, 0] rfl ?_
    exact lp3 _ 8 7 st a S 0 0 (Nat.lt_succ_self _) (by rfl) (by omega) (by rfl) (by omega) (by omega) (by omega) (by exact hT)
  subst hQ
  subst hw0
  exact hstart
