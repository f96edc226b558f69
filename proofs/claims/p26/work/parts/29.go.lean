/-! Facts for the class's own step -/
theorem go_facts {f : Int → Int} {t : Int} (hJ : Jx f) (hG : Lg f) (ht : 0 ≤ t ∧ t < 4) (x : Int) :
    Wf (runs (put f t 5 x) t) ∧ Ns (runs (put f t 5 x) t) ∧ Lg (runs (put f t 5 x) t) ∧ runs (put f t 5 x) t 2 = f 2 ∧ blockAt (runs (put f t 5 x) t) (runs (put f t 5 x) t (79 + 8 * t + 0)) = blockAt f (f (79 + 8 * t + 0)) ∧ runs (put f t 5 x) t 1 = f 1 ∧ runs (put f t 5 x) t 0 = f 0 := by
  obtain ⟨hW, hN, hT⟩ := hJ.f
  have w0 := hW.1
  have k0 := (hW.2.2.2.2.2.2 t ht.1 ht.2).1
  have e : runs (put f t 5 x) t = runs f t := by
    unfold runs
    rw [show put (put (put (put (put f t 5 x) t 4 0) t 1 25) t 2 0) t 5 0 = put (put (put (put f t 4 0) t 1 25) t 2 0) t 5 0 from by
      unfold put
      rw [zu_comm (f := f) (i := 79 + 8 * t + 5) (j := 79 + 8 * t + 4) (by omega), zu_comm (i := 79 + 8 * t + 5) (j := 79 + 8 * t + 1) (by omega), zu_comm (i := 79 + 8 * t + 5) (j := 79 + 8 * t + 2) (by omega), zu_zu]]
  rw [e]
  have o : ∀ i : Int, i < 79 ∨ 111 ≤ i → runs f t i = f i := fun i hi => by
    unfold runs
    rw [put_n (by omega), put_n (by omega), put_n (by omega), put_n (by omega)]
  obtain ⟨T, D, B, h9, hD, hB⟩ := hJ
  have j := J_runs h9 ht
  refine ⟨j.1, J_Ns j, Lg_congr hG hN.2.2.2.2.2.2.2 hN.2.2.2.2.2.1.1 (fun i _ _ => o i (by omega)) (fun i _ _ => o i (by omega)), o 2 (by omega), ?_, o 1 (by omega), o 0 (by omega)⟩
  rw [runs_cm (Or.inl rfl), if_pos rfl, if_pos rfl, blockAt_congr (f := f) (by omega) (o 1 (by omega)) (fun i _ _ => o i (by omega))]
theorem stands_at0 {f : Int → Int} {t : Int} : stands f t (79 + 8 * t + 0) = f (79 + 8 * t + 0) := by
  rw [stands_cm (Or.inl rfl), if_pos rfl, if_neg (by omega), if_neg (by omega)]
theorem stands_at7 {f : Int → Int} {t : Int} : stands f t (79 + 8 * t + 7) = f (79 + 8 * t + 7) := by
  unfold stands
  rw [put_n (by omega), put_n (by omega), put_n (by omega), put_n (by omega)]
theorem Wf_stands {f : Int → Int} {t : Int} (hW : Wf f) (ht : 0 ≤ t ∧ t < 4) : Wf (stands f t) := by
  unfold stands
  exact Wf_put (Wf_put (Wf_put (Wf_put hW ht (by omega) (by omega)) ht (by omega) (by omega)) ht (by omega) (by omega)) ht (by omega) (by omega)
theorem come_facts {f : Int → Int} {t : Int} (hW : Wf f) (ht : 0 ≤ t ∧ t < 4) (hA : Ap (stands f t)) (v : Int) :
    Wf (put (stands f t) t 7 v) ∧ Ap (put (stands f t) t 7 v) ∧ put (stands f t) t 7 v 1 = f 1 ∧ put (stands f t) t 7 v 2 = f 2 ∧ (∀ x, isFree (put (stands f t) t 7 v) x = isFree (stands f t) x) ∧ (∀ i : Int, i < 79 → put (stands f t) t 7 v i = f i) ∧ (∀ b, nextB (put (stands f t) t 7 v) b = nextB f b) := by
  have hS := Wf_stands hW ht
  have w2 := hW.2.2.1
  have o : ∀ i : Int, i ≠ 79 + 8 * t + 7 → put (stands f t) t 7 v i = stands f t i := fun i hi => put_n hi
  have o2 : ∀ i : Int, i < 79 → put (stands f t) t 7 v i = f i := fun i hi => by rw [o i (by omega), stands_2 ht.1 hi]
  have s2 : stands f t 2 = f 2 := stands_2 ht.1 (by omega)
  refine ⟨Wf_put hS ht (by omega) (by omega), Ap_gen hA hS (o 1 (by omega)) (o 2 (by omega)) (fun i _ _ => o i (by omega)) (fun u _ _ => o _ (by omega)) (fun u _ _ m => Or.inl (by rw [o _ (by omega)] at m; exact m)), o2 1 (by omega), o2 2 (by omega), fun x => ?_, o2, fun b => by unfold nextB; rw [o2 1 (by omega)]⟩
  exact isFree_congr hS (o 1 (by omega)) (o 2 (by omega)) (fun i _ _ => o i (by omega)) (fun u _ _ => ⟨o _ (by omega), o _ (by omega)⟩)
theorem Ap_stand_of {f : Int → Int} {t sq : Int} (kp : Kp f) (hJ : Jx f) (ht : 0 ≤ t ∧ t < f 2) (hm : f (79 + 8 * t + 4) = 0) (hsq : sq = squareOn f (f (79 + 8 * t + 0)) (after f (f (79 + 8 * t + 0))) (f (79 + 8 * t + 1)) (drag f t)) (c1 : ¬ sq < 0) (c2 : f (41 + after f (f (79 + 8 * t + 0))) = 2) : Ap (stands (came f t sq) t) := by
  have k := Kp_moves kp hJ ht hm
  have hW := hJ.f.1
  have w2 := hW.2.2.1
  have ht4 : 0 ≤ t ∧ t < 4 := by omega
  have le := squareOn_le f (f (79 + 8 * t + 0)) (after f (f (79 + 8 * t + 0))) (f (79 + 8 * t + 1)) (drag f t)
  unfold moves at k
  rw [← hsq, if_neg c1, if_pos c2] at k
  have hc := hJ.came (t := t) (sq := sq) ht4 (by omega)
  have hcW := hc.f.1
  generalize came f t sq = g at *
  obtain ⟨T, D, B, h9, hD, hB⟩ := hc
  have j9 : J (comes g t) T D (fun t => B t + 1) := J_comes h9 ht4 (fun t' t0 t1 => by have := hB t' t0 t1; omega) (by omega)
  have hb := blockAt_rng hcW (hcW.2.2.2.2.2.2 t ht4.1 ht4.2).1
  have w1 := hcW.2.1; have g2 := hcW.2.2.1
  have o : ∀ i : Int, i < 71 → stands g t i = comes g t i := fun i hi => by
    unfold comes
    rw [put_n (by omega), zu_n (by omega)]
  refine Ap_gen k.1 j9.1 (o 1 (by omega)) (o 2 (by omega)) (fun i _ _ => o i (by omega)) (fun u u0 u1 => ?_) (fun u u0 u1 m => Or.inl ?_)
  · rw [stands_cm (Or.inl rfl), comes_cm hcW ht4 u0 (Or.inl rfl)]
  · rw [stands_cm (Or.inr (Or.inl rfl))] at m
    rw [comes_cm hcW ht4 u0 (Or.inr (Or.inl rfl))]
    exact m
