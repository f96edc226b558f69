theorem rf_add (st : CSt) (b : Int) (h : ¬ (0 ≤ b ∧ b < st.1 1)) : addV st b = -3001 ∧ addS st b = st := by
  rcases thAdd_c st.1 b with ⟨e0, h1, h2, h3⟩ | ⟨e0, h1⟩ | ⟨e0, h1, h2⟩
  · exact absurd (by omega) h
  · exact ⟨v3_1 e0, s3_n (by omega)⟩
  · exact absurd (by omega) h
theorem rf_res (st : CSt) (t : Int) (h : ¬ (0 ≤ t ∧ t < st.1 2)) : resV st t = -3001 ∧ resS st t = st := by
  rcases thRes_c st.1 t with ⟨e0, h1, h2⟩ | ⟨e0, h1⟩ | ⟨e0, h1, h2⟩
  · exact absurd (by omega) h
  · exact ⟨v3_1 e0, s3_n (by omega)⟩
  · exact absurd (by omega) h
theorem rf_set1 (st : CSt) (w v : Int) (h : ¬ (0 ≤ w ∧ w ≤ 3)) : setV st w v = -3001 ∧ setS st w v = st := by
  have e0 : thSet w v = 1 := by unfold thSet; rw [if_neg h]
  exact ⟨v3_1 e0, s3_n (by omega)⟩
theorem rf_set2 (st : CSt) (w v : Int) (e0 : thSet w v = 2) : setV st w v = -3002 ∧ setS st w v = st := ⟨v3_2 e0, s3_n (by omega)⟩
theorem rf_hgt1 (st : CSt) (c z : Int) (h : ¬ (0 ≤ c ∧ c < st.1 0)) : hgtV st c z = -3001 ∧ hgtS st c z = st := by
  rcases thHgt_c st.1 c z with ⟨e0, h1, h2⟩ | ⟨e0, h1⟩ | ⟨e0, h1, h2⟩
  · exact absurd (by omega) h
  · exact ⟨v3_1 e0, s3_n (by omega)⟩
  · exact absurd (by omega) h
theorem rf_hgt2 (st : CSt) (c z : Int) (hc : 0 ≤ c ∧ c < st.1 0) (h : ¬ (0 ≤ z ∧ z ≤ 9)) : hgtV st c z = -3002 ∧ hgtS st c z = st := by
  rcases thHgt_c st.1 c z with ⟨e0, h1, h2⟩ | ⟨e0, h1⟩ | ⟨e0, h1, h2⟩
  · exact absurd h2 h
  · exact absurd hc h1
  · exact ⟨v3_2 e0, s3_n (by omega)⟩
theorem rf_pas (st : CSt) (n : Int) (h : ¬ (1 ≤ n ∧ n ≤ 500)) : pasV st n = -3002 ∧ pasS st n = st := by
  rcases thPass_c st.1 n with ⟨e0, h1, h2⟩ | ⟨e0, h1⟩ | ⟨e0, h1, h2⟩
  · exact absurd (by omega) h
  · exact ⟨v3_1 e0, s3_n (by omega)⟩
  · exact absurd (by omega) h
theorem rf_trn1 (st : CSt) (c w : Int) (h : ¬ (0 ≤ c ∧ c < st.1 2)) : trnV st c w = -3001 := by
  rcases thIn_c c (st.1 2) w 9 with ⟨e0, h1, h2⟩ | ⟨e0, h1⟩ | ⟨e0, h1, h2⟩
  · exact absurd (by omega) h
  · exact v3_1 e0
  · exact absurd (by omega) h
theorem rf_trn2 (st : CSt) (c w : Int) (hc : 0 ≤ c ∧ c < st.1 2) (h : ¬ (0 ≤ w ∧ w ≤ 9)) : trnV st c w = -3002 := by
  rcases thIn_c c (st.1 2) w 9 with ⟨e0, h1, h2⟩ | ⟨e0, h1⟩ | ⟨e0, h1, h2⟩
  · exact absurd h2 h
  · exact absurd hc h1
  · exact v3_2 e0
theorem rf_cel1 (st : CSt) (c w : Int) (h : ¬ (0 ≤ c ∧ c < st.1 0)) : celV st c w = -3001 := by
  rcases thIn_c c (st.1 0) w 3 with ⟨e0, h1, h2⟩ | ⟨e0, h1⟩ | ⟨e0, h1, h2⟩
  · exact absurd (by omega) h
  · exact v3_1 e0
  · exact absurd (by omega) h
theorem rf_cel2 (st : CSt) (c w : Int) (hc : 0 ≤ c ∧ c < st.1 0) (h : ¬ (0 ≤ w ∧ w ≤ 3)) : celV st c w = -3002 := by
  rcases thIn_c c (st.1 0) w 3 with ⟨e0, h1, h2⟩ | ⟨e0, h1⟩ | ⟨e0, h1, h2⟩
  · exact absurd h2 h
  · exact absurd hc h1
  · exact v3_2 e0
theorem rf_blk1 (st : CSt) (c w : Int) (h : ¬ (0 ≤ c ∧ c < st.1 1)) : blkV st c w = -3001 := by
  rcases thIn_c c (st.1 1) w 4 with ⟨e0, h1, h2⟩ | ⟨e0, h1⟩ | ⟨e0, h1, h2⟩
  · exact absurd (by omega) h
  · exact v3_1 e0
  · exact absurd (by omega) h
theorem rf_blk2 (st : CSt) (c w : Int) (hc : 0 ≤ c ∧ c < st.1 1) (h : ¬ (0 ≤ w ∧ w ≤ 4)) : blkV st c w = -3002 := by
  rcases thIn_c c (st.1 1) w 4 with ⟨e0, h1, h2⟩ | ⟨e0, h1⟩ | ⟨e0, h1, h2⟩
  · exact absurd h2 h
  · exact absurd hc h1
  · exact v3_2 e0
theorem rf_snt1 (st : CSt) (c w : Int) (h : ¬ (0 ≤ c ∧ c < st.1 10)) : sntV st c w = -3001 := by
  rcases thIn_c c (st.1 10) w 1 with ⟨e0, h1, h2⟩ | ⟨e0, h1⟩ | ⟨e0, h1, h2⟩
  · exact absurd (by omega) h
  · exact v3_1 e0
  · exact absurd (by omega) h
theorem rf_snt2 (st : CSt) (c w : Int) (hc : 0 ≤ c ∧ c < st.1 10) (h : ¬ (0 ≤ w ∧ w ≤ 1)) : sntV st c w = -3002 := by
  rcases thIn_c c (st.1 10) w 1 with ⟨e0, h1, h2⟩ | ⟨e0, h1⟩ | ⟨e0, h1, h2⟩
  · exact absurd h2 h
  · exact absurd hc h1
  · exact v3_2 e0
theorem rf_why (st : CSt) (c : Int) (h : ¬ (0 ≤ c ∧ c < st.1 2)) : whyV st c = -3001 := by
  rcases thOne_c c (st.1 2) with ⟨e0, h1⟩ | ⟨e0, h1⟩
  · exact absurd h1 h
  · exact v3_1 e0
theorem rf_tos (st : CSt) (c : Int) (h : ¬ (0 ≤ c ∧ c < st.1 2)) : tosV st c = -3001 := by
  rcases thOne_c c (st.1 2) with ⟨e0, h1⟩ | ⟨e0, h1⟩
  · exact absurd h1 h
  · exact v3_1 e0
theorem rf_lst (st : CSt) (c : Int) (h : ¬ (0 ≤ c ∧ c < st.1 0)) : lstV st c = -3001 := by
  rcases thOne_c c (st.1 0) with ⟨e0, h1⟩ | ⟨e0, h1⟩
  · exact absurd h1 h
  · exact v3_1 e0
theorem rf_all (st : CSt) (w : Int) (h : ¬ (0 ≤ w ∧ w ≤ 11)) : allV st w = -3002 := by
  rcases thOne_d w 11 with ⟨e0, h1⟩ | ⟨e0, h1⟩
  · exact absurd h1 h
  · exact v3_1 e0
theorem rf_swt (st : CSt) (w : Int) (h : ¬ (0 ≤ w ∧ w ≤ 500)) : swtV st w = -3002 := by
  rcases thOne_d w 500 with ⟨e0, h1⟩ | ⟨e0, h1⟩
  · exact absurd h1 h
  · exact v3_1 e0
theorem rf_typ (st : CSt) (v : Int) (h : ¬ (0 ≤ v ∧ v ≤ 127)) : typV st v = -3002 ∧ typS st v = st := by
  rcases thApp_c v st.2.2.2.2 with ⟨e0, h1, h2⟩ | ⟨e0, h1⟩ | ⟨e0, h1, h2⟩
  · exact absurd (by omega) h
  · exact ⟨v3_1 e0, s3_n (by omega)⟩
  · exact absurd (by omega) h
