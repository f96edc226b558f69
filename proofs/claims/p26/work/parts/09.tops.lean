/-! What the calls themselves answer: which exception (0: none), and the row behind them -/
def svS (sv f : Int → Int) (sm : Int) : Int → Int := cpS (if sm = 4 then shS sv 513 else sv) f (171 * (if sm = 4 then 3 else sm)) 171
def smS (sm : Int) : Int := (if sm = 4 then 3 else sm) + 1
def thAdd (f : Int → Int) (b : Int) : Int := if 0 ≤ b ∧ b ≤ f 1 - 1 then (if f 2 = 4 ∨ isFree f b = false then 2 else 0) else 1
def addT (f : Int → Int) (b : Int) : Int → Int := stands (put (put (put (put (zu f 2 (f 2 + 1)) (f 2) 0 (brakeOf f b)) (f 2) 3 (f 7)) (f 2) 6 0) (f 2) 7 0) (f 2)
def thTake (f : Int → Int) : Int := if f 2 = 0 then 1 else 0
def thRes (f : Int → Int) (t : Int) : Int := if 0 ≤ t ∧ t ≤ f 2 - 1 then (if f (79 + 8 * t + 4) = 2 then 0 else 2) else 1
def resT (f : Int → Int) (t : Int) : Int → Int := stands (put f t 0 (brakeOf f (blockAt f (f (79 + 8 * t + 0))))) t
def canBe (w v : Int) : Bool := decide ((w = 0 ∧ 0 ≤ v ∧ v ≤ 20) ∨ (w = 1 ∧ 1 ≤ v ∧ v ≤ 50) ∨ (w = 2 ∧ 0 ≤ v ∧ v ≤ 500) ∨ (w = 3 ∧ 0 ≤ v ∧ v ≤ 40))
def thSet (w v : Int) : Int := if 0 ≤ w ∧ w ≤ 3 then (if canBe w v = true then 0 else 2) else 1
def thHgt (f : Int → Int) (c h : Int) : Int := if 0 ≤ c ∧ c ≤ f 0 - 1 then (if 0 ≤ h ∧ h ≤ 9 then 0 else 2) else 1
def thPass (f : Int → Int) (n : Int) : Int := if 1 ≤ n ∧ n ≤ 500 then (if 100000 < f 3 + n then 2 else 0) else 1
def thIn (i m w k : Int) : Int := if 0 ≤ i ∧ i ≤ m then (if 0 ≤ w ∧ w ≤ k then 0 else 2) else 1
def thOne (i m : Int) : Int := if 0 ≤ i ∧ i ≤ m then 0 else 1
def cpO (f sv : Int → Int) (o : Int) : Nat → Int → Int
  | 0 => f
  | n + 1 => zu (cpO f sv o n) (n : Int) (sv (o + (n : Int)))
def stopS (f : Int → Int) (t : Int) : Nat → Nat → Nat
  | 0, n => n
  | k + 1, n => if ticks f n (79 + 8 * t + 7) = f (79 + 8 * t + 7) then stopS f t k (n + 1) else n
def toStation (f : Int → Int) (t : Int) : Int := if f (79 + 8 * t + 7) < ticks f (stopS f t 2000 0) (79 + 8 * t + 7) then (stopS f t 2000 0 : Nat) else -1
def dispWith (f : Int → Int) (g : Int) : Int := ticks (zu f 6 g) 1000 8 - f 8
/-- the greatest friction of the first n + 1, from above -/
def mostF (f : Int → Int) : Nat → Int
  | 0 => -1
  | n + 1 => if mostF f n = -1 then (if toValley (zu f 4 (20 - (n : Int))) 500 = -1 then 20 - (n : Int) else -1) else mostF f n
def wsum (f : Int → Int) : Nat → Int
  | 0 => 0
  | n + 1 => wsum f n + f (79 + 8 * (n : Int) + 3)
def bis (f : Int → Int) (c : Int) : Nat → Int → Int → Int
  | 0, lo, _ => lo
  | k + 1, lo, hi => if lo < hi then (if cb f (f 4) 30 c ((lo + hi) / 2) = true then bis f c k lo ((lo + hi) / 2) else bis f c k ((lo + hi) / 2 + 1) hi) else lo
def leastS (f : Int → Int) (c : Int) : Int := if 9999 < bis f c 20 0 10000 then -1 else bis f c 20 0 10000
def thApp (v ln : Int) : Int := if 0 ≤ v ∧ v ≤ 127 then (if ln = 90 then 2 else 0) else 1
def parsed (f x : Int → Int) : Nat → Int → Int
  | 0 => begun f
  | n + 1 => addCell (parsed f x n) (x (2 * (n : Int)) - 48) (kindBy (x (2 * (n : Int) + 1)))
theorem Wf_zu2 {f : Int → Int} {v : Int} (hW : Wf f) (hv : 0 ≤ v ∧ v ≤ 4) : Wf (zu f 2 v) := by
  obtain ⟨a0, a1, a2, a3, a4, a5, a6⟩ := hW
  have o : ∀ i : Int, i ≠ 2 → zu f 2 v i = f i := fun i h => zu_n h
  refine ⟨by rw [o 0 (by omega)]; exact a0, by rw [o 1 (by omega)]; exact a1, by rw [zu_s]; exact hv, ?_, fun c c0 c1 => ?_, fun c c0 c1 => ?_, fun t t0 t1 => ?_⟩
  · rw [o 0 (by omega), o 1 (by omega), cnt_congr (f := f) (fun k hk => o _ (by omega))]; exact a3
  · rw [o _ (by omega)]; exact a4 c c0 c1
  · rw [o _ (by omega)]; exact a5 c c0 c1
  · rw [o _ (by omega), o _ (by omega), o _ (by omega)]; exact a6 t t0 t1
theorem brk_congr {f g : Int → Int} {b : Int} (h : ∀ i : Int, 41 ≤ i → i < 71 → g i = f i) : ∀ n c : Nat, n + c ≤ 30 → brk g b n c = brk f b n c := by
  intro n
  induction n with
  | zero => intro c _; rfl
  | succ n ih =>
    intro c hc
    simp only [brk]
    rw [h _ (by omega) (by omega), cnt_congr (f := f) (n := c) (fun k hk => h _ (by omega) (by omega)), ih (c + 1) (by omega)]
theorem brakeOf_congr {f g : Int → Int} {b : Int} (h : ∀ i : Int, 41 ≤ i → i < 71 → g i = f i) : brakeOf g b = brakeOf f b := brk_congr h 30 0 (by omega)
theorem cpN_at (g f : Int → Int) (n : Nat) {i : Int} (h0 : 0 ≤ i) : cpN g f n i = if i < (n : Int) then f i else g i := by
  induction n with
  | zero => simp only [cpN]; rw [if_neg (by omega)]
  | succ n ih =>
    simp only [cpN]
    by_cases e : i = (n : Int)
    · subst e; rw [zu_s, if_pos (by omega)]
    · rw [zu_n e, ih]
      by_cases q : i < (n : Int)
      · rw [if_pos q, if_pos (by omega)]
      · rw [if_neg q, if_neg (by omega)]
theorem zC_ext {cA : ClassId} {n : Nat} {f g : Int → Int} (h : ∀ i : Int, 0 ≤ i → i < (n : Int) → f i = g i) : vp_cell cA (n, .inl (zA f)) = vp_cell cA (n, .inl (zA g)) := zA_ext (fun j hj => by unfold zA; rw [h _ (by omega) (by omega)])
theorem zD_same {A : Nat → Prop} {w w' : va_W} (h : w.map (·.1) = w'.map (·.1)) (q : va_D A w) : va_D A w' := by
  rw [zD_iff] at q ⊢
  refine ⟨by rw [← h]; exact q.1, fun x hx => ?_⟩
  have h1 : x.1 ∈ w'.map (·.1) := List.mem_map.mpr ⟨x, hx, rfl⟩
  rw [← h] at h1
  obtain ⟨z, hz, e⟩ := List.mem_map.mp h1
  rw [← e]
  exact q.2 z hz
theorem ticks_InvX {f : Int → Int} (h : Inv 102000 f) (n : Nat) (hn : n ≤ 2000) : InvX (ticks f n) := ⟨_, (ticks_inv h n (by omega)).1, by omega⟩
theorem Inv_le {N M : Int} {f : Int → Int} (h : Inv N f) (hm : N ≤ M) : Inv M f := ⟨by have := h.1; omega, h.2⟩
theorem Inv_zu4 {N v : Int} {f : Int → Int} (h : Inv N f) (hv : 0 ≤ v ∧ v ≤ 20) : Inv N (zu f 4 v) := by
  obtain ⟨h1, hW, hS, hT⟩ := h
  have o : ∀ i : Int, i ≠ 4 → zu f 4 v i = f i := fun i h => zu_n h
  have e3 := o 3 (by omega)
  refine ⟨by rw [e3]; exact h1, Wf_congr hW (fun i _ _ => o i (by omega)) (fun i _ _ => o i (by omega)) (fun t t0 t1 => ?_), ?_, fun t t0 t1 => ⟨?_, by rw [e3]; exact (hT t t0 t1).2⟩⟩
  · rw [o _ (by omega), o _ (by omega)]; exact hW.2.2.2.2.2.2 t t0 t1
  · unfold Sn at hS ⊢
    rw [zu_s, o 5 (by omega), o 6 (by omega), o 7 (by omega), e3, o 8 (by omega), o 9 (by omega), o 10 (by omega)]
    exact ⟨hv, hS.2⟩
  · have k := (hT t t0 t1).1
    unfold Tn at k ⊢
    rw [o _ (by omega), o _ (by omega), o _ (by omega), o _ (by omega), o _ (by omega), o _ (by omega)]
    exact k
theorem Inv_zu6 {N v : Int} {f : Int → Int} (h : Inv N f) (hv : 0 ≤ v ∧ v ≤ 500) : Inv N (zu f 6 v) := by
  obtain ⟨h1, hW, hS, hT⟩ := h
  have o : ∀ i : Int, i ≠ 6 → zu f 6 v i = f i := fun i h => zu_n h
  have e3 := o 3 (by omega)
  refine ⟨by rw [e3]; exact h1, Wf_congr hW (fun i _ _ => o i (by omega)) (fun i _ _ => o i (by omega)) (fun t t0 t1 => ?_), ?_, fun t t0 t1 => ⟨?_, by rw [e3]; exact (hT t t0 t1).2⟩⟩
  · rw [o _ (by omega), o _ (by omega)]; exact hW.2.2.2.2.2.2 t t0 t1
  · unfold Sn at hS ⊢
    rw [zu_s, o 4 (by omega), o 5 (by omega), o 7 (by omega), e3, o 8 (by omega), o 9 (by omega), o 10 (by omega)]
    exact ⟨hS.1, hS.2.1, hv, hS.2.2.2⟩
  · have k := (hT t t0 t1).1
    unfold Tn at k ⊢
    rw [o _ (by omega), o _ (by omega), o _ (by omega), o _ (by omega), o _ (by omega), o _ (by omega)]
    exact k
theorem lyn_rng (f : Int → Int) (n : Nat) : 0 ≤ lyn f n ∧ lyn f n ≤ n := by
  induction n with
  | zero => simp [lyn]
  | succ n ih => simp only [lyn]; split <;> omega
theorem toValley_rng (f : Int → Int) (n : Nat) : -1 ≤ toValley f n ∧ toValley f n ≤ n := by
  have h : ∀ k m : Nat, stop f (lyn f (f 2).toNat) k m ≤ k + m := by
    intro k
    induction k with
    | zero => intro m; simp [stop]
    | succ k ih => intro m; simp only [stop]; split
                   · have := ih (m + 1); omega
                   · omega
  have := h n 0
  unfold toValley
  simp only [Int.toNat_natCast]
  split <;> omega
theorem mostF_keep {f : Int → Int} {n m : Nat} (h : mostF f n ≠ -1) (hm : n ≤ m) : mostF f m = mostF f n := by
  induction m with
  | zero => have : n = 0 := by omega
            rw [this]
  | succ m ih =>
    by_cases q : n = m + 1
    · rw [q]
    · have e := ih (by omega)
      simp only [mostF]
      rw [if_neg (by rw [e]; exact h), e]
theorem bgn_at (f : Int → Int) (n : Nat) {i : Int} (h0 : 0 ≤ i) : bgn f n i = if i < (n : Int) then (if 4 ≤ i ∧ i ≤ 7 then f i else 0) else f i := by
  induction n with
  | zero => simp only [bgn]; rw [if_neg (by omega)]
  | succ n ih =>
    have ih2 : bgn f n (n : Int) = f (n : Int) := by
      have : ∀ k : Nat, ∀ j : Int, (k : Int) ≤ j → bgn f k j = f j := by
        intro k
        induction k with
        | zero => intro j _; rfl
        | succ k ik => intro j hj; simp only [bgn]; rw [zu_n (by omega)]; exact ik j (by omega)
      exact this n _ (by omega)
    simp only [bgn]
    by_cases e : i = (n : Int)
    · subst e; rw [zu_s, if_pos (show (n : Int) < ((n + 1 : Nat) : Int) by omega), ih2]
    · rw [zu_n e, ih]
      by_cases q : i < (n : Int)
      · rw [if_pos q, if_pos (show i < ((n + 1 : Nat) : Int) by omega)]
      · rw [if_neg q, if_neg (show ¬ i < ((n + 1 : Nat) : Int) by omega)]
theorem begun_at (f : Int → Int) {i : Int} (h0 : 0 ≤ i) (h1 : i < 171) : begun f i = if i = 9 then -1 else if 4 ≤ i ∧ i ≤ 7 then f i else 0 := by
  unfold begun
  by_cases e : i = 9
  · rw [e, zu_s, if_pos rfl]
  · rw [zu_n e, bgn_at f 171 h0, if_pos (by omega), if_neg e]
theorem begun_0 (f : Int → Int) : begun f 0 = ((0 : Nat) : Int) := by rw [begun_at f (by omega) (by omega), if_neg (by omega), if_neg (by omega)]; rfl
theorem addCell_0 {f : Int → Int} {h k : Int} (h0 : 0 ≤ f 0) : addCell f h k 0 = f 0 + 1 := by
  unfold addCell
  rw [zu_n (by omega), zu_s]
theorem fst_rng (x : Int → Int) (n : Nat) : -1 ≤ fst' x n ∧ fst' x n < n := by
  induction n with
  | zero => simp [fst']
  | succ n ih => simp only [fst']; split <;> omega
theorem fault_rng {x : Int → Int} {ln : Int} (hl : 0 ≤ ln ∧ ln ≤ 90) : -1 ≤ fault x ln ∧ fault x ln ≤ 90 := by
  have := fst_rng x ln.toNat
  unfold fault
  split
  · split <;> omega
  · omega
/-- a text without a fault -/
theorem fault_ok {x : Int → Int} {ln : Int} (hl : 0 ≤ ln ∧ ln ≤ 90) (h : fault x ln = -1) : ln % 2 = 0 ∧ 4 ≤ ln / 2 ∧ ln / 2 ≤ 30 ∧ 2 ≤ brs x ln.toNat ∧ fst' x ln.toNat = -1 := by
  have hf := fst_rng x ln.toNat
  unfold fault at h
  by_cases e : fst' x ln.toNat = -1
  · rw [if_pos e] at h
    by_cases q : ln % 2 = 1 ∨ ln / 2 < 4 ∨ brs x ln.toNat < 2
    · rw [if_pos q] at h; omega
    · have h30 : ln / 2 ≤ 30 := by
        rcases Int.lt_or_le 60 ln with z | z
        · have b60 : bad x 60 = true := (bad_even (n := 60) (by decide)).mpr (Or.inr (by decide))
          have k0 : fst' x 60 = -1 := by
            rcases Decidable.em (fst' x 60 = -1) with z2 | z2
            · exact z2
            · exact absurd (by rw [fst_keep z2 (show 60 ≤ ln.toNat by omega)] at e; exact e) z2
          have k1 : fst' x 61 = 60 := by
            show (if fst' x 60 = -1 ∧ bad x 60 = true then ((60 : Nat) : Int) else fst' x 60) = 60
            rw [if_pos ⟨k0, b60⟩]; rfl
          have := fst_keep (x := x) (n := 61) (m := ln.toNat) (by rw [k1]; decide) (by omega)
          rw [k1, e] at this
          omega
        · omega
      omega
  · rw [if_neg e] at h; omega
