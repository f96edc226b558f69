theorem wd_0 : Wd 0 := by unfold Wd; decide +kernel
theorem wd_32 : Wd 32 := by unfold Wd; decide +kernel
theorem wd_48 : Wd 48 := by unfold Wd; decide +kernel
theorem wd_98 : Wd 98 := by unfold Wd; decide +kernel
theorem wd_120 : Wd 120 := by unfold Wd; decide +kernel
theorem wd_12334 : Wd 12334 := by unfold Wd; decide +kernel
theorem wd_12336 : Wd 12336 := by unfold Wd; decide +kernel
theorem wd_12354 : Wd 12354 := by unfold Wd; decide +kernel
theorem wd_12386 : Wd 12386 := by unfold Wd; decide +kernel
theorem wd_12408 : Wd 12408 := by unfold Wd; decide +kernel
theorem wd_811741282 : Wd 811741282 := by unfold Wd; decide +kernel
theorem wd_53198276669486 : Wd 53198276669486 := by unfold Wd; decide +kernel
theorem wd_13618758827388464 : Wd 13618758827388464 := by unfold Wd; decide +kernel
theorem wd_13618758827401826 : Wd 13618758827401826 := by unfold Wd; decide +kernel
theorem wd_3486402036473147438 : Wd 3486402036473147438 := by unfold Wd; decide +kernel
theorem wd_3486402259811446830 : Wd 3486402259811446830 := by unfold Wd; decide +kernel
theorem wd_3486402259814854754 : Wd 3486402259814854754 := by unfold Wd; decide +kernel
theorem wd_4137745251527962988 : Wd 4137745251527962988 := by unfold Wd; decide +kernel
set_option maxRecDepth 100000 in
theorem tld_3 : tldV (typ3 0 0 0) = (-10) := by decide +kernel
set_option maxRecDepth 100000 in
theorem tld_16 : tldV (typ3 3486402259811446830 0 0) = 4 := by decide +kernel
set_option maxRecDepth 100000 in
theorem tld_28 : tldV (typ3 53198276669486 0 0) = (-16) := by decide +kernel
set_option maxRecDepth 100000 in
theorem tld_41 : tldV (typ3 3486402036473147438 0 0) = (-18) := by decide +kernel
set_option maxRecDepth 100000 in
theorem tld_56 : tldV (typ3 13618758827388464 0 0) = (-17) := by decide +kernel
set_option maxRecDepth 100000 in
theorem tld_69 : tldV (typ3 98 0 0) = (-10) := by decide +kernel
set_option maxRecDepth 100000 in
theorem tld_82 : tldV (typ3 12408 0 0) = (-11) := by decide +kernel
set_option maxRecDepth 100000 in
theorem tld_95 : tldV (typ3 12336 0 0) = (-11) := by decide +kernel
set_option maxRecDepth 100000 in
theorem tld_112 : tldV (typ3 3486402259811446830 120 0) = (-18) := by decide +kernel
set_option maxRecDepth 100000 in
theorem tld_127 : tldV (typ3 3486402259811446830 32 0) = (-18) := by decide +kernel
set_option maxRecDepth 100000 in
theorem tld_140 : tldV (typ3 12354 0 0) = (-11) := by decide +kernel
set_option maxRecDepth 100000 in
theorem tld_153 : tldV (typ3 4137745251527962988 0 0) = 4 := by decide +kernel
set_option maxRecDepth 100000 in
theorem tld_169 : tldV (typ3 3486402259814854754 3486402259814854754 0) = 8 := by decide +kernel
set_option maxRecDepth 100000 in
theorem tld_186 : tldV (typ3 3486402259814854754 3486402259814854754 12386) = (-27) := by decide +kernel
set_option maxRecDepth 100000 in
theorem tld_203 : tldV (typ3 3486402259814854754 3486402259814854754 12334) = 9 := by decide +kernel
set_option maxRecDepth 100000 in
theorem tld_216 : tldV (typ3 48 0 0) = (-11) := by decide +kernel
set_option maxRecDepth 100000 in
theorem tld_231 : tldV (typ3 13618758827401826 0 0) = (-16) := by decide +kernel
theorem tp_len {f : Nat → Nat} : True := trivial
def tp0 : CSt := typW 811741282 8 new0
def tpL : Nat → CSt
  | 0 => tp0
  | n + 1 => typS (tpL n) (if n % 2 = 0 then 51 else 46)
theorem tp0_len : tp0.2.2.2.2 = 4 := by decide +kernel
theorem tpL_len : ∀ n : Nat, n ≤ 86 → (tpL n).2.2.2.2 = 4 + (n : Int) := by
  intro n
  induction n with
  | zero => intro _; exact tp0_len
  | succ n ih =>
    intro hn
    have k := ih (by omega)
    have q := (typ_in (st := tpL n) (v := if n % 2 = 0 then 51 else 46) (by split <;> omega) (by omega)).2
    show (typS (tpL n) (if n % 2 = 0 then 51 else 46)).2.2.2.2 = _
    rw [q]
    show (tpL n).2.2.2.2 + 1 = _
    omega
theorem tpL_even {n : Nat} (h : (n : Int) % 2 = 0) : typS (tpL n) 51 = tpL (n + 1) := by
  show _ = typS (tpL n) (if n % 2 = 0 then 51 else 46)
  rw [if_pos (by omega)]
theorem tpL_odd {n : Nat} (h : ¬ (n : Int) % 2 = 0) : typS (tpL n) 46 = tpL (n + 1) := by
  show _ = typS (tpL n) (if n % 2 = 0 then 51 else 46)
  rw [if_neg (by omega)]
def tX1 : CSt := parS (tpL 56)
def tX2 : CSt := typS tX1 48
def tqL : Nat → CSt
  | 0 => tX2
  | n + 1 => typS (tqL n) 46
set_option maxRecDepth 100000 in
theorem tx_f1 : fault (tpL 56).2.2.2.1 (tpL 56).2.2.2.2 = -1 := by decide +kernel
set_option maxRecDepth 100000 in
theorem tx_l1 : (tpL 56).2.2.2.2 / 2 = 30 := by rw [tpL_len 56 (by decide)]; decide
theorem txd_len (st : CSt) (x : Int → Int) (ln : Int) : (txd st x ln).2.2.2.2 = ln := rfl
theorem par_keep (st : CSt) : (parS st).2.2.2 = st.2.2.2 := rfl
theorem tx_len1 : tX1.2.2.2.2 = 60 := by
  have e : tX1.2.2.2.2 = (tpL 56).2.2.2.2 := congrArg (fun z : (Int → Int) × Int => z.2) (par_keep (tpL 56))
  rw [e, tpL_len 56 (by decide)]
  decide
theorem tx_len2 : tX2.2.2.2.2 = 61 := by
  have k := tx_len1
  have q := (typ_in (st := tX1) (v := 48) (by decide) (by omega)).2
  have e : tX2 = typS tX1 48 := rfl
  rw [e, q, txd_len, k]
  decide
theorem tqL_len : ∀ n : Nat, n ≤ 29 → (tqL n).2.2.2.2 = 61 + (n : Int) := by
  intro n
  induction n with
  | zero => intro _; rw [show tqL 0 = tX2 from rfl, tx_len2]; decide
  | succ n ih =>
    intro hn
    have k := ih (by omega)
    have q := (typ_in (st := tqL n) (v := 46) (by decide) (by omega)).2
    show (typS (tqL n) 46).2.2.2.2 = _
    rw [q]
    show (tqL n).2.2.2.2 + 1 = _
    omega
theorem tqL_s (n : Nat) : typS (tqL n) 46 = tqL (n + 1) := rfl
def tX4 : CSt := txd (tqL 29) (tqL 29).2.2.2.1 0
def tX5 : CSt := txd tX4 tX4.2.2.2.1 0
def tX6 : CSt := undn tX5
set_option maxRecDepth 100000 in
theorem tx_f2 : fault tX2.2.2.2.1 tX2.2.2.2.2 = 60 := by decide +kernel
set_option maxRecDepth 100000 in
theorem tx_f3 : fault (tqL 29).2.2.2.1 (tqL 29).2.2.2.2 = 60 := by decide +kernel
set_option maxRecDepth 100000 in
theorem tx_f5 : fault tX5.2.2.2.1 tX5.2.2.2.2 = 0 := by decide +kernel
set_option maxRecDepth 100000 in
theorem tx_a306 : allV tX1 0 = 30 := by decide +kernel
set_option maxRecDepth 100000 in
theorem tx_a316 : allV tX1 1 = 2 := by decide +kernel
set_option maxRecDepth 100000 in
theorem tx_a326 : blkV tX1 0 2 = 29 := by decide +kernel
set_option maxRecDepth 100000 in
theorem tx_a337 : blkV tX1 0 0 = 2 := by decide +kernel
set_option maxRecDepth 100000 in
theorem tx_a366 : allV tX2 0 = 30 := by decide +kernel
set_option maxRecDepth 100000 in
theorem tx_a377 : allV tX2 11 = 3 := by decide +kernel
set_option maxRecDepth 100000 in
theorem tx_a481 : allV tX6 0 = 14 := by decide +kernel
set_option maxRecDepth 100000 in
theorem tx_s5 : tX5.2.2.1 = 1 := by decide +kernel
set_option maxRecDepth 100000 in
theorem tx_s6 : tX6.2.2.1 = 0 := by decide +kernel
theorem full_typ {st : CSt} (h : st.2.2.2.2 = 90) : typV st 46 = -3003 ∧ typS st 46 = st := by
  have e0 : thApp 46 st.2.2.2.2 = 2 := by unfold thApp; rw [if_pos (by decide), if_pos h]
  exact ⟨v3_2 e0, s3_n (by omega)⟩
