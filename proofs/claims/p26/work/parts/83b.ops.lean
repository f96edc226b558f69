/-! The calls as the law sees them: what each answers (a throw as the law tells it), and what it leaves -/
def v3 (th v e1 e2 : Int) : Int := if th = 0 then v else if th = 1 then e1 else e2
def s3 (th : Int) (st st' : CSt) : CSt := if th = 0 then st' else st
def addV (st : CSt) (b : Int) : Int := v3 (thAdd st.1 b) (st.1 2) (-3001) (-3003)
def addS (st : CSt) (b : Int) : CSt := s3 (thAdd st.1 b) st (savd st (addT st.1 b))
def takV (st : CSt) : Int := v3 (thTake st.1) (st.1 2 - 1) (-3003) (-3003)
def takS (st : CSt) : CSt := s3 (thTake st.1) st (savd st (zu st.1 2 (st.1 2 - 1)))
def resV (st : CSt) (t : Int) : Int := v3 (thRes st.1 t) (st.1 (79 + 8 * t + 0)) (-3001) (-3003)
def resS (st : CSt) (t : Int) : CSt := s3 (thRes st.1 t) st (savd st (resT st.1 t))
def setV (st : CSt) (w v : Int) : Int := v3 (thSet w v) (st.1 (4 + w)) (-3001) (-3002)
def setS (st : CSt) (w v : Int) : CSt := s3 (thSet w v) st (savd st (zu st.1 (4 + w) v))
def hgtV (st : CSt) (c z : Int) : Int := v3 (thHgt st.1 c z) (st.1 (11 + c)) (-3001) (-3002)
def hgtS (st : CSt) (c z : Int) : CSt := s3 (thHgt st.1 c z) st (savd st (zu st.1 (11 + c) z))
def pasV (st : CSt) (n : Int) : Int := v3 (thPass st.1 n) (ticks st.1 n.toNat 8 - st.1 8) (-3002) (-3003)
def pasS (st : CSt) (n : Int) : CSt := s3 (thPass st.1 n) st (savd st (ticks st.1 n.toNat))
def trnV (st : CSt) (t w : Int) : Int := v3 (thIn t (st.1 2 - 1) w 9) (trainOf st.1 t w) (-3001) (-3002)
def celV (st : CSt) (c w : Int) : Int := v3 (thIn c (st.1 0 - 1) w 3) (cellOf st.1 c w) (-3001) (-3002)
def blkV (st : CSt) (c w : Int) : Int := v3 (thIn c (st.1 1 - 1) w 4) (blockOf st.1 c w) (-3001) (-3002)
def allV (st : CSt) (w : Int) : Int := v3 (thOne w 11) (valueOf st.1 w) (-3002) (-3002)
def sntV (st : CSt) (i w : Int) : Int := v3 (thIn i (st.1 10 - 1) w 1) (st.1 (111 + 2 * (st.1 10 - 1 - i) + w)) (-3001) (-3002)
def whyV (st : CSt) (t : Int) : Int := v3 (thOne t (st.1 2 - 1)) (whyOf st.1 t) (-3001) (-3001)
def tosV (st : CSt) (t : Int) : Int := v3 (thOne t (st.1 2 - 1)) (toStation st.1 t) (-3001) (-3001)
def swtV (st : CSt) (gp : Int) : Int := v3 (thOne gp 500) (dispWith st.1 gp) (-3002) (-3002)
def lstV (st : CSt) (c : Int) : Int := v3 (thOne c (st.1 0 - 1)) (leastS st.1 c) (-3001) (-3001)
def typV (st : CSt) (v : Int) : Int := v3 (thApp v st.2.2.2.2) (st.2.2.2.2 + 1) (-3002) (-3003)
def typS (st : CSt) (v : Int) : CSt := s3 (thApp v st.2.2.2.2) st (txd st (zu st.2.2.2.1 st.2.2.2.2 v) (st.2.2.2.2 + 1))
def undV (st : CSt) : Int := v3 (if st.2.2.1 = 0 then 1 else 0) (st.2.2.1 - 1) (-3003) (-3003)
def undS (st : CSt) : CSt := s3 (if st.2.2.1 = 0 then 1 else 0) st (undn st)
theorem v3_0 {th v e1 e2 : Int} (h : th = 0) : v3 th v e1 e2 = v := if_pos h
theorem v3_1 {th v e1 e2 : Int} (h : th = 1) : v3 th v e1 e2 = e1 := by unfold v3; rw [if_neg (by omega), if_pos h]
theorem v3_2 {th v e1 e2 : Int} (h : th = 2) : v3 th v e1 e2 = e2 := by unfold v3; rw [if_neg (by omega), if_neg (by omega)]
theorem s3_0 {th : Int} {st st' : CSt} (h : th = 0) : s3 th st st' = st' := if_pos h
theorem s3_n {th : Int} {st st' : CSt} (h : th ≠ 0) : s3 th st st' = st := if_neg h
/-- the coaster's cells -/
def wC (y : Nat → ClassId) (o : Nat → Nat) (a : Nat → Nat → Nat) (S : Nat → Nat → Int → Int) (tb : Nat → Nat) (st : CSt) : va_W := wBq y o a S tb st.2.2.2.1 st.2.2.2.2 st.2.2.1 (sav a) p6
