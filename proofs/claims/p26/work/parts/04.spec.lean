/-! What both sides reckon, on the row of 171 numbers: 0 cells, 1 blocks, 2 trains, 3 ticks, 4 friction, 5 dwell, 6 gap, 7 air, 8 dispatches, 9 the latest, 10 kept, 11 heights, 41 kinds, 71 waits, 79 trains by eights, 111 the log by twos -/
def cnt (f : Int → Int) : Nat → Int
  | 0 => 0
  | n + 1 => cnt f n + (if f (41 + (n : Int)) = 2 then 1 else 0)
def blockAt (f : Int → Int) (c : Int) : Int := if cnt f c.toNat = f 1 then 0 else cnt f c.toNat
def brk (f : Int → Int) (b : Int) : Nat → Nat → Int
  | 0, c => c
  | n + 1, c => if f (41 + (c : Int)) = 2 ∧ cnt f c = b then c else brk f b n (c + 1)
def brakeOf (f : Int → Int) (b : Int) : Int := brk f b 30 0
def after (f : Int → Int) (c : Int) : Int := if c + 1 = f 0 then 0 else c + 1
def nextB (f : Int → Int) (b : Int) : Int := if b + 1 = f 1 then 0 else b + 1
def ahead (f : Int → Int) (b : Int) : Int := if b = 0 then f 1 - 1 else b - 1
def tri (f : Int → Int) (b : Int) : Nat → Int
  | 0 => -1
  | n + 1 => if tri f b n = -1 ∧ blockAt f (f (79 + 8 * (n : Int) + 0)) = b then (n : Int) else tri f b n
def trainIn (f : Int → Int) (b : Int) : Int := tri f b (f 2).toNat
def nob (f : Int → Int) (br : Int) : Nat → Bool
  | 0 => true
  | n + 1 => nob f br n && !(decide (f (79 + 8 * (n : Int) + 4) = 0) && decide (f (79 + 8 * (n : Int) + 0) = br))
def isFree (f : Int → Int) (b : Int) : Bool := decide (trainIn f b = -1) && nob f (brakeOf f (ahead f b)) (f 2).toNat
def rt (n : Int) : Nat → Int
  | 0 => 0
  | k + 1 => if (rt n k + 1) * (rt n k + 1) ≤ n then rt n k + 1 else rt n k
def root (n : Int) : Int := rt n 100
def drag (f : Int → Int) (t : Int) : Int := f 4 + (if f (79 + 8 * t + 3) < 60 then (60 - f (79 + 8 * t + 3)) / 10 else 0)
def put (f : Int → Int) (t w v : Int) : Int → Int := zu f (79 + 8 * t + w) v
def stands (f : Int → Int) (t : Int) : Int → Int := put (put (put (put f t 4 1) t 1 0) t 2 0) t 5 0
def lies (f : Int → Int) (t : Int) : Int → Int := put (put (put f t 4 2) t 1 0) t 2 0
def isGap (f : Int → Int) : Bool := decide (f 9 = -1) || decide (f 6 ≤ f 3 - f 9)
def holds (f : Int → Int) (t stood : Int) : Int :=
  if isFree f (nextB f (blockAt f (f (79 + 8 * t + 0)))) = true then (if blockAt f (f (79 + 8 * t + 0)) = 0 then (if stood < f 5 then 3 else if isGap f = true then 5 else 4) else 5) else 2
def shl (f : Int → Int) : Nat → Int → Int
  | 0 => f
  | n + 1 => zu (shl f n) (111 + (n : Int)) (shl f n (111 + (n : Int) + 2))
def room30 (f : Int → Int) : Int → Int := if f 10 = 30 then zu (shl f 58) 10 (shl f 58 10 - 1) else f
def logd (f : Int → Int) (t : Int) : Int → Int :=
  zu (zu (zu (zu (zu f (111 + 2 * f 10) (f 3)) (111 + 2 * f 10 + 1) t) 10 (f 10 + 1)) 8 (f 8 + 1)) 9 (f 3)
def dispatches (f : Int → Int) (t : Int) : Int → Int := logd (room30 f) t
def runs (f : Int → Int) (t : Int) : Int → Int := put (put (put (put f t 4 0) t 1 25) t 2 0) t 5 0
def waits (f : Int → Int) (t : Int) : Int → Int :=
  if holds (put f t 5 (f (79 + 8 * t + 5) + 1)) t (f (79 + 8 * t + 5) + 1) = 5 then
    runs (if blockAt f (f (79 + 8 * t + 0)) = 0 then dispatches (put f t 5 (f (79 + 8 * t + 5) + 1)) t else put f t 5 (f (79 + 8 * t + 5) + 1)) t
  else put f t 5 (f (79 + 8 * t + 5) + 1)
def comes (f : Int → Int) (t : Int) : Int → Int :=
  put (zu (stands f t) (71 + blockAt f (f (79 + 8 * t + 0))) (stands f t (71 + blockAt f (f (79 + 8 * t + 0))) + (if isFree (stands f t) (nextB f (blockAt f (f (79 + 8 * t + 0)))) = true then 0 else 1))) t 7 (f (79 + 8 * t + 7) + (if blockAt f (f (79 + 8 * t + 0)) = 0 then 1 else 0))
def sqr (f : Int → Int) (a b sq d : Int) : Int := if f (41 + b) = 1 then 25 else sq + 100 * f (11 + a) - 100 * f (11 + b) - d
def squareOn (f : Int → Int) (a b sq d : Int) : Int := if 9999 < sqr f a b sq d then 9999 else sqr f a b sq d
def came (f : Int → Int) (t sq : Int) : Int → Int := put (put (put f t 0 (after f (f (79 + 8 * t + 0)))) t 6 (f (79 + 8 * t + 6) + 1)) t 1 sq
def moves (f : Int → Int) (t : Int) : Int → Int :=
  if squareOn f (f (79 + 8 * t + 0)) (after f (f (79 + 8 * t + 0))) (f (79 + 8 * t + 1)) (drag f t) < 0 then lies f t
  else if f (41 + after f (f (79 + 8 * t + 0))) = 2 then comes (came f t (squareOn f (f (79 + 8 * t + 0)) (after f (f (79 + 8 * t + 0))) (f (79 + 8 * t + 1)) (drag f t))) t
  else if squareOn f (f (79 + 8 * t + 0)) (after f (f (79 + 8 * t + 0))) (f (79 + 8 * t + 1)) (drag f t) = 0 ∧ ¬ f (41 + after f (f (79 + 8 * t + 0))) = 1 then lies (came f t (squareOn f (f (79 + 8 * t + 0)) (after f (f (79 + 8 * t + 0))) (f (79 + 8 * t + 1)) (drag f t))) t
  else came f t (squareOn f (f (79 + 8 * t + 0)) (after f (f (79 + 8 * t + 0))) (f (79 + 8 * t + 1)) (drag f t))
def by' (f : Int → Int) (t : Int) : Int := if f (41 + f (79 + 8 * t + 0)) = 1 then 5 else root (f (79 + 8 * t + 1))
def goes (f : Int → Int) (t : Int) : Int → Int :=
  if f (79 + 8 * t + 2) + by' f t < 100 then put f t 2 (f (79 + 8 * t + 2) + by' f t)
  else moves (put (put f t 2 (f (79 + 8 * t + 2) + by' f t)) t 2 (f (79 + 8 * t + 2) + by' f t - 100)) t
def heat (f : Int → Int) (t : Int) : Int := f (79 + 8 * t + 3) + (if f (79 + 8 * t + 4) = 0 then root (f (79 + 8 * t + 1)) / 10 else 0)
def cap100 (w : Int) : Int := if 100 < w then 100 else w
def near (w air : Int) : Int := if w < air then w + 1 else if air < w then w - 1 else w
def warms (f : Int → Int) (t : Int) : Int → Int := put f t 3 (near (cap100 (heat f t)) (f 7))
def step (f : Int → Int) (t : Int) : Int → Int :=
  warms (if f (79 + 8 * t + 4) = 1 then waits f t else if f (79 + 8 * t + 4) = 0 then goes f t else f) t
def steps (f : Int → Int) : Nat → Int → Int
  | 0 => f
  | n + 1 => step (steps f n) (n : Int)
def tick (f : Int → Int) : Int → Int := zu (steps f (f 2).toNat) 3 (f 3 + 1)
def ticks (f : Int → Int) : Nat → Int → Int
  | 0 => f
  | n + 1 => tick (ticks f n)
/-- the arrays' kinds -/
abbrev zT (y : Nat → ClassId) : List (ClassId × FieldType) := [(y 0, .int), (y 1, .object "BlockCoaster$Train"), (y 2, .object "BlockCoaster$Ride"), (y 3, .long)]
section WM
variable {y : Nat → ClassId} {a : Nat → Nat} {f sv ai tx g : Int → Int} {sm ln th hh x : Int}
end WM
def tro (f : Int → Int) (c : Int) : Nat → Int
  | 0 => -1
  | n + 1 => if f (79 + 8 * (n : Int) + 0) = c then (n : Int) else tro f c n
def cellOf (f : Int → Int) (c w : Int) : Int := if w = 0 then f (11 + c) else if w = 1 then f (41 + c) else if w = 2 then blockAt f c else tro f c (f 2).toNat
def cls (f : Int → Int) (b : Int) : Nat → Int
  | 0 => 0
  | n + 1 => cls f b n + (if blockAt f (n : Int) = b then 1 else 0)
def lyn (f : Int → Int) : Nat → Int
  | 0 => 0
  | n + 1 => lyn f n + (if f (79 + 8 * (n : Int) + 4) = 2 then 1 else 0)
def hgh (f : Int → Int) : Nat → Int
  | 0 => 0
  | n + 1 => if hgh f n < f (11 + (n : Int)) then f (11 + (n : Int)) else hgh f n
def valueOf (f : Int → Int) (w : Int) : Int := if w < 10 then f w else if w = 10 then lyn f (f 2).toNat else hgh f (f 0).toNat
def whyOf (f : Int → Int) (t : Int) : Int := if f (79 + 8 * t + 4) = 0 then 0 else if f (79 + 8 * t + 4) = 2 then 1 else holds f t (f (79 + 8 * t + 5) + 1)
def trainOf (f : Int → Int) (t w : Int) : Int :=
  if w = 0 then f (79 + 8 * t + 0) else if w = 1 then blockAt f (f (79 + 8 * t + 0)) else if w = 6 then (if f (79 + 8 * t + 4) = 1 then f (79 + 8 * t + 5) else 0) else if w = 7 then drag f t
  else if w < 6 then f (79 + 8 * t + (w - 1)) else f (79 + 8 * t + (w - 2))
def blockOf (f : Int → Int) (b w : Int) : Int :=
  if w = 0 then after f (brakeOf f (ahead f b)) else if w = 1 then brakeOf f b else if w = 2 then cls f b (f 0).toNat else if w = 3 then trainIn f b else f (71 + b)
/-- whether a train comes to the brake, within n cells -/
def cb (f : Int → Int) (d : Int) : Nat → Int → Int → Bool
  | 0, _, _ => true
  | n + 1, c, v => if f (41 + c) = 2 then true else if squareOn f c (after f c) v d < 0 ∨ (squareOn f c (after f c) v d = 0 ∧ f (41 + after f c) = 0) then false else cb f d n (after f c) (squareOn f c (after f c) v d)
/-- how far the brake of a cell's block is -/
def dist (f : Int → Int) (c : Int) : Int := if c ≤ brakeOf f (blockAt f c) then brakeOf f (blockAt f c) - c else f 0 - c + brakeOf f (blockAt f c)
def kindBy (c : Int) : Int := if c = 46 then 0 else if c = 108 then 1 else if c = 98 then 2 else -1
/-- the brake letters among the first n bytes -/
def brs (x : Int → Int) : Nat → Int
  | 0 => 0
  | n + 1 => brs x n + (if (n : Int) % 2 = 1 ∧ x (n : Int) = 98 then 1 else 0)
def bad (x : Int → Int) (n : Nat) : Bool :=
  if (n : Int) % 2 = 0 then !(decide (48 ≤ x (n : Int)) && decide (x (n : Int) ≤ 57)) || decide ((n : Int) / 2 = 30)
  else decide (kindBy (x (n : Int)) = -1) || (decide (kindBy (x (n : Int)) = 2) && decide (brs x n = 8))
def fst' (x : Int → Int) : Nat → Int
  | 0 => -1
  | n + 1 => if fst' x n = -1 ∧ bad x n = true then (n : Int) else fst' x n
def fault (x : Int → Int) (ln : Int) : Int := if fst' x ln.toNat = -1 then (if ln % 2 = 1 ∨ ln / 2 < 4 ∨ brs x ln.toNat < 2 then ln else -1) else fst' x ln.toNat
def addCell (f : Int → Int) (h k : Int) : Int → Int := zu (zu (zu (zu f (11 + f 0) h) (41 + f 0) k) 0 (f 0 + 1)) 1 (f 1 + (if k = 2 then 1 else 0))
def shS (g : Int → Int) : Nat → Int → Int
  | 0 => g
  | n + 1 => zu (shS g n) (n : Int) (shS g n ((n : Int) + 171))
def cpS (g f : Int → Int) (o : Int) : Nat → Int → Int
  | 0 => g
  | n + 1 => zu (cpS g f o n) (o + (n : Int)) (f (n : Int))
def cpN (g f : Int → Int) : Nat → Int → Int
  | 0 => g
  | n + 1 => zu (cpN g f n) (n : Int) (f (n : Int))
def bgn (f : Int → Int) : Nat → Int → Int
  | 0 => f
  | n + 1 => zu (bgn f n) (n : Int) (if 4 ≤ (n : Int) ∧ (n : Int) ≤ 7 then bgn f n (n : Int) else 0)
def begun (f : Int → Int) : Int → Int := zu (bgn f 171) 9 (-1)
/-- at which tick of the next ones a count is another one -/
def stop (f : Int → Int) (had : Int) : Nat → Nat → Nat
  | 0, n => n
  | k + 1, n => if lyn (ticks f n) (f 2).toNat = had then stop f had k (n + 1) else n
def toValley (f : Int → Int) (most : Int) : Int :=
  if lyn f (f 2).toNat < lyn (ticks f (stop f (lyn f (f 2).toNat) most.toNat 0)) (f 2).toNat then (stop f (lyn f (f 2).toNat) most.toNat 0 : Nat) else -1
