/-! The abstract system that both sides are tied to. A plan P and a stream S are memories of their own.
P 0 p 0: ROOM, P 0 p 1: CLOCK, P 0 p 2: how many FRAMES; P 1 p f: SIZE; P 2 p f: DUE; P 3 0 0: TABLE; P 3 0 1: WIDE.
S 0 0 0: tick of the last TABLE, 1: LATE, 2: first LATE, 3: SHOWN, 4: never sent; S 1 p f: sent of a FRAME, S 2, S 3: first, last tick; S 4 0 p: HELD; S 5 0 p: COUNTER of p; S 6 0 p: last CLOCK; S 7 0 s, 8, 9, 10: kind, programme, frame, counter of slot s; S 11 p t: HELD behind t; S 12 0 k: how many of kind k; S 13 0 s: 1, if slot s is sent; S 14 0 t: 1, if tick t is past; S 15 p f: 1, if it is SHOWN. -/
def WFP (P : sw_M) : Prop := (∀ p, 0 ≤ p → p < 4 → (1 ≤ P 0 p 0 ∧ P 0 p 0 ≤ 40) ∧ (0 ≤ P 0 p 1 ∧ P 0 p 1 ≤ 50) ∧ (0 ≤ P 0 p 2 ∧ P 0 p 2 ≤ 10) ∧ (∀ f, 0 ≤ f → f < P 0 p 2 → (1 ≤ P 1 p f ∧ P 1 p f ≤ 9) ∧ (1 ≤ P 2 p f ∧ P 2 p f ≤ 99)) ∧ ∀ f, 0 ≤ f → f + 1 < P 0 p 2 → P 2 p f < P 2 p (f + 1)) ∧ (0 ≤ P 3 0 0 ∧ P 3 0 0 ≤ 50) ∧ (1 ≤ P 3 0 1 ∧ P 3 0 1 ≤ 4)
/-- how many of the first n frames of p have a due below t -/
def nDn (P : sw_M) (p t : Int) : Nat → Int
  | 0 => 0
  | n + 1 => nDn P p t n + (if P 2 p (n : Int) < t then 1 else 0)
def nD (P : sw_M) (p t : Int) : Int := nDn P p t (P 0 p 2).toNat
abbrev again (every last t : Int) : Prop := every ≠ 0 ∧ (last = -6 ∨ every ≤ t - last)
/-- (a) at tick t for programme p -/
def aShow (P S : sw_M) (t p : Int) : sw_M :=
  if nD P p t < P 0 p 2 ∧ P 2 p (nD P p t) = t then
    (if S 1 p (nD P p t) = P 1 p (nD P p t) then up (up (up S 15 p (nD P p t) 1) 4 0 p (S 4 0 p - S 1 p (nD P p t))) 0 0 3 (S 0 0 3 + 1)
     else up (up (up (up (up S 15 p (nD P p t) 0) 4 0 p (S 4 0 p - S 1 p (nD P p t))) 0 0 1 (S 0 0 1 + 1)) 0 0 4 (S 0 0 4 + (P 1 p (nD P p t) - S 1 p (nD P p t)))) 0 0 2 (if S 0 0 2 = -6 then t else S 0 0 2))
  else S
/-- the least programme, of the last k, whose clock comes again -/
def ck (P S : sw_M) (t : Int) : Nat → Int
  | 0 => -6
  | k + 1 => if again (P 0 (3 - (k : Int)) 1) (S 6 0 (3 - (k : Int))) t then 3 - (k : Int) else ck P S t k
/-- the first frame, of the last n of p, that is not due yet and not all sent -/
def opn (P S : sw_M) (t p : Int) : Nat → Int
  | 0 => -6
  | n + 1 => if t < P 2 p (P 0 p 2 - ((n : Int) + 1)) ∧ S 1 p (P 0 p 2 - ((n : Int) + 1)) < P 1 p (P 0 p 2 - ((n : Int) + 1)) then P 0 p 2 - ((n : Int) + 1) else opn P S t p n
def op (P S : sw_M) (t p : Int) : Int := opn P S t p (P 0 p 2).toNat
def cand (P S : sw_M) (t p : Int) : Int := if S 4 0 p < P 0 p 0 then op P S t p else -6
def nx (P S : sw_M) (t b p : Int) : Int := if cand P S t p ≠ -6 ∧ (b = -6 ∨ P 2 p (cand P S t p) < P 2 b (cand P S t b)) then p else b
def pgn (P S : sw_M) (t : Int) : Nat → Int
  | 0 => -6
  | n + 1 => nx P S t (pgn P S t n) (n : Int)
/-- slot s holds what, p, f, num; one more of its kind -/
def aNote (S : sw_M) (s what p f num : Int) : sw_M := up (up (up (up (up (up S 7 0 s what) 8 0 s p) 9 0 s f) 10 0 s num) 12 0 what (S 12 0 what + 1)) 13 0 s 1
/-- a packet of frame f of p at tick t -/
def aFrame (S : sw_M) (t p f : Int) : sw_M := up (up (up (up (up S 2 p f (if S 1 p f = 0 then t else S 2 p f)) 3 p f t) 1 p f (S 1 p f + 1)) 4 0 p (S 4 0 p + 1)) 5 0 p (S 5 0 p + 1)
def aSend (P S : sw_M) (t s : Int) : sw_M :=
  if again (P 3 0 0) (S 0 0 0) t then aNote (up S 0 0 0 t) s 1 (-6) (-6) (S 12 0 1 % 16)
  else if ck P S t 4 ≠ -6 then aNote (up (up S 6 0 (ck P S t 4) t) 5 0 (ck P S t 4) (S 5 0 (ck P S t 4) + 1)) s 2 (ck P S t 4) (-6) (S 5 0 (ck P S t 4) % 16)
  else if pgn P S t 4 ≠ -6 then aNote (aFrame S t (pgn P S t 4) (op P S t (pgn P S t 4))) s 3 (pgn P S t 4) (op P S t (pgn P S t 4)) (S 5 0 (pgn P S t 4) % 16)
  else aNote S s 0 (-6) (-6) 0
def aShows (P S : sw_M) (t : Int) : Nat → sw_M
  | 0 => S
  | p + 1 => aShow P (aShows P S t p) t (p : Int)
def aSends (P S : sw_M) (t : Int) : Nat → sw_M
  | 0 => S
  | i + 1 => aSend P (aSends P S t i) t (4 * t + (i : Int))
def aRec (S : sw_M) (t : Int) : Nat → sw_M
  | 0 => S
  | p + 1 => up (aRec S t p) 11 (p : Int) t (S 4 0 (p : Int))
def aTick (P S : sw_M) (t : Int) : sw_M := up (aRec (aSends P (aShows P S t 4) t (P 3 0 1).toNat) t 4) 14 0 t 1
def aS0 : sw_M := fun k _ j => if k = 2 ∨ k = 3 ∨ k = 6 ∨ (k = 0 ∧ (j = 0 ∨ j = 2)) then -6 else 0
def aSim (P : sw_M) : Nat → sw_M
  | 0 => aS0
  | t + 1 => aTick P (aSim P t) (t : Int)
def sim (P : sw_M) : sw_M := aSim P 100
def lateOf (P : sw_M) : Int := sim P 0 0 1
/-- the least n of 1 to top (n = top - k on) that g names -/
def leastN (g : Int → Prop) (dg : ∀ n, Decidable (g n)) (top : Int) : Nat → Int
  | 0 => -6
  | k + 1 => if g (top - (k : Int)) then top - (k : Int) else leastN g dg top k
-- lines
def pick5 (k a b c d e : Int) : Int := if k = 0 then a else if k = 1 then b else if k = 2 then c else if k = 3 then d else if k = 4 then e else 0
/-- sign k of word w; 0 behind its end -/
def wch (w k : Int) : Int := if w = 0 then pick5 k 102 114 97 109 101 else if w = 1 then pick5 k 114 111 111 109 0 else if w = 2 then pick5 k 99 108 111 99 107 else if w = 3 then pick5 k 116 97 98 108 101 else if w = 4 then pick5 k 119 105 100 101 0 else if w = 5 then pick5 k 100 114 111 112 0 else pick5 k 115 119 97 112 0
def wl (w : Int) : Int := if w = 0 ∨ w = 2 ∨ w = 3 then 5 else 4
def nOf (w : Int) : Nat := if w = 0 ∨ w = 6 then 3 else if w = 1 ∨ w = 2 then 2 else 1
/-- how many signs of word w the line has, from k on -/
def cmn (L : Int → Int) (n w : Int) : Nat → Int → Int
  | 0, k => k
  | m + 1, k => if k < wl w ∧ k < n ∧ L k = wch w k then cmn L n w m (k + 1) else k
def cm (L : Int → Int) (n w : Int) : Int := cmn L n w 5 0
/-- c numbers from k on: where the reading ends, whether all are there, what they are -/
def pn (L : Int → Int) (n : Int) : Nat → Int → Int × Bool × List Int
  | 0, k => (k, true, [])
  | c + 1, k => if ¬ (k < n ∧ L k = 32) then (k, false, []) else if ¬ (k + 1 < n ∧ 48 ≤ L (k + 1) ∧ L (k + 1) ≤ 57) then (k + 1, false, [])
    else if k + 2 < n ∧ 48 ≤ L (k + 2) ∧ L (k + 2) ≤ 57 then ((pn L n c (k + 3)).1, (pn L n c (k + 3)).2.1, ((L (k + 1) - 48) * 10 + L (k + 2) - 48) :: (pn L n c (k + 3)).2.2)
    else ((pn L n c (k + 2)).1, (pn L n c (k + 2)).2.1, (L (k + 1) - 48) :: (pn L n c (k + 2)).2.2)
/-- the word that the first sign tells -/
def pw (L : Int → Int) (n : Int) : Int := if n ≤ 0 then 0 else if L 0 = 114 then 1 else if L 0 = 99 then 2 else if L 0 = 116 then 3 else if L 0 = 119 then 4 else if L 0 = 100 then 5 else if L 0 = 115 then 6 else 0
/-- reading the line as word w: the place where it ends, whether it is a whole line -/
def rdP (L : Int → Int) (n w : Int) : Int := if cm L n w < wl w then cm L n w else (pn L n (nOf w) (cm L n w)).1
def rdW (L : Int → Int) (n w : Int) : Prop := ¬ cm L n w < wl w ∧ (pn L n (nOf w) (cm L n w)).2.1 = true ∧ (pn L n (nOf w) (cm L n w)).1 = n
def nums (L : Int → Int) (n w : Int) (j : Nat) : Int := (pn L n (nOf w) (cm L n w)).2.2.getD j 0
-- what a line does to the plan
/-- packets of the first n frames -/
def szn (P : sw_M) (p : Int) : Nat → Int
  | 0 => 0
  | n + 1 => szn P p n + P 1 p (n : Int)
def swp (P : sw_M) (p q stay start come : Int) : sw_M := fun k i j =>
  if (k = 1 ∨ k = 2) ∧ i = p ∧ stay ≤ j ∧ j < stay + come then P k q (start + (j - stay)) else if k = 0 ∧ i = p ∧ j = 2 then stay + come else P k i j
def isP (p : Int) : Prop := 0 ≤ p ∧ p ≤ 3
abbrev inn (v lo hi : Int) : Prop := lo ≤ v ∧ v ≤ hi
/-- the answer and the plan behind it -/
def aDo (P : sw_M) (w a b c : Int) : Int × sw_M :=
  if w = 0 then (if ¬ (inn a 0 3 ∧ inn b 1 9 ∧ inn c 1 99) then (-2, P) else if 0 < P 0 a 2 ∧ c ≤ P 2 a (P 0 a 2 - 1) then (-3, P) else if P 0 a 2 = 10 then (-4, P) else (P 0 a 2, up (up (up P 1 a (P 0 a 2) b) 2 a (P 0 a 2) c) 0 a 2 (P 0 a 2 + 1)))
  else if w = 1 then (if inn a 0 3 ∧ inn b 1 40 then (P 0 a 0, up P 0 a 0 b) else (-2, P))
  else if w = 2 then (if inn a 0 3 ∧ inn b 0 50 then (P 0 a 1, up P 0 a 1 b) else (-2, P))
  else if w = 3 then (if inn a 0 50 then (P 3 0 0, up P 3 0 0 a) else (-2, P))
  else if w = 4 then (if inn a 1 4 then (P 3 0 1, up P 3 0 1 a) else (-2, P))
  else if w = 5 then (if inn a 0 3 then (P 0 a 2, up P 0 a 2 0) else (-2, P))
  else (if ¬ (inn a 0 3 ∧ inn b 0 3 ∧ a ≠ b ∧ inn c 1 99) then (-2, P) else if 10 < nD P a c + (P 0 b 2 - nD P b c) then (-4, P) else (nD P a c + (P 0 b 2 - nD P b c), swp P a b (nD P a c) (nD P b c) (P 0 b 2 - nD P b c)))
-- the two sides' plans
/-- the reference's plan, programme lo left out -/
def RPs (M P : sw_M) (lo : Int) : Prop := (∀ p, 0 ≤ p → p < 4 → (p ≠ lo → M 1 0 p = P 0 p 0 ∧ M 1 0 (4 + p) = P 0 p 1 ∧ M 1 0 (8 + p) = P 0 p 2 ∧ ∀ f, 0 ≤ f → f < P 0 p 2 → M 1 0 (12 + 10 * p + f) = P 1 p f ∧ M 1 0 (52 + 10 * p + f) = P 2 p f) ∧ (p = lo → P 0 p 1 = 0 ∧ P 0 p 2 = 0)) ∧ M 1 0 92 = P 3 0 0 ∧ M 1 0 93 = P 3 0 1
/-- the class's plan q -/
def RPx (M P : sw_M) (q : Int) : Prop := (∀ p, 0 ≤ p → p < 4 → M 5 (4 * q + p) 3 = P 0 p 0 ∧ M 5 (4 * q + p) 4 = P 0 p 1 ∧ M 5 (4 * q + p) 2 = P 0 p 2 ∧ ∀ f, 0 ≤ f → f < P 0 p 2 → M 6 (4 * q + p) f = P 1 p f ∧ M 7 (4 * q + p) f = P 2 p f) ∧ M 2 q 1 = P 3 0 0 ∧ M 2 q 2 = P 3 0 1
-- the two sides' streams
/-- bounds that every stream keeps: at tick t, after m steps -/
def INV (P S : sw_M) (t m : Int) : Prop :=
  (∀ p, 0 ≤ p → p < 4 → (-(10 * m) ≤ S 4 0 p ∧ S 4 0 p ≤ 10 * m) ∧ (0 ≤ S 5 0 p ∧ S 5 0 p ≤ 10 * m) ∧ (S 6 0 p = -6 ∨ (0 ≤ S 6 0 p ∧ S 6 0 p ≤ t)) ∧ ∀ f, 0 ≤ f → f < 10 → (0 ≤ S 1 p f ∧ S 1 p f ≤ 9) ∧ (f < P 0 p 2 → S 1 p f ≤ P 1 p f) ∧ (S 1 p f = 0 → S 2 p f = -6) ∧ (S 1 p f ≠ 0 → 0 ≤ S 2 p f)) ∧
  (S 0 0 0 = -6 ∨ (0 ≤ S 0 0 0 ∧ S 0 0 0 ≤ t)) ∧ (0 ≤ S 0 0 1 ∧ S 0 0 1 ≤ 10 * m) ∧ (S 0 0 2 = -6 ∨ 0 ≤ S 0 0 2) ∧ (0 ≤ S 0 0 3 ∧ S 0 0 3 ≤ 10 * m) ∧ (0 ≤ S 0 0 4 ∧ S 0 0 4 ≤ 10 * m) ∧ ∀ k, 0 ≤ k → k < 4 → 0 ≤ S 12 0 k ∧ S 12 0 k ≤ 10 * m
/-- the reference's stream -/
def RSM (M S : sw_M) : Prop :=
  M 0 0 24 = S 0 0 0 ∧ M 0 0 25 = S 0 0 1 ∧ M 0 0 26 = S 0 0 2 ∧ M 17 0 4 = S 12 0 1 ∧
  (∀ p, 0 ≤ p → p < 4 → M 16 0 p = S 4 0 p ∧ M 17 0 p = S 5 0 p ∧ M 18 0 p = S 6 0 p ∧ ∀ f, 0 ≤ f → f < 10 → M 11 0 (10 * p + f) = S 1 p f ∧ M 12 0 (10 * p + f) = S 2 p f ∧ M 13 0 (10 * p + f) = S 3 p f ∧ M 14 0 (10 * p + f) = S 15 p f) ∧
  (∀ s, S 13 0 s = 1 → M 7 0 s = S 7 0 s ∧ M 8 0 s = S 8 0 s ∧ M 9 0 s = S 9 0 s ∧ M 10 0 s = S 10 0 s) ∧
  ∀ t, S 14 0 t = 1 → ∀ p, 0 ≤ p → p < 4 → M 15 0 (4 * t + p) = S 11 p t
/-- what the reference's stream leaves as it is -/
def frM (M M' : sw_M) : Prop := M' 1 = M 1 ∧ M' 2 = M 2 ∧ M' 3 = M 3 ∧ M' 4 = M 4 ∧ (∀ j, j < 24 → M' 0 0 j = M 0 0 j) ∧ M' 0 0 27 = M 0 0 27
