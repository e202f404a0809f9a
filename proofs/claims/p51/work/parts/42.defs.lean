/-! Pure definitions that the mathematics speaks of -/
/-- coordinates and marks as points have them -/
abbrev okP (L : PL) : Prop := ∀ i, i < L.length → (-200 ≤ pX L i ∧ pX L i ≤ 200) ∧ (-200 ≤ pY L i ∧ pY L i ≤ 200) ∧ -1 ≤ pM L i ∧ pM L i ≤ 100


section MTHREE
variable {G : g_X} {sc : Nat → Int} {ar : Nat → Nat → Int} {m : Nat} {h0 h : g_hp}
/-- the points of a heap among the first n, as they came -/
def lhN (P : PL) (a : Int) : Nat → PL
  | 0 => []
  | n + 1 => if pM P n = a then lhN P a n ++ [(pX P n, pY P n, 0)] else lhN P a n
abbrev farQ (Q : PL) (i j : Nat) : Int := ((pX Q i - pX Q j).natAbs : Int) + ((pY Q i - pY Q j).natAbs : Int)
end MTHREE

section MFOUR
variable {G : g_X} {sc : Nat → Int} {ar : Nat → Nat → Int} {m : Nat} {h0 h : g_hp}
def ahd (P : PL) (p o : Nat) : Prop := pX P p < pX P o ∨ (pX P p = pX P o ∧ (pY P p < pY P o ∨ (pY P p = pY P o ∧ p < o)))
/-- how many of the first n points of a heap are ahead of p -/
noncomputable def ahN (P : PL) (a : Int) (p : Nat) : Nat → Nat
  | 0 => 0
  | n + 1 => cif (pM P n = a ∧ ahd P n p) (ahN P a p n + 1) (ahN P a p n)
noncomputable def ptS (P : PL) (a pl : Int) : Nat → Nat → Int
  | 0, _ => -1
  | f + 1, p => if pM P p = a ∧ (ahN P a p P.length : Int) = pl then (p : Int) else ptS P a pl f (p + 1)
def pas (ax ay bx by' cx cy dx dy : Int) : Prop := sg (tw ax ay bx by' cx cy) * sg (tw ax ay bx by' dx dy) < 0 ∧ sg (tw cx cy dx dy ax ay) * sg (tw cx cy dx dy bx by') < 0
def tou (ax ay bx by' cx cy dx dy : Int) : Prop := (on ax ay bx by' cx cy ∨ on ax ay bx by' dx dy ∨ on cx cy dx dy ax ay ∨ on cx cy dx dy bx by') ∨ pas ax ay bx by' cx cy dx dy
end MFOUR

abbrev hOn (F : PL) (x y : Int) (i : Nat) : Prop := on (pX F i) (pY F i) (pX F (nxt F.length i)) (pY F (nxt F.length i)) x y
abbrev hSg (F : PL) (x y : Int) (i : Nat) : Int := sg (tw (pX F i) (pY F i) (pX F (nxt F.length i)) (pY F (nxt F.length i)) x y)
def lsN (F : PL) (x y : Int) : Nat → Int
  | 0 => 1
  | n + 1 => if hSg F x y n < lsN F x y n then hSg F x y n else lsN F x y n
theorem lsN_bd (F : PL) (x y : Int) : ∀ n, -1 ≤ lsN F x y n ∧ lsN F x y n ≤ 1
  | 0 => ⟨by show (-1 : Int) ≤ 1; decide, Int.le_refl 1⟩
  | n + 1 => by
    have h1 := lsN_bd F x y n
    have h2 := sg_bd (tw (pX F n) (pY F n) (pX F (nxt F.length n)) (pY F (nxt F.length n)) x y)
    unfold lsN
    split
    · exact h2
    · exact h1
noncomputable def sdI (F : PL) (x y : Int) : Int := cif (∃ i, i < F.length ∧ hOn F x y i) 0 (if F.length < 3 ∨ lsN F x y F.length < 1 then -1 else 1)
section MFIVE
variable {G : g_X} {sc : Nat → Int} {ar : Nat → Nat → Int} {m : Nat} {h0 h : g_hp}
def isI (F H : PL) : Prop := ∃ k, k < F.length ∧ 0 ≤ sdI H (pX F k) (pY F k)
abbrev lexL (Q : PL) (i j : Nat) : Prop := pX Q i < pX Q j ∨ (pX Q i = pX Q j ∧ pY Q i < pY Q j)
/-- the first place in order of the first n + 1 -/
def fiN (Q : PL) : Nat → Nat
  | 0 => 0
  | n + 1 => if lexL Q (n + 1) (fiN Q n) then n + 1 else fiN Q n
theorem fiN_le (Q : PL) : ∀ n, fiN Q n ≤ n
  | 0 => Nat.le_refl _
  | n + 1 => by
    have := fiN_le Q n
    unfold fiN
    split <;> omega
abbrev sgQ (Q : PL) (i j k : Nat) : Int := sg (tw (pX Q i) (pY Q i) (pX Q j) (pY Q j) (pX Q k) (pY Q k))
/-- whether k is farther to the right, seen from i, than j -/
def gwU (Q : PL) (i j k : Nat) : Prop := (if j = i then 0 else sgQ Q i j k) < 0 ∨ ((if j = i then 0 else sgQ Q i j k) = 0 ∧ farQ Q i j < farQ Q i k)
noncomputable def nxG (Q : PL) (i : Nat) : Nat → Nat
  | 0 => i
  | k + 1 => cif (gwU Q i (nxG Q i k) k) k (nxG Q i k)
theorem nxG_lt {Q : PL} {i : Nat} (hi : i < Q.length) : ∀ k, k ≤ Q.length → nxG Q i k < Q.length
  | 0, _ => hi
  | k + 1, hk => by
    unfold nxG
    by_cases c : gwU Q i (nxG Q i k) k
    · rw [cif_t c]; omega
    · rw [cif_f c]; exact nxG_lt hi k (by omega)
noncomputable def wq (Q : PL) : Nat → Nat
  | 0 => fiN Q (Q.length - 1)
  | i + 1 => nxG Q (wq Q i) Q.length
theorem wq_lt {Q : PL} (h : 0 < Q.length) : ∀ i, wq Q i < Q.length
  | 0 => by have := fiN_le Q (Q.length - 1); show fiN Q (Q.length - 1) < _; omega
  | i + 1 => nxG_lt (wq_lt h i) _ (Nat.le_refl _)
abbrev sameQ (Q : PL) (i j : Nat) : Prop := pX Q i = pX Q j ∧ pY Q i = pY Q j
/-- the way round ends after n places -/
def gwc (Q : PL) (n : Nat) : Prop := n ≤ 200 ∧ (Q.length = 0 → n = 0) ∧ (0 < Q.length → 0 < n ∧ sameQ Q (wq Q n) (wq Q 0) ∧ ∀ i, 0 < i → i < n → ¬ sameQ Q (wq Q i) (wq Q 0))
noncomputable def gwL (Q : PL) (n : Nat) : PL := (List.range n).map (fun i => (pX Q (wq Q i), pY Q (wq Q i), 0))
theorem gwL_len (Q : PL) (n : Nat) : (gwL Q n).length = n := by unfold gwL; rw [List.length_map, List.length_range]
theorem gwL_at {Q : PL} {n k : Nat} (hk : k < n) : pX (gwL Q n) k = pX Q (wq Q k) ∧ pY (gwL Q n) k = pY Q (wq Q k) := by
  unfold gwL pX pY
  simp [List.getD, hk]
end MFIVE

section MSIX
variable {G : g_X} {sc0 : Nat → Int} {ar : Nat → Nat → Int} {m : Nat} {h0 h : g_hp} {P E : PL} {S : Nat → PL} {b : Int} {P2 E2 : PL} {S2 : Nat → PL} {F : PL}
/-- whether no point of the heap among the first n lies where p lies -/
def frP (P : PL) (a : Int) (p n : Nat) : Prop := pM P p = a ∧ ∀ o, o < n → ¬ (pM P o = a ∧ pX P o = pX P p ∧ pY P o = pY P p)
noncomputable def plM (P : PL) (a : Int) : Nat → Nat
  | 0 => 0
  | n + 1 => cif (frP P a n n) (plM P a n + 1) (plM P a n)
end MSIX

abbrev cEq (A B : PL) : Prop := A.length = B.length ∧ ∀ k, k < A.length → pX A k = pX B k ∧ pY A k = pY B k
/-- the places laid have a way round, and it is the hull H -/
def gwH (Q H : PL) : Prop := ∃ n, gwc Q n ∧ cEq (gwL Q n) H
def smI (P : PL) (a b1 : Int) (p : Nat) : Nat → PL
  | 0 => []
  | o + 1 => if pM P p = a ∧ pM P o = b1 then smI P a b1 p o ++ [(pX P p + pX P o, pY P p + pY P o, 0)] else smI P a b1 p o
def smO (P : PL) (a b1 : Int) : Nat → PL
  | 0 => []
  | n + 1 => smO P a b1 n ++ smI P a b1 n P.length
def hcN (L : PL) : Nat → PL
  | 0 => []
  | n + 1 => hcN L n ++ [(pX L n, pY L n, 0)]

noncomputable def gwn (Q : PL) : Nat := @dite Nat (∃ n, gwc Q n) (Classical.propDecidable _) (fun h => Classical.choose h) (fun _ => 0)
theorem gwn_spec {Q : PL} (h : ∃ n, gwc Q n) : gwc Q (gwn Q) := by
  unfold gwn
  rw [dif_pos h]
  exact Classical.choose_spec h
/-- those of the first n points that are left -/
noncomputable def plQ (P : PL) (lf : Nat → Prop) : Nat → PL
  | 0 => []
  | n + 1 => cif (lf n) (plQ P lf n ++ [(pX P n, pY P n, 0)]) (plQ P lf n)
noncomputable def lfN (P : PL) (a : Int) : Nat → Nat → Prop
  | 0 => fun p => pM P p = a
  | k + 1 => fun p => lfN P a k p ∧ ¬ sdI (gwL (plQ P (lfN P a k) P.length) (gwn (plQ P (lfN P a k) P.length))) (pX P p) (pY P p) = 0
/-- the points left for layer k, and its hull -/
noncomputable abbrev lyQ (P : PL) (a : Int) (k : Nat) : PL := plQ P (lfN P a k) P.length
noncomputable abbrev lyH (P : PL) (a : Int) (k : Nat) : PL := gwL (lyQ P a k) (gwn (lyQ P a k))
def lyT (P : PL) (a : Int) (l : Nat) : Prop := ∀ k, k ≤ l → (lyQ P a k).length ≠ 0
section MEIGHT
variable {G : g_X} {sc sc0 : Nat → Int} {ar : Nat → Nat → Int} {m : Nat} {h0 h : g_hp} {P E : PL} {S : Nat → PL} {b : Int} {P2 E2 : PL} {S2 : Nat → PL} {F : PL}
def lyS (P : PL) (a : Int) (R : Nat) : Prop := R ≤ 60 ∧ (∀ k, k < R → (lyQ P a k).length ≠ 0) ∧ (lyQ P a R).length = 0
end MEIGHT

section MNINE
variable {G : g_X} {sc sc0 : Nat → Int} {ar : Nat → Nat → Int} {m : Nat} {h0 h : g_hp} {P E : PL} {S : Nat → PL} {b : Int} {P2 E2 : PL} {S2 : Nat → PL} {F : PL}
abbrev inS (F : PL) (y : Int) (k : Nat) : Int := rnE F k * (y - pY F k)
def inB (F : PL) (y : Int) (k : Nat) : Int := if 0 < rsE F k then pX F k + (inS F y k - 1) / rsE F k else if rsE F k < 0 then pX F k + (0 - inS F y k) / (0 - rsE F k) + 1 else 0
def inL (F : PL) (y : Int) : Nat → Int
  | 0 => -500
  | k + 1 => if rsE F k < 0 ∧ inL F y k < inB F y k then inB F y k else inL F y k
def inH (F : PL) (y : Int) : Nat → Int
  | 0 => 500
  | k + 1 => if 0 < rsE F k ∧ inB F y k < inH F y k then inB F y k else inH F y k
def inZ (F : PL) (y : Int) (k : Nat) : Prop := rsE F k = 0 ∧ inS F y k ≤ 0
noncomputable def inI (F : PL) (y : Int) : Int := cif (∃ k, k < F.length ∧ inZ F y k) 0 (if inH F y F.length < inL F y F.length then 0 else inH F y F.length - inL F y F.length + 1)
noncomputable def nnF (F : PL) : Int := if 2 < F.length then sumN (fun t => inI F ((t : Int) - 400)) 801 else 0
end MNINE

abbrev itW (F : PL) (k i : Nat) : Int := rnE F k * (pY F i - pY F k) - rsE F k * (pX F i - pX F k)
def mstN (F : PL) (k : Nat) : Nat → Int
  | 0 => 0
  | i + 1 => if mstN F k i < itW F k i then itW F k i else mstN F k i
abbrev dnW (F : PL) (k : Nat) : Int := rnE F k * rnE F k + rsE F k * rsE F k
abbrev mW (F : PL) (k : Nat) : Int := mstN F k F.length
def wdM (u0 : Int) (F : PL) : Nat → Int × Int
  | 0 => (u0, 0)
  | k + 1 => if 0 < (wdM u0 F k).2 ∧ (wdM u0 F k).1 * dnW F k ≤ mW F k * mW F k * (wdM u0 F k).2 then wdM u0 F k else (mW F k * mW F k, dnW F k)
abbrev wdG (U D : Int) : Int := (Nat.gcd U.natAbs D.natAbs : Nat)

abbrev nX (L : PL) (i : Nat) : Int := pX L (nxt L.length i)
abbrev nY (L : PL) (i : Nat) : Int := pY L (nxt L.length i)
/-- what makes the edges of the corners k and o, o ahead of k, bad -/
def bdM (L : PL) (k o : Nat) : Prop := (pX L k = pX L o ∧ pY L k = pY L o) ∨ (k = o + 1 ∧ (on (pX L o) (pY L o) (nX L o) (nY L o) (nX L k) (nY L k) ∨ on (pX L k) (pY L k) (nX L k) (nY L k) (pX L o) (pY L o))) ∨ ((o = 0 ∧ k = L.length - 1) ∧ (on (pX L o) (pY L o) (nX L o) (nY L o) (pX L k) (pY L k) ∨ on (pX L k) (pY L k) (nX L k) (nY L k) (nX L o) (nY L o))) ∨ (¬ k = o + 1 ∧ ¬ (o = 0 ∧ k = L.length - 1) ∧ tou (pX L k) (pY L k) (nX L k) (nY L k) (pX L o) (pY L o) (nX L o) (nY L o))
def gdM (L : PL) : Prop := 3 ≤ L.length ∧ ∀ k, k < L.length → ∀ o, o < k → ¬ bdM L k o

section MTWELVE
variable {G : g_X} {sc sc0 : Nat → Int} {ar : Nat → Nat → Int} {m : Nat} {h0 h : g_hp} {P E : PL} {S : Nat → PL} {b : Int} {P2 E2 : PL} {S2 : Nat → PL} {F : PL}
/-- the places of a row from -200 on that are inside, of the first n; of the first n rows -/
noncomputable def piX (L : PL) (y : Int) : Nat → Nat
  | 0 => 0
  | n + 1 => if 0 < wI L 1 ((n : Int) - 200) y then piX L y n + 1 else piX L y n
noncomputable def piY (L : PL) : Nat → Nat
  | 0 => 0
  | n + 1 => piY L n + piX L ((n : Int) - 200) 401
end MTWELVE

abbrev pas3 (L : PL) (a c i : Nat) : Prop := pas (pX L a) (pY L a) (pX L c) (pY L c) (pX L i) (pY L i) (nX L i) (nY L i)
/-- how far a corner is from a -/
abbrev offN (L : PL) (a i : Nat) : Int := ((pX L i - pX L a).natAbs : Int) + ((pY L i - pY L a).natAbs : Int)
abbrev nxO (L : PL) (a : Nat) (c : Nat) : Option Nat → Prop
  | none => True
  | some q => offN L a c < offN L a q
def nxU (L : PL) (a c k : Nat) (o : Nat) (q : Option Nat) : Prop := on3 L a c L o ∧ offN L a k < offN L a o ∧ nxO L a o q
/-- the next corner on the stretch, behind k, among the first n -/
noncomputable def nxN (L : PL) (a c k : Nat) : Nat → Option Nat
  | 0 => none
  | o + 1 => cif (nxU L a c k o (nxN L a c k o)) (some o) (nxN L a c k o)
theorem nxN_lt {L : PL} {a c k : Nat} : ∀ {n q : Nat}, nxN L a c k n = some q → q < n
  | 0, _, h => by cases h
  | n + 1, q, h => by
    by_cases w : nxU L a c k n (nxN L a c k n)
    · rw [show nxN L a c k (n + 1) = some n from cif_t w] at h
      cases h
      omega
    · rw [show nxN L a c k (n + 1) = nxN L a c k n from cif_f w] at h
      have := nxN_lt h
      omega
/-- whether the stretch from k to the next corner on it is outside -/
def outM (L : PL) (a c k : Nat) : Prop := on3 L a c L k ∧ ∃ q, nxN L a c k L.length = some q ∧ wM L k q < 0
def dsM (L : PL) (a c : Nat) : Prop := (∀ k, k < L.length → ¬ pas3 L a c k) ∧ ∀ k, k < L.length → ¬ outM L a c k

/-- the point that tells a side of the box -/
abbrev bxV (P : PL) (w : Int) (p : Nat) : Int := if w < 2 then pX P p else pY P p
def bxC (P : PL) (a w : Int) (q : Option Nat) (p : Nat) : Prop := pM P p = a ∧ (match q with | none => True | some q => if w % 2 = 0 then bxV P w p < bxV P w q else bxV P w q < bxV P w p)
noncomputable def bxN (P : PL) (a w : Int) : Nat → Option Nat
  | 0 => none
  | p + 1 => cif (bxC P a w (bxN P a w p) p) (some p) (bxN P a w p)

/-- numbers of points by their y: where a new one goes -/
def ypN (P : PL) (O : List Nat) (p : Nat) : Nat → Nat
  | 0 => 0
  | n + 1 => if pY P p < pY P (O.getD n 0) then ypN P O p n else n + 1
theorem ypN_le (P : PL) (O : List Nat) (p : Nat) : ∀ n, ypN P O p n ≤ n
  | 0 => Nat.le_refl _
  | n + 1 => by
    unfold ypN
    split
    · exact Nat.le_succ_of_le (ypN_le P O p n)
    · exact Nat.le_refl _
def ynI (O : List Nat) (i p : Nat) : List Nat := O.take i ++ p :: O.drop i
theorem ynI_len {O : List Nat} {i p : Nat} (hi : i ≤ O.length) : (ynI O i p).length = O.length + 1 := by
  unfold ynI
  simp
  omega
theorem ynI_getD {O : List Nat} {i j p : Nat} (hi : i ≤ O.length) : (ynI O i p).getD j 0 = if j < i then O.getD j 0 else if j = i then p else O.getD (j - 1) 0 := by
  unfold ynI
  by_cases c : j < i
  · rw [if_pos c]
    simp only [List.getD]
    rw [List.getElem?_append_left (by simp; omega), List.getElem?_take, if_pos c]
  · rw [if_neg c]
    simp only [List.getD]
    rw [List.getElem?_append_right (by simp; omega)]
    have e1 : (O.take i).length = i := by simp; omega
    rw [e1]
    by_cases c2 : j = i
    · subst c2
      simp
    · rw [if_neg c2]
      obtain ⟨k, hk⟩ : ∃ k, j - i = k + 1 := ⟨j - i - 1, by omega⟩
      rw [hk, List.getElem?_cons_succ, List.getElem?_drop, show i + k = j - 1 by omega]
/-- the points of a heap among the first n, by y -/
def oyN (P : PL) (a : Int) : Nat → List Nat
  | 0 => []
  | n + 1 => if pM P n = a then ynI (oyN P a n) (ypN P (oyN P a n) n (oyN P a n).length) n else oyN P a n
abbrev htC (P : PL) (lo hi fr : Int) (p : Nat) : Prop := fr ≤ pY P p ∧ lo ≤ pX P p ∧ pX P p ≤ hi
/-- the height by which so many are held, seen from the k-th on, n held so far -/
def htS (P : PL) (O : List Nat) (lo hi fr : Int) (pts : Nat) : Nat → Nat → Nat → Int
  | 0, _, _ => -1
  | f + 1, k, n => if htC P lo hi fr (O.getD k 0) then (if n + 1 = pts then pY P (O.getD k 0) - fr else htS P O lo hi fr pts f (k + 1) (n + 1)) else htS P O lo hi fr pts f (k + 1) n
abbrev htM (P : PL) (O : List Nat) (lo hi fr : Int) (pts : Nat) : Int := htS P O lo hi fr pts O.length 0 0
def hgQ (P : PL) (O : List Nat) (a : Int) (p o : Nat) (pts : Nat) (q : Nat) : Int := if pM P q = a then htM P O (pX P p) (pX P o) (pY P q) pts else -1
abbrev wdF (P : PL) (p o : Nat) : Int := pX P o - pX P p
def feQ (P : PL) (O : List Nat) (a : Int) (p o pts : Nat) (b : Int) : Nat → Int
  | 0 => b
  | q + 1 => if ¬ hgQ P O a p o pts q = -1 ∧ (feQ P O a p o pts b q = -1 ∨ wdF P p o + hgQ P O a p o pts q < feQ P O a p o pts b q) then wdF P p o + hgQ P O a p o pts q else feQ P O a p o pts b q
abbrev feC (P : PL) (a : Int) (p o : Nat) (b : Int) : Prop := pM P p = a ∧ pM P o = a ∧ 0 ≤ wdF P p o ∧ (b = -1 ∨ wdF P p o < b)
def feO (P : PL) (O : List Nat) (a : Int) (p pts : Nat) (b : Int) : Nat → Int
  | 0 => b
  | o + 1 => if feC P a p o (feO P O a p pts b o) then feQ P O a p o pts (feO P O a p pts b o) P.length else feO P O a p pts b o
def feP (P : PL) (O : List Nat) (a : Int) (pts : Nat) : Nat → Int
  | 0 => -1
  | p + 1 => feO P O a p pts (feP P O a pts p) P.length

def fiR (F : PL) : Nat → Int
  | 0 => pX F 0
  | n + 1 => if fiR F n < pX F n then pX F n else fiR F n
def fiL (F : PL) : Nat → Int
  | 0 => pY F 0
  | n + 1 => if pY F n < fiL F n then pY F n else fiL F n
def fiH (F : PL) : Nat → Int
  | 0 => pY F 0
  | n + 1 => if fiH F n < pY F n then pY F n else fiH F n
abbrev fiB (F : PL) : Int := 2 * (fiR F F.length - pX F 0) * (fiH F F.length - fiL F F.length)
theorem fi_bd {F : PL} (h : okS F) (h0 : 0 < F.length) : ∀ n, n ≤ F.length → (-400 ≤ fiR F n ∧ fiR F n ≤ 400) ∧ (-400 ≤ fiL F n ∧ fiL F n ≤ 400) ∧ -400 ≤ fiH F n ∧ fiH F n ≤ 400
  | 0, _ => ⟨(h 0 h0).1, (h 0 h0).2, (h 0 h0).2⟩
  | n + 1, hn => by
    have h1 := fi_bd h h0 n (by omega)
    have h2 := h n (by omega)
    unfold fiR fiL fiH
    refine ⟨?_, ?_, ?_⟩
    · split <;> omega
    · split <;> omega
    · split <;> omega
/-- whether two hulls have nothing in common, as the reference looks for it -/
def apM (A B : PL) : Prop := ¬ isI A B ∧ ¬ isI B A ∧ ∀ k, k < A.length → ∀ o, o < B.length → ¬ tou (pX A k) (pY A k) (nX A k) (nY A k) (pX B o) (pY B o) (nX B o) (nY B o)

def upL (G : g_X) (K : Nat × Int) (ao : Nat) (ag : Nat → Int) (hc : g_hp) : g_hp :=
  match K with
  | (0, v) => g_up hc ao (aL G 1 (uI ag 0 v))
  | (_ + 1, _) => hc
abbrev zW (G : g_X) (K : Nat × Int) (P E : PL) (S : Nat → PL) (b : Int) (P2 E2 : PL) (S2 : Nat → PL) (F : PL) (o : Nat) (h0 : g_hp) (ao : Nat) (ag : Nat → Int) : g_Z := fun oc z1 h1 => z1 = none ∧ oc = .inl (some (.int (iN (K.1 : Nat)))) ∧ ∃ hc, (∃ L1 L2 H1 H2 QL QT qa CA CB, hsX G P E S b P2 E2 S2 F L1 L2 H1 H2 QL QT qa CA CB o h0 hc) ∧ h1 = upL G K ao ag hc
