/-! The reference: its cells; what is asked of every call -/
theorem plX8 : plainName RX8 = true := by decide +kernel
abbrev mdF (sc : Nat → Int) (m : Nat) : List Value := [.int (iN (sc 0)), .ref (m + 1 + 0), .ref (m + 1 + 1), .ref (m + 1 + 2), .int (iN (sc 4)), .ref (m + 1 + 3), .ref (m + 1 + 4), .int (iN (sc 7)), .ref (m + 1 + 5), .ref (m + 1 + 6), .ref (m + 1 + 7), .ref (m + 1 + 8), .long (lI (sc 12)), .long (lI (sc 13)), .ref (m + 1 + 9), .ref (m + 1 + 10), .ref (m + 1 + 11), .int (iN (sc 17)), .int (iN (sc 18)), .int (iN (sc 19)), .int (iN (sc 20)), .int (iN (sc 21)), .int (iN (sc 22)), .int (iN (sc 23)), .int (iN (sc 24)), .ref (m + 1 + 12), .ref (m + 1 + 13), .int (iN (sc 27)), .int (iN (sc 28)), .ref (m + 1 + 14), .ref (m + 1 + 15), .ref (m + 1 + 16), .ref (m + 1 + 17), .int (iN (sc 33)), .int (iN (sc 34)), .ref (m + 1 + 18), .ref (m + 1 + 19), .ref (m + 1 + 20), .ref (m + 1 + 21), .ref (m + 1 + 22), .ref (m + 1 + 23), .ref (m + 1 + 24), .ref (m + 1 + 25), .int (iN (sc 43)), .int (iN (sc 44))]
abbrev aSz : List Nat := [60, 60, 60, 3700, 3700, 600, 600, 3, 60, 64, 64, 4, 16, 16, 20, 20, 20, 20, 60, 60, 60, 60, 64, 64, 4, 80]
def uA (ar : Nat → Nat → Int) (j : Nat) (g : Nat → Int) : Nat → Nat → Int := fun q => if q = j then g else ar q
theorem uA_s {ar : Nat → Nat → Int} {j : Nat} {g : Nat → Int} : uA ar j g j = g := if_pos rfl
theorem uA_n {ar : Nat → Nat → Int} {j q : Nat} {g : Nat → Int} (n : q ≠ j) : uA ar j g q = ar q := if_neg n
def arE (G : g_X) (j : Nat) (g : Nat → Int) : va_E := if j = 8 then aZ G (aSz.getD j 0) g else aI G (aSz.getD j 0) g
/-- the object m of the reference, its numbers and its arrays; nothing else changed since h0 -/
def mdX (G : g_X) (sc : Nat → Int) (ar : Nat → Nat → Int) (m : Nat) (h0 h : g_hp) : Prop := h m = some (.inr (5, mdF sc m)) ∧ (∀ j, j < 26 → h (m + 1 + j) = some (arE G j (ar j))) ∧ g_fr m 27 h0 h
section MBASE
variable {G : g_X} {sc : Nat → Int} {ar : Nat → Nat → Int} {m : Nat} {h0 h : g_hp}
theorem mdX.obj (X : mdX G sc ar m h0 h) : h m = some (.inr (5, mdF sc m)) := X.1
theorem mdX.fr (X : mdX G sc ar m h0 h) : g_fr m 27 h0 h := X.2.2
theorem mdX.put {k : Nat} {v : Int} (e : (mdF sc m).set k (.int (iN v)) = mdF (uI sc k v) m) (X : mdX G sc ar m h0 h) : mdX G (uI sc k v) ar m h0 (g_up h m (.inr (5, (mdF sc m).set k (.int (iN v))))) :=
  ⟨(g_up_s _ _ _).trans (by rw [e]), fun j hj => (g_up_n _ _ (by omega)).trans (X.2.1 j hj), X.2.2.up (by omega) (by omega)⟩
theorem mdX.putL {k : Nat} {v : Int} (e : (mdF sc m).set k (.long (lI v)) = mdF (uI sc k v) m) (X : mdX G sc ar m h0 h) : mdX G (uI sc k v) ar m h0 (g_up h m (.inr (5, (mdF sc m).set k (.long (lI v))))) :=
  ⟨(g_up_s _ _ _).trans (by rw [e]), fun j hj => (g_up_n _ _ (by omega)).trans (X.2.1 j hj), X.2.2.up (by omega) (by omega)⟩
theorem mdX.sta {j : Nat} (hj : j < 26) {g : Nat → Int} (X : mdX G sc ar m h0 h) : mdX G sc (uA ar j g) m h0 (g_up h (m + 1 + j) (arE G j g)) := by
  refine ⟨(g_up_n _ _ (by omega)).trans X.1, fun q hq => ?_, X.2.2.up (by omega) (by omega)⟩
  by_cases c : q = j
  · subst c
    rw [g_up_s, uA_s]
  · rw [g_up_n _ _ (by omega), uA_n c]
    exact X.2.1 q hq
theorem mdX.a0 (X : mdX G sc ar m h0 h) : h (m + 1 + 0) = some (aI G 60 (ar 0)) := X.2.1 0 (by decide)
theorem mdX.st0 {i : Nat} {x : Int} (X : mdX G sc ar m h0 h) : mdX G sc (uA ar 0 (uI (ar 0) i x)) m h0 (g_up h (m + 1 + 0) (aI G 60 (uI (ar 0) i x))) := X.sta (j := 0) (by decide)
theorem mdX.a1 (X : mdX G sc ar m h0 h) : h (m + 1 + 1) = some (aI G 60 (ar 1)) := X.2.1 1 (by decide)
theorem mdX.st1 {i : Nat} {x : Int} (X : mdX G sc ar m h0 h) : mdX G sc (uA ar 1 (uI (ar 1) i x)) m h0 (g_up h (m + 1 + 1) (aI G 60 (uI (ar 1) i x))) := X.sta (j := 1) (by decide)
theorem mdX.a2 (X : mdX G sc ar m h0 h) : h (m + 1 + 2) = some (aI G 60 (ar 2)) := X.2.1 2 (by decide)
theorem mdX.st2 {i : Nat} {x : Int} (X : mdX G sc ar m h0 h) : mdX G sc (uA ar 2 (uI (ar 2) i x)) m h0 (g_up h (m + 1 + 2) (aI G 60 (uI (ar 2) i x))) := X.sta (j := 2) (by decide)
theorem mdX.a3 (X : mdX G sc ar m h0 h) : h (m + 1 + 3) = some (aI G 3700 (ar 3)) := X.2.1 3 (by decide)
theorem mdX.st3 {i : Nat} {x : Int} (X : mdX G sc ar m h0 h) : mdX G sc (uA ar 3 (uI (ar 3) i x)) m h0 (g_up h (m + 1 + 3) (aI G 3700 (uI (ar 3) i x))) := X.sta (j := 3) (by decide)
theorem mdX.a4 (X : mdX G sc ar m h0 h) : h (m + 1 + 4) = some (aI G 3700 (ar 4)) := X.2.1 4 (by decide)
theorem mdX.st4 {i : Nat} {x : Int} (X : mdX G sc ar m h0 h) : mdX G sc (uA ar 4 (uI (ar 4) i x)) m h0 (g_up h (m + 1 + 4) (aI G 3700 (uI (ar 4) i x))) := X.sta (j := 4) (by decide)
theorem mdX.a5 (X : mdX G sc ar m h0 h) : h (m + 1 + 5) = some (aI G 600 (ar 5)) := X.2.1 5 (by decide)
theorem mdX.st5 {i : Nat} {x : Int} (X : mdX G sc ar m h0 h) : mdX G sc (uA ar 5 (uI (ar 5) i x)) m h0 (g_up h (m + 1 + 5) (aI G 600 (uI (ar 5) i x))) := X.sta (j := 5) (by decide)
theorem mdX.a6 (X : mdX G sc ar m h0 h) : h (m + 1 + 6) = some (aI G 600 (ar 6)) := X.2.1 6 (by decide)
theorem mdX.st6 {i : Nat} {x : Int} (X : mdX G sc ar m h0 h) : mdX G sc (uA ar 6 (uI (ar 6) i x)) m h0 (g_up h (m + 1 + 6) (aI G 600 (uI (ar 6) i x))) := X.sta (j := 6) (by decide)
theorem mdX.a7 (X : mdX G sc ar m h0 h) : h (m + 1 + 7) = some (aI G 3 (ar 7)) := X.2.1 7 (by decide)
theorem mdX.st7 {i : Nat} {x : Int} (X : mdX G sc ar m h0 h) : mdX G sc (uA ar 7 (uI (ar 7) i x)) m h0 (g_up h (m + 1 + 7) (aI G 3 (uI (ar 7) i x))) := X.sta (j := 7) (by decide)
theorem mdX.a8 (X : mdX G sc ar m h0 h) : h (m + 1 + 8) = some (aZ G 60 (ar 8)) := X.2.1 8 (by decide)
theorem mdX.st8 {i : Nat} {x : Int} (X : mdX G sc ar m h0 h) : mdX G sc (uA ar 8 (uI (ar 8) i x)) m h0 (g_up h (m + 1 + 8) (aZ G 60 (uI (ar 8) i x))) := X.sta (j := 8) (by decide)
theorem mdX.a9 (X : mdX G sc ar m h0 h) : h (m + 1 + 9) = some (aI G 64 (ar 9)) := X.2.1 9 (by decide)
theorem mdX.st9 {i : Nat} {x : Int} (X : mdX G sc ar m h0 h) : mdX G sc (uA ar 9 (uI (ar 9) i x)) m h0 (g_up h (m + 1 + 9) (aI G 64 (uI (ar 9) i x))) := X.sta (j := 9) (by decide)
theorem mdX.a10 (X : mdX G sc ar m h0 h) : h (m + 1 + 10) = some (aI G 64 (ar 10)) := X.2.1 10 (by decide)
theorem mdX.st10 {i : Nat} {x : Int} (X : mdX G sc ar m h0 h) : mdX G sc (uA ar 10 (uI (ar 10) i x)) m h0 (g_up h (m + 1 + 10) (aI G 64 (uI (ar 10) i x))) := X.sta (j := 10) (by decide)
theorem mdX.a11 (X : mdX G sc ar m h0 h) : h (m + 1 + 11) = some (aI G 4 (ar 11)) := X.2.1 11 (by decide)
theorem mdX.st11 {i : Nat} {x : Int} (X : mdX G sc ar m h0 h) : mdX G sc (uA ar 11 (uI (ar 11) i x)) m h0 (g_up h (m + 1 + 11) (aI G 4 (uI (ar 11) i x))) := X.sta (j := 11) (by decide)
theorem mdX.a12 (X : mdX G sc ar m h0 h) : h (m + 1 + 12) = some (aI G 16 (ar 12)) := X.2.1 12 (by decide)
theorem mdX.st12 {i : Nat} {x : Int} (X : mdX G sc ar m h0 h) : mdX G sc (uA ar 12 (uI (ar 12) i x)) m h0 (g_up h (m + 1 + 12) (aI G 16 (uI (ar 12) i x))) := X.sta (j := 12) (by decide)
theorem mdX.a13 (X : mdX G sc ar m h0 h) : h (m + 1 + 13) = some (aI G 16 (ar 13)) := X.2.1 13 (by decide)
theorem mdX.st13 {i : Nat} {x : Int} (X : mdX G sc ar m h0 h) : mdX G sc (uA ar 13 (uI (ar 13) i x)) m h0 (g_up h (m + 1 + 13) (aI G 16 (uI (ar 13) i x))) := X.sta (j := 13) (by decide)
theorem mdX.a14 (X : mdX G sc ar m h0 h) : h (m + 1 + 14) = some (aI G 20 (ar 14)) := X.2.1 14 (by decide)
theorem mdX.st14 {i : Nat} {x : Int} (X : mdX G sc ar m h0 h) : mdX G sc (uA ar 14 (uI (ar 14) i x)) m h0 (g_up h (m + 1 + 14) (aI G 20 (uI (ar 14) i x))) := X.sta (j := 14) (by decide)
theorem mdX.a15 (X : mdX G sc ar m h0 h) : h (m + 1 + 15) = some (aI G 20 (ar 15)) := X.2.1 15 (by decide)
theorem mdX.st15 {i : Nat} {x : Int} (X : mdX G sc ar m h0 h) : mdX G sc (uA ar 15 (uI (ar 15) i x)) m h0 (g_up h (m + 1 + 15) (aI G 20 (uI (ar 15) i x))) := X.sta (j := 15) (by decide)
theorem mdX.a16 (X : mdX G sc ar m h0 h) : h (m + 1 + 16) = some (aI G 20 (ar 16)) := X.2.1 16 (by decide)
theorem mdX.st16 {i : Nat} {x : Int} (X : mdX G sc ar m h0 h) : mdX G sc (uA ar 16 (uI (ar 16) i x)) m h0 (g_up h (m + 1 + 16) (aI G 20 (uI (ar 16) i x))) := X.sta (j := 16) (by decide)
theorem mdX.a17 (X : mdX G sc ar m h0 h) : h (m + 1 + 17) = some (aI G 20 (ar 17)) := X.2.1 17 (by decide)
theorem mdX.st17 {i : Nat} {x : Int} (X : mdX G sc ar m h0 h) : mdX G sc (uA ar 17 (uI (ar 17) i x)) m h0 (g_up h (m + 1 + 17) (aI G 20 (uI (ar 17) i x))) := X.sta (j := 17) (by decide)
theorem mdX.a18 (X : mdX G sc ar m h0 h) : h (m + 1 + 18) = some (aI G 60 (ar 18)) := X.2.1 18 (by decide)
theorem mdX.st18 {i : Nat} {x : Int} (X : mdX G sc ar m h0 h) : mdX G sc (uA ar 18 (uI (ar 18) i x)) m h0 (g_up h (m + 1 + 18) (aI G 60 (uI (ar 18) i x))) := X.sta (j := 18) (by decide)
theorem mdX.a19 (X : mdX G sc ar m h0 h) : h (m + 1 + 19) = some (aI G 60 (ar 19)) := X.2.1 19 (by decide)
theorem mdX.st19 {i : Nat} {x : Int} (X : mdX G sc ar m h0 h) : mdX G sc (uA ar 19 (uI (ar 19) i x)) m h0 (g_up h (m + 1 + 19) (aI G 60 (uI (ar 19) i x))) := X.sta (j := 19) (by decide)
theorem mdX.a20 (X : mdX G sc ar m h0 h) : h (m + 1 + 20) = some (aI G 60 (ar 20)) := X.2.1 20 (by decide)
theorem mdX.st20 {i : Nat} {x : Int} (X : mdX G sc ar m h0 h) : mdX G sc (uA ar 20 (uI (ar 20) i x)) m h0 (g_up h (m + 1 + 20) (aI G 60 (uI (ar 20) i x))) := X.sta (j := 20) (by decide)
theorem mdX.a21 (X : mdX G sc ar m h0 h) : h (m + 1 + 21) = some (aI G 60 (ar 21)) := X.2.1 21 (by decide)
theorem mdX.st21 {i : Nat} {x : Int} (X : mdX G sc ar m h0 h) : mdX G sc (uA ar 21 (uI (ar 21) i x)) m h0 (g_up h (m + 1 + 21) (aI G 60 (uI (ar 21) i x))) := X.sta (j := 21) (by decide)
theorem mdX.a22 (X : mdX G sc ar m h0 h) : h (m + 1 + 22) = some (aI G 64 (ar 22)) := X.2.1 22 (by decide)
theorem mdX.st22 {i : Nat} {x : Int} (X : mdX G sc ar m h0 h) : mdX G sc (uA ar 22 (uI (ar 22) i x)) m h0 (g_up h (m + 1 + 22) (aI G 64 (uI (ar 22) i x))) := X.sta (j := 22) (by decide)
theorem mdX.a23 (X : mdX G sc ar m h0 h) : h (m + 1 + 23) = some (aI G 64 (ar 23)) := X.2.1 23 (by decide)
theorem mdX.st23 {i : Nat} {x : Int} (X : mdX G sc ar m h0 h) : mdX G sc (uA ar 23 (uI (ar 23) i x)) m h0 (g_up h (m + 1 + 23) (aI G 64 (uI (ar 23) i x))) := X.sta (j := 23) (by decide)
theorem mdX.a24 (X : mdX G sc ar m h0 h) : h (m + 1 + 24) = some (aI G 4 (ar 24)) := X.2.1 24 (by decide)
theorem mdX.st24 {i : Nat} {x : Int} (X : mdX G sc ar m h0 h) : mdX G sc (uA ar 24 (uI (ar 24) i x)) m h0 (g_up h (m + 1 + 24) (aI G 4 (uI (ar 24) i x))) := X.sta (j := 24) (by decide)
theorem mdX.a25 (X : mdX G sc ar m h0 h) : h (m + 1 + 25) = some (aI G 80 (ar 25)) := X.2.1 25 (by decide)
theorem mdX.st25 {i : Nat} {x : Int} (X : mdX G sc ar m h0 h) : mdX G sc (uA ar 25 (uI (ar 25) i x)) m h0 (g_up h (m + 1 + 25) (aI G 80 (uI (ar 25) i x))) := X.sta (j := 25) (by decide)
end MBASE
section MGO
variable {C : g_E} {k n : Nat} {z : Option Nat} {pc : Nat} {L : List (Nat × Value)} {st : List Value} {sc : Nat → Int} {ar : Nat → Nat → Int} {m : Nat} {h0 h : g_hp}
theorem mdX.pto {q : Nat} {v : Int} (X : mdX C.1 sc ar m h0 h) (kk : ∀ h1, mdX C.1 (uI sc q v) ar m h0 h1 → Ev C k n z h1 pc L st) (e : (mdF sc m).set q (.int (iN v)) = mdF (uI sc q v) m) : Ev C k n z (g_up h m (.inr (5, (mdF sc m).set q (.int (iN v))))) pc L st := kk _ (X.put e)
theorem mdX.ptoL {q : Nat} {v : Int} (X : mdX C.1 sc ar m h0 h) (kk : ∀ h1, mdX C.1 (uI sc q v) ar m h0 h1 → Ev C k n z h1 pc L st) (e : (mdF sc m).set q (.long (lI v)) = mdF (uI sc q v) m) : Ev C k n z (g_up h m (.inr (5, (mdF sc m).set q (.long (lI v))))) pc L st := kk _ (X.putL e)
theorem mdX.sto0 {i : Nat} {x : Int} (X : mdX C.1 sc ar m h0 h) (kk : ∀ h1, mdX C.1 sc (uA ar 0 (uI (ar 0) i x)) m h0 h1 → Ev C k n z h1 pc L st) : Ev C k n z (g_up h (m + 1 + 0) (aI C.1 60 (uI (ar 0) i x))) pc L st := kk _ X.st0
theorem mdX.sto1 {i : Nat} {x : Int} (X : mdX C.1 sc ar m h0 h) (kk : ∀ h1, mdX C.1 sc (uA ar 1 (uI (ar 1) i x)) m h0 h1 → Ev C k n z h1 pc L st) : Ev C k n z (g_up h (m + 1 + 1) (aI C.1 60 (uI (ar 1) i x))) pc L st := kk _ X.st1
theorem mdX.sto2 {i : Nat} {x : Int} (X : mdX C.1 sc ar m h0 h) (kk : ∀ h1, mdX C.1 sc (uA ar 2 (uI (ar 2) i x)) m h0 h1 → Ev C k n z h1 pc L st) : Ev C k n z (g_up h (m + 1 + 2) (aI C.1 60 (uI (ar 2) i x))) pc L st := kk _ X.st2
theorem mdX.sto3 {i : Nat} {x : Int} (X : mdX C.1 sc ar m h0 h) (kk : ∀ h1, mdX C.1 sc (uA ar 3 (uI (ar 3) i x)) m h0 h1 → Ev C k n z h1 pc L st) : Ev C k n z (g_up h (m + 1 + 3) (aI C.1 3700 (uI (ar 3) i x))) pc L st := kk _ X.st3
theorem mdX.sto4 {i : Nat} {x : Int} (X : mdX C.1 sc ar m h0 h) (kk : ∀ h1, mdX C.1 sc (uA ar 4 (uI (ar 4) i x)) m h0 h1 → Ev C k n z h1 pc L st) : Ev C k n z (g_up h (m + 1 + 4) (aI C.1 3700 (uI (ar 4) i x))) pc L st := kk _ X.st4
theorem mdX.sto5 {i : Nat} {x : Int} (X : mdX C.1 sc ar m h0 h) (kk : ∀ h1, mdX C.1 sc (uA ar 5 (uI (ar 5) i x)) m h0 h1 → Ev C k n z h1 pc L st) : Ev C k n z (g_up h (m + 1 + 5) (aI C.1 600 (uI (ar 5) i x))) pc L st := kk _ X.st5
theorem mdX.sto6 {i : Nat} {x : Int} (X : mdX C.1 sc ar m h0 h) (kk : ∀ h1, mdX C.1 sc (uA ar 6 (uI (ar 6) i x)) m h0 h1 → Ev C k n z h1 pc L st) : Ev C k n z (g_up h (m + 1 + 6) (aI C.1 600 (uI (ar 6) i x))) pc L st := kk _ X.st6
theorem mdX.sto7 {i : Nat} {x : Int} (X : mdX C.1 sc ar m h0 h) (kk : ∀ h1, mdX C.1 sc (uA ar 7 (uI (ar 7) i x)) m h0 h1 → Ev C k n z h1 pc L st) : Ev C k n z (g_up h (m + 1 + 7) (aI C.1 3 (uI (ar 7) i x))) pc L st := kk _ X.st7
theorem mdX.sto8 {i : Nat} {x : Int} (X : mdX C.1 sc ar m h0 h) (kk : ∀ h1, mdX C.1 sc (uA ar 8 (uI (ar 8) i x)) m h0 h1 → Ev C k n z h1 pc L st) : Ev C k n z (g_up h (m + 1 + 8) (aZ C.1 60 (uI (ar 8) i x))) pc L st := kk _ X.st8
theorem mdX.sto9 {i : Nat} {x : Int} (X : mdX C.1 sc ar m h0 h) (kk : ∀ h1, mdX C.1 sc (uA ar 9 (uI (ar 9) i x)) m h0 h1 → Ev C k n z h1 pc L st) : Ev C k n z (g_up h (m + 1 + 9) (aI C.1 64 (uI (ar 9) i x))) pc L st := kk _ X.st9
theorem mdX.sto10 {i : Nat} {x : Int} (X : mdX C.1 sc ar m h0 h) (kk : ∀ h1, mdX C.1 sc (uA ar 10 (uI (ar 10) i x)) m h0 h1 → Ev C k n z h1 pc L st) : Ev C k n z (g_up h (m + 1 + 10) (aI C.1 64 (uI (ar 10) i x))) pc L st := kk _ X.st10
theorem mdX.sto11 {i : Nat} {x : Int} (X : mdX C.1 sc ar m h0 h) (kk : ∀ h1, mdX C.1 sc (uA ar 11 (uI (ar 11) i x)) m h0 h1 → Ev C k n z h1 pc L st) : Ev C k n z (g_up h (m + 1 + 11) (aI C.1 4 (uI (ar 11) i x))) pc L st := kk _ X.st11
theorem mdX.sto12 {i : Nat} {x : Int} (X : mdX C.1 sc ar m h0 h) (kk : ∀ h1, mdX C.1 sc (uA ar 12 (uI (ar 12) i x)) m h0 h1 → Ev C k n z h1 pc L st) : Ev C k n z (g_up h (m + 1 + 12) (aI C.1 16 (uI (ar 12) i x))) pc L st := kk _ X.st12
theorem mdX.sto13 {i : Nat} {x : Int} (X : mdX C.1 sc ar m h0 h) (kk : ∀ h1, mdX C.1 sc (uA ar 13 (uI (ar 13) i x)) m h0 h1 → Ev C k n z h1 pc L st) : Ev C k n z (g_up h (m + 1 + 13) (aI C.1 16 (uI (ar 13) i x))) pc L st := kk _ X.st13
theorem mdX.sto14 {i : Nat} {x : Int} (X : mdX C.1 sc ar m h0 h) (kk : ∀ h1, mdX C.1 sc (uA ar 14 (uI (ar 14) i x)) m h0 h1 → Ev C k n z h1 pc L st) : Ev C k n z (g_up h (m + 1 + 14) (aI C.1 20 (uI (ar 14) i x))) pc L st := kk _ X.st14
theorem mdX.sto15 {i : Nat} {x : Int} (X : mdX C.1 sc ar m h0 h) (kk : ∀ h1, mdX C.1 sc (uA ar 15 (uI (ar 15) i x)) m h0 h1 → Ev C k n z h1 pc L st) : Ev C k n z (g_up h (m + 1 + 15) (aI C.1 20 (uI (ar 15) i x))) pc L st := kk _ X.st15
theorem mdX.sto16 {i : Nat} {x : Int} (X : mdX C.1 sc ar m h0 h) (kk : ∀ h1, mdX C.1 sc (uA ar 16 (uI (ar 16) i x)) m h0 h1 → Ev C k n z h1 pc L st) : Ev C k n z (g_up h (m + 1 + 16) (aI C.1 20 (uI (ar 16) i x))) pc L st := kk _ X.st16
theorem mdX.sto17 {i : Nat} {x : Int} (X : mdX C.1 sc ar m h0 h) (kk : ∀ h1, mdX C.1 sc (uA ar 17 (uI (ar 17) i x)) m h0 h1 → Ev C k n z h1 pc L st) : Ev C k n z (g_up h (m + 1 + 17) (aI C.1 20 (uI (ar 17) i x))) pc L st := kk _ X.st17
theorem mdX.sto18 {i : Nat} {x : Int} (X : mdX C.1 sc ar m h0 h) (kk : ∀ h1, mdX C.1 sc (uA ar 18 (uI (ar 18) i x)) m h0 h1 → Ev C k n z h1 pc L st) : Ev C k n z (g_up h (m + 1 + 18) (aI C.1 60 (uI (ar 18) i x))) pc L st := kk _ X.st18
theorem mdX.sto19 {i : Nat} {x : Int} (X : mdX C.1 sc ar m h0 h) (kk : ∀ h1, mdX C.1 sc (uA ar 19 (uI (ar 19) i x)) m h0 h1 → Ev C k n z h1 pc L st) : Ev C k n z (g_up h (m + 1 + 19) (aI C.1 60 (uI (ar 19) i x))) pc L st := kk _ X.st19
theorem mdX.sto20 {i : Nat} {x : Int} (X : mdX C.1 sc ar m h0 h) (kk : ∀ h1, mdX C.1 sc (uA ar 20 (uI (ar 20) i x)) m h0 h1 → Ev C k n z h1 pc L st) : Ev C k n z (g_up h (m + 1 + 20) (aI C.1 60 (uI (ar 20) i x))) pc L st := kk _ X.st20
theorem mdX.sto21 {i : Nat} {x : Int} (X : mdX C.1 sc ar m h0 h) (kk : ∀ h1, mdX C.1 sc (uA ar 21 (uI (ar 21) i x)) m h0 h1 → Ev C k n z h1 pc L st) : Ev C k n z (g_up h (m + 1 + 21) (aI C.1 60 (uI (ar 21) i x))) pc L st := kk _ X.st21
theorem mdX.sto22 {i : Nat} {x : Int} (X : mdX C.1 sc ar m h0 h) (kk : ∀ h1, mdX C.1 sc (uA ar 22 (uI (ar 22) i x)) m h0 h1 → Ev C k n z h1 pc L st) : Ev C k n z (g_up h (m + 1 + 22) (aI C.1 64 (uI (ar 22) i x))) pc L st := kk _ X.st22
theorem mdX.sto23 {i : Nat} {x : Int} (X : mdX C.1 sc ar m h0 h) (kk : ∀ h1, mdX C.1 sc (uA ar 23 (uI (ar 23) i x)) m h0 h1 → Ev C k n z h1 pc L st) : Ev C k n z (g_up h (m + 1 + 23) (aI C.1 64 (uI (ar 23) i x))) pc L st := kk _ X.st23
theorem mdX.sto24 {i : Nat} {x : Int} (X : mdX C.1 sc ar m h0 h) (kk : ∀ h1, mdX C.1 sc (uA ar 24 (uI (ar 24) i x)) m h0 h1 → Ev C k n z h1 pc L st) : Ev C k n z (g_up h (m + 1 + 24) (aI C.1 4 (uI (ar 24) i x))) pc L st := kk _ X.st24
theorem mdX.sto25 {i : Nat} {x : Int} (X : mdX C.1 sc ar m h0 h) (kk : ∀ h1, mdX C.1 sc (uA ar 25 (uI (ar 25) i x)) m h0 h1 → Ev C k n z h1 pc L st) : Ev C k n z (g_up h (m + 1 + 25) (aI C.1 80 (uI (ar 25) i x))) pc L st := kk _ X.st25
end MGO
section MRULE
variable {C : g_E} {k n : Nat} {z : Option Nat} {h : g_hp} {pc : Nat} {L : List (Nat × Value)} {st : List Value}
theorem e_ial {a N : Nat} {g : Nat → Int} {i v : Int} (ha : h a = some (aI C.1 N g)) (h0 : 0 ≤ i) (hN : i < N) (hb9 : Nat.ble N 2147483647 = true) (e : g i.toNat = v) (hd : decode (g_cc C) pc = .ok (.iaload, 1)) (kk : Ev C k n z h (pc + 1) L (.int (iN v) :: st)) : Ev C k n z h pc L (.int (iN i) :: .ref a :: st) := e_iaload ha h0 hN hb9 hd (by rw [e]; exact kk)
theorem e_zal {a N : Nat} {g : Nat → Int} {i v : Int} (ha : h a = some (aZ C.1 N g)) (h0 : 0 ≤ i) (hN : i < N) (hb9 : Nat.ble N 2147483647 = true) (e : g i.toNat = v) (hd : decode (g_cc C) pc = .ok (.baload, 1)) (kk : Ev C k n z h (pc + 1) L (.int (iN v) :: st)) : Ev C k n z h pc L (.int (iN i) :: .ref a :: st) := e_zaload ha h0 hN hb9 hd (by rw [e]; exact kk)
end MRULE
/-- coordinates and marks as points have them -/
abbrev okP (L : PL) : Prop := ∀ i, i < L.length → (-200 ≤ pX L i ∧ pX L i ≤ 200) ∧ (-200 ≤ pY L i ∧ pY L i ≤ 200) ∧ -1 ≤ pM L i ∧ pM L i ≤ 100
def mdP (sc : Nat → Int) (ar : Nat → Nat → Int) (P : PL) : Prop := sc 4 = P.length ∧ P.length ≤ 60 ∧ okP P ∧ ∀ p, p < P.length → ar 0 p = pM P p ∧ ar 1 p = pX P p ∧ ar 2 p = pY P p
def mdE (sc : Nat → Int) (ar : Nat → Nat → Int) (E : PL) : Prop := sc 33 = (E.length / 2 : Nat) ∧ E.length % 2 = 0 ∧ E.length ≤ 40 ∧ okP E ∧ ∀ l, l < E.length / 2 → ar 14 l = pX E (2 * l) ∧ ar 15 l = pY E (2 * l) ∧ ar 16 l = pX E (2 * l + 1) ∧ ar 17 l = pY E (2 * l + 1)
def mdS (ar : Nat → Nat → Int) (S : Nat → PL) : Prop := ∀ g, g < 4 → ar 11 g = (S g).length ∧ (S g).length ≤ 16 ∧ okP (S g) ∧ ∀ k, k < (S g).length → ar 9 (16 * g + k) = pX (S g) k ∧ ar 10 (16 * g + k) = pY (S g) k
/-- the hull f of three -/
def mdH (ar : Nat → Nat → Int) (f : Nat) (F : PL) : Prop := ar 7 f = F.length ∧ F.length ≤ 200 ∧ okS F ∧ ∀ k, k < F.length → ar 5 (200 * f + k) = pX F k ∧ ar 6 (200 * f + k) = pY F k
/-- the places that were laid -/
def mdQ (sc : Nat → Int) (ar : Nat → Nat → Int) (Q : PL) : Prop := sc 7 = Q.length ∧ Q.length ≤ 3700 ∧ okS Q ∧ ∀ k, k < Q.length → ar 3 k = pX Q k ∧ ar 4 k = pY Q k
/-- what an image has kept -/
def mdI (sc : Nat → Int) (ar : Nat → Nat → Int) (b : Int) (P E : PL) (S : Nat → PL) : Prop := (b = 0 ∨ b = 1) ∧ (b = 0 → sc 43 = -1) ∧ (b = 1 → sc 43 = P.length ∧ P.length ≤ 60 ∧ okP P ∧ (∀ p, p < P.length → ar 19 p = pM P p ∧ ar 20 p = pX P p ∧ ar 21 p = pY P p) ∧ sc 44 = (E.length / 2 : Nat) ∧ E.length % 2 = 0 ∧ E.length ≤ 40 ∧ okP E ∧ (∀ l, l < E.length / 2 → ar 25 (4 * l) = pX E (2 * l) ∧ ar 25 (4 * l + 1) = pY E (2 * l) ∧ ar 25 (4 * l + 2) = pX E (2 * l + 1) ∧ ar 25 (4 * l + 3) = pY E (2 * l + 1)) ∧ ∀ g, g < 4 → ar 24 g = (S g).length ∧ (S g).length ≤ 16 ∧ okP (S g) ∧ ∀ k, k < (S g).length → ar 22 (16 * g + k) = pX (S g) k ∧ ar 23 (16 * g + k) = pY (S g) k)
def mdR (sc : Nat → Int) (ar : Nat → Nat → Int) (P E : PL) (S : Nat → PL) (b : Int) (P2 E2 : PL) (S2 : Nat → PL) (F : PL) : Prop := mdP sc ar P ∧ mdE sc ar E ∧ mdS ar S ∧ mdI sc ar b P2 E2 S2 ∧ mdH ar 0 F
/-- what a method may have changed: numbers of ks, arrays of js -/
def agr (ks js : List Nat) (sc : Nat → Int) (ar : Nat → Nat → Int) (sc' : Nat → Int) (ar' : Nat → Nat → Int) : Prop := (∀ k, k ∉ ks → sc' k = sc k) ∧ ∀ j, j ∉ js → ar' j = ar j
theorem agr.rf {ks js : List Nat} {sc : Nat → Int} {ar : Nat → Nat → Int} : agr ks js sc ar sc ar := ⟨fun _ _ => rfl, fun _ _ => rfl⟩
theorem agr.tr {ks js : List Nat} {sc sc' sc2 : Nat → Int} {ar ar' ar2 : Nat → Nat → Int} (a : agr ks js sc ar sc' ar') (b : agr ks js sc' ar' sc2 ar2) : agr ks js sc ar sc2 ar2 := ⟨fun k hk => (b.1 k hk).trans (a.1 k hk), fun j hj => (b.2 j hj).trans (a.2 j hj)⟩
theorem agr.wk {ks js ks2 js2 : List Nat} {sc sc' : Nat → Int} {ar ar' : Nat → Nat → Int} (a : agr ks js sc ar sc' ar') (h1 : ∀ k ∈ ks, k ∈ ks2) (h2 : ∀ j ∈ js, j ∈ js2) : agr ks2 js2 sc ar sc' ar' := ⟨fun k hk => a.1 k (fun w => hk (h1 k w)), fun j hj => a.2 j (fun w => hj (h2 j w))⟩
theorem agr.pk {ks js : List Nat} {sc sc' : Nat → Int} {ar ar' : Nat → Nat → Int} (a : agr ks js sc ar sc' ar') {k : Nat} {v : Int} (hk : k ∈ ks) : agr ks js sc ar (uI sc' k v) ar' := ⟨fun q hq => (uI_n _ _ (fun e => hq (by rw [e]; exact hk))).trans (a.1 q hq), a.2⟩
theorem agr.pj {ks js : List Nat} {sc sc' : Nat → Int} {ar ar' : Nat → Nat → Int} (a : agr ks js sc ar sc' ar') {j : Nat} {g : Nat → Int} (hj : j ∈ js) : agr ks js sc ar sc' (uA ar' j g) := ⟨a.1, fun q hq => (uA_n (fun e => hq (by rw [e]; exact hj))).trans (a.2 q hq)⟩
/-- what a call may change and the relation doesn't see: numbers, arrays -/
abbrev frK : List Nat := [0, 7, 12, 13, 17, 18, 19, 20, 21, 22, 23, 24, 27, 28, 34]
abbrev frJ : List Nat := [3, 4, 5, 6, 7, 8, 12, 13, 18]
section MREL
variable {sc sc' : Nat → Int} {ar ar' : Nat → Nat → Int} {P E : PL} {S : Nat → PL} {b : Int} {P2 E2 : PL} {S2 : Nat → PL} {F : PL}
theorem mdP.to (x : mdP sc ar P) (a : agr frK frJ sc ar sc' ar') : mdP sc' ar' P := by
  obtain ⟨x1, x2, x3, x4⟩ := x
  refine ⟨(a.1 4 (by decide)).trans x1, x2, x3, ?_⟩
  rw [a.2 0 (by decide), a.2 1 (by decide), a.2 2 (by decide)]
  exact x4
theorem mdE.to (x : mdE sc ar E) (a : agr frK frJ sc ar sc' ar') : mdE sc' ar' E := by
  obtain ⟨x1, x2, x3, x4, x5⟩ := x
  refine ⟨(a.1 33 (by decide)).trans x1, x2, x3, x4, ?_⟩
  rw [a.2 14 (by decide), a.2 15 (by decide), a.2 16 (by decide), a.2 17 (by decide)]
  exact x5
theorem mdS.to (x : mdS ar S) (a : agr frK frJ sc ar sc' ar') : mdS ar' S := by
  unfold mdS
  rw [a.2 9 (by decide), a.2 10 (by decide), a.2 11 (by decide)]
  exact x
theorem mdI.to (x : mdI sc ar b P2 E2 S2) (a : agr frK frJ sc ar sc' ar') : mdI sc' ar' b P2 E2 S2 := by
  unfold mdI
  rw [a.1 43 (by decide), a.1 44 (by decide), a.2 19 (by decide), a.2 20 (by decide), a.2 21 (by decide), a.2 22 (by decide), a.2 23 (by decide), a.2 24 (by decide), a.2 25 (by decide)]
  exact x
theorem mdR.to (x : mdR sc ar P E S b P2 E2 S2 F) (a : agr frK frJ sc ar sc' ar') {F2 : PL} (y : mdH ar' 0 F2) : mdR sc' ar' P E S b P2 E2 S2 F2 := ⟨x.1.to a, x.2.1.to a, x.2.2.1.to a, x.2.2.2.1.to a, y⟩
theorem mdH.to {f : Nat} (x : mdH ar f F) (h5 : ar' 5 = ar 5) (h6 : ar' 6 = ar 6) (h7 : ar' 7 = ar 7) : mdH ar' f F := by
  unfold mdH
  rw [h5, h6, h7]
  exact x
theorem okP.at {L : PL} (h : okP L) {i : Nat} (hi : i < L.length) : (-200 ≤ pX L i ∧ pX L i ≤ 200) ∧ (-200 ≤ pY L i ∧ pY L i ≤ 200) ∧ -1 ≤ pM L i ∧ pM L i ≤ 100 := h i hi
end MREL

section MONE
variable {G : g_X} {sc : Nat → Int} {ar : Nat → Nat → Int} {m : Nat} {h0 h : g_hp}
set_option maxRecDepth 20000 in
theorem S_min {v l u : Int} (hv : r32 v) (hl : r32 l) (hu : r32 u) : Pure G mX8_in [.int (iN v), .int (iN l), .int (iN u)] h (.int (iN (bP (l ≤ v ∧ v ≤ u)))) := by
  intro z
  refine run_of rfl plX8 rfl ?_
  refine e_iload_n dX8_in_0 rfl ?_
  refine e_iload_n dX8_in_1 rfl ?_
  refine e_icmp_lt (tgt := 14) (by assumption) (by assumption) dX8_in_2 rfl (fun c_2 => ?_) (fun c_2 => ?_)
  · refine e_iconst dX8_in_14 ?_
    refine e_zret rfl (by first | exact Or.inl rfl | exact Or.inr rfl | exact bP_01 _) dX8_in_15 (by decide) (by decide) ?_
    first | exact ⟨congrArg _ (congrArg _ (congrArg _ (congrArg _ (bP_t (show l ≤ v ∧ v ≤ u from ⟨by omega, by omega⟩)).symm))), rfl, rfl⟩ | exact ⟨congrArg _ (congrArg _ (congrArg _ (congrArg _ (bP_f (show ¬ (l ≤ v ∧ v ≤ u) by omega)).symm))), rfl, rfl⟩
  · refine e_iload_n dX8_in_5 rfl ?_
    refine e_iload_n dX8_in_6 rfl ?_
    refine e_icmp_gt (tgt := 14) (by assumption) (by assumption) dX8_in_7 rfl (fun c_7 => ?_) (fun c_7 => ?_)
    · refine e_iconst dX8_in_14 ?_
      refine e_zret rfl (by first | exact Or.inl rfl | exact Or.inr rfl | exact bP_01 _) dX8_in_15 (by decide) (by decide) ?_
      first | exact ⟨congrArg _ (congrArg _ (congrArg _ (congrArg _ (bP_t (show l ≤ v ∧ v ≤ u from ⟨by omega, by omega⟩)).symm))), rfl, rfl⟩ | exact ⟨congrArg _ (congrArg _ (congrArg _ (congrArg _ (bP_f (show ¬ (l ≤ v ∧ v ≤ u) by omega)).symm))), rfl, rfl⟩
    · refine e_iconst dX8_in_10 ?_
      refine e_goto (tgt := 15) dX8_in_11 rfl ?_
      refine e_zret rfl (by first | exact Or.inl rfl | exact Or.inr rfl | exact bP_01 _) dX8_in_15 (by decide) (by decide) ?_
      first | exact ⟨congrArg _ (congrArg _ (congrArg _ (congrArg _ (bP_t (show l ≤ v ∧ v ≤ u from ⟨by omega, by omega⟩)).symm))), rfl, rfl⟩ | exact ⟨congrArg _ (congrArg _ (congrArg _ (congrArg _ (bP_f (show ¬ (l ≤ v ∧ v ≤ u) by omega)).symm))), rfl, rfl⟩
end MONE
