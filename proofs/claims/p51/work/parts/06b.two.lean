/-! rules for two instructions at once; truth values as 1 and 0; the frame outside of a block -/
def bP (p : Prop) [Decidable p] : Int := if p then 1 else 0
theorem bP_t {p : Prop} [Decidable p] (h : p) : bP p = 1 := if_pos h
theorem bP_f {p : Prop} [Decidable p] (h : ¬ p) : bP p = 0 := if_neg h
theorem bP_01 (p : Prop) [Decidable p] : iN (bP p) = 0 ∨ iN (bP p) = 1 := by
  by_cases h : p
  · rw [bP_t h]; exact Or.inr rfl
  · rw [bP_f h]; exact Or.inl rfl
theorem bP_r (p : Prop) [Decidable p] : r32 (bP p) := by
  by_cases h : p
  · rw [bP_t h]; exact ⟨by decide, by decide⟩
  · rw [bP_f h]; exact ⟨by decide, by decide⟩
theorem bP_c {p q : Prop} [Decidable p] [Decidable q] (h : p ↔ q) : bP p = bP q := by
  by_cases c : p
  · rw [bP_t c, bP_t (h.mp c)]
  · rw [bP_f c, bP_f (fun d => c (h.mpr d))]
section GTWO
variable {C : g_E} {k n : Nat} {z : Option Nat} {h : g_hp} {pc : Nat} {L : List (Nat × Value)} {st : List Value}
theorem e_ifP_eq {p : Prop} [Decidable p] {off : Int} {tgt : Nat} (hd : decode (g_cc C) pc = .ok (.ifCond .eq off, 3)) (ht : (pc : Int) + off = (tgt : Int)) (kt : ¬ p → Ev C k n z h tgt L st) (kf : p → Ev C k n z h (pc + 3) L st) : Ev C k n z h pc L (.int (iN (bP p)) :: st) :=
  e_if_eq (bP_r p) hd ht (fun q => kt (fun w => by rw [bP_t w] at q; cases q)) (fun q => kf (Classical.byContradiction fun w => q (bP_f w)))
theorem e_ifP_ne {p : Prop} [Decidable p] {off : Int} {tgt : Nat} (hd : decode (g_cc C) pc = .ok (.ifCond .ne off, 3)) (ht : (pc : Int) + off = (tgt : Int)) (kt : p → Ev C k n z h tgt L st) (kf : ¬ p → Ev C k n z h (pc + 3) L st) : Ev C k n z h pc L (.int (iN (bP p)) :: st) :=
  e_if_ne (bP_r p) hd ht (fun q => kt (Classical.byContradiction fun w => q (bP_f w))) (fun q => kf (fun w => q (fun e => by rw [bP_t w] at e; cases e)))
theorem e_lif_eq {x y : Int} {off : Int} {tgt : Nat} (hx : r64 x) (hy : r64 y) (hd : decode (g_cc C) pc = .ok (.lcmp, 1)) (hd2 : decode (g_cc C) (pc + 1) = .ok (.ifCond .eq off, 3)) (ht : ((pc + 1 : Nat) : Int) + off = (tgt : Int)) (kt : x = y → Ev C k n z h tgt L st) (kf : ¬ (x = y) → Ev C k n z h (pc + 1 + 3) L st) : Ev C k n z h pc L (.long (lI y) :: .long (lI x) :: st) := by
  refine e_lcmp hx hy hd (e_if_eq ?_ hd2 ht (fun q => kt ?_) (fun q => kf ?_))
  · split
    · exact ⟨by decide, by decide⟩
    · split <;> exact ⟨by decide, by decide⟩
  · by_cases c1 : x < y
    · simp only [c1, if_true] at q; omega
    · by_cases c2 : x = y
      · simp only [c1, c2, if_true, if_false] at q; omega
      · simp only [c1, c2, if_false] at q; omega
  · by_cases c1 : x < y
    · simp only [c1, if_true] at q; omega
    · by_cases c2 : x = y
      · simp only [c1, c2, if_true, if_false] at q; omega
      · simp only [c1, c2, if_false] at q; omega
theorem e_lif_ne {x y : Int} {off : Int} {tgt : Nat} (hx : r64 x) (hy : r64 y) (hd : decode (g_cc C) pc = .ok (.lcmp, 1)) (hd2 : decode (g_cc C) (pc + 1) = .ok (.ifCond .ne off, 3)) (ht : ((pc + 1 : Nat) : Int) + off = (tgt : Int)) (kt : ¬ x = y → Ev C k n z h tgt L st) (kf : ¬ (¬ x = y) → Ev C k n z h (pc + 1 + 3) L st) : Ev C k n z h pc L (.long (lI y) :: .long (lI x) :: st) := by
  refine e_lcmp hx hy hd (e_if_ne ?_ hd2 ht (fun q => kt ?_) (fun q => kf ?_))
  · split
    · exact ⟨by decide, by decide⟩
    · split <;> exact ⟨by decide, by decide⟩
  · by_cases c1 : x < y
    · simp only [c1, if_true] at q; omega
    · by_cases c2 : x = y
      · simp only [c1, c2, if_true, if_false] at q; omega
      · simp only [c1, c2, if_false] at q; omega
  · by_cases c1 : x < y
    · simp only [c1, if_true] at q; omega
    · by_cases c2 : x = y
      · simp only [c1, c2, if_true, if_false] at q; omega
      · simp only [c1, c2, if_false] at q; omega
theorem e_lif_lt {x y : Int} {off : Int} {tgt : Nat} (hx : r64 x) (hy : r64 y) (hd : decode (g_cc C) pc = .ok (.lcmp, 1)) (hd2 : decode (g_cc C) (pc + 1) = .ok (.ifCond .lt off, 3)) (ht : ((pc + 1 : Nat) : Int) + off = (tgt : Int)) (kt : x < y → Ev C k n z h tgt L st) (kf : ¬ (x < y) → Ev C k n z h (pc + 1 + 3) L st) : Ev C k n z h pc L (.long (lI y) :: .long (lI x) :: st) := by
  refine e_lcmp hx hy hd (e_if_lt ?_ hd2 ht (fun q => kt ?_) (fun q => kf ?_))
  · split
    · exact ⟨by decide, by decide⟩
    · split <;> exact ⟨by decide, by decide⟩
  · by_cases c1 : x < y
    · simp only [c1, if_true] at q; omega
    · by_cases c2 : x = y
      · simp only [c1, c2, if_true, if_false] at q; omega
      · simp only [c1, c2, if_false] at q; omega
  · by_cases c1 : x < y
    · simp only [c1, if_true] at q; omega
    · by_cases c2 : x = y
      · simp only [c1, c2, if_true, if_false] at q; omega
      · simp only [c1, c2, if_false] at q; omega
theorem e_lif_ge {x y : Int} {off : Int} {tgt : Nat} (hx : r64 x) (hy : r64 y) (hd : decode (g_cc C) pc = .ok (.lcmp, 1)) (hd2 : decode (g_cc C) (pc + 1) = .ok (.ifCond .ge off, 3)) (ht : ((pc + 1 : Nat) : Int) + off = (tgt : Int)) (kt : y ≤ x → Ev C k n z h tgt L st) (kf : ¬ (y ≤ x) → Ev C k n z h (pc + 1 + 3) L st) : Ev C k n z h pc L (.long (lI y) :: .long (lI x) :: st) := by
  refine e_lcmp hx hy hd (e_if_ge ?_ hd2 ht (fun q => kt ?_) (fun q => kf ?_))
  · split
    · exact ⟨by decide, by decide⟩
    · split <;> exact ⟨by decide, by decide⟩
  · by_cases c1 : x < y
    · simp only [c1, if_true] at q; omega
    · by_cases c2 : x = y
      · simp only [c1, c2, if_true, if_false] at q; omega
      · simp only [c1, c2, if_false] at q; omega
  · by_cases c1 : x < y
    · simp only [c1, if_true] at q; omega
    · by_cases c2 : x = y
      · simp only [c1, c2, if_true, if_false] at q; omega
      · simp only [c1, c2, if_false] at q; omega
theorem e_lif_gt {x y : Int} {off : Int} {tgt : Nat} (hx : r64 x) (hy : r64 y) (hd : decode (g_cc C) pc = .ok (.lcmp, 1)) (hd2 : decode (g_cc C) (pc + 1) = .ok (.ifCond .gt off, 3)) (ht : ((pc + 1 : Nat) : Int) + off = (tgt : Int)) (kt : y < x → Ev C k n z h tgt L st) (kf : ¬ (y < x) → Ev C k n z h (pc + 1 + 3) L st) : Ev C k n z h pc L (.long (lI y) :: .long (lI x) :: st) := by
  refine e_lcmp hx hy hd (e_if_gt ?_ hd2 ht (fun q => kt ?_) (fun q => kf ?_))
  · split
    · exact ⟨by decide, by decide⟩
    · split <;> exact ⟨by decide, by decide⟩
  · by_cases c1 : x < y
    · simp only [c1, if_true] at q; omega
    · by_cases c2 : x = y
      · simp only [c1, c2, if_true, if_false] at q; omega
      · simp only [c1, c2, if_false] at q; omega
  · by_cases c1 : x < y
    · simp only [c1, if_true] at q; omega
    · by_cases c2 : x = y
      · simp only [c1, c2, if_true, if_false] at q; omega
      · simp only [c1, c2, if_false] at q; omega
theorem e_lif_le {x y : Int} {off : Int} {tgt : Nat} (hx : r64 x) (hy : r64 y) (hd : decode (g_cc C) pc = .ok (.lcmp, 1)) (hd2 : decode (g_cc C) (pc + 1) = .ok (.ifCond .le off, 3)) (ht : ((pc + 1 : Nat) : Int) + off = (tgt : Int)) (kt : x ≤ y → Ev C k n z h tgt L st) (kf : ¬ (x ≤ y) → Ev C k n z h (pc + 1 + 3) L st) : Ev C k n z h pc L (.long (lI y) :: .long (lI x) :: st) := by
  refine e_lcmp hx hy hd (e_if_le ?_ hd2 ht (fun q => kt ?_) (fun q => kf ?_))
  · split
    · exact ⟨by decide, by decide⟩
    · split <;> exact ⟨by decide, by decide⟩
  · by_cases c1 : x < y
    · simp only [c1, if_true] at q; omega
    · by_cases c2 : x = y
      · simp only [c1, c2, if_true, if_false] at q; omega
      · simp only [c1, c2, if_false] at q; omega
  · by_cases c1 : x < y
    · simp only [c1, if_true] at q; omega
    · by_cases c2 : x = y
      · simp only [c1, c2, if_true, if_false] at q; omega
      · simp only [c1, c2, if_false] at q; omega
end GTWO
/-- nothing but the block of w cells from r on has changed -/
def g_fr (r w : Nat) (h h1 : g_hp) : Prop := ∀ a, (a < r ∨ r + w ≤ a) → h1 a = h a
theorem g_fr.rf {r w : Nat} {h : g_hp} : g_fr r w h h := fun _ _ => rfl
theorem g_fr.up {r w a : Nat} {h h1 : g_hp} {e : va_E} (f : g_fr r w h h1) (h0 : r ≤ a) (h2 : a < r + w) : g_fr r w h (g_up h1 a e) := fun b hb => by
  rw [g_up_n _ _ (by omega)]
  exact f b hb
theorem g_fr.tr {r w : Nat} {h h1 h2 : g_hp} (f : g_fr r w h h1) (f2 : g_fr r w h1 h2) : g_fr r w h h2 := fun b hb => (f2 b hb).trans (f b hb)
theorem g_fr.wd {r w r' w' : Nat} {h h1 : g_hp} (f : g_fr r w h h1) (h0 : r' ≤ r) (h2 : r + w ≤ r' + w') : g_fr r' w' h h1 := fun b hb => f b (by omega)
theorem g_up_up (h : g_hp) (a : Nat) (e e' : va_E) : g_up (g_up h a e) a e' = g_up h a e' := by
  funext q
  by_cases c : q = a
  · rw [c, g_up_s, g_up_s]
  · rw [g_up_n _ _ c, g_up_n _ _ c, g_up_n _ _ c]
