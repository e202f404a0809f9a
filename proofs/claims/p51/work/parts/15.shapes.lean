/-! truth values laid on the stack; sums, parities -/
section GMAT
variable {C : g_E} {k n : Nat} {z : Option Nat} {h : g_hp} {pc : Nat} {L : List (Nat × Value)} {st : List Value}
/-- a truth value whose statement is decided by no program -/
noncomputable abbrev bC (p : Prop) : Int := @bP p (Classical.propDecidable p)
theorem bC_bP (p : Prop) [i : Decidable p] : bC p = bP p := by
  by_cases h : p
  · rw [bP_t h]; exact @bP_t p (Classical.propDecidable p) h
  · rw [bP_f h]; exact @bP_f p (Classical.propDecidable p) h
theorem bP_1 {p : Prop} [Decidable p] (h : bP p = 1) : p := Classical.byContradiction fun w => by rw [bP_f w] at h; cases h
/-- lcmp; if_le A; iconst_1; goto B; A: iconst_0; B: -/
theorem e_matL_le {x y off o2 : Int} {A : Nat} (hx : r64 x) (hy : r64 y) (d0 : decode (g_cc C) pc = .ok (.lcmp, 1)) (d1 : decode (g_cc C) (pc + 1) = .ok (.ifCond .le off, 3)) (ht : ((pc + 1 : Nat) : Int) + off = (A : Int)) (d2 : decode (g_cc C) (pc + 4) = .ok (.iconst 1, 1)) (d3 : decode (g_cc C) (pc + 5) = .ok (.goto o2, 3)) (ht2 : ((pc + 5 : Nat) : Int) + o2 = ((A + 1 : Nat) : Int)) (d4 : decode (g_cc C) A = .ok (.iconst 0, 1)) (kk : Ev C k n z h (A + 1) L (.int (iN (bP (y < x))) :: st)) : Ev C k n z h pc L (.long (lI y) :: .long (lI x) :: st) :=
  e_lif_le hx hy d0 d1 ht (fun q => e_iconst d4 (by rw [bP_f (show ¬ (y < x) by omega)] at kk; exact kk)) (fun q => e_iconst d2 (e_goto d3 ht2 (by rw [bP_t (show y < x by omega)] at kk; exact kk)))
theorem e_matI_le {x y off o2 : Int} {A : Nat} (hx : r32 x) (hy : r32 y) (d1 : decode (g_cc C) pc = .ok (.if_icmp .le off, 3)) (ht : (pc : Int) + off = (A : Int)) (d2 : decode (g_cc C) (pc + 3) = .ok (.iconst 1, 1)) (d3 : decode (g_cc C) (pc + 4) = .ok (.goto o2, 3)) (ht2 : ((pc + 4 : Nat) : Int) + o2 = ((A + 1 : Nat) : Int)) (d4 : decode (g_cc C) A = .ok (.iconst 0, 1)) (kk : Ev C k n z h (A + 1) L (.int (iN (bP (y < x))) :: st)) : Ev C k n z h pc L (.int (iN y) :: .int (iN x) :: st) :=
  e_icmp_le hx hy d1 ht (fun q => e_iconst d4 (by rw [bP_f (show ¬ (y < x) by omega)] at kk; exact kk)) (fun q => e_iconst d2 (e_goto d3 ht2 (by rw [bP_t (show y < x by omega)] at kk; exact kk)))
/-- lcmp; if_ge A; iconst_1; goto B; A: iconst_0; B: -/
theorem e_matL_ge {x y off o2 : Int} {A : Nat} (hx : r64 x) (hy : r64 y) (d0 : decode (g_cc C) pc = .ok (.lcmp, 1)) (d1 : decode (g_cc C) (pc + 1) = .ok (.ifCond .ge off, 3)) (ht : ((pc + 1 : Nat) : Int) + off = (A : Int)) (d2 : decode (g_cc C) (pc + 4) = .ok (.iconst 1, 1)) (d3 : decode (g_cc C) (pc + 5) = .ok (.goto o2, 3)) (ht2 : ((pc + 5 : Nat) : Int) + o2 = ((A + 1 : Nat) : Int)) (d4 : decode (g_cc C) A = .ok (.iconst 0, 1)) (kk : Ev C k n z h (A + 1) L (.int (iN (bP (x < y))) :: st)) : Ev C k n z h pc L (.long (lI y) :: .long (lI x) :: st) :=
  e_lif_ge hx hy d0 d1 ht (fun q => e_iconst d4 (by rw [bP_f (show ¬ (x < y) by omega)] at kk; exact kk)) (fun q => e_iconst d2 (e_goto d3 ht2 (by rw [bP_t (show x < y by omega)] at kk; exact kk)))
theorem e_matI_ge {x y off o2 : Int} {A : Nat} (hx : r32 x) (hy : r32 y) (d1 : decode (g_cc C) pc = .ok (.if_icmp .ge off, 3)) (ht : (pc : Int) + off = (A : Int)) (d2 : decode (g_cc C) (pc + 3) = .ok (.iconst 1, 1)) (d3 : decode (g_cc C) (pc + 4) = .ok (.goto o2, 3)) (ht2 : ((pc + 4 : Nat) : Int) + o2 = ((A + 1 : Nat) : Int)) (d4 : decode (g_cc C) A = .ok (.iconst 0, 1)) (kk : Ev C k n z h (A + 1) L (.int (iN (bP (x < y))) :: st)) : Ev C k n z h pc L (.int (iN y) :: .int (iN x) :: st) :=
  e_icmp_ge hx hy d1 ht (fun q => e_iconst d4 (by rw [bP_f (show ¬ (x < y) by omega)] at kk; exact kk)) (fun q => e_iconst d2 (e_goto d3 ht2 (by rw [bP_t (show x < y by omega)] at kk; exact kk)))
/-- lcmp; if_lt A; iconst_1; goto B; A: iconst_0; B: -/
theorem e_matL_lt {x y off o2 : Int} {A : Nat} (hx : r64 x) (hy : r64 y) (d0 : decode (g_cc C) pc = .ok (.lcmp, 1)) (d1 : decode (g_cc C) (pc + 1) = .ok (.ifCond .lt off, 3)) (ht : ((pc + 1 : Nat) : Int) + off = (A : Int)) (d2 : decode (g_cc C) (pc + 4) = .ok (.iconst 1, 1)) (d3 : decode (g_cc C) (pc + 5) = .ok (.goto o2, 3)) (ht2 : ((pc + 5 : Nat) : Int) + o2 = ((A + 1 : Nat) : Int)) (d4 : decode (g_cc C) A = .ok (.iconst 0, 1)) (kk : Ev C k n z h (A + 1) L (.int (iN (bP (y ≤ x))) :: st)) : Ev C k n z h pc L (.long (lI y) :: .long (lI x) :: st) :=
  e_lif_lt hx hy d0 d1 ht (fun q => e_iconst d4 (by rw [bP_f (show ¬ (y ≤ x) by omega)] at kk; exact kk)) (fun q => e_iconst d2 (e_goto d3 ht2 (by rw [bP_t (show y ≤ x by omega)] at kk; exact kk)))
theorem e_matI_lt {x y off o2 : Int} {A : Nat} (hx : r32 x) (hy : r32 y) (d1 : decode (g_cc C) pc = .ok (.if_icmp .lt off, 3)) (ht : (pc : Int) + off = (A : Int)) (d2 : decode (g_cc C) (pc + 3) = .ok (.iconst 1, 1)) (d3 : decode (g_cc C) (pc + 4) = .ok (.goto o2, 3)) (ht2 : ((pc + 4 : Nat) : Int) + o2 = ((A + 1 : Nat) : Int)) (d4 : decode (g_cc C) A = .ok (.iconst 0, 1)) (kk : Ev C k n z h (A + 1) L (.int (iN (bP (y ≤ x))) :: st)) : Ev C k n z h pc L (.int (iN y) :: .int (iN x) :: st) :=
  e_icmp_lt hx hy d1 ht (fun q => e_iconst d4 (by rw [bP_f (show ¬ (y ≤ x) by omega)] at kk; exact kk)) (fun q => e_iconst d2 (e_goto d3 ht2 (by rw [bP_t (show y ≤ x by omega)] at kk; exact kk)))
/-- lcmp; if_gt A; iconst_1; goto B; A: iconst_0; B: -/
theorem e_matL_gt {x y off o2 : Int} {A : Nat} (hx : r64 x) (hy : r64 y) (d0 : decode (g_cc C) pc = .ok (.lcmp, 1)) (d1 : decode (g_cc C) (pc + 1) = .ok (.ifCond .gt off, 3)) (ht : ((pc + 1 : Nat) : Int) + off = (A : Int)) (d2 : decode (g_cc C) (pc + 4) = .ok (.iconst 1, 1)) (d3 : decode (g_cc C) (pc + 5) = .ok (.goto o2, 3)) (ht2 : ((pc + 5 : Nat) : Int) + o2 = ((A + 1 : Nat) : Int)) (d4 : decode (g_cc C) A = .ok (.iconst 0, 1)) (kk : Ev C k n z h (A + 1) L (.int (iN (bP (x ≤ y))) :: st)) : Ev C k n z h pc L (.long (lI y) :: .long (lI x) :: st) :=
  e_lif_gt hx hy d0 d1 ht (fun q => e_iconst d4 (by rw [bP_f (show ¬ (x ≤ y) by omega)] at kk; exact kk)) (fun q => e_iconst d2 (e_goto d3 ht2 (by rw [bP_t (show x ≤ y by omega)] at kk; exact kk)))
theorem e_matI_gt {x y off o2 : Int} {A : Nat} (hx : r32 x) (hy : r32 y) (d1 : decode (g_cc C) pc = .ok (.if_icmp .gt off, 3)) (ht : (pc : Int) + off = (A : Int)) (d2 : decode (g_cc C) (pc + 3) = .ok (.iconst 1, 1)) (d3 : decode (g_cc C) (pc + 4) = .ok (.goto o2, 3)) (ht2 : ((pc + 4 : Nat) : Int) + o2 = ((A + 1 : Nat) : Int)) (d4 : decode (g_cc C) A = .ok (.iconst 0, 1)) (kk : Ev C k n z h (A + 1) L (.int (iN (bP (x ≤ y))) :: st)) : Ev C k n z h pc L (.int (iN y) :: .int (iN x) :: st) :=
  e_icmp_gt hx hy d1 ht (fun q => e_iconst d4 (by rw [bP_f (show ¬ (x ≤ y) by omega)] at kk; exact kk)) (fun q => e_iconst d2 (e_goto d3 ht2 (by rw [bP_t (show x ≤ y by omega)] at kk; exact kk)))
/-- lcmp; if_ne A; iconst_1; goto B; A: iconst_0; B: -/
theorem e_matL_ne {x y off o2 : Int} {A : Nat} (hx : r64 x) (hy : r64 y) (d0 : decode (g_cc C) pc = .ok (.lcmp, 1)) (d1 : decode (g_cc C) (pc + 1) = .ok (.ifCond .ne off, 3)) (ht : ((pc + 1 : Nat) : Int) + off = (A : Int)) (d2 : decode (g_cc C) (pc + 4) = .ok (.iconst 1, 1)) (d3 : decode (g_cc C) (pc + 5) = .ok (.goto o2, 3)) (ht2 : ((pc + 5 : Nat) : Int) + o2 = ((A + 1 : Nat) : Int)) (d4 : decode (g_cc C) A = .ok (.iconst 0, 1)) (kk : Ev C k n z h (A + 1) L (.int (iN (bP (x = y))) :: st)) : Ev C k n z h pc L (.long (lI y) :: .long (lI x) :: st) :=
  e_lif_ne hx hy d0 d1 ht (fun q => e_iconst d4 (by rw [bP_f (show ¬ (x = y) by omega)] at kk; exact kk)) (fun q => e_iconst d2 (e_goto d3 ht2 (by rw [bP_t (show x = y by omega)] at kk; exact kk)))
theorem e_matI_ne {x y off o2 : Int} {A : Nat} (hx : r32 x) (hy : r32 y) (d1 : decode (g_cc C) pc = .ok (.if_icmp .ne off, 3)) (ht : (pc : Int) + off = (A : Int)) (d2 : decode (g_cc C) (pc + 3) = .ok (.iconst 1, 1)) (d3 : decode (g_cc C) (pc + 4) = .ok (.goto o2, 3)) (ht2 : ((pc + 4 : Nat) : Int) + o2 = ((A + 1 : Nat) : Int)) (d4 : decode (g_cc C) A = .ok (.iconst 0, 1)) (kk : Ev C k n z h (A + 1) L (.int (iN (bP (x = y))) :: st)) : Ev C k n z h pc L (.int (iN y) :: .int (iN x) :: st) :=
  e_icmp_ne hx hy d1 ht (fun q => e_iconst d4 (by rw [bP_f (show ¬ (x = y) by omega)] at kk; exact kk)) (fun q => e_iconst d2 (e_goto d3 ht2 (by rw [bP_t (show x = y by omega)] at kk; exact kk)))
/-- lcmp; if_eq A; iconst_1; goto B; A: iconst_0; B: -/
theorem e_matL_eq {x y off o2 : Int} {A : Nat} (hx : r64 x) (hy : r64 y) (d0 : decode (g_cc C) pc = .ok (.lcmp, 1)) (d1 : decode (g_cc C) (pc + 1) = .ok (.ifCond .eq off, 3)) (ht : ((pc + 1 : Nat) : Int) + off = (A : Int)) (d2 : decode (g_cc C) (pc + 4) = .ok (.iconst 1, 1)) (d3 : decode (g_cc C) (pc + 5) = .ok (.goto o2, 3)) (ht2 : ((pc + 5 : Nat) : Int) + o2 = ((A + 1 : Nat) : Int)) (d4 : decode (g_cc C) A = .ok (.iconst 0, 1)) (kk : Ev C k n z h (A + 1) L (.int (iN (bP (¬ x = y))) :: st)) : Ev C k n z h pc L (.long (lI y) :: .long (lI x) :: st) :=
  e_lif_eq hx hy d0 d1 ht (fun q => e_iconst d4 (by rw [bP_f (show ¬ (¬ x = y) by omega)] at kk; exact kk)) (fun q => e_iconst d2 (e_goto d3 ht2 (by rw [bP_t (show ¬ x = y by omega)] at kk; exact kk)))
theorem e_matI_eq {x y off o2 : Int} {A : Nat} (hx : r32 x) (hy : r32 y) (d1 : decode (g_cc C) pc = .ok (.if_icmp .eq off, 3)) (ht : (pc : Int) + off = (A : Int)) (d2 : decode (g_cc C) (pc + 3) = .ok (.iconst 1, 1)) (d3 : decode (g_cc C) (pc + 4) = .ok (.goto o2, 3)) (ht2 : ((pc + 4 : Nat) : Int) + o2 = ((A + 1 : Nat) : Int)) (d4 : decode (g_cc C) A = .ok (.iconst 0, 1)) (kk : Ev C k n z h (A + 1) L (.int (iN (bP (¬ x = y))) :: st)) : Ev C k n z h pc L (.int (iN y) :: .int (iN x) :: st) :=
  e_icmp_eq hx hy d1 ht (fun q => e_iconst d4 (by rw [bP_f (show ¬ (¬ x = y) by omega)] at kk; exact kk)) (fun q => e_iconst d2 (e_goto d3 ht2 (by rw [bP_t (show ¬ x = y by omega)] at kk; exact kk)))
/-- ifne A; iconst_1; goto B; A: iconst_0; B: -/
theorem e_matN {p : Prop} [Decidable p] {off o2 : Int} {A : Nat} (d1 : decode (g_cc C) pc = .ok (.ifCond .ne off, 3)) (ht : (pc : Int) + off = (A : Int)) (d2 : decode (g_cc C) (pc + 3) = .ok (.iconst 1, 1)) (d3 : decode (g_cc C) (pc + 4) = .ok (.goto o2, 3)) (ht2 : ((pc + 4 : Nat) : Int) + o2 = ((A + 1 : Nat) : Int)) (d4 : decode (g_cc C) A = .ok (.iconst 0, 1)) (kk : Ev C k n z h (A + 1) L (.int (iN (bP (¬ p))) :: st)) : Ev C k n z h pc L (.int (iN (bP p)) :: st) :=
  e_ifP_ne d1 ht (fun q => e_iconst d4 (by rw [bP_f (show ¬ ¬ p from fun w => w q)] at kk; exact kk)) (fun q => e_iconst d2 (e_goto d3 ht2 (by rw [bP_t q] at kk; exact kk)))
theorem e_icmpB_eq {p q : Prop} [Decidable p] [Decidable q] {off : Int} {tgt : Nat} (hd : decode (g_cc C) pc = .ok (.if_icmp .eq off, 3)) (ht : (pc : Int) + off = (tgt : Int)) (kt : (p ↔ q) → Ev C k n z h tgt L st) (kf : ¬ (p ↔ q) → Ev C k n z h (pc + 3) L st) : Ev C k n z h pc L (.int (iN (bP q)) :: .int (iN (bP p)) :: st) :=
  e_icmp_eq (bP_r p) (bP_r q) hd ht (fun e => kt ⟨fun w => bP_1 (by rw [← e]; exact bP_t w), fun w => bP_1 (by rw [e]; exact bP_t w)⟩) (fun e => kf (fun w => e (bP_c w)))
theorem e_icmpB_ne {p q : Prop} [Decidable p] [Decidable q] {off : Int} {tgt : Nat} (hd : decode (g_cc C) pc = .ok (.if_icmp .ne off, 3)) (ht : (pc : Int) + off = (tgt : Int)) (kt : ¬ (p ↔ q) → Ev C k n z h tgt L st) (kf : (p ↔ q) → Ev C k n z h (pc + 3) L st) : Ev C k n z h pc L (.int (iN (bP q)) :: .int (iN (bP p)) :: st) :=
  e_icmp_ne (bP_r p) (bP_r q) hd ht (fun e => kt (fun w => e (bP_c w))) (fun e => kf (by
    have e := Classical.not_not.mp e
    exact ⟨fun w => bP_1 (by rw [← e]; exact bP_t w), fun w => bP_1 (by rw [e]; exact bP_t w)⟩))
end GMAT
def sumN (f : Nat → Int) : Nat → Int
  | 0 => 0
  | n + 1 => sumN f n + f n
theorem sumN_bd {f : Nat → Int} {B : Int} : ∀ {n : Nat}, (∀ i, i < n → -B ≤ f i ∧ f i ≤ B) → -(n * B) ≤ sumN f n ∧ sumN f n ≤ n * B
  | 0, _ => by simp [sumN]
  | n + 1, h => by
    have h1 := sumN_bd (n := n) (fun i hi => h i (by omega))
    have h2 := h n (by omega)
    have e : ((n + 1 : Nat) : Int) * B = n * B + B := by rw [show ((n + 1 : Nat) : Int) = (n : Int) + 1 from rfl, Int.add_mul, Int.one_mul]
    unfold sumN
    rw [e]
    omega
/-! Shapes: closed rows of corners -/
abbrev rnE (L : PL) (i : Nat) : Int := pX L (nxt L.length i) - pX L i
abbrev rsE (L : PL) (i : Nat) : Int := pY L (nxt L.length i) - pY L i
theorem okL.nx {L : PL} (h : okL L) {i : Nat} (hi : i < L.length) : bd (pX L (nxt L.length i)) ∧ bd (pY L (nxt L.length i)) := ⟨(h.at (nxt_lt hi)).1, (h.at (nxt_lt hi)).2.1⟩
abbrev daT (L : PL) (i : Nat) : Int := pX L i * pY L (nxt L.length i) - pY L i * pX L (nxt L.length i)
abbrev da (L : PL) : Int := sumN (daT L) L.length
abbrev gsE (L : PL) (i : Nat) : Nat := Nat.gcd (rnE L i).natAbs (rsE L i).natAbs
abbrev srd (L : PL) : Int := sumN (fun i => (gsE L i : Int)) L.length
theorem da_bd {L : PL} (h : okL L) (hl : L.length ≤ 100) : -1000000000 ≤ da L ∧ da L ≤ 1000000000 := by
  have h1 := sumN_bd (f := daT L) (B := 8000000) (n := L.length) (fun i hi => by
    have b1 := h.at hi
    have b2 := h.nx hi
    have m1 := mul_bd (A := 2000) (B := 2000) b1.1 b2.2
    have m2 := mul_bd (A := 2000) (B := 2000) b1.2.1 b2.1
    exact ⟨by show _ ≤ pX L i * pY L (nxt L.length i) - pY L i * pX L (nxt L.length i); omega, by show pX L i * pY L (nxt L.length i) - pY L i * pX L (nxt L.length i) ≤ _; omega⟩)
  have h2 : (L.length : Int) * 8000000 ≤ 800000000 := by omega
  show _ ≤ sumN (daT L) L.length ∧ sumN (daT L) L.length ≤ _
  omega
theorem gs_bd {L : PL} (h : okL L) {i : Nat} (hi : i < L.length) : gsE L i ≤ 4000 := by
  have b1 := h.at hi
  have b2 := h.nx hi
  rcases Nat.eq_zero_or_pos (rnE L i).natAbs with q | q
  · unfold gsE
    rw [q, Nat.gcd_zero_left]
    unfold rsE
    omega
  · have := Nat.gcd_le_left (rsE L i).natAbs q
    unfold gsE
    unfold rnE at this ⊢
    omega
theorem srd_bd {L : PL} (h : okL L) (hl : L.length ≤ 100) : 0 ≤ srd L ∧ srd L ≤ 400000 := by
  have h0 : ∀ n, n ≤ L.length → 0 ≤ sumN (fun i => (gsE L i : Int)) n := by
    intro n
    induction n with
    | zero => intro _; exact Int.le_refl _
    | succ n ih => intro hn; have := ih (by omega); unfold sumN; omega
  have h1 := sumN_bd (f := fun i => (gsE L i : Int)) (B := 4000) (n := L.length) (fun i hi => by have := gs_bd h hi; exact ⟨by omega, by show ((gsE L i : Nat) : Int) ≤ 4000; omega⟩)
  have h2 := h0 L.length (Nat.le_refl _)
  show _ ≤ sumN _ L.length ∧ sumN _ L.length ≤ _
  omega
theorem plX5 : plainName RX5 = true := by decide +kernel
section PSHAPES
variable {G : g_X} {N : Nat} {L : PL} {r : Nat} {h : g_hp}
set_option maxRecDepth 20000 in
theorem S_runOf (hr : rowAt G N L r h) {i : Nat} (hi : i < L.length) : Pure G mX5_runOf [.ref r, .int (iN i)] h (.int (iN (rnE L i))) := by
  intro z
  refine run_of rfl plX5 rfl ?_
  refine e_aload_n dX5_runOf_0 rfl ?_
  refine e_aload_n dX5_runOf_1 rfl ?_
  refine e_iload_n dX5_runOf_2 rfl ?_
  refine e_pureV qcX5_7 hr.obj rfl rfl (S_next hr hi) rfl rfl rfl rfl dX5_runOf_3 ?_
  refine e_pureV qcX5_13 hr.obj rfl rfl (S_xAt hr (nxt_lt hi)) rfl rfl rfl rfl dX5_runOf_6 ?_
  refine e_aload_n dX5_runOf_9 rfl ?_
  refine e_iload_n dX5_runOf_10 rfl ?_
  refine e_pureV qcX5_13 hr.obj rfl rfl (S_xAt hr hi) rfl rfl rfl rfl dX5_runOf_11 ?_
  refine e_isub dX5_runOf_14 ?_
  refine e_iret rfl dX5_runOf_15 (by decide) (by decide) ?_
  exact ⟨rfl, rfl, rfl⟩
set_option maxRecDepth 20000 in
theorem S_riseOf (hr : rowAt G N L r h) {i : Nat} (hi : i < L.length) : Pure G mX5_riseOf [.ref r, .int (iN i)] h (.int (iN (rsE L i))) := by
  intro z
  refine run_of rfl plX5 rfl ?_
  refine e_aload_n dX5_riseOf_0 rfl ?_
  refine e_aload_n dX5_riseOf_1 rfl ?_
  refine e_iload_n dX5_riseOf_2 rfl ?_
  refine e_pureV qcX5_7 hr.obj rfl rfl (S_next hr hi) rfl rfl rfl rfl dX5_riseOf_3 ?_
  refine e_pureV qcX5_16 hr.obj rfl rfl (S_yAt hr (nxt_lt hi)) rfl rfl rfl rfl dX5_riseOf_6 ?_
  refine e_aload_n dX5_riseOf_9 rfl ?_
  refine e_iload_n dX5_riseOf_10 rfl ?_
  refine e_pureV qcX5_16 hr.obj rfl rfl (S_yAt hr hi) rfl rfl rfl rfl dX5_riseOf_11 ?_
  refine e_isub dX5_riseOf_14 ?_
  refine e_iret rfl dX5_riseOf_15 (by decide) (by decide) ?_
  exact ⟨rfl, rfl, rfl⟩
set_option maxRecDepth 20000 in
theorem S_twistOf (hr : rowAt G N L r h) {a b c : Nat} (ha : a < L.length) (hb : b < L.length) (hc : c < L.length) : Pure G mX5_twistOf [.ref r, .int (iN a), .int (iN b), .int (iN c)] h (.long (lI (tw3 L a b L c))) := by
  intro z
  refine run_of rfl plX5 rfl ?_
  have u1 := hr.2.2.1.at ha
  have u2 := hr.2.2.1.at hb
  have u3 := hr.2.2.1.at hc
  refine e_aload_n dX5_twistOf_0 rfl ?_
  refine e_iload_n dX5_twistOf_1 rfl ?_
  refine e_pureV qcX5_13 hr.obj rfl rfl (S_xAt hr ha) rfl rfl rfl rfl dX5_twistOf_2 ?_
  refine e_i2l ⟨by omega, by omega⟩ dX5_twistOf_5 ?_
  refine e_aload_n dX5_twistOf_6 rfl ?_
  refine e_iload_n dX5_twistOf_7 rfl ?_
  refine e_pureV qcX5_16 hr.obj rfl rfl (S_yAt hr ha) rfl rfl rfl rfl dX5_twistOf_8 ?_
  refine e_i2l ⟨by omega, by omega⟩ dX5_twistOf_11 ?_
  refine e_aload_n dX5_twistOf_12 rfl ?_
  refine e_iload_n dX5_twistOf_13 rfl ?_
  refine e_pureV qcX5_13 hr.obj rfl rfl (S_xAt hr hb) rfl rfl rfl rfl dX5_twistOf_14 ?_
  refine e_i2l ⟨by omega, by omega⟩ dX5_twistOf_17 ?_
  refine e_aload_n dX5_twistOf_18 rfl ?_
  refine e_iload_n dX5_twistOf_19 rfl ?_
  refine e_pureV qcX5_16 hr.obj rfl rfl (S_yAt hr hb) rfl rfl rfl rfl dX5_twistOf_20 ?_
  refine e_i2l ⟨by omega, by omega⟩ dX5_twistOf_23 ?_
  refine e_aload_n dX5_twistOf_24 rfl ?_
  refine e_iload_n dX5_twistOf_25 rfl ?_
  refine e_pureV qcX5_13 hr.obj rfl rfl (S_xAt hr hc) rfl rfl rfl rfl dX5_twistOf_26 ?_
  refine e_i2l ⟨by omega, by omega⟩ dX5_twistOf_29 ?_
  refine e_aload_n dX5_twistOf_30 rfl ?_
  refine e_iload_n dX5_twistOf_31 rfl ?_
  refine e_pureV qcX5_16 hr.obj rfl rfl (S_yAt hr hc) rfl rfl rfl rfl dX5_twistOf_32 ?_
  refine e_i2l ⟨by omega, by omega⟩ dX5_twistOf_35 ?_
  refine e_pureS qcX5_19 (S_twist _ _ _ _ _ _) rfl rfl rfl rfl dX5_twistOf_36 ?_
  refine e_lret rfl dX5_twistOf_39 (by decide) (by decide) ?_
  exact ⟨rfl, rfl, rfl⟩
set_option maxRecDepth 20000 in
theorem da_loop {z : Option Nat} (hr : rowAt G N L r h) : ∀ (n i : Nat), i + n = L.length → Ev (g_B G mX5_doubledArea 0 0 (fun o z1 h1 => o = .inl (some (.int (iN (da L)))) ∧ z1 = z ∧ h1 = h)) 0 0 z h 4 [(2, .int (iN i)), (1, .int (iN (sumN (daT L) i))), (0, .ref r)] [] := by
  have h9 := hr.1
  have h8 := hr.2.1
  intro n
  induction n with
  | zero =>
    intro i hin
    have e9 : i = L.length := by omega
    subst e9
    refine e_iload_n dX5_doubledArea_4 rfl ?_
    refine e_aload_n dX5_doubledArea_5 rfl ?_
    refine e_pureV qcX5_25 hr.obj rfl rfl (S_size hr) rfl rfl rfl rfl dX5_doubledArea_6 ?_
    refine e_icmp_ge (tgt := 50) ⟨by omega, by omega⟩ ⟨by omega, by omega⟩ dX5_doubledArea_9 rfl (fun c_9 => ?_) (fun c_9 => absurd (Int.le_refl _) c_9)
    refine e_iload_n dX5_doubledArea_50 rfl ?_
    refine e_iret rfl dX5_doubledArea_51 (by decide) (by decide) ?_
    exact ⟨rfl, rfl, rfl⟩
  | succ n ih =>
    intro i hin
    have hi : i < L.length := by omega
    have u1 := hr.2.2.1.at hi
    have u2 := hr.2.2.1.nx hi
    refine e_iload_n dX5_doubledArea_4 rfl ?_
    refine e_aload_n dX5_doubledArea_5 rfl ?_
    refine e_pureV qcX5_25 hr.obj rfl rfl (S_size hr) rfl rfl rfl rfl dX5_doubledArea_6 ?_
    refine e_icmp_ge (tgt := 50) ⟨by omega, by omega⟩ ⟨by omega, by omega⟩ dX5_doubledArea_9 rfl (fun c_9 => ?_) (fun c_9 => ?_)
    · exact absurd c_9 (by omega)
    · refine e_aload_n dX5_doubledArea_12 rfl ?_
      refine e_iload_n dX5_doubledArea_13 rfl ?_
      refine e_pureV qcX5_7 hr.obj rfl rfl (S_next hr hi) rfl rfl rfl rfl dX5_doubledArea_14 ?_
      refine e_istore_n dX5_doubledArea_17 rfl ?_
      refine e_iload_n dX5_doubledArea_18 rfl ?_
      refine e_aload_n dX5_doubledArea_19 rfl ?_
      refine e_iload_n dX5_doubledArea_20 rfl ?_
      refine e_pureV qcX5_13 hr.obj rfl rfl (S_xAt hr hi) rfl rfl rfl rfl dX5_doubledArea_21 ?_
      refine e_aload_n dX5_doubledArea_24 rfl ?_
      refine e_iload_n dX5_doubledArea_25 rfl ?_
      refine e_pureV qcX5_16 hr.obj rfl rfl (S_yAt hr (nxt_lt hi)) rfl rfl rfl rfl dX5_doubledArea_26 ?_
      refine e_imul dX5_doubledArea_29 ?_
      refine e_aload_n dX5_doubledArea_30 rfl ?_
      refine e_iload_n dX5_doubledArea_31 rfl ?_
      refine e_pureV qcX5_16 hr.obj rfl rfl (S_yAt hr hi) rfl rfl rfl rfl dX5_doubledArea_32 ?_
      refine e_aload_n dX5_doubledArea_35 rfl ?_
      refine e_iload_n dX5_doubledArea_36 rfl ?_
      refine e_pureV qcX5_13 hr.obj rfl rfl (S_xAt hr (nxt_lt hi)) rfl rfl rfl rfl dX5_doubledArea_37 ?_
      refine e_imul dX5_doubledArea_40 ?_
      refine e_isub dX5_doubledArea_41 ?_
      refine e_iadd dX5_doubledArea_42 ?_
      refine e_istore_n dX5_doubledArea_43 rfl ?_
      refine e_iinc dX5_doubledArea_44 rfl ?_
      refine e_goto (tgt := 4) dX5_doubledArea_47 rfl ?_
      exact e_loc [(2, .int (iN (i + 1 : Nat))), (1, .int (iN (sumN (daT L) (i + 1)))), (0, .ref r)] ⟨rfl, rfl, rfl, trivial⟩ (ih (i + 1) (by omega))
set_option maxRecDepth 20000 in
theorem S_doubledArea (hr : rowAt G N L r h) : Pure G mX5_doubledArea [.ref r] h (.int (iN (da L))) := by
  intro z
  refine run_of rfl plX5 rfl ?_
  refine e_iconst dX5_doubledArea_0 ?_
  refine e_istore_n dX5_doubledArea_1 rfl ?_
  refine e_iconst dX5_doubledArea_2 ?_
  refine e_istore_n dX5_doubledArea_3 rfl ?_
  exact e_loc [(2, .int (iN (0 : Nat))), (1, .int (iN (sumN (daT L) 0))), (0, .ref r)] ⟨rfl, rfl, rfl, trivial⟩ (da_loop hr L.length 0 (by omega))
set_option maxRecDepth 20000 in
theorem S_stepsAlong (hr : rowAt G N L r h) {i : Nat} (hi : i < L.length) : Pure G mX5_stepsAlong [.ref r, .int (iN i)] h (.int (iN (gsE L i))) := by
  intro z
  refine run_of rfl plX5 rfl ?_
  have u1 := hr.2.2.1.at hi
  have u2 := hr.2.2.1.nx hi
  have v1 : -4000 ≤ rnE L i ∧ rnE L i ≤ 4000 := by show -4000 ≤ _ - _ ∧ _ - _ ≤ 4000; omega
  have v2 : -4000 ≤ rsE L i ∧ rsE L i ≤ 4000 := by show -4000 ≤ _ - _ ∧ _ - _ ≤ 4000; omega
  refine e_aload_n dX5_stepsAlong_0 rfl ?_
  refine e_iload_n dX5_stepsAlong_1 rfl ?_
  refine e_pureS qcX5_29 (S_runOf hr hi) rfl rfl rfl rfl dX5_stepsAlong_2 ?_
  refine e_i2l ⟨by omega, by omega⟩ dX5_stepsAlong_5 ?_
  refine e_aload_n dX5_stepsAlong_6 rfl ?_
  refine e_iload_n dX5_stepsAlong_7 rfl ?_
  refine e_pureS qcX5_35 (S_riseOf hr hi) rfl rfl rfl rfl dX5_stepsAlong_8 ?_
  refine e_i2l ⟨by omega, by omega⟩ dX5_stepsAlong_11 ?_
  refine e_pureS qcX5_38 (S_commonDivisor (a := rnE L i) (b := rsE L i) ⟨by omega, by omega⟩ ⟨by omega, by omega⟩) rfl rfl rfl rfl dX5_stepsAlong_12 ?_
  refine e_l2i dX5_stepsAlong_15 ?_
  refine e_iret rfl dX5_stepsAlong_16 (by decide) (by decide) ?_
  exact ⟨rfl, rfl, rfl⟩
set_option maxRecDepth 20000 in
theorem sr_loop {z : Option Nat} (hr : rowAt G N L r h) : ∀ (n i : Nat), i + n = L.length → Ev (g_B G mX5_stepsRound 0 0 (fun o z1 h1 => o = .inl (some (.int (iN (srd L)))) ∧ z1 = z ∧ h1 = h)) 0 0 z h 4 [(2, .int (iN i)), (1, .int (iN (sumN (fun i => (gsE L i : Int)) i))), (0, .ref r)] [] := by
  have h9 := hr.1
  have h8 := hr.2.1
  intro n
  induction n with
  | zero =>
    intro i hin
    have e9 : i = L.length := by omega
    subst e9
    refine e_iload_n dX5_stepsRound_4 rfl ?_
    refine e_aload_n dX5_stepsRound_5 rfl ?_
    refine e_pureV qcX5_25 hr.obj rfl rfl (S_size hr) rfl rfl rfl rfl dX5_stepsRound_6 ?_
    refine e_icmp_ge (tgt := 26) ⟨by omega, by omega⟩ ⟨by omega, by omega⟩ dX5_stepsRound_9 rfl (fun c_9 => ?_) (fun c_9 => absurd (Int.le_refl _) c_9)
    refine e_iload_n dX5_stepsRound_26 rfl ?_
    refine e_iret rfl dX5_stepsRound_27 (by decide) (by decide) ?_
    exact ⟨rfl, rfl, rfl⟩
  | succ n ih =>
    intro i hin
    have hi : i < L.length := by omega
    have u1 := hr.2.2.1.at hi
    have u2 := hr.2.2.1.nx hi
    refine e_iload_n dX5_stepsRound_4 rfl ?_
    refine e_aload_n dX5_stepsRound_5 rfl ?_
    refine e_pureV qcX5_25 hr.obj rfl rfl (S_size hr) rfl rfl rfl rfl dX5_stepsRound_6 ?_
    refine e_icmp_ge (tgt := 26) ⟨by omega, by omega⟩ ⟨by omega, by omega⟩ dX5_stepsRound_9 rfl (fun c_9 => ?_) (fun c_9 => ?_)
    · exact absurd c_9 (by omega)
    · refine e_iload_n dX5_stepsRound_12 rfl ?_
      refine e_aload_n dX5_stepsRound_13 rfl ?_
      refine e_iload_n dX5_stepsRound_14 rfl ?_
      refine e_pureS qcX5_42 (S_stepsAlong hr hi) rfl rfl rfl rfl dX5_stepsRound_15 ?_
      refine e_iadd dX5_stepsRound_18 ?_
      refine e_istore_n dX5_stepsRound_19 rfl ?_
      refine e_iinc dX5_stepsRound_20 rfl ?_
      refine e_goto (tgt := 4) dX5_stepsRound_23 rfl ?_
      exact e_loc [(2, .int (iN (i + 1 : Nat))), (1, .int (iN (sumN (fun i => (gsE L i : Int)) (i + 1)))), (0, .ref r)] ⟨rfl, rfl, rfl, trivial⟩ (ih (i + 1) (by omega))
set_option maxRecDepth 20000 in
theorem S_stepsRound (hr : rowAt G N L r h) : Pure G mX5_stepsRound [.ref r] h (.int (iN (srd L))) := by
  intro z
  refine run_of rfl plX5 rfl ?_
  refine e_iconst dX5_stepsRound_0 ?_
  refine e_istore_n dX5_stepsRound_1 rfl ?_
  refine e_iconst dX5_stepsRound_2 ?_
  refine e_istore_n dX5_stepsRound_3 rfl ?_
  exact e_loc [(2, .int (iN (0 : Nat))), (1, .int (iN (sumN (fun i => (gsE L i : Int)) 0))), (0, .ref r)] ⟨rfl, rfl, rfl, trivial⟩ (sr_loop hr L.length 0 (by omega))
abbrev pin (L : PL) : Int := if L.length < 3 then 0 else (((da L).natAbs : Int) - srd L + 2).tdiv 2
set_option maxRecDepth 20000 in
theorem S_placesInside (hr : rowAt G N L r h) (hl : L.length ≤ 100) : Pure G mX5_placesInside [.ref r] h (.int (iN (pin L))) := by
  intro z
  refine run_of rfl plX5 rfl ?_
  have h8 := da_bd hr.2.2.1 hl
  have h9 := srd_bd hr.2.2.1 hl
  refine e_aload_n dX5_placesInside_0 rfl ?_
  refine e_pureV qcX5_25 hr.obj rfl rfl (S_size hr) rfl rfl rfl rfl dX5_placesInside_1 ?_
  refine e_iconst dX5_placesInside_4 ?_
  refine e_icmp_ge (tgt := 10) ⟨by omega, by omega⟩ ⟨by omega, by omega⟩ dX5_placesInside_5 rfl (fun c_5 => ?_) (fun c_5 => ?_)
  · refine e_aload_n dX5_placesInside_10 rfl ?_
    refine e_pureS qcX5_45 (S_doubledArea hr) rfl rfl rfl rfl dX5_placesInside_11 ?_
    refine e_mabs ⟨by omega, by omega⟩ qcX5_49 rfl dX5_placesInside_14 ?_
    refine e_aload_n dX5_placesInside_17 rfl ?_
    refine e_pureS qcX5_54 (S_stepsRound hr) rfl rfl rfl rfl dX5_placesInside_18 ?_
    refine e_isub dX5_placesInside_21 ?_
    refine e_iconst dX5_placesInside_22 ?_
    refine e_iadd dX5_placesInside_23 ?_
    refine e_iconst dX5_placesInside_24 ?_
    refine e_idiv ⟨by omega, by omega⟩ ⟨by omega, by omega⟩ (by omega) dX5_placesInside_25 ?_
    refine e_iret rfl dX5_placesInside_26 (by decide) (by decide) ?_
    exact ⟨by rw [show pin L = (((da L).natAbs : Int) - srd L + 2).tdiv 2 from if_neg (by omega)], rfl, rfl⟩
  · refine e_iconst dX5_placesInside_8 ?_
    refine e_iret rfl dX5_placesInside_9 (by decide) (by decide) ?_
    exact ⟨by rw [show pin L = 0 from if_pos (by omega)], rfl, rfl⟩
end PSHAPES
