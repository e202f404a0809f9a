/-! Census -/
theorem plX0 : plainName RX0 = true := by decide +kernel
abbrev fsI (L : PL) (i : Nat) : Int := pX L i / 2 + 1
abbrev lsI (L : PL) (i : Nat) : Int := (pX L (i + 1) + 1) / 2 - 1
section PCENSUS
variable {G : g_X} {N N2 : Nat} {L L2 : PL} {r r2 : Nat} {h : g_hp}
set_option maxRecDepth 20000 in
theorem S_firstInside (hr : rowAt G N L r h) {i : Nat} (hi : i < L.length) : Pure G mX0_firstInside [.ref r, .int (iN i)] h (.int (iN (fsI L i))) := by
  intro z
  refine run_of rfl plX0 rfl ?_
  have u1 := hr.2.2.1.at hi
  refine e_aload_n dX0_firstInside_0 rfl ?_
  refine e_iload_n dX0_firstInside_1 rfl ?_
  refine e_pureV qcX0_53 hr.obj rfl rfl (S_xAt hr hi) rfl rfl rfl rfl dX0_firstInside_2 ?_
  refine e_iconst dX0_firstInside_5 ?_
  refine e_pureS qcX0_56 (S_floorDiv (y := 2) ⟨by omega, by omega⟩ ⟨by omega, by omega⟩) rfl rfl rfl rfl dX0_firstInside_6 ?_
  refine e_iconst dX0_firstInside_9 ?_
  refine e_iadd dX0_firstInside_10 ?_
  refine e_iret rfl dX0_firstInside_11 (by decide) (by decide) ?_
  exact ⟨rfl, rfl, rfl⟩
set_option maxRecDepth 20000 in
theorem S_lastInside (hr : rowAt G N L r h) {i : Nat} (hi : i + 1 < L.length) : Pure G mX0_lastInside [.ref r, .int (iN i)] h (.int (iN (lsI L i))) := by
  intro z
  refine run_of rfl plX0 rfl ?_
  have u1 := hr.2.2.1.at hi
  have e2 : (i : Int) + 1 = ((i + 1 : Nat) : Int) := rfl
  refine e_aload_n dX0_lastInside_0 rfl ?_
  refine e_iload_n dX0_lastInside_1 rfl ?_
  refine e_iconst dX0_lastInside_2 ?_
  refine e_iadd dX0_lastInside_3 ?_
  refine (show Ev _ 0 0 z h 4 _ (.int (iN ((i + 1 : Nat) : Int)) :: _) from ?_)
  refine e_pureV qcX0_53 hr.obj rfl rfl (S_xAt hr hi) rfl rfl rfl rfl dX0_lastInside_4 ?_
  refine e_iconst dX0_lastInside_7 ?_
  refine e_iadd dX0_lastInside_8 ?_
  refine e_iconst dX0_lastInside_9 ?_
  refine e_pureS qcX0_56 (S_floorDiv (x := pX L (i + 1) + 1) (y := 2) ⟨by omega, by omega⟩ ⟨by omega, by omega⟩) rfl rfl rfl rfl dX0_lastInside_10 ?_
  refine e_iconst dX0_lastInside_13 ?_
  refine e_isub dX0_lastInside_14 ?_
  refine e_iret rfl dX0_lastInside_15 (by decide) (by decide) ?_
  exact ⟨rfl, rfl, rfl⟩
/-- the lower and the higher end of the i-th edge -/
abbrev ctL (L : PL) (i : Nat) : Nat := if 0 < rsE L i then i else nxt L.length i
abbrev ctH (L : PL) (i : Nat) : Nat := if 0 < rsE L i then nxt L.length i else i
abbrev ctR (L : PL) (i : Nat) : Int := pY L (ctH L i) - pY L (ctL L i)
abbrev ctU (L : PL) (y : Int) (i : Nat) : Int := y - pY L (ctL L i)
def ctG (L : PL) (y : Int) (u : Prop) (i : Nat) : Prop := (u → 0 ≤ ctU L y i ∧ ctU L y i < ctR L i) ∧ (¬ u → 0 < ctU L y i ∧ ctU L y i ≤ ctR L i) ∧ 0 < ctR L i
abbrev ctS (L : PL) (y : Int) (i : Nat) : Int := pX L (ctL L i) * ctR L i + ctU L y i * (pX L (ctH L i) - pX L (ctL L i))
abbrev ctV (L : PL) (y : Int) (i : Nat) : Int := ctS L y i / ctR L i - (-ctS L y i) / ctR L i
/-- where the first n edges that go on meet the row -/
noncomputable def cutN (L : PL) (y : Int) (u : Prop) : Nat → PL
  | 0 => []
  | n + 1 => @ite _ (ctG L y u n) (Classical.propDecidable _) (insE (cutN L y u n) (ctV L y n, 0, 0)) (cutN L y u n)
theorem insE_len {L : PL} {e : Int × Int × Int} : (insE L e).length = L.length + 1 := insAt_len (ipos_le L e.1 e.2.1 L.length)
theorem cutN_len (L : PL) (y : Int) (u : Prop) : ∀ n, (cutN L y u n).length ≤ n
  | 0 => Nat.le_refl _
  | n + 1 => by
    have := cutN_len L y u n
    by_cases c : ctG L y u n
    · rw [show cutN L y u (n + 1) = _ from if_pos c, insE_len]; omega
    · rw [show cutN L y u (n + 1) = _ from if_neg c]; omega
theorem ct_lo {B xl xh R U : Int} (hR : 0 < R) (hU : 0 ≤ U ∧ U ≤ R) (h1 : -B ≤ xl ∧ xl ≤ B) (h2 : -B ≤ xh ∧ xh ≤ B) : -(B * R) ≤ xl * R + U * (xh - xl) ∧ xl * R + U * (xh - xl) ≤ B * R := by
  have e : xl * R + U * (xh - xl) = xl * (R - U) + xh * U := by rw [Int.mul_sub, Int.mul_sub, Int.mul_comm U xh, Int.mul_comm U xl]; omega
  have e2 : B * R = B * (R - U) + B * U := by rw [← Int.mul_add]; congr 1; omega
  have a1 := Int.mul_le_mul_of_nonneg_right h1.2 (show 0 ≤ R - U by omega)
  have a2 := Int.mul_le_mul_of_nonneg_right h2.2 hU.1
  have a3 := Int.mul_le_mul_of_nonneg_right h1.1 (show 0 ≤ R - U by omega)
  have a4 := Int.mul_le_mul_of_nonneg_right h2.1 hU.1
  rw [Int.neg_mul] at a3 a4
  rw [e, e2]
  generalize xl * (R - U) = p1 at *
  generalize xh * U = p2 at *
  generalize B * (R - U) = p3 at *
  generalize B * U = p4 at *
  omega
theorem ct_q {B S R : Int} (hR : 0 < R) (h : -(B * R) ≤ S ∧ S ≤ B * R) : -B ≤ S / R ∧ S / R ≤ B := by
  constructor
  · exact Int.le_ediv_of_mul_le hR (by rw [Int.neg_mul]; exact h.1)
  · exact Int.ediv_le_of_le_mul hR h.2
theorem ctV_bd {L : PL} (hS : okS L) {i : Nat} (hi : i < L.length) {y : Int} (hR : 0 < ctR L i) (hU : 0 ≤ ctU L y i ∧ ctU L y i ≤ ctR L i) : (-320000 ≤ ctS L y i ∧ ctS L y i ≤ 320000) ∧ bd (ctV L y i) := by
  have hl : ctL L i < L.length := by unfold ctL; split; exact hi; exact nxt_lt hi
  have hh : ctH L i < L.length := by unfold ctH; split; exact nxt_lt hi; exact hi
  have u1 := hS _ hl
  have u2 := hS _ hh
  have b : -(400 * ctR L i) ≤ ctS L y i ∧ ctS L y i ≤ 400 * ctR L i := ct_lo (B := 400) hR hU u1.1 u2.1
  have r1 : ctR L i ≤ 800 := by show _ - _ ≤ _; omega
  have q1 : -400 ≤ ctS L y i / ctR L i ∧ ctS L y i / ctR L i ≤ 400 := ct_q hR b
  have q2 : -400 ≤ (-ctS L y i) / ctR L i ∧ (-ctS L y i) / ctR L i ≤ 400 := ct_q hR ⟨Int.neg_le_neg b.2, Int.neg_le_of_neg_le b.1⟩
  show (-320000 ≤ ctS L y i ∧ ctS L y i ≤ 320000) ∧ (-2000 ≤ ctS L y i / ctR L i - (-ctS L y i) / ctR L i ∧ ctS L y i / ctR L i - (-ctS L y i) / ctR L i ≤ 2000)
  generalize (-ctS L y i) / ctR L i = k2 at q2 ⊢
  generalize ctS L y i / ctR L i = k1 at q1 ⊢
  clear hR hU u1 u2 hl hh
  generalize ctS L y i = S at b ⊢
  generalize ctR L i = R at b r1
  exact ⟨by omega, by omega⟩
end PCENSUS
