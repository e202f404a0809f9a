/-! Census -/
theorem plX0 : plainName RX0 = true := by decide +kernel
abbrev fsI (L : PL) (i : Nat) : Int := pX L i / 2 + 1
abbrev lsI (L : PL) (i : Nat) : Int := (pX L (i + 1) + 1) / 2 - 1
section PCENSUS
variable {G : g_X} {N N2 : Nat} {L L2 : PL} {r r2 : Nat} {h : g_hp}
set_option maxRecDepth 20000 in
theorem S_firstInside (hr : rowAt G N L r h) {i : Nat} (hi : i < L.length) : Pure G mX0_firstInside [.ref r, .int (iN i)] h (.int (iN (fsI L i))) := by
  intro z
  refine run_of rfl plX0 rfl ?_
  have u1 := hr.2.2.1.at hi
  refine e_aload_n dX0_firstInside_0 rfl ?_
  refine e_iload_n dX0_firstInside_1 rfl ?_
  refine e_pureV qcX0_53 hr.obj rfl rfl (S_xAt hr hi) rfl rfl rfl rfl dX0_firstInside_2 ?_
  refine e_iconst dX0_firstInside_5 ?_
  refine e_pureS qcX0_56 (S_floorDiv (y := 2) ⟨by omega, by omega⟩ ⟨by omega, by omega⟩) rfl rfl rfl rfl dX0_firstInside_6 ?_
  refine e_iconst dX0_firstInside_9 ?_
  refine e_iadd dX0_firstInside_10 ?_
  refine e_iret rfl dX0_firstInside_11 (by decide) (by decide) ?_
  exact ⟨rfl, rfl, rfl⟩
set_option maxRecDepth 20000 in
theorem S_lastInside (hr : rowAt G N L r h) {i : Nat} (hi : i + 1 < L.length) : Pure G mX0_lastInside [.ref r, .int (iN i)] h (.int (iN (lsI L i))) := by
  intro z
  refine run_of rfl plX0 rfl ?_
  have u1 := hr.2.2.1.at hi
  have e2 : (i : Int) + 1 = ((i + 1 : Nat) : Int) := rfl
  refine e_aload_n dX0_lastInside_0 rfl ?_
  refine e_iload_n dX0_lastInside_1 rfl ?_
  refine e_iconst dX0_lastInside_2 ?_
  refine e_iadd dX0_lastInside_3 ?_
  refine (show Ev _ 0 0 z h 4 _ (.int (iN ((i + 1 : Nat) : Int)) :: _) from ?_)
  refine e_pureV qcX0_53 hr.obj rfl rfl (S_xAt hr hi) rfl rfl rfl rfl dX0_lastInside_4 ?_
  refine e_iconst dX0_lastInside_7 ?_
  refine e_iadd dX0_lastInside_8 ?_
  refine e_iconst dX0_lastInside_9 ?_
  refine e_pureS qcX0_56 (S_floorDiv (x := pX L (i + 1) + 1) (y := 2) ⟨by omega, by omega⟩ ⟨by omega, by omega⟩) rfl rfl rfl rfl dX0_lastInside_10 ?_
  refine e_iconst dX0_lastInside_13 ?_
  refine e_isub dX0_lastInside_14 ?_
  refine e_iret rfl dX0_lastInside_15 (by decide) (by decide) ?_
  exact ⟨rfl, rfl, rfl⟩
/-- the lower and the higher end of the i-th edge -/
abbrev ctL (L : PL) (i : Nat) : Nat := if 0 < rsE L i then i else nxt L.length i
abbrev ctH (L : PL) (i : Nat) : Nat := if 0 < rsE L i then nxt L.length i else i
abbrev ctR (L : PL) (i : Nat) : Int := pY L (ctH L i) - pY L (ctL L i)
abbrev ctU (L : PL) (y : Int) (i : Nat) : Int := y - pY L (ctL L i)
def ctG (L : PL) (y : Int) (u : Prop) (i : Nat) : Prop := (u → 0 ≤ ctU L y i ∧ ctU L y i < ctR L i) ∧ (¬ u → 0 < ctU L y i ∧ ctU L y i ≤ ctR L i) ∧ 0 < ctR L i
abbrev ctS (L : PL) (y : Int) (i : Nat) : Int := pX L (ctL L i) * ctR L i + ctU L y i * (pX L (ctH L i) - pX L (ctL L i))
abbrev ctV (L : PL) (y : Int) (i : Nat) : Int := ctS L y i / ctR L i - (-ctS L y i) / ctR L i
/-- where the first n edges that go on meet the row -/
noncomputable def cutN (L : PL) (y : Int) (u : Prop) : Nat → PL
  | 0 => []
  | n + 1 => @ite _ (ctG L y u n) (Classical.propDecidable _) (insE (cutN L y u n) (ctV L y n, 0, 0)) (cutN L y u n)
theorem insE_len {L : PL} {e : Int × Int × Int} : (insE L e).length = L.length + 1 := insAt_len (ipos_le L e.1 e.2.1 L.length)
theorem cutN_len (L : PL) (y : Int) (u : Prop) : ∀ n, (cutN L y u n).length ≤ n
  | 0 => Nat.le_refl _
  | n + 1 => by
    have := cutN_len L y u n
    by_cases c : ctG L y u n
    · rw [show cutN L y u (n + 1) = _ from if_pos c, insE_len]; omega
    · rw [show cutN L y u (n + 1) = _ from if_neg c]; omega
end PCENSUS
