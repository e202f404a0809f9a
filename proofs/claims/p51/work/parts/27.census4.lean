/-! Census: the places inside -/
/-- the nine cells of a census -/
def cenAt (G : g_X) (A B : PL) (c : Nat) (h : g_hp) : Prop := h c = some (.inr (0, [.ref (c + 1), .ref (c + 5)])) ∧ rowAt G 16 A (c + 1) h ∧ rowAt G 16 B (c + 5) h
theorem cenAt.kept {G : g_X} {A B : PL} {c : Nat} {h h1 : g_hp} (x : cenAt G A B c h) (k : ∀ b, c ≤ b → b < c + 9 → h1 b = h b) : cenAt G A B c h1 :=
  ⟨(k c (by omega) (by omega)).trans x.1, x.2.1.kept (fun b h0 h2 => k b (by omega) (by omega)), x.2.2.kept (fun b h0 h2 => k b (by omega) (by omega))⟩
theorem cenAt.off {G : g_X} {A B : PL} {c b w : Nat} {h h1 : g_hp} (x : cenAt G A B c h) (f : g_fr b w h h1) (d : c + 9 ≤ b ∨ b + w ≤ c) : cenAt G A B c h1 := x.kept (fun a h0 h2 => f a (by omega))
noncomputable abbrev ceR (L : PL) (y : Int) : Int := cmN (cutN L y True L.length) (cutN L y False L.length) ((cutN L y True L.length).length / 2)
noncomputable abbrev ceS (L : PL) (n : Nat) : Int := sumN (fun t => ceR L (bnd L 2 L.length + t)) n
abbrev ceN (L : PL) : Nat := (bnd L 3 L.length - bnd L 2 L.length + 1).toNat
section PCENSUS4
variable {G : g_X} {N : Nat} {L : PL} {r c : Nat} {h : g_hp}
set_option maxRecDepth 20000 in
theorem ce_loop {z : Option Nat} (hr : rowAt G N L r h) (hS : okS L) (hl : L.length ≤ 16) (hd : r + 4 ≤ c ∨ c + 9 ≤ r) : ∀ (n t : Nat) (A B : PL) (h1 : g_hp), t + n = ceN L → cenAt G A B c h1 → g_fr c 9 h h1 → Ev (g_B G mX0_countInside 0 0 (fun o z1 h1 => ∃ v, o = .inl v ∧ z1 = z ∧ (v = some (.int (iN (ceS L (ceN L)))) ∧ (∃ A B, cenAt G A B c h1) ∧ g_fr c 9 h h1))) 0 0 z h1 15 [(4, .int (iN (bnd L 2 L.length + (t : Nat)))), (2, .int (iN (bnd L 3 L.length))), (3, .int (iN (ceS L (t)))), (0, .ref c), (1, .ref r)] [] := by
  have b2 := bnd_bd hr.2.2.1 2 L.length (Nat.le_refl _)
  have b3 := bnd_bd hr.2.2.1 3 L.length (Nat.le_refl _)
  have en : ceN L = (bnd L 3 L.length - bnd L 2 L.length + 1).toNat := rfl
  intro n
  induction n with
  | zero =>
    intro t A B h1 htn hc hf
    have e9 : t = ceN L := by omega
    refine e_iload dX0_countInside_15 rfl ?_
    refine e_iload_n dX0_countInside_17 rfl ?_
    refine e_icmp_gt (tgt := 56) ⟨by omega, by omega⟩ ⟨by omega, by omega⟩ dX0_countInside_18 rfl (fun c_18 => ?_) (fun c_18 => absurd (show bnd L 3 L.length < bnd L 2 L.length + (t : Nat) by omega) c_18)
    refine e_iload_n dX0_countInside_56 rfl ?_
    refine e_iret rfl dX0_countInside_57 (by decide) (by decide) ?_
    exact ⟨_, rfl, rfl, by rw [e9], ⟨A, B, hc⟩, hf⟩
  | succ n ih =>
    intro t A B h1 htn hc hf
    have hr1 := hr.off hf hd
    have hy : bd (bnd L 2 L.length + (t : Nat)) := ⟨by omega, by omega⟩
    refine e_iload dX0_countInside_15 rfl ?_
    refine e_iload_n dX0_countInside_17 rfl ?_
    refine e_icmp_gt (tgt := 56) ⟨by omega, by omega⟩ ⟨by omega, by omega⟩ dX0_countInside_18 rfl (fun c_18 => absurd c_18 (by omega)) (fun c_18 => ?_)
    refine e_aload_n dX0_countInside_21 rfl ?_
    refine e_iload dX0_countInside_22 rfl ?_
    refine e_iconst dX0_countInside_24 ?_
    refine e_aload_n dX0_countInside_25 rfl ?_
    refine e_getf fX0_14 hc.1 rfl dX0_countInside_26 ?_
    refine e_doesS qcX0_29 (S_cut (u := True) hr1 hS hl (by omega) hy hc.2.1) rfl rfl rfl rfl dX0_countInside_29 ?_
    intro v h2 q2
    obtain ⟨rfl, g2, fr2⟩ := q2
    have hr2 := hr1.off fr2 (by omega)
    have o2 := (fr2 c (by omega)).trans hc.1
    have b2r := hc.2.2.off fr2 (by omega)
    refine e_aload_n dX0_countInside_32 rfl ?_
    refine e_iload dX0_countInside_33 rfl ?_
    refine e_iconst dX0_countInside_35 ?_
    refine e_aload_n dX0_countInside_36 rfl ?_
    refine e_getf fX0_20 o2 rfl dX0_countInside_37 ?_
    refine e_doesS qcX0_29 (S_cut (u := False) hr2 hS hl (by omega) hy b2r) rfl rfl rfl rfl dX0_countInside_40 ?_
    intro v h3 q3
    obtain ⟨rfl, g3, fr3⟩ := q3
    have o3 := (fr3 c (by omega)).trans o2
    have a3 := g2.off fr3 (by omega)
    refine e_iload_n dX0_countInside_43 rfl ?_
    refine e_aload_n dX0_countInside_44 rfl ?_
    refine e_pureV qcX0_33 o3 rfl rfl (S_countCommon o3 a3 g3) rfl rfl rfl rfl dX0_countInside_45 ?_
    refine e_iadd dX0_countInside_48 ?_
    refine e_istore_n dX0_countInside_49 rfl ?_
    refine e_iinc dX0_countInside_50 rfl ?_
    refine e_goto (tgt := 15) dX0_countInside_53 rfl ?_
    exact e_loc [(4, .int (iN (bnd L 2 L.length + (t + 1 : Nat)))), (2, .int (iN (bnd L 3 L.length))), (3, .int (iN (ceS L (t + 1)))), (0, .ref c), (1, .ref r)] ⟨by show some (Value.int (iN _)) = some (Value.int (iN _)); rw [Int.add_assoc] <;> rfl, rfl, rfl, rfl, rfl, trivial⟩ (ih (t + 1) _ _ h3 (by omega) ⟨o3, a3, g3⟩ (hf.tr ((fr2.wd (by omega) (by omega)).tr (fr3.wd (by omega) (by omega)))))
set_option maxRecDepth 20000 in
theorem S_countInside (hr : rowAt G N L r h) (hS : okS L) (hl : L.length ≤ 16) (hd : r + 4 ≤ c ∨ c + 9 ≤ r) {A B : PL} (hc : cenAt G A B c h) : Does G mX0_countInside [.ref c, .ref r] h (fun v h1 => v = some (.int (iN (ceS L (ceN L)))) ∧ (∃ A B, cenAt G A B c h1) ∧ g_fr c 9 h h1) := by
  intro z
  refine run_of rfl plX0 rfl ?_
  refine e_aload_n dX0_countInside_0 rfl ?_
  refine e_iconst dX0_countInside_1 ?_
  refine e_pureS qcX0_23 (S_bound (w := 3) hr (by omega)) rfl rfl rfl rfl dX0_countInside_2 ?_
  refine e_istore_n dX0_countInside_5 rfl ?_
  refine e_iconst dX0_countInside_6 ?_
  refine e_istore_n dX0_countInside_7 rfl ?_
  refine e_aload_n dX0_countInside_8 rfl ?_
  refine e_iconst dX0_countInside_9 ?_
  refine e_pureS qcX0_23 (S_bound (w := 2) hr (by omega)) rfl rfl rfl rfl dX0_countInside_10 ?_
  refine e_istore dX0_countInside_13 rfl ?_
  exact e_loc [(4, .int (iN (bnd L 2 L.length + (0 : Nat)))), (2, .int (iN (bnd L 3 L.length))), (3, .int (iN (ceS L 0))), (0, .ref c), (1, .ref r)] ⟨by show some (Value.int (iN _)) = some (Value.int (iN _)); rw [show bnd L 2 L.length + ((0 : Nat) : Int) = bnd L 2 L.length from Int.add_zero _], rfl, rfl, rfl, rfl, trivial⟩ (ce_loop hr hS hl hd (ceN L) 0 A B h (by omega) hc g_fr.rf)
end PCENSUS4
