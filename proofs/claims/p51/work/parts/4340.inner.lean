/-! Places inside: polygons and figures -/
section INNER
variable {L F W : PL} {R : Nat} {x y : Int} {n i j k : Nat}
theorem sumN_nn {f : Nat → Int} : ∀ n, (∀ i, i < n → 0 ≤ f i) → 0 ≤ sumN f n
  | 0, _ => Int.le_refl _
  | n + 1, h => by
    have := sumN_nn n fun i hi => h i (by omega)
    have := h n (by omega)
    show 0 ≤ sumN f n + f n
    omega
theorem sumN_ge {f : Nat → Int} : ∀ n, (∀ i, i < n → 1 ≤ f i) → (n : Int) ≤ sumN f n
  | 0, _ => Int.le_refl _
  | n + 1, h => by
    have := sumN_ge n fun i hi => h i (by omega)
    have := h n (by omega)
    show ((n + 1 : Nat) : Int) ≤ sumN f n + f n
    omega
theorem ic_nn (p : Prop) : 0 ≤ ic p := by
  by_cases c : p
  · rw [ic_t c]
    decide
  · rw [ic_f c]
    decide
theorem bx_nn {f : Int → Int → Int} (h : ∀ x y, 0 ≤ f x y) : 0 ≤ bx R f := sumN_nn _ fun _ _ => sumN_nn _ fun _ _ => h _ _
theorem srd_ge (h : ∀ i, i < L.length → pt L i ≠ pt L (nxt L.length i)) : (L.length : Int) ≤ srd L := sumN_ge _ fun i hi => by
  have : gsE L i ≠ 0 := fun g => h i hi (by
    have z : (rnE L i).natAbs = 0 ∧ (rsE L i).natAbs = 0 := Nat.gcd_eq_zero_iff.mp g
    have z1 : pX L (nxt L.length i) - pX L i = 0 := Int.natAbs_eq_zero.mp z.1
    have z2 : pY L (nxt L.length i) - pY L i = 0 := Int.natAbs_eq_zero.mp z.2
    exact pt_eq (show pX L i = pX L (nxt L.length i) by omega) (show pY L i = pY L (nxt L.length i) by omega))
  show (1 : Int) ≤ ((gsE L i : Nat) : Int)
  omega
theorem Smp_ne {A B : Int} {v : Nat → Pt} (h : Smp A B v n) (hi : i < n) : v i ≠ v (nxt n i) := fun e => Smp_lv h hi (nxt_lt hi) (Ne.symm (nxt_ne (by have := h.1; omega) hi)) (by rw [e])
/-- Pick's theorem, by amounts -/
theorem pick_abs (hR : R ≤ 1000) (h : Smp (-1) 100000 (pt L) L.length) (hv : inR R (pt L) L.length) : ((da L).natAbs : Int) = 2 * bx R (fun x y => ic (wI L 1 x y = 1)) + srd L - 2 ∧ da L ≠ 0 ∧ sg (da L) = 2 * mu (-1) 100000 (pt L) L.length + 1 := by
  have p := pick hR h hv
  have m := mu_01 h
  have h3 := h.1
  have s := srd_ge (L := L) fun i hi => Smp_ne h hi
  have b : 0 ≤ bx R (fun x y => ic (wI L 1 x y = 1)) := bx_nn fun _ _ => ic_nn _
  rcases m with m | m
  · rw [m] at p ⊢
    rw [show (2 * 0 + 1 : Int) = 1 from rfl, Int.one_mul] at p
    refine ⟨by omega, by omega, ?_⟩
    rw [sg_pos (by omega)]
    rfl
  · rw [m] at p ⊢
    rw [show (2 * -1 + 1 : Int) = -1 from rfl, Int.neg_mul, Int.one_mul] at p
    refine ⟨by omega, by omega, ?_⟩
    rw [sg_neg (by omega)]
    rfl
theorem pin_bx (hR : R ≤ 1000) (h : Smp (-1) 100000 (pt L) L.length) (hv : inR R (pt L) L.length) : pin L = bx R (fun x y => ic (wI L 1 x y = 1)) := by
  have p := (pick_abs hR h hv).1
  have h3 := h.1
  show (if L.length < 3 then (0 : Int) else (((da L).natAbs : Int) - srd L + 2).tdiv 2) = _
  have b : 0 ≤ bx R (fun x y => ic (wI L 1 x y = 1)) := bx_nn fun _ _ => ic_nn _
  rw [if_neg (by omega), p]
  generalize bx R (fun x y => ic (wI L 1 x y = 1)) = I at *
  rw [show 2 * I + srd L - 2 - srd L + 2 = 2 * I by omega]
  exact Int.mul_tdiv_cancel_left I (by decide)
theorem Smp_P (h : closes L) (hb : okP L) : Smp (-1) 100000 (pt L) L.length ∧ inR 200 (pt L) L.length := by
  refine ⟨Smp_L2 h fun i hi => ?_, fun i hi => ?_⟩
  · have := hb i hi
    omega
  · have := hb i hi
    show (-((200 : Nat) : Int) ≤ pX L i ∧ pX L i ≤ ((200 : Nat) : Int)) ∧ (-((200 : Nat) : Int) ≤ pY L i ∧ pY L i ≤ ((200 : Nat) : Int))
    omega
theorem q_tri_hd (h : closes L) (hb : okP L) : da L ≠ 0 := by
  obtain ⟨h1, h2⟩ := Smp_P h hb
  exact (pick_abs (by decide) h1 h2).2.1
theorem wI_1 (L : PL) (s x y : Int) : 0 < wI L s x y ↔ wI L s x y = 1 := by
  have := wI_bd L s x y
  omega
theorem piX_sum (L : PL) (y : Int) : ∀ n : Nat, ((piX L y n : Nat) : Int) = sumN (fun s => ic (wI L 1 ((s : Int) - 200) y = 1)) n
  | 0 => rfl
  | n + 1 => by
    have ih := piX_sum L y n
    have e : piX L y (n + 1) = if 0 < wI L 1 ((n : Int) - 200) y then piX L y n + 1 else piX L y n := rfl
    rw [e]
    show _ = sumN (fun s => ic (wI L 1 ((s : Int) - 200) y = 1)) n + ic (wI L 1 ((n : Int) - 200) y = 1)
    rw [← ih]
    by_cases c : 0 < wI L 1 ((n : Int) - 200) y
    · rw [if_pos c, ic_t ((wI_1 _ _ _ _).mp c)]
      rfl
    · rw [if_neg c, ic_f (fun w => c ((wI_1 _ _ _ _).mpr w)), Int.add_zero]
theorem piY_sum (L : PL) : ∀ n : Nat, ((piY L n : Nat) : Int) = sumN (fun t => sumN (fun s => ic (wI L 1 ((s : Int) - 200) ((t : Int) - 200) = 1)) 401) n
  | 0 => rfl
  | n + 1 => by
    have ih := piY_sum L n
    have e : piY L (n + 1) = piY L n + piX L ((n : Int) - 200) 401 := rfl
    rw [e, Int.natCast_add, ih, piX_sum]
    rfl
theorem q_pInner (h : closes L) (hb : okP L) : ((piY L 401 : Nat) : Int) = pin L := by
  obtain ⟨h1, h2⟩ := Smp_P h hb
  rw [pin_bx (R := 200) (by decide) h1 h2, piY_sum]
  rfl
/-- a figure is a simple row of corners -/
theorem cl_ed (h : edL W) (hn : 3 ≤ W.length) : closes W := by
  refine ⟨hn, fun i hi => ⟨fun f => ?_, fun j hij hj c => ?_⟩⟩
  · have f := fold_F.mp f
    have t := h i hi _ (prv_lt hi) (prv_ne (by omega) hi) (prv_ne_nxt hn hi)
    rcases f with f | f
    · have := On_T f
      omega
    · have := On_T f
      rw [T3_rot] at this
      omega
  · obtain ⟨n1, n2, m⟩ := c
    have m := meet_M.mp m
    have d4 : nxt W.length j ≠ nxt W.length i := fun e => by
      have := nxt_inj hj hi e
      omega
    have t1 := h i hi j hj (by omega) (Ne.symm n1)
    have t2 := h i hi _ (nxt_lt hj) n2 d4
    have t3 := h j hj i hi (by omega) (Ne.symm n2)
    have t4 := h j hj _ (nxt_lt hi) n1 (Ne.symm d4)
    rcases m with ⟨m, -⟩ | m | m | m | m
    · rw [sg_mul] at m
      omega
    · have := On_T m
      omega
    · have := On_T m
      omega
    · have := On_T m
      omega
    · have := On_T m
      omega
theorem Smp_F2 (h : cvx F) (hn : 3 ≤ F.length) : Smp (-1) 100000 (pt F) F.length ∧ inR 400 (pt F) F.length := by
  refine ⟨Smp_L2 (cl_ed h.2.2.1 hn) fun i hi => ?_, fun i hi => ?_⟩
  · have := h.2.1 i hi
    omega
  · have := h.2.1 i hi
    show (-((400 : Nat) : Int) ≤ pX F i ∧ pX F i ≤ ((400 : Nat) : Int)) ∧ (-((400 : Nat) : Int) ≤ pY F i ∧ pY F i ≤ ((400 : Nat) : Int))
    omega
theorem wI_cv (h : edL W) (hn : 3 ≤ W.length) : wI W 1 x y = 1 ↔ ∀ k, k < W.length → 0 < T3 (pt W k) (pt W (nxt W.length k)) (x, y) := by
  constructor
  · intro g
    have he : ∀ i, i < W.length → ¬ On (pt W i) (pt W (nxt W.length i)) (x, y) := fun i hi w => by
      rw [wI_0 hi (eOn_1.mpr w)] at g
      exact absurd g (by decide)
    refine (cv_in h hn he).mp (Classical.byContradiction fun c => ?_)
    have k := (wI_e (L := W) (s := 1) (x := x) (y := y) (fun i hi w => he i hi (eOn_1.mp w))).2 c
    rw [k] at g
    exact absurd g (by decide)
  · intro g
    have he : ∀ i, i < W.length → ¬ On (pt W i) (pt W (nxt W.length i)) (x, y) := fun i hi w => by
      have := On_T w
      have := g i hi
      omega
    exact (wI_e (L := W) (s := 1) (x := x) (y := y) (fun i hi w => he i hi (eOn_1.mp w))).1 ((cv_in h hn he).mpr g)
theorem inL_le (x : Int) : ∀ n, inL F y n ≤ x ↔ -500 ≤ x ∧ ∀ k, k < n → rsE F k < 0 → inB F y k ≤ x
  | 0 => ⟨fun g => ⟨g, fun k hk => absurd hk (Nat.not_lt_zero _)⟩, fun g => g.1⟩
  | n + 1 => by
    have ih := inL_le x n
    have e : inL F y (n + 1) = if rsE F n < 0 ∧ inL F y n < inB F y n then inB F y n else inL F y n := rfl
    rw [e]
    constructor
    · intro g
      have g1 : inL F y n ≤ x := by
        split at g <;> omega
      refine ⟨(ih.mp g1).1, fun k hk hr => ?_⟩
      by_cases c : k = n
      · subst c
        by_cases c2 : inL F y k < inB F y k
        · rw [if_pos ⟨hr, c2⟩] at g
          exact g
        · omega
      · exact (ih.mp g1).2 k (by omega) hr
    · intro g
      have g1 := ih.mpr ⟨g.1, fun k hk => g.2 k (by omega)⟩
      split
      · rename_i c
        exact g.2 n (by omega) c.1
      · exact g1
theorem inH_ge (x : Int) : ∀ n, x ≤ inH F y n ↔ x ≤ 500 ∧ ∀ k, k < n → 0 < rsE F k → x ≤ inB F y k
  | 0 => ⟨fun g => ⟨g, fun k hk => absurd hk (Nat.not_lt_zero _)⟩, fun g => g.1⟩
  | n + 1 => by
    have ih := inH_ge x n
    have e : inH F y (n + 1) = if 0 < rsE F n ∧ inB F y n < inH F y n then inB F y n else inH F y n := rfl
    rw [e]
    constructor
    · intro g
      have g1 : x ≤ inH F y n := by
        split at g <;> omega
      refine ⟨(ih.mp g1).1, fun k hk hr => ?_⟩
      by_cases c : k = n
      · subst c
        by_cases c2 : inB F y k < inH F y k
        · rw [if_pos ⟨hr, c2⟩] at g
          exact g
        · omega
      · exact (ih.mp g1).2 k (by omega) hr
    · intro g
      have g1 := ih.mpr ⟨g.1, fun k hk => g.2 k (by omega)⟩
      split
      · rename_i c
        exact g.2 n (by omega) c.1
      · exact g1
theorem T3_in (F : PL) (k : Nat) (x y : Int) : T3 (pt F k) (pt F (nxt F.length k)) (x, y) = inS F y k - rsE F k * (x - pX F k) := rfl
theorem inB_up (h : 0 < rsE F k) : x ≤ inB F y k ↔ 0 < T3 (pt F k) (pt F (nxt F.length k)) (x, y) := by
  rw [T3_in]
  unfold inB
  rw [if_pos h]
  have : x ≤ pX F k + (inS F y k - 1) / rsE F k ↔ x - pX F k ≤ (inS F y k - 1) / rsE F k := by omega
  rw [this, Int.le_ediv_iff_mul_le h, Int.mul_comm]
  generalize rsE F k * (x - pX F k) = t
  omega
theorem inB_dn (h : rsE F k < 0) : inB F y k ≤ x ↔ 0 < T3 (pt F k) (pt F (nxt F.length k)) (x, y) := by
  rw [T3_in]
  unfold inB
  rw [if_neg (by omega), if_pos h]
  have : pX F k + (0 - inS F y k) / (0 - rsE F k) + 1 ≤ x ↔ (0 - inS F y k) / (0 - rsE F k) < x - pX F k := by omega
  rw [this, Int.ediv_lt_iff_lt_mul (by omega), Int.mul_comm]
  have e : (0 - rsE F k) * (x - pX F k) = - (rsE F k * (x - pX F k)) := by
    rw [Int.zero_sub, Int.neg_mul]
  rw [e]
  generalize rsE F k * (x - pX F k) = t
  omega
theorem cnt_btw {l h : Int} {n : Nat} (h0 : 0 ≤ l) (h1 : l ≤ h + 1) (h2 : h < n) : sumN (fun s => if l ≤ (s : Int) ∧ (s : Int) ≤ h then (1 : Int) else 0) n = h - l + 1 := by
  have e : sumN (fun s => if l ≤ (s : Int) ∧ (s : Int) ≤ h then (1 : Int) else 0) n = sumN (fun s => (if (s : Int) < h + 1 then (1 : Int) else 0) - (if (s : Int) < l then 1 else 0)) n := sumN_cg n fun i _ => by
    split <;> split <;> (try split) <;> omega
  rw [e, sumN_sb, cnt_lt _ (by omega), cnt_lt _ h0]
  omega
theorem inI_sum (hF : cvx F) (hn : 3 ≤ F.length) (y : Int) : inI F y = sumN (fun s => ic (wI F 1 ((s : Int) - (400 : Nat)) y = 1)) 801 := by
  have he := hF.2.2.1
  unfold inI
  by_cases cz : ∃ k, k < F.length ∧ inZ F y k
  · obtain ⟨k, hk, z1, z2⟩ := cz
    rw [cif_t ⟨k, hk, z1, z2⟩, sumN_z _ fun s _ => ic_f fun w => ?_]
    have := (wI_cv he hn).mp w k hk
    rw [T3_in, z1, Int.zero_mul] at this
    omega
  · rw [cif_f cz]
    have iff : ∀ x, (inL F y F.length ≤ x ∧ x ≤ inH F y F.length) ↔ (-500 ≤ x ∧ x ≤ 500) ∧ wI F 1 x y = 1 := fun x => by
      rw [inL_le, inH_ge, wI_cv he hn]
      constructor
      · rintro ⟨⟨g1, g2⟩, g3, g4⟩
        refine ⟨⟨g1, g3⟩, fun k hk => ?_⟩
        rcases Int.lt_trichotomy (rsE F k) 0 with c | c | c
        · exact (inB_dn c).mp (g2 k hk c)
        · rw [T3_in, c, Int.zero_mul]
          have : ¬ inS F y k ≤ 0 := fun w => cz ⟨k, hk, c, w⟩
          omega
        · exact (inB_up c).mp (g4 k hk c)
      · rintro ⟨⟨g1, g3⟩, g⟩
        exact ⟨⟨g1, fun k hk c => (inB_dn c).mpr (g k hk)⟩, g3, fun k hk c => (inB_up c).mpr (g k hk)⟩
    have box : ∀ x, wI F 1 x y = 1 → -400 ≤ x ∧ x ≤ 400 := fun x g => Classical.byContradiction fun c => by
      have := far_lies (L := F) (c := 400) hF.2.1 (x := x) (y := y) (fun w => c ⟨w.1, w.2.1⟩)
      omega
    have e : sumN (fun s => ic (wI F 1 ((s : Int) - (400 : Nat)) y = 1)) 801 = sumN (fun s => if inL F y F.length + 400 ≤ (s : Int) ∧ (s : Int) ≤ inH F y F.length + 400 then (1 : Int) else 0) 801 := sumN_cg _ fun s hs => by
      have i := iff ((s : Int) - (400 : Nat))
      by_cases c : wI F 1 ((s : Int) - (400 : Nat)) y = 1
      · rw [ic_t c, if_pos]
        have := i.mpr ⟨⟨by omega, by omega⟩, c⟩
        omega
      · rw [ic_f c, if_neg]
        intro w
        exact c (i.mp ⟨by omega, by omega⟩).2
    rw [e]
    by_cases c : inH F y F.length < inL F y F.length
    · rw [if_pos c, sumN_z _ fun s _ => if_neg (by omega)]
    · rw [if_neg c]
      have b1 := box _ ((iff (inL F y F.length)).mp ⟨by omega, by omega⟩).2
      have b2 := box _ ((iff (inH F y F.length)).mp ⟨by omega, by omega⟩).2
      rw [cnt_btw (by omega) (by omega) (by omega)]
      omega
theorem q_inner (hF : cvx F) : nnF F = pin F := by
  by_cases hn : 3 ≤ F.length
  · obtain ⟨h1, h2⟩ := Smp_F2 hF hn
    rw [pin_bx (R := 400) (by decide) h1 h2]
    unfold nnF
    rw [if_pos (by omega)]
    exact sumN_cg _ fun t _ => inI_sum hF hn _
  · unfold nnF
    rw [if_neg (by omega)]
    exact (if_pos (by omega)).symm
end INNER

