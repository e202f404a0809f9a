/-! Hulls: the sum of two -/
/-- corners of a half of a sum -/
abbrev okH (L : PL) : Prop := ∀ i, i < L.length → (-1000 ≤ pX L i ∧ pX L i ≤ 1000) ∧ (-1000 ≤ pY L i ∧ pY L i ≤ 1000)
abbrev cyc (o i : Nat) : Nat := if i < o then i else 0
/-- the number of edges -/
abbrev egs (L : PL) : Nat := if 1 < L.length then L.length else 0
def addC (A B : PL) (i j : Nat) : Int := if egs A ≤ i then 1 else if egs B ≤ j then -1 else cmpE A i B j
def addF (N : Nat) (A B : PL) : Nat → Int → Int → Nat → Nat → PL → PL
  | 0, _, _, _, _, T => T
  | f + 1, x, y, i, j, T => if i < egs A ∨ j < egs B then addF N A B f (x + (if addC A B i j ≤ 0 then rnE A i else 0) + (if 0 ≤ addC A B i j then rnE B j else 0)) (y + (if addC A B i j ≤ 0 then rsE A i else 0) + (if 0 ≤ addC A B i j then rsE B j else 0)) (i + (if addC A B i j ≤ 0 then 1 else 0)) (j + (if 0 ≤ addC A B i j then 1 else 0)) (capp N T (x + (if addC A B i j ≤ 0 then rnE A i else 0) + (if 0 ≤ addC A B i j then rnE B j else 0), y + (if addC A B i j ≤ 0 then rsE A i else 0) + (if 0 ≤ addC A B i j then rsE B j else 0), 0)) else T
def addN (N : Nat) (A B : PL) : PL := shut (addF N A B (egs A + egs B) (pX A 0 + pX B 0) (pY A 0 + pY B 0) 0 0 (capp N [] (pX A 0 + pX B 0, pY A 0 + pY B 0, 0)))
theorem addC_bd (A B : PL) (i j : Nat) : -1 ≤ addC A B i j ∧ addC A B i j ≤ 1 := by
  unfold addC
  have := cmpE_bd A i B j
  split <;> (try split) <;> omega
theorem cyc_lt {L : PL} {i : Nat} (h : 0 < L.length) : cyc (egs L) i < L.length := by
  unfold cyc egs
  split <;> split at * <;> omega
theorem cyc_st {L : PL} {i : Nat} (hi : i < egs L) : cyc (egs L) i = i ∧ cyc (egs L) (i + 1) = nxt L.length i ∧ i < L.length := by
  have e : egs L = L.length := by unfold egs at hi ⊢; split at hi <;> simp_all
  rw [e] at hi ⊢
  exact ⟨if_pos hi, rfl, hi⟩
/-- where the sum is while its edges are walked -/
abbrev adX (A B : PL) (i j : Nat) : Int := pX A (cyc (egs A) i) + pX B (cyc (egs B) j)
abbrev adY (A B : PL) (i j : Nat) : Int := pY A (cyc (egs A) i) + pY B (cyc (egs B) j)
section PHULLS3
variable {G : g_X} {N1 N2 N : Nat} {A B : PL} {r1 r2 r : Nat} {h : g_hp}
set_option maxRecDepth 20000 in
theorem ad_end {z : Option Nat} {T : PL} {h1 : g_hp} (hr : rowAt G N T r h1) (hfr : g_fr r 4 h h1) (hq : shut T = addN N A B) : Ev (g_B G mX1_addUp 0 0 (fun o z1 h1 => ∃ v, o = .inl v ∧ z1 = z ∧ (v = none ∧ rowAt G N (addN N A B) r h1 ∧ g_fr r 4 h h1))) 0 0 z h1 212 [(2, .ref r)] [] := by
  have h9 := hr.1
  have h8 := hr.2.1
  refine e_aload_n dX1_addUp_212 rfl ?_
  refine e_pureV qcX1_12 hr.obj rfl rfl (S_size hr) rfl rfl rfl rfl dX1_addUp_213 ?_
  refine e_iconst dX1_addUp_216 ?_
  refine e_icmp_le (tgt := 224) ⟨by omega, by omega⟩ ⟨by omega, by omega⟩ dX1_addUp_217 rfl (fun c_217 => ?_) (fun c_217 => ?_)
  · refine e_vret rfl dX1_addUp_224 (by decide) (by decide) ?_
    first | exact ⟨none, rfl, rfl, rfl, by rw [← hq, show shut T = T.dropLast from if_pos (by omega)]; exact g2, hfr.tr fr2⟩ | exact ⟨none, rfl, rfl, rfl, by rw [← hq, show shut T = T from if_neg (by omega)]; exact hr, hfr⟩
  · refine e_aload_n dX1_addUp_220 rfl ?_
    refine e_doesV qcX1_29 hr.obj rfl rfl (S_shorten hr (by omega)) rfl rfl rfl rfl dX1_addUp_221 ?_
    intro v h2 q2
    obtain ⟨rfl, g2, fr2⟩ := q2
    refine e_vret rfl dX1_addUp_224 (by decide) (by decide) ?_
    first | exact ⟨none, rfl, rfl, rfl, by rw [← hq, show shut T = T.dropLast from if_pos (by omega)]; exact g2, hfr.tr fr2⟩ | exact ⟨none, rfl, rfl, rfl, by rw [← hq, show shut T = T from if_neg (by omega)]; exact hr, hfr⟩
set_option maxRecDepth 20000 in
theorem ad_step {z : Option Nat} (ha : rowAt G N1 A r1 h) (hb : rowAt G N2 B r2 h) (oa : okH A) (ob : okH B) (a0 : 0 < A.length) (b0 : 0 < B.length) (la : A.length ≤ 100) (lb : B.length ≤ 100) (d1 : r1 + 4 ≤ r ∨ r + 4 ≤ r1) (d2 : r2 + 4 ≤ r ∨ r + 4 ≤ r2) {h1 : g_hp} {T : PL} {s i j : Nat} (c : Int) (hc : c = addC A B i j) (hij : i < egs A ∨ j < egs B) (hi : i ≤ egs A) (hj : j ≤ egs B) (hr : rowAt G N T r h1) (hfr : g_fr r 4 h h1)
    (k : ∀ h2 (x' y' : Int) (i' j' : Nat), i' ≤ egs A → j' ≤ egs B → x' = adX A B i' j' → y' = adY A B i' j' → x' = adX A B i j + (if addC A B i j ≤ 0 then rnE A i else 0) + (if 0 ≤ addC A B i j then rnE B j else 0) → y' = adY A B i j + (if addC A B i j ≤ 0 then rsE A i else 0) + (if 0 ≤ addC A B i j then rsE B j else 0) → i' = i + (if addC A B i j ≤ 0 then 1 else 0) → j' = j + (if 0 ≤ addC A B i j then 1 else 0) → rowAt G N (capp N T (x', y', 0)) r h2 → g_fr r 4 h h2 → Ev (g_B G mX1_addUp 0 0 (fun o z1 h1 => ∃ v, o = .inl v ∧ z1 = z ∧ (v = none ∧ rowAt G N (addN N A B) r h1 ∧ g_fr r 4 h h1))) 0 0 z h2 83 [(9, .int (iN (s + 1 : Nat))), (7, .int (iN i')), (8, .int (iN j')), (5, .int (iN x')), (6, .int (iN y')), (3, .int (iN (egs A))), (4, .int (iN (egs B))), (0, .ref r1), (1, .ref r2), (2, .ref r)] []) :
    Ev (g_B G mX1_addUp 0 0 (fun o z1 h1 => ∃ v, o = .inl v ∧ z1 = z ∧ (v = none ∧ rowAt G N (addN N A B) r h1 ∧ g_fr r 4 h h1))) 0 0 z h1 135 [(9, .int (iN s)), (7, .int (iN i)), (8, .int (iN j)), (5, .int (iN (adX A B i j))), (6, .int (iN (adY A B i j))), (3, .int (iN (egs A))), (4, .int (iN (egs B))), (0, .ref r1), (1, .ref r2), (2, .ref r)] [.int (iN c)] := by
  have cb := addC_bd A B i j
  rw [← hc] at cb k
  have h3 := ha.off hfr d1
  have h4 := hb.off hfr d2
  have ki : c ≤ 0 → i < egs A := fun w => by
    unfold addC at hc
    split at hc <;> omega
  have kj : 0 ≤ c → j < egs B := fun w => by
    unfold addC at hc
    split at hc
    · omega
    · split at hc <;> omega
  have up : ∀ (x' y' : Int) (i' j' : Nat), i' ≤ egs A → j' ≤ egs B → x' = adX A B i' j' → y' = adY A B i' j' → x' = adX A B i j + (if c ≤ 0 then rnE A i else 0) + (if 0 ≤ c then rnE B j else 0) → y' = adY A B i j + (if c ≤ 0 then rsE A i else 0) + (if 0 ≤ c then rsE B j else 0) → i' = i + (if c ≤ 0 then 1 else 0) → j' = j + (if 0 ≤ c then 1 else 0) → Ev (g_B G mX1_addUp 0 0 (fun o z1 h1 => ∃ v, o = .inl v ∧ z1 = z ∧ (v = none ∧ rowAt G N (addN N A B) r h1 ∧ g_fr r 4 h h1))) 0 0 z h1 197 [(9, .int (iN s)), (7, .int (iN i')), (8, .int (iN j')), (5, .int (iN x')), (6, .int (iN y')), (3, .int (iN (egs A))), (4, .int (iN (egs B))), (0, .ref r1), (1, .ref r2), (2, .ref r)] [] := by
    intro x' y' i' j' hi' hj' hx hy q1 q2 q3 q4
    have p1 := oa _ (cyc_lt (i := i') a0)
    have p2 := ob _ (cyc_lt (i := j') b0)
    have bx : bd x' := ⟨by rw [hx]; unfold adX; omega, by rw [hx]; unfold adX; omega⟩
    have by' : bd y' := ⟨by rw [hy]; unfold adY; omega, by rw [hy]; unfold adY; omega⟩
    refine e_aload_n dX1_addUp_197 rfl ?_
    refine e_iload dX1_addUp_198 rfl ?_
    refine e_iload dX1_addUp_200 rfl ?_
    refine e_iconst dX1_addUp_202 ?_
    refine e_doesV qcX1_40 hr.obj rfl rfl (S_appendC hr bx by' (show bd 0 from ⟨by omega, by omega⟩)) rfl rfl rfl rfl dX1_addUp_203 ?_
    intro v h6 q6
    obtain ⟨rfl, g6, fr6⟩ := q6
    refine e_iinc dX1_addUp_206 rfl ?_
    refine e_goto (tgt := 83) dX1_addUp_209 rfl ?_
    exact e_loc [(9, .int (iN (s + 1 : Nat))), (7, .int (iN i')), (8, .int (iN j')), (5, .int (iN x')), (6, .int (iN y')), (3, .int (iN (egs A))), (4, .int (iN (egs B))), (0, .ref r1), (1, .ref r2), (2, .ref r)] ⟨rfl, rfl, rfl, rfl, rfl, rfl, rfl, rfl, rfl, rfl, trivial⟩ (k h6 x' y' i' j' hi' hj' hx hy q1 q2 q3 q4 g6 (hfr.tr fr6))
  have fx1 : c ≤ 0 → adX A B i j + rnE A i = adX A B (i + 1) j ∧ adY A B i j + rsE A i = adY A B (i + 1) j := fun w => by
    have := cyc_st (ki w)
    unfold adX adY rnE rsE
    rw [this.1, this.2.1]
    constructor <;> omega
  have fx2 : 0 ≤ c → ∀ m, adX A B m j + rnE B j = adX A B m (j + 1) ∧ adY A B m j + rsE B j = adY A B m (j + 1) := fun w m => by
    have := cyc_st (kj w)
    unfold adX adY rnE rsE
    rw [this.1, this.2.1]
    constructor <;> omega
  refine e_istore dX1_addUp_135 rfl ?_
  refine e_iload dX1_addUp_137 rfl ?_
  refine e_if_gt (tgt := 167) ⟨by omega, by omega⟩ dX1_addUp_139 rfl (fun c_139 => ?_) (fun c_139 => ?_)
  · have g1 : ¬ c ≤ 0 := by omega
    refine e_iload dX1_addUp_167 rfl ?_
    refine e_if_lt (tgt := 197) ⟨by omega, by omega⟩ dX1_addUp_169 rfl (fun c_169 => ?_) (fun c_169 => ?_)
    · have g2 : ¬ 0 ≤ c := by omega
      exact absurd g1 (by omega)
    · have g2 : 0 ≤ c := by omega
      have k3 := kj g2
      have k4 := (cyc_st k3).2.2
      have f2 := fx2 g2
      refine e_iload dX1_addUp_172 rfl ?_
      refine e_aload_n dX1_addUp_174 rfl ?_
      refine e_iload dX1_addUp_175 rfl ?_
      refine e_pureS qcX1_68 (S_runOf h4 k4) rfl rfl rfl rfl dX1_addUp_177 ?_
      refine e_iadd dX1_addUp_180 ?_
      refine e_istore dX1_addUp_181 rfl ?_
      refine e_iload dX1_addUp_183 rfl ?_
      refine e_aload_n dX1_addUp_185 rfl ?_
      refine e_iload dX1_addUp_186 rfl ?_
      refine e_pureS qcX1_72 (S_riseOf h4 k4) rfl rfl rfl rfl dX1_addUp_188 ?_
      refine e_iadd dX1_addUp_191 ?_
      refine e_istore dX1_addUp_192 rfl ?_
      refine e_iinc dX1_addUp_194 rfl ?_
      exact e_loc [(9, .int (iN s)), (7, .int (iN i)), (8, .int (iN ((j + 1 : Nat)))), (5, .int (iN (adX A B i j + rnE B j))), (6, .int (iN (adY A B i j + rsE B j))), (3, .int (iN (egs A))), (4, .int (iN (egs B))), (0, .ref r1), (1, .ref r2), (2, .ref r)] ⟨rfl, rfl, rfl, rfl, rfl, rfl, rfl, rfl, rfl, rfl, trivial⟩ (up _ _ _ _ (by omega) (by omega) ((f2 i).1) ((f2 i).2) (by rw [if_neg g1, if_pos g2] <;> omega) (by rw [if_neg g1, if_pos g2] <;> omega) (by rw [if_neg g1] <;> omega) (by rw [if_pos g2] <;> omega))
  · have g1 : c ≤ 0 := by omega
    have k1 := ki g1
    have k2 := (cyc_st k1).2.2
    have f1 := fx1 g1
    refine e_iload dX1_addUp_142 rfl ?_
    refine e_aload_n dX1_addUp_144 rfl ?_
    refine e_iload dX1_addUp_145 rfl ?_
    refine e_pureS qcX1_68 (S_runOf h3 k2) rfl rfl rfl rfl dX1_addUp_147 ?_
    refine e_iadd dX1_addUp_150 ?_
    refine e_istore dX1_addUp_151 rfl ?_
    refine e_iload dX1_addUp_153 rfl ?_
    refine e_aload_n dX1_addUp_155 rfl ?_
    refine e_iload dX1_addUp_156 rfl ?_
    refine e_pureS qcX1_72 (S_riseOf h3 k2) rfl rfl rfl rfl dX1_addUp_158 ?_
    refine e_iadd dX1_addUp_161 ?_
    refine e_istore dX1_addUp_162 rfl ?_
    refine e_iinc dX1_addUp_164 rfl ?_
    refine e_iload dX1_addUp_167 rfl ?_
    refine e_if_lt (tgt := 197) ⟨by omega, by omega⟩ dX1_addUp_169 rfl (fun c_169 => ?_) (fun c_169 => ?_)
    · have g2 : ¬ 0 ≤ c := by omega
      exact e_loc [(9, .int (iN s)), (7, .int (iN ((i + 1 : Nat)))), (8, .int (iN j)), (5, .int (iN (adX A B i j + rnE A i))), (6, .int (iN (adY A B i j + rsE A i))), (3, .int (iN (egs A))), (4, .int (iN (egs B))), (0, .ref r1), (1, .ref r2), (2, .ref r)] ⟨rfl, rfl, rfl, rfl, rfl, rfl, rfl, rfl, rfl, rfl, trivial⟩ (up _ _ _ _ (by omega) (by omega) (f1.1) (f1.2) (by rw [if_pos g1, if_neg g2] <;> omega) (by rw [if_pos g1, if_neg g2] <;> omega) (by rw [if_pos g1] <;> omega) (by rw [if_neg g2] <;> omega))
    · have g2 : 0 ≤ c := by omega
      have k3 := kj g2
      have k4 := (cyc_st k3).2.2
      have f2 := fx2 g2
      refine e_iload dX1_addUp_172 rfl ?_
      refine e_aload_n dX1_addUp_174 rfl ?_
      refine e_iload dX1_addUp_175 rfl ?_
      refine e_pureS qcX1_68 (S_runOf h4 k4) rfl rfl rfl rfl dX1_addUp_177 ?_
      refine e_iadd dX1_addUp_180 ?_
      refine e_istore dX1_addUp_181 rfl ?_
      refine e_iload dX1_addUp_183 rfl ?_
      refine e_aload_n dX1_addUp_185 rfl ?_
      refine e_iload dX1_addUp_186 rfl ?_
      refine e_pureS qcX1_72 (S_riseOf h4 k4) rfl rfl rfl rfl dX1_addUp_188 ?_
      refine e_iadd dX1_addUp_191 ?_
      refine e_istore dX1_addUp_192 rfl ?_
      refine e_iinc dX1_addUp_194 rfl ?_
      exact e_loc [(9, .int (iN s)), (7, .int (iN ((i + 1 : Nat)))), (8, .int (iN ((j + 1 : Nat)))), (5, .int (iN (adX A B i j + rnE A i + rnE B j))), (6, .int (iN (adY A B i j + rsE A i + rsE B j))), (3, .int (iN (egs A))), (4, .int (iN (egs B))), (0, .ref r1), (1, .ref r2), (2, .ref r)] ⟨rfl, rfl, rfl, rfl, rfl, rfl, rfl, rfl, rfl, rfl, trivial⟩ (up _ _ _ _ (by omega) (by omega) (by rw [f1.1]; exact (f2 (i + 1)).1) (by rw [f1.2]; exact (f2 (i + 1)).2) (by rw [if_pos g1, if_pos g2] <;> omega) (by rw [if_pos g1, if_pos g2] <;> omega) (by rw [if_pos g1] <;> omega) (by rw [if_pos g2] <;> omega))
set_option maxRecDepth 20000 in
theorem ad_loop {z : Option Nat} (ha : rowAt G N1 A r1 h) (hb : rowAt G N2 B r2 h) (oa : okH A) (ob : okH B) (a0 : 0 < A.length) (b0 : 0 < B.length) (la : A.length ≤ 100) (lb : B.length ≤ 100) (d1 : r1 + 4 ≤ r ∨ r + 4 ≤ r1) (d2 : r2 + 4 ≤ r ∨ r + 4 ≤ r2) : ∀ (f s i j : Nat) (T : PL) (h1 : g_hp), s + f = egs A + egs B → i ≤ egs A → j ≤ egs B → rowAt G N T r h1 → g_fr r 4 h h1 → shut (addF N A B f (adX A B i j) (adY A B i j) i j T) = addN N A B → Ev (g_B G mX1_addUp 0 0 (fun o z1 h1 => ∃ v, o = .inl v ∧ z1 = z ∧ (v = none ∧ rowAt G N (addN N A B) r h1 ∧ g_fr r 4 h h1))) 0 0 z h1 83 [(9, .int (iN s)), (7, .int (iN i)), (8, .int (iN j)), (5, .int (iN (adX A B i j))), (6, .int (iN (adY A B i j))), (3, .int (iN (egs A))), (4, .int (iN (egs B))), (0, .ref r1), (1, .ref r2), (2, .ref r)] [] := by
  have ea : egs A ≤ 100 := by unfold egs; split <;> omega
  have eb : egs B ≤ 100 := by unfold egs; split <;> omega
  intro f
  induction f with
  | zero =>
    intro s i j T h1 hs hi hj hr hfr hq
    refine e_iload dX1_addUp_83 rfl ?_
    refine e_iload_n dX1_addUp_85 rfl ?_
    refine e_iload dX1_addUp_86 rfl ?_
    refine e_iadd dX1_addUp_88 ?_
    refine e_icmp_ge (tgt := 212) ⟨by omega, by omega⟩ ⟨by omega, by omega⟩ dX1_addUp_89 rfl (fun c_89 => ?_) (fun c_89 => absurd (show (egs A : Int) + egs B ≤ s by omega) c_89)
    exact e_loc [(2, .ref r)] ⟨rfl, trivial⟩ (ad_end hr hfr hq)
  | succ f ih =>
    intro s i j T h1 hs hi hj hr hfr hq
    have st : ∀ c : Int, c = addC A B i j → (i < egs A ∨ j < egs B) → Ev (g_B G mX1_addUp 0 0 (fun o z1 h1 => ∃ v, o = .inl v ∧ z1 = z ∧ (v = none ∧ rowAt G N (addN N A B) r h1 ∧ g_fr r 4 h h1))) 0 0 z h1 135 [(9, .int (iN s)), (7, .int (iN i)), (8, .int (iN j)), (5, .int (iN (adX A B i j))), (6, .int (iN (adY A B i j))), (3, .int (iN (egs A))), (4, .int (iN (egs B))), (0, .ref r1), (1, .ref r2), (2, .ref r)] [.int (iN c)] := fun c hc hij =>
      ad_step ha hb oa ob a0 b0 la lb d1 d2 c hc hij hi hj hr hfr (fun h2 x' y' i' j' hi' hj' hx hy q1 q2 q3 q4 hr2 hfr2 => by
        have w := ih (s + 1) i' j' (capp N T (x', y', 0)) h2 (by omega) hi' hj' hr2 hfr2 (by
          rw [← hq, ← hx, ← hy]
          rw [show addF N A B (f + 1) (adX A B i j) (adY A B i j) i j T = _ from if_pos hij, ← q1, ← q2, ← q3, ← q4])
        rw [← hx, ← hy] at w
        exact w)
    have h3 := ha.off hfr d1
    have h4 := hb.off hfr d2
    refine e_iload dX1_addUp_83 rfl ?_
    refine e_iload_n dX1_addUp_85 rfl ?_
    refine e_iload dX1_addUp_86 rfl ?_
    refine e_iadd dX1_addUp_88 ?_
    refine e_icmp_ge (tgt := 212) ⟨by omega, by omega⟩ ⟨by omega, by omega⟩ dX1_addUp_89 rfl (fun c_89 => ?_) (fun c_89 => ?_)
    · exact absurd c_89 (by omega)
    · refine e_iload dX1_addUp_92 rfl ?_
      refine e_iload_n dX1_addUp_94 rfl ?_
      refine e_icmp_lt (tgt := 105) ⟨by omega, by omega⟩ ⟨by omega, by omega⟩ dX1_addUp_95 rfl (fun c_95 => ?_) (fun c_95 => ?_)
      · 
        refine e_iload dX1_addUp_105 rfl ?_
        refine e_iload_n dX1_addUp_107 rfl ?_
        refine e_icmp_lt (tgt := 115) ⟨by omega, by omega⟩ ⟨by omega, by omega⟩ dX1_addUp_108 rfl (fun c_108 => ?_) (fun c_108 => ?_)
        · have k1 : i < egs A := by omega
          refine e_iload dX1_addUp_115 rfl ?_
          refine e_iload dX1_addUp_117 rfl ?_
          refine e_icmp_lt (tgt := 126) ⟨by omega, by omega⟩ ⟨by omega, by omega⟩ dX1_addUp_119 rfl (fun c_119 => ?_) (fun c_119 => ?_)
          · have k2 := (cyc_st (show i < egs A by omega)).2.2
            have k3 := (cyc_st (show j < egs B by omega)).2.2
            refine e_aload_n dX1_addUp_126 rfl ?_
            refine e_iload dX1_addUp_127 rfl ?_
            refine e_aload_n dX1_addUp_129 rfl ?_
            refine e_iload dX1_addUp_130 rfl ?_
            refine e_pureS qcX1_64 (S_compareEdges h3 h4 k2 k3) rfl rfl rfl rfl dX1_addUp_132 ?_
            exact e_loc [(9, .int (iN s)), (7, .int (iN i)), (8, .int (iN j)), (5, .int (iN (adX A B i j))), (6, .int (iN (adY A B i j))), (3, .int (iN (egs A))), (4, .int (iN (egs B))), (0, .ref r1), (1, .ref r2), (2, .ref r)] ⟨rfl, rfl, rfl, rfl, rfl, rfl, rfl, rfl, rfl, rfl, trivial⟩ (st _ (by first | exact (if_pos (show egs A ≤ i by omega)).symm | exact ((if_neg (show ¬ egs A ≤ i by omega)).trans (if_pos (show egs B ≤ j by omega))).symm | exact ((if_neg (show ¬ egs A ≤ i by omega)).trans (if_neg (show ¬ egs B ≤ j by omega))).symm) (by omega))
          · refine e_iconst dX1_addUp_122 ?_
            refine e_goto (tgt := 135) dX1_addUp_123 rfl ?_
            exact e_loc [(9, .int (iN s)), (7, .int (iN i)), (8, .int (iN j)), (5, .int (iN (adX A B i j))), (6, .int (iN (adY A B i j))), (3, .int (iN (egs A))), (4, .int (iN (egs B))), (0, .ref r1), (1, .ref r2), (2, .ref r)] ⟨rfl, rfl, rfl, rfl, rfl, rfl, rfl, rfl, rfl, rfl, trivial⟩ (st _ (by first | exact (if_pos (show egs A ≤ i by omega)).symm | exact ((if_neg (show ¬ egs A ≤ i by omega)).trans (if_pos (show egs B ≤ j by omega))).symm | exact ((if_neg (show ¬ egs A ≤ i by omega)).trans (if_neg (show ¬ egs B ≤ j by omega))).symm) (by omega))
        · refine e_iconst dX1_addUp_111 ?_
          refine e_goto (tgt := 135) dX1_addUp_112 rfl ?_
          exact e_loc [(9, .int (iN s)), (7, .int (iN i)), (8, .int (iN j)), (5, .int (iN (adX A B i j))), (6, .int (iN (adY A B i j))), (3, .int (iN (egs A))), (4, .int (iN (egs B))), (0, .ref r1), (1, .ref r2), (2, .ref r)] ⟨rfl, rfl, rfl, rfl, rfl, rfl, rfl, rfl, rfl, rfl, trivial⟩ (st _ (by first | exact (if_pos (show egs A ≤ i by omega)).symm | exact ((if_neg (show ¬ egs A ≤ i by omega)).trans (if_pos (show egs B ≤ j by omega))).symm | exact ((if_neg (show ¬ egs A ≤ i by omega)).trans (if_neg (show ¬ egs B ≤ j by omega))).symm) (by omega))
      · refine e_iload dX1_addUp_98 rfl ?_
        refine e_iload dX1_addUp_100 rfl ?_
        refine e_icmp_ge (tgt := 212) ⟨by omega, by omega⟩ ⟨by omega, by omega⟩ dX1_addUp_102 rfl (fun c_102 => ?_) (fun c_102 => ?_)
        · exact e_loc [(2, .ref r)] ⟨rfl, trivial⟩ (ad_end hr hfr (by
            rw [← hq]
            rw [show addF N A B (f + 1) (adX A B i j) (adY A B i j) i j T = T from if_neg (by omega)]))
        · refine e_iload dX1_addUp_105 rfl ?_
          refine e_iload_n dX1_addUp_107 rfl ?_
          refine e_icmp_lt (tgt := 115) ⟨by omega, by omega⟩ ⟨by omega, by omega⟩ dX1_addUp_108 rfl (fun c_108 => ?_) (fun c_108 => ?_)
          · have k1 : i < egs A := by omega
            refine e_iload dX1_addUp_115 rfl ?_
            refine e_iload dX1_addUp_117 rfl ?_
            refine e_icmp_lt (tgt := 126) ⟨by omega, by omega⟩ ⟨by omega, by omega⟩ dX1_addUp_119 rfl (fun c_119 => ?_) (fun c_119 => ?_)
            · have k2 := (cyc_st (show i < egs A by omega)).2.2
              have k3 := (cyc_st (show j < egs B by omega)).2.2
              refine e_aload_n dX1_addUp_126 rfl ?_
              refine e_iload dX1_addUp_127 rfl ?_
              refine e_aload_n dX1_addUp_129 rfl ?_
              refine e_iload dX1_addUp_130 rfl ?_
              refine e_pureS qcX1_64 (S_compareEdges h3 h4 k2 k3) rfl rfl rfl rfl dX1_addUp_132 ?_
              exact e_loc [(9, .int (iN s)), (7, .int (iN i)), (8, .int (iN j)), (5, .int (iN (adX A B i j))), (6, .int (iN (adY A B i j))), (3, .int (iN (egs A))), (4, .int (iN (egs B))), (0, .ref r1), (1, .ref r2), (2, .ref r)] ⟨rfl, rfl, rfl, rfl, rfl, rfl, rfl, rfl, rfl, rfl, trivial⟩ (st _ (by first | exact (if_pos (show egs A ≤ i by omega)).symm | exact ((if_neg (show ¬ egs A ≤ i by omega)).trans (if_pos (show egs B ≤ j by omega))).symm | exact ((if_neg (show ¬ egs A ≤ i by omega)).trans (if_neg (show ¬ egs B ≤ j by omega))).symm) (by omega))
            · refine e_iconst dX1_addUp_122 ?_
              refine e_goto (tgt := 135) dX1_addUp_123 rfl ?_
              exact e_loc [(9, .int (iN s)), (7, .int (iN i)), (8, .int (iN j)), (5, .int (iN (adX A B i j))), (6, .int (iN (adY A B i j))), (3, .int (iN (egs A))), (4, .int (iN (egs B))), (0, .ref r1), (1, .ref r2), (2, .ref r)] ⟨rfl, rfl, rfl, rfl, rfl, rfl, rfl, rfl, rfl, rfl, trivial⟩ (st _ (by first | exact (if_pos (show egs A ≤ i by omega)).symm | exact ((if_neg (show ¬ egs A ≤ i by omega)).trans (if_pos (show egs B ≤ j by omega))).symm | exact ((if_neg (show ¬ egs A ≤ i by omega)).trans (if_neg (show ¬ egs B ≤ j by omega))).symm) (by omega))
          · refine e_iconst dX1_addUp_111 ?_
            refine e_goto (tgt := 135) dX1_addUp_112 rfl ?_
            exact e_loc [(9, .int (iN s)), (7, .int (iN i)), (8, .int (iN j)), (5, .int (iN (adX A B i j))), (6, .int (iN (adY A B i j))), (3, .int (iN (egs A))), (4, .int (iN (egs B))), (0, .ref r1), (1, .ref r2), (2, .ref r)] ⟨rfl, rfl, rfl, rfl, rfl, rfl, rfl, rfl, rfl, rfl, trivial⟩ (st _ (by first | exact (if_pos (show egs A ≤ i by omega)).symm | exact ((if_neg (show ¬ egs A ≤ i by omega)).trans (if_pos (show egs B ≤ j by omega))).symm | exact ((if_neg (show ¬ egs A ≤ i by omega)).trans (if_neg (show ¬ egs B ≤ j by omega))).symm) (by omega))
set_option maxRecDepth 20000 in
theorem S_addUp (ha : rowAt G N1 A r1 h) (hb : rowAt G N2 B r2 h) (oa : okH A) (ob : okH B) (a0 : 0 < A.length) (b0 : 0 < B.length) (la : A.length ≤ 100) (lb : B.length ≤ 100) (d1 : r1 + 4 ≤ r ∨ r + 4 ≤ r1) (d2 : r2 + 4 ≤ r ∨ r + 4 ≤ r2) {L : PL} (hr : rowAt G N L r h) : Does G mX1_addUp [.ref r1, .ref r2, .ref r] h (fun v h1 => v = none ∧ rowAt G N (addN N A B) r h1 ∧ g_fr r 4 h h1) := by
  have u1 := oa 0 a0
  have u2 := ob 0 b0
  have c1 : cyc (egs A) 0 = 0 := by unfold cyc; split <;> rfl
  have c2 : cyc (egs B) 0 = 0 := by unfold cyc; split <;> rfl
  have x0 : adX A B 0 0 = pX A 0 + pX B 0 := by unfold adX; rw [c1, c2]
  have y0 : adY A B 0 0 = pY A 0 + pY B 0 := by unfold adY; rw [c1, c2]
  have gA : ∀ v : Int, (v = egs A) → ∀ w : Int, w = egs B → ∀ h2, rowAt G N (capp N [] (pX A 0 + pX B 0, pY A 0 + pY B 0, 0)) r h2 → g_fr r 4 h h2 → ∀ z, Ev (g_B G mX1_addUp 0 0 (fun o z1 h1 => ∃ v, o = .inl v ∧ z1 = z ∧ (v = none ∧ rowAt G N (addN N A B) r h1 ∧ g_fr r 4 h h1))) 0 0 z h2 83 [(9, .int (iN (0 : Nat))), (7, .int (iN (0 : Nat))), (8, .int (iN (0 : Nat))), (5, .int (iN (pX A 0 + pX B 0))), (6, .int (iN (pY A 0 + pY B 0))), (3, .int (iN v)), (4, .int (iN w)), (0, .ref r1), (1, .ref r2), (2, .ref r)] [] := by
    intro v hv w hw h2 hr2 hf2 z
    subst hv
    subst hw
    have := ad_loop (z := z) ha hb oa ob a0 b0 la lb d1 d2 (egs A + egs B) 0 0 0 _ h2 (by omega) (by omega) (by omega) hr2 hf2 (by rw [x0, y0]; rfl)
    rw [x0, y0] at this
    exact this
  intro z
  refine run_of rfl plX1 rfl ?_
  refine e_aload_n dX1_addUp_0 rfl ?_
  refine e_pureV qcX1_12 ha.obj rfl rfl (S_size ha) rfl rfl rfl rfl dX1_addUp_1 ?_
  refine e_iconst dX1_addUp_4 ?_
  refine e_icmp_le (tgt := 15) ⟨by omega, by omega⟩ ⟨by omega, by omega⟩ dX1_addUp_5 rfl (fun c_5 => ?_) (fun c_5 => ?_)
  · refine e_iconst dX1_addUp_15 ?_
    refine e_istore_n dX1_addUp_16 rfl ?_
    refine e_aload_n dX1_addUp_17 rfl ?_
    refine e_pureV qcX1_12 hb.obj rfl rfl (S_size hb) rfl rfl rfl rfl dX1_addUp_18 ?_
    refine e_iconst dX1_addUp_21 ?_
    refine e_icmp_le (tgt := 32) ⟨by omega, by omega⟩ ⟨by omega, by omega⟩ dX1_addUp_22 rfl (fun c_22 => ?_) (fun c_22 => ?_)
    · refine e_iconst dX1_addUp_32 ?_
      refine e_istore dX1_addUp_33 rfl ?_
      refine e_aload_n dX1_addUp_35 rfl ?_
      refine e_iconst dX1_addUp_36 ?_
      refine e_pureV qcX1_16 ha.obj rfl rfl (S_xAt (i := 0) ha a0) rfl rfl rfl rfl dX1_addUp_37 ?_
      refine e_aload_n dX1_addUp_40 rfl ?_
      refine e_iconst dX1_addUp_41 ?_
      refine e_pureV qcX1_16 hb.obj rfl rfl (S_xAt (i := 0) hb b0) rfl rfl rfl rfl dX1_addUp_42 ?_
      refine e_iadd dX1_addUp_45 ?_
      refine e_istore dX1_addUp_46 rfl ?_
      refine e_aload_n dX1_addUp_48 rfl ?_
      refine e_iconst dX1_addUp_49 ?_
      refine e_pureV qcX1_20 ha.obj rfl rfl (S_yAt (i := 0) ha a0) rfl rfl rfl rfl dX1_addUp_50 ?_
      refine e_aload_n dX1_addUp_53 rfl ?_
      refine e_iconst dX1_addUp_54 ?_
      refine e_pureV qcX1_20 hb.obj rfl rfl (S_yAt (i := 0) hb b0) rfl rfl rfl rfl dX1_addUp_55 ?_
      refine e_iadd dX1_addUp_58 ?_
      refine e_istore dX1_addUp_59 rfl ?_
      refine e_aload_n dX1_addUp_61 rfl ?_
      refine e_doesV qcX1_7 hr.obj rfl rfl (S_reset hr) rfl rfl rfl rfl dX1_addUp_62 ?_
      intro v h1 q1
      obtain ⟨rfl, g1, fr1⟩ := q1
      refine e_aload_n dX1_addUp_65 rfl ?_
      refine e_iload dX1_addUp_66 rfl ?_
      refine e_iload dX1_addUp_68 rfl ?_
      refine e_iconst dX1_addUp_70 ?_
      refine e_doesV qcX1_40 g1.obj rfl rfl (S_appendC g1 (show bd (pX A 0 + pX B 0) from ⟨by omega, by omega⟩) (show bd (pY A 0 + pY B 0) from ⟨by omega, by omega⟩) (show bd 0 from ⟨by omega, by omega⟩)) rfl rfl rfl rfl dX1_addUp_71 ?_
      intro v h2 q2
      obtain ⟨rfl, g2, fr2⟩ := q2
      refine e_iconst dX1_addUp_74 ?_
      refine e_istore dX1_addUp_75 rfl ?_
      refine e_iconst dX1_addUp_77 ?_
      refine e_istore dX1_addUp_78 rfl ?_
      refine e_iconst dX1_addUp_80 ?_
      refine e_istore dX1_addUp_81 rfl ?_
      exact e_loc [(9, .int (iN (0 : Nat))), (7, .int (iN (0 : Nat))), (8, .int (iN (0 : Nat))), (5, .int (iN (pX A 0 + pX B 0))), (6, .int (iN (pY A 0 + pY B 0))), (3, .int (iN _)), (4, .int (iN _)), (0, .ref r1), (1, .ref r2), (2, .ref r)] ⟨rfl, rfl, rfl, rfl, rfl, rfl, rfl, rfl, rfl, rfl, trivial⟩ (gA _ (by unfold egs; first | (rw [if_pos (by omega)]; done) | (rw [if_neg (by omega)]; rfl)) _ (by unfold egs; first | (rw [if_pos (by omega)]; done) | (rw [if_neg (by omega)]; rfl)) h2 g2 (fr1.tr fr2) z)
    · refine e_aload_n dX1_addUp_25 rfl ?_
      refine e_pureV qcX1_12 hb.obj rfl rfl (S_size hb) rfl rfl rfl rfl dX1_addUp_26 ?_
      refine e_goto (tgt := 33) dX1_addUp_29 rfl ?_
      refine e_istore dX1_addUp_33 rfl ?_
      refine e_aload_n dX1_addUp_35 rfl ?_
      refine e_iconst dX1_addUp_36 ?_
      refine e_pureV qcX1_16 ha.obj rfl rfl (S_xAt (i := 0) ha a0) rfl rfl rfl rfl dX1_addUp_37 ?_
      refine e_aload_n dX1_addUp_40 rfl ?_
      refine e_iconst dX1_addUp_41 ?_
      refine e_pureV qcX1_16 hb.obj rfl rfl (S_xAt (i := 0) hb b0) rfl rfl rfl rfl dX1_addUp_42 ?_
      refine e_iadd dX1_addUp_45 ?_
      refine e_istore dX1_addUp_46 rfl ?_
      refine e_aload_n dX1_addUp_48 rfl ?_
      refine e_iconst dX1_addUp_49 ?_
      refine e_pureV qcX1_20 ha.obj rfl rfl (S_yAt (i := 0) ha a0) rfl rfl rfl rfl dX1_addUp_50 ?_
      refine e_aload_n dX1_addUp_53 rfl ?_
      refine e_iconst dX1_addUp_54 ?_
      refine e_pureV qcX1_20 hb.obj rfl rfl (S_yAt (i := 0) hb b0) rfl rfl rfl rfl dX1_addUp_55 ?_
      refine e_iadd dX1_addUp_58 ?_
      refine e_istore dX1_addUp_59 rfl ?_
      refine e_aload_n dX1_addUp_61 rfl ?_
      refine e_doesV qcX1_7 hr.obj rfl rfl (S_reset hr) rfl rfl rfl rfl dX1_addUp_62 ?_
      intro v h1 q1
      obtain ⟨rfl, g1, fr1⟩ := q1
      refine e_aload_n dX1_addUp_65 rfl ?_
      refine e_iload dX1_addUp_66 rfl ?_
      refine e_iload dX1_addUp_68 rfl ?_
      refine e_iconst dX1_addUp_70 ?_
      refine e_doesV qcX1_40 g1.obj rfl rfl (S_appendC g1 (show bd (pX A 0 + pX B 0) from ⟨by omega, by omega⟩) (show bd (pY A 0 + pY B 0) from ⟨by omega, by omega⟩) (show bd 0 from ⟨by omega, by omega⟩)) rfl rfl rfl rfl dX1_addUp_71 ?_
      intro v h2 q2
      obtain ⟨rfl, g2, fr2⟩ := q2
      refine e_iconst dX1_addUp_74 ?_
      refine e_istore dX1_addUp_75 rfl ?_
      refine e_iconst dX1_addUp_77 ?_
      refine e_istore dX1_addUp_78 rfl ?_
      refine e_iconst dX1_addUp_80 ?_
      refine e_istore dX1_addUp_81 rfl ?_
      exact e_loc [(9, .int (iN (0 : Nat))), (7, .int (iN (0 : Nat))), (8, .int (iN (0 : Nat))), (5, .int (iN (pX A 0 + pX B 0))), (6, .int (iN (pY A 0 + pY B 0))), (3, .int (iN _)), (4, .int (iN _)), (0, .ref r1), (1, .ref r2), (2, .ref r)] ⟨rfl, rfl, rfl, rfl, rfl, rfl, rfl, rfl, rfl, rfl, trivial⟩ (gA _ (by unfold egs; first | (rw [if_pos (by omega)]; done) | (rw [if_neg (by omega)]; rfl)) _ (by unfold egs; first | (rw [if_pos (by omega)]; done) | (rw [if_neg (by omega)]; rfl)) h2 g2 (fr1.tr fr2) z)
  · refine e_aload_n dX1_addUp_8 rfl ?_
    refine e_pureV qcX1_12 ha.obj rfl rfl (S_size ha) rfl rfl rfl rfl dX1_addUp_9 ?_
    refine e_goto (tgt := 16) dX1_addUp_12 rfl ?_
    refine e_istore_n dX1_addUp_16 rfl ?_
    refine e_aload_n dX1_addUp_17 rfl ?_
    refine e_pureV qcX1_12 hb.obj rfl rfl (S_size hb) rfl rfl rfl rfl dX1_addUp_18 ?_
    refine e_iconst dX1_addUp_21 ?_
    refine e_icmp_le (tgt := 32) ⟨by omega, by omega⟩ ⟨by omega, by omega⟩ dX1_addUp_22 rfl (fun c_22 => ?_) (fun c_22 => ?_)
    · refine e_iconst dX1_addUp_32 ?_
      refine e_istore dX1_addUp_33 rfl ?_
      refine e_aload_n dX1_addUp_35 rfl ?_
      refine e_iconst dX1_addUp_36 ?_
      refine e_pureV qcX1_16 ha.obj rfl rfl (S_xAt (i := 0) ha a0) rfl rfl rfl rfl dX1_addUp_37 ?_
      refine e_aload_n dX1_addUp_40 rfl ?_
      refine e_iconst dX1_addUp_41 ?_
      refine e_pureV qcX1_16 hb.obj rfl rfl (S_xAt (i := 0) hb b0) rfl rfl rfl rfl dX1_addUp_42 ?_
      refine e_iadd dX1_addUp_45 ?_
      refine e_istore dX1_addUp_46 rfl ?_
      refine e_aload_n dX1_addUp_48 rfl ?_
      refine e_iconst dX1_addUp_49 ?_
      refine e_pureV qcX1_20 ha.obj rfl rfl (S_yAt (i := 0) ha a0) rfl rfl rfl rfl dX1_addUp_50 ?_
      refine e_aload_n dX1_addUp_53 rfl ?_
      refine e_iconst dX1_addUp_54 ?_
      refine e_pureV qcX1_20 hb.obj rfl rfl (S_yAt (i := 0) hb b0) rfl rfl rfl rfl dX1_addUp_55 ?_
      refine e_iadd dX1_addUp_58 ?_
      refine e_istore dX1_addUp_59 rfl ?_
      refine e_aload_n dX1_addUp_61 rfl ?_
      refine e_doesV qcX1_7 hr.obj rfl rfl (S_reset hr) rfl rfl rfl rfl dX1_addUp_62 ?_
      intro v h1 q1
      obtain ⟨rfl, g1, fr1⟩ := q1
      refine e_aload_n dX1_addUp_65 rfl ?_
      refine e_iload dX1_addUp_66 rfl ?_
      refine e_iload dX1_addUp_68 rfl ?_
      refine e_iconst dX1_addUp_70 ?_
      refine e_doesV qcX1_40 g1.obj rfl rfl (S_appendC g1 (show bd (pX A 0 + pX B 0) from ⟨by omega, by omega⟩) (show bd (pY A 0 + pY B 0) from ⟨by omega, by omega⟩) (show bd 0 from ⟨by omega, by omega⟩)) rfl rfl rfl rfl dX1_addUp_71 ?_
      intro v h2 q2
      obtain ⟨rfl, g2, fr2⟩ := q2
      refine e_iconst dX1_addUp_74 ?_
      refine e_istore dX1_addUp_75 rfl ?_
      refine e_iconst dX1_addUp_77 ?_
      refine e_istore dX1_addUp_78 rfl ?_
      refine e_iconst dX1_addUp_80 ?_
      refine e_istore dX1_addUp_81 rfl ?_
      exact e_loc [(9, .int (iN (0 : Nat))), (7, .int (iN (0 : Nat))), (8, .int (iN (0 : Nat))), (5, .int (iN (pX A 0 + pX B 0))), (6, .int (iN (pY A 0 + pY B 0))), (3, .int (iN _)), (4, .int (iN _)), (0, .ref r1), (1, .ref r2), (2, .ref r)] ⟨rfl, rfl, rfl, rfl, rfl, rfl, rfl, rfl, rfl, rfl, trivial⟩ (gA _ (by unfold egs; first | (rw [if_pos (by omega)]; done) | (rw [if_neg (by omega)]; rfl)) _ (by unfold egs; first | (rw [if_pos (by omega)]; done) | (rw [if_neg (by omega)]; rfl)) h2 g2 (fr1.tr fr2) z)
    · refine e_aload_n dX1_addUp_25 rfl ?_
      refine e_pureV qcX1_12 hb.obj rfl rfl (S_size hb) rfl rfl rfl rfl dX1_addUp_26 ?_
      refine e_goto (tgt := 33) dX1_addUp_29 rfl ?_
      refine e_istore dX1_addUp_33 rfl ?_
      refine e_aload_n dX1_addUp_35 rfl ?_
      refine e_iconst dX1_addUp_36 ?_
      refine e_pureV qcX1_16 ha.obj rfl rfl (S_xAt (i := 0) ha a0) rfl rfl rfl rfl dX1_addUp_37 ?_
      refine e_aload_n dX1_addUp_40 rfl ?_
      refine e_iconst dX1_addUp_41 ?_
      refine e_pureV qcX1_16 hb.obj rfl rfl (S_xAt (i := 0) hb b0) rfl rfl rfl rfl dX1_addUp_42 ?_
      refine e_iadd dX1_addUp_45 ?_
      refine e_istore dX1_addUp_46 rfl ?_
      refine e_aload_n dX1_addUp_48 rfl ?_
      refine e_iconst dX1_addUp_49 ?_
      refine e_pureV qcX1_20 ha.obj rfl rfl (S_yAt (i := 0) ha a0) rfl rfl rfl rfl dX1_addUp_50 ?_
      refine e_aload_n dX1_addUp_53 rfl ?_
      refine e_iconst dX1_addUp_54 ?_
      refine e_pureV qcX1_20 hb.obj rfl rfl (S_yAt (i := 0) hb b0) rfl rfl rfl rfl dX1_addUp_55 ?_
      refine e_iadd dX1_addUp_58 ?_
      refine e_istore dX1_addUp_59 rfl ?_
      refine e_aload_n dX1_addUp_61 rfl ?_
      refine e_doesV qcX1_7 hr.obj rfl rfl (S_reset hr) rfl rfl rfl rfl dX1_addUp_62 ?_
      intro v h1 q1
      obtain ⟨rfl, g1, fr1⟩ := q1
      refine e_aload_n dX1_addUp_65 rfl ?_
      refine e_iload dX1_addUp_66 rfl ?_
      refine e_iload dX1_addUp_68 rfl ?_
      refine e_iconst dX1_addUp_70 ?_
      refine e_doesV qcX1_40 g1.obj rfl rfl (S_appendC g1 (show bd (pX A 0 + pX B 0) from ⟨by omega, by omega⟩) (show bd (pY A 0 + pY B 0) from ⟨by omega, by omega⟩) (show bd 0 from ⟨by omega, by omega⟩)) rfl rfl rfl rfl dX1_addUp_71 ?_
      intro v h2 q2
      obtain ⟨rfl, g2, fr2⟩ := q2
      refine e_iconst dX1_addUp_74 ?_
      refine e_istore dX1_addUp_75 rfl ?_
      refine e_iconst dX1_addUp_77 ?_
      refine e_istore dX1_addUp_78 rfl ?_
      refine e_iconst dX1_addUp_80 ?_
      refine e_istore dX1_addUp_81 rfl ?_
      exact e_loc [(9, .int (iN (0 : Nat))), (7, .int (iN (0 : Nat))), (8, .int (iN (0 : Nat))), (5, .int (iN (pX A 0 + pX B 0))), (6, .int (iN (pY A 0 + pY B 0))), (3, .int (iN _)), (4, .int (iN _)), (0, .ref r1), (1, .ref r2), (2, .ref r)] ⟨rfl, rfl, rfl, rfl, rfl, rfl, rfl, rfl, rfl, rfl, trivial⟩ (gA _ (by unfold egs; first | (rw [if_pos (by omega)]; done) | (rw [if_neg (by omega)]; rfl)) _ (by unfold egs; first | (rw [if_pos (by omega)]; done) | (rw [if_neg (by omega)]; rfl)) h2 g2 (fr1.tr fr2) z)
end PHULLS3
