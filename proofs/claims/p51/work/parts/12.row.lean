/-! Row: places in a row -/
/-- locals as they are wanted, out of those that are known -/
def g_sub (L : List (Nat × Value)) : List (Nat × Value) → Prop
  | [] => True
  | q :: t => g_lk q.1 L = some q.2 ∧ g_sub L t
theorem g_sub_mem {L : List (Nat × Value)} : ∀ {L' : List (Nat × Value)}, g_sub L L' → ∀ q ∈ L', g_lk q.1 L = some q.2
  | [], _, q, hq => absurd hq List.not_mem_nil
  | a :: t, hs, q, hq => by
    rcases List.mem_cons.mp hq with e | e
    · rw [e]; exact hs.1
    · exact g_sub_mem hs.2 q e
theorem e_loc {C : g_E} {k n : Nat} {z : Option Nat} {h : g_hp} {pc : Nat} {L : List (Nat × Value)} {st : List Value} (L' : List (Nat × Value)) (hs : g_sub L L') (kk : Ev C k n z h pc L' st) : Ev C k n z h pc L st :=
  e_locals (fun j v q => g_sub_mem hs (j, v) (g_lk_mem q)) kk
abbrev PL : Type := List (Int × Int × Int)
abbrev d3 : Int × Int × Int := (0, 0, 0)
def pX (L : PL) (i : Nat) : Int := (L.getD i d3).1
def pY (L : PL) (i : Nat) : Int := (L.getD i d3).2.1
def pM (L : PL) (i : Nat) : Int := (L.getD i d3).2.2
abbrev bd (z : Int) : Prop := -2000 ≤ z ∧ z ≤ 2000
def okL (L : PL) : Prop := ∀ p ∈ L, bd p.1 ∧ bd p.2.1 ∧ bd p.2.2
theorem getD_at {L : PL} {i : Nat} (hi : i < L.length) : L.getD i d3 = L[i] := by simp [List.getD, hi]
theorem okL.at {L : PL} (h : okL L) {i : Nat} (hi : i < L.length) : bd (pX L i) ∧ bd (pY L i) ∧ bd (pM L i) := by
  unfold pX pY pM
  rw [getD_at hi]
  exact h _ (List.getElem_mem hi)
/-- the four cells of a row: its size, and what its three arrays hold -/
def rowF (G : g_X) (N n : Nat) (xs ys ms : Nat → Int) (r : Nat) (h : g_hp) : Prop := h r = some (.inr (2, [.ref (r + 1), .ref (r + 2), .ref (r + 3), .int (iN n)])) ∧ h (r + 1) = some (aI G N xs) ∧ h (r + 2) = some (aI G N ys) ∧ h (r + 3) = some (aI G N ms)
def rowC (L : PL) (xs ys ms : Nat → Int) : Prop := ∀ i, i < L.length → xs i = pX L i ∧ ys i = pY L i ∧ ms i = pM L i
/-- .. as a list of places with marks -/
def rowAt (G : g_X) (N : Nat) (L : PL) (r : Nat) (h : g_hp) : Prop := L.length ≤ N ∧ N ≤ 1000 ∧ okL L ∧ ∃ xs ys ms : Nat → Int, rowF G N L.length xs ys ms r h ∧ rowC L xs ys ms
theorem rowF.kept {G : g_X} {N n : Nat} {xs ys ms : Nat → Int} {r : Nat} {h h1 : g_hp} (x : rowF G N n xs ys ms r h) (k : ∀ a, r ≤ a → a < r + 4 → h1 a = h a) : rowF G N n xs ys ms r h1 :=
  ⟨(k r (by omega) (by omega)).trans x.1, (k (r + 1) (by omega) (by omega)).trans x.2.1, (k (r + 2) (by omega) (by omega)).trans x.2.2.1, (k (r + 3) (by omega) (by omega)).trans x.2.2.2⟩
theorem rowAt.kept {G : g_X} {N : Nat} {L : PL} {r : Nat} {h h1 : g_hp} (x : rowAt G N L r h) (k : ∀ a, r ≤ a → a < r + 4 → h1 a = h a) : rowAt G N L r h1 := by
  obtain ⟨a1, a2, a3, xs, ys, ms, f, c⟩ := x
  exact ⟨a1, a2, a3, xs, ys, ms, f.kept k, c⟩
theorem rowAt.off {G : g_X} {N : Nat} {L : PL} {r b w : Nat} {h h1 : g_hp} (x : rowAt G N L r h) (f : g_fr b w h h1) (d : r + 4 ≤ b ∨ b + w ≤ r) : rowAt G N L r h1 := x.kept (fun a h0 h2 => f a (by omega))
theorem rowAt.obj {G : g_X} {N : Nat} {L : PL} {r : Nat} {h : g_hp} (x : rowAt G N L r h) : h r = some (.inr (2, [.ref (r + 1), .ref (r + 2), .ref (r + 3), .int (iN L.length)])) := by
  obtain ⟨a1, a2, a3, xs, ys, ms, f, c⟩ := x
  exact f.1
theorem nbl {N : Nat} (h : N ≤ 1000) : Nat.ble N 2147483647 = true := Nat.ble_eq_true_of_le (by omega)
theorem plX4 : plainName RX4 = true := by decide +kernel
section PROWS
variable {G : g_X} {N n : Nat} {xs ys ms : Nat → Int} {L : PL} {r : Nat} {h : g_hp}

set_option maxRecDepth 20000 in
theorem S_size (hr : rowAt G N L r h) : Pure G mX4_size [.ref r] h (.int (iN L.length)) := by
  intro z
  refine run_of rfl plX4 rfl ?_
  obtain ⟨hn, hN, hk, xs, ys, ms, ⟨f0, f1, f2, f3⟩, hc⟩ := hr
  refine e_aload_n dX4_size_0 rfl ?_
  refine e_getf fX4_7 (by assumption) rfl dX4_size_1 ?_
  refine e_iret rfl dX4_size_4 (by decide) (by decide) ?_
  exact ⟨rfl, rfl, rfl⟩
set_option maxRecDepth 20000 in
theorem F_xAt (f : rowF G N n xs ys ms r h) (hN : N ≤ 1000) {i : Nat} (hi : i < N) : Pure G mX4_xAt [.ref r, .int (iN i)] h (.int (iN (xs i))) := by
  intro z
  refine run_of rfl plX4 rfl ?_
  obtain ⟨f0, f1, f2, f3⟩ := f
  refine e_iload_n dX4_xAt_0 rfl ?_
  refine e_if_lt (tgt := 22) ⟨by omega, by omega⟩ dX4_xAt_1 rfl (fun c_1 => ?_) (fun c_1 => ?_)
  · exact absurd c_1 (by omega)
  · refine e_iload_n dX4_xAt_4 rfl ?_
    refine e_aload_n dX4_xAt_5 rfl ?_
    refine e_getf fX4_19 f0 rfl dX4_xAt_6 ?_
    refine e_alenI f1 dX4_xAt_9 ?_
    refine e_icmp_ge (tgt := 22) ⟨by omega, by omega⟩ ⟨by omega, by omega⟩ dX4_xAt_10 rfl (fun c_10 => ?_) (fun c_10 => ?_)
    · exact absurd c_10 (by omega)
    · refine e_aload_n dX4_xAt_13 rfl ?_
      refine e_getf fX4_19 f0 rfl dX4_xAt_14 ?_
      refine e_iload_n dX4_xAt_17 rfl ?_
      refine e_iaload f1 (by omega) (by omega) (nbl hN) dX4_xAt_18 ?_
      refine e_goto (tgt := 23) dX4_xAt_19 rfl ?_
      refine e_iret rfl dX4_xAt_23 (by decide) (by decide) ?_
      exact ⟨rfl, rfl, rfl⟩
set_option maxRecDepth 20000 in
theorem F_yAt (f : rowF G N n xs ys ms r h) (hN : N ≤ 1000) {i : Nat} (hi : i < N) : Pure G mX4_yAt [.ref r, .int (iN i)] h (.int (iN (ys i))) := by
  intro z
  refine run_of rfl plX4 rfl ?_
  obtain ⟨f0, f1, f2, f3⟩ := f
  refine e_iload_n dX4_yAt_0 rfl ?_
  refine e_if_lt (tgt := 22) ⟨by omega, by omega⟩ dX4_yAt_1 rfl (fun c_1 => ?_) (fun c_1 => ?_)
  · exact absurd c_1 (by omega)
  · refine e_iload_n dX4_yAt_4 rfl ?_
    refine e_aload_n dX4_yAt_5 rfl ?_
    refine e_getf fX4_23 f0 rfl dX4_yAt_6 ?_
    refine e_alenI f2 dX4_yAt_9 ?_
    refine e_icmp_ge (tgt := 22) ⟨by omega, by omega⟩ ⟨by omega, by omega⟩ dX4_yAt_10 rfl (fun c_10 => ?_) (fun c_10 => ?_)
    · exact absurd c_10 (by omega)
    · refine e_aload_n dX4_yAt_13 rfl ?_
      refine e_getf fX4_23 f0 rfl dX4_yAt_14 ?_
      refine e_iload_n dX4_yAt_17 rfl ?_
      refine e_iaload f2 (by omega) (by omega) (nbl hN) dX4_yAt_18 ?_
      refine e_goto (tgt := 23) dX4_yAt_19 rfl ?_
      refine e_iret rfl dX4_yAt_23 (by decide) (by decide) ?_
      exact ⟨rfl, rfl, rfl⟩
set_option maxRecDepth 20000 in
theorem F_markAt (f : rowF G N n xs ys ms r h) (hN : N ≤ 1000) {i : Nat} (hi : i < N) : Pure G mX4_markAt [.ref r, .int (iN i)] h (.int (iN (ms i))) := by
  intro z
  refine run_of rfl plX4 rfl ?_
  obtain ⟨f0, f1, f2, f3⟩ := f
  refine e_iload_n dX4_markAt_0 rfl ?_
  refine e_if_lt (tgt := 22) ⟨by omega, by omega⟩ dX4_markAt_1 rfl (fun c_1 => ?_) (fun c_1 => ?_)
  · exact absurd c_1 (by omega)
  · refine e_iload_n dX4_markAt_4 rfl ?_
    refine e_aload_n dX4_markAt_5 rfl ?_
    refine e_getf fX4_26 f0 rfl dX4_markAt_6 ?_
    refine e_alenI f3 dX4_markAt_9 ?_
    refine e_icmp_ge (tgt := 22) ⟨by omega, by omega⟩ ⟨by omega, by omega⟩ dX4_markAt_10 rfl (fun c_10 => ?_) (fun c_10 => ?_)
    · exact absurd c_10 (by omega)
    · refine e_aload_n dX4_markAt_13 rfl ?_
      refine e_getf fX4_26 f0 rfl dX4_markAt_14 ?_
      refine e_iload_n dX4_markAt_17 rfl ?_
      refine e_iaload f3 (by omega) (by omega) (nbl hN) dX4_markAt_18 ?_
      refine e_goto (tgt := 23) dX4_markAt_19 rfl ?_
      refine e_iret rfl dX4_markAt_23 (by decide) (by decide) ?_
      exact ⟨rfl, rfl, rfl⟩
theorem S_xAt (hr : rowAt G N L r h) {i : Nat} (hi : i < L.length) : Pure G mX4_xAt [.ref r, .int (iN i)] h (.int (iN (pX L i))) := by
  obtain ⟨hn, hN, hk, xs, ys, ms, f, hc⟩ := hr
  rw [← (hc i hi).1]
  exact F_xAt f hN (by omega)
theorem S_yAt (hr : rowAt G N L r h) {i : Nat} (hi : i < L.length) : Pure G mX4_yAt [.ref r, .int (iN i)] h (.int (iN (pY L i))) := by
  obtain ⟨hn, hN, hk, xs, ys, ms, f, hc⟩ := hr
  rw [← (hc i hi).2.1]
  exact F_yAt f hN (by omega)
theorem S_markAt (hr : rowAt G N L r h) {i : Nat} (hi : i < L.length) : Pure G mX4_markAt [.ref r, .int (iN i)] h (.int (iN (pM L i))) := by
  obtain ⟨hn, hN, hk, xs, ys, ms, f, hc⟩ := hr
  rw [← (hc i hi).2.2]
  exact F_markAt f hN (by omega)
set_option maxRecDepth 20000 in
theorem F_isBehind (f : rowF G N n xs ys ms r h) (hN : N ≤ 1000) {i : Nat} (hi : i < N) {x y : Int} (hx : r32 x) (hy : r32 y) (hx2 : r32 (xs i)) (hy2 : r32 (ys i)) : Pure G mX4_isBehind [.ref r, .int (iN i), .int (iN x), .int (iN y)] h (.int (iN (bP (x < xs i ∨ (xs i = x ∧ y < ys i))))) := by
  intro z
  refine run_of rfl plX4 rfl ?_

  refine e_aload_n dX4_isBehind_0 rfl ?_
  refine e_iload_n dX4_isBehind_1 rfl ?_
  refine e_pureV qcX4_29 f.1 rfl rfl (F_xAt f hN hi) rfl rfl rfl rfl dX4_isBehind_2 ?_
  refine e_iload_n dX4_isBehind_5 rfl ?_
  refine e_icmp_gt (tgt := 27) ⟨by omega, by omega⟩ ⟨by omega, by omega⟩ dX4_isBehind_6 rfl (fun c_6 => ?_) (fun c_6 => ?_)
  · refine e_iconst dX4_isBehind_27 ?_
    refine e_goto (tgt := 32) dX4_isBehind_28 rfl ?_
    refine e_zret rfl (Or.inr rfl) dX4_isBehind_32 (by decide) (by decide) ?_
    exact ⟨by rw [bP_t (Or.inl c_6)], rfl, rfl⟩
  · refine e_aload_n dX4_isBehind_9 rfl ?_
    refine e_iload_n dX4_isBehind_10 rfl ?_
    refine e_pureV qcX4_29 f.1 rfl rfl (F_xAt f hN hi) rfl rfl rfl rfl dX4_isBehind_11 ?_
    refine e_iload_n dX4_isBehind_14 rfl ?_
    refine e_icmp_ne (tgt := 31) ⟨by omega, by omega⟩ ⟨by omega, by omega⟩ dX4_isBehind_15 rfl (fun c_15 => ?_) (fun c_15 => ?_)
    · refine e_iconst dX4_isBehind_31 ?_
      refine e_zret rfl (Or.inl rfl) dX4_isBehind_32 (by decide) (by decide) ?_
      exact ⟨by rw [bP_f (fun w => by omega)], rfl, rfl⟩
    · refine e_aload_n dX4_isBehind_18 rfl ?_
      refine e_iload_n dX4_isBehind_19 rfl ?_
      refine e_pureV qcX4_33 f.1 rfl rfl (F_yAt f hN hi) rfl rfl rfl rfl dX4_isBehind_20 ?_
      refine e_iload_n dX4_isBehind_23 rfl ?_
      refine e_icmp_le (tgt := 31) ⟨by omega, by omega⟩ ⟨by omega, by omega⟩ dX4_isBehind_24 rfl (fun c_24 => ?_) (fun c_24 => ?_)
      · refine e_iconst dX4_isBehind_31 ?_
        refine e_zret rfl (Or.inl rfl) dX4_isBehind_32 (by decide) (by decide) ?_
        exact ⟨by rw [bP_f (fun w => by omega)], rfl, rfl⟩
      · refine e_iconst dX4_isBehind_27 ?_
        refine e_goto (tgt := 32) dX4_isBehind_28 rfl ?_
        refine e_zret rfl (Or.inr rfl) dX4_isBehind_32 (by decide) (by decide) ?_
        exact ⟨by rw [bP_t (Or.inr ⟨by omega, by omega⟩)], rfl, rfl⟩
set_option maxRecDepth 20000 in
theorem S_isAt (hr : rowAt G N L r h) {i : Nat} (hi : i < L.length) {x y : Int} (hx : r32 x) (hy : r32 y) : Pure G mX4_isAt [.ref r, .int (iN i), .int (iN x), .int (iN y)] h (.int (iN (bP (pX L i = x ∧ pY L i = y)))) := by
  intro z
  refine run_of rfl plX4 rfl ?_
  have hb := hr.2.2.1.at hi
  refine e_aload_n dX4_isAt_0 rfl ?_
  refine e_iload_n dX4_isAt_1 rfl ?_
  refine e_pureV qcX4_29 hr.obj rfl rfl (S_xAt hr hi) rfl rfl rfl rfl dX4_isAt_2 ?_
  refine e_iload_n dX4_isAt_5 rfl ?_
  refine e_icmp_ne (tgt := 22) ⟨by omega, by omega⟩ ⟨by omega, by omega⟩ dX4_isAt_6 rfl (fun c_6 => ?_) (fun c_6 => ?_)
  · refine e_iconst dX4_isAt_22 ?_
    refine e_zret rfl (Or.inl rfl) dX4_isAt_23 (by decide) (by decide) ?_
    exact ⟨by rw [bP_f (fun w => c_6 w.1)], rfl, rfl⟩
  · refine e_aload_n dX4_isAt_9 rfl ?_
    refine e_iload_n dX4_isAt_10 rfl ?_
    refine e_pureV qcX4_33 hr.obj rfl rfl (S_yAt hr hi) rfl rfl rfl rfl dX4_isAt_11 ?_
    refine e_iload_n dX4_isAt_14 rfl ?_
    refine e_icmp_ne (tgt := 22) ⟨by omega, by omega⟩ ⟨by omega, by omega⟩ dX4_isAt_15 rfl (fun c_15 => ?_) (fun c_15 => ?_)
    · refine e_iconst dX4_isAt_22 ?_
      refine e_zret rfl (Or.inl rfl) dX4_isAt_23 (by decide) (by decide) ?_
      exact ⟨by rw [bP_f (fun w => c_15 w.2)], rfl, rfl⟩
    · refine e_iconst dX4_isAt_18 ?_
      refine e_goto (tgt := 23) dX4_isAt_19 rfl ?_
      refine e_zret rfl (Or.inr rfl) dX4_isAt_23 (by decide) (by decide) ?_
      exact ⟨by rw [bP_t ⟨Classical.not_not.mp c_6, Classical.not_not.mp c_15⟩], rfl, rfl⟩
def nxt (n i : Nat) : Nat := if i + 1 < n then i + 1 else 0
def prv (n i : Nat) : Nat := if 0 < i then i - 1 else n - 1
theorem nxt_lt {n i : Nat} (h : i < n) : nxt n i < n := by unfold nxt; split <;> omega
theorem prv_lt {n i : Nat} (h : i < n) : prv n i < n := by unfold prv; split <;> omega
set_option maxRecDepth 20000 in
theorem S_next (hr : rowAt G N L r h) {i : Nat} (hi : i < L.length) : Pure G mX4_next [.ref r, .int (iN i)] h (.int (iN (nxt L.length i))) := by
  intro z
  refine run_of rfl plX4 rfl ?_
  obtain ⟨hn, hN, hk, xs, ys, ms, ⟨f0, f1, f2, f3⟩, hc⟩ := hr
  refine e_iload_n dX4_next_0 rfl ?_
  refine e_iconst dX4_next_1 ?_
  refine e_iadd dX4_next_2 ?_
  refine e_aload_n dX4_next_3 rfl ?_
  refine e_getf fX4_7 f0 rfl dX4_next_4 ?_
  refine e_icmp_ge (tgt := 16) ⟨by omega, by omega⟩ ⟨by omega, by omega⟩ dX4_next_7 rfl (fun c_7 => ?_) (fun c_7 => ?_)
  · refine e_iconst dX4_next_16 ?_
    refine e_iret rfl dX4_next_17 (by decide) (by decide) ?_
    exact ⟨by rw [show nxt L.length i = 0 by unfold nxt; rw [if_neg (by omega)]]; rfl, rfl, rfl⟩
  · refine e_iload_n dX4_next_10 rfl ?_
    refine e_iconst dX4_next_11 ?_
    refine e_iadd dX4_next_12 ?_
    refine e_goto (tgt := 17) dX4_next_13 rfl ?_
    refine e_iret rfl dX4_next_17 (by decide) (by decide) ?_
    exact ⟨by rw [show ((nxt L.length i : Nat) : Int) = (i : Int) + 1 by unfold nxt; rw [if_pos (by omega)]; rfl], rfl, rfl⟩
set_option maxRecDepth 20000 in
theorem S_previous (hr : rowAt G N L r h) {i : Nat} (hi : i < L.length) : Pure G mX4_previous [.ref r, .int (iN i)] h (.int (iN (prv L.length i))) := by
  intro z
  refine run_of rfl plX4 rfl ?_
  obtain ⟨hn, hN, hk, xs, ys, ms, ⟨f0, f1, f2, f3⟩, hc⟩ := hr
  refine e_iload_n dX4_previous_0 rfl ?_
  refine e_if_le (tgt := 10) ⟨by omega, by omega⟩ dX4_previous_1 rfl (fun c_1 => ?_) (fun c_1 => ?_)
  · refine e_aload_n dX4_previous_10 rfl ?_
    refine e_getf fX4_7 f0 rfl dX4_previous_11 ?_
    refine e_iconst dX4_previous_14 ?_
    refine e_isub dX4_previous_15 ?_
    refine e_iret rfl dX4_previous_16 (by decide) (by decide) ?_
    exact ⟨by rw [show ((prv L.length i : Nat) : Int) = (L.length : Int) - 1 by unfold prv; rw [if_neg (by omega)]; omega], rfl, rfl⟩
  · refine e_iload_n dX4_previous_4 rfl ?_
    refine e_iconst dX4_previous_5 ?_
    refine e_isub dX4_previous_6 ?_
    refine e_goto (tgt := 16) dX4_previous_7 rfl ?_
    refine e_iret rfl dX4_previous_16 (by decide) (by decide) ?_
    exact ⟨by rw [show ((prv L.length i : Nat) : Int) = (i : Int) - 1 by unfold prv; rw [if_pos (by omega)]; omega], rfl, rfl⟩
set_option maxRecDepth 20000 in
theorem F_put (f : rowF G N n xs ys ms r h) (hN : N ≤ 1000) {i : Nat} (hi : i < N) (x y m : Int) : Does G mX4_put [.ref r, .int (iN i), .int (iN x), .int (iN y), .int (iN m)] h (fun v h1 => v = none ∧ rowF G N n (uI xs i x) (uI ys i y) (uI ms i m) r h1 ∧ g_fr r 4 h h1) := by
  intro z
  refine run_of rfl plX4 rfl ?_
  obtain ⟨f0, f1, f2, f3⟩ := f
  refine e_iload_n dX4_put_0 rfl ?_
  refine e_if_lt (tgt := 53) ⟨by omega, by omega⟩ dX4_put_1 rfl (fun c_1 => ?_) (fun c_1 => ?_)
  · exact absurd c_1 (by omega)
  · refine e_iload_n dX4_put_4 rfl ?_
    refine e_aload_n dX4_put_5 rfl ?_
    refine e_getf fX4_19 f0 rfl dX4_put_6 ?_
    refine e_alenI f1 dX4_put_9 ?_
    refine e_icmp_ge (tgt := 53) ⟨by omega, by omega⟩ ⟨by omega, by omega⟩ dX4_put_10 rfl (fun c_10 => ?_) (fun c_10 => ?_)
    · exact absurd c_10 (by omega)
    · refine e_iload_n dX4_put_13 rfl ?_
      refine e_aload_n dX4_put_14 rfl ?_
      refine e_getf fX4_23 f0 rfl dX4_put_15 ?_
      refine e_alenI f2 dX4_put_18 ?_
      refine e_icmp_ge (tgt := 53) ⟨by omega, by omega⟩ ⟨by omega, by omega⟩ dX4_put_19 rfl (fun c_19 => ?_) (fun c_19 => ?_)
      · exact absurd c_19 (by omega)
      · refine e_iload_n dX4_put_22 rfl ?_
        refine e_aload_n dX4_put_23 rfl ?_
        refine e_getf fX4_26 f0 rfl dX4_put_24 ?_
        refine e_alenI f3 dX4_put_27 ?_
        refine e_icmp_ge (tgt := 53) ⟨by omega, by omega⟩ ⟨by omega, by omega⟩ dX4_put_28 rfl (fun c_28 => ?_) (fun c_28 => ?_)
        · exact absurd c_28 (by omega)
        · refine e_aload_n dX4_put_31 rfl ?_
          refine e_getf fX4_19 f0 rfl dX4_put_32 ?_
          refine e_iload_n dX4_put_35 rfl ?_
          refine e_iload_n dX4_put_36 rfl ?_
          refine e_iastore f1 (by omega) (by omega) (nbl hN) dX4_put_37 ?_
          refine e_aload_n dX4_put_38 rfl ?_
          refine e_getf fX4_23 ((g_up_n _ _ (by omega)).trans f0) rfl dX4_put_39 ?_
          refine e_iload_n dX4_put_42 rfl ?_
          refine e_iload_n dX4_put_43 rfl ?_
          refine e_iastore ((g_up_n _ _ (by omega)).trans f2) (by omega) (by omega) (nbl hN) dX4_put_44 ?_
          refine e_aload_n dX4_put_45 rfl ?_
          refine e_getf fX4_26 ((g_up_n _ _ (by omega)).trans ((g_up_n _ _ (by omega)).trans f0)) rfl dX4_put_46 ?_
          refine e_iload_n dX4_put_49 rfl ?_
          refine e_iload dX4_put_50 rfl ?_
          refine e_iastore ((g_up_n _ _ (by omega)).trans ((g_up_n _ _ (by omega)).trans f3)) (by omega) (by omega) (nbl hN) dX4_put_52 ?_
          refine e_vret rfl dX4_put_53 (by decide) (by decide) ?_
          exact ⟨none, rfl, rfl, rfl, ⟨(g_up_n _ _ (by omega)).trans ((g_up_n _ _ (by omega)).trans ((g_up_n _ _ (by omega)).trans f0)), (g_up_n _ _ (by omega)).trans ((g_up_n _ _ (by omega)).trans (g_up_s _ _ _)), (g_up_n _ _ (by omega)).trans (g_up_s _ _ _), g_up_s _ _ _⟩, ((g_fr.rf.up (by omega) (by omega)).up (by omega) (by omega)).up (by omega) (by omega)⟩
theorem pX_set {L : PL} {i j : Nat} (hi : i < L.length) (p : Int × Int × Int) : pX (L.set i p) j = uI (pX L) i p.1 j ∧ pY (L.set i p) j = uI (pY L) i p.2.1 j ∧ pM (L.set i p) j = uI (pM L) i p.2.2 j := by
  unfold pX pY pM uI
  by_cases c : j = i
  · subst c
    simp [List.getD, hi]
  · have c2 : ¬ i = j := fun q => c q.symm
    simp [List.getD, List.getElem?_set, c, c2]
theorem okL_set {L : PL} {i : Nat} {p : Int × Int × Int} (h : okL L) (hp : bd p.1 ∧ bd p.2.1 ∧ bd p.2.2) : okL (L.set i p) := fun q hq => by
  rcases List.mem_or_eq_of_mem_set hq with e | e
  · exact h q e
  · rw [e]; exact hp
theorem pX_app {L : PL} {p : Int × Int × Int} {i : Nat} : (i < L.length → pX (L ++ [p]) i = pX L i ∧ pY (L ++ [p]) i = pY L i ∧ pM (L ++ [p]) i = pM L i) ∧ (i = L.length → pX (L ++ [p]) i = p.1 ∧ pY (L ++ [p]) i = p.2.1 ∧ pM (L ++ [p]) i = p.2.2) := by
  unfold pX pY pM
  refine ⟨fun c => ?_, fun c => ?_⟩
  · simp [List.getD, List.getElem?_append_left c]
  · subst c
    simp [List.getD]
set_option maxRecDepth 20000 in
theorem S_mark (hr : rowAt G N L r h) {i : Nat} (hi : i < L.length) {m : Int} (hm : bd m) : Does G mX4_mark [.ref r, .int (iN i), .int (iN m)] h (fun v h1 => v = none ∧ rowAt G N (L.set i (pX L i, pY L i, m)) r h1 ∧ g_fr r 4 h h1) := by
  intro z
  refine run_of rfl plX4 rfl ?_
  obtain ⟨hn, hN, hk, xs, ys, ms, ⟨f0, f1, f2, f3⟩, hc⟩ := hr
  refine e_iload_n dX4_mark_0 rfl ?_
  refine e_if_lt (tgt := 20) ⟨by omega, by omega⟩ dX4_mark_1 rfl (fun c_1 => ?_) (fun c_1 => ?_)
  · exact absurd c_1 (by omega)
  · refine e_iload_n dX4_mark_4 rfl ?_
    refine e_aload_n dX4_mark_5 rfl ?_
    refine e_getf fX4_26 f0 rfl dX4_mark_6 ?_
    refine e_alenI f3 dX4_mark_9 ?_
    refine e_icmp_ge (tgt := 20) ⟨by omega, by omega⟩ ⟨by omega, by omega⟩ dX4_mark_10 rfl (fun c_10 => ?_) (fun c_10 => ?_)
    · exact absurd c_10 (by omega)
    · refine e_aload_n dX4_mark_13 rfl ?_
      refine e_getf fX4_26 f0 rfl dX4_mark_14 ?_
      refine e_iload_n dX4_mark_17 rfl ?_
      refine e_iload_n dX4_mark_18 rfl ?_
      refine e_iastore f3 (by omega) (by omega) (nbl hN) dX4_mark_19 ?_
      refine e_vret rfl dX4_mark_20 (by decide) (by decide) ?_
      refine ⟨none, rfl, rfl, rfl, ⟨by rw [List.length_set]; exact hn, hN, okL_set hk ⟨(hk.at hi).1, (hk.at hi).2.1, hm⟩, xs, ys, uI ms i m, ⟨by rw [List.length_set]; exact (g_up_n _ _ (by omega)).trans f0, (g_up_n _ _ (by omega)).trans f1, (g_up_n _ _ (by omega)).trans f2, g_up_s _ _ _⟩, fun j hj => ?_⟩, g_fr.rf.up (by omega) (by omega)⟩
      rw [List.length_set] at hj
      have h9 := hc j hj
      obtain ⟨s1, s2, s3⟩ := pX_set (j := j) hi (pX L i, pY L i, m)
      rw [s1, s2, s3]
      unfold uI
      by_cases c : j = i
      · subst c
        simp [h9]
      · simp [c, h9]
set_option maxRecDepth 20000 in
theorem S_reset (hr : rowAt G N L r h) : Does G mX4_reset [.ref r] h (fun v h1 => v = none ∧ rowAt G N [] r h1 ∧ g_fr r 4 h h1) := by
  intro z
  refine run_of rfl plX4 rfl ?_
  obtain ⟨hn, hN, hk, xs, ys, ms, ⟨f0, f1, f2, f3⟩, hc⟩ := hr
  refine e_aload_n dX4_reset_0 rfl ?_
  refine e_iconst dX4_reset_1 ?_
  refine e_putf pfX4_7 f0 rfl rfl rfl dX4_reset_2 ?_
  refine e_vret rfl dX4_reset_5 (by decide) (by decide) ?_
  exact ⟨none, rfl, rfl, rfl, ⟨Nat.zero_le _, hN, fun _ q => absurd q List.not_mem_nil, xs, ys, ms, ⟨g_up_s _ _ _, (g_up_n _ _ (by omega)).trans f1, (g_up_n _ _ (by omega)).trans f2, (g_up_n _ _ (by omega)).trans f3⟩, fun j hj => absurd hj (Nat.not_lt_zero _)⟩, g_fr.rf.up (by omega) (by omega)⟩
set_option maxRecDepth 20000 in
theorem S_shorten (hr : rowAt G N L r h) (h0 : 0 < L.length) : Does G mX4_shorten [.ref r] h (fun v h1 => v = none ∧ rowAt G N L.dropLast r h1 ∧ g_fr r 4 h h1) := by
  intro z
  refine run_of rfl plX4 rfl ?_
  obtain ⟨hn, hN, hk, xs, ys, ms, ⟨f0, f1, f2, f3⟩, hc⟩ := hr
  refine e_aload_n dX4_shorten_0 rfl ?_
  refine e_getf fX4_7 f0 rfl dX4_shorten_1 ?_
  refine e_if_le (tgt := 17) ⟨by omega, by omega⟩ dX4_shorten_4 rfl (fun c_4 => ?_) (fun c_4 => ?_)
  · exact absurd c_4 (by omega)
  · refine e_aload_n dX4_shorten_7 rfl ?_
    refine e_dup dX4_shorten_8 rfl ?_
    refine e_getf fX4_7 f0 rfl dX4_shorten_9 ?_
    refine e_iconst dX4_shorten_12 ?_
    refine e_isub dX4_shorten_13 ?_
    refine e_putf pfX4_7 f0 rfl rfl rfl dX4_shorten_14 ?_
    refine e_vret rfl dX4_shorten_17 (by decide) (by decide) ?_
    refine ⟨none, rfl, rfl, rfl, ⟨by rw [List.length_dropLast]; omega, hN, fun q hq => hk q (List.dropLast_subset L hq), xs, ys, ms, ⟨?_, (g_up_n _ _ (by omega)).trans f1, (g_up_n _ _ (by omega)).trans f2, (g_up_n _ _ (by omega)).trans f3⟩, fun j hj => ?_⟩, g_fr.rf.up (by omega) (by omega)⟩
    · rw [g_up_s, List.length_dropLast, show ((L.length - 1 : Nat) : Int) = (L.length : Int) - 1 by omega]
      rfl
    · rw [List.length_dropLast] at hj
      have h9 := hc j (by omega)
      have e9 : L.dropLast.getD j d3 = L.getD j d3 := by
        simp [List.getD, List.getElem?_dropLast, hj, show j < L.length by omega]
      unfold pX pY pM at h9 ⊢
      rw [e9]
      exact h9
set_option maxRecDepth 20000 in
theorem S_append (hr : rowAt G N L r h) (h0 : L.length < N) {x y m : Int} (hx : bd x) (hy : bd y) (hm : bd m) : Does G mX4_append [.ref r, .int (iN x), .int (iN y), .int (iN m)] h (fun v h1 => v = none ∧ rowAt G N (L ++ [(x, y, m)]) r h1 ∧ g_fr r 4 h h1) := by
  intro z
  refine run_of rfl plX4 rfl ?_
  obtain ⟨hn, hN, hk, xs, ys, ms, ⟨f0, f1, f2, f3⟩, hc⟩ := hr
  refine e_aload_n dX4_append_0 rfl ?_
  refine e_getf fX4_7 f0 rfl dX4_append_1 ?_
  refine e_aload_n dX4_append_4 rfl ?_
  refine e_getf fX4_19 f0 rfl dX4_append_5 ?_
  refine e_alenI f1 dX4_append_8 ?_
  refine e_icmp_ge (tgt := 35) ⟨by omega, by omega⟩ ⟨by omega, by omega⟩ dX4_append_9 rfl (fun c_9 => ?_) (fun c_9 => ?_)
  · exact absurd c_9 (by omega)
  · refine e_aload_n dX4_append_12 rfl ?_
    refine e_dup dX4_append_13 rfl ?_
    refine e_getf fX4_7 f0 rfl dX4_append_14 ?_
    refine e_iconst dX4_append_17 ?_
    refine e_iadd dX4_append_18 ?_
    refine e_putf pfX4_7 f0 rfl rfl rfl dX4_append_19 ?_
    have g1 : rowF G N (L.length + 1) xs ys ms r (g_up h r (.inr (2, [.ref (r + 1), .ref (r + 2), .ref (r + 3), .int (iN ((L.length : Int) + 1))]))) := ⟨g_up_s _ _ _, (g_up_n _ _ (by omega)).trans f1, (g_up_n _ _ (by omega)).trans f2, (g_up_n _ _ (by omega)).trans f3⟩
    refine (show Ev _ 0 0 z (g_up h r (.inr (2, [.ref (r + 1), .ref (r + 2), .ref (r + 3), .int (iN ((L.length : Int) + 1))]))) 22 _ _ from ?_)
    have fr1 : g_fr r 4 h (g_up h r (.inr (2, [.ref (r + 1), .ref (r + 2), .ref (r + 3), .int (iN ((L.length : Int) + 1))]))) := g_fr.rf.up (by omega) (by omega)
    generalize g_up h r (.inr (2, [.ref (r + 1), .ref (r + 2), .ref (r + 3), .int (iN ((L.length : Int) + 1))])) = h2 at g1 fr1 ⊢
    refine e_aload_n dX4_append_22 rfl ?_
    refine e_aload_n dX4_append_23 rfl ?_
    refine e_getf fX4_7 g1.1 rfl dX4_append_24 ?_
    refine e_iconst dX4_append_27 ?_
    refine e_isub dX4_append_28 ?_
    rw [show (((L.length + 1 : Nat) : Int) - 1) = ((L.length : Nat) : Int) by omega]
    refine e_iload_n dX4_append_29 rfl ?_
    refine e_iload_n dX4_append_30 rfl ?_
    refine e_iload_n dX4_append_31 rfl ?_
    refine e_doesV qcX4_36 g1.1 rfl rfl (F_put g1 hN h0 x y m) rfl rfl rfl rfl dX4_append_32 ?_
    intro v h3 q3
    obtain ⟨rfl, g3, fr3⟩ := q3
    refine e_vret rfl dX4_append_35 (by decide) (by decide) ?_
    refine ⟨none, rfl, rfl, rfl, ⟨by rw [List.length_append]; exact h0, hN, fun q hq => ?_, _, _, _, by rw [List.length_append]; exact g3, fun j hj => ?_⟩, fr1.tr fr3⟩
    · rcases List.mem_append.mp hq with e | e
      · exact hk q e
      · rw [List.mem_singleton.mp e]
        exact ⟨hx, hy, hm⟩
    · rw [List.length_append] at hj
      have hj : j < L.length + 1 := hj
      obtain ⟨s1, s2⟩ := pX_app (L := L) (p := (x, y, m)) (i := j)
      unfold uI
      by_cases c : j = L.length
      · rw [(s2 c).1, (s2 c).2.1, (s2 c).2.2]
        simp [c]
      · have h9 := hc j (by omega)
        have s1 := s1 (by omega)
        rw [s1.1, s1.2.1, s1.2.2]
        simp [c, h9]
end PROWS
