/-! The law: its world, its script, its switch -/
section LTHR
variable {G : g_X} {m : Nat} {h0 h : g_hp} {sc : Nat → Int} {ar : Nat → Nat → Int}
theorem S_thrown (X : mdX G sc ar m h0 h) : Pure G mX8_thrown [.ref m] h (.int (iN (sc 0))) := fun z => by
  refine run_of rfl plX8 rfl ?_
  refine e_aload_n dX8_thrown_0 rfl ?_
  refine e_getf fX8_1 X.obj rfl dX8_thrown_1 ?_
  refine e_iret rfl dX8_thrown_4 (by decide) (by decide) ?_
  exact ⟨rfl, rfl, rfl⟩
theorem mdX.mv {h1 : g_hp} (X : mdX G sc ar m h0 h) (k : ∀ a, m ≤ a → a < m + 27 → h1 a = h a) : mdX G sc ar m h1 h1 := ⟨(k m (by omega) (by omega)).trans X.1, fun j hj => (k (m + 1 + j) (by omega) (by omega)).trans (X.2.1 j hj), g_fr.rf⟩
end LTHR
section LENV
variable {G : g_X} {P E : PL} {S : Nat → PL} {b : Int} {P2 E2 : PL} {S2 : Nat → PL} {F L1 L2 H1 H2 : PL} {QL : PL} {QT : List Int} {qa : Int} {CA CB : PL} {o m ao ad : Nat} {h0 h : g_hp}
theorem hsX.mv {h1 : g_hp} (X : hsX G P E S b P2 E2 S2 F L1 L2 H1 H2 QL QT qa CA CB o h0 h) (k : ∀ a, o ≤ a → a < o + 96 → h1 a = h a) : hsX G P E S b P2 E2 S2 F L1 L2 H1 H2 QL QT qa CA CB o h1 h1 :=
  ⟨(k o (by omega) (by omega)).trans X.obj, X.yd.kept (fun a _ _ => k a (by omega) (by omega)), X.im.kept (fun a _ _ => k a (by omega) (by omega)), X.fg.kept (fun a _ _ => k a (by omega) (by omega)), X.od.kept (fun a _ _ => k a (by omega) (by omega)), X.ht.kept (fun a _ _ => k a (by omega) (by omega)), X.fh.kept (fun a _ _ => k a (by omega) (by omega)), X.sh.kept (fun a _ _ => k a (by omega) (by omega)), X.pt.kept (fun a _ _ => k a (by omega) (by omega)), X.cn.kept (fun a _ _ => k a (by omega) (by omega)), g_fr.rf⟩
/-- the class's object with some rows of its own, as of now -/
def lwC (G : g_X) (P E : PL) (S : Nat → PL) (b : Int) (P2 E2 : PL) (S2 : Nat → PL) (F : PL) (o : Nat) (h : g_hp) : Prop := ∃ L1 L2 H1 H2 QL QT qa CA CB, hsX G P E S b P2 E2 S2 F L1 L2 H1 H2 QL QT qa CA CB o h h
/-- the reference's object -/
def lwM (G : g_X) (P E : PL) (S : Nat → PL) (b : Int) (P2 E2 : PL) (S2 : Nat → PL) (F : PL) (m : Nat) (h : g_hp) : Prop := ∃ sc ar, mdX G sc ar m h h ∧ mdR sc ar P E S b P2 E2 S2 F
/-- the law's four objects stand one behind the other -/
def lwD (o m ao ad : Nat) : Prop := m = o + 96 ∧ ao = o + 123 ∧ ad = o + 124
def lwW (G : g_X) (P E : PL) (S : Nat → PL) (b : Int) (P2 E2 : PL) (S2 : Nat → PL) (F : PL) (o m ao ad : Nat) (h : g_hp) : Prop := lwD o m ao ad ∧ lwC G P E S b P2 E2 S2 F o h ∧ lwM G P E S b P2 E2 S2 F m h ∧ (∃ g, h ao = some (aL G 1 g)) ∧ ∃ g, h ad = some (aD G 1 g)
theorem upL_n {K : Nat × Int} {ag : Nat → Int} {hc : g_hp} {a : Nat} (n : a ≠ ao) : upL G K ao ag hc a = hc a := by
  obtain ⟨c, v⟩ := K
  cases c with
  | zero => exact g_up_n _ _ n
  | succ c => rfl
theorem upD_n {K : Nat × UInt64} {ag : Nat → UInt64} {hc : g_hp} {a : Nat} (n : a ≠ ao) : upD G K ao ag hc a = hc a := by
  obtain ⟨c, v⟩ := K
  cases c with
  | zero => exact g_up_n _ _ n
  | succ c => rfl
/-- behind a helper: the class's new state, the reference as it was, the answer in its row -/
theorem lw_aft {Pa Ea : PL} {Sa : Nat → PL} {ba : Int} {P2a E2a : PL} {S2a : Nat → PL} {Fa : PL} {K : Nat × Int} {ag : Nat → Int} {gd : Nat → UInt64} {hc : g_hp} {sc : Nat → Int} {ar : Nat → Nat → Int} (D : lwD o m ao ad) (X : hsX G Pa Ea Sa ba P2a E2a S2a Fa L1 L2 H1 H2 QL QT qa CA CB o h hc) (Y : mdX G sc ar m h h) (fa : h ao = some (aL G 1 ag)) (fd : h ad = some (aD G 1 gd)) :
    lwC G Pa Ea Sa ba P2a E2a S2a Fa o (upL G K ao ag hc) ∧ mdX G sc ar m (upL G K ao ag hc) (upL G K ao ag hc) ∧ (∃ g, upL G K ao ag hc ao = some (aL G 1 g) ∧ (K.1 = 0 → g 0 = K.2)) ∧ upL G K ao ag hc ad = some (aD G 1 gd) := by
  obtain ⟨rfl, rfl, rfl⟩ := D
  refine ⟨⟨_, _, _, _, _, _, _, _, _, X.mv (fun a _ _ => upL_n (by omega))⟩, Y.mv (fun a _ _ => (upL_n (by omega)).trans (X.fr a (by omega))), ?_, (upL_n (by omega)).trans ((X.fr _ (by omega)).trans fd)⟩
  obtain ⟨c, v⟩ := K
  cases c with
  | zero => exact ⟨uI ag 0 v, g_up_s _ _ _, fun _ => if_pos rfl⟩
  | succ c => exact ⟨ag, (X.fr _ (by omega)).trans fa, fun w => nomatch w⟩
theorem lw_aftD {Pa Ea : PL} {Sa : Nat → PL} {ba : Int} {P2a E2a : PL} {S2a : Nat → PL} {Fa : PL} {K : Nat × UInt64} {ag : Nat → UInt64} {gd : Nat → Int} {hc : g_hp} {sc : Nat → Int} {ar : Nat → Nat → Int} (D : lwD o m ao ad) (X : hsX G Pa Ea Sa ba P2a E2a S2a Fa L1 L2 H1 H2 QL QT qa CA CB o h hc) (Y : mdX G sc ar m h h) (fa : h ad = some (aD G 1 ag)) (fd : h ao = some (aL G 1 gd)) :
    lwC G Pa Ea Sa ba P2a E2a S2a Fa o (upD G K ad ag hc) ∧ mdX G sc ar m (upD G K ad ag hc) (upD G K ad ag hc) ∧ (∃ g, upD G K ad ag hc ad = some (aD G 1 g) ∧ (K.1 = 0 → g 0 = K.2)) ∧ upD G K ad ag hc ao = some (aL G 1 gd) := by
  obtain ⟨rfl, rfl, rfl⟩ := D
  refine ⟨⟨_, _, _, _, _, _, _, _, _, X.mv (fun a _ _ => upD_n (by omega))⟩, Y.mv (fun a _ _ => (upD_n (by omega)).trans (X.fr a (by omega))), ?_, (upD_n (by omega)).trans ((X.fr _ (by omega)).trans fd)⟩
  obtain ⟨c, v⟩ := K
  cases c with
  | zero => exact ⟨uD ag 0 v, g_up_s _ _ _, fun _ => if_pos rfl⟩
  | succ c => exact ⟨ag, (X.fr _ (by omega)).trans fa, fun w => nomatch w⟩
/-- behind a call of the class alone -/
theorem lw_aft0 {Pa Ea : PL} {Sa : Nat → PL} {ba : Int} {P2a E2a : PL} {S2a : Nat → PL} {Fa : PL} {ag : Nat → Int} {gd : Nat → UInt64} {hc : g_hp} {sc : Nat → Int} {ar : Nat → Nat → Int} (D : lwD o m ao ad) (X : hsX G Pa Ea Sa ba P2a E2a S2a Fa L1 L2 H1 H2 QL QT qa CA CB o h hc) (Y : mdX G sc ar m h h) (fa : h ao = some (aL G 1 ag)) (fd : h ad = some (aD G 1 gd)) :
    lwC G Pa Ea Sa ba P2a E2a S2a Fa o hc ∧ mdX G sc ar m hc hc ∧ hc ao = some (aL G 1 ag) ∧ hc ad = some (aD G 1 gd) := by
  obtain ⟨rfl, rfl, rfl⟩ := D
  exact ⟨⟨_, _, _, _, _, _, _, _, _, X.mv (fun a _ _ => rfl)⟩, Y.mv (fun a _ _ => X.fr a (by omega)), (X.fr _ (by omega)).trans fa, (X.fr _ (by omega)).trans fd⟩
/-- behind the reference's answer: the world again -/
theorem lw_end {sc : Nat → Int} {ar : Nat → Nat → Int} {ag : Nat → Int} {gd : Nat → UInt64} {h1 h2 : g_hp} (D : lwD o m ao ad) (X : lwC G P E S b P2 E2 S2 F o h1) (Y : mdX G sc ar m h1 h2) (R : mdR sc ar P E S b P2 E2 S2 F) (fa : h1 ao = some (aL G 1 ag)) (fd : h1 ad = some (aD G 1 gd)) : lwW G P E S b P2 E2 S2 F o m ao ad h2 ∧ h2 ao = some (aL G 1 ag) ∧ h2 ad = some (aD G 1 gd) := by
  have D9 := D
  obtain ⟨rfl, rfl, rfl⟩ := D
  have f1 := (Y.fr (o + 123) (by omega)).trans fa
  have f2 := (Y.fr (o + 124) (by omega)).trans fd
  obtain ⟨a1, a2, a3, a4, a5, a6, a7, a8, a9, X⟩ := X
  exact ⟨⟨D9, ⟨_, _, _, _, _, _, _, _, _, X.mv (fun a _ _ => Y.fr a (by omega))⟩, ⟨_, _, Y.mv (fun _ _ _ => rfl), R⟩, ⟨_, f1⟩, ⟨_, f2⟩⟩, f1, f2⟩
end LENV
/-- the law's own frame -/
abbrev mLaw : g_M := (yL_law, cL_law, 10, some .boolean, (0, 0), none)
def lwHy (bg bs L : Nat) (xs : Nat → Int32) (args : Array Value) (s : State) : Prop := args = #[.ref bs] ∧ bs < bg ∧ s.heap.size = bg ∧ va_X bs L xs s s.heap
abbrev lwE (G : g_X) (bs L : Nat) (xs : Nat → Int32) (ZZ : g_Q) : g_E := (G, mLaw, room_1, fun below args s t => lwHy G.2.2.2 bs L xs args s → ZZ below args s t)
def sv (xs : Nat → Int32) (z : Int) : Int := (xs z.toNat).toInt
theorem r32_sv (xs : Nat → Int32) (z : Int) : r32 (sv xs z) := r32_of _
theorem g_rm_of {C : g_E} {M : g_M} {k n mc ms : Nat} (h1 : (Nat.ble (M.2.2.2.2.1.1 + 1) C.2.2.1.frames && Nat.ble (14 + (M.2.2.1 + 11) + M.2.2.2.2.1.2) C.2.2.1.locals) = true) (h2 : k + mc ≤ C.2.2.1.cells) (h3 : n + ms ≤ C.2.2.1.slots) : g_rm C M k n mc ms = true := by
  unfold g_rm
  rw [h1, Nat.ble_eq_true_of_le h2, Nat.ble_eq_true_of_le h3]
  rfl
section LSCR
variable {G : g_X} {bs L : Nat} {xs : Nat → Int32} {ZZ : g_Q} {k n : Nat} {z : Option Nat} {h : g_hp} {pc : Nat} {Lo : List (Nat × Value)} {st : List Value}
/-- where the script isn't what it should be, nothing is owed -/
theorem e_hy (kk : ∀ (p : Program) (e : Env) (s : State) (m : MethodId) (args : Array Value) (below : List Frame) (meth : Method) (c : Code) (H : Heap) (locs : List Loc) (ls : Array Slot), lwHy G.2.2.2 bs L xs args s →
    g_C G mLaw p e s m args meth c → va_S (g_A G) s.heap H locs → g_H G z h H → G.2.2.2 ≤ s.heap.size → g_L ls 10 Lo →
    W p G.1 e room_1 s m args below meth c H locs k n (fun t => lwHy G.2.2.2 bs L xs args s → ZZ below args s t) (F0 m pc ls st)) : Ev (lwE G bs L xs ZZ) k n z h pc Lo st := by
  intro p e s m args below meth c H locs ls hC hS hH hb hl
  by_cases hy : lwHy G.2.2.2 bs L xs args s
  · exact kk p e s m args below meth c H locs ls hy hC hS hH hb hl
  · intro T hT X
    exact ⟨_, Steps.refl _, fun w => absurd w hy⟩
theorem e_sld {i : Int} (h0 : 0 ≤ i) (hi : i < L) (hL : L ≤ 2560) (hd : decode cL_law pc = .ok (.iaload, 1)) (kk : Ev (lwE G bs L xs ZZ) k n z h (pc + 1) Lo (.int (iN (sv xs i)) :: st)) : Ev (lwE G bs L xs ZZ) k n z h pc Lo (.int (iN i) :: .ref bs :: st) := by
  refine e_hy (fun p e s m args below meth c H locs ls hy hC hS hH hb hl => ?_)
  obtain ⟨y1, y2, y3, y4⟩ := id hy
  refine va_sld hC.1 hC.2.1 y4 (by omega) (Nat.not_le.mpr y2) hS (iN_in h0 hi (by omega)) hd ?_
  rw [iN_clamp h0 (by omega)]
  have e9 : xs i.toNat = iN (sv xs i) := (iN_asI _).symm
  rw [e9]
  exact kk p e s m args below meth c H locs ls hC hS hH hb hl
theorem e_slen (hd : decode cL_law pc = .ok (.arraylength, 1)) (kk : Ev (lwE G bs L xs ZZ) k n z h (pc + 1) Lo (.int (iN L) :: st)) : Ev (lwE G bs L xs ZZ) k n z h pc Lo (.ref bs :: st) := by
  refine e_hy (fun p e s m args below meth c H locs ls hy hC hS hH hb hl => ?_)
  obtain ⟨y1, y2, y3, y4⟩ := id hy
  exact va_slen hC.1 hC.2.1 y4 (by omega) (Nat.not_le.mpr y2) hS hd (kk p e s m args below meth c H locs ls hC hS hH hb hl)
end LSCR
section LTSW
variable {C : g_E} {k n : Nat} {z : Option Nat} {h : g_hp} {pc : Nat} {L : List (Nat × Value)} {st : List Value}
theorem e_tswI {dflt lo hi : Int} {offs : Array Int} {len : Nat} {x : Int} {off : Int} {tgt : Nat} (hx : r32 x) (hd : decode (g_cc C) pc = .ok (.tableswitch dflt lo hi offs, len)) (h1 : ¬ x < lo) (h2 : ¬ hi < x) (ho : offs[(x - lo).toNat]? = some off) (ht : (pc : Int) + off = (tgt : Int)) (kk : Ev C k n z h tgt L st) : Ev C k n z h pc L (.int (iN x) :: st) := by
  intro p e s m args below meth c H locs ls hC hS hH hb hl
  exact lv_tableIn hC.1 hC.2.1 hd (by rw [iN_toInt hx]; exact h1) (by rw [iN_toInt hx]; exact h2) (by rw [iN_toInt hx]; exact ho) ht (kk p e s m args below meth c H locs ls hC hS hH hb hl)
theorem e_tswO {dflt lo hi : Int} {offs : Array Int} {len : Nat} {x : Int} {tgt : Nat} (hx : r32 x) (hd : decode (g_cc C) pc = .ok (.tableswitch dflt lo hi offs, len)) (h1 : x < lo ∨ hi < x) (ht : (pc : Int) + dflt = (tgt : Int)) (kk : Ev C k n z h tgt L st) : Ev C k n z h pc L (.int (iN x) :: st) := by
  intro p e s m args below meth c H locs ls hC hS hH hb hl
  exact lv_tableOut hC.1 hC.2.1 hd (by rw [iN_toInt hx]; exact h1) ht (kk p e s m args below meth c H locs ls hC hS hH hb hl)
end LTSW
