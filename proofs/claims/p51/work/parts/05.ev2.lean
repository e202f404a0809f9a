/-! THE LAYER, second half: what is carried along; heap, ends, throws, calls -/
section GCTX
theorem scX.moved {G : g_X} {s U : State} {H : Heap} {locs : List Loc} (x : scX G s) (hS : va_S (g_A G) s.heap H locs) (hT : U.heap = H) (hW : s.WarmedH U.vm) : scX G U := by
  obtain ⟨h1, h2, h3, xs, hX⟩ := x
  have h4 := hS.2.1 (G.2.1.2 9 0) h2 (Nat.not_le.mpr h1)
  refine ⟨h1, ?_, h3, xs, ?_⟩
  · rw [hT]
    exact Nat.lt_of_lt_of_le h2 hS.1
  · rw [hT]
    exact (hX.kept h4).moved hW.alike
theorem g_U_to {G : g_X} {s U : State} {H : Heap} {locs : List Loc} (hU : g_U G s) (hS : va_S (g_A G) s.heap H locs) (hT : U.heap = H) (hW : s.WarmedH U.vm) : g_U G U := by
  obtain ⟨a1, a2, a3, a4, a5, a6, a7, a8⟩ := hU
  refine ⟨va_K.moved hW.alike a1, by rw [hT]; exact vx_Zq.moved hW.alike (a2.kept hS.2.1), by rw [hT]; exact vx_Zq.moved hW.alike (a3.kept hS.2.1), ?_, ?_, ?_, va_AO.moved hW.alike a7, a8.1, a8.2.moved hS hT hW⟩
  · have key : ∀ w ∈ g_NW, va_Nw w s → va_Nw w U := by
      unfold g_NW
      refine List.forall_mem_cons.mpr ⟨va_Nw.warmC hW, ?_⟩
      refine List.forall_mem_cons.mpr ⟨va_Nw.warmC hW, ?_⟩
      refine List.forall_mem_cons.mpr ⟨va_Nw.warmC hW, ?_⟩
      refine List.forall_mem_cons.mpr ⟨va_Nw.warmC hW, ?_⟩
      refine List.forall_mem_cons.mpr ⟨va_Nw.warmD hW, ?_⟩
      refine List.forall_mem_cons.mpr ⟨va_Nw.warmD hW, ?_⟩
      refine List.forall_mem_cons.mpr ⟨va_Nw.warmD hW, ?_⟩
      refine List.forall_mem_cons.mpr ⟨va_Nw.warmF hW, ?_⟩
      refine List.forall_mem_cons.mpr ⟨va_Nw.warmF hW, ?_⟩
      refine List.forall_mem_cons.mpr ⟨va_Nw.warmM hW, ?_⟩
      refine List.forall_mem_cons.mpr ⟨va_Nw.warmM hW, ?_⟩
      exact fun _ h => absurd h List.not_mem_nil
    exact fun w hw => key w hw (a4 w hw)
  · intro q hq
    obtain ⟨sa, h⟩ := a5 q hq
    exact ⟨sa, vk_R.warm hW h⟩
  · exact trivial
theorem g_Pc_blind (G : g_X) (av : List Value) (z : Option Nat) (h : g_hp) : FrameBlind (g_Pc G av z h) := by
  intro a U g mk q
  obtain ⟨q0, qH, qU⟩ := q
  exact ⟨q0, qH, g_U_to (s := U) (U := U.calling g mk a) (locs := []) qU va_S.rf rfl (State.WarmedH.refl U)⟩
theorem g_lk_mem {j : Nat} {v : Value} : ∀ {L : List (Nat × Value)}, g_lk j L = some v → (j, v) ∈ L
  | [], h => by cases h
  | (i, w) :: t, h => by
    unfold g_lk at h
    by_cases c1 : i = j
    · rw [g_nb.mpr c1, cond_true] at h
      cases h
      subst c1
      exact List.mem_cons_self
    · have e1 : Nat.beq i j = false := Bool.eq_false_iff.mpr (fun q => c1 (g_nb.mp q))
      rw [e1, cond_false] at h
      cases e2 : Nat.beq i (j + 1) with
      | true =>
        rw [e2, cond_true] at h
        cases hL : g_lk j t with
        | none => rw [hL] at h; cases h
        | some w' =>
          rw [hL] at h
          cases e3 : Nat.beq w'.category 2 with
          | true => simp only [e3, cond_true] at h; cases h
          | false =>
            simp only [e3, cond_false] at h
            cases h
            exact List.mem_cons_of_mem _ (g_lk_mem hL)
      | false =>
        rw [e2, cond_false] at h
        cases e4 : (Nat.beq (i + 1) j && Nat.beq w.category 2) with
        | true => rw [e4, cond_true] at h; cases h
        | false =>
          rw [e4, cond_false] at h
          exact List.mem_cons_of_mem _ (g_lk_mem h)
theorem g_L.entry (av : List Value) {n : Nat} (h : (lg_sl av).length ≤ n) : g_L ((lg_sl av ++ List.replicate (n - (lg_sl av).length) Slot.unset).toArray) n (lv_args 0 av) := by
  have hl := lv_entry av (n := n) h
  exact ⟨hl.1, hl.2.1, fun j v q => hl.2.2 (j, v) (g_lk_mem q)⟩
/-- a body that comes to its end keeps the contract -/
theorem run_of {G : g_X} {M : g_M} {av : List Value} {z : Option Nat} {h : g_hp} {mc ms : Nat} {Z : g_Z} (hn : M.2.2.2.2.2 = none) (hp : plainName M.1.cls = true) (hs : Nat.ble (lg_sl av).length M.2.2.1 = true)
    (body : Ev (g_B G M mc ms Z) 0 0 z h 0 (lv_args 0 av) []) : Run G M av z h mc ms Z := by
  unfold Run
  refine vx_ofW (ws' := GW) (cc := M.2.1) (maxL := M.2.2.1) (ret := M.2.2.2.1) hp (by unfold g_ws g_wc; rw [hn]) ?_
  intro p e s m args below meth c s₁ B hml ht hv
  obtain ⟨rfl, hH, hU⟩ := hv
  have hts := atoms_spec (ws := g_ws M) B.pre
  rw [lg_entry_eq]
  exact body p e s m av.toArray below meth c s.heap [] _ ⟨B.exec, B.bytes, hml, B.returns, B.notSynchronized, findClass_of_methodNamed B.named, fun w hw => hts w (List.mem_cons_of_mem _ hw), hU, (name_of_methodNamed B.named B.method).1, by rw [hn]; exact List.eq_nil_iff_forall_not_mem.mpr ht⟩ va_S.rf hH hH.1 (g_L.entry av (Nat.le_of_ble_eq_true hs))
theorem run_ofH {G : g_X} {M : g_M} {hh : List (Nat × Nat × Nat × Nat)} {av : List Value} {z : Option Nat} {h : g_hp} {mc ms : Nat} {Z : g_Z} (hn : M.2.2.2.2.2 = some hh) (hp : plainName M.1.cls = true) (hs : Nat.ble (lg_sl av).length M.2.2.1 = true)
    (body : Ev (g_B G M mc ms Z) 0 0 z h 0 (lv_args 0 av) []) : Run G M av z h mc ms Z := by
  unfold Run
  have hw : g_wc M = Cond.codeWith M.1 M.2.1 M.2.2.1 M.2.2.2.1 hh := by unfold g_wc; rw [hn]
  refine vx_ofWH (ws' := GW) (cc := M.2.1) (maxL := M.2.2.1) (ret := M.2.2.2.1) (hh := hh) hp (by unfold g_ws; rw [hw]) ?_
  intro p e s m args below meth c s₁ B hml hv
  obtain ⟨rfl, hH, hU⟩ := hv
  have hts := atoms_spec (ws := g_ws M) B.pre
  have hcw := hts (g_wc M) List.mem_cons_self
  rw [hw] at hcw
  rw [lg_entry_eq]
  exact body p e s m av.toArray below meth c s.heap [] _ ⟨B.exec, B.bytes, hml, B.returns, B.notSynchronized, findClass_of_methodNamed B.named, fun w hw => hts w (List.mem_cons_of_mem _ hw), hU, (name_of_methodNamed B.named B.method).1, by rw [hn]; exact vx_table (x := M.1) B hcw⟩ va_S.rf hH hH.1 (g_L.entry av (Nat.le_of_ble_eq_true hs))
end GCTX
section GENDS
variable {G : g_X} {M : g_M} {mc ms : Nat} {Z : g_Z} {k n : Nat} {z : Option Nat} {h : g_hp} {pc : Nat} {L : List (Nat × Value)} {st : List Value}

theorem e_iret {x : Int32} (hr : M.2.2.2.1 = some .int) (hd : decode M.2.1 pc = .ok (.ireturn, 1)) (h1 : k ≤ mc) (h2 : n ≤ ms) (hZ : Z (.inl (some (.int x))) z h) : Ev (g_B G M mc ms Z) k n z h pc L [.int x] := by
  intro p e s m args below meth c H locs ls hC hS hH hb hl
  refine W.widen h1 h2 (vx_ret ?_)
  exact W.iret hC.1 hC.2.1 (hC.2.2.2.1.trans hr) (fun t ht hW => ⟨⟨_, z, h, rfl, hZ, by rw [ht]; exact hH⟩, hS.F ht⟩) hS.2.2 hd hC.2.2.2.2.1
theorem e_zret {x : Int32} (hr : M.2.2.2.1 = some .boolean) (hx : x = 0 ∨ x = 1) (hd : decode M.2.1 pc = .ok (.ireturn, 1)) (h1 : k ≤ mc) (h2 : n ≤ ms) (hZ : Z (.inl (some (.int x))) z h) : Ev (g_B G M mc ms Z) k n z h pc L [.int x] := by
  intro p e s m args below meth c H locs ls hC hS hH hb hl
  refine W.widen h1 h2 (vx_ret ?_)
  exact W.zret hC.1 hC.2.1 (hC.2.2.2.1.trans hr) (by rcases hx with rfl | rfl <;> rfl) (fun t ht hW => ⟨⟨_, z, h, rfl, hZ, by rw [ht]; exact hH⟩, hS.F ht⟩) hS.2.2 hd hC.2.2.2.2.1
theorem e_lret {x : Int64} (hr : M.2.2.2.1 = some .long) (hd : decode M.2.1 pc = .ok (.lreturn, 1)) (h1 : k ≤ mc) (h2 : n ≤ ms) (hZ : Z (.inl (some (.long x))) z h) : Ev (g_B G M mc ms Z) k n z h pc L [.long x] := by
  intro p e s m args below meth c H locs ls hC hS hH hb hl
  refine W.widen h1 h2 (vx_ret ?_)
  exact W.lret hC.1 hC.2.1 (hC.2.2.2.1.trans hr) (fun t ht hW => ⟨⟨_, z, h, rfl, hZ, by rw [ht]; exact hH⟩, hS.F ht⟩) hS.2.2 hd hC.2.2.2.2.1
theorem e_fret {x : UInt32} (hr : M.2.2.2.1 = some .float) (hd : decode M.2.1 pc = .ok (.freturn, 1)) (h1 : k ≤ mc) (h2 : n ≤ ms) (hZ : Z (.inl (some (.float x))) z h) : Ev (g_B G M mc ms Z) k n z h pc L [.float x] := by
  intro p e s m args below meth c H locs ls hC hS hH hb hl
  refine W.widen h1 h2 (vx_ret ?_)
  exact W.fret hC.1 hC.2.1 (hC.2.2.2.1.trans hr) (fun t ht hW => ⟨⟨_, z, h, rfl, hZ, by rw [ht]; exact hH⟩, hS.F ht⟩) hS.2.2 hd hC.2.2.2.2.1
theorem e_dret {x : UInt64} (hr : M.2.2.2.1 = some .double) (hd : decode M.2.1 pc = .ok (.dreturn, 1)) (h1 : k ≤ mc) (h2 : n ≤ ms) (hZ : Z (.inl (some (.double x))) z h) : Ev (g_B G M mc ms Z) k n z h pc L [.double x] := by
  intro p e s m args below meth c H locs ls hC hS hH hb hl
  refine W.widen h1 h2 (vx_ret ?_)
  exact W.dret hC.1 hC.2.1 (hC.2.2.2.1.trans hr) (fun t ht hW => ⟨⟨_, z, h, rfl, hZ, by rw [ht]; exact hH⟩, hS.F ht⟩) hS.2.2 hd hC.2.2.2.2.1
theorem e_aret {x : Nat} {cn : String} (hr : M.2.2.2.1 = some (.object cn)) (hd : decode M.2.1 pc = .ok (.areturn, 1)) (h1 : k ≤ mc) (h2 : n ≤ ms) (hZ : Z (.inl (some (.ref x))) z h) : Ev (g_B G M mc ms Z) k n z h pc L [.ref x] := by
  intro p e s m args below meth c H locs ls hC hS hH hb hl
  refine W.widen h1 h2 (vx_ret ?_)
  exact W.aret hC.1 hC.2.1 (hC.2.2.2.1.trans hr) (Or.inl ⟨cn, rfl⟩) (Or.inr ⟨x, rfl⟩) (fun t ht hW => ⟨⟨_, z, h, rfl, hZ, by rw [ht]; exact hH⟩, hS.F ht⟩) hS.2.2 hd hC.2.2.2.2.1
theorem e_vret (hr : M.2.2.2.1 = none) (hd : decode M.2.1 pc = .ok (.return_, 1)) (h1 : k ≤ mc) (h2 : n ≤ ms) (hZ : Z (.inl none) z h) : Ev (g_B G M mc ms Z) k n z h pc L [] := by
  intro p e s m args below meth c H locs ls hC hS hH hb hl
  refine W.widen h1 h2 (vx_ret ?_)
  exact W.vret hC.1 hC.2.1 (hC.2.2.2.1.trans hr) (fun t ht hW => ⟨⟨_, z, h, rfl, hZ, by rw [ht]; exact hH⟩, hS.F ht⟩) hS.2.2 hd hC.2.2.2.2.1
/-- what a throw of a class with a text needs of the tables -/
def g_TS (ik ic : Nat) (cls : String) : Prop := Bundle.fit cls = true ∧ Cond.classLink RX7 ik cls ∈ GW ∧ Cond.initialized cls ∈ GW ∧ (∀ w ∈ (vx_atS RX7 ic cls ["java/lang/RuntimeException", "java/lang/Exception"]).filter goodWord, w ∈ GW) ∧ (∀ w ∈ (vx_atS RX7 ic cls ["java/lang/RuntimeException", "java/lang/Exception"]).filter (fun w => !goodWord w), w ∈ g_NW) ∧ (∀ w ∈ Cond.classLink RX7 ik cls :: Cond.initialized cls :: vx_atS RX7 ic cls ["java/lang/RuntimeException", "java/lang/Exception"], vx_ot w = true)
theorem g_NWt : ∀ w ∈ g_NW, w.onTables = true ∨ ∃ a b, w = .castable a b := by
  unfold g_NW
  refine List.forall_mem_cons.mpr ⟨Or.inr ⟨_, _, rfl⟩, ?_⟩
  refine List.forall_mem_cons.mpr ⟨Or.inr ⟨_, _, rfl⟩, ?_⟩
  refine List.forall_mem_cons.mpr ⟨Or.inr ⟨_, _, rfl⟩, ?_⟩
  refine List.forall_mem_cons.mpr ⟨Or.inr ⟨_, _, rfl⟩, ?_⟩
  refine List.forall_mem_cons.mpr ⟨Or.inl rfl, ?_⟩
  refine List.forall_mem_cons.mpr ⟨Or.inl rfl, ?_⟩
  refine List.forall_mem_cons.mpr ⟨Or.inl rfl, ?_⟩
  refine List.forall_mem_cons.mpr ⟨Or.inl rfl, ?_⟩
  refine List.forall_mem_cons.mpr ⟨Or.inl rfl, ?_⟩
  refine List.forall_mem_cons.mpr ⟨Or.inl rfl, ?_⟩
  refine List.forall_mem_cons.mpr ⟨Or.inl rfl, ?_⟩
  exact fun _ h => absurd h List.not_mem_nil
theorem g_NWuse {w : Cond} (hw : w ∈ g_NW) {A : Array Value} {U : State} (h : va_Nw w U) : w.before A U = true := by
  rcases g_NWt w hw with h1 | ⟨a, b, rfl⟩
  · exact va_Nw.use h1 h
  · first | exact va_Nw.use rfl h | exact h

def g_TN (ik ic : Nat) (cls : String) : Prop := Bundle.fit cls = true ∧ Cond.classLink RX7 ik cls ∈ GW ∧ Cond.initialized cls ∈ GW ∧ (∀ w ∈ (x_at RX7 ic cls ["java/lang/RuntimeException", "java/lang/Exception"]).filter goodWord, w ∈ GW) ∧ (∀ w ∈ (x_at RX7 ic cls ["java/lang/RuntimeException", "java/lang/Exception"]).filter (fun w => !goodWord w), w ∈ g_NW) ∧ (∀ w ∈ Cond.classLink RX7 ik cls :: Cond.initialized cls :: x_at RX7 ic cls ["java/lang/RuntimeException", "java/lang/Exception"], vx_ot w = true)
theorem e_throw {cls text : String} {ik ic is : Nat} (hM : M.1.cls = RX7) (hn : M.2.2.2.2.2 = none) (hT : g_TS ik ic cls) (hs : (is, text) ∈ g_strs) (d0 : decode M.2.1 pc = .ok (.new ik, 3)) (d3 : decode M.2.1 (pc + 3) = .ok (.dup, 1)) (d4 : decode M.2.1 (pc + 4) = .ok (.ldc is, 2)) (d6 : decode M.2.1 (pc + 6) = .ok (.invokespecial ic, 3)) (d9 : decode M.2.1 (pc + 9) = .ok (.athrow, 1))
    (hf : Nat.ble 6 M.2.2.2.2.1.1 = true) (hlo : Nat.ble ((st.map fun v => v.category).sum + 82) M.2.2.2.2.1.2 = true) (h1 : k + 1 ≤ mc) (h2 : n + 6 ≤ ms) (hZ : Z (.inr cls) none h) : Ev (g_B G M mc ms Z) k n z h pc L st := by
  intro p e s m args below meth c H locs ls hC hS hH hb hl
  obtain ⟨t1, t2, t3, t4, t5, t6⟩ := hT
  obtain ⟨a1, a2, a3, a4, a5, a6, a7, a8⟩ := id hC.2.2.2.2.2.2.2.1
  obtain ⟨sa, hstr⟩ := a5 _ hs
  have hts := hC.2.2.2.2.2.2.1
  have hown : s.vm.findClass RX7 = some m.cls := hM ▸ hC.2.2.2.2.2.1
  have htab : c.exceptionTable.toList = [] := by
    have h9 := hC.2.2.2.2.2.2.2.2.2
    rw [show (g_B G M mc ms Z).2.1.2.2.2.2.2 = none from hn] at h9
    exact h9
  refine vx_throwS (names := ["java/lang/RuntimeException", "java/lang/Exception"]) (text := text) (A := g_A G) hC.1 hC.2.1 a8.1 hown t1 (by decide +kernel) (hts _ t2) (hts _ t3) hstr
    (vx_hat (B := g_NW) (fun w hw => hts w (t4 w hw)) t5 (fun w hw => g_NWuse hw (a4 w hw))) t6 a2 a3 hS (hl.1.trans hC.2.2.1.symm) d0 d3 d4 d6 d9 (by rw [htab]; exact fun _ h => absurd h List.not_mem_nil) ?_ ?_ h1 h2 hC.2.2.2.2.1 ?_ hS.2.2 h1 h2
  · have := Nat.le_of_ble_eq_true hf
    show 2 + 3 < M.2.2.2.2.1.1
    omega
  · have := Nat.le_of_ble_eq_true hlo
    show _ + (13 * (2 + 1) + 43) ≤ M.2.2.2.2.1.2
    omega
  · intro t hal hz hk
    refine ⟨⟨none, h, hZ, Nat.le_trans hH.1 hz, (fun _ e => (by cases e)), fun a f hq => ⟨(hH.2.2 a f hq).1, ?_⟩⟩, Nat.le_trans hS.1 hz, fun q q1 q2 => ?_⟩
    · exact (hH.2.2 a f hq).2.kept (hk a (hH.2.2 a f hq).2.lt)
    · rw [hk q (Nat.lt_of_lt_of_le q1 hS.1)]
      exact hS.2.1 q q1 q2
theorem e_throwW {cls text : String} {ik ic is : Nat} (hM : M.1.cls = RX7) (hn : M.2.2.2.2.2 = none) (hT : g_TS ik ic cls) (hs : (is, text) ∈ g_strs) (d0 : decode M.2.1 pc = .ok (.new ik, 3)) (d3 : decode M.2.1 (pc + 3) = .ok (.dup, 1)) (d4 : decode M.2.1 (pc + 4) = .ok (.ldc_w is, 3)) (d6 : decode M.2.1 (pc + 7) = .ok (.invokespecial ic, 3)) (d9 : decode M.2.1 (pc + 10) = .ok (.athrow, 1))
    (hf : Nat.ble 6 M.2.2.2.2.1.1 = true) (hlo : Nat.ble ((st.map fun v => v.category).sum + 82) M.2.2.2.2.1.2 = true) (h1 : k + 1 ≤ mc) (h2 : n + 6 ≤ ms) (hZ : Z (.inr cls) none h) : Ev (g_B G M mc ms Z) k n z h pc L st := by
  intro p e s m args below meth c H locs ls hC hS hH hb hl
  obtain ⟨t1, t2, t3, t4, t5, t6⟩ := hT
  obtain ⟨a1, a2, a3, a4, a5, a6, a7, a8⟩ := id hC.2.2.2.2.2.2.2.1
  obtain ⟨sa, hstr⟩ := a5 _ hs
  have hts := hC.2.2.2.2.2.2.1
  have hown : s.vm.findClass RX7 = some m.cls := hM ▸ hC.2.2.2.2.2.1
  have htab : c.exceptionTable.toList = [] := by
    have h9 := hC.2.2.2.2.2.2.2.2.2
    rw [show (g_B G M mc ms Z).2.1.2.2.2.2.2 = none from hn] at h9
    exact h9
  refine vx_throwSW (names := ["java/lang/RuntimeException", "java/lang/Exception"]) (text := text) (A := g_A G) hC.1 hC.2.1 a8.1 hown t1 (by decide +kernel) (hts _ t2) (hts _ t3) hstr
    (vx_hat (B := g_NW) (fun w hw => hts w (t4 w hw)) t5 (fun w hw => g_NWuse hw (a4 w hw))) t6 a2 a3 hS (hl.1.trans hC.2.2.1.symm) d0 d3 d4 d6 d9 (by rw [htab]; exact fun _ h => absurd h List.not_mem_nil) ?_ ?_ h1 h2 hC.2.2.2.2.1 ?_ hS.2.2 h1 h2
  · have := Nat.le_of_ble_eq_true hf
    show 2 + 3 < M.2.2.2.2.1.1
    omega
  · have := Nat.le_of_ble_eq_true hlo
    show _ + (13 * (2 + 1) + 43) ≤ M.2.2.2.2.1.2
    omega
  · intro t hal hz hk
    refine ⟨⟨none, h, hZ, Nat.le_trans hH.1 hz, (fun _ e => (by cases e)), fun a f hq => ⟨(hH.2.2 a f hq).1, ?_⟩⟩, Nat.le_trans hS.1 hz, fun q q1 q2 => ?_⟩
    · exact (hH.2.2 a f hq).2.kept (hk a (hH.2.2 a f hq).2.lt)
    · rw [hk q (Nat.lt_of_lt_of_le q1 hS.1)]
      exact hS.2.1 q q1 q2
theorem e_throwN {cls text : String} {ik ic is : Nat} (hM : M.1.cls = RX7) (hn : M.2.2.2.2.2 = none) (hT : g_TN ik ic cls) (hs : (is, text) ∈ g_strs) (d0 : decode M.2.1 pc = .ok (.new ik, 3)) (d3 : decode M.2.1 (pc + 3) = .ok (.dup, 1)) (d4 : decode M.2.1 (pc + 4) = .ok (.ldc is, 2)) (d6 : decode M.2.1 (pc + 6) = .ok (.invokespecial ic, 3)) (d9 : decode M.2.1 (pc + 9) = .ok (.athrow, 1))
    (hf : Nat.ble 6 M.2.2.2.2.1.1 = true) (hlo : Nat.ble ((st.map fun v => v.category).sum + 82) M.2.2.2.2.1.2 = true) (h1 : k + 1 ≤ mc) (h2 : n + 6 ≤ ms) (hZ : Z (.inr cls) none h) : Ev (g_B G M mc ms Z) k n z h pc L st := by
  intro p e s m args below meth c H locs ls hC hS hH hb hl
  obtain ⟨t1, t2, t3, t4, t5, t6⟩ := hT
  obtain ⟨a1, a2, a3, a4, a5, a6, a7, a8⟩ := id hC.2.2.2.2.2.2.2.1
  obtain ⟨sa, hstr⟩ := a5 _ hs
  have hts := hC.2.2.2.2.2.2.1
  have hown : s.vm.findClass RX7 = some m.cls := hM ▸ hC.2.2.2.2.2.1
  have htab : c.exceptionTable.toList = [] := by
    have h9 := hC.2.2.2.2.2.2.2.2.2
    rw [show (g_B G M mc ms Z).2.1.2.2.2.2.2 = none from hn] at h9
    exact h9
  refine x_throw (names := ["java/lang/RuntimeException", "java/lang/Exception"]) (text := text) (A := g_A G) hC.1 hC.2.1 a8.1 hown t1 (by decide +kernel) (hts _ t2) (hts _ t3) hstr
    (vx_hat (B := g_NW) (fun w hw => hts w (t4 w hw)) t5 (fun w hw => g_NWuse hw (a4 w hw))) t6 a2 a3 hS (hl.1.trans hC.2.2.1.symm) d0 d3 d4 d6 d9 (by rw [htab]; exact fun _ h => absurd h List.not_mem_nil) ?_ ?_ h1 h2 hC.2.2.2.2.1 ?_ hS.2.2 (fun q w => Nat.le_trans hb w) h1 h2
  · have := Nat.le_of_ble_eq_true hf
    show 2 + 3 < M.2.2.2.2.1.1
    omega
  · have := Nat.le_of_ble_eq_true hlo
    show _ + (13 * (2 + 1) + 43) ≤ M.2.2.2.2.1.2
    omega
  · intro t hal hz hk
    refine ⟨⟨none, h, hZ, Nat.le_trans hH.1 hz, (fun _ e => (by cases e)), fun a f hq => ⟨(hH.2.2 a f hq).1, ?_⟩⟩, Nat.le_trans hS.1 hz, fun q q1 q2 => ?_⟩
    · exact (hH.2.2 a f hq).2.kept (hk a (hH.2.2 a f hq).2.lt)
    · rw [hk q (Nat.lt_of_lt_of_le q1 hS.1)]
      exact hS.2.1 q q1 q2
theorem e_throwNW {cls text : String} {ik ic is : Nat} (hM : M.1.cls = RX7) (hn : M.2.2.2.2.2 = none) (hT : g_TN ik ic cls) (hs : (is, text) ∈ g_strs) (d0 : decode M.2.1 pc = .ok (.new ik, 3)) (d3 : decode M.2.1 (pc + 3) = .ok (.dup, 1)) (d4 : decode M.2.1 (pc + 4) = .ok (.ldc_w is, 3)) (d6 : decode M.2.1 (pc + 7) = .ok (.invokespecial ic, 3)) (d9 : decode M.2.1 (pc + 10) = .ok (.athrow, 1))
    (hf : Nat.ble 6 M.2.2.2.2.1.1 = true) (hlo : Nat.ble ((st.map fun v => v.category).sum + 82) M.2.2.2.2.1.2 = true) (h1 : k + 1 ≤ mc) (h2 : n + 6 ≤ ms) (hZ : Z (.inr cls) none h) : Ev (g_B G M mc ms Z) k n z h pc L st := by
  intro p e s m args below meth c H locs ls hC hS hH hb hl
  obtain ⟨t1, t2, t3, t4, t5, t6⟩ := hT
  obtain ⟨a1, a2, a3, a4, a5, a6, a7, a8⟩ := id hC.2.2.2.2.2.2.2.1
  obtain ⟨sa, hstr⟩ := a5 _ hs
  have hts := hC.2.2.2.2.2.2.1
  have hown : s.vm.findClass RX7 = some m.cls := hM ▸ hC.2.2.2.2.2.1
  have htab : c.exceptionTable.toList = [] := by
    have h9 := hC.2.2.2.2.2.2.2.2.2
    rw [show (g_B G M mc ms Z).2.1.2.2.2.2.2 = none from hn] at h9
    exact h9
  refine x_throwW (names := ["java/lang/RuntimeException", "java/lang/Exception"]) (text := text) (A := g_A G) hC.1 hC.2.1 a8.1 hown t1 (by decide +kernel) (hts _ t2) (hts _ t3) hstr
    (vx_hat (B := g_NW) (fun w hw => hts w (t4 w hw)) t5 (fun w hw => g_NWuse hw (a4 w hw))) t6 a2 a3 hS (hl.1.trans hC.2.2.1.symm) d0 d3 d4 d6 d9 (by rw [htab]; exact fun _ h => absurd h List.not_mem_nil) ?_ ?_ h1 h2 hC.2.2.2.2.1 ?_ hS.2.2 (fun q w => Nat.le_trans hb w) h1 h2
  · have := Nat.le_of_ble_eq_true hf
    show 2 + 3 < M.2.2.2.2.1.1
    omega
  · have := Nat.le_of_ble_eq_true hlo
    show _ + (13 * (2 + 1) + 43) ≤ M.2.2.2.2.1.2
    omega
  · intro t hal hz hk
    refine ⟨⟨none, h, hZ, Nat.le_trans hH.1 hz, (fun _ e => (by cases e)), fun a f hq => ⟨(hH.2.2 a f hq).1, ?_⟩⟩, Nat.le_trans hS.1 hz, fun q q1 q2 => ?_⟩
    · exact (hH.2.2 a f hq).2.kept (hk a (hH.2.2 a f hq).2.lt)
    · rw [hk q (Nat.lt_of_lt_of_le q1 hS.1)]
      exact hS.2.1 q q1 q2
/-- an exception of class E stands over the body -/
def EvX (C : g_E) (k n : Nat) (z : Option Nat) (h : g_hp) (pc : Nat) (L : List (Nat × Value)) (E : String) : Prop :=
  ∀ (p : Program) (e : Env) (s : State) (m : MethodId) (args : Array Value) (below : List Frame) (meth : Method) (c : Code) (H : Heap) (locs : List Loc) (ls : Array Slot) (rest : List Value) (q : Addr) (ce : Cell),
    g_C C.1 C.2.1 p e s m args meth c → va_S (g_A C.1) s.heap H locs → g_H C.1 z h H → C.1.2.2.2 ≤ s.heap.size → g_L ls C.2.1.2.2.1 L → H[q]? = some ce → ce.vm = .none → s.vm.findClass E = some ce.cls →
    vx_W p C.1.1 e C.2.2.1 s m args below meth c H locs k n (C.2.2.2 below args s) (F0 m pc ls rest) q
theorem ex_out {E : String} (hn : M.2.2.2.2.2 = none) (h1 : k ≤ mc) (h2 : n ≤ ms) (hZ : Z (.inr E) z h) : EvX (g_B G M mc ms Z) k n z h pc L E := by
  intro p e s m args below meth c H locs ls rest q ce hC hS hH hb hl hce hcv hcl
  have htab : c.exceptionTable.toList = [] := by
    have h9 := hC.2.2.2.2.2.2.2.2.2
    rw [show (g_B G M mc ms Z).2.1.2.2.2.2.2 = none from hn] at h9
    exact h9
  exact vx_out (by rw [htab]; exact fun _ h => absurd h List.not_mem_nil) hC.2.2.2.2.1 hce hcv hcl (fun t ht _ => ⟨⟨z, h, hZ, by rw [ht]; exact hH⟩, hS.F ht⟩) hS.2.2 h1 h2
end GENDS
section GCATCH
variable {C : g_E} {k n : Nat} {z : Option Nat} {h : g_hp} {pc : Nat} {L : List (Nat × Value)}
end GCATCH
section GHEAP
variable {C : g_E} {k n : Nat} {z : Option Nat} {h : g_hp} {pc : Nat} {L : List (Nat × Value)} {st : List Value}
/-- a class of the worlds: its fields' words are at hand -/
def g_K (ci : Nat) (Cn : String) (T : u_T) (N : Nat) (ty : Nat → FieldType) : Prop := vwCl[ci]? = some (Cn, T, N) ∧ (∀ w ∈ u_ws Cn T N, w ∈ GW) ∧ (∀ k, k < N → parseFieldDescriptor (T k).2.2.1 = some (ty k)) ∧ (∀ a, a < N → ∀ b, b < N → a ≠ b → (T a).2.1 ≠ (T b).2.1)
def g_F (own : String) (idx ci f : Nat) : Prop := ∃ Cn T N ty, g_K ci Cn T N ty ∧ f < N ∧ Cond.fieldLink own idx (T f).1 (T f).2.1 (T f).2.2.1 ∈ GW
def g_FN (own : String) (idx ci f : Nat) : Prop := ∃ Cn T N ty host, g_K ci Cn T N ty ∧ f < N ∧ Cond.fieldLinkNest own idx (T f).1 (T f).2.1 (T f).2.2.1 host ∈ g_NW
/-- .. and may be written: its type -/
def g_FP (own : String) (idx ci f : Nat) (t : FieldType) (fin : Bool) : Prop := ∃ Cn T N ty, g_K ci Cn T N ty ∧ f < N ∧ Cond.fieldLink own idx (T f).1 (T f).2.1 (T f).2.2.1 ∈ GW ∧ (T f).2.2.2 = fin ∧ parseFieldDescriptor (T f).2.2.1 = some t ∧ (T f).1 = own
theorem e_getf {idx ci f a : Nat} {fs : List Value} {v : Value} (hF : g_F C.2.1.1.cls idx ci f) (ha : h a = some (.inr (ci, fs))) (hv : fs[f]? = some v) (hd : decode (g_cc C) pc = .ok (.getfield idx, 3)) (kk : Ev C k n z h (pc + 3) L (v :: st)) : Ev C k n z h pc L (.ref a :: st) := by
  intro p e s m args below meth c H locs ls hC hS hH hb hl
  obtain ⟨Cn, T, N, ty, ⟨k1, k2, k3, k4⟩, hf, hlk⟩ := hF
  have hts := hC.2.2.2.2.2.2.1
  exact va_get (D := C.1.2.1) (cl := vwCl) (ci := ci) (T := T) (N := N) (C := Cn) (Ts := GW) hC.1 hC.2.1 hts k2 hC.2.2.2.2.2.1 hC.2.2.2.2.2.2.2.1.1 (hH.one ha) 0 rfl k1 f hf (hts _ hlk) (fun _ h9 => h9) hv hd (kk p e s m args below meth c H locs ls hC hS hH hb hl)
theorem e_getfN {idx ci f a : Nat} {fs : List Value} {v : Value} (hF : g_FN C.2.1.1.cls idx ci f) (ha : h a = some (.inr (ci, fs))) (hv : fs[f]? = some v) (hd : decode (g_cc C) pc = .ok (.getfield idx, 3)) (kk : Ev C k n z h (pc + 3) L (v :: st)) : Ev C k n z h pc L (.ref a :: st) := by
  intro p e s m args below meth c H locs ls hC hS hH hb hl
  obtain ⟨Cn, T, N, ty, host, ⟨k1, k2, k3, k4⟩, hf, hlk⟩ := hF
  have hts := hC.2.2.2.2.2.2.1
  exact va_getN (D := C.1.2.1) (cl := vwCl) (ci := ci) (T := T) (N := N) (C := Cn) (Ts := GW) (host := host) hC.1 hC.2.1 hts k2 hC.2.2.2.2.2.1 hC.2.2.2.2.2.2.2.1.1 (hH.one ha) 0 rfl k1 f hf (g_NWuse hlk (hC.2.2.2.2.2.2.2.1.2.2.2.1 _ hlk)) (fun _ h9 => h9) hv hd (kk p e s m args below meth c H locs ls hC hS hH hb hl)
theorem e_putf {idx ci f a : Nat} {fs : List Value} {v : Value} {t : FieldType} (hF : g_FP C.2.1.1.cls idx ci f t false) (ha : h a = some (.inr (ci, fs))) (hn : narrow t v = v) (hfit : fits t v = true) (hlen : Nat.ble (f + 1) fs.length = true) (hd : decode (g_cc C) pc = .ok (.putfield idx, 3)) (kk : Ev C k n z (g_up h a (.inr (ci, fs.set f v))) (pc + 3) L st) : Ev C k n z h pc L (v :: .ref a :: st) := by
  intro p e s m args below meth c H locs ls hC hS hH hb hl
  obtain ⟨Cn, T, N, ty, ⟨k1, k2, k3, k4⟩, hf, hlk, hfin, hty, hown9⟩ := hF
  have hts := hC.2.2.2.2.2.2.1
  have hK := hC.2.2.2.2.2.2.2.1.1
  have hap := va_apart (D := C.1.2.1) (own := C.2.1.1.cls) hts k2 ty k3 k4 hK k1
  obtain ⟨hba, r, h1, cell, q1, q2, q3, q4⟩ := hH.2.2 a _ ha
  have hr : r = (Cn, T, N) := Option.some.inj (h1.symm.trans k1)
  subst hr
  obtain ⟨hS9, hfc, kC, hkC, hkind⟩ := hK.1 ci _ k1
  obtain ⟨cf, kf, fi, fd, hi, hsl⟩ := hS9 f hf
  have hlay := hts _ (k2 _ (u_in_lay hf))
  unfold u_lay at hlay
  rw [if_neg (by rw [hfin]; decide)] at hlay
  have hst := (u_facts hfc hkC (u_lays hts k2 hf) hi).1
  have h6 := u_store hfc hkC hkind hlay hi hty hn hfit
  refine W.putK hC.1 hC.2.1 (f := fd) ⟨hC.2.2.2.2.2.1, hts _ hlk, ⟨_, _, _, hi⟩, hst⟩ (by rw [q2]; exact h6) q1 q3 (by rw [hsl]; exact k2_hasslot (q4 f hf)) rfl rfl hd fun H' e1 e2 e3 => ?_
  rw [hsl] at e1 ⊢
  exact kk p e s m args below meth c H' _ ls hC (hS.put e2 e3 hba) (hH.set ha ⟨_, k1, t_OB.to (V := updV (vp_V fs) f v) ⟨_, e1, q2, q3, t_set q4 hap hf v⟩ (fun j _ => vp_updV_set (Nat.le_of_ble_eq_true hlen) v j)⟩ e2 e3) hb hl
theorem e_putF {idx ci f a : Nat} {fs : List Value} {v : Value} {t : FieldType} (hF : g_FP C.2.1.1.cls idx ci f t true) (hin : C.2.1.1.name = "<init>") (ha : h a = some (.inr (ci, fs))) (hn : narrow t v = v) (hfit : fits t v = true) (hlen : Nat.ble (f + 1) fs.length = true) (hd : decode (g_cc C) pc = .ok (.putfield idx, 3)) (kk : Ev C k n z (g_up h a (.inr (ci, fs.set f v))) (pc + 3) L st) : Ev C k n z h pc L (v :: .ref a :: st) := by
  intro p e s m args below meth c H locs ls hC hS hH hb hl
  obtain ⟨Cn, T, N, ty, ⟨k1, k2, k3, k4⟩, hf, hlk, hfin, hty, hown9⟩ := hF
  have hts := hC.2.2.2.2.2.2.1
  have hK := hC.2.2.2.2.2.2.2.1.1
  have hap := va_apart (D := C.1.2.1) (own := C.2.1.1.cls) hts k2 ty k3 k4 hK k1
  obtain ⟨hba, r, h1, cell, q1, q2, q3, q4⟩ := hH.2.2 a _ ha
  have hr : r = (Cn, T, N) := Option.some.inj (h1.symm.trans k1)
  subst hr
  obtain ⟨hS9, hfc, kC, hkC, hkind⟩ := hK.1 ci _ k1
  obtain ⟨cf, kf, fi, fd, hi, hsl⟩ := hS9 f hf
  have hlay := hts _ (k2 _ (u_in_lay hf))
  unfold u_lay at hlay
  rw [if_pos hfin] at hlay
  have hst := (u_facts hfc hkC (u_lays hts k2 hf) hi).1
  have hcf : m.cls = cf := by
    obtain ⟨_, _, c', _, _, _, -, -, hf', -, -, -, hown2, -⟩ := Cond.laysFinal_spec hlay
    have e1 : c' = cf := by have := hi.symm.trans hf'; simp at this; exact this.1.symm
    rw [hown9] at hown2
    rw [← e1]; exact Option.some.inj (hC.2.2.2.2.2.1.symm.trans hown2)
  have h6 := u_fits hfc hkC hkind (Or.inr hlay) hi hty hn hfit
  refine W.putFinK hC.1 hC.2.1 hC.2.2.2.2.2.1 (hts _ hlk) hi hst hcf (hC.2.2.2.2.2.2.2.2.1.trans hin) (by rw [q2]; exact h6) q1 q3 (by rw [hsl]; exact k2_hasslot (q4 f hf)) rfl rfl hd fun H' e1 e2 e3 => ?_
  rw [hsl] at e1 ⊢
  exact kk p e s m args below meth c H' _ ls hC (hS.put e2 e3 hba) (hH.set ha ⟨_, k1, t_OB.to (V := updV (vp_V fs) f v) ⟨_, e1, q2, q3, t_set q4 hap hf v⟩ (fun j _ => vp_updV_set (Nat.le_of_ble_eq_true hlen) v j)⟩ e2 e3) hb hl

-- arrays
abbrev aI (G : g_X) (n : Nat) (g : Nat → Int) : va_E := .inl (G.2.2.1 0, n, .inl (fun j => iN (g j)))
abbrev aL (G : g_X) (n : Nat) (g : Nat → Int) : va_E := .inl (G.2.2.1 1, n, .inr (.inl (fun j => lI (g j))))
abbrev aD (G : g_X) (n : Nat) (g : Nat → UInt64) : va_E := .inl (G.2.2.1 2, n, .inr (.inr (.inr (.inl g))))
abbrev aZ (G : g_X) (n : Nat) (g : Nat → Int) : va_E := .inl (G.2.2.1 3, n, .inl (fun j => iN (g j)))
abbrev aQ (G : g_X) (n : Nat) (g : Nat → Option Nat) : va_E := .inl (G.2.2.1 4, n, .inr (.inr (.inr (.inr g))))
def uI (g : Nat → Int) (k : Nat) (x : Int) : Nat → Int := fun j => if j = k then x else g j
theorem uI_s (g : Nat → Int) (k : Nat) (x : Int) : uI g k x k = x := if_pos rfl
theorem uI_n (g : Nat → Int) {k j : Nat} (x : Int) (h : j ≠ k) : uI g k x j = g j := if_neg h
def uD (g : Nat → UInt64) (k : Nat) (x : UInt64) : Nat → UInt64 := fun j => if j = k then x else g j
theorem g_cell_i (cA : ClassId) (n : Nat) (g : Nat → Int) (k : Nat) (x : Int) : (vp_cell cA (n, .inl (fun j => iN (g j)))).setSlot k (.int (iN x)) = vp_cell cA (n, .inl (fun j => iN (uI g k x j))) := by
  rw [vp_cell_i, vp_cell_i, arrV_store]
  congr 1
  funext q
  by_cases hq : q = k
  · subst hq
    simp [updV, uI]
  · simp [updV, uI, hq]
theorem g_cell_l (cA : ClassId) (n : Nat) (g : Nat → Int) (k : Nat) (x : Int) : (vp_cell cA (n, .inr (.inl (fun j => lI (g j))))).setSlot k (.long (lI x)) = vp_cell cA (n, .inr (.inl (fun j => lI (uI g k x j)))) := by
  rw [vp_cell_l, vp_cell_l, arrV_store]
  congr 1
  funext q
  by_cases hq : q = k
  · subst hq
    simp [updV, uI]
  · simp [updV, uI, hq]
theorem g_cell_d (cA : ClassId) (n : Nat) (g : Nat → UInt64) (k : Nat) (x : UInt64) : (vp_cell cA (n, .inr (.inr (.inr (.inl g))))).setSlot k (.double x) = vp_cell cA (n, .inr (.inr (.inr (.inl (uD g k x))))) := by
  rw [vp_cell_d, vp_cell_d, arrV_store]
  congr 1
  funext q
  by_cases hq : q = k
  · subst hq
    simp [updV, uD]
  · simp [updV, uD, hq]
theorem g_cell_q (cA : ClassId) (n : Nat) (g : Nat → Option Nat) (k : Nat) (x : Nat) : (vp_cell cA (n, .inr (.inr (.inr (.inr g))))).setSlot k (.ref x) = vp_cell cA (n, .inr (.inr (.inr (.inr (va_up g k (some x)))))) := by
  rw [vp_cell_q, vp_cell_q, arrV_store]
  congr 1
  funext q
  by_cases hq : q = k
  · subst hq
    simp [updV, va_up, va_rf]
  · simp [updV, va_up, hq]
theorem e_iaload {a N : Nat} {g : Nat → Int} {i : Int} (ha : h a = some (aI C.1 N g)) (h0 : 0 ≤ i) (hN : i < N) (hb9 : Nat.ble N 2147483647 = true) (hd : decode (g_cc C) pc = .ok (.iaload, 1)) (kk : Ev C k n z h (pc + 1) L (.int (iN (g i.toNat)) :: st)) : Ev C k n z h pc L (.int (iN i) :: .ref a :: st) := by
  intro p e s m args below meth c H locs ls hC hS hH hb hl
  have hN9 := Nat.le_of_ble_eq_true hb9
  refine va_iald (D := C.1.2.1) (cl := vwCl) (tys := g_tys C.1) (ws := [(a, aI C.1 N g)]) hC.1 hC.2.1 hC.2.2.2.2.2.2.2.1.1 (hH.one ha) 0 0 rfl rfl (iN_in h0 hN hN9) hd ?_
  rw [iN_clamp h0 (by omega)]
  exact kk p e s m args below meth c H locs ls hC hS hH hb hl
theorem e_aaload {a N : Nat} {g : Nat → Option Nat} {i : Int} (ha : h a = some (aQ C.1 N g)) (h0 : 0 ≤ i) (hN : i < N) (hb9 : Nat.ble N 2147483647 = true) (hd : decode (g_cc C) pc = .ok (.aaload, 1)) (kk : Ev C k n z h (pc + 1) L (va_rf (g i.toNat) :: st)) : Ev C k n z h pc L (.int (iN i) :: .ref a :: st) := by
  intro p e s m args below meth c H locs ls hC hS hH hb hl
  have hN9 := Nat.le_of_ble_eq_true hb9
  refine va_aldq (D := C.1.2.1) (cl := vwCl) (tys := g_tys C.1) (ws := [(a, aQ C.1 N g)]) hC.1 hC.2.1 hC.2.2.2.2.2.2.2.1.1 (hH.one ha) 0 4 rfl rfl (iN_in h0 hN hN9) hd ?_
  rw [iN_clamp h0 (by omega)]
  exact kk p e s m args below meth c H locs ls hC hS hH hb hl
theorem e_iastore {a N : Nat} {g : Nat → Int} {i : Int} {x : Int} (ha : h a = some (aI C.1 N g)) (h0 : 0 ≤ i) (hN : i < N) (hb9 : Nat.ble N 2147483647 = true) (hd : decode (g_cc C) pc = .ok (.iastore, 1)) (kk : Ev C k n z (g_up h a (aI C.1 N (uI g i.toNat x))) (pc + 1) L st) : Ev C k n z h pc L (.int (iN x) :: .int (iN i) :: .ref a :: st) := by
  intro p e s m args below meth c H locs ls hC hS hH hb hl
  have hN9 := Nat.le_of_ble_eq_true hb9
  obtain ⟨hba, hat⟩ := hH.2.2 a _ ha
  refine W.iast hC.1 hC.2.1 hat ((hC.2.2.2.2.2.2.2.1.1.2 0 _ rfl).1 N _) (fun q => by cases q) (by show ¬ (_ ∨ (arrV _ _ _).slots.size ≤ _); rw [arrV_size]; exact iN_in h0 hN hN9) rfl rfl hd fun H1 e1 z1 o1 => ?_
  refine kk p e s m args below meth c H1 _ ls hC (hS.put z1 o1 hba) (hH.set ha ?_ z1 o1) hb hl
  show H1[a]? = some (vp_cell _ _)
  rw [e1, iN_clamp h0 (by omega)]
  exact congrArg some (g_cell_i _ N g _ x)
theorem e_alen {a N : Nat} {A0 : vp_A} {t : Nat} (ht : Nat.ble (t + 1) 5 = true) (ha : h a = some (.inl (C.1.2.2.1 t, A0))) (hA : ∀ cA, ∃ V, vp_cell cA A0 = arrV cA N V) (hd : decode (g_cc C) pc = .ok (.arraylength, 1)) (kk : Ev C k n z h (pc + 1) L (.int (iN N) :: st)) : Ev C k n z h pc L (.ref a :: st) := by
  intro p e s m args below meth c H locs ls hC hS hH hb hl
  obtain ⟨hba, hat⟩ := hH.2.2 a _ ha
  obtain ⟨V, hV⟩ := hA (C.1.2.2.1 t)
  have hat : H[a]? = some (vp_cell (C.1.2.2.1 t) A0) := hat
  rw [hV] at hat
  have hKt : ∃ ty, ArrOfT s (C.1.2.2.1 t) ty := by
    have h9 := hC.2.2.2.2.2.2.2.1.1.2
    have ht9 := Nat.le_of_ble_eq_true ht
    rcases (show t = 0 ∨ t = 1 ∨ t = 2 ∨ t = 3 ∨ t = 4 by omega) with rfl | rfl | rfl | rfl | rfl
    · exact ⟨_, (h9 0 _ rfl).1⟩
    · exact ⟨_, (h9 1 _ rfl).1⟩
    · exact ⟨_, (h9 2 _ rfl).1⟩
    · exact ⟨_, (h9 3 _ rfl).1⟩
    · exact ⟨_, (h9 4 _ rfl).1⟩
  obtain ⟨ty, hty⟩ := hKt
  refine W.alen hC.1 hC.2.1 hat (hty N V) (n := iN N) ?_ rfl rfl hd (kk p e s m args below meth c H locs ls hC hS hH hb hl)
  rw [arrV_size, ← iN_nat]
  rfl
theorem e_alenI {a N : Nat} {g : Nat → Int} (ha : h a = some (aI C.1 N g)) (hd : decode (g_cc C) pc = .ok (.arraylength, 1)) (kk : Ev C k n z h (pc + 1) L (.int (iN N) :: st)) : Ev C k n z h pc L (.ref a :: st) :=
  e_alen (t := 0) rfl ha (fun cA => ⟨_, vp_cell_i cA N _⟩) hd kk
theorem e_alenQ {a N : Nat} {g : Nat → Option Nat} (ha : h a = some (aQ C.1 N g)) (hd : decode (g_cc C) pc = .ok (.arraylength, 1)) (kk : Ev C k n z h (pc + 1) L (.int (iN N) :: st)) : Ev C k n z h pc L (.ref a :: st) :=
  e_alen (t := 4) rfl ha (fun cA => ⟨_, vp_cell_q cA N _⟩) hd kk
end GHEAP
