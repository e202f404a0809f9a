/-! THE LAYER, third part: calls, Math, what is made -/
section GRUN
variable {p : Program} {l : Launch} {e : Env} {R : Room} {s : State} {m : MethodId} {args : Array Value} {below : List Frame} {meth : Method} {c : Code} {H : Heap} {locs : List Loc} {cells slots : Nat}
variable {y : MethodName} {bytes cc : ByteArray} {maxL nL mc ms n index W9 : Nat} {ret : Option FieldType} {ws : List Cond} {rm : Room} {Pc : Array Value → State → Prop} {Qc : Array Value → State → Outcome → State → Prop} {XC : String → State → State → Prop} {free : Addr → Prop} {Ts : List Cond} {own C : String} {b : Addr} {As rest : List Value} {g : JFrame}
/-- the kit's vx_runV and vx_runS, with more words on the stack below the arguments (W9 for 8) -/
theorem x_runV (S : CallFix p m c cc nL s args Ts own) (hM : vx_Met l y ws rm Pc Qc XC mc ms free) (hrc : rm.cells = mc) (hrs : rm.slots = ms) (hfr : rm.frames + 1 ≤ R.frames) (hlo : W9 + (maxL + 11) + rm.locals ≤ R.locals) (hws : ∀ w ∈ ws, ∀ (a' : Array Value) (U : State), s.WarmedH U.vm → w.before a' U = true) (hcw : Cond.code y bytes maxL ret ∈ ws)
    (hcode : (Cond.code y bytes maxL ret).before args s = true) (hini : (Cond.initialized y.cls).before args s = true) (hy : y.cls ≠ "java/lang/invoke/MethodHandle" ∧ y.cls ≠ "java/lang/invoke/VarHandle") (hlen : ∀ sig, parseMethodDescriptor y.desc = some sig → n = sig.parameters.length) (hl : (Cond.methodLink own index y).before args s = true) (hin : (Cond.instanceMethod y).before args s = true) (hse : (Cond.selects C y y).before args s = true) (hp : PreV s H C b Pc As)
    (hg : g.method = m) (hn : As.length = n) (hsize : g.locals.size = nL) (hstack : g.stack = As.reverse ++ .ref b :: rest) (hW : 2 * g.monitorRoom + (rest.map fun v => v.category).sum ≤ W9) (hdg : decode cc g.pc = .ok (.invokevirtual index, 3)) (hf : cells + mc ≤ R.cells ∧ slots + ms ≤ R.slots) :
    vx_Run p l e R s m args below meth c H locs cells slots mc ms g rest (Qc (Value.ref b :: As).toArray) XC free := by
  have hK : vx_Back l R p e below s args y 3 W9 (PreOf R mc ms Pc) (PostOf Qc mc ms free) (vx_Post XC mc ms free) := vx_back (bytes := bytes) (maxL := maxL) (ret := ret) hM hp.1 hrc hrs hfr hlo hws hcw (fun a' U hW => word_at hW (Or.inl (by first | rfl | simp [Cond.onTables, Cond.keeps, Cond.steady])) hini)
  obtain ⟨hx, hb, hml, ho, -⟩ := S
  obtain ⟨-, ⟨cellB, hcB, hoB, hclB⟩, hPc⟩ := hp
  intro T hT X
  rcases vx_callV X hx (C := C) (bytes := bytes) (maxL := maxL) (ret := ret) ho hl hin hse hcode hy hK (by rw [hT]; exact hcB) hoB hclB hg (hsize.trans hml.symm) (argsL := As) (rest := rest) (fun sig h => hn.trans (hlen sig h)) hstack hW (by rw [hb]; exact hdg)
    (fun vm₁ hW₁ => ⟨hf.1, hf.2, hPc (T.setVm vm₁) hT hW₁⟩) with ⟨v, vm₁, ⟨U', l2, c2, s2⟩, hW₁, X', ⟨g', mk, t, L, e1, e2, hq, h1, hL, h2, h3⟩, st⟩ | ⟨q, vm₁, ⟨U', l2, c2, s2⟩, hW₁, X', ⟨g', mk, t, L, E, ce, e1, e2, hq, hce, hcv, hcl, h1, hL, h2, h3⟩, st⟩
  · dsimp only [Pt.U, Pt.locs, Pt.cells, Pt.slots] at X' e1 e2 h1 h2 h3 st
    subst h1; subst h2; subst h3
    exact Or.inl ⟨v, (T.setVm vm₁).calling g' mk (Value.ref b :: As).toArray, t, U', L, hT, X', hL, e1, e2, hq, st⟩
  · dsimp only [Pt.U, Pt.locs, Pt.cells, Pt.slots] at X' e1 e2 h1 h2 h3 st hcl
    subst h1; subst h2; subst h3
    exact Or.inr ⟨q, (T.setVm vm₁).calling g' mk (Value.ref b :: As).toArray, t, U', L, E, ce, hT, X', hL, e1, e2, hq, hce, hcv, vx_cls hW₁ hcl, st⟩
theorem x_runS (S : CallFix p m c cc nL s args Ts own) (hM : vx_Met l y ws rm Pc Qc XC mc ms free) (hrc : rm.cells = mc) (hrs : rm.slots = ms) (hfr : rm.frames + 1 ≤ R.frames) (hlo : W9 + (maxL + 11) + rm.locals ≤ R.locals) (hws : ∀ w ∈ ws, ∀ (a' : Array Value) (U : State), s.WarmedH U.vm → w.before a' U = true) (hcw : Cond.code y bytes maxL ret ∈ ws)
    (hcode : (Cond.code y bytes maxL ret).before args s = true) (hini : (Cond.initialized y.cls).before args s = true) (hy : y.cls ≠ "java/lang/invoke/MethodHandle" ∧ y.cls ≠ "java/lang/invoke/VarHandle") (hlen : ∀ sig, parseMethodDescriptor y.desc = some sig → n = sig.parameters.length) (hl : (Cond.methodLink own index y).before args s = true) (hstt : (Cond.static y).before args s = true) (hp : PreS s H Pc As)
    (hg : g.method = m) (hn : As.length = n) (hsize : g.locals.size = nL) (hstack : g.stack = As.reverse ++ rest) (hW : 2 * g.monitorRoom + (rest.map fun v => v.category).sum ≤ W9) (hdg : decode cc g.pc = .ok (.invokestatic index, 3)) (hf : cells + mc ≤ R.cells ∧ slots + ms ≤ R.slots) :
    vx_Run p l e R s m args below meth c H locs cells slots mc ms g rest (Qc As.toArray) XC free := by
  have hK : vx_Back l R p e below s args y 3 W9 (PreOf R mc ms Pc) (PostOf Qc mc ms free) (vx_Post XC mc ms free) := vx_back (bytes := bytes) (maxL := maxL) (ret := ret) hM hp.1 hrc hrs hfr hlo hws hcw (fun a' U hW => word_at hW (Or.inl (by first | rfl | simp [Cond.onTables, Cond.keeps, Cond.steady])) hini)
  obtain ⟨hx, hb, hml, ho, -⟩ := S
  intro T hT X
  rcases vx_callS X hx (bytes := bytes) (maxL := maxL) (ret := ret) ho hl hstt hini hcode hy hK hg (hsize.trans hml.symm) (argsL := As) (rest := rest) (fun sig h => hn.trans (hlen sig h)) hstack hW (by rw [hb]; exact hdg)
    (fun vm₁ hW₁ => ⟨hf.1, hf.2, hp.2 (T.setVm vm₁) hT hW₁⟩) with ⟨v, vm₁, ⟨U', l2, c2, s2⟩, hW₁, X', ⟨g', mk, t, L, e1, e2, hq, h1, hL, h2, h3⟩, st⟩ | ⟨q, vm₁, ⟨U', l2, c2, s2⟩, hW₁, X', ⟨g', mk, t, L, E, ce, e1, e2, hq, hce, hcv, hcl, h1, hL, h2, h3⟩, st⟩
  · dsimp only [Pt.U, Pt.locs, Pt.cells, Pt.slots] at X' e1 e2 h1 h2 h3 st
    subst h1; subst h2; subst h3
    exact Or.inl ⟨v, (T.setVm vm₁).calling g' mk As.toArray, t, U', L, hT, X', hL, e1, e2, hq, st⟩
  · dsimp only [Pt.U, Pt.locs, Pt.cells, Pt.slots] at X' e1 e2 h1 h2 h3 st hcl
    subst h1; subst h2; subst h3
    exact Or.inr ⟨q, (T.setVm vm₁).calling g' mk As.toArray, t, U', L, E, ce, hT, X', hL, e1, e2, hq, hce, hcv, vx_cls hW₁ hcl, st⟩
end GRUN
section GCALL
variable {C : g_E} {k n : Nat} {z : Option Nat} {h : g_hp} {pc : Nat} {L : List (Nat × Value)} {st : List Value}
theorem lv_room14 {m : MethodId} {pc : Nat} {ls : Array Slot} {rest st : List Value} (h : (st.map fun v => v.category).sum ≤ 14) : 2 * (F0 m pc ls rest).monitorRoom + (st.map fun v => v.category).sum ≤ 14 := by
  show 2 * 0 + _ ≤ 14
  omega
theorem e_ofRun {p : Program} {e : Env} {s : State} {m : MethodId} {args : Array Value} {below : List Frame} {meth : Method} {c : Code} {H : Heap} {locs : List Loc} {ls : Array Slot} {rest st0 : List Value} {mc' ms' : Nat} {Z' : g_Z} {a : Array Value}
    (hr : vx_Run p C.1.1 e C.2.2.1 s m args below meth c H locs k n mc' ms' (F0 m pc ls st0) rest (g_Qc C.1 Z' a) (g_XC C.1 Z') (g_A C.1))
    (hC : g_C C.1 C.2.1 p e s m args meth c) (hS : va_S (g_A C.1) s.heap H locs) (hb : C.1.2.2.2 ≤ s.heap.size) (hl : g_L ls C.2.1.2.2.1 L)
    (kx : ∀ E z1 h1, Z' (.inr E) z1 h1 → EvX C (k + mc') (n + ms') z1 h1 pc L E) (kk : ∀ v z1 h1, Z' (.inl v) z1 h1 → Ev C (k + mc') (n + ms') z1 h1 (pc + 3) L (v.toList ++ rest)) :
    W p C.1.1 e C.2.2.1 s m args below meth c H locs k n (C.2.2.2 below args s) (F0 m pc ls st0) := by
  intro T hT X
  rcases hr T hT X with ⟨v, st₀, t, T', L9, h0, X', hL, e1, e2, ⟨⟨v', z1, h1, hv, hz, hH1⟩, hF⟩, st1⟩ | ⟨q, st₀, t, T', L9, E, ce, h0, X', hL, e1, e2, ⟨⟨z1, h1, hz, hH1⟩, hF⟩, hce, hcv, hcl, st1⟩
  · cases hv
    obtain ⟨k1, k2, k3⟩ := vx_keep h0 e1 hS (fun q _ w => w) (fun q w => w) hL hF
    obtain ⟨t2, a1, b1⟩ := kk v z1 h1 hz p e s m args below meth c T'.heap (locs ++ L9) ls hC k3 (by rw [e1]; exact hH1) hb hl T' rfl X'
    exact ⟨t2, st1 t2 a1, b1⟩
  · obtain ⟨k1, k2, k3⟩ := vx_keep h0 e1 hS (fun q _ w => w) (fun q w => w) hL hF
    obtain ⟨t2, a1, b1⟩ := kx E z1 h1 hz p e s m args below meth c T'.heap (locs ++ L9) ls rest q ce hC k3 (by rw [e1]; exact hH1) hb hl (by rw [e1]; exact hce) hcv hcl T' rfl X'
    exact ⟨t2, st1.trans a1, b1⟩
/-- what the tables say of a call: of any kind, then of each -/
def g_cB (own : String) (idx : Nat) (M : g_M) (a : Nat) : Prop := Cond.methodLink own idx M.1 ∈ GW ∧ Cond.initialized M.1.cls ∈ GW ∧ g_wc M ∈ GW ∧ (M.1.cls ≠ "java/lang/invoke/MethodHandle" ∧ M.1.cls ≠ "java/lang/invoke/VarHandle" ∧ (parseMethodDescriptor M.1.desc).map (fun d => d.parameters.length) = some a)
def g_cV (own : String) (idx : Nat) (M : g_M) (a : Nat) : Prop := M.2.2.2.2.2 = none ∧ g_cB own idx M a ∧ Cond.instanceMethod M.1 ∈ GW ∧ Cond.selects M.1.cls M.1 M.1 ∈ GW
def g_cS (own : String) (idx : Nat) (M : g_M) (a : Nat) : Prop := M.2.2.2.2.2 = none ∧ g_cB own idx M a ∧ Cond.static M.1 ∈ GW
def g_cI (own : String) (idx : Nat) (M : g_M) (a : Nat) : Prop := M.2.2.2.2.2 = none ∧ g_cB own idx M a ∧ M.2.2.2.1 = none ∧ M.1.name = "<init>" ∧ Cond.instanceMethod M.1 ∈ GW
def g_cH (own : String) (idx : Nat) (M : g_M) (a : Nat) (hh : List (Nat × Nat × Nat × Nat)) : Prop := M.2.2.2.2.2 = some hh ∧ g_cB own idx M a ∧ Cond.static M.1 ∈ GW
/-- the room that a call needs -/
def g_rm (C : g_E) (M : g_M) (k n mc ms : Nat) : Bool := Nat.ble (M.2.2.2.2.1.1 + 1) C.2.2.1.frames && Nat.ble (14 + (M.2.2.1 + 11) + M.2.2.2.2.1.2) C.2.2.1.locals && Nat.ble (k + mc) C.2.2.1.cells && Nat.ble (n + ms) C.2.2.1.slots
theorem g_rm_spec {M : g_M} {mc ms : Nat} (hr : g_rm C M k n mc ms = true) : M.2.2.2.2.1.1 + 1 ≤ C.2.2.1.frames ∧ 14 + (M.2.2.1 + 11) + M.2.2.2.2.1.2 ≤ C.2.2.1.locals ∧ k + mc ≤ C.2.2.1.cells ∧ n + ms ≤ C.2.2.1.slots := by
  unfold g_rm at hr
  simp only [Bool.and_eq_true] at hr
  exact ⟨Nat.le_of_ble_eq_true hr.1.1.1, Nat.le_of_ble_eq_true hr.1.1.2, Nat.le_of_ble_eq_true hr.1.2, Nat.le_of_ble_eq_true hr.2⟩
theorem g_good {M : g_M} (hw : g_wc M ∈ GW) : GoodIn GW (g_ws M) := fun w h => (List.mem_cons.mp h).elim (fun q => q ▸ GW_good _ hw) (GW_good w)
theorem g_callB {own : String} {idx a : Nat} {M : g_M} {R : Room} {s : State} {args : Array Value} (mc ms : Nat) (hts : ∀ w ∈ GW, w.before args s = true) (hB : g_cB own idx M a) (hn : M.2.2.2.2.2 = none) (hR : M.2.2.2.2.1.1 + 1 ≤ R.frames ∧ 8 + (M.2.2.1 + 11) + M.2.2.2.2.1.2 ≤ R.locals) : CallB R s args own idx M.1 M.2.1 M.2.2.1 M.2.2.2.1 (g_ws M) (g_R M mc ms) mc ms a := by
  obtain ⟨b1, b2, b3, b4⟩ := hB
  exact callB_of a hts (g_good b3) (show g_ws M = Cond.code M.1 M.2.1 M.2.2.1 M.2.2.2.1 :: GW by unfold g_ws g_wc; rw [hn]) rfl rfl (hts _ b2) (hts _ b1) b4 hR
theorem g_pre {p : Program} {e : Env} {s : State} {m : MethodId} {args : Array Value} {meth : Method} {c : Code} {H : Heap} {locs : List Loc} (hC : g_C C.1 C.2.1 p e s m args meth c) (hS : va_S (g_A C.1) s.heap H locs) (hH : g_H C.1 z h H) (av : List Value) : PreS s H (g_Pc C.1 av z h) av :=
  ⟨g_Pc_blind _ _ _ _, fun U hU hW => ⟨rfl, by rw [hU]; exact hH, g_U_to hC.2.2.2.2.2.2.2.1 hS hU hW⟩⟩
theorem e_callS {M : g_M} {idx : Nat} {a : Nat} {As rest : List Value} {mc' ms' : Nat} {Z' : g_Z} (hc : g_cS C.2.1.1.cls idx M a) (hr : Run C.1 M As z h mc' ms' Z') (hst : st = As.reverse ++ rest) (hlen : As.length = a) (hW : Nat.ble (rest.map fun v => v.category).sum 14 = true) (hrm : g_rm C M k n mc' ms' = true) (hd : decode (g_cc C) pc = .ok (.invokestatic idx, 3))
    (kx : ∀ E z1 h1, Z' (.inr E) z1 h1 → EvX C (k + mc') (n + ms') z1 h1 pc L E) (kk : ∀ v z1 h1, Z' (.inl v) z1 h1 → Ev C (k + mc') (n + ms') z1 h1 (pc + 3) L (v.toList ++ rest)) : Ev C k n z h pc L st := by
  intro p e s m args below meth c H locs ls hC hS hH hb hl
  subst hlen
  obtain ⟨r1, r2, r3, r4⟩ := g_rm_spec hrm
  have hts := hC.2.2.2.2.2.2.1
  obtain ⟨hn9, ⟨b1, b2, b3, b4⟩, b5⟩ := hc
  have hwc : g_wc M = Cond.code M.1 M.2.1 M.2.2.1 M.2.2.2.1 := by unfold g_wc; rw [hn9]
  have hcw := hts _ b3
  rw [hwc] at hcw
  refine e_ofRun (x_runS (W9 := 14) (g := F0 m pc ls st) (As := As) (rest := rest) ⟨hC.1, hC.2.1, hC.2.2.1, hC.2.2.2.2.2.1, hts⟩ hr rfl rfl r1 r2 (pay_in hts (g_good b3)) (by unfold g_ws; rw [hwc]; exact List.mem_cons_self) hcw (hts _ b2) ⟨b4.1, b4.2.1⟩ (fun sig q => ?_) (hts _ b1) (hts _ b5) (g_pre hC hS hH As) rfl rfl hl.1 hst (lv_room14 (Nat.le_of_ble_eq_true hW)) hd ⟨r3, r4⟩) hC hS hb hl kx kk
  have h2 := b4.2.2
  rw [q] at h2
  exact (Option.some.inj h2).symm
theorem e_callH {M : g_M} {idx : Nat} {hh : List (Nat × Nat × Nat × Nat)} {a : Nat} {As rest : List Value} {mc' ms' : Nat} {Z' : g_Z} (hc : g_cH C.2.1.1.cls idx M a hh) (hr : Run C.1 M As z h mc' ms' Z') (hst : st = As.reverse ++ rest) (hlen : As.length = a) (hW : Nat.ble (rest.map fun v => v.category).sum 8 = true) (hrm : g_rm C M k n mc' ms' = true) (hd : decode (g_cc C) pc = .ok (.invokestatic idx, 3))
    (kx : ∀ E z1 h1, Z' (.inr E) z1 h1 → EvX C (k + mc') (n + ms') z1 h1 pc L E) (kk : ∀ v z1 h1, Z' (.inl v) z1 h1 → Ev C (k + mc') (n + ms') z1 h1 (pc + 3) L (v.toList ++ rest)) : Ev C k n z h pc L st := by
  intro p e s m args below meth c H locs ls hC hS hH hb hl
  subst hlen
  obtain ⟨r1, r2, r3, r4⟩ := g_rm_spec hrm
  have hts := hC.2.2.2.2.2.2.1
  obtain ⟨hn, ⟨b1, b2, b3, b4⟩, b5⟩ := hc
  have hwc : g_wc M = Cond.codeWith M.1 M.2.1 M.2.2.1 M.2.2.2.1 hh := by unfold g_wc; rw [hn]
  have hcw := hts _ b3
  rw [hwc] at hcw
  refine e_ofRun (vx_runSX (g := F0 m pc ls st) (As := As) (rest := rest) (hh := hh) ⟨hC.1, hC.2.1, hC.2.2.1, hC.2.2.2.2.2.1, hts⟩ hr ⟨⟨rfl, rfl, r1, Nat.le_trans (Nat.add_le_add_right (Nat.add_le_add_right (by decide : 8 ≤ 14) _) _) r2, pay_in hts (g_good b3), by unfold g_ws; rw [hwc]; exact List.mem_cons_self⟩, hcw, hts _ b2, ⟨b4.1, b4.2.1⟩, fun sig q => ?_, hts _ b1, hts _ b5⟩ (g_pre hC hS hH As) rfl rfl hl.1 hst (lv_room (Nat.le_of_ble_eq_true hW)) hd ⟨r3, r4⟩) hC hS hb hl kx kk
  have h2 := b4.2.2
  rw [q] at h2
  exact (Option.some.inj h2).symm
theorem e_callV {M : g_M} {idx b ci : Nat} {fs : List Value} {q : vw_C} {a : Nat} {As rest : List Value} {mc' ms' : Nat} {Z' : g_Z} (hc : g_cV C.2.1.1.cls idx M a) (ha : h b = some (.inr (ci, fs))) (hq : vwCl[ci]? = some q) (hq2 : q.1 = M.1.cls) (hr : Run C.1 M (.ref b :: As) z h mc' ms' Z') (hst : st = As.reverse ++ .ref b :: rest) (hlen : As.length = a) (hW : Nat.ble (rest.map fun v => v.category).sum 14 = true) (hrm : g_rm C M k n mc' ms' = true) (hd : decode (g_cc C) pc = .ok (.invokevirtual idx, 3))
    (kx : ∀ E z1 h1, Z' (.inr E) z1 h1 → EvX C (k + mc') (n + ms') z1 h1 pc L E) (kk : ∀ v z1 h1, Z' (.inl v) z1 h1 → Ev C (k + mc') (n + ms') z1 h1 (pc + 3) L (v.toList ++ rest)) : Ev C k n z h pc L st := by
  intro p e s m args below meth c H locs ls hC hS hH hb hl
  subst hlen
  obtain ⟨r1, r2, r3, r4⟩ := g_rm_spec hrm
  have hts := hC.2.2.2.2.2.2.1
  have hrecv := va_recv (D := C.1.2.1) (cl := vwCl) (tys := g_tys C.1) (q0 := 0) hC.2.2.2.2.2.2.2.1.1 (hH.one ha) hq rfl
  rw [hq2] at hrecv
  obtain ⟨hn9, ⟨b1, b2, b3, b4⟩, b5, b6⟩ := hc
  have hwc : g_wc M = Cond.code M.1 M.2.1 M.2.2.1 M.2.2.2.1 := by unfold g_wc; rw [hn9]
  have hcw := hts _ b3
  rw [hwc] at hcw
  refine e_ofRun (x_runV (W9 := 14) (g := F0 m pc ls st) (C := M.1.cls) (b := b) (As := As) (rest := rest) ⟨hC.1, hC.2.1, hC.2.2.1, hC.2.2.2.2.2.1, hts⟩ hr rfl rfl r1 r2 (pay_in hts (g_good b3)) (by unfold g_ws; rw [hwc]; exact List.mem_cons_self) hcw (hts _ b2) ⟨b4.1, b4.2.1⟩ (fun sig q => ?_) (hts _ b1) (hts _ b5) (hts _ b6) ⟨(g_pre hC hS hH (.ref b :: As)).1, hrecv, (g_pre hC hS hH (.ref b :: As)).2⟩ rfl rfl hl.1 hst (lv_room14 (Nat.le_of_ble_eq_true hW)) hd ⟨r3, r4⟩) hC hS hb hl kx kk
  have h2 := b4.2.2
  rw [q] at h2
  exact (Option.some.inj h2).symm

theorem e_callI {M : g_M} {idx b : Nat} {a : Nat} {As rest : List Value} {mc' ms' : Nat} {Z' : g_Z} (hc : g_cI C.2.1.1.cls idx M a) (hr : Run C.1 M (.ref b :: As) z h mc' ms' Z') (hst : st = As.reverse ++ .ref b :: rest) (hlen : As.length = a) (hW : Nat.ble (rest.map fun v => v.category).sum 8 = true) (hrm : g_rm C M k n mc' ms' = true) (hd : decode (g_cc C) pc = .ok (.invokespecial idx, 3))
    (kx : ∀ E z1 h1, Z' (.inr E) z1 h1 → EvX C (k + mc') (n + ms') z1 h1 pc L E) (kk : ∀ v z1 h1, Z' (.inl v) z1 h1 → Ev C (k + mc') (n + ms') z1 h1 (pc + 3) L (v.toList ++ rest)) : Ev C k n z h pc L st := by
  intro p e s m args below meth c H locs ls hC hS hH hb hl
  subst hlen
  obtain ⟨r1, r2, r3, r4⟩ := g_rm_spec hrm
  have hts := hC.2.2.2.2.2.2.1
  obtain ⟨hn, hB, h3, h4, h5⟩ := hc
  have hcb := g_callB mc' ms' hts hB hn ⟨r1, by omega⟩
  rw [h3] at hcb
  exact e_ofRun (vx_runI (g := F0 m pc ls st) (b := b) (As := As) (rest := rest) ⟨hC.1, hC.2.1, hC.2.2.1, hC.2.2.2.2.2.1, hts⟩ hr ⟨hcb, h4, hts _ h5⟩ (g_pre hC hS hH (.ref b :: As)) rfl rfl hl.1 hst (lv_room (Nat.le_of_ble_eq_true hW)) hd ⟨r3, r4⟩) hC hS hb hl kx kk

/-- a method that answers v and leaves the world as it is -/
def Pure (G : g_X) (M : g_M) (av : List Value) (h : g_hp) (v : Value) : Prop := ∀ z, Run G M av z h 0 0 (fun o z1 h1 => o = .inl (some v) ∧ z1 = z ∧ h1 = h)
/-- a method that answers v and leaves a world with Q -/
def Does (G : g_X) (M : g_M) (av : List Value) (h : g_hp) (Q : Option Value → g_hp → Prop) : Prop := ∀ z, Run G M av z h 0 0 (fun o z1 h1 => ∃ v, o = .inl v ∧ z1 = z ∧ Q v h1)
/-- a method that throws E: an object more, six fields -/
def Throws (G : g_X) (M : g_M) (av : List Value) (h : g_hp) (E : String) : Prop := ∀ z, Run G M av z h 1 6 (fun o z1 h1 => o = .inr E ∧ z1 = none ∧ h1 = h)

theorem e_pureS {M : g_M} {idx : Nat} {a : Nat} {As rest : List Value} {v : Value} (hc : g_cS C.2.1.1.cls idx M a) (hr : Pure C.1 M As h v) (hst : st = As.reverse ++ rest) (hlen : As.length = a) (hW : Nat.ble (rest.map fun v => v.category).sum 14 = true) (hrm : g_rm C M k n 0 0 = true) (hd : decode (g_cc C) pc = .ok (.invokestatic idx, 3)) (kk : Ev C k n z h (pc + 3) L (v :: rest)) : Ev C k n z h pc L st :=
  e_callS hc (hr z) hst hlen hW hrm hd (fun E z1 h1 q => nomatch q.1) (fun v' z1 h1 q => by obtain ⟨q1, q2, q3⟩ := q; cases q1; subst q2; subst q3; exact kk)
theorem e_doesS {M : g_M} {idx : Nat} {a : Nat} {As rest : List Value} {Q : Option Value → g_hp → Prop} (hc : g_cS C.2.1.1.cls idx M a) (hr : Does C.1 M As h Q) (hst : st = As.reverse ++ rest) (hlen : As.length = a) (hW : Nat.ble (rest.map fun v => v.category).sum 14 = true) (hrm : g_rm C M k n 0 0 = true) (hd : decode (g_cc C) pc = .ok (.invokestatic idx, 3)) (kk : ∀ v h1, Q v h1 → Ev C k n z h1 (pc + 3) L (v.toList ++ rest)) : Ev C k n z h pc L st :=
  e_callS hc (hr z) hst hlen hW hrm hd (fun E z1 h1 q => by obtain ⟨v, q1, -⟩ := q; cases q1) (fun v' z1 h1 q => by obtain ⟨v, q1, q2, q3⟩ := q; cases q1; subst q2; exact kk _ _ q3)
theorem e_throwsS {G : g_X} {M0 M : g_M} {mc ms : Nat} {Z : g_Z} {idx : Nat} {a : Nat} {As rest : List Value} {E : String} (hc : g_cS M0.1.cls idx M a) (hr : Throws G M As h E) (hst : st = As.reverse ++ rest) (hlen : As.length = a) (hW : Nat.ble (rest.map fun v => v.category).sum 14 = true) (hrm : g_rm (g_B G M0 mc ms Z) M k n 1 6 = true) (hd : decode M0.2.1 pc = .ok (.invokestatic idx, 3)) (hn : M0.2.2.2.2.2 = none) (hZ : Z (.inr E) none h) : Ev (g_B G M0 mc ms Z) k n z h pc L st :=
  e_callS (C := g_B G M0 mc ms Z) hc (hr z) hst hlen hW hrm hd (fun E' z1 h1 q => by obtain ⟨q1, q2, q3⟩ := q; cases q1; subst q2; subst q3; exact ex_out hn (g_rm_spec hrm).2.2.1 (g_rm_spec hrm).2.2.2 hZ) (fun v' z1 h1 q => nomatch q.1)
theorem e_pureV {M : g_M} {idx : Nat} {b ci : Nat} {fs : List Value} {q : vw_C} {a : Nat} {As rest : List Value} {v : Value} (hc : g_cV C.2.1.1.cls idx M a) (ha : h b = some (.inr (ci, fs))) (hq : vwCl[ci]? = some q) (hq2 : q.1 = M.1.cls) (hr : Pure C.1 M (.ref b :: As) h v) (hst : st = As.reverse ++ .ref b :: rest) (hlen : As.length = a) (hW : Nat.ble (rest.map fun v => v.category).sum 14 = true) (hrm : g_rm C M k n 0 0 = true) (hd : decode (g_cc C) pc = .ok (.invokevirtual idx, 3)) (kk : Ev C k n z h (pc + 3) L (v :: rest)) : Ev C k n z h pc L st :=
  e_callV hc ha hq hq2 (hr z) hst hlen hW hrm hd (fun E z1 h1 q => nomatch q.1) (fun v' z1 h1 q => by obtain ⟨q1, q2, q3⟩ := q; cases q1; subst q2; subst q3; exact kk)
theorem e_doesV {M : g_M} {idx : Nat} {b ci : Nat} {fs : List Value} {q : vw_C} {a : Nat} {As rest : List Value} {Q : Option Value → g_hp → Prop} (hc : g_cV C.2.1.1.cls idx M a) (ha : h b = some (.inr (ci, fs))) (hq : vwCl[ci]? = some q) (hq2 : q.1 = M.1.cls) (hr : Does C.1 M (.ref b :: As) h Q) (hst : st = As.reverse ++ .ref b :: rest) (hlen : As.length = a) (hW : Nat.ble (rest.map fun v => v.category).sum 14 = true) (hrm : g_rm C M k n 0 0 = true) (hd : decode (g_cc C) pc = .ok (.invokevirtual idx, 3)) (kk : ∀ v h1, Q v h1 → Ev C k n z h1 (pc + 3) L (v.toList ++ rest)) : Ev C k n z h pc L st :=
  e_callV hc ha hq hq2 (hr z) hst hlen hW hrm hd (fun E z1 h1 q => by obtain ⟨v, q1, -⟩ := q; cases q1) (fun v' z1 h1 q => by obtain ⟨v, q1, q2, q3⟩ := q; cases q1; subst q2; exact kk _ _ q3)
theorem e_throwsV {G : g_X} {M0 M : g_M} {mc ms : Nat} {Z : g_Z} {idx : Nat} {b ci : Nat} {fs : List Value} {q : vw_C} {a : Nat} {As rest : List Value} {E : String} (hc : g_cV M0.1.cls idx M a) (ha : h b = some (.inr (ci, fs))) (hq : vwCl[ci]? = some q) (hq2 : q.1 = M.1.cls) (hr : Throws G M (.ref b :: As) h E) (hst : st = As.reverse ++ .ref b :: rest) (hlen : As.length = a) (hW : Nat.ble (rest.map fun v => v.category).sum 14 = true) (hrm : g_rm (g_B G M0 mc ms Z) M k n 1 6 = true) (hd : decode M0.2.1 pc = .ok (.invokevirtual idx, 3)) (hn : M0.2.2.2.2.2 = none) (hZ : Z (.inr E) none h) : Ev (g_B G M0 mc ms Z) k n z h pc L st :=
  e_callV (C := g_B G M0 mc ms Z) hc ha hq hq2 (hr z) hst hlen hW hrm hd (fun E' z1 h1 q => by obtain ⟨q1, q2, q3⟩ := q; cases q1; subst q2; subst q3; exact ex_out hn (g_rm_spec hrm).2.2.1 (g_rm_spec hrm).2.2.2 hZ) (fun v' z1 h1 q => nomatch q.1)
end GCALL
section GMATH
variable {C : g_E} {k n : Nat} {z : Option Nat} {h : g_hp} {pc : Nat} {L : List (Nat × Value)} {st : List Value}
def g_MM (own : String) (idx : Nat) (y : MethodName) (code : ByteArray) (nL : Nat) (ty : FieldType) : Prop := Cond.methodLink own idx y ∈ GW ∧ Cond.static y ∈ GW ∧ Cond.initialized "java/lang/Math" ∈ GW ∧ Cond.code y code nL (some ty) ∈ GW
def g_rM (C : g_E) (rest : List Value) (k n w : Nat) : Bool := Nat.ble 1 C.2.2.1.frames && Nat.ble ((rest.map fun v => v.category).sum + w) C.2.2.1.locals && Nat.ble k C.2.2.1.cells && Nat.ble n C.2.2.1.slots
theorem g_rM_spec {rest : List Value} {w : Nat} (hr : g_rM C rest k n w = true) : 1 ≤ C.2.2.1.frames ∧ (rest.map fun v => v.category).sum + w ≤ C.2.2.1.locals ∧ k ≤ C.2.2.1.cells ∧ n ≤ C.2.2.1.slots := by
  unfold g_rM at hr
  simp only [Bool.and_eq_true] at hr
  exact ⟨Nat.le_of_ble_eq_true hr.1.1.1, Nat.le_of_ble_eq_true hr.1.1.2, Nat.le_of_ble_eq_true hr.1.2, Nat.le_of_ble_eq_true hr.2⟩
theorem e_mmax {x y : Int} {idx : Nat} (hx : r32 x) (hy : r32 y) (hM : g_MM C.2.1.1.cls idx Lib.Math.max.name Lib.Math.max.code 2 .int) (hrm : g_rM C st k n 13 = true) (hd : decode (g_cc C) pc = .ok (.invokestatic idx, 3)) (kk : Ev C k n z h (pc + 3) L (.int (iN (max x y)) :: st)) : Ev C k n z h pc L (.int (iN y) :: .int (iN x) :: st) := by
  intro p e s m args below meth c H locs ls hC hS hH hb hl
  obtain ⟨r1, r2, r3, r4⟩ := g_rM_spec hrm
  have hts := hC.2.2.2.2.2.2.1
  refine va_mmax hC.1 hC.2.1 (hC.2.2.1.trans hl.1.symm) hC.2.2.2.2.2.1 (hts _ hM.1) (hts _ hM.2.1) (hts _ hM.2.2.1) (hts _ hM.2.2.2) r1 r2 r3 r4 hd ?_
  have e9 := (show (if iN x < iN y then iN y else iN x) = iN (max x y) from by
    by_cases q : x < y
    · rw [if_pos ((iN_lt hx hy).mpr q), show max x y = y by omega]
    · rw [if_neg (fun w => q ((iN_lt hx hy).mp w)), show max x y = x by omega])
  rw [e9]
  exact kk p e s m args below meth c H locs ls hC hS hH hb hl
theorem e_mmin {x y : Int} {idx : Nat} (hx : r32 x) (hy : r32 y) (hM : g_MM C.2.1.1.cls idx Lib.Math.min.name Lib.Math.min.code 2 .int) (hrm : g_rM C st k n 13 = true) (hd : decode (g_cc C) pc = .ok (.invokestatic idx, 3)) (kk : Ev C k n z h (pc + 3) L (.int (iN (min x y)) :: st)) : Ev C k n z h pc L (.int (iN y) :: .int (iN x) :: st) := by
  intro p e s m args below meth c H locs ls hC hS hH hb hl
  obtain ⟨r1, r2, r3, r4⟩ := g_rM_spec hrm
  have hts := hC.2.2.2.2.2.2.1
  refine va_mmin hC.1 hC.2.1 (hC.2.2.1.trans hl.1.symm) hC.2.2.2.2.2.1 (hts _ hM.1) (hts _ hM.2.1) (hts _ hM.2.2.1) (hts _ hM.2.2.2) r1 r2 r3 r4 hd ?_
  have e9 := (show (if iN y < iN x then iN y else iN x) = iN (min x y) from by
    by_cases q : y < x
    · rw [if_pos ((iN_lt hy hx).mpr q), show min x y = y by omega]
    · rw [if_neg (fun w => q ((iN_lt hy hx).mp w)), show min x y = x by omega])
  rw [e9]
  exact kk p e s m args below meth c H locs ls hC hS hH hb hl
theorem e_mmaxL {x y : Int} {idx : Nat} (hx : r64 x) (hy : r64 y) (hM : g_MM C.2.1.1.cls idx Lib.MathLoose.max_long.x Lib.MathLoose.max_long.code 4 .long) (hrm : g_rM C st k n 15 = true) (hd : decode (g_cc C) pc = .ok (.invokestatic idx, 3)) (kk : Ev C k n z h (pc + 3) L (.long (lI (max x y)) :: st)) : Ev C k n z h pc L (.long (lI y) :: .long (lI x) :: st) := by
  intro p e s m args below meth c H locs ls hC hS hH hb hl
  obtain ⟨r1, r2, r3, r4⟩ := g_rM_spec hrm
  have hts := hC.2.2.2.2.2.2.1
  refine va_mmax_long hC.1 hC.2.1 (hC.2.2.1.trans hl.1.symm) hC.2.2.2.2.2.1 (hts _ hM.1) (hts _ hM.2.1) (hts _ hM.2.2.1) (hts _ hM.2.2.2) r1 r2 r3 r4 hd ?_
  have e9 := (show (if lI y < lI x then lI x else lI y) = lI (max x y) from by
    by_cases q : y < x
    · rw [if_pos ((lI_lt hy hx).mpr q), show max x y = x by omega]
    · rw [if_neg (fun w => q ((lI_lt hy hx).mp w)), show max x y = y by omega])
  rw [e9]
  exact kk p e s m args below meth c H locs ls hC hS hH hb hl
theorem e_mminL {x y : Int} {idx : Nat} (hx : r64 x) (hy : r64 y) (hM : g_MM C.2.1.1.cls idx Lib.MathLoose.min_long.x Lib.MathLoose.min_long.code 4 .long) (hrm : g_rM C st k n 15 = true) (hd : decode (g_cc C) pc = .ok (.invokestatic idx, 3)) (kk : Ev C k n z h (pc + 3) L (.long (lI (min x y)) :: st)) : Ev C k n z h pc L (.long (lI y) :: .long (lI x) :: st) := by
  intro p e s m args below meth c H locs ls hC hS hH hb hl
  obtain ⟨r1, r2, r3, r4⟩ := g_rM_spec hrm
  have hts := hC.2.2.2.2.2.2.1
  refine va_mmin_long hC.1 hC.2.1 (hC.2.2.1.trans hl.1.symm) hC.2.2.2.2.2.1 (hts _ hM.1) (hts _ hM.2.1) (hts _ hM.2.2.1) (hts _ hM.2.2.2) r1 r2 r3 r4 hd ?_
  have e9 := (show (if lI y < lI x then lI y else lI x) = lI (min x y) from by
    by_cases q : y < x
    · rw [if_pos ((lI_lt hy hx).mpr q), show min x y = y by omega]
    · rw [if_neg (fun w => q ((lI_lt hy hx).mp w)), show min x y = x by omega])
  rw [e9]
  exact kk p e s m args below meth c H locs ls hC hS hH hb hl
theorem e_mabs {x : Int} {idx : Nat} (hx : r32 x) (hM : g_MM C.2.1.1.cls idx Lib.Math.abs.name Lib.Math.abs.code 1 .int) (hrm : g_rM C st k n 13 = true) (hd : decode (g_cc C) pc = .ok (.invokestatic idx, 3)) (kk : Ev C k n z h (pc + 3) L (.int (iN ((x.natAbs : Int))) :: st)) : Ev C k n z h pc L (.int (iN x) :: st) := by
  intro p e s m args below meth c H locs ls hC hS hH hb hl
  obtain ⟨r1, r2, r3, r4⟩ := g_rM_spec hrm
  have hts := hC.2.2.2.2.2.2.1
  refine va_mabs hC.1 hC.2.1 (hC.2.2.1.trans hl.1.symm) hC.2.2.2.2.2.1 (hts _ hM.1) (hts _ hM.2.1) (hts _ hM.2.2.1) (hts _ hM.2.2.2) r1 r2 r3 r4 hd ?_
  have e9 := (show (if 0 ≤ iN x then iN x else 0 - iN x) = iN (x.natAbs : Int) from by
    by_cases q : 0 ≤ x
    · rw [if_pos (show (0 : Int32) ≤ iN x from (iN_le r32_0 hx).mpr q), show (x.natAbs : Int) = x by omega]
    · rw [if_neg (show ¬ (0 : Int32) ≤ iN x from fun w => q ((iN_le r32_0 hx).mp w)), show (x.natAbs : Int) = 0 - x by omega, ← iN_sub]
      rfl)
  rw [e9]
  exact kk p e s m args below meth c H locs ls hC hS hH hb hl
theorem e_mabsL {x : Int} {idx : Nat} (hx : r64 x) (hM : g_MM C.2.1.1.cls idx Lib.MathLoose.abs_long.x Lib.MathLoose.abs_long.code 2 .long) (hrm : g_rM C st k n 13 = true) (hd : decode (g_cc C) pc = .ok (.invokestatic idx, 3)) (kk : Ev C k n z h (pc + 3) L (.long (lI ((x.natAbs : Int))) :: st)) : Ev C k n z h pc L (.long (lI x) :: st) := by
  intro p e s m args below meth c H locs ls hC hS hH hb hl
  obtain ⟨r1, r2, r3, r4⟩ := g_rM_spec hrm
  have hts := hC.2.2.2.2.2.2.1
  refine va_mabs_long hC.1 hC.2.1 (hC.2.2.1.trans hl.1.symm) hC.2.2.2.2.2.1 (hts _ hM.1) (hts _ hM.2.1) (hts _ hM.2.2.1) (hts _ hM.2.2.2) r1 r2 r3 r4 hd ?_
  have e9 := (show (if 0 < lI x then lI x else -lI x) = lI (x.natAbs : Int) from by
    by_cases q : 0 < x
    · rw [if_pos (show (0 : Int64) < lI x from (lI_lt r64_0 hx).mpr q), show (x.natAbs : Int) = x by omega]
    · rw [if_neg (show ¬ (0 : Int64) < lI x from fun w => q ((lI_lt r64_0 hx).mp w)), show (x.natAbs : Int) = -x by omega]
      exact (Int64.ofInt_neg x).symm)
  rw [e9]
  exact kk p e s m args below meth c H locs ls hC hS hH hb hl
end GMATH
section GNEW
variable {C : g_E} {k n : Nat} {z : Option Nat} {h : g_hp} {pc : Nat} {L : List (Nat × Value)} {st : List Value}
theorem e_objInit {a idx : Nat} (hl1 : Cond.methodLink C.2.1.1.cls idx objectInit ∈ GW) (hl2 : Cond.instanceMethod objectInit ∈ GW) (hl3 : Cond.code objectInit ⟨#[0xb1]⟩ 1 none ∈ GW) (hf : Nat.ble 1 C.2.2.1.frames = true) (hlo : Nat.ble ((st.map fun v => v.category).sum + 12) C.2.2.1.locals = true) (hd : decode (g_cc C) pc = .ok (.invokespecial idx, 3)) (kk : Ev C k n z h (pc + 3) L st) : Ev C k n z h pc L (.ref a :: st) := by
  intro p e s m args below meth c H locs ls hC hS hH hb hl
  have hts := hC.2.2.2.2.2.2.1
  have hlo9 := Nat.le_of_ble_eq_true hlo
  exact W.objInit hC.1 hC.2.1 hC.2.2.2.2.2.1 (hts _ hl1) (hts _ hl2) (hts _ hl3) rfl (hl.1.trans hC.2.2.1.symm) rfl hd (Nat.le_of_ble_eq_true hf) (by show 2 * 0 + _ + 12 ≤ _; omega) (W.eq rfl (kk p e s m args below meth c H locs ls hC hS hH hb hl))
theorem e_new {idx ci : Nat} {Cn : String} {T : u_T} {N q : Nat} {ty : Nat → FieldType} {fs : List Value} (hK : g_K ci Cn T N ty) (h1 : Cond.classLink C.2.1.1.cls idx Cn ∈ GW) (h2 : Cond.instantiable Cn N ∈ GW) (h3 : Cond.initialized Cn ∈ GW) (hfs : ∀ j, j < N → defaultValue (ty j) = vp_V fs j) (hk : Nat.ble (k + 1) C.2.2.1.cells = true) (hn : Nat.ble (n + N) C.2.2.1.slots = true) (hd : decode (g_cc C) pc = .ok (.new idx, 3))
    (kk : Ev C (k + 1) (n + N) (some (q + 1)) (g_up h q (.inr (ci, fs))) (pc + 3) L (.ref q :: st)) : Ev C k n (some q) h pc L st := by
  intro p e s m args below meth c H locs ls hC hS hH hb hl
  have hts := hC.2.2.2.2.2.2.1
  obtain ⟨k1, k2, k3, k4⟩ := hK
  have hKn := hC.2.2.2.2.2.2.2.1.1.1 ci _ k1
  have hq : H.size = q := hH.2.1 q rfl
  refine W.newcK hC.1 hC.2.1 hC.2.2.2.2.2.1 (hts _ h1) (hts _ h2) (hts _ h3) rfl hd (Nat.le_of_ble_eq_true hk) (Nat.le_of_ble_eq_true hn) hKn.2.1 hq fun H1 kC hkC e1 z1 o1 => ?_
  refine kk p e s m args below meth c H1 locs ls hC ⟨Nat.le_trans hS.1 (by omega), fun x h1 h2 => (o1 x (by have := hS.1; omega)).trans (hS.2.1 x h1 h2), hS.2.2⟩ (hH.new ?_ (by omega) (fun r hr => o1 r (by omega))) hb hl
  rw [hq]
  exact ⟨_, k1, (u_born ty hts k2 hKn hkC e1 k3).to hfs⟩
theorem e_newarr {at9 : ArrayType} {t N q : Nat} {A0 : vp_A} {ty : FieldType} (harr : Cond.arrayClass ty ∈ GW) (hty : newarray.typeOf at9 = ty) (ht : (g_tys C.1)[t]? = some (C.1.2.2.1 t, ty)) (hA : ∀ cA : ClassId, vp_cell cA A0 = arrV cA N (fun _ => defaultValue ty)) (hnm : (ty.toString == "") = false) (hRA : ∀ (U : State) (cA : ClassId), va_RA U cA ty → U.vm.findClass ("[" ++ ty.toString) = some cA) {x : Int} (hx : x = N) (hN : Nat.ble N 100000 = true) (hby : N * componentBytes ty ≤ 536870912) (hk : Nat.ble (k + 1) C.2.2.1.cells = true) (hn : Nat.ble (n + N) C.2.2.1.slots = true) (hd : decode (g_cc C) pc = .ok (.newarray at9, 2))
    (kk : Ev C (k + 1) (n + N) (some (q + 1)) (g_up h q (.inl (C.1.2.2.1 t, A0))) (pc + 2) L (.ref q :: st)) : Ev C k n (some q) h pc L (.int (iN x) :: st) := by
  intro p e s m args below meth c H locs ls hC hS hH hb hl
  subst hty
  have hts := hC.2.2.2.2.2.2.1
  have hN9 := Nat.le_of_ble_eq_true hN
  have hq : H.size = q := hH.2.1 q rfl
  have hr : r32 x := ⟨by omega, by omega⟩
  refine va_newaK hC.1 hC.2.1 (hts _ harr) rfl hd rfl (n := iN x) (N := N) (fun w => by have := (iN_lt hr r32_0).mp w; omega) (by rw [iN_clamp (by omega) (by omega)]; omega) hby (Nat.le_of_ble_eq_true hk) (Nat.le_of_ble_eq_true hn) hq fun H1 cA e1 z1 o1 hAr hNm => ?_
  have hcA : cA = C.1.2.2.1 t := by
    have h9 := hRA s _ (hC.2.2.2.2.2.2.2.1.1.2 t _ ht).2
    exact Option.some.inj (hNm.symm.trans h9)
  subst hcA
  refine kk p e s m args below meth c H1 locs ls hC ⟨Nat.le_trans hS.1 (by omega), fun x h1 h2 => (o1 x (by have := hS.1; omega)).trans (hS.2.1 x h1 h2), hS.2.2⟩ (hH.new ?_ (by omega) (fun r hr => o1 r (by omega))) hb hl
  rw [hq]
  show H1[q]? = some (vp_cell _ _)
  rw [e1, hA]
end GNEW
