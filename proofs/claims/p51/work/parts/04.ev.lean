/-! THE LAYER: a world as a function from addresses to cells; one judgement 'Ev' for a method's body -/
section GEV
abbrev g_hp : Type := Nat → Option va_E
/-- the launch, the numbers of classes and slots, the array classes, the first address of ours -/
abbrev g_X : Type := Launch × va_G × (Nat → ClassId) × Nat
abbrev g_A (G : g_X) : Nat → Prop := fun q => G.2.2.2 ≤ q
abbrev g_tys (G : g_X) : List (ClassId × FieldType) := [(G.2.2.1 0, .int), (G.2.2.1 1, .int), (G.2.2.1 2, .int), (G.2.2.1 3, .int), (G.2.2.1 4, .object "HullyardSurveys$Row")]
def g_H (G : g_X) (z : Option Nat) (h : g_hp) (H : Heap) : Prop := G.2.2.2 ≤ H.size ∧ (∀ n, z = some n → H.size = n) ∧ ∀ a e, h a = some e → G.2.2.2 ≤ a ∧ va_at G.2.1 vwCl (a, e) H
def g_up (h : g_hp) (a : Nat) (e : va_E) : g_hp := fun q => if q = a then some e else h q
theorem g_up_s (h : g_hp) (a : Nat) (e : va_E) : g_up h a e a = some e := if_pos rfl
theorem g_up_n (h : g_hp) {a q : Nat} (e : va_E) (n : q ≠ a) : g_up h a e q = h q := if_neg n
theorem g_H.lose {G : g_X} {z : Option Nat} {h : g_hp} {H : Heap} (x : g_H G z h H) : g_H G none h H := ⟨x.1, (fun _ e => (by cases e)), x.2.2⟩
theorem g_H.sub {G : g_X} {z : Option Nat} {h h' : g_hp} {H : Heap} (x : g_H G z h H) (w : ∀ a e, h' a = some e → h a = some e) : g_H G z h' H := ⟨x.1, x.2.1, fun a e q => x.2.2 a e (w a e q)⟩
theorem g_H.one {G : g_X} {z : Option Nat} {h : g_hp} {H : Heap} (x : g_H G z h H) {a : Nat} {e : va_E} (q : h a = some e) : va_P G.2.1 vwCl [(a, e)] H := by
  intro k p hk
  have hz : k < 1 := (List.getElem?_eq_some_iff.mp hk).1
  rw [show k = 0 by omega] at hk
  cases hk
  exact (x.2.2 a e q).2
theorem g_H.set {G : g_X} {z : Option Nat} {h : g_hp} {H H1 : Heap} (x : g_H G z h H) {a : Nat} {e0 e : va_E} (q : h a = some e0) (he : va_at G.2.1 vwCl (a, e) H1) (hz : H1.size = H.size) (ho : ∀ r, r ≠ a → H1[r]? = H[r]?) : g_H G z (g_up h a e) H1 := by
  refine ⟨by rw [hz]; exact x.1, fun n hn => hz.trans (x.2.1 n hn), fun r f hr => ?_⟩
  by_cases hra : r = a
  · subst hra
    rw [g_up_s] at hr
    cases hr
    exact ⟨(x.2.2 r e0 q).1, he⟩
  · rw [g_up_n h e hra] at hr
    exact ⟨(x.2.2 r f hr).1, (x.2.2 r f hr).2.kept (ho r hra)⟩
theorem g_H.new {G : g_X} {n : Nat} {h : g_hp} {H H1 : Heap} (x : g_H G (some n) h H) {e : va_E} (he : va_at G.2.1 vwCl (H.size, e) H1) (hz : H1.size = H.size + 1) (ho : ∀ r, r < H.size → H1[r]? = H[r]?) : g_H G (some (n + 1)) (g_up h n e) H1 := by
  have hn : H.size = n := x.2.1 n rfl
  refine ⟨by have := x.1; omega, fun m hm => by cases hm; omega, fun r f hr => ?_⟩
  by_cases hra : r = n
  · subst hra
    rw [g_up_s] at hr
    cases hr
    refine ⟨hn ▸ x.1, ?_⟩
    rw [← hn]
    exact he
  · rw [g_up_n h e hra] at hr
    have h1 := x.2.2 r f hr
    exact ⟨h1.1, h1.2.kept (ho r h1.2.lt)⟩
/-- a method's name, code, room for locals, answer; its frames and locals below it; its table of handlers -/
abbrev g_M : Type := MethodName × ByteArray × Nat × Option FieldType × (Nat × Nat) × Option (List (Nat × Nat × Nat × Nat))
abbrev g_O : Type := Option Value ⊕ String
abbrev g_Z : Type := g_O → Option Nat → g_hp → Prop
def g_wc (M : g_M) : Cond := match M.2.2.2.2.2 with
  | none => .code M.1 M.2.1 M.2.2.1 M.2.2.2.1
  | some hh => .codeWith M.1 M.2.1 M.2.2.1 M.2.2.2.1 hh
def g_ws (M : g_M) : List Cond := g_wc M :: GW
/-- words that want a lemma of their own to be carried along -/
def g_NW : List Cond := [.castable "java/lang/IllegalArgumentException" "java/lang/IllegalArgumentException", .castable "java/lang/IllegalStateException" "java/lang/IllegalStateException", .castable "java/lang/IndexOutOfBoundsException" "java/lang/IndexOutOfBoundsException", .castable "java/util/NoSuchElementException" "java/util/NoSuchElementException",
  .declares (Bundle.initS "java/lang/RuntimeException"), .declares (Bundle.initS "java/lang/Exception"), .declares (Bundle.initS Bundle.tN),
  .fieldLinkNest RX7 65 "HullyardSurveys$Yard" "points" "LHullyardSurveys$Row;" "HullyardSurveys", .fieldLinkNest RX7 234 "HullyardSurveys$Yard" "ends" "LHullyardSurveys$Row;" "HullyardSurveys", .methodLinkNest RX7 46 yX2_init "HullyardSurveys", .methodLinkNest RX7 53 yX0_init "HullyardSurveys"]
def g_ex : List String := ["java/lang/IllegalArgumentException", "java/lang/IllegalStateException", "java/lang/IndexOutOfBoundsException", "java/util/NoSuchElementException"]
/-- the class's own String constants -/
def g_strs : List (Nat × String) := [(289, "heap is out of range"), (291, "x or y is out of range"), (74, "60 points have come"), (296, "there is no such point"), (104, "what is out of range"), (112, "there is no such place"), (302, "the heap is empty"), (157, "there is no such layer"), (306, "polygon is out of range"), (165, "the polygon has no corners"), (300, "there is no such corner"), (198, "the figure has fewer than 3 corners"), (204, "the polygon has 16 corners"), (308, "the polygon is not simple"), (220, "there is no such triangle"), (232, "there are 20 lines"), (298, "there is no such line"), (244, "there is no such pair"), (304, "the heap has fewer than 2 points"), (259, "points is below 1"), (261, "the heap has not so many points"), (274, "no image was taken")]
/-- the script that the law is given: an old array of ints; where it lies and how long it is stands behind the slots' numbers (this layer's own use of D.2 9) -/
def scX (G : g_X) (U : State) : Prop := G.2.1.2 9 0 < G.2.2.2 ∧ G.2.1.2 9 0 < U.heap.size ∧ G.2.1.2 9 1 ≤ 260 ∧ ∃ xs : Nat → Int32, va_X (G.2.1.2 9 0) (G.2.1.2 9 1) xs U U.heap
def g_U (G : g_X) (U : State) : Prop := va_K G.2.1 vwCl (g_tys G) U ∧ vx_Zq Bundle.tN "UNASSIGNED_STACK" Bundle.steD (g_A G) U U.heap ∧ vx_Zq Bundle.tN "SUPPRESSED_SENTINEL" Bundle.listD (g_A G) U U.heap ∧ (∀ w ∈ g_NW, va_Nw w U) ∧ (∀ q ∈ g_strs, ∃ sa, vk_R RX7 q.1 q.2 sa U) ∧ True ∧ va_AO "HullyardSurveys$Row" U ∧ G.1.stackTraces = false ∧ scX G U
def g_Qc (G : g_X) (Z : g_Z) : Array Value → State → Outcome → State → Prop := fun _ st o t => (∃ (v : Option Value) (z : Option Nat) (h : g_hp), o = .returned v ∧ Z (.inl v) z h ∧ g_H G z h t.heap) ∧ va_F (g_A G) st t
def g_XC (G : g_X) (Z : g_Z) : String → State → State → Prop := fun E st t => (∃ (z : Option Nat) (h : g_hp), Z (.inr E) z h ∧ g_H G z h t.heap) ∧ va_F (g_A G) st t
def g_Pc (G : g_X) (av : List Value) (z : Option Nat) (h : g_hp) : Array Value → State → Prop := fun v U => v = av.toArray ∧ g_H G z h U.heap ∧ g_U G U
abbrev g_R (M : g_M) (mc ms : Nat) : Room := { frames := M.2.2.2.2.1.1, cells := mc, slots := ms, locals := M.2.2.2.2.1.2 }
/-- the contract of a method at one start: where it may end -/
def Run (G : g_X) (M : g_M) (av : List Value) (z : Option Nat) (h : g_hp) (mc ms : Nat) (Z : g_Z) : Prop :=
  vx_Met G.1 M.1 (g_ws M) (g_R M mc ms) (g_Pc G av z h) (g_Qc G Z) (g_XC G Z) mc ms (g_A G)
/-- the frame a body stands in -/
def g_C (G : g_X) (M : g_M) (p : Program) (e : Env) (s : State) (m : MethodId) (args : Array Value) (meth : Method) (c : Code) : Prop :=
  p.tables.exec = Jvm.exec ∧ c.code = M.2.1 ∧ c.maxLocals = M.2.2.1 ∧ meth.sig.returnType = M.2.2.2.1 ∧ meth.locks = false ∧ s.vm.findClass M.1.cls = some m.cls ∧ (∀ w ∈ GW, w.before args s = true) ∧ g_U G s ∧ meth.name = M.1.name ∧ c.exceptionTable.toList = tableOf (M.2.2.2.2.2.getD [])
abbrev g_Q : Type := List Frame → Array Value → State → State → Prop
abbrev g_E : Type := g_X × g_M × Room × g_Q
/-- the locals: the last value stored at a place, if nothing lay over it since -/
def g_lk (j : Nat) : List (Nat × Value) → Option Value
  | [] => none
  | (i, w) :: t => bif Nat.beq i j then some w else bif Nat.beq i (j + 1) then (match g_lk j t with
    | some v => bif Nat.beq v.category 2 then none else some v
    | none => none) else bif (Nat.beq (i + 1) j && Nat.beq w.category 2) then none else g_lk j t
def g_L (ls : Array Slot) (nL : Nat) (L : List (Nat × Value)) : Prop := ls.size = nL ∧ lv_wf ls ∧ ∀ j v, g_lk j L = some v → ls[j]? = some (.val v)
/-- from here the body comes to its end as Q has it -/
def Ev (C : g_E) (k n : Nat) (z : Option Nat) (h : g_hp) (pc : Nat) (L : List (Nat × Value)) (st : List Value) : Prop :=
  ∀ (p : Program) (e : Env) (s : State) (m : MethodId) (args : Array Value) (below : List Frame) (meth : Method) (c : Code) (H : Heap) (locs : List Loc) (ls : Array Slot),
    g_C C.1 C.2.1 p e s m args meth c → va_S (g_A C.1) s.heap H locs → g_H C.1 z h H → C.1.2.2.2 ≤ s.heap.size → g_L ls C.2.1.2.2.1 L →
    W p C.1.1 e C.2.2.1 s m args below meth c H locs k n (C.2.2.2 below args s) (F0 m pc ls st)
abbrev g_B (G : g_X) (M : g_M) (mc ms : Nat) (Z : g_Z) : g_E := (G, M, g_R M mc ms, fun below args s => vx_MQ below (g_Qc G Z) (g_XC G Z) args s mc ms (g_A G))
theorem g_L.at {ls : Array Slot} {nL : Nat} {L : List (Nat × Value)} (x : g_L ls nL L) {j : Nat} {v : Value} (e : g_lk j L = some v) : ls[j]? = some (.val v) := x.2.2 j v e
/-- all that is known of the locals, as the kit has it -/
def g_lv (nL : Nat) (L : List (Nat × Value)) : List (Nat × Value) := (List.range nL).filterMap (fun j => (g_lk j L).map (fun v => (j, v)))
theorem g_L.has {ls : Array Slot} {nL : Nat} {L : List (Nat × Value)} (x : g_L ls nL L) : lv_has ls nL (g_lv nL L) := by
  refine ⟨x.1, x.2.1, fun q hq => ?_⟩
  obtain ⟨j, -, hj⟩ := List.mem_filterMap.mp hq
  obtain ⟨v, hv, rfl⟩ := Option.map_eq_some_iff.mp hj
  exact x.2.2 j v hv
theorem g_lv_mem {nL : Nat} {L : List (Nat × Value)} {j : Nat} {v : Value} (e : g_lk j L = some v) (hj : j < nL) : (j, v) ∈ g_lv nL L := List.mem_filterMap.mpr ⟨j, List.mem_range.mpr hj, by rw [e]; rfl⟩
theorem g_L.lt {ls : Array Slot} {nL : Nat} {L : List (Nat × Value)} (x : g_L ls nL L) {j : Nat} {v : Value} (e : g_lk j L = some v) : j < nL := by
  have h := x.2.2 j v e
  have h2 := (Array.getElem?_eq_some_iff.mp h).1
  rw [← x.1]
  exact h2
theorem g_nb {a b : Nat} : Nat.beq a b = true ↔ a = b := ⟨Nat.eq_of_beq_eq_true, fun h => by subst h; exact Nat.beq_refl a⟩
theorem g_L.st1 {ls ls' : Array Slot} {nL i : Nat} {L : List (Nat × Value)} {v : Value} (x : g_L ls nL L) (h : lv_has ls' nL ((i, v) :: (g_lv nL L).filter (fun q => !(q.1 == i) && !(q.1 + 1 == i && q.2.category == 2)))) (hc : v.category = 1) : g_L ls' nL ((i, v) :: L) := by
  refine ⟨h.1, h.2.1, fun j w hj => ?_⟩
  unfold g_lk at hj
  by_cases c1 : i = j
  · rw [g_nb.mpr c1, cond_true] at hj
    cases hj
    subst c1
    exact h.2.2 (i, v) List.mem_cons_self
  · have e1 : Nat.beq i j = false := Bool.eq_false_iff.mpr (fun q => c1 (g_nb.mp q))
    rw [e1, cond_false] at hj
    have key : ∀ w', g_lk j L = some w' → (j + 1 = i → w'.category ≠ 2) → ls'[j]? = some (.val w') := fun w' hw hn =>
      h.2.2 (j, w') (List.mem_cons_of_mem _ (List.mem_filter.mpr ⟨g_lv_mem hw (x.lt hw), by
        have n1 : ¬ j = i := fun q => c1 q.symm
        by_cases c3 : j + 1 = i
        · have n2 := hn c3
          simp [n1, c3, n2]
        · simp [n1, c3]⟩))
    by_cases c2 : i = j + 1
    · rw [g_nb.mpr c2, cond_true] at hj
      cases hL : g_lk j L with
      | none => rw [hL] at hj; cases hj
      | some w' =>
        rw [hL] at hj
        by_cases c3 : w'.category = 2
        · have e3 : Nat.beq w'.category 2 = true := g_nb.mpr c3
          simp only [e3, cond_true] at hj
          cases hj
        · have e3 : Nat.beq w'.category 2 = false := Bool.eq_false_iff.mpr (fun q => c3 (g_nb.mp q))
          simp only [e3, cond_false] at hj
          cases hj
          exact key w hL (fun _ => c3)
    · have e2 : Nat.beq i (j + 1) = false := Bool.eq_false_iff.mpr (fun q => c2 (g_nb.mp q))
      have e4 : Nat.beq v.category 2 = false := by rw [hc]; rfl
      rw [e2, cond_false, e4, Bool.and_false, cond_false] at hj
      exact key w hj (fun q => absurd q.symm c2)
theorem g_L.st2 {ls ls' : Array Slot} {nL i : Nat} {L : List (Nat × Value)} {v : Value} (x : g_L ls nL L) (h : lv_has ls' nL ((i, v) :: (g_lv nL L).filter (fun q => !(q.1 == i) && (!(q.1 == i + 1) && !(q.1 + 1 == i && q.2.category == 2))))) (hc : v.category = 2) : g_L ls' nL ((i, v) :: L) := by
  refine ⟨h.1, h.2.1, fun j w hj => ?_⟩
  unfold g_lk at hj
  by_cases c1 : i = j
  · rw [g_nb.mpr c1, cond_true] at hj
    cases hj
    subst c1
    exact h.2.2 (i, v) List.mem_cons_self
  · have e1 : Nat.beq i j = false := Bool.eq_false_iff.mpr (fun q => c1 (g_nb.mp q))
    rw [e1, cond_false] at hj
    have key : ∀ w', g_lk j L = some w' → (j + 1 = i → w'.category ≠ 2) → ¬ j = i + 1 → ls'[j]? = some (.val w') := fun w' hw hn n3 =>
      h.2.2 (j, w') (List.mem_cons_of_mem _ (List.mem_filter.mpr ⟨g_lv_mem hw (x.lt hw), by
        have n1 : ¬ j = i := fun q => c1 q.symm
        by_cases c3 : j + 1 = i
        · have n2 := hn c3
          simp [n1, n3, c3, n2]
        · simp [n1, n3, c3]⟩))
    by_cases c2 : i = j + 1
    · rw [g_nb.mpr c2, cond_true] at hj
      cases hL : g_lk j L with
      | none => rw [hL] at hj; cases hj
      | some w' =>
        rw [hL] at hj
        by_cases c3 : w'.category = 2
        · have e3 : Nat.beq w'.category 2 = true := g_nb.mpr c3
          simp only [e3, cond_true] at hj
          cases hj
        · have e3 : Nat.beq w'.category 2 = false := Bool.eq_false_iff.mpr (fun q => c3 (g_nb.mp q))
          simp only [e3, cond_false] at hj
          cases hj
          exact key w hL (fun _ => c3) (by omega)
    · have e2 : Nat.beq i (j + 1) = false := Bool.eq_false_iff.mpr (fun q => c2 (g_nb.mp q))
      have e4 : Nat.beq v.category 2 = true := g_nb.mpr hc
      rw [e2, cond_false, e4, Bool.and_true] at hj
      by_cases c5 : i + 1 = j
      · rw [g_nb.mpr c5, cond_true] at hj
        cases hj
      · have e5 : Nat.beq (i + 1) j = false := Bool.eq_false_iff.mpr (fun q => c5 (g_nb.mp q))
        rw [e5, cond_false] at hj
        exact key w hj (fun q => absurd q.symm c2) (fun q => c5 q.symm)
end GEV
section GRULES
variable {C : g_E} {k n : Nat} {z : Option Nat} {h : g_hp} {pc : Nat} {L : List (Nat × Value)} {st : List Value}
abbrev g_cc (C : g_E) : ByteArray := C.2.1.2.1
theorem e_locals {L' : List (Nat × Value)} (hL : ∀ j v, g_lk j L' = some v → g_lk j L = some v) (kk : Ev C k n z h pc L' st) : Ev C k n z h pc L st :=
  fun p e s m args below meth c H locs ls hC hS hH hb hl => kk p e s m args below meth c H locs ls hC hS hH hb ⟨hl.1, hl.2.1, fun j v q => hl.2.2 j v (hL j v q)⟩
theorem e_lose (kk : Ev C k n none h pc L st) : Ev C k n z h pc L st :=
  fun p e s m args below meth c H locs ls hC hS hH hb hl => kk p e s m args below meth c H locs ls hC hS hH.lose hb hl
theorem e_sub {h' : g_hp} (w : ∀ a e, h' a = some e → h a = some e) (kk : Ev C k n z h' pc L st) : Ev C k n z h pc L st :=
  fun p e s m args below meth c H locs ls hC hS hH hb hl => kk p e s m args below meth c H locs ls hC hS (hH.sub w) hb hl
theorem e_cells {k' n' : Nat} (h1 : k ≤ k') (h2 : n ≤ n') (kk : Ev C k' n' z h pc L st) : Ev C k n z h pc L st :=
  fun p e s m args below meth c H locs ls hC hS hH hb hl => W.widen h1 h2 (kk p e s m args below meth c H locs ls hC hS hH hb hl)

theorem e_iload_n {i : Fin 4} {x : Int32} (hd : decode (g_cc C) pc = .ok (.iload_n i, 1)) (el : g_lk i L = some (.int x)) (kk : Ev C k n z h (pc + 1) L (.int x :: st)) : Ev C k n z h pc L st := by
  intro p e s m args below meth c H locs ls hC hS hH hb hl
  exact lv_iload_n hC.1 hC.2.1 hd rfl (hl.at el) (kk p e s m args below meth c H locs ls hC hS hH hb hl)
theorem e_iload {i : Nat} {x : Int32} (hd : decode (g_cc C) pc = .ok (.iload i, 2)) (el : g_lk i L = some (.int x)) (kk : Ev C k n z h (pc + 2) L (.int x :: st)) : Ev C k n z h pc L st := by
  intro p e s m args below meth c H locs ls hC hS hH hb hl
  exact lv_iload hC.1 hC.2.1 hd (hl.at el) (kk p e s m args below meth c H locs ls hC hS hH hb hl)
theorem e_lload_n {i : Fin 4} {x : Int64} (hd : decode (g_cc C) pc = .ok (.lload_n i, 1)) (el : g_lk i L = some (.long x)) (kk : Ev C k n z h (pc + 1) L (.long x :: st)) : Ev C k n z h pc L st := by
  intro p e s m args below meth c H locs ls hC hS hH hb hl
  exact lv_lload_n hC.1 hC.2.1 hd rfl (hl.at el) (kk p e s m args below meth c H locs ls hC hS hH hb hl)
theorem e_lload {i : Nat} {x : Int64} (hd : decode (g_cc C) pc = .ok (.lload i, 2)) (el : g_lk i L = some (.long x)) (kk : Ev C k n z h (pc + 2) L (.long x :: st)) : Ev C k n z h pc L st := by
  intro p e s m args below meth c H locs ls hC hS hH hb hl
  exact lv_lload hC.1 hC.2.1 hd (hl.at el) (kk p e s m args below meth c H locs ls hC hS hH hb hl)
theorem e_aload_n {i : Fin 4} {x : Nat} (hd : decode (g_cc C) pc = .ok (.aload_n i, 1)) (el : g_lk i L = some (.ref x)) (kk : Ev C k n z h (pc + 1) L (.ref x :: st)) : Ev C k n z h pc L st := by
  intro p e s m args below meth c H locs ls hC hS hH hb hl
  exact lv_aload_n hC.1 hC.2.1 hd rfl (hl.at el) (kk p e s m args below meth c H locs ls hC hS hH hb hl)
theorem e_aload {i : Nat} {x : Nat} (hd : decode (g_cc C) pc = .ok (.aload i, 2)) (el : g_lk i L = some (.ref x)) (kk : Ev C k n z h (pc + 2) L (.ref x :: st)) : Ev C k n z h pc L st := by
  intro p e s m args below meth c H locs ls hC hS hH hb hl
  exact lv_aload hC.1 hC.2.1 hd (hl.at el) (kk p e s m args below meth c H locs ls hC hS hH hb hl)
theorem e_dload_n {i : Fin 4} {x : UInt64} (hd : decode (g_cc C) pc = .ok (.dload_n i, 1)) (el : g_lk i L = some (.double x)) (kk : Ev C k n z h (pc + 1) L (.double x :: st)) : Ev C k n z h pc L st := by
  intro p e s m args below meth c H locs ls hC hS hH hb hl
  exact lv_dload_n hC.1 hC.2.1 hd rfl (hl.at el) (kk p e s m args below meth c H locs ls hC hS hH hb hl)
theorem e_dload {i : Nat} {x : UInt64} (hd : decode (g_cc C) pc = .ok (.dload i, 2)) (el : g_lk i L = some (.double x)) (kk : Ev C k n z h (pc + 2) L (.double x :: st)) : Ev C k n z h pc L st := by
  intro p e s m args below meth c H locs ls hC hS hH hb hl
  exact lv_dload hC.1 hC.2.1 hd (hl.at el) (kk p e s m args below meth c H locs ls hC hS hH hb hl)
theorem e_istore_n {i : Fin 4} {x : Int32} (hd : decode (g_cc C) pc = .ok (.istore_n i, 1)) (hi : Nat.ble ((i : Nat) + 1) C.2.1.2.2.1 = true) (kk : Ev C k n z h (pc + 1) (((i : Nat), .int x) :: L) st) : Ev C k n z h pc L (.int x :: st) := by
  intro p e s m args below meth c H locs ls hC hS hH hb hl
  exact lv_istore_n hC.1 hC.2.1 hd rfl hl.has (Nat.le_of_ble_eq_true hi) rfl (fun ls h1 => kk p e s m args below meth c H locs ls hC hS hH hb (hl.st1 h1 rfl))
theorem e_istore {i : Nat} {x : Int32} (hd : decode (g_cc C) pc = .ok (.istore i, 2)) (hi : Nat.ble (i + 1) C.2.1.2.2.1 = true) (kk : Ev C k n z h (pc + 2) ((i, .int x) :: L) st) : Ev C k n z h pc L (.int x :: st) := by
  intro p e s m args below meth c H locs ls hC hS hH hb hl
  exact lv_istore hC.1 hC.2.1 hd hl.has (Nat.le_of_ble_eq_true hi) rfl (fun ls h1 => kk p e s m args below meth c H locs ls hC hS hH hb (hl.st1 h1 rfl))
theorem e_lstore_n {i : Fin 4} {x : Int64} (hd : decode (g_cc C) pc = .ok (.lstore_n i, 1)) (hi : Nat.ble ((i : Nat) + 1 + 1) C.2.1.2.2.1 = true) (kk : Ev C k n z h (pc + 1) (((i : Nat), .long x) :: L) st) : Ev C k n z h pc L (.long x :: st) := by
  intro p e s m args below meth c H locs ls hC hS hH hb hl
  exact lv_lstore_n hC.1 hC.2.1 hd rfl hl.has (Nat.le_of_ble_eq_true hi) rfl (fun ls h1 => kk p e s m args below meth c H locs ls hC hS hH hb (hl.st2 h1 rfl))
theorem e_lstore {i : Nat} {x : Int64} (hd : decode (g_cc C) pc = .ok (.lstore i, 2)) (hi : Nat.ble (i + 1 + 1) C.2.1.2.2.1 = true) (kk : Ev C k n z h (pc + 2) ((i, .long x) :: L) st) : Ev C k n z h pc L (.long x :: st) := by
  intro p e s m args below meth c H locs ls hC hS hH hb hl
  exact lv_lstore hC.1 hC.2.1 hd hl.has (Nat.le_of_ble_eq_true hi) rfl (fun ls h1 => kk p e s m args below meth c H locs ls hC hS hH hb (hl.st2 h1 rfl))
theorem e_astore_n {i : Fin 4} {x : Nat} (hd : decode (g_cc C) pc = .ok (.astore_n i, 1)) (hi : Nat.ble ((i : Nat) + 1) C.2.1.2.2.1 = true) (kk : Ev C k n z h (pc + 1) (((i : Nat), .ref x) :: L) st) : Ev C k n z h pc L (.ref x :: st) := by
  intro p e s m args below meth c H locs ls hC hS hH hb hl
  exact lv_astore_n hC.1 hC.2.1 hd rfl hl.has (Nat.le_of_ble_eq_true hi) rfl (fun ls h1 => kk p e s m args below meth c H locs ls hC hS hH hb (hl.st1 h1 rfl))
theorem e_astore {i : Nat} {x : Nat} (hd : decode (g_cc C) pc = .ok (.astore i, 2)) (hi : Nat.ble (i + 1) C.2.1.2.2.1 = true) (kk : Ev C k n z h (pc + 2) ((i, .ref x) :: L) st) : Ev C k n z h pc L (.ref x :: st) := by
  intro p e s m args below meth c H locs ls hC hS hH hb hl
  exact lv_astore hC.1 hC.2.1 hd hl.has (Nat.le_of_ble_eq_true hi) rfl (fun ls h1 => kk p e s m args below meth c H locs ls hC hS hH hb (hl.st1 h1 rfl))
theorem e_dstore_n {i : Fin 4} {x : UInt64} (hd : decode (g_cc C) pc = .ok (.dstore_n i, 1)) (hi : Nat.ble ((i : Nat) + 1 + 1) C.2.1.2.2.1 = true) (kk : Ev C k n z h (pc + 1) (((i : Nat), .double x) :: L) st) : Ev C k n z h pc L (.double x :: st) := by
  intro p e s m args below meth c H locs ls hC hS hH hb hl
  exact lv_dstore_n hC.1 hC.2.1 hd rfl hl.has (Nat.le_of_ble_eq_true hi) rfl (fun ls h1 => kk p e s m args below meth c H locs ls hC hS hH hb (hl.st2 h1 rfl))
theorem e_dstore {i : Nat} {x : UInt64} (hd : decode (g_cc C) pc = .ok (.dstore i, 2)) (hi : Nat.ble (i + 1 + 1) C.2.1.2.2.1 = true) (kk : Ev C k n z h (pc + 2) ((i, .double x) :: L) st) : Ev C k n z h pc L (.double x :: st) := by
  intro p e s m args below meth c H locs ls hC hS hH hb hl
  exact lv_dstore hC.1 hC.2.1 hd hl.has (Nat.le_of_ble_eq_true hi) rfl (fun ls h1 => kk p e s m args below meth c H locs ls hC hS hH hb (hl.st2 h1 rfl))
theorem e_iinc {i : Nat} {d x : Int} (hd : decode (g_cc C) pc = .ok (.iinc i d, 3)) (e : g_lk i L = some (.int (iN x))) (kk : Ev C k n z h (pc + 3) ((i, .int (iN (x + d))) :: L) st) : Ev C k n z h pc L st := by
  intro p e0 s m args below meth c H locs ls hC hS hH hb hl
  obtain ⟨j, hj⟩ := List.getElem?_of_mem (g_lv_mem e (hl.lt e))
  exact lv_iinc hC.1 hC.2.1 hd hl.has hj (by rw [← iN_add]; rfl) (hl.lt e) rfl (fun ls h1 => kk p e0 s m args below meth c H locs ls hC hS hH hb (hl.st1 h1 rfl))
theorem e_iconst {v : Int} (hd : decode (g_cc C) pc = .ok (.iconst v, 1)) (kk : Ev C k n z h (pc + 1) L (.int (iN v) :: st)) : Ev C k n z h pc L st := by
  intro p e s m args below meth c H locs ls hC hS hH hb hl
  exact lv_iconst hC.1 hC.2.1 hd rfl (kk p e s m args below meth c H locs ls hC hS hH hb hl)
theorem e_bipush {v : Int} (hd : decode (g_cc C) pc = .ok (.bipush v, 2)) (hv : (Int8.ofInt v).toInt32 = iN v) (kk : Ev C k n z h (pc + 2) L (.int (iN v) :: st)) : Ev C k n z h pc L st := by
  intro p e s m args below meth c H locs ls hC hS hH hb hl
  exact lv_bipush hC.1 hC.2.1 hd hv (kk p e s m args below meth c H locs ls hC hS hH hb hl)
theorem e_sipush {v : Int} (hd : decode (g_cc C) pc = .ok (.sipush v, 3)) (hv : (Int16.ofInt v).toInt32 = iN v) (kk : Ev C k n z h (pc + 3) L (.int (iN v) :: st)) : Ev C k n z h pc L st := by
  intro p e s m args below meth c H locs ls hC hS hH hb hl
  exact lv_sipush hC.1 hC.2.1 hd hv (kk p e s m args below meth c H locs ls hC hS hH hb hl)
theorem e_lconst {v : Fin 2} (hd : decode (g_cc C) pc = .ok (.lconst v, 1)) (kk : Ev C k n z h (pc + 1) L (.long (lI (v : Nat)) :: st)) : Ev C k n z h pc L st := by
  intro p e s m args below meth c H locs ls hC hS hH hb hl
  exact lv_lconst hC.1 hC.2.1 hd (by rcases v with ⟨v, hv⟩; rcases (show v = 0 ∨ v = 1 by omega) with rfl | rfl <;> rfl) (kk p e s m args below meth c H locs ls hC hS hH hb hl)
theorem e_fconst0 (hd : decode (g_cc C) pc = .ok (.fconst 0, 1)) (kk : Ev C k n z h (pc + 1) L (.float FP.fconst0 :: st)) : Ev C k n z h pc L st := by
  intro p e s m args below meth c H locs ls hC hS hH hb hl
  exact lv_fconst0 hC.1 hC.2.1 hd (kk p e s m args below meth c H locs ls hC hS hH hb hl)
theorem e_dconst0 (hd : decode (g_cc C) pc = .ok (.dconst 0, 1)) (kk : Ev C k n z h (pc + 1) L (.double FP.dconst0 :: st)) : Ev C k n z h pc L st := by
  intro p e s m args below meth c H locs ls hC hS hH hb hl
  exact lv_dconst0 hC.1 hC.2.1 hd (kk p e s m args below meth c H locs ls hC hS hH hb hl)
theorem e_null (hd : decode (g_cc C) pc = .ok (.aconst_null, 1)) (kk : Ev C k n z h (pc + 1) L (.null :: st)) : Ev C k n z h pc L st := by
  intro p e s m args below meth c H locs ls hC hS hH hb hl
  exact lv_null hC.1 hC.2.1 hd (kk p e s m args below meth c H locs ls hC hS hH hb hl)
theorem e_iadd {x y : Int} (hd : decode (g_cc C) pc = .ok (.iadd, 1)) (kk : Ev C k n z h (pc + 1) L (.int (iN (x + y)) :: st)) : Ev C k n z h pc L (.int (iN y) :: .int (iN x) :: st) := by
  intro p e s m args below meth c H locs ls hC hS hH hb hl
  exact lv_iadd hC.1 hC.2.1 hd (by rw [iN_add]; exact kk p e s m args below meth c H locs ls hC hS hH hb hl)
theorem e_isub {x y : Int} (hd : decode (g_cc C) pc = .ok (.isub, 1)) (kk : Ev C k n z h (pc + 1) L (.int (iN (x - y)) :: st)) : Ev C k n z h pc L (.int (iN y) :: .int (iN x) :: st) := by
  intro p e s m args below meth c H locs ls hC hS hH hb hl
  exact lv_isub hC.1 hC.2.1 hd (by rw [iN_sub]; exact kk p e s m args below meth c H locs ls hC hS hH hb hl)
theorem e_imul {x y : Int} (hd : decode (g_cc C) pc = .ok (.imul, 1)) (kk : Ev C k n z h (pc + 1) L (.int (iN (x * y)) :: st)) : Ev C k n z h pc L (.int (iN y) :: .int (iN x) :: st) := by
  intro p e s m args below meth c H locs ls hC hS hH hb hl
  exact lv_imul hC.1 hC.2.1 hd (by rw [iN_mul]; exact kk p e s m args below meth c H locs ls hC hS hH hb hl)
theorem e_ladd {x y : Int} (hd : decode (g_cc C) pc = .ok (.ladd, 1)) (kk : Ev C k n z h (pc + 1) L (.long (lI (x + y)) :: st)) : Ev C k n z h pc L (.long (lI y) :: .long (lI x) :: st) := by
  intro p e s m args below meth c H locs ls hC hS hH hb hl
  exact lv_ladd hC.1 hC.2.1 hd (by rw [lI_add]; exact kk p e s m args below meth c H locs ls hC hS hH hb hl)
theorem e_lsub {x y : Int} (hd : decode (g_cc C) pc = .ok (.lsub, 1)) (kk : Ev C k n z h (pc + 1) L (.long (lI (x - y)) :: st)) : Ev C k n z h pc L (.long (lI y) :: .long (lI x) :: st) := by
  intro p e s m args below meth c H locs ls hC hS hH hb hl
  exact lv_lsub hC.1 hC.2.1 hd (by rw [lI_sub]; exact kk p e s m args below meth c H locs ls hC hS hH hb hl)
theorem e_lmul {x y : Int} (hd : decode (g_cc C) pc = .ok (.lmul, 1)) (kk : Ev C k n z h (pc + 1) L (.long (lI (x * y)) :: st)) : Ev C k n z h pc L (.long (lI y) :: .long (lI x) :: st) := by
  intro p e s m args below meth c H locs ls hC hS hH hb hl
  exact lv_lmul hC.1 hC.2.1 hd (by rw [lI_mul]; exact kk p e s m args below meth c H locs ls hC hS hH hb hl)
theorem e_ineg {x : Int} (hd : decode (g_cc C) pc = .ok (.ineg, 1)) (kk : Ev C k n z h (pc + 1) L (.int (iN (-x)) :: st)) : Ev C k n z h pc L (.int (iN x) :: st) := by
  intro p e s m args below meth c H locs ls hC hS hH hb hl
  exact lv_ineg hC.1 hC.2.1 hd (by rw [iN_neg]; exact kk p e s m args below meth c H locs ls hC hS hH hb hl)
theorem e_idiv {x y : Int} (hx : r32 x) (hy : r32 y) (h0 : y ≠ 0) (hd : decode (g_cc C) pc = .ok (.idiv, 1)) (kk : Ev C k n z h (pc + 1) L (.int (iN (x.tdiv y)) :: st)) : Ev C k n z h pc L (.int (iN y) :: .int (iN x) :: st) := by
  intro p e s m args below meth c H locs ls hC hS hH hb hl
  exact lv_idiv hC.1 hC.2.1 hd (fun q => h0 ((iN_eq hy r32_0).mp q)) (by rw [iN_tdiv hx hy]; exact kk p e s m args below meth c H locs ls hC hS hH hb hl)
theorem e_irem {x y : Int} (hx : r32 x) (hy : r32 y) (h0 : y ≠ 0) (hd : decode (g_cc C) pc = .ok (.irem, 1)) (kk : Ev C k n z h (pc + 1) L (.int (iN (x.tmod y)) :: st)) : Ev C k n z h pc L (.int (iN y) :: .int (iN x) :: st) := by
  intro p e s m args below meth c H locs ls hC hS hH hb hl
  exact lv_irem hC.1 hC.2.1 hd (fun q => h0 ((iN_eq hy r32_0).mp q)) (by rw [iN_tdiv hx hy, iN_mul, iN_sub, iN_tm]; exact kk p e s m args below meth c H locs ls hC hS hH hb hl)
theorem e_ldiv {x y : Int} (hx : r64 x) (hy : r64 y) (h0 : y ≠ 0) (hd : decode (g_cc C) pc = .ok (.ldiv, 1)) (kk : Ev C k n z h (pc + 1) L (.long (lI (x.tdiv y)) :: st)) : Ev C k n z h pc L (.long (lI y) :: .long (lI x) :: st) := by
  intro p e s m args below meth c H locs ls hC hS hH hb hl
  exact lv_ldiv hC.1 hC.2.1 hd (fun q => h0 ((lI_eq hy r64_0).mp q)) (by rw [lI_tdiv hx hy]; exact kk p e s m args below meth c H locs ls hC hS hH hb hl)
theorem e_lrem {x y : Int} (hx : r64 x) (hy : r64 y) (h0 : y ≠ 0) (hd : decode (g_cc C) pc = .ok (.lrem, 1)) (kk : Ev C k n z h (pc + 1) L (.long (lI (x.tmod y)) :: st)) : Ev C k n z h pc L (.long (lI y) :: .long (lI x) :: st) := by
  intro p e s m args below meth c H locs ls hC hS hH hb hl
  exact lv_lrem hC.1 hC.2.1 hd (fun q => h0 ((lI_eq hy r64_0).mp q)) (by rw [lI_tdiv hx hy, lI_mul, lI_sub, iN_tm]; exact kk p e s m args below meth c H locs ls hC hS hH hb hl)
theorem e_iand {x y : Int32} (hd : decode (g_cc C) pc = .ok (.iand, 1)) (kk : Ev C k n z h (pc + 1) L (.int (x &&& y) :: st)) : Ev C k n z h pc L (.int y :: .int x :: st) := by
  intro p e s m args below meth c H locs ls hC hS hH hb hl
  exact lv_iand hC.1 hC.2.1 hd (kk p e s m args below meth c H locs ls hC hS hH hb hl)
theorem e_i2l {x : Int} (hx : r32 x) (hd : decode (g_cc C) pc = .ok (.i2l, 1)) (kk : Ev C k n z h (pc + 1) L (.long (lI x) :: st)) : Ev C k n z h pc L (.int (iN x) :: st) := by
  intro p e s m args below meth c H locs ls hC hS hH hb hl
  exact lv_i2l hC.1 hC.2.1 hd (iN_i2l hx) (kk p e s m args below meth c H locs ls hC hS hH hb hl)
theorem e_l2i {x : Int} (hd : decode (g_cc C) pc = .ok (.l2i, 1)) (kk : Ev C k n z h (pc + 1) L (.int (iN x) :: st)) : Ev C k n z h pc L (.long (lI x) :: st) := by
  intro p e s m args below meth c H locs ls hC hS hH hb hl
  exact lv_l2i hC.1 hC.2.1 hd lI_l2i (kk p e s m args below meth c H locs ls hC hS hH hb hl)
theorem e_i2f {x : Int32} (hd : decode (g_cc C) pc = .ok (.i2f, 1)) (kk : Ev C k n z h (pc + 1) L (.float (FP.i2f x) :: st)) : Ev C k n z h pc L (.int x :: st) := by
  intro p e s m args below meth c H locs ls hC hS hH hb hl
  exact lv_i2f hC.1 hC.2.1 hd (kk p e s m args below meth c H locs ls hC hS hH hb hl)
theorem e_i2d {x : Int32} (hd : decode (g_cc C) pc = .ok (.i2d, 1)) (kk : Ev C k n z h (pc + 1) L (.double (FP.i2d x) :: st)) : Ev C k n z h pc L (.int x :: st) := by
  intro p e s m args below meth c H locs ls hC hS hH hb hl
  exact lv_i2d hC.1 hC.2.1 hd (kk p e s m args below meth c H locs ls hC hS hH hb hl)
theorem e_fdiv {x y : UInt32} (hn : vf_n32 (FP.fdiv x y)) (hd : decode (g_cc C) pc = .ok (.fdiv, 1)) (kk : Ev C k n z h (pc + 1) L (.float (FP.fdiv x y) :: st)) : Ev C k n z h pc L (.float y :: .float x :: st) := by
  intro p e s m args below meth c H locs ls hC hS hH hb hl
  exact lv_fdiv hC.1 hC.2.1 hd hn (kk p e s m args below meth c H locs ls hC hS hH hb hl)
theorem e_ddiv {x y : UInt64} (hn : vf_n64 (FP.ddiv x y)) (hd : decode (g_cc C) pc = .ok (.ddiv, 1)) (kk : Ev C k n z h (pc + 1) L (.double (FP.ddiv x y) :: st)) : Ev C k n z h pc L (.double y :: .double x :: st) := by
  intro p e s m args below meth c H locs ls hC hS hH hb hl
  exact lv_ddiv hC.1 hC.2.1 hd hn (kk p e s m args below meth c H locs ls hC hS hH hb hl)
theorem e_f2d {x : UInt32} (hn : vf_n64 (FP.f2d x)) (hd : decode (g_cc C) pc = .ok (.f2d, 1)) (kk : Ev C k n z h (pc + 1) L (.double (FP.f2d x) :: st)) : Ev C k n z h pc L (.float x :: st) := by
  intro p e s m args below meth c H locs ls hC hS hH hb hl
  exact lv_f2d hC.1 hC.2.1 hd hn (kk p e s m args below meth c H locs ls hC hS hH hb hl)
theorem e_dcmp {x y : UInt64} {op : CmpOp} (hd : decode (g_cc C) pc = .ok (.dcmp op, 1)) (kk : Ev C k n z h (pc + 1) L (.int (Op.cmpValue (FP.dcmp x y) op) :: st)) : Ev C k n z h pc L (.double y :: .double x :: st) := by
  intro p e s m args below meth c H locs ls hC hS hH hb hl
  exact lv_dcmp hC.1 hC.2.1 hd (kk p e s m args below meth c H locs ls hC hS hH hb hl)
theorem e_dup {a : Value} (hd : decode (g_cc C) pc = .ok (.dup, 1)) (ha : a.category = 1) (kk : Ev C k n z h (pc + 1) L (a :: a :: st)) : Ev C k n z h pc L (a :: st) := by
  intro p e s m args below meth c H locs ls hC hS hH hb hl
  exact lv_dup hC.1 hC.2.1 hd ha (kk p e s m args below meth c H locs ls hC hS hH hb hl)
theorem e_dup2 {a b : Value} (hd : decode (g_cc C) pc = .ok (.dup2, 1)) (ha : a.category = 1) (hb2 : b.category = 1) (kk : Ev C k n z h (pc + 1) L (a :: b :: a :: b :: st)) : Ev C k n z h pc L (a :: b :: st) := by
  intro p e s m args below meth c H locs ls hC hS hH hb hl
  exact lv_dup2_11 hC.1 hC.2.1 hd ha hb2 (kk p e s m args below meth c H locs ls hC hS hH hb hl)
theorem e_pop {a : Value} (hd : decode (g_cc C) pc = .ok (.pop, 1)) (ha : a.category = 1) (kk : Ev C k n z h (pc + 1) L st) : Ev C k n z h pc L (a :: st) := by
  intro p e s m args below meth c H locs ls hC hS hH hb hl
  exact lv_pop hC.1 hC.2.1 hd ha (kk p e s m args below meth c H locs ls hC hS hH hb hl)
theorem e_goto {off : Int} {tgt : Nat} (hd : decode (g_cc C) pc = .ok (.goto off, 3)) (ht : (pc : Int) + off = (tgt : Int)) (kk : Ev C k n z h tgt L st) : Ev C k n z h pc L st := by
  intro p e s m args below meth c H locs ls hC hS hH hb hl
  exact lv_goto hC.1 hC.2.1 hd ht (kk p e s m args below meth c H locs ls hC hS hH hb hl)
theorem e_icmp_eq {x y : Int} {off : Int} {tgt : Nat} (hx : r32 x) (hy : r32 y) (hd : decode (g_cc C) pc = .ok (.if_icmp .eq off, 3)) (ht : (pc : Int) + off = (tgt : Int)) (kt : x = y → Ev C k n z h tgt L st) (kf : ¬ (x = y) → Ev C k n z h (pc + 3) L st) : Ev C k n z h pc L (.int (iN y) :: .int (iN x) :: st) := by
  intro p e s m args below meth c H locs ls hC hS hH hb hl
  have e1 := iN_lt hx hy
  have e2 := iN_lt hy hx
  have e3 := iN_le hx hy
  have e4 := iN_le hy hx
  have e5 := iN_eq hx hy
  refine lv_icmp_eq hC.1 hC.2.1 hd ht (fun q => kt ?_ p e s m args below meth c H locs ls hC hS hH hb hl) (fun q => kf ?_ p e s m args below meth c H locs ls hC hS hH hb hl)
  · first | exact e1.mp q | exact e2.mp q | exact e3.mp q | exact e4.mp q | exact e5.mp q | exact fun t => q (e5.mpr t)
  · first | exact fun t => q (e1.mpr t) | exact fun t => q (e2.mpr t) | exact fun t => q (e3.mpr t) | exact fun t => q (e4.mpr t) | exact fun t => q (e5.mpr t) | exact fun t => t (e5.mp q) | exact fun t => q (fun t2 => t (e5.mp t2))
theorem e_icmp_ne {x y : Int} {off : Int} {tgt : Nat} (hx : r32 x) (hy : r32 y) (hd : decode (g_cc C) pc = .ok (.if_icmp .ne off, 3)) (ht : (pc : Int) + off = (tgt : Int)) (kt : ¬ x = y → Ev C k n z h tgt L st) (kf : ¬ (¬ x = y) → Ev C k n z h (pc + 3) L st) : Ev C k n z h pc L (.int (iN y) :: .int (iN x) :: st) := by
  intro p e s m args below meth c H locs ls hC hS hH hb hl
  have e1 := iN_lt hx hy
  have e2 := iN_lt hy hx
  have e3 := iN_le hx hy
  have e4 := iN_le hy hx
  have e5 := iN_eq hx hy
  refine lv_icmp_ne hC.1 hC.2.1 hd ht (fun q => kt ?_ p e s m args below meth c H locs ls hC hS hH hb hl) (fun q => kf ?_ p e s m args below meth c H locs ls hC hS hH hb hl)
  · first | exact e1.mp q | exact e2.mp q | exact e3.mp q | exact e4.mp q | exact e5.mp q | exact fun t => q (e5.mpr t)
  · first | exact fun t => q (e1.mpr t) | exact fun t => q (e2.mpr t) | exact fun t => q (e3.mpr t) | exact fun t => q (e4.mpr t) | exact fun t => q (e5.mpr t) | exact fun t => t (e5.mp q) | exact fun t => q (fun t2 => t (e5.mp t2))
theorem e_icmp_lt {x y : Int} {off : Int} {tgt : Nat} (hx : r32 x) (hy : r32 y) (hd : decode (g_cc C) pc = .ok (.if_icmp .lt off, 3)) (ht : (pc : Int) + off = (tgt : Int)) (kt : x < y → Ev C k n z h tgt L st) (kf : ¬ (x < y) → Ev C k n z h (pc + 3) L st) : Ev C k n z h pc L (.int (iN y) :: .int (iN x) :: st) := by
  intro p e s m args below meth c H locs ls hC hS hH hb hl
  have e1 := iN_lt hx hy
  have e2 := iN_lt hy hx
  have e3 := iN_le hx hy
  have e4 := iN_le hy hx
  have e5 := iN_eq hx hy
  refine lv_icmp_lt hC.1 hC.2.1 hd ht (fun q => kt ?_ p e s m args below meth c H locs ls hC hS hH hb hl) (fun q => kf ?_ p e s m args below meth c H locs ls hC hS hH hb hl)
  · first | exact e1.mp q | exact e2.mp q | exact e3.mp q | exact e4.mp q | exact e5.mp q | exact fun t => q (e5.mpr t)
  · first | exact fun t => q (e1.mpr t) | exact fun t => q (e2.mpr t) | exact fun t => q (e3.mpr t) | exact fun t => q (e4.mpr t) | exact fun t => q (e5.mpr t) | exact fun t => t (e5.mp q) | exact fun t => q (fun t2 => t (e5.mp t2))
theorem e_icmp_ge {x y : Int} {off : Int} {tgt : Nat} (hx : r32 x) (hy : r32 y) (hd : decode (g_cc C) pc = .ok (.if_icmp .ge off, 3)) (ht : (pc : Int) + off = (tgt : Int)) (kt : y ≤ x → Ev C k n z h tgt L st) (kf : ¬ (y ≤ x) → Ev C k n z h (pc + 3) L st) : Ev C k n z h pc L (.int (iN y) :: .int (iN x) :: st) := by
  intro p e s m args below meth c H locs ls hC hS hH hb hl
  have e1 := iN_lt hx hy
  have e2 := iN_lt hy hx
  have e3 := iN_le hx hy
  have e4 := iN_le hy hx
  have e5 := iN_eq hx hy
  refine lv_icmp_ge hC.1 hC.2.1 hd ht (fun q => kt ?_ p e s m args below meth c H locs ls hC hS hH hb hl) (fun q => kf ?_ p e s m args below meth c H locs ls hC hS hH hb hl)
  · first | exact e1.mp q | exact e2.mp q | exact e3.mp q | exact e4.mp q | exact e5.mp q | exact fun t => q (e5.mpr t)
  · first | exact fun t => q (e1.mpr t) | exact fun t => q (e2.mpr t) | exact fun t => q (e3.mpr t) | exact fun t => q (e4.mpr t) | exact fun t => q (e5.mpr t) | exact fun t => t (e5.mp q) | exact fun t => q (fun t2 => t (e5.mp t2))
theorem e_icmp_gt {x y : Int} {off : Int} {tgt : Nat} (hx : r32 x) (hy : r32 y) (hd : decode (g_cc C) pc = .ok (.if_icmp .gt off, 3)) (ht : (pc : Int) + off = (tgt : Int)) (kt : y < x → Ev C k n z h tgt L st) (kf : ¬ (y < x) → Ev C k n z h (pc + 3) L st) : Ev C k n z h pc L (.int (iN y) :: .int (iN x) :: st) := by
  intro p e s m args below meth c H locs ls hC hS hH hb hl
  have e1 := iN_lt hx hy
  have e2 := iN_lt hy hx
  have e3 := iN_le hx hy
  have e4 := iN_le hy hx
  have e5 := iN_eq hx hy
  refine lv_icmp_gt hC.1 hC.2.1 hd ht (fun q => kt ?_ p e s m args below meth c H locs ls hC hS hH hb hl) (fun q => kf ?_ p e s m args below meth c H locs ls hC hS hH hb hl)
  · first | exact e1.mp q | exact e2.mp q | exact e3.mp q | exact e4.mp q | exact e5.mp q | exact fun t => q (e5.mpr t)
  · first | exact fun t => q (e1.mpr t) | exact fun t => q (e2.mpr t) | exact fun t => q (e3.mpr t) | exact fun t => q (e4.mpr t) | exact fun t => q (e5.mpr t) | exact fun t => t (e5.mp q) | exact fun t => q (fun t2 => t (e5.mp t2))
theorem e_icmp_le {x y : Int} {off : Int} {tgt : Nat} (hx : r32 x) (hy : r32 y) (hd : decode (g_cc C) pc = .ok (.if_icmp .le off, 3)) (ht : (pc : Int) + off = (tgt : Int)) (kt : x ≤ y → Ev C k n z h tgt L st) (kf : ¬ (x ≤ y) → Ev C k n z h (pc + 3) L st) : Ev C k n z h pc L (.int (iN y) :: .int (iN x) :: st) := by
  intro p e s m args below meth c H locs ls hC hS hH hb hl
  have e1 := iN_lt hx hy
  have e2 := iN_lt hy hx
  have e3 := iN_le hx hy
  have e4 := iN_le hy hx
  have e5 := iN_eq hx hy
  refine lv_icmp_le hC.1 hC.2.1 hd ht (fun q => kt ?_ p e s m args below meth c H locs ls hC hS hH hb hl) (fun q => kf ?_ p e s m args below meth c H locs ls hC hS hH hb hl)
  · first | exact e1.mp q | exact e2.mp q | exact e3.mp q | exact e4.mp q | exact e5.mp q | exact fun t => q (e5.mpr t)
  · first | exact fun t => q (e1.mpr t) | exact fun t => q (e2.mpr t) | exact fun t => q (e3.mpr t) | exact fun t => q (e4.mpr t) | exact fun t => q (e5.mpr t) | exact fun t => t (e5.mp q) | exact fun t => q (fun t2 => t (e5.mp t2))
theorem e_if_eq {x : Int} {off : Int} {tgt : Nat} (hx : r32 x) (hd : decode (g_cc C) pc = .ok (.ifCond .eq off, 3)) (ht : (pc : Int) + off = (tgt : Int)) (kt : x = 0 → Ev C k n z h tgt L st) (kf : ¬ (x = 0) → Ev C k n z h (pc + 3) L st) : Ev C k n z h pc L (.int (iN x) :: st) := by
  intro p e s m args below meth c H locs ls hC hS hH hb hl
  have e1 := iN_lt hx r32_0
  have e2 := iN_lt r32_0 hx
  have e3 := iN_le hx r32_0
  have e4 := iN_le r32_0 hx
  have e5 := iN_eq hx r32_0
  refine lv_if_eq hC.1 hC.2.1 hd ht (fun q => kt ?_ p e s m args below meth c H locs ls hC hS hH hb hl) (fun q => kf ?_ p e s m args below meth c H locs ls hC hS hH hb hl)
  · first | exact e1.mp q | exact e2.mp q | exact e3.mp q | exact e4.mp q | exact e5.mp q | exact fun t => q (e5.mpr t)
  · first | exact fun t => q (e1.mpr t) | exact fun t => q (e2.mpr t) | exact fun t => q (e3.mpr t) | exact fun t => q (e4.mpr t) | exact fun t => q (e5.mpr t) | exact fun t => t (e5.mp q) | exact fun t => q (fun t2 => t (e5.mp t2))
theorem e_if_ne {x : Int} {off : Int} {tgt : Nat} (hx : r32 x) (hd : decode (g_cc C) pc = .ok (.ifCond .ne off, 3)) (ht : (pc : Int) + off = (tgt : Int)) (kt : ¬ x = 0 → Ev C k n z h tgt L st) (kf : ¬ (¬ x = 0) → Ev C k n z h (pc + 3) L st) : Ev C k n z h pc L (.int (iN x) :: st) := by
  intro p e s m args below meth c H locs ls hC hS hH hb hl
  have e1 := iN_lt hx r32_0
  have e2 := iN_lt r32_0 hx
  have e3 := iN_le hx r32_0
  have e4 := iN_le r32_0 hx
  have e5 := iN_eq hx r32_0
  refine lv_if_ne hC.1 hC.2.1 hd ht (fun q => kt ?_ p e s m args below meth c H locs ls hC hS hH hb hl) (fun q => kf ?_ p e s m args below meth c H locs ls hC hS hH hb hl)
  · first | exact e1.mp q | exact e2.mp q | exact e3.mp q | exact e4.mp q | exact e5.mp q | exact fun t => q (e5.mpr t)
  · first | exact fun t => q (e1.mpr t) | exact fun t => q (e2.mpr t) | exact fun t => q (e3.mpr t) | exact fun t => q (e4.mpr t) | exact fun t => q (e5.mpr t) | exact fun t => t (e5.mp q) | exact fun t => q (fun t2 => t (e5.mp t2))
theorem e_if_lt {x : Int} {off : Int} {tgt : Nat} (hx : r32 x) (hd : decode (g_cc C) pc = .ok (.ifCond .lt off, 3)) (ht : (pc : Int) + off = (tgt : Int)) (kt : x < 0 → Ev C k n z h tgt L st) (kf : ¬ (x < 0) → Ev C k n z h (pc + 3) L st) : Ev C k n z h pc L (.int (iN x) :: st) := by
  intro p e s m args below meth c H locs ls hC hS hH hb hl
  have e1 := iN_lt hx r32_0
  have e2 := iN_lt r32_0 hx
  have e3 := iN_le hx r32_0
  have e4 := iN_le r32_0 hx
  have e5 := iN_eq hx r32_0
  refine lv_if_lt hC.1 hC.2.1 hd ht (fun q => kt ?_ p e s m args below meth c H locs ls hC hS hH hb hl) (fun q => kf ?_ p e s m args below meth c H locs ls hC hS hH hb hl)
  · first | exact e1.mp q | exact e2.mp q | exact e3.mp q | exact e4.mp q | exact e5.mp q | exact fun t => q (e5.mpr t)
  · first | exact fun t => q (e1.mpr t) | exact fun t => q (e2.mpr t) | exact fun t => q (e3.mpr t) | exact fun t => q (e4.mpr t) | exact fun t => q (e5.mpr t) | exact fun t => t (e5.mp q) | exact fun t => q (fun t2 => t (e5.mp t2))
theorem e_if_ge {x : Int} {off : Int} {tgt : Nat} (hx : r32 x) (hd : decode (g_cc C) pc = .ok (.ifCond .ge off, 3)) (ht : (pc : Int) + off = (tgt : Int)) (kt : 0 ≤ x → Ev C k n z h tgt L st) (kf : ¬ (0 ≤ x) → Ev C k n z h (pc + 3) L st) : Ev C k n z h pc L (.int (iN x) :: st) := by
  intro p e s m args below meth c H locs ls hC hS hH hb hl
  have e1 := iN_lt hx r32_0
  have e2 := iN_lt r32_0 hx
  have e3 := iN_le hx r32_0
  have e4 := iN_le r32_0 hx
  have e5 := iN_eq hx r32_0
  refine lv_if_ge hC.1 hC.2.1 hd ht (fun q => kt ?_ p e s m args below meth c H locs ls hC hS hH hb hl) (fun q => kf ?_ p e s m args below meth c H locs ls hC hS hH hb hl)
  · first | exact e1.mp q | exact e2.mp q | exact e3.mp q | exact e4.mp q | exact e5.mp q | exact fun t => q (e5.mpr t)
  · first | exact fun t => q (e1.mpr t) | exact fun t => q (e2.mpr t) | exact fun t => q (e3.mpr t) | exact fun t => q (e4.mpr t) | exact fun t => q (e5.mpr t) | exact fun t => t (e5.mp q) | exact fun t => q (fun t2 => t (e5.mp t2))
theorem e_if_gt {x : Int} {off : Int} {tgt : Nat} (hx : r32 x) (hd : decode (g_cc C) pc = .ok (.ifCond .gt off, 3)) (ht : (pc : Int) + off = (tgt : Int)) (kt : 0 < x → Ev C k n z h tgt L st) (kf : ¬ (0 < x) → Ev C k n z h (pc + 3) L st) : Ev C k n z h pc L (.int (iN x) :: st) := by
  intro p e s m args below meth c H locs ls hC hS hH hb hl
  have e1 := iN_lt hx r32_0
  have e2 := iN_lt r32_0 hx
  have e3 := iN_le hx r32_0
  have e4 := iN_le r32_0 hx
  have e5 := iN_eq hx r32_0
  refine lv_if_gt hC.1 hC.2.1 hd ht (fun q => kt ?_ p e s m args below meth c H locs ls hC hS hH hb hl) (fun q => kf ?_ p e s m args below meth c H locs ls hC hS hH hb hl)
  · first | exact e1.mp q | exact e2.mp q | exact e3.mp q | exact e4.mp q | exact e5.mp q | exact fun t => q (e5.mpr t)
  · first | exact fun t => q (e1.mpr t) | exact fun t => q (e2.mpr t) | exact fun t => q (e3.mpr t) | exact fun t => q (e4.mpr t) | exact fun t => q (e5.mpr t) | exact fun t => t (e5.mp q) | exact fun t => q (fun t2 => t (e5.mp t2))
theorem e_if_le {x : Int} {off : Int} {tgt : Nat} (hx : r32 x) (hd : decode (g_cc C) pc = .ok (.ifCond .le off, 3)) (ht : (pc : Int) + off = (tgt : Int)) (kt : x ≤ 0 → Ev C k n z h tgt L st) (kf : ¬ (x ≤ 0) → Ev C k n z h (pc + 3) L st) : Ev C k n z h pc L (.int (iN x) :: st) := by
  intro p e s m args below meth c H locs ls hC hS hH hb hl
  have e1 := iN_lt hx r32_0
  have e2 := iN_lt r32_0 hx
  have e3 := iN_le hx r32_0
  have e4 := iN_le r32_0 hx
  have e5 := iN_eq hx r32_0
  refine lv_if_le hC.1 hC.2.1 hd ht (fun q => kt ?_ p e s m args below meth c H locs ls hC hS hH hb hl) (fun q => kf ?_ p e s m args below meth c H locs ls hC hS hH hb hl)
  · first | exact e1.mp q | exact e2.mp q | exact e3.mp q | exact e4.mp q | exact e5.mp q | exact fun t => q (e5.mpr t)
  · first | exact fun t => q (e1.mpr t) | exact fun t => q (e2.mpr t) | exact fun t => q (e3.mpr t) | exact fun t => q (e4.mpr t) | exact fun t => q (e5.mpr t) | exact fun t => t (e5.mp q) | exact fun t => q (fun t2 => t (e5.mp t2))
theorem e_lcmp {x y : Int} (hx : r64 x) (hy : r64 y) (hd : decode (g_cc C) pc = .ok (.lcmp, 1)) (kk : Ev C k n z h (pc + 1) L (.int (iN (if x < y then -1 else if x = y then 0 else 1)) :: st)) : Ev C k n z h pc L (.long (lI y) :: .long (lI x) :: st) := by
  intro p e s m args below meth c H locs ls hC hS hH hb hl
  refine W.lcmp hC.1 hC.2.1 hd ?_
  rw [lg_cmp_lI hx hy]
  exact kk p e s m args below meth c H locs ls hC hS hH hb hl
theorem e_ifnonnull {x : Nat} {off : Int} {tgt : Nat} (hd : decode (g_cc C) pc = .ok (.ifnonnull off, 3)) (ht : (pc : Int) + off = (tgt : Int)) (kk : Ev C k n z h tgt L st) : Ev C k n z h pc L (.ref x :: st) := by
  intro p e s m args below meth c H locs ls hC hS hH hb hl
  exact lv_ifnonnull hC.1 hC.2.1 hd ht (kk p e s m args below meth c H locs ls hC hS hH hb hl)
theorem e_tableIn {dflt lo hi : Int} {offs : Array Int} {len : Nat} {x : Int32} {off : Int} {tgt : Nat} (hd : decode (g_cc C) pc = .ok (.tableswitch dflt lo hi offs, len)) (h1 : ¬ x.toInt < lo) (h2 : ¬ hi < x.toInt) (ho : offs[(x.toInt - lo).toNat]? = some off) (ht : (pc : Int) + off = (tgt : Int)) (kk : Ev C k n z h tgt L st) : Ev C k n z h pc L (.int x :: st) := by
  intro p e s m args below meth c H locs ls hC hS hH hb hl
  exact lv_tableIn hC.1 hC.2.1 hd h1 h2 ho ht (kk p e s m args below meth c H locs ls hC hS hH hb hl)
theorem e_tableOut {dflt lo hi : Int} {offs : Array Int} {len : Nat} {x : Int32} {tgt : Nat} (hd : decode (g_cc C) pc = .ok (.tableswitch dflt lo hi offs, len)) (h1 : x.toInt < lo ∨ hi < x.toInt) (ht : (pc : Int) + dflt = (tgt : Int)) (kk : Ev C k n z h tgt L st) : Ev C k n z h pc L (.int x :: st) := by
  intro p e s m args below meth c H locs ls hC hS hH hb hl
  exact lv_tableOut hC.1 hC.2.1 hd h1 ht (kk p e s m args below meth c H locs ls hC hS hH hb hl)
end GRULES
