section
-- ===== PART A: goes FIRST, ahead of the names: the tables' words, and 'selects' of the private methods out of them =====
/-- a private method of a class that the tables say can be made, by its rows of tables_1 -/
def lw_okq (q : MethodName × Nat) : Prop := (q.1.cls ≠ "java/lang/invoke/MethodHandle" ∧ q.1.cls ≠ "java/lang/invoke/VarHandle") ∧ Cond.instantiable q.1.cls q.2 ∈ tables_1 ∧ Cond.privateMethod q.1 ∈ tables_1 ∧ Cond.instanceMethod q.1 ∈ tables_1
theorem lw_p0 : lw_okq (⟨"java/lang/Throwable", "fillInStackTrace", "(I)Ljava/lang/Throwable;"⟩, 6) := ⟨⟨by decide +kernel, by decide +kernel⟩, List.mem_of_getElem? (i := 320) (by decide +kernel), List.mem_of_getElem? (i := 318) (by decide +kernel), List.mem_of_getElem? (i := 319) (by decide +kernel)⟩
theorem lw_p1 : lw_okq (⟨"Slewyard$Crane", "sweepsOn", "(LSlewyard$Crane;I)Z"⟩, 16) := ⟨⟨by decide +kernel, by decide +kernel⟩, List.mem_of_getElem? (i := 104) (by decide +kernel), List.mem_of_getElem? (i := 449) (by decide +kernel), List.mem_of_getElem? (i := 450) (by decide +kernel)⟩
theorem lw_p2 : lw_okq (⟨"Slewyard$Plans", "takersOf", "(LSlewyard$Crane;)I"⟩, 6) := ⟨⟨by decide +kernel, by decide +kernel⟩, List.mem_of_getElem? (i := 240) (by decide +kernel), List.mem_of_getElem? (i := 476) (by decide +kernel), List.mem_of_getElem? (i := 477) (by decide +kernel)⟩
theorem lw_p3 : lw_okq (⟨"Slewyard$Plans", "canLift", "(LSlewyard$Crane;II)Z"⟩, 6) := ⟨⟨by decide +kernel, by decide +kernel⟩, List.mem_of_getElem? (i := 240) (by decide +kernel), List.mem_of_getElem? (i := 484) (by decide +kernel), List.mem_of_getElem? (i := 485) (by decide +kernel)⟩
theorem lw_p4 : lw_okq (⟨"Slewyard$Plans", "nextToGo", "(I)I"⟩, 6) := ⟨⟨by decide +kernel, by decide +kernel⟩, List.mem_of_getElem? (i := 240) (by decide +kernel), List.mem_of_getElem? (i := 497) (by decide +kernel), List.mem_of_getElem? (i := 498) (by decide +kernel)⟩
theorem lw_p5 : lw_okq (⟨"Slewyard", "needCrane", "(I)LSlewyard$Crane;"⟩, 3) := ⟨⟨by decide +kernel, by decide +kernel⟩, List.mem_of_getElem? (i := 26) (by decide +kernel), List.mem_of_getElem? (i := 516) (by decide +kernel), List.mem_of_getElem? (i := 517) (by decide +kernel)⟩
theorem lw_p6 : lw_okq (⟨"Slewyard", "needCell", "(I)V"⟩, 3) := ⟨⟨by decide +kernel, by decide +kernel⟩, List.mem_of_getElem? (i := 26) (by decide +kernel), List.mem_of_getElem? (i := 560) (by decide +kernel), List.mem_of_getElem? (i := 561) (by decide +kernel)⟩
theorem lw_p7 : lw_okq (⟨"java/util/ArrayList", "add", "(Ljava/lang/Object;[Ljava/lang/Object;I)V"⟩, 3) := ⟨⟨by decide +kernel, by decide +kernel⟩, List.mem_of_getElem? (i := 59) (by decide +kernel), List.mem_of_getElem? (i := 647) (by decide +kernel), List.mem_of_getElem? (i := 648) (by decide +kernel)⟩
theorem lw_p8 : lw_okq (⟨"java/util/ArrayList", "grow", "()[Ljava/lang/Object;"⟩, 3) := ⟨⟨by decide +kernel, by decide +kernel⟩, List.mem_of_getElem? (i := 59) (by decide +kernel), List.mem_of_getElem? (i := 651) (by decide +kernel), List.mem_of_getElem? (i := 652) (by decide +kernel)⟩
theorem lw_p9 : lw_okq (⟨"java/util/ArrayList", "grow", "(I)[Ljava/lang/Object;"⟩, 3) := ⟨⟨by decide +kernel, by decide +kernel⟩, List.mem_of_getElem? (i := 59) (by decide +kernel), List.mem_of_getElem? (i := 655) (by decide +kernel), List.mem_of_getElem? (i := 656) (by decide +kernel)⟩
theorem lw_p10 : lw_okq (⟨"Slewyard$Plans", "assume", "(I)V"⟩, 6) := ⟨⟨by decide +kernel, by decide +kernel⟩, List.mem_of_getElem? (i := 240) (by decide +kernel), List.mem_of_getElem? (i := 964) (by decide +kernel), List.mem_of_getElem? (i := 965) (by decide +kernel)⟩
def lw_privs_1 : List (MethodName × Nat) := [(⟨"java/lang/Throwable", "fillInStackTrace", "(I)Ljava/lang/Throwable;"⟩, 6), (⟨"Slewyard$Crane", "sweepsOn", "(LSlewyard$Crane;I)Z"⟩, 16), (⟨"Slewyard$Plans", "takersOf", "(LSlewyard$Crane;)I"⟩, 6), (⟨"Slewyard$Plans", "canLift", "(LSlewyard$Crane;II)Z"⟩, 6), (⟨"Slewyard$Plans", "nextToGo", "(I)I"⟩, 6), (⟨"Slewyard", "needCrane", "(I)LSlewyard$Crane;"⟩, 3), (⟨"Slewyard", "needCell", "(I)V"⟩, 3), (⟨"java/util/ArrayList", "add", "(Ljava/lang/Object;[Ljava/lang/Object;I)V"⟩, 3), (⟨"java/util/ArrayList", "grow", "()[Ljava/lang/Object;"⟩, 3), (⟨"java/util/ArrayList", "grow", "(I)[Ljava/lang/Object;"⟩, 3), (⟨"Slewyard$Plans", "assume", "(I)V"⟩, 6)]
theorem lw_r1 : ∀ q ∈ lw_privs_1, lw_okq q := List.forall_mem_cons.mpr ⟨lw_p0, List.forall_mem_cons.mpr ⟨lw_p1, List.forall_mem_cons.mpr ⟨lw_p2, List.forall_mem_cons.mpr ⟨lw_p3, List.forall_mem_cons.mpr ⟨lw_p4, List.forall_mem_cons.mpr ⟨lw_p5, List.forall_mem_cons.mpr ⟨lw_p6, List.forall_mem_cons.mpr ⟨lw_p7, List.forall_mem_cons.mpr ⟨lw_p8, List.forall_mem_cons.mpr ⟨lw_p9, List.forall_mem_cons.mpr ⟨lw_p10, fun _ h => absurd h List.not_mem_nil⟩⟩⟩⟩⟩⟩⟩⟩⟩⟩⟩
def lw_privs : List (MethodName × Nat) := lw_privs_1
def lw_tbl : List Cond := k2_sels lw_privs ++ tables_1
theorem lw_privs_ok : ∀ q ∈ lw_privs, lw_okq q := lw_r1
-- ===== end of PART A; then your names; then what follows =====
end
section
/-! ===== BEGIN words of one list among another's, by their places ===== -/
theorem goodIn_r {big : List Cond} (ws : List Cond) (ps : List Nat) (hp : ws = ps.filterMap (fun i => big[i]?)) (h : ws.all goodWord = true) : GoodIn big ws := by
  intro w hw
  have h1 := List.all_eq_true.mp h w hw
  rw [hp] at hw
  obtain ⟨i, -, hi⟩ := List.mem_filterMap.mp hw
  have hm : w ∈ big := by first | exact List.mem_of_getElem? hi | exact List.getElem?_mem hi
  exact ⟨hm, good_of_word h1⟩
theorem goodIn_app {big a b : List Cond} (ha : GoodIn big a) (hb : GoodIn big b) : GoodIn big (a ++ b) := fun w h => (List.mem_append.mp h).elim (ha w) (hb w)
theorem goodIn_ca {big a b : List Cond} {c : Cond} (ha : GoodIn big (c :: a)) (hb : GoodIn big b) : GoodIn big (c :: (a ++ b)) := fun w h => (List.mem_cons.mp h).elim (fun e => ha w (List.mem_cons.mpr (Or.inl e))) (fun h => (List.mem_append.mp h).elim (fun h => ha w (List.mem_cons.mpr (Or.inr h))) (hb w))
theorem goodIn_sub {big ws : List Cond} (hm : ∀ w ∈ ws, w ∈ big) (h : ws.all goodWord = true) : GoodIn big ws := fun w hw => ⟨hm w hw, good_of_word (List.all_eq_true.mp h w hw)⟩
/-! ===== END ===== -/

/-! ===== BEGIN exceptions that leave a method, and their catching by the caller (launches without stack traces) ===== -/
section VXA
/-! The laws vx_back, vx_callV, vx_callS, vx_callSW, vx_throw0, vx_throwS follow proofs of the library, with one case more: JvmDerived/Free/Laws.lean (Back.of_free), Shelf42/LK1.lean (callV, callS), Shelf/KitTraced.lean (throwNew0V, throwNewS). -/
/-- where a method has thrown q: the class by its name, the cell, what was written, the world -/
def vx_T (XC : String → State → State → Prop) (st : State) (q : Addr) (t : State) (mc ms : Nat) (free : Addr → Prop) : Prop :=
  ∃ (E : String) (ce : Cell) (L : List Loc), XC E st t ∧ t.heap[q]? = some ce ∧ ce.vm = .none ∧ st.vm.findClass E = some ce.cls ∧ st.WarmedH t.vm ∧ st.sameButNew ({ t with vm := st.vm } : State) L mc ms ∧ ∀ z ∈ L, free z.base
def vx_Q (Qc : Array Value → State → Outcome → State → Prop) (XC : String → State → State → Prop) (mc ms : Nat) (free : Addr → Prop) : Array Value → State → Outcome → State → Prop := fun a st o t =>
  (Qc a st o t ∧ ∃ L, FrameEnd st o t L mc ms ∧ ∀ q ∈ L, free q.base) ∨ ∃ q, o = .threw q ∧ vx_T XC st q t mc ms free
/-- a callee that returns or throws -/
def vx_Met (l : Launch) (y : MethodName) (ws : List Cond) (rm : Room) (Pc : Array Value → State → Prop) (Qc : Array Value → State → Outcome → State → Prop) (XC : String → State → State → Prop) (mc ms : Nat) (free : Addr → Prop) : Prop :=
  MetFree l y (headSpec ws rm) Pc (fun _ _ _ _ _ => True) (vx_Q Qc XC mc ms free)
def vx_Post (XC : String → State → State → Prop) (mc ms : Nat) (free : Addr → Prop) : Pt → Array Value → Addr → Pt → Prop := fun A a q B =>
  ∃ (g : JFrame) (mk : MethodId) (t : State) (L : List Loc) (E : String) (ce : Cell), B.U.heap = t.heap ∧ B.U.vm = t.vm ∧ XC E (A.U.calling g mk a) t ∧ t.heap[q]? = some ce ∧ ce.vm = .none ∧ A.U.vm.findClass E = some ce.cls ∧ B.locs = A.locs ++ L ∧ (∀ z ∈ L, free z.base) ∧ B.cells = A.cells + mc ∧ B.slots = A.slots + ms
def vx_Back (l : Launch) (R : Room) (p : Program) (e : Env) (below : List Frame) (s : State) (sargs : Array Value) (y : MethodName) (len W9 : Nat)
    (Pre : Pt → Array Value → Prop) (Post : Pt → Array Value → Option Value → Pt → Prop) (PostX : Pt → Array Value → Addr → Pt → Prop) : Prop :=
  ∀ (m : MethodId) (meth : Method) (c : Code) (A : Pt) (g : JFrame) (ig : Instr) (mk : MethodId) (a : Array Value),
    Stand p l e R s m sargs below meth c A.U A.locs A.cells A.slots → g.method = m → g.locals.size = c.maxLocals → decode c.code g.pc = .ok (ig, len) →
    2 * g.monitorRoom + (g.stack.map fun v => v.category).sum ≤ W9 → A.U.methodNamed? y = some mk → Pre A a →
    (∃ (v : Option Value) (B : Pt), Stand p l e R s m sargs below meth c B.U B.locs B.cells B.slots ∧ Post A a v B ∧
      Steps p.tables e below (doInvoke e (A.U.setTop g) [] mk a).1 (B.U.setTop { g with pc := g.pc + len, stack := v.toList ++ g.stack })) ∨
    (∃ (q : Addr) (B : Pt), Stand p l e R s m sargs below meth c B.U B.locs B.cells B.slots ∧ PostX A a q B ∧
      Steps p.tables e below (doInvoke e (A.U.setTop g) [] mk a).1 ((B.U.setTop g).pushFrame (.throwing q)))
section Payer
variable {l : Launch} {R : Room} {p : Program} {e : Env} {below : List Frame} {s : State} {sargs : Array Value} {y : MethodName} {len W9 : Nat}
theorem vx_back {ws : List Cond} {rm : Room} {Pc : Array Value → State → Prop} {Qc : Array Value → State → Outcome → State → Prop} {XC : String → State → State → Prop} {mc ms : Nat} {free : Addr → Prop} {bytes : ByteArray} {maxL : Nat} {ret : Option FieldType}
    (hM : vx_Met l y ws rm Pc Qc XC mc ms free) (hblind : FrameBlind Pc) (hrc : rm.cells = mc) (hrs : rm.slots = ms)
    (hframes : rm.frames + 1 ≤ R.frames) (hlocals : W9 + (maxL + 11) + rm.locals ≤ R.locals)
    (hws : ∀ w ∈ ws, ∀ a' U, s.WarmedH U.vm → w.before a' U = true) (hcode : Cond.code y bytes maxL ret ∈ ws) (hinit : ∀ a' U, s.WarmedH U.vm → (Cond.initialized y.cls).before a' U = true) :
    vx_Back l R p e below s sargs y len W9 (PreOf R mc ms Pc) (PostOf Qc mc ms free) (vx_Post XC mc ms free) := by
  intro m meth c A g ig mk a X hg hsize hdg hW hn hp
  have h1 : (headSpec ws rm).pre.before a A.U = true := atoms_intro fun w hw => hws w hw _ _ X.warmed
  have h2 : (Cond.code y bytes maxL ret).before a A.U = true := hws _ hcode _ _ X.warmed
  have h3 : (Cond.initialized y.cls).before a A.U = true := hinit _ _ X.warmed
  have h4 : A.cells + (headSpec ws rm).room.cells ≤ R.cells := by rw [show (headSpec ws rm).room.cells = mc from hrc]; exact hp.1
  have h5 : A.slots + (headSpec ws rm).room.slots ≤ R.slots := by rw [show (headSpec ws rm).room.slots = ms from hrs]; exact hp.2.1
  have hPc : Pc a (A.U.calling g mk a) := hblind _ _ _ _ hp.2.2
  obtain ⟨U, Ls, c0, s0⟩ := A
  dsimp only [Pt.U, Pt.locs, Pt.cells, Pt.slots] at h1 h2 h3 h4 h5 X hn hPc ⊢
  obtain ⟨methY, cY, hmY, hcY, -, hlY, -, -, -, -⟩ := Cond.code_spec hn h2
  obtain ⟨kY, hkY, -⟩ := className_of_methodNamed hn
  have hinitY : kY.init = .initialized := Cond.initialized_spec (findClass_of_methodNamed hn) hkY h3
  have h : At U g.method c below := by rw [hg]; exact X.here
  have hlocals9 : W9 + (maxL + 11) + (headSpec ws rm).room.locals ≤ R.locals := hlocals
  have happ : (headSpec ws rm).appliesLoose y e.platform (U.calling g mk a) = true :=
    Spec.appliesLoose_calling (g := g) h hdg hn hkY hinitY
      (X.room_calling (g := g) (R' := (headSpec ws rm).room) hsize hmY hcY hframes (by rw [hlY]; omega) h4 h5) h1
  obtain ⟨mid, hmid⟩ := h.above
  have hfr : (U.setTop g).frames = (.java g :: mid) ++ below := by rw [State.frames_setTop' g h.top, hmid]; rfl
  obtain ⟨o, s₂, hsteps, -, hend, hq⟩ := Steps.callFree hM p X.admits X.cas X.clock (acts := []) hfr happ hPc trivial
  have hq' : vx_Q Qc XC mc ms free a (U.calling g mk a) o s₂ := hq
  rw [State.frames_setTop' g h.top] at hend
  obtain ⟨g₀, hg0⟩ := Option.isSome_iff_exists.mp h.top
  obtain ⟨r, hr⟩ := State.topJava?_eq_some.mp hg0
  have hr' : (({ U with heap := s₂.heap, slotsUsed := s₂.slotsUsed } : State).setVm s₂.vm).frames = .java g₀ :: r := hr
  rcases hq' with ⟨hqc, L, hfe, hL⟩ | ⟨q, rfl, E, ce, L, hx, hce, hcv, hcl, hW₂, hsm, hL⟩
  · obtain ⟨⟨v, rfl⟩, hW₂, e2, q2, q3, q4, q5, q6⟩ := id hfe
    have e3 : s₂ = ({ (U.calling g mk a).setFrames s₂.frames with heap := s₂.heap, slotsUsed := s₂.slotsUsed } : State).setVm s₂.vm := by
      have : s₂ = ({ s₂ with vm := (U.calling g mk a).vm } : State).setVm s₂.vm := rfl
      rw [e2] at this
      exact this
    obtain ⟨c₂, i₂, len₂, hc₂, hd₂, hf₂⟩ := hend
    have hW' : U.WarmedH s₂.vm := hW₂
    have hcc : c₂ = c := by
      have h1 : s₂.code? g.method = U.code? g.method := by
        rw [State.code?_eq, State.code?_eq, hW'.alike.method?]
      exact Option.some.inj (hc₂.symm.trans (h1.trans h.code))
    subst hcc
    have hlen : len₂ = len := by rw [hdg] at hd₂; cases hd₂; rfl
    subst hlen
    have hs₂ : s₂ = (({ U with heap := s₂.heap, slotsUsed := s₂.slotsUsed } : State).setVm s₂.vm).setTop { g with pc := g.pc + len₂, stack := v.toList ++ g.stack } := by
      refine e3.trans ?_
      rw [hf₂, State.calling_eq h.top, State.setFrames_setFrames, State.setTop_of_frames _ hr', hr]
      rfl
    have hsame : U.sameButNew ({ U with heap := s₂.heap, slotsUsed := s₂.slotsUsed } : State) L mc ms := by
      refine ⟨?_, q2, q3, q4, q5, q6⟩
      obtain ⟨t, ht, -⟩ := State.frames_cons hr
      show ({ U with heap := s₂.heap, slotsUsed := s₂.slotsUsed } : State) = { U.setFrames U.frames with heap := s₂.heap, slotsUsed := s₂.slotsUsed }
      rw [State.setFrames_self ht]
    subst hg
    refine Or.inl ⟨v, ⟨(({ U with heap := s₂.heap, slotsUsed := s₂.slotsUsed } : State).setVm s₂.vm), Ls ++ L, c0 + mc, s0 + ms⟩,
      ⟨X.admits, X.cas, X.clock, X.frames, X.room, X.hears, X.method, X.code, (X.here.setHeapUsed s₂.heap s₂.slotsUsed).setVm hW'.alike, X.tail, State.WarmedH.trans X.warmed hW', X.limits, X.bytes, X.same.trans (hsame.setVm s.vm)⟩,
      ⟨g, mk, s₂, L, rfl, rfl, hqc, rfl, hL, rfl, rfl⟩, ?_⟩
    show Steps p.tables e below _ ((({ U with heap := s₂.heap, slotsUsed := s₂.slotsUsed } : State).setVm s₂.vm).setTop { g with pc := g.pc + len₂, stack := v.toList ++ g.stack })
    rw [← hs₂]
    exact hsteps
  · obtain ⟨e2, q2, q3, q4, q5, q6⟩ := id hsm
    have e3 : s₂ = ({ (U.calling g mk a).setFrames s₂.frames with heap := s₂.heap, slotsUsed := s₂.slotsUsed } : State).setVm s₂.vm := by
      have : s₂ = ({ s₂ with vm := (U.calling g mk a).vm } : State).setVm s₂.vm := rfl
      rw [e2] at this
      exact this
    have hf₂ : s₂.frames = .throwing q :: .java g :: U.frames.tail := hend
    have hW' : U.WarmedH s₂.vm := hW₂
    have hs₂ : s₂ = ((({ U with heap := s₂.heap, slotsUsed := s₂.slotsUsed } : State).setVm s₂.vm).setTop g).pushFrame (.throwing q) := by
      refine e3.trans ?_
      rw [hf₂, State.calling_eq h.top, State.setFrames_setFrames, State.pushFrame, State.frames_setTop _ hr', State.setTop_of_frames _ hr', State.setFrames_setFrames, hr]
      rfl
    have hsame : U.sameButNew ({ U with heap := s₂.heap, slotsUsed := s₂.slotsUsed } : State) L mc ms := by
      refine ⟨?_, q2, q3, q4, q5, q6⟩
      obtain ⟨t, ht, -⟩ := State.frames_cons hr
      show ({ U with heap := s₂.heap, slotsUsed := s₂.slotsUsed } : State) = { U.setFrames U.frames with heap := s₂.heap, slotsUsed := s₂.slotsUsed }
      rw [State.setFrames_self ht]
    subst hg
    refine Or.inr ⟨q, ⟨(({ U with heap := s₂.heap, slotsUsed := s₂.slotsUsed } : State).setVm s₂.vm), Ls ++ L, c0 + mc, s0 + ms⟩,
      ⟨X.admits, X.cas, X.clock, X.frames, X.room, X.hears, X.method, X.code, (X.here.setHeapUsed s₂.heap s₂.slotsUsed).setVm hW'.alike, X.tail, State.WarmedH.trans X.warmed hW', X.limits, X.bytes, X.same.trans (hsame.setVm s.vm)⟩,
      ⟨g, mk, s₂, L, E, ce, rfl, rfl, hx, hce, hcv, hcl, rfl, hL, rfl, rfl⟩, ?_⟩
    show Steps p.tables e below _ (((({ U with heap := s₂.heap, slotsUsed := s₂.slotsUsed } : State).setVm s₂.vm).setTop g).pushFrame (.throwing q))
    rw [← hs₂]
    exact hsteps
end Payer
section Calls
variable {p : Program} {l : Launch} {e : Env} {R : Room} {s : State} {m : MethodId} {args : Array Value} {below : List Frame} {meth : Method} {c : Code} {T : State} {locs : List Loc} {cells slots : Nat}
theorem vx_callV (X : Stand p l e R s m args below meth c T locs cells slots) (hexec : p.tables.exec = Jvm.exec) {own C : String} {index : Nat} {y : MethodName} {bytes : ByteArray} {maxL : Nat} {ret : Option FieldType}
    (hown : s.vm.findClass own = some m.cls) (hlink : (Cond.methodLink own index y).before args s = true) (hinst : (Cond.instanceMethod y).before args s = true) (hsel : (Cond.selects C y y).before args s = true)
    (hcode : (Cond.code y bytes maxL ret).before args s = true) (hy : y.cls ≠ "java/lang/invoke/MethodHandle" ∧ y.cls ≠ "java/lang/invoke/VarHandle")
    {W9 : Nat} {Pre : Pt → Array Value → Prop} {Post : Pt → Array Value → Option Value → Pt → Prop} {PostX : Pt → Array Value → Addr → Pt → Prop} (hK : vx_Back l R p e below s args y 3 W9 Pre Post PostX)
    {b : Addr} {cellB : Cell} (hcell : T.heap[b]? = some cellB) (hobj : cellB.vm.isStatics = false) (hcls : s.vm.findClass C = some cellB.cls)
    {g : JFrame} (hg : g.method = m) (hsize : g.locals.size = c.maxLocals) {argsL rest : List Value} (hlen : ∀ sig, parseMethodDescriptor y.desc = some sig → argsL.length = sig.parameters.length)
    (hstack : g.stack = argsL.reverse ++ .ref b :: rest) (hW : 2 * g.monitorRoom + (rest.map fun v => v.category).sum ≤ W9) (hdg : decode c.code g.pc = .ok (.invokevirtual index, 3))
    (hpre : ∀ vm₁, s.WarmedH vm₁ → Pre ⟨T.setVm vm₁, locs, cells, slots⟩ (Value.ref b :: argsL).toArray) :
    (∃ (v : Option Value) (vm₁ : Vm) (B : Pt), s.WarmedH vm₁ ∧ Stand p l e R s m args below meth c B.U B.locs B.cells B.slots ∧ Post ⟨T.setVm vm₁, locs, cells, slots⟩ (Value.ref b :: argsL).toArray v B ∧
      ∀ target, Steps p.tables e below (B.U.setTop { g with pc := g.pc + 3, stack := v.toList ++ rest }) target → Steps p.tables e below (T.setTop g) target) ∨
    (∃ (q : Addr) (vm₁ : Vm) (B : Pt), s.WarmedH vm₁ ∧ Stand p l e R s m args below meth c B.U B.locs B.cells B.slots ∧ PostX ⟨T.setVm vm₁, locs, cells, slots⟩ (Value.ref b :: argsL).toArray q B ∧
      Steps p.tables e below (T.setTop g) ((B.U.setTop { g with stack := rest }).pushFrame (.throwing q))) := by
  obtain ⟨mk, methM, hnamed, hmethM, hstM, habM⟩ := Cond.instanceMethod_spec hinst
  obtain ⟨methM', cM, hmethM', -, -, -, -, -, -, hsigM⟩ := Cond.code_spec hnamed hcode
  cases hmethM.symm.trans hmethM'
  obtain ⟨c2, r2, m2, q1, q2, q3, q4, kP, hkP, hkPi⟩ := Cond.selects_spec hsel
  cases hcls.symm.trans q1
  cases (State.methodFound?_of_named hnamed hy).symm.trans q2
  cases hnamed.symm.trans q3
  have hselP : selectMethod e.platform s.vm cellB.cls mk = .method mk := by rw [Launch.admits_selectMethod X.admits]; exact q4
  obtain ⟨vm₁, X₁, hstep₁⟩ := X.invokevirtual hexec hown hlink hnamed hmethM hstM hkP hkPi hy (a := b) (cell := cellB) hcell
    (fun z h => by rw [h] at hobj; cases hobj) hselP hmethM habM hkP hkPi (g := g) hg (argsL := argsL) (rest := rest) (hlen _ hsigM) hstack hdg
  rcases hK m meth c ⟨T.setVm vm₁, locs, cells, slots⟩ { g with stack := rest } (.invokevirtual index) mk (Value.ref b :: argsL).toArray X₁ hg hsize hdg hW (X₁.named hnamed) (hpre vm₁ X₁.warmed) with ⟨v, B, X', hpost, hsteps⟩ | ⟨q, B, X', hpost, hsteps⟩
  · exact Or.inl ⟨v, vm₁, B, X₁.warmed, X', hpost, fun target h => hstep₁ _ fun acts => by rw [doInvoke_state]; exact hsteps.trans h⟩
  · exact Or.inr ⟨q, vm₁, B, X₁.warmed, X', hpost, hstep₁ _ fun acts => by rw [doInvoke_state]; exact hsteps⟩
theorem vx_callS (X : Stand p l e R s m args below meth c T locs cells slots) (hexec : p.tables.exec = Jvm.exec) {own : String} {index : Nat} {y : MethodName} {bytes : ByteArray} {maxL : Nat} {ret : Option FieldType}
    (hown : s.vm.findClass own = some m.cls) (hlink : (Cond.methodLink own index y).before args s = true) (hstat : (Cond.static y).before args s = true) (hinit : (Cond.initialized y.cls).before args s = true)
    (hcode : (Cond.code y bytes maxL ret).before args s = true) (hy : y.cls ≠ "java/lang/invoke/MethodHandle" ∧ y.cls ≠ "java/lang/invoke/VarHandle")
    {W9 : Nat} {Pre : Pt → Array Value → Prop} {Post : Pt → Array Value → Option Value → Pt → Prop} {PostX : Pt → Array Value → Addr → Pt → Prop} (hK : vx_Back l R p e below s args y 3 W9 Pre Post PostX)
    {g : JFrame} (hg : g.method = m) (hsize : g.locals.size = c.maxLocals) {argsL rest : List Value} (hlen : ∀ sig, parseMethodDescriptor y.desc = some sig → argsL.length = sig.parameters.length)
    (hstack : g.stack = argsL.reverse ++ rest) (hW : 2 * g.monitorRoom + (rest.map fun v => v.category).sum ≤ W9) (hdg : decode c.code g.pc = .ok (.invokestatic index, 3))
    (hpre : ∀ vm₁, s.WarmedH vm₁ → Pre ⟨T.setVm vm₁, locs, cells, slots⟩ argsL.toArray) :
    (∃ (v : Option Value) (vm₁ : Vm) (B : Pt), s.WarmedH vm₁ ∧ Stand p l e R s m args below meth c B.U B.locs B.cells B.slots ∧ Post ⟨T.setVm vm₁, locs, cells, slots⟩ argsL.toArray v B ∧
      ∀ target, Steps p.tables e below (B.U.setTop { g with pc := g.pc + 3, stack := v.toList ++ rest }) target → Steps p.tables e below (T.setTop g) target) ∨
    (∃ (q : Addr) (vm₁ : Vm) (B : Pt), s.WarmedH vm₁ ∧ Stand p l e R s m args below meth c B.U B.locs B.cells B.slots ∧ PostX ⟨T.setVm vm₁, locs, cells, slots⟩ argsL.toArray q B ∧
      Steps p.tables e below (T.setTop g) ((B.U.setTop { g with stack := rest }).pushFrame (.throwing q))) := by
  obtain ⟨mk, hnamed⟩ := Cond.code_named hcode
  obtain ⟨methM, cM, hmethM, -, -, -, -, -, -, hsigM⟩ := Cond.code_spec hnamed hcode
  have hstatic : methM.isStatic = true := Cond.static_spec hnamed hmethM hstat
  obtain ⟨kP, hkP, -⟩ := className_of_methodNamed hnamed
  have hinitP : kP.init = .initialized := Cond.initialized_spec (findClass_of_methodNamed hnamed) hkP hinit
  obtain ⟨vm₁, X₁, hstep₁⟩ := X.invokestatic hexec hown hlink hnamed hmethM hstatic hkP hinitP hy (g := g) hg (argsL := argsL) (rest := rest) (hlen _ hsigM) hstack hdg
  rcases hK m meth c ⟨T.setVm vm₁, locs, cells, slots⟩ { g with stack := rest } (.invokestatic index) mk argsL.toArray X₁ hg hsize hdg hW (X₁.named hnamed) (hpre vm₁ X₁.warmed) with ⟨v, B, X', hpost, hsteps⟩ | ⟨q, B, X', hpost, hsteps⟩
  · exact Or.inl ⟨v, vm₁, B, X₁.warmed, X', hpost, fun target h => hstep₁ _ fun acts => by rw [doInvoke_state]; exact hsteps.trans h⟩
  · exact Or.inr ⟨q, vm₁, B, X₁.warmed, X', hpost, hstep₁ _ fun acts => by rw [doInvoke_state]; exact hsteps⟩
end Calls
theorem vx_cls {s : State} {T : State} {vm₁ : Vm} {E : String} {k : ClassId} (hW : s.WarmedH vm₁) (h : (T.setVm vm₁).vm.findClass E = some k) : s.vm.findClass E = some k := by
  have h1 : vm₁.findClass E = some k := h
  rw [hW.alike.findClass] at h1
  exact h1
/-- the method's frame g, with q thrown over it -/
def vx_W (p : Program) (l : Launch) (e : Env) (R : Room) (s : State) (m : MethodId) (args : Array Value) (below : List Frame) (meth : Method) (c : Code) (H : Heap) (locs : List Loc) (cells slots : Nat) (Q : State → Prop) (g : JFrame) (q : Addr) : Prop :=
  ∀ T : State, T.heap = H → Stand p l e R s m args below meth c T locs cells slots → ∃ t, Steps p.tables e below ((T.setTop g).pushFrame (.throwing q)) t ∧ Q t
def vx_Run (p : Program) (l : Launch) (e : Env) (R : Room) (s : State) (m : MethodId) (args : Array Value) (below : List Frame) (meth : Method) (c : Code) (H : Heap) (locs : List Loc) (cells slots mc ms : Nat) (g : JFrame) (rest : List Value) (Qa : State → Outcome → State → Prop) (XC : String → State → State → Prop) (free : Addr → Prop) : Prop :=
  ∀ T : State, T.heap = H → Stand p l e R s m args below meth c T locs cells slots →
    (∃ (v : Option Value) (st₀ t T' : State) (L : List Loc), st₀.heap = H ∧ Stand p l e R s m args below meth c T' (locs ++ L) (cells + mc) (slots + ms) ∧ (∀ q ∈ L, free q.base) ∧ T'.heap = t.heap ∧ T'.vm = t.vm ∧ Qa st₀ (.returned v) t ∧
      Goes p e below T g T' { g with pc := g.pc + 3, stack := v.toList ++ rest }) ∨
    (∃ (q : Addr) (st₀ t T' : State) (L : List Loc) (E : String) (ce : Cell), st₀.heap = H ∧ Stand p l e R s m args below meth c T' (locs ++ L) (cells + mc) (slots + ms) ∧ (∀ z ∈ L, free z.base) ∧ T'.heap = t.heap ∧ T'.vm = t.vm ∧ XC E st₀ t ∧ t.heap[q]? = some ce ∧ ce.vm = .none ∧ s.vm.findClass E = some ce.cls ∧
      Steps p.tables e below (T.setTop g) ((T'.setTop { g with stack := rest }).pushFrame (.throwing q)))
def vx_X {S : Type} (px : S → Prop) (B : String → S → State → Prop) (A : Nat → Prop) : String → State → State → Prop := fun E st t => ∃ u : S, px u ∧ B E u t ∧ va_F A st t
section Runs
variable {p : Program} {l : Launch} {e : Env} {R : Room} {s : State} {m : MethodId} {args : Array Value} {below : List Frame} {meth : Method} {c : Code} {H : Heap} {locs : List Loc} {cells slots : Nat}
variable {y : MethodName} {bytes cc : ByteArray} {maxL nL mc ms n index : Nat} {ret : Option FieldType} {ws : List Cond} {rm : Room} {Pc : Array Value → State → Prop} {Qc : Array Value → State → Outcome → State → Prop} {XC : String → State → State → Prop} {free : Addr → Prop} {Ts : List Cond} {own C : String} {b : Addr} {As rest : List Value} {g : JFrame}
theorem vx_callBack (cb : CallB R s args own index y bytes maxL ret ws rm mc ms n) (hM : vx_Met l y ws rm Pc Qc XC mc ms free) (hbl : FrameBlind Pc) : vx_Back l R p e below s args y 3 8 (PreOf R mc ms Pc) (PostOf Qc mc ms free) (vx_Post XC mc ms free) := by
  obtain ⟨hrc, hrs, hfr, hlo, hws, hcw, -, hini, -⟩ := cb
  exact vx_back (bytes := bytes) (maxL := maxL) (ret := ret) hM hbl hrc hrs hfr hlo hws hcw (fun a' U hW => word_at hW (Or.inl (by first | rfl | simp [Cond.onTables, Cond.keeps, Cond.steady])) hini)
theorem vx_runV (S : CallFix p m c cc nL s args Ts own) (hM : vx_Met l y ws rm Pc Qc XC mc ms free) (cw : CallW R s args own C index y bytes maxL ret ws rm mc ms n) (hp : PreV s H C b Pc As)
    (hg : g.method = m) (hn : As.length = n) (hsize : g.locals.size = nL) (hstack : g.stack = As.reverse ++ .ref b :: rest) (hW : 2 * g.monitorRoom + (rest.map fun v => v.category).sum ≤ 8) (hdg : decode cc g.pc = .ok (.invokevirtual index, 3)) (hf : cells + mc ≤ R.cells ∧ slots + ms ≤ R.slots) :
    vx_Run p l e R s m args below meth c H locs cells slots mc ms g rest (Qc (Value.ref b :: As).toArray) XC free := by
  have hK : vx_Back l R p e below s args y 3 8 (PreOf R mc ms Pc) (PostOf Qc mc ms free) (vx_Post XC mc ms free) := vx_callBack cw.1 hM hp.1
  obtain ⟨⟨-, -, -, -, -, -, hcode, -, hy, hlen, hl⟩, hin, hse⟩ := cw
  obtain ⟨hx, hb, hml, ho, -⟩ := S
  obtain ⟨-, ⟨cellB, hcB, hoB, hclB⟩, hPc⟩ := hp
  intro T hT X
  rcases vx_callV X hx (C := C) (bytes := bytes) (maxL := maxL) (ret := ret) ho hl hin hse hcode hy hK (by rw [hT]; exact hcB) hoB hclB hg (hsize.trans hml.symm) (argsL := As) (rest := rest) (fun sig h => hn.trans (hlen sig h)) hstack hW (by rw [hb]; exact hdg)
    (fun vm₁ hW₁ => ⟨hf.1, hf.2, hPc (T.setVm vm₁) hT hW₁⟩) with ⟨v, vm₁, ⟨U', l2, c2, s2⟩, hW₁, X', ⟨g', mk, t, L, e1, e2, hq, h1, hL, h2, h3⟩, st⟩ | ⟨q, vm₁, ⟨U', l2, c2, s2⟩, hW₁, X', ⟨g', mk, t, L, E, ce, e1, e2, hq, hce, hcv, hcl, h1, hL, h2, h3⟩, st⟩
  · dsimp only [Pt.U, Pt.locs, Pt.cells, Pt.slots] at X' e1 e2 h1 h2 h3 st
    subst h1; subst h2; subst h3
    exact Or.inl ⟨v, (T.setVm vm₁).calling g' mk (Value.ref b :: As).toArray, t, U', L, hT, X', hL, e1, e2, hq, st⟩
  · dsimp only [Pt.U, Pt.locs, Pt.cells, Pt.slots] at X' e1 e2 h1 h2 h3 st hcl
    subst h1; subst h2; subst h3
    exact Or.inr ⟨q, (T.setVm vm₁).calling g' mk (Value.ref b :: As).toArray, t, U', L, E, ce, hT, X', hL, e1, e2, hq, hce, hcv, vx_cls hW₁ hcl, st⟩
theorem vx_runS (S : CallFix p m c cc nL s args Ts own) (hM : vx_Met l y ws rm Pc Qc XC mc ms free) (cw : CallB R s args own index y bytes maxL ret ws rm mc ms n ∧ (Cond.static y).before args s = true) (hp : PreS s H Pc As)
    (hg : g.method = m) (hn : As.length = n) (hsize : g.locals.size = nL) (hstack : g.stack = As.reverse ++ rest) (hW : 2 * g.monitorRoom + (rest.map fun v => v.category).sum ≤ 8) (hdg : decode cc g.pc = .ok (.invokestatic index, 3)) (hf : cells + mc ≤ R.cells ∧ slots + ms ≤ R.slots) :
    vx_Run p l e R s m args below meth c H locs cells slots mc ms g rest (Qc As.toArray) XC free := by
  have hK : vx_Back l R p e below s args y 3 8 (PreOf R mc ms Pc) (PostOf Qc mc ms free) (vx_Post XC mc ms free) := vx_callBack cw.1 hM hp.1
  obtain ⟨⟨-, -, -, -, -, -, hcode, hini, hy, hlen, hl⟩, hstt⟩ := cw
  obtain ⟨hx, hb, hml, ho, -⟩ := S
  intro T hT X
  rcases vx_callS X hx (bytes := bytes) (maxL := maxL) (ret := ret) ho hl hstt hini hcode hy hK hg (hsize.trans hml.symm) (argsL := As) (rest := rest) (fun sig h => hn.trans (hlen sig h)) hstack hW (by rw [hb]; exact hdg)
    (fun vm₁ hW₁ => ⟨hf.1, hf.2, hp.2 (T.setVm vm₁) hT hW₁⟩) with ⟨v, vm₁, ⟨U', l2, c2, s2⟩, hW₁, X', ⟨g', mk, t, L, e1, e2, hq, h1, hL, h2, h3⟩, st⟩ | ⟨q, vm₁, ⟨U', l2, c2, s2⟩, hW₁, X', ⟨g', mk, t, L, E, ce, e1, e2, hq, hce, hcv, hcl, h1, hL, h2, h3⟩, st⟩
  · dsimp only [Pt.U, Pt.locs, Pt.cells, Pt.slots] at X' e1 e2 h1 h2 h3 st
    subst h1; subst h2; subst h3
    exact Or.inl ⟨v, (T.setVm vm₁).calling g' mk As.toArray, t, U', L, hT, X', hL, e1, e2, hq, st⟩
  · dsimp only [Pt.U, Pt.locs, Pt.cells, Pt.slots] at X' e1 e2 h1 h2 h3 st hcl
    subst h1; subst h2; subst h3
    exact Or.inr ⟨q, (T.setVm vm₁).calling g' mk As.toArray, t, U', L, E, ce, hT, X', hL, e1, e2, hq, hce, hcv, vx_cls hW₁ hcl, st⟩
end Runs
section Rows
variable {p : Program} {l : Launch} {e : Env} {R : Room} {s : State} {m : MethodId} {args : Array Value} {below : List Frame} {meth : Method} {c : Code} {H : Heap} {locs : List Loc} {cells slots : Nat} {Q : State → Prop}
variable {mc ms : Nat} {free : Addr → Prop} {A0 A1 : Nat → Prop} {H0 : Heap} {a : Array Value} {pc : Nat} {ls : Array Slot} {st0 rest : List Value}
theorem vx_keep {st₀ t T' : State} {L : List Loc} (h0 : st₀.heap = H) (e1 : T'.heap = t.heap) (hS : va_S A0 H0 H locs) (hA : ∀ q, q < H.size → A1 q → A0 q) (hf : ∀ q, free q → A0 q) (hL : ∀ q ∈ L, free q.base) (hF : va_F A1 st₀ t) :
    H.size ≤ T'.heap.size ∧ (∀ q : Nat, q < H.size → ¬ A1 q → T'.heap[q]? = H[q]?) ∧ va_S A0 H0 T'.heap (locs ++ L) := by
  obtain ⟨hz, hk⟩ := hF
  rw [h0] at hz hk
  exact ⟨by rw [e1]; exact hz, fun q h1 h2 => by rw [e1]; exact hk q h1 h2,
    ⟨Nat.le_trans hS.1 (by rw [e1]; exact hz), fun q h1 h2 => by rw [e1, hk q (Nat.lt_of_lt_of_le h1 hS.1) (fun z => h2 (hA q (Nat.lt_of_lt_of_le h1 hS.1) z))]; exact hS.2.1 q h1 h2, fun q hq => by
      rcases List.mem_append.mp hq with h | h
      · exact hS.2.2 q h
      · exact hf _ (hL q h)⟩⟩
theorem vx_calli {S SX : Type} {post : Int32 → S → Prop} {px : SX → Prop} {B : S → State → Prop} {BX : String → SX → State → Prop} {AX : Nat → Prop} (hr : vx_Run p l e R s m args below meth c H locs cells slots mc ms (F0 m pc ls st0) rest (va_Qi post B A1 a) (vx_X px BX AX) free) (hS : va_S A0 H0 H locs) (hA : ∀ q, q < H.size → A1 q → A0 q) (hf : ∀ q, free q → A0 q) (hAX : ∀ q, q < H.size → AX q → A0 q)
    (kx : ∀ (E : String) (ce : Cell) (q9 : Addr) (u : SX) (t : State) (H1 : Heap) (locs1 : List Loc), t.heap = H1 → s.vm.Alike t.vm → px u → BX E u t → H.size ≤ H1.size → (∀ q : Nat, q < H.size → ¬ AX q → H1[q]? = H[q]?) → va_S A0 H0 H1 locs1 → H1[q9]? = some ce → ce.vm = .none → s.vm.findClass E = some ce.cls → vx_W p l e R s m args below meth c H1 locs1 (cells + mc) (slots + ms) Q (F0 m pc ls rest) q9)
    (kk : ∀ (r : Int32) (u : S) (t : State) (H1 : Heap) (locs1 : List Loc), t.heap = H1 → s.vm.Alike t.vm → post r u → B u t → H.size ≤ H1.size → (∀ q : Nat, q < H.size → ¬ A1 q → H1[q]? = H[q]?) → va_S A0 H0 H1 locs1 → W p l e R s m args below meth c H1 locs1 (cells + mc) (slots + ms) Q (F0 m (pc + 3) ls (.int r :: rest))) : W p l e R s m args below meth c H locs cells slots Q (F0 m pc ls st0) := by
  intro T hT X
  rcases hr T hT X with ⟨v, st₀, t, T', L, h0, X', hL, e1, e2, ⟨⟨r, u, hv, hp, hb⟩, hF⟩, st⟩ | ⟨q, st₀, t, T', L, E, ce, h0, X', hL, e1, e2, ⟨u, hp, hb, hF⟩, hce, hcv, hcl, st⟩
  · cases hv
    obtain ⟨k1, k2, k3⟩ := vx_keep h0 e1 hS hA hf hL hF
    obtain ⟨t2, a1, b1⟩ := kk r u t T'.heap (locs ++ L) e1.symm (by rw [← e2]; exact X'.warmed.alike) hp hb k1 k2 k3 T' rfl X'
    exact ⟨t2, st t2 a1, b1⟩
  · obtain ⟨k1, k2, k3⟩ := vx_keep h0 e1 hS hAX hf hL hF
    obtain ⟨t2, a1, b1⟩ := kx E ce q u t T'.heap (locs ++ L) e1.symm (by rw [← e2]; exact X'.warmed.alike) hp hb k1 k2 k3 (by rw [e1]; exact hce) hcv hcl T' rfl X'
    exact ⟨t2, st.trans a1, b1⟩
theorem vx_calll {S SX : Type} {post : Int64 → S → Prop} {px : SX → Prop} {B : S → State → Prop} {BX : String → SX → State → Prop} {AX : Nat → Prop} (hr : vx_Run p l e R s m args below meth c H locs cells slots mc ms (F0 m pc ls st0) rest (va_Ql post B A1 a) (vx_X px BX AX) free) (hS : va_S A0 H0 H locs) (hA : ∀ q, q < H.size → A1 q → A0 q) (hf : ∀ q, free q → A0 q) (hAX : ∀ q, q < H.size → AX q → A0 q)
    (kx : ∀ (E : String) (ce : Cell) (q9 : Addr) (u : SX) (t : State) (H1 : Heap) (locs1 : List Loc), t.heap = H1 → s.vm.Alike t.vm → px u → BX E u t → H.size ≤ H1.size → (∀ q : Nat, q < H.size → ¬ AX q → H1[q]? = H[q]?) → va_S A0 H0 H1 locs1 → H1[q9]? = some ce → ce.vm = .none → s.vm.findClass E = some ce.cls → vx_W p l e R s m args below meth c H1 locs1 (cells + mc) (slots + ms) Q (F0 m pc ls rest) q9)
    (kk : ∀ (r : Int64) (u : S) (t : State) (H1 : Heap) (locs1 : List Loc), t.heap = H1 → s.vm.Alike t.vm → post r u → B u t → H.size ≤ H1.size → (∀ q : Nat, q < H.size → ¬ A1 q → H1[q]? = H[q]?) → va_S A0 H0 H1 locs1 → W p l e R s m args below meth c H1 locs1 (cells + mc) (slots + ms) Q (F0 m (pc + 3) ls (.long r :: rest))) : W p l e R s m args below meth c H locs cells slots Q (F0 m pc ls st0) := by
  intro T hT X
  rcases hr T hT X with ⟨v, st₀, t, T', L, h0, X', hL, e1, e2, ⟨⟨r, u, hv, hp, hb⟩, hF⟩, st⟩ | ⟨q, st₀, t, T', L, E, ce, h0, X', hL, e1, e2, ⟨u, hp, hb, hF⟩, hce, hcv, hcl, st⟩
  · cases hv
    obtain ⟨k1, k2, k3⟩ := vx_keep h0 e1 hS hA hf hL hF
    obtain ⟨t2, a1, b1⟩ := kk r u t T'.heap (locs ++ L) e1.symm (by rw [← e2]; exact X'.warmed.alike) hp hb k1 k2 k3 T' rfl X'
    exact ⟨t2, st t2 a1, b1⟩
  · obtain ⟨k1, k2, k3⟩ := vx_keep h0 e1 hS hAX hf hL hF
    obtain ⟨t2, a1, b1⟩ := kx E ce q u t T'.heap (locs ++ L) e1.symm (by rw [← e2]; exact X'.warmed.alike) hp hb k1 k2 k3 (by rw [e1]; exact hce) hcv hcl T' rfl X'
    exact ⟨t2, st.trans a1, b1⟩
theorem vx_callf {S SX : Type} {post : UInt32 → S → Prop} {px : SX → Prop} {B : S → State → Prop} {BX : String → SX → State → Prop} {AX : Nat → Prop} (hr : vx_Run p l e R s m args below meth c H locs cells slots mc ms (F0 m pc ls st0) rest (va_Qf post B A1 a) (vx_X px BX AX) free) (hS : va_S A0 H0 H locs) (hA : ∀ q, q < H.size → A1 q → A0 q) (hf : ∀ q, free q → A0 q) (hAX : ∀ q, q < H.size → AX q → A0 q)
    (kx : ∀ (E : String) (ce : Cell) (q9 : Addr) (u : SX) (t : State) (H1 : Heap) (locs1 : List Loc), t.heap = H1 → s.vm.Alike t.vm → px u → BX E u t → H.size ≤ H1.size → (∀ q : Nat, q < H.size → ¬ AX q → H1[q]? = H[q]?) → va_S A0 H0 H1 locs1 → H1[q9]? = some ce → ce.vm = .none → s.vm.findClass E = some ce.cls → vx_W p l e R s m args below meth c H1 locs1 (cells + mc) (slots + ms) Q (F0 m pc ls rest) q9)
    (kk : ∀ (r : UInt32) (u : S) (t : State) (H1 : Heap) (locs1 : List Loc), t.heap = H1 → s.vm.Alike t.vm → post r u → B u t → H.size ≤ H1.size → (∀ q : Nat, q < H.size → ¬ A1 q → H1[q]? = H[q]?) → va_S A0 H0 H1 locs1 → W p l e R s m args below meth c H1 locs1 (cells + mc) (slots + ms) Q (F0 m (pc + 3) ls (.float r :: rest))) : W p l e R s m args below meth c H locs cells slots Q (F0 m pc ls st0) := by
  intro T hT X
  rcases hr T hT X with ⟨v, st₀, t, T', L, h0, X', hL, e1, e2, ⟨⟨r, u, hv, hp, hb⟩, hF⟩, st⟩ | ⟨q, st₀, t, T', L, E, ce, h0, X', hL, e1, e2, ⟨u, hp, hb, hF⟩, hce, hcv, hcl, st⟩
  · cases hv
    obtain ⟨k1, k2, k3⟩ := vx_keep h0 e1 hS hA hf hL hF
    obtain ⟨t2, a1, b1⟩ := kk r u t T'.heap (locs ++ L) e1.symm (by rw [← e2]; exact X'.warmed.alike) hp hb k1 k2 k3 T' rfl X'
    exact ⟨t2, st t2 a1, b1⟩
  · obtain ⟨k1, k2, k3⟩ := vx_keep h0 e1 hS hAX hf hL hF
    obtain ⟨t2, a1, b1⟩ := kx E ce q u t T'.heap (locs ++ L) e1.symm (by rw [← e2]; exact X'.warmed.alike) hp hb k1 k2 k3 (by rw [e1]; exact hce) hcv hcl T' rfl X'
    exact ⟨t2, st.trans a1, b1⟩
theorem vx_calld {S SX : Type} {post : UInt64 → S → Prop} {px : SX → Prop} {B : S → State → Prop} {BX : String → SX → State → Prop} {AX : Nat → Prop} (hr : vx_Run p l e R s m args below meth c H locs cells slots mc ms (F0 m pc ls st0) rest (va_Qd post B A1 a) (vx_X px BX AX) free) (hS : va_S A0 H0 H locs) (hA : ∀ q, q < H.size → A1 q → A0 q) (hf : ∀ q, free q → A0 q) (hAX : ∀ q, q < H.size → AX q → A0 q)
    (kx : ∀ (E : String) (ce : Cell) (q9 : Addr) (u : SX) (t : State) (H1 : Heap) (locs1 : List Loc), t.heap = H1 → s.vm.Alike t.vm → px u → BX E u t → H.size ≤ H1.size → (∀ q : Nat, q < H.size → ¬ AX q → H1[q]? = H[q]?) → va_S A0 H0 H1 locs1 → H1[q9]? = some ce → ce.vm = .none → s.vm.findClass E = some ce.cls → vx_W p l e R s m args below meth c H1 locs1 (cells + mc) (slots + ms) Q (F0 m pc ls rest) q9)
    (kk : ∀ (r : UInt64) (u : S) (t : State) (H1 : Heap) (locs1 : List Loc), t.heap = H1 → s.vm.Alike t.vm → post r u → B u t → H.size ≤ H1.size → (∀ q : Nat, q < H.size → ¬ A1 q → H1[q]? = H[q]?) → va_S A0 H0 H1 locs1 → W p l e R s m args below meth c H1 locs1 (cells + mc) (slots + ms) Q (F0 m (pc + 3) ls (.double r :: rest))) : W p l e R s m args below meth c H locs cells slots Q (F0 m pc ls st0) := by
  intro T hT X
  rcases hr T hT X with ⟨v, st₀, t, T', L, h0, X', hL, e1, e2, ⟨⟨r, u, hv, hp, hb⟩, hF⟩, st⟩ | ⟨q, st₀, t, T', L, E, ce, h0, X', hL, e1, e2, ⟨u, hp, hb, hF⟩, hce, hcv, hcl, st⟩
  · cases hv
    obtain ⟨k1, k2, k3⟩ := vx_keep h0 e1 hS hA hf hL hF
    obtain ⟨t2, a1, b1⟩ := kk r u t T'.heap (locs ++ L) e1.symm (by rw [← e2]; exact X'.warmed.alike) hp hb k1 k2 k3 T' rfl X'
    exact ⟨t2, st t2 a1, b1⟩
  · obtain ⟨k1, k2, k3⟩ := vx_keep h0 e1 hS hAX hf hL hF
    obtain ⟨t2, a1, b1⟩ := kx E ce q u t T'.heap (locs ++ L) e1.symm (by rw [← e2]; exact X'.warmed.alike) hp hb k1 k2 k3 (by rw [e1]; exact hce) hcv hcl T' rfl X'
    exact ⟨t2, st.trans a1, b1⟩
theorem vx_callv {S SX : Type} {post : S → Prop} {px : SX → Prop} {B : S → State → Prop} {BX : String → SX → State → Prop} {AX : Nat → Prop} (hr : vx_Run p l e R s m args below meth c H locs cells slots mc ms (F0 m pc ls st0) rest (va_Qv post B A1 a) (vx_X px BX AX) free) (hS : va_S A0 H0 H locs) (hA : ∀ q, q < H.size → A1 q → A0 q) (hf : ∀ q, free q → A0 q) (hAX : ∀ q, q < H.size → AX q → A0 q)
    (kx : ∀ (E : String) (ce : Cell) (q9 : Addr) (u : SX) (t : State) (H1 : Heap) (locs1 : List Loc), t.heap = H1 → s.vm.Alike t.vm → px u → BX E u t → H.size ≤ H1.size → (∀ q : Nat, q < H.size → ¬ AX q → H1[q]? = H[q]?) → va_S A0 H0 H1 locs1 → H1[q9]? = some ce → ce.vm = .none → s.vm.findClass E = some ce.cls → vx_W p l e R s m args below meth c H1 locs1 (cells + mc) (slots + ms) Q (F0 m pc ls rest) q9)
    (kk : ∀ (u : S) (t : State) (H1 : Heap) (locs1 : List Loc), t.heap = H1 → s.vm.Alike t.vm → post u → B u t → H.size ≤ H1.size → (∀ q : Nat, q < H.size → ¬ A1 q → H1[q]? = H[q]?) → va_S A0 H0 H1 locs1 → W p l e R s m args below meth c H1 locs1 (cells + mc) (slots + ms) Q (F0 m (pc + 3) ls (rest))) : W p l e R s m args below meth c H locs cells slots Q (F0 m pc ls st0) := by
  intro T hT X
  rcases hr T hT X with ⟨v, st₀, t, T', L, h0, X', hL, e1, e2, ⟨⟨u, hv, hp, hb⟩, hF⟩, st⟩ | ⟨q, st₀, t, T', L, E, ce, h0, X', hL, e1, e2, ⟨u, hp, hb, hF⟩, hce, hcv, hcl, st⟩
  · cases hv
    obtain ⟨k1, k2, k3⟩ := vx_keep h0 e1 hS hA hf hL hF
    obtain ⟨t2, a1, b1⟩ := kk u t T'.heap (locs ++ L) e1.symm (by rw [← e2]; exact X'.warmed.alike) hp hb k1 k2 k3 T' rfl X'
    exact ⟨t2, st t2 a1, b1⟩
  · obtain ⟨k1, k2, k3⟩ := vx_keep h0 e1 hS hAX hf hL hF
    obtain ⟨t2, a1, b1⟩ := kx E ce q u t T'.heap (locs ++ L) e1.symm (by rw [← e2]; exact X'.warmed.alike) hp hb k1 k2 k3 (by rw [e1]; exact hce) hcv hcl T' rfl X'
    exact ⟨t2, st.trans a1, b1⟩
/-- caught by the row x of this method's table; the rows ahead don't take it -/
theorem vx_catch {own name : String} {E : String} {ce : Cell} {q : Addr} (hown : s.vm.findClass own = some m.cls) (pre : List ExceptionTableEntry) (x : ExceptionTableEntry) (suf : List ExceptionTableEntry) (hsplit : c.exceptionTable.toList = pre ++ x :: suf)
    (hpass : ∀ z ∈ pre, covers z pc = false ∨ (z.catchType ≠ 0 ∧ ∃ nm : String, (Cond.classLink own z.catchType nm).before args s = true ∧ va_Nc E nm s)) (hx : covers x pc = true) (h0 : x.catchType ≠ 0)
    (hlink : (Cond.classLink own x.catchType name).before args s = true) (hcast : (Cond.castable E name).before args s = true) (hcell : H[q]? = some ce) (hv : ce.vm = .none) (hcl : s.vm.findClass E = some ce.cls)
    (kk : W p l e R s m args below meth c H locs cells slots Q (F0 m x.handlerPc ls [.ref q])) : vx_W p l e R s m args below meth c H locs cells slots Q (F0 m pc ls rest) q := by
  intro T hT X
  have hpl : e.platform.magicAccessors = ({} : Platform).magicAccessors := by rw [X.admits.platform]
  obtain ⟨c3, c4, hc3, hc4, hasg⟩ := Cond.castable_spec hcast
  cases Option.some.inj (hc3.symm.trans hcl)
  obtain ⟨c5, hc5, hcl5⟩ := Cond.classLink_spec hown hlink e.platform hpl
  cases Option.some.inj (hc4.symm.trans hc5)
  obtain ⟨vm', X', st⟩ := X.thenCaughtThrough q (g := F0 m pc ls rest) rfl (Steps.refl _) (by rw [hT]; exact hcell) (by rw [hv]; rfl) (by obtain ⟨k9, h9, -⟩ := Vm.findClass_spec hcl; exact ⟨k9, h9⟩) pre x suf hsplit
    (fun z hz => by
      rcases hpass z hz with h | ⟨hz0, nm, hl1, hn1⟩
      · exact Or.inl h
      · obtain ⟨c6, hc6, hcl6⟩ := Cond.classLink_spec hown hl1 e.platform hpl
        obtain ⟨a8, b8, h1, h2, h3⟩ := hn1
        cases Option.some.inj (h1.symm.trans hcl)
        cases Option.some.inj (h2.symm.trans hc6)
        exact Or.inr ⟨hz0, _, hcl6, h3⟩) hx (Or.inr ⟨h0, c4, hcl5, hasg⟩)
  obtain ⟨t, a1, b1⟩ := kk (T.setVm vm') hT X'
  exact ⟨t, st.trans a1, b1⟩
end Rows
section Ends
variable {p : Program} {l : Launch} {e : Env} {R : Room} {s : State} {m : MethodId} {args : Array Value} {below : List Frame} {meth : Method} {c : Code} {H : Heap} {locs : List Loc} {cells slots : Nat} {Q : State → Prop}
variable {mc ms : Nat} {free : Addr → Prop} {A0 A1 : Nat → Prop} {H0 : Heap} {a : Array Value} {ls : Array Slot} {st0 rest : List Value}
variable {Qc : Array Value → State → Outcome → State → Prop} {XC : String → State → State → Prop}
/-- what a body that may throw owes at its end -/
def vx_MQ (below : List Frame) (Qc : Array Value → State → Outcome → State → Prop) (XC : String → State → State → Prop) (a : Array Value) (s : State) (mc ms : Nat) (free : Addr → Prop) : State → Prop := fun t =>
  ∃ o, t.status = .running ∧ Ended t below o ∧ vx_Q Qc XC mc ms free a s o t
theorem vx_ret {g : JFrame} {mc ms : Nat} (k : W p l e R s m args below meth c H locs cells slots (MQ below Qc args s mc ms free) g) : W p l e R s m args below meth c H locs cells slots (vx_MQ below Qc XC args s mc ms free) g := by
  intro T hT X
  obtain ⟨t, a1, o, b1, b2, b3, b4⟩ := k T hT X
  exact ⟨t, a1, o, b1, b2, Or.inl ⟨b3, b4⟩⟩
/-- not caught here: it goes on to the caller -/
theorem vx_widen {g : JFrame} {q : Addr} {k n : Nat} (h1 : cells ≤ k) (h2 : slots ≤ n) (kk : vx_W p l e R s m args below meth c H locs k n Q g q) : vx_W p l e R s m args below meth c H locs cells slots Q g q := fun T hT X => kk T hT (stand_widen X h1 h2)
theorem vx_out {pc : Nat} {E : String} {ce : Cell} {q : Addr} {mc ms : Nat} (hout : ∀ x ∈ c.exceptionTable.toList, covers x pc = false) (hlocks : meth.locks = false) (hcell : H[q]? = some ce) (hv : ce.vm = .none) (hcl : s.vm.findClass E = some ce.cls)
    (hx : ∀ t : State, t.heap = H → s.vm.Alike t.vm → XC E s t) (hf : ∀ z ∈ locs, free z.base) (hc : cells ≤ mc) (hs : slots ≤ ms) :
    vx_W p l e R s m args below meth c H locs cells slots (vx_MQ below Qc XC args s mc ms free) (F0 m pc ls rest) q := by
  intro T hT X
  obtain ⟨st1, hrun, hend, hW, hsm⟩ := X.leaveThrown q (g := F0 m pc ls rest) rfl rfl rfl hout hlocks
  have hcell9 : (T.setFrames (.throwing q :: below)).heap[q]? = some ce := by
    show T.heap[q]? = some ce
    rw [hT]; exact hcell
  exact ⟨_, st1, .threw q, hrun, hend, Or.inr ⟨q, rfl, E, ce, locs, hx _ hT hW.alike, hcell9, hv, hcl, hW, hsm.mono hc hs, hf⟩⟩
theorem vx_frame {U : State} {k n : Nat} (h : s.sameButNew ({ U with vm := s.vm } : State) locs k n) : s.heap.size ≤ U.heap.size ∧ ∀ q : Nat, q < s.heap.size → (∀ z ∈ locs, z.base ≠ q) → U.heap[q]? = s.heap[q]? := by
  obtain ⟨-, h2, -, -, -, h6⟩ := h
  refine ⟨h2, fun q hq hz => ?_⟩
  obtain ⟨c9, e1, e2, e3, e4⟩ := h6 q _ (Array.getElem?_eq_getElem hq)
  have hs : c9.slots = (s.heap[q]).slots := Array.ext_getElem? fun i => e4 i fun hm => hz _ hm rfl
  have h9 : c9 = s.heap[q] := by
    rw [hs] at e2
    exact e2
  have e5 : U.heap[q]? = some c9 := e1
  rw [e5, h9, Array.getElem?_eq_getElem hq]
/-- the words of a throw but the four that speak of the heap -/
def vx_no (w : Cond) : Bool := decide (w ≠ .isRef (.static Bundle.tN "UNASSIGNED_STACK" Bundle.steD)) && decide (w ≠ .isRef (.static Bundle.tN "SUPPRESSED_SENTINEL" Bundle.listD)) && decide (w ≠ .laysStatic Bundle.tN "UNASSIGNED_STACK" Bundle.steD) && decide (w ≠ .laysStatic Bundle.tN "SUPPRESSED_SENTINEL" Bundle.listD)
def vx_at0 (own : String) (ic : Nat) (X : String) (names : List String) : List Cond := (Bundle.ownAtoms0 own ic X names).filter vx_no
def vx_atS (own : String) (ic : Nat) (X : String) (names : List String) : List Cond := (Bundle.ownAtoms own ic X names).filter vx_no
/-- a word that the tables alone decide, or a good one -/
def vx_ot (w : Cond) : Bool := w.onTables || goodWord w
theorem vx_ot_at {args a' : Array Value} {s U : State} {w : Cond} (hW : s.WarmedH U.vm) (hvm : s.vm = U.vm) (hg : vx_ot w = true) (h : w.before args s = true) : w.before a' U = true := by
  simp only [vx_ot, Bool.or_eq_true] at hg
  rcases hg with hg | hg
  · exact va_tabs hg hvm h
  · exact word_at hW (good_of_word hg) h
/-- a list's words: the good ones out of the method's own list, the others by premises of their own -/
theorem vx_hat {args : Array Value} {s : State} {L B : List Cond} (h1 : ∀ w ∈ L.filter goodWord, w.before args s = true) (h2 : ∀ w ∈ L.filter (fun w => !goodWord w), w ∈ B) (h3 : ∀ w ∈ B, w.before args s = true) : ∀ w ∈ L, w.before args s = true := by
  intro w hw
  by_cases g : goodWord w = true
  · exact h1 w (List.mem_filter.mpr ⟨hw, g⟩)
  · refine h3 w (h2 w (List.mem_filter.mpr ⟨hw, ?_⟩))
    show (!goodWord w) = true
    cases hgw : goodWord w
    · rfl
    · exact absurd hgw g
theorem vx_c {args : Array Value} {s : State} {w : Cond} {B : List Cond} (h : w.before args s = true) (t : ∀ w ∈ B, w.before args s = true) : ∀ w' ∈ w :: B, w'.before args s = true := fun w' h' => (List.mem_cons.mp h').elim (fun e => by rw [e]; exact h) (t w')
theorem vx_n {args : Array Value} {s : State} : ∀ w ∈ ([] : List Cond), w.before args s = true := fun _ h => nomatch h
theorem vx_own {args : Array Value} {s : State} {L : List Cond} (h1 : ∀ w ∈ L.filter vx_no, w.before args s = true)
    (hU : (Cond.isRef (.static Bundle.tN "UNASSIGNED_STACK" Bundle.steD)).before args s = true) (hN : (Cond.isRef (.static Bundle.tN "SUPPRESSED_SENTINEL" Bundle.listD)).before args s = true)
    (lU : (Cond.laysStatic Bundle.tN "UNASSIGNED_STACK" Bundle.steD).before args s = true) (lN : (Cond.laysStatic Bundle.tN "SUPPRESSED_SENTINEL" Bundle.listD).before args s = true) : ∀ w ∈ L, w.before args s = true := by
  intro w hw
  by_cases e1 : w = .isRef (.static Bundle.tN "UNASSIGNED_STACK" Bundle.steD)
  · rw [e1]; exact hU
  · by_cases e2 : w = .isRef (.static Bundle.tN "SUPPRESSED_SENTINEL" Bundle.listD)
    · rw [e2]; exact hN
    · by_cases e3 : w = .laysStatic Bundle.tN "UNASSIGNED_STACK" Bundle.steD
      · rw [e3]; exact lU
      · by_cases e4 : w = .laysStatic Bundle.tN "SUPPRESSED_SENTINEL" Bundle.listD
        · rw [e4]; exact lN
        · exact h1 w (List.mem_filter.mpr ⟨hw, by unfold vx_no; rw [decide_eq_true e1, decide_eq_true e2, decide_eq_true e3, decide_eq_true e4]; rfl⟩)
/-- where a static field lies, its class's statics cell in H -/
def vx_L (C n d : String) (A : Nat → Prop) (U : State) (H : Heap) : Prop := ∃ (c : ClassId) (k : Class) (i : Nat) (f : Field) (a : Nat) (cell : Cell), U.vm.findClass C = some c ∧ U.fieldFound? C n d = some (c, k, i, f) ∧ f.isStatic = true ∧ k.statics = some a ∧ H[a]? = some cell ∧ cell.vm.isStatics = true ∧ cell.cls = c ∧ f.slot < cell.slots.size ∧ k.staticTypes[f.slot]? = some f.type ∧ ¬ A a
theorem vx_L.moved {C n d : String} {A : Nat → Prop} {u U : State} {H : Heap} (hvm : u.vm.Alike U.vm) (h : vx_L C n d A u H) : vx_L C n d A U H := by
  obtain ⟨c, k, i, f, a, cell, h1, h2, h3, h4, h5, h6, h7, h8, h9, h10⟩ := h
  obtain ⟨k', hi', he⟩ := State.fieldFound?_setVm hvm h2
  exact ⟨c, k', i, f, a, cell, by rw [hvm.findClass]; exact h1, hi', h3, by rw [he]; exact h4, h5, h6, h7, h8, by rw [he]; exact h9, h10⟩
theorem vx_L.kept {C n d : String} {A : Nat → Prop} {U : State} {H H1 : Heap} (h : vx_L C n d A U H) (hq : ∀ a : Nat, a < H.size → ¬ A a → H1[a]? = H[a]?) : vx_L C n d A U H1 := by
  obtain ⟨c, k, i, f, a, cell, h1, h2, h3, h4, h5, h6, h7, h8, h9, h10⟩ := h
  exact ⟨c, k, i, f, a, cell, h1, h2, h3, h4, by rw [hq a (Array.getElem?_eq_some_iff.mp h5).1 h10]; exact h5, h6, h7, h8, h9, h10⟩
theorem vx_L.narrow {C n d : String} {A B : Nat → Prop} {U : State} {H : Heap} (h : vx_L C n d A U H) (hAB : ∀ q, B q → A q) : vx_L C n d B U H := by
  obtain ⟨c, k, i, f, a, cell, h1, h2, h3, h4, h5, h6, h7, h8, h9, h10⟩ := h
  exact ⟨c, k, i, f, a, cell, h1, h2, h3, h4, h5, h6, h7, h8, h9, fun z => h10 (hAB _ z)⟩
theorem vx_L.word {C n d : String} {A : Nat → Prop} {s : State} {args : Array Value} (h : vx_L C n d A s s.heap) : (Cond.laysStatic C n d).before args s = true := by
  obtain ⟨c, k, i, f, a, cell, h1, h2, h3, h4, h5, h6, h7, h8, h9, -⟩ := h
  show (Cond.laysStatic C n d).holds args s none s [] = true
  exact Cond.laysStatic_of h1 h2 h3 h4 h5 h6 h7 h8 h9
/-- .. and what it holds: null or some reference -/
def vx_Zq (C n d : String) (A : Nat → Prop) (U : State) (H : Heap) : Prop := va_Zq C n d A U H ∧ vx_L C n d A U H
theorem vx_Zq.moved {C n d : String} {A : Nat → Prop} {u U : State} {H : Heap} (hvm : u.vm.Alike U.vm) (h : vx_Zq C n d A u H) : vx_Zq C n d A U H := ⟨va_Zq.moved hvm h.1, vx_L.moved hvm h.2⟩
theorem vx_Zq.kept {C n d : String} {A : Nat → Prop} {U : State} {H H1 : Heap} (h : vx_Zq C n d A U H) (hq : ∀ a : Nat, a < H.size → ¬ A a → H1[a]? = H[a]?) : vx_Zq C n d A U H1 := ⟨va_Zq.kept h.1 hq, vx_L.kept h.2 hq⟩
theorem vx_Zq.narrow {C n d : String} {A B : Nat → Prop} {U : State} {H : Heap} (h : vx_Zq C n d A U H) (hAB : ∀ q, B q → A q) : vx_Zq C n d B U H := ⟨va_Zq.narrow h.1 hAB, vx_L.narrow h.2 hAB⟩
theorem vx_Zqof {args : Array Value} {s : State} {C n d : String} {A : Nat → Prop} (hl : (Cond.laysStatic C n d).before args s = true) (hini : (Cond.initialized C).before args s = true) (h : (Cond.isRef (.static C n d)).before args s = true) (hA : ∀ a : Nat, a < s.heap.size → ¬ A a) : vx_Zq C n d A s s.heap := by
  refine ⟨va_Zqof hl hini h hA, ?_⟩
  obtain ⟨c, k, i, f, a, cell, h1, h2, h3, h4, h5, h6, h7, h8, h9⟩ := Cond.laysStatic_spec hl
  exact ⟨c, k, i, f, a, cell, h1, h2, h3, h4, h5, h6, h7, h8, h9, hA a (Array.getElem?_eq_some_iff.mp h5).1⟩
theorem vx_isRef {C n d : String} {v : Value} {A : Nat → Prop} {s : State} {args : Array Value} (h : va_Z C n d v A s s.heap) (hv : v.isRef = true) : (Cond.isRef (.static C n d)).before args s = true := by
  obtain ⟨cf, kf, fi, f, a, cell, h1, h2, h3, h4, h5, h6, h7, -⟩ := h
  have he : (Term.static C n d).eval args s none [] s = some v := by
    simp [Term.eval, State.fieldNamed?, h1, h2, h4, h5, h6, h7]
  simp only [Cond.before, Cond.holds, Cond.value, he]
  cases v <;> simp_all [Value.isRef]
theorem vx_isRefq {C n d : String} {A : Nat → Prop} {s : State} {args : Array Value} (h : va_Zq C n d A s s.heap) : (Cond.isRef (.static C n d)).before args s = true := by
  rcases h with h | ⟨t, h⟩
  · exact vx_isRef h rfl
  · exact vx_isRef h rfl
/-- the same frame, seen from here: as if the method were called anew in this heap -/
theorem vx_rebase {T : State} (X : Stand p l e R s m args below meth c T locs cells slots) {R' : Room} (hf : R'.frames ≤ R.frames) (hl : R'.locals ≤ R.locals) (hc : cells + R'.cells ≤ R.cells) (hs : slots + R'.slots ≤ R.slots) :
    Stand p l e R' ((T.setVm s.vm).setFrames (.invoking m args :: below)) m args below meth c T [] 0 0 := by
  have htop : (T.setVm s.vm).topJava?.isSome := X.here.top
  have hF : ((T.setVm s.vm).setFrames (.invoking m args :: below)).frames = .invoking m args :: below := State.frames_setFrames _ (State.cur_lt_of_top htop)
  obtain ⟨g₀, hg0⟩ := Option.isSome_iff_exists.mp htop
  obtain ⟨r, hr⟩ := State.topJava?_eq_some.mp hg0
  have hl9 : e.platform.stackLimits (T.setVm s.vm).me = e.platform.stackLimits s.me := X.limits
  have hb9 : (T.setVm s.vm).me.stackBytes = s.me.stackBytes := X.bytes
  refine ⟨X.admits, X.cas, X.clock, hF, ?_, X.hears, X.method, X.code, X.here, X.tail, X.warmed, ?_, ?_, ?_⟩
  · have h := X.room
    have hU : ((T.setVm s.vm).setFrames (.invoking m args :: below)).localsInUse = s.localsInUse := by
      rw [State.localsInUse_invoking hF (meth := meth) (c := c) X.method X.code, State.localsInUse_invoking X.frames X.method X.code]
    simp only [State.hasRoom, Bool.and_eq_true, decide_eq_true_eq] at h ⊢
    obtain ⟨⟨⟨⟨h1, h2, h3, h4, h5, h6⟩, h7⟩, h8⟩, h9⟩ := h
    rw [X.frames, List.length_cons] at h2 h3
    have q1 := X.heapSize
    have q2 := X.used
    simp only [hF, hU, List.length_cons, State.stackLimits_setFrames, State.stackBytes_setFrames, hl9, hb9]
    refine ⟨⟨⟨⟨by omega, by omega, by omega, by omega, by omega, h6⟩, ?_⟩, ?_⟩, X.book⟩
    · show T.heap.size + R'.cells ≤ e.platform.maxCells
      omega
    · show T.slotsUsed + R'.slots ≤ e.platform.maxSlots
      omega
  · rw [State.stackLimits_setFrames]; rfl
  · rw [State.stackBytes_setFrames]; rfl
  · refine ⟨?_, Nat.le_refl _, Nat.le_refl _, ?_, ?_, fun a c9 h9 => ⟨c9, h9, rfl, rfl, fun _ _ => rfl⟩⟩
    · obtain ⟨t, ht, -⟩ := State.frames_cons hr
      show T.setVm s.vm = { ((T.setVm s.vm).setFrames (.invoking m args :: below)).setFrames (T.setVm s.vm).frames with heap := T.heap, slotsUsed := T.slotsUsed }
      rw [State.setFrames_setFrames, State.setFrames_self ht]
      rfl
    · show T.slotsUsed = T.slotsUsed + ((T.heap.toList.drop T.heap.size).map (·.slots.size)).sum
      rw [List.drop_eq_nil_of_le (Nat.le_of_eq Array.length_toList)]
      rfl
    · show ((T.heap.toList.drop T.heap.size).map (·.slots.size)).sum ≤ 0
      rw [List.drop_eq_nil_of_le (Nat.le_of_eq Array.length_toList)]
      exact Nat.le_refl _
/-- 'throw new E()': new; dup; invokespecial; athrow -/
theorem vx_throw0 {cc : ByteArray} {pc : Nat} (hexec : p.tables.exec = Jvm.exec) (hb : c.code = cc) (hl : l.stackTraces = false) {own cls : String} {names : List String} {ik ic mc ms : Nat} {A : Nat → Prop}
    (hown : s.vm.findClass own = some m.cls) (hcls : Bundle.fit cls = true) (hnames : ∀ n ∈ names, Bundle.fit n = true)
    (hk : (Cond.classLink own ik cls).before args s = true) (hini : (Cond.initialized cls).before args s = true) (hat : ∀ w ∈ vx_at0 own ic cls names, w.before args s = true)
    (hgood : ∀ w ∈ Cond.classLink own ik cls :: Cond.initialized cls :: vx_at0 own ic cls names, vx_ot w = true)
    (hU : vx_Zq Bundle.tN "UNASSIGNED_STACK" Bundle.steD A s s.heap) (hN : vx_Zq Bundle.tN "SUPPRESSED_SENTINEL" Bundle.listD A s s.heap) (hS : va_S A s.heap H locs) (hsize : ls.size = c.maxLocals)
    (d0 : decode cc pc = .ok (.new ik, 3)) (d3 : decode cc (pc + 3) = .ok (.dup, 1)) (d4 : decode cc (pc + 4) = .ok (.invokespecial ic, 3)) (d7 : decode cc (pc + 7) = .ok (.athrow, 1))
    (hout : ∀ x ∈ c.exceptionTable.toList, covers x (pc + 7) = false)
    (hRframes : names.length + 3 < R.frames) (hRlocals : (rest.map fun v => v.category).sum + (13 * (names.length + 1) + 42) ≤ R.locals) (hRcells : cells + 1 ≤ R.cells) (hRslots : slots + 6 ≤ R.slots) (hlocks : meth.locks = false)
    (hx : ∀ t : State, s.vm.Alike t.vm → H.size ≤ t.heap.size → (∀ q : Nat, q < H.size → t.heap[q]? = H[q]?) → XC cls s t)
    (hf : ∀ z ∈ locs, free z.base) (hc : cells + 1 ≤ mc) (hs : slots + 6 ≤ ms) :
    W p l e R s m args below meth c H locs cells slots (vx_MQ below Qc XC args s mc ms free) (F0 m pc ls rest) := by
  intro T hT X
  have htr : e.platform.stackTraces = false := (show e.platform.stackTraces = l.stackTraces by rw [X.admits.platform]).trans hl
  have Y := vx_rebase X (R' := { frames := R.frames, locals := R.locals, cells := 1, slots := 6 }) (Nat.le_refl _) (Nat.le_refl _) hRcells hRslots
  obtain ⟨s', hA⟩ : ∃ z, z = (T.setVm s.vm).setFrames (.invoking m args :: below) := ⟨_, rfl⟩
  rw [← hA] at Y
  have hvm : s'.vm = s.vm := by rw [hA]; rfl
  have hhp : s'.heap = H := by rw [hA]; exact hT
  have hW0 : s.WarmedH s'.vm := by rw [hvm]; exact State.WarmedH.refl s
  have hat' : ∀ w ∈ vx_at0 own ic cls names, w.before args s' = true := fun w hw => vx_ot_at hW0 hvm.symm (hgood w (List.mem_cons_of_mem _ (List.mem_cons_of_mem _ hw))) (hat w hw)
  have hk' : (Cond.classLink own ik cls).before args s' = true := vx_ot_at hW0 hvm.symm (hgood _ List.mem_cons_self) hk
  have hini' : (Cond.initialized cls).before args s' = true := vx_ot_at hW0 hvm.symm (hgood _ (List.mem_cons_of_mem _ List.mem_cons_self)) hini
  have hU' : vx_Zq Bundle.tN "UNASSIGNED_STACK" Bundle.steD A s' s'.heap := by rw [hhp]; exact vx_Zq.moved hW0.alike (hU.kept hS.2.1)
  have hN' : vx_Zq Bundle.tN "SUPPRESSED_SENTINEL" Bundle.listD A s' s'.heap := by rw [hhp]; exact vx_Zq.moved hW0.alike (hN.kept hS.2.1)
  have h : ∀ w ∈ Bundle.ownAtoms0 own ic cls names, w.before args s' = true := vx_own hat' (vx_isRefq hU'.1) (vx_isRefq hN'.1) hU'.2.word hN'.2.word
  have hown' : s'.vm.findClass own = some m.cls := by rw [hvm]; exact hown
  have hins : (Cond.instantiable cls 6).before args s' = true := h _ (by simp [Bundle.ownAtoms0])
  obtain ⟨vm₁, cX, kX, hfX, hkX, -, -, X₁, st1⟩ := Y.newCold hexec (own := own) (C := cls) (index := ik) (n := 6) hown' hk' hins hini'
    (g := F0 m pc ls rest) rfl (by rw [hb]; exact d0) (Nat.le_refl _) (Nat.le_refl _)
  generalize hT1 : (T.setVm vm₁).pushCell { cls := cX, slots := kX.instanceTypes.map defaultValue, vm := .none } = T1 at X₁ st1
  have hcat : (Value.ref T.heap.size).category = 1 := rfl
  have hcellA : T1.heap[T.heap.size]? = some (freshCell cX kX) := by rw [← hT1]; exact State.heap_pushCell_size _ _
  have d3' : decode c.code (pc + 3) = .ok (.dup, 1) := by rw [hb]; exact d3
  obtain ⟨U, hsteps, hrun, hend, hW, hsame, ce, hce, hO⟩ := X₁.ctorThrow0 hexec htr (own := own) (cls := cls) (names := names) (ic := ic) hown' hcls hnames h (fun x hx => nomatch hx) hfX hkX hcellA (by rw [hhp, hT]; exact Nat.le_refl _)
    (g := { method := m, pc := pc + 4, locals := ls, stack := .ref T.heap.size :: .ref T.heap.size :: rest, locked := none }) rfl hsize rfl rfl (rest := rest) rfl
    (by rw [hb]; exact d4) (by rw [hb]; exact d7) hout hRframes (by simp only [List.map_cons, List.sum_cons, hcat]; omega) hlocks
  obtain ⟨f1, f2⟩ := vx_frame hsame
  rw [hhp] at f1 f2
  have hWs : s.WarmedH U.vm := State.WarmedH.trans hW0 hW
  have hcl : s.vm.findClass cls = some ce.cls := by
    have h9 := hO.cls
    rw [hvm] at h9
    exact h9
  have hall : s.sameButNew ({ U with vm := s.vm } : State) locs mc ms := by
    subst hA
    obtain ⟨e1, e2⟩ := hsame
    rw [State.setFrames_setFrames] at e1
    have h2 : (T.setVm s.vm).sameButNew ({ U with vm := s.vm } : State) [] (0 + 1) (0 + 6) := ⟨e1, e2⟩
    have h3 := X.same.trans h2
    rw [List.append_nil] at h3
    exact h3.mono hc hs
  refine ⟨U, ?_, .threw T.heap.size, hrun, hend, Or.inr ⟨T.heap.size, rfl, cls, ce, locs, hx U hWs.alike f1 (fun q hq => f2 q hq (fun z hz => nomatch hz)), hce, hO.vm, hcl, hWs, hall, hf⟩⟩
  refine st1 _ ?_
  show Steps p.tables e below (T1.setTop { method := m, pc := pc + 3, locals := ls, stack := .ref T.heap.size :: rest, locked := none }) _
  jvm_step X₁.here [X₁.here.top, hexec, d3', Value.category]
  exact hsteps
/-- 'throw new E("text")': new; dup; ldc; invokespecial; athrow -/
theorem vx_throwS {cc : ByteArray} {pc : Nat} (hexec : p.tables.exec = Jvm.exec) (hb : c.code = cc) (hl : l.stackTraces = false) {own cls text : String} {names : List String} {ik is ic mc ms sa : Nat} {A : Nat → Prop}
    (hown : s.vm.findClass own = some m.cls) (hcls : Bundle.fit cls = true) (hnames : ∀ n ∈ names, Bundle.fit n = true)
    (hk : (Cond.classLink own ik cls).before args s = true) (hini : (Cond.initialized cls).before args s = true) (hstr : vk_R own is text sa s) (hat : ∀ w ∈ vx_atS own ic cls names, w.before args s = true)
    (hgood : ∀ w ∈ Cond.classLink own ik cls :: Cond.initialized cls :: vx_atS own ic cls names, vx_ot w = true)
    (hU : vx_Zq Bundle.tN "UNASSIGNED_STACK" Bundle.steD A s s.heap) (hN : vx_Zq Bundle.tN "SUPPRESSED_SENTINEL" Bundle.listD A s s.heap) (hS : va_S A s.heap H locs) (hsize : ls.size = c.maxLocals)
    (d0 : decode cc pc = .ok (.new ik, 3)) (d3 : decode cc (pc + 3) = .ok (.dup, 1)) (d4 : decode cc (pc + 4) = .ok (.ldc is, 2)) (d6 : decode cc (pc + 6) = .ok (.invokespecial ic, 3)) (d9 : decode cc (pc + 9) = .ok (.athrow, 1))
    (hout : ∀ x ∈ c.exceptionTable.toList, covers x (pc + 9) = false)
    (hRframes : names.length + 3 < R.frames) (hRlocals : (rest.map fun v => v.category).sum + (13 * (names.length + 1) + 43) ≤ R.locals) (hRcells : cells + 1 ≤ R.cells) (hRslots : slots + 6 ≤ R.slots) (hlocks : meth.locks = false)
    (hx : ∀ t : State, s.vm.Alike t.vm → H.size ≤ t.heap.size → (∀ q : Nat, q < H.size → t.heap[q]? = H[q]?) → XC cls s t)
    (hf : ∀ z ∈ locs, free z.base) (hc : cells + 1 ≤ mc) (hs : slots + 6 ≤ ms) :
    W p l e R s m args below meth c H locs cells slots (vx_MQ below Qc XC args s mc ms free) (F0 m pc ls rest) := by
  intro T hT X
  have htr : e.platform.stackTraces = false := (show e.platform.stackTraces = l.stackTraces by rw [X.admits.platform]).trans hl
  have Y := vx_rebase X (R' := { frames := R.frames, locals := R.locals, cells := 1, slots := 6 }) (Nat.le_refl _) (Nat.le_refl _) hRcells hRslots
  obtain ⟨s', hA⟩ : ∃ z, z = (T.setVm s.vm).setFrames (.invoking m args :: below) := ⟨_, rfl⟩
  rw [← hA] at Y
  have hvm : s'.vm = s.vm := by rw [hA]; rfl
  have hhp : s'.heap = H := by rw [hA]; exact hT
  have hW0 : s.WarmedH s'.vm := by rw [hvm]; exact State.WarmedH.refl s
  have hat' : ∀ w ∈ vx_atS own ic cls names, w.before args s' = true := fun w hw => vx_ot_at hW0 hvm.symm (hgood w (List.mem_cons_of_mem _ (List.mem_cons_of_mem _ hw))) (hat w hw)
  have hk' : (Cond.classLink own ik cls).before args s' = true := vx_ot_at hW0 hvm.symm (hgood _ List.mem_cons_self) hk
  have hini' : (Cond.initialized cls).before args s' = true := vx_ot_at hW0 hvm.symm (hgood _ (List.mem_cons_of_mem _ List.mem_cons_self)) hini
  have hU' : vx_Zq Bundle.tN "UNASSIGNED_STACK" Bundle.steD A s' s'.heap := by rw [hhp]; exact vx_Zq.moved hW0.alike (hU.kept hS.2.1)
  have hN' : vx_Zq Bundle.tN "SUPPRESSED_SENTINEL" Bundle.listD A s' s'.heap := by rw [hhp]; exact vx_Zq.moved hW0.alike (hN.kept hS.2.1)
  have h : ∀ w ∈ Bundle.ownAtoms own ic cls names, w.before args s' = true := vx_own hat' (vx_isRefq hU'.1) (vx_isRefq hN'.1) hU'.2.word hN'.2.word
  have hown' : s'.vm.findClass own = some m.cls := by rw [hvm]; exact hown
  have hins : (Cond.instantiable cls 6).before args s' = true := h _ (by simp [Bundle.ownAtoms])
  obtain ⟨vm₁, cX, kX, hfX, hkX, -, -, X₁, st1⟩ := Y.newCold hexec (own := own) (C := cls) (index := ik) (n := 6) hown' hk' hins hini'
    (g := F0 m pc ls rest) rfl (by rw [hb]; exact d0) (Nat.le_refl _) (Nat.le_refl _)
  generalize hT1 : (T.setVm vm₁).pushCell { cls := cX, slots := kX.instanceTypes.map defaultValue, vm := .none } = T1 at X₁ st1
  have hcat : (Value.ref T.heap.size).category = 1 := rfl
  have hcellA : T1.heap[T.heap.size]? = some (freshCell cX kX) := by rw [← hT1]; exact State.heap_pushCell_size _ _
  have d3' : decode c.code (pc + 3) = .ok (.dup, 1) := by rw [hb]; exact d3
  have d4' : decode c.code (pc + 4) = .ok (.ldc is, 2) := by rw [hb]; exact d4
  have hstr' : vk_R own is text sa s' := vk_R.warm hW0 hstr
  obtain ⟨U, hsteps, hrun, hend, hW, hsame, ce, hce, hO⟩ := X₁.ctorThrowS hexec htr (own := own) (cls := cls) (names := names) (ic := ic) hown' hcls hnames h (fun x hx => nomatch hx) hfX hkX hcellA (by rw [hhp, hT]; exact Nat.le_refl _) (msg := .ref sa) rfl
    (g := { method := m, pc := pc + 6, locals := ls, stack := .ref sa :: .ref T.heap.size :: .ref T.heap.size :: rest, locked := none }) rfl hsize rfl rfl (rest := rest) rfl
    (by rw [hb]; exact d6) (by rw [hb]; exact d9) hout hRframes (by simp only [List.map_cons, List.sum_cons, hcat]; omega) hlocks
  obtain ⟨f1, f2⟩ := vx_frame hsame
  rw [hhp] at f1 f2
  have hWs : s.WarmedH U.vm := State.WarmedH.trans hW0 hW
  have hcl : s.vm.findClass cls = some ce.cls := by
    have h9 := hO.cls
    rw [hvm] at h9
    exact h9
  have hall : s.sameButNew ({ U with vm := s.vm } : State) locs mc ms := by
    subst hA
    obtain ⟨e1, e2⟩ := hsame
    rw [State.setFrames_setFrames] at e1
    have h2 : (T.setVm s.vm).sameButNew ({ U with vm := s.vm } : State) [] (0 + 1) (0 + 6) := ⟨e1, e2⟩
    have h3 := X.same.trans h2
    rw [List.append_nil] at h3
    exact h3.mono hc hs
  refine ⟨U, ?_, .threw T.heap.size, hrun, hend, Or.inr ⟨T.heap.size, rfl, cls, ce, locs, hx U hWs.alike f1 (fun q hq => f2 q hq (fun z hz => nomatch hz)), hce, hO.vm, hcl, hWs, hall, hf⟩⟩
  refine st1 _ ?_
  show Steps p.tables e below (T1.setTop { method := m, pc := pc + 3, locals := ls, stack := .ref T.heap.size :: rest, locked := none }) _
  jvm_step X₁.here [X₁.here.top, hexec, d3', Value.category]
  exact X₁.ldcString hexec (own := own) (text := text) (index := is) (a := sa) hown' hstr'.1 hstr'.2
    (g := { method := m, pc := pc + 4, locals := ls, stack := .ref T.heap.size :: .ref T.heap.size :: rest, locked := none }) rfl d4' _ hsteps
/-- 'throw new E("text")', the text by a wide index -/
theorem vx_throwSW {cc : ByteArray} {pc : Nat} (hexec : p.tables.exec = Jvm.exec) (hb : c.code = cc) (hl : l.stackTraces = false) {own cls text : String} {names : List String} {ik is ic mc ms sa : Nat} {A : Nat → Prop}
    (hown : s.vm.findClass own = some m.cls) (hcls : Bundle.fit cls = true) (hnames : ∀ n ∈ names, Bundle.fit n = true)
    (hk : (Cond.classLink own ik cls).before args s = true) (hini : (Cond.initialized cls).before args s = true) (hstr : vk_R own is text sa s) (hat : ∀ w ∈ vx_atS own ic cls names, w.before args s = true)
    (hgood : ∀ w ∈ Cond.classLink own ik cls :: Cond.initialized cls :: vx_atS own ic cls names, vx_ot w = true)
    (hU : vx_Zq Bundle.tN "UNASSIGNED_STACK" Bundle.steD A s s.heap) (hN : vx_Zq Bundle.tN "SUPPRESSED_SENTINEL" Bundle.listD A s s.heap) (hS : va_S A s.heap H locs) (hsize : ls.size = c.maxLocals)
    (d0 : decode cc pc = .ok (.new ik, 3)) (d3 : decode cc (pc + 3) = .ok (.dup, 1)) (d4 : decode cc (pc + 4) = .ok (.ldc_w is, 3)) (d7 : decode cc (pc + 7) = .ok (.invokespecial ic, 3)) (d10 : decode cc (pc + 10) = .ok (.athrow, 1))
    (hout : ∀ x ∈ c.exceptionTable.toList, covers x (pc + 10) = false)
    (hRframes : names.length + 3 < R.frames) (hRlocals : (rest.map fun v => v.category).sum + (13 * (names.length + 1) + 43) ≤ R.locals) (hRcells : cells + 1 ≤ R.cells) (hRslots : slots + 6 ≤ R.slots) (hlocks : meth.locks = false)
    (hx : ∀ t : State, s.vm.Alike t.vm → H.size ≤ t.heap.size → (∀ q : Nat, q < H.size → t.heap[q]? = H[q]?) → XC cls s t)
    (hf : ∀ z ∈ locs, free z.base) (hc : cells + 1 ≤ mc) (hs : slots + 6 ≤ ms) :
    W p l e R s m args below meth c H locs cells slots (vx_MQ below Qc XC args s mc ms free) (F0 m pc ls rest) := by
  intro T hT X
  have htr : e.platform.stackTraces = false := (show e.platform.stackTraces = l.stackTraces by rw [X.admits.platform]).trans hl
  have Y := vx_rebase X (R' := { frames := R.frames, locals := R.locals, cells := 1, slots := 6 }) (Nat.le_refl _) (Nat.le_refl _) hRcells hRslots
  obtain ⟨s', hA⟩ : ∃ z, z = (T.setVm s.vm).setFrames (.invoking m args :: below) := ⟨_, rfl⟩
  rw [← hA] at Y
  have hvm : s'.vm = s.vm := by rw [hA]; rfl
  have hhp : s'.heap = H := by rw [hA]; exact hT
  have hW0 : s.WarmedH s'.vm := by rw [hvm]; exact State.WarmedH.refl s
  have hat' : ∀ w ∈ vx_atS own ic cls names, w.before args s' = true := fun w hw => vx_ot_at hW0 hvm.symm (hgood w (List.mem_cons_of_mem _ (List.mem_cons_of_mem _ hw))) (hat w hw)
  have hk' : (Cond.classLink own ik cls).before args s' = true := vx_ot_at hW0 hvm.symm (hgood _ List.mem_cons_self) hk
  have hini' : (Cond.initialized cls).before args s' = true := vx_ot_at hW0 hvm.symm (hgood _ (List.mem_cons_of_mem _ List.mem_cons_self)) hini
  have hU' : vx_Zq Bundle.tN "UNASSIGNED_STACK" Bundle.steD A s' s'.heap := by rw [hhp]; exact vx_Zq.moved hW0.alike (hU.kept hS.2.1)
  have hN' : vx_Zq Bundle.tN "SUPPRESSED_SENTINEL" Bundle.listD A s' s'.heap := by rw [hhp]; exact vx_Zq.moved hW0.alike (hN.kept hS.2.1)
  have h : ∀ w ∈ Bundle.ownAtoms own ic cls names, w.before args s' = true := vx_own hat' (vx_isRefq hU'.1) (vx_isRefq hN'.1) hU'.2.word hN'.2.word
  have hown' : s'.vm.findClass own = some m.cls := by rw [hvm]; exact hown
  have hins : (Cond.instantiable cls 6).before args s' = true := h _ (by simp [Bundle.ownAtoms])
  obtain ⟨vm₁, cX, kX, hfX, hkX, -, -, X₁, st1⟩ := Y.newCold hexec (own := own) (C := cls) (index := ik) (n := 6) hown' hk' hins hini'
    (g := F0 m pc ls rest) rfl (by rw [hb]; exact d0) (Nat.le_refl _) (Nat.le_refl _)
  generalize hT1 : (T.setVm vm₁).pushCell { cls := cX, slots := kX.instanceTypes.map defaultValue, vm := .none } = T1 at X₁ st1
  have hcat : (Value.ref T.heap.size).category = 1 := rfl
  have hcellA : T1.heap[T.heap.size]? = some (freshCell cX kX) := by rw [← hT1]; exact State.heap_pushCell_size _ _
  have d3' : decode c.code (pc + 3) = .ok (.dup, 1) := by rw [hb]; exact d3
  have d4' : decode c.code (pc + 4) = .ok (.ldc_w is, 3) := by rw [hb]; exact d4
  have hstr' : vk_R own is text sa s' := vk_R.warm hW0 hstr
  obtain ⟨U, hsteps, hrun, hend, hW, hsame, ce, hce, hO⟩ := X₁.ctorThrowS hexec htr (own := own) (cls := cls) (names := names) (ic := ic) hown' hcls hnames h (fun x hx => nomatch hx) hfX hkX hcellA (by rw [hhp, hT]; exact Nat.le_refl _) (msg := .ref sa) rfl
    (g := { method := m, pc := pc + 7, locals := ls, stack := .ref sa :: .ref T.heap.size :: .ref T.heap.size :: rest, locked := none }) rfl hsize rfl rfl (rest := rest) rfl
    (by rw [hb]; exact d7) (by rw [hb]; exact d10) hout hRframes (by simp only [List.map_cons, List.sum_cons, hcat]; omega) hlocks
  obtain ⟨f1, f2⟩ := vx_frame hsame
  rw [hhp] at f1 f2
  have hWs : s.WarmedH U.vm := State.WarmedH.trans hW0 hW
  have hcl : s.vm.findClass cls = some ce.cls := by
    have h9 := hO.cls
    rw [hvm] at h9
    exact h9
  have hall : s.sameButNew ({ U with vm := s.vm } : State) locs mc ms := by
    subst hA
    obtain ⟨e1, e2⟩ := hsame
    rw [State.setFrames_setFrames] at e1
    have h2 : (T.setVm s.vm).sameButNew ({ U with vm := s.vm } : State) [] (0 + 1) (0 + 6) := ⟨e1, e2⟩
    have h3 := X.same.trans h2
    rw [List.append_nil] at h3
    exact h3.mono hc hs
  refine ⟨U, ?_, .threw T.heap.size, hrun, hend, Or.inr ⟨T.heap.size, rfl, cls, ce, locs, hx U hWs.alike f1 (fun q hq => f2 q hq (fun z hz => nomatch hz)), hce, hO.vm, hcl, hWs, hall, hf⟩⟩
  refine st1 _ ?_
  show Steps p.tables e below (T1.setTop { method := m, pc := pc + 3, locals := ls, stack := .ref T.heap.size :: rest, locked := none }) _
  jvm_step X₁.here [X₁.here.top, hexec, d3', Value.category]
  exact X₁.ldcStringW hexec (own := own) (text := text) (index := is) (a := sa) hown' hstr'.1 hstr'.2
    (g := { method := m, pc := pc + 4, locals := ls, stack := .ref T.heap.size :: .ref T.heap.size :: rest, locked := none }) rfl d4' _ hsteps
end Ends
section Bodies
variable {l : Launch}
theorem vx_ofW {y : MethodName} {ws ws' : List Cond} {rm : Room} {Pc : Array Value → State → Prop} {Qc : Array Value → State → Outcome → State → Prop} {XC : String → State → State → Prop} {mc ms : Nat} {free : Addr → Prop} {cc : ByteArray} {maxL : Nat} {ret : Option FieldType}
    (hy : plainName y.cls = true) (hw : ws = Cond.code y cc maxL ret :: ws')
    (body : ∀ p e s m args below meth c s₁, BodyLoose p l y (headSpec ws rm) cc maxL ret e s m args below meth c s₁ → c.maxLocals = maxL → (∀ x ∈ c.exceptionTable.toList, False) → Pc args s →
      W p l e (headSpec ws rm).room s m args below meth c s.heap [] 0 0 (vx_MQ below Qc XC args s mc ms free) (entryFrame m args maxL)) : vx_Met l y ws rm Pc Qc XC mc ms free := by
  refine MetFree.of_bodyS (code := cc) (maxLocals := maxL) (ret := ret) hy ?_ ?_
  · intro args s m h hn
    obtain ⟨meth, c, h1, h2, h3, h4, h5, h6, -, -⟩ := Cond.code_spec hn (atoms_spec (ws := ws) h _ (by rw [hw]; exact List.mem_cons_self))
    exact ⟨meth, c, h1, h2, h3, h4, h5, h6⟩
  · intro p e s m args below meth c s₁ B hml hP _
    have hh0 : s₁.heap = s.heap := by rw [B.state]; rfl
    have ht : ∀ x ∈ c.exceptionTable.toList, False := by
      obtain ⟨meth9, c9, h1, h2, -, -, -, -, h7, -⟩ := Cond.code_spec B.named (atoms_spec (ws := ws) B.pre _ (by rw [hw]; exact List.mem_cons_self))
      cases Option.some.inj (h1.symm.trans B.method)
      cases Option.some.inj (h2.symm.trans (Stand.of_body B).code)
      intro x hx
      rw [Array.isEmpty_iff.mp h7] at hx
      cases hx
    obtain ⟨t, a1, o, b1, b2, b3⟩ := body p e s m args below meth c s₁ B hml ht hP s₁ hh0 (Stand.of_body B)
    exact ⟨t, o, a1, b1, b2, b3⟩
/-- the table of a body with handlers -/
theorem vx_table {p : Program} {x y : MethodName} {S : Spec} {cc bytes : ByteArray} {maxL maxL' : Nat} {ret ret' : Option FieldType} {e : Env} {s s₁ : State} {m : MethodId} {args : Array Value} {below : List Frame} {meth : Method} {c : Code} {hh : List (Nat × Nat × Nat × Nat)}
    (B : BodyLoose p l y S cc maxL ret e s m args below meth c s₁) (h : (Cond.codeWith y bytes maxL' ret' hh).before args s = true) : c.exceptionTable.toList = tableOf hh := by
  obtain ⟨m9, meth9, c9, hn9, h1, h2, -, -, h6, -⟩ := Cond.codeWith_spec h
  cases Option.some.inj (hn9.symm.trans B.named)
  cases Option.some.inj (h1.symm.trans B.method)
  cases Option.some.inj (h2.symm.trans (Stand.of_body B).code)
  rw [← h6, table_eq]
end Bodies
end VXA
/-! ===== END ===== -/
/-! ===== BEGIN a static call of a method with an exception table ===== -/
section VXS
variable {p : Program} {l : Launch} {e : Env} {R : Room} {s : State} {m : MethodId} {args : Array Value} {below : List Frame} {meth : Method} {c : Code} {T : State} {H : Heap} {locs : List Loc} {cells slots : Nat}
abbrev vx_CSW (R : Room) (s : State) (args : Array Value) (own : String) (index : Nat) (y : MethodName) (bytes : ByteArray) (maxL : Nat) (ret : Option FieldType) (hh : List (Nat × Nat × Nat × Nat)) (ws : List Cond) (rm : Room) (mc ms n : Nat) : Prop :=
  (rm.cells = mc ∧ rm.slots = ms ∧ rm.frames + 1 ≤ R.frames ∧ 8 + (maxL + 11) + rm.locals ≤ R.locals ∧ (∀ w ∈ ws, ∀ (a' : Array Value) (U : State), s.WarmedH U.vm → w.before a' U = true) ∧ Cond.codeWith y bytes maxL ret hh ∈ ws) ∧
  (Cond.codeWith y bytes maxL ret hh).before args s = true ∧ (Cond.initialized y.cls).before args s = true ∧ (y.cls ≠ "java/lang/invoke/MethodHandle" ∧ y.cls ≠ "java/lang/invoke/VarHandle") ∧
  (∀ sig, parseMethodDescriptor y.desc = some sig → n = sig.parameters.length) ∧ (Cond.methodLink own index y).before args s = true ∧ (Cond.static y).before args s = true
theorem vx_cwSW {own : String} {index maxL mc ms : Nat} {y : MethodName} {bytes : ByteArray} {ret : Option FieldType} {hh : List (Nat × Nat × Nat × Nat)} {Ts ws ws' : List Cond} {rm : Room} (n : Nat) (ht : ∀ w ∈ Ts, w.before args s = true) (hT : GoodIn Ts (va_wsS own index y ws)) (hw : ws = Cond.codeWith y bytes maxL ret hh :: ws') (hrc : rm.cells = mc) (hrs : rm.slots = ms)
    (hd : y.cls ≠ "java/lang/invoke/MethodHandle" ∧ y.cls ≠ "java/lang/invoke/VarHandle" ∧ (parseMethodDescriptor y.desc).map (fun d => d.parameters.length) = some n) (hR : rm.frames + 1 ≤ R.frames ∧ 8 + (maxL + 11) + rm.locals ≤ R.locals) :
    vx_CSW R s args own index y bytes maxL ret hh ws rm mc ms n := by
  have ok : ∀ w ∈ va_wsS own index y ws, w.before args s = true := fun w h => ht w (hT w h).1
  have hG : GoodIn Ts ws := fun w h => hT w (by unfold va_wsS; exact List.mem_append_right _ h)
  have hc : Cond.codeWith y bytes maxL ret hh ∈ ws := by rw [hw]; exact List.mem_cons_self
  refine ⟨⟨hrc, hrs, hR.1, hR.2, pay_in ht hG, hc⟩, ht _ (hG _ hc).1, ok _ (by simp [va_wsS]), ⟨hd.1, hd.2.1⟩, fun sig h => ?_, ok _ (by simp [va_wsS]), ok _ (by simp [va_wsS])⟩
  have h2 := hd.2.2
  rw [h] at h2
  exact (Option.some.inj h2).symm
theorem vx_callSW (X : Stand p l e R s m args below meth c T locs cells slots) (hexec : p.tables.exec = Jvm.exec) {own : String} {index : Nat} {y : MethodName} {bytes : ByteArray} {maxL : Nat} {ret : Option FieldType} {hh : List (Nat × Nat × Nat × Nat)}
    (hown : s.vm.findClass own = some m.cls) (hlink : (Cond.methodLink own index y).before args s = true) (hstat : (Cond.static y).before args s = true) (hinit : (Cond.initialized y.cls).before args s = true)
    (hcode : (Cond.codeWith y bytes maxL ret hh).before args s = true) (hy : y.cls ≠ "java/lang/invoke/MethodHandle" ∧ y.cls ≠ "java/lang/invoke/VarHandle")
    {W9 : Nat} {Pre : Pt → Array Value → Prop} {Post : Pt → Array Value → Option Value → Pt → Prop} (hK : Back l R p e below s args y 3 W9 Pre Post)
    {g : JFrame} (hg : g.method = m) (hsize : g.locals.size = c.maxLocals) {argsL rest : List Value} (hlen : ∀ sig, parseMethodDescriptor y.desc = some sig → argsL.length = sig.parameters.length)
    (hstack : g.stack = argsL.reverse ++ rest) (hW : 2 * g.monitorRoom + (rest.map fun v => v.category).sum ≤ W9) (hdg : decode c.code g.pc = .ok (.invokestatic index, 3))
    (hpre : ∀ vm₁, s.WarmedH vm₁ → Pre ⟨T.setVm vm₁, locs, cells, slots⟩ argsL.toArray) :
    ∃ (v : Option Value) (vm₁ : Vm) (B : Pt), s.WarmedH vm₁ ∧ Stand p l e R s m args below meth c B.U B.locs B.cells B.slots ∧ Post ⟨T.setVm vm₁, locs, cells, slots⟩ argsL.toArray v B ∧
      ∀ target, Steps p.tables e below (B.U.setTop { g with pc := g.pc + 3, stack := v.toList ++ rest }) target → Steps p.tables e below (T.setTop g) target := by
  obtain ⟨mk, methM, cM, hnamed, hmethM, -, -, -, -, -, -, hsigM⟩ := Cond.codeWith_spec hcode
  have hstatic : methM.isStatic = true := Cond.static_spec hnamed hmethM hstat
  obtain ⟨kP, hkP, -⟩ := className_of_methodNamed hnamed
  have hinitP : kP.init = .initialized := Cond.initialized_spec (findClass_of_methodNamed hnamed) hkP hinit
  obtain ⟨vm₁, X₁, hstep₁⟩ := X.invokestatic hexec hown hlink hnamed hmethM hstatic hkP hinitP hy (g := g) hg (argsL := argsL) (rest := rest) (hlen _ hsigM) hstack hdg
  obtain ⟨v, B, X', hpost, hsteps⟩ := hK m meth c ⟨T.setVm vm₁, locs, cells, slots⟩ { g with stack := rest } (.invokestatic index) mk argsL.toArray X₁ hg hsize hdg hW (X₁.named hnamed) (hpre vm₁ X₁.warmed)
  exact ⟨v, vm₁, B, X₁.warmed, X', hpost, fun target h => hstep₁ _ fun acts => by rw [doInvoke_state]; exact hsteps.trans h⟩
theorem vx_runSW {y : MethodName} {bytes cc : ByteArray} {maxL nL mc ms n index : Nat} {ret : Option FieldType} {hh : List (Nat × Nat × Nat × Nat)} {ws : List Cond} {rm : Room} {Pc : Array Value → State → Prop} {Qc : Array Value → State → Outcome → State → Prop} {free : Addr → Prop} {Ts : List Cond} {own : String} {As rest : List Value} {g : JFrame}
    (S : CallFix p m c cc nL s args Ts own) (hM : Met l y ws rm Pc Qc mc ms free) (cw : vx_CSW R s args own index y bytes maxL ret hh ws rm mc ms n) (hp : PreS s H Pc As)
    (hg : g.method = m) (hn : As.length = n) (hsize : g.locals.size = nL) (hstack : g.stack = As.reverse ++ rest) (hW : 2 * g.monitorRoom + (rest.map fun v => v.category).sum ≤ 8) (hdg : decode cc g.pc = .ok (.invokestatic index, 3)) (hf : cells + mc ≤ R.cells ∧ slots + ms ≤ R.slots) :
    va_Run p l e R s m args below meth c H locs cells slots mc ms g rest (Qc As.toArray) (free) := by
  obtain ⟨⟨hrc, hrs, hfr, hlo, hws, hcw⟩, hcode, hini, hy, hlen, hl, hstt⟩ := cw
  have hK : Back l R p e below s args y 3 8 (PreOf R mc ms Pc) (PostOf Qc mc ms free) := va_backW (hh := hh) (bytes := bytes) (maxL := maxL) (ret := ret) hM hp.1 hrc hrs hfr hlo hws hcw (fun a' U hW => word_at hW (Or.inl (by first | rfl | simp [Cond.onTables, Cond.keeps, Cond.steady])) hini)
  obtain ⟨hx, hb, hml, ho, -⟩ := S
  intro T hT X
  obtain ⟨v, vm₁, ⟨U', l2, c2, s2⟩, hW₁, X', ⟨g', mk, t, L, e1, e2, hq, h1, hL, h2, h3⟩, st⟩ := vx_callSW X hx (hh := hh) (bytes := bytes) (maxL := maxL) (ret := ret) ho hl hstt hini hcode hy hK hg (hsize.trans hml.symm) (argsL := As) (rest := rest) (fun sig h => hn.trans (hlen sig h)) hstack hW (by rw [hb]; exact hdg)
    (fun vm₁ hW₁ => ⟨hf.1, hf.2, hp.2 (T.setVm vm₁) hT hW₁⟩)
  dsimp only [Pt.U, Pt.locs, Pt.cells, Pt.slots] at X' e1 e2 h1 h2 h3 st
  subst h1; subst h2; subst h3
  exact ⟨v, (T.setVm vm₁).calling g' mk As.toArray, t, U', L, hT, X', hL, e1, e2, hq, st⟩
/-- not caught here, past rows that name other classes: it goes on to the caller -/
theorem vx_outP {p : Program} {l : Launch} {e : Env} {R : Room} {s : State} {m : MethodId} {args : Array Value} {below : List Frame} {meth : Method} {c : Code} {H : Heap} {locs : List Loc} {cells slots : Nat} {free : Addr → Prop} {ls : Array Slot} {rest : List Value} {Qc : Array Value → State → Outcome → State → Prop} {XC : String → State → State → Prop}
    {pc : Nat} {own E : String} {ce : Cell} {q : Addr} {mc ms : Nat} (hown : s.vm.findClass own = some m.cls) (hlocks : meth.locks = false)
    (hpass : ∀ z ∈ c.exceptionTable.toList, covers z pc = false ∨ (z.catchType ≠ 0 ∧ ∃ nm : String, (Cond.classLink own z.catchType nm).before args s = true ∧ va_Nc E nm s)) (hcell : H[q]? = some ce) (hv : ce.vm = .none) (hcl : s.vm.findClass E = some ce.cls)
    (hx : ∀ t : State, t.heap = H → s.vm.Alike t.vm → XC E s t) (hf : ∀ z ∈ locs, free z.base) (hc : cells ≤ mc) (hs : slots ≤ ms) :
    vx_W p l e R s m args below meth c H locs cells slots (vx_MQ below Qc XC args s mc ms free) (F0 m pc ls rest) q := by
  intro T hT X
  have hpl : e.platform.magicAccessors = ({} : Platform).magicAccessors := by rw [X.admits.platform]
  obtain ⟨vm', hW', X', st⟩ := X.outThrough hlocks q (g := F0 m pc ls rest) rfl rfl rfl (cell := ce) (by rw [hT]; exact hcell) (by rw [hv]; rfl)
    (by obtain ⟨k9, h9, -⟩ := Vm.findClass_spec hcl; exact ⟨k9, h9⟩) (fun z hz => by
      rcases hpass z hz with h | ⟨hz0, nm, hl1, hn1⟩
      · exact Or.inl h
      · obtain ⟨c6, hc6, hcl6⟩ := Cond.classLink_spec hown hl1 e.platform hpl
        obtain ⟨a8, b8, h1, h2, h3⟩ := hn1
        cases Option.some.inj (h1.symm.trans hcl)
        cases Option.some.inj (h2.symm.trans hc6)
        exact Or.inr ⟨hz0, _, hcl6, h3⟩)
  obtain ⟨g₀, hfr⟩ := X'.frames_eq
  have hcell9 : ((T.setVm vm').setFrames (.throwing q :: below)).heap[q]? = some ce := by
    show T.heap[q]? = some ce
    rw [hT]; exact hcell
  have hend : Ended ((T.setVm vm').setFrames (.throwing q :: below)) below (.threw q) := State.frames_setFrames _ (State.cur_lt_of_frames hfr)
  refine ⟨(T.setVm vm').setFrames (.throwing q :: below), ?_, .threw q, X'.here.running, hend, Or.inr ⟨q, rfl, E, ce, locs, hx _ hT (X'.ends _).1.alike, hcell9, hv, hcl, (X'.ends _).1, (X'.ends _).2.mono hc hs, hf⟩⟩
  rw [X.pushThrowing_eq]
  exact st
/-- a thing of a world lies in the heap -/
theorem vx_lt {D : va_G} {cl : List vw_C} {ws : va_W} {H1 : Heap} (h : va_P D cl ws H1) {k : Nat} {q : Nat × va_E} (hk : ws[k]? = some q) : q.1 < H1.size := (h k q hk).lt
end VXS
/-! ===== END ===== -/
/-! ===== BEGIN methods with a table of their own: called by a name, returning or throwing ===== -/
section VXH
/-! vx_backW, vx_callVX, vx_callSX, vx_callVW, vx_runVW, vx_runVX, vx_runSX, vx_ofWH follow the same proofs as their sisters above (Free/Laws.lean, Shelf42/LK1.lean); vx_outP calls Shelf42/NT130.lean (outThrough). -/
section
variable {l : Launch} {R : Room} {p : Program} {e : Env} {below : List Frame} {s : State} {sargs : Array Value} {y : MethodName} {len W9 : Nat}
theorem vx_backW {ws : List Cond} {rm : Room} {Pc : Array Value → State → Prop} {Qc : Array Value → State → Outcome → State → Prop} {XC : String → State → State → Prop} {mc ms : Nat} {free : Addr → Prop} {bytes : ByteArray} {maxL : Nat} {ret : Option FieldType} {hh : List (Nat × Nat × Nat × Nat)}
    (hM : vx_Met l y ws rm Pc Qc XC mc ms free) (hblind : FrameBlind Pc) (hrc : rm.cells = mc) (hrs : rm.slots = ms)
    (hframes : rm.frames + 1 ≤ R.frames) (hlocals : W9 + (maxL + 11) + rm.locals ≤ R.locals)
    (hws : ∀ w ∈ ws, ∀ a' U, s.WarmedH U.vm → w.before a' U = true) (hcode : Cond.codeWith y bytes maxL ret hh ∈ ws) (hinit : ∀ a' U, s.WarmedH U.vm → (Cond.initialized y.cls).before a' U = true) :
    vx_Back l R p e below s sargs y len W9 (PreOf R mc ms Pc) (PostOf Qc mc ms free) (vx_Post XC mc ms free) := by
  intro m meth c A g ig mk a X hg hsize hdg hW hn hp
  have h1 : (headSpec ws rm).pre.before a A.U = true := atoms_intro fun w hw => hws w hw _ _ X.warmed
  have h2 : (Cond.codeWith y bytes maxL ret hh).before a A.U = true := hws _ hcode _ _ X.warmed
  have h3 : (Cond.initialized y.cls).before a A.U = true := hinit _ _ X.warmed
  have h4 : A.cells + (headSpec ws rm).room.cells ≤ R.cells := by rw [show (headSpec ws rm).room.cells = mc from hrc]; exact hp.1
  have h5 : A.slots + (headSpec ws rm).room.slots ≤ R.slots := by rw [show (headSpec ws rm).room.slots = ms from hrs]; exact hp.2.1
  have hPc : Pc a (A.U.calling g mk a) := hblind _ _ _ _ hp.2.2
  obtain ⟨U, Ls, c0, s0⟩ := A
  dsimp only [Pt.U, Pt.locs, Pt.cells, Pt.slots] at h1 h2 h3 h4 h5 X hn hPc ⊢
  obtain ⟨m9, methY, cY, hn9, hmY, hcY, -, hlY, -⟩ := Cond.codeWith_spec h2
  cases Option.some.inj (hn9.symm.trans hn)
  obtain ⟨kY, hkY, -⟩ := className_of_methodNamed hn
  have hinitY : kY.init = .initialized := Cond.initialized_spec (findClass_of_methodNamed hn) hkY h3
  have h : At U g.method c below := by rw [hg]; exact X.here
  have hlocals9 : W9 + (maxL + 11) + (headSpec ws rm).room.locals ≤ R.locals := hlocals
  have happ : (headSpec ws rm).appliesLoose y e.platform (U.calling g mk a) = true :=
    Spec.appliesLoose_calling (g := g) h hdg hn hkY hinitY
      (X.room_calling (g := g) (R' := (headSpec ws rm).room) hsize hmY hcY hframes (by rw [hlY]; omega) h4 h5) h1
  obtain ⟨mid, hmid⟩ := h.above
  have hfr : (U.setTop g).frames = (.java g :: mid) ++ below := by rw [State.frames_setTop' g h.top, hmid]; rfl
  obtain ⟨o, s₂, hsteps, -, hend, hq⟩ := Steps.callFree hM p X.admits X.cas X.clock (acts := []) hfr happ hPc trivial
  have hq' : vx_Q Qc XC mc ms free a (U.calling g mk a) o s₂ := hq
  rw [State.frames_setTop' g h.top] at hend
  obtain ⟨g₀, hg0⟩ := Option.isSome_iff_exists.mp h.top
  obtain ⟨r, hr⟩ := State.topJava?_eq_some.mp hg0
  have hr' : (({ U with heap := s₂.heap, slotsUsed := s₂.slotsUsed } : State).setVm s₂.vm).frames = .java g₀ :: r := hr
  rcases hq' with ⟨hqc, L, hfe, hL⟩ | ⟨q, rfl, E, ce, L, hx, hce, hcv, hcl, hW₂, hsm, hL⟩
  · obtain ⟨⟨v, rfl⟩, hW₂, e2, q2, q3, q4, q5, q6⟩ := id hfe
    have e3 : s₂ = ({ (U.calling g mk a).setFrames s₂.frames with heap := s₂.heap, slotsUsed := s₂.slotsUsed } : State).setVm s₂.vm := by
      have : s₂ = ({ s₂ with vm := (U.calling g mk a).vm } : State).setVm s₂.vm := rfl
      rw [e2] at this
      exact this
    obtain ⟨c₂, i₂, len₂, hc₂, hd₂, hf₂⟩ := hend
    have hW' : U.WarmedH s₂.vm := hW₂
    have hcc : c₂ = c := by
      have h1 : s₂.code? g.method = U.code? g.method := by
        rw [State.code?_eq, State.code?_eq, hW'.alike.method?]
      exact Option.some.inj (hc₂.symm.trans (h1.trans h.code))
    subst hcc
    have hlen : len₂ = len := by rw [hdg] at hd₂; cases hd₂; rfl
    subst hlen
    have hs₂ : s₂ = (({ U with heap := s₂.heap, slotsUsed := s₂.slotsUsed } : State).setVm s₂.vm).setTop { g with pc := g.pc + len₂, stack := v.toList ++ g.stack } := by
      refine e3.trans ?_
      rw [hf₂, State.calling_eq h.top, State.setFrames_setFrames, State.setTop_of_frames _ hr', hr]
      rfl
    have hsame : U.sameButNew ({ U with heap := s₂.heap, slotsUsed := s₂.slotsUsed } : State) L mc ms := by
      refine ⟨?_, q2, q3, q4, q5, q6⟩
      obtain ⟨t, ht, -⟩ := State.frames_cons hr
      show ({ U with heap := s₂.heap, slotsUsed := s₂.slotsUsed } : State) = { U.setFrames U.frames with heap := s₂.heap, slotsUsed := s₂.slotsUsed }
      rw [State.setFrames_self ht]
    subst hg
    refine Or.inl ⟨v, ⟨(({ U with heap := s₂.heap, slotsUsed := s₂.slotsUsed } : State).setVm s₂.vm), Ls ++ L, c0 + mc, s0 + ms⟩,
      ⟨X.admits, X.cas, X.clock, X.frames, X.room, X.hears, X.method, X.code, (X.here.setHeapUsed s₂.heap s₂.slotsUsed).setVm hW'.alike, X.tail, State.WarmedH.trans X.warmed hW', X.limits, X.bytes, X.same.trans (hsame.setVm s.vm)⟩,
      ⟨g, mk, s₂, L, rfl, rfl, hqc, rfl, hL, rfl, rfl⟩, ?_⟩
    show Steps p.tables e below _ ((({ U with heap := s₂.heap, slotsUsed := s₂.slotsUsed } : State).setVm s₂.vm).setTop { g with pc := g.pc + len₂, stack := v.toList ++ g.stack })
    rw [← hs₂]
    exact hsteps
  · obtain ⟨e2, q2, q3, q4, q5, q6⟩ := id hsm
    have e3 : s₂ = ({ (U.calling g mk a).setFrames s₂.frames with heap := s₂.heap, slotsUsed := s₂.slotsUsed } : State).setVm s₂.vm := by
      have : s₂ = ({ s₂ with vm := (U.calling g mk a).vm } : State).setVm s₂.vm := rfl
      rw [e2] at this
      exact this
    have hf₂ : s₂.frames = .throwing q :: .java g :: U.frames.tail := hend
    have hW' : U.WarmedH s₂.vm := hW₂
    have hs₂ : s₂ = ((({ U with heap := s₂.heap, slotsUsed := s₂.slotsUsed } : State).setVm s₂.vm).setTop g).pushFrame (.throwing q) := by
      refine e3.trans ?_
      rw [hf₂, State.calling_eq h.top, State.setFrames_setFrames, State.pushFrame, State.frames_setTop _ hr', State.setTop_of_frames _ hr', State.setFrames_setFrames, hr]
      rfl
    have hsame : U.sameButNew ({ U with heap := s₂.heap, slotsUsed := s₂.slotsUsed } : State) L mc ms := by
      refine ⟨?_, q2, q3, q4, q5, q6⟩
      obtain ⟨t, ht, -⟩ := State.frames_cons hr
      show ({ U with heap := s₂.heap, slotsUsed := s₂.slotsUsed } : State) = { U.setFrames U.frames with heap := s₂.heap, slotsUsed := s₂.slotsUsed }
      rw [State.setFrames_self ht]
    subst hg
    refine Or.inr ⟨q, ⟨(({ U with heap := s₂.heap, slotsUsed := s₂.slotsUsed } : State).setVm s₂.vm), Ls ++ L, c0 + mc, s0 + ms⟩,
      ⟨X.admits, X.cas, X.clock, X.frames, X.room, X.hears, X.method, X.code, (X.here.setHeapUsed s₂.heap s₂.slotsUsed).setVm hW'.alike, X.tail, State.WarmedH.trans X.warmed hW', X.limits, X.bytes, X.same.trans (hsame.setVm s.vm)⟩,
      ⟨g, mk, s₂, L, E, ce, rfl, rfl, hx, hce, hcv, hcl, rfl, hL, rfl, rfl⟩, ?_⟩
    show Steps p.tables e below _ (((({ U with heap := s₂.heap, slotsUsed := s₂.slotsUsed } : State).setVm s₂.vm).setTop g).pushFrame (.throwing q))
    rw [← hs₂]
    exact hsteps
end
variable {p : Program} {l : Launch} {e : Env} {R : Room} {s : State} {m : MethodId} {args : Array Value} {below : List Frame} {meth : Method} {c : Code} {T : State} {H : Heap} {locs : List Loc} {cells slots : Nat}
theorem vx_callVX (X : Stand p l e R s m args below meth c T locs cells slots) (hexec : p.tables.exec = Jvm.exec) {own C : String} {index : Nat} {y : MethodName} {bytes : ByteArray} {maxL : Nat} {ret : Option FieldType} {hh : List (Nat × Nat × Nat × Nat)}
    (hown : s.vm.findClass own = some m.cls) (hlink : (Cond.methodLink own index y).before args s = true) (hinst : (Cond.instanceMethod y).before args s = true) (hsel : (Cond.selects C y y).before args s = true)
    (hcode : (Cond.codeWith y bytes maxL ret hh).before args s = true) (hy : y.cls ≠ "java/lang/invoke/MethodHandle" ∧ y.cls ≠ "java/lang/invoke/VarHandle")
    {W9 : Nat} {Pre : Pt → Array Value → Prop} {Post : Pt → Array Value → Option Value → Pt → Prop} {PostX : Pt → Array Value → Addr → Pt → Prop} (hK : vx_Back l R p e below s args y 3 W9 Pre Post PostX)
    {b : Addr} {cellB : Cell} (hcell : T.heap[b]? = some cellB) (hobj : cellB.vm.isStatics = false) (hcls : s.vm.findClass C = some cellB.cls)
    {g : JFrame} (hg : g.method = m) (hsize : g.locals.size = c.maxLocals) {argsL rest : List Value} (hlen : ∀ sig, parseMethodDescriptor y.desc = some sig → argsL.length = sig.parameters.length)
    (hstack : g.stack = argsL.reverse ++ .ref b :: rest) (hW : 2 * g.monitorRoom + (rest.map fun v => v.category).sum ≤ W9) (hdg : decode c.code g.pc = .ok (.invokevirtual index, 3))
    (hpre : ∀ vm₁, s.WarmedH vm₁ → Pre ⟨T.setVm vm₁, locs, cells, slots⟩ (Value.ref b :: argsL).toArray) :
    (∃ (v : Option Value) (vm₁ : Vm) (B : Pt), s.WarmedH vm₁ ∧ Stand p l e R s m args below meth c B.U B.locs B.cells B.slots ∧ Post ⟨T.setVm vm₁, locs, cells, slots⟩ (Value.ref b :: argsL).toArray v B ∧
      ∀ target, Steps p.tables e below (B.U.setTop { g with pc := g.pc + 3, stack := v.toList ++ rest }) target → Steps p.tables e below (T.setTop g) target) ∨
    (∃ (q : Addr) (vm₁ : Vm) (B : Pt), s.WarmedH vm₁ ∧ Stand p l e R s m args below meth c B.U B.locs B.cells B.slots ∧ PostX ⟨T.setVm vm₁, locs, cells, slots⟩ (Value.ref b :: argsL).toArray q B ∧
      Steps p.tables e below (T.setTop g) ((B.U.setTop { g with stack := rest }).pushFrame (.throwing q))) := by
  obtain ⟨mk, methM, hnamed, hmethM, hstM, habM⟩ := Cond.instanceMethod_spec hinst
  obtain ⟨m8, methM', cM, hn8, hmethM', -, -, -, -, -, -, hsigM⟩ := Cond.codeWith_spec hcode
  cases Option.some.inj (hn8.symm.trans hnamed)
  cases hmethM.symm.trans hmethM'
  obtain ⟨c2, r2, m2, q1, q2, q3, q4, kP, hkP, hkPi⟩ := Cond.selects_spec hsel
  cases hcls.symm.trans q1
  cases (State.methodFound?_of_named hnamed hy).symm.trans q2
  cases hnamed.symm.trans q3
  have hselP : selectMethod e.platform s.vm cellB.cls mk = .method mk := by rw [Launch.admits_selectMethod X.admits]; exact q4
  obtain ⟨vm₁, X₁, hstep₁⟩ := X.invokevirtual hexec hown hlink hnamed hmethM hstM hkP hkPi hy (a := b) (cell := cellB) hcell
    (fun z h => by rw [h] at hobj; cases hobj) hselP hmethM habM hkP hkPi (g := g) hg (argsL := argsL) (rest := rest) (hlen _ hsigM) hstack hdg
  rcases hK m meth c ⟨T.setVm vm₁, locs, cells, slots⟩ { g with stack := rest } (.invokevirtual index) mk (Value.ref b :: argsL).toArray X₁ hg hsize hdg hW (X₁.named hnamed) (hpre vm₁ X₁.warmed) with ⟨v, B, X', hpost, hsteps⟩ | ⟨q, B, X', hpost, hsteps⟩
  · exact Or.inl ⟨v, vm₁, B, X₁.warmed, X', hpost, fun target h => hstep₁ _ fun acts => by rw [doInvoke_state]; exact hsteps.trans h⟩
  · exact Or.inr ⟨q, vm₁, B, X₁.warmed, X', hpost, hstep₁ _ fun acts => by rw [doInvoke_state]; exact hsteps⟩
theorem vx_callSX (X : Stand p l e R s m args below meth c T locs cells slots) (hexec : p.tables.exec = Jvm.exec) {own : String} {index : Nat} {y : MethodName} {bytes : ByteArray} {maxL : Nat} {ret : Option FieldType} {hh : List (Nat × Nat × Nat × Nat)}
    (hown : s.vm.findClass own = some m.cls) (hlink : (Cond.methodLink own index y).before args s = true) (hstat : (Cond.static y).before args s = true) (hinit : (Cond.initialized y.cls).before args s = true)
    (hcode : (Cond.codeWith y bytes maxL ret hh).before args s = true) (hy : y.cls ≠ "java/lang/invoke/MethodHandle" ∧ y.cls ≠ "java/lang/invoke/VarHandle")
    {W9 : Nat} {Pre : Pt → Array Value → Prop} {Post : Pt → Array Value → Option Value → Pt → Prop} {PostX : Pt → Array Value → Addr → Pt → Prop} (hK : vx_Back l R p e below s args y 3 W9 Pre Post PostX)
    {g : JFrame} (hg : g.method = m) (hsize : g.locals.size = c.maxLocals) {argsL rest : List Value} (hlen : ∀ sig, parseMethodDescriptor y.desc = some sig → argsL.length = sig.parameters.length)
    (hstack : g.stack = argsL.reverse ++ rest) (hW : 2 * g.monitorRoom + (rest.map fun v => v.category).sum ≤ W9) (hdg : decode c.code g.pc = .ok (.invokestatic index, 3))
    (hpre : ∀ vm₁, s.WarmedH vm₁ → Pre ⟨T.setVm vm₁, locs, cells, slots⟩ argsL.toArray) :
    (∃ (v : Option Value) (vm₁ : Vm) (B : Pt), s.WarmedH vm₁ ∧ Stand p l e R s m args below meth c B.U B.locs B.cells B.slots ∧ Post ⟨T.setVm vm₁, locs, cells, slots⟩ argsL.toArray v B ∧
      ∀ target, Steps p.tables e below (B.U.setTop { g with pc := g.pc + 3, stack := v.toList ++ rest }) target → Steps p.tables e below (T.setTop g) target) ∨
    (∃ (q : Addr) (vm₁ : Vm) (B : Pt), s.WarmedH vm₁ ∧ Stand p l e R s m args below meth c B.U B.locs B.cells B.slots ∧ PostX ⟨T.setVm vm₁, locs, cells, slots⟩ argsL.toArray q B ∧
      Steps p.tables e below (T.setTop g) ((B.U.setTop { g with stack := rest }).pushFrame (.throwing q))) := by
  obtain ⟨mk, methM, cM, hnamed, hmethM, -, -, -, -, -, -, hsigM⟩ := Cond.codeWith_spec hcode
  have hstatic : methM.isStatic = true := Cond.static_spec hnamed hmethM hstat
  obtain ⟨kP, hkP, -⟩ := className_of_methodNamed hnamed
  have hinitP : kP.init = .initialized := Cond.initialized_spec (findClass_of_methodNamed hnamed) hkP hinit
  obtain ⟨vm₁, X₁, hstep₁⟩ := X.invokestatic hexec hown hlink hnamed hmethM hstatic hkP hinitP hy (g := g) hg (argsL := argsL) (rest := rest) (hlen _ hsigM) hstack hdg
  rcases hK m meth c ⟨T.setVm vm₁, locs, cells, slots⟩ { g with stack := rest } (.invokestatic index) mk argsL.toArray X₁ hg hsize hdg hW (X₁.named hnamed) (hpre vm₁ X₁.warmed) with ⟨v, B, X', hpost, hsteps⟩ | ⟨q, B, X', hpost, hsteps⟩
  · exact Or.inl ⟨v, vm₁, B, X₁.warmed, X', hpost, fun target h => hstep₁ _ fun acts => by rw [doInvoke_state]; exact hsteps.trans h⟩
  · exact Or.inr ⟨q, vm₁, B, X₁.warmed, X', hpost, hstep₁ _ fun acts => by rw [doInvoke_state]; exact hsteps⟩
theorem vx_callVW (X : Stand p l e R s m args below meth c T locs cells slots) (hexec : p.tables.exec = Jvm.exec) {own C : String} {index : Nat} {y : MethodName} {bytes : ByteArray} {maxL : Nat} {ret : Option FieldType} {hh : List (Nat × Nat × Nat × Nat)}
    (hown : s.vm.findClass own = some m.cls) (hlink : (Cond.methodLink own index y).before args s = true) (hinst : (Cond.instanceMethod y).before args s = true) (hsel : (Cond.selects C y y).before args s = true)
    (hcode : (Cond.codeWith y bytes maxL ret hh).before args s = true) (hy : y.cls ≠ "java/lang/invoke/MethodHandle" ∧ y.cls ≠ "java/lang/invoke/VarHandle")
    {W9 : Nat} {Pre : Pt → Array Value → Prop} {Post : Pt → Array Value → Option Value → Pt → Prop} (hK : Back l R p e below s args y 3 W9 Pre Post)
    {b : Addr} {cellB : Cell} (hcell : T.heap[b]? = some cellB) (hobj : cellB.vm.isStatics = false) (hcls : s.vm.findClass C = some cellB.cls)
    {g : JFrame} (hg : g.method = m) (hsize : g.locals.size = c.maxLocals) {argsL rest : List Value} (hlen : ∀ sig, parseMethodDescriptor y.desc = some sig → argsL.length = sig.parameters.length)
    (hstack : g.stack = argsL.reverse ++ .ref b :: rest) (hW : 2 * g.monitorRoom + (rest.map fun v => v.category).sum ≤ W9) (hdg : decode c.code g.pc = .ok (.invokevirtual index, 3))
    (hpre : ∀ vm₁, s.WarmedH vm₁ → Pre ⟨T.setVm vm₁, locs, cells, slots⟩ (Value.ref b :: argsL).toArray) :
    ∃ (v : Option Value) (vm₁ : Vm) (B : Pt), s.WarmedH vm₁ ∧ Stand p l e R s m args below meth c B.U B.locs B.cells B.slots ∧ Post ⟨T.setVm vm₁, locs, cells, slots⟩ (Value.ref b :: argsL).toArray v B ∧
      ∀ target, Steps p.tables e below (B.U.setTop { g with pc := g.pc + 3, stack := v.toList ++ rest }) target → Steps p.tables e below (T.setTop g) target := by
  obtain ⟨mk, methM, hnamed, hmethM, hstM, habM⟩ := Cond.instanceMethod_spec hinst
  obtain ⟨m8, methM', cM, hn8, hmethM', -, -, -, -, -, -, hsigM⟩ := Cond.codeWith_spec hcode
  cases Option.some.inj (hn8.symm.trans hnamed)
  cases hmethM.symm.trans hmethM'
  obtain ⟨c2, r2, m2, q1, q2, q3, q4, kP, hkP, hkPi⟩ := Cond.selects_spec hsel
  cases hcls.symm.trans q1
  cases (State.methodFound?_of_named hnamed hy).symm.trans q2
  cases hnamed.symm.trans q3
  have hselP : selectMethod e.platform s.vm cellB.cls mk = .method mk := by rw [Launch.admits_selectMethod X.admits]; exact q4
  obtain ⟨vm₁, X₁, hstep₁⟩ := X.invokevirtual hexec hown hlink hnamed hmethM hstM hkP hkPi hy (a := b) (cell := cellB) hcell
    (fun z h => by rw [h] at hobj; cases hobj) hselP hmethM habM hkP hkPi (g := g) hg (argsL := argsL) (rest := rest) (hlen _ hsigM) hstack hdg
  obtain ⟨v, B, X', hpost, hsteps⟩ := hK m meth c ⟨T.setVm vm₁, locs, cells, slots⟩ { g with stack := rest } (.invokevirtual index) mk (Value.ref b :: argsL).toArray X₁ hg hsize hdg hW (X₁.named hnamed) (hpre vm₁ X₁.warmed)
  exact ⟨v, vm₁, B, X₁.warmed, X', hpost, fun target h => hstep₁ _ fun acts => by rw [doInvoke_state]; exact hsteps.trans h⟩
abbrev vx_CVW (R : Room) (s : State) (args : Array Value) (own C : String) (index : Nat) (y : MethodName) (bytes : ByteArray) (maxL : Nat) (ret : Option FieldType) (hh : List (Nat × Nat × Nat × Nat)) (ws : List Cond) (rm : Room) (mc ms n : Nat) : Prop :=
  (rm.cells = mc ∧ rm.slots = ms ∧ rm.frames + 1 ≤ R.frames ∧ 8 + (maxL + 11) + rm.locals ≤ R.locals ∧ (∀ w ∈ ws, ∀ (a' : Array Value) (U : State), s.WarmedH U.vm → w.before a' U = true) ∧ Cond.codeWith y bytes maxL ret hh ∈ ws) ∧
  (Cond.codeWith y bytes maxL ret hh).before args s = true ∧ (Cond.initialized y.cls).before args s = true ∧ (y.cls ≠ "java/lang/invoke/MethodHandle" ∧ y.cls ≠ "java/lang/invoke/VarHandle") ∧
  (∀ sig, parseMethodDescriptor y.desc = some sig → n = sig.parameters.length) ∧ (Cond.methodLink own index y).before args s = true ∧ (Cond.instanceMethod y).before args s = true ∧ (Cond.selects C y y).before args s = true
theorem vx_cwVW {own C : String} {index maxL mc ms : Nat} {y : MethodName} {bytes : ByteArray} {ret : Option FieldType} {hh : List (Nat × Nat × Nat × Nat)} {Ts ws ws' : List Cond} {rm : Room} (n : Nat) (ht : ∀ w ∈ Ts, w.before args s = true) (hT : GoodIn Ts (wsV own index C y ws)) (hw : ws = Cond.codeWith y bytes maxL ret hh :: ws') (hrc : rm.cells = mc) (hrs : rm.slots = ms)
    (hd : y.cls = C ∧ y.cls ≠ "java/lang/invoke/MethodHandle" ∧ y.cls ≠ "java/lang/invoke/VarHandle" ∧ (parseMethodDescriptor y.desc).map (fun d => d.parameters.length) = some n) (hR : rm.frames + 1 ≤ R.frames ∧ 8 + (maxL + 11) + rm.locals ≤ R.locals) :
    vx_CVW R s args own C index y bytes maxL ret hh ws rm mc ms n := by
  obtain ⟨hC, hd⟩ := hd
  subst hC
  have ok : ∀ w ∈ wsV own index y.cls y ws, w.before args s = true := fun w h => ht w (hT w h).1
  have hG : GoodIn Ts ws := fun w h => hT w (by unfold wsV; exact List.mem_append_right _ h)
  have hc : Cond.codeWith y bytes maxL ret hh ∈ ws := by rw [hw]; exact List.mem_cons_self
  refine ⟨⟨hrc, hrs, hR.1, hR.2, pay_in ht hG, hc⟩, ht _ (hG _ hc).1, ok _ (by simp [wsV]), ⟨hd.1, hd.2.1⟩, fun sig h => ?_, ok _ (by simp [wsV]), ok _ (by simp [wsV]), ok _ (by simp [wsV])⟩
  have h2 := hd.2.2
  rw [h] at h2
  exact (Option.some.inj h2).symm
theorem vx_runVW {y : MethodName} {bytes cc : ByteArray} {maxL nL mc ms n index : Nat} {ret : Option FieldType} {hh : List (Nat × Nat × Nat × Nat)} {ws : List Cond} {rm : Room} {Pc : Array Value → State → Prop} {Qc : Array Value → State → Outcome → State → Prop} {free : Addr → Prop} {Ts : List Cond} {own C : String} {b : Addr} {As rest : List Value} {g : JFrame}
    (S : CallFix p m c cc nL s args Ts own) (hM : Met l y ws rm Pc Qc mc ms free) (cw : vx_CVW R s args own C index y bytes maxL ret hh ws rm mc ms n) (hp : PreV s H C b Pc As)
    (hg : g.method = m) (hn : As.length = n) (hsize : g.locals.size = nL) (hstack : g.stack = As.reverse ++ .ref b :: rest) (hW : 2 * g.monitorRoom + (rest.map fun v => v.category).sum ≤ 8) (hdg : decode cc g.pc = .ok (.invokevirtual index, 3)) (hf : cells + mc ≤ R.cells ∧ slots + ms ≤ R.slots) :
    va_Run p l e R s m args below meth c H locs cells slots mc ms g rest (Qc (Value.ref b :: As).toArray) free := by
  obtain ⟨⟨hrc, hrs, hfr, hlo, hws, hcw⟩, hcode, hini, hy, hlen, hl, hin, hse⟩ := cw
  have hK : Back l R p e below s args y 3 8 (PreOf R mc ms Pc) (PostOf Qc mc ms free) := va_backW (hh := hh) (bytes := bytes) (maxL := maxL) (ret := ret) hM hp.1 hrc hrs hfr hlo hws hcw (fun a' U hW => word_at hW (Or.inl (by first | rfl | simp [Cond.onTables, Cond.keeps, Cond.steady])) hini)
  obtain ⟨hx, hb, hml, ho, -⟩ := S
  obtain ⟨-, ⟨cellB, hcB, hoB, hclB⟩, hPc⟩ := hp
  intro T hT X
  obtain ⟨v, vm₁, ⟨U', l2, c2, s2⟩, hW₁, X', ⟨g', mk, t, L, e1, e2, hq, h1, hL, h2, h3⟩, st⟩ := vx_callVW X hx (C := C) (hh := hh) (bytes := bytes) (maxL := maxL) (ret := ret) ho hl hin hse hcode hy hK (by rw [hT]; exact hcB) hoB hclB hg (hsize.trans hml.symm) (argsL := As) (rest := rest) (fun sig h => hn.trans (hlen sig h)) hstack hW (by rw [hb]; exact hdg)
    (fun vm₁ hW₁ => ⟨hf.1, hf.2, hPc (T.setVm vm₁) hT hW₁⟩)
  dsimp only [Pt.U, Pt.locs, Pt.cells, Pt.slots] at X' e1 e2 h1 h2 h3 st
  subst h1; subst h2; subst h3
  exact ⟨v, (T.setVm vm₁).calling g' mk (Value.ref b :: As).toArray, t, U', L, hT, X', hL, e1, e2, hq, st⟩
section
variable {y : MethodName} {bytes cc : ByteArray} {maxL nL mc ms n index : Nat} {ret : Option FieldType} {ws : List Cond} {rm : Room} {Pc : Array Value → State → Prop} {Qc : Array Value → State → Outcome → State → Prop} {XC : String → State → State → Prop} {free : Addr → Prop} {Ts : List Cond} {own C : String} {b : Addr} {As rest : List Value} {g : JFrame}
theorem vx_runVX {hh : List (Nat × Nat × Nat × Nat)} (S : CallFix p m c cc nL s args Ts own) (hM : vx_Met l y ws rm Pc Qc XC mc ms free) (cw : vx_CVW R s args own C index y bytes maxL ret hh ws rm mc ms n) (hp : PreV s H C b Pc As)
    (hg : g.method = m) (hn : As.length = n) (hsize : g.locals.size = nL) (hstack : g.stack = As.reverse ++ .ref b :: rest) (hW : 2 * g.monitorRoom + (rest.map fun v => v.category).sum ≤ 8) (hdg : decode cc g.pc = .ok (.invokevirtual index, 3)) (hf : cells + mc ≤ R.cells ∧ slots + ms ≤ R.slots) :
    vx_Run p l e R s m args below meth c H locs cells slots mc ms g rest (Qc (Value.ref b :: As).toArray) XC free := by
  obtain ⟨⟨hrc, hrs, hfr, hlo, hws, hcw⟩, hcode, hini, hy, hlen, hl, hin, hse⟩ := cw
  have hK : vx_Back l R p e below s args y 3 8 (PreOf R mc ms Pc) (PostOf Qc mc ms free) (vx_Post XC mc ms free) := vx_backW (hh := hh) (bytes := bytes) (maxL := maxL) (ret := ret) hM hp.1 hrc hrs hfr hlo hws hcw (fun a' U hW => word_at hW (Or.inl (by first | rfl | simp [Cond.onTables, Cond.keeps, Cond.steady])) hini)
  obtain ⟨hx, hb, hml, ho, -⟩ := S
  obtain ⟨-, ⟨cellB, hcB, hoB, hclB⟩, hPc⟩ := hp
  intro T hT X
  rcases vx_callVX X hx (C := C) (hh := hh) (bytes := bytes) (maxL := maxL) (ret := ret) ho hl hin hse hcode hy hK (by rw [hT]; exact hcB) hoB hclB hg (hsize.trans hml.symm) (argsL := As) (rest := rest) (fun sig h => hn.trans (hlen sig h)) hstack hW (by rw [hb]; exact hdg)
    (fun vm₁ hW₁ => ⟨hf.1, hf.2, hPc (T.setVm vm₁) hT hW₁⟩) with ⟨v, vm₁, ⟨U', l2, c2, s2⟩, hW₁, X', ⟨g', mk, t, L, e1, e2, hq, h1, hL, h2, h3⟩, st⟩ | ⟨q, vm₁, ⟨U', l2, c2, s2⟩, hW₁, X', ⟨g', mk, t, L, E, ce, e1, e2, hq, hce, hcv, hcl, h1, hL, h2, h3⟩, st⟩
  · dsimp only [Pt.U, Pt.locs, Pt.cells, Pt.slots] at X' e1 e2 h1 h2 h3 st
    subst h1; subst h2; subst h3
    exact Or.inl ⟨v, (T.setVm vm₁).calling g' mk (Value.ref b :: As).toArray, t, U', L, hT, X', hL, e1, e2, hq, st⟩
  · dsimp only [Pt.U, Pt.locs, Pt.cells, Pt.slots] at X' e1 e2 h1 h2 h3 st hcl
    subst h1; subst h2; subst h3
    exact Or.inr ⟨q, (T.setVm vm₁).calling g' mk (Value.ref b :: As).toArray, t, U', L, E, ce, hT, X', hL, e1, e2, hq, hce, hcv, vx_cls hW₁ hcl, st⟩
theorem vx_runSX {hh : List (Nat × Nat × Nat × Nat)} (S : CallFix p m c cc nL s args Ts own) (hM : vx_Met l y ws rm Pc Qc XC mc ms free) (cw : vx_CSW R s args own index y bytes maxL ret hh ws rm mc ms n) (hp : PreS s H Pc As)
    (hg : g.method = m) (hn : As.length = n) (hsize : g.locals.size = nL) (hstack : g.stack = As.reverse ++ rest) (hW : 2 * g.monitorRoom + (rest.map fun v => v.category).sum ≤ 8) (hdg : decode cc g.pc = .ok (.invokestatic index, 3)) (hf : cells + mc ≤ R.cells ∧ slots + ms ≤ R.slots) :
    vx_Run p l e R s m args below meth c H locs cells slots mc ms g rest (Qc As.toArray) XC free := by
  obtain ⟨⟨hrc, hrs, hfr, hlo, hws, hcw⟩, hcode, hini, hy, hlen, hl, hstt⟩ := cw
  have hK : vx_Back l R p e below s args y 3 8 (PreOf R mc ms Pc) (PostOf Qc mc ms free) (vx_Post XC mc ms free) := vx_backW (hh := hh) (bytes := bytes) (maxL := maxL) (ret := ret) hM hp.1 hrc hrs hfr hlo hws hcw (fun a' U hW => word_at hW (Or.inl (by first | rfl | simp [Cond.onTables, Cond.keeps, Cond.steady])) hini)
  obtain ⟨hx, hb, hml, ho, -⟩ := S
  intro T hT X
  rcases vx_callSX X hx (hh := hh) (bytes := bytes) (maxL := maxL) (ret := ret) ho hl hstt hini hcode hy hK hg (hsize.trans hml.symm) (argsL := As) (rest := rest) (fun sig h => hn.trans (hlen sig h)) hstack hW (by rw [hb]; exact hdg)
    (fun vm₁ hW₁ => ⟨hf.1, hf.2, hp.2 (T.setVm vm₁) hT hW₁⟩) with ⟨v, vm₁, ⟨U', l2, c2, s2⟩, hW₁, X', ⟨g', mk, t, L, e1, e2, hq, h1, hL, h2, h3⟩, st⟩ | ⟨q, vm₁, ⟨U', l2, c2, s2⟩, hW₁, X', ⟨g', mk, t, L, E, ce, e1, e2, hq, hce, hcv, hcl, h1, hL, h2, h3⟩, st⟩
  · dsimp only [Pt.U, Pt.locs, Pt.cells, Pt.slots] at X' e1 e2 h1 h2 h3 st
    subst h1; subst h2; subst h3
    exact Or.inl ⟨v, (T.setVm vm₁).calling g' mk As.toArray, t, U', L, hT, X', hL, e1, e2, hq, st⟩
  · dsimp only [Pt.U, Pt.locs, Pt.cells, Pt.slots] at X' e1 e2 h1 h2 h3 st hcl
    subst h1; subst h2; subst h3
    exact Or.inr ⟨q, (T.setVm vm₁).calling g' mk As.toArray, t, U', L, E, ce, hT, X', hL, e1, e2, hq, hce, hcv, vx_cls hW₁ hcl, st⟩
end
end VXH
theorem vx_ofWH {l : Launch} {y : MethodName} {ws ws' : List Cond} {rm : Room} {Pc : Array Value → State → Prop} {Qc : Array Value → State → Outcome → State → Prop} {XC : String → State → State → Prop} {mc ms : Nat} {free : Addr → Prop} {cc : ByteArray} {maxL : Nat} {ret : Option FieldType} {hh : List (Nat × Nat × Nat × Nat)}
    (hy : plainName y.cls = true) (hw : ws = Cond.codeWith y cc maxL ret hh :: ws')
    (body : ∀ p e s m args below meth c s₁, BodyLoose p l y (headSpec ws rm) cc maxL ret e s m args below meth c s₁ → c.maxLocals = maxL → Pc args s →
      W p l e (headSpec ws rm).room s m args below meth c s.heap [] 0 0 (vx_MQ below Qc XC args s mc ms free) (entryFrame m args maxL)) : vx_Met l y ws rm Pc Qc XC mc ms free := by
  refine MetFree.of_bodyS (code := cc) (maxLocals := maxL) (ret := ret) hy ?_ ?_
  · intro args s m h hn
    obtain ⟨m9, meth, c, hn9, h1, h2, h3, h4, -, h5, h6, -⟩ := Cond.codeWith_spec (atoms_spec (ws := ws) h _ (by rw [hw]; exact List.mem_cons_self))
    cases hn.symm.trans hn9
    exact ⟨meth, c, h1, h2, h3, h4, h5, h6⟩
  · intro p e s m args below meth c s₁ B hml hP _
    have hh0 : s₁.heap = s.heap := by rw [B.state]; rfl
    obtain ⟨t, a1, o, b1, b2, b3⟩ := body p e s m args below meth c s₁ B hml hP s₁ hh0 (Stand.of_body B)
    exact ⟨t, o, a1, b1, b2, b3⟩
/-! ===== END ===== -/
end
section
def RX0 : String := "Slewyard$Crane"
def TX0 : u_T := fun k => match k with
  | 0 => ("Slewyard$Crane", "ground", "LSlewyard$Ground;", true)
  | 1 => ("Slewyard$Crane", "number", "I", false)
  | 2 => ("Slewyard$Crane", "tower", "I", false)
  | 3 => ("Slewyard$Crane", "row", "I", false)
  | 4 => ("Slewyard$Crane", "column", "I", false)
  | 5 => ("Slewyard$Crane", "mast", "I", false)
  | 6 => ("Slewyard$Crane", "reach", "I", false)
  | 7 => ("Slewyard$Crane", "moment", "I", false)
  | 8 => ("Slewyard$Crane", "bearing", "I", false)
  | 9 => ("Slewyard$Crane", "arm", "I", false)
  | 10 => ("Slewyard$Crane", "radius", "I", false)
  | 11 => ("Slewyard$Crane", "hook", "I", false)
  | 12 => ("Slewyard$Crane", "sway", "I", false)
  | 13 => ("Slewyard$Crane", "work", "I", false)
  | 14 => ("Slewyard$Crane", "load", "LSlewyard$Load;", false)
  | _ => ("Slewyard$Crane", "nearMisses", "I", false)
def tyX0 : Nat → FieldType := fun k => match k with
  | 0 => .object "Slewyard$Ground"
  | 1 => .int
  | 2 => .int
  | 3 => .int
  | 4 => .int
  | 5 => .int
  | 6 => .int
  | 7 => .int
  | 8 => .int
  | 9 => .int
  | 10 => .int
  | 11 => .int
  | 12 => .int
  | 13 => .int
  | 14 => .object "Slewyard$Load"
  | _ => .int
abbrev wsX00 : List Cond := u_ws RX0 TX0 16
theorem nmX0 : ∀ a, a < 16 → ∀ b, b < 16 → a ≠ b → (TX0 a).2.1 ≠ (TX0 b).2.1 := by decide +kernel
theorem tyX0_ok : ∀ k, k < 16 → parseFieldDescriptor (TX0 k).2.2.1 = some (tyX0 k) := by decide +kernel
abbrev cX0_init : ByteArray := prog_2_method_1_code
def yX0_init : MethodName := ⟨RX0, "<init>", "(LSlewyard$Ground;IIIII)V"⟩
abbrev cX0_mimic : ByteArray := prog_2_method_2_code
def yX0_mimic : MethodName := ⟨RX0, "mimic", "(LSlewyard$Crane;)V"⟩
abbrev cX0_face : ByteArray := prog_2_method_3_code
def yX0_face : MethodName := ⟨RX0, "face", "(I)V"⟩
abbrev cX0_drawIn : ByteArray := prog_2_method_4_code
def yX0_drawIn : MethodName := ⟨RX0, "drawIn", "(I)V"⟩
abbrev cX0_move : ByteArray := prog_2_method_5_code
def yX0_move : MethodName := ⟨RX0, "move", "(I)V"⟩
abbrev cX0_tire : ByteArray := prog_2_method_6_code
def yX0_tire : MethodName := ⟨RX0, "tire", "(I)V"⟩
abbrev cX0_settle : ByteArray := prog_2_method_7_code
def yX0_settle : MethodName := ⟨RX0, "settle", "(I)V"⟩
abbrev cX0_rowAt : ByteArray := prog_2_method_8_code
def yX0_rowAt : MethodName := ⟨RX0, "rowAt", "(I)I"⟩
abbrev cX0_columnAt : ByteArray := prog_2_method_9_code
def yX0_columnAt : MethodName := ⟨RX0, "columnAt", "(I)I"⟩
abbrev cX0_plumb : ByteArray := prog_2_method_10_code
def yX0_plumb : MethodName := ⟨RX0, "plumb", "()I"⟩
abbrev cX0_above : ByteArray := prog_2_method_11_code
def yX0_above : MethodName := ⟨RX0, "above", "()I"⟩
abbrev cX0_isCalm : ByteArray := prog_2_method_12_code
def yX0_isCalm : MethodName := ⟨RX0, "isCalm", "()Z"⟩
abbrev cX0_isJustAbove : ByteArray := prog_2_method_13_code
def yX0_isJustAbove : MethodName := ⟨RX0, "isJustAbove", "()Z"⟩
abbrev cX0_isPossible : ByteArray := prog_2_method_14_code
def yX0_isPossible : MethodName := ⟨RX0, "isPossible", "()Z"⟩
abbrev cX0_canMeet : ByteArray := prog_2_method_15_code
def yX0_canMeet : MethodName := ⟨RX0, "canMeet", "(LSlewyard$Crane;)Z"⟩
abbrev cX0_weight : ByteArray := prog_2_method_16_code
def yX0_weight : MethodName := ⟨RX0, "weight", "()I"⟩
abbrev cX0_apartFromJib : ByteArray := prog_2_method_17_code
def yX0_apartFromJib : MethodName := ⟨RX0, "apartFromJib", "(II)I"⟩
abbrev cX0_apartFromJibOf : ByteArray := prog_2_method_18_code
def yX0_apartFromJibOf : MethodName := ⟨RX0, "apartFromJibOf", "(LSlewyard$Crane;)I"⟩
abbrev cX0_clashRule : ByteArray := prog_2_method_19_code
def yX0_clashRule : MethodName := ⟨RX0, "clashRule", "(LSlewyard$Crane;I)I"⟩
abbrev cX0_sweepsOn : ByteArray := prog_2_method_20_code
def yX0_sweepsOn : MethodName := ⟨RX0, "sweepsOn", "(LSlewyard$Crane;I)Z"⟩
abbrev cX0_isWithinBounds : ByteArray := prog_2_method_21_code
def yX0_isWithinBounds : MethodName := ⟨RX0, "isWithinBounds", "()Z"⟩
def RX1 : String := "Slewyard$Ground"
def TX1 : u_T := fun k => match k with
  | 0 => ("Slewyard$Ground", "levels", "[I", true)
  | 1 => ("Slewyard$Ground", "wide", "I", false)
  | _ => ("Slewyard$Ground", "high", "I", false)
def tyX1 : Nat → FieldType := fun k => match k with
  | 0 => .array .int
  | 1 => .int
  | _ => .int
abbrev wsX10 : List Cond := u_ws RX1 TX1 3
theorem nmX1 : ∀ a, a < 3 → ∀ b, b < 3 → a ≠ b → (TX1 a).2.1 ≠ (TX1 b).2.1 := by decide +kernel
theorem tyX1_ok : ∀ k, k < 3 → parseFieldDescriptor (TX1 k).2.2.1 = some (tyX1 k) := by decide +kernel
abbrev cX1_init : ByteArray := prog_3_method_1_code
def yX1_init : MethodName := ⟨RX1, "<init>", "()V"⟩
abbrev cX1_lay : ByteArray := prog_3_method_2_code
def yX1_lay : MethodName := ⟨RX1, "lay", "(II)V"⟩
abbrev cX1_cells : ByteArray := prog_3_method_3_code
def yX1_cells : MethodName := ⟨RX1, "cells", "()I"⟩
abbrev cX1_hasCell : ByteArray := prog_3_method_4_code
def yX1_hasCell : MethodName := ⟨RX1, "hasCell", "(I)Z"⟩
abbrev cX1_hasPlace : ByteArray := prog_3_method_5_code
def yX1_hasPlace : MethodName := ⟨RX1, "hasPlace", "(II)Z"⟩
abbrev cX1_cellAt : ByteArray := prog_3_method_6_code
def yX1_cellAt : MethodName := ⟨RX1, "cellAt", "(II)I"⟩
abbrev cX1_rowOf : ByteArray := prog_3_method_7_code
def yX1_rowOf : MethodName := ⟨RX1, "rowOf", "(I)I"⟩
abbrev cX1_columnOf : ByteArray := prog_3_method_8_code
def yX1_columnOf : MethodName := ⟨RX1, "columnOf", "(I)I"⟩
abbrev cX1_levelOf : ByteArray := prog_3_method_9_code
def yX1_levelOf : MethodName := ⟨RX1, "levelOf", "(I)I"⟩
abbrev cX1_build : ByteArray := prog_3_method_10_code
def yX1_build : MethodName := ⟨RX1, "build", "(II)V"⟩
def RX2 : String := "Slewyard$Load"
def TX2 : u_T := fun k => match k with
  | 0 => ("Slewyard$Load", "number", "I", true)
  | 1 => ("Slewyard$Load", "weight", "I", true)
  | 2 => ("Slewyard$Load", "cell", "I", false)
  | _ => ("Slewyard$Load", "carrier", "LSlewyard$Crane;", false)
def tyX2 : Nat → FieldType := fun k => match k with
  | 0 => .int
  | 1 => .int
  | 2 => .int
  | _ => .object "Slewyard$Crane"
abbrev wsX20 : List Cond := u_ws RX2 TX2 4
theorem nmX2 : ∀ a, a < 4 → ∀ b, b < 4 → a ≠ b → (TX2 a).2.1 ≠ (TX2 b).2.1 := by decide +kernel
theorem tyX2_ok : ∀ k, k < 4 → parseFieldDescriptor (TX2 k).2.2.1 = some (tyX2 k) := by decide +kernel
abbrev cX2_init : ByteArray := prog_4_method_1_code
def yX2_init : MethodName := ⟨RX2, "<init>", "(III)V"⟩
abbrev cX2_liesOn : ByteArray := prog_4_method_2_code
def yX2_liesOn : MethodName := ⟨RX2, "liesOn", "(I)Z"⟩
abbrev cX2_place : ByteArray := prog_4_method_3_code
def yX2_place : MethodName := ⟨RX2, "place", "()I"⟩
abbrev cX2_hangOn : ByteArray := prog_4_method_4_code
def yX2_hangOn : MethodName := ⟨RX2, "hangOn", "(LSlewyard$Crane;)V"⟩
abbrev cX2_lieOn : ByteArray := prog_4_method_5_code
def yX2_lieOn : MethodName := ⟨RX2, "lieOn", "(I)V"⟩
def RX3 : String := "Slewyard$Plans"
def TX3 : u_T := fun k => match k with
  | 0 => ("Slewyard$Plans", "site", "LSlewyard$Site;", true)
  | 1 => ("Slewyard$Plans", "trial", "LSlewyard$Crane;", true)
  | 2 => ("Slewyard$Plans", "steps", "[I", true)
  | 3 => ("Slewyard$Plans", "poses", "[I", true)
  | 4 => ("Slewyard$Plans", "takers", "[I", true)
  | _ => ("Slewyard$Plans", "leaving", "[I", true)
def tyX3 : Nat → FieldType := fun k => match k with
  | 0 => .object "Slewyard$Site"
  | 1 => .object "Slewyard$Crane"
  | 2 => .array .int
  | 3 => .array .int
  | 4 => .array .int
  | _ => .array .int
abbrev wsX30 : List Cond := u_ws RX3 TX3 6
theorem nmX3 : ∀ a, a < 6 → ∀ b, b < 6 → a ≠ b → (TX3 a).2.1 ≠ (TX3 b).2.1 := by decide +kernel
theorem tyX3_ok : ∀ k, k < 6 → parseFieldDescriptor (TX3 k).2.2.1 = some (tyX3 k) := by decide +kernel
abbrev cX3_init : ByteArray := prog_5_method_1_code
def yX3_init : MethodName := ⟨RX3, "<init>", "(LSlewyard$Site;)V"⟩
abbrev cX3_explore : ByteArray := prog_5_method_2_code
def yX3_explore : MethodName := ⟨RX3, "explore", "(LSlewyard$Crane;)I"⟩
abbrev cX3_poseOf : ByteArray := prog_5_method_3_code
def yX3_poseOf : MethodName := ⟨RX3, "poseOf", "(LSlewyard$Crane;)I"⟩
abbrev cX3_assume : ByteArray := prog_5_method_4_code
def yX3_assume : MethodName := ⟨RX3, "assume", "(I)V"⟩
abbrev cX3_stepsTo : ByteArray := prog_5_method_5_code
def yX3_stepsTo : MethodName := ⟨RX3, "stepsTo", "(I)I"⟩
abbrev cX3_swings : ByteArray := prog_5_method_6_code
def yX3_swings : MethodName := ⟨RX3, "swings", "(LSlewyard$Crane;I)I"⟩
abbrev cX3_liftersFrom : ByteArray := prog_5_method_7_code
def yX3_liftersFrom : MethodName := ⟨RX3, "liftersFrom", "(II)I"⟩
abbrev cX3_canLift : ByteArray := prog_5_method_8_code
def yX3_canLift : MethodName := ⟨RX3, "canLift", "(LSlewyard$Crane;II)Z"⟩
abbrev cX3_takeDown : ByteArray := prog_5_method_9_code
def yX3_takeDown : MethodName := ⟨RX3, "takeDown", "()I"⟩
abbrev cX3_leaverAt : ByteArray := prog_5_method_10_code
def yX3_leaverAt : MethodName := ⟨RX3, "leaverAt", "(I)I"⟩
abbrev cX3_nextToGo : ByteArray := prog_5_method_11_code
def yX3_nextToGo : MethodName := ⟨RX3, "nextToGo", "(I)I"⟩
abbrev cX3_takersOf : ByteArray := prog_5_method_12_code
def yX3_takersOf : MethodName := ⟨RX3, "takersOf", "(LSlewyard$Crane;)I"⟩
def RX4 : String := "Slewyard$Report"
def TX4 : u_T := fun k => match k with
  | 0 => ("Slewyard$Report", "time", "I", true)
  | 1 => ("Slewyard$Report", "force", "I", true)
  | _ => ("Slewyard$Report", "bearing", "I", true)
def tyX4 : Nat → FieldType := fun k => match k with
  | 0 => .int
  | 1 => .int
  | _ => .int
abbrev wsX40 : List Cond := u_ws RX4 TX4 3
theorem nmX4 : ∀ a, a < 3 → ∀ b, b < 3 → a ≠ b → (TX4 a).2.1 ≠ (TX4 b).2.1 := by decide +kernel
theorem tyX4_ok : ∀ k, k < 3 → parseFieldDescriptor (TX4 k).2.2.1 = some (tyX4 k) := by decide +kernel
abbrev cX4_init : ByteArray := prog_6_method_1_code
def yX4_init : MethodName := ⟨RX4, "<init>", "(III)V"⟩
def RX5 : String := "Slewyard$Site"
def TX5 : u_T := fun k => match k with
  | 0 => ("Slewyard$Site", "ground", "LSlewyard$Ground;", true)
  | 1 => ("Slewyard$Site", "reports", "Ljava/util/ArrayList;", true)
  | 2 => ("Slewyard$Site", "zones", "Ljava/util/ArrayList;", true)
  | 3 => ("Slewyard$Site", "cranes", "Ljava/util/ArrayList;", true)
  | 4 => ("Slewyard$Site", "loads", "Ljava/util/ArrayList;", true)
  | 5 => ("Slewyard$Site", "calm", "LSlewyard$Report;", true)
  | 6 => ("Slewyard$Site", "trial", "LSlewyard$Crane;", true)
  | 7 => ("Slewyard$Site", "time", "I", false)
  | 8 => ("Slewyard$Site", "taken", "I", false)
  | _ => ("Slewyard$Site", "notTaken", "I", false)
def tyX5 : Nat → FieldType := fun k => match k with
  | 0 => .object "Slewyard$Ground"
  | 1 => .object "java/util/ArrayList"
  | 2 => .object "java/util/ArrayList"
  | 3 => .object "java/util/ArrayList"
  | 4 => .object "java/util/ArrayList"
  | 5 => .object "Slewyard$Report"
  | 6 => .object "Slewyard$Crane"
  | 7 => .int
  | 8 => .int
  | _ => .int
abbrev wsX50 : List Cond := u_ws RX5 TX5 10
theorem nmX5 : ∀ a, a < 10 → ∀ b, b < 10 → a ≠ b → (TX5 a).2.1 ≠ (TX5 b).2.1 := by decide +kernel
theorem tyX5_ok : ∀ k, k < 10 → parseFieldDescriptor (TX5 k).2.2.1 = some (tyX5 k) := by decide +kernel
abbrev cX5_init : ByteArray := prog_7_method_1_code
def yX5_init : MethodName := ⟨RX5, "<init>", "(LSlewyard$Ground;)V"⟩
abbrev cX5_lay : ByteArray := prog_7_method_2_code
def yX5_lay : MethodName := ⟨RX5, "lay", "(II)V"⟩
abbrev cX5_hour : ByteArray := prog_7_method_3_code
def yX5_hour : MethodName := ⟨RX5, "hour", "()I"⟩
abbrev cX5_windNow : ByteArray := prog_7_method_4_code
def yX5_windNow : MethodName := ⟨RX5, "windNow", "()LSlewyard$Report;"⟩
abbrev cX5_force : ByteArray := prog_7_method_5_code
def yX5_force : MethodName := ⟨RX5, "force", "()I"⟩
abbrev cX5_windBearing : ByteArray := prog_7_method_6_code
def yX5_windBearing : MethodName := ⟨RX5, "windBearing", "()I"⟩
abbrev cX5_isShut : ByteArray := prog_7_method_7_code
def yX5_isShut : MethodName := ⟨RX5, "isShut", "(I)Z"⟩
abbrev cX5_towerOn : ByteArray := prog_7_method_8_code
def yX5_towerOn : MethodName := ⟨RX5, "towerOn", "(I)I"⟩
abbrev cX5_loadsOn : ByteArray := prog_7_method_9_code
def yX5_loadsOn : MethodName := ⟨RX5, "loadsOn", "(I)I"⟩
abbrev cX5_firstLoadOn : ByteArray := prog_7_method_10_code
def yX5_firstLoadOn : MethodName := ⟨RX5, "firstLoadOn", "(I)LSlewyard$Load;"⟩
abbrev cX5_hangingLoads : ByteArray := prog_7_method_11_code
def yX5_hangingLoads : MethodName := ⟨RX5, "hangingLoads", "()I"⟩
abbrev cX5_jibsOver : ByteArray := prog_7_method_12_code
def yX5_jibsOver : MethodName := ⟨RX5, "jibsOver", "(I)I"⟩
abbrev cX5_canBuild : ByteArray := prog_7_method_14_code
def yX5_canBuild : MethodName := ⟨RX5, "canBuild", "(II)Z"⟩
abbrev cX5_canFound : ByteArray := prog_7_method_15_code
def yX5_canFound : MethodName := ⟨RX5, "canFound", "(I)Z"⟩
abbrev cX5_capacityOf : ByteArray := prog_7_method_16_code
def yX5_capacityOf : MethodName := ⟨RX5, "capacityOf", "(LSlewyard$Crane;I)I"⟩
abbrev cX5_clashesOf : ByteArray := prog_7_method_17_code
def yX5_clashesOf : MethodName := ⟨RX5, "clashesOf", "(LSlewyard$Crane;)I"⟩
abbrev cX5_clashingPairs : ByteArray := prog_7_method_18_code
def yX5_clashingPairs : MethodName := ⟨RX5, "clashingPairs", "()I"⟩
abbrev cX5_nearMisses : ByteArray := prog_7_method_19_code
def yX5_nearMisses : MethodName := ⟨RX5, "nearMisses", "()I"⟩
abbrev cX5_hindrance : ByteArray := prog_7_method_20_code
def yX5_hindrance : MethodName := ⟨RX5, "hindrance", "(LSlewyard$Crane;ZI)I"⟩
abbrev cX5_reasonAgainst : ByteArray := prog_7_method_21_code
def yX5_reasonAgainst : MethodName := ⟨RX5, "reasonAgainst", "(LSlewyard$Crane;I)I"⟩
abbrev cX5_take : ByteArray := prog_7_method_22_code
def yX5_take : MethodName := ⟨RX5, "take", "(LSlewyard$Crane;I)V"⟩
abbrev cX5_missesNow : ByteArray := prog_7_method_23_code
def yX5_missesNow : MethodName := ⟨RX5, "missesNow", "(LSlewyard$Crane;)I"⟩
abbrev cX5_idle : ByteArray := prog_7_method_24_code
def yX5_idle : MethodName := ⟨RX5, "idle", "(I)V"⟩
abbrev cX5_turnToWind : ByteArray := prog_7_method_25_code
def yX5_turnToWind : MethodName := ⟨RX5, "turnToWind", "()I"⟩
abbrev cX5_areCranesSound : ByteArray := prog_7_method_27_code
def yX5_areCranesSound : MethodName := ⟨RX5, "areCranesSound", "()Z"⟩
abbrev cX5_areLoadsSound : ByteArray := prog_7_method_28_code
def yX5_areLoadsSound : MethodName := ⟨RX5, "areLoadsSound", "()Z"⟩
def RX6 : String := "Slewyard$Zone"
def TX6 : u_T := fun k => match k with
  | 0 => ("Slewyard$Zone", "top", "I", true)
  | 1 => ("Slewyard$Zone", "left", "I", true)
  | 2 => ("Slewyard$Zone", "bottom", "I", true)
  | 3 => ("Slewyard$Zone", "right", "I", true)
  | 4 => ("Slewyard$Zone", "from", "I", true)
  | _ => ("Slewyard$Zone", "to", "I", true)
def tyX6 : Nat → FieldType := fun k => match k with
  | 0 => .int
  | 1 => .int
  | 2 => .int
  | 3 => .int
  | 4 => .int
  | _ => .int
abbrev wsX60 : List Cond := u_ws RX6 TX6 6
theorem nmX6 : ∀ a, a < 6 → ∀ b, b < 6 → a ≠ b → (TX6 a).2.1 ≠ (TX6 b).2.1 := by decide +kernel
theorem tyX6_ok : ∀ k, k < 6 → parseFieldDescriptor (TX6 k).2.2.1 = some (tyX6 k) := by decide +kernel
abbrev cX6_init : ByteArray := prog_8_method_1_code
def yX6_init : MethodName := ⟨RX6, "<init>", "(IIIIII)V"⟩
abbrev cX6_covers : ByteArray := prog_8_method_2_code
def yX6_covers : MethodName := ⟨RX6, "covers", "(II)Z"⟩
abbrev cX6_isShutAt : ByteArray := prog_8_method_3_code
def yX6_isShutAt : MethodName := ⟨RX6, "isShutAt", "(I)Z"⟩
def RX7 : String := "Slewyard"
def TX7 : u_T := fun k => match k with
  | 0 => ("Slewyard", "site", "LSlewyard$Site;", true)
  | 1 => ("Slewyard", "plans", "LSlewyard$Plans;", true)
  | _ => ("Slewyard", "refused", "I", false)
def tyX7 : Nat → FieldType := fun k => match k with
  | 0 => .object "Slewyard$Site"
  | 1 => .object "Slewyard$Plans"
  | _ => .int
abbrev wsX70 : List Cond := u_ws RX7 TX7 3
theorem nmX7 : ∀ a, a < 3 → ∀ b, b < 3 → a ≠ b → (TX7 a).2.1 ≠ (TX7 b).2.1 := by decide +kernel
theorem tyX7_ok : ∀ k, k < 3 → parseFieldDescriptor (TX7 k).2.2.1 = some (tyX7 k) := by decide +kernel
abbrev cX7_init : ByteArray := prog_1_method_1_code
def yX7_init : MethodName := ⟨RX7, "<init>", "()V"⟩
abbrev cX7_yard : ByteArray := prog_1_method_2_code
def yX7_yard : MethodName := ⟨RX7, "yard", "(II)I"⟩
abbrev cX7_level : ByteArray := prog_1_method_3_code
def yX7_level : MethodName := ⟨RX7, "level", "(II)I"⟩
abbrev cX7_wind : ByteArray := prog_1_method_4_code
def yX7_wind : MethodName := ⟨RX7, "wind", "(III)I"⟩
abbrev cX7_zone : ByteArray := prog_1_method_5_code
def yX7_zone : MethodName := ⟨RX7, "zone", "(IIIII)I"⟩
abbrev cX7_load : ByteArray := prog_1_method_6_code
def yX7_load : MethodName := ⟨RX7, "load", "(II)I"⟩
abbrev cX7_crane : ByteArray := prog_1_method_7_code
def yX7_crane : MethodName := ⟨RX7, "crane", "(IIIII)I"⟩
abbrev cX7_step : ByteArray := prog_1_method_8_code
def yX7_step : MethodName := ⟨RX7, "step", "(II)I"⟩
abbrev cX7_hang : ByteArray := prog_1_method_9_code
def yX7_hang : MethodName := ⟨RX7, "hang", "(I)I"⟩
abbrev cX7_set : ByteArray := prog_1_method_10_code
def yX7_set : MethodName := ⟨RX7, "set", "(I)I"⟩
abbrev cX7_hand : ByteArray := prog_1_method_11_code
def yX7_hand : MethodName := ⟨RX7, "hand", "(II)I"⟩
abbrev cX7_rest : ByteArray := prog_1_method_12_code
def yX7_rest : MethodName := ⟨RX7, "rest", "(I)I"⟩
abbrev cX7_ofCrane : ByteArray := prog_1_method_13_code
def yX7_ofCrane : MethodName := ⟨RX7, "ofCrane", "(II)I"⟩
abbrev cX7_ofLoad : ByteArray := prog_1_method_14_code
def yX7_ofLoad : MethodName := ⟨RX7, "ofLoad", "(II)I"⟩
abbrev cX7_ofCell : ByteArray := prog_1_method_15_code
def yX7_ofCell : MethodName := ⟨RX7, "ofCell", "(II)I"⟩
abbrev cX7_would : ByteArray := prog_1_method_16_code
def yX7_would : MethodName := ⟨RX7, "would", "(II)I"⟩
abbrev cX7_clash : ByteArray := prog_1_method_17_code
def yX7_clash : MethodName := ⟨RX7, "clash", "(II)I"⟩
abbrev cX7_way : ByteArray := prog_1_method_18_code
def yX7_way : MethodName := ⟨RX7, "way", "(II)I"⟩
abbrev cX7_field : ByteArray := prog_1_method_19_code
def yX7_field : MethodName := ⟨RX7, "field", "(I)I"⟩
abbrev cX7_swing : ByteArray := prog_1_method_20_code
def yX7_swing : MethodName := ⟨RX7, "swing", "(IZ)I"⟩
abbrev cX7_order : ByteArray := prog_1_method_21_code
def yX7_order : MethodName := ⟨RX7, "order", "(I)I"⟩
abbrev cX7_many : ByteArray := prog_1_method_22_code
def yX7_many : MethodName := ⟨RX7, "many", "(I)I"⟩
abbrev cX7_isSound : ByteArray := prog_1_method_24_code
def yX7_isSound : MethodName := ⟨RX7, "isSound", "()Z"⟩
abbrev cX7_digest : ByteArray := prog_1_method_26_code
def yX7_digest : MethodName := ⟨RX7, "digest", "()J"⟩
abbrev cX7_needWithin : ByteArray := prog_1_method_27_code
def yX7_needWithin : MethodName := ⟨RX7, "needWithin", "(III)V"⟩
abbrev cX7_needCell : ByteArray := prog_1_method_28_code
def yX7_needCell : MethodName := ⟨RX7, "needCell", "(I)V"⟩
abbrev cX7_needCrane : ByteArray := prog_1_method_29_code
def yX7_needCrane : MethodName := ⟨RX7, "needCrane", "(I)LSlewyard$Crane;"⟩
def RX8 : String := "SlewyardModel$Crane"
def TX8 : u_T := fun k => match k with
  | _ => ("", "", "", false)
def tyX8 : Nat → FieldType := fun k => match k with
  | _ => .int
abbrev wsX80 : List Cond := u_ws RX8 TX8 0
theorem nmX8 : ∀ a, a < 0 → ∀ b, b < 0 → a ≠ b → (TX8 a).2.1 ≠ (TX8 b).2.1 := by decide +kernel
theorem tyX8_ok : ∀ k, k < 0 → parseFieldDescriptor (TX8 k).2.2.1 = some (tyX8 k) := by decide +kernel
def RX9 : String := "SlewyardModel"
def TX9 : u_T := fun k => match k with
  | _ => ("", "", "", false)
def tyX9 : Nat → FieldType := fun k => match k with
  | _ => .int
abbrev wsX90 : List Cond := u_ws RX9 TX9 0
theorem nmX9 : ∀ a, a < 0 → ∀ b, b < 0 → a ≠ b → (TX9 a).2.1 ≠ (TX9 b).2.1 := by decide +kernel
theorem tyX9_ok : ∀ k, k < 0 → parseFieldDescriptor (TX9 k).2.2.1 = some (tyX9 k) := by decide +kernel
def RJx145de : String := "java/io/Serializable"
def TJx145de : u_T := fun k => match k with
  | _ => ("", "", "", false)
def tyJx145de : Nat → FieldType := fun k => match k with
  | _ => .int
def RJx8e188 : String := "java/lang/Cloneable"
def TJx8e188 : u_T := fun k => match k with
  | _ => ("", "", "", false)
def tyJx8e188 : Nat → FieldType := fun k => match k with
  | _ => .int
def RJ6 : String := "java/lang/Integer"
def TJ6 : u_T := fun k => match k with
  | _ => ("", "", "", false)
def tyJ6 : Nat → FieldType := fun k => match k with
  | _ => .int
abbrev cJ6_bitCount_0f7a4 : ByteArray := prog_18_method_49_code
def yJ6_bitCount_0f7a4 : MethodName := ⟨RJ6, "bitCount", "(I)I"⟩
def RJxab1ab : String := "java/lang/Iterable"
def TJxab1ab : u_T := fun k => match k with
  | _ => ("", "", "", false)
def tyJxab1ab : Nat → FieldType := fun k => match k with
  | _ => .int
def RJ9 : String := "java/lang/Math"
def TJ9 : u_T := fun k => match k with
  | _ => ("", "", "", false)
def tyJ9 : Nat → FieldType := fun k => match k with
  | _ => .int
abbrev cJ9_abs_0f7a4 : ByteArray := prog_20_method_59_code
def yJ9_abs_0f7a4 : MethodName := ⟨RJ9, "abs", "(I)I"⟩
abbrev cJ9_max_7cf53 : ByteArray := prog_20_method_65_code
def yJ9_max_7cf53 : MethodName := ⟨RJ9, "max", "(II)I"⟩
abbrev cJ9_min_7cf53 : ByteArray := prog_20_method_69_code
def yJ9_min_7cf53 : MethodName := ⟨RJ9, "min", "(II)I"⟩
def RJ0 : String := "java/lang/String"
def TJ0 : u_T := fun k => match k with
  | _ => ("", "", "", false)
def tyJ0 : Nat → FieldType := fun k => match k with
  | _ => .int
def RJ10 : String := "java/lang/System"
def TJ10 : u_T := fun k => match k with
  | _ => ("", "", "", false)
def tyJ10 : Nat → FieldType := fun k => match k with
  | _ => .int
def RJxa1e45 : String := "java/util/AbstractCollection"
def TJxa1e45 : u_T := fun k => match k with
  | _ => ("", "", "", false)
def tyJxa1e45 : Nat → FieldType := fun k => match k with
  | _ => .int
abbrev cJxa1e45_init_da8c8 : ByteArray := prog_25_method_1_code
def yJxa1e45_init_da8c8 : MethodName := ⟨RJxa1e45, "<init>", "()V"⟩
def RJxc12de : String := "java/util/AbstractList"
def TJxc12de : u_T := fun k => match k with
  | _ => ("", "", "", false)
def tyJxc12de : Nat → FieldType := fun k => match k with
  | _ => .int
abbrev cJxc12de_init_da8c8 : ByteArray := prog_26_method_1_code
def yJxc12de_init_da8c8 : MethodName := ⟨RJxc12de, "<init>", "()V"⟩
def RJx4a65c : String := "java/util/ArrayList"
def TJx4a65c : u_T := fun k => match k with
  | 0 => ("java/util/AbstractList", "modCount", "I", false)
  | 1 => ("java/util/ArrayList", "elementData", "[Ljava/lang/Object;", false)
  | _ => ("java/util/ArrayList", "size", "I", false)
def tyJx4a65c : Nat → FieldType := fun k => match k with
  | 0 => .int
  | 1 => .array (.object "java/lang/Object")
  | _ => .int
abbrev wsJx4a65c0 : List Cond := u_ws RJx4a65c TJx4a65c 3
theorem nmJx4a65c : ∀ a, a < 3 → ∀ b, b < 3 → a ≠ b → (TJx4a65c a).2.1 ≠ (TJx4a65c b).2.1 := by decide +kernel
theorem tyJx4a65c_ok : ∀ k, k < 3 → parseFieldDescriptor (TJx4a65c k).2.2.1 = some (tyJx4a65c k) := by decide +kernel
abbrev cJx4a65c_init_da8c8 : ByteArray := prog_27_method_2_code
def yJx4a65c_init_da8c8 : MethodName := ⟨RJx4a65c, "<init>", "()V"⟩
abbrev cJx4a65c_grow_92f84 : ByteArray := prog_27_method_6_code
def yJx4a65c_grow_92f84 : MethodName := ⟨RJx4a65c, "grow", "(I)[Ljava/lang/Object;"⟩
abbrev cJx4a65c_grow_d5877 : ByteArray := prog_27_method_7_code
def yJx4a65c_grow_d5877 : MethodName := ⟨RJx4a65c, "grow", "()[Ljava/lang/Object;"⟩
abbrev cJx4a65c_size_8abf5 : ByteArray := prog_27_method_8_code
def yJx4a65c_size_8abf5 : MethodName := ⟨RJx4a65c, "size", "()I"⟩
abbrev cJx4a65c_elementData_915e3 : ByteArray := prog_27_method_18_code
def yJx4a65c_elementData_915e3 : MethodName := ⟨RJx4a65c, "elementData", "(I)Ljava/lang/Object;"⟩
abbrev cJx4a65c_get_915e3 : ByteArray := prog_27_method_20_code
def yJx4a65c_get_915e3 : MethodName := ⟨RJx4a65c, "get", "(I)Ljava/lang/Object;"⟩
abbrev cJx4a65c_add_72be8 : ByteArray := prog_27_method_24_code
def yJx4a65c_add_72be8 : MethodName := ⟨RJx4a65c, "add", "(Ljava/lang/Object;[Ljava/lang/Object;I)V"⟩
abbrev cJx4a65c_add_9ea2d : ByteArray := prog_27_method_25_code
def yJx4a65c_add_9ea2d : MethodName := ⟨RJx4a65c, "add", "(Ljava/lang/Object;)Z"⟩
abbrev cJx4a65c_clear_da8c8 : ByteArray := prog_27_method_40_code
def yJx4a65c_clear_da8c8 : MethodName := ⟨RJx4a65c, "clear", "()V"⟩
def RJ7 : String := "java/util/Arrays"
def TJ7 : u_T := fun k => match k with
  | _ => ("", "", "", false)
def tyJ7 : Nat → FieldType := fun k => match k with
  | _ => .int
abbrev cJ7_fill_53178 : ByteArray := prog_28_method_103_code
def yJ7_fill_53178 : MethodName := ⟨RJ7, "fill", "([II)V"⟩
abbrev cJ7_copyOf_1904c : ByteArray := prog_28_method_119_code
def yJ7_copyOf_1904c : MethodName := ⟨RJ7, "copyOf", "([Ljava/lang/Object;I)[Ljava/lang/Object;"⟩
abbrev cJ7_copyOf_6403c : ByteArray := prog_28_method_120_code
def yJ7_copyOf_6403c : MethodName := ⟨RJ7, "copyOf", "([Ljava/lang/Object;ILjava/lang/Class;)[Ljava/lang/Object;"⟩
def RJx5ef63 : String := "java/util/Collection"
def TJx5ef63 : u_T := fun k => match k with
  | _ => ("", "", "", false)
def tyJx5ef63 : Nat → FieldType := fun k => match k with
  | _ => .int
def RJxbd725 : String := "java/util/List"
def TJxbd725 : u_T := fun k => match k with
  | _ => ("", "", "", false)
def tyJxbd725 : Nat → FieldType := fun k => match k with
  | _ => .int
def RJ15 : String := "java/util/Objects"
def TJ15 : u_T := fun k => match k with
  | _ => ("", "", "", false)
def tyJ15 : Nat → FieldType := fun k => match k with
  | _ => .int
abbrev cJ15_checkIndex_7cf53 : ByteArray := prog_31_method_17_code
def yJ15_checkIndex_7cf53 : MethodName := ⟨RJ15, "checkIndex", "(II)I"⟩
def RJxf0a74 : String := "java/util/RandomAccess"
def TJxf0a74 : u_T := fun k => match k with
  | _ => ("", "", "", false)
def tyJxf0a74 : Nat → FieldType := fun k => match k with
  | _ => .int
def RJxa66e6 : String := "java/util/SequencedCollection"
def TJxa66e6 : u_T := fun k => match k with
  | _ => ("", "", "", false)
def tyJxa66e6 : Nat → FieldType := fun k => match k with
  | _ => .int
def RJ8 : String := "jdk/internal/util/ArraysSupport"
def TJ8 : u_T := fun k => match k with
  | _ => ("", "", "", false)
def tyJ8 : Nat → FieldType := fun k => match k with
  | _ => .int
abbrev cJ8_newLength_cabcc : ByteArray := prog_34_method_27_code
def yJ8_newLength_cabcc : MethodName := ⟨RJ8, "newLength", "(III)I"⟩
abbrev cJ8_hugeLength_7cf53 : ByteArray := prog_34_method_28_code
def yJ8_hugeLength_7cf53 : MethodName := ⟨RJ8, "hugeLength", "(II)I"⟩
def RJ3 : String := "jdk/internal/util/Preconditions"
def TJ3 : u_T := fun k => match k with
  | _ => ("", "", "", false)
def tyJ3 : Nat → FieldType := fun k => match k with
  | _ => .int
abbrev cJ3_checkIndex_8e157 : ByteArray := prog_35_method_11_code
def yJ3_checkIndex_8e157 : MethodName := ⟨RJ3, "checkIndex", "(IILjava/util/function/BiFunction;)I"⟩
def RL : String := "SlewyardLaw"
abbrev cL_below : ByteArray := method_2_code
def yL_below : MethodName := ⟨RL, "below", "(II)I"⟩
abbrev cL_cell : ByteArray := method_3_code
def yL_cell : MethodName := ⟨RL, "cell", "([II)I"⟩
abbrev cL_law : ByteArray := code
def yL_law : MethodName := ⟨RL, "law", "([I)Z"⟩
abbrev cL_met : ByteArray := method_5_code
def yL_met : MethodName := ⟨RL, "met", "(LSlewyard;)I"⟩
abbrev cL_build : ByteArray := method_6_code
def yL_build : MethodName := ⟨RL, "build", "(LSlewyard;II)V"⟩
abbrev cL_act : ByteArray := method_7_code
def yL_act : MethodName := ⟨RL, "act", "(LSlewyard;III[I)V"⟩
abbrev cL_isWhole : ByteArray := method_8_code
def yL_isWhole : MethodName := ⟨RL, "isWhole", "(LSlewyard;I)Z"⟩
abbrev cL_isAsked : ByteArray := method_9_code
def yL_isAsked : MethodName := ⟨RL, "isAsked", "(LSlewyard;II)Z"⟩
abbrev vwCl : List vw_C := [(RJx4a65c, TJx4a65c, 3), (RX0, TX0, 16), (RX1, TX1, 3), (RX2, TX2, 4), (RX3, TX3, 6), (RX4, TX4, 3), (RX5, TX5, 10), (RX6, TX6, 6), (RX7, TX7, 3)]
end
section
theorem dX0_init_0 : decode cX0_init 0 = .ok (.aload_n 0, 1) := by decide +kernel
theorem dX0_init_1 : decode cX0_init 1 = .ok (.invokespecial 3, 3) := by decide +kernel
theorem dX0_init_4 : decode cX0_init 4 = .ok (.aload_n 0, 1) := by decide +kernel
theorem dX0_init_5 : decode cX0_init 5 = .ok (.iconst 0, 1) := by decide +kernel
theorem dX0_init_6 : decode cX0_init 6 = .ok (.putfield 9, 3) := by decide +kernel
theorem dX0_init_9 : decode cX0_init 9 = .ok (.aload_n 0, 1) := by decide +kernel
theorem dX0_init_10 : decode cX0_init 10 = .ok (.iconst 0, 1) := by decide +kernel
theorem dX0_init_11 : decode cX0_init 11 = .ok (.putfield 15, 3) := by decide +kernel
theorem dX0_init_14 : decode cX0_init 14 = .ok (.aload_n 0, 1) := by decide +kernel
theorem dX0_init_15 : decode cX0_init 15 = .ok (.iconst 1, 1) := by decide +kernel
theorem dX0_init_16 : decode cX0_init 16 = .ok (.putfield 18, 3) := by decide +kernel
theorem dX0_init_19 : decode cX0_init 19 = .ok (.aload_n 0, 1) := by decide +kernel
theorem dX0_init_20 : decode cX0_init 20 = .ok (.iconst 0, 1) := by decide +kernel
theorem dX0_init_21 : decode cX0_init 21 = .ok (.putfield 21, 3) := by decide +kernel
theorem dX0_init_24 : decode cX0_init 24 = .ok (.aload_n 0, 1) := by decide +kernel
theorem dX0_init_25 : decode cX0_init 25 = .ok (.iconst 0, 1) := by decide +kernel
theorem dX0_init_26 : decode cX0_init 26 = .ok (.putfield 24, 3) := by decide +kernel
theorem dX0_init_29 : decode cX0_init 29 = .ok (.aload_n 0, 1) := by decide +kernel
theorem dX0_init_30 : decode cX0_init 30 = .ok (.aconst_null, 1) := by decide +kernel
theorem dX0_init_31 : decode cX0_init 31 = .ok (.putfield 27, 3) := by decide +kernel
theorem dX0_init_34 : decode cX0_init 34 = .ok (.aload_n 0, 1) := by decide +kernel
theorem dX0_init_35 : decode cX0_init 35 = .ok (.iconst 0, 1) := by decide +kernel
theorem dX0_init_36 : decode cX0_init 36 = .ok (.putfield 31, 3) := by decide +kernel
theorem dX0_init_39 : decode cX0_init 39 = .ok (.aload_n 0, 1) := by decide +kernel
theorem dX0_init_40 : decode cX0_init 40 = .ok (.aload_n 1, 1) := by decide +kernel
theorem dX0_init_41 : decode cX0_init 41 = .ok (.putfield 34, 3) := by decide +kernel
theorem dX0_init_44 : decode cX0_init 44 = .ok (.aload_n 0, 1) := by decide +kernel
theorem dX0_init_45 : decode cX0_init 45 = .ok (.iload_n 2, 1) := by decide +kernel
theorem dX0_init_46 : decode cX0_init 46 = .ok (.putfield 38, 3) := by decide +kernel
theorem dX0_init_49 : decode cX0_init 49 = .ok (.aload_n 0, 1) := by decide +kernel
theorem dX0_init_50 : decode cX0_init 50 = .ok (.iload_n 3, 1) := by decide +kernel
theorem dX0_init_51 : decode cX0_init 51 = .ok (.putfield 41, 3) := by decide +kernel
theorem dX0_init_54 : decode cX0_init 54 = .ok (.aload_n 0, 1) := by decide +kernel
theorem dX0_init_55 : decode cX0_init 55 = .ok (.aload_n 1, 1) := by decide +kernel
theorem dX0_init_56 : decode cX0_init 56 = .ok (.iload_n 3, 1) := by decide +kernel
theorem dX0_init_57 : decode cX0_init 57 = .ok (.invokevirtual 44, 3) := by decide +kernel
theorem dX0_init_60 : decode cX0_init 60 = .ok (.putfield 50, 3) := by decide +kernel
theorem dX0_init_63 : decode cX0_init 63 = .ok (.aload_n 0, 1) := by decide +kernel
theorem dX0_init_64 : decode cX0_init 64 = .ok (.aload_n 1, 1) := by decide +kernel
theorem dX0_init_65 : decode cX0_init 65 = .ok (.iload_n 3, 1) := by decide +kernel
theorem dX0_init_66 : decode cX0_init 66 = .ok (.invokevirtual 53, 3) := by decide +kernel
theorem dX0_init_69 : decode cX0_init 69 = .ok (.putfield 56, 3) := by decide +kernel
theorem dX0_init_72 : decode cX0_init 72 = .ok (.aload_n 0, 1) := by decide +kernel
theorem dX0_init_73 : decode cX0_init 73 = .ok (.iload 4, 2) := by decide +kernel
theorem dX0_init_75 : decode cX0_init 75 = .ok (.putfield 59, 3) := by decide +kernel
theorem dX0_init_78 : decode cX0_init 78 = .ok (.aload_n 0, 1) := by decide +kernel
theorem dX0_init_79 : decode cX0_init 79 = .ok (.iload 5, 2) := by decide +kernel
theorem dX0_init_81 : decode cX0_init 81 = .ok (.putfield 62, 3) := by decide +kernel
theorem dX0_init_84 : decode cX0_init 84 = .ok (.aload_n 0, 1) := by decide +kernel
theorem dX0_init_85 : decode cX0_init 85 = .ok (.iload 6, 2) := by decide +kernel
theorem dX0_init_87 : decode cX0_init 87 = .ok (.putfield 65, 3) := by decide +kernel
theorem dX0_init_90 : decode cX0_init 90 = .ok (.aload_n 0, 1) := by decide +kernel
theorem dX0_init_91 : decode cX0_init 91 = .ok (.iload 4, 2) := by decide +kernel
theorem dX0_init_93 : decode cX0_init 93 = .ok (.iconst 1, 1) := by decide +kernel
theorem dX0_init_94 : decode cX0_init 94 = .ok (.isub, 1) := by decide +kernel
theorem dX0_init_95 : decode cX0_init 95 = .ok (.putfield 68, 3) := by decide +kernel
theorem dX0_init_98 : decode cX0_init 98 = .ok (.return_, 1) := by decide +kernel
theorem dX0_mimic_0 : decode cX0_mimic 0 = .ok (.aload_n 0, 1) := by decide +kernel
theorem dX0_mimic_1 : decode cX0_mimic 1 = .ok (.aload_n 1, 1) := by decide +kernel
theorem dX0_mimic_2 : decode cX0_mimic 2 = .ok (.getfield 38, 3) := by decide +kernel
theorem dX0_mimic_5 : decode cX0_mimic 5 = .ok (.putfield 38, 3) := by decide +kernel
theorem dX0_mimic_8 : decode cX0_mimic 8 = .ok (.aload_n 0, 1) := by decide +kernel
theorem dX0_mimic_9 : decode cX0_mimic 9 = .ok (.aload_n 1, 1) := by decide +kernel
theorem dX0_mimic_10 : decode cX0_mimic 10 = .ok (.getfield 41, 3) := by decide +kernel
theorem dX0_mimic_13 : decode cX0_mimic 13 = .ok (.putfield 41, 3) := by decide +kernel
theorem dX0_mimic_16 : decode cX0_mimic 16 = .ok (.aload_n 0, 1) := by decide +kernel
theorem dX0_mimic_17 : decode cX0_mimic 17 = .ok (.aload_n 1, 1) := by decide +kernel
theorem dX0_mimic_18 : decode cX0_mimic 18 = .ok (.getfield 50, 3) := by decide +kernel
theorem dX0_mimic_21 : decode cX0_mimic 21 = .ok (.putfield 50, 3) := by decide +kernel
theorem dX0_mimic_24 : decode cX0_mimic 24 = .ok (.aload_n 0, 1) := by decide +kernel
theorem dX0_mimic_25 : decode cX0_mimic 25 = .ok (.aload_n 1, 1) := by decide +kernel
theorem dX0_mimic_26 : decode cX0_mimic 26 = .ok (.getfield 56, 3) := by decide +kernel
theorem dX0_mimic_29 : decode cX0_mimic 29 = .ok (.putfield 56, 3) := by decide +kernel
theorem dX0_mimic_32 : decode cX0_mimic 32 = .ok (.aload_n 0, 1) := by decide +kernel
theorem dX0_mimic_33 : decode cX0_mimic 33 = .ok (.aload_n 1, 1) := by decide +kernel
theorem dX0_mimic_34 : decode cX0_mimic 34 = .ok (.getfield 59, 3) := by decide +kernel
theorem dX0_mimic_37 : decode cX0_mimic 37 = .ok (.putfield 59, 3) := by decide +kernel
theorem dX0_mimic_40 : decode cX0_mimic 40 = .ok (.aload_n 0, 1) := by decide +kernel
theorem dX0_mimic_41 : decode cX0_mimic 41 = .ok (.aload_n 1, 1) := by decide +kernel
theorem dX0_mimic_42 : decode cX0_mimic 42 = .ok (.getfield 62, 3) := by decide +kernel
theorem dX0_mimic_45 : decode cX0_mimic 45 = .ok (.putfield 62, 3) := by decide +kernel
theorem dX0_mimic_48 : decode cX0_mimic 48 = .ok (.aload_n 0, 1) := by decide +kernel
theorem dX0_mimic_49 : decode cX0_mimic 49 = .ok (.aload_n 1, 1) := by decide +kernel
theorem dX0_mimic_50 : decode cX0_mimic 50 = .ok (.getfield 65, 3) := by decide +kernel
theorem dX0_mimic_53 : decode cX0_mimic 53 = .ok (.putfield 65, 3) := by decide +kernel
theorem dX0_mimic_56 : decode cX0_mimic 56 = .ok (.aload_n 0, 1) := by decide +kernel
theorem dX0_mimic_57 : decode cX0_mimic 57 = .ok (.aload_n 1, 1) := by decide +kernel
theorem dX0_mimic_58 : decode cX0_mimic 58 = .ok (.getfield 9, 3) := by decide +kernel
theorem dX0_mimic_61 : decode cX0_mimic 61 = .ok (.putfield 9, 3) := by decide +kernel
theorem dX0_mimic_64 : decode cX0_mimic 64 = .ok (.aload_n 0, 1) := by decide +kernel
theorem dX0_mimic_65 : decode cX0_mimic 65 = .ok (.aload_n 1, 1) := by decide +kernel
theorem dX0_mimic_66 : decode cX0_mimic 66 = .ok (.getfield 15, 3) := by decide +kernel
theorem dX0_mimic_69 : decode cX0_mimic 69 = .ok (.putfield 15, 3) := by decide +kernel
theorem dX0_mimic_72 : decode cX0_mimic 72 = .ok (.aload_n 0, 1) := by decide +kernel
theorem dX0_mimic_73 : decode cX0_mimic 73 = .ok (.aload_n 1, 1) := by decide +kernel
theorem dX0_mimic_74 : decode cX0_mimic 74 = .ok (.getfield 18, 3) := by decide +kernel
theorem dX0_mimic_77 : decode cX0_mimic 77 = .ok (.putfield 18, 3) := by decide +kernel
theorem dX0_mimic_80 : decode cX0_mimic 80 = .ok (.aload_n 0, 1) := by decide +kernel
theorem dX0_mimic_81 : decode cX0_mimic 81 = .ok (.aload_n 1, 1) := by decide +kernel
theorem dX0_mimic_82 : decode cX0_mimic 82 = .ok (.getfield 68, 3) := by decide +kernel
theorem dX0_mimic_85 : decode cX0_mimic 85 = .ok (.putfield 68, 3) := by decide +kernel
theorem dX0_mimic_88 : decode cX0_mimic 88 = .ok (.aload_n 0, 1) := by decide +kernel
theorem dX0_mimic_89 : decode cX0_mimic 89 = .ok (.aload_n 1, 1) := by decide +kernel
theorem dX0_mimic_90 : decode cX0_mimic 90 = .ok (.getfield 27, 3) := by decide +kernel
theorem dX0_mimic_93 : decode cX0_mimic 93 = .ok (.putfield 27, 3) := by decide +kernel
theorem dX0_mimic_96 : decode cX0_mimic 96 = .ok (.return_, 1) := by decide +kernel
theorem dX0_face_0 : decode cX0_face 0 = .ok (.aload_n 0, 1) := by decide +kernel
theorem dX0_face_1 : decode cX0_face 1 = .ok (.iload_n 1, 1) := by decide +kernel
theorem dX0_face_2 : decode cX0_face 2 = .ok (.putfield 9, 3) := by decide +kernel
theorem dX0_face_5 : decode cX0_face 5 = .ok (.aload_n 0, 1) := by decide +kernel
theorem dX0_face_6 : decode cX0_face 6 = .ok (.iconst 0, 1) := by decide +kernel
theorem dX0_face_7 : decode cX0_face 7 = .ok (.putfield 15, 3) := by decide +kernel
theorem dX0_face_10 : decode cX0_face 10 = .ok (.aload_n 0, 1) := by decide +kernel
theorem dX0_face_11 : decode cX0_face 11 = .ok (.getfield 15, 3) := by decide +kernel
theorem dX0_face_14 : decode cX0_face 14 = .ok (.aload_n 0, 1) := by decide +kernel
theorem dX0_face_15 : decode cX0_face 15 = .ok (.getfield 62, 3) := by decide +kernel
theorem dX0_face_18 : decode cX0_face 18 = .ok (.if_icmp .ge 46, 3) := by decide +kernel
theorem dX0_face_21 : decode cX0_face 21 = .ok (.aload_n 0, 1) := by decide +kernel
theorem dX0_face_22 : decode cX0_face 22 = .ok (.getfield 34, 3) := by decide +kernel
theorem dX0_face_25 : decode cX0_face 25 = .ok (.aload_n 0, 1) := by decide +kernel
theorem dX0_face_26 : decode cX0_face 26 = .ok (.aload_n 0, 1) := by decide +kernel
theorem dX0_face_27 : decode cX0_face 27 = .ok (.getfield 15, 3) := by decide +kernel
theorem dX0_face_30 : decode cX0_face 30 = .ok (.iconst 1, 1) := by decide +kernel
theorem dX0_face_31 : decode cX0_face 31 = .ok (.iadd, 1) := by decide +kernel
theorem dX0_face_32 : decode cX0_face 32 = .ok (.invokevirtual 71, 3) := by decide +kernel
theorem dX0_face_35 : decode cX0_face 35 = .ok (.aload_n 0, 1) := by decide +kernel
theorem dX0_face_36 : decode cX0_face 36 = .ok (.aload_n 0, 1) := by decide +kernel
theorem dX0_face_37 : decode cX0_face 37 = .ok (.getfield 15, 3) := by decide +kernel
theorem dX0_face_40 : decode cX0_face 40 = .ok (.iconst 1, 1) := by decide +kernel
theorem dX0_face_41 : decode cX0_face 41 = .ok (.iadd, 1) := by decide +kernel
theorem dX0_face_42 : decode cX0_face 42 = .ok (.invokevirtual 74, 3) := by decide +kernel
theorem dX0_face_45 : decode cX0_face 45 = .ok (.invokevirtual 77, 3) := by decide +kernel
theorem dX0_face_48 : decode cX0_face 48 = .ok (.ifCond .eq 16, 3) := by decide +kernel
theorem dX0_face_51 : decode cX0_face 51 = .ok (.aload_n 0, 1) := by decide +kernel
theorem dX0_face_52 : decode cX0_face 52 = .ok (.dup, 1) := by decide +kernel
theorem dX0_face_53 : decode cX0_face 53 = .ok (.getfield 15, 3) := by decide +kernel
theorem dX0_face_56 : decode cX0_face 56 = .ok (.iconst 1, 1) := by decide +kernel
theorem dX0_face_57 : decode cX0_face 57 = .ok (.iadd, 1) := by decide +kernel
theorem dX0_face_58 : decode cX0_face 58 = .ok (.putfield 15, 3) := by decide +kernel
theorem dX0_face_61 : decode cX0_face 61 = .ok (.goto (-51), 3) := by decide +kernel
theorem dX0_face_64 : decode cX0_face 64 = .ok (.return_, 1) := by decide +kernel
theorem dX0_drawIn_0 : decode cX0_drawIn 0 = .ok (.aload_n 0, 1) := by decide +kernel
theorem dX0_drawIn_1 : decode cX0_drawIn 1 = .ok (.iload_n 1, 1) := by decide +kernel
theorem dX0_drawIn_2 : decode cX0_drawIn 2 = .ok (.invokevirtual 81, 3) := by decide +kernel
theorem dX0_drawIn_5 : decode cX0_drawIn 5 = .ok (.aload_n 0, 1) := by decide +kernel
theorem dX0_drawIn_6 : decode cX0_drawIn 6 = .ok (.iconst 1, 1) := by decide +kernel
theorem dX0_drawIn_7 : decode cX0_drawIn 7 = .ok (.putfield 18, 3) := by decide +kernel
theorem dX0_drawIn_10 : decode cX0_drawIn 10 = .ok (.aload_n 0, 1) := by decide +kernel
theorem dX0_drawIn_11 : decode cX0_drawIn 11 = .ok (.aload_n 0, 1) := by decide +kernel
theorem dX0_drawIn_12 : decode cX0_drawIn 12 = .ok (.getfield 59, 3) := by decide +kernel
theorem dX0_drawIn_15 : decode cX0_drawIn 15 = .ok (.iconst 1, 1) := by decide +kernel
theorem dX0_drawIn_16 : decode cX0_drawIn 16 = .ok (.isub, 1) := by decide +kernel
theorem dX0_drawIn_17 : decode cX0_drawIn 17 = .ok (.putfield 68, 3) := by decide +kernel
theorem dX0_drawIn_20 : decode cX0_drawIn 20 = .ok (.return_, 1) := by decide +kernel
theorem dX0_move_0 : decode cX0_move 0 = .ok (.iload_n 1, 1) := by decide +kernel
theorem dX0_move_1 : decode cX0_move 1 = .ok (.tableswitch 123 0 5 #[39, 55, 71, 84, 97, 110], 39) := by decide +kernel
theorem dX0_move_40 : decode cX0_move 40 = .ok (.aload_n 0, 1) := by decide +kernel
theorem dX0_move_41 : decode cX0_move 41 = .ok (.aload_n 0, 1) := by decide +kernel
theorem dX0_move_42 : decode cX0_move 42 = .ok (.getfield 9, 3) := by decide +kernel
theorem dX0_move_45 : decode cX0_move 45 = .ok (.iconst 1, 1) := by decide +kernel
theorem dX0_move_46 : decode cX0_move 46 = .ok (.iadd, 1) := by decide +kernel
theorem dX0_move_47 : decode cX0_move 47 = .ok (.bipush 7, 2) := by decide +kernel
theorem dX0_move_49 : decode cX0_move 49 = .ok (.iand, 1) := by decide +kernel
theorem dX0_move_50 : decode cX0_move 50 = .ok (.invokevirtual 81, 3) := by decide +kernel
theorem dX0_move_53 : decode cX0_move 53 = .ok (.goto 71, 3) := by decide +kernel
theorem dX0_move_56 : decode cX0_move 56 = .ok (.aload_n 0, 1) := by decide +kernel
theorem dX0_move_57 : decode cX0_move 57 = .ok (.aload_n 0, 1) := by decide +kernel
theorem dX0_move_58 : decode cX0_move 58 = .ok (.getfield 9, 3) := by decide +kernel
theorem dX0_move_61 : decode cX0_move 61 = .ok (.iconst 1, 1) := by decide +kernel
theorem dX0_move_62 : decode cX0_move 62 = .ok (.isub, 1) := by decide +kernel
theorem dX0_move_63 : decode cX0_move 63 = .ok (.bipush 7, 2) := by decide +kernel
theorem dX0_move_65 : decode cX0_move 65 = .ok (.iand, 1) := by decide +kernel
theorem dX0_move_66 : decode cX0_move 66 = .ok (.invokevirtual 81, 3) := by decide +kernel
theorem dX0_move_69 : decode cX0_move 69 = .ok (.goto 55, 3) := by decide +kernel
theorem dX0_move_72 : decode cX0_move 72 = .ok (.aload_n 0, 1) := by decide +kernel
theorem dX0_move_73 : decode cX0_move 73 = .ok (.dup, 1) := by decide +kernel
theorem dX0_move_74 : decode cX0_move 74 = .ok (.getfield 18, 3) := by decide +kernel
theorem dX0_move_77 : decode cX0_move 77 = .ok (.iconst 1, 1) := by decide +kernel
theorem dX0_move_78 : decode cX0_move 78 = .ok (.iadd, 1) := by decide +kernel
theorem dX0_move_79 : decode cX0_move 79 = .ok (.putfield 18, 3) := by decide +kernel
theorem dX0_move_82 : decode cX0_move 82 = .ok (.goto 42, 3) := by decide +kernel
theorem dX0_move_85 : decode cX0_move 85 = .ok (.aload_n 0, 1) := by decide +kernel
theorem dX0_move_86 : decode cX0_move 86 = .ok (.dup, 1) := by decide +kernel
theorem dX0_move_87 : decode cX0_move 87 = .ok (.getfield 18, 3) := by decide +kernel
theorem dX0_move_90 : decode cX0_move 90 = .ok (.iconst 1, 1) := by decide +kernel
theorem dX0_move_91 : decode cX0_move 91 = .ok (.isub, 1) := by decide +kernel
theorem dX0_move_92 : decode cX0_move 92 = .ok (.putfield 18, 3) := by decide +kernel
theorem dX0_move_95 : decode cX0_move 95 = .ok (.goto 29, 3) := by decide +kernel
theorem dX0_move_98 : decode cX0_move 98 = .ok (.aload_n 0, 1) := by decide +kernel
theorem dX0_move_99 : decode cX0_move 99 = .ok (.dup, 1) := by decide +kernel
theorem dX0_move_100 : decode cX0_move 100 = .ok (.getfield 68, 3) := by decide +kernel
theorem dX0_move_103 : decode cX0_move 103 = .ok (.iconst 1, 1) := by decide +kernel
theorem dX0_move_104 : decode cX0_move 104 = .ok (.iadd, 1) := by decide +kernel
theorem dX0_move_105 : decode cX0_move 105 = .ok (.putfield 68, 3) := by decide +kernel
theorem dX0_move_108 : decode cX0_move 108 = .ok (.goto 16, 3) := by decide +kernel
theorem dX0_move_111 : decode cX0_move 111 = .ok (.aload_n 0, 1) := by decide +kernel
theorem dX0_move_112 : decode cX0_move 112 = .ok (.dup, 1) := by decide +kernel
theorem dX0_move_113 : decode cX0_move 113 = .ok (.getfield 68, 3) := by decide +kernel
theorem dX0_move_116 : decode cX0_move 116 = .ok (.iconst 1, 1) := by decide +kernel
theorem dX0_move_117 : decode cX0_move 117 = .ok (.isub, 1) := by decide +kernel
theorem dX0_move_118 : decode cX0_move 118 = .ok (.putfield 68, 3) := by decide +kernel
theorem dX0_move_121 : decode cX0_move 121 = .ok (.goto 3, 3) := by decide +kernel
theorem dX0_move_124 : decode cX0_move 124 = .ok (.return_, 1) := by decide +kernel
theorem dX0_tire_0 : decode cX0_tire 0 = .ok (.aload_n 0, 1) := by decide +kernel
theorem dX0_tire_1 : decode cX0_tire 1 = .ok (.iload_n 1, 1) := by decide +kernel
theorem dX0_tire_2 : decode cX0_tire 2 = .ok (.bipush 6, 2) := by decide +kernel
theorem dX0_tire_4 : decode cX0_tire 4 = .ok (.if_icmp .ne 7, 3) := by decide +kernel
theorem dX0_tire_7 : decode cX0_tire 7 = .ok (.iconst 0, 1) := by decide +kernel
theorem dX0_tire_8 : decode cX0_tire 8 = .ok (.goto 9, 3) := by decide +kernel
theorem dX0_tire_11 : decode cX0_tire 11 = .ok (.aload_n 0, 1) := by decide +kernel
theorem dX0_tire_12 : decode cX0_tire 12 = .ok (.getfield 24, 3) := by decide +kernel
theorem dX0_tire_15 : decode cX0_tire 15 = .ok (.iconst 1, 1) := by decide +kernel
theorem dX0_tire_16 : decode cX0_tire 16 = .ok (.iadd, 1) := by decide +kernel
theorem dX0_tire_17 : decode cX0_tire 17 = .ok (.putfield 24, 3) := by decide +kernel
theorem dX0_tire_20 : decode cX0_tire 20 = .ok (.iload_n 1, 1) := by decide +kernel
theorem dX0_tire_21 : decode cX0_tire 21 = .ok (.ifCond .eq 8, 3) := by decide +kernel
theorem dX0_tire_24 : decode cX0_tire 24 = .ok (.iload_n 1, 1) := by decide +kernel
theorem dX0_tire_25 : decode cX0_tire 25 = .ok (.iconst 1, 1) := by decide +kernel
theorem dX0_tire_26 : decode cX0_tire 26 = .ok (.if_icmp .ne 32, 3) := by decide +kernel
theorem dX0_tire_29 : decode cX0_tire 29 = .ok (.aload_n 0, 1) := by decide +kernel
theorem dX0_tire_30 : decode cX0_tire 30 = .ok (.aload_n 0, 1) := by decide +kernel
theorem dX0_tire_31 : decode cX0_tire 31 = .ok (.getfield 21, 3) := by decide +kernel
theorem dX0_tire_34 : decode cX0_tire 34 = .ok (.aload_n 0, 1) := by decide +kernel
theorem dX0_tire_35 : decode cX0_tire 35 = .ok (.getfield 27, 3) := by decide +kernel
theorem dX0_tire_38 : decode cX0_tire 38 = .ok (.ifnonnull 7, 3) := by decide +kernel
theorem dX0_tire_41 : decode cX0_tire 41 = .ok (.iconst 2, 1) := by decide +kernel
theorem dX0_tire_42 : decode cX0_tire 42 = .ok (.goto 4, 3) := by decide +kernel
theorem dX0_tire_45 : decode cX0_tire 45 = .ok (.iconst 3, 1) := by decide +kernel
theorem dX0_tire_46 : decode cX0_tire 46 = .ok (.iadd, 1) := by decide +kernel
theorem dX0_tire_47 : decode cX0_tire 47 = .ok (.bipush 20, 2) := by decide +kernel
theorem dX0_tire_49 : decode cX0_tire 49 = .ok (.invokestatic 85, 3) := by decide +kernel
theorem dX0_tire_52 : decode cX0_tire 52 = .ok (.putfield 21, 3) := by decide +kernel
theorem dX0_tire_55 : decode cX0_tire 55 = .ok (.goto 8, 3) := by decide +kernel
theorem dX0_tire_58 : decode cX0_tire 58 = .ok (.aload_n 0, 1) := by decide +kernel
theorem dX0_tire_59 : decode cX0_tire 59 = .ok (.iconst 1, 1) := by decide +kernel
theorem dX0_tire_60 : decode cX0_tire 60 = .ok (.invokevirtual 91, 3) := by decide +kernel
theorem dX0_tire_63 : decode cX0_tire 63 = .ok (.return_, 1) := by decide +kernel
theorem dX0_settle_0 : decode cX0_settle 0 = .ok (.aload_n 0, 1) := by decide +kernel
theorem dX0_settle_1 : decode cX0_settle 1 = .ok (.aload_n 0, 1) := by decide +kernel
theorem dX0_settle_2 : decode cX0_settle 2 = .ok (.getfield 21, 3) := by decide +kernel
theorem dX0_settle_5 : decode cX0_settle 5 = .ok (.iload_n 1, 1) := by decide +kernel
theorem dX0_settle_6 : decode cX0_settle 6 = .ok (.isub, 1) := by decide +kernel
theorem dX0_settle_7 : decode cX0_settle 7 = .ok (.iconst 0, 1) := by decide +kernel
theorem dX0_settle_8 : decode cX0_settle 8 = .ok (.invokestatic 94, 3) := by decide +kernel
theorem dX0_settle_11 : decode cX0_settle 11 = .ok (.putfield 21, 3) := by decide +kernel
theorem dX0_settle_14 : decode cX0_settle 14 = .ok (.return_, 1) := by decide +kernel
theorem dX0_rowAt_0 : decode cX0_rowAt 0 = .ok (.aload_n 0, 1) := by decide +kernel
theorem dX0_rowAt_1 : decode cX0_rowAt 1 = .ok (.getfield 50, 3) := by decide +kernel
theorem dX0_rowAt_4 : decode cX0_rowAt 4 = .ok (.iload_n 1, 1) := by decide +kernel
theorem dX0_rowAt_5 : decode cX0_rowAt 5 = .ok (.getstatic 97, 3) := by decide +kernel
theorem dX0_rowAt_8 : decode cX0_rowAt 8 = .ok (.aload_n 0, 1) := by decide +kernel
theorem dX0_rowAt_9 : decode cX0_rowAt 9 = .ok (.getfield 9, 3) := by decide +kernel
theorem dX0_rowAt_12 : decode cX0_rowAt 12 = .ok (.bipush 7, 2) := by decide +kernel
theorem dX0_rowAt_14 : decode cX0_rowAt 14 = .ok (.iand, 1) := by decide +kernel
theorem dX0_rowAt_15 : decode cX0_rowAt 15 = .ok (.iaload, 1) := by decide +kernel
theorem dX0_rowAt_16 : decode cX0_rowAt 16 = .ok (.imul, 1) := by decide +kernel
theorem dX0_rowAt_17 : decode cX0_rowAt 17 = .ok (.iadd, 1) := by decide +kernel
theorem dX0_rowAt_18 : decode cX0_rowAt 18 = .ok (.ireturn, 1) := by decide +kernel
theorem dX0_columnAt_0 : decode cX0_columnAt 0 = .ok (.aload_n 0, 1) := by decide +kernel
theorem dX0_columnAt_1 : decode cX0_columnAt 1 = .ok (.getfield 56, 3) := by decide +kernel
theorem dX0_columnAt_4 : decode cX0_columnAt 4 = .ok (.iload_n 1, 1) := by decide +kernel
theorem dX0_columnAt_5 : decode cX0_columnAt 5 = .ok (.getstatic 101, 3) := by decide +kernel
theorem dX0_columnAt_8 : decode cX0_columnAt 8 = .ok (.aload_n 0, 1) := by decide +kernel
theorem dX0_columnAt_9 : decode cX0_columnAt 9 = .ok (.getfield 9, 3) := by decide +kernel
theorem dX0_columnAt_12 : decode cX0_columnAt 12 = .ok (.bipush 7, 2) := by decide +kernel
theorem dX0_columnAt_14 : decode cX0_columnAt 14 = .ok (.iand, 1) := by decide +kernel
theorem dX0_columnAt_15 : decode cX0_columnAt 15 = .ok (.iaload, 1) := by decide +kernel
theorem dX0_columnAt_16 : decode cX0_columnAt 16 = .ok (.imul, 1) := by decide +kernel
theorem dX0_columnAt_17 : decode cX0_columnAt 17 = .ok (.iadd, 1) := by decide +kernel
theorem dX0_columnAt_18 : decode cX0_columnAt 18 = .ok (.ireturn, 1) := by decide +kernel
theorem dX0_plumb_0 : decode cX0_plumb 0 = .ok (.aload_n 0, 1) := by decide +kernel
theorem dX0_plumb_1 : decode cX0_plumb 1 = .ok (.getfield 34, 3) := by decide +kernel
theorem dX0_plumb_4 : decode cX0_plumb 4 = .ok (.aload_n 0, 1) := by decide +kernel
theorem dX0_plumb_5 : decode cX0_plumb 5 = .ok (.aload_n 0, 1) := by decide +kernel
theorem dX0_plumb_6 : decode cX0_plumb 6 = .ok (.getfield 18, 3) := by decide +kernel
theorem dX0_plumb_9 : decode cX0_plumb 9 = .ok (.invokevirtual 71, 3) := by decide +kernel
theorem dX0_plumb_12 : decode cX0_plumb 12 = .ok (.aload_n 0, 1) := by decide +kernel
theorem dX0_plumb_13 : decode cX0_plumb 13 = .ok (.aload_n 0, 1) := by decide +kernel
theorem dX0_plumb_14 : decode cX0_plumb 14 = .ok (.getfield 18, 3) := by decide +kernel
theorem dX0_plumb_17 : decode cX0_plumb 17 = .ok (.invokevirtual 74, 3) := by decide +kernel
theorem dX0_plumb_20 : decode cX0_plumb 20 = .ok (.invokevirtual 104, 3) := by decide +kernel
theorem dX0_plumb_23 : decode cX0_plumb 23 = .ok (.ireturn, 1) := by decide +kernel
theorem dX0_above_0 : decode cX0_above 0 = .ok (.aload_n 0, 1) := by decide +kernel
theorem dX0_above_1 : decode cX0_above 1 = .ok (.getfield 68, 3) := by decide +kernel
theorem dX0_above_4 : decode cX0_above 4 = .ok (.aload_n 0, 1) := by decide +kernel
theorem dX0_above_5 : decode cX0_above 5 = .ok (.getfield 34, 3) := by decide +kernel
theorem dX0_above_8 : decode cX0_above 8 = .ok (.aload_n 0, 1) := by decide +kernel
theorem dX0_above_9 : decode cX0_above 9 = .ok (.invokevirtual 107, 3) := by decide +kernel
theorem dX0_above_12 : decode cX0_above 12 = .ok (.invokevirtual 111, 3) := by decide +kernel
theorem dX0_above_15 : decode cX0_above 15 = .ok (.isub, 1) := by decide +kernel
theorem dX0_above_16 : decode cX0_above 16 = .ok (.ireturn, 1) := by decide +kernel
theorem dX0_isCalm_0 : decode cX0_isCalm 0 = .ok (.aload_n 0, 1) := by decide +kernel
theorem dX0_isCalm_1 : decode cX0_isCalm 1 = .ok (.getfield 21, 3) := by decide +kernel
theorem dX0_isCalm_4 : decode cX0_isCalm 4 = .ok (.iconst 1, 1) := by decide +kernel
theorem dX0_isCalm_5 : decode cX0_isCalm 5 = .ok (.if_icmp .gt 7, 3) := by decide +kernel
theorem dX0_isCalm_8 : decode cX0_isCalm 8 = .ok (.iconst 1, 1) := by decide +kernel
theorem dX0_isCalm_9 : decode cX0_isCalm 9 = .ok (.goto 4, 3) := by decide +kernel
theorem dX0_isCalm_12 : decode cX0_isCalm 12 = .ok (.iconst 0, 1) := by decide +kernel
theorem dX0_isCalm_13 : decode cX0_isCalm 13 = .ok (.ireturn, 1) := by decide +kernel
theorem dX0_isJustAbove_0 : decode cX0_isJustAbove 0 = .ok (.aload_n 0, 1) := by decide +kernel
theorem dX0_isJustAbove_1 : decode cX0_isJustAbove 1 = .ok (.invokevirtual 114, 3) := by decide +kernel
theorem dX0_isJustAbove_4 : decode cX0_isJustAbove 4 = .ok (.ifCond .eq 15, 3) := by decide +kernel
theorem dX0_isJustAbove_7 : decode cX0_isJustAbove 7 = .ok (.aload_n 0, 1) := by decide +kernel
theorem dX0_isJustAbove_8 : decode cX0_isJustAbove 8 = .ok (.invokevirtual 118, 3) := by decide +kernel
theorem dX0_isJustAbove_11 : decode cX0_isJustAbove 11 = .ok (.iconst 1, 1) := by decide +kernel
theorem dX0_isJustAbove_12 : decode cX0_isJustAbove 12 = .ok (.if_icmp .ne 7, 3) := by decide +kernel
theorem dX0_isJustAbove_15 : decode cX0_isJustAbove 15 = .ok (.iconst 1, 1) := by decide +kernel
theorem dX0_isJustAbove_16 : decode cX0_isJustAbove 16 = .ok (.goto 4, 3) := by decide +kernel
theorem dX0_isJustAbove_19 : decode cX0_isJustAbove 19 = .ok (.iconst 0, 1) := by decide +kernel
theorem dX0_isJustAbove_20 : decode cX0_isJustAbove 20 = .ok (.ireturn, 1) := by decide +kernel
theorem dX0_isPossible_0 : decode cX0_isPossible 0 = .ok (.aload_n 0, 1) := by decide +kernel
theorem dX0_isPossible_1 : decode cX0_isPossible 1 = .ok (.getfield 18, 3) := by decide +kernel
theorem dX0_isPossible_4 : decode cX0_isPossible 4 = .ok (.iconst 1, 1) := by decide +kernel
theorem dX0_isPossible_5 : decode cX0_isPossible 5 = .ok (.if_icmp .lt 31, 3) := by decide +kernel
theorem dX0_isPossible_8 : decode cX0_isPossible 8 = .ok (.aload_n 0, 1) := by decide +kernel
theorem dX0_isPossible_9 : decode cX0_isPossible 9 = .ok (.getfield 18, 3) := by decide +kernel
theorem dX0_isPossible_12 : decode cX0_isPossible 12 = .ok (.aload_n 0, 1) := by decide +kernel
theorem dX0_isPossible_13 : decode cX0_isPossible 13 = .ok (.getfield 15, 3) := by decide +kernel
theorem dX0_isPossible_16 : decode cX0_isPossible 16 = .ok (.if_icmp .gt 20, 3) := by decide +kernel
theorem dX0_isPossible_19 : decode cX0_isPossible 19 = .ok (.aload_n 0, 1) := by decide +kernel
theorem dX0_isPossible_20 : decode cX0_isPossible 20 = .ok (.getfield 68, 3) := by decide +kernel
theorem dX0_isPossible_23 : decode cX0_isPossible 23 = .ok (.aload_n 0, 1) := by decide +kernel
theorem dX0_isPossible_24 : decode cX0_isPossible 24 = .ok (.getfield 59, 3) := by decide +kernel
theorem dX0_isPossible_27 : decode cX0_isPossible 27 = .ok (.iconst 1, 1) := by decide +kernel
theorem dX0_isPossible_28 : decode cX0_isPossible 28 = .ok (.isub, 1) := by decide +kernel
theorem dX0_isPossible_29 : decode cX0_isPossible 29 = .ok (.if_icmp .gt 7, 3) := by decide +kernel
theorem dX0_isPossible_32 : decode cX0_isPossible 32 = .ok (.iconst 1, 1) := by decide +kernel
theorem dX0_isPossible_33 : decode cX0_isPossible 33 = .ok (.goto 4, 3) := by decide +kernel
theorem dX0_isPossible_36 : decode cX0_isPossible 36 = .ok (.iconst 0, 1) := by decide +kernel
theorem dX0_isPossible_37 : decode cX0_isPossible 37 = .ok (.ireturn, 1) := by decide +kernel
theorem dX0_canMeet_0 : decode cX0_canMeet 0 = .ok (.aload_n 0, 1) := by decide +kernel
theorem dX0_canMeet_1 : decode cX0_canMeet 1 = .ok (.aload_n 0, 1) := by decide +kernel
theorem dX0_canMeet_2 : decode cX0_canMeet 2 = .ok (.getfield 18, 3) := by decide +kernel
theorem dX0_canMeet_5 : decode cX0_canMeet 5 = .ok (.invokevirtual 71, 3) := by decide +kernel
theorem dX0_canMeet_8 : decode cX0_canMeet 8 = .ok (.aload_n 1, 1) := by decide +kernel
theorem dX0_canMeet_9 : decode cX0_canMeet 9 = .ok (.aload_n 1, 1) := by decide +kernel
theorem dX0_canMeet_10 : decode cX0_canMeet 10 = .ok (.getfield 18, 3) := by decide +kernel
theorem dX0_canMeet_13 : decode cX0_canMeet 13 = .ok (.invokevirtual 71, 3) := by decide +kernel
theorem dX0_canMeet_16 : decode cX0_canMeet 16 = .ok (.isub, 1) := by decide +kernel
theorem dX0_canMeet_17 : decode cX0_canMeet 17 = .ok (.invokestatic 121, 3) := by decide +kernel
theorem dX0_canMeet_20 : decode cX0_canMeet 20 = .ok (.istore_n 2, 1) := by decide +kernel
theorem dX0_canMeet_21 : decode cX0_canMeet 21 = .ok (.aload_n 0, 1) := by decide +kernel
theorem dX0_canMeet_22 : decode cX0_canMeet 22 = .ok (.aload_n 0, 1) := by decide +kernel
theorem dX0_canMeet_23 : decode cX0_canMeet 23 = .ok (.getfield 18, 3) := by decide +kernel
theorem dX0_canMeet_26 : decode cX0_canMeet 26 = .ok (.invokevirtual 74, 3) := by decide +kernel
theorem dX0_canMeet_29 : decode cX0_canMeet 29 = .ok (.aload_n 1, 1) := by decide +kernel
theorem dX0_canMeet_30 : decode cX0_canMeet 30 = .ok (.aload_n 1, 1) := by decide +kernel
theorem dX0_canMeet_31 : decode cX0_canMeet 31 = .ok (.getfield 18, 3) := by decide +kernel
theorem dX0_canMeet_34 : decode cX0_canMeet 34 = .ok (.invokevirtual 74, 3) := by decide +kernel
theorem dX0_canMeet_37 : decode cX0_canMeet 37 = .ok (.isub, 1) := by decide +kernel
theorem dX0_canMeet_38 : decode cX0_canMeet 38 = .ok (.invokestatic 121, 3) := by decide +kernel
theorem dX0_canMeet_41 : decode cX0_canMeet 41 = .ok (.istore_n 3, 1) := by decide +kernel
theorem dX0_canMeet_42 : decode cX0_canMeet 42 = .ok (.iload_n 2, 1) := by decide +kernel
theorem dX0_canMeet_43 : decode cX0_canMeet 43 = .ok (.iload_n 3, 1) := by decide +kernel
theorem dX0_canMeet_44 : decode cX0_canMeet 44 = .ok (.invokestatic 94, 3) := by decide +kernel
theorem dX0_canMeet_47 : decode cX0_canMeet 47 = .ok (.iconst 2, 1) := by decide +kernel
theorem dX0_canMeet_48 : decode cX0_canMeet 48 = .ok (.if_icmp .gt 37, 3) := by decide +kernel
theorem dX0_canMeet_51 : decode cX0_canMeet 51 = .ok (.aload_n 0, 1) := by decide +kernel
theorem dX0_canMeet_52 : decode cX0_canMeet 52 = .ok (.getfield 68, 3) := by decide +kernel
theorem dX0_canMeet_55 : decode cX0_canMeet 55 = .ok (.aload_n 1, 1) := by decide +kernel
theorem dX0_canMeet_56 : decode cX0_canMeet 56 = .ok (.getfield 68, 3) := by decide +kernel
theorem dX0_canMeet_59 : decode cX0_canMeet 59 = .ok (.isub, 1) := by decide +kernel
theorem dX0_canMeet_60 : decode cX0_canMeet 60 = .ok (.invokestatic 121, 3) := by decide +kernel
theorem dX0_canMeet_63 : decode cX0_canMeet 63 = .ok (.iconst 2, 1) := by decide +kernel
theorem dX0_canMeet_64 : decode cX0_canMeet 64 = .ok (.if_icmp .gt 21, 3) := by decide +kernel
theorem dX0_canMeet_67 : decode cX0_canMeet 67 = .ok (.aload_n 0, 1) := by decide +kernel
theorem dX0_canMeet_68 : decode cX0_canMeet 68 = .ok (.invokevirtual 114, 3) := by decide +kernel
theorem dX0_canMeet_71 : decode cX0_canMeet 71 = .ok (.ifCond .eq 14, 3) := by decide +kernel
theorem dX0_canMeet_74 : decode cX0_canMeet 74 = .ok (.aload_n 1, 1) := by decide +kernel
theorem dX0_canMeet_75 : decode cX0_canMeet 75 = .ok (.invokevirtual 114, 3) := by decide +kernel
theorem dX0_canMeet_78 : decode cX0_canMeet 78 = .ok (.ifCond .eq 7, 3) := by decide +kernel
theorem dX0_canMeet_81 : decode cX0_canMeet 81 = .ok (.iconst 1, 1) := by decide +kernel
theorem dX0_canMeet_82 : decode cX0_canMeet 82 = .ok (.goto 4, 3) := by decide +kernel
theorem dX0_canMeet_85 : decode cX0_canMeet 85 = .ok (.iconst 0, 1) := by decide +kernel
theorem dX0_canMeet_86 : decode cX0_canMeet 86 = .ok (.ireturn, 1) := by decide +kernel
theorem dX0_weight_0 : decode cX0_weight 0 = .ok (.aload_n 0, 1) := by decide +kernel
theorem dX0_weight_1 : decode cX0_weight 1 = .ok (.getfield 59, 3) := by decide +kernel
theorem dX0_weight_4 : decode cX0_weight 4 = .ok (.aload_n 0, 1) := by decide +kernel
theorem dX0_weight_5 : decode cX0_weight 5 = .ok (.getfield 62, 3) := by decide +kernel
theorem dX0_weight_8 : decode cX0_weight 8 = .ok (.iadd, 1) := by decide +kernel
theorem dX0_weight_9 : decode cX0_weight 9 = .ok (.ireturn, 1) := by decide +kernel
theorem dX0_apartFromJib_0 : decode cX0_apartFromJib 0 = .ok (.getstatic 97, 3) := by decide +kernel
theorem dX0_apartFromJib_3 : decode cX0_apartFromJib 3 = .ok (.aload_n 0, 1) := by decide +kernel
theorem dX0_apartFromJib_4 : decode cX0_apartFromJib 4 = .ok (.getfield 9, 3) := by decide +kernel
theorem dX0_apartFromJib_7 : decode cX0_apartFromJib 7 = .ok (.bipush 7, 2) := by decide +kernel
theorem dX0_apartFromJib_9 : decode cX0_apartFromJib 9 = .ok (.iand, 1) := by decide +kernel
theorem dX0_apartFromJib_10 : decode cX0_apartFromJib 10 = .ok (.iaload, 1) := by decide +kernel
theorem dX0_apartFromJib_11 : decode cX0_apartFromJib 11 = .ok (.istore_n 3, 1) := by decide +kernel
theorem dX0_apartFromJib_12 : decode cX0_apartFromJib 12 = .ok (.getstatic 101, 3) := by decide +kernel
theorem dX0_apartFromJib_15 : decode cX0_apartFromJib 15 = .ok (.aload_n 0, 1) := by decide +kernel
theorem dX0_apartFromJib_16 : decode cX0_apartFromJib 16 = .ok (.getfield 9, 3) := by decide +kernel
theorem dX0_apartFromJib_19 : decode cX0_apartFromJib 19 = .ok (.bipush 7, 2) := by decide +kernel
theorem dX0_apartFromJib_21 : decode cX0_apartFromJib 21 = .ok (.iand, 1) := by decide +kernel
theorem dX0_apartFromJib_22 : decode cX0_apartFromJib 22 = .ok (.iaload, 1) := by decide +kernel
theorem dX0_apartFromJib_23 : decode cX0_apartFromJib 23 = .ok (.istore 4, 2) := by decide +kernel
theorem dX0_apartFromJib_25 : decode cX0_apartFromJib 25 = .ok (.iload_n 1, 1) := by decide +kernel
theorem dX0_apartFromJib_26 : decode cX0_apartFromJib 26 = .ok (.aload_n 0, 1) := by decide +kernel
theorem dX0_apartFromJib_27 : decode cX0_apartFromJib 27 = .ok (.getfield 50, 3) := by decide +kernel
theorem dX0_apartFromJib_30 : decode cX0_apartFromJib 30 = .ok (.isub, 1) := by decide +kernel
theorem dX0_apartFromJib_31 : decode cX0_apartFromJib 31 = .ok (.istore 5, 2) := by decide +kernel
theorem dX0_apartFromJib_33 : decode cX0_apartFromJib 33 = .ok (.iload_n 2, 1) := by decide +kernel
theorem dX0_apartFromJib_34 : decode cX0_apartFromJib 34 = .ok (.aload_n 0, 1) := by decide +kernel
theorem dX0_apartFromJib_35 : decode cX0_apartFromJib 35 = .ok (.getfield 56, 3) := by decide +kernel
theorem dX0_apartFromJib_38 : decode cX0_apartFromJib 38 = .ok (.isub, 1) := by decide +kernel
theorem dX0_apartFromJib_39 : decode cX0_apartFromJib 39 = .ok (.istore 6, 2) := by decide +kernel
theorem dX0_apartFromJib_41 : decode cX0_apartFromJib 41 = .ok (.iload 5, 2) := by decide +kernel
theorem dX0_apartFromJib_43 : decode cX0_apartFromJib 43 = .ok (.iload_n 3, 1) := by decide +kernel
theorem dX0_apartFromJib_44 : decode cX0_apartFromJib 44 = .ok (.imul, 1) := by decide +kernel
theorem dX0_apartFromJib_45 : decode cX0_apartFromJib 45 = .ok (.iload 6, 2) := by decide +kernel
theorem dX0_apartFromJib_47 : decode cX0_apartFromJib 47 = .ok (.iload 4, 2) := by decide +kernel
theorem dX0_apartFromJib_49 : decode cX0_apartFromJib 49 = .ok (.imul, 1) := by decide +kernel
theorem dX0_apartFromJib_50 : decode cX0_apartFromJib 50 = .ok (.iadd, 1) := by decide +kernel
theorem dX0_apartFromJib_51 : decode cX0_apartFromJib 51 = .ok (.istore 7, 2) := by decide +kernel
theorem dX0_apartFromJib_53 : decode cX0_apartFromJib 53 = .ok (.iload_n 3, 1) := by decide +kernel
theorem dX0_apartFromJib_54 : decode cX0_apartFromJib 54 = .ok (.ifCond .eq 14, 3) := by decide +kernel
theorem dX0_apartFromJib_57 : decode cX0_apartFromJib 57 = .ok (.iload 4, 2) := by decide +kernel
theorem dX0_apartFromJib_59 : decode cX0_apartFromJib 59 = .ok (.ifCond .eq 9, 3) := by decide +kernel
theorem dX0_apartFromJib_62 : decode cX0_apartFromJib 62 = .ok (.iload 7, 2) := by decide +kernel
theorem dX0_apartFromJib_64 : decode cX0_apartFromJib 64 = .ok (.iconst 1, 1) := by decide +kernel
theorem dX0_apartFromJib_65 : decode cX0_apartFromJib 65 = .ok (.ishr, 1) := by decide +kernel
theorem dX0_apartFromJib_66 : decode cX0_apartFromJib 66 = .ok (.istore 7, 2) := by decide +kernel
theorem dX0_apartFromJib_68 : decode cX0_apartFromJib 68 = .ok (.iconst 0, 1) := by decide +kernel
theorem dX0_apartFromJib_69 : decode cX0_apartFromJib 69 = .ok (.iload 7, 2) := by decide +kernel
theorem dX0_apartFromJib_71 : decode cX0_apartFromJib 71 = .ok (.aload_n 0, 1) := by decide +kernel
theorem dX0_apartFromJib_72 : decode cX0_apartFromJib 72 = .ok (.getfield 15, 3) := by decide +kernel
theorem dX0_apartFromJib_75 : decode cX0_apartFromJib 75 = .ok (.invokestatic 85, 3) := by decide +kernel
theorem dX0_apartFromJib_78 : decode cX0_apartFromJib 78 = .ok (.invokestatic 94, 3) := by decide +kernel
theorem dX0_apartFromJib_81 : decode cX0_apartFromJib 81 = .ok (.istore 7, 2) := by decide +kernel
theorem dX0_apartFromJib_83 : decode cX0_apartFromJib 83 = .ok (.iload 5, 2) := by decide +kernel
theorem dX0_apartFromJib_85 : decode cX0_apartFromJib 85 = .ok (.iload 7, 2) := by decide +kernel
theorem dX0_apartFromJib_87 : decode cX0_apartFromJib 87 = .ok (.iload_n 3, 1) := by decide +kernel
theorem dX0_apartFromJib_88 : decode cX0_apartFromJib 88 = .ok (.imul, 1) := by decide +kernel
theorem dX0_apartFromJib_89 : decode cX0_apartFromJib 89 = .ok (.isub, 1) := by decide +kernel
theorem dX0_apartFromJib_90 : decode cX0_apartFromJib 90 = .ok (.invokestatic 121, 3) := by decide +kernel
theorem dX0_apartFromJib_93 : decode cX0_apartFromJib 93 = .ok (.iload 6, 2) := by decide +kernel
theorem dX0_apartFromJib_95 : decode cX0_apartFromJib 95 = .ok (.iload 7, 2) := by decide +kernel
theorem dX0_apartFromJib_97 : decode cX0_apartFromJib 97 = .ok (.iload 4, 2) := by decide +kernel
theorem dX0_apartFromJib_99 : decode cX0_apartFromJib 99 = .ok (.imul, 1) := by decide +kernel
theorem dX0_apartFromJib_100 : decode cX0_apartFromJib 100 = .ok (.isub, 1) := by decide +kernel
theorem dX0_apartFromJib_101 : decode cX0_apartFromJib 101 = .ok (.invokestatic 121, 3) := by decide +kernel
theorem dX0_apartFromJib_104 : decode cX0_apartFromJib 104 = .ok (.invokestatic 94, 3) := by decide +kernel
theorem dX0_apartFromJib_107 : decode cX0_apartFromJib 107 = .ok (.ireturn, 1) := by decide +kernel
theorem dX0_apartFromJibOf_0 : decode cX0_apartFromJibOf 0 = .ok (.sipush 196, 3) := by decide +kernel
theorem dX0_apartFromJibOf_3 : decode cX0_apartFromJibOf 3 = .ok (.istore_n 2, 1) := by decide +kernel
theorem dX0_apartFromJibOf_4 : decode cX0_apartFromJibOf 4 = .ok (.iconst 0, 1) := by decide +kernel
theorem dX0_apartFromJibOf_5 : decode cX0_apartFromJibOf 5 = .ok (.istore_n 3, 1) := by decide +kernel
theorem dX0_apartFromJibOf_6 : decode cX0_apartFromJibOf 6 = .ok (.iload_n 3, 1) := by decide +kernel
theorem dX0_apartFromJibOf_7 : decode cX0_apartFromJibOf 7 = .ok (.aload_n 0, 1) := by decide +kernel
theorem dX0_apartFromJibOf_8 : decode cX0_apartFromJibOf 8 = .ok (.getfield 15, 3) := by decide +kernel
theorem dX0_apartFromJibOf_11 : decode cX0_apartFromJibOf 11 = .ok (.if_icmp .gt 28, 3) := by decide +kernel
theorem dX0_apartFromJibOf_14 : decode cX0_apartFromJibOf 14 = .ok (.iload_n 2, 1) := by decide +kernel
theorem dX0_apartFromJibOf_15 : decode cX0_apartFromJibOf 15 = .ok (.aload_n 1, 1) := by decide +kernel
theorem dX0_apartFromJibOf_16 : decode cX0_apartFromJibOf 16 = .ok (.aload_n 0, 1) := by decide +kernel
theorem dX0_apartFromJibOf_17 : decode cX0_apartFromJibOf 17 = .ok (.iload_n 3, 1) := by decide +kernel
theorem dX0_apartFromJibOf_18 : decode cX0_apartFromJibOf 18 = .ok (.invokevirtual 71, 3) := by decide +kernel
theorem dX0_apartFromJibOf_21 : decode cX0_apartFromJibOf 21 = .ok (.aload_n 0, 1) := by decide +kernel
theorem dX0_apartFromJibOf_22 : decode cX0_apartFromJibOf 22 = .ok (.iload_n 3, 1) := by decide +kernel
theorem dX0_apartFromJibOf_23 : decode cX0_apartFromJibOf 23 = .ok (.invokevirtual 74, 3) := by decide +kernel
theorem dX0_apartFromJibOf_26 : decode cX0_apartFromJibOf 26 = .ok (.invokevirtual 124, 3) := by decide +kernel
theorem dX0_apartFromJibOf_29 : decode cX0_apartFromJibOf 29 = .ok (.invokestatic 85, 3) := by decide +kernel
theorem dX0_apartFromJibOf_32 : decode cX0_apartFromJibOf 32 = .ok (.istore_n 2, 1) := by decide +kernel
theorem dX0_apartFromJibOf_33 : decode cX0_apartFromJibOf 33 = .ok (.iinc 3 1, 3) := by decide +kernel
theorem dX0_apartFromJibOf_36 : decode cX0_apartFromJibOf 36 = .ok (.goto (-30), 3) := by decide +kernel
theorem dX0_apartFromJibOf_39 : decode cX0_apartFromJibOf 39 = .ok (.iload_n 2, 1) := by decide +kernel
theorem dX0_apartFromJibOf_40 : decode cX0_apartFromJibOf 40 = .ok (.ireturn, 1) := by decide +kernel
theorem dX0_clashRule_0 : decode cX0_clashRule 0 = .ok (.aload_n 0, 1) := by decide +kernel
theorem dX0_clashRule_1 : decode cX0_clashRule 1 = .ok (.getfield 59, 3) := by decide +kernel
theorem dX0_clashRule_4 : decode cX0_clashRule 4 = .ok (.aload_n 1, 1) := by decide +kernel
theorem dX0_clashRule_5 : decode cX0_clashRule 5 = .ok (.getfield 59, 3) := by decide +kernel
theorem dX0_clashRule_8 : decode cX0_clashRule 8 = .ok (.if_icmp .gt 7, 3) := by decide +kernel
theorem dX0_clashRule_11 : decode cX0_clashRule 11 = .ok (.aload_n 0, 1) := by decide +kernel
theorem dX0_clashRule_12 : decode cX0_clashRule 12 = .ok (.goto 4, 3) := by decide +kernel
theorem dX0_clashRule_15 : decode cX0_clashRule 15 = .ok (.aload_n 1, 1) := by decide +kernel
theorem dX0_clashRule_16 : decode cX0_clashRule 16 = .ok (.astore_n 3, 1) := by decide +kernel
theorem dX0_clashRule_17 : decode cX0_clashRule 17 = .ok (.aload_n 3, 1) := by decide +kernel
theorem dX0_clashRule_18 : decode cX0_clashRule 18 = .ok (.aload_n 0, 1) := by decide +kernel
theorem dX0_clashRule_19 : decode cX0_clashRule 19 = .ok (.if_acmp .ne 7, 3) := by decide +kernel
theorem dX0_clashRule_22 : decode cX0_clashRule 22 = .ok (.aload_n 1, 1) := by decide +kernel
theorem dX0_clashRule_23 : decode cX0_clashRule 23 = .ok (.goto 4, 3) := by decide +kernel
theorem dX0_clashRule_26 : decode cX0_clashRule 26 = .ok (.aload_n 0, 1) := by decide +kernel
theorem dX0_clashRule_27 : decode cX0_clashRule 27 = .ok (.astore 4, 2) := by decide +kernel
theorem dX0_clashRule_29 : decode cX0_clashRule 29 = .ok (.aload 4, 2) := by decide +kernel
theorem dX0_clashRule_31 : decode cX0_clashRule 31 = .ok (.getfield 59, 3) := by decide +kernel
theorem dX0_clashRule_34 : decode cX0_clashRule 34 = .ok (.aload_n 3, 1) := by decide +kernel
theorem dX0_clashRule_35 : decode cX0_clashRule 35 = .ok (.getfield 59, 3) := by decide +kernel
theorem dX0_clashRule_38 : decode cX0_clashRule 38 = .ok (.isub, 1) := by decide +kernel
theorem dX0_clashRule_39 : decode cX0_clashRule 39 = .ok (.iconst 3, 1) := by decide +kernel
theorem dX0_clashRule_40 : decode cX0_clashRule 40 = .ok (.if_icmp .ge 15, 3) := by decide +kernel
theorem dX0_clashRule_43 : decode cX0_clashRule 43 = .ok (.aload_n 3, 1) := by decide +kernel
theorem dX0_clashRule_44 : decode cX0_clashRule 44 = .ok (.aload 4, 2) := by decide +kernel
theorem dX0_clashRule_46 : decode cX0_clashRule 46 = .ok (.invokevirtual 127, 3) := by decide +kernel
theorem dX0_clashRule_49 : decode cX0_clashRule 49 = .ok (.iload_n 2, 1) := by decide +kernel
theorem dX0_clashRule_50 : decode cX0_clashRule 50 = .ok (.if_icmp .gt 49, 3) := by decide +kernel
theorem dX0_clashRule_53 : decode cX0_clashRule 53 = .ok (.iconst 1, 1) := by decide +kernel
theorem dX0_clashRule_54 : decode cX0_clashRule 54 = .ok (.ireturn, 1) := by decide +kernel
theorem dX0_clashRule_55 : decode cX0_clashRule 55 = .ok (.aload 4, 2) := by decide +kernel
theorem dX0_clashRule_57 : decode cX0_clashRule 57 = .ok (.getfield 68, 3) := by decide +kernel
theorem dX0_clashRule_60 : decode cX0_clashRule 60 = .ok (.aload_n 3, 1) := by decide +kernel
theorem dX0_clashRule_61 : decode cX0_clashRule 61 = .ok (.getfield 59, 3) := by decide +kernel
theorem dX0_clashRule_64 : decode cX0_clashRule 64 = .ok (.iconst 2, 1) := by decide +kernel
theorem dX0_clashRule_65 : decode cX0_clashRule 65 = .ok (.iadd, 1) := by decide +kernel
theorem dX0_clashRule_66 : decode cX0_clashRule 66 = .ok (.if_icmp .ge 33, 3) := by decide +kernel
theorem dX0_clashRule_69 : decode cX0_clashRule 69 = .ok (.aload_n 3, 1) := by decide +kernel
theorem dX0_clashRule_70 : decode cX0_clashRule 70 = .ok (.aload 4, 2) := by decide +kernel
theorem dX0_clashRule_72 : decode cX0_clashRule 72 = .ok (.aload 4, 2) := by decide +kernel
theorem dX0_clashRule_74 : decode cX0_clashRule 74 = .ok (.getfield 18, 3) := by decide +kernel
theorem dX0_clashRule_77 : decode cX0_clashRule 77 = .ok (.invokevirtual 71, 3) := by decide +kernel
theorem dX0_clashRule_80 : decode cX0_clashRule 80 = .ok (.aload 4, 2) := by decide +kernel
theorem dX0_clashRule_82 : decode cX0_clashRule 82 = .ok (.aload 4, 2) := by decide +kernel
theorem dX0_clashRule_84 : decode cX0_clashRule 84 = .ok (.getfield 18, 3) := by decide +kernel
theorem dX0_clashRule_87 : decode cX0_clashRule 87 = .ok (.invokevirtual 74, 3) := by decide +kernel
theorem dX0_clashRule_90 : decode cX0_clashRule 90 = .ok (.invokevirtual 124, 3) := by decide +kernel
theorem dX0_clashRule_93 : decode cX0_clashRule 93 = .ok (.iload_n 2, 1) := by decide +kernel
theorem dX0_clashRule_94 : decode cX0_clashRule 94 = .ok (.if_icmp .gt 5, 3) := by decide +kernel
theorem dX0_clashRule_97 : decode cX0_clashRule 97 = .ok (.iconst 2, 1) := by decide +kernel
theorem dX0_clashRule_98 : decode cX0_clashRule 98 = .ok (.ireturn, 1) := by decide +kernel
theorem dX0_clashRule_99 : decode cX0_clashRule 99 = .ok (.aload_n 0, 1) := by decide +kernel
theorem dX0_clashRule_100 : decode cX0_clashRule 100 = .ok (.aload_n 1, 1) := by decide +kernel
theorem dX0_clashRule_101 : decode cX0_clashRule 101 = .ok (.iload_n 2, 1) := by decide +kernel
theorem dX0_clashRule_102 : decode cX0_clashRule 102 = .ok (.invokevirtual 131, 3) := by decide +kernel
theorem dX0_clashRule_105 : decode cX0_clashRule 105 = .ok (.ifCond .ne 12, 3) := by decide +kernel
theorem dX0_clashRule_108 : decode cX0_clashRule 108 = .ok (.aload_n 1, 1) := by decide +kernel
theorem dX0_clashRule_109 : decode cX0_clashRule 109 = .ok (.aload_n 0, 1) := by decide +kernel
theorem dX0_clashRule_110 : decode cX0_clashRule 110 = .ok (.iload_n 2, 1) := by decide +kernel
theorem dX0_clashRule_111 : decode cX0_clashRule 111 = .ok (.invokevirtual 131, 3) := by decide +kernel
theorem dX0_clashRule_114 : decode cX0_clashRule 114 = .ok (.ifCond .eq 7, 3) := by decide +kernel
theorem dX0_clashRule_117 : decode cX0_clashRule 117 = .ok (.iconst 3, 1) := by decide +kernel
theorem dX0_clashRule_118 : decode cX0_clashRule 118 = .ok (.goto 4, 3) := by decide +kernel
theorem dX0_clashRule_121 : decode cX0_clashRule 121 = .ok (.iconst 0, 1) := by decide +kernel
theorem dX0_clashRule_122 : decode cX0_clashRule 122 = .ok (.ireturn, 1) := by decide +kernel
theorem dX0_sweepsOn_0 : decode cX0_sweepsOn 0 = .ok (.aload_n 1, 1) := by decide +kernel
theorem dX0_sweepsOn_1 : decode cX0_sweepsOn 1 = .ok (.getfield 59, 3) := by decide +kernel
theorem dX0_sweepsOn_4 : decode cX0_sweepsOn 4 = .ok (.aload_n 0, 1) := by decide +kernel
theorem dX0_sweepsOn_5 : decode cX0_sweepsOn 5 = .ok (.getfield 59, 3) := by decide +kernel
theorem dX0_sweepsOn_8 : decode cX0_sweepsOn 8 = .ok (.iconst 3, 1) := by decide +kernel
theorem dX0_sweepsOn_9 : decode cX0_sweepsOn 9 = .ok (.isub, 1) := by decide +kernel
theorem dX0_sweepsOn_10 : decode cX0_sweepsOn 10 = .ok (.if_icmp .le 23, 3) := by decide +kernel
theorem dX0_sweepsOn_13 : decode cX0_sweepsOn 13 = .ok (.aload_n 0, 1) := by decide +kernel
theorem dX0_sweepsOn_14 : decode cX0_sweepsOn 14 = .ok (.aload_n 1, 1) := by decide +kernel
theorem dX0_sweepsOn_15 : decode cX0_sweepsOn 15 = .ok (.getfield 50, 3) := by decide +kernel
theorem dX0_sweepsOn_18 : decode cX0_sweepsOn 18 = .ok (.aload_n 1, 1) := by decide +kernel
theorem dX0_sweepsOn_19 : decode cX0_sweepsOn 19 = .ok (.getfield 56, 3) := by decide +kernel
theorem dX0_sweepsOn_22 : decode cX0_sweepsOn 22 = .ok (.invokevirtual 124, 3) := by decide +kernel
theorem dX0_sweepsOn_25 : decode cX0_sweepsOn 25 = .ok (.iload_n 2, 1) := by decide +kernel
theorem dX0_sweepsOn_26 : decode cX0_sweepsOn 26 = .ok (.if_icmp .gt 7, 3) := by decide +kernel
theorem dX0_sweepsOn_29 : decode cX0_sweepsOn 29 = .ok (.iconst 1, 1) := by decide +kernel
theorem dX0_sweepsOn_30 : decode cX0_sweepsOn 30 = .ok (.goto 4, 3) := by decide +kernel
theorem dX0_sweepsOn_33 : decode cX0_sweepsOn 33 = .ok (.iconst 0, 1) := by decide +kernel
theorem dX0_sweepsOn_34 : decode cX0_sweepsOn 34 = .ok (.ireturn, 1) := by decide +kernel
theorem dX0_isWithinBounds_0 : decode cX0_isWithinBounds 0 = .ok (.aload_n 0, 1) := by decide +kernel
theorem dX0_isWithinBounds_1 : decode cX0_isWithinBounds 1 = .ok (.getfield 18, 3) := by decide +kernel
theorem dX0_isWithinBounds_4 : decode cX0_isWithinBounds 4 = .ok (.iconst 1, 1) := by decide +kernel
theorem dX0_isWithinBounds_5 : decode cX0_isWithinBounds 5 = .ok (.if_icmp .lt 63, 3) := by decide +kernel
theorem dX0_isWithinBounds_8 : decode cX0_isWithinBounds 8 = .ok (.aload_n 0, 1) := by decide +kernel
theorem dX0_isWithinBounds_9 : decode cX0_isWithinBounds 9 = .ok (.getfield 18, 3) := by decide +kernel
theorem dX0_isWithinBounds_12 : decode cX0_isWithinBounds 12 = .ok (.aload_n 0, 1) := by decide +kernel
theorem dX0_isWithinBounds_13 : decode cX0_isWithinBounds 13 = .ok (.getfield 62, 3) := by decide +kernel
theorem dX0_isWithinBounds_16 : decode cX0_isWithinBounds 16 = .ok (.if_icmp .gt 52, 3) := by decide +kernel
theorem dX0_isWithinBounds_19 : decode cX0_isWithinBounds 19 = .ok (.aload_n 0, 1) := by decide +kernel
theorem dX0_isWithinBounds_20 : decode cX0_isWithinBounds 20 = .ok (.getfield 68, 3) := by decide +kernel
theorem dX0_isWithinBounds_23 : decode cX0_isWithinBounds 23 = .ok (.iconst 1, 1) := by decide +kernel
theorem dX0_isWithinBounds_24 : decode cX0_isWithinBounds 24 = .ok (.if_icmp .lt 44, 3) := by decide +kernel
theorem dX0_isWithinBounds_27 : decode cX0_isWithinBounds 27 = .ok (.aload_n 0, 1) := by decide +kernel
theorem dX0_isWithinBounds_28 : decode cX0_isWithinBounds 28 = .ok (.getfield 68, 3) := by decide +kernel
theorem dX0_isWithinBounds_31 : decode cX0_isWithinBounds 31 = .ok (.aload_n 0, 1) := by decide +kernel
theorem dX0_isWithinBounds_32 : decode cX0_isWithinBounds 32 = .ok (.getfield 59, 3) := by decide +kernel
theorem dX0_isWithinBounds_35 : decode cX0_isWithinBounds 35 = .ok (.iconst 1, 1) := by decide +kernel
theorem dX0_isWithinBounds_36 : decode cX0_isWithinBounds 36 = .ok (.isub, 1) := by decide +kernel
theorem dX0_isWithinBounds_37 : decode cX0_isWithinBounds 37 = .ok (.if_icmp .gt 31, 3) := by decide +kernel
theorem dX0_isWithinBounds_40 : decode cX0_isWithinBounds 40 = .ok (.aload_n 0, 1) := by decide +kernel
theorem dX0_isWithinBounds_41 : decode cX0_isWithinBounds 41 = .ok (.getfield 21, 3) := by decide +kernel
theorem dX0_isWithinBounds_44 : decode cX0_isWithinBounds 44 = .ok (.ifCond .lt 24, 3) := by decide +kernel
theorem dX0_isWithinBounds_47 : decode cX0_isWithinBounds 47 = .ok (.aload_n 0, 1) := by decide +kernel
theorem dX0_isWithinBounds_48 : decode cX0_isWithinBounds 48 = .ok (.getfield 21, 3) := by decide +kernel
theorem dX0_isWithinBounds_51 : decode cX0_isWithinBounds 51 = .ok (.bipush 20, 2) := by decide +kernel
theorem dX0_isWithinBounds_53 : decode cX0_isWithinBounds 53 = .ok (.if_icmp .gt 15, 3) := by decide +kernel
theorem dX0_isWithinBounds_56 : decode cX0_isWithinBounds 56 = .ok (.aload_n 0, 1) := by decide +kernel
theorem dX0_isWithinBounds_57 : decode cX0_isWithinBounds 57 = .ok (.invokevirtual 107, 3) := by decide +kernel
theorem dX0_isWithinBounds_60 : decode cX0_isWithinBounds 60 = .ok (.iconst (-1), 1) := by decide +kernel
theorem dX0_isWithinBounds_61 : decode cX0_isWithinBounds 61 = .ok (.if_icmp .eq 7, 3) := by decide +kernel
theorem dX0_isWithinBounds_64 : decode cX0_isWithinBounds 64 = .ok (.iconst 1, 1) := by decide +kernel
theorem dX0_isWithinBounds_65 : decode cX0_isWithinBounds 65 = .ok (.goto 4, 3) := by decide +kernel
theorem dX0_isWithinBounds_68 : decode cX0_isWithinBounds 68 = .ok (.iconst 0, 1) := by decide +kernel
theorem dX0_isWithinBounds_69 : decode cX0_isWithinBounds 69 = .ok (.ireturn, 1) := by decide +kernel
theorem dX1_init_0 : decode cX1_init 0 = .ok (.aload_n 0, 1) := by decide +kernel
theorem dX1_init_1 : decode cX1_init 1 = .ok (.invokespecial 3, 3) := by decide +kernel
theorem dX1_init_4 : decode cX1_init 4 = .ok (.aload_n 0, 1) := by decide +kernel
theorem dX1_init_5 : decode cX1_init 5 = .ok (.sipush 196, 3) := by decide +kernel
theorem dX1_init_8 : decode cX1_init 8 = .ok (.newarray .int, 2) := by decide +kernel
theorem dX1_init_10 : decode cX1_init 10 = .ok (.putfield 9, 3) := by decide +kernel
theorem dX1_init_13 : decode cX1_init 13 = .ok (.aload_n 0, 1) := by decide +kernel
theorem dX1_init_14 : decode cX1_init 14 = .ok (.iconst 0, 1) := by decide +kernel
theorem dX1_init_15 : decode cX1_init 15 = .ok (.putfield 15, 3) := by decide +kernel
theorem dX1_init_18 : decode cX1_init 18 = .ok (.aload_n 0, 1) := by decide +kernel
theorem dX1_init_19 : decode cX1_init 19 = .ok (.iconst 0, 1) := by decide +kernel
theorem dX1_init_20 : decode cX1_init 20 = .ok (.putfield 19, 3) := by decide +kernel
theorem dX1_init_23 : decode cX1_init 23 = .ok (.return_, 1) := by decide +kernel
theorem dX1_lay_0 : decode cX1_lay 0 = .ok (.aload_n 0, 1) := by decide +kernel
theorem dX1_lay_1 : decode cX1_lay 1 = .ok (.iload_n 1, 1) := by decide +kernel
theorem dX1_lay_2 : decode cX1_lay 2 = .ok (.putfield 15, 3) := by decide +kernel
theorem dX1_lay_5 : decode cX1_lay 5 = .ok (.aload_n 0, 1) := by decide +kernel
theorem dX1_lay_6 : decode cX1_lay 6 = .ok (.iload_n 2, 1) := by decide +kernel
theorem dX1_lay_7 : decode cX1_lay 7 = .ok (.putfield 19, 3) := by decide +kernel
theorem dX1_lay_10 : decode cX1_lay 10 = .ok (.aload_n 0, 1) := by decide +kernel
theorem dX1_lay_11 : decode cX1_lay 11 = .ok (.getfield 9, 3) := by decide +kernel
theorem dX1_lay_14 : decode cX1_lay 14 = .ok (.iconst 0, 1) := by decide +kernel
theorem dX1_lay_15 : decode cX1_lay 15 = .ok (.invokestatic 22, 3) := by decide +kernel
theorem dX1_lay_18 : decode cX1_lay 18 = .ok (.return_, 1) := by decide +kernel
theorem dX1_cells_0 : decode cX1_cells 0 = .ok (.aload_n 0, 1) := by decide +kernel
theorem dX1_cells_1 : decode cX1_cells 1 = .ok (.getfield 15, 3) := by decide +kernel
theorem dX1_cells_4 : decode cX1_cells 4 = .ok (.aload_n 0, 1) := by decide +kernel
theorem dX1_cells_5 : decode cX1_cells 5 = .ok (.getfield 19, 3) := by decide +kernel
theorem dX1_cells_8 : decode cX1_cells 8 = .ok (.imul, 1) := by decide +kernel
theorem dX1_cells_9 : decode cX1_cells 9 = .ok (.ireturn, 1) := by decide +kernel
theorem dX1_hasCell_0 : decode cX1_hasCell 0 = .ok (.iload_n 1, 1) := by decide +kernel
theorem dX1_hasCell_1 : decode cX1_hasCell 1 = .ok (.ifCond .lt 15, 3) := by decide +kernel
theorem dX1_hasCell_4 : decode cX1_hasCell 4 = .ok (.iload_n 1, 1) := by decide +kernel
theorem dX1_hasCell_5 : decode cX1_hasCell 5 = .ok (.aload_n 0, 1) := by decide +kernel
theorem dX1_hasCell_6 : decode cX1_hasCell 6 = .ok (.invokevirtual 28, 3) := by decide +kernel
theorem dX1_hasCell_9 : decode cX1_hasCell 9 = .ok (.if_icmp .ge 7, 3) := by decide +kernel
theorem dX1_hasCell_12 : decode cX1_hasCell 12 = .ok (.iconst 1, 1) := by decide +kernel
theorem dX1_hasCell_13 : decode cX1_hasCell 13 = .ok (.goto 4, 3) := by decide +kernel
theorem dX1_hasCell_16 : decode cX1_hasCell 16 = .ok (.iconst 0, 1) := by decide +kernel
theorem dX1_hasCell_17 : decode cX1_hasCell 17 = .ok (.ireturn, 1) := by decide +kernel
theorem dX1_hasPlace_0 : decode cX1_hasPlace 0 = .ok (.iload_n 1, 1) := by decide +kernel
theorem dX1_hasPlace_1 : decode cX1_hasPlace 1 = .ok (.ifCond .lt 27, 3) := by decide +kernel
theorem dX1_hasPlace_4 : decode cX1_hasPlace 4 = .ok (.iload_n 1, 1) := by decide +kernel
theorem dX1_hasPlace_5 : decode cX1_hasPlace 5 = .ok (.aload_n 0, 1) := by decide +kernel
theorem dX1_hasPlace_6 : decode cX1_hasPlace 6 = .ok (.getfield 19, 3) := by decide +kernel
theorem dX1_hasPlace_9 : decode cX1_hasPlace 9 = .ok (.if_icmp .ge 19, 3) := by decide +kernel
theorem dX1_hasPlace_12 : decode cX1_hasPlace 12 = .ok (.iload_n 2, 1) := by decide +kernel
theorem dX1_hasPlace_13 : decode cX1_hasPlace 13 = .ok (.ifCond .lt 15, 3) := by decide +kernel
theorem dX1_hasPlace_16 : decode cX1_hasPlace 16 = .ok (.iload_n 2, 1) := by decide +kernel
theorem dX1_hasPlace_17 : decode cX1_hasPlace 17 = .ok (.aload_n 0, 1) := by decide +kernel
theorem dX1_hasPlace_18 : decode cX1_hasPlace 18 = .ok (.getfield 15, 3) := by decide +kernel
theorem dX1_hasPlace_21 : decode cX1_hasPlace 21 = .ok (.if_icmp .ge 7, 3) := by decide +kernel
theorem dX1_hasPlace_24 : decode cX1_hasPlace 24 = .ok (.iconst 1, 1) := by decide +kernel
theorem dX1_hasPlace_25 : decode cX1_hasPlace 25 = .ok (.goto 4, 3) := by decide +kernel
theorem dX1_hasPlace_28 : decode cX1_hasPlace 28 = .ok (.iconst 0, 1) := by decide +kernel
theorem dX1_hasPlace_29 : decode cX1_hasPlace 29 = .ok (.ireturn, 1) := by decide +kernel
theorem dX1_cellAt_0 : decode cX1_cellAt 0 = .ok (.aload_n 0, 1) := by decide +kernel
theorem dX1_cellAt_1 : decode cX1_cellAt 1 = .ok (.iload_n 1, 1) := by decide +kernel
theorem dX1_cellAt_2 : decode cX1_cellAt 2 = .ok (.iload_n 2, 1) := by decide +kernel
theorem dX1_cellAt_3 : decode cX1_cellAt 3 = .ok (.invokevirtual 32, 3) := by decide +kernel
theorem dX1_cellAt_6 : decode cX1_cellAt 6 = .ok (.ifCond .eq 14, 3) := by decide +kernel
theorem dX1_cellAt_9 : decode cX1_cellAt 9 = .ok (.iload_n 1, 1) := by decide +kernel
theorem dX1_cellAt_10 : decode cX1_cellAt 10 = .ok (.aload_n 0, 1) := by decide +kernel
theorem dX1_cellAt_11 : decode cX1_cellAt 11 = .ok (.getfield 15, 3) := by decide +kernel
theorem dX1_cellAt_14 : decode cX1_cellAt 14 = .ok (.imul, 1) := by decide +kernel
theorem dX1_cellAt_15 : decode cX1_cellAt 15 = .ok (.iload_n 2, 1) := by decide +kernel
theorem dX1_cellAt_16 : decode cX1_cellAt 16 = .ok (.iadd, 1) := by decide +kernel
theorem dX1_cellAt_17 : decode cX1_cellAt 17 = .ok (.goto 4, 3) := by decide +kernel
theorem dX1_cellAt_20 : decode cX1_cellAt 20 = .ok (.iconst (-1), 1) := by decide +kernel
theorem dX1_cellAt_21 : decode cX1_cellAt 21 = .ok (.ireturn, 1) := by decide +kernel
theorem dX1_rowOf_0 : decode cX1_rowOf 0 = .ok (.aload_n 0, 1) := by decide +kernel
theorem dX1_rowOf_1 : decode cX1_rowOf 1 = .ok (.getfield 15, 3) := by decide +kernel
theorem dX1_rowOf_4 : decode cX1_rowOf 4 = .ok (.ifCond .le 12, 3) := by decide +kernel
theorem dX1_rowOf_7 : decode cX1_rowOf 7 = .ok (.iload_n 1, 1) := by decide +kernel
theorem dX1_rowOf_8 : decode cX1_rowOf 8 = .ok (.aload_n 0, 1) := by decide +kernel
theorem dX1_rowOf_9 : decode cX1_rowOf 9 = .ok (.getfield 15, 3) := by decide +kernel
theorem dX1_rowOf_12 : decode cX1_rowOf 12 = .ok (.idiv, 1) := by decide +kernel
theorem dX1_rowOf_13 : decode cX1_rowOf 13 = .ok (.goto 4, 3) := by decide +kernel
theorem dX1_rowOf_16 : decode cX1_rowOf 16 = .ok (.iconst 0, 1) := by decide +kernel
theorem dX1_rowOf_17 : decode cX1_rowOf 17 = .ok (.ireturn, 1) := by decide +kernel
theorem dX1_columnOf_0 : decode cX1_columnOf 0 = .ok (.aload_n 0, 1) := by decide +kernel
theorem dX1_columnOf_1 : decode cX1_columnOf 1 = .ok (.getfield 15, 3) := by decide +kernel
theorem dX1_columnOf_4 : decode cX1_columnOf 4 = .ok (.ifCond .le 12, 3) := by decide +kernel
theorem dX1_columnOf_7 : decode cX1_columnOf 7 = .ok (.iload_n 1, 1) := by decide +kernel
theorem dX1_columnOf_8 : decode cX1_columnOf 8 = .ok (.aload_n 0, 1) := by decide +kernel
theorem dX1_columnOf_9 : decode cX1_columnOf 9 = .ok (.getfield 15, 3) := by decide +kernel
theorem dX1_columnOf_12 : decode cX1_columnOf 12 = .ok (.irem, 1) := by decide +kernel
theorem dX1_columnOf_13 : decode cX1_columnOf 13 = .ok (.goto 4, 3) := by decide +kernel
theorem dX1_columnOf_16 : decode cX1_columnOf 16 = .ok (.iconst 0, 1) := by decide +kernel
theorem dX1_columnOf_17 : decode cX1_columnOf 17 = .ok (.ireturn, 1) := by decide +kernel
theorem dX1_levelOf_0 : decode cX1_levelOf 0 = .ok (.iload_n 1, 1) := by decide +kernel
theorem dX1_levelOf_1 : decode cX1_levelOf 1 = .ok (.ifCond .lt 21, 3) := by decide +kernel
theorem dX1_levelOf_4 : decode cX1_levelOf 4 = .ok (.iload_n 1, 1) := by decide +kernel
theorem dX1_levelOf_5 : decode cX1_levelOf 5 = .ok (.aload_n 0, 1) := by decide +kernel
theorem dX1_levelOf_6 : decode cX1_levelOf 6 = .ok (.getfield 9, 3) := by decide +kernel
theorem dX1_levelOf_9 : decode cX1_levelOf 9 = .ok (.arraylength, 1) := by decide +kernel
theorem dX1_levelOf_10 : decode cX1_levelOf 10 = .ok (.if_icmp .ge 12, 3) := by decide +kernel
theorem dX1_levelOf_13 : decode cX1_levelOf 13 = .ok (.aload_n 0, 1) := by decide +kernel
theorem dX1_levelOf_14 : decode cX1_levelOf 14 = .ok (.getfield 9, 3) := by decide +kernel
theorem dX1_levelOf_17 : decode cX1_levelOf 17 = .ok (.iload_n 1, 1) := by decide +kernel
theorem dX1_levelOf_18 : decode cX1_levelOf 18 = .ok (.iaload, 1) := by decide +kernel
theorem dX1_levelOf_19 : decode cX1_levelOf 19 = .ok (.goto 4, 3) := by decide +kernel
theorem dX1_levelOf_22 : decode cX1_levelOf 22 = .ok (.iconst 0, 1) := by decide +kernel
theorem dX1_levelOf_23 : decode cX1_levelOf 23 = .ok (.ireturn, 1) := by decide +kernel
theorem dX1_build_0 : decode cX1_build 0 = .ok (.iload_n 1, 1) := by decide +kernel
theorem dX1_build_1 : decode cX1_build 1 = .ok (.ifCond .lt 19, 3) := by decide +kernel
theorem dX1_build_4 : decode cX1_build 4 = .ok (.iload_n 1, 1) := by decide +kernel
theorem dX1_build_5 : decode cX1_build 5 = .ok (.aload_n 0, 1) := by decide +kernel
theorem dX1_build_6 : decode cX1_build 6 = .ok (.getfield 9, 3) := by decide +kernel
theorem dX1_build_9 : decode cX1_build 9 = .ok (.arraylength, 1) := by decide +kernel
theorem dX1_build_10 : decode cX1_build 10 = .ok (.if_icmp .ge 10, 3) := by decide +kernel
theorem dX1_build_13 : decode cX1_build 13 = .ok (.aload_n 0, 1) := by decide +kernel
theorem dX1_build_14 : decode cX1_build 14 = .ok (.getfield 9, 3) := by decide +kernel
theorem dX1_build_17 : decode cX1_build 17 = .ok (.iload_n 1, 1) := by decide +kernel
theorem dX1_build_18 : decode cX1_build 18 = .ok (.iload_n 2, 1) := by decide +kernel
theorem dX1_build_19 : decode cX1_build 19 = .ok (.iastore, 1) := by decide +kernel
theorem dX1_build_20 : decode cX1_build 20 = .ok (.return_, 1) := by decide +kernel
theorem dX2_init_0 : decode cX2_init 0 = .ok (.aload_n 0, 1) := by decide +kernel
theorem dX2_init_1 : decode cX2_init 1 = .ok (.invokespecial 1, 3) := by decide +kernel
theorem dX2_init_4 : decode cX2_init 4 = .ok (.aload_n 0, 1) := by decide +kernel
theorem dX2_init_5 : decode cX2_init 5 = .ok (.aconst_null, 1) := by decide +kernel
theorem dX2_init_6 : decode cX2_init 6 = .ok (.putfield 7, 3) := by decide +kernel
theorem dX2_init_9 : decode cX2_init 9 = .ok (.aload_n 0, 1) := by decide +kernel
theorem dX2_init_10 : decode cX2_init 10 = .ok (.iload_n 1, 1) := by decide +kernel
theorem dX2_init_11 : decode cX2_init 11 = .ok (.putfield 13, 3) := by decide +kernel
theorem dX2_init_14 : decode cX2_init 14 = .ok (.aload_n 0, 1) := by decide +kernel
theorem dX2_init_15 : decode cX2_init 15 = .ok (.iload_n 2, 1) := by decide +kernel
theorem dX2_init_16 : decode cX2_init 16 = .ok (.putfield 17, 3) := by decide +kernel
theorem dX2_init_19 : decode cX2_init 19 = .ok (.aload_n 0, 1) := by decide +kernel
theorem dX2_init_20 : decode cX2_init 20 = .ok (.iload_n 3, 1) := by decide +kernel
theorem dX2_init_21 : decode cX2_init 21 = .ok (.putfield 20, 3) := by decide +kernel
theorem dX2_init_24 : decode cX2_init 24 = .ok (.return_, 1) := by decide +kernel
theorem dX2_liesOn_0 : decode cX2_liesOn 0 = .ok (.aload_n 0, 1) := by decide +kernel
theorem dX2_liesOn_1 : decode cX2_liesOn 1 = .ok (.getfield 7, 3) := by decide +kernel
theorem dX2_liesOn_4 : decode cX2_liesOn 4 = .ok (.ifnonnull 15, 3) := by decide +kernel
theorem dX2_liesOn_7 : decode cX2_liesOn 7 = .ok (.aload_n 0, 1) := by decide +kernel
theorem dX2_liesOn_8 : decode cX2_liesOn 8 = .ok (.getfield 17, 3) := by decide +kernel
theorem dX2_liesOn_11 : decode cX2_liesOn 11 = .ok (.iload_n 1, 1) := by decide +kernel
theorem dX2_liesOn_12 : decode cX2_liesOn 12 = .ok (.if_icmp .ne 7, 3) := by decide +kernel
theorem dX2_liesOn_15 : decode cX2_liesOn 15 = .ok (.iconst 1, 1) := by decide +kernel
theorem dX2_liesOn_16 : decode cX2_liesOn 16 = .ok (.goto 4, 3) := by decide +kernel
theorem dX2_liesOn_19 : decode cX2_liesOn 19 = .ok (.iconst 0, 1) := by decide +kernel
theorem dX2_liesOn_20 : decode cX2_liesOn 20 = .ok (.ireturn, 1) := by decide +kernel
theorem dX2_place_0 : decode cX2_place 0 = .ok (.aload_n 0, 1) := by decide +kernel
theorem dX2_place_1 : decode cX2_place 1 = .ok (.getfield 7, 3) := by decide +kernel
theorem dX2_place_4 : decode cX2_place 4 = .ok (.ifnonnull 10, 3) := by decide +kernel
theorem dX2_place_7 : decode cX2_place 7 = .ok (.aload_n 0, 1) := by decide +kernel
theorem dX2_place_8 : decode cX2_place 8 = .ok (.getfield 17, 3) := by decide +kernel
theorem dX2_place_11 : decode cX2_place 11 = .ok (.goto 10, 3) := by decide +kernel
theorem dX2_place_14 : decode cX2_place 14 = .ok (.aload_n 0, 1) := by decide +kernel
theorem dX2_place_15 : decode cX2_place 15 = .ok (.getfield 7, 3) := by decide +kernel
theorem dX2_place_18 : decode cX2_place 18 = .ok (.invokevirtual 23, 3) := by decide +kernel
theorem dX2_place_21 : decode cX2_place 21 = .ok (.ireturn, 1) := by decide +kernel
theorem dX2_hangOn_0 : decode cX2_hangOn 0 = .ok (.aload_n 0, 1) := by decide +kernel
theorem dX2_hangOn_1 : decode cX2_hangOn 1 = .ok (.aload_n 1, 1) := by decide +kernel
theorem dX2_hangOn_2 : decode cX2_hangOn 2 = .ok (.putfield 7, 3) := by decide +kernel
theorem dX2_hangOn_5 : decode cX2_hangOn 5 = .ok (.aload_n 1, 1) := by decide +kernel
theorem dX2_hangOn_6 : decode cX2_hangOn 6 = .ok (.aload_n 0, 1) := by decide +kernel
theorem dX2_hangOn_7 : decode cX2_hangOn 7 = .ok (.putfield 29, 3) := by decide +kernel
theorem dX2_hangOn_10 : decode cX2_hangOn 10 = .ok (.return_, 1) := by decide +kernel
theorem dX2_lieOn_0 : decode cX2_lieOn 0 = .ok (.aload_n 0, 1) := by decide +kernel
theorem dX2_lieOn_1 : decode cX2_lieOn 1 = .ok (.aconst_null, 1) := by decide +kernel
theorem dX2_lieOn_2 : decode cX2_lieOn 2 = .ok (.putfield 7, 3) := by decide +kernel
theorem dX2_lieOn_5 : decode cX2_lieOn 5 = .ok (.aload_n 0, 1) := by decide +kernel
theorem dX2_lieOn_6 : decode cX2_lieOn 6 = .ok (.iload_n 1, 1) := by decide +kernel
theorem dX2_lieOn_7 : decode cX2_lieOn 7 = .ok (.putfield 17, 3) := by decide +kernel
theorem dX2_lieOn_10 : decode cX2_lieOn 10 = .ok (.return_, 1) := by decide +kernel
theorem dX3_init_0 : decode cX3_init 0 = .ok (.aload_n 0, 1) := by decide +kernel
theorem dX3_init_1 : decode cX3_init 1 = .ok (.invokespecial 3, 3) := by decide +kernel
theorem dX3_init_4 : decode cX3_init 4 = .ok (.aload_n 0, 1) := by decide +kernel
theorem dX3_init_5 : decode cX3_init 5 = .ok (.sipush 196, 3) := by decide +kernel
theorem dX3_init_8 : decode cX3_init 8 = .ok (.newarray .int, 2) := by decide +kernel
theorem dX3_init_10 : decode cX3_init 10 = .ok (.putfield 9, 3) := by decide +kernel
theorem dX3_init_13 : decode cX3_init 13 = .ok (.aload_n 0, 1) := by decide +kernel
theorem dX3_init_14 : decode cX3_init 14 = .ok (.bipush 72, 2) := by decide +kernel
theorem dX3_init_16 : decode cX3_init 16 = .ok (.newarray .int, 2) := by decide +kernel
theorem dX3_init_18 : decode cX3_init 18 = .ok (.putfield 15, 3) := by decide +kernel
theorem dX3_init_21 : decode cX3_init 21 = .ok (.aload_n 0, 1) := by decide +kernel
theorem dX3_init_22 : decode cX3_init 22 = .ok (.iconst 4, 1) := by decide +kernel
theorem dX3_init_23 : decode cX3_init 23 = .ok (.newarray .int, 2) := by decide +kernel
theorem dX3_init_25 : decode cX3_init 25 = .ok (.putfield 18, 3) := by decide +kernel
theorem dX3_init_28 : decode cX3_init 28 = .ok (.aload_n 0, 1) := by decide +kernel
theorem dX3_init_29 : decode cX3_init 29 = .ok (.iconst 4, 1) := by decide +kernel
theorem dX3_init_30 : decode cX3_init 30 = .ok (.newarray .int, 2) := by decide +kernel
theorem dX3_init_32 : decode cX3_init 32 = .ok (.putfield 21, 3) := by decide +kernel
theorem dX3_init_35 : decode cX3_init 35 = .ok (.aload_n 0, 1) := by decide +kernel
theorem dX3_init_36 : decode cX3_init 36 = .ok (.aload_n 1, 1) := by decide +kernel
theorem dX3_init_37 : decode cX3_init 37 = .ok (.putfield 24, 3) := by decide +kernel
theorem dX3_init_40 : decode cX3_init 40 = .ok (.aload_n 0, 1) := by decide +kernel
theorem dX3_init_41 : decode cX3_init 41 = .ok (.aload_n 1, 1) := by decide +kernel
theorem dX3_init_42 : decode cX3_init 42 = .ok (.getfield 28, 3) := by decide +kernel
theorem dX3_init_45 : decode cX3_init 45 = .ok (.putfield 34, 3) := by decide +kernel
theorem dX3_init_48 : decode cX3_init 48 = .ok (.return_, 1) := by decide +kernel
theorem dX3_explore_0 : decode cX3_explore 0 = .ok (.aload_n 0, 1) := by decide +kernel
theorem dX3_explore_1 : decode cX3_explore 1 = .ok (.getfield 9, 3) := by decide +kernel
theorem dX3_explore_4 : decode cX3_explore 4 = .ok (.iconst (-1), 1) := by decide +kernel
theorem dX3_explore_5 : decode cX3_explore 5 = .ok (.invokestatic 35, 3) := by decide +kernel
theorem dX3_explore_8 : decode cX3_explore 8 = .ok (.aload_n 1, 1) := by decide +kernel
theorem dX3_explore_9 : decode cX3_explore 9 = .ok (.invokevirtual 41, 3) := by decide +kernel
theorem dX3_explore_12 : decode cX3_explore 12 = .ok (.istore_n 2, 1) := by decide +kernel
theorem dX3_explore_13 : decode cX3_explore 13 = .ok (.iload_n 2, 1) := by decide +kernel
theorem dX3_explore_14 : decode cX3_explore 14 = .ok (.ifCond .lt 12, 3) := by decide +kernel
theorem dX3_explore_17 : decode cX3_explore 17 = .ok (.iload_n 2, 1) := by decide +kernel
theorem dX3_explore_18 : decode cX3_explore 18 = .ok (.aload_n 0, 1) := by decide +kernel
theorem dX3_explore_19 : decode cX3_explore 19 = .ok (.getfield 9, 3) := by decide +kernel
theorem dX3_explore_22 : decode cX3_explore 22 = .ok (.arraylength, 1) := by decide +kernel
theorem dX3_explore_23 : decode cX3_explore 23 = .ok (.if_icmp .lt 5, 3) := by decide +kernel
theorem dX3_explore_26 : decode cX3_explore 26 = .ok (.iconst 0, 1) := by decide +kernel
theorem dX3_explore_27 : decode cX3_explore 27 = .ok (.ireturn, 1) := by decide +kernel
theorem dX3_explore_28 : decode cX3_explore 28 = .ok (.aload_n 0, 1) := by decide +kernel
theorem dX3_explore_29 : decode cX3_explore 29 = .ok (.getfield 24, 3) := by decide +kernel
theorem dX3_explore_32 : decode cX3_explore 32 = .ok (.aload_n 1, 1) := by decide +kernel
theorem dX3_explore_33 : decode cX3_explore 33 = .ok (.invokevirtual 47, 3) := by decide +kernel
theorem dX3_explore_36 : decode cX3_explore 36 = .ok (.istore_n 3, 1) := by decide +kernel
theorem dX3_explore_37 : decode cX3_explore 37 = .ok (.aload_n 0, 1) := by decide +kernel
theorem dX3_explore_38 : decode cX3_explore 38 = .ok (.getfield 34, 3) := by decide +kernel
theorem dX3_explore_41 : decode cX3_explore 41 = .ok (.aload_n 1, 1) := by decide +kernel
theorem dX3_explore_42 : decode cX3_explore 42 = .ok (.invokevirtual 51, 3) := by decide +kernel
theorem dX3_explore_45 : decode cX3_explore 45 = .ok (.aload_n 0, 1) := by decide +kernel
theorem dX3_explore_46 : decode cX3_explore 46 = .ok (.getfield 9, 3) := by decide +kernel
theorem dX3_explore_49 : decode cX3_explore 49 = .ok (.iload_n 2, 1) := by decide +kernel
theorem dX3_explore_50 : decode cX3_explore 50 = .ok (.iconst 0, 1) := by decide +kernel
theorem dX3_explore_51 : decode cX3_explore 51 = .ok (.iastore, 1) := by decide +kernel
theorem dX3_explore_52 : decode cX3_explore 52 = .ok (.aload_n 0, 1) := by decide +kernel
theorem dX3_explore_53 : decode cX3_explore 53 = .ok (.getfield 15, 3) := by decide +kernel
theorem dX3_explore_56 : decode cX3_explore 56 = .ok (.iconst 0, 1) := by decide +kernel
theorem dX3_explore_57 : decode cX3_explore 57 = .ok (.aload_n 1, 1) := by decide +kernel
theorem dX3_explore_58 : decode cX3_explore 58 = .ok (.invokestatic 55, 3) := by decide +kernel
theorem dX3_explore_61 : decode cX3_explore 61 = .ok (.iastore, 1) := by decide +kernel
theorem dX3_explore_62 : decode cX3_explore 62 = .ok (.iconst 1, 1) := by decide +kernel
theorem dX3_explore_63 : decode cX3_explore 63 = .ok (.istore 4, 2) := by decide +kernel
theorem dX3_explore_65 : decode cX3_explore 65 = .ok (.iconst 0, 1) := by decide +kernel
theorem dX3_explore_66 : decode cX3_explore 66 = .ok (.istore 5, 2) := by decide +kernel
theorem dX3_explore_68 : decode cX3_explore 68 = .ok (.iload 5, 2) := by decide +kernel
theorem dX3_explore_70 : decode cX3_explore 70 = .ok (.iload 4, 2) := by decide +kernel
theorem dX3_explore_72 : decode cX3_explore 72 = .ok (.if_icmp .ge 187, 3) := by decide +kernel
theorem dX3_explore_75 : decode cX3_explore 75 = .ok (.iload 5, 2) := by decide +kernel
theorem dX3_explore_77 : decode cX3_explore 77 = .ok (.aload_n 0, 1) := by decide +kernel
theorem dX3_explore_78 : decode cX3_explore 78 = .ok (.getfield 15, 3) := by decide +kernel
theorem dX3_explore_81 : decode cX3_explore 81 = .ok (.arraylength, 1) := by decide +kernel
theorem dX3_explore_82 : decode cX3_explore 82 = .ok (.if_icmp .ge 177, 3) := by decide +kernel
theorem dX3_explore_85 : decode cX3_explore 85 = .ok (.iconst 0, 1) := by decide +kernel
theorem dX3_explore_86 : decode cX3_explore 86 = .ok (.istore 6, 2) := by decide +kernel
theorem dX3_explore_88 : decode cX3_explore 88 = .ok (.iload 6, 2) := by decide +kernel
theorem dX3_explore_90 : decode cX3_explore 90 = .ok (.iconst 3, 1) := by decide +kernel
theorem dX3_explore_91 : decode cX3_explore 91 = .ok (.if_icmp .gt 162, 3) := by decide +kernel
theorem dX3_explore_94 : decode cX3_explore 94 = .ok (.aload_n 0, 1) := by decide +kernel
theorem dX3_explore_95 : decode cX3_explore 95 = .ok (.aload_n 0, 1) := by decide +kernel
theorem dX3_explore_96 : decode cX3_explore 96 = .ok (.getfield 15, 3) := by decide +kernel
theorem dX3_explore_99 : decode cX3_explore 99 = .ok (.iload 5, 2) := by decide +kernel
theorem dX3_explore_101 : decode cX3_explore 101 = .ok (.iaload, 1) := by decide +kernel
theorem dX3_explore_102 : decode cX3_explore 102 = .ok (.invokevirtual 58, 3) := by decide +kernel
theorem dX3_explore_105 : decode cX3_explore 105 = .ok (.aload_n 0, 1) := by decide +kernel
theorem dX3_explore_106 : decode cX3_explore 106 = .ok (.getfield 34, 3) := by decide +kernel
theorem dX3_explore_109 : decode cX3_explore 109 = .ok (.invokevirtual 41, 3) := by decide +kernel
theorem dX3_explore_112 : decode cX3_explore 112 = .ok (.istore 7, 2) := by decide +kernel
theorem dX3_explore_114 : decode cX3_explore 114 = .ok (.aload_n 0, 1) := by decide +kernel
theorem dX3_explore_115 : decode cX3_explore 115 = .ok (.getfield 34, 3) := by decide +kernel
theorem dX3_explore_118 : decode cX3_explore 118 = .ok (.iload 6, 2) := by decide +kernel
theorem dX3_explore_120 : decode cX3_explore 120 = .ok (.invokevirtual 62, 3) := by decide +kernel
theorem dX3_explore_123 : decode cX3_explore 123 = .ok (.aload_n 0, 1) := by decide +kernel
theorem dX3_explore_124 : decode cX3_explore 124 = .ok (.getfield 34, 3) := by decide +kernel
theorem dX3_explore_127 : decode cX3_explore 127 = .ok (.invokevirtual 41, 3) := by decide +kernel
theorem dX3_explore_130 : decode cX3_explore 130 = .ok (.istore 8, 2) := by decide +kernel
theorem dX3_explore_132 : decode cX3_explore 132 = .ok (.iload 7, 2) := by decide +kernel
theorem dX3_explore_134 : decode cX3_explore 134 = .ok (.ifCond .lt 113, 3) := by decide +kernel
theorem dX3_explore_137 : decode cX3_explore 137 = .ok (.iload 7, 2) := by decide +kernel
theorem dX3_explore_139 : decode cX3_explore 139 = .ok (.aload_n 0, 1) := by decide +kernel
theorem dX3_explore_140 : decode cX3_explore 140 = .ok (.getfield 9, 3) := by decide +kernel
theorem dX3_explore_143 : decode cX3_explore 143 = .ok (.arraylength, 1) := by decide +kernel
theorem dX3_explore_144 : decode cX3_explore 144 = .ok (.if_icmp .ge 103, 3) := by decide +kernel
theorem dX3_explore_147 : decode cX3_explore 147 = .ok (.iload 8, 2) := by decide +kernel
theorem dX3_explore_149 : decode cX3_explore 149 = .ok (.ifCond .lt 98, 3) := by decide +kernel
theorem dX3_explore_152 : decode cX3_explore 152 = .ok (.iload 8, 2) := by decide +kernel
theorem dX3_explore_154 : decode cX3_explore 154 = .ok (.aload_n 0, 1) := by decide +kernel
theorem dX3_explore_155 : decode cX3_explore 155 = .ok (.getfield 9, 3) := by decide +kernel
theorem dX3_explore_158 : decode cX3_explore 158 = .ok (.arraylength, 1) := by decide +kernel
theorem dX3_explore_159 : decode cX3_explore 159 = .ok (.if_icmp .ge 88, 3) := by decide +kernel
theorem dX3_explore_162 : decode cX3_explore 162 = .ok (.aload_n 0, 1) := by decide +kernel
theorem dX3_explore_163 : decode cX3_explore 163 = .ok (.getfield 9, 3) := by decide +kernel
theorem dX3_explore_166 : decode cX3_explore 166 = .ok (.iload 8, 2) := by decide +kernel
theorem dX3_explore_168 : decode cX3_explore 168 = .ok (.iaload, 1) := by decide +kernel
theorem dX3_explore_169 : decode cX3_explore 169 = .ok (.iconst (-1), 1) := by decide +kernel
theorem dX3_explore_170 : decode cX3_explore 170 = .ok (.if_icmp .eq 6, 3) := by decide +kernel
theorem dX3_explore_173 : decode cX3_explore 173 = .ok (.goto 74, 3) := by decide +kernel
theorem dX3_explore_176 : decode cX3_explore 176 = .ok (.iload 4, 2) := by decide +kernel
theorem dX3_explore_178 : decode cX3_explore 178 = .ok (.aload_n 0, 1) := by decide +kernel
theorem dX3_explore_179 : decode cX3_explore 179 = .ok (.getfield 15, 3) := by decide +kernel
theorem dX3_explore_182 : decode cX3_explore 182 = .ok (.arraylength, 1) := by decide +kernel
theorem dX3_explore_183 : decode cX3_explore 183 = .ok (.if_icmp .ge 19, 3) := by decide +kernel
theorem dX3_explore_186 : decode cX3_explore 186 = .ok (.aload_n 0, 1) := by decide +kernel
theorem dX3_explore_187 : decode cX3_explore 187 = .ok (.getfield 24, 3) := by decide +kernel
theorem dX3_explore_190 : decode cX3_explore 190 = .ok (.aload_n 0, 1) := by decide +kernel
theorem dX3_explore_191 : decode cX3_explore 191 = .ok (.getfield 34, 3) := by decide +kernel
theorem dX3_explore_194 : decode cX3_explore 194 = .ok (.iconst 1, 1) := by decide +kernel
theorem dX3_explore_195 : decode cX3_explore 195 = .ok (.iload_n 3, 1) := by decide +kernel
theorem dX3_explore_196 : decode cX3_explore 196 = .ok (.invokevirtual 65, 3) := by decide +kernel
theorem dX3_explore_199 : decode cX3_explore 199 = .ok (.ifCond .eq 15, 3) := by decide +kernel
theorem dX3_explore_202 : decode cX3_explore 202 = .ok (.aload_n 0, 1) := by decide +kernel
theorem dX3_explore_203 : decode cX3_explore 203 = .ok (.getfield 9, 3) := by decide +kernel
theorem dX3_explore_206 : decode cX3_explore 206 = .ok (.iload 8, 2) := by decide +kernel
theorem dX3_explore_208 : decode cX3_explore 208 = .ok (.bipush (-2), 2) := by decide +kernel
theorem dX3_explore_210 : decode cX3_explore 210 = .ok (.iastore, 1) := by decide +kernel
theorem dX3_explore_211 : decode cX3_explore 211 = .ok (.goto 36, 3) := by decide +kernel
theorem dX3_explore_214 : decode cX3_explore 214 = .ok (.aload_n 0, 1) := by decide +kernel
theorem dX3_explore_215 : decode cX3_explore 215 = .ok (.getfield 9, 3) := by decide +kernel
theorem dX3_explore_218 : decode cX3_explore 218 = .ok (.iload 8, 2) := by decide +kernel
theorem dX3_explore_220 : decode cX3_explore 220 = .ok (.aload_n 0, 1) := by decide +kernel
theorem dX3_explore_221 : decode cX3_explore 221 = .ok (.getfield 9, 3) := by decide +kernel
theorem dX3_explore_224 : decode cX3_explore 224 = .ok (.iload 7, 2) := by decide +kernel
theorem dX3_explore_226 : decode cX3_explore 226 = .ok (.iaload, 1) := by decide +kernel
theorem dX3_explore_227 : decode cX3_explore 227 = .ok (.iconst 1, 1) := by decide +kernel
theorem dX3_explore_228 : decode cX3_explore 228 = .ok (.iadd, 1) := by decide +kernel
theorem dX3_explore_229 : decode cX3_explore 229 = .ok (.iastore, 1) := by decide +kernel
theorem dX3_explore_230 : decode cX3_explore 230 = .ok (.aload_n 0, 1) := by decide +kernel
theorem dX3_explore_231 : decode cX3_explore 231 = .ok (.getfield 15, 3) := by decide +kernel
theorem dX3_explore_234 : decode cX3_explore 234 = .ok (.iload 4, 2) := by decide +kernel
theorem dX3_explore_236 : decode cX3_explore 236 = .ok (.aload_n 0, 1) := by decide +kernel
theorem dX3_explore_237 : decode cX3_explore 237 = .ok (.getfield 34, 3) := by decide +kernel
theorem dX3_explore_240 : decode cX3_explore 240 = .ok (.invokestatic 55, 3) := by decide +kernel
theorem dX3_explore_243 : decode cX3_explore 243 = .ok (.iastore, 1) := by decide +kernel
theorem dX3_explore_244 : decode cX3_explore 244 = .ok (.iinc 4 1, 3) := by decide +kernel
theorem dX3_explore_247 : decode cX3_explore 247 = .ok (.iinc 6 1, 3) := by decide +kernel
theorem dX3_explore_250 : decode cX3_explore 250 = .ok (.goto (-162), 3) := by decide +kernel
theorem dX3_explore_253 : decode cX3_explore 253 = .ok (.iinc 5 1, 3) := by decide +kernel
theorem dX3_explore_256 : decode cX3_explore 256 = .ok (.goto (-188), 3) := by decide +kernel
theorem dX3_explore_259 : decode cX3_explore 259 = .ok (.iload 4, 2) := by decide +kernel
theorem dX3_explore_261 : decode cX3_explore 261 = .ok (.ireturn, 1) := by decide +kernel
theorem dX3_poseOf_0 : decode cX3_poseOf 0 = .ok (.aload_n 0, 1) := by decide +kernel
theorem dX3_poseOf_1 : decode cX3_poseOf 1 = .ok (.getfield 69, 3) := by decide +kernel
theorem dX3_poseOf_4 : decode cX3_poseOf 4 = .ok (.bipush 10, 2) := by decide +kernel
theorem dX3_poseOf_6 : decode cX3_poseOf 6 = .ok (.imul, 1) := by decide +kernel
theorem dX3_poseOf_7 : decode cX3_poseOf 7 = .ok (.aload_n 0, 1) := by decide +kernel
theorem dX3_poseOf_8 : decode cX3_poseOf 8 = .ok (.getfield 73, 3) := by decide +kernel
theorem dX3_poseOf_11 : decode cX3_poseOf 11 = .ok (.iadd, 1) := by decide +kernel
theorem dX3_poseOf_12 : decode cX3_poseOf 12 = .ok (.ireturn, 1) := by decide +kernel
theorem dX3_assume_0 : decode cX3_assume 0 = .ok (.aload_n 0, 1) := by decide +kernel
theorem dX3_assume_1 : decode cX3_assume 1 = .ok (.getfield 34, 3) := by decide +kernel
theorem dX3_assume_4 : decode cX3_assume 4 = .ok (.iload_n 1, 1) := by decide +kernel
theorem dX3_assume_5 : decode cX3_assume 5 = .ok (.bipush 10, 2) := by decide +kernel
theorem dX3_assume_7 : decode cX3_assume 7 = .ok (.idiv, 1) := by decide +kernel
theorem dX3_assume_8 : decode cX3_assume 8 = .ok (.invokevirtual 76, 3) := by decide +kernel
theorem dX3_assume_11 : decode cX3_assume 11 = .ok (.aload_n 0, 1) := by decide +kernel
theorem dX3_assume_12 : decode cX3_assume 12 = .ok (.getfield 34, 3) := by decide +kernel
theorem dX3_assume_15 : decode cX3_assume 15 = .ok (.iload_n 1, 1) := by decide +kernel
theorem dX3_assume_16 : decode cX3_assume 16 = .ok (.bipush 10, 2) := by decide +kernel
theorem dX3_assume_18 : decode cX3_assume 18 = .ok (.irem, 1) := by decide +kernel
theorem dX3_assume_19 : decode cX3_assume 19 = .ok (.putfield 73, 3) := by decide +kernel
theorem dX3_assume_22 : decode cX3_assume 22 = .ok (.return_, 1) := by decide +kernel
theorem dX3_stepsTo_0 : decode cX3_stepsTo 0 = .ok (.iload_n 1, 1) := by decide +kernel
theorem dX3_stepsTo_1 : decode cX3_stepsTo 1 = .ok (.ifCond .lt 25, 3) := by decide +kernel
theorem dX3_stepsTo_4 : decode cX3_stepsTo 4 = .ok (.iload_n 1, 1) := by decide +kernel
theorem dX3_stepsTo_5 : decode cX3_stepsTo 5 = .ok (.aload_n 0, 1) := by decide +kernel
theorem dX3_stepsTo_6 : decode cX3_stepsTo 6 = .ok (.getfield 9, 3) := by decide +kernel
theorem dX3_stepsTo_9 : decode cX3_stepsTo 9 = .ok (.arraylength, 1) := by decide +kernel
theorem dX3_stepsTo_10 : decode cX3_stepsTo 10 = .ok (.if_icmp .ge 16, 3) := by decide +kernel
theorem dX3_stepsTo_13 : decode cX3_stepsTo 13 = .ok (.aload_n 0, 1) := by decide +kernel
theorem dX3_stepsTo_14 : decode cX3_stepsTo 14 = .ok (.getfield 9, 3) := by decide +kernel
theorem dX3_stepsTo_17 : decode cX3_stepsTo 17 = .ok (.iload_n 1, 1) := by decide +kernel
theorem dX3_stepsTo_18 : decode cX3_stepsTo 18 = .ok (.iaload, 1) := by decide +kernel
theorem dX3_stepsTo_19 : decode cX3_stepsTo 19 = .ok (.ifCond .lt 7, 3) := by decide +kernel
theorem dX3_stepsTo_22 : decode cX3_stepsTo 22 = .ok (.iconst 1, 1) := by decide +kernel
theorem dX3_stepsTo_23 : decode cX3_stepsTo 23 = .ok (.goto 4, 3) := by decide +kernel
theorem dX3_stepsTo_26 : decode cX3_stepsTo 26 = .ok (.iconst 0, 1) := by decide +kernel
theorem dX3_stepsTo_27 : decode cX3_stepsTo 27 = .ok (.istore_n 2, 1) := by decide +kernel
theorem dX3_stepsTo_28 : decode cX3_stepsTo 28 = .ok (.iload_n 2, 1) := by decide +kernel
theorem dX3_stepsTo_29 : decode cX3_stepsTo 29 = .ok (.ifCond .eq 12, 3) := by decide +kernel
theorem dX3_stepsTo_32 : decode cX3_stepsTo 32 = .ok (.aload_n 0, 1) := by decide +kernel
theorem dX3_stepsTo_33 : decode cX3_stepsTo 33 = .ok (.getfield 9, 3) := by decide +kernel
theorem dX3_stepsTo_36 : decode cX3_stepsTo 36 = .ok (.iload_n 1, 1) := by decide +kernel
theorem dX3_stepsTo_37 : decode cX3_stepsTo 37 = .ok (.iaload, 1) := by decide +kernel
theorem dX3_stepsTo_38 : decode cX3_stepsTo 38 = .ok (.goto 4, 3) := by decide +kernel
theorem dX3_stepsTo_41 : decode cX3_stepsTo 41 = .ok (.iconst (-1), 1) := by decide +kernel
theorem dX3_stepsTo_42 : decode cX3_stepsTo 42 = .ok (.ireturn, 1) := by decide +kernel
theorem dX3_swings_0 : decode cX3_swings 0 = .ok (.aload_n 0, 1) := by decide +kernel
theorem dX3_swings_1 : decode cX3_swings 1 = .ok (.getfield 24, 3) := by decide +kernel
theorem dX3_swings_4 : decode cX3_swings 4 = .ok (.aload_n 1, 1) := by decide +kernel
theorem dX3_swings_5 : decode cX3_swings 5 = .ok (.invokevirtual 47, 3) := by decide +kernel
theorem dX3_swings_8 : decode cX3_swings 8 = .ok (.istore_n 3, 1) := by decide +kernel
theorem dX3_swings_9 : decode cX3_swings 9 = .ok (.aload_n 0, 1) := by decide +kernel
theorem dX3_swings_10 : decode cX3_swings 10 = .ok (.getfield 34, 3) := by decide +kernel
theorem dX3_swings_13 : decode cX3_swings 13 = .ok (.aload_n 1, 1) := by decide +kernel
theorem dX3_swings_14 : decode cX3_swings 14 = .ok (.invokevirtual 51, 3) := by decide +kernel
theorem dX3_swings_17 : decode cX3_swings 17 = .ok (.iconst 0, 1) := by decide +kernel
theorem dX3_swings_18 : decode cX3_swings 18 = .ok (.istore 4, 2) := by decide +kernel
theorem dX3_swings_20 : decode cX3_swings 20 = .ok (.iload 4, 2) := by decide +kernel
theorem dX3_swings_22 : decode cX3_swings 22 = .ok (.bipush 7, 2) := by decide +kernel
theorem dX3_swings_24 : decode cX3_swings 24 = .ok (.if_icmp .ge 36, 3) := by decide +kernel
theorem dX3_swings_27 : decode cX3_swings 27 = .ok (.aload_n 0, 1) := by decide +kernel
theorem dX3_swings_28 : decode cX3_swings 28 = .ok (.getfield 34, 3) := by decide +kernel
theorem dX3_swings_31 : decode cX3_swings 31 = .ok (.iload_n 2, 1) := by decide +kernel
theorem dX3_swings_32 : decode cX3_swings 32 = .ok (.invokevirtual 62, 3) := by decide +kernel
theorem dX3_swings_35 : decode cX3_swings 35 = .ok (.aload_n 0, 1) := by decide +kernel
theorem dX3_swings_36 : decode cX3_swings 36 = .ok (.getfield 24, 3) := by decide +kernel
theorem dX3_swings_39 : decode cX3_swings 39 = .ok (.aload_n 0, 1) := by decide +kernel
theorem dX3_swings_40 : decode cX3_swings 40 = .ok (.getfield 34, 3) := by decide +kernel
theorem dX3_swings_43 : decode cX3_swings 43 = .ok (.iconst 1, 1) := by decide +kernel
theorem dX3_swings_44 : decode cX3_swings 44 = .ok (.iload_n 3, 1) := by decide +kernel
theorem dX3_swings_45 : decode cX3_swings 45 = .ok (.invokevirtual 65, 3) := by decide +kernel
theorem dX3_swings_48 : decode cX3_swings 48 = .ok (.ifCond .eq 6, 3) := by decide +kernel
theorem dX3_swings_51 : decode cX3_swings 51 = .ok (.iload 4, 2) := by decide +kernel
theorem dX3_swings_53 : decode cX3_swings 53 = .ok (.ireturn, 1) := by decide +kernel
theorem dX3_swings_54 : decode cX3_swings 54 = .ok (.iinc 4 1, 3) := by decide +kernel
theorem dX3_swings_57 : decode cX3_swings 57 = .ok (.goto (-37), 3) := by decide +kernel
theorem dX3_swings_60 : decode cX3_swings 60 = .ok (.bipush 7, 2) := by decide +kernel
theorem dX3_swings_62 : decode cX3_swings 62 = .ok (.ireturn, 1) := by decide +kernel
theorem dX3_liftersFrom_0 : decode cX3_liftersFrom 0 = .ok (.iconst 0, 1) := by decide +kernel
theorem dX3_liftersFrom_1 : decode cX3_liftersFrom 1 = .ok (.istore_n 3, 1) := by decide +kernel
theorem dX3_liftersFrom_2 : decode cX3_liftersFrom 2 = .ok (.iconst 0, 1) := by decide +kernel
theorem dX3_liftersFrom_3 : decode cX3_liftersFrom 3 = .ok (.istore 4, 2) := by decide +kernel
theorem dX3_liftersFrom_5 : decode cX3_liftersFrom 5 = .ok (.iload 4, 2) := by decide +kernel
theorem dX3_liftersFrom_7 : decode cX3_liftersFrom 7 = .ok (.aload_n 0, 1) := by decide +kernel
theorem dX3_liftersFrom_8 : decode cX3_liftersFrom 8 = .ok (.getfield 24, 3) := by decide +kernel
theorem dX3_liftersFrom_11 : decode cX3_liftersFrom 11 = .ok (.getfield 79, 3) := by decide +kernel
theorem dX3_liftersFrom_14 : decode cX3_liftersFrom 14 = .ok (.invokevirtual 83, 3) := by decide +kernel
theorem dX3_liftersFrom_17 : decode cX3_liftersFrom 17 = .ok (.if_icmp .ge 40, 3) := by decide +kernel
theorem dX3_liftersFrom_20 : decode cX3_liftersFrom 20 = .ok (.aload_n 0, 1) := by decide +kernel
theorem dX3_liftersFrom_21 : decode cX3_liftersFrom 21 = .ok (.aload_n 0, 1) := by decide +kernel
theorem dX3_liftersFrom_22 : decode cX3_liftersFrom 22 = .ok (.getfield 24, 3) := by decide +kernel
theorem dX3_liftersFrom_25 : decode cX3_liftersFrom 25 = .ok (.getfield 79, 3) := by decide +kernel
theorem dX3_liftersFrom_28 : decode cX3_liftersFrom 28 = .ok (.iload 4, 2) := by decide +kernel
theorem dX3_liftersFrom_30 : decode cX3_liftersFrom 30 = .ok (.invokevirtual 88, 3) := by decide +kernel
theorem dX3_liftersFrom_33 : decode cX3_liftersFrom 33 = .ok (.checkcast 42, 3) := by decide +kernel
theorem dX3_liftersFrom_36 : decode cX3_liftersFrom 36 = .ok (.iload_n 1, 1) := by decide +kernel
theorem dX3_liftersFrom_37 : decode cX3_liftersFrom 37 = .ok (.iload_n 2, 1) := by decide +kernel
theorem dX3_liftersFrom_38 : decode cX3_liftersFrom 38 = .ok (.invokevirtual 92, 3) := by decide +kernel
theorem dX3_liftersFrom_41 : decode cX3_liftersFrom 41 = .ok (.ifCond .eq 10, 3) := by decide +kernel
theorem dX3_liftersFrom_44 : decode cX3_liftersFrom 44 = .ok (.iload_n 3, 1) := by decide +kernel
theorem dX3_liftersFrom_45 : decode cX3_liftersFrom 45 = .ok (.iconst 1, 1) := by decide +kernel
theorem dX3_liftersFrom_46 : decode cX3_liftersFrom 46 = .ok (.iload 4, 2) := by decide +kernel
theorem dX3_liftersFrom_48 : decode cX3_liftersFrom 48 = .ok (.ishl, 1) := by decide +kernel
theorem dX3_liftersFrom_49 : decode cX3_liftersFrom 49 = .ok (.ior, 1) := by decide +kernel
theorem dX3_liftersFrom_50 : decode cX3_liftersFrom 50 = .ok (.istore_n 3, 1) := by decide +kernel
theorem dX3_liftersFrom_51 : decode cX3_liftersFrom 51 = .ok (.iinc 4 1, 3) := by decide +kernel
theorem dX3_liftersFrom_54 : decode cX3_liftersFrom 54 = .ok (.goto (-49), 3) := by decide +kernel
theorem dX3_liftersFrom_57 : decode cX3_liftersFrom 57 = .ok (.iload_n 3, 1) := by decide +kernel
theorem dX3_liftersFrom_58 : decode cX3_liftersFrom 58 = .ok (.ireturn, 1) := by decide +kernel
theorem dX3_canLift_0 : decode cX3_canLift 0 = .ok (.aload_n 0, 1) := by decide +kernel
theorem dX3_canLift_1 : decode cX3_canLift 1 = .ok (.getfield 24, 3) := by decide +kernel
theorem dX3_canLift_4 : decode cX3_canLift 4 = .ok (.getfield 96, 3) := by decide +kernel
theorem dX3_canLift_7 : decode cX3_canLift 7 = .ok (.iload_n 2, 1) := by decide +kernel
theorem dX3_canLift_8 : decode cX3_canLift 8 = .ok (.invokevirtual 100, 3) := by decide +kernel
theorem dX3_canLift_11 : decode cX3_canLift 11 = .ok (.aload_n 1, 1) := by decide +kernel
theorem dX3_canLift_12 : decode cX3_canLift 12 = .ok (.getfield 106, 3) := by decide +kernel
theorem dX3_canLift_15 : decode cX3_canLift 15 = .ok (.isub, 1) := by decide +kernel
theorem dX3_canLift_16 : decode cX3_canLift 16 = .ok (.invokestatic 109, 3) := by decide +kernel
theorem dX3_canLift_19 : decode cX3_canLift 19 = .ok (.istore 4, 2) := by decide +kernel
theorem dX3_canLift_21 : decode cX3_canLift 21 = .ok (.aload_n 0, 1) := by decide +kernel
theorem dX3_canLift_22 : decode cX3_canLift 22 = .ok (.getfield 24, 3) := by decide +kernel
theorem dX3_canLift_25 : decode cX3_canLift 25 = .ok (.getfield 96, 3) := by decide +kernel
theorem dX3_canLift_28 : decode cX3_canLift 28 = .ok (.iload_n 2, 1) := by decide +kernel
theorem dX3_canLift_29 : decode cX3_canLift 29 = .ok (.invokevirtual 114, 3) := by decide +kernel
theorem dX3_canLift_32 : decode cX3_canLift 32 = .ok (.aload_n 1, 1) := by decide +kernel
theorem dX3_canLift_33 : decode cX3_canLift 33 = .ok (.getfield 117, 3) := by decide +kernel
theorem dX3_canLift_36 : decode cX3_canLift 36 = .ok (.isub, 1) := by decide +kernel
theorem dX3_canLift_37 : decode cX3_canLift 37 = .ok (.invokestatic 109, 3) := by decide +kernel
theorem dX3_canLift_40 : decode cX3_canLift 40 = .ok (.istore 5, 2) := by decide +kernel
theorem dX3_canLift_42 : decode cX3_canLift 42 = .ok (.iload 4, 2) := by decide +kernel
theorem dX3_canLift_44 : decode cX3_canLift 44 = .ok (.ifCond .eq 15, 3) := by decide +kernel
theorem dX3_canLift_47 : decode cX3_canLift 47 = .ok (.iload 5, 2) := by decide +kernel
theorem dX3_canLift_49 : decode cX3_canLift 49 = .ok (.ifCond .eq 10, 3) := by decide +kernel
theorem dX3_canLift_52 : decode cX3_canLift 52 = .ok (.iload 4, 2) := by decide +kernel
theorem dX3_canLift_54 : decode cX3_canLift 54 = .ok (.iload 5, 2) := by decide +kernel
theorem dX3_canLift_56 : decode cX3_canLift 56 = .ok (.if_icmp .ne 7, 3) := by decide +kernel
theorem dX3_canLift_59 : decode cX3_canLift 59 = .ok (.iconst 1, 1) := by decide +kernel
theorem dX3_canLift_60 : decode cX3_canLift 60 = .ok (.goto 4, 3) := by decide +kernel
theorem dX3_canLift_63 : decode cX3_canLift 63 = .ok (.iconst 0, 1) := by decide +kernel
theorem dX3_canLift_64 : decode cX3_canLift 64 = .ok (.istore 6, 2) := by decide +kernel
theorem dX3_canLift_66 : decode cX3_canLift 66 = .ok (.iload 4, 2) := by decide +kernel
theorem dX3_canLift_68 : decode cX3_canLift 68 = .ok (.iload 5, 2) := by decide +kernel
theorem dX3_canLift_70 : decode cX3_canLift 70 = .ok (.invokestatic 120, 3) := by decide +kernel
theorem dX3_canLift_73 : decode cX3_canLift 73 = .ok (.istore 7, 2) := by decide +kernel
theorem dX3_canLift_75 : decode cX3_canLift 75 = .ok (.iload 6, 2) := by decide +kernel
theorem dX3_canLift_77 : decode cX3_canLift 77 = .ok (.ifCond .eq 36, 3) := by decide +kernel
theorem dX3_canLift_80 : decode cX3_canLift 80 = .ok (.iload 7, 2) := by decide +kernel
theorem dX3_canLift_82 : decode cX3_canLift 82 = .ok (.iconst 1, 1) := by decide +kernel
theorem dX3_canLift_83 : decode cX3_canLift 83 = .ok (.if_icmp .lt 30, 3) := by decide +kernel
theorem dX3_canLift_86 : decode cX3_canLift 86 = .ok (.iload 7, 2) := by decide +kernel
theorem dX3_canLift_88 : decode cX3_canLift 88 = .ok (.aload_n 1, 1) := by decide +kernel
theorem dX3_canLift_89 : decode cX3_canLift 89 = .ok (.getfield 124, 3) := by decide +kernel
theorem dX3_canLift_92 : decode cX3_canLift 92 = .ok (.if_icmp .gt 21, 3) := by decide +kernel
theorem dX3_canLift_95 : decode cX3_canLift 95 = .ok (.aload_n 0, 1) := by decide +kernel
theorem dX3_canLift_96 : decode cX3_canLift 96 = .ok (.getfield 24, 3) := by decide +kernel
theorem dX3_canLift_99 : decode cX3_canLift 99 = .ok (.aload_n 1, 1) := by decide +kernel
theorem dX3_canLift_100 : decode cX3_canLift 100 = .ok (.iload 7, 2) := by decide +kernel
theorem dX3_canLift_102 : decode cX3_canLift 102 = .ok (.invokevirtual 127, 3) := by decide +kernel
theorem dX3_canLift_105 : decode cX3_canLift 105 = .ok (.iload_n 3, 1) := by decide +kernel
theorem dX3_canLift_106 : decode cX3_canLift 106 = .ok (.if_icmp .lt 7, 3) := by decide +kernel
theorem dX3_canLift_109 : decode cX3_canLift 109 = .ok (.iconst 1, 1) := by decide +kernel
theorem dX3_canLift_110 : decode cX3_canLift 110 = .ok (.goto 4, 3) := by decide +kernel
theorem dX3_canLift_113 : decode cX3_canLift 113 = .ok (.iconst 0, 1) := by decide +kernel
theorem dX3_canLift_114 : decode cX3_canLift 114 = .ok (.ireturn, 1) := by decide +kernel
theorem dX3_takeDown_0 : decode cX3_takeDown 0 = .ok (.aload_n 0, 1) := by decide +kernel
theorem dX3_takeDown_1 : decode cX3_takeDown 1 = .ok (.getfield 24, 3) := by decide +kernel
theorem dX3_takeDown_4 : decode cX3_takeDown 4 = .ok (.getfield 79, 3) := by decide +kernel
theorem dX3_takeDown_7 : decode cX3_takeDown 7 = .ok (.invokevirtual 83, 3) := by decide +kernel
theorem dX3_takeDown_10 : decode cX3_takeDown 10 = .ok (.aload_n 0, 1) := by decide +kernel
theorem dX3_takeDown_11 : decode cX3_takeDown 11 = .ok (.getfield 18, 3) := by decide +kernel
theorem dX3_takeDown_14 : decode cX3_takeDown 14 = .ok (.arraylength, 1) := by decide +kernel
theorem dX3_takeDown_15 : decode cX3_takeDown 15 = .ok (.invokestatic 131, 3) := by decide +kernel
theorem dX3_takeDown_18 : decode cX3_takeDown 18 = .ok (.istore_n 1, 1) := by decide +kernel
theorem dX3_takeDown_19 : decode cX3_takeDown 19 = .ok (.iconst 0, 1) := by decide +kernel
theorem dX3_takeDown_20 : decode cX3_takeDown 20 = .ok (.istore_n 2, 1) := by decide +kernel
theorem dX3_takeDown_21 : decode cX3_takeDown 21 = .ok (.iload_n 2, 1) := by decide +kernel
theorem dX3_takeDown_22 : decode cX3_takeDown 22 = .ok (.iload_n 1, 1) := by decide +kernel
theorem dX3_takeDown_23 : decode cX3_takeDown 23 = .ok (.if_icmp .ge 33, 3) := by decide +kernel
theorem dX3_takeDown_26 : decode cX3_takeDown 26 = .ok (.aload_n 0, 1) := by decide +kernel
theorem dX3_takeDown_27 : decode cX3_takeDown 27 = .ok (.getfield 18, 3) := by decide +kernel
theorem dX3_takeDown_30 : decode cX3_takeDown 30 = .ok (.iload_n 2, 1) := by decide +kernel
theorem dX3_takeDown_31 : decode cX3_takeDown 31 = .ok (.aload_n 0, 1) := by decide +kernel
theorem dX3_takeDown_32 : decode cX3_takeDown 32 = .ok (.aload_n 0, 1) := by decide +kernel
theorem dX3_takeDown_33 : decode cX3_takeDown 33 = .ok (.getfield 24, 3) := by decide +kernel
theorem dX3_takeDown_36 : decode cX3_takeDown 36 = .ok (.getfield 79, 3) := by decide +kernel
theorem dX3_takeDown_39 : decode cX3_takeDown 39 = .ok (.iload_n 2, 1) := by decide +kernel
theorem dX3_takeDown_40 : decode cX3_takeDown 40 = .ok (.invokevirtual 88, 3) := by decide +kernel
theorem dX3_takeDown_43 : decode cX3_takeDown 43 = .ok (.checkcast 42, 3) := by decide +kernel
end
section
theorem dX3_takeDown_46 : decode cX3_takeDown 46 = .ok (.invokevirtual 134, 3) := by decide +kernel
theorem dX3_takeDown_49 : decode cX3_takeDown 49 = .ok (.iastore, 1) := by decide +kernel
theorem dX3_takeDown_50 : decode cX3_takeDown 50 = .ok (.iinc 2 1, 3) := by decide +kernel
theorem dX3_takeDown_53 : decode cX3_takeDown 53 = .ok (.goto (-32), 3) := by decide +kernel
theorem dX3_takeDown_56 : decode cX3_takeDown 56 = .ok (.iconst 1, 1) := by decide +kernel
theorem dX3_takeDown_57 : decode cX3_takeDown 57 = .ok (.iload_n 1, 1) := by decide +kernel
theorem dX3_takeDown_58 : decode cX3_takeDown 58 = .ok (.ishl, 1) := by decide +kernel
theorem dX3_takeDown_59 : decode cX3_takeDown 59 = .ok (.iconst 1, 1) := by decide +kernel
theorem dX3_takeDown_60 : decode cX3_takeDown 60 = .ok (.isub, 1) := by decide +kernel
theorem dX3_takeDown_61 : decode cX3_takeDown 61 = .ok (.istore_n 2, 1) := by decide +kernel
theorem dX3_takeDown_62 : decode cX3_takeDown 62 = .ok (.iconst 0, 1) := by decide +kernel
theorem dX3_takeDown_63 : decode cX3_takeDown 63 = .ok (.istore_n 3, 1) := by decide +kernel
theorem dX3_takeDown_64 : decode cX3_takeDown 64 = .ok (.aload_n 0, 1) := by decide +kernel
theorem dX3_takeDown_65 : decode cX3_takeDown 65 = .ok (.iload_n 2, 1) := by decide +kernel
theorem dX3_takeDown_66 : decode cX3_takeDown 66 = .ok (.invokevirtual 137, 3) := by decide +kernel
theorem dX3_takeDown_69 : decode cX3_takeDown 69 = .ok (.istore 4, 2) := by decide +kernel
theorem dX3_takeDown_71 : decode cX3_takeDown 71 = .ok (.iload 4, 2) := by decide +kernel
theorem dX3_takeDown_73 : decode cX3_takeDown 73 = .ok (.iconst (-1), 1) := by decide +kernel
theorem dX3_takeDown_74 : decode cX3_takeDown 74 = .ok (.if_icmp .eq 40, 3) := by decide +kernel
theorem dX3_takeDown_77 : decode cX3_takeDown 77 = .ok (.iload_n 3, 1) := by decide +kernel
theorem dX3_takeDown_78 : decode cX3_takeDown 78 = .ok (.aload_n 0, 1) := by decide +kernel
theorem dX3_takeDown_79 : decode cX3_takeDown 79 = .ok (.getfield 21, 3) := by decide +kernel
theorem dX3_takeDown_82 : decode cX3_takeDown 82 = .ok (.arraylength, 1) := by decide +kernel
theorem dX3_takeDown_83 : decode cX3_takeDown 83 = .ok (.if_icmp .ge 31, 3) := by decide +kernel
theorem dX3_takeDown_86 : decode cX3_takeDown 86 = .ok (.aload_n 0, 1) := by decide +kernel
theorem dX3_takeDown_87 : decode cX3_takeDown 87 = .ok (.getfield 21, 3) := by decide +kernel
theorem dX3_takeDown_90 : decode cX3_takeDown 90 = .ok (.iload_n 3, 1) := by decide +kernel
theorem dX3_takeDown_91 : decode cX3_takeDown 91 = .ok (.iload 4, 2) := by decide +kernel
theorem dX3_takeDown_93 : decode cX3_takeDown 93 = .ok (.iastore, 1) := by decide +kernel
theorem dX3_takeDown_94 : decode cX3_takeDown 94 = .ok (.iinc 3 1, 3) := by decide +kernel
theorem dX3_takeDown_97 : decode cX3_takeDown 97 = .ok (.iload_n 2, 1) := by decide +kernel
theorem dX3_takeDown_98 : decode cX3_takeDown 98 = .ok (.iconst 1, 1) := by decide +kernel
theorem dX3_takeDown_99 : decode cX3_takeDown 99 = .ok (.iload 4, 2) := by decide +kernel
theorem dX3_takeDown_101 : decode cX3_takeDown 101 = .ok (.ishl, 1) := by decide +kernel
theorem dX3_takeDown_102 : decode cX3_takeDown 102 = .ok (.isub, 1) := by decide +kernel
theorem dX3_takeDown_103 : decode cX3_takeDown 103 = .ok (.istore_n 2, 1) := by decide +kernel
theorem dX3_takeDown_104 : decode cX3_takeDown 104 = .ok (.aload_n 0, 1) := by decide +kernel
theorem dX3_takeDown_105 : decode cX3_takeDown 105 = .ok (.iload_n 2, 1) := by decide +kernel
theorem dX3_takeDown_106 : decode cX3_takeDown 106 = .ok (.invokevirtual 137, 3) := by decide +kernel
theorem dX3_takeDown_109 : decode cX3_takeDown 109 = .ok (.istore 4, 2) := by decide +kernel
theorem dX3_takeDown_111 : decode cX3_takeDown 111 = .ok (.goto (-40), 3) := by decide +kernel
theorem dX3_takeDown_114 : decode cX3_takeDown 114 = .ok (.iload_n 3, 1) := by decide +kernel
theorem dX3_takeDown_115 : decode cX3_takeDown 115 = .ok (.ireturn, 1) := by decide +kernel
theorem dX3_leaverAt_0 : decode cX3_leaverAt 0 = .ok (.iload_n 1, 1) := by decide +kernel
theorem dX3_leaverAt_1 : decode cX3_leaverAt 1 = .ok (.ifCond .lt 21, 3) := by decide +kernel
theorem dX3_leaverAt_4 : decode cX3_leaverAt 4 = .ok (.iload_n 1, 1) := by decide +kernel
theorem dX3_leaverAt_5 : decode cX3_leaverAt 5 = .ok (.aload_n 0, 1) := by decide +kernel
theorem dX3_leaverAt_6 : decode cX3_leaverAt 6 = .ok (.getfield 21, 3) := by decide +kernel
theorem dX3_leaverAt_9 : decode cX3_leaverAt 9 = .ok (.arraylength, 1) := by decide +kernel
theorem dX3_leaverAt_10 : decode cX3_leaverAt 10 = .ok (.if_icmp .ge 12, 3) := by decide +kernel
theorem dX3_leaverAt_13 : decode cX3_leaverAt 13 = .ok (.aload_n 0, 1) := by decide +kernel
theorem dX3_leaverAt_14 : decode cX3_leaverAt 14 = .ok (.getfield 21, 3) := by decide +kernel
theorem dX3_leaverAt_17 : decode cX3_leaverAt 17 = .ok (.iload_n 1, 1) := by decide +kernel
theorem dX3_leaverAt_18 : decode cX3_leaverAt 18 = .ok (.iaload, 1) := by decide +kernel
theorem dX3_leaverAt_19 : decode cX3_leaverAt 19 = .ok (.goto 4, 3) := by decide +kernel
theorem dX3_leaverAt_22 : decode cX3_leaverAt 22 = .ok (.iconst (-1), 1) := by decide +kernel
theorem dX3_leaverAt_23 : decode cX3_leaverAt 23 = .ok (.ireturn, 1) := by decide +kernel
theorem dX3_nextToGo_0 : decode cX3_nextToGo 0 = .ok (.iconst 0, 1) := by decide +kernel
theorem dX3_nextToGo_1 : decode cX3_nextToGo 1 = .ok (.istore_n 2, 1) := by decide +kernel
theorem dX3_nextToGo_2 : decode cX3_nextToGo 2 = .ok (.iload_n 2, 1) := by decide +kernel
theorem dX3_nextToGo_3 : decode cX3_nextToGo 3 = .ok (.aload_n 0, 1) := by decide +kernel
theorem dX3_nextToGo_4 : decode cX3_nextToGo 4 = .ok (.getfield 18, 3) := by decide +kernel
theorem dX3_nextToGo_7 : decode cX3_nextToGo 7 = .ok (.arraylength, 1) := by decide +kernel
theorem dX3_nextToGo_8 : decode cX3_nextToGo 8 = .ok (.if_icmp .ge 31, 3) := by decide +kernel
theorem dX3_nextToGo_11 : decode cX3_nextToGo 11 = .ok (.iload_n 1, 1) := by decide +kernel
theorem dX3_nextToGo_12 : decode cX3_nextToGo 12 = .ok (.iload_n 2, 1) := by decide +kernel
theorem dX3_nextToGo_13 : decode cX3_nextToGo 13 = .ok (.ishr, 1) := by decide +kernel
theorem dX3_nextToGo_14 : decode cX3_nextToGo 14 = .ok (.iconst 1, 1) := by decide +kernel
theorem dX3_nextToGo_15 : decode cX3_nextToGo 15 = .ok (.iand, 1) := by decide +kernel
theorem dX3_nextToGo_16 : decode cX3_nextToGo 16 = .ok (.iconst 1, 1) := by decide +kernel
theorem dX3_nextToGo_17 : decode cX3_nextToGo 17 = .ok (.if_icmp .ne 16, 3) := by decide +kernel
theorem dX3_nextToGo_20 : decode cX3_nextToGo 20 = .ok (.aload_n 0, 1) := by decide +kernel
theorem dX3_nextToGo_21 : decode cX3_nextToGo 21 = .ok (.getfield 18, 3) := by decide +kernel
theorem dX3_nextToGo_24 : decode cX3_nextToGo 24 = .ok (.iload_n 2, 1) := by decide +kernel
theorem dX3_nextToGo_25 : decode cX3_nextToGo 25 = .ok (.iaload, 1) := by decide +kernel
theorem dX3_nextToGo_26 : decode cX3_nextToGo 26 = .ok (.iload_n 1, 1) := by decide +kernel
theorem dX3_nextToGo_27 : decode cX3_nextToGo 27 = .ok (.iand, 1) := by decide +kernel
theorem dX3_nextToGo_28 : decode cX3_nextToGo 28 = .ok (.ifCond .eq 5, 3) := by decide +kernel
theorem dX3_nextToGo_31 : decode cX3_nextToGo 31 = .ok (.iload_n 2, 1) := by decide +kernel
theorem dX3_nextToGo_32 : decode cX3_nextToGo 32 = .ok (.ireturn, 1) := by decide +kernel
theorem dX3_nextToGo_33 : decode cX3_nextToGo 33 = .ok (.iinc 2 1, 3) := by decide +kernel
theorem dX3_nextToGo_36 : decode cX3_nextToGo 36 = .ok (.goto (-34), 3) := by decide +kernel
theorem dX3_nextToGo_39 : decode cX3_nextToGo 39 = .ok (.iconst (-1), 1) := by decide +kernel
theorem dX3_nextToGo_40 : decode cX3_nextToGo 40 = .ok (.ireturn, 1) := by decide +kernel
theorem dX3_takersOf_0 : decode cX3_takersOf 0 = .ok (.aload_n 1, 1) := by decide +kernel
theorem dX3_takersOf_1 : decode cX3_takersOf 1 = .ok (.getfield 140, 3) := by decide +kernel
theorem dX3_takersOf_4 : decode cX3_takersOf 4 = .ok (.bipush 8, 2) := by decide +kernel
theorem dX3_takersOf_6 : decode cX3_takersOf 6 = .ok (.if_icmp .gt 12, 3) := by decide +kernel
theorem dX3_takersOf_9 : decode cX3_takersOf 9 = .ok (.iconst 1, 1) := by decide +kernel
theorem dX3_takersOf_10 : decode cX3_takersOf 10 = .ok (.aload_n 1, 1) := by decide +kernel
theorem dX3_takersOf_11 : decode cX3_takersOf 11 = .ok (.getfield 143, 3) := by decide +kernel
theorem dX3_takersOf_14 : decode cX3_takersOf 14 = .ok (.ishl, 1) := by decide +kernel
theorem dX3_takersOf_15 : decode cX3_takersOf 15 = .ok (.goto 4, 3) := by decide +kernel
theorem dX3_takersOf_18 : decode cX3_takersOf 18 = .ok (.iconst 0, 1) := by decide +kernel
theorem dX3_takersOf_19 : decode cX3_takersOf 19 = .ok (.istore_n 2, 1) := by decide +kernel
theorem dX3_takersOf_20 : decode cX3_takersOf 20 = .ok (.iconst 0, 1) := by decide +kernel
theorem dX3_takersOf_21 : decode cX3_takersOf 21 = .ok (.istore_n 3, 1) := by decide +kernel
theorem dX3_takersOf_22 : decode cX3_takersOf 22 = .ok (.iload_n 3, 1) := by decide +kernel
theorem dX3_takersOf_23 : decode cX3_takersOf 23 = .ok (.aload_n 0, 1) := by decide +kernel
theorem dX3_takersOf_24 : decode cX3_takersOf 24 = .ok (.getfield 24, 3) := by decide +kernel
theorem dX3_takersOf_27 : decode cX3_takersOf 27 = .ok (.getfield 79, 3) := by decide +kernel
theorem dX3_takersOf_30 : decode cX3_takersOf 30 = .ok (.invokevirtual 83, 3) := by decide +kernel
theorem dX3_takersOf_33 : decode cX3_takersOf 33 = .ok (.if_icmp .ge 66, 3) := by decide +kernel
theorem dX3_takersOf_36 : decode cX3_takersOf 36 = .ok (.aload_n 0, 1) := by decide +kernel
theorem dX3_takersOf_37 : decode cX3_takersOf 37 = .ok (.getfield 24, 3) := by decide +kernel
theorem dX3_takersOf_40 : decode cX3_takersOf 40 = .ok (.getfield 79, 3) := by decide +kernel
theorem dX3_takersOf_43 : decode cX3_takersOf 43 = .ok (.iload_n 3, 1) := by decide +kernel
theorem dX3_takersOf_44 : decode cX3_takersOf 44 = .ok (.invokevirtual 88, 3) := by decide +kernel
theorem dX3_takersOf_47 : decode cX3_takersOf 47 = .ok (.checkcast 42, 3) := by decide +kernel
theorem dX3_takersOf_50 : decode cX3_takersOf 50 = .ok (.astore 4, 2) := by decide +kernel
theorem dX3_takersOf_52 : decode cX3_takersOf 52 = .ok (.aload 4, 2) := by decide +kernel
theorem dX3_takersOf_54 : decode cX3_takersOf 54 = .ok (.aload_n 1, 1) := by decide +kernel
theorem dX3_takersOf_55 : decode cX3_takersOf 55 = .ok (.if_acmp .eq 38, 3) := by decide +kernel
theorem dX3_takersOf_58 : decode cX3_takersOf 58 = .ok (.aload 4, 2) := by decide +kernel
theorem dX3_takersOf_60 : decode cX3_takersOf 60 = .ok (.getfield 140, 3) := by decide +kernel
theorem dX3_takersOf_63 : decode cX3_takersOf 63 = .ok (.aload_n 1, 1) := by decide +kernel
theorem dX3_takersOf_64 : decode cX3_takersOf 64 = .ok (.getfield 140, 3) := by decide +kernel
theorem dX3_takersOf_67 : decode cX3_takersOf 67 = .ok (.if_icmp .lt 26, 3) := by decide +kernel
theorem dX3_takersOf_70 : decode cX3_takersOf 70 = .ok (.aload_n 0, 1) := by decide +kernel
theorem dX3_takersOf_71 : decode cX3_takersOf 71 = .ok (.aload 4, 2) := by decide +kernel
theorem dX3_takersOf_73 : decode cX3_takersOf 73 = .ok (.aload_n 1, 1) := by decide +kernel
theorem dX3_takersOf_74 : decode cX3_takersOf 74 = .ok (.getfield 146, 3) := by decide +kernel
theorem dX3_takersOf_77 : decode cX3_takersOf 77 = .ok (.aload_n 1, 1) := by decide +kernel
theorem dX3_takersOf_78 : decode cX3_takersOf 78 = .ok (.invokevirtual 149, 3) := by decide +kernel
theorem dX3_takersOf_81 : decode cX3_takersOf 81 = .ok (.invokevirtual 92, 3) := by decide +kernel
theorem dX3_takersOf_84 : decode cX3_takersOf 84 = .ok (.ifCond .eq 9, 3) := by decide +kernel
theorem dX3_takersOf_87 : decode cX3_takersOf 87 = .ok (.iload_n 2, 1) := by decide +kernel
theorem dX3_takersOf_88 : decode cX3_takersOf 88 = .ok (.iconst 1, 1) := by decide +kernel
theorem dX3_takersOf_89 : decode cX3_takersOf 89 = .ok (.iload_n 3, 1) := by decide +kernel
theorem dX3_takersOf_90 : decode cX3_takersOf 90 = .ok (.ishl, 1) := by decide +kernel
theorem dX3_takersOf_91 : decode cX3_takersOf 91 = .ok (.ior, 1) := by decide +kernel
theorem dX3_takersOf_92 : decode cX3_takersOf 92 = .ok (.istore_n 2, 1) := by decide +kernel
theorem dX3_takersOf_93 : decode cX3_takersOf 93 = .ok (.iinc 3 1, 3) := by decide +kernel
theorem dX3_takersOf_96 : decode cX3_takersOf 96 = .ok (.goto (-74), 3) := by decide +kernel
theorem dX3_takersOf_99 : decode cX3_takersOf 99 = .ok (.iload_n 2, 1) := by decide +kernel
theorem dX3_takersOf_100 : decode cX3_takersOf 100 = .ok (.ireturn, 1) := by decide +kernel
theorem dX4_init_0 : decode cX4_init 0 = .ok (.aload_n 0, 1) := by decide +kernel
theorem dX4_init_1 : decode cX4_init 1 = .ok (.invokespecial 1, 3) := by decide +kernel
theorem dX4_init_4 : decode cX4_init 4 = .ok (.aload_n 0, 1) := by decide +kernel
theorem dX4_init_5 : decode cX4_init 5 = .ok (.iload_n 1, 1) := by decide +kernel
theorem dX4_init_6 : decode cX4_init 6 = .ok (.putfield 7, 3) := by decide +kernel
theorem dX4_init_9 : decode cX4_init 9 = .ok (.aload_n 0, 1) := by decide +kernel
theorem dX4_init_10 : decode cX4_init 10 = .ok (.iload_n 2, 1) := by decide +kernel
theorem dX4_init_11 : decode cX4_init 11 = .ok (.putfield 13, 3) := by decide +kernel
theorem dX4_init_14 : decode cX4_init 14 = .ok (.aload_n 0, 1) := by decide +kernel
theorem dX4_init_15 : decode cX4_init 15 = .ok (.iload_n 3, 1) := by decide +kernel
theorem dX4_init_16 : decode cX4_init 16 = .ok (.putfield 16, 3) := by decide +kernel
theorem dX4_init_19 : decode cX4_init 19 = .ok (.return_, 1) := by decide +kernel
theorem dX5_init_0 : decode cX5_init 0 = .ok (.aload_n 0, 1) := by decide +kernel
theorem dX5_init_1 : decode cX5_init 1 = .ok (.invokespecial 3, 3) := by decide +kernel
theorem dX5_init_4 : decode cX5_init 4 = .ok (.aload_n 0, 1) := by decide +kernel
theorem dX5_init_5 : decode cX5_init 5 = .ok (.new 9, 3) := by decide +kernel
theorem dX5_init_8 : decode cX5_init 8 = .ok (.dup, 1) := by decide +kernel
theorem dX5_init_9 : decode cX5_init 9 = .ok (.invokespecial 11, 3) := by decide +kernel
theorem dX5_init_12 : decode cX5_init 12 = .ok (.putfield 12, 3) := by decide +kernel
theorem dX5_init_15 : decode cX5_init 15 = .ok (.aload_n 0, 1) := by decide +kernel
theorem dX5_init_16 : decode cX5_init 16 = .ok (.new 9, 3) := by decide +kernel
theorem dX5_init_19 : decode cX5_init 19 = .ok (.dup, 1) := by decide +kernel
theorem dX5_init_20 : decode cX5_init 20 = .ok (.invokespecial 11, 3) := by decide +kernel
theorem dX5_init_23 : decode cX5_init 23 = .ok (.putfield 18, 3) := by decide +kernel
theorem dX5_init_26 : decode cX5_init 26 = .ok (.aload_n 0, 1) := by decide +kernel
theorem dX5_init_27 : decode cX5_init 27 = .ok (.new 9, 3) := by decide +kernel
theorem dX5_init_30 : decode cX5_init 30 = .ok (.dup, 1) := by decide +kernel
theorem dX5_init_31 : decode cX5_init 31 = .ok (.invokespecial 11, 3) := by decide +kernel
theorem dX5_init_34 : decode cX5_init 34 = .ok (.putfield 21, 3) := by decide +kernel
theorem dX5_init_37 : decode cX5_init 37 = .ok (.aload_n 0, 1) := by decide +kernel
theorem dX5_init_38 : decode cX5_init 38 = .ok (.new 9, 3) := by decide +kernel
theorem dX5_init_41 : decode cX5_init 41 = .ok (.dup, 1) := by decide +kernel
theorem dX5_init_42 : decode cX5_init 42 = .ok (.invokespecial 11, 3) := by decide +kernel
theorem dX5_init_45 : decode cX5_init 45 = .ok (.putfield 24, 3) := by decide +kernel
theorem dX5_init_48 : decode cX5_init 48 = .ok (.aload_n 0, 1) := by decide +kernel
theorem dX5_init_49 : decode cX5_init 49 = .ok (.new 27, 3) := by decide +kernel
theorem dX5_init_52 : decode cX5_init 52 = .ok (.dup, 1) := by decide +kernel
theorem dX5_init_53 : decode cX5_init 53 = .ok (.iconst 0, 1) := by decide +kernel
theorem dX5_init_54 : decode cX5_init 54 = .ok (.iconst 0, 1) := by decide +kernel
theorem dX5_init_55 : decode cX5_init 55 = .ok (.iconst 0, 1) := by decide +kernel
theorem dX5_init_56 : decode cX5_init 56 = .ok (.invokespecial 29, 3) := by decide +kernel
theorem dX5_init_59 : decode cX5_init 59 = .ok (.putfield 32, 3) := by decide +kernel
theorem dX5_init_62 : decode cX5_init 62 = .ok (.aload_n 0, 1) := by decide +kernel
theorem dX5_init_63 : decode cX5_init 63 = .ok (.iconst 0, 1) := by decide +kernel
theorem dX5_init_64 : decode cX5_init 64 = .ok (.putfield 36, 3) := by decide +kernel
theorem dX5_init_67 : decode cX5_init 67 = .ok (.aload_n 0, 1) := by decide +kernel
theorem dX5_init_68 : decode cX5_init 68 = .ok (.iconst 0, 1) := by decide +kernel
theorem dX5_init_69 : decode cX5_init 69 = .ok (.putfield 40, 3) := by decide +kernel
theorem dX5_init_72 : decode cX5_init 72 = .ok (.aload_n 0, 1) := by decide +kernel
theorem dX5_init_73 : decode cX5_init 73 = .ok (.iconst 0, 1) := by decide +kernel
theorem dX5_init_74 : decode cX5_init 74 = .ok (.putfield 43, 3) := by decide +kernel
theorem dX5_init_77 : decode cX5_init 77 = .ok (.aload_n 0, 1) := by decide +kernel
theorem dX5_init_78 : decode cX5_init 78 = .ok (.aload_n 1, 1) := by decide +kernel
theorem dX5_init_79 : decode cX5_init 79 = .ok (.putfield 46, 3) := by decide +kernel
theorem dX5_init_82 : decode cX5_init 82 = .ok (.aload_n 0, 1) := by decide +kernel
theorem dX5_init_83 : decode cX5_init 83 = .ok (.new 50, 3) := by decide +kernel
theorem dX5_init_86 : decode cX5_init 86 = .ok (.dup, 1) := by decide +kernel
theorem dX5_init_87 : decode cX5_init 87 = .ok (.aload_n 1, 1) := by decide +kernel
theorem dX5_init_88 : decode cX5_init 88 = .ok (.iconst (-1), 1) := by decide +kernel
theorem dX5_init_89 : decode cX5_init 89 = .ok (.iconst 0, 1) := by decide +kernel
theorem dX5_init_90 : decode cX5_init 90 = .ok (.iconst 3, 1) := by decide +kernel
theorem dX5_init_91 : decode cX5_init 91 = .ok (.iconst 2, 1) := by decide +kernel
theorem dX5_init_92 : decode cX5_init 92 = .ok (.iconst 5, 1) := by decide +kernel
theorem dX5_init_93 : decode cX5_init 93 = .ok (.invokespecial 52, 3) := by decide +kernel
theorem dX5_init_96 : decode cX5_init 96 = .ok (.putfield 55, 3) := by decide +kernel
theorem dX5_init_99 : decode cX5_init 99 = .ok (.return_, 1) := by decide +kernel
theorem dX5_lay_0 : decode cX5_lay 0 = .ok (.aload_n 0, 1) := by decide +kernel
theorem dX5_lay_1 : decode cX5_lay 1 = .ok (.getfield 46, 3) := by decide +kernel
theorem dX5_lay_4 : decode cX5_lay 4 = .ok (.iload_n 1, 1) := by decide +kernel
theorem dX5_lay_5 : decode cX5_lay 5 = .ok (.iload_n 2, 1) := by decide +kernel
theorem dX5_lay_6 : decode cX5_lay 6 = .ok (.invokevirtual 59, 3) := by decide +kernel
theorem dX5_lay_9 : decode cX5_lay 9 = .ok (.aload_n 0, 1) := by decide +kernel
theorem dX5_lay_10 : decode cX5_lay 10 = .ok (.getfield 12, 3) := by decide +kernel
theorem dX5_lay_13 : decode cX5_lay 13 = .ok (.invokevirtual 65, 3) := by decide +kernel
theorem dX5_lay_16 : decode cX5_lay 16 = .ok (.aload_n 0, 1) := by decide +kernel
theorem dX5_lay_17 : decode cX5_lay 17 = .ok (.getfield 18, 3) := by decide +kernel
theorem dX5_lay_20 : decode cX5_lay 20 = .ok (.invokevirtual 65, 3) := by decide +kernel
theorem dX5_lay_23 : decode cX5_lay 23 = .ok (.aload_n 0, 1) := by decide +kernel
theorem dX5_lay_24 : decode cX5_lay 24 = .ok (.getfield 21, 3) := by decide +kernel
theorem dX5_lay_27 : decode cX5_lay 27 = .ok (.invokevirtual 65, 3) := by decide +kernel
theorem dX5_lay_30 : decode cX5_lay 30 = .ok (.aload_n 0, 1) := by decide +kernel
theorem dX5_lay_31 : decode cX5_lay 31 = .ok (.getfield 24, 3) := by decide +kernel
theorem dX5_lay_34 : decode cX5_lay 34 = .ok (.invokevirtual 65, 3) := by decide +kernel
theorem dX5_lay_37 : decode cX5_lay 37 = .ok (.aload_n 0, 1) := by decide +kernel
theorem dX5_lay_38 : decode cX5_lay 38 = .ok (.iconst 0, 1) := by decide +kernel
theorem dX5_lay_39 : decode cX5_lay 39 = .ok (.putfield 36, 3) := by decide +kernel
theorem dX5_lay_42 : decode cX5_lay 42 = .ok (.aload_n 0, 1) := by decide +kernel
theorem dX5_lay_43 : decode cX5_lay 43 = .ok (.iconst 0, 1) := by decide +kernel
theorem dX5_lay_44 : decode cX5_lay 44 = .ok (.putfield 40, 3) := by decide +kernel
theorem dX5_lay_47 : decode cX5_lay 47 = .ok (.aload_n 0, 1) := by decide +kernel
theorem dX5_lay_48 : decode cX5_lay 48 = .ok (.iconst 0, 1) := by decide +kernel
theorem dX5_lay_49 : decode cX5_lay 49 = .ok (.putfield 43, 3) := by decide +kernel
theorem dX5_lay_52 : decode cX5_lay 52 = .ok (.return_, 1) := by decide +kernel
theorem dX5_hour_0 : decode cX5_hour 0 = .ok (.aload_n 0, 1) := by decide +kernel
theorem dX5_hour_1 : decode cX5_hour 1 = .ok (.getfield 36, 3) := by decide +kernel
theorem dX5_hour_4 : decode cX5_hour 4 = .ok (.bipush 20, 2) := by decide +kernel
theorem dX5_hour_6 : decode cX5_hour 6 = .ok (.idiv, 1) := by decide +kernel
theorem dX5_hour_7 : decode cX5_hour 7 = .ok (.bipush 24, 2) := by decide +kernel
theorem dX5_hour_9 : decode cX5_hour 9 = .ok (.irem, 1) := by decide +kernel
theorem dX5_hour_10 : decode cX5_hour 10 = .ok (.ireturn, 1) := by decide +kernel
theorem dX5_windNow_0 : decode cX5_windNow 0 = .ok (.aload_n 0, 1) := by decide +kernel
theorem dX5_windNow_1 : decode cX5_windNow 1 = .ok (.getfield 32, 3) := by decide +kernel
theorem dX5_windNow_4 : decode cX5_windNow 4 = .ok (.astore_n 1, 1) := by decide +kernel
theorem dX5_windNow_5 : decode cX5_windNow 5 = .ok (.iconst 0, 1) := by decide +kernel
theorem dX5_windNow_6 : decode cX5_windNow 6 = .ok (.istore_n 2, 1) := by decide +kernel
theorem dX5_windNow_7 : decode cX5_windNow 7 = .ok (.iload_n 2, 1) := by decide +kernel
theorem dX5_windNow_8 : decode cX5_windNow 8 = .ok (.aload_n 0, 1) := by decide +kernel
theorem dX5_windNow_9 : decode cX5_windNow 9 = .ok (.getfield 12, 3) := by decide +kernel
theorem dX5_windNow_12 : decode cX5_windNow 12 = .ok (.invokevirtual 68, 3) := by decide +kernel
theorem dX5_windNow_15 : decode cX5_windNow 15 = .ok (.if_icmp .ge 45, 3) := by decide +kernel
theorem dX5_windNow_18 : decode cX5_windNow 18 = .ok (.aload_n 0, 1) := by decide +kernel
theorem dX5_windNow_19 : decode cX5_windNow 19 = .ok (.getfield 12, 3) := by decide +kernel
theorem dX5_windNow_22 : decode cX5_windNow 22 = .ok (.iload_n 2, 1) := by decide +kernel
theorem dX5_windNow_23 : decode cX5_windNow 23 = .ok (.invokevirtual 72, 3) := by decide +kernel
theorem dX5_windNow_26 : decode cX5_windNow 26 = .ok (.checkcast 27, 3) := by decide +kernel
theorem dX5_windNow_29 : decode cX5_windNow 29 = .ok (.astore_n 3, 1) := by decide +kernel
theorem dX5_windNow_30 : decode cX5_windNow 30 = .ok (.aload_n 3, 1) := by decide +kernel
theorem dX5_windNow_31 : decode cX5_windNow 31 = .ok (.getfield 76, 3) := by decide +kernel
theorem dX5_windNow_34 : decode cX5_windNow 34 = .ok (.aload_n 0, 1) := by decide +kernel
theorem dX5_windNow_35 : decode cX5_windNow 35 = .ok (.getfield 36, 3) := by decide +kernel
theorem dX5_windNow_38 : decode cX5_windNow 38 = .ok (.if_icmp .gt 16, 3) := by decide +kernel
theorem dX5_windNow_41 : decode cX5_windNow 41 = .ok (.aload_n 3, 1) := by decide +kernel
theorem dX5_windNow_42 : decode cX5_windNow 42 = .ok (.getfield 76, 3) := by decide +kernel
theorem dX5_windNow_45 : decode cX5_windNow 45 = .ok (.aload_n 1, 1) := by decide +kernel
theorem dX5_windNow_46 : decode cX5_windNow 46 = .ok (.getfield 76, 3) := by decide +kernel
theorem dX5_windNow_49 : decode cX5_windNow 49 = .ok (.if_icmp .lt 5, 3) := by decide +kernel
theorem dX5_windNow_52 : decode cX5_windNow 52 = .ok (.aload_n 3, 1) := by decide +kernel
theorem dX5_windNow_53 : decode cX5_windNow 53 = .ok (.astore_n 1, 1) := by decide +kernel
theorem dX5_windNow_54 : decode cX5_windNow 54 = .ok (.iinc 2 1, 3) := by decide +kernel
theorem dX5_windNow_57 : decode cX5_windNow 57 = .ok (.goto (-50), 3) := by decide +kernel
theorem dX5_windNow_60 : decode cX5_windNow 60 = .ok (.aload_n 1, 1) := by decide +kernel
theorem dX5_windNow_61 : decode cX5_windNow 61 = .ok (.areturn, 1) := by decide +kernel
theorem dX5_force_0 : decode cX5_force 0 = .ok (.aload_n 0, 1) := by decide +kernel
theorem dX5_force_1 : decode cX5_force 1 = .ok (.invokevirtual 77, 3) := by decide +kernel
theorem dX5_force_4 : decode cX5_force 4 = .ok (.getfield 81, 3) := by decide +kernel
theorem dX5_force_7 : decode cX5_force 7 = .ok (.ireturn, 1) := by decide +kernel
theorem dX5_windBearing_0 : decode cX5_windBearing 0 = .ok (.aload_n 0, 1) := by decide +kernel
theorem dX5_windBearing_1 : decode cX5_windBearing 1 = .ok (.invokevirtual 77, 3) := by decide +kernel
theorem dX5_windBearing_4 : decode cX5_windBearing 4 = .ok (.getfield 84, 3) := by decide +kernel
theorem dX5_windBearing_7 : decode cX5_windBearing 7 = .ok (.ireturn, 1) := by decide +kernel
theorem dX5_isShut_0 : decode cX5_isShut 0 = .ok (.aload_n 0, 1) := by decide +kernel
theorem dX5_isShut_1 : decode cX5_isShut 1 = .ok (.getfield 46, 3) := by decide +kernel
theorem dX5_isShut_4 : decode cX5_isShut 4 = .ok (.iload_n 1, 1) := by decide +kernel
theorem dX5_isShut_5 : decode cX5_isShut 5 = .ok (.invokevirtual 87, 3) := by decide +kernel
theorem dX5_isShut_8 : decode cX5_isShut 8 = .ok (.istore_n 2, 1) := by decide +kernel
theorem dX5_isShut_9 : decode cX5_isShut 9 = .ok (.aload_n 0, 1) := by decide +kernel
theorem dX5_isShut_10 : decode cX5_isShut 10 = .ok (.getfield 46, 3) := by decide +kernel
theorem dX5_isShut_13 : decode cX5_isShut 13 = .ok (.iload_n 1, 1) := by decide +kernel
theorem dX5_isShut_14 : decode cX5_isShut 14 = .ok (.invokevirtual 91, 3) := by decide +kernel
theorem dX5_isShut_17 : decode cX5_isShut 17 = .ok (.istore_n 3, 1) := by decide +kernel
theorem dX5_isShut_18 : decode cX5_isShut 18 = .ok (.iconst 0, 1) := by decide +kernel
theorem dX5_isShut_19 : decode cX5_isShut 19 = .ok (.istore 4, 2) := by decide +kernel
theorem dX5_isShut_21 : decode cX5_isShut 21 = .ok (.iload 4, 2) := by decide +kernel
theorem dX5_isShut_23 : decode cX5_isShut 23 = .ok (.aload_n 0, 1) := by decide +kernel
theorem dX5_isShut_24 : decode cX5_isShut 24 = .ok (.getfield 18, 3) := by decide +kernel
theorem dX5_isShut_27 : decode cX5_isShut 27 = .ok (.invokevirtual 68, 3) := by decide +kernel
theorem dX5_isShut_30 : decode cX5_isShut 30 = .ok (.if_icmp .ge 47, 3) := by decide +kernel
theorem dX5_isShut_33 : decode cX5_isShut 33 = .ok (.aload_n 0, 1) := by decide +kernel
theorem dX5_isShut_34 : decode cX5_isShut 34 = .ok (.getfield 18, 3) := by decide +kernel
theorem dX5_isShut_37 : decode cX5_isShut 37 = .ok (.iload 4, 2) := by decide +kernel
theorem dX5_isShut_39 : decode cX5_isShut 39 = .ok (.invokevirtual 72, 3) := by decide +kernel
theorem dX5_isShut_42 : decode cX5_isShut 42 = .ok (.checkcast 94, 3) := by decide +kernel
theorem dX5_isShut_45 : decode cX5_isShut 45 = .ok (.astore 5, 2) := by decide +kernel
theorem dX5_isShut_47 : decode cX5_isShut 47 = .ok (.aload 5, 2) := by decide +kernel
theorem dX5_isShut_49 : decode cX5_isShut 49 = .ok (.iload_n 2, 1) := by decide +kernel
theorem dX5_isShut_50 : decode cX5_isShut 50 = .ok (.iload_n 3, 1) := by decide +kernel
theorem dX5_isShut_51 : decode cX5_isShut 51 = .ok (.invokevirtual 96, 3) := by decide +kernel
theorem dX5_isShut_54 : decode cX5_isShut 54 = .ok (.ifCond .eq 17, 3) := by decide +kernel
theorem dX5_isShut_57 : decode cX5_isShut 57 = .ok (.aload 5, 2) := by decide +kernel
theorem dX5_isShut_59 : decode cX5_isShut 59 = .ok (.aload_n 0, 1) := by decide +kernel
theorem dX5_isShut_60 : decode cX5_isShut 60 = .ok (.invokevirtual 100, 3) := by decide +kernel
theorem dX5_isShut_63 : decode cX5_isShut 63 = .ok (.invokevirtual 103, 3) := by decide +kernel
theorem dX5_isShut_66 : decode cX5_isShut 66 = .ok (.ifCond .eq 5, 3) := by decide +kernel
theorem dX5_isShut_69 : decode cX5_isShut 69 = .ok (.iconst 1, 1) := by decide +kernel
theorem dX5_isShut_70 : decode cX5_isShut 70 = .ok (.ireturn, 1) := by decide +kernel
theorem dX5_isShut_71 : decode cX5_isShut 71 = .ok (.iinc 4 1, 3) := by decide +kernel
theorem dX5_isShut_74 : decode cX5_isShut 74 = .ok (.goto (-53), 3) := by decide +kernel
theorem dX5_isShut_77 : decode cX5_isShut 77 = .ok (.iconst 0, 1) := by decide +kernel
theorem dX5_isShut_78 : decode cX5_isShut 78 = .ok (.ireturn, 1) := by decide +kernel
theorem dX5_towerOn_0 : decode cX5_towerOn 0 = .ok (.iconst 0, 1) := by decide +kernel
theorem dX5_towerOn_1 : decode cX5_towerOn 1 = .ok (.istore_n 2, 1) := by decide +kernel
theorem dX5_towerOn_2 : decode cX5_towerOn 2 = .ok (.iload_n 2, 1) := by decide +kernel
theorem dX5_towerOn_3 : decode cX5_towerOn 3 = .ok (.aload_n 0, 1) := by decide +kernel
theorem dX5_towerOn_4 : decode cX5_towerOn 4 = .ok (.getfield 21, 3) := by decide +kernel
theorem dX5_towerOn_7 : decode cX5_towerOn 7 = .ok (.invokevirtual 68, 3) := by decide +kernel
theorem dX5_towerOn_10 : decode cX5_towerOn 10 = .ok (.if_icmp .ge 29, 3) := by decide +kernel
theorem dX5_towerOn_13 : decode cX5_towerOn 13 = .ok (.aload_n 0, 1) := by decide +kernel
theorem dX5_towerOn_14 : decode cX5_towerOn 14 = .ok (.getfield 21, 3) := by decide +kernel
theorem dX5_towerOn_17 : decode cX5_towerOn 17 = .ok (.iload_n 2, 1) := by decide +kernel
theorem dX5_towerOn_18 : decode cX5_towerOn 18 = .ok (.invokevirtual 72, 3) := by decide +kernel
theorem dX5_towerOn_21 : decode cX5_towerOn 21 = .ok (.checkcast 50, 3) := by decide +kernel
theorem dX5_towerOn_24 : decode cX5_towerOn 24 = .ok (.getfield 107, 3) := by decide +kernel
theorem dX5_towerOn_27 : decode cX5_towerOn 27 = .ok (.iload_n 1, 1) := by decide +kernel
theorem dX5_towerOn_28 : decode cX5_towerOn 28 = .ok (.if_icmp .ne 5, 3) := by decide +kernel
theorem dX5_towerOn_31 : decode cX5_towerOn 31 = .ok (.iload_n 2, 1) := by decide +kernel
theorem dX5_towerOn_32 : decode cX5_towerOn 32 = .ok (.ireturn, 1) := by decide +kernel
theorem dX5_towerOn_33 : decode cX5_towerOn 33 = .ok (.iinc 2 1, 3) := by decide +kernel
theorem dX5_towerOn_36 : decode cX5_towerOn 36 = .ok (.goto (-34), 3) := by decide +kernel
theorem dX5_towerOn_39 : decode cX5_towerOn 39 = .ok (.iconst (-1), 1) := by decide +kernel
theorem dX5_towerOn_40 : decode cX5_towerOn 40 = .ok (.ireturn, 1) := by decide +kernel
theorem dX5_loadsOn_0 : decode cX5_loadsOn 0 = .ok (.iconst 0, 1) := by decide +kernel
theorem dX5_loadsOn_1 : decode cX5_loadsOn 1 = .ok (.istore_n 2, 1) := by decide +kernel
theorem dX5_loadsOn_2 : decode cX5_loadsOn 2 = .ok (.iconst 0, 1) := by decide +kernel
theorem dX5_loadsOn_3 : decode cX5_loadsOn 3 = .ok (.istore_n 3, 1) := by decide +kernel
theorem dX5_loadsOn_4 : decode cX5_loadsOn 4 = .ok (.iload_n 3, 1) := by decide +kernel
theorem dX5_loadsOn_5 : decode cX5_loadsOn 5 = .ok (.aload_n 0, 1) := by decide +kernel
theorem dX5_loadsOn_6 : decode cX5_loadsOn 6 = .ok (.getfield 24, 3) := by decide +kernel
theorem dX5_loadsOn_9 : decode cX5_loadsOn 9 = .ok (.invokevirtual 68, 3) := by decide +kernel
theorem dX5_loadsOn_12 : decode cX5_loadsOn 12 = .ok (.if_icmp .ge 30, 3) := by decide +kernel
theorem dX5_loadsOn_15 : decode cX5_loadsOn 15 = .ok (.aload_n 0, 1) := by decide +kernel
theorem dX5_loadsOn_16 : decode cX5_loadsOn 16 = .ok (.getfield 24, 3) := by decide +kernel
theorem dX5_loadsOn_19 : decode cX5_loadsOn 19 = .ok (.iload_n 3, 1) := by decide +kernel
theorem dX5_loadsOn_20 : decode cX5_loadsOn 20 = .ok (.invokevirtual 72, 3) := by decide +kernel
theorem dX5_loadsOn_23 : decode cX5_loadsOn 23 = .ok (.checkcast 110, 3) := by decide +kernel
theorem dX5_loadsOn_26 : decode cX5_loadsOn 26 = .ok (.iload_n 1, 1) := by decide +kernel
theorem dX5_loadsOn_27 : decode cX5_loadsOn 27 = .ok (.invokevirtual 112, 3) := by decide +kernel
theorem dX5_loadsOn_30 : decode cX5_loadsOn 30 = .ok (.ifCond .eq 6, 3) := by decide +kernel
theorem dX5_loadsOn_33 : decode cX5_loadsOn 33 = .ok (.iinc 2 1, 3) := by decide +kernel
theorem dX5_loadsOn_36 : decode cX5_loadsOn 36 = .ok (.iinc 3 1, 3) := by decide +kernel
theorem dX5_loadsOn_39 : decode cX5_loadsOn 39 = .ok (.goto (-35), 3) := by decide +kernel
theorem dX5_loadsOn_42 : decode cX5_loadsOn 42 = .ok (.iload_n 2, 1) := by decide +kernel
theorem dX5_loadsOn_43 : decode cX5_loadsOn 43 = .ok (.ireturn, 1) := by decide +kernel
theorem dX5_firstLoadOn_0 : decode cX5_firstLoadOn 0 = .ok (.iconst 0, 1) := by decide +kernel
theorem dX5_firstLoadOn_1 : decode cX5_firstLoadOn 1 = .ok (.istore_n 2, 1) := by decide +kernel
theorem dX5_firstLoadOn_2 : decode cX5_firstLoadOn 2 = .ok (.iload_n 2, 1) := by decide +kernel
theorem dX5_firstLoadOn_3 : decode cX5_firstLoadOn 3 = .ok (.aload_n 0, 1) := by decide +kernel
theorem dX5_firstLoadOn_4 : decode cX5_firstLoadOn 4 = .ok (.getfield 24, 3) := by decide +kernel
theorem dX5_firstLoadOn_7 : decode cX5_firstLoadOn 7 = .ok (.invokevirtual 68, 3) := by decide +kernel
theorem dX5_firstLoadOn_10 : decode cX5_firstLoadOn 10 = .ok (.if_icmp .ge 31, 3) := by decide +kernel
theorem dX5_firstLoadOn_13 : decode cX5_firstLoadOn 13 = .ok (.aload_n 0, 1) := by decide +kernel
theorem dX5_firstLoadOn_14 : decode cX5_firstLoadOn 14 = .ok (.getfield 24, 3) := by decide +kernel
theorem dX5_firstLoadOn_17 : decode cX5_firstLoadOn 17 = .ok (.iload_n 2, 1) := by decide +kernel
theorem dX5_firstLoadOn_18 : decode cX5_firstLoadOn 18 = .ok (.invokevirtual 72, 3) := by decide +kernel
theorem dX5_firstLoadOn_21 : decode cX5_firstLoadOn 21 = .ok (.checkcast 110, 3) := by decide +kernel
theorem dX5_firstLoadOn_24 : decode cX5_firstLoadOn 24 = .ok (.astore_n 3, 1) := by decide +kernel
theorem dX5_firstLoadOn_25 : decode cX5_firstLoadOn 25 = .ok (.aload_n 3, 1) := by decide +kernel
theorem dX5_firstLoadOn_26 : decode cX5_firstLoadOn 26 = .ok (.iload_n 1, 1) := by decide +kernel
theorem dX5_firstLoadOn_27 : decode cX5_firstLoadOn 27 = .ok (.invokevirtual 112, 3) := by decide +kernel
theorem dX5_firstLoadOn_30 : decode cX5_firstLoadOn 30 = .ok (.ifCond .eq 5, 3) := by decide +kernel
theorem dX5_firstLoadOn_33 : decode cX5_firstLoadOn 33 = .ok (.aload_n 3, 1) := by decide +kernel
theorem dX5_firstLoadOn_34 : decode cX5_firstLoadOn 34 = .ok (.areturn, 1) := by decide +kernel
theorem dX5_firstLoadOn_35 : decode cX5_firstLoadOn 35 = .ok (.iinc 2 1, 3) := by decide +kernel
theorem dX5_firstLoadOn_38 : decode cX5_firstLoadOn 38 = .ok (.goto (-36), 3) := by decide +kernel
theorem dX5_firstLoadOn_41 : decode cX5_firstLoadOn 41 = .ok (.aconst_null, 1) := by decide +kernel
theorem dX5_firstLoadOn_42 : decode cX5_firstLoadOn 42 = .ok (.areturn, 1) := by decide +kernel
theorem dX5_hangingLoads_0 : decode cX5_hangingLoads 0 = .ok (.iconst 0, 1) := by decide +kernel
theorem dX5_hangingLoads_1 : decode cX5_hangingLoads 1 = .ok (.istore_n 1, 1) := by decide +kernel
theorem dX5_hangingLoads_2 : decode cX5_hangingLoads 2 = .ok (.iconst 0, 1) := by decide +kernel
theorem dX5_hangingLoads_3 : decode cX5_hangingLoads 3 = .ok (.istore_n 2, 1) := by decide +kernel
theorem dX5_hangingLoads_4 : decode cX5_hangingLoads 4 = .ok (.iload_n 2, 1) := by decide +kernel
theorem dX5_hangingLoads_5 : decode cX5_hangingLoads 5 = .ok (.aload_n 0, 1) := by decide +kernel
theorem dX5_hangingLoads_6 : decode cX5_hangingLoads 6 = .ok (.getfield 24, 3) := by decide +kernel
theorem dX5_hangingLoads_9 : decode cX5_hangingLoads 9 = .ok (.invokevirtual 68, 3) := by decide +kernel
theorem dX5_hangingLoads_12 : decode cX5_hangingLoads 12 = .ok (.if_icmp .ge 29, 3) := by decide +kernel
theorem dX5_hangingLoads_15 : decode cX5_hangingLoads 15 = .ok (.aload_n 0, 1) := by decide +kernel
theorem dX5_hangingLoads_16 : decode cX5_hangingLoads 16 = .ok (.getfield 24, 3) := by decide +kernel
theorem dX5_hangingLoads_19 : decode cX5_hangingLoads 19 = .ok (.iload_n 2, 1) := by decide +kernel
theorem dX5_hangingLoads_20 : decode cX5_hangingLoads 20 = .ok (.invokevirtual 72, 3) := by decide +kernel
theorem dX5_hangingLoads_23 : decode cX5_hangingLoads 23 = .ok (.checkcast 110, 3) := by decide +kernel
theorem dX5_hangingLoads_26 : decode cX5_hangingLoads 26 = .ok (.getfield 115, 3) := by decide +kernel
theorem dX5_hangingLoads_29 : decode cX5_hangingLoads 29 = .ok (.ifnull 6, 3) := by decide +kernel
theorem dX5_hangingLoads_32 : decode cX5_hangingLoads 32 = .ok (.iinc 1 1, 3) := by decide +kernel
theorem dX5_hangingLoads_35 : decode cX5_hangingLoads 35 = .ok (.iinc 2 1, 3) := by decide +kernel
theorem dX5_hangingLoads_38 : decode cX5_hangingLoads 38 = .ok (.goto (-34), 3) := by decide +kernel
theorem dX5_hangingLoads_41 : decode cX5_hangingLoads 41 = .ok (.iload_n 1, 1) := by decide +kernel
theorem dX5_hangingLoads_42 : decode cX5_hangingLoads 42 = .ok (.ireturn, 1) := by decide +kernel
theorem dX5_jibsOver_0 : decode cX5_jibsOver 0 = .ok (.aload_n 0, 1) := by decide +kernel
theorem dX5_jibsOver_1 : decode cX5_jibsOver 1 = .ok (.getfield 46, 3) := by decide +kernel
theorem dX5_jibsOver_4 : decode cX5_jibsOver 4 = .ok (.iload_n 1, 1) := by decide +kernel
theorem dX5_jibsOver_5 : decode cX5_jibsOver 5 = .ok (.invokevirtual 87, 3) := by decide +kernel
theorem dX5_jibsOver_8 : decode cX5_jibsOver 8 = .ok (.istore_n 2, 1) := by decide +kernel
theorem dX5_jibsOver_9 : decode cX5_jibsOver 9 = .ok (.aload_n 0, 1) := by decide +kernel
theorem dX5_jibsOver_10 : decode cX5_jibsOver 10 = .ok (.getfield 46, 3) := by decide +kernel
theorem dX5_jibsOver_13 : decode cX5_jibsOver 13 = .ok (.iload_n 1, 1) := by decide +kernel
theorem dX5_jibsOver_14 : decode cX5_jibsOver 14 = .ok (.invokevirtual 91, 3) := by decide +kernel
theorem dX5_jibsOver_17 : decode cX5_jibsOver 17 = .ok (.istore_n 3, 1) := by decide +kernel
theorem dX5_jibsOver_18 : decode cX5_jibsOver 18 = .ok (.iconst 0, 1) := by decide +kernel
theorem dX5_jibsOver_19 : decode cX5_jibsOver 19 = .ok (.istore 4, 2) := by decide +kernel
theorem dX5_jibsOver_21 : decode cX5_jibsOver 21 = .ok (.iconst 0, 1) := by decide +kernel
theorem dX5_jibsOver_22 : decode cX5_jibsOver 22 = .ok (.istore 5, 2) := by decide +kernel
theorem dX5_jibsOver_24 : decode cX5_jibsOver 24 = .ok (.iload 5, 2) := by decide +kernel
theorem dX5_jibsOver_26 : decode cX5_jibsOver 26 = .ok (.aload_n 0, 1) := by decide +kernel
theorem dX5_jibsOver_27 : decode cX5_jibsOver 27 = .ok (.getfield 21, 3) := by decide +kernel
theorem dX5_jibsOver_30 : decode cX5_jibsOver 30 = .ok (.invokevirtual 68, 3) := by decide +kernel
theorem dX5_jibsOver_33 : decode cX5_jibsOver 33 = .ok (.if_icmp .ge 38, 3) := by decide +kernel
theorem dX5_jibsOver_36 : decode cX5_jibsOver 36 = .ok (.aload_n 0, 1) := by decide +kernel
theorem dX5_jibsOver_37 : decode cX5_jibsOver 37 = .ok (.getfield 21, 3) := by decide +kernel
theorem dX5_jibsOver_40 : decode cX5_jibsOver 40 = .ok (.iload 5, 2) := by decide +kernel
theorem dX5_jibsOver_42 : decode cX5_jibsOver 42 = .ok (.invokevirtual 72, 3) := by decide +kernel
theorem dX5_jibsOver_45 : decode cX5_jibsOver 45 = .ok (.checkcast 50, 3) := by decide +kernel
theorem dX5_jibsOver_48 : decode cX5_jibsOver 48 = .ok (.iload_n 2, 1) := by decide +kernel
theorem dX5_jibsOver_49 : decode cX5_jibsOver 49 = .ok (.iload_n 3, 1) := by decide +kernel
theorem dX5_jibsOver_50 : decode cX5_jibsOver 50 = .ok (.invokevirtual 118, 3) := by decide +kernel
theorem dX5_jibsOver_53 : decode cX5_jibsOver 53 = .ok (.ifCond .ne 12, 3) := by decide +kernel
theorem dX5_jibsOver_56 : decode cX5_jibsOver 56 = .ok (.iload 4, 2) := by decide +kernel
theorem dX5_jibsOver_58 : decode cX5_jibsOver 58 = .ok (.iconst 1, 1) := by decide +kernel
theorem dX5_jibsOver_59 : decode cX5_jibsOver 59 = .ok (.iload 5, 2) := by decide +kernel
theorem dX5_jibsOver_61 : decode cX5_jibsOver 61 = .ok (.ishl, 1) := by decide +kernel
theorem dX5_jibsOver_62 : decode cX5_jibsOver 62 = .ok (.ior, 1) := by decide +kernel
theorem dX5_jibsOver_63 : decode cX5_jibsOver 63 = .ok (.istore 4, 2) := by decide +kernel
theorem dX5_jibsOver_65 : decode cX5_jibsOver 65 = .ok (.iinc 5 1, 3) := by decide +kernel
theorem dX5_jibsOver_68 : decode cX5_jibsOver 68 = .ok (.goto (-44), 3) := by decide +kernel
theorem dX5_jibsOver_71 : decode cX5_jibsOver 71 = .ok (.iload 4, 2) := by decide +kernel
theorem dX5_jibsOver_73 : decode cX5_jibsOver 73 = .ok (.ireturn, 1) := by decide +kernel
theorem dX5_canBuild_0 : decode cX5_canBuild 0 = .ok (.aload_n 0, 1) := by decide +kernel
theorem dX5_canBuild_1 : decode cX5_canBuild 1 = .ok (.iload_n 1, 1) := by decide +kernel
theorem dX5_canBuild_2 : decode cX5_canBuild 2 = .ok (.invokevirtual 125, 3) := by decide +kernel
theorem dX5_canBuild_5 : decode cX5_canBuild 5 = .ok (.iconst (-1), 1) := by decide +kernel
theorem dX5_canBuild_6 : decode cX5_canBuild 6 = .ok (.if_icmp .ne 11, 3) := by decide +kernel
theorem dX5_canBuild_9 : decode cX5_canBuild 9 = .ok (.aload_n 0, 1) := by decide +kernel
theorem dX5_canBuild_10 : decode cX5_canBuild 10 = .ok (.iload_n 1, 1) := by decide +kernel
theorem dX5_canBuild_11 : decode cX5_canBuild 11 = .ok (.invokevirtual 128, 3) := by decide +kernel
theorem dX5_canBuild_14 : decode cX5_canBuild 14 = .ok (.ifCond .le 5, 3) := by decide +kernel
theorem dX5_canBuild_17 : decode cX5_canBuild 17 = .ok (.iconst 0, 1) := by decide +kernel
theorem dX5_canBuild_18 : decode cX5_canBuild 18 = .ok (.ireturn, 1) := by decide +kernel
theorem dX5_canBuild_19 : decode cX5_canBuild 19 = .ok (.iconst 0, 1) := by decide +kernel
theorem dX5_canBuild_20 : decode cX5_canBuild 20 = .ok (.istore_n 3, 1) := by decide +kernel
theorem dX5_canBuild_21 : decode cX5_canBuild 21 = .ok (.iload_n 3, 1) := by decide +kernel
theorem dX5_canBuild_22 : decode cX5_canBuild 22 = .ok (.aload_n 0, 1) := by decide +kernel
theorem dX5_canBuild_23 : decode cX5_canBuild 23 = .ok (.getfield 21, 3) := by decide +kernel
theorem dX5_canBuild_26 : decode cX5_canBuild 26 = .ok (.invokevirtual 68, 3) := by decide +kernel
theorem dX5_canBuild_29 : decode cX5_canBuild 29 = .ok (.if_icmp .ge 60, 3) := by decide +kernel
theorem dX5_canBuild_32 : decode cX5_canBuild 32 = .ok (.aload_n 0, 1) := by decide +kernel
theorem dX5_canBuild_33 : decode cX5_canBuild 33 = .ok (.getfield 21, 3) := by decide +kernel
theorem dX5_canBuild_36 : decode cX5_canBuild 36 = .ok (.iload_n 3, 1) := by decide +kernel
theorem dX5_canBuild_37 : decode cX5_canBuild 37 = .ok (.invokevirtual 72, 3) := by decide +kernel
theorem dX5_canBuild_40 : decode cX5_canBuild 40 = .ok (.checkcast 50, 3) := by decide +kernel
theorem dX5_canBuild_43 : decode cX5_canBuild 43 = .ok (.astore 4, 2) := by decide +kernel
theorem dX5_canBuild_45 : decode cX5_canBuild 45 = .ok (.aload 4, 2) := by decide +kernel
theorem dX5_canBuild_47 : decode cX5_canBuild 47 = .ok (.getfield 131, 3) := by decide +kernel
theorem dX5_canBuild_50 : decode cX5_canBuild 50 = .ok (.ifnonnull 7, 3) := by decide +kernel
theorem dX5_canBuild_53 : decode cX5_canBuild 53 = .ok (.iconst 1, 1) := by decide +kernel
theorem dX5_canBuild_54 : decode cX5_canBuild 54 = .ok (.goto 4, 3) := by decide +kernel
theorem dX5_canBuild_57 : decode cX5_canBuild 57 = .ok (.iconst 2, 1) := by decide +kernel
theorem dX5_canBuild_58 : decode cX5_canBuild 58 = .ok (.istore 5, 2) := by decide +kernel
theorem dX5_canBuild_60 : decode cX5_canBuild 60 = .ok (.aload 4, 2) := by decide +kernel
theorem dX5_canBuild_62 : decode cX5_canBuild 62 = .ok (.invokevirtual 122, 3) := by decide +kernel
theorem dX5_canBuild_65 : decode cX5_canBuild 65 = .ok (.iload_n 1, 1) := by decide +kernel
theorem dX5_canBuild_66 : decode cX5_canBuild 66 = .ok (.if_icmp .ne 17, 3) := by decide +kernel
theorem dX5_canBuild_69 : decode cX5_canBuild 69 = .ok (.aload 4, 2) := by decide +kernel
theorem dX5_canBuild_71 : decode cX5_canBuild 71 = .ok (.getfield 135, 3) := by decide +kernel
theorem dX5_canBuild_74 : decode cX5_canBuild 74 = .ok (.iload_n 2, 1) := by decide +kernel
theorem dX5_canBuild_75 : decode cX5_canBuild 75 = .ok (.isub, 1) := by decide +kernel
theorem dX5_canBuild_76 : decode cX5_canBuild 76 = .ok (.iload 5, 2) := by decide +kernel
theorem dX5_canBuild_78 : decode cX5_canBuild 78 = .ok (.if_icmp .ge 5, 3) := by decide +kernel
theorem dX5_canBuild_81 : decode cX5_canBuild 81 = .ok (.iconst 0, 1) := by decide +kernel
theorem dX5_canBuild_82 : decode cX5_canBuild 82 = .ok (.ireturn, 1) := by decide +kernel
theorem dX5_canBuild_83 : decode cX5_canBuild 83 = .ok (.iinc 3 1, 3) := by decide +kernel
theorem dX5_canBuild_86 : decode cX5_canBuild 86 = .ok (.goto (-65), 3) := by decide +kernel
theorem dX5_canBuild_89 : decode cX5_canBuild 89 = .ok (.iconst 1, 1) := by decide +kernel
theorem dX5_canBuild_90 : decode cX5_canBuild 90 = .ok (.ireturn, 1) := by decide +kernel
theorem dX5_canFound_0 : decode cX5_canFound 0 = .ok (.aload_n 0, 1) := by decide +kernel
theorem dX5_canFound_1 : decode cX5_canFound 1 = .ok (.iload_n 1, 1) := by decide +kernel
theorem dX5_canFound_2 : decode cX5_canFound 2 = .ok (.invokevirtual 125, 3) := by decide +kernel
theorem dX5_canFound_5 : decode cX5_canFound 5 = .ok (.iconst (-1), 1) := by decide +kernel
theorem dX5_canFound_6 : decode cX5_canFound 6 = .ok (.if_icmp .ne 26, 3) := by decide +kernel
theorem dX5_canFound_9 : decode cX5_canFound 9 = .ok (.aload_n 0, 1) := by decide +kernel
theorem dX5_canFound_10 : decode cX5_canFound 10 = .ok (.iload_n 1, 1) := by decide +kernel
theorem dX5_canFound_11 : decode cX5_canFound 11 = .ok (.invokevirtual 128, 3) := by decide +kernel
theorem dX5_canFound_14 : decode cX5_canFound 14 = .ok (.ifCond .ne 18, 3) := by decide +kernel
theorem dX5_canFound_17 : decode cX5_canFound 17 = .ok (.aload_n 0, 1) := by decide +kernel
theorem dX5_canFound_18 : decode cX5_canFound 18 = .ok (.getfield 46, 3) := by decide +kernel
theorem dX5_canFound_21 : decode cX5_canFound 21 = .ok (.iload_n 1, 1) := by decide +kernel
theorem dX5_canFound_22 : decode cX5_canFound 22 = .ok (.invokevirtual 138, 3) := by decide +kernel
theorem dX5_canFound_25 : decode cX5_canFound 25 = .ok (.ifCond .ne 7, 3) := by decide +kernel
theorem dX5_canFound_28 : decode cX5_canFound 28 = .ok (.iconst 1, 1) := by decide +kernel
theorem dX5_canFound_29 : decode cX5_canFound 29 = .ok (.goto 4, 3) := by decide +kernel
theorem dX5_canFound_32 : decode cX5_canFound 32 = .ok (.iconst 0, 1) := by decide +kernel
theorem dX5_canFound_33 : decode cX5_canFound 33 = .ok (.ireturn, 1) := by decide +kernel
theorem dX5_capacityOf_0 : decode cX5_capacityOf 0 = .ok (.iload_n 2, 1) := by decide +kernel
theorem dX5_capacityOf_1 : decode cX5_capacityOf 1 = .ok (.iconst 1, 1) := by decide +kernel
theorem dX5_capacityOf_2 : decode cX5_capacityOf 2 = .ok (.if_icmp .ge 5, 3) := by decide +kernel
theorem dX5_capacityOf_5 : decode cX5_capacityOf 5 = .ok (.iconst 0, 1) := by decide +kernel
theorem dX5_capacityOf_6 : decode cX5_capacityOf 6 = .ok (.ireturn, 1) := by decide +kernel
theorem dX5_capacityOf_7 : decode cX5_capacityOf 7 = .ok (.iconst 2, 1) := by decide +kernel
theorem dX5_capacityOf_8 : decode cX5_capacityOf 8 = .ok (.aload_n 0, 1) := by decide +kernel
theorem dX5_capacityOf_9 : decode cX5_capacityOf 9 = .ok (.invokevirtual 77, 3) := by decide +kernel
theorem dX5_capacityOf_12 : decode cX5_capacityOf 12 = .ok (.getfield 81, 3) := by decide +kernel
theorem dX5_capacityOf_15 : decode cX5_capacityOf 15 = .ok (.iconst 4, 1) := by decide +kernel
theorem dX5_capacityOf_16 : decode cX5_capacityOf 16 = .ok (.isub, 1) := by decide +kernel
theorem dX5_capacityOf_17 : decode cX5_capacityOf 17 = .ok (.iconst 0, 1) := by decide +kernel
theorem dX5_capacityOf_18 : decode cX5_capacityOf 18 = .ok (.invokestatic 141, 3) := by decide +kernel
theorem dX5_capacityOf_21 : decode cX5_capacityOf 21 = .ok (.imul, 1) := by decide +kernel
theorem dX5_capacityOf_22 : decode cX5_capacityOf 22 = .ok (.istore_n 3, 1) := by decide +kernel
theorem dX5_capacityOf_23 : decode cX5_capacityOf 23 = .ok (.aload_n 1, 1) := by decide +kernel
theorem dX5_capacityOf_24 : decode cX5_capacityOf 24 = .ok (.getfield 146, 3) := by decide +kernel
theorem dX5_capacityOf_27 : decode cX5_capacityOf 27 = .ok (.iload_n 2, 1) := by decide +kernel
theorem dX5_capacityOf_28 : decode cX5_capacityOf 28 = .ok (.idiv, 1) := by decide +kernel
theorem dX5_capacityOf_29 : decode cX5_capacityOf 29 = .ok (.iload_n 3, 1) := by decide +kernel
theorem dX5_capacityOf_30 : decode cX5_capacityOf 30 = .ok (.isub, 1) := by decide +kernel
theorem dX5_capacityOf_31 : decode cX5_capacityOf 31 = .ok (.iconst 0, 1) := by decide +kernel
theorem dX5_capacityOf_32 : decode cX5_capacityOf 32 = .ok (.invokestatic 141, 3) := by decide +kernel
theorem dX5_capacityOf_35 : decode cX5_capacityOf 35 = .ok (.ireturn, 1) := by decide +kernel
theorem dX5_clashesOf_0 : decode cX5_clashesOf 0 = .ok (.iconst 0, 1) := by decide +kernel
theorem dX5_clashesOf_1 : decode cX5_clashesOf 1 = .ok (.istore_n 2, 1) := by decide +kernel
theorem dX5_clashesOf_2 : decode cX5_clashesOf 2 = .ok (.iconst 0, 1) := by decide +kernel
theorem dX5_clashesOf_3 : decode cX5_clashesOf 3 = .ok (.istore_n 3, 1) := by decide +kernel
theorem dX5_clashesOf_4 : decode cX5_clashesOf 4 = .ok (.iload_n 3, 1) := by decide +kernel
theorem dX5_clashesOf_5 : decode cX5_clashesOf 5 = .ok (.aload_n 0, 1) := by decide +kernel
theorem dX5_clashesOf_6 : decode cX5_clashesOf 6 = .ok (.getfield 21, 3) := by decide +kernel
theorem dX5_clashesOf_9 : decode cX5_clashesOf 9 = .ok (.invokevirtual 68, 3) := by decide +kernel
theorem dX5_clashesOf_12 : decode cX5_clashesOf 12 = .ok (.if_icmp .ge 42, 3) := by decide +kernel
theorem dX5_clashesOf_15 : decode cX5_clashesOf 15 = .ok (.iload_n 3, 1) := by decide +kernel
theorem dX5_clashesOf_16 : decode cX5_clashesOf 16 = .ok (.aload_n 1, 1) := by decide +kernel
theorem dX5_clashesOf_17 : decode cX5_clashesOf 17 = .ok (.getfield 149, 3) := by decide +kernel
theorem dX5_clashesOf_20 : decode cX5_clashesOf 20 = .ok (.if_icmp .eq 28, 3) := by decide +kernel
theorem dX5_clashesOf_23 : decode cX5_clashesOf 23 = .ok (.aload_n 1, 1) := by decide +kernel
theorem dX5_clashesOf_24 : decode cX5_clashesOf 24 = .ok (.aload_n 0, 1) := by decide +kernel
theorem dX5_clashesOf_25 : decode cX5_clashesOf 25 = .ok (.getfield 21, 3) := by decide +kernel
theorem dX5_clashesOf_28 : decode cX5_clashesOf 28 = .ok (.iload_n 3, 1) := by decide +kernel
theorem dX5_clashesOf_29 : decode cX5_clashesOf 29 = .ok (.invokevirtual 72, 3) := by decide +kernel
theorem dX5_clashesOf_32 : decode cX5_clashesOf 32 = .ok (.checkcast 50, 3) := by decide +kernel
theorem dX5_clashesOf_35 : decode cX5_clashesOf 35 = .ok (.iconst 1, 1) := by decide +kernel
theorem dX5_clashesOf_36 : decode cX5_clashesOf 36 = .ok (.invokevirtual 152, 3) := by decide +kernel
theorem dX5_clashesOf_39 : decode cX5_clashesOf 39 = .ok (.ifCond .eq 9, 3) := by decide +kernel
theorem dX5_clashesOf_42 : decode cX5_clashesOf 42 = .ok (.iload_n 2, 1) := by decide +kernel
theorem dX5_clashesOf_43 : decode cX5_clashesOf 43 = .ok (.iconst 1, 1) := by decide +kernel
theorem dX5_clashesOf_44 : decode cX5_clashesOf 44 = .ok (.iload_n 3, 1) := by decide +kernel
theorem dX5_clashesOf_45 : decode cX5_clashesOf 45 = .ok (.ishl, 1) := by decide +kernel
theorem dX5_clashesOf_46 : decode cX5_clashesOf 46 = .ok (.ior, 1) := by decide +kernel
theorem dX5_clashesOf_47 : decode cX5_clashesOf 47 = .ok (.istore_n 2, 1) := by decide +kernel
theorem dX5_clashesOf_48 : decode cX5_clashesOf 48 = .ok (.iinc 3 1, 3) := by decide +kernel
theorem dX5_clashesOf_51 : decode cX5_clashesOf 51 = .ok (.goto (-47), 3) := by decide +kernel
theorem dX5_clashesOf_54 : decode cX5_clashesOf 54 = .ok (.iload_n 2, 1) := by decide +kernel
theorem dX5_clashesOf_55 : decode cX5_clashesOf 55 = .ok (.ireturn, 1) := by decide +kernel
theorem dX5_clashingPairs_0 : decode cX5_clashingPairs 0 = .ok (.iconst 0, 1) := by decide +kernel
theorem dX5_clashingPairs_1 : decode cX5_clashingPairs 1 = .ok (.istore_n 1, 1) := by decide +kernel
theorem dX5_clashingPairs_2 : decode cX5_clashingPairs 2 = .ok (.iconst 0, 1) := by decide +kernel
theorem dX5_clashingPairs_3 : decode cX5_clashingPairs 3 = .ok (.istore_n 2, 1) := by decide +kernel
theorem dX5_clashingPairs_4 : decode cX5_clashingPairs 4 = .ok (.iload_n 2, 1) := by decide +kernel
theorem dX5_clashingPairs_5 : decode cX5_clashingPairs 5 = .ok (.aload_n 0, 1) := by decide +kernel
theorem dX5_clashingPairs_6 : decode cX5_clashingPairs 6 = .ok (.getfield 21, 3) := by decide +kernel
theorem dX5_clashingPairs_9 : decode cX5_clashingPairs 9 = .ok (.invokevirtual 68, 3) := by decide +kernel
theorem dX5_clashingPairs_12 : decode cX5_clashingPairs 12 = .ok (.if_icmp .ge 30, 3) := by decide +kernel
theorem dX5_clashingPairs_15 : decode cX5_clashingPairs 15 = .ok (.iload_n 1, 1) := by decide +kernel
theorem dX5_clashingPairs_16 : decode cX5_clashingPairs 16 = .ok (.aload_n 0, 1) := by decide +kernel
theorem dX5_clashingPairs_17 : decode cX5_clashingPairs 17 = .ok (.aload_n 0, 1) := by decide +kernel
theorem dX5_clashingPairs_18 : decode cX5_clashingPairs 18 = .ok (.getfield 21, 3) := by decide +kernel
theorem dX5_clashingPairs_21 : decode cX5_clashingPairs 21 = .ok (.iload_n 2, 1) := by decide +kernel
theorem dX5_clashingPairs_22 : decode cX5_clashingPairs 22 = .ok (.invokevirtual 72, 3) := by decide +kernel
theorem dX5_clashingPairs_25 : decode cX5_clashingPairs 25 = .ok (.checkcast 50, 3) := by decide +kernel
theorem dX5_clashingPairs_28 : decode cX5_clashingPairs 28 = .ok (.invokevirtual 156, 3) := by decide +kernel
theorem dX5_clashingPairs_31 : decode cX5_clashingPairs 31 = .ok (.invokestatic 160, 3) := by decide +kernel
theorem dX5_clashingPairs_34 : decode cX5_clashingPairs 34 = .ok (.iadd, 1) := by decide +kernel
theorem dX5_clashingPairs_35 : decode cX5_clashingPairs 35 = .ok (.istore_n 1, 1) := by decide +kernel
theorem dX5_clashingPairs_36 : decode cX5_clashingPairs 36 = .ok (.iinc 2 1, 3) := by decide +kernel
theorem dX5_clashingPairs_39 : decode cX5_clashingPairs 39 = .ok (.goto (-35), 3) := by decide +kernel
theorem dX5_clashingPairs_42 : decode cX5_clashingPairs 42 = .ok (.iload_n 1, 1) := by decide +kernel
theorem dX5_clashingPairs_43 : decode cX5_clashingPairs 43 = .ok (.iconst 2, 1) := by decide +kernel
theorem dX5_clashingPairs_44 : decode cX5_clashingPairs 44 = .ok (.idiv, 1) := by decide +kernel
theorem dX5_clashingPairs_45 : decode cX5_clashingPairs 45 = .ok (.ireturn, 1) := by decide +kernel
theorem dX5_nearMisses_0 : decode cX5_nearMisses 0 = .ok (.iconst 0, 1) := by decide +kernel
theorem dX5_nearMisses_1 : decode cX5_nearMisses 1 = .ok (.istore_n 1, 1) := by decide +kernel
theorem dX5_nearMisses_2 : decode cX5_nearMisses 2 = .ok (.iconst 0, 1) := by decide +kernel
theorem dX5_nearMisses_3 : decode cX5_nearMisses 3 = .ok (.istore_n 2, 1) := by decide +kernel
theorem dX5_nearMisses_4 : decode cX5_nearMisses 4 = .ok (.iload_n 2, 1) := by decide +kernel
theorem dX5_nearMisses_5 : decode cX5_nearMisses 5 = .ok (.aload_n 0, 1) := by decide +kernel
theorem dX5_nearMisses_6 : decode cX5_nearMisses 6 = .ok (.getfield 21, 3) := by decide +kernel
theorem dX5_nearMisses_9 : decode cX5_nearMisses 9 = .ok (.invokevirtual 68, 3) := by decide +kernel
theorem dX5_nearMisses_12 : decode cX5_nearMisses 12 = .ok (.if_icmp .ge 26, 3) := by decide +kernel
theorem dX5_nearMisses_15 : decode cX5_nearMisses 15 = .ok (.iload_n 1, 1) := by decide +kernel
theorem dX5_nearMisses_16 : decode cX5_nearMisses 16 = .ok (.aload_n 0, 1) := by decide +kernel
theorem dX5_nearMisses_17 : decode cX5_nearMisses 17 = .ok (.getfield 21, 3) := by decide +kernel
theorem dX5_nearMisses_20 : decode cX5_nearMisses 20 = .ok (.iload_n 2, 1) := by decide +kernel
theorem dX5_nearMisses_21 : decode cX5_nearMisses 21 = .ok (.invokevirtual 72, 3) := by decide +kernel
theorem dX5_nearMisses_24 : decode cX5_nearMisses 24 = .ok (.checkcast 50, 3) := by decide +kernel
theorem dX5_nearMisses_27 : decode cX5_nearMisses 27 = .ok (.getfield 165, 3) := by decide +kernel
theorem dX5_nearMisses_30 : decode cX5_nearMisses 30 = .ok (.iadd, 1) := by decide +kernel
theorem dX5_nearMisses_31 : decode cX5_nearMisses 31 = .ok (.istore_n 1, 1) := by decide +kernel
theorem dX5_nearMisses_32 : decode cX5_nearMisses 32 = .ok (.iinc 2 1, 3) := by decide +kernel
theorem dX5_nearMisses_35 : decode cX5_nearMisses 35 = .ok (.goto (-31), 3) := by decide +kernel
theorem dX5_nearMisses_38 : decode cX5_nearMisses 38 = .ok (.iload_n 1, 1) := by decide +kernel
theorem dX5_nearMisses_39 : decode cX5_nearMisses 39 = .ok (.ireturn, 1) := by decide +kernel
theorem dX5_hindrance_0 : decode cX5_hindrance 0 = .ok (.aload_n 1, 1) := by decide +kernel
theorem dX5_hindrance_1 : decode cX5_hindrance 1 = .ok (.invokevirtual 168, 3) := by decide +kernel
theorem dX5_hindrance_4 : decode cX5_hindrance 4 = .ok (.ifCond .ne 5, 3) := by decide +kernel
theorem dX5_hindrance_7 : decode cX5_hindrance 7 = .ok (.iconst 1, 1) := by decide +kernel
theorem dX5_hindrance_8 : decode cX5_hindrance 8 = .ok (.ireturn, 1) := by decide +kernel
theorem dX5_hindrance_9 : decode cX5_hindrance 9 = .ok (.aload_n 1, 1) := by decide +kernel
theorem dX5_hindrance_10 : decode cX5_hindrance 10 = .ok (.getfield 131, 3) := by decide +kernel
theorem dX5_hindrance_13 : decode cX5_hindrance 13 = .ok (.ifnull 24, 3) := by decide +kernel
theorem dX5_hindrance_16 : decode cX5_hindrance 16 = .ok (.aload_n 1, 1) := by decide +kernel
theorem dX5_hindrance_17 : decode cX5_hindrance 17 = .ok (.getfield 131, 3) := by decide +kernel
theorem dX5_hindrance_20 : decode cX5_hindrance 20 = .ok (.getfield 172, 3) := by decide +kernel
theorem dX5_hindrance_23 : decode cX5_hindrance 23 = .ok (.aload_n 0, 1) := by decide +kernel
theorem dX5_hindrance_24 : decode cX5_hindrance 24 = .ok (.aload_n 1, 1) := by decide +kernel
theorem dX5_hindrance_25 : decode cX5_hindrance 25 = .ok (.aload_n 1, 1) := by decide +kernel
theorem dX5_hindrance_26 : decode cX5_hindrance 26 = .ok (.getfield 175, 3) := by decide +kernel
theorem dX5_hindrance_29 : decode cX5_hindrance 29 = .ok (.invokevirtual 178, 3) := by decide +kernel
theorem dX5_hindrance_32 : decode cX5_hindrance 32 = .ok (.if_icmp .le 5, 3) := by decide +kernel
theorem dX5_hindrance_35 : decode cX5_hindrance 35 = .ok (.iconst 4, 1) := by decide +kernel
theorem dX5_hindrance_36 : decode cX5_hindrance 36 = .ok (.ireturn, 1) := by decide +kernel
theorem dX5_hindrance_37 : decode cX5_hindrance 37 = .ok (.aload_n 1, 1) := by decide +kernel
theorem dX5_hindrance_38 : decode cX5_hindrance 38 = .ok (.invokevirtual 122, 3) := by decide +kernel
theorem dX5_hindrance_41 : decode cX5_hindrance 41 = .ok (.istore 4, 2) := by decide +kernel
theorem dX5_hindrance_43 : decode cX5_hindrance 43 = .ok (.aload_n 1, 1) := by decide +kernel
theorem dX5_hindrance_44 : decode cX5_hindrance 44 = .ok (.getfield 131, 3) := by decide +kernel
theorem dX5_hindrance_47 : decode cX5_hindrance 47 = .ok (.ifnull 14, 3) := by decide +kernel
theorem dX5_hindrance_50 : decode cX5_hindrance 50 = .ok (.aload_n 0, 1) := by decide +kernel
theorem dX5_hindrance_51 : decode cX5_hindrance 51 = .ok (.iload 4, 2) := by decide +kernel
theorem dX5_hindrance_53 : decode cX5_hindrance 53 = .ok (.invokevirtual 181, 3) := by decide +kernel
theorem dX5_hindrance_56 : decode cX5_hindrance 56 = .ok (.ifCond .eq 5, 3) := by decide +kernel
theorem dX5_hindrance_59 : decode cX5_hindrance 59 = .ok (.iconst 5, 1) := by decide +kernel
theorem dX5_hindrance_60 : decode cX5_hindrance 60 = .ok (.ireturn, 1) := by decide +kernel
theorem dX5_hindrance_61 : decode cX5_hindrance 61 = .ok (.aload_n 1, 1) := by decide +kernel
theorem dX5_hindrance_62 : decode cX5_hindrance 62 = .ok (.getfield 131, 3) := by decide +kernel
theorem dX5_hindrance_65 : decode cX5_hindrance 65 = .ok (.ifnull 11, 3) := by decide +kernel
theorem dX5_hindrance_68 : decode cX5_hindrance 68 = .ok (.iload_n 2, 1) := by decide +kernel
theorem dX5_hindrance_69 : decode cX5_hindrance 69 = .ok (.ifCond .eq 7, 3) := by decide +kernel
theorem dX5_hindrance_72 : decode cX5_hindrance 72 = .ok (.iconst 2, 1) := by decide +kernel
theorem dX5_hindrance_73 : decode cX5_hindrance 73 = .ok (.goto 4, 3) := by decide +kernel
theorem dX5_hindrance_76 : decode cX5_hindrance 76 = .ok (.iconst 1, 1) := by decide +kernel
theorem dX5_hindrance_77 : decode cX5_hindrance 77 = .ok (.istore 5, 2) := by decide +kernel
theorem dX5_hindrance_79 : decode cX5_hindrance 79 = .ok (.aload_n 1, 1) := by decide +kernel
theorem dX5_hindrance_80 : decode cX5_hindrance 80 = .ok (.getfield 135, 3) := by decide +kernel
theorem dX5_hindrance_83 : decode cX5_hindrance 83 = .ok (.aload_n 0, 1) := by decide +kernel
theorem dX5_hindrance_84 : decode cX5_hindrance 84 = .ok (.getfield 46, 3) := by decide +kernel
theorem dX5_hindrance_87 : decode cX5_hindrance 87 = .ok (.iload 4, 2) := by decide +kernel
theorem dX5_hindrance_89 : decode cX5_hindrance 89 = .ok (.invokevirtual 138, 3) := by decide +kernel
theorem dX5_hindrance_92 : decode cX5_hindrance 92 = .ok (.isub, 1) := by decide +kernel
theorem dX5_hindrance_93 : decode cX5_hindrance 93 = .ok (.iload 5, 2) := by decide +kernel
theorem dX5_hindrance_95 : decode cX5_hindrance 95 = .ok (.if_icmp .ge 6, 3) := by decide +kernel
theorem dX5_hindrance_98 : decode cX5_hindrance 98 = .ok (.bipush 6, 2) := by decide +kernel
theorem dX5_hindrance_100 : decode cX5_hindrance 100 = .ok (.ireturn, 1) := by decide +kernel
theorem dX5_hindrance_101 : decode cX5_hindrance 101 = .ok (.iconst 0, 1) := by decide +kernel
theorem dX5_hindrance_102 : decode cX5_hindrance 102 = .ok (.istore 6, 2) := by decide +kernel
theorem dX5_hindrance_104 : decode cX5_hindrance 104 = .ok (.iload 6, 2) := by decide +kernel
theorem dX5_hindrance_106 : decode cX5_hindrance 106 = .ok (.aload_n 0, 1) := by decide +kernel
theorem dX5_hindrance_107 : decode cX5_hindrance 107 = .ok (.getfield 21, 3) := by decide +kernel
theorem dX5_hindrance_110 : decode cX5_hindrance 110 = .ok (.invokevirtual 68, 3) := by decide +kernel
theorem dX5_hindrance_113 : decode cX5_hindrance 113 = .ok (.if_icmp .ge 62, 3) := by decide +kernel
theorem dX5_hindrance_116 : decode cX5_hindrance 116 = .ok (.iload 6, 2) := by decide +kernel
theorem dX5_hindrance_118 : decode cX5_hindrance 118 = .ok (.aload_n 1, 1) := by decide +kernel
theorem dX5_hindrance_119 : decode cX5_hindrance 119 = .ok (.getfield 149, 3) := by decide +kernel
theorem dX5_hindrance_122 : decode cX5_hindrance 122 = .ok (.if_icmp .eq 16, 3) := by decide +kernel
theorem dX5_hindrance_125 : decode cX5_hindrance 125 = .ok (.iload_n 3, 1) := by decide +kernel
theorem dX5_hindrance_126 : decode cX5_hindrance 126 = .ok (.iload 6, 2) := by decide +kernel
theorem dX5_hindrance_128 : decode cX5_hindrance 128 = .ok (.ishr, 1) := by decide +kernel
theorem dX5_hindrance_129 : decode cX5_hindrance 129 = .ok (.iconst 1, 1) := by decide +kernel
theorem dX5_hindrance_130 : decode cX5_hindrance 130 = .ok (.iand, 1) := by decide +kernel
theorem dX5_hindrance_131 : decode cX5_hindrance 131 = .ok (.ifCond .ne 7, 3) := by decide +kernel
theorem dX5_hindrance_134 : decode cX5_hindrance 134 = .ok (.iconst 1, 1) := by decide +kernel
theorem dX5_hindrance_135 : decode cX5_hindrance 135 = .ok (.goto 4, 3) := by decide +kernel
theorem dX5_hindrance_138 : decode cX5_hindrance 138 = .ok (.iconst 0, 1) := by decide +kernel
theorem dX5_hindrance_139 : decode cX5_hindrance 139 = .ok (.istore 7, 2) := by decide +kernel
theorem dX5_hindrance_141 : decode cX5_hindrance 141 = .ok (.iload 7, 2) := by decide +kernel
theorem dX5_hindrance_143 : decode cX5_hindrance 143 = .ok (.ifCond .eq 26, 3) := by decide +kernel
theorem dX5_hindrance_146 : decode cX5_hindrance 146 = .ok (.aload_n 1, 1) := by decide +kernel
theorem dX5_hindrance_147 : decode cX5_hindrance 147 = .ok (.aload_n 0, 1) := by decide +kernel
theorem dX5_hindrance_148 : decode cX5_hindrance 148 = .ok (.getfield 21, 3) := by decide +kernel
theorem dX5_hindrance_151 : decode cX5_hindrance 151 = .ok (.iload 6, 2) := by decide +kernel
theorem dX5_hindrance_153 : decode cX5_hindrance 153 = .ok (.invokevirtual 72, 3) := by decide +kernel
theorem dX5_hindrance_156 : decode cX5_hindrance 156 = .ok (.checkcast 50, 3) := by decide +kernel
theorem dX5_hindrance_159 : decode cX5_hindrance 159 = .ok (.iconst 1, 1) := by decide +kernel
theorem dX5_hindrance_160 : decode cX5_hindrance 160 = .ok (.invokevirtual 152, 3) := by decide +kernel
theorem dX5_hindrance_163 : decode cX5_hindrance 163 = .ok (.ifCond .eq 6, 3) := by decide +kernel
theorem dX5_hindrance_166 : decode cX5_hindrance 166 = .ok (.bipush 7, 2) := by decide +kernel
theorem dX5_hindrance_168 : decode cX5_hindrance 168 = .ok (.ireturn, 1) := by decide +kernel
theorem dX5_hindrance_169 : decode cX5_hindrance 169 = .ok (.iinc 6 1, 3) := by decide +kernel
theorem dX5_hindrance_172 : decode cX5_hindrance 172 = .ok (.goto (-68), 3) := by decide +kernel
theorem dX5_hindrance_175 : decode cX5_hindrance 175 = .ok (.iconst 0, 1) := by decide +kernel
theorem dX5_hindrance_176 : decode cX5_hindrance 176 = .ok (.ireturn, 1) := by decide +kernel
theorem dX5_reasonAgainst_0 : decode cX5_reasonAgainst 0 = .ok (.iload_n 2, 1) := by decide +kernel
theorem dX5_reasonAgainst_1 : decode cX5_reasonAgainst 1 = .ok (.bipush 6, 2) := by decide +kernel
theorem dX5_reasonAgainst_3 : decode cX5_reasonAgainst 3 = .ok (.if_icmp .ne 5, 3) := by decide +kernel
theorem dX5_reasonAgainst_6 : decode cX5_reasonAgainst 6 = .ok (.iconst 0, 1) := by decide +kernel
theorem dX5_reasonAgainst_7 : decode cX5_reasonAgainst 7 = .ok (.ireturn, 1) := by decide +kernel
theorem dX5_reasonAgainst_8 : decode cX5_reasonAgainst 8 = .ok (.aload_n 0, 1) := by decide +kernel
theorem dX5_reasonAgainst_9 : decode cX5_reasonAgainst 9 = .ok (.getfield 55, 3) := by decide +kernel
theorem dX5_reasonAgainst_12 : decode cX5_reasonAgainst 12 = .ok (.aload_n 1, 1) := by decide +kernel
theorem dX5_reasonAgainst_13 : decode cX5_reasonAgainst 13 = .ok (.invokevirtual 184, 3) := by decide +kernel
theorem dX5_reasonAgainst_16 : decode cX5_reasonAgainst 16 = .ok (.aload_n 0, 1) := by decide +kernel
theorem dX5_reasonAgainst_17 : decode cX5_reasonAgainst 17 = .ok (.getfield 55, 3) := by decide +kernel
theorem dX5_reasonAgainst_20 : decode cX5_reasonAgainst 20 = .ok (.iload_n 2, 1) := by decide +kernel
theorem dX5_reasonAgainst_21 : decode cX5_reasonAgainst 21 = .ok (.invokevirtual 188, 3) := by decide +kernel
theorem dX5_reasonAgainst_24 : decode cX5_reasonAgainst 24 = .ok (.aload_n 0, 1) := by decide +kernel
theorem dX5_reasonAgainst_25 : decode cX5_reasonAgainst 25 = .ok (.aload_n 0, 1) := by decide +kernel
theorem dX5_reasonAgainst_26 : decode cX5_reasonAgainst 26 = .ok (.getfield 55, 3) := by decide +kernel
theorem dX5_reasonAgainst_29 : decode cX5_reasonAgainst 29 = .ok (.iload_n 2, 1) := by decide +kernel
theorem dX5_reasonAgainst_30 : decode cX5_reasonAgainst 30 = .ok (.iconst 3, 1) := by decide +kernel
theorem dX5_reasonAgainst_31 : decode cX5_reasonAgainst 31 = .ok (.if_icmp .gt 7, 3) := by decide +kernel
theorem dX5_reasonAgainst_34 : decode cX5_reasonAgainst 34 = .ok (.iconst 1, 1) := by decide +kernel
theorem dX5_reasonAgainst_35 : decode cX5_reasonAgainst 35 = .ok (.goto 4, 3) := by decide +kernel
theorem dX5_reasonAgainst_38 : decode cX5_reasonAgainst 38 = .ok (.iconst 0, 1) := by decide +kernel
theorem dX5_reasonAgainst_39 : decode cX5_reasonAgainst 39 = .ok (.aload_n 0, 1) := by decide +kernel
theorem dX5_reasonAgainst_40 : decode cX5_reasonAgainst 40 = .ok (.aload_n 1, 1) := by decide +kernel
theorem dX5_reasonAgainst_41 : decode cX5_reasonAgainst 41 = .ok (.invokevirtual 156, 3) := by decide +kernel
theorem dX5_reasonAgainst_44 : decode cX5_reasonAgainst 44 = .ok (.invokevirtual 192, 3) := by decide +kernel
theorem dX5_reasonAgainst_47 : decode cX5_reasonAgainst 47 = .ok (.istore_n 3, 1) := by decide +kernel
theorem dX5_reasonAgainst_48 : decode cX5_reasonAgainst 48 = .ok (.iload_n 3, 1) := by decide +kernel
theorem dX5_reasonAgainst_49 : decode cX5_reasonAgainst 49 = .ok (.iconst 1, 1) := by decide +kernel
theorem dX5_reasonAgainst_50 : decode cX5_reasonAgainst 50 = .ok (.if_icmp .ne 5, 3) := by decide +kernel
theorem dX5_reasonAgainst_53 : decode cX5_reasonAgainst 53 = .ok (.iconst 1, 1) := by decide +kernel
theorem dX5_reasonAgainst_54 : decode cX5_reasonAgainst 54 = .ok (.ireturn, 1) := by decide +kernel
theorem dX5_reasonAgainst_55 : decode cX5_reasonAgainst 55 = .ok (.aload_n 0, 1) := by decide +kernel
theorem dX5_reasonAgainst_56 : decode cX5_reasonAgainst 56 = .ok (.invokevirtual 196, 3) := by decide +kernel
theorem dX5_reasonAgainst_59 : decode cX5_reasonAgainst 59 = .ok (.bipush 6, 2) := by decide +kernel
theorem dX5_reasonAgainst_61 : decode cX5_reasonAgainst 61 = .ok (.if_icmp .le 5, 3) := by decide +kernel
theorem dX5_reasonAgainst_64 : decode cX5_reasonAgainst 64 = .ok (.iconst 2, 1) := by decide +kernel
theorem dX5_reasonAgainst_65 : decode cX5_reasonAgainst 65 = .ok (.ireturn, 1) := by decide +kernel
theorem dX5_reasonAgainst_66 : decode cX5_reasonAgainst 66 = .ok (.aload_n 1, 1) := by decide +kernel
theorem dX5_reasonAgainst_67 : decode cX5_reasonAgainst 67 = .ok (.getfield 198, 3) := by decide +kernel
theorem dX5_reasonAgainst_70 : decode cX5_reasonAgainst 70 = .ok (.bipush 30, 2) := by decide +kernel
theorem dX5_reasonAgainst_72 : decode cX5_reasonAgainst 72 = .ok (.if_icmp .lt 7, 3) := by decide +kernel
theorem dX5_reasonAgainst_75 : decode cX5_reasonAgainst 75 = .ok (.iconst 3, 1) := by decide +kernel
theorem dX5_reasonAgainst_76 : decode cX5_reasonAgainst 76 = .ok (.goto 4, 3) := by decide +kernel
theorem dX5_reasonAgainst_79 : decode cX5_reasonAgainst 79 = .ok (.iload_n 3, 1) := by decide +kernel
theorem dX5_reasonAgainst_80 : decode cX5_reasonAgainst 80 = .ok (.ireturn, 1) := by decide +kernel
theorem dX5_take_0 : decode cX5_take 0 = .ok (.aload_n 1, 1) := by decide +kernel
theorem dX5_take_1 : decode cX5_take 1 = .ok (.iload_n 2, 1) := by decide +kernel
theorem dX5_take_2 : decode cX5_take 2 = .ok (.invokevirtual 188, 3) := by decide +kernel
theorem dX5_take_5 : decode cX5_take 5 = .ok (.aload_n 1, 1) := by decide +kernel
theorem dX5_take_6 : decode cX5_take 6 = .ok (.iload_n 2, 1) := by decide +kernel
theorem dX5_take_7 : decode cX5_take 7 = .ok (.invokevirtual 201, 3) := by decide +kernel
theorem dX5_take_10 : decode cX5_take 10 = .ok (.aload_n 0, 1) := by decide +kernel
theorem dX5_take_11 : decode cX5_take 11 = .ok (.dup, 1) := by decide +kernel
theorem dX5_take_12 : decode cX5_take 12 = .ok (.getfield 36, 3) := by decide +kernel
theorem dX5_take_15 : decode cX5_take 15 = .ok (.iconst 1, 1) := by decide +kernel
theorem dX5_take_16 : decode cX5_take 16 = .ok (.iadd, 1) := by decide +kernel
theorem dX5_take_17 : decode cX5_take 17 = .ok (.putfield 36, 3) := by decide +kernel
theorem dX5_take_20 : decode cX5_take 20 = .ok (.aload_n 0, 1) := by decide +kernel
theorem dX5_take_21 : decode cX5_take 21 = .ok (.dup, 1) := by decide +kernel
theorem dX5_take_22 : decode cX5_take 22 = .ok (.getfield 40, 3) := by decide +kernel
theorem dX5_take_25 : decode cX5_take 25 = .ok (.iconst 1, 1) := by decide +kernel
theorem dX5_take_26 : decode cX5_take 26 = .ok (.iadd, 1) := by decide +kernel
theorem dX5_take_27 : decode cX5_take 27 = .ok (.putfield 40, 3) := by decide +kernel
theorem dX5_take_30 : decode cX5_take 30 = .ok (.iload_n 2, 1) := by decide +kernel
theorem dX5_take_31 : decode cX5_take 31 = .ok (.bipush 6, 2) := by decide +kernel
theorem dX5_take_33 : decode cX5_take 33 = .ok (.if_icmp .eq 17, 3) := by decide +kernel
theorem dX5_take_36 : decode cX5_take 36 = .ok (.aload_n 1, 1) := by decide +kernel
theorem dX5_take_37 : decode cX5_take 37 = .ok (.dup, 1) := by decide +kernel
theorem dX5_take_38 : decode cX5_take 38 = .ok (.getfield 165, 3) := by decide +kernel
theorem dX5_take_41 : decode cX5_take 41 = .ok (.aload_n 0, 1) := by decide +kernel
theorem dX5_take_42 : decode cX5_take 42 = .ok (.aload_n 1, 1) := by decide +kernel
theorem dX5_take_43 : decode cX5_take 43 = .ok (.invokevirtual 204, 3) := by decide +kernel
theorem dX5_take_46 : decode cX5_take 46 = .ok (.iadd, 1) := by decide +kernel
theorem dX5_take_47 : decode cX5_take 47 = .ok (.putfield 165, 3) := by decide +kernel
theorem dX5_take_50 : decode cX5_take 50 = .ok (.return_, 1) := by decide +kernel
theorem dX5_missesNow_0 : decode cX5_missesNow 0 = .ok (.iconst 0, 1) := by decide +kernel
theorem dX5_missesNow_1 : decode cX5_missesNow 1 = .ok (.istore_n 2, 1) := by decide +kernel
theorem dX5_missesNow_2 : decode cX5_missesNow 2 = .ok (.iconst 0, 1) := by decide +kernel
theorem dX5_missesNow_3 : decode cX5_missesNow 3 = .ok (.istore_n 3, 1) := by decide +kernel
theorem dX5_missesNow_4 : decode cX5_missesNow 4 = .ok (.iload_n 3, 1) := by decide +kernel
theorem dX5_missesNow_5 : decode cX5_missesNow 5 = .ok (.aload_n 0, 1) := by decide +kernel
theorem dX5_missesNow_6 : decode cX5_missesNow 6 = .ok (.getfield 21, 3) := by decide +kernel
theorem dX5_missesNow_9 : decode cX5_missesNow 9 = .ok (.invokevirtual 68, 3) := by decide +kernel
theorem dX5_missesNow_12 : decode cX5_missesNow 12 = .ok (.if_icmp .ge 51, 3) := by decide +kernel
theorem dX5_missesNow_15 : decode cX5_missesNow 15 = .ok (.aload_n 0, 1) := by decide +kernel
theorem dX5_missesNow_16 : decode cX5_missesNow 16 = .ok (.getfield 21, 3) := by decide +kernel
theorem dX5_missesNow_19 : decode cX5_missesNow 19 = .ok (.iload_n 3, 1) := by decide +kernel
theorem dX5_missesNow_20 : decode cX5_missesNow 20 = .ok (.invokevirtual 72, 3) := by decide +kernel
theorem dX5_missesNow_23 : decode cX5_missesNow 23 = .ok (.checkcast 50, 3) := by decide +kernel
theorem dX5_missesNow_26 : decode cX5_missesNow 26 = .ok (.astore 4, 2) := by decide +kernel
theorem dX5_missesNow_28 : decode cX5_missesNow 28 = .ok (.aload 4, 2) := by decide +kernel
theorem dX5_missesNow_30 : decode cX5_missesNow 30 = .ok (.aload_n 1, 1) := by decide +kernel
theorem dX5_missesNow_31 : decode cX5_missesNow 31 = .ok (.if_acmp .eq 26, 3) := by decide +kernel
theorem dX5_missesNow_34 : decode cX5_missesNow 34 = .ok (.aload_n 1, 1) := by decide +kernel
theorem dX5_missesNow_35 : decode cX5_missesNow 35 = .ok (.aload 4, 2) := by decide +kernel
theorem dX5_missesNow_37 : decode cX5_missesNow 37 = .ok (.iconst 1, 1) := by decide +kernel
theorem dX5_missesNow_38 : decode cX5_missesNow 38 = .ok (.invokevirtual 152, 3) := by decide +kernel
theorem dX5_missesNow_41 : decode cX5_missesNow 41 = .ok (.ifCond .ne 16, 3) := by decide +kernel
theorem dX5_missesNow_44 : decode cX5_missesNow 44 = .ok (.aload_n 1, 1) := by decide +kernel
theorem dX5_missesNow_45 : decode cX5_missesNow 45 = .ok (.aload 4, 2) := by decide +kernel
theorem dX5_missesNow_47 : decode cX5_missesNow 47 = .ok (.iconst 2, 1) := by decide +kernel
theorem dX5_missesNow_48 : decode cX5_missesNow 48 = .ok (.invokevirtual 152, 3) := by decide +kernel
theorem dX5_missesNow_51 : decode cX5_missesNow 51 = .ok (.ifCond .eq 6, 3) := by decide +kernel
theorem dX5_missesNow_54 : decode cX5_missesNow 54 = .ok (.iinc 2 1, 3) := by decide +kernel
theorem dX5_missesNow_57 : decode cX5_missesNow 57 = .ok (.iinc 3 1, 3) := by decide +kernel
theorem dX5_missesNow_60 : decode cX5_missesNow 60 = .ok (.goto (-56), 3) := by decide +kernel
theorem dX5_missesNow_63 : decode cX5_missesNow 63 = .ok (.iload_n 2, 1) := by decide +kernel
theorem dX5_missesNow_64 : decode cX5_missesNow 64 = .ok (.ireturn, 1) := by decide +kernel
theorem dX5_idle_0 : decode cX5_idle 0 = .ok (.aload_n 0, 1) := by decide +kernel
theorem dX5_idle_1 : decode cX5_idle 1 = .ok (.dup, 1) := by decide +kernel
theorem dX5_idle_2 : decode cX5_idle 2 = .ok (.getfield 36, 3) := by decide +kernel
theorem dX5_idle_5 : decode cX5_idle 5 = .ok (.iload_n 1, 1) := by decide +kernel
theorem dX5_idle_6 : decode cX5_idle 6 = .ok (.iadd, 1) := by decide +kernel
theorem dX5_idle_7 : decode cX5_idle 7 = .ok (.putfield 36, 3) := by decide +kernel
theorem dX5_idle_10 : decode cX5_idle 10 = .ok (.iconst 0, 1) := by decide +kernel
theorem dX5_idle_11 : decode cX5_idle 11 = .ok (.istore_n 2, 1) := by decide +kernel
theorem dX5_idle_12 : decode cX5_idle 12 = .ok (.iload_n 2, 1) := by decide +kernel
theorem dX5_idle_13 : decode cX5_idle 13 = .ok (.aload_n 0, 1) := by decide +kernel
theorem dX5_idle_14 : decode cX5_idle 14 = .ok (.getfield 21, 3) := by decide +kernel
theorem dX5_idle_17 : decode cX5_idle 17 = .ok (.invokevirtual 68, 3) := by decide +kernel
theorem dX5_idle_20 : decode cX5_idle 20 = .ok (.if_icmp .ge 24, 3) := by decide +kernel
theorem dX5_idle_23 : decode cX5_idle 23 = .ok (.aload_n 0, 1) := by decide +kernel
theorem dX5_idle_24 : decode cX5_idle 24 = .ok (.getfield 21, 3) := by decide +kernel
theorem dX5_idle_27 : decode cX5_idle 27 = .ok (.iload_n 2, 1) := by decide +kernel
theorem dX5_idle_28 : decode cX5_idle 28 = .ok (.invokevirtual 72, 3) := by decide +kernel
theorem dX5_idle_31 : decode cX5_idle 31 = .ok (.checkcast 50, 3) := by decide +kernel
theorem dX5_idle_34 : decode cX5_idle 34 = .ok (.iload_n 1, 1) := by decide +kernel
theorem dX5_idle_35 : decode cX5_idle 35 = .ok (.invokevirtual 207, 3) := by decide +kernel
theorem dX5_idle_38 : decode cX5_idle 38 = .ok (.iinc 2 1, 3) := by decide +kernel
theorem dX5_idle_41 : decode cX5_idle 41 = .ok (.goto (-29), 3) := by decide +kernel
theorem dX5_idle_44 : decode cX5_idle 44 = .ok (.return_, 1) := by decide +kernel
theorem dX5_turnToWind_0 : decode cX5_turnToWind 0 = .ok (.aload_n 0, 1) := by decide +kernel
theorem dX5_turnToWind_1 : decode cX5_turnToWind 1 = .ok (.invokevirtual 210, 3) := by decide +kernel
theorem dX5_turnToWind_4 : decode cX5_turnToWind 4 = .ok (.istore_n 1, 1) := by decide +kernel
theorem dX5_turnToWind_5 : decode cX5_turnToWind 5 = .ok (.iconst 0, 1) := by decide +kernel
theorem dX5_turnToWind_6 : decode cX5_turnToWind 6 = .ok (.istore_n 2, 1) := by decide +kernel
theorem dX5_turnToWind_7 : decode cX5_turnToWind 7 = .ok (.iconst 0, 1) := by decide +kernel
theorem dX5_turnToWind_8 : decode cX5_turnToWind 8 = .ok (.istore_n 3, 1) := by decide +kernel
theorem dX5_turnToWind_9 : decode cX5_turnToWind 9 = .ok (.iload_n 3, 1) := by decide +kernel
theorem dX5_turnToWind_10 : decode cX5_turnToWind 10 = .ok (.aload_n 0, 1) := by decide +kernel
theorem dX5_turnToWind_11 : decode cX5_turnToWind 11 = .ok (.getfield 21, 3) := by decide +kernel
theorem dX5_turnToWind_14 : decode cX5_turnToWind 14 = .ok (.invokevirtual 68, 3) := by decide +kernel
theorem dX5_turnToWind_17 : decode cX5_turnToWind 17 = .ok (.if_icmp .ge 83, 3) := by decide +kernel
theorem dX5_turnToWind_20 : decode cX5_turnToWind 20 = .ok (.aload_n 0, 1) := by decide +kernel
theorem dX5_turnToWind_21 : decode cX5_turnToWind 21 = .ok (.getfield 21, 3) := by decide +kernel
theorem dX5_turnToWind_24 : decode cX5_turnToWind 24 = .ok (.iload_n 3, 1) := by decide +kernel
theorem dX5_turnToWind_25 : decode cX5_turnToWind 25 = .ok (.invokevirtual 72, 3) := by decide +kernel
theorem dX5_turnToWind_28 : decode cX5_turnToWind 28 = .ok (.checkcast 50, 3) := by decide +kernel
theorem dX5_turnToWind_31 : decode cX5_turnToWind 31 = .ok (.astore 4, 2) := by decide +kernel
theorem dX5_turnToWind_33 : decode cX5_turnToWind 33 = .ok (.aload_n 0, 1) := by decide +kernel
theorem dX5_turnToWind_34 : decode cX5_turnToWind 34 = .ok (.getfield 55, 3) := by decide +kernel
theorem dX5_turnToWind_37 : decode cX5_turnToWind 37 = .ok (.aload 4, 2) := by decide +kernel
theorem dX5_turnToWind_39 : decode cX5_turnToWind 39 = .ok (.invokevirtual 184, 3) := by decide +kernel
theorem dX5_turnToWind_42 : decode cX5_turnToWind 42 = .ok (.aload_n 0, 1) := by decide +kernel
theorem dX5_turnToWind_43 : decode cX5_turnToWind 43 = .ok (.getfield 55, 3) := by decide +kernel
theorem dX5_turnToWind_46 : decode cX5_turnToWind 46 = .ok (.iload_n 1, 1) := by decide +kernel
theorem dX5_turnToWind_47 : decode cX5_turnToWind 47 = .ok (.invokevirtual 213, 3) := by decide +kernel
theorem dX5_turnToWind_50 : decode cX5_turnToWind 50 = .ok (.aload 4, 2) := by decide +kernel
theorem dX5_turnToWind_52 : decode cX5_turnToWind 52 = .ok (.getfield 131, 3) := by decide +kernel
theorem dX5_turnToWind_55 : decode cX5_turnToWind 55 = .ok (.ifnonnull 39, 3) := by decide +kernel
theorem dX5_turnToWind_58 : decode cX5_turnToWind 58 = .ok (.aload_n 0, 1) := by decide +kernel
theorem dX5_turnToWind_59 : decode cX5_turnToWind 59 = .ok (.aload_n 0, 1) := by decide +kernel
theorem dX5_turnToWind_60 : decode cX5_turnToWind 60 = .ok (.getfield 55, 3) := by decide +kernel
theorem dX5_turnToWind_63 : decode cX5_turnToWind 63 = .ok (.iconst 0, 1) := by decide +kernel
theorem dX5_turnToWind_64 : decode cX5_turnToWind 64 = .ok (.iconst (-1), 1) := by decide +kernel
theorem dX5_turnToWind_65 : decode cX5_turnToWind 65 = .ok (.invokevirtual 192, 3) := by decide +kernel
theorem dX5_turnToWind_68 : decode cX5_turnToWind 68 = .ok (.ifCond .ne 26, 3) := by decide +kernel
theorem dX5_turnToWind_71 : decode cX5_turnToWind 71 = .ok (.iload_n 2, 1) := by decide +kernel
theorem dX5_turnToWind_72 : decode cX5_turnToWind 72 = .ok (.aload 4, 2) := by decide +kernel
theorem dX5_turnToWind_74 : decode cX5_turnToWind 74 = .ok (.getfield 216, 3) := by decide +kernel
theorem dX5_turnToWind_77 : decode cX5_turnToWind 77 = .ok (.iload_n 1, 1) := by decide +kernel
theorem dX5_turnToWind_78 : decode cX5_turnToWind 78 = .ok (.if_icmp .ne 7, 3) := by decide +kernel
theorem dX5_turnToWind_81 : decode cX5_turnToWind 81 = .ok (.iconst 0, 1) := by decide +kernel
theorem dX5_turnToWind_82 : decode cX5_turnToWind 82 = .ok (.goto 4, 3) := by decide +kernel
theorem dX5_turnToWind_85 : decode cX5_turnToWind 85 = .ok (.iconst 1, 1) := by decide +kernel
theorem dX5_turnToWind_86 : decode cX5_turnToWind 86 = .ok (.iadd, 1) := by decide +kernel
theorem dX5_turnToWind_87 : decode cX5_turnToWind 87 = .ok (.istore_n 2, 1) := by decide +kernel
theorem dX5_turnToWind_88 : decode cX5_turnToWind 88 = .ok (.aload 4, 2) := by decide +kernel
theorem dX5_turnToWind_90 : decode cX5_turnToWind 90 = .ok (.iload_n 1, 1) := by decide +kernel
theorem dX5_turnToWind_91 : decode cX5_turnToWind 91 = .ok (.invokevirtual 213, 3) := by decide +kernel
theorem dX5_turnToWind_94 : decode cX5_turnToWind 94 = .ok (.iinc 3 1, 3) := by decide +kernel
theorem dX5_turnToWind_97 : decode cX5_turnToWind 97 = .ok (.goto (-88), 3) := by decide +kernel
theorem dX5_turnToWind_100 : decode cX5_turnToWind 100 = .ok (.iload_n 2, 1) := by decide +kernel
theorem dX5_turnToWind_101 : decode cX5_turnToWind 101 = .ok (.ireturn, 1) := by decide +kernel
theorem dX5_areCranesSound_0 : decode cX5_areCranesSound 0 = .ok (.iconst 0, 1) := by decide +kernel
theorem dX5_areCranesSound_1 : decode cX5_areCranesSound 1 = .ok (.istore_n 1, 1) := by decide +kernel
theorem dX5_areCranesSound_2 : decode cX5_areCranesSound 2 = .ok (.iload_n 1, 1) := by decide +kernel
theorem dX5_areCranesSound_3 : decode cX5_areCranesSound 3 = .ok (.aload_n 0, 1) := by decide +kernel
theorem dX5_areCranesSound_4 : decode cX5_areCranesSound 4 = .ok (.getfield 21, 3) := by decide +kernel
theorem dX5_areCranesSound_7 : decode cX5_areCranesSound 7 = .ok (.invokevirtual 68, 3) := by decide +kernel
theorem dX5_areCranesSound_10 : decode cX5_areCranesSound 10 = .ok (.if_icmp .ge 96, 3) := by decide +kernel
theorem dX5_areCranesSound_13 : decode cX5_areCranesSound 13 = .ok (.aload_n 0, 1) := by decide +kernel
theorem dX5_areCranesSound_14 : decode cX5_areCranesSound 14 = .ok (.getfield 21, 3) := by decide +kernel
theorem dX5_areCranesSound_17 : decode cX5_areCranesSound 17 = .ok (.iload_n 1, 1) := by decide +kernel
theorem dX5_areCranesSound_18 : decode cX5_areCranesSound 18 = .ok (.invokevirtual 72, 3) := by decide +kernel
theorem dX5_areCranesSound_21 : decode cX5_areCranesSound 21 = .ok (.checkcast 50, 3) := by decide +kernel
theorem dX5_areCranesSound_24 : decode cX5_areCranesSound 24 = .ok (.astore_n 2, 1) := by decide +kernel
theorem dX5_areCranesSound_25 : decode cX5_areCranesSound 25 = .ok (.aload_n 0, 1) := by decide +kernel
theorem dX5_areCranesSound_26 : decode cX5_areCranesSound 26 = .ok (.aload_n 2, 1) := by decide +kernel
theorem dX5_areCranesSound_27 : decode cX5_areCranesSound 27 = .ok (.getfield 107, 3) := by decide +kernel
theorem dX5_areCranesSound_30 : decode cX5_areCranesSound 30 = .ok (.invokevirtual 125, 3) := by decide +kernel
theorem dX5_areCranesSound_33 : decode cX5_areCranesSound 33 = .ok (.iload_n 1, 1) := by decide +kernel
theorem dX5_areCranesSound_34 : decode cX5_areCranesSound 34 = .ok (.if_icmp .ne 21, 3) := by decide +kernel
theorem dX5_areCranesSound_37 : decode cX5_areCranesSound 37 = .ok (.aload_n 0, 1) := by decide +kernel
theorem dX5_areCranesSound_38 : decode cX5_areCranesSound 38 = .ok (.getfield 46, 3) := by decide +kernel
theorem dX5_areCranesSound_41 : decode cX5_areCranesSound 41 = .ok (.aload_n 2, 1) := by decide +kernel
theorem dX5_areCranesSound_42 : decode cX5_areCranesSound 42 = .ok (.getfield 107, 3) := by decide +kernel
theorem dX5_areCranesSound_45 : decode cX5_areCranesSound 45 = .ok (.invokevirtual 138, 3) := by decide +kernel
theorem dX5_areCranesSound_48 : decode cX5_areCranesSound 48 = .ok (.ifCond .ne 7, 3) := by decide +kernel
theorem dX5_areCranesSound_51 : decode cX5_areCranesSound 51 = .ok (.iconst 1, 1) := by decide +kernel
theorem dX5_areCranesSound_52 : decode cX5_areCranesSound 52 = .ok (.goto 4, 3) := by decide +kernel
theorem dX5_areCranesSound_55 : decode cX5_areCranesSound 55 = .ok (.iconst 0, 1) := by decide +kernel
theorem dX5_areCranesSound_56 : decode cX5_areCranesSound 56 = .ok (.istore_n 3, 1) := by decide +kernel
theorem dX5_areCranesSound_57 : decode cX5_areCranesSound 57 = .ok (.aload_n 2, 1) := by decide +kernel
theorem dX5_areCranesSound_58 : decode cX5_areCranesSound 58 = .ok (.getfield 131, 3) := by decide +kernel
theorem dX5_areCranesSound_61 : decode cX5_areCranesSound 61 = .ok (.ifnull 14, 3) := by decide +kernel
theorem dX5_areCranesSound_64 : decode cX5_areCranesSound 64 = .ok (.aload_n 2, 1) := by decide +kernel
theorem dX5_areCranesSound_65 : decode cX5_areCranesSound 65 = .ok (.getfield 131, 3) := by decide +kernel
theorem dX5_areCranesSound_68 : decode cX5_areCranesSound 68 = .ok (.getfield 115, 3) := by decide +kernel
theorem dX5_areCranesSound_71 : decode cX5_areCranesSound 71 = .ok (.aload_n 2, 1) := by decide +kernel
theorem dX5_areCranesSound_72 : decode cX5_areCranesSound 72 = .ok (.if_acmp .ne 7, 3) := by decide +kernel
theorem dX5_areCranesSound_75 : decode cX5_areCranesSound 75 = .ok (.iconst 1, 1) := by decide +kernel
theorem dX5_areCranesSound_76 : decode cX5_areCranesSound 76 = .ok (.goto 4, 3) := by decide +kernel
theorem dX5_areCranesSound_79 : decode cX5_areCranesSound 79 = .ok (.iconst 0, 1) := by decide +kernel
theorem dX5_areCranesSound_80 : decode cX5_areCranesSound 80 = .ok (.istore 4, 2) := by decide +kernel
theorem dX5_areCranesSound_82 : decode cX5_areCranesSound 82 = .ok (.iload_n 3, 1) := by decide +kernel
theorem dX5_areCranesSound_83 : decode cX5_areCranesSound 83 = .ok (.ifCond .eq 15, 3) := by decide +kernel
theorem dX5_areCranesSound_86 : decode cX5_areCranesSound 86 = .ok (.iload 4, 2) := by decide +kernel
theorem dX5_areCranesSound_88 : decode cX5_areCranesSound 88 = .ok (.ifCond .eq 10, 3) := by decide +kernel
theorem dX5_areCranesSound_91 : decode cX5_areCranesSound 91 = .ok (.aload_n 2, 1) := by decide +kernel
theorem dX5_areCranesSound_92 : decode cX5_areCranesSound 92 = .ok (.invokevirtual 223, 3) := by decide +kernel
theorem dX5_areCranesSound_95 : decode cX5_areCranesSound 95 = .ok (.ifCond .ne 5, 3) := by decide +kernel
theorem dX5_areCranesSound_98 : decode cX5_areCranesSound 98 = .ok (.iconst 0, 1) := by decide +kernel
theorem dX5_areCranesSound_99 : decode cX5_areCranesSound 99 = .ok (.ireturn, 1) := by decide +kernel
theorem dX5_areCranesSound_100 : decode cX5_areCranesSound 100 = .ok (.iinc 1 1, 3) := by decide +kernel
theorem dX5_areCranesSound_103 : decode cX5_areCranesSound 103 = .ok (.goto (-101), 3) := by decide +kernel
theorem dX5_areCranesSound_106 : decode cX5_areCranesSound 106 = .ok (.iconst 1, 1) := by decide +kernel
theorem dX5_areCranesSound_107 : decode cX5_areCranesSound 107 = .ok (.ireturn, 1) := by decide +kernel
theorem dX5_areLoadsSound_0 : decode cX5_areLoadsSound 0 = .ok (.iconst 0, 1) := by decide +kernel
theorem dX5_areLoadsSound_1 : decode cX5_areLoadsSound 1 = .ok (.istore_n 1, 1) := by decide +kernel
theorem dX5_areLoadsSound_2 : decode cX5_areLoadsSound 2 = .ok (.iload_n 1, 1) := by decide +kernel
theorem dX5_areLoadsSound_3 : decode cX5_areLoadsSound 3 = .ok (.aload_n 0, 1) := by decide +kernel
theorem dX5_areLoadsSound_4 : decode cX5_areLoadsSound 4 = .ok (.getfield 24, 3) := by decide +kernel
theorem dX5_areLoadsSound_7 : decode cX5_areLoadsSound 7 = .ok (.invokevirtual 68, 3) := by decide +kernel
theorem dX5_areLoadsSound_10 : decode cX5_areLoadsSound 10 = .ok (.if_icmp .ge 41, 3) := by decide +kernel
theorem dX5_areLoadsSound_13 : decode cX5_areLoadsSound 13 = .ok (.aload_n 0, 1) := by decide +kernel
theorem dX5_areLoadsSound_14 : decode cX5_areLoadsSound 14 = .ok (.getfield 24, 3) := by decide +kernel
theorem dX5_areLoadsSound_17 : decode cX5_areLoadsSound 17 = .ok (.iload_n 1, 1) := by decide +kernel
theorem dX5_areLoadsSound_18 : decode cX5_areLoadsSound 18 = .ok (.invokevirtual 72, 3) := by decide +kernel
theorem dX5_areLoadsSound_21 : decode cX5_areLoadsSound 21 = .ok (.checkcast 110, 3) := by decide +kernel
theorem dX5_areLoadsSound_24 : decode cX5_areLoadsSound 24 = .ok (.astore_n 2, 1) := by decide +kernel
theorem dX5_areLoadsSound_25 : decode cX5_areLoadsSound 25 = .ok (.aload_n 2, 1) := by decide +kernel
theorem dX5_areLoadsSound_26 : decode cX5_areLoadsSound 26 = .ok (.getfield 115, 3) := by decide +kernel
theorem dX5_areLoadsSound_29 : decode cX5_areLoadsSound 29 = .ok (.ifnull 16, 3) := by decide +kernel
theorem dX5_areLoadsSound_32 : decode cX5_areLoadsSound 32 = .ok (.aload_n 2, 1) := by decide +kernel
theorem dX5_areLoadsSound_33 : decode cX5_areLoadsSound 33 = .ok (.getfield 115, 3) := by decide +kernel
theorem dX5_areLoadsSound_36 : decode cX5_areLoadsSound 36 = .ok (.getfield 131, 3) := by decide +kernel
theorem dX5_areLoadsSound_39 : decode cX5_areLoadsSound 39 = .ok (.aload_n 2, 1) := by decide +kernel
theorem dX5_areLoadsSound_40 : decode cX5_areLoadsSound 40 = .ok (.if_acmp .eq 5, 3) := by decide +kernel
theorem dX5_areLoadsSound_43 : decode cX5_areLoadsSound 43 = .ok (.iconst 0, 1) := by decide +kernel
theorem dX5_areLoadsSound_44 : decode cX5_areLoadsSound 44 = .ok (.ireturn, 1) := by decide +kernel
theorem dX5_areLoadsSound_45 : decode cX5_areLoadsSound 45 = .ok (.iinc 1 1, 3) := by decide +kernel
theorem dX5_areLoadsSound_48 : decode cX5_areLoadsSound 48 = .ok (.goto (-46), 3) := by decide +kernel
theorem dX5_areLoadsSound_51 : decode cX5_areLoadsSound 51 = .ok (.iconst 1, 1) := by decide +kernel
theorem dX5_areLoadsSound_52 : decode cX5_areLoadsSound 52 = .ok (.ireturn, 1) := by decide +kernel
theorem dX6_init_0 : decode cX6_init 0 = .ok (.aload_n 0, 1) := by decide +kernel
theorem dX6_init_1 : decode cX6_init 1 = .ok (.invokespecial 1, 3) := by decide +kernel
theorem dX6_init_4 : decode cX6_init 4 = .ok (.aload_n 0, 1) := by decide +kernel
theorem dX6_init_5 : decode cX6_init 5 = .ok (.iload_n 1, 1) := by decide +kernel
theorem dX6_init_6 : decode cX6_init 6 = .ok (.putfield 7, 3) := by decide +kernel
theorem dX6_init_9 : decode cX6_init 9 = .ok (.aload_n 0, 1) := by decide +kernel
theorem dX6_init_10 : decode cX6_init 10 = .ok (.iload_n 2, 1) := by decide +kernel
theorem dX6_init_11 : decode cX6_init 11 = .ok (.putfield 13, 3) := by decide +kernel
theorem dX6_init_14 : decode cX6_init 14 = .ok (.aload_n 0, 1) := by decide +kernel
theorem dX6_init_15 : decode cX6_init 15 = .ok (.iload_n 3, 1) := by decide +kernel
theorem dX6_init_16 : decode cX6_init 16 = .ok (.putfield 16, 3) := by decide +kernel
theorem dX6_init_19 : decode cX6_init 19 = .ok (.aload_n 0, 1) := by decide +kernel
theorem dX6_init_20 : decode cX6_init 20 = .ok (.iload 4, 2) := by decide +kernel
theorem dX6_init_22 : decode cX6_init 22 = .ok (.putfield 19, 3) := by decide +kernel
theorem dX6_init_25 : decode cX6_init 25 = .ok (.aload_n 0, 1) := by decide +kernel
theorem dX6_init_26 : decode cX6_init 26 = .ok (.iload 5, 2) := by decide +kernel
theorem dX6_init_28 : decode cX6_init 28 = .ok (.putfield 22, 3) := by decide +kernel
theorem dX6_init_31 : decode cX6_init 31 = .ok (.aload_n 0, 1) := by decide +kernel
theorem dX6_init_32 : decode cX6_init 32 = .ok (.iload 6, 2) := by decide +kernel
theorem dX6_init_34 : decode cX6_init 34 = .ok (.putfield 25, 3) := by decide +kernel
theorem dX6_init_37 : decode cX6_init 37 = .ok (.return_, 1) := by decide +kernel
theorem dX6_covers_0 : decode cX6_covers 0 = .ok (.iload_n 1, 1) := by decide +kernel
theorem dX6_covers_1 : decode cX6_covers 1 = .ok (.aload_n 0, 1) := by decide +kernel
theorem dX6_covers_2 : decode cX6_covers 2 = .ok (.getfield 7, 3) := by decide +kernel
theorem dX6_covers_5 : decode cX6_covers 5 = .ok (.if_icmp .lt 31, 3) := by decide +kernel
theorem dX6_covers_8 : decode cX6_covers 8 = .ok (.iload_n 1, 1) := by decide +kernel
theorem dX6_covers_9 : decode cX6_covers 9 = .ok (.aload_n 0, 1) := by decide +kernel
theorem dX6_covers_10 : decode cX6_covers 10 = .ok (.getfield 16, 3) := by decide +kernel
theorem dX6_covers_13 : decode cX6_covers 13 = .ok (.if_icmp .gt 23, 3) := by decide +kernel
theorem dX6_covers_16 : decode cX6_covers 16 = .ok (.iload_n 2, 1) := by decide +kernel
theorem dX6_covers_17 : decode cX6_covers 17 = .ok (.aload_n 0, 1) := by decide +kernel
theorem dX6_covers_18 : decode cX6_covers 18 = .ok (.getfield 13, 3) := by decide +kernel
theorem dX6_covers_21 : decode cX6_covers 21 = .ok (.if_icmp .lt 15, 3) := by decide +kernel
theorem dX6_covers_24 : decode cX6_covers 24 = .ok (.iload_n 2, 1) := by decide +kernel
theorem dX6_covers_25 : decode cX6_covers 25 = .ok (.aload_n 0, 1) := by decide +kernel
theorem dX6_covers_26 : decode cX6_covers 26 = .ok (.getfield 19, 3) := by decide +kernel
theorem dX6_covers_29 : decode cX6_covers 29 = .ok (.if_icmp .gt 7, 3) := by decide +kernel
theorem dX6_covers_32 : decode cX6_covers 32 = .ok (.iconst 1, 1) := by decide +kernel
theorem dX6_covers_33 : decode cX6_covers 33 = .ok (.goto 4, 3) := by decide +kernel
theorem dX6_covers_36 : decode cX6_covers 36 = .ok (.iconst 0, 1) := by decide +kernel
theorem dX6_covers_37 : decode cX6_covers 37 = .ok (.ireturn, 1) := by decide +kernel
theorem dX6_isShutAt_0 : decode cX6_isShutAt 0 = .ok (.aload_n 0, 1) := by decide +kernel
theorem dX6_isShutAt_1 : decode cX6_isShutAt 1 = .ok (.getfield 22, 3) := by decide +kernel
theorem dX6_isShutAt_4 : decode cX6_isShutAt 4 = .ok (.aload_n 0, 1) := by decide +kernel
theorem dX6_isShutAt_5 : decode cX6_isShutAt 5 = .ok (.getfield 25, 3) := by decide +kernel
theorem dX6_isShutAt_8 : decode cX6_isShutAt 8 = .ok (.if_icmp .le 25, 3) := by decide +kernel
theorem dX6_isShutAt_11 : decode cX6_isShutAt 11 = .ok (.iload_n 1, 1) := by decide +kernel
theorem dX6_isShutAt_12 : decode cX6_isShutAt 12 = .ok (.aload_n 0, 1) := by decide +kernel
theorem dX6_isShutAt_13 : decode cX6_isShutAt 13 = .ok (.getfield 22, 3) := by decide +kernel
theorem dX6_isShutAt_16 : decode cX6_isShutAt 16 = .ok (.if_icmp .ge 11, 3) := by decide +kernel
theorem dX6_isShutAt_19 : decode cX6_isShutAt 19 = .ok (.iload_n 1, 1) := by decide +kernel
theorem dX6_isShutAt_20 : decode cX6_isShutAt 20 = .ok (.aload_n 0, 1) := by decide +kernel
theorem dX6_isShutAt_21 : decode cX6_isShutAt 21 = .ok (.getfield 25, 3) := by decide +kernel
theorem dX6_isShutAt_24 : decode cX6_isShutAt 24 = .ok (.if_icmp .gt 7, 3) := by decide +kernel
theorem dX6_isShutAt_27 : decode cX6_isShutAt 27 = .ok (.iconst 1, 1) := by decide +kernel
theorem dX6_isShutAt_28 : decode cX6_isShutAt 28 = .ok (.goto 4, 3) := by decide +kernel
theorem dX6_isShutAt_31 : decode cX6_isShutAt 31 = .ok (.iconst 0, 1) := by decide +kernel
theorem dX6_isShutAt_32 : decode cX6_isShutAt 32 = .ok (.ireturn, 1) := by decide +kernel
theorem dX6_isShutAt_33 : decode cX6_isShutAt 33 = .ok (.iload_n 1, 1) := by decide +kernel
theorem dX6_isShutAt_34 : decode cX6_isShutAt 34 = .ok (.aload_n 0, 1) := by decide +kernel
theorem dX6_isShutAt_35 : decode cX6_isShutAt 35 = .ok (.getfield 22, 3) := by decide +kernel
theorem dX6_isShutAt_38 : decode cX6_isShutAt 38 = .ok (.if_icmp .lt 15, 3) := by decide +kernel
theorem dX6_isShutAt_41 : decode cX6_isShutAt 41 = .ok (.iload_n 1, 1) := by decide +kernel
theorem dX6_isShutAt_42 : decode cX6_isShutAt 42 = .ok (.aload_n 0, 1) := by decide +kernel
theorem dX6_isShutAt_43 : decode cX6_isShutAt 43 = .ok (.getfield 25, 3) := by decide +kernel
theorem dX6_isShutAt_46 : decode cX6_isShutAt 46 = .ok (.if_icmp .gt 7, 3) := by decide +kernel
theorem dX6_isShutAt_49 : decode cX6_isShutAt 49 = .ok (.iconst 1, 1) := by decide +kernel
theorem dX6_isShutAt_50 : decode cX6_isShutAt 50 = .ok (.goto 4, 3) := by decide +kernel
theorem dX6_isShutAt_53 : decode cX6_isShutAt 53 = .ok (.iconst 0, 1) := by decide +kernel
theorem dX6_isShutAt_54 : decode cX6_isShutAt 54 = .ok (.ireturn, 1) := by decide +kernel
theorem dX7_init_0 : decode cX7_init 0 = .ok (.aload_n 0, 1) := by decide +kernel
theorem dX7_init_1 : decode cX7_init 1 = .ok (.invokespecial 3, 3) := by decide +kernel
theorem dX7_init_4 : decode cX7_init 4 = .ok (.new 9, 3) := by decide +kernel
theorem dX7_init_7 : decode cX7_init 7 = .ok (.dup, 1) := by decide +kernel
theorem dX7_init_8 : decode cX7_init 8 = .ok (.new 11, 3) := by decide +kernel
theorem dX7_init_11 : decode cX7_init 11 = .ok (.dup, 1) := by decide +kernel
theorem dX7_init_12 : decode cX7_init 12 = .ok (.invokespecial 13, 3) := by decide +kernel
theorem dX7_init_15 : decode cX7_init 15 = .ok (.invokespecial 14, 3) := by decide +kernel
theorem dX7_init_18 : decode cX7_init 18 = .ok (.astore_n 1, 1) := by decide +kernel
theorem dX7_init_19 : decode cX7_init 19 = .ok (.aload_n 0, 1) := by decide +kernel
theorem dX7_init_20 : decode cX7_init 20 = .ok (.aload_n 1, 1) := by decide +kernel
theorem dX7_init_21 : decode cX7_init 21 = .ok (.putfield 17, 3) := by decide +kernel
theorem dX7_init_24 : decode cX7_init 24 = .ok (.aload_n 0, 1) := by decide +kernel
theorem dX7_init_25 : decode cX7_init 25 = .ok (.new 21, 3) := by decide +kernel
theorem dX7_init_28 : decode cX7_init 28 = .ok (.dup, 1) := by decide +kernel
theorem dX7_init_29 : decode cX7_init 29 = .ok (.aload_n 1, 1) := by decide +kernel
theorem dX7_init_30 : decode cX7_init 30 = .ok (.invokespecial 23, 3) := by decide +kernel
theorem dX7_init_33 : decode cX7_init 33 = .ok (.putfield 26, 3) := by decide +kernel
theorem dX7_init_36 : decode cX7_init 36 = .ok (.aload_n 0, 1) := by decide +kernel
theorem dX7_init_37 : decode cX7_init 37 = .ok (.iconst 0, 1) := by decide +kernel
theorem dX7_init_38 : decode cX7_init 38 = .ok (.putfield 30, 3) := by decide +kernel
theorem dX7_init_41 : decode cX7_init 41 = .ok (.return_, 1) := by decide +kernel
theorem dX7_yard_0 : decode cX7_yard 0 = .ok (.iload_n 1, 1) := by decide +kernel
theorem dX7_yard_1 : decode cX7_yard 1 = .ok (.bipush 6, 2) := by decide +kernel
theorem dX7_yard_3 : decode cX7_yard 3 = .ok (.bipush 14, 2) := by decide +kernel
theorem dX7_yard_5 : decode cX7_yard 5 = .ok (.invokestatic 34, 3) := by decide +kernel
theorem dX7_yard_8 : decode cX7_yard 8 = .ok (.iload_n 2, 1) := by decide +kernel
theorem dX7_yard_9 : decode cX7_yard 9 = .ok (.bipush 6, 2) := by decide +kernel
theorem dX7_yard_11 : decode cX7_yard 11 = .ok (.bipush 14, 2) := by decide +kernel
theorem dX7_yard_13 : decode cX7_yard 13 = .ok (.invokestatic 34, 3) := by decide +kernel
theorem dX7_yard_16 : decode cX7_yard 16 = .ok (.aload_n 0, 1) := by decide +kernel
theorem dX7_yard_17 : decode cX7_yard 17 = .ok (.getfield 17, 3) := by decide +kernel
theorem dX7_yard_20 : decode cX7_yard 20 = .ok (.iload_n 1, 1) := by decide +kernel
theorem dX7_yard_21 : decode cX7_yard 21 = .ok (.iload_n 2, 1) := by decide +kernel
theorem dX7_yard_22 : decode cX7_yard 22 = .ok (.invokevirtual 38, 3) := by decide +kernel
theorem dX7_yard_25 : decode cX7_yard 25 = .ok (.aload_n 0, 1) := by decide +kernel
theorem dX7_yard_26 : decode cX7_yard 26 = .ok (.getfield 17, 3) := by decide +kernel
theorem dX7_yard_29 : decode cX7_yard 29 = .ok (.getfield 42, 3) := by decide +kernel
theorem dX7_yard_32 : decode cX7_yard 32 = .ok (.invokevirtual 46, 3) := by decide +kernel
theorem dX7_yard_35 : decode cX7_yard 35 = .ok (.ireturn, 1) := by decide +kernel
theorem dX7_level_0 : decode cX7_level 0 = .ok (.aload_n 0, 1) := by decide +kernel
theorem dX7_level_1 : decode cX7_level 1 = .ok (.iload_n 1, 1) := by decide +kernel
theorem dX7_level_2 : decode cX7_level 2 = .ok (.invokevirtual 50, 3) := by decide +kernel
theorem dX7_level_5 : decode cX7_level 5 = .ok (.iload_n 2, 1) := by decide +kernel
theorem dX7_level_6 : decode cX7_level 6 = .ok (.iconst 0, 1) := by decide +kernel
theorem dX7_level_7 : decode cX7_level 7 = .ok (.bipush 20, 2) := by decide +kernel
theorem dX7_level_9 : decode cX7_level 9 = .ok (.invokestatic 34, 3) := by decide +kernel
theorem dX7_level_12 : decode cX7_level 12 = .ok (.aload_n 0, 1) := by decide +kernel
theorem dX7_level_13 : decode cX7_level 13 = .ok (.getfield 17, 3) := by decide +kernel
theorem dX7_level_16 : decode cX7_level 16 = .ok (.iload_n 1, 1) := by decide +kernel
theorem dX7_level_17 : decode cX7_level 17 = .ok (.iload_n 2, 1) := by decide +kernel
theorem dX7_level_18 : decode cX7_level 18 = .ok (.invokevirtual 54, 3) := by decide +kernel
theorem dX7_level_21 : decode cX7_level 21 = .ok (.ifCond .ne 13, 3) := by decide +kernel
theorem dX7_level_24 : decode cX7_level 24 = .ok (.new 58, 3) := by decide +kernel
theorem dX7_level_27 : decode cX7_level 27 = .ok (.dup, 1) := by decide +kernel
theorem dX7_level_28 : decode cX7_level 28 = .ok (.ldc 60, 2) := by decide +kernel
theorem dX7_level_30 : decode cX7_level 30 = .ok (.invokespecial 62, 3) := by decide +kernel
theorem dX7_level_33 : decode cX7_level 33 = .ok (.athrow, 1) := by decide +kernel
theorem dX7_level_34 : decode cX7_level 34 = .ok (.aload_n 0, 1) := by decide +kernel
theorem dX7_level_35 : decode cX7_level 35 = .ok (.getfield 17, 3) := by decide +kernel
theorem dX7_level_38 : decode cX7_level 38 = .ok (.getfield 42, 3) := by decide +kernel
theorem dX7_level_41 : decode cX7_level 41 = .ok (.iload_n 1, 1) := by decide +kernel
theorem dX7_level_42 : decode cX7_level 42 = .ok (.invokevirtual 65, 3) := by decide +kernel
theorem dX7_level_45 : decode cX7_level 45 = .ok (.istore_n 3, 1) := by decide +kernel
theorem dX7_level_46 : decode cX7_level 46 = .ok (.aload_n 0, 1) := by decide +kernel
theorem dX7_level_47 : decode cX7_level 47 = .ok (.getfield 17, 3) := by decide +kernel
end
section
theorem dX7_level_50 : decode cX7_level 50 = .ok (.getfield 42, 3) := by decide +kernel
theorem dX7_level_53 : decode cX7_level 53 = .ok (.iload_n 1, 1) := by decide +kernel
theorem dX7_level_54 : decode cX7_level 54 = .ok (.iload_n 2, 1) := by decide +kernel
theorem dX7_level_55 : decode cX7_level 55 = .ok (.invokevirtual 69, 3) := by decide +kernel
theorem dX7_level_58 : decode cX7_level 58 = .ok (.iload_n 3, 1) := by decide +kernel
theorem dX7_level_59 : decode cX7_level 59 = .ok (.ireturn, 1) := by decide +kernel
theorem dX7_wind_0 : decode cX7_wind 0 = .ok (.iload_n 1, 1) := by decide +kernel
theorem dX7_wind_1 : decode cX7_wind 1 = .ok (.iconst 0, 1) := by decide +kernel
theorem dX7_wind_2 : decode cX7_wind 2 = .ok (.sipush 600, 3) := by decide +kernel
theorem dX7_wind_5 : decode cX7_wind 5 = .ok (.invokestatic 34, 3) := by decide +kernel
theorem dX7_wind_8 : decode cX7_wind 8 = .ok (.iload_n 2, 1) := by decide +kernel
theorem dX7_wind_9 : decode cX7_wind 9 = .ok (.iconst 0, 1) := by decide +kernel
theorem dX7_wind_10 : decode cX7_wind 10 = .ok (.bipush 9, 2) := by decide +kernel
theorem dX7_wind_12 : decode cX7_wind 12 = .ok (.invokestatic 34, 3) := by decide +kernel
theorem dX7_wind_15 : decode cX7_wind 15 = .ok (.iload_n 3, 1) := by decide +kernel
theorem dX7_wind_16 : decode cX7_wind 16 = .ok (.iconst 0, 1) := by decide +kernel
theorem dX7_wind_17 : decode cX7_wind 17 = .ok (.bipush 7, 2) := by decide +kernel
theorem dX7_wind_19 : decode cX7_wind 19 = .ok (.invokestatic 34, 3) := by decide +kernel
theorem dX7_wind_22 : decode cX7_wind 22 = .ok (.aload_n 0, 1) := by decide +kernel
theorem dX7_wind_23 : decode cX7_wind 23 = .ok (.getfield 17, 3) := by decide +kernel
theorem dX7_wind_26 : decode cX7_wind 26 = .ok (.getfield 72, 3) := by decide +kernel
theorem dX7_wind_29 : decode cX7_wind 29 = .ok (.invokevirtual 76, 3) := by decide +kernel
theorem dX7_wind_32 : decode cX7_wind 32 = .ok (.bipush 12, 2) := by decide +kernel
theorem dX7_wind_34 : decode cX7_wind 34 = .ok (.if_icmp .lt 13, 3) := by decide +kernel
theorem dX7_wind_37 : decode cX7_wind 37 = .ok (.new 58, 3) := by decide +kernel
theorem dX7_wind_40 : decode cX7_wind 40 = .ok (.dup, 1) := by decide +kernel
theorem dX7_wind_41 : decode cX7_wind 41 = .ok (.ldc 81, 2) := by decide +kernel
theorem dX7_wind_43 : decode cX7_wind 43 = .ok (.invokespecial 62, 3) := by decide +kernel
theorem dX7_wind_46 : decode cX7_wind 46 = .ok (.athrow, 1) := by decide +kernel
theorem dX7_wind_47 : decode cX7_wind 47 = .ok (.aload_n 0, 1) := by decide +kernel
theorem dX7_wind_48 : decode cX7_wind 48 = .ok (.getfield 17, 3) := by decide +kernel
theorem dX7_wind_51 : decode cX7_wind 51 = .ok (.getfield 72, 3) := by decide +kernel
theorem dX7_wind_54 : decode cX7_wind 54 = .ok (.new 83, 3) := by decide +kernel
theorem dX7_wind_57 : decode cX7_wind 57 = .ok (.dup, 1) := by decide +kernel
theorem dX7_wind_58 : decode cX7_wind 58 = .ok (.iload_n 1, 1) := by decide +kernel
theorem dX7_wind_59 : decode cX7_wind 59 = .ok (.iload_n 2, 1) := by decide +kernel
theorem dX7_wind_60 : decode cX7_wind 60 = .ok (.iload_n 3, 1) := by decide +kernel
theorem dX7_wind_61 : decode cX7_wind 61 = .ok (.invokespecial 85, 3) := by decide +kernel
theorem dX7_wind_64 : decode cX7_wind 64 = .ok (.invokevirtual 87, 3) := by decide +kernel
theorem dX7_wind_67 : decode cX7_wind 67 = .ok (.pop, 1) := by decide +kernel
theorem dX7_wind_68 : decode cX7_wind 68 = .ok (.aload_n 0, 1) := by decide +kernel
theorem dX7_wind_69 : decode cX7_wind 69 = .ok (.getfield 17, 3) := by decide +kernel
theorem dX7_wind_72 : decode cX7_wind 72 = .ok (.getfield 72, 3) := by decide +kernel
theorem dX7_wind_75 : decode cX7_wind 75 = .ok (.invokevirtual 76, 3) := by decide +kernel
theorem dX7_wind_78 : decode cX7_wind 78 = .ok (.ireturn, 1) := by decide +kernel
theorem dX7_zone_0 : decode cX7_zone 0 = .ok (.aload_n 0, 1) := by decide +kernel
theorem dX7_zone_1 : decode cX7_zone 1 = .ok (.iload_n 1, 1) := by decide +kernel
theorem dX7_zone_2 : decode cX7_zone 2 = .ok (.invokevirtual 50, 3) := by decide +kernel
theorem dX7_zone_5 : decode cX7_zone 5 = .ok (.aload_n 0, 1) := by decide +kernel
theorem dX7_zone_6 : decode cX7_zone 6 = .ok (.getfield 17, 3) := by decide +kernel
theorem dX7_zone_9 : decode cX7_zone 9 = .ok (.getfield 42, 3) := by decide +kernel
theorem dX7_zone_12 : decode cX7_zone 12 = .ok (.iload_n 1, 1) := by decide +kernel
theorem dX7_zone_13 : decode cX7_zone 13 = .ok (.invokevirtual 91, 3) := by decide +kernel
theorem dX7_zone_16 : decode cX7_zone 16 = .ok (.istore 6, 2) := by decide +kernel
theorem dX7_zone_18 : decode cX7_zone 18 = .ok (.aload_n 0, 1) := by decide +kernel
theorem dX7_zone_19 : decode cX7_zone 19 = .ok (.getfield 17, 3) := by decide +kernel
theorem dX7_zone_22 : decode cX7_zone 22 = .ok (.getfield 42, 3) := by decide +kernel
theorem dX7_zone_25 : decode cX7_zone 25 = .ok (.iload_n 1, 1) := by decide +kernel
theorem dX7_zone_26 : decode cX7_zone 26 = .ok (.invokevirtual 94, 3) := by decide +kernel
theorem dX7_zone_29 : decode cX7_zone 29 = .ok (.istore 7, 2) := by decide +kernel
theorem dX7_zone_31 : decode cX7_zone 31 = .ok (.iload_n 2, 1) := by decide +kernel
theorem dX7_zone_32 : decode cX7_zone 32 = .ok (.iconst 1, 1) := by decide +kernel
theorem dX7_zone_33 : decode cX7_zone 33 = .ok (.aload_n 0, 1) := by decide +kernel
theorem dX7_zone_34 : decode cX7_zone 34 = .ok (.getfield 17, 3) := by decide +kernel
theorem dX7_zone_37 : decode cX7_zone 37 = .ok (.getfield 42, 3) := by decide +kernel
theorem dX7_zone_40 : decode cX7_zone 40 = .ok (.getfield 97, 3) := by decide +kernel
theorem dX7_zone_43 : decode cX7_zone 43 = .ok (.iload 7, 2) := by decide +kernel
theorem dX7_zone_45 : decode cX7_zone 45 = .ok (.isub, 1) := by decide +kernel
theorem dX7_zone_46 : decode cX7_zone 46 = .ok (.invokestatic 34, 3) := by decide +kernel
theorem dX7_zone_49 : decode cX7_zone 49 = .ok (.iload_n 3, 1) := by decide +kernel
theorem dX7_zone_50 : decode cX7_zone 50 = .ok (.iconst 1, 1) := by decide +kernel
theorem dX7_zone_51 : decode cX7_zone 51 = .ok (.aload_n 0, 1) := by decide +kernel
theorem dX7_zone_52 : decode cX7_zone 52 = .ok (.getfield 17, 3) := by decide +kernel
theorem dX7_zone_55 : decode cX7_zone 55 = .ok (.getfield 42, 3) := by decide +kernel
theorem dX7_zone_58 : decode cX7_zone 58 = .ok (.getfield 100, 3) := by decide +kernel
theorem dX7_zone_61 : decode cX7_zone 61 = .ok (.iload 6, 2) := by decide +kernel
theorem dX7_zone_63 : decode cX7_zone 63 = .ok (.isub, 1) := by decide +kernel
theorem dX7_zone_64 : decode cX7_zone 64 = .ok (.invokestatic 34, 3) := by decide +kernel
theorem dX7_zone_67 : decode cX7_zone 67 = .ok (.iload 4, 2) := by decide +kernel
theorem dX7_zone_69 : decode cX7_zone 69 = .ok (.iconst 0, 1) := by decide +kernel
theorem dX7_zone_70 : decode cX7_zone 70 = .ok (.bipush 23, 2) := by decide +kernel
theorem dX7_zone_72 : decode cX7_zone 72 = .ok (.invokestatic 34, 3) := by decide +kernel
theorem dX7_zone_75 : decode cX7_zone 75 = .ok (.iload 5, 2) := by decide +kernel
theorem dX7_zone_77 : decode cX7_zone 77 = .ok (.iconst 0, 1) := by decide +kernel
theorem dX7_zone_78 : decode cX7_zone 78 = .ok (.bipush 23, 2) := by decide +kernel
theorem dX7_zone_80 : decode cX7_zone 80 = .ok (.invokestatic 34, 3) := by decide +kernel
theorem dX7_zone_83 : decode cX7_zone 83 = .ok (.aload_n 0, 1) := by decide +kernel
theorem dX7_zone_84 : decode cX7_zone 84 = .ok (.getfield 17, 3) := by decide +kernel
theorem dX7_zone_87 : decode cX7_zone 87 = .ok (.getfield 103, 3) := by decide +kernel
theorem dX7_zone_90 : decode cX7_zone 90 = .ok (.invokevirtual 76, 3) := by decide +kernel
theorem dX7_zone_93 : decode cX7_zone 93 = .ok (.iconst 4, 1) := by decide +kernel
theorem dX7_zone_94 : decode cX7_zone 94 = .ok (.if_icmp .lt 13, 3) := by decide +kernel
theorem dX7_zone_97 : decode cX7_zone 97 = .ok (.new 58, 3) := by decide +kernel
theorem dX7_zone_100 : decode cX7_zone 100 = .ok (.dup, 1) := by decide +kernel
theorem dX7_zone_101 : decode cX7_zone 101 = .ok (.ldc 106, 2) := by decide +kernel
theorem dX7_zone_103 : decode cX7_zone 103 = .ok (.invokespecial 62, 3) := by decide +kernel
theorem dX7_zone_106 : decode cX7_zone 106 = .ok (.athrow, 1) := by decide +kernel
theorem dX7_zone_107 : decode cX7_zone 107 = .ok (.aload_n 0, 1) := by decide +kernel
theorem dX7_zone_108 : decode cX7_zone 108 = .ok (.getfield 17, 3) := by decide +kernel
theorem dX7_zone_111 : decode cX7_zone 111 = .ok (.getfield 103, 3) := by decide +kernel
theorem dX7_zone_114 : decode cX7_zone 114 = .ok (.new 108, 3) := by decide +kernel
theorem dX7_zone_117 : decode cX7_zone 117 = .ok (.dup, 1) := by decide +kernel
theorem dX7_zone_118 : decode cX7_zone 118 = .ok (.iload 6, 2) := by decide +kernel
theorem dX7_zone_120 : decode cX7_zone 120 = .ok (.iload 7, 2) := by decide +kernel
theorem dX7_zone_122 : decode cX7_zone 122 = .ok (.iload 6, 2) := by decide +kernel
theorem dX7_zone_124 : decode cX7_zone 124 = .ok (.iload_n 3, 1) := by decide +kernel
theorem dX7_zone_125 : decode cX7_zone 125 = .ok (.iadd, 1) := by decide +kernel
theorem dX7_zone_126 : decode cX7_zone 126 = .ok (.iconst 1, 1) := by decide +kernel
theorem dX7_zone_127 : decode cX7_zone 127 = .ok (.isub, 1) := by decide +kernel
theorem dX7_zone_128 : decode cX7_zone 128 = .ok (.iload 7, 2) := by decide +kernel
theorem dX7_zone_130 : decode cX7_zone 130 = .ok (.iload_n 2, 1) := by decide +kernel
theorem dX7_zone_131 : decode cX7_zone 131 = .ok (.iadd, 1) := by decide +kernel
theorem dX7_zone_132 : decode cX7_zone 132 = .ok (.iconst 1, 1) := by decide +kernel
theorem dX7_zone_133 : decode cX7_zone 133 = .ok (.isub, 1) := by decide +kernel
theorem dX7_zone_134 : decode cX7_zone 134 = .ok (.iload 4, 2) := by decide +kernel
theorem dX7_zone_136 : decode cX7_zone 136 = .ok (.iload 5, 2) := by decide +kernel
theorem dX7_zone_138 : decode cX7_zone 138 = .ok (.invokespecial 110, 3) := by decide +kernel
theorem dX7_zone_141 : decode cX7_zone 141 = .ok (.invokevirtual 87, 3) := by decide +kernel
theorem dX7_zone_144 : decode cX7_zone 144 = .ok (.pop, 1) := by decide +kernel
theorem dX7_zone_145 : decode cX7_zone 145 = .ok (.aload_n 0, 1) := by decide +kernel
theorem dX7_zone_146 : decode cX7_zone 146 = .ok (.getfield 17, 3) := by decide +kernel
theorem dX7_zone_149 : decode cX7_zone 149 = .ok (.getfield 103, 3) := by decide +kernel
theorem dX7_zone_152 : decode cX7_zone 152 = .ok (.invokevirtual 76, 3) := by decide +kernel
theorem dX7_zone_155 : decode cX7_zone 155 = .ok (.iconst 1, 1) := by decide +kernel
theorem dX7_zone_156 : decode cX7_zone 156 = .ok (.isub, 1) := by decide +kernel
theorem dX7_zone_157 : decode cX7_zone 157 = .ok (.ireturn, 1) := by decide +kernel
theorem dX7_load_0 : decode cX7_load 0 = .ok (.aload_n 0, 1) := by decide +kernel
theorem dX7_load_1 : decode cX7_load 1 = .ok (.iload_n 1, 1) := by decide +kernel
theorem dX7_load_2 : decode cX7_load 2 = .ok (.invokevirtual 50, 3) := by decide +kernel
theorem dX7_load_5 : decode cX7_load 5 = .ok (.iload_n 2, 1) := by decide +kernel
theorem dX7_load_6 : decode cX7_load 6 = .ok (.iconst 1, 1) := by decide +kernel
theorem dX7_load_7 : decode cX7_load 7 = .ok (.bipush 60, 2) := by decide +kernel
theorem dX7_load_9 : decode cX7_load 9 = .ok (.invokestatic 34, 3) := by decide +kernel
theorem dX7_load_12 : decode cX7_load 12 = .ok (.aload_n 0, 1) := by decide +kernel
theorem dX7_load_13 : decode cX7_load 13 = .ok (.getfield 17, 3) := by decide +kernel
theorem dX7_load_16 : decode cX7_load 16 = .ok (.getfield 113, 3) := by decide +kernel
theorem dX7_load_19 : decode cX7_load 19 = .ok (.invokevirtual 76, 3) := by decide +kernel
theorem dX7_load_22 : decode cX7_load 22 = .ok (.istore_n 3, 1) := by decide +kernel
theorem dX7_load_23 : decode cX7_load 23 = .ok (.iload_n 3, 1) := by decide +kernel
theorem dX7_load_24 : decode cX7_load 24 = .ok (.bipush 8, 2) := by decide +kernel
theorem dX7_load_26 : decode cX7_load 26 = .ok (.if_icmp .ge 15, 3) := by decide +kernel
theorem dX7_load_29 : decode cX7_load 29 = .ok (.aload_n 0, 1) := by decide +kernel
theorem dX7_load_30 : decode cX7_load 30 = .ok (.getfield 17, 3) := by decide +kernel
theorem dX7_load_33 : decode cX7_load 33 = .ok (.iload_n 1, 1) := by decide +kernel
theorem dX7_load_34 : decode cX7_load 34 = .ok (.invokevirtual 116, 3) := by decide +kernel
theorem dX7_load_37 : decode cX7_load 37 = .ok (.iconst (-1), 1) := by decide +kernel
theorem dX7_load_38 : decode cX7_load 38 = .ok (.if_icmp .eq 13, 3) := by decide +kernel
theorem dX7_load_41 : decode cX7_load 41 = .ok (.new 58, 3) := by decide +kernel
theorem dX7_load_44 : decode cX7_load 44 = .ok (.dup, 1) := by decide +kernel
theorem dX7_load_45 : decode cX7_load 45 = .ok (.ldc 119, 2) := by decide +kernel
theorem dX7_load_47 : decode cX7_load 47 = .ok (.invokespecial 62, 3) := by decide +kernel
theorem dX7_load_50 : decode cX7_load 50 = .ok (.athrow, 1) := by decide +kernel
theorem dX7_load_51 : decode cX7_load 51 = .ok (.aload_n 0, 1) := by decide +kernel
theorem dX7_load_52 : decode cX7_load 52 = .ok (.getfield 17, 3) := by decide +kernel
theorem dX7_load_55 : decode cX7_load 55 = .ok (.getfield 113, 3) := by decide +kernel
theorem dX7_load_58 : decode cX7_load 58 = .ok (.new 121, 3) := by decide +kernel
theorem dX7_load_61 : decode cX7_load 61 = .ok (.dup, 1) := by decide +kernel
theorem dX7_load_62 : decode cX7_load 62 = .ok (.iload_n 3, 1) := by decide +kernel
theorem dX7_load_63 : decode cX7_load 63 = .ok (.iload_n 1, 1) := by decide +kernel
theorem dX7_load_64 : decode cX7_load 64 = .ok (.iload_n 2, 1) := by decide +kernel
theorem dX7_load_65 : decode cX7_load 65 = .ok (.invokespecial 123, 3) := by decide +kernel
theorem dX7_load_68 : decode cX7_load 68 = .ok (.invokevirtual 87, 3) := by decide +kernel
theorem dX7_load_71 : decode cX7_load 71 = .ok (.pop, 1) := by decide +kernel
theorem dX7_load_72 : decode cX7_load 72 = .ok (.iload_n 3, 1) := by decide +kernel
theorem dX7_load_73 : decode cX7_load 73 = .ok (.ireturn, 1) := by decide +kernel
theorem dX7_crane_0 : decode cX7_crane 0 = .ok (.aload_n 0, 1) := by decide +kernel
theorem dX7_crane_1 : decode cX7_crane 1 = .ok (.iload_n 1, 1) := by decide +kernel
theorem dX7_crane_2 : decode cX7_crane 2 = .ok (.invokevirtual 50, 3) := by decide +kernel
theorem dX7_crane_5 : decode cX7_crane 5 = .ok (.iload_n 2, 1) := by decide +kernel
theorem dX7_crane_6 : decode cX7_crane 6 = .ok (.iconst 3, 1) := by decide +kernel
theorem dX7_crane_7 : decode cX7_crane 7 = .ok (.bipush 30, 2) := by decide +kernel
theorem dX7_crane_9 : decode cX7_crane 9 = .ok (.invokestatic 34, 3) := by decide +kernel
theorem dX7_crane_12 : decode cX7_crane 12 = .ok (.iload_n 3, 1) := by decide +kernel
theorem dX7_crane_13 : decode cX7_crane 13 = .ok (.iconst 2, 1) := by decide +kernel
theorem dX7_crane_14 : decode cX7_crane 14 = .ok (.bipush 9, 2) := by decide +kernel
theorem dX7_crane_16 : decode cX7_crane 16 = .ok (.invokestatic 34, 3) := by decide +kernel
theorem dX7_crane_19 : decode cX7_crane 19 = .ok (.iload 4, 2) := by decide +kernel
theorem dX7_crane_21 : decode cX7_crane 21 = .ok (.iconst 5, 1) := by decide +kernel
theorem dX7_crane_22 : decode cX7_crane 22 = .ok (.sipush 400, 3) := by decide +kernel
theorem dX7_crane_25 : decode cX7_crane 25 = .ok (.invokestatic 34, 3) := by decide +kernel
theorem dX7_crane_28 : decode cX7_crane 28 = .ok (.iload 5, 2) := by decide +kernel
theorem dX7_crane_30 : decode cX7_crane 30 = .ok (.iconst 0, 1) := by decide +kernel
theorem dX7_crane_31 : decode cX7_crane 31 = .ok (.bipush 7, 2) := by decide +kernel
theorem dX7_crane_33 : decode cX7_crane 33 = .ok (.invokestatic 34, 3) := by decide +kernel
theorem dX7_crane_36 : decode cX7_crane 36 = .ok (.aload_n 0, 1) := by decide +kernel
theorem dX7_crane_37 : decode cX7_crane 37 = .ok (.getfield 17, 3) := by decide +kernel
theorem dX7_crane_40 : decode cX7_crane 40 = .ok (.getfield 124, 3) := by decide +kernel
theorem dX7_crane_43 : decode cX7_crane 43 = .ok (.invokevirtual 76, 3) := by decide +kernel
theorem dX7_crane_46 : decode cX7_crane 46 = .ok (.istore 6, 2) := by decide +kernel
theorem dX7_crane_48 : decode cX7_crane 48 = .ok (.iload 6, 2) := by decide +kernel
theorem dX7_crane_50 : decode cX7_crane 50 = .ok (.iconst 4, 1) := by decide +kernel
theorem dX7_crane_51 : decode cX7_crane 51 = .ok (.if_icmp .ge 14, 3) := by decide +kernel
theorem dX7_crane_54 : decode cX7_crane 54 = .ok (.aload_n 0, 1) := by decide +kernel
theorem dX7_crane_55 : decode cX7_crane 55 = .ok (.getfield 17, 3) := by decide +kernel
theorem dX7_crane_58 : decode cX7_crane 58 = .ok (.iload_n 1, 1) := by decide +kernel
theorem dX7_crane_59 : decode cX7_crane 59 = .ok (.invokevirtual 127, 3) := by decide +kernel
theorem dX7_crane_62 : decode cX7_crane 62 = .ok (.ifCond .ne 13, 3) := by decide +kernel
theorem dX7_crane_65 : decode cX7_crane 65 = .ok (.new 58, 3) := by decide +kernel
theorem dX7_crane_68 : decode cX7_crane 68 = .ok (.dup, 1) := by decide +kernel
theorem dX7_crane_69 : decode cX7_crane 69 = .ok (.ldc 131, 2) := by decide +kernel
theorem dX7_crane_71 : decode cX7_crane 71 = .ok (.invokespecial 62, 3) := by decide +kernel
theorem dX7_crane_74 : decode cX7_crane 74 = .ok (.athrow, 1) := by decide +kernel
theorem dX7_crane_75 : decode cX7_crane 75 = .ok (.new 133, 3) := by decide +kernel
theorem dX7_crane_78 : decode cX7_crane 78 = .ok (.dup, 1) := by decide +kernel
theorem dX7_crane_79 : decode cX7_crane 79 = .ok (.aload_n 0, 1) := by decide +kernel
theorem dX7_crane_80 : decode cX7_crane 80 = .ok (.getfield 17, 3) := by decide +kernel
theorem dX7_crane_83 : decode cX7_crane 83 = .ok (.getfield 42, 3) := by decide +kernel
theorem dX7_crane_86 : decode cX7_crane 86 = .ok (.iload 6, 2) := by decide +kernel
theorem dX7_crane_88 : decode cX7_crane 88 = .ok (.iload_n 1, 1) := by decide +kernel
theorem dX7_crane_89 : decode cX7_crane 89 = .ok (.iload_n 2, 1) := by decide +kernel
theorem dX7_crane_90 : decode cX7_crane 90 = .ok (.iload_n 3, 1) := by decide +kernel
theorem dX7_crane_91 : decode cX7_crane 91 = .ok (.iload 4, 2) := by decide +kernel
theorem dX7_crane_93 : decode cX7_crane 93 = .ok (.invokespecial 135, 3) := by decide +kernel
theorem dX7_crane_96 : decode cX7_crane 96 = .ok (.astore 7, 2) := by decide +kernel
theorem dX7_crane_98 : decode cX7_crane 98 = .ok (.aload 7, 2) := by decide +kernel
theorem dX7_crane_100 : decode cX7_crane 100 = .ok (.iload 5, 2) := by decide +kernel
theorem dX7_crane_102 : decode cX7_crane 102 = .ok (.invokevirtual 138, 3) := by decide +kernel
theorem dX7_crane_105 : decode cX7_crane 105 = .ok (.aload_n 0, 1) := by decide +kernel
theorem dX7_crane_106 : decode cX7_crane 106 = .ok (.getfield 17, 3) := by decide +kernel
theorem dX7_crane_109 : decode cX7_crane 109 = .ok (.aload 7, 2) := by decide +kernel
theorem dX7_crane_111 : decode cX7_crane 111 = .ok (.iconst 0, 1) := by decide +kernel
theorem dX7_crane_112 : decode cX7_crane 112 = .ok (.iconst 0, 1) := by decide +kernel
theorem dX7_crane_113 : decode cX7_crane 113 = .ok (.invokevirtual 141, 3) := by decide +kernel
theorem dX7_crane_116 : decode cX7_crane 116 = .ok (.ifCond .eq 13, 3) := by decide +kernel
theorem dX7_crane_119 : decode cX7_crane 119 = .ok (.new 58, 3) := by decide +kernel
theorem dX7_crane_122 : decode cX7_crane 122 = .ok (.dup, 1) := by decide +kernel
theorem dX7_crane_123 : decode cX7_crane 123 = .ok (.ldc 145, 2) := by decide +kernel
theorem dX7_crane_125 : decode cX7_crane 125 = .ok (.invokespecial 62, 3) := by decide +kernel
theorem dX7_crane_128 : decode cX7_crane 128 = .ok (.athrow, 1) := by decide +kernel
theorem dX7_crane_129 : decode cX7_crane 129 = .ok (.aload_n 0, 1) := by decide +kernel
theorem dX7_crane_130 : decode cX7_crane 130 = .ok (.getfield 17, 3) := by decide +kernel
theorem dX7_crane_133 : decode cX7_crane 133 = .ok (.getfield 124, 3) := by decide +kernel
theorem dX7_crane_136 : decode cX7_crane 136 = .ok (.aload 7, 2) := by decide +kernel
theorem dX7_crane_138 : decode cX7_crane 138 = .ok (.invokevirtual 87, 3) := by decide +kernel
theorem dX7_crane_141 : decode cX7_crane 141 = .ok (.pop, 1) := by decide +kernel
theorem dX7_crane_142 : decode cX7_crane 142 = .ok (.iload 6, 2) := by decide +kernel
theorem dX7_crane_144 : decode cX7_crane 144 = .ok (.ireturn, 1) := by decide +kernel
theorem dX7_step_0 : decode cX7_step 0 = .ok (.aload_n 0, 1) := by decide +kernel
theorem dX7_step_1 : decode cX7_step 1 = .ok (.iload_n 1, 1) := by decide +kernel
theorem dX7_step_2 : decode cX7_step 2 = .ok (.invokevirtual 147, 3) := by decide +kernel
theorem dX7_step_5 : decode cX7_step 5 = .ok (.astore_n 3, 1) := by decide +kernel
theorem dX7_step_6 : decode cX7_step 6 = .ok (.iload_n 2, 1) := by decide +kernel
theorem dX7_step_7 : decode cX7_step 7 = .ok (.iconst 0, 1) := by decide +kernel
theorem dX7_step_8 : decode cX7_step 8 = .ok (.bipush 6, 2) := by decide +kernel
theorem dX7_step_10 : decode cX7_step 10 = .ok (.invokestatic 34, 3) := by decide +kernel
theorem dX7_step_13 : decode cX7_step 13 = .ok (.aload_n 0, 1) := by decide +kernel
theorem dX7_step_14 : decode cX7_step 14 = .ok (.getfield 17, 3) := by decide +kernel
theorem dX7_step_17 : decode cX7_step 17 = .ok (.getfield 151, 3) := by decide +kernel
theorem dX7_step_20 : decode cX7_step 20 = .ok (.sipush 600, 3) := by decide +kernel
theorem dX7_step_23 : decode cX7_step 23 = .ok (.if_icmp .lt 13, 3) := by decide +kernel
theorem dX7_step_26 : decode cX7_step 26 = .ok (.new 58, 3) := by decide +kernel
theorem dX7_step_29 : decode cX7_step 29 = .ok (.dup, 1) := by decide +kernel
theorem dX7_step_30 : decode cX7_step 30 = .ok (.ldc 154, 2) := by decide +kernel
theorem dX7_step_32 : decode cX7_step 32 = .ok (.invokespecial 62, 3) := by decide +kernel
theorem dX7_step_35 : decode cX7_step 35 = .ok (.athrow, 1) := by decide +kernel
theorem dX7_step_36 : decode cX7_step 36 = .ok (.aload_n 0, 1) := by decide +kernel
theorem dX7_step_37 : decode cX7_step 37 = .ok (.getfield 17, 3) := by decide +kernel
theorem dX7_step_40 : decode cX7_step 40 = .ok (.aload_n 3, 1) := by decide +kernel
theorem dX7_step_41 : decode cX7_step 41 = .ok (.iload_n 2, 1) := by decide +kernel
theorem dX7_step_42 : decode cX7_step 42 = .ok (.invokevirtual 156, 3) := by decide +kernel
theorem dX7_step_45 : decode cX7_step 45 = .ok (.istore 4, 2) := by decide +kernel
theorem dX7_step_47 : decode cX7_step 47 = .ok (.iload 4, 2) := by decide +kernel
theorem dX7_step_49 : decode cX7_step 49 = .ok (.ifCond .ne 15, 3) := by decide +kernel
theorem dX7_step_52 : decode cX7_step 52 = .ok (.aload_n 0, 1) := by decide +kernel
theorem dX7_step_53 : decode cX7_step 53 = .ok (.getfield 17, 3) := by decide +kernel
theorem dX7_step_56 : decode cX7_step 56 = .ok (.aload_n 3, 1) := by decide +kernel
theorem dX7_step_57 : decode cX7_step 57 = .ok (.iload_n 2, 1) := by decide +kernel
theorem dX7_step_58 : decode cX7_step 58 = .ok (.invokevirtual 160, 3) := by decide +kernel
theorem dX7_step_61 : decode cX7_step 61 = .ok (.goto 16, 3) := by decide +kernel
theorem dX7_step_64 : decode cX7_step 64 = .ok (.aload_n 0, 1) := by decide +kernel
theorem dX7_step_65 : decode cX7_step 65 = .ok (.getfield 17, 3) := by decide +kernel
theorem dX7_step_68 : decode cX7_step 68 = .ok (.dup, 1) := by decide +kernel
theorem dX7_step_69 : decode cX7_step 69 = .ok (.getfield 164, 3) := by decide +kernel
theorem dX7_step_72 : decode cX7_step 72 = .ok (.iconst 1, 1) := by decide +kernel
theorem dX7_step_73 : decode cX7_step 73 = .ok (.iadd, 1) := by decide +kernel
theorem dX7_step_74 : decode cX7_step 74 = .ok (.putfield 164, 3) := by decide +kernel
theorem dX7_step_77 : decode cX7_step 77 = .ok (.iload 4, 2) := by decide +kernel
theorem dX7_step_79 : decode cX7_step 79 = .ok (.ireturn, 1) := by decide +kernel
theorem dX7_hang_0 : decode cX7_hang 0 = .ok (.aload_n 0, 1) := by decide +kernel
theorem dX7_hang_1 : decode cX7_hang 1 = .ok (.iload_n 1, 1) := by decide +kernel
theorem dX7_hang_2 : decode cX7_hang 2 = .ok (.invokevirtual 147, 3) := by decide +kernel
theorem dX7_hang_5 : decode cX7_hang 5 = .ok (.astore_n 2, 1) := by decide +kernel
theorem dX7_hang_6 : decode cX7_hang 6 = .ok (.aload_n 0, 1) := by decide +kernel
theorem dX7_hang_7 : decode cX7_hang 7 = .ok (.getfield 17, 3) := by decide +kernel
theorem dX7_hang_10 : decode cX7_hang 10 = .ok (.aload_n 2, 1) := by decide +kernel
theorem dX7_hang_11 : decode cX7_hang 11 = .ok (.invokevirtual 167, 3) := by decide +kernel
theorem dX7_hang_14 : decode cX7_hang 14 = .ok (.invokevirtual 170, 3) := by decide +kernel
theorem dX7_hang_17 : decode cX7_hang 17 = .ok (.astore_n 3, 1) := by decide +kernel
theorem dX7_hang_18 : decode cX7_hang 18 = .ok (.aload_n 3, 1) := by decide +kernel
theorem dX7_hang_19 : decode cX7_hang 19 = .ok (.ifnull 36, 3) := by decide +kernel
theorem dX7_hang_22 : decode cX7_hang 22 = .ok (.aload_n 2, 1) := by decide +kernel
theorem dX7_hang_23 : decode cX7_hang 23 = .ok (.getfield 174, 3) := by decide +kernel
theorem dX7_hang_26 : decode cX7_hang 26 = .ok (.ifnonnull 29, 3) := by decide +kernel
theorem dX7_hang_29 : decode cX7_hang 29 = .ok (.aload_n 2, 1) := by decide +kernel
theorem dX7_hang_30 : decode cX7_hang 30 = .ok (.invokevirtual 178, 3) := by decide +kernel
theorem dX7_hang_33 : decode cX7_hang 33 = .ok (.ifCond .eq 22, 3) := by decide +kernel
theorem dX7_hang_36 : decode cX7_hang 36 = .ok (.aload_n 3, 1) := by decide +kernel
theorem dX7_hang_37 : decode cX7_hang 37 = .ok (.getfield 182, 3) := by decide +kernel
theorem dX7_hang_40 : decode cX7_hang 40 = .ok (.aload_n 0, 1) := by decide +kernel
theorem dX7_hang_41 : decode cX7_hang 41 = .ok (.getfield 17, 3) := by decide +kernel
theorem dX7_hang_44 : decode cX7_hang 44 = .ok (.aload_n 2, 1) := by decide +kernel
theorem dX7_hang_45 : decode cX7_hang 45 = .ok (.aload_n 2, 1) := by decide +kernel
theorem dX7_hang_46 : decode cX7_hang 46 = .ok (.getfield 185, 3) := by decide +kernel
theorem dX7_hang_49 : decode cX7_hang 49 = .ok (.invokevirtual 188, 3) := by decide +kernel
theorem dX7_hang_52 : decode cX7_hang 52 = .ok (.if_icmp .le 5, 3) := by decide +kernel
theorem dX7_hang_55 : decode cX7_hang 55 = .ok (.iconst (-1), 1) := by decide +kernel
theorem dX7_hang_56 : decode cX7_hang 56 = .ok (.ireturn, 1) := by decide +kernel
theorem dX7_hang_57 : decode cX7_hang 57 = .ok (.aload_n 3, 1) := by decide +kernel
theorem dX7_hang_58 : decode cX7_hang 58 = .ok (.aload_n 2, 1) := by decide +kernel
theorem dX7_hang_59 : decode cX7_hang 59 = .ok (.invokevirtual 191, 3) := by decide +kernel
theorem dX7_hang_62 : decode cX7_hang 62 = .ok (.aload_n 3, 1) := by decide +kernel
theorem dX7_hang_63 : decode cX7_hang 63 = .ok (.getfield 195, 3) := by decide +kernel
theorem dX7_hang_66 : decode cX7_hang 66 = .ok (.ireturn, 1) := by decide +kernel
theorem dX7_set_0 : decode cX7_set 0 = .ok (.aload_n 0, 1) := by decide +kernel
theorem dX7_set_1 : decode cX7_set 1 = .ok (.iload_n 1, 1) := by decide +kernel
theorem dX7_set_2 : decode cX7_set 2 = .ok (.invokevirtual 147, 3) := by decide +kernel
theorem dX7_set_5 : decode cX7_set 5 = .ok (.astore_n 2, 1) := by decide +kernel
theorem dX7_set_6 : decode cX7_set 6 = .ok (.aload_n 2, 1) := by decide +kernel
theorem dX7_set_7 : decode cX7_set 7 = .ok (.getfield 174, 3) := by decide +kernel
theorem dX7_set_10 : decode cX7_set 10 = .ok (.astore_n 3, 1) := by decide +kernel
theorem dX7_set_11 : decode cX7_set 11 = .ok (.aload_n 2, 1) := by decide +kernel
theorem dX7_set_12 : decode cX7_set 12 = .ok (.invokevirtual 167, 3) := by decide +kernel
theorem dX7_set_15 : decode cX7_set 15 = .ok (.istore 4, 2) := by decide +kernel
theorem dX7_set_17 : decode cX7_set 17 = .ok (.aload_n 3, 1) := by decide +kernel
theorem dX7_set_18 : decode cX7_set 18 = .ok (.ifnull 23, 3) := by decide +kernel
theorem dX7_set_21 : decode cX7_set 21 = .ok (.aload_n 2, 1) := by decide +kernel
theorem dX7_set_22 : decode cX7_set 22 = .ok (.invokevirtual 178, 3) := by decide +kernel
theorem dX7_set_25 : decode cX7_set 25 = .ok (.ifCond .eq 16, 3) := by decide +kernel
theorem dX7_set_28 : decode cX7_set 28 = .ok (.aload_n 0, 1) := by decide +kernel
theorem dX7_set_29 : decode cX7_set 29 = .ok (.getfield 17, 3) := by decide +kernel
theorem dX7_set_32 : decode cX7_set 32 = .ok (.iload 4, 2) := by decide +kernel
theorem dX7_set_34 : decode cX7_set 34 = .ok (.invokevirtual 116, 3) := by decide +kernel
theorem dX7_set_37 : decode cX7_set 37 = .ok (.iconst (-1), 1) := by decide +kernel
theorem dX7_set_38 : decode cX7_set 38 = .ok (.if_icmp .eq 5, 3) := by decide +kernel
theorem dX7_set_41 : decode cX7_set 41 = .ok (.iconst (-1), 1) := by decide +kernel
theorem dX7_set_42 : decode cX7_set 42 = .ok (.ireturn, 1) := by decide +kernel
theorem dX7_set_43 : decode cX7_set 43 = .ok (.aload_n 2, 1) := by decide +kernel
theorem dX7_set_44 : decode cX7_set 44 = .ok (.aconst_null, 1) := by decide +kernel
theorem dX7_set_45 : decode cX7_set 45 = .ok (.putfield 174, 3) := by decide +kernel
theorem dX7_set_48 : decode cX7_set 48 = .ok (.aload_n 3, 1) := by decide +kernel
theorem dX7_set_49 : decode cX7_set 49 = .ok (.iload 4, 2) := by decide +kernel
theorem dX7_set_51 : decode cX7_set 51 = .ok (.invokevirtual 198, 3) := by decide +kernel
theorem dX7_set_54 : decode cX7_set 54 = .ok (.aload_n 3, 1) := by decide +kernel
theorem dX7_set_55 : decode cX7_set 55 = .ok (.getfield 195, 3) := by decide +kernel
theorem dX7_set_58 : decode cX7_set 58 = .ok (.ireturn, 1) := by decide +kernel
theorem dX7_hand_0 : decode cX7_hand 0 = .ok (.aload_n 0, 1) := by decide +kernel
theorem dX7_hand_1 : decode cX7_hand 1 = .ok (.iload_n 1, 1) := by decide +kernel
theorem dX7_hand_2 : decode cX7_hand 2 = .ok (.invokevirtual 147, 3) := by decide +kernel
theorem dX7_hand_5 : decode cX7_hand 5 = .ok (.astore_n 3, 1) := by decide +kernel
theorem dX7_hand_6 : decode cX7_hand 6 = .ok (.aload_n 0, 1) := by decide +kernel
theorem dX7_hand_7 : decode cX7_hand 7 = .ok (.iload_n 2, 1) := by decide +kernel
theorem dX7_hand_8 : decode cX7_hand 8 = .ok (.invokevirtual 147, 3) := by decide +kernel
theorem dX7_hand_11 : decode cX7_hand 11 = .ok (.astore 4, 2) := by decide +kernel
theorem dX7_hand_13 : decode cX7_hand 13 = .ok (.iload_n 1, 1) := by decide +kernel
theorem dX7_hand_14 : decode cX7_hand 14 = .ok (.iload_n 2, 1) := by decide +kernel
theorem dX7_hand_15 : decode cX7_hand 15 = .ok (.if_icmp .ne 13, 3) := by decide +kernel
theorem dX7_hand_18 : decode cX7_hand 18 = .ok (.new 201, 3) := by decide +kernel
theorem dX7_hand_21 : decode cX7_hand 21 = .ok (.dup, 1) := by decide +kernel
theorem dX7_hand_22 : decode cX7_hand 22 = .ok (.ldc 203, 2) := by decide +kernel
theorem dX7_hand_24 : decode cX7_hand 24 = .ok (.invokespecial 205, 3) := by decide +kernel
theorem dX7_hand_27 : decode cX7_hand 27 = .ok (.athrow, 1) := by decide +kernel
theorem dX7_hand_28 : decode cX7_hand 28 = .ok (.aload_n 3, 1) := by decide +kernel
theorem dX7_hand_29 : decode cX7_hand 29 = .ok (.getfield 174, 3) := by decide +kernel
theorem dX7_hand_32 : decode cX7_hand 32 = .ok (.astore 5, 2) := by decide +kernel
theorem dX7_hand_34 : decode cX7_hand 34 = .ok (.aload 5, 2) := by decide +kernel
theorem dX7_hand_36 : decode cX7_hand 36 = .ok (.ifnull 51, 3) := by decide +kernel
theorem dX7_hand_39 : decode cX7_hand 39 = .ok (.aload 4, 2) := by decide +kernel
theorem dX7_hand_41 : decode cX7_hand 41 = .ok (.getfield 174, 3) := by decide +kernel
theorem dX7_hand_44 : decode cX7_hand 44 = .ok (.ifnonnull 43, 3) := by decide +kernel
theorem dX7_hand_47 : decode cX7_hand 47 = .ok (.aload_n 3, 1) := by decide +kernel
theorem dX7_hand_48 : decode cX7_hand 48 = .ok (.aload 4, 2) := by decide +kernel
theorem dX7_hand_50 : decode cX7_hand 50 = .ok (.invokevirtual 206, 3) := by decide +kernel
theorem dX7_hand_53 : decode cX7_hand 53 = .ok (.ifCond .eq 34, 3) := by decide +kernel
theorem dX7_hand_56 : decode cX7_hand 56 = .ok (.aload 5, 2) := by decide +kernel
theorem dX7_hand_58 : decode cX7_hand 58 = .ok (.getfield 182, 3) := by decide +kernel
theorem dX7_hand_61 : decode cX7_hand 61 = .ok (.aload_n 0, 1) := by decide +kernel
theorem dX7_hand_62 : decode cX7_hand 62 = .ok (.getfield 17, 3) := by decide +kernel
theorem dX7_hand_65 : decode cX7_hand 65 = .ok (.aload 4, 2) := by decide +kernel
theorem dX7_hand_67 : decode cX7_hand 67 = .ok (.aload 4, 2) := by decide +kernel
theorem dX7_hand_69 : decode cX7_hand 69 = .ok (.getfield 185, 3) := by decide +kernel
theorem dX7_hand_72 : decode cX7_hand 72 = .ok (.invokevirtual 188, 3) := by decide +kernel
theorem dX7_hand_75 : decode cX7_hand 75 = .ok (.if_icmp .gt 12, 3) := by decide +kernel
theorem dX7_hand_78 : decode cX7_hand 78 = .ok (.aload 4, 2) := by decide +kernel
theorem dX7_hand_80 : decode cX7_hand 80 = .ok (.invokevirtual 210, 3) := by decide +kernel
theorem dX7_hand_83 : decode cX7_hand 83 = .ok (.iconst 2, 1) := by decide +kernel
theorem dX7_hand_84 : decode cX7_hand 84 = .ok (.if_icmp .ge 5, 3) := by decide +kernel
theorem dX7_hand_87 : decode cX7_hand 87 = .ok (.iconst (-1), 1) := by decide +kernel
theorem dX7_hand_88 : decode cX7_hand 88 = .ok (.ireturn, 1) := by decide +kernel
theorem dX7_hand_89 : decode cX7_hand 89 = .ok (.aload_n 3, 1) := by decide +kernel
theorem dX7_hand_90 : decode cX7_hand 90 = .ok (.aconst_null, 1) := by decide +kernel
theorem dX7_hand_91 : decode cX7_hand 91 = .ok (.putfield 174, 3) := by decide +kernel
theorem dX7_hand_94 : decode cX7_hand 94 = .ok (.aload 5, 2) := by decide +kernel
theorem dX7_hand_96 : decode cX7_hand 96 = .ok (.aload 4, 2) := by decide +kernel
theorem dX7_hand_98 : decode cX7_hand 98 = .ok (.invokevirtual 191, 3) := by decide +kernel
theorem dX7_hand_101 : decode cX7_hand 101 = .ok (.aload 5, 2) := by decide +kernel
theorem dX7_hand_103 : decode cX7_hand 103 = .ok (.getfield 195, 3) := by decide +kernel
theorem dX7_hand_106 : decode cX7_hand 106 = .ok (.ireturn, 1) := by decide +kernel
theorem dX7_rest_0 : decode cX7_rest 0 = .ok (.iload_n 1, 1) := by decide +kernel
theorem dX7_rest_1 : decode cX7_rest 1 = .ok (.iconst 1, 1) := by decide +kernel
theorem dX7_rest_2 : decode cX7_rest 2 = .ok (.bipush 100, 2) := by decide +kernel
theorem dX7_rest_4 : decode cX7_rest 4 = .ok (.invokestatic 34, 3) := by decide +kernel
theorem dX7_rest_7 : decode cX7_rest 7 = .ok (.iload_n 1, 1) := by decide +kernel
theorem dX7_rest_8 : decode cX7_rest 8 = .ok (.sipush 600, 3) := by decide +kernel
theorem dX7_rest_11 : decode cX7_rest 11 = .ok (.aload_n 0, 1) := by decide +kernel
theorem dX7_rest_12 : decode cX7_rest 12 = .ok (.getfield 17, 3) := by decide +kernel
theorem dX7_rest_15 : decode cX7_rest 15 = .ok (.getfield 151, 3) := by decide +kernel
theorem dX7_rest_18 : decode cX7_rest 18 = .ok (.isub, 1) := by decide +kernel
theorem dX7_rest_19 : decode cX7_rest 19 = .ok (.if_icmp .le 13, 3) := by decide +kernel
theorem dX7_rest_22 : decode cX7_rest 22 = .ok (.new 58, 3) := by decide +kernel
theorem dX7_rest_25 : decode cX7_rest 25 = .ok (.dup, 1) := by decide +kernel
theorem dX7_rest_26 : decode cX7_rest 26 = .ok (.ldc 213, 2) := by decide +kernel
theorem dX7_rest_28 : decode cX7_rest 28 = .ok (.invokespecial 62, 3) := by decide +kernel
theorem dX7_rest_31 : decode cX7_rest 31 = .ok (.athrow, 1) := by decide +kernel
theorem dX7_rest_32 : decode cX7_rest 32 = .ok (.aload_n 0, 1) := by decide +kernel
theorem dX7_rest_33 : decode cX7_rest 33 = .ok (.getfield 17, 3) := by decide +kernel
theorem dX7_rest_36 : decode cX7_rest 36 = .ok (.iload_n 1, 1) := by decide +kernel
theorem dX7_rest_37 : decode cX7_rest 37 = .ok (.invokevirtual 215, 3) := by decide +kernel
theorem dX7_rest_40 : decode cX7_rest 40 = .ok (.aload_n 0, 1) := by decide +kernel
theorem dX7_rest_41 : decode cX7_rest 41 = .ok (.getfield 17, 3) := by decide +kernel
theorem dX7_rest_44 : decode cX7_rest 44 = .ok (.invokevirtual 218, 3) := by decide +kernel
theorem dX7_rest_47 : decode cX7_rest 47 = .ok (.bipush 8, 2) := by decide +kernel
theorem dX7_rest_49 : decode cX7_rest 49 = .ok (.if_icmp .lt 13, 3) := by decide +kernel
theorem dX7_rest_52 : decode cX7_rest 52 = .ok (.aload_n 0, 1) := by decide +kernel
theorem dX7_rest_53 : decode cX7_rest 53 = .ok (.getfield 17, 3) := by decide +kernel
theorem dX7_rest_56 : decode cX7_rest 56 = .ok (.invokevirtual 221, 3) := by decide +kernel
theorem dX7_rest_59 : decode cX7_rest 59 = .ok (.goto 4, 3) := by decide +kernel
theorem dX7_rest_62 : decode cX7_rest 62 = .ok (.iconst 0, 1) := by decide +kernel
theorem dX7_rest_63 : decode cX7_rest 63 = .ok (.ireturn, 1) := by decide +kernel
theorem dX7_ofCrane_0 : decode cX7_ofCrane 0 = .ok (.aload_n 0, 1) := by decide +kernel
theorem dX7_ofCrane_1 : decode cX7_ofCrane 1 = .ok (.iload_n 1, 1) := by decide +kernel
theorem dX7_ofCrane_2 : decode cX7_ofCrane 2 = .ok (.invokevirtual 147, 3) := by decide +kernel
theorem dX7_ofCrane_5 : decode cX7_ofCrane 5 = .ok (.astore_n 3, 1) := by decide +kernel
theorem dX7_ofCrane_6 : decode cX7_ofCrane 6 = .ok (.iload_n 2, 1) := by decide +kernel
theorem dX7_ofCrane_7 : decode cX7_ofCrane 7 = .ok (.iconst 0, 1) := by decide +kernel
theorem dX7_ofCrane_8 : decode cX7_ofCrane 8 = .ok (.bipush 14, 2) := by decide +kernel
theorem dX7_ofCrane_10 : decode cX7_ofCrane 10 = .ok (.invokestatic 34, 3) := by decide +kernel
theorem dX7_ofCrane_13 : decode cX7_ofCrane 13 = .ok (.iload_n 2, 1) := by decide +kernel
theorem dX7_ofCrane_14 : decode cX7_ofCrane 14 = .ok (.tableswitch 168 0 13 #[70, 75, 80, 85, 90, 95, 100, 105, 110, 115, 134, 139, 152, 159], 70) := by decide +kernel
theorem dX7_ofCrane_84 : decode cX7_ofCrane 84 = .ok (.aload_n 3, 1) := by decide +kernel
theorem dX7_ofCrane_85 : decode cX7_ofCrane 85 = .ok (.getfield 224, 3) := by decide +kernel
theorem dX7_ofCrane_88 : decode cX7_ofCrane 88 = .ok (.ireturn, 1) := by decide +kernel
theorem dX7_ofCrane_89 : decode cX7_ofCrane 89 = .ok (.aload_n 3, 1) := by decide +kernel
theorem dX7_ofCrane_90 : decode cX7_ofCrane 90 = .ok (.getfield 227, 3) := by decide +kernel
theorem dX7_ofCrane_93 : decode cX7_ofCrane 93 = .ok (.ireturn, 1) := by decide +kernel
theorem dX7_ofCrane_94 : decode cX7_ofCrane 94 = .ok (.aload_n 3, 1) := by decide +kernel
theorem dX7_ofCrane_95 : decode cX7_ofCrane 95 = .ok (.getfield 230, 3) := by decide +kernel
theorem dX7_ofCrane_98 : decode cX7_ofCrane 98 = .ok (.ireturn, 1) := by decide +kernel
theorem dX7_ofCrane_99 : decode cX7_ofCrane 99 = .ok (.aload_n 3, 1) := by decide +kernel
theorem dX7_ofCrane_100 : decode cX7_ofCrane 100 = .ok (.getfield 233, 3) := by decide +kernel
theorem dX7_ofCrane_103 : decode cX7_ofCrane 103 = .ok (.ireturn, 1) := by decide +kernel
theorem dX7_ofCrane_104 : decode cX7_ofCrane 104 = .ok (.aload_n 3, 1) := by decide +kernel
theorem dX7_ofCrane_105 : decode cX7_ofCrane 105 = .ok (.getfield 236, 3) := by decide +kernel
theorem dX7_ofCrane_108 : decode cX7_ofCrane 108 = .ok (.ireturn, 1) := by decide +kernel
theorem dX7_ofCrane_109 : decode cX7_ofCrane 109 = .ok (.aload_n 3, 1) := by decide +kernel
theorem dX7_ofCrane_110 : decode cX7_ofCrane 110 = .ok (.getfield 185, 3) := by decide +kernel
theorem dX7_ofCrane_113 : decode cX7_ofCrane 113 = .ok (.ireturn, 1) := by decide +kernel
theorem dX7_ofCrane_114 : decode cX7_ofCrane 114 = .ok (.aload_n 3, 1) := by decide +kernel
theorem dX7_ofCrane_115 : decode cX7_ofCrane 115 = .ok (.getfield 239, 3) := by decide +kernel
theorem dX7_ofCrane_118 : decode cX7_ofCrane 118 = .ok (.ireturn, 1) := by decide +kernel
theorem dX7_ofCrane_119 : decode cX7_ofCrane 119 = .ok (.aload_n 3, 1) := by decide +kernel
theorem dX7_ofCrane_120 : decode cX7_ofCrane 120 = .ok (.getfield 242, 3) := by decide +kernel
theorem dX7_ofCrane_123 : decode cX7_ofCrane 123 = .ok (.ireturn, 1) := by decide +kernel
theorem dX7_ofCrane_124 : decode cX7_ofCrane 124 = .ok (.aload_n 3, 1) := by decide +kernel
theorem dX7_ofCrane_125 : decode cX7_ofCrane 125 = .ok (.getfield 245, 3) := by decide +kernel
theorem dX7_ofCrane_128 : decode cX7_ofCrane 128 = .ok (.ireturn, 1) := by decide +kernel
theorem dX7_ofCrane_129 : decode cX7_ofCrane 129 = .ok (.aload_n 3, 1) := by decide +kernel
theorem dX7_ofCrane_130 : decode cX7_ofCrane 130 = .ok (.getfield 174, 3) := by decide +kernel
theorem dX7_ofCrane_133 : decode cX7_ofCrane 133 = .ok (.ifnonnull 7, 3) := by decide +kernel
theorem dX7_ofCrane_136 : decode cX7_ofCrane 136 = .ok (.iconst (-1), 1) := by decide +kernel
theorem dX7_ofCrane_137 : decode cX7_ofCrane 137 = .ok (.goto 10, 3) := by decide +kernel
theorem dX7_ofCrane_140 : decode cX7_ofCrane 140 = .ok (.aload_n 3, 1) := by decide +kernel
theorem dX7_ofCrane_141 : decode cX7_ofCrane 141 = .ok (.getfield 174, 3) := by decide +kernel
theorem dX7_ofCrane_144 : decode cX7_ofCrane 144 = .ok (.getfield 195, 3) := by decide +kernel
theorem dX7_ofCrane_147 : decode cX7_ofCrane 147 = .ok (.ireturn, 1) := by decide +kernel
theorem dX7_ofCrane_148 : decode cX7_ofCrane 148 = .ok (.aload_n 3, 1) := by decide +kernel
theorem dX7_ofCrane_149 : decode cX7_ofCrane 149 = .ok (.invokevirtual 167, 3) := by decide +kernel
theorem dX7_ofCrane_152 : decode cX7_ofCrane 152 = .ok (.ireturn, 1) := by decide +kernel
theorem dX7_ofCrane_153 : decode cX7_ofCrane 153 = .ok (.aload_n 0, 1) := by decide +kernel
theorem dX7_ofCrane_154 : decode cX7_ofCrane 154 = .ok (.getfield 17, 3) := by decide +kernel
theorem dX7_ofCrane_157 : decode cX7_ofCrane 157 = .ok (.aload_n 3, 1) := by decide +kernel
theorem dX7_ofCrane_158 : decode cX7_ofCrane 158 = .ok (.aload_n 3, 1) := by decide +kernel
theorem dX7_ofCrane_159 : decode cX7_ofCrane 159 = .ok (.getfield 185, 3) := by decide +kernel
theorem dX7_ofCrane_162 : decode cX7_ofCrane 162 = .ok (.invokevirtual 188, 3) := by decide +kernel
theorem dX7_ofCrane_165 : decode cX7_ofCrane 165 = .ok (.ireturn, 1) := by decide +kernel
theorem dX7_ofCrane_166 : decode cX7_ofCrane 166 = .ok (.aload_n 3, 1) := by decide +kernel
theorem dX7_ofCrane_167 : decode cX7_ofCrane 167 = .ok (.getfield 248, 3) := by decide +kernel
theorem dX7_ofCrane_170 : decode cX7_ofCrane 170 = .ok (.iconst 1, 1) := by decide +kernel
theorem dX7_ofCrane_171 : decode cX7_ofCrane 171 = .ok (.iadd, 1) := by decide +kernel
theorem dX7_ofCrane_172 : decode cX7_ofCrane 172 = .ok (.ireturn, 1) := by decide +kernel
theorem dX7_ofCrane_173 : decode cX7_ofCrane 173 = .ok (.aload_n 0, 1) := by decide +kernel
theorem dX7_ofCrane_174 : decode cX7_ofCrane 174 = .ok (.getfield 17, 3) := by decide +kernel
theorem dX7_ofCrane_177 : decode cX7_ofCrane 177 = .ok (.aload_n 3, 1) := by decide +kernel
theorem dX7_ofCrane_178 : decode cX7_ofCrane 178 = .ok (.invokevirtual 251, 3) := by decide +kernel
theorem dX7_ofCrane_181 : decode cX7_ofCrane 181 = .ok (.ireturn, 1) := by decide +kernel
theorem dX7_ofCrane_182 : decode cX7_ofCrane 182 = .ok (.aload_n 3, 1) := by decide +kernel
theorem dX7_ofCrane_183 : decode cX7_ofCrane 183 = .ok (.getfield 255, 3) := by decide +kernel
theorem dX7_ofCrane_186 : decode cX7_ofCrane 186 = .ok (.ireturn, 1) := by decide +kernel
theorem dX7_ofLoad_0 : decode cX7_ofLoad 0 = .ok (.iload_n 1, 1) := by decide +kernel
theorem dX7_ofLoad_1 : decode cX7_ofLoad 1 = .ok (.ifCond .lt 17, 3) := by decide +kernel
theorem dX7_ofLoad_4 : decode cX7_ofLoad 4 = .ok (.iload_n 1, 1) := by decide +kernel
theorem dX7_ofLoad_5 : decode cX7_ofLoad 5 = .ok (.aload_n 0, 1) := by decide +kernel
theorem dX7_ofLoad_6 : decode cX7_ofLoad 6 = .ok (.getfield 17, 3) := by decide +kernel
theorem dX7_ofLoad_9 : decode cX7_ofLoad 9 = .ok (.getfield 113, 3) := by decide +kernel
theorem dX7_ofLoad_12 : decode cX7_ofLoad 12 = .ok (.invokevirtual 76, 3) := by decide +kernel
theorem dX7_ofLoad_15 : decode cX7_ofLoad 15 = .ok (.if_icmp .lt 14, 3) := by decide +kernel
theorem dX7_ofLoad_18 : decode cX7_ofLoad 18 = .ok (.new 258, 3) := by decide +kernel
theorem dX7_ofLoad_21 : decode cX7_ofLoad 21 = .ok (.dup, 1) := by decide +kernel
theorem dX7_ofLoad_22 : decode cX7_ofLoad 22 = .ok (.ldc_w 260, 3) := by decide +kernel
theorem dX7_ofLoad_25 : decode cX7_ofLoad 25 = .ok (.invokespecial 262, 3) := by decide +kernel
theorem dX7_ofLoad_28 : decode cX7_ofLoad 28 = .ok (.athrow, 1) := by decide +kernel
theorem dX7_ofLoad_29 : decode cX7_ofLoad 29 = .ok (.aload_n 0, 1) := by decide +kernel
theorem dX7_ofLoad_30 : decode cX7_ofLoad 30 = .ok (.getfield 17, 3) := by decide +kernel
theorem dX7_ofLoad_33 : decode cX7_ofLoad 33 = .ok (.getfield 113, 3) := by decide +kernel
theorem dX7_ofLoad_36 : decode cX7_ofLoad 36 = .ok (.iload_n 1, 1) := by decide +kernel
theorem dX7_ofLoad_37 : decode cX7_ofLoad 37 = .ok (.invokevirtual 263, 3) := by decide +kernel
theorem dX7_ofLoad_40 : decode cX7_ofLoad 40 = .ok (.checkcast 121, 3) := by decide +kernel
theorem dX7_ofLoad_43 : decode cX7_ofLoad 43 = .ok (.astore_n 3, 1) := by decide +kernel
theorem dX7_ofLoad_44 : decode cX7_ofLoad 44 = .ok (.iload_n 2, 1) := by decide +kernel
theorem dX7_ofLoad_45 : decode cX7_ofLoad 45 = .ok (.iconst 0, 1) := by decide +kernel
theorem dX7_ofLoad_46 : decode cX7_ofLoad 46 = .ok (.iconst 3, 1) := by decide +kernel
theorem dX7_ofLoad_47 : decode cX7_ofLoad 47 = .ok (.invokestatic 34, 3) := by decide +kernel
theorem dX7_ofLoad_50 : decode cX7_ofLoad 50 = .ok (.iload_n 2, 1) := by decide +kernel
theorem dX7_ofLoad_51 : decode cX7_ofLoad 51 = .ok (.tableswitch 54 0 2 #[25, 30, 35], 25) := by decide +kernel
theorem dX7_ofLoad_76 : decode cX7_ofLoad 76 = .ok (.aload_n 3, 1) := by decide +kernel
theorem dX7_ofLoad_77 : decode cX7_ofLoad 77 = .ok (.getfield 182, 3) := by decide +kernel
theorem dX7_ofLoad_80 : decode cX7_ofLoad 80 = .ok (.ireturn, 1) := by decide +kernel
theorem dX7_ofLoad_81 : decode cX7_ofLoad 81 = .ok (.aload_n 3, 1) := by decide +kernel
theorem dX7_ofLoad_82 : decode cX7_ofLoad 82 = .ok (.invokevirtual 267, 3) := by decide +kernel
theorem dX7_ofLoad_85 : decode cX7_ofLoad 85 = .ok (.ireturn, 1) := by decide +kernel
theorem dX7_ofLoad_86 : decode cX7_ofLoad 86 = .ok (.aload_n 3, 1) := by decide +kernel
theorem dX7_ofLoad_87 : decode cX7_ofLoad 87 = .ok (.getfield 270, 3) := by decide +kernel
theorem dX7_ofLoad_90 : decode cX7_ofLoad 90 = .ok (.ifnonnull 7, 3) := by decide +kernel
theorem dX7_ofLoad_93 : decode cX7_ofLoad 93 = .ok (.iconst (-1), 1) := by decide +kernel
theorem dX7_ofLoad_94 : decode cX7_ofLoad 94 = .ok (.goto 10, 3) := by decide +kernel
theorem dX7_ofLoad_97 : decode cX7_ofLoad 97 = .ok (.aload_n 3, 1) := by decide +kernel
theorem dX7_ofLoad_98 : decode cX7_ofLoad 98 = .ok (.getfield 270, 3) := by decide +kernel
theorem dX7_ofLoad_101 : decode cX7_ofLoad 101 = .ok (.getfield 274, 3) := by decide +kernel
theorem dX7_ofLoad_104 : decode cX7_ofLoad 104 = .ok (.ireturn, 1) := by decide +kernel
theorem dX7_ofLoad_105 : decode cX7_ofLoad 105 = .ok (.aload_n 0, 1) := by decide +kernel
theorem dX7_ofLoad_106 : decode cX7_ofLoad 106 = .ok (.getfield 26, 3) := by decide +kernel
theorem dX7_ofLoad_109 : decode cX7_ofLoad 109 = .ok (.aload_n 3, 1) := by decide +kernel
theorem dX7_ofLoad_110 : decode cX7_ofLoad 110 = .ok (.invokevirtual 267, 3) := by decide +kernel
theorem dX7_ofLoad_113 : decode cX7_ofLoad 113 = .ok (.aload_n 3, 1) := by decide +kernel
theorem dX7_ofLoad_114 : decode cX7_ofLoad 114 = .ok (.getfield 182, 3) := by decide +kernel
theorem dX7_ofLoad_117 : decode cX7_ofLoad 117 = .ok (.invokevirtual 275, 3) := by decide +kernel
theorem dX7_ofLoad_120 : decode cX7_ofLoad 120 = .ok (.ireturn, 1) := by decide +kernel
theorem dX7_ofCell_0 : decode cX7_ofCell 0 = .ok (.aload_n 0, 1) := by decide +kernel
theorem dX7_ofCell_1 : decode cX7_ofCell 1 = .ok (.iload_n 1, 1) := by decide +kernel
theorem dX7_ofCell_2 : decode cX7_ofCell 2 = .ok (.invokevirtual 50, 3) := by decide +kernel
theorem dX7_ofCell_5 : decode cX7_ofCell 5 = .ok (.iload_n 2, 1) := by decide +kernel
theorem dX7_ofCell_6 : decode cX7_ofCell 6 = .ok (.iconst 0, 1) := by decide +kernel
theorem dX7_ofCell_7 : decode cX7_ofCell 7 = .ok (.iconst 4, 1) := by decide +kernel
theorem dX7_ofCell_8 : decode cX7_ofCell 8 = .ok (.invokestatic 34, 3) := by decide +kernel
theorem dX7_ofCell_11 : decode cX7_ofCell 11 = .ok (.iload_n 2, 1) := by decide +kernel
theorem dX7_ofCell_12 : decode cX7_ofCell 12 = .ok (.tableswitch 71 0 3 #[32, 44, 53, 62], 32) := by decide +kernel
theorem dX7_ofCell_44 : decode cX7_ofCell 44 = .ok (.aload_n 0, 1) := by decide +kernel
theorem dX7_ofCell_45 : decode cX7_ofCell 45 = .ok (.getfield 17, 3) := by decide +kernel
theorem dX7_ofCell_48 : decode cX7_ofCell 48 = .ok (.getfield 42, 3) := by decide +kernel
theorem dX7_ofCell_51 : decode cX7_ofCell 51 = .ok (.iload_n 1, 1) := by decide +kernel
theorem dX7_ofCell_52 : decode cX7_ofCell 52 = .ok (.invokevirtual 65, 3) := by decide +kernel
theorem dX7_ofCell_55 : decode cX7_ofCell 55 = .ok (.ireturn, 1) := by decide +kernel
theorem dX7_ofCell_56 : decode cX7_ofCell 56 = .ok (.aload_n 0, 1) := by decide +kernel
theorem dX7_ofCell_57 : decode cX7_ofCell 57 = .ok (.getfield 17, 3) := by decide +kernel
theorem dX7_ofCell_60 : decode cX7_ofCell 60 = .ok (.iload_n 1, 1) := by decide +kernel
theorem dX7_ofCell_61 : decode cX7_ofCell 61 = .ok (.invokevirtual 279, 3) := by decide +kernel
theorem dX7_ofCell_64 : decode cX7_ofCell 64 = .ok (.ireturn, 1) := by decide +kernel
theorem dX7_ofCell_65 : decode cX7_ofCell 65 = .ok (.aload_n 0, 1) := by decide +kernel
theorem dX7_ofCell_66 : decode cX7_ofCell 66 = .ok (.getfield 17, 3) := by decide +kernel
theorem dX7_ofCell_69 : decode cX7_ofCell 69 = .ok (.iload_n 1, 1) := by decide +kernel
theorem dX7_ofCell_70 : decode cX7_ofCell 70 = .ok (.invokevirtual 282, 3) := by decide +kernel
theorem dX7_ofCell_73 : decode cX7_ofCell 73 = .ok (.ireturn, 1) := by decide +kernel
theorem dX7_ofCell_74 : decode cX7_ofCell 74 = .ok (.aload_n 0, 1) := by decide +kernel
theorem dX7_ofCell_75 : decode cX7_ofCell 75 = .ok (.getfield 17, 3) := by decide +kernel
theorem dX7_ofCell_78 : decode cX7_ofCell 78 = .ok (.iload_n 1, 1) := by decide +kernel
theorem dX7_ofCell_79 : decode cX7_ofCell 79 = .ok (.invokevirtual 116, 3) := by decide +kernel
theorem dX7_ofCell_82 : decode cX7_ofCell 82 = .ok (.ireturn, 1) := by decide +kernel
theorem dX7_ofCell_83 : decode cX7_ofCell 83 = .ok (.aload_n 0, 1) := by decide +kernel
theorem dX7_ofCell_84 : decode cX7_ofCell 84 = .ok (.getfield 17, 3) := by decide +kernel
theorem dX7_ofCell_87 : decode cX7_ofCell 87 = .ok (.iload_n 1, 1) := by decide +kernel
theorem dX7_ofCell_88 : decode cX7_ofCell 88 = .ok (.invokevirtual 285, 3) := by decide +kernel
theorem dX7_ofCell_91 : decode cX7_ofCell 91 = .ok (.ifCond .eq 7, 3) := by decide +kernel
theorem dX7_ofCell_94 : decode cX7_ofCell 94 = .ok (.iconst 1, 1) := by decide +kernel
theorem dX7_ofCell_95 : decode cX7_ofCell 95 = .ok (.goto 4, 3) := by decide +kernel
theorem dX7_ofCell_98 : decode cX7_ofCell 98 = .ok (.iconst 0, 1) := by decide +kernel
theorem dX7_ofCell_99 : decode cX7_ofCell 99 = .ok (.ireturn, 1) := by decide +kernel
theorem dX7_would_0 : decode cX7_would 0 = .ok (.aload_n 0, 1) := by decide +kernel
theorem dX7_would_1 : decode cX7_would 1 = .ok (.iload_n 1, 1) := by decide +kernel
theorem dX7_would_2 : decode cX7_would 2 = .ok (.invokevirtual 147, 3) := by decide +kernel
theorem dX7_would_5 : decode cX7_would 5 = .ok (.astore_n 3, 1) := by decide +kernel
theorem dX7_would_6 : decode cX7_would 6 = .ok (.iload_n 2, 1) := by decide +kernel
theorem dX7_would_7 : decode cX7_would 7 = .ok (.iconst 0, 1) := by decide +kernel
theorem dX7_would_8 : decode cX7_would 8 = .ok (.bipush 6, 2) := by decide +kernel
theorem dX7_would_10 : decode cX7_would 10 = .ok (.invokestatic 34, 3) := by decide +kernel
theorem dX7_would_13 : decode cX7_would 13 = .ok (.aload_n 0, 1) := by decide +kernel
theorem dX7_would_14 : decode cX7_would 14 = .ok (.getfield 17, 3) := by decide +kernel
theorem dX7_would_17 : decode cX7_would 17 = .ok (.getfield 151, 3) := by decide +kernel
theorem dX7_would_20 : decode cX7_would 20 = .ok (.sipush 600, 3) := by decide +kernel
theorem dX7_would_23 : decode cX7_would 23 = .ok (.if_icmp .lt 7, 3) := by decide +kernel
theorem dX7_would_26 : decode cX7_would 26 = .ok (.iconst (-1), 1) := by decide +kernel
theorem dX7_would_27 : decode cX7_would 27 = .ok (.goto 12, 3) := by decide +kernel
theorem dX7_would_30 : decode cX7_would 30 = .ok (.aload_n 0, 1) := by decide +kernel
theorem dX7_would_31 : decode cX7_would 31 = .ok (.getfield 17, 3) := by decide +kernel
theorem dX7_would_34 : decode cX7_would 34 = .ok (.aload_n 3, 1) := by decide +kernel
theorem dX7_would_35 : decode cX7_would 35 = .ok (.iload_n 2, 1) := by decide +kernel
theorem dX7_would_36 : decode cX7_would 36 = .ok (.invokevirtual 156, 3) := by decide +kernel
theorem dX7_would_39 : decode cX7_would 39 = .ok (.ireturn, 1) := by decide +kernel
theorem dX7_clash_0 : decode cX7_clash 0 = .ok (.aload_n 0, 1) := by decide +kernel
theorem dX7_clash_1 : decode cX7_clash 1 = .ok (.iload_n 1, 1) := by decide +kernel
theorem dX7_clash_2 : decode cX7_clash 2 = .ok (.invokevirtual 147, 3) := by decide +kernel
theorem dX7_clash_5 : decode cX7_clash 5 = .ok (.astore_n 3, 1) := by decide +kernel
theorem dX7_clash_6 : decode cX7_clash 6 = .ok (.aload_n 0, 1) := by decide +kernel
theorem dX7_clash_7 : decode cX7_clash 7 = .ok (.iload_n 2, 1) := by decide +kernel
theorem dX7_clash_8 : decode cX7_clash 8 = .ok (.invokevirtual 147, 3) := by decide +kernel
theorem dX7_clash_11 : decode cX7_clash 11 = .ok (.astore 4, 2) := by decide +kernel
theorem dX7_clash_13 : decode cX7_clash 13 = .ok (.iload_n 1, 1) := by decide +kernel
theorem dX7_clash_14 : decode cX7_clash 14 = .ok (.iload_n 2, 1) := by decide +kernel
theorem dX7_clash_15 : decode cX7_clash 15 = .ok (.if_icmp .ne 14, 3) := by decide +kernel
theorem dX7_clash_18 : decode cX7_clash 18 = .ok (.new 201, 3) := by decide +kernel
theorem dX7_clash_21 : decode cX7_clash 21 = .ok (.dup, 1) := by decide +kernel
theorem dX7_clash_22 : decode cX7_clash 22 = .ok (.ldc_w 288, 3) := by decide +kernel
theorem dX7_clash_25 : decode cX7_clash 25 = .ok (.invokespecial 205, 3) := by decide +kernel
theorem dX7_clash_28 : decode cX7_clash 28 = .ok (.athrow, 1) := by decide +kernel
theorem dX7_clash_29 : decode cX7_clash 29 = .ok (.aload_n 3, 1) := by decide +kernel
theorem dX7_clash_30 : decode cX7_clash 30 = .ok (.aload 4, 2) := by decide +kernel
theorem dX7_clash_32 : decode cX7_clash 32 = .ok (.iconst 1, 1) := by decide +kernel
theorem dX7_clash_33 : decode cX7_clash 33 = .ok (.invokevirtual 290, 3) := by decide +kernel
theorem dX7_clash_36 : decode cX7_clash 36 = .ok (.ireturn, 1) := by decide +kernel
theorem dX7_way_0 : decode cX7_way 0 = .ok (.aload_n 0, 1) := by decide +kernel
theorem dX7_way_1 : decode cX7_way 1 = .ok (.iload_n 1, 1) := by decide +kernel
theorem dX7_way_2 : decode cX7_way 2 = .ok (.invokevirtual 147, 3) := by decide +kernel
theorem dX7_way_5 : decode cX7_way 5 = .ok (.astore_n 3, 1) := by decide +kernel
theorem dX7_way_6 : decode cX7_way 6 = .ok (.aload_n 0, 1) := by decide +kernel
theorem dX7_way_7 : decode cX7_way 7 = .ok (.iload_n 2, 1) := by decide +kernel
theorem dX7_way_8 : decode cX7_way 8 = .ok (.invokevirtual 50, 3) := by decide +kernel
theorem dX7_way_11 : decode cX7_way 11 = .ok (.aload_n 0, 1) := by decide +kernel
theorem dX7_way_12 : decode cX7_way 12 = .ok (.getfield 26, 3) := by decide +kernel
theorem dX7_way_15 : decode cX7_way 15 = .ok (.aload_n 3, 1) := by decide +kernel
theorem dX7_way_16 : decode cX7_way 16 = .ok (.invokevirtual 293, 3) := by decide +kernel
theorem dX7_way_19 : decode cX7_way 19 = .ok (.pop, 1) := by decide +kernel
theorem dX7_way_20 : decode cX7_way 20 = .ok (.aload_n 0, 1) := by decide +kernel
theorem dX7_way_21 : decode cX7_way 21 = .ok (.getfield 26, 3) := by decide +kernel
theorem dX7_way_24 : decode cX7_way 24 = .ok (.iload_n 2, 1) := by decide +kernel
theorem dX7_way_25 : decode cX7_way 25 = .ok (.invokevirtual 296, 3) := by decide +kernel
theorem dX7_way_28 : decode cX7_way 28 = .ok (.ireturn, 1) := by decide +kernel
theorem dX7_field_0 : decode cX7_field 0 = .ok (.aload_n 0, 1) := by decide +kernel
theorem dX7_field_1 : decode cX7_field 1 = .ok (.getfield 26, 3) := by decide +kernel
theorem dX7_field_4 : decode cX7_field 4 = .ok (.aload_n 0, 1) := by decide +kernel
theorem dX7_field_5 : decode cX7_field 5 = .ok (.iload_n 1, 1) := by decide +kernel
theorem dX7_field_6 : decode cX7_field 6 = .ok (.invokevirtual 147, 3) := by decide +kernel
theorem dX7_field_9 : decode cX7_field 9 = .ok (.invokevirtual 293, 3) := by decide +kernel
theorem dX7_field_12 : decode cX7_field 12 = .ok (.ireturn, 1) := by decide +kernel
theorem dX7_swing_0 : decode cX7_swing 0 = .ok (.aload_n 0, 1) := by decide +kernel
theorem dX7_swing_1 : decode cX7_swing 1 = .ok (.getfield 26, 3) := by decide +kernel
theorem dX7_swing_4 : decode cX7_swing 4 = .ok (.aload_n 0, 1) := by decide +kernel
theorem dX7_swing_5 : decode cX7_swing 5 = .ok (.iload_n 1, 1) := by decide +kernel
theorem dX7_swing_6 : decode cX7_swing 6 = .ok (.invokevirtual 147, 3) := by decide +kernel
theorem dX7_swing_9 : decode cX7_swing 9 = .ok (.iload_n 2, 1) := by decide +kernel
theorem dX7_swing_10 : decode cX7_swing 10 = .ok (.ifCond .eq 7, 3) := by decide +kernel
theorem dX7_swing_13 : decode cX7_swing 13 = .ok (.iconst 1, 1) := by decide +kernel
theorem dX7_swing_14 : decode cX7_swing 14 = .ok (.goto 4, 3) := by decide +kernel
theorem dX7_swing_17 : decode cX7_swing 17 = .ok (.iconst 0, 1) := by decide +kernel
theorem dX7_swing_18 : decode cX7_swing 18 = .ok (.invokevirtual 299, 3) := by decide +kernel
theorem dX7_swing_21 : decode cX7_swing 21 = .ok (.ireturn, 1) := by decide +kernel
theorem dX7_order_0 : decode cX7_order 0 = .ok (.iload_n 1, 1) := by decide +kernel
theorem dX7_order_1 : decode cX7_order 1 = .ok (.ifCond .ge 14, 3) := by decide +kernel
theorem dX7_order_4 : decode cX7_order 4 = .ok (.new 201, 3) := by decide +kernel
theorem dX7_order_7 : decode cX7_order 7 = .ok (.dup, 1) := by decide +kernel
theorem dX7_order_8 : decode cX7_order 8 = .ok (.ldc_w 302, 3) := by decide +kernel
theorem dX7_order_11 : decode cX7_order 11 = .ok (.invokespecial 205, 3) := by decide +kernel
theorem dX7_order_14 : decode cX7_order 14 = .ok (.athrow, 1) := by decide +kernel
theorem dX7_order_15 : decode cX7_order 15 = .ok (.iload_n 1, 1) := by decide +kernel
theorem dX7_order_16 : decode cX7_order 16 = .ok (.aload_n 0, 1) := by decide +kernel
theorem dX7_order_17 : decode cX7_order 17 = .ok (.getfield 26, 3) := by decide +kernel
theorem dX7_order_20 : decode cX7_order 20 = .ok (.invokevirtual 304, 3) := by decide +kernel
theorem dX7_order_23 : decode cX7_order 23 = .ok (.if_icmp .ge 14, 3) := by decide +kernel
theorem dX7_order_26 : decode cX7_order 26 = .ok (.aload_n 0, 1) := by decide +kernel
theorem dX7_order_27 : decode cX7_order 27 = .ok (.getfield 26, 3) := by decide +kernel
theorem dX7_order_30 : decode cX7_order 30 = .ok (.iload_n 1, 1) := by decide +kernel
theorem dX7_order_31 : decode cX7_order 31 = .ok (.invokevirtual 307, 3) := by decide +kernel
theorem dX7_order_34 : decode cX7_order 34 = .ok (.goto 4, 3) := by decide +kernel
theorem dX7_order_37 : decode cX7_order 37 = .ok (.iconst (-1), 1) := by decide +kernel
theorem dX7_order_38 : decode cX7_order 38 = .ok (.ireturn, 1) := by decide +kernel
theorem dX7_many_0 : decode cX7_many 0 = .ok (.iload_n 1, 1) := by decide +kernel
theorem dX7_many_1 : decode cX7_many 1 = .ok (.iconst 0, 1) := by decide +kernel
theorem dX7_many_2 : decode cX7_many 2 = .ok (.bipush 14, 2) := by decide +kernel
theorem dX7_many_4 : decode cX7_many 4 = .ok (.invokestatic 34, 3) := by decide +kernel
theorem dX7_many_7 : decode cX7_many 7 = .ok (.iload_n 1, 1) := by decide +kernel
theorem dX7_many_8 : decode cX7_many 8 = .ok (.tableswitch 196 0 13 #[72, 83, 91, 99, 110, 121, 132, 140, 148, 156, 164, 172, 180, 188], 72) := by decide +kernel
theorem dX7_many_80 : decode cX7_many 80 = .ok (.aload_n 0, 1) := by decide +kernel
theorem dX7_many_81 : decode cX7_many 81 = .ok (.getfield 17, 3) := by decide +kernel
theorem dX7_many_84 : decode cX7_many 84 = .ok (.getfield 42, 3) := by decide +kernel
theorem dX7_many_87 : decode cX7_many 87 = .ok (.invokevirtual 46, 3) := by decide +kernel
theorem dX7_many_90 : decode cX7_many 90 = .ok (.ireturn, 1) := by decide +kernel
theorem dX7_many_91 : decode cX7_many 91 = .ok (.aload_n 0, 1) := by decide +kernel
theorem dX7_many_92 : decode cX7_many 92 = .ok (.getfield 17, 3) := by decide +kernel
theorem dX7_many_95 : decode cX7_many 95 = .ok (.getfield 151, 3) := by decide +kernel
theorem dX7_many_98 : decode cX7_many 98 = .ok (.ireturn, 1) := by decide +kernel
theorem dX7_many_99 : decode cX7_many 99 = .ok (.aload_n 0, 1) := by decide +kernel
theorem dX7_many_100 : decode cX7_many 100 = .ok (.getfield 17, 3) := by decide +kernel
theorem dX7_many_103 : decode cX7_many 103 = .ok (.invokevirtual 310, 3) := by decide +kernel
theorem dX7_many_106 : decode cX7_many 106 = .ok (.ireturn, 1) := by decide +kernel
theorem dX7_many_107 : decode cX7_many 107 = .ok (.aload_n 0, 1) := by decide +kernel
theorem dX7_many_108 : decode cX7_many 108 = .ok (.getfield 17, 3) := by decide +kernel
theorem dX7_many_111 : decode cX7_many 111 = .ok (.getfield 124, 3) := by decide +kernel
theorem dX7_many_114 : decode cX7_many 114 = .ok (.invokevirtual 76, 3) := by decide +kernel
theorem dX7_many_117 : decode cX7_many 117 = .ok (.ireturn, 1) := by decide +kernel
theorem dX7_many_118 : decode cX7_many 118 = .ok (.aload_n 0, 1) := by decide +kernel
theorem dX7_many_119 : decode cX7_many 119 = .ok (.getfield 17, 3) := by decide +kernel
theorem dX7_many_122 : decode cX7_many 122 = .ok (.getfield 113, 3) := by decide +kernel
theorem dX7_many_125 : decode cX7_many 125 = .ok (.invokevirtual 76, 3) := by decide +kernel
theorem dX7_many_128 : decode cX7_many 128 = .ok (.ireturn, 1) := by decide +kernel
theorem dX7_many_129 : decode cX7_many 129 = .ok (.aload_n 0, 1) := by decide +kernel
theorem dX7_many_130 : decode cX7_many 130 = .ok (.getfield 17, 3) := by decide +kernel
theorem dX7_many_133 : decode cX7_many 133 = .ok (.getfield 103, 3) := by decide +kernel
theorem dX7_many_136 : decode cX7_many 136 = .ok (.invokevirtual 76, 3) := by decide +kernel
theorem dX7_many_139 : decode cX7_many 139 = .ok (.ireturn, 1) := by decide +kernel
theorem dX7_many_140 : decode cX7_many 140 = .ok (.aload_n 0, 1) := by decide +kernel
theorem dX7_many_141 : decode cX7_many 141 = .ok (.getfield 17, 3) := by decide +kernel
theorem dX7_many_144 : decode cX7_many 144 = .ok (.invokevirtual 218, 3) := by decide +kernel
theorem dX7_many_147 : decode cX7_many 147 = .ok (.ireturn, 1) := by decide +kernel
theorem dX7_many_148 : decode cX7_many 148 = .ok (.aload_n 0, 1) := by decide +kernel
theorem dX7_many_149 : decode cX7_many 149 = .ok (.getfield 17, 3) := by decide +kernel
theorem dX7_many_152 : decode cX7_many 152 = .ok (.invokevirtual 313, 3) := by decide +kernel
theorem dX7_many_155 : decode cX7_many 155 = .ok (.ireturn, 1) := by decide +kernel
theorem dX7_many_156 : decode cX7_many 156 = .ok (.aload_n 0, 1) := by decide +kernel
theorem dX7_many_157 : decode cX7_many 157 = .ok (.getfield 17, 3) := by decide +kernel
theorem dX7_many_160 : decode cX7_many 160 = .ok (.invokevirtual 316, 3) := by decide +kernel
theorem dX7_many_163 : decode cX7_many 163 = .ok (.ireturn, 1) := by decide +kernel
theorem dX7_many_164 : decode cX7_many 164 = .ok (.aload_n 0, 1) := by decide +kernel
theorem dX7_many_165 : decode cX7_many 165 = .ok (.getfield 17, 3) := by decide +kernel
theorem dX7_many_168 : decode cX7_many 168 = .ok (.invokevirtual 319, 3) := by decide +kernel
theorem dX7_many_171 : decode cX7_many 171 = .ok (.ireturn, 1) := by decide +kernel
theorem dX7_many_172 : decode cX7_many 172 = .ok (.aload_n 0, 1) := by decide +kernel
theorem dX7_many_173 : decode cX7_many 173 = .ok (.getfield 17, 3) := by decide +kernel
theorem dX7_many_176 : decode cX7_many 176 = .ok (.getfield 321, 3) := by decide +kernel
theorem dX7_many_179 : decode cX7_many 179 = .ok (.ireturn, 1) := by decide +kernel
theorem dX7_many_180 : decode cX7_many 180 = .ok (.aload_n 0, 1) := by decide +kernel
theorem dX7_many_181 : decode cX7_many 181 = .ok (.getfield 17, 3) := by decide +kernel
theorem dX7_many_184 : decode cX7_many 184 = .ok (.getfield 164, 3) := by decide +kernel
theorem dX7_many_187 : decode cX7_many 187 = .ok (.ireturn, 1) := by decide +kernel
theorem dX7_many_188 : decode cX7_many 188 = .ok (.aload_n 0, 1) := by decide +kernel
theorem dX7_many_189 : decode cX7_many 189 = .ok (.getfield 17, 3) := by decide +kernel
theorem dX7_many_192 : decode cX7_many 192 = .ok (.invokevirtual 324, 3) := by decide +kernel
theorem dX7_many_195 : decode cX7_many 195 = .ok (.ireturn, 1) := by decide +kernel
theorem dX7_many_196 : decode cX7_many 196 = .ok (.aload_n 0, 1) := by decide +kernel
theorem dX7_many_197 : decode cX7_many 197 = .ok (.getfield 26, 3) := by decide +kernel
theorem dX7_many_200 : decode cX7_many 200 = .ok (.invokevirtual 304, 3) := by decide +kernel
theorem dX7_many_203 : decode cX7_many 203 = .ok (.ireturn, 1) := by decide +kernel
theorem dX7_many_204 : decode cX7_many 204 = .ok (.aload_n 0, 1) := by decide +kernel
theorem dX7_many_205 : decode cX7_many 205 = .ok (.getfield 30, 3) := by decide +kernel
theorem dX7_many_208 : decode cX7_many 208 = .ok (.ireturn, 1) := by decide +kernel
theorem dX7_isSound_0 : decode cX7_isSound 0 = .ok (.aload_n 0, 1) := by decide +kernel
theorem dX7_isSound_1 : decode cX7_isSound 1 = .ok (.getfield 17, 3) := by decide +kernel
theorem dX7_isSound_4 : decode cX7_isSound 4 = .ok (.invokevirtual 347, 3) := by decide +kernel
theorem dX7_isSound_7 : decode cX7_isSound 7 = .ok (.ifCond .eq 17, 3) := by decide +kernel
theorem dX7_isSound_10 : decode cX7_isSound 10 = .ok (.aload_n 0, 1) := by decide +kernel
theorem dX7_isSound_11 : decode cX7_isSound 11 = .ok (.getfield 17, 3) := by decide +kernel
theorem dX7_isSound_14 : decode cX7_isSound 14 = .ok (.invokevirtual 350, 3) := by decide +kernel
theorem dX7_isSound_17 : decode cX7_isSound 17 = .ok (.ifCond .eq 7, 3) := by decide +kernel
theorem dX7_isSound_20 : decode cX7_isSound 20 = .ok (.iconst 1, 1) := by decide +kernel
theorem dX7_isSound_21 : decode cX7_isSound 21 = .ok (.goto 4, 3) := by decide +kernel
theorem dX7_isSound_24 : decode cX7_isSound 24 = .ok (.iconst 0, 1) := by decide +kernel
theorem dX7_isSound_25 : decode cX7_isSound 25 = .ok (.ireturn, 1) := by decide +kernel
theorem dX7_digest_0 : decode cX7_digest 0 = .ok (.ldc2_w 353, 3) := by decide +kernel
theorem dX7_digest_3 : decode cX7_digest 3 = .ok (.lstore_n 1, 1) := by decide +kernel
theorem dX7_digest_4 : decode cX7_digest 4 = .ok (.iconst 0, 1) := by decide +kernel
theorem dX7_digest_5 : decode cX7_digest 5 = .ok (.istore_n 3, 1) := by decide +kernel
theorem dX7_digest_6 : decode cX7_digest 6 = .ok (.iload_n 3, 1) := by decide +kernel
theorem dX7_digest_7 : decode cX7_digest 7 = .ok (.bipush 14, 2) := by decide +kernel
theorem dX7_digest_9 : decode cX7_digest 9 = .ok (.if_icmp .gt 22, 3) := by decide +kernel
theorem dX7_digest_12 : decode cX7_digest 12 = .ok (.lload_n 1, 1) := by decide +kernel
theorem dX7_digest_13 : decode cX7_digest 13 = .ok (.ldc2_w 355, 3) := by decide +kernel
theorem dX7_digest_16 : decode cX7_digest 16 = .ok (.lmul, 1) := by decide +kernel
theorem dX7_digest_17 : decode cX7_digest 17 = .ok (.aload_n 0, 1) := by decide +kernel
theorem dX7_digest_18 : decode cX7_digest 18 = .ok (.iload_n 3, 1) := by decide +kernel
theorem dX7_digest_19 : decode cX7_digest 19 = .ok (.invokevirtual 357, 3) := by decide +kernel
theorem dX7_digest_22 : decode cX7_digest 22 = .ok (.i2l, 1) := by decide +kernel
theorem dX7_digest_23 : decode cX7_digest 23 = .ok (.ladd, 1) := by decide +kernel
theorem dX7_digest_24 : decode cX7_digest 24 = .ok (.lstore_n 1, 1) := by decide +kernel
theorem dX7_digest_25 : decode cX7_digest 25 = .ok (.iinc 3 1, 3) := by decide +kernel
theorem dX7_digest_28 : decode cX7_digest 28 = .ok (.goto (-22), 3) := by decide +kernel
theorem dX7_digest_31 : decode cX7_digest 31 = .ok (.iconst 0, 1) := by decide +kernel
theorem dX7_digest_32 : decode cX7_digest 32 = .ok (.istore_n 3, 1) := by decide +kernel
theorem dX7_digest_33 : decode cX7_digest 33 = .ok (.iload_n 3, 1) := by decide +kernel
theorem dX7_digest_34 : decode cX7_digest 34 = .ok (.aload_n 0, 1) := by decide +kernel
theorem dX7_digest_35 : decode cX7_digest 35 = .ok (.getfield 17, 3) := by decide +kernel
theorem dX7_digest_38 : decode cX7_digest 38 = .ok (.getfield 42, 3) := by decide +kernel
theorem dX7_digest_41 : decode cX7_digest 41 = .ok (.invokevirtual 46, 3) := by decide +kernel
theorem dX7_digest_44 : decode cX7_digest 44 = .ok (.if_icmp .ge 39, 3) := by decide +kernel
theorem dX7_digest_47 : decode cX7_digest 47 = .ok (.iconst 0, 1) := by decide +kernel
theorem dX7_digest_48 : decode cX7_digest 48 = .ok (.istore 4, 2) := by decide +kernel
theorem dX7_digest_50 : decode cX7_digest 50 = .ok (.iload 4, 2) := by decide +kernel
theorem dX7_digest_52 : decode cX7_digest 52 = .ok (.iconst 4, 1) := by decide +kernel
theorem dX7_digest_53 : decode cX7_digest 53 = .ok (.if_icmp .gt 24, 3) := by decide +kernel
theorem dX7_digest_56 : decode cX7_digest 56 = .ok (.lload_n 1, 1) := by decide +kernel
theorem dX7_digest_57 : decode cX7_digest 57 = .ok (.ldc2_w 355, 3) := by decide +kernel
theorem dX7_digest_60 : decode cX7_digest 60 = .ok (.lmul, 1) := by decide +kernel
theorem dX7_digest_61 : decode cX7_digest 61 = .ok (.aload_n 0, 1) := by decide +kernel
theorem dX7_digest_62 : decode cX7_digest 62 = .ok (.iload_n 3, 1) := by decide +kernel
theorem dX7_digest_63 : decode cX7_digest 63 = .ok (.iload 4, 2) := by decide +kernel
theorem dX7_digest_65 : decode cX7_digest 65 = .ok (.invokevirtual 360, 3) := by decide +kernel
theorem dX7_digest_68 : decode cX7_digest 68 = .ok (.i2l, 1) := by decide +kernel
theorem dX7_digest_69 : decode cX7_digest 69 = .ok (.ladd, 1) := by decide +kernel
theorem dX7_digest_70 : decode cX7_digest 70 = .ok (.lstore_n 1, 1) := by decide +kernel
theorem dX7_digest_71 : decode cX7_digest 71 = .ok (.iinc 4 1, 3) := by decide +kernel
theorem dX7_digest_74 : decode cX7_digest 74 = .ok (.goto (-24), 3) := by decide +kernel
theorem dX7_digest_77 : decode cX7_digest 77 = .ok (.iinc 3 1, 3) := by decide +kernel
theorem dX7_digest_80 : decode cX7_digest 80 = .ok (.goto (-47), 3) := by decide +kernel
theorem dX7_digest_83 : decode cX7_digest 83 = .ok (.iconst 0, 1) := by decide +kernel
theorem dX7_digest_84 : decode cX7_digest 84 = .ok (.istore_n 3, 1) := by decide +kernel
theorem dX7_digest_85 : decode cX7_digest 85 = .ok (.iload_n 3, 1) := by decide +kernel
theorem dX7_digest_86 : decode cX7_digest 86 = .ok (.aload_n 0, 1) := by decide +kernel
theorem dX7_digest_87 : decode cX7_digest 87 = .ok (.getfield 17, 3) := by decide +kernel
theorem dX7_digest_90 : decode cX7_digest 90 = .ok (.getfield 124, 3) := by decide +kernel
theorem dX7_digest_93 : decode cX7_digest 93 = .ok (.invokevirtual 76, 3) := by decide +kernel
theorem dX7_digest_96 : decode cX7_digest 96 = .ok (.if_icmp .ge 112, 3) := by decide +kernel
theorem dX7_digest_99 : decode cX7_digest 99 = .ok (.iconst 0, 1) := by decide +kernel
theorem dX7_digest_100 : decode cX7_digest 100 = .ok (.istore 4, 2) := by decide +kernel
theorem dX7_digest_102 : decode cX7_digest 102 = .ok (.iload 4, 2) := by decide +kernel
theorem dX7_digest_104 : decode cX7_digest 104 = .ok (.bipush 14, 2) := by decide +kernel
theorem dX7_digest_106 : decode cX7_digest 106 = .ok (.if_icmp .gt 24, 3) := by decide +kernel
theorem dX7_digest_109 : decode cX7_digest 109 = .ok (.lload_n 1, 1) := by decide +kernel
theorem dX7_digest_110 : decode cX7_digest 110 = .ok (.ldc2_w 355, 3) := by decide +kernel
theorem dX7_digest_113 : decode cX7_digest 113 = .ok (.lmul, 1) := by decide +kernel
theorem dX7_digest_114 : decode cX7_digest 114 = .ok (.aload_n 0, 1) := by decide +kernel
theorem dX7_digest_115 : decode cX7_digest 115 = .ok (.iload_n 3, 1) := by decide +kernel
theorem dX7_digest_116 : decode cX7_digest 116 = .ok (.iload 4, 2) := by decide +kernel
theorem dX7_digest_118 : decode cX7_digest 118 = .ok (.invokevirtual 363, 3) := by decide +kernel
theorem dX7_digest_121 : decode cX7_digest 121 = .ok (.i2l, 1) := by decide +kernel
theorem dX7_digest_122 : decode cX7_digest 122 = .ok (.ladd, 1) := by decide +kernel
theorem dX7_digest_123 : decode cX7_digest 123 = .ok (.lstore_n 1, 1) := by decide +kernel
theorem dX7_digest_124 : decode cX7_digest 124 = .ok (.iinc 4 1, 3) := by decide +kernel
theorem dX7_digest_127 : decode cX7_digest 127 = .ok (.goto (-25), 3) := by decide +kernel
theorem dX7_digest_130 : decode cX7_digest 130 = .ok (.iconst 0, 1) := by decide +kernel
theorem dX7_digest_131 : decode cX7_digest 131 = .ok (.istore 4, 2) := by decide +kernel
theorem dX7_digest_133 : decode cX7_digest 133 = .ok (.iload 4, 2) := by decide +kernel
theorem dX7_digest_135 : decode cX7_digest 135 = .ok (.bipush 6, 2) := by decide +kernel
theorem dX7_digest_137 : decode cX7_digest 137 = .ok (.if_icmp .gt 24, 3) := by decide +kernel
theorem dX7_digest_140 : decode cX7_digest 140 = .ok (.lload_n 1, 1) := by decide +kernel
theorem dX7_digest_141 : decode cX7_digest 141 = .ok (.ldc2_w 355, 3) := by decide +kernel
theorem dX7_digest_144 : decode cX7_digest 144 = .ok (.lmul, 1) := by decide +kernel
theorem dX7_digest_145 : decode cX7_digest 145 = .ok (.aload_n 0, 1) := by decide +kernel
theorem dX7_digest_146 : decode cX7_digest 146 = .ok (.iload_n 3, 1) := by decide +kernel
theorem dX7_digest_147 : decode cX7_digest 147 = .ok (.iload 4, 2) := by decide +kernel
theorem dX7_digest_149 : decode cX7_digest 149 = .ok (.invokevirtual 366, 3) := by decide +kernel
theorem dX7_digest_152 : decode cX7_digest 152 = .ok (.i2l, 1) := by decide +kernel
theorem dX7_digest_153 : decode cX7_digest 153 = .ok (.ladd, 1) := by decide +kernel
theorem dX7_digest_154 : decode cX7_digest 154 = .ok (.lstore_n 1, 1) := by decide +kernel
theorem dX7_digest_155 : decode cX7_digest 155 = .ok (.iinc 4 1, 3) := by decide +kernel
theorem dX7_digest_158 : decode cX7_digest 158 = .ok (.goto (-25), 3) := by decide +kernel
theorem dX7_digest_161 : decode cX7_digest 161 = .ok (.lload_n 1, 1) := by decide +kernel
theorem dX7_digest_162 : decode cX7_digest 162 = .ok (.ldc2_w 355, 3) := by decide +kernel
theorem dX7_digest_165 : decode cX7_digest 165 = .ok (.lmul, 1) := by decide +kernel
theorem dX7_digest_166 : decode cX7_digest 166 = .ok (.aload_n 0, 1) := by decide +kernel
theorem dX7_digest_167 : decode cX7_digest 167 = .ok (.iload_n 3, 1) := by decide +kernel
theorem dX7_digest_168 : decode cX7_digest 168 = .ok (.invokevirtual 369, 3) := by decide +kernel
theorem dX7_digest_171 : decode cX7_digest 171 = .ok (.i2l, 1) := by decide +kernel
theorem dX7_digest_172 : decode cX7_digest 172 = .ok (.ladd, 1) := by decide +kernel
theorem dX7_digest_173 : decode cX7_digest 173 = .ok (.lstore_n 1, 1) := by decide +kernel
theorem dX7_digest_174 : decode cX7_digest 174 = .ok (.lload_n 1, 1) := by decide +kernel
theorem dX7_digest_175 : decode cX7_digest 175 = .ok (.ldc2_w 355, 3) := by decide +kernel
theorem dX7_digest_178 : decode cX7_digest 178 = .ok (.lmul, 1) := by decide +kernel
theorem dX7_digest_179 : decode cX7_digest 179 = .ok (.aload_n 0, 1) := by decide +kernel
theorem dX7_digest_180 : decode cX7_digest 180 = .ok (.iload_n 3, 1) := by decide +kernel
theorem dX7_digest_181 : decode cX7_digest 181 = .ok (.iconst 0, 1) := by decide +kernel
theorem dX7_digest_182 : decode cX7_digest 182 = .ok (.invokevirtual 372, 3) := by decide +kernel
theorem dX7_digest_185 : decode cX7_digest 185 = .ok (.i2l, 1) := by decide +kernel
theorem dX7_digest_186 : decode cX7_digest 186 = .ok (.ladd, 1) := by decide +kernel
theorem dX7_digest_187 : decode cX7_digest 187 = .ok (.lstore_n 1, 1) := by decide +kernel
theorem dX7_digest_188 : decode cX7_digest 188 = .ok (.lload_n 1, 1) := by decide +kernel
theorem dX7_digest_189 : decode cX7_digest 189 = .ok (.ldc2_w 355, 3) := by decide +kernel
theorem dX7_digest_192 : decode cX7_digest 192 = .ok (.lmul, 1) := by decide +kernel
theorem dX7_digest_193 : decode cX7_digest 193 = .ok (.aload_n 0, 1) := by decide +kernel
theorem dX7_digest_194 : decode cX7_digest 194 = .ok (.iload_n 3, 1) := by decide +kernel
theorem dX7_digest_195 : decode cX7_digest 195 = .ok (.iconst 1, 1) := by decide +kernel
theorem dX7_digest_196 : decode cX7_digest 196 = .ok (.invokevirtual 372, 3) := by decide +kernel
theorem dX7_digest_199 : decode cX7_digest 199 = .ok (.i2l, 1) := by decide +kernel
theorem dX7_digest_200 : decode cX7_digest 200 = .ok (.ladd, 1) := by decide +kernel
theorem dX7_digest_201 : decode cX7_digest 201 = .ok (.lstore_n 1, 1) := by decide +kernel
theorem dX7_digest_202 : decode cX7_digest 202 = .ok (.iinc 3 1, 3) := by decide +kernel
theorem dX7_digest_205 : decode cX7_digest 205 = .ok (.goto (-120), 3) := by decide +kernel
theorem dX7_digest_208 : decode cX7_digest 208 = .ok (.iconst 0, 1) := by decide +kernel
theorem dX7_digest_209 : decode cX7_digest 209 = .ok (.istore_n 3, 1) := by decide +kernel
theorem dX7_digest_210 : decode cX7_digest 210 = .ok (.iload_n 3, 1) := by decide +kernel
theorem dX7_digest_211 : decode cX7_digest 211 = .ok (.aload_n 0, 1) := by decide +kernel
theorem dX7_digest_212 : decode cX7_digest 212 = .ok (.getfield 17, 3) := by decide +kernel
theorem dX7_digest_215 : decode cX7_digest 215 = .ok (.getfield 113, 3) := by decide +kernel
theorem dX7_digest_218 : decode cX7_digest 218 = .ok (.invokevirtual 76, 3) := by decide +kernel
theorem dX7_digest_221 : decode cX7_digest 221 = .ok (.if_icmp .ge 39, 3) := by decide +kernel
theorem dX7_digest_224 : decode cX7_digest 224 = .ok (.iconst 0, 1) := by decide +kernel
theorem dX7_digest_225 : decode cX7_digest 225 = .ok (.istore 4, 2) := by decide +kernel
theorem dX7_digest_227 : decode cX7_digest 227 = .ok (.iload 4, 2) := by decide +kernel
theorem dX7_digest_229 : decode cX7_digest 229 = .ok (.iconst 3, 1) := by decide +kernel
theorem dX7_digest_230 : decode cX7_digest 230 = .ok (.if_icmp .gt 24, 3) := by decide +kernel
theorem dX7_digest_233 : decode cX7_digest 233 = .ok (.lload_n 1, 1) := by decide +kernel
theorem dX7_digest_234 : decode cX7_digest 234 = .ok (.ldc2_w 355, 3) := by decide +kernel
theorem dX7_digest_237 : decode cX7_digest 237 = .ok (.lmul, 1) := by decide +kernel
theorem dX7_digest_238 : decode cX7_digest 238 = .ok (.aload_n 0, 1) := by decide +kernel
theorem dX7_digest_239 : decode cX7_digest 239 = .ok (.iload_n 3, 1) := by decide +kernel
theorem dX7_digest_240 : decode cX7_digest 240 = .ok (.iload 4, 2) := by decide +kernel
theorem dX7_digest_242 : decode cX7_digest 242 = .ok (.invokevirtual 376, 3) := by decide +kernel
theorem dX7_digest_245 : decode cX7_digest 245 = .ok (.i2l, 1) := by decide +kernel
theorem dX7_digest_246 : decode cX7_digest 246 = .ok (.ladd, 1) := by decide +kernel
theorem dX7_digest_247 : decode cX7_digest 247 = .ok (.lstore_n 1, 1) := by decide +kernel
theorem dX7_digest_248 : decode cX7_digest 248 = .ok (.iinc 4 1, 3) := by decide +kernel
theorem dX7_digest_251 : decode cX7_digest 251 = .ok (.goto (-24), 3) := by decide +kernel
theorem dX7_digest_254 : decode cX7_digest 254 = .ok (.iinc 3 1, 3) := by decide +kernel
theorem dX7_digest_257 : decode cX7_digest 257 = .ok (.goto (-47), 3) := by decide +kernel
theorem dX7_digest_260 : decode cX7_digest 260 = .ok (.lload_n 1, 1) := by decide +kernel
theorem dX7_digest_261 : decode cX7_digest 261 = .ok (.ldc2_w 355, 3) := by decide +kernel
theorem dX7_digest_264 : decode cX7_digest 264 = .ok (.lmul, 1) := by decide +kernel
theorem dX7_digest_265 : decode cX7_digest 265 = .ok (.aload_n 0, 1) := by decide +kernel
theorem dX7_digest_266 : decode cX7_digest 266 = .ok (.invokevirtual 379, 3) := by decide +kernel
theorem dX7_digest_269 : decode cX7_digest 269 = .ok (.ifCond .eq 7, 3) := by decide +kernel
theorem dX7_digest_272 : decode cX7_digest 272 = .ok (.iconst 1, 1) := by decide +kernel
theorem dX7_digest_273 : decode cX7_digest 273 = .ok (.goto 4, 3) := by decide +kernel
theorem dX7_digest_276 : decode cX7_digest 276 = .ok (.iconst 0, 1) := by decide +kernel
theorem dX7_digest_277 : decode cX7_digest 277 = .ok (.i2l, 1) := by decide +kernel
theorem dX7_digest_278 : decode cX7_digest 278 = .ok (.ladd, 1) := by decide +kernel
theorem dX7_digest_279 : decode cX7_digest 279 = .ok (.lreturn, 1) := by decide +kernel
theorem dX7_needWithin_0 : decode cX7_needWithin 0 = .ok (.iload_n 0, 1) := by decide +kernel
theorem dX7_needWithin_1 : decode cX7_needWithin 1 = .ok (.iload_n 1, 1) := by decide +kernel
theorem dX7_needWithin_2 : decode cX7_needWithin 2 = .ok (.if_icmp .lt 8, 3) := by decide +kernel
theorem dX7_needWithin_5 : decode cX7_needWithin 5 = .ok (.iload_n 0, 1) := by decide +kernel
theorem dX7_needWithin_6 : decode cX7_needWithin 6 = .ok (.iload_n 2, 1) := by decide +kernel
theorem dX7_needWithin_7 : decode cX7_needWithin 7 = .ok (.if_icmp .le 14, 3) := by decide +kernel
theorem dX7_needWithin_10 : decode cX7_needWithin 10 = .ok (.new 201, 3) := by decide +kernel
theorem dX7_needWithin_13 : decode cX7_needWithin 13 = .ok (.dup, 1) := by decide +kernel
theorem dX7_needWithin_14 : decode cX7_needWithin 14 = .ok (.ldc_w 382, 3) := by decide +kernel
theorem dX7_needWithin_17 : decode cX7_needWithin 17 = .ok (.invokespecial 205, 3) := by decide +kernel
theorem dX7_needWithin_20 : decode cX7_needWithin 20 = .ok (.athrow, 1) := by decide +kernel
theorem dX7_needWithin_21 : decode cX7_needWithin 21 = .ok (.return_, 1) := by decide +kernel
theorem dX7_needCell_0 : decode cX7_needCell 0 = .ok (.aload_n 0, 1) := by decide +kernel
theorem dX7_needCell_1 : decode cX7_needCell 1 = .ok (.getfield 17, 3) := by decide +kernel
theorem dX7_needCell_4 : decode cX7_needCell 4 = .ok (.getfield 42, 3) := by decide +kernel
theorem dX7_needCell_7 : decode cX7_needCell 7 = .ok (.iload_n 1, 1) := by decide +kernel
theorem dX7_needCell_8 : decode cX7_needCell 8 = .ok (.invokevirtual 384, 3) := by decide +kernel
theorem dX7_needCell_11 : decode cX7_needCell 11 = .ok (.ifCond .ne 14, 3) := by decide +kernel
theorem dX7_needCell_14 : decode cX7_needCell 14 = .ok (.new 258, 3) := by decide +kernel
theorem dX7_needCell_17 : decode cX7_needCell 17 = .ok (.dup, 1) := by decide +kernel
theorem dX7_needCell_18 : decode cX7_needCell 18 = .ok (.ldc_w 387, 3) := by decide +kernel
theorem dX7_needCell_21 : decode cX7_needCell 21 = .ok (.invokespecial 262, 3) := by decide +kernel
theorem dX7_needCell_24 : decode cX7_needCell 24 = .ok (.athrow, 1) := by decide +kernel
theorem dX7_needCell_25 : decode cX7_needCell 25 = .ok (.return_, 1) := by decide +kernel
theorem dX7_needCrane_0 : decode cX7_needCrane 0 = .ok (.iload_n 1, 1) := by decide +kernel
theorem dX7_needCrane_1 : decode cX7_needCrane 1 = .ok (.ifCond .lt 17, 3) := by decide +kernel
theorem dX7_needCrane_4 : decode cX7_needCrane 4 = .ok (.iload_n 1, 1) := by decide +kernel
theorem dX7_needCrane_5 : decode cX7_needCrane 5 = .ok (.aload_n 0, 1) := by decide +kernel
theorem dX7_needCrane_6 : decode cX7_needCrane 6 = .ok (.getfield 17, 3) := by decide +kernel
theorem dX7_needCrane_9 : decode cX7_needCrane 9 = .ok (.getfield 124, 3) := by decide +kernel
theorem dX7_needCrane_12 : decode cX7_needCrane 12 = .ok (.invokevirtual 76, 3) := by decide +kernel
theorem dX7_needCrane_15 : decode cX7_needCrane 15 = .ok (.if_icmp .lt 14, 3) := by decide +kernel
theorem dX7_needCrane_18 : decode cX7_needCrane 18 = .ok (.new 258, 3) := by decide +kernel
theorem dX7_needCrane_21 : decode cX7_needCrane 21 = .ok (.dup, 1) := by decide +kernel
theorem dX7_needCrane_22 : decode cX7_needCrane 22 = .ok (.ldc_w 389, 3) := by decide +kernel
theorem dX7_needCrane_25 : decode cX7_needCrane 25 = .ok (.invokespecial 262, 3) := by decide +kernel
theorem dX7_needCrane_28 : decode cX7_needCrane 28 = .ok (.athrow, 1) := by decide +kernel
theorem dX7_needCrane_29 : decode cX7_needCrane 29 = .ok (.aload_n 0, 1) := by decide +kernel
theorem dX7_needCrane_30 : decode cX7_needCrane 30 = .ok (.getfield 17, 3) := by decide +kernel
theorem dX7_needCrane_33 : decode cX7_needCrane 33 = .ok (.getfield 124, 3) := by decide +kernel
theorem dX7_needCrane_36 : decode cX7_needCrane 36 = .ok (.iload_n 1, 1) := by decide +kernel
theorem dX7_needCrane_37 : decode cX7_needCrane 37 = .ok (.invokevirtual 263, 3) := by decide +kernel
theorem dX7_needCrane_40 : decode cX7_needCrane 40 = .ok (.checkcast 133, 3) := by decide +kernel
theorem dX7_needCrane_43 : decode cX7_needCrane 43 = .ok (.areturn, 1) := by decide +kernel
theorem dJ6_bitCount_0f7a4_0 : decode cJ6_bitCount_0f7a4 0 = .ok (.iload_n 0, 1) := by decide +kernel
theorem dJ6_bitCount_0f7a4_1 : decode cJ6_bitCount_0f7a4 1 = .ok (.iload_n 0, 1) := by decide +kernel
theorem dJ6_bitCount_0f7a4_2 : decode cJ6_bitCount_0f7a4 2 = .ok (.iconst 1, 1) := by decide +kernel
theorem dJ6_bitCount_0f7a4_3 : decode cJ6_bitCount_0f7a4 3 = .ok (.iushr, 1) := by decide +kernel
theorem dJ6_bitCount_0f7a4_4 : decode cJ6_bitCount_0f7a4 4 = .ok (.ldc_w 265, 3) := by decide +kernel
theorem dJ6_bitCount_0f7a4_7 : decode cJ6_bitCount_0f7a4 7 = .ok (.iand, 1) := by decide +kernel
theorem dJ6_bitCount_0f7a4_8 : decode cJ6_bitCount_0f7a4 8 = .ok (.isub, 1) := by decide +kernel
theorem dJ6_bitCount_0f7a4_9 : decode cJ6_bitCount_0f7a4 9 = .ok (.istore_n 0, 1) := by decide +kernel
theorem dJ6_bitCount_0f7a4_10 : decode cJ6_bitCount_0f7a4 10 = .ok (.iload_n 0, 1) := by decide +kernel
theorem dJ6_bitCount_0f7a4_11 : decode cJ6_bitCount_0f7a4 11 = .ok (.ldc_w 266, 3) := by decide +kernel
theorem dJ6_bitCount_0f7a4_14 : decode cJ6_bitCount_0f7a4 14 = .ok (.iand, 1) := by decide +kernel
theorem dJ6_bitCount_0f7a4_15 : decode cJ6_bitCount_0f7a4 15 = .ok (.iload_n 0, 1) := by decide +kernel
theorem dJ6_bitCount_0f7a4_16 : decode cJ6_bitCount_0f7a4 16 = .ok (.iconst 2, 1) := by decide +kernel
theorem dJ6_bitCount_0f7a4_17 : decode cJ6_bitCount_0f7a4 17 = .ok (.iushr, 1) := by decide +kernel
theorem dJ6_bitCount_0f7a4_18 : decode cJ6_bitCount_0f7a4 18 = .ok (.ldc_w 266, 3) := by decide +kernel
theorem dJ6_bitCount_0f7a4_21 : decode cJ6_bitCount_0f7a4 21 = .ok (.iand, 1) := by decide +kernel
theorem dJ6_bitCount_0f7a4_22 : decode cJ6_bitCount_0f7a4 22 = .ok (.iadd, 1) := by decide +kernel
theorem dJ6_bitCount_0f7a4_23 : decode cJ6_bitCount_0f7a4 23 = .ok (.istore_n 0, 1) := by decide +kernel
theorem dJ6_bitCount_0f7a4_24 : decode cJ6_bitCount_0f7a4 24 = .ok (.iload_n 0, 1) := by decide +kernel
theorem dJ6_bitCount_0f7a4_25 : decode cJ6_bitCount_0f7a4 25 = .ok (.iload_n 0, 1) := by decide +kernel
theorem dJ6_bitCount_0f7a4_26 : decode cJ6_bitCount_0f7a4 26 = .ok (.iconst 4, 1) := by decide +kernel
theorem dJ6_bitCount_0f7a4_27 : decode cJ6_bitCount_0f7a4 27 = .ok (.iushr, 1) := by decide +kernel
theorem dJ6_bitCount_0f7a4_28 : decode cJ6_bitCount_0f7a4 28 = .ok (.iadd, 1) := by decide +kernel
theorem dJ6_bitCount_0f7a4_29 : decode cJ6_bitCount_0f7a4 29 = .ok (.ldc_w 267, 3) := by decide +kernel
theorem dJ6_bitCount_0f7a4_32 : decode cJ6_bitCount_0f7a4 32 = .ok (.iand, 1) := by decide +kernel
theorem dJ6_bitCount_0f7a4_33 : decode cJ6_bitCount_0f7a4 33 = .ok (.istore_n 0, 1) := by decide +kernel
theorem dJ6_bitCount_0f7a4_34 : decode cJ6_bitCount_0f7a4 34 = .ok (.iload_n 0, 1) := by decide +kernel
theorem dJ6_bitCount_0f7a4_35 : decode cJ6_bitCount_0f7a4 35 = .ok (.iload_n 0, 1) := by decide +kernel
theorem dJ6_bitCount_0f7a4_36 : decode cJ6_bitCount_0f7a4 36 = .ok (.bipush 8, 2) := by decide +kernel
theorem dJ6_bitCount_0f7a4_38 : decode cJ6_bitCount_0f7a4 38 = .ok (.iushr, 1) := by decide +kernel
theorem dJ6_bitCount_0f7a4_39 : decode cJ6_bitCount_0f7a4 39 = .ok (.iadd, 1) := by decide +kernel
theorem dJ6_bitCount_0f7a4_40 : decode cJ6_bitCount_0f7a4 40 = .ok (.istore_n 0, 1) := by decide +kernel
theorem dJ6_bitCount_0f7a4_41 : decode cJ6_bitCount_0f7a4 41 = .ok (.iload_n 0, 1) := by decide +kernel
theorem dJ6_bitCount_0f7a4_42 : decode cJ6_bitCount_0f7a4 42 = .ok (.iload_n 0, 1) := by decide +kernel
theorem dJ6_bitCount_0f7a4_43 : decode cJ6_bitCount_0f7a4 43 = .ok (.bipush 16, 2) := by decide +kernel
theorem dJ6_bitCount_0f7a4_45 : decode cJ6_bitCount_0f7a4 45 = .ok (.iushr, 1) := by decide +kernel
theorem dJ6_bitCount_0f7a4_46 : decode cJ6_bitCount_0f7a4 46 = .ok (.iadd, 1) := by decide +kernel
theorem dJ6_bitCount_0f7a4_47 : decode cJ6_bitCount_0f7a4 47 = .ok (.istore_n 0, 1) := by decide +kernel
theorem dJ6_bitCount_0f7a4_48 : decode cJ6_bitCount_0f7a4 48 = .ok (.iload_n 0, 1) := by decide +kernel
theorem dJ6_bitCount_0f7a4_49 : decode cJ6_bitCount_0f7a4 49 = .ok (.bipush 63, 2) := by decide +kernel
theorem dJ6_bitCount_0f7a4_51 : decode cJ6_bitCount_0f7a4 51 = .ok (.iand, 1) := by decide +kernel
theorem dJ6_bitCount_0f7a4_52 : decode cJ6_bitCount_0f7a4 52 = .ok (.ireturn, 1) := by decide +kernel
theorem dJ9_abs_0f7a4_0 : decode cJ9_abs_0f7a4 0 = .ok (.iload_n 0, 1) := by decide +kernel
theorem dJ9_abs_0f7a4_1 : decode cJ9_abs_0f7a4 1 = .ok (.ifCond .ge 8, 3) := by decide +kernel
theorem dJ9_abs_0f7a4_4 : decode cJ9_abs_0f7a4 4 = .ok (.iload_n 0, 1) := by decide +kernel
theorem dJ9_abs_0f7a4_5 : decode cJ9_abs_0f7a4 5 = .ok (.ineg, 1) := by decide +kernel
theorem dJ9_abs_0f7a4_6 : decode cJ9_abs_0f7a4 6 = .ok (.goto 4, 3) := by decide +kernel
theorem dJ9_abs_0f7a4_9 : decode cJ9_abs_0f7a4 9 = .ok (.iload_n 0, 1) := by decide +kernel
theorem dJ9_abs_0f7a4_10 : decode cJ9_abs_0f7a4 10 = .ok (.ireturn, 1) := by decide +kernel
theorem dJ9_max_7cf53_0 : decode cJ9_max_7cf53 0 = .ok (.iload_n 0, 1) := by decide +kernel
theorem dJ9_max_7cf53_1 : decode cJ9_max_7cf53 1 = .ok (.iload_n 1, 1) := by decide +kernel
theorem dJ9_max_7cf53_2 : decode cJ9_max_7cf53 2 = .ok (.if_icmp .lt 7, 3) := by decide +kernel
theorem dJ9_max_7cf53_5 : decode cJ9_max_7cf53 5 = .ok (.iload_n 0, 1) := by decide +kernel
theorem dJ9_max_7cf53_6 : decode cJ9_max_7cf53 6 = .ok (.goto 4, 3) := by decide +kernel
theorem dJ9_max_7cf53_9 : decode cJ9_max_7cf53 9 = .ok (.iload_n 1, 1) := by decide +kernel
theorem dJ9_max_7cf53_10 : decode cJ9_max_7cf53 10 = .ok (.ireturn, 1) := by decide +kernel
theorem dJ9_min_7cf53_0 : decode cJ9_min_7cf53 0 = .ok (.iload_n 0, 1) := by decide +kernel
theorem dJ9_min_7cf53_1 : decode cJ9_min_7cf53 1 = .ok (.iload_n 1, 1) := by decide +kernel
theorem dJ9_min_7cf53_2 : decode cJ9_min_7cf53 2 = .ok (.if_icmp .gt 7, 3) := by decide +kernel
theorem dJ9_min_7cf53_5 : decode cJ9_min_7cf53 5 = .ok (.iload_n 0, 1) := by decide +kernel
theorem dJ9_min_7cf53_6 : decode cJ9_min_7cf53 6 = .ok (.goto 4, 3) := by decide +kernel
theorem dJ9_min_7cf53_9 : decode cJ9_min_7cf53 9 = .ok (.iload_n 1, 1) := by decide +kernel
theorem dJ9_min_7cf53_10 : decode cJ9_min_7cf53 10 = .ok (.ireturn, 1) := by decide +kernel
theorem dJxa1e45_init_da8c8_0 : decode cJxa1e45_init_da8c8 0 = .ok (.aload_n 0, 1) := by decide +kernel
theorem dJxa1e45_init_da8c8_1 : decode cJxa1e45_init_da8c8 1 = .ok (.invokespecial 1, 3) := by decide +kernel
theorem dJxa1e45_init_da8c8_4 : decode cJxa1e45_init_da8c8 4 = .ok (.return_, 1) := by decide +kernel
theorem dJxc12de_init_da8c8_0 : decode cJxc12de_init_da8c8 0 = .ok (.aload_n 0, 1) := by decide +kernel
theorem dJxc12de_init_da8c8_1 : decode cJxc12de_init_da8c8 1 = .ok (.invokespecial 1, 3) := by decide +kernel
theorem dJxc12de_init_da8c8_4 : decode cJxc12de_init_da8c8 4 = .ok (.aload_n 0, 1) := by decide +kernel
theorem dJxc12de_init_da8c8_5 : decode cJxc12de_init_da8c8 5 = .ok (.iconst 0, 1) := by decide +kernel
theorem dJxc12de_init_da8c8_6 : decode cJxc12de_init_da8c8 6 = .ok (.putfield 7, 3) := by decide +kernel
theorem dJxc12de_init_da8c8_9 : decode cJxc12de_init_da8c8 9 = .ok (.return_, 1) := by decide +kernel
theorem dJx4a65c_init_da8c8_0 : decode cJx4a65c_init_da8c8 0 = .ok (.aload_n 0, 1) := by decide +kernel
theorem dJx4a65c_init_da8c8_1 : decode cJx4a65c_init_da8c8 1 = .ok (.invokespecial 1, 3) := by decide +kernel
theorem dJx4a65c_init_da8c8_4 : decode cJx4a65c_init_da8c8 4 = .ok (.aload_n 0, 1) := by decide +kernel
theorem dJx4a65c_init_da8c8_5 : decode cJx4a65c_init_da8c8 5 = .ok (.getstatic 39, 3) := by decide +kernel
theorem dJx4a65c_init_da8c8_8 : decode cJx4a65c_init_da8c8 8 = .ok (.putfield 9, 3) := by decide +kernel
theorem dJx4a65c_init_da8c8_11 : decode cJx4a65c_init_da8c8 11 = .ok (.return_, 1) := by decide +kernel
theorem dJx4a65c_grow_92f84_0 : decode cJx4a65c_grow_92f84 0 = .ok (.aload_n 0, 1) := by decide +kernel
theorem dJx4a65c_grow_92f84_1 : decode cJx4a65c_grow_92f84 1 = .ok (.getfield 9, 3) := by decide +kernel
theorem dJx4a65c_grow_92f84_4 : decode cJx4a65c_grow_92f84 4 = .ok (.arraylength, 1) := by decide +kernel
theorem dJx4a65c_grow_92f84_5 : decode cJx4a65c_grow_92f84 5 = .ok (.istore_n 2, 1) := by decide +kernel
theorem dJx4a65c_grow_92f84_6 : decode cJx4a65c_grow_92f84 6 = .ok (.iload_n 2, 1) := by decide +kernel
theorem dJx4a65c_grow_92f84_7 : decode cJx4a65c_grow_92f84 7 = .ok (.ifCond .gt 13, 3) := by decide +kernel
theorem dJx4a65c_grow_92f84_10 : decode cJx4a65c_grow_92f84 10 = .ok (.aload_n 0, 1) := by decide +kernel
theorem dJx4a65c_grow_92f84_11 : decode cJx4a65c_grow_92f84 11 = .ok (.getfield 9, 3) := by decide +kernel
theorem dJx4a65c_grow_92f84_14 : decode cJx4a65c_grow_92f84 14 = .ok (.getstatic 39, 3) := by decide +kernel
theorem dJx4a65c_grow_92f84_17 : decode cJx4a65c_grow_92f84 17 = .ok (.if_acmp .eq 28, 3) := by decide +kernel
theorem dJx4a65c_grow_92f84_20 : decode cJx4a65c_grow_92f84 20 = .ok (.iload_n 2, 1) := by decide +kernel
theorem dJx4a65c_grow_92f84_21 : decode cJx4a65c_grow_92f84 21 = .ok (.iload_n 1, 1) := by decide +kernel
theorem dJx4a65c_grow_92f84_22 : decode cJx4a65c_grow_92f84 22 = .ok (.iload_n 2, 1) := by decide +kernel
theorem dJx4a65c_grow_92f84_23 : decode cJx4a65c_grow_92f84 23 = .ok (.isub, 1) := by decide +kernel
theorem dJx4a65c_grow_92f84_24 : decode cJx4a65c_grow_92f84 24 = .ok (.iload_n 2, 1) := by decide +kernel
theorem dJx4a65c_grow_92f84_25 : decode cJx4a65c_grow_92f84 25 = .ok (.iconst 1, 1) := by decide +kernel
theorem dJx4a65c_grow_92f84_26 : decode cJx4a65c_grow_92f84 26 = .ok (.ishr, 1) := by decide +kernel
theorem dJx4a65c_grow_92f84_27 : decode cJx4a65c_grow_92f84 27 = .ok (.invokestatic 73, 3) := by decide +kernel
theorem dJx4a65c_grow_92f84_30 : decode cJx4a65c_grow_92f84 30 = .ok (.istore_n 3, 1) := by decide +kernel
theorem dJx4a65c_grow_92f84_31 : decode cJx4a65c_grow_92f84 31 = .ok (.aload_n 0, 1) := by decide +kernel
theorem dJx4a65c_grow_92f84_32 : decode cJx4a65c_grow_92f84 32 = .ok (.aload_n 0, 1) := by decide +kernel
theorem dJx4a65c_grow_92f84_33 : decode cJx4a65c_grow_92f84 33 = .ok (.getfield 9, 3) := by decide +kernel
theorem dJx4a65c_grow_92f84_36 : decode cJx4a65c_grow_92f84 36 = .ok (.iload_n 3, 1) := by decide +kernel
theorem dJx4a65c_grow_92f84_37 : decode cJx4a65c_grow_92f84 37 = .ok (.invokestatic 66, 3) := by decide +kernel
theorem dJx4a65c_grow_92f84_40 : decode cJx4a65c_grow_92f84 40 = .ok (.dup_x1, 1) := by decide +kernel
theorem dJx4a65c_grow_92f84_41 : decode cJx4a65c_grow_92f84 41 = .ok (.putfield 9, 3) := by decide +kernel
theorem dJx4a65c_grow_92f84_44 : decode cJx4a65c_grow_92f84 44 = .ok (.areturn, 1) := by decide +kernel
theorem dJx4a65c_grow_92f84_45 : decode cJx4a65c_grow_92f84 45 = .ok (.aload_n 0, 1) := by decide +kernel
theorem dJx4a65c_grow_92f84_46 : decode cJx4a65c_grow_92f84 46 = .ok (.bipush 10, 2) := by decide +kernel
theorem dJx4a65c_grow_92f84_48 : decode cJx4a65c_grow_92f84 48 = .ok (.iload_n 1, 1) := by decide +kernel
theorem dJx4a65c_grow_92f84_49 : decode cJx4a65c_grow_92f84 49 = .ok (.invokestatic 79, 3) := by decide +kernel
theorem dJx4a65c_grow_92f84_52 : decode cJx4a65c_grow_92f84 52 = .ok (.anewarray 7, 3) := by decide +kernel
theorem dJx4a65c_grow_92f84_55 : decode cJx4a65c_grow_92f84 55 = .ok (.dup_x1, 1) := by decide +kernel
theorem dJx4a65c_grow_92f84_56 : decode cJx4a65c_grow_92f84 56 = .ok (.putfield 9, 3) := by decide +kernel
theorem dJx4a65c_grow_92f84_59 : decode cJx4a65c_grow_92f84 59 = .ok (.areturn, 1) := by decide +kernel
theorem dJx4a65c_grow_d5877_0 : decode cJx4a65c_grow_d5877 0 = .ok (.aload_n 0, 1) := by decide +kernel
theorem dJx4a65c_grow_d5877_1 : decode cJx4a65c_grow_d5877 1 = .ok (.aload_n 0, 1) := by decide +kernel
theorem dJx4a65c_grow_d5877_2 : decode cJx4a65c_grow_d5877 2 = .ok (.getfield 48, 3) := by decide +kernel
theorem dJx4a65c_grow_d5877_5 : decode cJx4a65c_grow_d5877 5 = .ok (.iconst 1, 1) := by decide +kernel
theorem dJx4a65c_grow_d5877_6 : decode cJx4a65c_grow_d5877 6 = .ok (.iadd, 1) := by decide +kernel
theorem dJx4a65c_grow_d5877_7 : decode cJx4a65c_grow_d5877 7 = .ok (.invokevirtual 69, 3) := by decide +kernel
theorem dJx4a65c_grow_d5877_10 : decode cJx4a65c_grow_d5877 10 = .ok (.areturn, 1) := by decide +kernel
theorem dJx4a65c_size_8abf5_0 : decode cJx4a65c_size_8abf5 0 = .ok (.aload_n 0, 1) := by decide +kernel
theorem dJx4a65c_size_8abf5_1 : decode cJx4a65c_size_8abf5 1 = .ok (.getfield 48, 3) := by decide +kernel
theorem dJx4a65c_size_8abf5_4 : decode cJx4a65c_size_8abf5 4 = .ok (.ireturn, 1) := by decide +kernel
theorem dJx4a65c_elementData_915e3_0 : decode cJx4a65c_elementData_915e3 0 = .ok (.aload_n 0, 1) := by decide +kernel
theorem dJx4a65c_elementData_915e3_1 : decode cJx4a65c_elementData_915e3 1 = .ok (.getfield 9, 3) := by decide +kernel
theorem dJx4a65c_elementData_915e3_4 : decode cJx4a65c_elementData_915e3 4 = .ok (.iload_n 1, 1) := by decide +kernel
theorem dJx4a65c_elementData_915e3_5 : decode cJx4a65c_elementData_915e3 5 = .ok (.aaload, 1) := by decide +kernel
theorem dJx4a65c_elementData_915e3_6 : decode cJx4a65c_elementData_915e3 6 = .ok (.areturn, 1) := by decide +kernel
theorem dJx4a65c_get_915e3_0 : decode cJx4a65c_get_915e3 0 = .ok (.iload_n 1, 1) := by decide +kernel
theorem dJx4a65c_get_915e3_1 : decode cJx4a65c_get_915e3 1 = .ok (.aload_n 0, 1) := by decide +kernel
theorem dJx4a65c_get_915e3_2 : decode cJx4a65c_get_915e3 2 = .ok (.getfield 48, 3) := by decide +kernel
theorem dJx4a65c_get_915e3_5 : decode cJx4a65c_get_915e3 5 = .ok (.invokestatic 118, 3) := by decide +kernel
theorem dJx4a65c_get_915e3_8 : decode cJx4a65c_get_915e3 8 = .ok (.pop, 1) := by decide +kernel
theorem dJx4a65c_get_915e3_9 : decode cJx4a65c_get_915e3 9 = .ok (.aload_n 0, 1) := by decide +kernel
theorem dJx4a65c_get_915e3_10 : decode cJx4a65c_get_915e3 10 = .ok (.iload_n 1, 1) := by decide +kernel
theorem dJx4a65c_get_915e3_11 : decode cJx4a65c_get_915e3 11 = .ok (.invokevirtual 123, 3) := by decide +kernel
end
section
theorem dJx4a65c_get_915e3_14 : decode cJx4a65c_get_915e3 14 = .ok (.areturn, 1) := by decide +kernel
theorem dJx4a65c_add_72be8_0 : decode cJx4a65c_add_72be8 0 = .ok (.iload_n 3, 1) := by decide +kernel
theorem dJx4a65c_add_72be8_1 : decode cJx4a65c_add_72be8 1 = .ok (.aload_n 2, 1) := by decide +kernel
theorem dJx4a65c_add_72be8_2 : decode cJx4a65c_add_72be8 2 = .ok (.arraylength, 1) := by decide +kernel
theorem dJx4a65c_add_72be8_3 : decode cJx4a65c_add_72be8 3 = .ok (.if_icmp .ne 8, 3) := by decide +kernel
theorem dJx4a65c_add_72be8_6 : decode cJx4a65c_add_72be8 6 = .ok (.aload_n 0, 1) := by decide +kernel
theorem dJx4a65c_add_72be8_7 : decode cJx4a65c_add_72be8 7 = .ok (.invokevirtual 129, 3) := by decide +kernel
theorem dJx4a65c_add_72be8_10 : decode cJx4a65c_add_72be8 10 = .ok (.astore_n 2, 1) := by decide +kernel
theorem dJx4a65c_add_72be8_11 : decode cJx4a65c_add_72be8 11 = .ok (.aload_n 2, 1) := by decide +kernel
theorem dJx4a65c_add_72be8_12 : decode cJx4a65c_add_72be8 12 = .ok (.iload_n 3, 1) := by decide +kernel
theorem dJx4a65c_add_72be8_13 : decode cJx4a65c_add_72be8 13 = .ok (.aload_n 1, 1) := by decide +kernel
theorem dJx4a65c_add_72be8_14 : decode cJx4a65c_add_72be8 14 = .ok (.aastore, 1) := by decide +kernel
theorem dJx4a65c_add_72be8_15 : decode cJx4a65c_add_72be8 15 = .ok (.aload_n 0, 1) := by decide +kernel
theorem dJx4a65c_add_72be8_16 : decode cJx4a65c_add_72be8 16 = .ok (.iload_n 3, 1) := by decide +kernel
theorem dJx4a65c_add_72be8_17 : decode cJx4a65c_add_72be8 17 = .ok (.iconst 1, 1) := by decide +kernel
theorem dJx4a65c_add_72be8_18 : decode cJx4a65c_add_72be8 18 = .ok (.iadd, 1) := by decide +kernel
theorem dJx4a65c_add_72be8_19 : decode cJx4a65c_add_72be8 19 = .ok (.putfield 48, 3) := by decide +kernel
theorem dJx4a65c_add_72be8_22 : decode cJx4a65c_add_72be8 22 = .ok (.return_, 1) := by decide +kernel
theorem dJx4a65c_add_9ea2d_0 : decode cJx4a65c_add_9ea2d 0 = .ok (.aload_n 0, 1) := by decide +kernel
theorem dJx4a65c_add_9ea2d_1 : decode cJx4a65c_add_9ea2d 1 = .ok (.dup, 1) := by decide +kernel
theorem dJx4a65c_add_9ea2d_2 : decode cJx4a65c_add_9ea2d 2 = .ok (.getfield 63, 3) := by decide +kernel
theorem dJx4a65c_add_9ea2d_5 : decode cJx4a65c_add_9ea2d 5 = .ok (.iconst 1, 1) := by decide +kernel
theorem dJx4a65c_add_9ea2d_6 : decode cJx4a65c_add_9ea2d 6 = .ok (.iadd, 1) := by decide +kernel
theorem dJx4a65c_add_9ea2d_7 : decode cJx4a65c_add_9ea2d 7 = .ok (.putfield 63, 3) := by decide +kernel
theorem dJx4a65c_add_9ea2d_10 : decode cJx4a65c_add_9ea2d 10 = .ok (.aload_n 0, 1) := by decide +kernel
theorem dJx4a65c_add_9ea2d_11 : decode cJx4a65c_add_9ea2d 11 = .ok (.aload_n 1, 1) := by decide +kernel
theorem dJx4a65c_add_9ea2d_12 : decode cJx4a65c_add_9ea2d 12 = .ok (.aload_n 0, 1) := by decide +kernel
theorem dJx4a65c_add_9ea2d_13 : decode cJx4a65c_add_9ea2d 13 = .ok (.getfield 9, 3) := by decide +kernel
theorem dJx4a65c_add_9ea2d_16 : decode cJx4a65c_add_9ea2d 16 = .ok (.aload_n 0, 1) := by decide +kernel
theorem dJx4a65c_add_9ea2d_17 : decode cJx4a65c_add_9ea2d 17 = .ok (.getfield 48, 3) := by decide +kernel
theorem dJx4a65c_add_9ea2d_20 : decode cJx4a65c_add_9ea2d 20 = .ok (.invokevirtual 131, 3) := by decide +kernel
theorem dJx4a65c_add_9ea2d_23 : decode cJx4a65c_add_9ea2d 23 = .ok (.iconst 1, 1) := by decide +kernel
theorem dJx4a65c_add_9ea2d_24 : decode cJx4a65c_add_9ea2d 24 = .ok (.ireturn, 1) := by decide +kernel
theorem dJx4a65c_clear_da8c8_0 : decode cJx4a65c_clear_da8c8 0 = .ok (.aload_n 0, 1) := by decide +kernel
theorem dJx4a65c_clear_da8c8_1 : decode cJx4a65c_clear_da8c8 1 = .ok (.dup, 1) := by decide +kernel
theorem dJx4a65c_clear_da8c8_2 : decode cJx4a65c_clear_da8c8 2 = .ok (.getfield 63, 3) := by decide +kernel
theorem dJx4a65c_clear_da8c8_5 : decode cJx4a65c_clear_da8c8 5 = .ok (.iconst 1, 1) := by decide +kernel
theorem dJx4a65c_clear_da8c8_6 : decode cJx4a65c_clear_da8c8 6 = .ok (.iadd, 1) := by decide +kernel
theorem dJx4a65c_clear_da8c8_7 : decode cJx4a65c_clear_da8c8 7 = .ok (.putfield 63, 3) := by decide +kernel
theorem dJx4a65c_clear_da8c8_10 : decode cJx4a65c_clear_da8c8 10 = .ok (.aload_n 0, 1) := by decide +kernel
theorem dJx4a65c_clear_da8c8_11 : decode cJx4a65c_clear_da8c8 11 = .ok (.getfield 9, 3) := by decide +kernel
theorem dJx4a65c_clear_da8c8_14 : decode cJx4a65c_clear_da8c8 14 = .ok (.astore_n 1, 1) := by decide +kernel
theorem dJx4a65c_clear_da8c8_15 : decode cJx4a65c_clear_da8c8 15 = .ok (.aload_n 0, 1) := by decide +kernel
theorem dJx4a65c_clear_da8c8_16 : decode cJx4a65c_clear_da8c8 16 = .ok (.getfield 48, 3) := by decide +kernel
theorem dJx4a65c_clear_da8c8_19 : decode cJx4a65c_clear_da8c8 19 = .ok (.istore_n 2, 1) := by decide +kernel
theorem dJx4a65c_clear_da8c8_20 : decode cJx4a65c_clear_da8c8 20 = .ok (.aload_n 0, 1) := by decide +kernel
theorem dJx4a65c_clear_da8c8_21 : decode cJx4a65c_clear_da8c8 21 = .ok (.iconst 0, 1) := by decide +kernel
theorem dJx4a65c_clear_da8c8_22 : decode cJx4a65c_clear_da8c8 22 = .ok (.dup_x1, 1) := by decide +kernel
theorem dJx4a65c_clear_da8c8_23 : decode cJx4a65c_clear_da8c8 23 = .ok (.putfield 48, 3) := by decide +kernel
theorem dJx4a65c_clear_da8c8_26 : decode cJx4a65c_clear_da8c8 26 = .ok (.istore_n 3, 1) := by decide +kernel
theorem dJx4a65c_clear_da8c8_27 : decode cJx4a65c_clear_da8c8 27 = .ok (.iload_n 3, 1) := by decide +kernel
theorem dJx4a65c_clear_da8c8_28 : decode cJx4a65c_clear_da8c8 28 = .ok (.iload_n 2, 1) := by decide +kernel
theorem dJx4a65c_clear_da8c8_29 : decode cJx4a65c_clear_da8c8 29 = .ok (.if_icmp .ge 13, 3) := by decide +kernel
theorem dJx4a65c_clear_da8c8_32 : decode cJx4a65c_clear_da8c8 32 = .ok (.aload_n 1, 1) := by decide +kernel
theorem dJx4a65c_clear_da8c8_33 : decode cJx4a65c_clear_da8c8 33 = .ok (.iload_n 3, 1) := by decide +kernel
theorem dJx4a65c_clear_da8c8_34 : decode cJx4a65c_clear_da8c8 34 = .ok (.aconst_null, 1) := by decide +kernel
theorem dJx4a65c_clear_da8c8_35 : decode cJx4a65c_clear_da8c8 35 = .ok (.aastore, 1) := by decide +kernel
theorem dJx4a65c_clear_da8c8_36 : decode cJx4a65c_clear_da8c8 36 = .ok (.iinc 3 1, 3) := by decide +kernel
theorem dJx4a65c_clear_da8c8_39 : decode cJx4a65c_clear_da8c8 39 = .ok (.goto (-12), 3) := by decide +kernel
theorem dJx4a65c_clear_da8c8_42 : decode cJx4a65c_clear_da8c8 42 = .ok (.return_, 1) := by decide +kernel
theorem dJ7_fill_53178_0 : decode cJ7_fill_53178 0 = .ok (.iconst 0, 1) := by decide +kernel
theorem dJ7_fill_53178_1 : decode cJ7_fill_53178 1 = .ok (.istore_n 2, 1) := by decide +kernel
theorem dJ7_fill_53178_2 : decode cJ7_fill_53178 2 = .ok (.aload_n 0, 1) := by decide +kernel
theorem dJ7_fill_53178_3 : decode cJ7_fill_53178 3 = .ok (.arraylength, 1) := by decide +kernel
theorem dJ7_fill_53178_4 : decode cJ7_fill_53178 4 = .ok (.istore_n 3, 1) := by decide +kernel
theorem dJ7_fill_53178_5 : decode cJ7_fill_53178 5 = .ok (.iload_n 2, 1) := by decide +kernel
theorem dJ7_fill_53178_6 : decode cJ7_fill_53178 6 = .ok (.iload_n 3, 1) := by decide +kernel
theorem dJ7_fill_53178_7 : decode cJ7_fill_53178 7 = .ok (.if_icmp .ge 13, 3) := by decide +kernel
theorem dJ7_fill_53178_10 : decode cJ7_fill_53178 10 = .ok (.aload_n 0, 1) := by decide +kernel
theorem dJ7_fill_53178_11 : decode cJ7_fill_53178 11 = .ok (.iload_n 2, 1) := by decide +kernel
theorem dJ7_fill_53178_12 : decode cJ7_fill_53178 12 = .ok (.iload_n 1, 1) := by decide +kernel
theorem dJ7_fill_53178_13 : decode cJ7_fill_53178 13 = .ok (.iastore, 1) := by decide +kernel
theorem dJ7_fill_53178_14 : decode cJ7_fill_53178 14 = .ok (.iinc 2 1, 3) := by decide +kernel
theorem dJ7_fill_53178_17 : decode cJ7_fill_53178 17 = .ok (.goto (-12), 3) := by decide +kernel
theorem dJ7_fill_53178_20 : decode cJ7_fill_53178 20 = .ok (.return_, 1) := by decide +kernel
theorem dJ7_copyOf_1904c_0 : decode cJ7_copyOf_1904c 0 = .ok (.aload_n 0, 1) := by decide +kernel
theorem dJ7_copyOf_1904c_1 : decode cJ7_copyOf_1904c 1 = .ok (.iload_n 1, 1) := by decide +kernel
theorem dJ7_copyOf_1904c_2 : decode cJ7_copyOf_1904c 2 = .ok (.aload_n 0, 1) := by decide +kernel
theorem dJ7_copyOf_1904c_3 : decode cJ7_copyOf_1904c 3 = .ok (.invokevirtual 86, 3) := by decide +kernel
theorem dJ7_copyOf_1904c_6 : decode cJ7_copyOf_1904c 6 = .ok (.invokestatic 300, 3) := by decide +kernel
theorem dJ7_copyOf_1904c_9 : decode cJ7_copyOf_1904c 9 = .ok (.areturn, 1) := by decide +kernel
theorem dJ7_copyOf_6403c_0 : decode cJ7_copyOf_6403c 0 = .ok (.aload_n 2, 1) := by decide +kernel
theorem dJ7_copyOf_6403c_1 : decode cJ7_copyOf_6403c 1 = .ok (.ldc 110, 2) := by decide +kernel
theorem dJ7_copyOf_6403c_3 : decode cJ7_copyOf_6403c 3 = .ok (.if_acmp .ne 10, 3) := by decide +kernel
theorem dJ7_copyOf_6403c_6 : decode cJ7_copyOf_6403c 6 = .ok (.iload_n 1, 1) := by decide +kernel
theorem dJ7_copyOf_6403c_7 : decode cJ7_copyOf_6403c 7 = .ok (.anewarray 2, 3) := by decide +kernel
theorem dJ7_copyOf_6403c_10 : decode cJ7_copyOf_6403c 10 = .ok (.goto 14, 3) := by decide +kernel
theorem dJ7_copyOf_6403c_13 : decode cJ7_copyOf_6403c 13 = .ok (.aload_n 2, 1) := by decide +kernel
theorem dJ7_copyOf_6403c_14 : decode cJ7_copyOf_6403c 14 = .ok (.invokevirtual 90, 3) := by decide +kernel
theorem dJ7_copyOf_6403c_17 : decode cJ7_copyOf_6403c 17 = .ok (.iload_n 1, 1) := by decide +kernel
theorem dJ7_copyOf_6403c_18 : decode cJ7_copyOf_6403c 18 = .ok (.invokestatic 95, 3) := by decide +kernel
theorem dJ7_copyOf_6403c_21 : decode cJ7_copyOf_6403c 21 = .ok (.checkcast 110, 3) := by decide +kernel
theorem dJ7_copyOf_6403c_24 : decode cJ7_copyOf_6403c 24 = .ok (.astore_n 3, 1) := by decide +kernel
theorem dJ7_copyOf_6403c_25 : decode cJ7_copyOf_6403c 25 = .ok (.aload_n 0, 1) := by decide +kernel
theorem dJ7_copyOf_6403c_26 : decode cJ7_copyOf_6403c 26 = .ok (.iconst 0, 1) := by decide +kernel
theorem dJ7_copyOf_6403c_27 : decode cJ7_copyOf_6403c 27 = .ok (.aload_n 3, 1) := by decide +kernel
theorem dJ7_copyOf_6403c_28 : decode cJ7_copyOf_6403c 28 = .ok (.iconst 0, 1) := by decide +kernel
theorem dJ7_copyOf_6403c_29 : decode cJ7_copyOf_6403c 29 = .ok (.aload_n 0, 1) := by decide +kernel
theorem dJ7_copyOf_6403c_30 : decode cJ7_copyOf_6403c 30 = .ok (.arraylength, 1) := by decide +kernel
theorem dJ7_copyOf_6403c_31 : decode cJ7_copyOf_6403c 31 = .ok (.iload_n 1, 1) := by decide +kernel
theorem dJ7_copyOf_6403c_32 : decode cJ7_copyOf_6403c 32 = .ok (.invokestatic 304, 3) := by decide +kernel
theorem dJ7_copyOf_6403c_35 : decode cJ7_copyOf_6403c 35 = .ok (.invokestatic 150, 3) := by decide +kernel
theorem dJ7_copyOf_6403c_38 : decode cJ7_copyOf_6403c 38 = .ok (.aload_n 3, 1) := by decide +kernel
theorem dJ7_copyOf_6403c_39 : decode cJ7_copyOf_6403c 39 = .ok (.areturn, 1) := by decide +kernel
theorem dJ15_checkIndex_7cf53_0 : decode cJ15_checkIndex_7cf53 0 = .ok (.iload_n 0, 1) := by decide +kernel
theorem dJ15_checkIndex_7cf53_1 : decode cJ15_checkIndex_7cf53 1 = .ok (.iload_n 1, 1) := by decide +kernel
theorem dJ15_checkIndex_7cf53_2 : decode cJ15_checkIndex_7cf53 2 = .ok (.aconst_null, 1) := by decide +kernel
theorem dJ15_checkIndex_7cf53_3 : decode cJ15_checkIndex_7cf53 3 = .ok (.invokestatic 105, 3) := by decide +kernel
theorem dJ15_checkIndex_7cf53_6 : decode cJ15_checkIndex_7cf53 6 = .ok (.ireturn, 1) := by decide +kernel
theorem dJ8_newLength_cabcc_0 : decode cJ8_newLength_cabcc 0 = .ok (.iload_n 0, 1) := by decide +kernel
theorem dJ8_newLength_cabcc_1 : decode cJ8_newLength_cabcc 1 = .ok (.iload_n 1, 1) := by decide +kernel
theorem dJ8_newLength_cabcc_2 : decode cJ8_newLength_cabcc 2 = .ok (.iload_n 2, 1) := by decide +kernel
theorem dJ8_newLength_cabcc_3 : decode cJ8_newLength_cabcc 3 = .ok (.invokestatic 194, 3) := by decide +kernel
theorem dJ8_newLength_cabcc_6 : decode cJ8_newLength_cabcc 6 = .ok (.iadd, 1) := by decide +kernel
theorem dJ8_newLength_cabcc_7 : decode cJ8_newLength_cabcc 7 = .ok (.istore_n 3, 1) := by decide +kernel
theorem dJ8_newLength_cabcc_8 : decode cJ8_newLength_cabcc 8 = .ok (.iconst 0, 1) := by decide +kernel
theorem dJ8_newLength_cabcc_9 : decode cJ8_newLength_cabcc 9 = .ok (.iload_n 3, 1) := by decide +kernel
theorem dJ8_newLength_cabcc_10 : decode cJ8_newLength_cabcc 10 = .ok (.if_icmp .ge 11, 3) := by decide +kernel
theorem dJ8_newLength_cabcc_13 : decode cJ8_newLength_cabcc 13 = .ok (.iload_n 3, 1) := by decide +kernel
theorem dJ8_newLength_cabcc_14 : decode cJ8_newLength_cabcc 14 = .ok (.ldc 200, 2) := by decide +kernel
theorem dJ8_newLength_cabcc_16 : decode cJ8_newLength_cabcc 16 = .ok (.if_icmp .gt 5, 3) := by decide +kernel
theorem dJ8_newLength_cabcc_19 : decode cJ8_newLength_cabcc 19 = .ok (.iload_n 3, 1) := by decide +kernel
theorem dJ8_newLength_cabcc_20 : decode cJ8_newLength_cabcc 20 = .ok (.ireturn, 1) := by decide +kernel
theorem dJ8_newLength_cabcc_21 : decode cJ8_newLength_cabcc 21 = .ok (.iload_n 0, 1) := by decide +kernel
theorem dJ8_newLength_cabcc_22 : decode cJ8_newLength_cabcc 22 = .ok (.iload_n 1, 1) := by decide +kernel
theorem dJ8_newLength_cabcc_23 : decode cJ8_newLength_cabcc 23 = .ok (.invokestatic 201, 3) := by decide +kernel
theorem dJ8_newLength_cabcc_26 : decode cJ8_newLength_cabcc 26 = .ok (.ireturn, 1) := by decide +kernel
theorem dJ8_hugeLength_7cf53_0 : decode cJ8_hugeLength_7cf53 0 = .ok (.iload_n 0, 1) := by decide +kernel
theorem dJ8_hugeLength_7cf53_1 : decode cJ8_hugeLength_7cf53 1 = .ok (.iload_n 1, 1) := by decide +kernel
theorem dJ8_hugeLength_7cf53_2 : decode cJ8_hugeLength_7cf53 2 = .ok (.iadd, 1) := by decide +kernel
theorem dJ8_hugeLength_7cf53_3 : decode cJ8_hugeLength_7cf53 3 = .ok (.istore_n 2, 1) := by decide +kernel
theorem dJ8_hugeLength_7cf53_4 : decode cJ8_hugeLength_7cf53 4 = .ok (.iload_n 2, 1) := by decide +kernel
theorem dJ8_hugeLength_7cf53_5 : decode cJ8_hugeLength_7cf53 5 = .ok (.ifCond .ge 44, 3) := by decide +kernel
theorem dJ8_hugeLength_7cf53_8 : decode cJ8_hugeLength_7cf53 8 = .ok (.new 204, 3) := by decide +kernel
theorem dJ8_hugeLength_7cf53_11 : decode cJ8_hugeLength_7cf53 11 = .ok (.dup, 1) := by decide +kernel
theorem dJ8_hugeLength_7cf53_12 : decode cJ8_hugeLength_7cf53 12 = .ok (.new 89, 3) := by decide +kernel
theorem dJ8_hugeLength_7cf53_15 : decode cJ8_hugeLength_7cf53 15 = .ok (.dup, 1) := by decide +kernel
theorem dJ8_hugeLength_7cf53_16 : decode cJ8_hugeLength_7cf53 16 = .ok (.invokespecial 91, 3) := by decide +kernel
theorem dJ8_hugeLength_7cf53_19 : decode cJ8_hugeLength_7cf53 19 = .ok (.ldc 206, 2) := by decide +kernel
theorem dJ8_hugeLength_7cf53_21 : decode cJ8_hugeLength_7cf53 21 = .ok (.invokevirtual 94, 3) := by decide +kernel
theorem dJ8_hugeLength_7cf53_24 : decode cJ8_hugeLength_7cf53 24 = .ok (.iload_n 0, 1) := by decide +kernel
theorem dJ8_hugeLength_7cf53_25 : decode cJ8_hugeLength_7cf53 25 = .ok (.invokevirtual 98, 3) := by decide +kernel
theorem dJ8_hugeLength_7cf53_28 : decode cJ8_hugeLength_7cf53 28 = .ok (.ldc 208, 2) := by decide +kernel
theorem dJ8_hugeLength_7cf53_30 : decode cJ8_hugeLength_7cf53 30 = .ok (.invokevirtual 94, 3) := by decide +kernel
theorem dJ8_hugeLength_7cf53_33 : decode cJ8_hugeLength_7cf53 33 = .ok (.iload_n 1, 1) := by decide +kernel
theorem dJ8_hugeLength_7cf53_34 : decode cJ8_hugeLength_7cf53 34 = .ok (.invokevirtual 98, 3) := by decide +kernel
theorem dJ8_hugeLength_7cf53_37 : decode cJ8_hugeLength_7cf53 37 = .ok (.ldc 210, 2) := by decide +kernel
theorem dJ8_hugeLength_7cf53_39 : decode cJ8_hugeLength_7cf53 39 = .ok (.invokevirtual 94, 3) := by decide +kernel
theorem dJ8_hugeLength_7cf53_42 : decode cJ8_hugeLength_7cf53 42 = .ok (.invokevirtual 101, 3) := by decide +kernel
theorem dJ8_hugeLength_7cf53_45 : decode cJ8_hugeLength_7cf53 45 = .ok (.invokespecial 212, 3) := by decide +kernel
theorem dJ8_hugeLength_7cf53_48 : decode cJ8_hugeLength_7cf53 48 = .ok (.athrow, 1) := by decide +kernel
theorem dJ8_hugeLength_7cf53_49 : decode cJ8_hugeLength_7cf53 49 = .ok (.iload_n 2, 1) := by decide +kernel
theorem dJ8_hugeLength_7cf53_50 : decode cJ8_hugeLength_7cf53 50 = .ok (.ldc 200, 2) := by decide +kernel
theorem dJ8_hugeLength_7cf53_52 : decode cJ8_hugeLength_7cf53 52 = .ok (.if_icmp .gt 6, 3) := by decide +kernel
theorem dJ8_hugeLength_7cf53_55 : decode cJ8_hugeLength_7cf53 55 = .ok (.ldc 200, 2) := by decide +kernel
theorem dJ8_hugeLength_7cf53_57 : decode cJ8_hugeLength_7cf53 57 = .ok (.ireturn, 1) := by decide +kernel
theorem dJ8_hugeLength_7cf53_58 : decode cJ8_hugeLength_7cf53 58 = .ok (.iload_n 2, 1) := by decide +kernel
theorem dJ8_hugeLength_7cf53_59 : decode cJ8_hugeLength_7cf53 59 = .ok (.ireturn, 1) := by decide +kernel
theorem dJ3_checkIndex_8e157_0 : decode cJ3_checkIndex_8e157 0 = .ok (.iload_n 0, 1) := by decide +kernel
theorem dJ3_checkIndex_8e157_1 : decode cJ3_checkIndex_8e157 1 = .ok (.ifCond .lt 8, 3) := by decide +kernel
theorem dJ3_checkIndex_8e157_4 : decode cJ3_checkIndex_8e157 4 = .ok (.iload_n 0, 1) := by decide +kernel
theorem dJ3_checkIndex_8e157_5 : decode cJ3_checkIndex_8e157 5 = .ok (.iload_n 1, 1) := by decide +kernel
theorem dJ3_checkIndex_8e157_6 : decode cJ3_checkIndex_8e157 6 = .ok (.if_icmp .lt 10, 3) := by decide +kernel
theorem dJ3_checkIndex_8e157_9 : decode cJ3_checkIndex_8e157 9 = .ok (.aload_n 2, 1) := by decide +kernel
theorem dJ3_checkIndex_8e157_10 : decode cJ3_checkIndex_8e157 10 = .ok (.iload_n 0, 1) := by decide +kernel
theorem dJ3_checkIndex_8e157_11 : decode cJ3_checkIndex_8e157 11 = .ok (.iload_n 1, 1) := by decide +kernel
theorem dJ3_checkIndex_8e157_12 : decode cJ3_checkIndex_8e157 12 = .ok (.invokestatic 95, 3) := by decide +kernel
theorem dJ3_checkIndex_8e157_15 : decode cJ3_checkIndex_8e157 15 = .ok (.athrow, 1) := by decide +kernel
theorem dJ3_checkIndex_8e157_16 : decode cJ3_checkIndex_8e157 16 = .ok (.iload_n 0, 1) := by decide +kernel
theorem dJ3_checkIndex_8e157_17 : decode cJ3_checkIndex_8e157 17 = .ok (.ireturn, 1) := by decide +kernel
theorem dL_below_0 : decode cL_below 0 = .ok (.iload_n 0, 1) := by decide +kernel
theorem dL_below_1 : decode cL_below 1 = .ok (.ldc 7, 2) := by decide +kernel
theorem dL_below_3 : decode cL_below 3 = .ok (.iand, 1) := by decide +kernel
theorem dL_below_4 : decode cL_below 4 = .ok (.iload_n 1, 1) := by decide +kernel
theorem dL_below_5 : decode cL_below 5 = .ok (.irem, 1) := by decide +kernel
theorem dL_below_6 : decode cL_below 6 = .ok (.ireturn, 1) := by decide +kernel
theorem dL_cell_0 : decode cL_cell 0 = .ok (.iload_n 1, 1) := by decide +kernel
theorem dL_cell_1 : decode cL_cell 1 = .ok (.aload_n 0, 1) := by decide +kernel
theorem dL_cell_2 : decode cL_cell 2 = .ok (.arraylength, 1) := by decide +kernel
theorem dL_cell_3 : decode cL_cell 3 = .ok (.if_icmp .ge 9, 3) := by decide +kernel
theorem dL_cell_6 : decode cL_cell 6 = .ok (.aload_n 0, 1) := by decide +kernel
theorem dL_cell_7 : decode cL_cell 7 = .ok (.iload_n 1, 1) := by decide +kernel
theorem dL_cell_8 : decode cL_cell 8 = .ok (.iaload, 1) := by decide +kernel
theorem dL_cell_9 : decode cL_cell 9 = .ok (.goto 9, 3) := by decide +kernel
theorem dL_cell_12 : decode cL_cell 12 = .ok (.ldc 8, 2) := by decide +kernel
theorem dL_cell_14 : decode cL_cell 14 = .ok (.iload_n 1, 1) := by decide +kernel
theorem dL_cell_15 : decode cL_cell 15 = .ok (.iconst 3, 1) := by decide +kernel
theorem dL_cell_16 : decode cL_cell 16 = .ok (.iadd, 1) := by decide +kernel
theorem dL_cell_17 : decode cL_cell 17 = .ok (.imul, 1) := by decide +kernel
theorem dL_cell_18 : decode cL_cell 18 = .ok (.ireturn, 1) := by decide +kernel
theorem dL_law_0 : decode cL_law 0 = .ok (.new 9, 3) := by decide +kernel
theorem dL_law_3 : decode cL_law 3 = .ok (.dup, 1) := by decide +kernel
theorem dL_law_4 : decode cL_law 4 = .ok (.invokespecial 11, 3) := by decide +kernel
theorem dL_law_7 : decode cL_law 7 = .ok (.astore_n 1, 1) := by decide +kernel
theorem dL_law_8 : decode cL_law 8 = .ok (.aload_n 1, 1) := by decide +kernel
theorem dL_law_9 : decode cL_law 9 = .ok (.bipush 7, 2) := by decide +kernel
theorem dL_law_11 : decode cL_law 11 = .ok (.aload_n 0, 1) := by decide +kernel
theorem dL_law_12 : decode cL_law 12 = .ok (.iconst 1, 1) := by decide +kernel
theorem dL_law_13 : decode cL_law 13 = .ok (.invokestatic 12, 3) := by decide +kernel
theorem dL_law_16 : decode cL_law 16 = .ok (.bipush 8, 2) := by decide +kernel
theorem dL_law_18 : decode cL_law 18 = .ok (.invokestatic 18, 3) := by decide +kernel
theorem dL_law_21 : decode cL_law 21 = .ok (.iadd, 1) := by decide +kernel
theorem dL_law_22 : decode cL_law 22 = .ok (.bipush 7, 2) := by decide +kernel
theorem dL_law_24 : decode cL_law 24 = .ok (.aload_n 0, 1) := by decide +kernel
theorem dL_law_25 : decode cL_law 25 = .ok (.iconst 2, 1) := by decide +kernel
theorem dL_law_26 : decode cL_law 26 = .ok (.invokestatic 12, 3) := by decide +kernel
theorem dL_law_29 : decode cL_law 29 = .ok (.bipush 8, 2) := by decide +kernel
theorem dL_law_31 : decode cL_law 31 = .ok (.invokestatic 18, 3) := by decide +kernel
theorem dL_law_34 : decode cL_law 34 = .ok (.iadd, 1) := by decide +kernel
theorem dL_law_35 : decode cL_law 35 = .ok (.invokevirtual 22, 3) := by decide +kernel
theorem dL_law_38 : decode cL_law 38 = .ok (.pop, 1) := by decide +kernel
theorem dL_law_39 : decode cL_law 39 = .ok (.aload_n 1, 1) := by decide +kernel
theorem dL_law_40 : decode cL_law 40 = .ok (.iconst 0, 1) := by decide +kernel
theorem dL_law_41 : decode cL_law 41 = .ok (.invokevirtual 25, 3) := by decide +kernel
theorem dL_law_44 : decode cL_law 44 = .ok (.istore_n 2, 1) := by decide +kernel
theorem dL_law_45 : decode cL_law 45 = .ok (.iconst 0, 1) := by decide +kernel
theorem dL_law_46 : decode cL_law 46 = .ok (.istore_n 3, 1) := by decide +kernel
theorem dL_law_47 : decode cL_law 47 = .ok (.bipush 15, 2) := by decide +kernel
theorem dL_law_49 : decode cL_law 49 = .ok (.newarray .int, 2) := by decide +kernel
theorem dL_law_51 : decode cL_law 51 = .ok (.astore 4, 2) := by decide +kernel
theorem dL_law_53 : decode cL_law 53 = .ok (.iconst 0, 1) := by decide +kernel
theorem dL_law_54 : decode cL_law 54 = .ok (.istore 5, 2) := by decide +kernel
theorem dL_law_56 : decode cL_law 56 = .ok (.iload 5, 2) := by decide +kernel
theorem dL_law_58 : decode cL_law 58 = .ok (.bipush 70, 2) := by decide +kernel
theorem dL_law_60 : decode cL_law 60 = .ok (.if_icmp .ge 303, 3) := by decide +kernel
theorem dL_law_63 : decode cL_law 63 = .ok (.aload_n 0, 1) := by decide +kernel
theorem dL_law_64 : decode cL_law 64 = .ok (.iload 5, 2) := by decide +kernel
theorem dL_law_66 : decode cL_law 66 = .ok (.bipush 16, 2) := by decide +kernel
theorem dL_law_68 : decode cL_law 68 = .ok (.irem, 1) := by decide +kernel
theorem dL_law_69 : decode cL_law 69 = .ok (.invokestatic 12, 3) := by decide +kernel
theorem dL_law_72 : decode cL_law 72 = .ok (.bipush 67, 2) := by decide +kernel
theorem dL_law_74 : decode cL_law 74 = .ok (.iload 5, 2) := by decide +kernel
theorem dL_law_76 : decode cL_law 76 = .ok (.imul, 1) := by decide +kernel
theorem dL_law_77 : decode cL_law 77 = .ok (.iadd, 1) := by decide +kernel
theorem dL_law_78 : decode cL_law 78 = .ok (.istore 6, 2) := by decide +kernel
theorem dL_law_80 : decode cL_law 80 = .ok (.iload 5, 2) := by decide +kernel
theorem dL_law_82 : decode cL_law 82 = .ok (.bipush 10, 2) := by decide +kernel
theorem dL_law_84 : decode cL_law 84 = .ok (.if_icmp .ge 10, 3) := by decide +kernel
theorem dL_law_87 : decode cL_law 87 = .ok (.aload_n 1, 1) := by decide +kernel
theorem dL_law_88 : decode cL_law 88 = .ok (.iload 6, 2) := by decide +kernel
theorem dL_law_90 : decode cL_law 90 = .ok (.iload_n 2, 1) := by decide +kernel
theorem dL_law_91 : decode cL_law 91 = .ok (.invokestatic 29, 3) := by decide +kernel
theorem dL_law_94 : decode cL_law 94 = .ok (.aload_n 1, 1) := by decide +kernel
theorem dL_law_95 : decode cL_law 95 = .ok (.invokestatic 33, 3) := by decide +kernel
theorem dL_law_98 : decode cL_law 98 = .ok (.istore 7, 2) := by decide +kernel
theorem dL_law_100 : decode cL_law 100 = .ok (.aload_n 1, 1) := by decide +kernel
theorem dL_law_101 : decode cL_law 101 = .ok (.iconst 1, 1) := by decide +kernel
theorem dL_law_102 : decode cL_law 102 = .ok (.invokevirtual 25, 3) := by decide +kernel
theorem dL_law_105 : decode cL_law 105 = .ok (.istore 8, 2) := by decide +kernel
theorem dL_law_107 : decode cL_law 107 = .ok (.aload_n 1, 1) := by decide +kernel
theorem dL_law_108 : decode cL_law 108 = .ok (.bipush 10, 2) := by decide +kernel
theorem dL_law_110 : decode cL_law 110 = .ok (.invokevirtual 25, 3) := by decide +kernel
theorem dL_law_113 : decode cL_law 113 = .ok (.istore 9, 2) := by decide +kernel
theorem dL_law_115 : decode cL_law 115 = .ok (.iconst 1, 1) := by decide +kernel
theorem dL_law_116 : decode cL_law 116 = .ok (.newarray .int, 2) := by decide +kernel
theorem dL_law_118 : decode cL_law 118 = .ok (.dup, 1) := by decide +kernel
theorem dL_law_119 : decode cL_law 119 = .ok (.iconst 0, 1) := by decide +kernel
theorem dL_law_120 : decode cL_law 120 = .ok (.iconst 0, 1) := by decide +kernel
theorem dL_law_121 : decode cL_law 121 = .ok (.iastore, 1) := by decide +kernel
theorem dL_law_122 : decode cL_law 122 = .ok (.astore 10, 2) := by decide +kernel
theorem dL_law_124 : decode cL_law 124 = .ok (.aload_n 1, 1) := by decide +kernel
theorem dL_law_125 : decode cL_law 125 = .ok (.iload 6, 2) := by decide +kernel
theorem dL_law_127 : decode cL_law 127 = .ok (.iconst 2, 1) := by decide +kernel
theorem dL_law_128 : decode cL_law 128 = .ok (.ishr, 1) := by decide +kernel
theorem dL_law_129 : decode cL_law 129 = .ok (.iload 6, 2) := by decide +kernel
theorem dL_law_131 : decode cL_law 131 = .ok (.bipush 12, 2) := by decide +kernel
theorem dL_law_133 : decode cL_law 133 = .ok (.invokestatic 18, 3) := by decide +kernel
theorem dL_law_136 : decode cL_law 136 = .ok (.iload_n 2, 1) := by decide +kernel
theorem dL_law_137 : decode cL_law 137 = .ok (.aload 10, 2) := by decide +kernel
theorem dL_law_139 : decode cL_law 139 = .ok (.invokestatic 37, 3) := by decide +kernel
theorem dL_law_142 : decode cL_law 142 = .ok (.aload_n 1, 1) := by decide +kernel
theorem dL_law_143 : decode cL_law 143 = .ok (.bipush 10, 2) := by decide +kernel
theorem dL_law_145 : decode cL_law 145 = .ok (.invokevirtual 25, 3) := by decide +kernel
theorem dL_law_148 : decode cL_law 148 = .ok (.iload 9, 2) := by decide +kernel
theorem dL_law_150 : decode cL_law 150 = .ok (.if_icmp .ne 14, 3) := by decide +kernel
theorem dL_law_153 : decode cL_law 153 = .ok (.iload_n 3, 1) := by decide +kernel
theorem dL_law_154 : decode cL_law 154 = .ok (.aload_n 1, 1) := by decide +kernel
theorem dL_law_155 : decode cL_law 155 = .ok (.iconst 1, 1) := by decide +kernel
theorem dL_law_156 : decode cL_law 156 = .ok (.invokevirtual 25, 3) := by decide +kernel
theorem dL_law_159 : decode cL_law 159 = .ok (.iload 8, 2) := by decide +kernel
theorem dL_law_161 : decode cL_law 161 = .ok (.isub, 1) := by decide +kernel
theorem dL_law_162 : decode cL_law 162 = .ok (.iadd, 1) := by decide +kernel
theorem dL_law_163 : decode cL_law 163 = .ok (.istore_n 3, 1) := by decide +kernel
theorem dL_law_164 : decode cL_law 164 = .ok (.aload 10, 2) := by decide +kernel
theorem dL_law_166 : decode cL_law 166 = .ok (.iconst 0, 1) := by decide +kernel
theorem dL_law_167 : decode cL_law 167 = .ok (.iaload, 1) := by decide +kernel
theorem dL_law_168 : decode cL_law 168 = .ok (.ifCond .ne 15, 3) := by decide +kernel
theorem dL_law_171 : decode cL_law 171 = .ok (.aload_n 1, 1) := by decide +kernel
theorem dL_law_172 : decode cL_law 172 = .ok (.invokestatic 33, 3) := by decide +kernel
theorem dL_law_175 : decode cL_law 175 = .ok (.iload 7, 2) := by decide +kernel
theorem dL_law_177 : decode cL_law 177 = .ok (.ior, 1) := by decide +kernel
theorem dL_law_178 : decode cL_law 178 = .ok (.iload 7, 2) := by decide +kernel
theorem dL_law_180 : decode cL_law 180 = .ok (.if_icmp .ne 11, 3) := by decide +kernel
theorem dL_law_183 : decode cL_law 183 = .ok (.aload 10, 2) := by decide +kernel
theorem dL_law_185 : decode cL_law 185 = .ok (.iconst 0, 1) := by decide +kernel
theorem dL_law_186 : decode cL_law 186 = .ok (.iaload, 1) := by decide +kernel
theorem dL_law_187 : decode cL_law 187 = .ok (.iconst 2, 1) := by decide +kernel
theorem dL_law_188 : decode cL_law 188 = .ok (.if_icmp .ne 5, 3) := by decide +kernel
theorem dL_law_191 : decode cL_law 191 = .ok (.iconst 0, 1) := by decide +kernel
theorem dL_law_192 : decode cL_law 192 = .ok (.ireturn, 1) := by decide +kernel
theorem dL_law_193 : decode cL_law 193 = .ok (.aload_n 1, 1) := by decide +kernel
theorem dL_law_194 : decode cL_law 194 = .ok (.iconst 1, 1) := by decide +kernel
theorem dL_law_195 : decode cL_law 195 = .ok (.invokevirtual 25, 3) := by decide +kernel
theorem dL_law_198 : decode cL_law 198 = .ok (.aload_n 1, 1) := by decide +kernel
theorem dL_law_199 : decode cL_law 199 = .ok (.bipush 10, 2) := by decide +kernel
theorem dL_law_201 : decode cL_law 201 = .ok (.invokevirtual 25, 3) := by decide +kernel
theorem dL_law_204 : decode cL_law 204 = .ok (.iload_n 3, 1) := by decide +kernel
theorem dL_law_205 : decode cL_law 205 = .ok (.iadd, 1) := by decide +kernel
theorem dL_law_206 : decode cL_law 206 = .ok (.if_icmp .ne 22, 3) := by decide +kernel
theorem dL_law_209 : decode cL_law 209 = .ok (.aload_n 1, 1) := by decide +kernel
theorem dL_law_210 : decode cL_law 210 = .ok (.iconst 2, 1) := by decide +kernel
theorem dL_law_211 : decode cL_law 211 = .ok (.invokevirtual 25, 3) := by decide +kernel
theorem dL_law_214 : decode cL_law 214 = .ok (.aload_n 1, 1) := by decide +kernel
theorem dL_law_215 : decode cL_law 215 = .ok (.iconst 1, 1) := by decide +kernel
theorem dL_law_216 : decode cL_law 216 = .ok (.invokevirtual 25, 3) := by decide +kernel
theorem dL_law_219 : decode cL_law 219 = .ok (.bipush 20, 2) := by decide +kernel
theorem dL_law_221 : decode cL_law 221 = .ok (.idiv, 1) := by decide +kernel
theorem dL_law_222 : decode cL_law 222 = .ok (.bipush 24, 2) := by decide +kernel
theorem dL_law_224 : decode cL_law 224 = .ok (.irem, 1) := by decide +kernel
theorem dL_law_225 : decode cL_law 225 = .ok (.if_icmp .eq 5, 3) := by decide +kernel
theorem dL_law_228 : decode cL_law 228 = .ok (.iconst 0, 1) := by decide +kernel
theorem dL_law_229 : decode cL_law 229 = .ok (.ireturn, 1) := by decide +kernel
theorem dL_law_230 : decode cL_law 230 = .ok (.iconst 0, 1) := by decide +kernel
theorem dL_law_231 : decode cL_law 231 = .ok (.istore 11, 2) := by decide +kernel
theorem dL_law_233 : decode cL_law 233 = .ok (.iload 11, 2) := by decide +kernel
theorem dL_law_235 : decode cL_law 235 = .ok (.bipush 15, 2) := by decide +kernel
theorem dL_law_237 : decode cL_law 237 = .ok (.if_icmp .ge 88, 3) := by decide +kernel
theorem dL_law_240 : decode cL_law 240 = .ok (.iload 11, 2) := by decide +kernel
theorem dL_law_242 : decode cL_law 242 = .ok (.iconst 1, 1) := by decide +kernel
theorem dL_law_243 : decode cL_law 243 = .ok (.if_icmp .eq 37, 3) := by decide +kernel
theorem dL_law_246 : decode cL_law 246 = .ok (.iload 11, 2) := by decide +kernel
theorem dL_law_248 : decode cL_law 248 = .ok (.iconst 3, 1) := by decide +kernel
theorem dL_law_249 : decode cL_law 249 = .ok (.if_icmp .lt 10, 3) := by decide +kernel
theorem dL_law_252 : decode cL_law 252 = .ok (.iload 11, 2) := by decide +kernel
theorem dL_law_254 : decode cL_law 254 = .ok (.bipush 6, 2) := by decide +kernel
theorem dL_law_256 : decode cL_law 256 = .ok (.if_icmp .lt 24, 3) := by decide +kernel
theorem dL_law_259 : decode cL_law 259 = .ok (.iload 11, 2) := by decide +kernel
theorem dL_law_261 : decode cL_law 261 = .ok (.bipush 9, 2) := by decide +kernel
theorem dL_law_263 : decode cL_law 263 = .ok (.if_icmp .lt 10, 3) := by decide +kernel
theorem dL_law_266 : decode cL_law 266 = .ok (.iload 11, 2) := by decide +kernel
theorem dL_law_268 : decode cL_law 268 = .ok (.bipush 12, 2) := by decide +kernel
theorem dL_law_270 : decode cL_law 270 = .ok (.if_icmp .lt 10, 3) := by decide +kernel
theorem dL_law_273 : decode cL_law 273 = .ok (.iload 11, 2) := by decide +kernel
theorem dL_law_275 : decode cL_law 275 = .ok (.bipush 14, 2) := by decide +kernel
theorem dL_law_277 : decode cL_law 277 = .ok (.if_icmp .ne 7, 3) := by decide +kernel
theorem dL_law_280 : decode cL_law 280 = .ok (.iconst 1, 1) := by decide +kernel
theorem dL_law_281 : decode cL_law 281 = .ok (.goto 4, 3) := by decide +kernel
theorem dL_law_284 : decode cL_law 284 = .ok (.iconst 0, 1) := by decide +kernel
theorem dL_law_285 : decode cL_law 285 = .ok (.istore 12, 2) := by decide +kernel
theorem dL_law_287 : decode cL_law 287 = .ok (.iload 12, 2) := by decide +kernel
theorem dL_law_289 : decode cL_law 289 = .ok (.ifCond .eq 19, 3) := by decide +kernel
theorem dL_law_292 : decode cL_law 292 = .ok (.aload_n 1, 1) := by decide +kernel
theorem dL_law_293 : decode cL_law 293 = .ok (.iload 11, 2) := by decide +kernel
theorem dL_law_295 : decode cL_law 295 = .ok (.invokevirtual 25, 3) := by decide +kernel
theorem dL_law_298 : decode cL_law 298 = .ok (.aload 4, 2) := by decide +kernel
theorem dL_law_300 : decode cL_law 300 = .ok (.iload 11, 2) := by decide +kernel
theorem dL_law_302 : decode cL_law 302 = .ok (.iaload, 1) := by decide +kernel
theorem dL_law_303 : decode cL_law 303 = .ok (.if_icmp .ge 5, 3) := by decide +kernel
theorem dL_law_306 : decode cL_law 306 = .ok (.iconst 0, 1) := by decide +kernel
theorem dL_law_307 : decode cL_law 307 = .ok (.ireturn, 1) := by decide +kernel
theorem dL_law_308 : decode cL_law 308 = .ok (.aload 4, 2) := by decide +kernel
theorem dL_law_310 : decode cL_law 310 = .ok (.iload 11, 2) := by decide +kernel
theorem dL_law_312 : decode cL_law 312 = .ok (.aload_n 1, 1) := by decide +kernel
theorem dL_law_313 : decode cL_law 313 = .ok (.iload 11, 2) := by decide +kernel
theorem dL_law_315 : decode cL_law 315 = .ok (.invokevirtual 25, 3) := by decide +kernel
theorem dL_law_318 : decode cL_law 318 = .ok (.iastore, 1) := by decide +kernel
theorem dL_law_319 : decode cL_law 319 = .ok (.iinc 11 1, 3) := by decide +kernel
theorem dL_law_322 : decode cL_law 322 = .ok (.goto (-89), 3) := by decide +kernel
theorem dL_law_325 : decode cL_law 325 = .ok (.aload_n 1, 1) := by decide +kernel
theorem dL_law_326 : decode cL_law 326 = .ok (.iload_n 2, 1) := by decide +kernel
theorem dL_law_327 : decode cL_law 327 = .ok (.invokestatic 41, 3) := by decide +kernel
theorem dL_law_330 : decode cL_law 330 = .ok (.ifCond .ne 5, 3) := by decide +kernel
theorem dL_law_333 : decode cL_law 333 = .ok (.iconst 0, 1) := by decide +kernel
theorem dL_law_334 : decode cL_law 334 = .ok (.ireturn, 1) := by decide +kernel
theorem dL_law_335 : decode cL_law 335 = .ok (.iload 5, 2) := by decide +kernel
theorem dL_law_337 : decode cL_law 337 = .ok (.bipush 12, 2) := by decide +kernel
theorem dL_law_339 : decode cL_law 339 = .ok (.irem, 1) := by decide +kernel
theorem dL_law_340 : decode cL_law 340 = .ok (.bipush 11, 2) := by decide +kernel
theorem dL_law_342 : decode cL_law 342 = .ok (.if_icmp .ne 15, 3) := by decide +kernel
theorem dL_law_345 : decode cL_law 345 = .ok (.aload_n 1, 1) := by decide +kernel
theorem dL_law_346 : decode cL_law 346 = .ok (.iload 6, 2) := by decide +kernel
theorem dL_law_348 : decode cL_law 348 = .ok (.iload_n 2, 1) := by decide +kernel
theorem dL_law_349 : decode cL_law 349 = .ok (.invokestatic 45, 3) := by decide +kernel
theorem dL_law_352 : decode cL_law 352 = .ok (.ifCond .ne 5, 3) := by decide +kernel
theorem dL_law_355 : decode cL_law 355 = .ok (.iconst 0, 1) := by decide +kernel
theorem dL_law_356 : decode cL_law 356 = .ok (.ireturn, 1) := by decide +kernel
theorem dL_law_357 : decode cL_law 357 = .ok (.iinc 5 1, 3) := by decide +kernel
theorem dL_law_360 : decode cL_law 360 = .ok (.goto (-304), 3) := by decide +kernel
theorem dL_law_363 : decode cL_law 363 = .ok (.iconst 1, 1) := by decide +kernel
theorem dL_law_364 : decode cL_law 364 = .ok (.ireturn, 1) := by decide +kernel
theorem dL_met_0 : decode cL_met 0 = .ok (.iconst 0, 1) := by decide +kernel
theorem dL_met_1 : decode cL_met 1 = .ok (.istore_n 1, 1) := by decide +kernel
theorem dL_met_2 : decode cL_met 2 = .ok (.iconst 0, 1) := by decide +kernel
theorem dL_met_3 : decode cL_met 3 = .ok (.istore_n 2, 1) := by decide +kernel
theorem dL_met_4 : decode cL_met 4 = .ok (.iload_n 2, 1) := by decide +kernel
theorem dL_met_5 : decode cL_met 5 = .ok (.aload_n 0, 1) := by decide +kernel
theorem dL_met_6 : decode cL_met 6 = .ok (.iconst 3, 1) := by decide +kernel
theorem dL_met_7 : decode cL_met 7 = .ok (.invokevirtual 25, 3) := by decide +kernel
theorem dL_met_10 : decode cL_met 10 = .ok (.if_icmp .ge 23, 3) := by decide +kernel
theorem dL_met_13 : decode cL_met 13 = .ok (.iload_n 1, 1) := by decide +kernel
theorem dL_met_14 : decode cL_met 14 = .ok (.aload_n 0, 1) := by decide +kernel
theorem dL_met_15 : decode cL_met 15 = .ok (.iload_n 2, 1) := by decide +kernel
theorem dL_met_16 : decode cL_met 16 = .ok (.bipush 13, 2) := by decide +kernel
theorem dL_met_18 : decode cL_met 18 = .ok (.invokevirtual 49, 3) := by decide +kernel
theorem dL_met_21 : decode cL_met 21 = .ok (.iconst 4, 1) := by decide +kernel
theorem dL_met_22 : decode cL_met 22 = .ok (.iload_n 2, 1) := by decide +kernel
theorem dL_met_23 : decode cL_met 23 = .ok (.imul, 1) := by decide +kernel
theorem dL_met_24 : decode cL_met 24 = .ok (.ishl, 1) := by decide +kernel
theorem dL_met_25 : decode cL_met 25 = .ok (.ior, 1) := by decide +kernel
theorem dL_met_26 : decode cL_met 26 = .ok (.istore_n 1, 1) := by decide +kernel
theorem dL_met_27 : decode cL_met 27 = .ok (.iinc 2 1, 3) := by decide +kernel
theorem dL_met_30 : decode cL_met 30 = .ok (.goto (-26), 3) := by decide +kernel
theorem dL_met_33 : decode cL_met 33 = .ok (.iload_n 1, 1) := by decide +kernel
theorem dL_met_34 : decode cL_met 34 = .ok (.ireturn, 1) := by decide +kernel
theorem dL_build_0 : decode cL_build 0 = .ok (.aload_n 0, 1) := by decide +kernel
theorem dL_build_1 : decode cL_build 1 = .ok (.iload_n 1, 1) := by decide +kernel
theorem dL_build_2 : decode cL_build 2 = .ok (.iconst 3, 1) := by decide +kernel
theorem dL_build_3 : decode cL_build 3 = .ok (.ishr, 1) := by decide +kernel
theorem dL_build_4 : decode cL_build 4 = .ok (.iload_n 2, 1) := by decide +kernel
theorem dL_build_5 : decode cL_build 5 = .ok (.invokestatic 18, 3) := by decide +kernel
theorem dL_build_8 : decode cL_build 8 = .ok (.iconst 3, 1) := by decide +kernel
theorem dL_build_9 : decode cL_build 9 = .ok (.iload_n 1, 1) := by decide +kernel
theorem dL_build_10 : decode cL_build 10 = .ok (.iconst 2, 1) := by decide +kernel
theorem dL_build_11 : decode cL_build 11 = .ok (.ishr, 1) := by decide +kernel
theorem dL_build_12 : decode cL_build 12 = .ok (.iload_n 1, 1) := by decide +kernel
theorem dL_build_13 : decode cL_build 13 = .ok (.iconst 2, 1) := by decide +kernel
theorem dL_build_14 : decode cL_build 14 = .ok (.invokestatic 18, 3) := by decide +kernel
theorem dL_build_17 : decode cL_build 17 = .ok (.ifCond .ne 8, 3) := by decide +kernel
theorem dL_build_20 : decode cL_build 20 = .ok (.bipush 28, 2) := by decide +kernel
theorem dL_build_22 : decode cL_build 22 = .ok (.goto 5, 3) := by decide +kernel
theorem dL_build_25 : decode cL_build 25 = .ok (.bipush 6, 2) := by decide +kernel
theorem dL_build_27 : decode cL_build 27 = .ok (.invokestatic 18, 3) := by decide +kernel
theorem dL_build_30 : decode cL_build 30 = .ok (.iadd, 1) := by decide +kernel
theorem dL_build_31 : decode cL_build 31 = .ok (.iconst 2, 1) := by decide +kernel
theorem dL_build_32 : decode cL_build 32 = .ok (.iload_n 1, 1) := by decide +kernel
theorem dL_build_33 : decode cL_build 33 = .ok (.iconst 5, 1) := by decide +kernel
theorem dL_build_34 : decode cL_build 34 = .ok (.ishr, 1) := by decide +kernel
theorem dL_build_35 : decode cL_build 35 = .ok (.bipush 8, 2) := by decide +kernel
theorem dL_build_37 : decode cL_build 37 = .ok (.invokestatic 18, 3) := by decide +kernel
theorem dL_build_40 : decode cL_build 40 = .ok (.iadd, 1) := by decide +kernel
theorem dL_build_41 : decode cL_build 41 = .ok (.iconst 5, 1) := by decide +kernel
theorem dL_build_42 : decode cL_build 42 = .ok (.iload_n 1, 1) := by decide +kernel
theorem dL_build_43 : decode cL_build 43 = .ok (.iconst 4, 1) := by decide +kernel
theorem dL_build_44 : decode cL_build 44 = .ok (.ishr, 1) := by decide +kernel
theorem dL_build_45 : decode cL_build 45 = .ok (.sipush 300, 3) := by decide +kernel
theorem dL_build_48 : decode cL_build 48 = .ok (.invokestatic 18, 3) := by decide +kernel
theorem dL_build_51 : decode cL_build 51 = .ok (.iadd, 1) := by decide +kernel
theorem dL_build_52 : decode cL_build 52 = .ok (.iload_n 1, 1) := by decide +kernel
theorem dL_build_53 : decode cL_build 53 = .ok (.bipush 6, 2) := by decide +kernel
theorem dL_build_55 : decode cL_build 55 = .ok (.ishr, 1) := by decide +kernel
theorem dL_build_56 : decode cL_build 56 = .ok (.bipush 8, 2) := by decide +kernel
theorem dL_build_58 : decode cL_build 58 = .ok (.invokestatic 18, 3) := by decide +kernel
theorem dL_build_61 : decode cL_build 61 = .ok (.invokevirtual 52, 3) := by decide +kernel
theorem dL_build_64 : decode cL_build 64 = .ok (.istore_n 3, 1) := by decide +kernel
theorem dL_build_65 : decode cL_build 65 = .ok (.aload_n 0, 1) := by decide +kernel
theorem dL_build_66 : decode cL_build 66 = .ok (.aload_n 0, 1) := by decide +kernel
theorem dL_build_67 : decode cL_build 67 = .ok (.iload_n 3, 1) := by decide +kernel
theorem dL_build_68 : decode cL_build 68 = .ok (.bipush 10, 2) := by decide +kernel
theorem dL_build_70 : decode cL_build 70 = .ok (.invokevirtual 49, 3) := by decide +kernel
theorem dL_build_73 : decode cL_build 73 = .ok (.iconst 1, 1) := by decide +kernel
theorem dL_build_74 : decode cL_build 74 = .ok (.iload_n 1, 1) := by decide +kernel
theorem dL_build_75 : decode cL_build 75 = .ok (.iconst 3, 1) := by decide +kernel
theorem dL_build_76 : decode cL_build 76 = .ok (.ishr, 1) := by decide +kernel
theorem dL_build_77 : decode cL_build 77 = .ok (.bipush 40, 2) := by decide +kernel
theorem dL_build_79 : decode cL_build 79 = .ok (.invokestatic 18, 3) := by decide +kernel
theorem dL_build_82 : decode cL_build 82 = .ok (.iadd, 1) := by decide +kernel
theorem dL_build_83 : decode cL_build 83 = .ok (.invokevirtual 56, 3) := by decide +kernel
theorem dL_build_86 : decode cL_build 86 = .ok (.pop, 1) := by decide +kernel
theorem dL_build_87 : decode cL_build 87 = .ok (.goto 5, 3) := by decide +kernel
theorem dL_build_90 : decode cL_build 90 = .ok (.astore_n 3, 1) := by decide +kernel
theorem dL_build_91 : decode cL_build 91 = .ok (.return_, 1) := by decide +kernel
theorem dL_build_92 : decode cL_build 92 = .ok (.return_, 1) := by decide +kernel
theorem dL_act_0 : decode cL_act 0 = .ok (.iconst 1, 1) := by decide +kernel
theorem dL_act_1 : decode cL_act 1 = .ok (.aload_n 0, 1) := by decide +kernel
theorem dL_act_2 : decode cL_act 2 = .ok (.iconst 3, 1) := by decide +kernel
theorem dL_act_3 : decode cL_act 3 = .ok (.invokevirtual 25, 3) := by decide +kernel
theorem dL_act_6 : decode cL_act 6 = .ok (.invokestatic 61, 3) := by decide +kernel
theorem dL_act_9 : decode cL_act 9 = .ok (.istore 5, 2) := by decide +kernel
theorem dL_act_11 : decode cL_act 11 = .ok (.iload_n 1, 1) := by decide +kernel
theorem dL_act_12 : decode cL_act 12 = .ok (.iload 5, 2) := by decide +kernel
theorem dL_act_14 : decode cL_act 14 = .ok (.invokestatic 18, 3) := by decide +kernel
theorem dL_act_17 : decode cL_act 17 = .ok (.istore 6, 2) := by decide +kernel
theorem dL_act_19 : decode cL_act 19 = .ok (.iload_n 2, 1) := by decide +kernel
theorem dL_act_20 : decode cL_act 20 = .ok (.tableswitch 230 0 6 #[44, 67, 120, 170, 180, 190, 207], 44) := by decide +kernel
theorem dL_act_64 : decode cL_act 64 = .ok (.aload_n 0, 1) := by decide +kernel
theorem dL_act_65 : decode cL_act 65 = .ok (.iload_n 1, 1) := by decide +kernel
theorem dL_act_66 : decode cL_act 66 = .ok (.iconst 3, 1) := by decide +kernel
theorem dL_act_67 : decode cL_act 67 = .ok (.ishr, 1) := by decide +kernel
theorem dL_act_68 : decode cL_act 68 = .ok (.iload_n 3, 1) := by decide +kernel
theorem dL_act_69 : decode cL_act 69 = .ok (.invokestatic 18, 3) := by decide +kernel
theorem dL_act_72 : decode cL_act 72 = .ok (.iload_n 1, 1) := by decide +kernel
theorem dL_act_73 : decode cL_act 73 = .ok (.iconst 5, 1) := by decide +kernel
theorem dL_act_74 : decode cL_act 74 = .ok (.ishr, 1) := by decide +kernel
theorem dL_act_75 : decode cL_act 75 = .ok (.bipush 7, 2) := by decide +kernel
theorem dL_act_77 : decode cL_act 77 = .ok (.invokestatic 18, 3) := by decide +kernel
theorem dL_act_80 : decode cL_act 80 = .ok (.invokevirtual 66, 3) := by decide +kernel
theorem dL_act_83 : decode cL_act 83 = .ok (.pop, 1) := by decide +kernel
theorem dL_act_84 : decode cL_act 84 = .ok (.goto 243, 3) := by decide +kernel
theorem dL_act_87 : decode cL_act 87 = .ok (.aload_n 0, 1) := by decide +kernel
theorem dL_act_88 : decode cL_act 88 = .ok (.aload_n 0, 1) := by decide +kernel
theorem dL_act_89 : decode cL_act 89 = .ok (.iconst 1, 1) := by decide +kernel
theorem dL_act_90 : decode cL_act 90 = .ok (.invokevirtual 25, 3) := by decide +kernel
theorem dL_act_93 : decode cL_act 93 = .ok (.iload_n 1, 1) := by decide +kernel
theorem dL_act_94 : decode cL_act 94 = .ok (.iconst 3, 1) := by decide +kernel
theorem dL_act_95 : decode cL_act 95 = .ok (.ishr, 1) := by decide +kernel
theorem dL_act_96 : decode cL_act 96 = .ok (.bipush 9, 2) := by decide +kernel
theorem dL_act_98 : decode cL_act 98 = .ok (.invokestatic 18, 3) := by decide +kernel
theorem dL_act_101 : decode cL_act 101 = .ok (.iadd, 1) := by decide +kernel
theorem dL_act_102 : decode cL_act 102 = .ok (.iload_n 1, 1) := by decide +kernel
theorem dL_act_103 : decode cL_act 103 = .ok (.iconst 5, 1) := by decide +kernel
theorem dL_act_104 : decode cL_act 104 = .ok (.ishr, 1) := by decide +kernel
theorem dL_act_105 : decode cL_act 105 = .ok (.iload_n 1, 1) := by decide +kernel
theorem dL_act_106 : decode cL_act 106 = .ok (.iconst 2, 1) := by decide +kernel
theorem dL_act_107 : decode cL_act 107 = .ok (.ishr, 1) := by decide +kernel
theorem dL_act_108 : decode cL_act 108 = .ok (.iconst 2, 1) := by decide +kernel
theorem dL_act_109 : decode cL_act 109 = .ok (.invokestatic 18, 3) := by decide +kernel
theorem dL_act_112 : decode cL_act 112 = .ok (.ifCond .ne 8, 3) := by decide +kernel
theorem dL_act_115 : decode cL_act 115 = .ok (.bipush 10, 2) := by decide +kernel
theorem dL_act_117 : decode cL_act 117 = .ok (.goto 5, 3) := by decide +kernel
theorem dL_act_120 : decode cL_act 120 = .ok (.bipush 7, 2) := by decide +kernel
theorem dL_act_122 : decode cL_act 122 = .ok (.invokestatic 18, 3) := by decide +kernel
theorem dL_act_125 : decode cL_act 125 = .ok (.iload_n 1, 1) := by decide +kernel
theorem dL_act_126 : decode cL_act 126 = .ok (.iconst 4, 1) := by decide +kernel
theorem dL_act_127 : decode cL_act 127 = .ok (.ishr, 1) := by decide +kernel
theorem dL_act_128 : decode cL_act 128 = .ok (.bipush 8, 2) := by decide +kernel
theorem dL_act_130 : decode cL_act 130 = .ok (.invokestatic 18, 3) := by decide +kernel
theorem dL_act_133 : decode cL_act 133 = .ok (.invokevirtual 69, 3) := by decide +kernel
theorem dL_act_136 : decode cL_act 136 = .ok (.pop, 1) := by decide +kernel
theorem dL_act_137 : decode cL_act 137 = .ok (.goto 190, 3) := by decide +kernel
theorem dL_act_140 : decode cL_act 140 = .ok (.aload_n 0, 1) := by decide +kernel
theorem dL_act_141 : decode cL_act 141 = .ok (.iload_n 1, 1) := by decide +kernel
theorem dL_act_142 : decode cL_act 142 = .ok (.iconst 3, 1) := by decide +kernel
theorem dL_act_143 : decode cL_act 143 = .ok (.ishr, 1) := by decide +kernel
theorem dL_act_144 : decode cL_act 144 = .ok (.iload_n 3, 1) := by decide +kernel
theorem dL_act_145 : decode cL_act 145 = .ok (.invokestatic 18, 3) := by decide +kernel
theorem dL_act_148 : decode cL_act 148 = .ok (.iconst 1, 1) := by decide +kernel
theorem dL_act_149 : decode cL_act 149 = .ok (.iload_n 1, 1) := by decide +kernel
theorem dL_act_150 : decode cL_act 150 = .ok (.iconst 4, 1) := by decide +kernel
theorem dL_act_151 : decode cL_act 151 = .ok (.ishr, 1) := by decide +kernel
theorem dL_act_152 : decode cL_act 152 = .ok (.iconst 4, 1) := by decide +kernel
theorem dL_act_153 : decode cL_act 153 = .ok (.invokestatic 18, 3) := by decide +kernel
theorem dL_act_156 : decode cL_act 156 = .ok (.iadd, 1) := by decide +kernel
theorem dL_act_157 : decode cL_act 157 = .ok (.iconst 1, 1) := by decide +kernel
theorem dL_act_158 : decode cL_act 158 = .ok (.iload_n 1, 1) := by decide +kernel
theorem dL_act_159 : decode cL_act 159 = .ok (.iconst 5, 1) := by decide +kernel
theorem dL_act_160 : decode cL_act 160 = .ok (.ishr, 1) := by decide +kernel
theorem dL_act_161 : decode cL_act 161 = .ok (.iconst 4, 1) := by decide +kernel
theorem dL_act_162 : decode cL_act 162 = .ok (.invokestatic 18, 3) := by decide +kernel
theorem dL_act_165 : decode cL_act 165 = .ok (.iadd, 1) := by decide +kernel
theorem dL_act_166 : decode cL_act 166 = .ok (.iload_n 1, 1) := by decide +kernel
theorem dL_act_167 : decode cL_act 167 = .ok (.iconst 2, 1) := by decide +kernel
theorem dL_act_168 : decode cL_act 168 = .ok (.ishr, 1) := by decide +kernel
theorem dL_act_169 : decode cL_act 169 = .ok (.bipush 24, 2) := by decide +kernel
theorem dL_act_171 : decode cL_act 171 = .ok (.invokestatic 18, 3) := by decide +kernel
theorem dL_act_174 : decode cL_act 174 = .ok (.iload_n 1, 1) := by decide +kernel
theorem dL_act_175 : decode cL_act 175 = .ok (.bipush 6, 2) := by decide +kernel
theorem dL_act_177 : decode cL_act 177 = .ok (.ishr, 1) := by decide +kernel
theorem dL_act_178 : decode cL_act 178 = .ok (.bipush 24, 2) := by decide +kernel
theorem dL_act_180 : decode cL_act 180 = .ok (.invokestatic 18, 3) := by decide +kernel
theorem dL_act_183 : decode cL_act 183 = .ok (.invokevirtual 73, 3) := by decide +kernel
theorem dL_act_186 : decode cL_act 186 = .ok (.pop, 1) := by decide +kernel
theorem dL_act_187 : decode cL_act 187 = .ok (.goto 140, 3) := by decide +kernel
theorem dL_act_190 : decode cL_act 190 = .ok (.aload_n 0, 1) := by decide +kernel
theorem dL_act_191 : decode cL_act 191 = .ok (.iload 6, 2) := by decide +kernel
theorem dL_act_193 : decode cL_act 193 = .ok (.invokevirtual 76, 3) := by decide +kernel
theorem dL_act_196 : decode cL_act 196 = .ok (.pop, 1) := by decide +kernel
theorem dL_act_197 : decode cL_act 197 = .ok (.goto 130, 3) := by decide +kernel
theorem dL_act_200 : decode cL_act 200 = .ok (.aload_n 0, 1) := by decide +kernel
theorem dL_act_201 : decode cL_act 201 = .ok (.iload 6, 2) := by decide +kernel
theorem dL_act_203 : decode cL_act 203 = .ok (.invokevirtual 79, 3) := by decide +kernel
theorem dL_act_206 : decode cL_act 206 = .ok (.pop, 1) := by decide +kernel
theorem dL_act_207 : decode cL_act 207 = .ok (.goto 120, 3) := by decide +kernel
theorem dL_act_210 : decode cL_act 210 = .ok (.aload_n 0, 1) := by decide +kernel
theorem dL_act_211 : decode cL_act 211 = .ok (.iload 6, 2) := by decide +kernel
theorem dL_act_213 : decode cL_act 213 = .ok (.iload 6, 2) := by decide +kernel
theorem dL_act_215 : decode cL_act 215 = .ok (.iconst 1, 1) := by decide +kernel
theorem dL_act_216 : decode cL_act 216 = .ok (.iadd, 1) := by decide +kernel
theorem dL_act_217 : decode cL_act 217 = .ok (.iload 5, 2) := by decide +kernel
theorem dL_act_219 : decode cL_act 219 = .ok (.irem, 1) := by decide +kernel
theorem dL_act_220 : decode cL_act 220 = .ok (.invokevirtual 82, 3) := by decide +kernel
theorem dL_act_223 : decode cL_act 223 = .ok (.pop, 1) := by decide +kernel
theorem dL_act_224 : decode cL_act 224 = .ok (.goto 103, 3) := by decide +kernel
theorem dL_act_227 : decode cL_act 227 = .ok (.aload 4, 2) := by decide +kernel
theorem dL_act_229 : decode cL_act 229 = .ok (.iconst 0, 1) := by decide +kernel
theorem dL_act_230 : decode cL_act 230 = .ok (.iconst 1, 1) := by decide +kernel
theorem dL_act_231 : decode cL_act 231 = .ok (.iastore, 1) := by decide +kernel
theorem dL_act_232 : decode cL_act 232 = .ok (.aload_n 0, 1) := by decide +kernel
theorem dL_act_233 : decode cL_act 233 = .ok (.iconst 1, 1) := by decide +kernel
theorem dL_act_234 : decode cL_act 234 = .ok (.iload_n 1, 1) := by decide +kernel
theorem dL_act_235 : decode cL_act 235 = .ok (.iconst 3, 1) := by decide +kernel
theorem dL_act_236 : decode cL_act 236 = .ok (.ishr, 1) := by decide +kernel
theorem dL_act_237 : decode cL_act 237 = .ok (.bipush 9, 2) := by decide +kernel
theorem dL_act_239 : decode cL_act 239 = .ok (.invokestatic 18, 3) := by decide +kernel
theorem dL_act_242 : decode cL_act 242 = .ok (.iadd, 1) := by decide +kernel
theorem dL_act_243 : decode cL_act 243 = .ok (.invokevirtual 85, 3) := by decide +kernel
theorem dL_act_246 : decode cL_act 246 = .ok (.pop, 1) := by decide +kernel
theorem dL_act_247 : decode cL_act 247 = .ok (.goto 80, 3) := by decide +kernel
theorem dL_act_250 : decode cL_act 250 = .ok (.iconst 0, 1) := by decide +kernel
theorem dL_act_251 : decode cL_act 251 = .ok (.istore 7, 2) := by decide +kernel
theorem dL_act_253 : decode cL_act 253 = .ok (.iload 7, 2) := by decide +kernel
theorem dL_act_255 : decode cL_act 255 = .ok (.iconst 5, 1) := by decide +kernel
theorem dL_act_256 : decode cL_act 256 = .ok (.if_icmp .ge 71, 3) := by decide +kernel
theorem dL_act_259 : decode cL_act 259 = .ok (.iload_n 2, 1) := by decide +kernel
theorem dL_act_260 : decode cL_act 260 = .ok (.bipush 7, 2) := by decide +kernel
theorem dL_act_262 : decode cL_act 262 = .ok (.if_icmp .ne 7, 3) := by decide +kernel
theorem dL_act_265 : decode cL_act 265 = .ok (.iconst 5, 1) := by decide +kernel
theorem dL_act_266 : decode cL_act 266 = .ok (.goto 25, 3) := by decide +kernel
theorem dL_act_269 : decode cL_act 269 = .ok (.iload_n 2, 1) := by decide +kernel
theorem dL_act_270 : decode cL_act 270 = .ok (.bipush 8, 2) := by decide +kernel
theorem dL_act_272 : decode cL_act 272 = .ok (.if_icmp .ne 8, 3) := by decide +kernel
theorem dL_act_275 : decode cL_act 275 = .ok (.bipush 6, 2) := by decide +kernel
theorem dL_act_277 : decode cL_act 277 = .ok (.goto 14, 3) := by decide +kernel
theorem dL_act_280 : decode cL_act 280 = .ok (.iload_n 1, 1) := by decide +kernel
theorem dL_act_281 : decode cL_act 281 = .ok (.iload 7, 2) := by decide +kernel
theorem dL_act_283 : decode cL_act 283 = .ok (.iconst 2, 1) := by decide +kernel
theorem dL_act_284 : decode cL_act 284 = .ok (.iadd, 1) := by decide +kernel
theorem dL_act_285 : decode cL_act 285 = .ok (.ishr, 1) := by decide +kernel
theorem dL_act_286 : decode cL_act 286 = .ok (.bipush 7, 2) := by decide +kernel
theorem dL_act_288 : decode cL_act 288 = .ok (.invokestatic 18, 3) := by decide +kernel
theorem dL_act_291 : decode cL_act 291 = .ok (.istore 8, 2) := by decide +kernel
theorem dL_act_293 : decode cL_act 293 = .ok (.aload_n 0, 1) := by decide +kernel
theorem dL_act_294 : decode cL_act 294 = .ok (.iload 6, 2) := by decide +kernel
theorem dL_act_296 : decode cL_act 296 = .ok (.iload 8, 2) := by decide +kernel
theorem dL_act_298 : decode cL_act 298 = .ok (.invokevirtual 88, 3) := by decide +kernel
theorem dL_act_301 : decode cL_act 301 = .ok (.istore 9, 2) := by decide +kernel
theorem dL_act_303 : decode cL_act 303 = .ok (.aload_n 0, 1) := by decide +kernel
theorem dL_act_304 : decode cL_act 304 = .ok (.iload 6, 2) := by decide +kernel
theorem dL_act_306 : decode cL_act 306 = .ok (.iload 8, 2) := by decide +kernel
theorem dL_act_308 : decode cL_act 308 = .ok (.invokevirtual 91, 3) := by decide +kernel
theorem dL_act_311 : decode cL_act 311 = .ok (.iload 9, 2) := by decide +kernel
theorem dL_act_313 : decode cL_act 313 = .ok (.if_icmp .eq 8, 3) := by decide +kernel
theorem dL_act_316 : decode cL_act 316 = .ok (.aload 4, 2) := by decide +kernel
theorem dL_act_318 : decode cL_act 318 = .ok (.iconst 0, 1) := by decide +kernel
theorem dL_act_319 : decode cL_act 319 = .ok (.iconst 2, 1) := by decide +kernel
theorem dL_act_320 : decode cL_act 320 = .ok (.iastore, 1) := by decide +kernel
theorem dL_act_321 : decode cL_act 321 = .ok (.iinc 7 1, 3) := by decide +kernel
theorem dL_act_324 : decode cL_act 324 = .ok (.goto (-71), 3) := by decide +kernel
theorem dL_act_327 : decode cL_act 327 = .ok (.goto 12, 3) := by decide +kernel
theorem dL_act_330 : decode cL_act 330 = .ok (.astore 7, 2) := by decide +kernel
theorem dL_act_332 : decode cL_act 332 = .ok (.return_, 1) := by decide +kernel
theorem dL_act_333 : decode cL_act 333 = .ok (.astore 7, 2) := by decide +kernel
theorem dL_act_335 : decode cL_act 335 = .ok (.return_, 1) := by decide +kernel
theorem dL_act_336 : decode cL_act 336 = .ok (.astore 7, 2) := by decide +kernel
theorem dL_act_338 : decode cL_act 338 = .ok (.return_, 1) := by decide +kernel
theorem dL_act_339 : decode cL_act 339 = .ok (.return_, 1) := by decide +kernel
theorem dL_isWhole_0 : decode cL_isWhole 0 = .ok (.aload_n 0, 1) := by decide +kernel
theorem dL_isWhole_1 : decode cL_isWhole 1 = .ok (.iconst 3, 1) := by decide +kernel
theorem dL_isWhole_2 : decode cL_isWhole 2 = .ok (.invokevirtual 25, 3) := by decide +kernel
theorem dL_isWhole_5 : decode cL_isWhole 5 = .ok (.istore_n 2, 1) := by decide +kernel
theorem dL_isWhole_6 : decode cL_isWhole 6 = .ok (.iconst 0, 1) := by decide +kernel
theorem dL_isWhole_7 : decode cL_isWhole 7 = .ok (.istore_n 3, 1) := by decide +kernel
theorem dL_isWhole_8 : decode cL_isWhole 8 = .ok (.iconst 0, 1) := by decide +kernel
theorem dL_isWhole_9 : decode cL_isWhole 9 = .ok (.istore 4, 2) := by decide +kernel
theorem dL_isWhole_11 : decode cL_isWhole 11 = .ok (.iconst 0, 1) := by decide +kernel
theorem dL_isWhole_12 : decode cL_isWhole 12 = .ok (.istore 5, 2) := by decide +kernel
theorem dL_isWhole_14 : decode cL_isWhole 14 = .ok (.iconst 0, 1) := by decide +kernel
theorem dL_isWhole_15 : decode cL_isWhole 15 = .ok (.istore 6, 2) := by decide +kernel
theorem dL_isWhole_17 : decode cL_isWhole 17 = .ok (.iconst 0, 1) := by decide +kernel
theorem dL_isWhole_18 : decode cL_isWhole 18 = .ok (.istore 7, 2) := by decide +kernel
theorem dL_isWhole_20 : decode cL_isWhole 20 = .ok (.iload 7, 2) := by decide +kernel
theorem dL_isWhole_22 : decode cL_isWhole 22 = .ok (.iload_n 2, 1) := by decide +kernel
theorem dL_isWhole_23 : decode cL_isWhole 23 = .ok (.if_icmp .ge 253, 3) := by decide +kernel
theorem dL_isWhole_26 : decode cL_isWhole 26 = .ok (.iconst 0, 1) := by decide +kernel
theorem dL_isWhole_27 : decode cL_isWhole 27 = .ok (.istore 8, 2) := by decide +kernel
theorem dL_isWhole_29 : decode cL_isWhole 29 = .ok (.iload 8, 2) := by decide +kernel
theorem dL_isWhole_31 : decode cL_isWhole 31 = .ok (.iload_n 2, 1) := by decide +kernel
theorem dL_isWhole_32 : decode cL_isWhole 32 = .ok (.if_icmp .ge 94, 3) := by decide +kernel
theorem dL_isWhole_35 : decode cL_isWhole 35 = .ok (.iload 8, 2) := by decide +kernel
theorem dL_isWhole_37 : decode cL_isWhole 37 = .ok (.iload 7, 2) := by decide +kernel
theorem dL_isWhole_39 : decode cL_isWhole 39 = .ok (.if_icmp .ne 6, 3) := by decide +kernel
theorem dL_isWhole_42 : decode cL_isWhole 42 = .ok (.goto 78, 3) := by decide +kernel
theorem dL_isWhole_45 : decode cL_isWhole 45 = .ok (.aload_n 0, 1) := by decide +kernel
theorem dL_isWhole_46 : decode cL_isWhole 46 = .ok (.iload 7, 2) := by decide +kernel
theorem dL_isWhole_48 : decode cL_isWhole 48 = .ok (.iload 8, 2) := by decide +kernel
theorem dL_isWhole_50 : decode cL_isWhole 50 = .ok (.invokevirtual 98, 3) := by decide +kernel
theorem dL_isWhole_53 : decode cL_isWhole 53 = .ok (.istore 9, 2) := by decide +kernel
theorem dL_isWhole_55 : decode cL_isWhole 55 = .ok (.iload 9, 2) := by decide +kernel
theorem dL_isWhole_57 : decode cL_isWhole 57 = .ok (.ifCond .lt 48, 3) := by decide +kernel
theorem dL_isWhole_60 : decode cL_isWhole 60 = .ok (.iload 9, 2) := by decide +kernel
theorem dL_isWhole_62 : decode cL_isWhole 62 = .ok (.iconst 3, 1) := by decide +kernel
theorem dL_isWhole_63 : decode cL_isWhole 63 = .ok (.if_icmp .gt 42, 3) := by decide +kernel
theorem dL_isWhole_66 : decode cL_isWhole 66 = .ok (.aload_n 0, 1) := by decide +kernel
theorem dL_isWhole_67 : decode cL_isWhole 67 = .ok (.iload 8, 2) := by decide +kernel
theorem dL_isWhole_69 : decode cL_isWhole 69 = .ok (.iload 7, 2) := by decide +kernel
theorem dL_isWhole_71 : decode cL_isWhole 71 = .ok (.invokevirtual 98, 3) := by decide +kernel
theorem dL_isWhole_74 : decode cL_isWhole 74 = .ok (.iload 9, 2) := by decide +kernel
theorem dL_isWhole_76 : decode cL_isWhole 76 = .ok (.if_icmp .ne 29, 3) := by decide +kernel
theorem dL_isWhole_79 : decode cL_isWhole 79 = .ok (.aload_n 0, 1) := by decide +kernel
theorem dL_isWhole_80 : decode cL_isWhole 80 = .ok (.iload 7, 2) := by decide +kernel
theorem dL_isWhole_82 : decode cL_isWhole 82 = .ok (.bipush 13, 2) := by decide +kernel
theorem dL_isWhole_84 : decode cL_isWhole 84 = .ok (.invokevirtual 49, 3) := by decide +kernel
theorem dL_isWhole_87 : decode cL_isWhole 87 = .ok (.iload 8, 2) := by decide +kernel
theorem dL_isWhole_89 : decode cL_isWhole 89 = .ok (.ishr, 1) := by decide +kernel
theorem dL_isWhole_90 : decode cL_isWhole 90 = .ok (.iconst 1, 1) := by decide +kernel
theorem dL_isWhole_91 : decode cL_isWhole 91 = .ok (.iand, 1) := by decide +kernel
theorem dL_isWhole_92 : decode cL_isWhole 92 = .ok (.iload 9, 2) := by decide +kernel
theorem dL_isWhole_94 : decode cL_isWhole 94 = .ok (.ifCond .le 7, 3) := by decide +kernel
theorem dL_isWhole_97 : decode cL_isWhole 97 = .ok (.iconst 1, 1) := by decide +kernel
theorem dL_isWhole_98 : decode cL_isWhole 98 = .ok (.goto 4, 3) := by decide +kernel
theorem dL_isWhole_101 : decode cL_isWhole 101 = .ok (.iconst 0, 1) := by decide +kernel
theorem dL_isWhole_102 : decode cL_isWhole 102 = .ok (.if_icmp .eq 5, 3) := by decide +kernel
theorem dL_isWhole_105 : decode cL_isWhole 105 = .ok (.iconst 0, 1) := by decide +kernel
theorem dL_isWhole_106 : decode cL_isWhole 106 = .ok (.ireturn, 1) := by decide +kernel
theorem dL_isWhole_107 : decode cL_isWhole 107 = .ok (.iload_n 3, 1) := by decide +kernel
theorem dL_isWhole_108 : decode cL_isWhole 108 = .ok (.iload 9, 2) := by decide +kernel
theorem dL_isWhole_110 : decode cL_isWhole 110 = .ok (.ifCond .le 7, 3) := by decide +kernel
theorem dL_isWhole_113 : decode cL_isWhole 113 = .ok (.iconst 1, 1) := by decide +kernel
theorem dL_isWhole_114 : decode cL_isWhole 114 = .ok (.goto 4, 3) := by decide +kernel
theorem dL_isWhole_117 : decode cL_isWhole 117 = .ok (.iconst 0, 1) := by decide +kernel
theorem dL_isWhole_118 : decode cL_isWhole 118 = .ok (.iadd, 1) := by decide +kernel
theorem dL_isWhole_119 : decode cL_isWhole 119 = .ok (.istore_n 3, 1) := by decide +kernel
theorem dL_isWhole_120 : decode cL_isWhole 120 = .ok (.iinc 8 1, 3) := by decide +kernel
theorem dL_isWhole_123 : decode cL_isWhole 123 = .ok (.goto (-94), 3) := by decide +kernel
theorem dL_isWhole_126 : decode cL_isWhole 126 = .ok (.iload 4, 2) := by decide +kernel
theorem dL_isWhole_128 : decode cL_isWhole 128 = .ok (.aload_n 0, 1) := by decide +kernel
theorem dL_isWhole_129 : decode cL_isWhole 129 = .ok (.iload 7, 2) := by decide +kernel
theorem dL_isWhole_131 : decode cL_isWhole 131 = .ok (.bipush 14, 2) := by decide +kernel
theorem dL_isWhole_133 : decode cL_isWhole 133 = .ok (.invokevirtual 49, 3) := by decide +kernel
theorem dL_isWhole_136 : decode cL_isWhole 136 = .ok (.iadd, 1) := by decide +kernel
theorem dL_isWhole_137 : decode cL_isWhole 137 = .ok (.istore 4, 2) := by decide +kernel
theorem dL_isWhole_139 : decode cL_isWhole 139 = .ok (.aload_n 0, 1) := by decide +kernel
theorem dL_isWhole_140 : decode cL_isWhole 140 = .ok (.iload 7, 2) := by decide +kernel
theorem dL_isWhole_142 : decode cL_isWhole 142 = .ok (.bipush 9, 2) := by decide +kernel
theorem dL_isWhole_144 : decode cL_isWhole 144 = .ok (.invokevirtual 49, 3) := by decide +kernel
theorem dL_isWhole_147 : decode cL_isWhole 147 = .ok (.istore 8, 2) := by decide +kernel
theorem dL_isWhole_149 : decode cL_isWhole 149 = .ok (.iload 8, 2) := by decide +kernel
theorem dL_isWhole_151 : decode cL_isWhole 151 = .ok (.ifCond .lt 35, 3) := by decide +kernel
theorem dL_isWhole_154 : decode cL_isWhole 154 = .ok (.aload_n 0, 1) := by decide +kernel
theorem dL_isWhole_155 : decode cL_isWhole 155 = .ok (.iload 8, 2) := by decide +kernel
theorem dL_isWhole_157 : decode cL_isWhole 157 = .ok (.iconst 2, 1) := by decide +kernel
theorem dL_isWhole_158 : decode cL_isWhole 158 = .ok (.invokevirtual 101, 3) := by decide +kernel
theorem dL_isWhole_161 : decode cL_isWhole 161 = .ok (.iload 7, 2) := by decide +kernel
theorem dL_isWhole_163 : decode cL_isWhole 163 = .ok (.if_icmp .ne 21, 3) := by decide +kernel
theorem dL_isWhole_166 : decode cL_isWhole 166 = .ok (.aload_n 0, 1) := by decide +kernel
theorem dL_isWhole_167 : decode cL_isWhole 167 = .ok (.iload 8, 2) := by decide +kernel
theorem dL_isWhole_169 : decode cL_isWhole 169 = .ok (.iconst 1, 1) := by decide +kernel
theorem dL_isWhole_170 : decode cL_isWhole 170 = .ok (.invokevirtual 101, 3) := by decide +kernel
theorem dL_isWhole_173 : decode cL_isWhole 173 = .ok (.aload_n 0, 1) := by decide +kernel
theorem dL_isWhole_174 : decode cL_isWhole 174 = .ok (.iload 7, 2) := by decide +kernel
theorem dL_isWhole_176 : decode cL_isWhole 176 = .ok (.bipush 10, 2) := by decide +kernel
theorem dL_isWhole_178 : decode cL_isWhole 178 = .ok (.invokevirtual 49, 3) := by decide +kernel
theorem dL_isWhole_181 : decode cL_isWhole 181 = .ok (.if_icmp .eq 5, 3) := by decide +kernel
theorem dL_isWhole_184 : decode cL_isWhole 184 = .ok (.iconst 0, 1) := by decide +kernel
theorem dL_isWhole_185 : decode cL_isWhole 185 = .ok (.ireturn, 1) := by decide +kernel
theorem dL_isWhole_186 : decode cL_isWhole 186 = .ok (.iload 5, 2) := by decide +kernel
theorem dL_isWhole_188 : decode cL_isWhole 188 = .ok (.iload 8, 2) := by decide +kernel
theorem dL_isWhole_190 : decode cL_isWhole 190 = .ok (.ifCond .lt 7, 3) := by decide +kernel
theorem dL_isWhole_193 : decode cL_isWhole 193 = .ok (.iconst 1, 1) := by decide +kernel
theorem dL_isWhole_194 : decode cL_isWhole 194 = .ok (.goto 4, 3) := by decide +kernel
theorem dL_isWhole_197 : decode cL_isWhole 197 = .ok (.iconst 0, 1) := by decide +kernel
theorem dL_isWhole_198 : decode cL_isWhole 198 = .ok (.iadd, 1) := by decide +kernel
theorem dL_isWhole_199 : decode cL_isWhole 199 = .ok (.istore 5, 2) := by decide +kernel
theorem dL_isWhole_201 : decode cL_isWhole 201 = .ok (.aload_n 0, 1) := by decide +kernel
theorem dL_isWhole_202 : decode cL_isWhole 202 = .ok (.iload 7, 2) := by decide +kernel
theorem dL_isWhole_204 : decode cL_isWhole 204 = .ok (.bipush 6, 2) := by decide +kernel
theorem dL_isWhole_206 : decode cL_isWhole 206 = .ok (.invokevirtual 49, 3) := by decide +kernel
theorem dL_isWhole_209 : decode cL_isWhole 209 = .ok (.aload_n 0, 1) := by decide +kernel
theorem dL_isWhole_210 : decode cL_isWhole 210 = .ok (.aload_n 0, 1) := by decide +kernel
theorem dL_isWhole_211 : decode cL_isWhole 211 = .ok (.iload 7, 2) := by decide +kernel
theorem dL_isWhole_213 : decode cL_isWhole 213 = .ok (.bipush 10, 2) := by decide +kernel
theorem dL_isWhole_215 : decode cL_isWhole 215 = .ok (.invokevirtual 49, 3) := by decide +kernel
theorem dL_isWhole_218 : decode cL_isWhole 218 = .ok (.iconst 0, 1) := by decide +kernel
theorem dL_isWhole_219 : decode cL_isWhole 219 = .ok (.invokevirtual 104, 3) := by decide +kernel
theorem dL_isWhole_222 : decode cL_isWhole 222 = .ok (.if_icmp .le 46, 3) := by decide +kernel
theorem dL_isWhole_225 : decode cL_isWhole 225 = .ok (.aload_n 0, 1) := by decide +kernel
theorem dL_isWhole_226 : decode cL_isWhole 226 = .ok (.iload 7, 2) := by decide +kernel
theorem dL_isWhole_228 : decode cL_isWhole 228 = .ok (.bipush 8, 2) := by decide +kernel
theorem dL_isWhole_230 : decode cL_isWhole 230 = .ok (.invokevirtual 49, 3) := by decide +kernel
theorem dL_isWhole_233 : decode cL_isWhole 233 = .ok (.bipush 30, 2) := by decide +kernel
theorem dL_isWhole_235 : decode cL_isWhole 235 = .ok (.if_icmp .gt 33, 3) := by decide +kernel
theorem dL_isWhole_238 : decode cL_isWhole 238 = .ok (.aload_n 0, 1) := by decide +kernel
theorem dL_isWhole_239 : decode cL_isWhole 239 = .ok (.iload 7, 2) := by decide +kernel
theorem dL_isWhole_241 : decode cL_isWhole 241 = .ok (.bipush 7, 2) := by decide +kernel
theorem dL_isWhole_243 : decode cL_isWhole 243 = .ok (.invokevirtual 49, 3) := by decide +kernel
theorem dL_isWhole_246 : decode cL_isWhole 246 = .ok (.bipush 20, 2) := by decide +kernel
theorem dL_isWhole_248 : decode cL_isWhole 248 = .ok (.if_icmp .gt 20, 3) := by decide +kernel
theorem dL_isWhole_251 : decode cL_isWhole 251 = .ok (.aload_n 0, 1) := by decide +kernel
theorem dL_isWhole_252 : decode cL_isWhole 252 = .ok (.aload_n 0, 1) := by decide +kernel
theorem dL_isWhole_253 : decode cL_isWhole 253 = .ok (.iload 7, 2) := by decide +kernel
theorem dL_isWhole_255 : decode cL_isWhole 255 = .ok (.iconst 0, 1) := by decide +kernel
theorem dL_isWhole_256 : decode cL_isWhole 256 = .ok (.invokevirtual 49, 3) := by decide +kernel
theorem dL_isWhole_259 : decode cL_isWhole 259 = .ok (.iconst 3, 1) := by decide +kernel
theorem dL_isWhole_260 : decode cL_isWhole 260 = .ok (.invokevirtual 104, 3) := by decide +kernel
theorem dL_isWhole_263 : decode cL_isWhole 263 = .ok (.iload 7, 2) := by decide +kernel
theorem dL_isWhole_265 : decode cL_isWhole 265 = .ok (.if_icmp .eq 5, 3) := by decide +kernel
theorem dL_isWhole_268 : decode cL_isWhole 268 = .ok (.iconst 0, 1) := by decide +kernel
theorem dL_isWhole_269 : decode cL_isWhole 269 = .ok (.ireturn, 1) := by decide +kernel
theorem dL_isWhole_270 : decode cL_isWhole 270 = .ok (.iinc 7 1, 3) := by decide +kernel
theorem dL_isWhole_273 : decode cL_isWhole 273 = .ok (.goto (-253), 3) := by decide +kernel
theorem dL_isWhole_276 : decode cL_isWhole 276 = .ok (.iconst 0, 1) := by decide +kernel
theorem dL_isWhole_277 : decode cL_isWhole 277 = .ok (.istore 7, 2) := by decide +kernel
theorem dL_isWhole_279 : decode cL_isWhole 279 = .ok (.iload 7, 2) := by decide +kernel
theorem dL_isWhole_281 : decode cL_isWhole 281 = .ok (.iload_n 1, 1) := by decide +kernel
theorem dL_isWhole_282 : decode cL_isWhole 282 = .ok (.if_icmp .ge 21, 3) := by decide +kernel
theorem dL_isWhole_285 : decode cL_isWhole 285 = .ok (.iload 6, 2) := by decide +kernel
theorem dL_isWhole_287 : decode cL_isWhole 287 = .ok (.aload_n 0, 1) := by decide +kernel
theorem dL_isWhole_288 : decode cL_isWhole 288 = .ok (.iload 7, 2) := by decide +kernel
theorem dL_isWhole_290 : decode cL_isWhole 290 = .ok (.iconst 1, 1) := by decide +kernel
theorem dL_isWhole_291 : decode cL_isWhole 291 = .ok (.invokevirtual 104, 3) := by decide +kernel
theorem dL_isWhole_294 : decode cL_isWhole 294 = .ok (.iadd, 1) := by decide +kernel
theorem dL_isWhole_295 : decode cL_isWhole 295 = .ok (.istore 6, 2) := by decide +kernel
theorem dL_isWhole_297 : decode cL_isWhole 297 = .ok (.iinc 7 1, 3) := by decide +kernel
theorem dL_isWhole_300 : decode cL_isWhole 300 = .ok (.goto (-21), 3) := by decide +kernel
theorem dL_isWhole_303 : decode cL_isWhole 303 = .ok (.aload_n 0, 1) := by decide +kernel
theorem dL_isWhole_304 : decode cL_isWhole 304 = .ok (.invokevirtual 107, 3) := by decide +kernel
theorem dL_isWhole_307 : decode cL_isWhole 307 = .ok (.ifCond .eq 64, 3) := by decide +kernel
theorem dL_isWhole_310 : decode cL_isWhole 310 = .ok (.aload_n 0, 1) := by decide +kernel
theorem dL_isWhole_311 : decode cL_isWhole 311 = .ok (.bipush 8, 2) := by decide +kernel
theorem dL_isWhole_313 : decode cL_isWhole 313 = .ok (.invokevirtual 25, 3) := by decide +kernel
theorem dL_isWhole_316 : decode cL_isWhole 316 = .ok (.iconst 2, 1) := by decide +kernel
theorem dL_isWhole_317 : decode cL_isWhole 317 = .ok (.imul, 1) := by decide +kernel
theorem dL_isWhole_318 : decode cL_isWhole 318 = .ok (.iload_n 3, 1) := by decide +kernel
theorem dL_isWhole_319 : decode cL_isWhole 319 = .ok (.if_icmp .ne 52, 3) := by decide +kernel
theorem dL_isWhole_322 : decode cL_isWhole 322 = .ok (.aload_n 0, 1) := by decide +kernel
theorem dL_isWhole_323 : decode cL_isWhole 323 = .ok (.bipush 9, 2) := by decide +kernel
theorem dL_isWhole_325 : decode cL_isWhole 325 = .ok (.invokevirtual 25, 3) := by decide +kernel
theorem dL_isWhole_328 : decode cL_isWhole 328 = .ok (.iload 4, 2) := by decide +kernel
theorem dL_isWhole_330 : decode cL_isWhole 330 = .ok (.if_icmp .ne 41, 3) := by decide +kernel
theorem dL_isWhole_333 : decode cL_isWhole 333 = .ok (.aload_n 0, 1) := by decide +kernel
theorem dL_isWhole_334 : decode cL_isWhole 334 = .ok (.bipush 12, 2) := by decide +kernel
theorem dL_isWhole_336 : decode cL_isWhole 336 = .ok (.invokevirtual 25, 3) := by decide +kernel
theorem dL_isWhole_339 : decode cL_isWhole 339 = .ok (.iload 5, 2) := by decide +kernel
theorem dL_isWhole_341 : decode cL_isWhole 341 = .ok (.if_icmp .ne 30, 3) := by decide +kernel
theorem dL_isWhole_344 : decode cL_isWhole 344 = .ok (.aload_n 0, 1) := by decide +kernel
theorem dL_isWhole_345 : decode cL_isWhole 345 = .ok (.iconst 4, 1) := by decide +kernel
theorem dL_isWhole_346 : decode cL_isWhole 346 = .ok (.invokevirtual 25, 3) := by decide +kernel
theorem dL_isWhole_349 : decode cL_isWhole 349 = .ok (.iload 5, 2) := by decide +kernel
theorem dL_isWhole_351 : decode cL_isWhole 351 = .ok (.iload 6, 2) := by decide +kernel
theorem dL_isWhole_353 : decode cL_isWhole 353 = .ok (.iadd, 1) := by decide +kernel
theorem dL_isWhole_354 : decode cL_isWhole 354 = .ok (.if_icmp .ne 17, 3) := by decide +kernel
theorem dL_isWhole_357 : decode cL_isWhole 357 = .ok (.aload_n 0, 1) := by decide +kernel
theorem dL_isWhole_358 : decode cL_isWhole 358 = .ok (.bipush 13, 2) := by decide +kernel
theorem dL_isWhole_360 : decode cL_isWhole 360 = .ok (.invokevirtual 25, 3) := by decide +kernel
theorem dL_isWhole_363 : decode cL_isWhole 363 = .ok (.iload_n 2, 1) := by decide +kernel
theorem dL_isWhole_364 : decode cL_isWhole 364 = .ok (.if_icmp .gt 7, 3) := by decide +kernel
theorem dL_isWhole_367 : decode cL_isWhole 367 = .ok (.iconst 1, 1) := by decide +kernel
theorem dL_isWhole_368 : decode cL_isWhole 368 = .ok (.goto 4, 3) := by decide +kernel
theorem dL_isWhole_371 : decode cL_isWhole 371 = .ok (.iconst 0, 1) := by decide +kernel
theorem dL_isWhole_372 : decode cL_isWhole 372 = .ok (.ireturn, 1) := by decide +kernel
theorem dL_isAsked_0 : decode cL_isAsked 0 = .ok (.aload_n 0, 1) := by decide +kernel
theorem dL_isAsked_1 : decode cL_isAsked 1 = .ok (.invokevirtual 111, 3) := by decide +kernel
theorem dL_isAsked_4 : decode cL_isAsked 4 = .ok (.lstore_n 3, 1) := by decide +kernel
theorem dL_isAsked_5 : decode cL_isAsked 5 = .ok (.iconst 0, 1) := by decide +kernel
theorem dL_isAsked_6 : decode cL_isAsked 6 = .ok (.istore 5, 2) := by decide +kernel
theorem dL_isAsked_8 : decode cL_isAsked 8 = .ok (.iload 5, 2) := by decide +kernel
theorem dL_isAsked_10 : decode cL_isAsked 10 = .ok (.aload_n 0, 1) := by decide +kernel
theorem dL_isAsked_11 : decode cL_isAsked 11 = .ok (.iconst 3, 1) := by decide +kernel
theorem dL_isAsked_12 : decode cL_isAsked 12 = .ok (.invokevirtual 25, 3) := by decide +kernel
theorem dL_isAsked_15 : decode cL_isAsked 15 = .ok (.if_icmp .ge 135, 3) := by decide +kernel
theorem dL_isAsked_18 : decode cL_isAsked 18 = .ok (.aload_n 0, 1) := by decide +kernel
theorem dL_isAsked_19 : decode cL_isAsked 19 = .ok (.iload 5, 2) := by decide +kernel
theorem dL_isAsked_21 : decode cL_isAsked 21 = .ok (.invokevirtual 115, 3) := by decide +kernel
theorem dL_isAsked_24 : decode cL_isAsked 24 = .ok (.istore 6, 2) := by decide +kernel
theorem dL_isAsked_26 : decode cL_isAsked 26 = .ok (.aload_n 0, 1) := by decide +kernel
theorem dL_isAsked_27 : decode cL_isAsked 27 = .ok (.iload 5, 2) := by decide +kernel
theorem dL_isAsked_29 : decode cL_isAsked 29 = .ok (.aload_n 0, 1) := by decide +kernel
theorem dL_isAsked_30 : decode cL_isAsked 30 = .ok (.iload 5, 2) := by decide +kernel
theorem dL_isAsked_32 : decode cL_isAsked 32 = .ok (.bipush 10, 2) := by decide +kernel
theorem dL_isAsked_34 : decode cL_isAsked 34 = .ok (.invokevirtual 49, 3) := by decide +kernel
theorem dL_isAsked_37 : decode cL_isAsked 37 = .ok (.invokevirtual 118, 3) := by decide +kernel
theorem dL_isAsked_40 : decode cL_isAsked 40 = .ok (.ifCond .ne 60, 3) := by decide +kernel
theorem dL_isAsked_43 : decode cL_isAsked 43 = .ok (.aload_n 0, 1) := by decide +kernel
theorem dL_isAsked_44 : decode cL_isAsked 44 = .ok (.iload 5, 2) := by decide +kernel
theorem dL_isAsked_46 : decode cL_isAsked 46 = .ok (.aload_n 0, 1) := by decide +kernel
theorem dL_isAsked_47 : decode cL_isAsked 47 = .ok (.iload 5, 2) := by decide +kernel
theorem dL_isAsked_49 : decode cL_isAsked 49 = .ok (.iconst 0, 1) := by decide +kernel
theorem dL_isAsked_50 : decode cL_isAsked 50 = .ok (.invokevirtual 49, 3) := by decide +kernel
theorem dL_isAsked_53 : decode cL_isAsked 53 = .ok (.invokevirtual 118, 3) := by decide +kernel
theorem dL_isAsked_56 : decode cL_isAsked 56 = .ok (.iconst (-1), 1) := by decide +kernel
theorem dL_isAsked_57 : decode cL_isAsked 57 = .ok (.if_icmp .ne 43, 3) := by decide +kernel
theorem dL_isAsked_60 : decode cL_isAsked 60 = .ok (.iload 6, 2) := by decide +kernel
theorem dL_isAsked_62 : decode cL_isAsked 62 = .ok (.iconst 1, 1) := by decide +kernel
theorem dL_isAsked_63 : decode cL_isAsked 63 = .ok (.if_icmp .lt 37, 3) := by decide +kernel
theorem dL_isAsked_66 : decode cL_isAsked 66 = .ok (.iload 6, 2) := by decide +kernel
theorem dL_isAsked_68 : decode cL_isAsked 68 = .ok (.bipush 8, 2) := by decide +kernel
theorem dL_isAsked_70 : decode cL_isAsked 70 = .ok (.aload_n 0, 1) := by decide +kernel
theorem dL_isAsked_71 : decode cL_isAsked 71 = .ok (.iload 5, 2) := by decide +kernel
theorem dL_isAsked_73 : decode cL_isAsked 73 = .ok (.iconst 2, 1) := by decide +kernel
theorem dL_isAsked_74 : decode cL_isAsked 74 = .ok (.invokevirtual 49, 3) := by decide +kernel
theorem dL_isAsked_77 : decode cL_isAsked 77 = .ok (.imul, 1) := by decide +kernel
theorem dL_isAsked_78 : decode cL_isAsked 78 = .ok (.if_icmp .gt 22, 3) := by decide +kernel
theorem dL_isAsked_81 : decode cL_isAsked 81 = .ok (.iload 6, 2) := by decide +kernel
theorem dL_isAsked_83 : decode cL_isAsked 83 = .ok (.iconst 1, 1) := by decide +kernel
theorem dL_isAsked_84 : decode cL_isAsked 84 = .ok (.bipush 7, 2) := by decide +kernel
theorem dL_isAsked_86 : decode cL_isAsked 86 = .ok (.aload_n 0, 1) := by decide +kernel
theorem dL_isAsked_87 : decode cL_isAsked 87 = .ok (.iload 5, 2) := by decide +kernel
theorem dL_isAsked_89 : decode cL_isAsked 89 = .ok (.iconst 0, 1) := by decide +kernel
theorem dL_isAsked_90 : decode cL_isAsked 90 = .ok (.invokevirtual 121, 3) := by decide +kernel
theorem dL_isAsked_93 : decode cL_isAsked 93 = .ok (.invokestatic 125, 3) := by decide +kernel
theorem dL_isAsked_96 : decode cL_isAsked 96 = .ok (.iadd, 1) := by decide +kernel
theorem dL_isAsked_97 : decode cL_isAsked 97 = .ok (.if_icmp .ge 5, 3) := by decide +kernel
theorem dL_isAsked_100 : decode cL_isAsked 100 = .ok (.iconst 0, 1) := by decide +kernel
theorem dL_isAsked_101 : decode cL_isAsked 101 = .ok (.ireturn, 1) := by decide +kernel
theorem dL_isAsked_102 : decode cL_isAsked 102 = .ok (.aload_n 0, 1) := by decide +kernel
theorem dL_isAsked_103 : decode cL_isAsked 103 = .ok (.iload 5, 2) := by decide +kernel
theorem dL_isAsked_105 : decode cL_isAsked 105 = .ok (.iload_n 1, 1) := by decide +kernel
theorem dL_isAsked_106 : decode cL_isAsked 106 = .ok (.iconst 3, 1) := by decide +kernel
theorem dL_isAsked_107 : decode cL_isAsked 107 = .ok (.ishr, 1) := by decide +kernel
theorem dL_isAsked_108 : decode cL_isAsked 108 = .ok (.iload_n 2, 1) := by decide +kernel
theorem dL_isAsked_109 : decode cL_isAsked 109 = .ok (.invokestatic 18, 3) := by decide +kernel
theorem dL_isAsked_112 : decode cL_isAsked 112 = .ok (.invokevirtual 118, 3) := by decide +kernel
theorem dL_isAsked_115 : decode cL_isAsked 115 = .ok (.istore 7, 2) := by decide +kernel
theorem dL_isAsked_117 : decode cL_isAsked 117 = .ok (.iload 7, 2) := by decide +kernel
theorem dL_isAsked_119 : decode cL_isAsked 119 = .ok (.iload 6, 2) := by decide +kernel
theorem dL_isAsked_121 : decode cL_isAsked 121 = .ok (.if_icmp .ge 21, 3) := by decide +kernel
theorem dL_isAsked_124 : decode cL_isAsked 124 = .ok (.iload 7, 2) := by decide +kernel
theorem dL_isAsked_126 : decode cL_isAsked 126 = .ok (.iconst (-1), 1) := by decide +kernel
theorem dL_isAsked_127 : decode cL_isAsked 127 = .ok (.if_icmp .lt 15, 3) := by decide +kernel
theorem dL_isAsked_130 : decode cL_isAsked 130 = .ok (.aload_n 0, 1) := by decide +kernel
theorem dL_isAsked_131 : decode cL_isAsked 131 = .ok (.iload 5, 2) := by decide +kernel
theorem dL_isAsked_133 : decode cL_isAsked 133 = .ok (.iconst 1, 1) := by decide +kernel
theorem dL_isAsked_134 : decode cL_isAsked 134 = .ok (.invokevirtual 121, 3) := by decide +kernel
theorem dL_isAsked_137 : decode cL_isAsked 137 = .ok (.bipush 7, 2) := by decide +kernel
theorem dL_isAsked_139 : decode cL_isAsked 139 = .ok (.if_icmp .le 5, 3) := by decide +kernel
theorem dL_isAsked_142 : decode cL_isAsked 142 = .ok (.iconst 0, 1) := by decide +kernel
theorem dL_isAsked_143 : decode cL_isAsked 143 = .ok (.ireturn, 1) := by decide +kernel
theorem dL_isAsked_144 : decode cL_isAsked 144 = .ok (.iinc 5 1, 3) := by decide +kernel
theorem dL_isAsked_147 : decode cL_isAsked 147 = .ok (.goto (-139), 3) := by decide +kernel
theorem dL_isAsked_150 : decode cL_isAsked 150 = .ok (.iconst 0, 1) := by decide +kernel
theorem dL_isAsked_151 : decode cL_isAsked 151 = .ok (.istore 5, 2) := by decide +kernel
theorem dL_isAsked_153 : decode cL_isAsked 153 = .ok (.iconst 0, 1) := by decide +kernel
theorem dL_isAsked_154 : decode cL_isAsked 154 = .ok (.istore 6, 2) := by decide +kernel
theorem dL_isAsked_156 : decode cL_isAsked 156 = .ok (.iload 6, 2) := by decide +kernel
theorem dL_isAsked_158 : decode cL_isAsked 158 = .ok (.aload_n 0, 1) := by decide +kernel
theorem dL_isAsked_159 : decode cL_isAsked 159 = .ok (.bipush 13, 2) := by decide +kernel
theorem dL_isAsked_161 : decode cL_isAsked 161 = .ok (.invokevirtual 25, 3) := by decide +kernel
theorem dL_isAsked_164 : decode cL_isAsked 164 = .ok (.if_icmp .ge 44, 3) := by decide +kernel
theorem dL_isAsked_167 : decode cL_isAsked 167 = .ok (.aload_n 0, 1) := by decide +kernel
theorem dL_isAsked_168 : decode cL_isAsked 168 = .ok (.iload 6, 2) := by decide +kernel
theorem dL_isAsked_170 : decode cL_isAsked 170 = .ok (.invokevirtual 128, 3) := by decide +kernel
theorem dL_isAsked_173 : decode cL_isAsked 173 = .ok (.istore 7, 2) := by decide +kernel
theorem dL_isAsked_175 : decode cL_isAsked 175 = .ok (.iload 7, 2) := by decide +kernel
theorem dL_isAsked_177 : decode cL_isAsked 177 = .ok (.ifCond .lt 14, 3) := by decide +kernel
theorem dL_isAsked_180 : decode cL_isAsked 180 = .ok (.iload 5, 2) := by decide +kernel
theorem dL_isAsked_182 : decode cL_isAsked 182 = .ok (.iload 7, 2) := by decide +kernel
theorem dL_isAsked_184 : decode cL_isAsked 184 = .ok (.ishr, 1) := by decide +kernel
theorem dL_isAsked_185 : decode cL_isAsked 185 = .ok (.iconst 1, 1) := by decide +kernel
theorem dL_isAsked_186 : decode cL_isAsked 186 = .ok (.iand, 1) := by decide +kernel
theorem dL_isAsked_187 : decode cL_isAsked 187 = .ok (.iconst 1, 1) := by decide +kernel
theorem dL_isAsked_188 : decode cL_isAsked 188 = .ok (.if_icmp .ne 5, 3) := by decide +kernel
theorem dL_isAsked_191 : decode cL_isAsked 191 = .ok (.iconst 0, 1) := by decide +kernel
theorem dL_isAsked_192 : decode cL_isAsked 192 = .ok (.ireturn, 1) := by decide +kernel
theorem dL_isAsked_193 : decode cL_isAsked 193 = .ok (.iload 5, 2) := by decide +kernel
theorem dL_isAsked_195 : decode cL_isAsked 195 = .ok (.iconst 1, 1) := by decide +kernel
theorem dL_isAsked_196 : decode cL_isAsked 196 = .ok (.iload 7, 2) := by decide +kernel
theorem dL_isAsked_198 : decode cL_isAsked 198 = .ok (.ishl, 1) := by decide +kernel
theorem dL_isAsked_199 : decode cL_isAsked 199 = .ok (.ior, 1) := by decide +kernel
theorem dL_isAsked_200 : decode cL_isAsked 200 = .ok (.istore 5, 2) := by decide +kernel
theorem dL_isAsked_202 : decode cL_isAsked 202 = .ok (.iinc 6 1, 3) := by decide +kernel
theorem dL_isAsked_205 : decode cL_isAsked 205 = .ok (.goto (-49), 3) := by decide +kernel
theorem dL_isAsked_208 : decode cL_isAsked 208 = .ok (.iconst 0, 1) := by decide +kernel
theorem dL_isAsked_209 : decode cL_isAsked 209 = .ok (.istore 6, 2) := by decide +kernel
theorem dL_isAsked_211 : decode cL_isAsked 211 = .ok (.iload 6, 2) := by decide +kernel
theorem dL_isAsked_213 : decode cL_isAsked 213 = .ok (.aload_n 0, 1) := by decide +kernel
theorem dL_isAsked_214 : decode cL_isAsked 214 = .ok (.iconst 3, 1) := by decide +kernel
theorem dL_isAsked_215 : decode cL_isAsked 215 = .ok (.invokevirtual 25, 3) := by decide +kernel
theorem dL_isAsked_218 : decode cL_isAsked 218 = .ok (.if_icmp .ge 33, 3) := by decide +kernel
theorem dL_isAsked_221 : decode cL_isAsked 221 = .ok (.aload_n 0, 1) := by decide +kernel
theorem dL_isAsked_222 : decode cL_isAsked 222 = .ok (.iload 6, 2) := by decide +kernel
theorem dL_isAsked_224 : decode cL_isAsked 224 = .ok (.iconst 1, 1) := by decide +kernel
theorem dL_isAsked_225 : decode cL_isAsked 225 = .ok (.invokevirtual 49, 3) := by decide +kernel
theorem dL_isAsked_228 : decode cL_isAsked 228 = .ok (.bipush 8, 2) := by decide +kernel
theorem dL_isAsked_230 : decode cL_isAsked 230 = .ok (.if_icmp .gt 15, 3) := by decide +kernel
theorem dL_isAsked_233 : decode cL_isAsked 233 = .ok (.iload 5, 2) := by decide +kernel
theorem dL_isAsked_235 : decode cL_isAsked 235 = .ok (.iload 6, 2) := by decide +kernel
theorem dL_isAsked_237 : decode cL_isAsked 237 = .ok (.ishr, 1) := by decide +kernel
theorem dL_isAsked_238 : decode cL_isAsked 238 = .ok (.iconst 1, 1) := by decide +kernel
theorem dL_isAsked_239 : decode cL_isAsked 239 = .ok (.iand, 1) := by decide +kernel
theorem dL_isAsked_240 : decode cL_isAsked 240 = .ok (.ifCond .ne 5, 3) := by decide +kernel
theorem dL_isAsked_243 : decode cL_isAsked 243 = .ok (.iconst 0, 1) := by decide +kernel
theorem dL_isAsked_244 : decode cL_isAsked 244 = .ok (.ireturn, 1) := by decide +kernel
theorem dL_isAsked_245 : decode cL_isAsked 245 = .ok (.iinc 6 1, 3) := by decide +kernel
theorem dL_isAsked_248 : decode cL_isAsked 248 = .ok (.goto (-37), 3) := by decide +kernel
theorem dL_isAsked_251 : decode cL_isAsked 251 = .ok (.aload_n 0, 1) := by decide +kernel
theorem dL_isAsked_252 : decode cL_isAsked 252 = .ok (.aload_n 0, 1) := by decide +kernel
theorem dL_isAsked_253 : decode cL_isAsked 253 = .ok (.bipush 13, 2) := by decide +kernel
theorem dL_isAsked_255 : decode cL_isAsked 255 = .ok (.invokevirtual 25, 3) := by decide +kernel
theorem dL_isAsked_258 : decode cL_isAsked 258 = .ok (.invokevirtual 128, 3) := by decide +kernel
theorem dL_isAsked_261 : decode cL_isAsked 261 = .ok (.iconst (-1), 1) := by decide +kernel
theorem dL_isAsked_262 : decode cL_isAsked 262 = .ok (.if_icmp .ne 16, 3) := by decide +kernel
theorem dL_isAsked_265 : decode cL_isAsked 265 = .ok (.aload_n 0, 1) := by decide +kernel
theorem dL_isAsked_266 : decode cL_isAsked 266 = .ok (.invokevirtual 111, 3) := by decide +kernel
theorem dL_isAsked_269 : decode cL_isAsked 269 = .ok (.lload_n 3, 1) := by decide +kernel
theorem dL_isAsked_270 : decode cL_isAsked 270 = .ok (.lcmp, 1) := by decide +kernel
theorem dL_isAsked_271 : decode cL_isAsked 271 = .ok (.ifCond .ne 7, 3) := by decide +kernel
theorem dL_isAsked_274 : decode cL_isAsked 274 = .ok (.iconst 1, 1) := by decide +kernel
theorem dL_isAsked_275 : decode cL_isAsked 275 = .ok (.goto 4, 3) := by decide +kernel
theorem dL_isAsked_278 : decode cL_isAsked 278 = .ok (.iconst 0, 1) := by decide +kernel
theorem dL_isAsked_279 : decode cL_isAsked 279 = .ok (.ireturn, 1) := by decide +kernel
end
section
def wsU : List Cond := lw_tbl.filter goodWord
theorem mU {w : Cond} (i : Nat) (h : lw_tbl[i]? = some w) (g : goodWord w = true) : w ∈ wsU := List.mem_filter.mpr ⟨List.mem_of_getElem? h, g⟩
theorem uT {w : Cond} (h : w ∈ wsU) : w ∈ lw_tbl := (List.mem_filter.mp h).1
theorem uG : ∀ w ∈ wsU, goodWord w = true := fun w h => (List.mem_filter.mp h).2
theorem inU_of {ws : List Cond} (ps : List Nat) (h : ws = ps.filterMap (fun i => lw_tbl[i]?)) (g : ws.all goodWord = true) : ∀ w ∈ ws, w ∈ wsU := fun w hw => by
  have hw2 := hw
  rw [h] at hw2
  obtain ⟨i, -, hi⟩ := List.mem_filterMap.mp hw2
  exact List.mem_filter.mpr ⟨List.mem_of_getElem? hi, List.all_eq_true.mp g w hw⟩
theorem wF_Jx4a65c_9 : Cond.fieldLink RJx4a65c 9 "java/util/ArrayList" "elementData" "[Ljava/lang/Object;" ∈ wsU := mU 83 (by decide +kernel) rfl
theorem wF_Jx4a65c_39 : Cond.fieldLink RJx4a65c 39 "java/util/ArrayList" "DEFAULTCAPACITY_EMPTY_ELEMENTDATA" "[Ljava/lang/Object;" ∈ wsU := mU 81 (by decide +kernel) rfl
theorem wF_Jx4a65c_48 : Cond.fieldLink RJx4a65c 48 "java/util/ArrayList" "size" "I" ∈ wsU := mU 84 (by decide +kernel) rfl
theorem wF_Jx4a65c_63 : Cond.fieldLink RJx4a65c 63 "java/util/ArrayList" "modCount" "I" ∈ wsU := mU 86 (by decide +kernel) rfl
theorem wF_Jxc12de_7 : Cond.fieldLink RJxc12de 7 "java/util/AbstractList" "modCount" "I" ∈ wsU := mU 85 (by decide +kernel) rfl
theorem wF_X0_9 : Cond.fieldLink RX0 9 "Slewyard$Crane" "bearing" "I" ∈ wsU := mU 150 (by decide +kernel) rfl
theorem wF_X0_15 : Cond.fieldLink RX0 15 "Slewyard$Crane" "arm" "I" ∈ wsU := mU 154 (by decide +kernel) rfl
theorem wF_X0_18 : Cond.fieldLink RX0 18 "Slewyard$Crane" "radius" "I" ∈ wsU := mU 156 (by decide +kernel) rfl
theorem wF_X0_21 : Cond.fieldLink RX0 21 "Slewyard$Crane" "sway" "I" ∈ wsU := mU 163 (by decide +kernel) rfl
theorem wF_X0_24 : Cond.fieldLink RX0 24 "Slewyard$Crane" "work" "I" ∈ wsU := mU 165 (by decide +kernel) rfl
theorem wF_X0_27 : Cond.fieldLink RX0 27 "Slewyard$Crane" "load" "LSlewyard$Load;" ∈ wsU := mU 168 (by decide +kernel) rfl
theorem wF_X0_31 : Cond.fieldLink RX0 31 "Slewyard$Crane" "nearMisses" "I" ∈ wsU := mU 172 (by decide +kernel) rfl
theorem wF_X0_34 : Cond.fieldLink RX0 34 "Slewyard$Crane" "ground" "LSlewyard$Ground;" ∈ wsU := mU 128 (by decide +kernel) rfl
theorem wF_X0_38 : Cond.fieldLink RX0 38 "Slewyard$Crane" "number" "I" ∈ wsU := mU 129 (by decide +kernel) rfl
theorem wF_X0_41 : Cond.fieldLink RX0 41 "Slewyard$Crane" "tower" "I" ∈ wsU := mU 133 (by decide +kernel) rfl
theorem wF_X0_50 : Cond.fieldLink RX0 50 "Slewyard$Crane" "row" "I" ∈ wsU := mU 137 (by decide +kernel) rfl
theorem wF_X0_56 : Cond.fieldLink RX0 56 "Slewyard$Crane" "column" "I" ∈ wsU := mU 139 (by decide +kernel) rfl
theorem wF_X0_59 : Cond.fieldLink RX0 59 "Slewyard$Crane" "mast" "I" ∈ wsU := mU 141 (by decide +kernel) rfl
theorem wF_X0_62 : Cond.fieldLink RX0 62 "Slewyard$Crane" "reach" "I" ∈ wsU := mU 144 (by decide +kernel) rfl
theorem wF_X0_65 : Cond.fieldLink RX0 65 "Slewyard$Crane" "moment" "I" ∈ wsU := mU 147 (by decide +kernel) rfl
theorem wF_X0_68 : Cond.fieldLink RX0 68 "Slewyard$Crane" "hook" "I" ∈ wsU := mU 160 (by decide +kernel) rfl
theorem wF_X1_9 : Cond.fieldLink RX1 9 "Slewyard$Ground" "levels" "[I" ∈ wsU := mU 52 (by decide +kernel) rfl
theorem wF_X1_15 : Cond.fieldLink RX1 15 "Slewyard$Ground" "wide" "I" ∈ wsU := mU 53 (by decide +kernel) rfl
theorem wF_X1_19 : Cond.fieldLink RX1 19 "Slewyard$Ground" "high" "I" ∈ wsU := mU 55 (by decide +kernel) rfl
theorem wF_X2_7 : Cond.fieldLink RX2 7 "Slewyard$Load" "carrier" "LSlewyard$Crane;" ∈ wsU := mU 726 (by decide +kernel) rfl
theorem wF_X2_13 : Cond.fieldLink RX2 13 "Slewyard$Load" "number" "I" ∈ wsU := mU 720 (by decide +kernel) rfl
theorem wF_X2_17 : Cond.fieldLink RX2 17 "Slewyard$Load" "cell" "I" ∈ wsU := mU 725 (by decide +kernel) rfl
theorem wF_X2_20 : Cond.fieldLink RX2 20 "Slewyard$Load" "weight" "I" ∈ wsU := mU 722 (by decide +kernel) rfl
theorem wF_X3_9 : Cond.fieldLink RX3 9 "Slewyard$Plans" "steps" "[I" ∈ wsU := mU 258 (by decide +kernel) rfl
theorem wF_X3_15 : Cond.fieldLink RX3 15 "Slewyard$Plans" "poses" "[I" ∈ wsU := mU 259 (by decide +kernel) rfl
theorem wF_X3_18 : Cond.fieldLink RX3 18 "Slewyard$Plans" "takers" "[I" ∈ wsU := mU 260 (by decide +kernel) rfl
theorem wF_X3_21 : Cond.fieldLink RX3 21 "Slewyard$Plans" "leaving" "[I" ∈ wsU := mU 261 (by decide +kernel) rfl
theorem wF_X3_24 : Cond.fieldLink RX3 24 "Slewyard$Plans" "site" "LSlewyard$Site;" ∈ wsU := mU 256 (by decide +kernel) rfl
theorem wF_X3_34 : Cond.fieldLink RX3 34 "Slewyard$Plans" "trial" "LSlewyard$Crane;" ∈ wsU := mU 257 (by decide +kernel) rfl
theorem wF_X4_7 : Cond.fieldLink RX4 7 "Slewyard$Report" "time" "I" ∈ wsU := mU 101 (by decide +kernel) rfl
theorem wF_X4_13 : Cond.fieldLink RX4 13 "Slewyard$Report" "force" "I" ∈ wsU := mU 103 (by decide +kernel) rfl
theorem wF_X4_16 : Cond.fieldLink RX4 16 "Slewyard$Report" "bearing" "I" ∈ wsU := mU 105 (by decide +kernel) rfl
theorem wF_X5_12 : Cond.fieldLink RX5 12 "Slewyard$Site" "reports" "Ljava/util/ArrayList;" ∈ wsU := mU 211 (by decide +kernel) rfl
theorem wF_X5_18 : Cond.fieldLink RX5 18 "Slewyard$Site" "zones" "Ljava/util/ArrayList;" ∈ wsU := mU 213 (by decide +kernel) rfl
theorem wF_X5_21 : Cond.fieldLink RX5 21 "Slewyard$Site" "cranes" "Ljava/util/ArrayList;" ∈ wsU := mU 215 (by decide +kernel) rfl
theorem wF_X5_24 : Cond.fieldLink RX5 24 "Slewyard$Site" "loads" "Ljava/util/ArrayList;" ∈ wsU := mU 218 (by decide +kernel) rfl
theorem wF_X5_32 : Cond.fieldLink RX5 32 "Slewyard$Site" "calm" "LSlewyard$Report;" ∈ wsU := mU 220 (by decide +kernel) rfl
theorem wF_X5_36 : Cond.fieldLink RX5 36 "Slewyard$Site" "time" "I" ∈ wsU := mU 223 (by decide +kernel) rfl
theorem wF_X5_40 : Cond.fieldLink RX5 40 "Slewyard$Site" "taken" "I" ∈ wsU := mU 225 (by decide +kernel) rfl
theorem wF_X5_43 : Cond.fieldLink RX5 43 "Slewyard$Site" "notTaken" "I" ∈ wsU := mU 227 (by decide +kernel) rfl
theorem wF_X5_46 : Cond.fieldLink RX5 46 "Slewyard$Site" "ground" "LSlewyard$Ground;" ∈ wsU := mU 208 (by decide +kernel) rfl
theorem wF_X5_55 : Cond.fieldLink RX5 55 "Slewyard$Site" "trial" "LSlewyard$Crane;" ∈ wsU := mU 222 (by decide +kernel) rfl
theorem wF_X6_7 : Cond.fieldLink RX6 7 "Slewyard$Zone" "top" "I" ∈ wsU := mU 778 (by decide +kernel) rfl
theorem wF_X6_13 : Cond.fieldLink RX6 13 "Slewyard$Zone" "left" "I" ∈ wsU := mU 779 (by decide +kernel) rfl
theorem wF_X6_16 : Cond.fieldLink RX6 16 "Slewyard$Zone" "bottom" "I" ∈ wsU := mU 780 (by decide +kernel) rfl
theorem wF_X6_19 : Cond.fieldLink RX6 19 "Slewyard$Zone" "right" "I" ∈ wsU := mU 781 (by decide +kernel) rfl
theorem wF_X6_22 : Cond.fieldLink RX6 22 "Slewyard$Zone" "from" "I" ∈ wsU := mU 782 (by decide +kernel) rfl
theorem wF_X6_25 : Cond.fieldLink RX6 25 "Slewyard$Zone" "to" "I" ∈ wsU := mU 783 (by decide +kernel) rfl
theorem wF_X7_17 : Cond.fieldLink RX7 17 "Slewyard" "site" "LSlewyard$Site;" ∈ wsU := mU 275 (by decide +kernel) rfl
theorem wF_X7_26 : Cond.fieldLink RX7 26 "Slewyard" "plans" "LSlewyard$Plans;" ∈ wsU := mU 276 (by decide +kernel) rfl
theorem wF_X7_30 : Cond.fieldLink RX7 30 "Slewyard" "refused" "I" ∈ wsU := mU 277 (by decide +kernel) rfl
theorem wM_J15_105 : Cond.methodLink RJ15 105 yJ3_checkIndex_8e157 ∈ wsU := mU 407 (by decide +kernel) rfl
theorem wM_J7_150 : Cond.methodLink RJ7 150 arraycopyName ∈ wsU := mU 703 (by decide +kernel) rfl
theorem wM_J7_300 : Cond.methodLink RJ7 300 yJ7_copyOf_6403c ∈ wsU := mU 696 (by decide +kernel) rfl
theorem wM_J7_304 : Cond.methodLink RJ7 304 Lib.Math.min.name ∈ wsU := mU 702 (by decide +kernel) rfl
theorem wM_J8_194 : Cond.methodLink RJ8 194 Lib.Math.max.name ∈ wsU := mU 672 (by decide +kernel) rfl
theorem wM_J8_201 : Cond.methodLink RJ8 201 yJ8_hugeLength_7cf53 ∈ wsU := mU 674 (by decide +kernel) rfl
theorem wM_Jx4a65c_1 : Cond.methodLink RJx4a65c 1 yJxc12de_init_da8c8 ∈ wsU := mU 74 (by decide +kernel) rfl
theorem wM_Jx4a65c_66 : Cond.methodLink RJx4a65c 66 yJ7_copyOf_1904c ∈ wsU := mU 677 (by decide +kernel) rfl
theorem wM_Jx4a65c_69 : Cond.methodLink RJx4a65c 69 yJx4a65c_grow_92f84 ∈ wsU := mU 665 (by decide +kernel) rfl
theorem wM_Jx4a65c_73 : Cond.methodLink RJx4a65c 73 yJ8_newLength_cabcc ∈ wsU := mU 669 (by decide +kernel) rfl
theorem wM_Jx4a65c_79 : Cond.methodLink RJx4a65c 79 Lib.Math.max.name ∈ wsU := mU 706 (by decide +kernel) rfl
theorem wM_Jx4a65c_118 : Cond.methodLink RJx4a65c 118 yJ15_checkIndex_7cf53 ∈ wsU := mU 404 (by decide +kernel) rfl
theorem wM_Jx4a65c_123 : Cond.methodLink RJx4a65c 123 yJx4a65c_elementData_915e3 ∈ wsU := mU 410 (by decide +kernel) rfl
theorem wM_Jx4a65c_129 : Cond.methodLink RJx4a65c 129 yJx4a65c_grow_d5877 ∈ wsU := mU 661 (by decide +kernel) rfl
theorem wM_Jx4a65c_131 : Cond.methodLink RJx4a65c 131 yJx4a65c_add_72be8 ∈ wsU := mU 657 (by decide +kernel) rfl
theorem wM_Jxa1e45_1 : Cond.methodLink RJxa1e45 1 objectInit ∈ wsU := mU 80 (by decide +kernel) rfl
theorem wM_Jxc12de_1 : Cond.methodLink RJxc12de 1 yJxa1e45_init_da8c8 ∈ wsU := mU 77 (by decide +kernel) rfl
theorem wM_L_11 : Cond.methodLink RL 11 yX7_init ∈ wsU := mU 38 (by decide +kernel) rfl
theorem wM_L_12 : Cond.methodLink RL 12 yL_cell ∈ wsU := mU 515 (by decide +kernel) rfl
theorem wM_L_18 : Cond.methodLink RL 18 yL_below ∈ wsU := mU 511 (by decide +kernel) rfl
theorem wM_L_22 : Cond.methodLink RL 22 yX7_yard ∈ wsU := mU 285 (by decide +kernel) rfl
theorem wM_L_25 : Cond.methodLink RL 25 yX7_many ∈ wsU := mU 379 (by decide +kernel) rfl
theorem wM_L_29 : Cond.methodLink RL 29 yL_build ∈ wsU := mU 562 (by decide +kernel) rfl
theorem wM_L_33 : Cond.methodLink RL 33 yL_met ∈ wsU := mU 519 (by decide +kernel) rfl
theorem wM_L_37 : Cond.methodLink RL 37 yL_act ∈ wsU := mU 738 (by decide +kernel) rfl
theorem wM_L_41 : Cond.methodLink RL 41 yL_isWhole ∈ wsU := mU 896 (by decide +kernel) rfl
theorem wM_L_45 : Cond.methodLink RL 45 yL_isAsked ∈ wsU := mU 946 (by decide +kernel) rfl
theorem wM_L_49 : Cond.methodLink RL 49 yX7_ofCrane ∈ wsU := mU 522 (by decide +kernel) rfl
theorem wM_L_52 : Cond.methodLink RL 52 yX7_crane ∈ wsU := mU 566 (by decide +kernel) rfl
theorem wM_L_56 : Cond.methodLink RL 56 yX7_load ∈ wsU := mU 708 (by decide +kernel) rfl
theorem wM_L_61 : Cond.methodLink RL 61 Lib.Math.max.name ∈ wsU := mU 743 (by decide +kernel) rfl
theorem wM_L_66 : Cond.methodLink RL 66 yX7_level ∈ wsU := mU 744 (by decide +kernel) rfl
theorem wM_L_69 : Cond.methodLink RL 69 yX7_wind ∈ wsU := mU 758 (by decide +kernel) rfl
theorem wM_L_73 : Cond.methodLink RL 73 yX7_zone ∈ wsU := mU 765 (by decide +kernel) rfl
theorem wM_L_76 : Cond.methodLink RL 76 yX7_hang ∈ wsU := mU 797 (by decide +kernel) rfl
theorem wM_L_79 : Cond.methodLink RL 79 yX7_set ∈ wsU := mU 823 (by decide +kernel) rfl
theorem wM_L_82 : Cond.methodLink RL 82 yX7_hand ∈ wsU := mU 831 (by decide +kernel) rfl
theorem wM_L_85 : Cond.methodLink RL 85 yX7_rest ∈ wsU := mU 841 (by decide +kernel) rfl
theorem wM_L_88 : Cond.methodLink RL 88 yX7_would ∈ wsU := mU 865 (by decide +kernel) rfl
theorem wM_L_91 : Cond.methodLink RL 91 yX7_step ∈ wsU := mU 878 (by decide +kernel) rfl
theorem wM_L_98 : Cond.methodLink RL 98 yX7_clash ∈ wsU := mU 899 (by decide +kernel) rfl
theorem wM_L_101 : Cond.methodLink RL 101 yX7_ofLoad ∈ wsU := mU 905 (by decide +kernel) rfl
theorem wM_L_104 : Cond.methodLink RL 104 yX7_ofCell ∈ wsU := mU 919 (by decide +kernel) rfl
theorem wM_L_107 : Cond.methodLink RL 107 yX7_isSound ∈ wsU := mU 930 (by decide +kernel) rfl
theorem wM_L_111 : Cond.methodLink RL 111 yX7_digest ∈ wsU := mU 949 (by decide +kernel) rfl
theorem wM_L_115 : Cond.methodLink RL 115 yX7_field ∈ wsU := mU 991 (by decide +kernel) rfl
theorem wM_L_118 : Cond.methodLink RL 118 yX7_way ∈ wsU := mU 992 (by decide +kernel) rfl
theorem wM_L_121 : Cond.methodLink RL 121 yX7_swing ∈ wsU := mU 1000 (by decide +kernel) rfl
theorem wM_L_125 : Cond.methodLink RL 125 Lib.Math.min.name ∈ wsU := mU 1001 (by decide +kernel) rfl
theorem wM_L_128 : Cond.methodLink RL 128 yX7_order ∈ wsU := mU 1002 (by decide +kernel) rfl
theorem wM_X0_3 : Cond.methodLink RX0 3 objectInit ∈ wsU := mU 119 (by decide +kernel) rfl
theorem wM_X0_44 : Cond.methodLink RX0 44 yX1_rowOf ∈ wsU := mU 120 (by decide +kernel) rfl
theorem wM_X0_53 : Cond.methodLink RX0 53 yX1_columnOf ∈ wsU := mU 124 (by decide +kernel) rfl
theorem wM_X0_71 : Cond.methodLink RX0 71 yX0_rowAt ∈ wsU := mU 434 (by decide +kernel) rfl
theorem wM_X0_74 : Cond.methodLink RX0 74 yX0_columnAt ∈ wsU := mU 440 (by decide +kernel) rfl
theorem wM_X0_77 : Cond.methodLink RX0 77 yX1_hasPlace ∈ wsU := mU 625 (by decide +kernel) rfl
theorem wM_X0_81 : Cond.methodLink RX0 81 yX0_face ∈ wsU := mU 621 (by decide +kernel) rfl
theorem wM_X0_85 : Cond.methodLink RX0 85 Lib.Math.min.name ∈ wsU := mU 450 (by decide +kernel) rfl
theorem wM_X0_91 : Cond.methodLink RX0 91 yX0_settle ∈ wsU := mU 891 (by decide +kernel) rfl
theorem wM_X0_94 : Cond.methodLink RX0 94 Lib.Math.max.name ∈ wsU := mU 453 (by decide +kernel) rfl
theorem wM_X0_104 : Cond.methodLink RX0 104 yX1_cellAt ∈ wsU := mU 552 (by decide +kernel) rfl
theorem wM_X0_107 : Cond.methodLink RX0 107 yX0_plumb ∈ wsU := mU 817 (by decide +kernel) rfl
theorem wM_X0_111 : Cond.methodLink RX0 111 yX1_levelOf ∈ wsU := mU 818 (by decide +kernel) rfl
theorem wM_X0_114 : Cond.methodLink RX0 114 yX0_isCalm ∈ wsU := mU 809 (by decide +kernel) rfl
theorem wM_X0_118 : Cond.methodLink RX0 118 yX0_above ∈ wsU := mU 813 (by decide +kernel) rfl
theorem wM_X0_121 : Cond.methodLink RX0 121 Lib.Math.abs.name ∈ wsU := mU 456 (by decide +kernel) rfl
theorem wM_X0_124 : Cond.methodLink RX0 124 yX0_apartFromJib ∈ wsU := mU 446 (by decide +kernel) rfl
theorem wM_X0_127 : Cond.methodLink RX0 127 yX0_apartFromJibOf ∈ wsU := mU 430 (by decide +kernel) rfl
theorem wM_X0_131 : Cond.methodLink RX0 131 yX0_sweepsOn ∈ wsU := mU 459 (by decide +kernel) rfl
theorem wM_X1_3 : Cond.methodLink RX1 3 objectInit ∈ wsU := mU 51 (by decide +kernel) rfl
theorem wM_X1_22 : Cond.methodLink RX1 22 yJ7_fill_53178 ∈ wsU := mU 368 (by decide +kernel) rfl
theorem wM_X1_28 : Cond.methodLink RX1 28 yX1_cells ∈ wsU := mU 578 (by decide +kernel) rfl
theorem wM_X1_32 : Cond.methodLink RX1 32 yX1_hasPlace ∈ wsU := mU 556 (by decide +kernel) rfl
theorem wM_X2_1 : Cond.methodLink RX2 1 objectInit ∈ wsU := mU 719 (by decide +kernel) rfl
theorem wM_X2_23 : Cond.methodLink RX2 23 yX0_plumb ∈ wsU := mU 914 (by decide +kernel) rfl
theorem wM_X3_3 : Cond.methodLink RX3 3 objectInit ∈ wsU := mU 255 (by decide +kernel) rfl
theorem wM_X3_35 : Cond.methodLink RX3 35 yJ7_fill_53178 ∈ wsU := mU 967 (by decide +kernel) rfl
theorem wM_X3_41 : Cond.methodLink RX3 41 yX0_plumb ∈ wsU := mU 968 (by decide +kernel) rfl
theorem wM_X3_47 : Cond.methodLink RX3 47 yX5_clashesOf ∈ wsU := mU 969 (by decide +kernel) rfl
theorem wM_X3_51 : Cond.methodLink RX3 51 yX0_mimic ∈ wsU := mU 970 (by decide +kernel) rfl
theorem wM_X3_55 : Cond.methodLink RX3 55 yX3_poseOf ∈ wsU := mU 971 (by decide +kernel) rfl
theorem wM_X3_58 : Cond.methodLink RX3 58 yX3_assume ∈ wsU := mU 974 (by decide +kernel) rfl
theorem wM_X3_62 : Cond.methodLink RX3 62 yX0_move ∈ wsU := mU 979 (by decide +kernel) rfl
theorem wM_X3_65 : Cond.methodLink RX3 65 yX5_hindrance ∈ wsU := mU 980 (by decide +kernel) rfl
theorem wM_X3_76 : Cond.methodLink RX3 76 yX0_face ∈ wsU := mU 978 (by decide +kernel) rfl
theorem wM_X3_83 : Cond.methodLink RX3 83 yJx4a65c_size_8abf5 ∈ wsU := mU 482 (by decide +kernel) rfl
theorem wM_X3_88 : Cond.methodLink RX3 88 yJx4a65c_get_915e3 ∈ wsU := mU 484 (by decide +kernel) rfl
theorem wM_X3_92 : Cond.methodLink RX3 92 yX3_canLift ∈ wsU := mU 494 (by decide +kernel) rfl
theorem wM_X3_100 : Cond.methodLink RX3 100 yX1_rowOf ∈ wsU := mU 498 (by decide +kernel) rfl
theorem wM_X3_109 : Cond.methodLink RX3 109 Lib.Math.abs.name ∈ wsU := mU 499 (by decide +kernel) rfl
theorem wM_X3_114 : Cond.methodLink RX3 114 yX1_columnOf ∈ wsU := mU 500 (by decide +kernel) rfl
theorem wM_X3_120 : Cond.methodLink RX3 120 Lib.Math.max.name ∈ wsU := mU 501 (by decide +kernel) rfl
theorem wM_X3_127 : Cond.methodLink RX3 127 yX5_capacityOf ∈ wsU := mU 502 (by decide +kernel) rfl
theorem wM_X3_131 : Cond.methodLink RX3 131 Lib.Math.min.name ∈ wsU := mU 483 (by decide +kernel) rfl
theorem wM_X3_134 : Cond.methodLink RX3 134 yX3_takersOf ∈ wsU := mU 486 (by decide +kernel) rfl
theorem wM_X3_137 : Cond.methodLink RX3 137 yX3_nextToGo ∈ wsU := mU 507 (by decide +kernel) rfl
theorem wM_X3_149 : Cond.methodLink RX3 149 yX0_weight ∈ wsU := mU 490 (by decide +kernel) rfl
theorem wM_X4_1 : Cond.methodLink RX4 1 objectInit ∈ wsU := mU 100 (by decide +kernel) rfl
theorem wM_X5_3 : Cond.methodLink RX5 3 objectInit ∈ wsU := mU 68 (by decide +kernel) rfl
theorem wM_X5_11 : Cond.methodLink RX5 11 yJx4a65c_init_da8c8 ∈ wsU := mU 71 (by decide +kernel) rfl
theorem wM_X5_29 : Cond.methodLink RX5 29 yX4_init ∈ wsU := mU 97 (by decide +kernel) rfl
theorem wM_X5_52 : Cond.methodLink RX5 52 yX0_init ∈ wsU := mU 116 (by decide +kernel) rfl
theorem wM_X5_59 : Cond.methodLink RX5 59 yX1_lay ∈ wsU := mU 364 (by decide +kernel) rfl
theorem wM_X5_65 : Cond.methodLink RX5 65 yJx4a65c_clear_da8c8 ∈ wsU := mU 371 (by decide +kernel) rfl
theorem wM_X5_68 : Cond.methodLink RX5 68 yJx4a65c_size_8abf5 ∈ wsU := mU 399 (by decide +kernel) rfl
theorem wM_X5_72 : Cond.methodLink RX5 72 yJx4a65c_get_915e3 ∈ wsU := mU 400 (by decide +kernel) rfl
theorem wM_X5_77 : Cond.methodLink RX5 77 yX5_windNow ∈ wsU := mU 395 (by decide +kernel) rfl
theorem wM_X5_87 : Cond.methodLink RX5 87 yX1_rowOf ∈ wsU := mU 640 (by decide +kernel) rfl
theorem wM_X5_91 : Cond.methodLink RX5 91 yX1_columnOf ∈ wsU := mU 641 (by decide +kernel) rfl
theorem wM_X5_96 : Cond.methodLink RX5 96 yX6_covers ∈ wsU := mU 643 (by decide +kernel) rfl
theorem wM_X5_100 : Cond.methodLink RX5 100 yX5_hour ∈ wsU := mU 647 (by decide +kernel) rfl
theorem wM_X5_103 : Cond.methodLink RX5 103 yX6_isShutAt ∈ wsU := mU 648 (by decide +kernel) rfl
theorem wM_X5_112 : Cond.methodLink RX5 112 yX2_liesOn ∈ wsU := mU 592 (by decide +kernel) rfl
theorem wM_X5_118 : Cond.methodLink RX5 118 yX0_apartFromJib ∈ wsU := mU 928 (by decide +kernel) rfl
theorem wM_X5_122 : Cond.methodLink RX5 122 yX0_plumb ∈ wsU := mU 635 (by decide +kernel) rfl
theorem wM_X5_125 : Cond.methodLink RX5 125 yX5_towerOn ∈ wsU := mU 584 (by decide +kernel) rfl
theorem wM_X5_128 : Cond.methodLink RX5 128 yX5_loadsOn ∈ wsU := mU 588 (by decide +kernel) rfl
theorem wM_X5_138 : Cond.methodLink RX5 138 yX1_levelOf ∈ wsU := mU 596 (by decide +kernel) rfl
theorem wM_X5_141 : Cond.methodLink RX5 141 Lib.Math.max.name ∈ wsU := mU 506 (by decide +kernel) rfl
theorem wM_X5_152 : Cond.methodLink RX5 152 yX0_clashRule ∈ wsU := mU 426 (by decide +kernel) rfl
theorem wM_X5_156 : Cond.methodLink RX5 156 yX5_clashesOf ∈ wsU := mU 422 (by decide +kernel) rfl
theorem wM_X5_160 : Cond.methodLink RX5 160 yJ6_bitCount_0f7a4 ∈ wsU := mU 463 (by decide +kernel) rfl
theorem wM_X5_168 : Cond.methodLink RX5 168 yX0_isPossible ∈ wsU := mU 630 (by decide +kernel) rfl
theorem wM_X5_178 : Cond.methodLink RX5 178 yX5_capacityOf ∈ wsU := mU 634 (by decide +kernel) rfl
theorem wM_X5_181 : Cond.methodLink RX5 181 yX5_isShut ∈ wsU := mU 636 (by decide +kernel) rfl
theorem wM_X5_184 : Cond.methodLink RX5 184 yX0_mimic ∈ wsU := mU 859 (by decide +kernel) rfl
theorem wM_X5_188 : Cond.methodLink RX5 188 yX0_move ∈ wsU := mU 873 (by decide +kernel) rfl
theorem wM_X5_192 : Cond.methodLink RX5 192 yX5_hindrance ∈ wsU := mU 864 (by decide +kernel) rfl
theorem wM_X5_196 : Cond.methodLink RX5 196 yX5_force ∈ wsU := mU 877 (by decide +kernel) rfl
theorem wM_X5_201 : Cond.methodLink RX5 201 yX0_tire ∈ wsU := mU 887 (by decide +kernel) rfl
theorem wM_X5_204 : Cond.methodLink RX5 204 yX5_missesNow ∈ wsU := mU 892 (by decide +kernel) rfl
theorem wM_X5_207 : Cond.methodLink RX5 207 yX0_settle ∈ wsU := mU 850 (by decide +kernel) rfl
theorem wM_X5_210 : Cond.methodLink RX5 210 yX5_windBearing ∈ wsU := mU 858 (by decide +kernel) rfl
theorem wM_X5_213 : Cond.methodLink RX5 213 yX0_drawIn ∈ wsU := mU 863 (by decide +kernel) rfl
theorem wM_X5_223 : Cond.methodLink RX5 223 yX0_isWithinBounds ∈ wsU := mU 938 (by decide +kernel) rfl
theorem wM_X6_1 : Cond.methodLink RX6 1 objectInit ∈ wsU := mU 777 (by decide +kernel) rfl
theorem wM_X7_3 : Cond.methodLink RX7 3 objectInit ∈ wsU := mU 41 (by decide +kernel) rfl
theorem wM_X7_14 : Cond.methodLink RX7 14 yX5_init ∈ wsU := mU 65 (by decide +kernel) rfl
theorem wM_X7_23 : Cond.methodLink RX7 23 yX3_init ∈ wsU := mU 252 (by decide +kernel) rfl
theorem wM_X7_34 : Cond.methodLink RX7 34 yX7_needWithin ∈ wsU := mU 289 (by decide +kernel) rfl
theorem wM_X7_38 : Cond.methodLink RX7 38 yX5_lay ∈ wsU := mU 360 (by decide +kernel) rfl
theorem wM_X7_46 : Cond.methodLink RX7 46 yX1_cells ∈ wsU := mU 375 (by decide +kernel) rfl
theorem wM_X7_50 : Cond.methodLink RX7 50 yX7_needCell ∈ wsU := mU 570 (by decide +kernel) rfl
theorem wM_X7_54 : Cond.methodLink RX7 54 yX5_canBuild ∈ wsU := mU 748 (by decide +kernel) rfl
theorem wM_X7_65 : Cond.methodLink RX7 65 yX1_levelOf ∈ wsU := mU 753 (by decide +kernel) rfl
theorem wM_X7_69 : Cond.methodLink RX7 69 yX1_build ∈ wsU := mU 754 (by decide +kernel) rfl
theorem wM_X7_76 : Cond.methodLink RX7 76 yJx4a65c_size_8abf5 ∈ wsU := mU 387 (by decide +kernel) rfl
theorem wM_X7_85 : Cond.methodLink RX7 85 yX4_init ∈ wsU := mU 764 (by decide +kernel) rfl
theorem wM_X7_87 : Cond.methodLink RX7 87 yJx4a65c_add_9ea2d ∈ wsU := mU 653 (by decide +kernel) rfl
theorem wM_X7_91 : Cond.methodLink RX7 91 yX1_rowOf ∈ wsU := mU 769 (by decide +kernel) rfl
theorem wM_X7_94 : Cond.methodLink RX7 94 yX1_columnOf ∈ wsU := mU 770 (by decide +kernel) rfl
theorem wM_X7_110 : Cond.methodLink RX7 110 yX6_init ∈ wsU := mU 774 (by decide +kernel) rfl
theorem wM_X7_116 : Cond.methodLink RX7 116 yX5_towerOn ∈ wsU := mU 712 (by decide +kernel) rfl
theorem wM_X7_123 : Cond.methodLink RX7 123 yX2_init ∈ wsU := mU 716 (by decide +kernel) rfl
theorem wM_X7_127 : Cond.methodLink RX7 127 yX5_canFound ∈ wsU := mU 580 (by decide +kernel) rfl
theorem wM_X7_135 : Cond.methodLink RX7 135 yX0_init ∈ wsU := mU 616 (by decide +kernel) rfl
theorem wM_X7_138 : Cond.methodLink RX7 138 yX0_drawIn ∈ wsU := mU 617 (by decide +kernel) rfl
theorem wM_X7_141 : Cond.methodLink RX7 141 yX5_hindrance ∈ wsU := mU 626 (by decide +kernel) rfl
theorem wM_X7_147 : Cond.methodLink RX7 147 yX7_needCrane ∈ wsU := mU 526 (by decide +kernel) rfl
theorem wM_X7_156 : Cond.methodLink RX7 156 yX5_reasonAgainst ∈ wsU := mU 869 (by decide +kernel) rfl
theorem wM_X7_160 : Cond.methodLink RX7 160 yX5_take ∈ wsU := mU 883 (by decide +kernel) rfl
theorem wM_X7_167 : Cond.methodLink RX7 167 yX0_plumb ∈ wsU := mU 548 (by decide +kernel) rfl
theorem wM_X7_170 : Cond.methodLink RX7 170 yX5_firstLoadOn ∈ wsU := mU 801 (by decide +kernel) rfl
theorem wM_X7_178 : Cond.methodLink RX7 178 yX0_isJustAbove ∈ wsU := mU 805 (by decide +kernel) rfl
theorem wM_X7_188 : Cond.methodLink RX7 188 yX5_capacityOf ∈ wsU := mU 560 (by decide +kernel) rfl
theorem wM_X7_191 : Cond.methodLink RX7 191 yX2_hangOn ∈ wsU := mU 819 (by decide +kernel) rfl
theorem wM_X7_198 : Cond.methodLink RX7 198 yX2_lieOn ∈ wsU := mU 827 (by decide +kernel) rfl
theorem wM_X7_206 : Cond.methodLink RX7 206 yX0_canMeet ∈ wsU := mU 836 (by decide +kernel) rfl
theorem wM_X7_210 : Cond.methodLink RX7 210 yX0_above ∈ wsU := mU 840 (by decide +kernel) rfl
theorem wM_X7_215 : Cond.methodLink RX7 215 yX5_idle ∈ wsU := mU 846 (by decide +kernel) rfl
theorem wM_X7_218 : Cond.methodLink RX7 218 yX5_force ∈ wsU := mU 391 (by decide +kernel) rfl
theorem wM_X7_221 : Cond.methodLink RX7 221 yX5_turnToWind ∈ wsU := mU 854 (by decide +kernel) rfl
theorem wM_X7_251 : Cond.methodLink RX7 251 yX5_clashesOf ∈ wsU := mU 561 (by decide +kernel) rfl
theorem wM_X7_263 : Cond.methodLink RX7 263 yJx4a65c_get_915e3 ∈ wsU := mU 546 (by decide +kernel) rfl
theorem wM_X7_267 : Cond.methodLink RX7 267 yX2_place ∈ wsU := mU 910 (by decide +kernel) rfl
theorem wM_X7_275 : Cond.methodLink RX7 275 yX3_liftersFrom ∈ wsU := mU 915 (by decide +kernel) rfl
theorem wM_X7_279 : Cond.methodLink RX7 279 yX5_loadsOn ∈ wsU := mU 923 (by decide +kernel) rfl
theorem wM_X7_282 : Cond.methodLink RX7 282 yX5_jibsOver ∈ wsU := mU 924 (by decide +kernel) rfl
theorem wM_X7_285 : Cond.methodLink RX7 285 yX5_isShut ∈ wsU := mU 929 (by decide +kernel) rfl
theorem wM_X7_290 : Cond.methodLink RX7 290 yX0_clashRule ∈ wsU := mU 904 (by decide +kernel) rfl
theorem wM_X7_293 : Cond.methodLink RX7 293 yX3_explore ∈ wsU := mU 963 (by decide +kernel) rfl
theorem wM_X7_296 : Cond.methodLink RX7 296 yX3_stepsTo ∈ wsU := mU 996 (by decide +kernel) rfl
theorem wM_X7_299 : Cond.methodLink RX7 299 yX3_swings ∈ wsU := mU 985 (by decide +kernel) rfl
theorem wM_X7_304 : Cond.methodLink RX7 304 yX3_takeDown ∈ wsU := mU 478 (by decide +kernel) rfl
theorem wM_X7_307 : Cond.methodLink RX7 307 yX3_leaverAt ∈ wsU := mU 1007 (by decide +kernel) rfl
theorem wM_X7_310 : Cond.methodLink RX7 310 yX5_hour ∈ wsU := mU 383 (by decide +kernel) rfl
theorem wM_X7_313 : Cond.methodLink RX7 313 yX5_windBearing ∈ wsU := mU 414 (by decide +kernel) rfl
theorem wM_X7_316 : Cond.methodLink RX7 316 yX5_clashingPairs ∈ wsU := mU 418 (by decide +kernel) rfl
theorem wM_X7_319 : Cond.methodLink RX7 319 yX5_nearMisses ∈ wsU := mU 469 (by decide +kernel) rfl
theorem wM_X7_324 : Cond.methodLink RX7 324 yX5_hangingLoads ∈ wsU := mU 473 (by decide +kernel) rfl
theorem wM_X7_347 : Cond.methodLink RX7 347 yX5_areCranesSound ∈ wsU := mU 934 (by decide +kernel) rfl
theorem wM_X7_350 : Cond.methodLink RX7 350 yX5_areLoadsSound ∈ wsU := mU 942 (by decide +kernel) rfl
theorem wM_X7_357 : Cond.methodLink RX7 357 yX7_many ∈ wsU := mU 955 (by decide +kernel) rfl
theorem wM_X7_360 : Cond.methodLink RX7 360 yX7_ofCell ∈ wsU := mU 956 (by decide +kernel) rfl
theorem wM_X7_363 : Cond.methodLink RX7 363 yX7_ofCrane ∈ wsU := mU 957 (by decide +kernel) rfl
theorem wM_X7_366 : Cond.methodLink RX7 366 yX7_would ∈ wsU := mU 958 (by decide +kernel) rfl
theorem wM_X7_369 : Cond.methodLink RX7 369 yX7_field ∈ wsU := mU 959 (by decide +kernel) rfl
theorem wM_X7_372 : Cond.methodLink RX7 372 yX7_swing ∈ wsU := mU 981 (by decide +kernel) rfl
theorem wM_X7_376 : Cond.methodLink RX7 376 yX7_ofLoad ∈ wsU := mU 989 (by decide +kernel) rfl
theorem wM_X7_379 : Cond.methodLink RX7 379 yX7_isSound ∈ wsU := mU 990 (by decide +kernel) rfl
theorem wM_X7_384 : Cond.methodLink RX7 384 yX1_hasCell ∈ wsU := mU 574 (by decide +kernel) rfl
theorem wL_J7_2 : Cond.classLink RJ7 2 "java/lang/Object" ∈ wsU := mU 701 (by decide +kernel) rfl
theorem wL_J7_110 : Cond.classLink RJ7 110 "[Ljava/lang/Object;" ∈ wsU := mU 699 (by decide +kernel) rfl
theorem wL_Jx4a65c_7 : Cond.classLink RJx4a65c 7 "java/lang/Object" ∈ wsU := mU 707 (by decide +kernel) rfl
theorem wL_L_9 : Cond.classLink RL 9 RX7 ∈ wsU := mU 36 (by decide +kernel) rfl
theorem wL_L_59 : Cond.classLink RL 59 "java/lang/IllegalStateException" ∈ wsU := mU 565 (by decide +kernel) rfl
theorem wL_L_94 : Cond.classLink RL 94 "java/lang/IndexOutOfBoundsException" ∈ wsU := mU 741 (by decide +kernel) rfl
theorem wL_L_96 : Cond.classLink RL 96 "java/lang/IllegalArgumentException" ∈ wsU := mU 742 (by decide +kernel) rfl
theorem wL_X3_42 : Cond.classLink RX3 42 "Slewyard$Crane" ∈ wsU := mU 485 (by decide +kernel) rfl
theorem wL_X5_9 : Cond.classLink RX5 9 RJx4a65c ∈ wsU := mU 69 (by decide +kernel) rfl
theorem wL_X5_27 : Cond.classLink RX5 27 "Slewyard$Report" ∈ wsU := mU 95 (by decide +kernel) rfl
theorem wL_X5_50 : Cond.classLink RX5 50 "Slewyard$Crane" ∈ wsU := mU 114 (by decide +kernel) rfl
theorem wL_X5_94 : Cond.classLink RX5 94 "Slewyard$Zone" ∈ wsU := mU 642 (by decide +kernel) rfl
theorem wL_X5_110 : Cond.classLink RX5 110 "Slewyard$Load" ∈ wsU := mU 477 (by decide +kernel) rfl
theorem wL_X7_9 : Cond.classLink RX7 9 RX5 ∈ wsU := mU 44 (by decide +kernel) rfl
theorem wL_X7_11 : Cond.classLink RX7 11 RX1 ∈ wsU := mU 46 (by decide +kernel) rfl
theorem wL_X7_21 : Cond.classLink RX7 21 RX3 ∈ wsU := mU 250 (by decide +kernel) rfl
theorem wL_X7_58 : Cond.classLink RX7 58 "java/lang/IllegalStateException" ∈ wsU := mU 600 (by decide +kernel) rfl
theorem wL_X7_83 : Cond.classLink RX7 83 RX4 ∈ wsU := mU 763 (by decide +kernel) rfl
theorem wL_X7_108 : Cond.classLink RX7 108 RX6 ∈ wsU := mU 772 (by decide +kernel) rfl
theorem wL_X7_121 : Cond.classLink RX7 121 "Slewyard$Load" ∈ wsU := mU 714 (by decide +kernel) rfl
theorem wL_X7_133 : Cond.classLink RX7 133 "Slewyard$Crane" ∈ wsU := mU 547 (by decide +kernel) rfl
theorem wL_X7_201 : Cond.classLink RX7 201 "java/lang/IllegalArgumentException" ∈ wsU := mU 292 (by decide +kernel) rfl
theorem wL_X7_258 : Cond.classLink RX7 258 "java/lang/IndexOutOfBoundsException" ∈ wsU := mU 530 (by decide +kernel) rfl
theorem wC_Lib_Math_abs_name : Cond.code Lib.Math.abs.name Lib.Math.abs.code 1 (some .int) ∈ wsU := mU 458 (by decide +kernel) rfl
theorem wC_Lib_Math_max_name : Cond.code Lib.Math.max.name Lib.Math.max.code 2 (some .int) ∈ wsU := mU 455 (by decide +kernel) rfl
theorem wC_Lib_Math_min_name : Cond.code Lib.Math.min.name Lib.Math.min.code 2 (some .int) ∈ wsU := mU 452 (by decide +kernel) rfl
theorem wC_objectInit : Cond.code objectInit ⟨#[0xb1]⟩ 1 none ∈ wsU := mU 43 (by decide +kernel) rfl
theorem wC_J15_checkIndex_7cf53 : Cond.code yJ15_checkIndex_7cf53 cJ15_checkIndex_7cf53 2 (some .int) ∈ wsU := mU 406 (by decide +kernel) rfl
theorem wC_J3_checkIndex_8e157 : Cond.code yJ3_checkIndex_8e157 cJ3_checkIndex_8e157 3 (some .int) ∈ wsU := mU 409 (by decide +kernel) rfl
theorem wC_J6_bitCount_0f7a4 : Cond.code yJ6_bitCount_0f7a4 cJ6_bitCount_0f7a4 1 (some .int) ∈ wsU := mU 465 (by decide +kernel) rfl
theorem wC_J7_copyOf_1904c : Cond.code yJ7_copyOf_1904c cJ7_copyOf_1904c 2 (some (.array (.object "java/lang/Object"))) ∈ wsU := mU 679 (by decide +kernel) rfl
theorem wC_J7_copyOf_6403c : Cond.code yJ7_copyOf_6403c cJ7_copyOf_6403c 4 (some (.array (.object "java/lang/Object"))) ∈ wsU := mU 698 (by decide +kernel) rfl
theorem wC_J7_fill_53178 : Cond.code yJ7_fill_53178 cJ7_fill_53178 4 none ∈ wsU := mU 370 (by decide +kernel) rfl
theorem wC_J8_hugeLength_7cf53 : Cond.code yJ8_hugeLength_7cf53 cJ8_hugeLength_7cf53 3 (some .int) ∈ wsU := mU 676 (by decide +kernel) rfl
theorem wC_J8_newLength_cabcc : Cond.code yJ8_newLength_cabcc cJ8_newLength_cabcc 4 (some .int) ∈ wsU := mU 671 (by decide +kernel) rfl
theorem wC_J9_abs_0f7a4 : Cond.code yJ9_abs_0f7a4 cJ9_abs_0f7a4 1 (some .int) ∈ wsU := mU 458 (by decide +kernel) rfl
theorem wC_J9_max_7cf53 : Cond.code yJ9_max_7cf53 cJ9_max_7cf53 2 (some .int) ∈ wsU := mU 455 (by decide +kernel) rfl
theorem wC_J9_min_7cf53 : Cond.code yJ9_min_7cf53 cJ9_min_7cf53 2 (some .int) ∈ wsU := mU 452 (by decide +kernel) rfl
theorem wC_Jx4a65c_add_72be8 : Cond.code yJx4a65c_add_72be8 cJx4a65c_add_72be8 4 none ∈ wsU := mU 660 (by decide +kernel) rfl
theorem wC_Jx4a65c_add_9ea2d : Cond.code yJx4a65c_add_9ea2d cJx4a65c_add_9ea2d 2 (some .boolean) ∈ wsU := mU 656 (by decide +kernel) rfl
theorem wC_Jx4a65c_clear_da8c8 : Cond.code yJx4a65c_clear_da8c8 cJx4a65c_clear_da8c8 4 none ∈ wsU := mU 374 (by decide +kernel) rfl
theorem wC_Jx4a65c_elementData_915e3 : Cond.code yJx4a65c_elementData_915e3 cJx4a65c_elementData_915e3 2 (some (.object "java/lang/Object")) ∈ wsU := mU 413 (by decide +kernel) rfl
theorem wC_Jx4a65c_get_915e3 : Cond.code yJx4a65c_get_915e3 cJx4a65c_get_915e3 2 (some (.object "java/lang/Object")) ∈ wsU := mU 403 (by decide +kernel) rfl
theorem wC_Jx4a65c_grow_92f84 : Cond.code yJx4a65c_grow_92f84 cJx4a65c_grow_92f84 4 (some (.array (.object "java/lang/Object"))) ∈ wsU := mU 668 (by decide +kernel) rfl
theorem wC_Jx4a65c_grow_d5877 : Cond.code yJx4a65c_grow_d5877 cJx4a65c_grow_d5877 1 (some (.array (.object "java/lang/Object"))) ∈ wsU := mU 664 (by decide +kernel) rfl
theorem wC_Jx4a65c_init_da8c8 : Cond.code yJx4a65c_init_da8c8 cJx4a65c_init_da8c8 1 none ∈ wsU := mU 73 (by decide +kernel) rfl
theorem wC_Jx4a65c_size_8abf5 : Cond.code yJx4a65c_size_8abf5 cJx4a65c_size_8abf5 1 (some .int) ∈ wsU := mU 390 (by decide +kernel) rfl
theorem wC_Jxa1e45_init_da8c8 : Cond.code yJxa1e45_init_da8c8 cJxa1e45_init_da8c8 1 none ∈ wsU := mU 79 (by decide +kernel) rfl
theorem wC_Jxc12de_init_da8c8 : Cond.code yJxc12de_init_da8c8 cJxc12de_init_da8c8 1 none ∈ wsU := mU 76 (by decide +kernel) rfl
theorem wC_L_below : Cond.code yL_below cL_below 2 (some .int) ∈ wsU := mU 513 (by decide +kernel) rfl
theorem wC_L_cell : Cond.code yL_cell cL_cell 2 (some .int) ∈ wsU := mU 517 (by decide +kernel) rfl
theorem wC_L_isAsked : Cond.code yL_isAsked cL_isAsked 8 (some .boolean) ∈ wsU := mU 948 (by decide +kernel) rfl
theorem wC_L_isWhole : Cond.code yL_isWhole cL_isWhole 10 (some .boolean) ∈ wsU := mU 898 (by decide +kernel) rfl
theorem wC_L_met : Cond.code yL_met cL_met 3 (some .int) ∈ wsU := mU 521 (by decide +kernel) rfl
theorem wC_X0_above : Cond.code yX0_above cX0_above 1 (some .int) ∈ wsU := mU 816 (by decide +kernel) rfl
theorem wC_X0_apartFromJib : Cond.code yX0_apartFromJib cX0_apartFromJib 8 (some .int) ∈ wsU := mU 449 (by decide +kernel) rfl
theorem wC_X0_apartFromJibOf : Cond.code yX0_apartFromJibOf cX0_apartFromJibOf 4 (some .int) ∈ wsU := mU 433 (by decide +kernel) rfl
theorem wC_X0_canMeet : Cond.code yX0_canMeet cX0_canMeet 4 (some .boolean) ∈ wsU := mU 839 (by decide +kernel) rfl
theorem wC_X0_clashRule : Cond.code yX0_clashRule cX0_clashRule 5 (some .int) ∈ wsU := mU 429 (by decide +kernel) rfl
theorem wC_X0_columnAt : Cond.code yX0_columnAt cX0_columnAt 2 (some .int) ∈ wsU := mU 443 (by decide +kernel) rfl
theorem wC_X0_drawIn : Cond.code yX0_drawIn cX0_drawIn 2 none ∈ wsU := mU 620 (by decide +kernel) rfl
theorem wC_X0_face : Cond.code yX0_face cX0_face 2 none ∈ wsU := mU 624 (by decide +kernel) rfl
theorem wC_X0_init : Cond.code yX0_init cX0_init 7 none ∈ wsU := mU 118 (by decide +kernel) rfl
theorem wC_X0_isCalm : Cond.code yX0_isCalm cX0_isCalm 1 (some .boolean) ∈ wsU := mU 812 (by decide +kernel) rfl
theorem wC_X0_isJustAbove : Cond.code yX0_isJustAbove cX0_isJustAbove 1 (some .boolean) ∈ wsU := mU 808 (by decide +kernel) rfl
theorem wC_X0_isPossible : Cond.code yX0_isPossible cX0_isPossible 1 (some .boolean) ∈ wsU := mU 633 (by decide +kernel) rfl
theorem wC_X0_isWithinBounds : Cond.code yX0_isWithinBounds cX0_isWithinBounds 1 (some .boolean) ∈ wsU := mU 941 (by decide +kernel) rfl
theorem wC_X0_mimic : Cond.code yX0_mimic cX0_mimic 2 none ∈ wsU := mU 862 (by decide +kernel) rfl
theorem wC_X0_move : Cond.code yX0_move cX0_move 2 none ∈ wsU := mU 876 (by decide +kernel) rfl
theorem wC_X0_plumb : Cond.code yX0_plumb cX0_plumb 1 (some .int) ∈ wsU := mU 551 (by decide +kernel) rfl
theorem wC_X0_rowAt : Cond.code yX0_rowAt cX0_rowAt 2 (some .int) ∈ wsU := mU 437 (by decide +kernel) rfl
theorem wC_X0_settle : Cond.code yX0_settle cX0_settle 2 none ∈ wsU := mU 853 (by decide +kernel) rfl
theorem wC_X0_sweepsOn : Cond.code yX0_sweepsOn cX0_sweepsOn 3 (some .boolean) ∈ wsU := mU 462 (by decide +kernel) rfl
theorem wC_X0_tire : Cond.code yX0_tire cX0_tire 2 none ∈ wsU := mU 890 (by decide +kernel) rfl
theorem wC_X0_weight : Cond.code yX0_weight cX0_weight 1 (some .int) ∈ wsU := mU 493 (by decide +kernel) rfl
theorem wC_X1_build : Cond.code yX1_build cX1_build 3 none ∈ wsU := mU 757 (by decide +kernel) rfl
theorem wC_X1_cellAt : Cond.code yX1_cellAt cX1_cellAt 3 (some .int) ∈ wsU := mU 555 (by decide +kernel) rfl
theorem wC_X1_cells : Cond.code yX1_cells cX1_cells 1 (some .int) ∈ wsU := mU 378 (by decide +kernel) rfl
theorem wC_X1_columnOf : Cond.code yX1_columnOf cX1_columnOf 2 (some .int) ∈ wsU := mU 127 (by decide +kernel) rfl
theorem wC_X1_hasCell : Cond.code yX1_hasCell cX1_hasCell 2 (some .boolean) ∈ wsU := mU 577 (by decide +kernel) rfl
theorem wC_X1_hasPlace : Cond.code yX1_hasPlace cX1_hasPlace 3 (some .boolean) ∈ wsU := mU 559 (by decide +kernel) rfl
theorem wC_X1_init : Cond.code yX1_init cX1_init 1 none ∈ wsU := mU 50 (by decide +kernel) rfl
theorem wC_X1_lay : Cond.code yX1_lay cX1_lay 3 none ∈ wsU := mU 367 (by decide +kernel) rfl
theorem wC_X1_levelOf : Cond.code yX1_levelOf cX1_levelOf 2 (some .int) ∈ wsU := mU 599 (by decide +kernel) rfl
theorem wC_X1_rowOf : Cond.code yX1_rowOf cX1_rowOf 2 (some .int) ∈ wsU := mU 123 (by decide +kernel) rfl
theorem wC_X2_hangOn : Cond.code yX2_hangOn cX2_hangOn 2 none ∈ wsU := mU 822 (by decide +kernel) rfl
theorem wC_X2_init : Cond.code yX2_init cX2_init 4 none ∈ wsU := mU 718 (by decide +kernel) rfl
theorem wC_X2_lieOn : Cond.code yX2_lieOn cX2_lieOn 2 none ∈ wsU := mU 830 (by decide +kernel) rfl
theorem wC_X2_liesOn : Cond.code yX2_liesOn cX2_liesOn 2 (some .boolean) ∈ wsU := mU 595 (by decide +kernel) rfl
theorem wC_X2_place : Cond.code yX2_place cX2_place 1 (some .int) ∈ wsU := mU 913 (by decide +kernel) rfl
theorem wC_X3_assume : Cond.code yX3_assume cX3_assume 2 none ∈ wsU := mU 977 (by decide +kernel) rfl
theorem wC_X3_canLift : Cond.code yX3_canLift cX3_canLift 8 (some .boolean) ∈ wsU := mU 497 (by decide +kernel) rfl
theorem wC_X3_explore : Cond.code yX3_explore cX3_explore 9 (some .int) ∈ wsU := mU 966 (by decide +kernel) rfl
theorem wC_X3_init : Cond.code yX3_init cX3_init 2 none ∈ wsU := mU 254 (by decide +kernel) rfl
theorem wC_X3_leaverAt : Cond.code yX3_leaverAt cX3_leaverAt 2 (some .int) ∈ wsU := mU 1010 (by decide +kernel) rfl
theorem wC_X3_liftersFrom : Cond.code yX3_liftersFrom cX3_liftersFrom 5 (some .int) ∈ wsU := mU 918 (by decide +kernel) rfl
theorem wC_X3_nextToGo : Cond.code yX3_nextToGo cX3_nextToGo 3 (some .int) ∈ wsU := mU 510 (by decide +kernel) rfl
theorem wC_X3_poseOf : Cond.code yX3_poseOf cX3_poseOf 1 (some .int) ∈ wsU := mU 973 (by decide +kernel) rfl
theorem wC_X3_stepsTo : Cond.code yX3_stepsTo cX3_stepsTo 3 (some .int) ∈ wsU := mU 999 (by decide +kernel) rfl
theorem wC_X3_swings : Cond.code yX3_swings cX3_swings 5 (some .int) ∈ wsU := mU 988 (by decide +kernel) rfl
theorem wC_X3_takeDown : Cond.code yX3_takeDown cX3_takeDown 5 (some .int) ∈ wsU := mU 481 (by decide +kernel) rfl
theorem wC_X3_takersOf : Cond.code yX3_takersOf cX3_takersOf 5 (some .int) ∈ wsU := mU 489 (by decide +kernel) rfl
theorem wC_X4_init : Cond.code yX4_init cX4_init 4 none ∈ wsU := mU 99 (by decide +kernel) rfl
theorem wC_X5_areCranesSound : Cond.code yX5_areCranesSound cX5_areCranesSound 5 (some .boolean) ∈ wsU := mU 937 (by decide +kernel) rfl
theorem wC_X5_areLoadsSound : Cond.code yX5_areLoadsSound cX5_areLoadsSound 3 (some .boolean) ∈ wsU := mU 945 (by decide +kernel) rfl
theorem wC_X5_canBuild : Cond.code yX5_canBuild cX5_canBuild 6 (some .boolean) ∈ wsU := mU 751 (by decide +kernel) rfl
theorem wC_X5_canFound : Cond.code yX5_canFound cX5_canFound 2 (some .boolean) ∈ wsU := mU 583 (by decide +kernel) rfl
theorem wC_X5_capacityOf : Cond.code yX5_capacityOf cX5_capacityOf 4 (some .int) ∈ wsU := mU 505 (by decide +kernel) rfl
theorem wC_X5_clashesOf : Cond.code yX5_clashesOf cX5_clashesOf 4 (some .int) ∈ wsU := mU 425 (by decide +kernel) rfl
theorem wC_X5_clashingPairs : Cond.code yX5_clashingPairs cX5_clashingPairs 3 (some .int) ∈ wsU := mU 421 (by decide +kernel) rfl
theorem wC_X5_firstLoadOn : Cond.code yX5_firstLoadOn cX5_firstLoadOn 4 (some (.object "Slewyard$Load")) ∈ wsU := mU 804 (by decide +kernel) rfl
theorem wC_X5_force : Cond.code yX5_force cX5_force 1 (some .int) ∈ wsU := mU 394 (by decide +kernel) rfl
theorem wC_X5_hangingLoads : Cond.code yX5_hangingLoads cX5_hangingLoads 3 (some .int) ∈ wsU := mU 476 (by decide +kernel) rfl
theorem wC_X5_hindrance : Cond.code yX5_hindrance cX5_hindrance 8 (some .int) ∈ wsU := mU 629 (by decide +kernel) rfl
theorem wC_X5_hour : Cond.code yX5_hour cX5_hour 1 (some .int) ∈ wsU := mU 386 (by decide +kernel) rfl
theorem wC_X5_idle : Cond.code yX5_idle cX5_idle 3 none ∈ wsU := mU 849 (by decide +kernel) rfl
theorem wC_X5_init : Cond.code yX5_init cX5_init 2 none ∈ wsU := mU 67 (by decide +kernel) rfl
theorem wC_X5_isShut : Cond.code yX5_isShut cX5_isShut 6 (some .boolean) ∈ wsU := mU 639 (by decide +kernel) rfl
theorem wC_X5_jibsOver : Cond.code yX5_jibsOver cX5_jibsOver 6 (some .int) ∈ wsU := mU 927 (by decide +kernel) rfl
theorem wC_X5_lay : Cond.code yX5_lay cX5_lay 3 none ∈ wsU := mU 363 (by decide +kernel) rfl
theorem wC_X5_loadsOn : Cond.code yX5_loadsOn cX5_loadsOn 4 (some .int) ∈ wsU := mU 591 (by decide +kernel) rfl
theorem wC_X5_missesNow : Cond.code yX5_missesNow cX5_missesNow 5 (some .int) ∈ wsU := mU 895 (by decide +kernel) rfl
theorem wC_X5_nearMisses : Cond.code yX5_nearMisses cX5_nearMisses 3 (some .int) ∈ wsU := mU 472 (by decide +kernel) rfl
theorem wC_X5_reasonAgainst : Cond.code yX5_reasonAgainst cX5_reasonAgainst 4 (some .int) ∈ wsU := mU 872 (by decide +kernel) rfl
theorem wC_X5_take : Cond.code yX5_take cX5_take 3 none ∈ wsU := mU 886 (by decide +kernel) rfl
theorem wC_X5_towerOn : Cond.code yX5_towerOn cX5_towerOn 3 (some .int) ∈ wsU := mU 587 (by decide +kernel) rfl
theorem wC_X5_turnToWind : Cond.code yX5_turnToWind cX5_turnToWind 5 (some .int) ∈ wsU := mU 857 (by decide +kernel) rfl
theorem wC_X5_windBearing : Cond.code yX5_windBearing cX5_windBearing 1 (some .int) ∈ wsU := mU 417 (by decide +kernel) rfl
theorem wC_X5_windNow : Cond.code yX5_windNow cX5_windNow 4 (some (.object "Slewyard$Report")) ∈ wsU := mU 398 (by decide +kernel) rfl
theorem wC_X6_covers : Cond.code yX6_covers cX6_covers 3 (some .boolean) ∈ wsU := mU 646 (by decide +kernel) rfl
theorem wC_X6_init : Cond.code yX6_init cX6_init 7 none ∈ wsU := mU 776 (by decide +kernel) rfl
theorem wC_X6_isShutAt : Cond.code yX6_isShutAt cX6_isShutAt 2 (some .boolean) ∈ wsU := mU 651 (by decide +kernel) rfl
theorem wC_X7_clash : Cond.code yX7_clash cX7_clash 5 (some .int) ∈ wsU := mU 902 (by decide +kernel) rfl
theorem wC_X7_crane : Cond.code yX7_crane cX7_crane 8 (some .int) ∈ wsU := mU 569 (by decide +kernel) rfl
theorem wC_X7_digest : Cond.code yX7_digest cX7_digest 5 (some .long) ∈ wsU := mU 952 (by decide +kernel) rfl
theorem wC_X7_field : Cond.code yX7_field cX7_field 2 (some .int) ∈ wsU := mU 962 (by decide +kernel) rfl
theorem wC_X7_hand : Cond.code yX7_hand cX7_hand 6 (some .int) ∈ wsU := mU 834 (by decide +kernel) rfl
theorem wC_X7_hang : Cond.code yX7_hang cX7_hang 4 (some .int) ∈ wsU := mU 800 (by decide +kernel) rfl
theorem wC_X7_init : Cond.code yX7_init cX7_init 2 none ∈ wsU := mU 40 (by decide +kernel) rfl
theorem wC_X7_isSound : Cond.code yX7_isSound cX7_isSound 1 (some .boolean) ∈ wsU := mU 933 (by decide +kernel) rfl
theorem wC_X7_level : Cond.code yX7_level cX7_level 4 (some .int) ∈ wsU := mU 747 (by decide +kernel) rfl
theorem wC_X7_load : Cond.code yX7_load cX7_load 4 (some .int) ∈ wsU := mU 711 (by decide +kernel) rfl
theorem wC_X7_many : Cond.code yX7_many cX7_many 2 (some .int) ∈ wsU := mU 382 (by decide +kernel) rfl
theorem wC_X7_needCell : Cond.code yX7_needCell cX7_needCell 2 none ∈ wsU := mU 573 (by decide +kernel) rfl
theorem wC_X7_needCrane : Cond.code yX7_needCrane cX7_needCrane 2 (some (.object "Slewyard$Crane")) ∈ wsU := mU 529 (by decide +kernel) rfl
theorem wC_X7_needWithin : Cond.code yX7_needWithin cX7_needWithin 3 none ∈ wsU := mU 291 (by decide +kernel) rfl
theorem wC_X7_ofCell : Cond.code yX7_ofCell cX7_ofCell 3 (some .int) ∈ wsU := mU 922 (by decide +kernel) rfl
theorem wC_X7_ofCrane : Cond.code yX7_ofCrane cX7_ofCrane 4 (some .int) ∈ wsU := mU 525 (by decide +kernel) rfl
theorem wC_X7_ofLoad : Cond.code yX7_ofLoad cX7_ofLoad 4 (some .int) ∈ wsU := mU 908 (by decide +kernel) rfl
theorem wC_X7_order : Cond.code yX7_order cX7_order 2 (some .int) ∈ wsU := mU 1005 (by decide +kernel) rfl
theorem wC_X7_rest : Cond.code yX7_rest cX7_rest 2 (some .int) ∈ wsU := mU 844 (by decide +kernel) rfl
theorem wC_X7_set : Cond.code yX7_set cX7_set 5 (some .int) ∈ wsU := mU 826 (by decide +kernel) rfl
theorem wC_X7_step : Cond.code yX7_step cX7_step 5 (some .int) ∈ wsU := mU 881 (by decide +kernel) rfl
theorem wC_X7_swing : Cond.code yX7_swing cX7_swing 3 (some .int) ∈ wsU := mU 984 (by decide +kernel) rfl
theorem wC_X7_way : Cond.code yX7_way cX7_way 4 (some .int) ∈ wsU := mU 995 (by decide +kernel) rfl
theorem wC_X7_wind : Cond.code yX7_wind cX7_wind 4 (some .int) ∈ wsU := mU 761 (by decide +kernel) rfl
theorem wC_X7_would : Cond.code yX7_would cX7_would 4 (some .int) ∈ wsU := mU 868 (by decide +kernel) rfl
theorem wC_X7_yard : Cond.code yX7_yard cX7_yard 3 (some .int) ∈ wsU := mU 288 (by decide +kernel) rfl
theorem wC_X7_zone : Cond.code yX7_zone cX7_zone 8 (some .int) ∈ wsU := mU 768 (by decide +kernel) rfl
theorem wC_L_act : Cond.codeWith yL_act cL_act 10 none [(19, 327, 330, 94), (19, 327, 333, 96), (19, 327, 336, 59)] ∈ wsU := mU 740 (by decide +kernel) rfl
theorem wC_L_build : Cond.codeWith yL_build cL_build 4 none [(0, 87, 90, 59)] ∈ wsU := mU 564 (by decide +kernel) rfl
theorem wI_objectInit : Cond.instanceMethod objectInit ∈ wsU := mU 42 (by decide +kernel) rfl
theorem wI_Jx4a65c_add_72be8 : Cond.instanceMethod yJx4a65c_add_72be8 ∈ wsU := mU 659 (by decide +kernel) rfl
theorem wI_Jx4a65c_add_9ea2d : Cond.instanceMethod yJx4a65c_add_9ea2d ∈ wsU := mU 654 (by decide +kernel) rfl
theorem wI_Jx4a65c_clear_da8c8 : Cond.instanceMethod yJx4a65c_clear_da8c8 ∈ wsU := mU 372 (by decide +kernel) rfl
theorem wI_Jx4a65c_elementData_915e3 : Cond.instanceMethod yJx4a65c_elementData_915e3 ∈ wsU := mU 411 (by decide +kernel) rfl
theorem wI_Jx4a65c_get_915e3 : Cond.instanceMethod yJx4a65c_get_915e3 ∈ wsU := mU 401 (by decide +kernel) rfl
theorem wI_Jx4a65c_grow_92f84 : Cond.instanceMethod yJx4a65c_grow_92f84 ∈ wsU := mU 667 (by decide +kernel) rfl
theorem wI_Jx4a65c_grow_d5877 : Cond.instanceMethod yJx4a65c_grow_d5877 ∈ wsU := mU 663 (by decide +kernel) rfl
theorem wI_Jx4a65c_init_da8c8 : Cond.instanceMethod yJx4a65c_init_da8c8 ∈ wsU := mU 72 (by decide +kernel) rfl
theorem wI_Jx4a65c_size_8abf5 : Cond.instanceMethod yJx4a65c_size_8abf5 ∈ wsU := mU 388 (by decide +kernel) rfl
theorem wI_Jxa1e45_init_da8c8 : Cond.instanceMethod yJxa1e45_init_da8c8 ∈ wsU := mU 78 (by decide +kernel) rfl
theorem wI_Jxc12de_init_da8c8 : Cond.instanceMethod yJxc12de_init_da8c8 ∈ wsU := mU 75 (by decide +kernel) rfl
theorem wI_X0_above : Cond.instanceMethod yX0_above ∈ wsU := mU 814 (by decide +kernel) rfl
theorem wI_X0_apartFromJib : Cond.instanceMethod yX0_apartFromJib ∈ wsU := mU 447 (by decide +kernel) rfl
theorem wI_X0_apartFromJibOf : Cond.instanceMethod yX0_apartFromJibOf ∈ wsU := mU 431 (by decide +kernel) rfl
theorem wI_X0_canMeet : Cond.instanceMethod yX0_canMeet ∈ wsU := mU 837 (by decide +kernel) rfl
theorem wI_X0_clashRule : Cond.instanceMethod yX0_clashRule ∈ wsU := mU 427 (by decide +kernel) rfl
theorem wI_X0_columnAt : Cond.instanceMethod yX0_columnAt ∈ wsU := mU 441 (by decide +kernel) rfl
theorem wI_X0_drawIn : Cond.instanceMethod yX0_drawIn ∈ wsU := mU 618 (by decide +kernel) rfl
theorem wI_X0_face : Cond.instanceMethod yX0_face ∈ wsU := mU 622 (by decide +kernel) rfl
theorem wI_X0_init : Cond.instanceMethod yX0_init ∈ wsU := mU 117 (by decide +kernel) rfl
theorem wI_X0_isCalm : Cond.instanceMethod yX0_isCalm ∈ wsU := mU 810 (by decide +kernel) rfl
theorem wI_X0_isJustAbove : Cond.instanceMethod yX0_isJustAbove ∈ wsU := mU 806 (by decide +kernel) rfl
theorem wI_X0_isPossible : Cond.instanceMethod yX0_isPossible ∈ wsU := mU 631 (by decide +kernel) rfl
theorem wI_X0_isWithinBounds : Cond.instanceMethod yX0_isWithinBounds ∈ wsU := mU 939 (by decide +kernel) rfl
theorem wI_X0_mimic : Cond.instanceMethod yX0_mimic ∈ wsU := mU 860 (by decide +kernel) rfl
theorem wI_X0_move : Cond.instanceMethod yX0_move ∈ wsU := mU 874 (by decide +kernel) rfl
theorem wI_X0_plumb : Cond.instanceMethod yX0_plumb ∈ wsU := mU 549 (by decide +kernel) rfl
theorem wI_X0_rowAt : Cond.instanceMethod yX0_rowAt ∈ wsU := mU 435 (by decide +kernel) rfl
theorem wI_X0_settle : Cond.instanceMethod yX0_settle ∈ wsU := mU 851 (by decide +kernel) rfl
theorem wI_X0_sweepsOn : Cond.instanceMethod yX0_sweepsOn ∈ wsU := mU 461 (by decide +kernel) rfl
theorem wI_X0_tire : Cond.instanceMethod yX0_tire ∈ wsU := mU 888 (by decide +kernel) rfl
theorem wI_X0_weight : Cond.instanceMethod yX0_weight ∈ wsU := mU 491 (by decide +kernel) rfl
theorem wI_X1_build : Cond.instanceMethod yX1_build ∈ wsU := mU 755 (by decide +kernel) rfl
theorem wI_X1_cellAt : Cond.instanceMethod yX1_cellAt ∈ wsU := mU 553 (by decide +kernel) rfl
theorem wI_X1_cells : Cond.instanceMethod yX1_cells ∈ wsU := mU 376 (by decide +kernel) rfl
theorem wI_X1_columnOf : Cond.instanceMethod yX1_columnOf ∈ wsU := mU 125 (by decide +kernel) rfl
theorem wI_X1_hasCell : Cond.instanceMethod yX1_hasCell ∈ wsU := mU 575 (by decide +kernel) rfl
theorem wI_X1_hasPlace : Cond.instanceMethod yX1_hasPlace ∈ wsU := mU 557 (by decide +kernel) rfl
theorem wI_X1_init : Cond.instanceMethod yX1_init ∈ wsU := mU 49 (by decide +kernel) rfl
theorem wI_X1_lay : Cond.instanceMethod yX1_lay ∈ wsU := mU 365 (by decide +kernel) rfl
theorem wI_X1_levelOf : Cond.instanceMethod yX1_levelOf ∈ wsU := mU 597 (by decide +kernel) rfl
theorem wI_X1_rowOf : Cond.instanceMethod yX1_rowOf ∈ wsU := mU 121 (by decide +kernel) rfl
theorem wI_X2_hangOn : Cond.instanceMethod yX2_hangOn ∈ wsU := mU 820 (by decide +kernel) rfl
theorem wI_X2_init : Cond.instanceMethod yX2_init ∈ wsU := mU 717 (by decide +kernel) rfl
theorem wI_X2_lieOn : Cond.instanceMethod yX2_lieOn ∈ wsU := mU 828 (by decide +kernel) rfl
theorem wI_X2_liesOn : Cond.instanceMethod yX2_liesOn ∈ wsU := mU 593 (by decide +kernel) rfl
theorem wI_X2_place : Cond.instanceMethod yX2_place ∈ wsU := mU 911 (by decide +kernel) rfl
theorem wI_X3_assume : Cond.instanceMethod yX3_assume ∈ wsU := mU 976 (by decide +kernel) rfl
theorem wI_X3_canLift : Cond.instanceMethod yX3_canLift ∈ wsU := mU 496 (by decide +kernel) rfl
theorem wI_X3_explore : Cond.instanceMethod yX3_explore ∈ wsU := mU 964 (by decide +kernel) rfl
theorem wI_X3_init : Cond.instanceMethod yX3_init ∈ wsU := mU 253 (by decide +kernel) rfl
theorem wI_X3_leaverAt : Cond.instanceMethod yX3_leaverAt ∈ wsU := mU 1008 (by decide +kernel) rfl
theorem wI_X3_liftersFrom : Cond.instanceMethod yX3_liftersFrom ∈ wsU := mU 916 (by decide +kernel) rfl
theorem wI_X3_nextToGo : Cond.instanceMethod yX3_nextToGo ∈ wsU := mU 509 (by decide +kernel) rfl
theorem wI_X3_stepsTo : Cond.instanceMethod yX3_stepsTo ∈ wsU := mU 997 (by decide +kernel) rfl
theorem wI_X3_swings : Cond.instanceMethod yX3_swings ∈ wsU := mU 986 (by decide +kernel) rfl
theorem wI_X3_takeDown : Cond.instanceMethod yX3_takeDown ∈ wsU := mU 479 (by decide +kernel) rfl
theorem wI_X3_takersOf : Cond.instanceMethod yX3_takersOf ∈ wsU := mU 488 (by decide +kernel) rfl
theorem wI_X4_init : Cond.instanceMethod yX4_init ∈ wsU := mU 98 (by decide +kernel) rfl
theorem wI_X5_areCranesSound : Cond.instanceMethod yX5_areCranesSound ∈ wsU := mU 935 (by decide +kernel) rfl
theorem wI_X5_areLoadsSound : Cond.instanceMethod yX5_areLoadsSound ∈ wsU := mU 943 (by decide +kernel) rfl
theorem wI_X5_canBuild : Cond.instanceMethod yX5_canBuild ∈ wsU := mU 749 (by decide +kernel) rfl
theorem wI_X5_canFound : Cond.instanceMethod yX5_canFound ∈ wsU := mU 581 (by decide +kernel) rfl
theorem wI_X5_capacityOf : Cond.instanceMethod yX5_capacityOf ∈ wsU := mU 503 (by decide +kernel) rfl
theorem wI_X5_clashesOf : Cond.instanceMethod yX5_clashesOf ∈ wsU := mU 423 (by decide +kernel) rfl
theorem wI_X5_clashingPairs : Cond.instanceMethod yX5_clashingPairs ∈ wsU := mU 419 (by decide +kernel) rfl
theorem wI_X5_firstLoadOn : Cond.instanceMethod yX5_firstLoadOn ∈ wsU := mU 802 (by decide +kernel) rfl
theorem wI_X5_force : Cond.instanceMethod yX5_force ∈ wsU := mU 392 (by decide +kernel) rfl
theorem wI_X5_hangingLoads : Cond.instanceMethod yX5_hangingLoads ∈ wsU := mU 474 (by decide +kernel) rfl
theorem wI_X5_hindrance : Cond.instanceMethod yX5_hindrance ∈ wsU := mU 627 (by decide +kernel) rfl
theorem wI_X5_hour : Cond.instanceMethod yX5_hour ∈ wsU := mU 384 (by decide +kernel) rfl
theorem wI_X5_idle : Cond.instanceMethod yX5_idle ∈ wsU := mU 847 (by decide +kernel) rfl
theorem wI_X5_init : Cond.instanceMethod yX5_init ∈ wsU := mU 66 (by decide +kernel) rfl
theorem wI_X5_isShut : Cond.instanceMethod yX5_isShut ∈ wsU := mU 637 (by decide +kernel) rfl
theorem wI_X5_jibsOver : Cond.instanceMethod yX5_jibsOver ∈ wsU := mU 925 (by decide +kernel) rfl
theorem wI_X5_lay : Cond.instanceMethod yX5_lay ∈ wsU := mU 361 (by decide +kernel) rfl
theorem wI_X5_loadsOn : Cond.instanceMethod yX5_loadsOn ∈ wsU := mU 589 (by decide +kernel) rfl
theorem wI_X5_missesNow : Cond.instanceMethod yX5_missesNow ∈ wsU := mU 893 (by decide +kernel) rfl
theorem wI_X5_nearMisses : Cond.instanceMethod yX5_nearMisses ∈ wsU := mU 470 (by decide +kernel) rfl
theorem wI_X5_reasonAgainst : Cond.instanceMethod yX5_reasonAgainst ∈ wsU := mU 870 (by decide +kernel) rfl
theorem wI_X5_take : Cond.instanceMethod yX5_take ∈ wsU := mU 884 (by decide +kernel) rfl
theorem wI_X5_towerOn : Cond.instanceMethod yX5_towerOn ∈ wsU := mU 585 (by decide +kernel) rfl
theorem wI_X5_turnToWind : Cond.instanceMethod yX5_turnToWind ∈ wsU := mU 855 (by decide +kernel) rfl
theorem wI_X5_windBearing : Cond.instanceMethod yX5_windBearing ∈ wsU := mU 415 (by decide +kernel) rfl
theorem wI_X5_windNow : Cond.instanceMethod yX5_windNow ∈ wsU := mU 396 (by decide +kernel) rfl
theorem wI_X6_covers : Cond.instanceMethod yX6_covers ∈ wsU := mU 644 (by decide +kernel) rfl
theorem wI_X6_init : Cond.instanceMethod yX6_init ∈ wsU := mU 775 (by decide +kernel) rfl
theorem wI_X6_isShutAt : Cond.instanceMethod yX6_isShutAt ∈ wsU := mU 649 (by decide +kernel) rfl
theorem wI_X7_clash : Cond.instanceMethod yX7_clash ∈ wsU := mU 900 (by decide +kernel) rfl
theorem wI_X7_crane : Cond.instanceMethod yX7_crane ∈ wsU := mU 567 (by decide +kernel) rfl
theorem wI_X7_digest : Cond.instanceMethod yX7_digest ∈ wsU := mU 950 (by decide +kernel) rfl
theorem wI_X7_field : Cond.instanceMethod yX7_field ∈ wsU := mU 960 (by decide +kernel) rfl
theorem wI_X7_hand : Cond.instanceMethod yX7_hand ∈ wsU := mU 832 (by decide +kernel) rfl
theorem wI_X7_hang : Cond.instanceMethod yX7_hang ∈ wsU := mU 798 (by decide +kernel) rfl
theorem wI_X7_init : Cond.instanceMethod yX7_init ∈ wsU := mU 39 (by decide +kernel) rfl
theorem wI_X7_isSound : Cond.instanceMethod yX7_isSound ∈ wsU := mU 931 (by decide +kernel) rfl
theorem wI_X7_level : Cond.instanceMethod yX7_level ∈ wsU := mU 745 (by decide +kernel) rfl
theorem wI_X7_load : Cond.instanceMethod yX7_load ∈ wsU := mU 709 (by decide +kernel) rfl
theorem wI_X7_many : Cond.instanceMethod yX7_many ∈ wsU := mU 380 (by decide +kernel) rfl
theorem wI_X7_needCell : Cond.instanceMethod yX7_needCell ∈ wsU := mU 572 (by decide +kernel) rfl
theorem wI_X7_needCrane : Cond.instanceMethod yX7_needCrane ∈ wsU := mU 528 (by decide +kernel) rfl
theorem wI_X7_ofCell : Cond.instanceMethod yX7_ofCell ∈ wsU := mU 920 (by decide +kernel) rfl
theorem wI_X7_ofCrane : Cond.instanceMethod yX7_ofCrane ∈ wsU := mU 523 (by decide +kernel) rfl
theorem wI_X7_ofLoad : Cond.instanceMethod yX7_ofLoad ∈ wsU := mU 906 (by decide +kernel) rfl
theorem wI_X7_order : Cond.instanceMethod yX7_order ∈ wsU := mU 1003 (by decide +kernel) rfl
theorem wI_X7_rest : Cond.instanceMethod yX7_rest ∈ wsU := mU 842 (by decide +kernel) rfl
theorem wI_X7_set : Cond.instanceMethod yX7_set ∈ wsU := mU 824 (by decide +kernel) rfl
theorem wI_X7_step : Cond.instanceMethod yX7_step ∈ wsU := mU 879 (by decide +kernel) rfl
theorem wI_X7_swing : Cond.instanceMethod yX7_swing ∈ wsU := mU 982 (by decide +kernel) rfl
theorem wI_X7_way : Cond.instanceMethod yX7_way ∈ wsU := mU 993 (by decide +kernel) rfl
theorem wI_X7_wind : Cond.instanceMethod yX7_wind ∈ wsU := mU 759 (by decide +kernel) rfl
theorem wI_X7_would : Cond.instanceMethod yX7_would ∈ wsU := mU 866 (by decide +kernel) rfl
theorem wI_X7_yard : Cond.instanceMethod yX7_yard ∈ wsU := mU 286 (by decide +kernel) rfl
theorem wI_X7_zone : Cond.instanceMethod yX7_zone ∈ wsU := mU 766 (by decide +kernel) rfl
theorem wS_Lib_Math_abs_name : Cond.static Lib.Math.abs.name ∈ wsU := mU 457 (by decide +kernel) rfl
theorem wS_Lib_Math_max_name : Cond.static Lib.Math.max.name ∈ wsU := mU 454 (by decide +kernel) rfl
theorem wS_Lib_Math_min_name : Cond.static Lib.Math.min.name ∈ wsU := mU 451 (by decide +kernel) rfl
theorem wS_arraycopyName : Cond.static arraycopyName ∈ wsU := mU 704 (by decide +kernel) rfl
theorem wS_J15_checkIndex_7cf53 : Cond.static yJ15_checkIndex_7cf53 ∈ wsU := mU 405 (by decide +kernel) rfl
theorem wS_J3_checkIndex_8e157 : Cond.static yJ3_checkIndex_8e157 ∈ wsU := mU 408 (by decide +kernel) rfl
theorem wS_J6_bitCount_0f7a4 : Cond.static yJ6_bitCount_0f7a4 ∈ wsU := mU 464 (by decide +kernel) rfl
theorem wS_J7_copyOf_1904c : Cond.static yJ7_copyOf_1904c ∈ wsU := mU 678 (by decide +kernel) rfl
theorem wS_J7_copyOf_6403c : Cond.static yJ7_copyOf_6403c ∈ wsU := mU 697 (by decide +kernel) rfl
theorem wS_J7_fill_53178 : Cond.static yJ7_fill_53178 ∈ wsU := mU 369 (by decide +kernel) rfl
theorem wS_J8_hugeLength_7cf53 : Cond.static yJ8_hugeLength_7cf53 ∈ wsU := mU 675 (by decide +kernel) rfl
theorem wS_J8_newLength_cabcc : Cond.static yJ8_newLength_cabcc ∈ wsU := mU 670 (by decide +kernel) rfl
theorem wS_L_act : Cond.static yL_act ∈ wsU := mU 739 (by decide +kernel) rfl
theorem wS_L_below : Cond.static yL_below ∈ wsU := mU 512 (by decide +kernel) rfl
theorem wS_L_build : Cond.static yL_build ∈ wsU := mU 563 (by decide +kernel) rfl
theorem wS_L_cell : Cond.static yL_cell ∈ wsU := mU 516 (by decide +kernel) rfl
theorem wS_L_isAsked : Cond.static yL_isAsked ∈ wsU := mU 947 (by decide +kernel) rfl
theorem wS_L_isWhole : Cond.static yL_isWhole ∈ wsU := mU 897 (by decide +kernel) rfl
theorem wS_L_met : Cond.static yL_met ∈ wsU := mU 520 (by decide +kernel) rfl
theorem wS_X3_poseOf : Cond.static yX3_poseOf ∈ wsU := mU 972 (by decide +kernel) rfl
theorem wS_X7_needWithin : Cond.static yX7_needWithin ∈ wsU := mU 290 (by decide +kernel) rfl
theorem wV_Jx4a65c_Jx4a65c_add_72be8 : Cond.selects RJx4a65c yJx4a65c_add_72be8 yJx4a65c_add_72be8 ∈ wsU := mU 7 (by decide +kernel) rfl
theorem wV_Jx4a65c_Jx4a65c_add_9ea2d : Cond.selects RJx4a65c yJx4a65c_add_9ea2d yJx4a65c_add_9ea2d ∈ wsU := mU 655 (by decide +kernel) rfl
theorem wV_Jx4a65c_Jx4a65c_clear_da8c8 : Cond.selects RJx4a65c yJx4a65c_clear_da8c8 yJx4a65c_clear_da8c8 ∈ wsU := mU 373 (by decide +kernel) rfl
theorem wV_Jx4a65c_Jx4a65c_elementData_915e3 : Cond.selects RJx4a65c yJx4a65c_elementData_915e3 yJx4a65c_elementData_915e3 ∈ wsU := mU 412 (by decide +kernel) rfl
theorem wV_Jx4a65c_Jx4a65c_get_915e3 : Cond.selects RJx4a65c yJx4a65c_get_915e3 yJx4a65c_get_915e3 ∈ wsU := mU 402 (by decide +kernel) rfl
theorem wV_Jx4a65c_Jx4a65c_grow_92f84 : Cond.selects RJx4a65c yJx4a65c_grow_92f84 yJx4a65c_grow_92f84 ∈ wsU := mU 9 (by decide +kernel) rfl
theorem wV_Jx4a65c_Jx4a65c_grow_d5877 : Cond.selects RJx4a65c yJx4a65c_grow_d5877 yJx4a65c_grow_d5877 ∈ wsU := mU 8 (by decide +kernel) rfl
theorem wV_Jx4a65c_Jx4a65c_size_8abf5 : Cond.selects RJx4a65c yJx4a65c_size_8abf5 yJx4a65c_size_8abf5 ∈ wsU := mU 389 (by decide +kernel) rfl
theorem wV_X0_X0_above : Cond.selects RX0 yX0_above yX0_above ∈ wsU := mU 815 (by decide +kernel) rfl
theorem wV_X0_X0_apartFromJib : Cond.selects RX0 yX0_apartFromJib yX0_apartFromJib ∈ wsU := mU 448 (by decide +kernel) rfl
theorem wV_X0_X0_apartFromJibOf : Cond.selects RX0 yX0_apartFromJibOf yX0_apartFromJibOf ∈ wsU := mU 432 (by decide +kernel) rfl
theorem wV_X0_X0_canMeet : Cond.selects RX0 yX0_canMeet yX0_canMeet ∈ wsU := mU 838 (by decide +kernel) rfl
theorem wV_X0_X0_clashRule : Cond.selects RX0 yX0_clashRule yX0_clashRule ∈ wsU := mU 428 (by decide +kernel) rfl
theorem wV_X0_X0_columnAt : Cond.selects RX0 yX0_columnAt yX0_columnAt ∈ wsU := mU 442 (by decide +kernel) rfl
theorem wV_X0_X0_drawIn : Cond.selects RX0 yX0_drawIn yX0_drawIn ∈ wsU := mU 619 (by decide +kernel) rfl
theorem wV_X0_X0_face : Cond.selects RX0 yX0_face yX0_face ∈ wsU := mU 623 (by decide +kernel) rfl
theorem wV_X0_X0_isCalm : Cond.selects RX0 yX0_isCalm yX0_isCalm ∈ wsU := mU 811 (by decide +kernel) rfl
theorem wV_X0_X0_isJustAbove : Cond.selects RX0 yX0_isJustAbove yX0_isJustAbove ∈ wsU := mU 807 (by decide +kernel) rfl
theorem wV_X0_X0_isPossible : Cond.selects RX0 yX0_isPossible yX0_isPossible ∈ wsU := mU 632 (by decide +kernel) rfl
theorem wV_X0_X0_isWithinBounds : Cond.selects RX0 yX0_isWithinBounds yX0_isWithinBounds ∈ wsU := mU 940 (by decide +kernel) rfl
theorem wV_X0_X0_mimic : Cond.selects RX0 yX0_mimic yX0_mimic ∈ wsU := mU 861 (by decide +kernel) rfl
theorem wV_X0_X0_move : Cond.selects RX0 yX0_move yX0_move ∈ wsU := mU 875 (by decide +kernel) rfl
theorem wV_X0_X0_plumb : Cond.selects RX0 yX0_plumb yX0_plumb ∈ wsU := mU 550 (by decide +kernel) rfl
theorem wV_X0_X0_rowAt : Cond.selects RX0 yX0_rowAt yX0_rowAt ∈ wsU := mU 436 (by decide +kernel) rfl
theorem wV_X0_X0_settle : Cond.selects RX0 yX0_settle yX0_settle ∈ wsU := mU 852 (by decide +kernel) rfl
theorem wV_X0_X0_sweepsOn : Cond.selects RX0 yX0_sweepsOn yX0_sweepsOn ∈ wsU := mU 1 (by decide +kernel) rfl
theorem wV_X0_X0_tire : Cond.selects RX0 yX0_tire yX0_tire ∈ wsU := mU 889 (by decide +kernel) rfl
theorem wV_X0_X0_weight : Cond.selects RX0 yX0_weight yX0_weight ∈ wsU := mU 492 (by decide +kernel) rfl
theorem wV_X1_X1_build : Cond.selects RX1 yX1_build yX1_build ∈ wsU := mU 756 (by decide +kernel) rfl
theorem wV_X1_X1_cellAt : Cond.selects RX1 yX1_cellAt yX1_cellAt ∈ wsU := mU 554 (by decide +kernel) rfl
theorem wV_X1_X1_cells : Cond.selects RX1 yX1_cells yX1_cells ∈ wsU := mU 377 (by decide +kernel) rfl
theorem wV_X1_X1_columnOf : Cond.selects RX1 yX1_columnOf yX1_columnOf ∈ wsU := mU 126 (by decide +kernel) rfl
theorem wV_X1_X1_hasCell : Cond.selects RX1 yX1_hasCell yX1_hasCell ∈ wsU := mU 576 (by decide +kernel) rfl
theorem wV_X1_X1_hasPlace : Cond.selects RX1 yX1_hasPlace yX1_hasPlace ∈ wsU := mU 558 (by decide +kernel) rfl
theorem wV_X1_X1_lay : Cond.selects RX1 yX1_lay yX1_lay ∈ wsU := mU 366 (by decide +kernel) rfl
theorem wV_X1_X1_levelOf : Cond.selects RX1 yX1_levelOf yX1_levelOf ∈ wsU := mU 598 (by decide +kernel) rfl
theorem wV_X1_X1_rowOf : Cond.selects RX1 yX1_rowOf yX1_rowOf ∈ wsU := mU 122 (by decide +kernel) rfl
theorem wV_X2_X2_hangOn : Cond.selects RX2 yX2_hangOn yX2_hangOn ∈ wsU := mU 821 (by decide +kernel) rfl
theorem wV_X2_X2_lieOn : Cond.selects RX2 yX2_lieOn yX2_lieOn ∈ wsU := mU 829 (by decide +kernel) rfl
theorem wV_X2_X2_liesOn : Cond.selects RX2 yX2_liesOn yX2_liesOn ∈ wsU := mU 594 (by decide +kernel) rfl
theorem wV_X2_X2_place : Cond.selects RX2 yX2_place yX2_place ∈ wsU := mU 912 (by decide +kernel) rfl
theorem wV_X3_X3_assume : Cond.selects RX3 yX3_assume yX3_assume ∈ wsU := mU 10 (by decide +kernel) rfl
theorem wV_X3_X3_canLift : Cond.selects RX3 yX3_canLift yX3_canLift ∈ wsU := mU 3 (by decide +kernel) rfl
theorem wV_X3_X3_explore : Cond.selects RX3 yX3_explore yX3_explore ∈ wsU := mU 965 (by decide +kernel) rfl
theorem wV_X3_X3_leaverAt : Cond.selects RX3 yX3_leaverAt yX3_leaverAt ∈ wsU := mU 1009 (by decide +kernel) rfl
theorem wV_X3_X3_liftersFrom : Cond.selects RX3 yX3_liftersFrom yX3_liftersFrom ∈ wsU := mU 917 (by decide +kernel) rfl
theorem wV_X3_X3_nextToGo : Cond.selects RX3 yX3_nextToGo yX3_nextToGo ∈ wsU := mU 4 (by decide +kernel) rfl
theorem wV_X3_X3_stepsTo : Cond.selects RX3 yX3_stepsTo yX3_stepsTo ∈ wsU := mU 998 (by decide +kernel) rfl
theorem wV_X3_X3_swings : Cond.selects RX3 yX3_swings yX3_swings ∈ wsU := mU 987 (by decide +kernel) rfl
theorem wV_X3_X3_takeDown : Cond.selects RX3 yX3_takeDown yX3_takeDown ∈ wsU := mU 480 (by decide +kernel) rfl
theorem wV_X3_X3_takersOf : Cond.selects RX3 yX3_takersOf yX3_takersOf ∈ wsU := mU 2 (by decide +kernel) rfl
theorem wV_X5_X5_areCranesSound : Cond.selects RX5 yX5_areCranesSound yX5_areCranesSound ∈ wsU := mU 936 (by decide +kernel) rfl
theorem wV_X5_X5_areLoadsSound : Cond.selects RX5 yX5_areLoadsSound yX5_areLoadsSound ∈ wsU := mU 944 (by decide +kernel) rfl
theorem wV_X5_X5_canBuild : Cond.selects RX5 yX5_canBuild yX5_canBuild ∈ wsU := mU 750 (by decide +kernel) rfl
theorem wV_X5_X5_canFound : Cond.selects RX5 yX5_canFound yX5_canFound ∈ wsU := mU 582 (by decide +kernel) rfl
theorem wV_X5_X5_capacityOf : Cond.selects RX5 yX5_capacityOf yX5_capacityOf ∈ wsU := mU 504 (by decide +kernel) rfl
theorem wV_X5_X5_clashesOf : Cond.selects RX5 yX5_clashesOf yX5_clashesOf ∈ wsU := mU 424 (by decide +kernel) rfl
theorem wV_X5_X5_clashingPairs : Cond.selects RX5 yX5_clashingPairs yX5_clashingPairs ∈ wsU := mU 420 (by decide +kernel) rfl
theorem wV_X5_X5_firstLoadOn : Cond.selects RX5 yX5_firstLoadOn yX5_firstLoadOn ∈ wsU := mU 803 (by decide +kernel) rfl
theorem wV_X5_X5_force : Cond.selects RX5 yX5_force yX5_force ∈ wsU := mU 393 (by decide +kernel) rfl
theorem wV_X5_X5_hangingLoads : Cond.selects RX5 yX5_hangingLoads yX5_hangingLoads ∈ wsU := mU 475 (by decide +kernel) rfl
theorem wV_X5_X5_hindrance : Cond.selects RX5 yX5_hindrance yX5_hindrance ∈ wsU := mU 628 (by decide +kernel) rfl
theorem wV_X5_X5_hour : Cond.selects RX5 yX5_hour yX5_hour ∈ wsU := mU 385 (by decide +kernel) rfl
theorem wV_X5_X5_idle : Cond.selects RX5 yX5_idle yX5_idle ∈ wsU := mU 848 (by decide +kernel) rfl
theorem wV_X5_X5_isShut : Cond.selects RX5 yX5_isShut yX5_isShut ∈ wsU := mU 638 (by decide +kernel) rfl
theorem wV_X5_X5_jibsOver : Cond.selects RX5 yX5_jibsOver yX5_jibsOver ∈ wsU := mU 926 (by decide +kernel) rfl
theorem wV_X5_X5_lay : Cond.selects RX5 yX5_lay yX5_lay ∈ wsU := mU 362 (by decide +kernel) rfl
theorem wV_X5_X5_loadsOn : Cond.selects RX5 yX5_loadsOn yX5_loadsOn ∈ wsU := mU 590 (by decide +kernel) rfl
theorem wV_X5_X5_missesNow : Cond.selects RX5 yX5_missesNow yX5_missesNow ∈ wsU := mU 894 (by decide +kernel) rfl
theorem wV_X5_X5_nearMisses : Cond.selects RX5 yX5_nearMisses yX5_nearMisses ∈ wsU := mU 471 (by decide +kernel) rfl
theorem wV_X5_X5_reasonAgainst : Cond.selects RX5 yX5_reasonAgainst yX5_reasonAgainst ∈ wsU := mU 871 (by decide +kernel) rfl
theorem wV_X5_X5_take : Cond.selects RX5 yX5_take yX5_take ∈ wsU := mU 885 (by decide +kernel) rfl
theorem wV_X5_X5_towerOn : Cond.selects RX5 yX5_towerOn yX5_towerOn ∈ wsU := mU 586 (by decide +kernel) rfl
theorem wV_X5_X5_turnToWind : Cond.selects RX5 yX5_turnToWind yX5_turnToWind ∈ wsU := mU 856 (by decide +kernel) rfl
theorem wV_X5_X5_windBearing : Cond.selects RX5 yX5_windBearing yX5_windBearing ∈ wsU := mU 416 (by decide +kernel) rfl
theorem wV_X5_X5_windNow : Cond.selects RX5 yX5_windNow yX5_windNow ∈ wsU := mU 397 (by decide +kernel) rfl
theorem wV_X6_X6_covers : Cond.selects RX6 yX6_covers yX6_covers ∈ wsU := mU 645 (by decide +kernel) rfl
theorem wV_X6_X6_isShutAt : Cond.selects RX6 yX6_isShutAt yX6_isShutAt ∈ wsU := mU 650 (by decide +kernel) rfl
theorem wV_X7_X7_clash : Cond.selects RX7 yX7_clash yX7_clash ∈ wsU := mU 901 (by decide +kernel) rfl
theorem wV_X7_X7_crane : Cond.selects RX7 yX7_crane yX7_crane ∈ wsU := mU 568 (by decide +kernel) rfl
theorem wV_X7_X7_digest : Cond.selects RX7 yX7_digest yX7_digest ∈ wsU := mU 951 (by decide +kernel) rfl
theorem wV_X7_X7_field : Cond.selects RX7 yX7_field yX7_field ∈ wsU := mU 961 (by decide +kernel) rfl
theorem wV_X7_X7_hand : Cond.selects RX7 yX7_hand yX7_hand ∈ wsU := mU 833 (by decide +kernel) rfl
theorem wV_X7_X7_hang : Cond.selects RX7 yX7_hang yX7_hang ∈ wsU := mU 799 (by decide +kernel) rfl
theorem wV_X7_X7_isSound : Cond.selects RX7 yX7_isSound yX7_isSound ∈ wsU := mU 932 (by decide +kernel) rfl
theorem wV_X7_X7_level : Cond.selects RX7 yX7_level yX7_level ∈ wsU := mU 746 (by decide +kernel) rfl
theorem wV_X7_X7_load : Cond.selects RX7 yX7_load yX7_load ∈ wsU := mU 710 (by decide +kernel) rfl
theorem wV_X7_X7_many : Cond.selects RX7 yX7_many yX7_many ∈ wsU := mU 381 (by decide +kernel) rfl
theorem wV_X7_X7_needCell : Cond.selects RX7 yX7_needCell yX7_needCell ∈ wsU := mU 6 (by decide +kernel) rfl
theorem wV_X7_X7_needCrane : Cond.selects RX7 yX7_needCrane yX7_needCrane ∈ wsU := mU 5 (by decide +kernel) rfl
theorem wV_X7_X7_ofCell : Cond.selects RX7 yX7_ofCell yX7_ofCell ∈ wsU := mU 921 (by decide +kernel) rfl
theorem wV_X7_X7_ofCrane : Cond.selects RX7 yX7_ofCrane yX7_ofCrane ∈ wsU := mU 524 (by decide +kernel) rfl
theorem wV_X7_X7_ofLoad : Cond.selects RX7 yX7_ofLoad yX7_ofLoad ∈ wsU := mU 907 (by decide +kernel) rfl
theorem wV_X7_X7_order : Cond.selects RX7 yX7_order yX7_order ∈ wsU := mU 1004 (by decide +kernel) rfl
theorem wV_X7_X7_rest : Cond.selects RX7 yX7_rest yX7_rest ∈ wsU := mU 843 (by decide +kernel) rfl
theorem wV_X7_X7_set : Cond.selects RX7 yX7_set yX7_set ∈ wsU := mU 825 (by decide +kernel) rfl
theorem wV_X7_X7_step : Cond.selects RX7 yX7_step yX7_step ∈ wsU := mU 880 (by decide +kernel) rfl
theorem wV_X7_X7_swing : Cond.selects RX7 yX7_swing yX7_swing ∈ wsU := mU 983 (by decide +kernel) rfl
theorem wV_X7_X7_way : Cond.selects RX7 yX7_way yX7_way ∈ wsU := mU 994 (by decide +kernel) rfl
theorem wV_X7_X7_wind : Cond.selects RX7 yX7_wind yX7_wind ∈ wsU := mU 760 (by decide +kernel) rfl
theorem wV_X7_X7_would : Cond.selects RX7 yX7_would yX7_would ∈ wsU := mU 867 (by decide +kernel) rfl
theorem wV_X7_X7_yard : Cond.selects RX7 yX7_yard yX7_yard ∈ wsU := mU 287 (by decide +kernel) rfl
theorem wV_X7_X7_zone : Cond.selects RX7 yX7_zone yX7_zone ∈ wsU := mU 767 (by decide +kernel) rfl
theorem wN_IllegalArgumentException : Cond.initialized "java/lang/IllegalArgumentException" ∈ wsU := mU 24 (by decide +kernel) rfl
theorem wN_IllegalStateException : Cond.initialized "java/lang/IllegalStateException" ∈ wsU := mU 31 (by decide +kernel) rfl
theorem wN_IndexOutOfBoundsException : Cond.initialized "java/lang/IndexOutOfBoundsException" ∈ wsU := mU 30 (by decide +kernel) rfl
theorem wN_Math : Cond.initialized "java/lang/Math" ∈ wsU := mU 28 (by decide +kernel) rfl
theorem wN_System : Cond.initialized "java/lang/System" ∈ wsU := mU 33 (by decide +kernel) rfl
theorem wN_J15 : Cond.initialized RJ15 ∈ wsU := mU 26 (by decide +kernel) rfl
theorem wN_J3 : Cond.initialized RJ3 ∈ wsU := mU 27 (by decide +kernel) rfl
theorem wN_J6 : Cond.initialized RJ6 ∈ wsU := mU 29 (by decide +kernel) rfl
theorem wN_J7 : Cond.initialized RJ7 ∈ wsU := mU 25 (by decide +kernel) rfl
theorem wN_J8 : Cond.initialized RJ8 ∈ wsU := mU 32 (by decide +kernel) rfl
theorem wN_Jx4a65c : Cond.initialized RJx4a65c ∈ wsU := mU 17 (by decide +kernel) rfl
theorem wN_Jxa1e45 : Cond.initialized RJxa1e45 ∈ wsU := mU 15 (by decide +kernel) rfl
theorem wN_Jxc12de : Cond.initialized RJxc12de ∈ wsU := mU 16 (by decide +kernel) rfl
theorem wN_L : Cond.initialized RL ∈ wsU := mU 11 (by decide +kernel) rfl
theorem wN_X0 : Cond.initialized RX0 ∈ wsU := mU 19 (by decide +kernel) rfl
theorem wN_X1 : Cond.initialized RX1 ∈ wsU := mU 14 (by decide +kernel) rfl
theorem wN_X2 : Cond.initialized RX2 ∈ wsU := mU 34 (by decide +kernel) rfl
theorem wN_X3 : Cond.initialized RX3 ∈ wsU := mU 20 (by decide +kernel) rfl
theorem wN_X4 : Cond.initialized RX4 ∈ wsU := mU 18 (by decide +kernel) rfl
theorem wN_X5 : Cond.initialized RX5 ∈ wsU := mU 13 (by decide +kernel) rfl
theorem wN_X6 : Cond.initialized RX6 ∈ wsU := mU 35 (by decide +kernel) rfl
theorem wN_X7 : Cond.initialized RX7 ∈ wsU := mU 12 (by decide +kernel) rfl
theorem wX_Jx4a65c : Cond.instantiable RJx4a65c 3 ∈ wsU := mU 70 (by decide +kernel) rfl
theorem wX_X0 : Cond.instantiable RX0 16 ∈ wsU := mU 115 (by decide +kernel) rfl
theorem wX_X1 : Cond.instantiable RX1 3 ∈ wsU := mU 47 (by decide +kernel) rfl
theorem wX_X2 : Cond.instantiable RX2 4 ∈ wsU := mU 715 (by decide +kernel) rfl
theorem wX_X3 : Cond.instantiable RX3 6 ∈ wsU := mU 251 (by decide +kernel) rfl
theorem wX_X4 : Cond.instantiable RX4 3 ∈ wsU := mU 96 (by decide +kernel) rfl
theorem wX_X5 : Cond.instantiable RX5 10 ∈ wsU := mU 45 (by decide +kernel) rfl
theorem wX_X6 : Cond.instantiable RX6 6 ∈ wsU := mU 773 (by decide +kernel) rfl
theorem wX_X7 : Cond.instantiable RX7 3 ∈ wsU := mU 37 (by decide +kernel) rfl
theorem wK_J6_265 : Cond.constant RJ6 265 (1431655765) ∈ wsU := mU 466 (by decide +kernel) rfl
theorem wK_J6_266 : Cond.constant RJ6 266 (858993459) ∈ wsU := mU 467 (by decide +kernel) rfl
theorem wK_J6_267 : Cond.constant RJ6 267 (252645135) ∈ wsU := mU 468 (by decide +kernel) rfl
theorem wK_J8_200 : Cond.constant RJ8 200 (2147483639) ∈ wsU := mU 673 (by decide +kernel) rfl
theorem wK_L_7 : Cond.constant RL 7 (2147483647) ∈ wsU := mU 514 (by decide +kernel) rfl
theorem wK_L_8 : Cond.constant RL 8 (790386105) ∈ wsU := mU 518 (by decide +kernel) rfl
theorem wK_X7_353 : Cond.constantLong RX7 353 (8821) ∈ wsU := mU 953 (by decide +kernel) rfl
theorem wK_X7_355 : Cond.constantLong RX7 355 (31) ∈ wsU := mU 954 (by decide +kernel) rfl
theorem wA_int : Cond.arrayClass .int ∈ wsU := mU 64 (by decide +kernel) rfl
theorem nF_X7_42 : Cond.fieldLinkNest RX7 42 "Slewyard$Site" "ground" "LSlewyard$Ground;" "Slewyard" ∈ lw_tbl := List.mem_of_getElem? (i := 209) (by decide +kernel)
theorem nF_X7_72 : Cond.fieldLinkNest RX7 72 "Slewyard$Site" "reports" "Ljava/util/ArrayList;" "Slewyard" ∈ lw_tbl := List.mem_of_getElem? (i := 212) (by decide +kernel)
theorem nF_X7_97 : Cond.fieldLinkNest RX7 97 "Slewyard$Ground" "wide" "I" "Slewyard" ∈ lw_tbl := List.mem_of_getElem? (i := 54) (by decide +kernel)
theorem nF_X7_100 : Cond.fieldLinkNest RX7 100 "Slewyard$Ground" "high" "I" "Slewyard" ∈ lw_tbl := List.mem_of_getElem? (i := 56) (by decide +kernel)
theorem nF_X7_103 : Cond.fieldLinkNest RX7 103 "Slewyard$Site" "zones" "Ljava/util/ArrayList;" "Slewyard" ∈ lw_tbl := List.mem_of_getElem? (i := 214) (by decide +kernel)
theorem nF_X7_113 : Cond.fieldLinkNest RX7 113 "Slewyard$Site" "loads" "Ljava/util/ArrayList;" "Slewyard" ∈ lw_tbl := List.mem_of_getElem? (i := 219) (by decide +kernel)
theorem nF_X7_124 : Cond.fieldLinkNest RX7 124 "Slewyard$Site" "cranes" "Ljava/util/ArrayList;" "Slewyard" ∈ lw_tbl := List.mem_of_getElem? (i := 217) (by decide +kernel)
theorem nF_X7_151 : Cond.fieldLinkNest RX7 151 "Slewyard$Site" "time" "I" "Slewyard" ∈ lw_tbl := List.mem_of_getElem? (i := 224) (by decide +kernel)
theorem nF_X7_164 : Cond.fieldLinkNest RX7 164 "Slewyard$Site" "notTaken" "I" "Slewyard" ∈ lw_tbl := List.mem_of_getElem? (i := 228) (by decide +kernel)
theorem nF_X7_174 : Cond.fieldLinkNest RX7 174 "Slewyard$Crane" "load" "LSlewyard$Load;" "Slewyard" ∈ lw_tbl := List.mem_of_getElem? (i := 170) (by decide +kernel)
theorem nF_X7_182 : Cond.fieldLinkNest RX7 182 "Slewyard$Load" "weight" "I" "Slewyard" ∈ lw_tbl := List.mem_of_getElem? (i := 723) (by decide +kernel)
theorem nF_X7_185 : Cond.fieldLinkNest RX7 185 "Slewyard$Crane" "radius" "I" "Slewyard" ∈ lw_tbl := List.mem_of_getElem? (i := 158) (by decide +kernel)
theorem nF_X7_195 : Cond.fieldLinkNest RX7 195 "Slewyard$Load" "number" "I" "Slewyard" ∈ lw_tbl := List.mem_of_getElem? (i := 721) (by decide +kernel)
theorem nF_X7_224 : Cond.fieldLinkNest RX7 224 "Slewyard$Crane" "tower" "I" "Slewyard" ∈ lw_tbl := List.mem_of_getElem? (i := 136) (by decide +kernel)
theorem nF_X7_227 : Cond.fieldLinkNest RX7 227 "Slewyard$Crane" "mast" "I" "Slewyard" ∈ lw_tbl := List.mem_of_getElem? (i := 143) (by decide +kernel)
theorem nF_X7_230 : Cond.fieldLinkNest RX7 230 "Slewyard$Crane" "reach" "I" "Slewyard" ∈ lw_tbl := List.mem_of_getElem? (i := 146) (by decide +kernel)
theorem nF_X7_233 : Cond.fieldLinkNest RX7 233 "Slewyard$Crane" "moment" "I" "Slewyard" ∈ lw_tbl := List.mem_of_getElem? (i := 148) (by decide +kernel)
theorem nF_X7_236 : Cond.fieldLinkNest RX7 236 "Slewyard$Crane" "bearing" "I" "Slewyard" ∈ lw_tbl := List.mem_of_getElem? (i := 152) (by decide +kernel)
theorem nF_X7_239 : Cond.fieldLinkNest RX7 239 "Slewyard$Crane" "hook" "I" "Slewyard" ∈ lw_tbl := List.mem_of_getElem? (i := 161) (by decide +kernel)
theorem nF_X7_242 : Cond.fieldLinkNest RX7 242 "Slewyard$Crane" "sway" "I" "Slewyard" ∈ lw_tbl := List.mem_of_getElem? (i := 164) (by decide +kernel)
theorem nF_X7_245 : Cond.fieldLinkNest RX7 245 "Slewyard$Crane" "work" "I" "Slewyard" ∈ lw_tbl := List.mem_of_getElem? (i := 166) (by decide +kernel)
theorem nF_X7_248 : Cond.fieldLinkNest RX7 248 "Slewyard$Crane" "arm" "I" "Slewyard" ∈ lw_tbl := List.mem_of_getElem? (i := 155) (by decide +kernel)
theorem nF_X7_255 : Cond.fieldLinkNest RX7 255 "Slewyard$Crane" "nearMisses" "I" "Slewyard" ∈ lw_tbl := List.mem_of_getElem? (i := 173) (by decide +kernel)
theorem nF_X7_270 : Cond.fieldLinkNest RX7 270 "Slewyard$Load" "carrier" "LSlewyard$Crane;" "Slewyard" ∈ lw_tbl := List.mem_of_getElem? (i := 728) (by decide +kernel)
theorem nF_X7_274 : Cond.fieldLinkNest RX7 274 "Slewyard$Crane" "number" "I" "Slewyard" ∈ lw_tbl := List.mem_of_getElem? (i := 131) (by decide +kernel)
theorem nF_X7_321 : Cond.fieldLinkNest RX7 321 "Slewyard$Site" "taken" "I" "Slewyard" ∈ lw_tbl := List.mem_of_getElem? (i := 226) (by decide +kernel)
theorem nF_X0_97 : Cond.fieldLinkNest RX0 97 "Slewyard" "ROW_STEPS" "[I" "Slewyard" ∈ lw_tbl := List.mem_of_getElem? (i := 438) (by decide +kernel)
theorem nF_X0_101 : Cond.fieldLinkNest RX0 101 "Slewyard" "COLUMN_STEPS" "[I" "Slewyard" ∈ lw_tbl := List.mem_of_getElem? (i := 444) (by decide +kernel)
theorem nF_X2_29 : Cond.fieldLinkNest RX2 29 "Slewyard$Crane" "load" "LSlewyard$Load;" "Slewyard" ∈ lw_tbl := List.mem_of_getElem? (i := 169) (by decide +kernel)
theorem nF_X3_28 : Cond.fieldLinkNest RX3 28 "Slewyard$Site" "trial" "LSlewyard$Crane;" "Slewyard" ∈ lw_tbl := List.mem_of_getElem? (i := 221) (by decide +kernel)
theorem nF_X3_69 : Cond.fieldLinkNest RX3 69 "Slewyard$Crane" "bearing" "I" "Slewyard" ∈ lw_tbl := List.mem_of_getElem? (i := 151) (by decide +kernel)
theorem nF_X3_73 : Cond.fieldLinkNest RX3 73 "Slewyard$Crane" "radius" "I" "Slewyard" ∈ lw_tbl := List.mem_of_getElem? (i := 157) (by decide +kernel)
theorem nF_X3_79 : Cond.fieldLinkNest RX3 79 "Slewyard$Site" "cranes" "Ljava/util/ArrayList;" "Slewyard" ∈ lw_tbl := List.mem_of_getElem? (i := 216) (by decide +kernel)
theorem nF_X3_96 : Cond.fieldLinkNest RX3 96 "Slewyard$Site" "ground" "LSlewyard$Ground;" "Slewyard" ∈ lw_tbl := List.mem_of_getElem? (i := 210) (by decide +kernel)
theorem nF_X3_106 : Cond.fieldLinkNest RX3 106 "Slewyard$Crane" "row" "I" "Slewyard" ∈ lw_tbl := List.mem_of_getElem? (i := 138) (by decide +kernel)
theorem nF_X3_117 : Cond.fieldLinkNest RX3 117 "Slewyard$Crane" "column" "I" "Slewyard" ∈ lw_tbl := List.mem_of_getElem? (i := 140) (by decide +kernel)
theorem nF_X3_124 : Cond.fieldLinkNest RX3 124 "Slewyard$Crane" "reach" "I" "Slewyard" ∈ lw_tbl := List.mem_of_getElem? (i := 145) (by decide +kernel)
theorem nF_X3_140 : Cond.fieldLinkNest RX3 140 "Slewyard$Crane" "mast" "I" "Slewyard" ∈ lw_tbl := List.mem_of_getElem? (i := 142) (by decide +kernel)
theorem nF_X3_143 : Cond.fieldLinkNest RX3 143 "Slewyard$Crane" "number" "I" "Slewyard" ∈ lw_tbl := List.mem_of_getElem? (i := 130) (by decide +kernel)
theorem nF_X3_146 : Cond.fieldLinkNest RX3 146 "Slewyard$Crane" "tower" "I" "Slewyard" ∈ lw_tbl := List.mem_of_getElem? (i := 135) (by decide +kernel)
theorem nF_X5_76 : Cond.fieldLinkNest RX5 76 "Slewyard$Report" "time" "I" "Slewyard" ∈ lw_tbl := List.mem_of_getElem? (i := 102) (by decide +kernel)
theorem nF_X5_81 : Cond.fieldLinkNest RX5 81 "Slewyard$Report" "force" "I" "Slewyard" ∈ lw_tbl := List.mem_of_getElem? (i := 104) (by decide +kernel)
theorem nF_X5_84 : Cond.fieldLinkNest RX5 84 "Slewyard$Report" "bearing" "I" "Slewyard" ∈ lw_tbl := List.mem_of_getElem? (i := 106) (by decide +kernel)
theorem nF_X5_107 : Cond.fieldLinkNest RX5 107 "Slewyard$Crane" "tower" "I" "Slewyard" ∈ lw_tbl := List.mem_of_getElem? (i := 134) (by decide +kernel)
theorem nF_X5_115 : Cond.fieldLinkNest RX5 115 "Slewyard$Load" "carrier" "LSlewyard$Crane;" "Slewyard" ∈ lw_tbl := List.mem_of_getElem? (i := 727) (by decide +kernel)
theorem nF_X5_131 : Cond.fieldLinkNest RX5 131 "Slewyard$Crane" "load" "LSlewyard$Load;" "Slewyard" ∈ lw_tbl := List.mem_of_getElem? (i := 171) (by decide +kernel)
theorem nF_X5_135 : Cond.fieldLinkNest RX5 135 "Slewyard$Crane" "hook" "I" "Slewyard" ∈ lw_tbl := List.mem_of_getElem? (i := 162) (by decide +kernel)
theorem nF_X5_146 : Cond.fieldLinkNest RX5 146 "Slewyard$Crane" "moment" "I" "Slewyard" ∈ lw_tbl := List.mem_of_getElem? (i := 149) (by decide +kernel)
theorem nF_X5_149 : Cond.fieldLinkNest RX5 149 "Slewyard$Crane" "number" "I" "Slewyard" ∈ lw_tbl := List.mem_of_getElem? (i := 132) (by decide +kernel)
theorem nF_X5_165 : Cond.fieldLinkNest RX5 165 "Slewyard$Crane" "nearMisses" "I" "Slewyard" ∈ lw_tbl := List.mem_of_getElem? (i := 174) (by decide +kernel)
theorem nF_X5_172 : Cond.fieldLinkNest RX5 172 "Slewyard$Load" "weight" "I" "Slewyard" ∈ lw_tbl := List.mem_of_getElem? (i := 724) (by decide +kernel)
theorem nF_X5_175 : Cond.fieldLinkNest RX5 175 "Slewyard$Crane" "radius" "I" "Slewyard" ∈ lw_tbl := List.mem_of_getElem? (i := 159) (by decide +kernel)
theorem nF_X5_198 : Cond.fieldLinkNest RX5 198 "Slewyard$Crane" "work" "I" "Slewyard" ∈ lw_tbl := List.mem_of_getElem? (i := 167) (by decide +kernel)
theorem nF_X5_216 : Cond.fieldLinkNest RX5 216 "Slewyard$Crane" "bearing" "I" "Slewyard" ∈ lw_tbl := List.mem_of_getElem? (i := 153) (by decide +kernel)
theorem nM_X7_13 : Cond.methodLinkNest RX7 13 ⟨"Slewyard$Ground", "<init>", "()V"⟩ "Slewyard" ∈ lw_tbl := List.mem_of_getElem? (i := 48) (by decide +kernel)
theorem nC_294 : Cond.castable "java/lang/IllegalArgumentException" "java/lang/IllegalArgumentException" ∈ lw_tbl := List.mem_of_getElem? (i := 294) (by decide +kernel)
theorem nS_382 : Cond.stringRef "Slewyard" 382 "out of its bounds" ∈ lw_tbl := List.mem_of_getElem? (i := 333) (by decide +kernel)
theorem nC_532 : Cond.castable "java/lang/IndexOutOfBoundsException" "java/lang/IndexOutOfBoundsException" ∈ lw_tbl := List.mem_of_getElem? (i := 532) (by decide +kernel)
theorem nS_389 : Cond.stringRef "Slewyard" 389 "no such crane" ∈ lw_tbl := List.mem_of_getElem? (i := 539) (by decide +kernel)
theorem nS_387 : Cond.stringRef "Slewyard" 387 "no such cell" ∈ lw_tbl := List.mem_of_getElem? (i := 579) (by decide +kernel)
theorem nC_602 : Cond.castable "java/lang/IllegalStateException" "java/lang/IllegalStateException" ∈ lw_tbl := List.mem_of_getElem? (i := 602) (by decide +kernel)
theorem nS_131 : Cond.stringRef "Slewyard" 131 "no more cranes, or none there" ∈ lw_tbl := List.mem_of_getElem? (i := 609) (by decide +kernel)
theorem nS_145 : Cond.stringRef "Slewyard" 145 "no room for it" ∈ lw_tbl := List.mem_of_getElem? (i := 652) (by decide +kernel)
theorem nS_119 : Cond.stringRef "Slewyard" 119 "no more loads, or none there" ∈ lw_tbl := List.mem_of_getElem? (i := 713) (by decide +kernel)
theorem nS_60 : Cond.stringRef "Slewyard" 60 "something stands, lies or hangs in the way" ∈ lw_tbl := List.mem_of_getElem? (i := 752) (by decide +kernel)
theorem nS_81 : Cond.stringRef "Slewyard" 81 "no more reports of the wind" ∈ lw_tbl := List.mem_of_getElem? (i := 762) (by decide +kernel)
theorem nS_106 : Cond.stringRef "Slewyard" 106 "no more zones" ∈ lw_tbl := List.mem_of_getElem? (i := 771) (by decide +kernel)
theorem nS_203 : Cond.stringRef "Slewyard" 203 "a crane can not hand to itself" ∈ lw_tbl := List.mem_of_getElem? (i := 835) (by decide +kernel)
theorem nS_213 : Cond.stringRef "Slewyard" 213 "there is not so much time" ∈ lw_tbl := List.mem_of_getElem? (i := 845) (by decide +kernel)
theorem nS_154 : Cond.stringRef "Slewyard" 154 "the time is over" ∈ lw_tbl := List.mem_of_getElem? (i := 882) (by decide +kernel)
theorem nS_288 : Cond.stringRef "Slewyard" 288 "a crane can not clash with itself" ∈ lw_tbl := List.mem_of_getElem? (i := 903) (by decide +kernel)
theorem nS_260 : Cond.stringRef "Slewyard" 260 "no such load" ∈ lw_tbl := List.mem_of_getElem? (i := 909) (by decide +kernel)
theorem nS_302 : Cond.stringRef "Slewyard" 302 "no such place" ∈ lw_tbl := List.mem_of_getElem? (i := 1006) (by decide +kernel)
theorem nC_1012 : Cond.castable "Slewyard" "java/lang/Object" ∈ lw_tbl := List.mem_of_getElem? (i := 1012) (by decide +kernel)
theorem nC_1013 : Cond.castable "Slewyard$Site" "java/lang/Object" ∈ lw_tbl := List.mem_of_getElem? (i := 1013) (by decide +kernel)
theorem nC_1014 : Cond.castable "Slewyard$Ground" "java/lang/Object" ∈ lw_tbl := List.mem_of_getElem? (i := 1014) (by decide +kernel)
theorem nC_1015 : Cond.castable "java/util/ArrayList" "java/lang/Object" ∈ lw_tbl := List.mem_of_getElem? (i := 1015) (by decide +kernel)
theorem nC_1016 : Cond.castable "Slewyard$Report" "java/lang/Object" ∈ lw_tbl := List.mem_of_getElem? (i := 1016) (by decide +kernel)
theorem nC_1017 : Cond.castable "Slewyard$Crane" "java/lang/Object" ∈ lw_tbl := List.mem_of_getElem? (i := 1017) (by decide +kernel)
theorem nC_1018 : Cond.castable "Slewyard$Plans" "java/lang/Object" ∈ lw_tbl := List.mem_of_getElem? (i := 1018) (by decide +kernel)
theorem nC_1019 : Cond.castable "java/lang/IllegalArgumentException" "java/lang/Object" ∈ lw_tbl := List.mem_of_getElem? (i := 1019) (by decide +kernel)
theorem nC_1020 : Cond.castable "java/lang/IndexOutOfBoundsException" "java/lang/Object" ∈ lw_tbl := List.mem_of_getElem? (i := 1020) (by decide +kernel)
theorem nC_1021 : Cond.castable "java/lang/IllegalStateException" "java/lang/Object" ∈ lw_tbl := List.mem_of_getElem? (i := 1021) (by decide +kernel)
theorem nC_1022 : Cond.castable "Slewyard$Load" "java/lang/Object" ∈ lw_tbl := List.mem_of_getElem? (i := 1022) (by decide +kernel)
theorem nC_1023 : Cond.castable "Slewyard$Zone" "java/lang/Object" ∈ lw_tbl := List.mem_of_getElem? (i := 1023) (by decide +kernel)
theorem nC_1024 : Cond.castable "java/lang/Throwable" "java/lang/Object" ∈ lw_tbl := List.mem_of_getElem? (i := 1024) (by decide +kernel)
theorem nC_1025 : Cond.castable "java/lang/String" "java/lang/Object" ∈ lw_tbl := List.mem_of_getElem? (i := 1025) (by decide +kernel)
theorem nC_1029 : Cond.castable "[I" "java/lang/Object" ∈ lw_tbl := List.mem_of_getElem? (i := 1029) (by decide +kernel)
theorem nC_1030 : Cond.castable "[B" "java/lang/Object" ∈ lw_tbl := List.mem_of_getElem? (i := 1030) (by decide +kernel)
theorem nC_1031 : Cond.castable "[Ljava/lang/Object;" "java/lang/Object" ∈ lw_tbl := List.mem_of_getElem? (i := 1031) (by decide +kernel)
theorem inU_Jx4a65c : ∀ w ∈ wsJx4a65c0, w ∈ wsU := inU_of [92, 88, 90] (by decide +kernel) (by decide +kernel)
theorem inU_X0 : ∀ w ∈ wsX00, w ∈ wsU := inU_of [175, 177, 179, 181, 183, 185, 187, 189, 191, 193, 195, 197, 199, 201, 203, 205] (by decide +kernel) (by decide +kernel)
theorem inU_X1 : ∀ w ∈ wsX10, w ∈ wsU := inU_of [57, 59, 61] (by decide +kernel) (by decide +kernel)
theorem inU_X2 : ∀ w ∈ wsX20, w ∈ wsU := inU_of [729, 731, 733, 735] (by decide +kernel) (by decide +kernel)
theorem inU_X3 : ∀ w ∈ wsX30, w ∈ wsU := inU_of [262, 264, 266, 268, 270, 272] (by decide +kernel) (by decide +kernel)
theorem inU_X4 : ∀ w ∈ wsX40, w ∈ wsU := inU_of [107, 109, 111] (by decide +kernel) (by decide +kernel)
theorem inU_X5 : ∀ w ∈ wsX50, w ∈ wsU := inU_of [229, 231, 233, 235, 237, 239, 241, 243, 245, 247] (by decide +kernel) (by decide +kernel)
theorem inU_X6 : ∀ w ∈ wsX60, w ∈ wsU := inU_of [784, 786, 788, 790, 792, 794] (by decide +kernel) (by decide +kernel)
theorem inU_X7 : ∀ w ∈ wsX70, w ∈ wsU := inU_of [278, 280, 282] (by decide +kernel) (by decide +kernel)
end
section
/-! the pool: what the objects of a run hold, by address: L the addresses, K their kinds (0 Crane, 1 Ground, 2 Load, 3 Plans, 4 Report, 5 Site, 6 Zone, 7 Slewyard, 8 ArrayList, 9 int array, 10 array of references), I whole-number fields by number of the field, R references that stay, M those that change (what hangs, who carries), E a list's array, Z a list's size, N arrays' lengths, A rows of ints, O rows of references -/
abbrev PS : Type := List Nat × (Nat → Nat) × (Nat → Nat → Int32) × (Nat → Nat → Option Nat) × (Nat → Nat → Option Nat) × (Nat → Option Nat) × (Nat → Nat) × (Nat → Nat) × (Nat → Nat → Int32) × (Nat → Nat → Option Nat)
abbrev sL (S : PS) : List Nat := S.1
abbrev sK (S : PS) : Nat → Nat := S.2.1
abbrev sI (S : PS) : Nat → Nat → Int32 := S.2.2.1
abbrev sR (S : PS) : Nat → Nat → Option Nat := S.2.2.2.1
abbrev sM (S : PS) : Nat → Nat → Option Nat := S.2.2.2.2.1
abbrev sE (S : PS) : Nat → Option Nat := S.2.2.2.2.2.1
abbrev sZ (S : PS) : Nat → Nat := S.2.2.2.2.2.2.1
abbrev sN (S : PS) : Nat → Nat := S.2.2.2.2.2.2.2.1
abbrev sA (S : PS) : Nat → Nat → Int32 := S.2.2.2.2.2.2.2.2.1
abbrev sO (S : PS) : Nat → Nat → Option Nat := S.2.2.2.2.2.2.2.2.2
def up2 {α : Type} (g : Nat → Nat → α) (f a : Nat) (v : α) : Nat → Nat → α := fun k b => if k = f then (if b = a then v else g k b) else g k b
abbrev uI (S : PS) (f a : Nat) (v : Int32) : PS := (sL S, sK S, up2 (sI S) f a v, sR S, sM S, sE S, sZ S, sN S, sA S, sO S)
abbrev uR (S : PS) (f a : Nat) (v : Option Nat) : PS := (sL S, sK S, sI S, up2 (sR S) f a v, sM S, sE S, sZ S, sN S, sA S, sO S)
abbrev uM (S : PS) (f a : Nat) (v : Option Nat) : PS := (sL S, sK S, sI S, sR S, up2 (sM S) f a v, sE S, sZ S, sN S, sA S, sO S)
abbrev uE (S : PS) (a : Nat) (v : Option Nat) : PS := (sL S, sK S, sI S, sR S, sM S, va_up (sE S) a v, sZ S, sN S, sA S, sO S)
abbrev uZ (S : PS) (a : Nat) (v : Nat) : PS := (sL S, sK S, sI S, sR S, sM S, sE S, va_up (sZ S) a v, sN S, sA S, sO S)
abbrev uA (S : PS) (a : Nat) (v : Nat → Int32) : PS := (sL S, sK S, sI S, sR S, sM S, sE S, sZ S, sN S, va_up (sA S) a v, sO S)
abbrev uO (S : PS) (a : Nat) (v : Nat → Option Nat) : PS := (sL S, sK S, sI S, sR S, sM S, sE S, sZ S, sN S, sA S, va_up (sO S) a v)
/-- a new object of kind k -/
abbrev nw (S : PS) (a k : Nat) : PS := (sL S ++ [a], va_up (sK S) a k, fun f => va_up (sI S f) a 0, fun f => va_up (sR S f) a none, fun f => va_up (sM S f) a none, va_up (sE S) a none, va_up (sZ S) a 0, sN S, sA S, sO S)
/-- a new int array of n places -/
abbrev nwA (S : PS) (a n : Nat) (r : Nat → Int32) : PS := (sL S ++ [a], va_up (sK S) a 9, sI S, sR S, sM S, sE S, sZ S, va_up (sN S) a n, va_up (sA S) a r, sO S)
/-- a new array of references of n places -/
abbrev nwO (S : PS) (a n : Nat) (r : Nat → Option Nat) : PS := (sL S ++ [a], va_up (sK S) a 10, sI S, sR S, sM S, sE S, sZ S, va_up (sN S) a n, sA S, va_up (sO S) a r)
theorem up2_s {α : Type} (g : Nat → Nat → α) (f a : Nat) (v : α) : up2 g f a v f a = v := by simp [up2]
theorem up2_f {α : Type} (g : Nat → Nat → α) {f f' : Nat} (a b : Nat) (v : α) (h : f' ≠ f) : up2 g f a v f' b = g f' b := by simp [up2, h]
theorem up2_a {α : Type} (g : Nat → Nat → α) (f f' : Nat) {a b : Nat} (v : α) (h : b ≠ a) : up2 g f a v f' b = g f' b := by simp [up2, h]
/-- what outlives a run's calls: the classes' numbers, the addresses ahead of which all is older, the static arrays -/
abbrev EV : Type := va_G × ClassId × ClassId × Nat × Nat × Nat × Nat
def pF (E : EV) (S : PS) (a : Nat) : va_E := if sK S a = 0 then .inr (1, [va_rf (sR S 0 a), .int (sI S 1 a), .int (sI S 2 a), .int (sI S 3 a), .int (sI S 4 a), .int (sI S 5 a), .int (sI S 6 a), .int (sI S 7 a), .int (sI S 8 a), .int (sI S 9 a), .int (sI S 10 a), .int (sI S 11 a), .int (sI S 12 a), .int (sI S 13 a), va_rf (sM S 14 a), .int (sI S 15 a)]) else if sK S a = 1 then .inr (2, [va_rf (sR S 16 a), .int (sI S 17 a), .int (sI S 18 a)]) else if sK S a = 2 then .inr (3, [.int (sI S 19 a), .int (sI S 20 a), .int (sI S 21 a), va_rf (sM S 22 a)]) else if sK S a = 3 then .inr (4, [va_rf (sR S 23 a), va_rf (sR S 24 a), va_rf (sR S 25 a), va_rf (sR S 26 a), va_rf (sR S 27 a), va_rf (sR S 28 a)]) else if sK S a = 4 then .inr (5, [.int (sI S 29 a), .int (sI S 30 a), .int (sI S 31 a)]) else if sK S a = 5 then .inr (6, [va_rf (sR S 32 a), va_rf (sR S 33 a), va_rf (sR S 34 a), va_rf (sR S 35 a), va_rf (sR S 36 a), va_rf (sR S 37 a), va_rf (sR S 38 a), .int (sI S 39 a), .int (sI S 40 a), .int (sI S 41 a)]) else if sK S a = 6 then .inr (7, [.int (sI S 42 a), .int (sI S 43 a), .int (sI S 44 a), .int (sI S 45 a), .int (sI S 46 a), .int (sI S 47 a)]) else if sK S a = 7 then .inr (8, [va_rf (sR S 48 a), va_rf (sR S 49 a), .int (sI S 50 a)]) else if sK S a = 8 then .inr (0, [.int (sI S 51 a), va_rf (sE S a), .int (nI (sZ S a))]) else if sK S a = 9 then .inl (E.2.1, sN S a, .inl (sA S a)) else .inl (E.2.2.1, sN S a, .inr (.inr (.inr (.inr (sO S a)))))
abbrev pool (E : EV) (S : PS) : va_W := va_pl (sL S) (pF E S)
theorem pAt_0 (E : EV) (S : PS) {a : Nat} (h : sK S a = 0) : pF E S a = .inr (1, [va_rf (sR S 0 a), .int (sI S 1 a), .int (sI S 2 a), .int (sI S 3 a), .int (sI S 4 a), .int (sI S 5 a), .int (sI S 6 a), .int (sI S 7 a), .int (sI S 8 a), .int (sI S 9 a), .int (sI S 10 a), .int (sI S 11 a), .int (sI S 12 a), .int (sI S 13 a), va_rf (sM S 14 a), .int (sI S 15 a)]) := by simp [pF, h]
theorem pAt_1 (E : EV) (S : PS) {a : Nat} (h : sK S a = 1) : pF E S a = .inr (2, [va_rf (sR S 16 a), .int (sI S 17 a), .int (sI S 18 a)]) := by simp [pF, h]
theorem pAt_2 (E : EV) (S : PS) {a : Nat} (h : sK S a = 2) : pF E S a = .inr (3, [.int (sI S 19 a), .int (sI S 20 a), .int (sI S 21 a), va_rf (sM S 22 a)]) := by simp [pF, h]
theorem pAt_3 (E : EV) (S : PS) {a : Nat} (h : sK S a = 3) : pF E S a = .inr (4, [va_rf (sR S 23 a), va_rf (sR S 24 a), va_rf (sR S 25 a), va_rf (sR S 26 a), va_rf (sR S 27 a), va_rf (sR S 28 a)]) := by simp [pF, h]
theorem pAt_4 (E : EV) (S : PS) {a : Nat} (h : sK S a = 4) : pF E S a = .inr (5, [.int (sI S 29 a), .int (sI S 30 a), .int (sI S 31 a)]) := by simp [pF, h]
theorem pAt_5 (E : EV) (S : PS) {a : Nat} (h : sK S a = 5) : pF E S a = .inr (6, [va_rf (sR S 32 a), va_rf (sR S 33 a), va_rf (sR S 34 a), va_rf (sR S 35 a), va_rf (sR S 36 a), va_rf (sR S 37 a), va_rf (sR S 38 a), .int (sI S 39 a), .int (sI S 40 a), .int (sI S 41 a)]) := by simp [pF, h]
theorem pAt_6 (E : EV) (S : PS) {a : Nat} (h : sK S a = 6) : pF E S a = .inr (7, [.int (sI S 42 a), .int (sI S 43 a), .int (sI S 44 a), .int (sI S 45 a), .int (sI S 46 a), .int (sI S 47 a)]) := by simp [pF, h]
theorem pAt_7 (E : EV) (S : PS) {a : Nat} (h : sK S a = 7) : pF E S a = .inr (8, [va_rf (sR S 48 a), va_rf (sR S 49 a), .int (sI S 50 a)]) := by simp [pF, h]
theorem pAt_8 (E : EV) (S : PS) {a : Nat} (h : sK S a = 8) : pF E S a = .inr (0, [.int (sI S 51 a), va_rf (sE S a), .int (nI (sZ S a))]) := by simp [pF, h]
theorem pAt_9 (E : EV) (S : PS) {a : Nat} (h : sK S a = 9) : pF E S a = .inl (E.2.1, sN S a, .inl (sA S a)) := by simp [pF, h]
theorem pAt_10 (E : EV) (S : PS) {a : Nat} (h : sK S a = 10) : pF E S a = .inl (E.2.2.1, sN S a, .inr (.inr (.inr (.inr (sO S a))))) := by simp [pF, h]
theorem pUp_0 (E : EV) (S : PS) {a : Nat} (h : sK S a = 0) (v : Option Nat) (b : Nat) : va_up (pF E S) a (.inr (1, [va_rf v, .int (sI S 1 a), .int (sI S 2 a), .int (sI S 3 a), .int (sI S 4 a), .int (sI S 5 a), .int (sI S 6 a), .int (sI S 7 a), .int (sI S 8 a), .int (sI S 9 a), .int (sI S 10 a), .int (sI S 11 a), .int (sI S 12 a), .int (sI S 13 a), va_rf (sM S 14 a), .int (sI S 15 a)])) b = pF E (uR S 0 a v) b := by
  have h2 : S.2.1 a = 0 := h
  by_cases hb : b = a
  · subst hb; simp [pF, va_up, up2, sL, sK, sI, sR, sM, sE, sZ, sN, sA, sO, h2]
  · simp [pF, va_up, up2, sL, sK, sI, sR, sM, sE, sZ, sN, sA, sO, hb]
theorem pUp_1 (E : EV) (S : PS) {a : Nat} (h : sK S a = 0) (v : Int32) (b : Nat) : va_up (pF E S) a (.inr (1, [va_rf (sR S 0 a), .int v, .int (sI S 2 a), .int (sI S 3 a), .int (sI S 4 a), .int (sI S 5 a), .int (sI S 6 a), .int (sI S 7 a), .int (sI S 8 a), .int (sI S 9 a), .int (sI S 10 a), .int (sI S 11 a), .int (sI S 12 a), .int (sI S 13 a), va_rf (sM S 14 a), .int (sI S 15 a)])) b = pF E (uI S 1 a v) b := by
  have h2 : S.2.1 a = 0 := h
  by_cases hb : b = a
  · subst hb; simp [pF, va_up, up2, sL, sK, sI, sR, sM, sE, sZ, sN, sA, sO, h2]
  · simp [pF, va_up, up2, sL, sK, sI, sR, sM, sE, sZ, sN, sA, sO, hb]
theorem pUp_2 (E : EV) (S : PS) {a : Nat} (h : sK S a = 0) (v : Int32) (b : Nat) : va_up (pF E S) a (.inr (1, [va_rf (sR S 0 a), .int (sI S 1 a), .int v, .int (sI S 3 a), .int (sI S 4 a), .int (sI S 5 a), .int (sI S 6 a), .int (sI S 7 a), .int (sI S 8 a), .int (sI S 9 a), .int (sI S 10 a), .int (sI S 11 a), .int (sI S 12 a), .int (sI S 13 a), va_rf (sM S 14 a), .int (sI S 15 a)])) b = pF E (uI S 2 a v) b := by
  have h2 : S.2.1 a = 0 := h
  by_cases hb : b = a
  · subst hb; simp [pF, va_up, up2, sL, sK, sI, sR, sM, sE, sZ, sN, sA, sO, h2]
  · simp [pF, va_up, up2, sL, sK, sI, sR, sM, sE, sZ, sN, sA, sO, hb]
theorem pUp_3 (E : EV) (S : PS) {a : Nat} (h : sK S a = 0) (v : Int32) (b : Nat) : va_up (pF E S) a (.inr (1, [va_rf (sR S 0 a), .int (sI S 1 a), .int (sI S 2 a), .int v, .int (sI S 4 a), .int (sI S 5 a), .int (sI S 6 a), .int (sI S 7 a), .int (sI S 8 a), .int (sI S 9 a), .int (sI S 10 a), .int (sI S 11 a), .int (sI S 12 a), .int (sI S 13 a), va_rf (sM S 14 a), .int (sI S 15 a)])) b = pF E (uI S 3 a v) b := by
  have h2 : S.2.1 a = 0 := h
  by_cases hb : b = a
  · subst hb; simp [pF, va_up, up2, sL, sK, sI, sR, sM, sE, sZ, sN, sA, sO, h2]
  · simp [pF, va_up, up2, sL, sK, sI, sR, sM, sE, sZ, sN, sA, sO, hb]
theorem pUp_4 (E : EV) (S : PS) {a : Nat} (h : sK S a = 0) (v : Int32) (b : Nat) : va_up (pF E S) a (.inr (1, [va_rf (sR S 0 a), .int (sI S 1 a), .int (sI S 2 a), .int (sI S 3 a), .int v, .int (sI S 5 a), .int (sI S 6 a), .int (sI S 7 a), .int (sI S 8 a), .int (sI S 9 a), .int (sI S 10 a), .int (sI S 11 a), .int (sI S 12 a), .int (sI S 13 a), va_rf (sM S 14 a), .int (sI S 15 a)])) b = pF E (uI S 4 a v) b := by
  have h2 : S.2.1 a = 0 := h
  by_cases hb : b = a
  · subst hb; simp [pF, va_up, up2, sL, sK, sI, sR, sM, sE, sZ, sN, sA, sO, h2]
  · simp [pF, va_up, up2, sL, sK, sI, sR, sM, sE, sZ, sN, sA, sO, hb]
theorem pUp_5 (E : EV) (S : PS) {a : Nat} (h : sK S a = 0) (v : Int32) (b : Nat) : va_up (pF E S) a (.inr (1, [va_rf (sR S 0 a), .int (sI S 1 a), .int (sI S 2 a), .int (sI S 3 a), .int (sI S 4 a), .int v, .int (sI S 6 a), .int (sI S 7 a), .int (sI S 8 a), .int (sI S 9 a), .int (sI S 10 a), .int (sI S 11 a), .int (sI S 12 a), .int (sI S 13 a), va_rf (sM S 14 a), .int (sI S 15 a)])) b = pF E (uI S 5 a v) b := by
  have h2 : S.2.1 a = 0 := h
  by_cases hb : b = a
  · subst hb; simp [pF, va_up, up2, sL, sK, sI, sR, sM, sE, sZ, sN, sA, sO, h2]
  · simp [pF, va_up, up2, sL, sK, sI, sR, sM, sE, sZ, sN, sA, sO, hb]
theorem pUp_6 (E : EV) (S : PS) {a : Nat} (h : sK S a = 0) (v : Int32) (b : Nat) : va_up (pF E S) a (.inr (1, [va_rf (sR S 0 a), .int (sI S 1 a), .int (sI S 2 a), .int (sI S 3 a), .int (sI S 4 a), .int (sI S 5 a), .int v, .int (sI S 7 a), .int (sI S 8 a), .int (sI S 9 a), .int (sI S 10 a), .int (sI S 11 a), .int (sI S 12 a), .int (sI S 13 a), va_rf (sM S 14 a), .int (sI S 15 a)])) b = pF E (uI S 6 a v) b := by
  have h2 : S.2.1 a = 0 := h
  by_cases hb : b = a
  · subst hb; simp [pF, va_up, up2, sL, sK, sI, sR, sM, sE, sZ, sN, sA, sO, h2]
  · simp [pF, va_up, up2, sL, sK, sI, sR, sM, sE, sZ, sN, sA, sO, hb]
theorem pUp_7 (E : EV) (S : PS) {a : Nat} (h : sK S a = 0) (v : Int32) (b : Nat) : va_up (pF E S) a (.inr (1, [va_rf (sR S 0 a), .int (sI S 1 a), .int (sI S 2 a), .int (sI S 3 a), .int (sI S 4 a), .int (sI S 5 a), .int (sI S 6 a), .int v, .int (sI S 8 a), .int (sI S 9 a), .int (sI S 10 a), .int (sI S 11 a), .int (sI S 12 a), .int (sI S 13 a), va_rf (sM S 14 a), .int (sI S 15 a)])) b = pF E (uI S 7 a v) b := by
  have h2 : S.2.1 a = 0 := h
  by_cases hb : b = a
  · subst hb; simp [pF, va_up, up2, sL, sK, sI, sR, sM, sE, sZ, sN, sA, sO, h2]
  · simp [pF, va_up, up2, sL, sK, sI, sR, sM, sE, sZ, sN, sA, sO, hb]
theorem pUp_8 (E : EV) (S : PS) {a : Nat} (h : sK S a = 0) (v : Int32) (b : Nat) : va_up (pF E S) a (.inr (1, [va_rf (sR S 0 a), .int (sI S 1 a), .int (sI S 2 a), .int (sI S 3 a), .int (sI S 4 a), .int (sI S 5 a), .int (sI S 6 a), .int (sI S 7 a), .int v, .int (sI S 9 a), .int (sI S 10 a), .int (sI S 11 a), .int (sI S 12 a), .int (sI S 13 a), va_rf (sM S 14 a), .int (sI S 15 a)])) b = pF E (uI S 8 a v) b := by
  have h2 : S.2.1 a = 0 := h
  by_cases hb : b = a
  · subst hb; simp [pF, va_up, up2, sL, sK, sI, sR, sM, sE, sZ, sN, sA, sO, h2]
  · simp [pF, va_up, up2, sL, sK, sI, sR, sM, sE, sZ, sN, sA, sO, hb]
theorem pUp_9 (E : EV) (S : PS) {a : Nat} (h : sK S a = 0) (v : Int32) (b : Nat) : va_up (pF E S) a (.inr (1, [va_rf (sR S 0 a), .int (sI S 1 a), .int (sI S 2 a), .int (sI S 3 a), .int (sI S 4 a), .int (sI S 5 a), .int (sI S 6 a), .int (sI S 7 a), .int (sI S 8 a), .int v, .int (sI S 10 a), .int (sI S 11 a), .int (sI S 12 a), .int (sI S 13 a), va_rf (sM S 14 a), .int (sI S 15 a)])) b = pF E (uI S 9 a v) b := by
  have h2 : S.2.1 a = 0 := h
  by_cases hb : b = a
  · subst hb; simp [pF, va_up, up2, sL, sK, sI, sR, sM, sE, sZ, sN, sA, sO, h2]
  · simp [pF, va_up, up2, sL, sK, sI, sR, sM, sE, sZ, sN, sA, sO, hb]
theorem pUp_10 (E : EV) (S : PS) {a : Nat} (h : sK S a = 0) (v : Int32) (b : Nat) : va_up (pF E S) a (.inr (1, [va_rf (sR S 0 a), .int (sI S 1 a), .int (sI S 2 a), .int (sI S 3 a), .int (sI S 4 a), .int (sI S 5 a), .int (sI S 6 a), .int (sI S 7 a), .int (sI S 8 a), .int (sI S 9 a), .int v, .int (sI S 11 a), .int (sI S 12 a), .int (sI S 13 a), va_rf (sM S 14 a), .int (sI S 15 a)])) b = pF E (uI S 10 a v) b := by
  have h2 : S.2.1 a = 0 := h
  by_cases hb : b = a
  · subst hb; simp [pF, va_up, up2, sL, sK, sI, sR, sM, sE, sZ, sN, sA, sO, h2]
  · simp [pF, va_up, up2, sL, sK, sI, sR, sM, sE, sZ, sN, sA, sO, hb]
theorem pUp_11 (E : EV) (S : PS) {a : Nat} (h : sK S a = 0) (v : Int32) (b : Nat) : va_up (pF E S) a (.inr (1, [va_rf (sR S 0 a), .int (sI S 1 a), .int (sI S 2 a), .int (sI S 3 a), .int (sI S 4 a), .int (sI S 5 a), .int (sI S 6 a), .int (sI S 7 a), .int (sI S 8 a), .int (sI S 9 a), .int (sI S 10 a), .int v, .int (sI S 12 a), .int (sI S 13 a), va_rf (sM S 14 a), .int (sI S 15 a)])) b = pF E (uI S 11 a v) b := by
  have h2 : S.2.1 a = 0 := h
  by_cases hb : b = a
  · subst hb; simp [pF, va_up, up2, sL, sK, sI, sR, sM, sE, sZ, sN, sA, sO, h2]
  · simp [pF, va_up, up2, sL, sK, sI, sR, sM, sE, sZ, sN, sA, sO, hb]
theorem pUp_12 (E : EV) (S : PS) {a : Nat} (h : sK S a = 0) (v : Int32) (b : Nat) : va_up (pF E S) a (.inr (1, [va_rf (sR S 0 a), .int (sI S 1 a), .int (sI S 2 a), .int (sI S 3 a), .int (sI S 4 a), .int (sI S 5 a), .int (sI S 6 a), .int (sI S 7 a), .int (sI S 8 a), .int (sI S 9 a), .int (sI S 10 a), .int (sI S 11 a), .int v, .int (sI S 13 a), va_rf (sM S 14 a), .int (sI S 15 a)])) b = pF E (uI S 12 a v) b := by
  have h2 : S.2.1 a = 0 := h
  by_cases hb : b = a
  · subst hb; simp [pF, va_up, up2, sL, sK, sI, sR, sM, sE, sZ, sN, sA, sO, h2]
  · simp [pF, va_up, up2, sL, sK, sI, sR, sM, sE, sZ, sN, sA, sO, hb]
theorem pUp_13 (E : EV) (S : PS) {a : Nat} (h : sK S a = 0) (v : Int32) (b : Nat) : va_up (pF E S) a (.inr (1, [va_rf (sR S 0 a), .int (sI S 1 a), .int (sI S 2 a), .int (sI S 3 a), .int (sI S 4 a), .int (sI S 5 a), .int (sI S 6 a), .int (sI S 7 a), .int (sI S 8 a), .int (sI S 9 a), .int (sI S 10 a), .int (sI S 11 a), .int (sI S 12 a), .int v, va_rf (sM S 14 a), .int (sI S 15 a)])) b = pF E (uI S 13 a v) b := by
  have h2 : S.2.1 a = 0 := h
  by_cases hb : b = a
  · subst hb; simp [pF, va_up, up2, sL, sK, sI, sR, sM, sE, sZ, sN, sA, sO, h2]
  · simp [pF, va_up, up2, sL, sK, sI, sR, sM, sE, sZ, sN, sA, sO, hb]
theorem pUp_14 (E : EV) (S : PS) {a : Nat} (h : sK S a = 0) (v : Option Nat) (b : Nat) : va_up (pF E S) a (.inr (1, [va_rf (sR S 0 a), .int (sI S 1 a), .int (sI S 2 a), .int (sI S 3 a), .int (sI S 4 a), .int (sI S 5 a), .int (sI S 6 a), .int (sI S 7 a), .int (sI S 8 a), .int (sI S 9 a), .int (sI S 10 a), .int (sI S 11 a), .int (sI S 12 a), .int (sI S 13 a), va_rf v, .int (sI S 15 a)])) b = pF E (uM S 14 a v) b := by
  have h2 : S.2.1 a = 0 := h
  by_cases hb : b = a
  · subst hb; simp [pF, va_up, up2, sL, sK, sI, sR, sM, sE, sZ, sN, sA, sO, h2]
  · simp [pF, va_up, up2, sL, sK, sI, sR, sM, sE, sZ, sN, sA, sO, hb]
theorem pUp_15 (E : EV) (S : PS) {a : Nat} (h : sK S a = 0) (v : Int32) (b : Nat) : va_up (pF E S) a (.inr (1, [va_rf (sR S 0 a), .int (sI S 1 a), .int (sI S 2 a), .int (sI S 3 a), .int (sI S 4 a), .int (sI S 5 a), .int (sI S 6 a), .int (sI S 7 a), .int (sI S 8 a), .int (sI S 9 a), .int (sI S 10 a), .int (sI S 11 a), .int (sI S 12 a), .int (sI S 13 a), va_rf (sM S 14 a), .int v])) b = pF E (uI S 15 a v) b := by
  have h2 : S.2.1 a = 0 := h
  by_cases hb : b = a
  · subst hb; simp [pF, va_up, up2, sL, sK, sI, sR, sM, sE, sZ, sN, sA, sO, h2]
  · simp [pF, va_up, up2, sL, sK, sI, sR, sM, sE, sZ, sN, sA, sO, hb]
theorem pNw_0 (E : EV) (S : PS) (a b : Nat) : va_up (pF E S) a (.inr (1, [.null, .int 0, .int 0, .int 0, .int 0, .int 0, .int 0, .int 0, .int 0, .int 0, .int 0, .int 0, .int 0, .int 0, .null, .int 0])) b = pF E (nw S a 0) b := by by_cases hb : b = a <;> simp [pF, va_up, va_rf, nI_0, sL, sK, sI, sR, sM, sE, sZ, sN, sA, sO, hb]
theorem pUp_16 (E : EV) (S : PS) {a : Nat} (h : sK S a = 1) (v : Option Nat) (b : Nat) : va_up (pF E S) a (.inr (2, [va_rf v, .int (sI S 17 a), .int (sI S 18 a)])) b = pF E (uR S 16 a v) b := by
  have h2 : S.2.1 a = 1 := h
  by_cases hb : b = a
  · subst hb; simp [pF, va_up, up2, sL, sK, sI, sR, sM, sE, sZ, sN, sA, sO, h2]
  · simp [pF, va_up, up2, sL, sK, sI, sR, sM, sE, sZ, sN, sA, sO, hb]
theorem pUp_17 (E : EV) (S : PS) {a : Nat} (h : sK S a = 1) (v : Int32) (b : Nat) : va_up (pF E S) a (.inr (2, [va_rf (sR S 16 a), .int v, .int (sI S 18 a)])) b = pF E (uI S 17 a v) b := by
  have h2 : S.2.1 a = 1 := h
  by_cases hb : b = a
  · subst hb; simp [pF, va_up, up2, sL, sK, sI, sR, sM, sE, sZ, sN, sA, sO, h2]
  · simp [pF, va_up, up2, sL, sK, sI, sR, sM, sE, sZ, sN, sA, sO, hb]
theorem pUp_18 (E : EV) (S : PS) {a : Nat} (h : sK S a = 1) (v : Int32) (b : Nat) : va_up (pF E S) a (.inr (2, [va_rf (sR S 16 a), .int (sI S 17 a), .int v])) b = pF E (uI S 18 a v) b := by
  have h2 : S.2.1 a = 1 := h
  by_cases hb : b = a
  · subst hb; simp [pF, va_up, up2, sL, sK, sI, sR, sM, sE, sZ, sN, sA, sO, h2]
  · simp [pF, va_up, up2, sL, sK, sI, sR, sM, sE, sZ, sN, sA, sO, hb]
theorem pNw_1 (E : EV) (S : PS) (a b : Nat) : va_up (pF E S) a (.inr (2, [.null, .int 0, .int 0])) b = pF E (nw S a 1) b := by by_cases hb : b = a <;> simp [pF, va_up, va_rf, nI_0, sL, sK, sI, sR, sM, sE, sZ, sN, sA, sO, hb]
theorem pUp_19 (E : EV) (S : PS) {a : Nat} (h : sK S a = 2) (v : Int32) (b : Nat) : va_up (pF E S) a (.inr (3, [.int v, .int (sI S 20 a), .int (sI S 21 a), va_rf (sM S 22 a)])) b = pF E (uI S 19 a v) b := by
  have h2 : S.2.1 a = 2 := h
  by_cases hb : b = a
  · subst hb; simp [pF, va_up, up2, sL, sK, sI, sR, sM, sE, sZ, sN, sA, sO, h2]
  · simp [pF, va_up, up2, sL, sK, sI, sR, sM, sE, sZ, sN, sA, sO, hb]
theorem pUp_20 (E : EV) (S : PS) {a : Nat} (h : sK S a = 2) (v : Int32) (b : Nat) : va_up (pF E S) a (.inr (3, [.int (sI S 19 a), .int v, .int (sI S 21 a), va_rf (sM S 22 a)])) b = pF E (uI S 20 a v) b := by
  have h2 : S.2.1 a = 2 := h
  by_cases hb : b = a
  · subst hb; simp [pF, va_up, up2, sL, sK, sI, sR, sM, sE, sZ, sN, sA, sO, h2]
  · simp [pF, va_up, up2, sL, sK, sI, sR, sM, sE, sZ, sN, sA, sO, hb]
theorem pUp_21 (E : EV) (S : PS) {a : Nat} (h : sK S a = 2) (v : Int32) (b : Nat) : va_up (pF E S) a (.inr (3, [.int (sI S 19 a), .int (sI S 20 a), .int v, va_rf (sM S 22 a)])) b = pF E (uI S 21 a v) b := by
  have h2 : S.2.1 a = 2 := h
  by_cases hb : b = a
  · subst hb; simp [pF, va_up, up2, sL, sK, sI, sR, sM, sE, sZ, sN, sA, sO, h2]
  · simp [pF, va_up, up2, sL, sK, sI, sR, sM, sE, sZ, sN, sA, sO, hb]
theorem pUp_22 (E : EV) (S : PS) {a : Nat} (h : sK S a = 2) (v : Option Nat) (b : Nat) : va_up (pF E S) a (.inr (3, [.int (sI S 19 a), .int (sI S 20 a), .int (sI S 21 a), va_rf v])) b = pF E (uM S 22 a v) b := by
  have h2 : S.2.1 a = 2 := h
  by_cases hb : b = a
  · subst hb; simp [pF, va_up, up2, sL, sK, sI, sR, sM, sE, sZ, sN, sA, sO, h2]
  · simp [pF, va_up, up2, sL, sK, sI, sR, sM, sE, sZ, sN, sA, sO, hb]
theorem pNw_2 (E : EV) (S : PS) (a b : Nat) : va_up (pF E S) a (.inr (3, [.int 0, .int 0, .int 0, .null])) b = pF E (nw S a 2) b := by by_cases hb : b = a <;> simp [pF, va_up, va_rf, nI_0, sL, sK, sI, sR, sM, sE, sZ, sN, sA, sO, hb]
theorem pUp_23 (E : EV) (S : PS) {a : Nat} (h : sK S a = 3) (v : Option Nat) (b : Nat) : va_up (pF E S) a (.inr (4, [va_rf v, va_rf (sR S 24 a), va_rf (sR S 25 a), va_rf (sR S 26 a), va_rf (sR S 27 a), va_rf (sR S 28 a)])) b = pF E (uR S 23 a v) b := by
  have h2 : S.2.1 a = 3 := h
  by_cases hb : b = a
  · subst hb; simp [pF, va_up, up2, sL, sK, sI, sR, sM, sE, sZ, sN, sA, sO, h2]
  · simp [pF, va_up, up2, sL, sK, sI, sR, sM, sE, sZ, sN, sA, sO, hb]
theorem pUp_24 (E : EV) (S : PS) {a : Nat} (h : sK S a = 3) (v : Option Nat) (b : Nat) : va_up (pF E S) a (.inr (4, [va_rf (sR S 23 a), va_rf v, va_rf (sR S 25 a), va_rf (sR S 26 a), va_rf (sR S 27 a), va_rf (sR S 28 a)])) b = pF E (uR S 24 a v) b := by
  have h2 : S.2.1 a = 3 := h
  by_cases hb : b = a
  · subst hb; simp [pF, va_up, up2, sL, sK, sI, sR, sM, sE, sZ, sN, sA, sO, h2]
  · simp [pF, va_up, up2, sL, sK, sI, sR, sM, sE, sZ, sN, sA, sO, hb]
theorem pUp_25 (E : EV) (S : PS) {a : Nat} (h : sK S a = 3) (v : Option Nat) (b : Nat) : va_up (pF E S) a (.inr (4, [va_rf (sR S 23 a), va_rf (sR S 24 a), va_rf v, va_rf (sR S 26 a), va_rf (sR S 27 a), va_rf (sR S 28 a)])) b = pF E (uR S 25 a v) b := by
  have h2 : S.2.1 a = 3 := h
  by_cases hb : b = a
  · subst hb; simp [pF, va_up, up2, sL, sK, sI, sR, sM, sE, sZ, sN, sA, sO, h2]
  · simp [pF, va_up, up2, sL, sK, sI, sR, sM, sE, sZ, sN, sA, sO, hb]
theorem pUp_26 (E : EV) (S : PS) {a : Nat} (h : sK S a = 3) (v : Option Nat) (b : Nat) : va_up (pF E S) a (.inr (4, [va_rf (sR S 23 a), va_rf (sR S 24 a), va_rf (sR S 25 a), va_rf v, va_rf (sR S 27 a), va_rf (sR S 28 a)])) b = pF E (uR S 26 a v) b := by
  have h2 : S.2.1 a = 3 := h
  by_cases hb : b = a
  · subst hb; simp [pF, va_up, up2, sL, sK, sI, sR, sM, sE, sZ, sN, sA, sO, h2]
  · simp [pF, va_up, up2, sL, sK, sI, sR, sM, sE, sZ, sN, sA, sO, hb]
theorem pUp_27 (E : EV) (S : PS) {a : Nat} (h : sK S a = 3) (v : Option Nat) (b : Nat) : va_up (pF E S) a (.inr (4, [va_rf (sR S 23 a), va_rf (sR S 24 a), va_rf (sR S 25 a), va_rf (sR S 26 a), va_rf v, va_rf (sR S 28 a)])) b = pF E (uR S 27 a v) b := by
  have h2 : S.2.1 a = 3 := h
  by_cases hb : b = a
  · subst hb; simp [pF, va_up, up2, sL, sK, sI, sR, sM, sE, sZ, sN, sA, sO, h2]
  · simp [pF, va_up, up2, sL, sK, sI, sR, sM, sE, sZ, sN, sA, sO, hb]
theorem pUp_28 (E : EV) (S : PS) {a : Nat} (h : sK S a = 3) (v : Option Nat) (b : Nat) : va_up (pF E S) a (.inr (4, [va_rf (sR S 23 a), va_rf (sR S 24 a), va_rf (sR S 25 a), va_rf (sR S 26 a), va_rf (sR S 27 a), va_rf v])) b = pF E (uR S 28 a v) b := by
  have h2 : S.2.1 a = 3 := h
  by_cases hb : b = a
  · subst hb; simp [pF, va_up, up2, sL, sK, sI, sR, sM, sE, sZ, sN, sA, sO, h2]
  · simp [pF, va_up, up2, sL, sK, sI, sR, sM, sE, sZ, sN, sA, sO, hb]
theorem pNw_3 (E : EV) (S : PS) (a b : Nat) : va_up (pF E S) a (.inr (4, [.null, .null, .null, .null, .null, .null])) b = pF E (nw S a 3) b := by by_cases hb : b = a <;> simp [pF, va_up, va_rf, nI_0, sL, sK, sI, sR, sM, sE, sZ, sN, sA, sO, hb]
theorem pUp_29 (E : EV) (S : PS) {a : Nat} (h : sK S a = 4) (v : Int32) (b : Nat) : va_up (pF E S) a (.inr (5, [.int v, .int (sI S 30 a), .int (sI S 31 a)])) b = pF E (uI S 29 a v) b := by
  have h2 : S.2.1 a = 4 := h
  by_cases hb : b = a
  · subst hb; simp [pF, va_up, up2, sL, sK, sI, sR, sM, sE, sZ, sN, sA, sO, h2]
  · simp [pF, va_up, up2, sL, sK, sI, sR, sM, sE, sZ, sN, sA, sO, hb]
theorem pUp_30 (E : EV) (S : PS) {a : Nat} (h : sK S a = 4) (v : Int32) (b : Nat) : va_up (pF E S) a (.inr (5, [.int (sI S 29 a), .int v, .int (sI S 31 a)])) b = pF E (uI S 30 a v) b := by
  have h2 : S.2.1 a = 4 := h
  by_cases hb : b = a
  · subst hb; simp [pF, va_up, up2, sL, sK, sI, sR, sM, sE, sZ, sN, sA, sO, h2]
  · simp [pF, va_up, up2, sL, sK, sI, sR, sM, sE, sZ, sN, sA, sO, hb]
theorem pUp_31 (E : EV) (S : PS) {a : Nat} (h : sK S a = 4) (v : Int32) (b : Nat) : va_up (pF E S) a (.inr (5, [.int (sI S 29 a), .int (sI S 30 a), .int v])) b = pF E (uI S 31 a v) b := by
  have h2 : S.2.1 a = 4 := h
  by_cases hb : b = a
  · subst hb; simp [pF, va_up, up2, sL, sK, sI, sR, sM, sE, sZ, sN, sA, sO, h2]
  · simp [pF, va_up, up2, sL, sK, sI, sR, sM, sE, sZ, sN, sA, sO, hb]
theorem pNw_4 (E : EV) (S : PS) (a b : Nat) : va_up (pF E S) a (.inr (5, [.int 0, .int 0, .int 0])) b = pF E (nw S a 4) b := by by_cases hb : b = a <;> simp [pF, va_up, va_rf, nI_0, sL, sK, sI, sR, sM, sE, sZ, sN, sA, sO, hb]
theorem pUp_32 (E : EV) (S : PS) {a : Nat} (h : sK S a = 5) (v : Option Nat) (b : Nat) : va_up (pF E S) a (.inr (6, [va_rf v, va_rf (sR S 33 a), va_rf (sR S 34 a), va_rf (sR S 35 a), va_rf (sR S 36 a), va_rf (sR S 37 a), va_rf (sR S 38 a), .int (sI S 39 a), .int (sI S 40 a), .int (sI S 41 a)])) b = pF E (uR S 32 a v) b := by
  have h2 : S.2.1 a = 5 := h
  by_cases hb : b = a
  · subst hb; simp [pF, va_up, up2, sL, sK, sI, sR, sM, sE, sZ, sN, sA, sO, h2]
  · simp [pF, va_up, up2, sL, sK, sI, sR, sM, sE, sZ, sN, sA, sO, hb]
theorem pUp_33 (E : EV) (S : PS) {a : Nat} (h : sK S a = 5) (v : Option Nat) (b : Nat) : va_up (pF E S) a (.inr (6, [va_rf (sR S 32 a), va_rf v, va_rf (sR S 34 a), va_rf (sR S 35 a), va_rf (sR S 36 a), va_rf (sR S 37 a), va_rf (sR S 38 a), .int (sI S 39 a), .int (sI S 40 a), .int (sI S 41 a)])) b = pF E (uR S 33 a v) b := by
  have h2 : S.2.1 a = 5 := h
  by_cases hb : b = a
  · subst hb; simp [pF, va_up, up2, sL, sK, sI, sR, sM, sE, sZ, sN, sA, sO, h2]
  · simp [pF, va_up, up2, sL, sK, sI, sR, sM, sE, sZ, sN, sA, sO, hb]
theorem pUp_34 (E : EV) (S : PS) {a : Nat} (h : sK S a = 5) (v : Option Nat) (b : Nat) : va_up (pF E S) a (.inr (6, [va_rf (sR S 32 a), va_rf (sR S 33 a), va_rf v, va_rf (sR S 35 a), va_rf (sR S 36 a), va_rf (sR S 37 a), va_rf (sR S 38 a), .int (sI S 39 a), .int (sI S 40 a), .int (sI S 41 a)])) b = pF E (uR S 34 a v) b := by
  have h2 : S.2.1 a = 5 := h
  by_cases hb : b = a
  · subst hb; simp [pF, va_up, up2, sL, sK, sI, sR, sM, sE, sZ, sN, sA, sO, h2]
  · simp [pF, va_up, up2, sL, sK, sI, sR, sM, sE, sZ, sN, sA, sO, hb]
theorem pUp_35 (E : EV) (S : PS) {a : Nat} (h : sK S a = 5) (v : Option Nat) (b : Nat) : va_up (pF E S) a (.inr (6, [va_rf (sR S 32 a), va_rf (sR S 33 a), va_rf (sR S 34 a), va_rf v, va_rf (sR S 36 a), va_rf (sR S 37 a), va_rf (sR S 38 a), .int (sI S 39 a), .int (sI S 40 a), .int (sI S 41 a)])) b = pF E (uR S 35 a v) b := by
  have h2 : S.2.1 a = 5 := h
  by_cases hb : b = a
  · subst hb; simp [pF, va_up, up2, sL, sK, sI, sR, sM, sE, sZ, sN, sA, sO, h2]
  · simp [pF, va_up, up2, sL, sK, sI, sR, sM, sE, sZ, sN, sA, sO, hb]
theorem pUp_36 (E : EV) (S : PS) {a : Nat} (h : sK S a = 5) (v : Option Nat) (b : Nat) : va_up (pF E S) a (.inr (6, [va_rf (sR S 32 a), va_rf (sR S 33 a), va_rf (sR S 34 a), va_rf (sR S 35 a), va_rf v, va_rf (sR S 37 a), va_rf (sR S 38 a), .int (sI S 39 a), .int (sI S 40 a), .int (sI S 41 a)])) b = pF E (uR S 36 a v) b := by
  have h2 : S.2.1 a = 5 := h
  by_cases hb : b = a
  · subst hb; simp [pF, va_up, up2, sL, sK, sI, sR, sM, sE, sZ, sN, sA, sO, h2]
  · simp [pF, va_up, up2, sL, sK, sI, sR, sM, sE, sZ, sN, sA, sO, hb]
theorem pUp_37 (E : EV) (S : PS) {a : Nat} (h : sK S a = 5) (v : Option Nat) (b : Nat) : va_up (pF E S) a (.inr (6, [va_rf (sR S 32 a), va_rf (sR S 33 a), va_rf (sR S 34 a), va_rf (sR S 35 a), va_rf (sR S 36 a), va_rf v, va_rf (sR S 38 a), .int (sI S 39 a), .int (sI S 40 a), .int (sI S 41 a)])) b = pF E (uR S 37 a v) b := by
  have h2 : S.2.1 a = 5 := h
  by_cases hb : b = a
  · subst hb; simp [pF, va_up, up2, sL, sK, sI, sR, sM, sE, sZ, sN, sA, sO, h2]
  · simp [pF, va_up, up2, sL, sK, sI, sR, sM, sE, sZ, sN, sA, sO, hb]
theorem pUp_38 (E : EV) (S : PS) {a : Nat} (h : sK S a = 5) (v : Option Nat) (b : Nat) : va_up (pF E S) a (.inr (6, [va_rf (sR S 32 a), va_rf (sR S 33 a), va_rf (sR S 34 a), va_rf (sR S 35 a), va_rf (sR S 36 a), va_rf (sR S 37 a), va_rf v, .int (sI S 39 a), .int (sI S 40 a), .int (sI S 41 a)])) b = pF E (uR S 38 a v) b := by
  have h2 : S.2.1 a = 5 := h
  by_cases hb : b = a
  · subst hb; simp [pF, va_up, up2, sL, sK, sI, sR, sM, sE, sZ, sN, sA, sO, h2]
  · simp [pF, va_up, up2, sL, sK, sI, sR, sM, sE, sZ, sN, sA, sO, hb]
theorem pUp_39 (E : EV) (S : PS) {a : Nat} (h : sK S a = 5) (v : Int32) (b : Nat) : va_up (pF E S) a (.inr (6, [va_rf (sR S 32 a), va_rf (sR S 33 a), va_rf (sR S 34 a), va_rf (sR S 35 a), va_rf (sR S 36 a), va_rf (sR S 37 a), va_rf (sR S 38 a), .int v, .int (sI S 40 a), .int (sI S 41 a)])) b = pF E (uI S 39 a v) b := by
  have h2 : S.2.1 a = 5 := h
  by_cases hb : b = a
  · subst hb; simp [pF, va_up, up2, sL, sK, sI, sR, sM, sE, sZ, sN, sA, sO, h2]
  · simp [pF, va_up, up2, sL, sK, sI, sR, sM, sE, sZ, sN, sA, sO, hb]
theorem pUp_40 (E : EV) (S : PS) {a : Nat} (h : sK S a = 5) (v : Int32) (b : Nat) : va_up (pF E S) a (.inr (6, [va_rf (sR S 32 a), va_rf (sR S 33 a), va_rf (sR S 34 a), va_rf (sR S 35 a), va_rf (sR S 36 a), va_rf (sR S 37 a), va_rf (sR S 38 a), .int (sI S 39 a), .int v, .int (sI S 41 a)])) b = pF E (uI S 40 a v) b := by
  have h2 : S.2.1 a = 5 := h
  by_cases hb : b = a
  · subst hb; simp [pF, va_up, up2, sL, sK, sI, sR, sM, sE, sZ, sN, sA, sO, h2]
  · simp [pF, va_up, up2, sL, sK, sI, sR, sM, sE, sZ, sN, sA, sO, hb]
theorem pUp_41 (E : EV) (S : PS) {a : Nat} (h : sK S a = 5) (v : Int32) (b : Nat) : va_up (pF E S) a (.inr (6, [va_rf (sR S 32 a), va_rf (sR S 33 a), va_rf (sR S 34 a), va_rf (sR S 35 a), va_rf (sR S 36 a), va_rf (sR S 37 a), va_rf (sR S 38 a), .int (sI S 39 a), .int (sI S 40 a), .int v])) b = pF E (uI S 41 a v) b := by
  have h2 : S.2.1 a = 5 := h
  by_cases hb : b = a
  · subst hb; simp [pF, va_up, up2, sL, sK, sI, sR, sM, sE, sZ, sN, sA, sO, h2]
  · simp [pF, va_up, up2, sL, sK, sI, sR, sM, sE, sZ, sN, sA, sO, hb]
theorem pNw_5 (E : EV) (S : PS) (a b : Nat) : va_up (pF E S) a (.inr (6, [.null, .null, .null, .null, .null, .null, .null, .int 0, .int 0, .int 0])) b = pF E (nw S a 5) b := by by_cases hb : b = a <;> simp [pF, va_up, va_rf, nI_0, sL, sK, sI, sR, sM, sE, sZ, sN, sA, sO, hb]
theorem pUp_42 (E : EV) (S : PS) {a : Nat} (h : sK S a = 6) (v : Int32) (b : Nat) : va_up (pF E S) a (.inr (7, [.int v, .int (sI S 43 a), .int (sI S 44 a), .int (sI S 45 a), .int (sI S 46 a), .int (sI S 47 a)])) b = pF E (uI S 42 a v) b := by
  have h2 : S.2.1 a = 6 := h
  by_cases hb : b = a
  · subst hb; simp [pF, va_up, up2, sL, sK, sI, sR, sM, sE, sZ, sN, sA, sO, h2]
  · simp [pF, va_up, up2, sL, sK, sI, sR, sM, sE, sZ, sN, sA, sO, hb]
theorem pUp_43 (E : EV) (S : PS) {a : Nat} (h : sK S a = 6) (v : Int32) (b : Nat) : va_up (pF E S) a (.inr (7, [.int (sI S 42 a), .int v, .int (sI S 44 a), .int (sI S 45 a), .int (sI S 46 a), .int (sI S 47 a)])) b = pF E (uI S 43 a v) b := by
  have h2 : S.2.1 a = 6 := h
  by_cases hb : b = a
  · subst hb; simp [pF, va_up, up2, sL, sK, sI, sR, sM, sE, sZ, sN, sA, sO, h2]
  · simp [pF, va_up, up2, sL, sK, sI, sR, sM, sE, sZ, sN, sA, sO, hb]
theorem pUp_44 (E : EV) (S : PS) {a : Nat} (h : sK S a = 6) (v : Int32) (b : Nat) : va_up (pF E S) a (.inr (7, [.int (sI S 42 a), .int (sI S 43 a), .int v, .int (sI S 45 a), .int (sI S 46 a), .int (sI S 47 a)])) b = pF E (uI S 44 a v) b := by
  have h2 : S.2.1 a = 6 := h
  by_cases hb : b = a
  · subst hb; simp [pF, va_up, up2, sL, sK, sI, sR, sM, sE, sZ, sN, sA, sO, h2]
  · simp [pF, va_up, up2, sL, sK, sI, sR, sM, sE, sZ, sN, sA, sO, hb]
theorem pUp_45 (E : EV) (S : PS) {a : Nat} (h : sK S a = 6) (v : Int32) (b : Nat) : va_up (pF E S) a (.inr (7, [.int (sI S 42 a), .int (sI S 43 a), .int (sI S 44 a), .int v, .int (sI S 46 a), .int (sI S 47 a)])) b = pF E (uI S 45 a v) b := by
  have h2 : S.2.1 a = 6 := h
  by_cases hb : b = a
  · subst hb; simp [pF, va_up, up2, sL, sK, sI, sR, sM, sE, sZ, sN, sA, sO, h2]
  · simp [pF, va_up, up2, sL, sK, sI, sR, sM, sE, sZ, sN, sA, sO, hb]
theorem pUp_46 (E : EV) (S : PS) {a : Nat} (h : sK S a = 6) (v : Int32) (b : Nat) : va_up (pF E S) a (.inr (7, [.int (sI S 42 a), .int (sI S 43 a), .int (sI S 44 a), .int (sI S 45 a), .int v, .int (sI S 47 a)])) b = pF E (uI S 46 a v) b := by
  have h2 : S.2.1 a = 6 := h
  by_cases hb : b = a
  · subst hb; simp [pF, va_up, up2, sL, sK, sI, sR, sM, sE, sZ, sN, sA, sO, h2]
  · simp [pF, va_up, up2, sL, sK, sI, sR, sM, sE, sZ, sN, sA, sO, hb]
theorem pUp_47 (E : EV) (S : PS) {a : Nat} (h : sK S a = 6) (v : Int32) (b : Nat) : va_up (pF E S) a (.inr (7, [.int (sI S 42 a), .int (sI S 43 a), .int (sI S 44 a), .int (sI S 45 a), .int (sI S 46 a), .int v])) b = pF E (uI S 47 a v) b := by
  have h2 : S.2.1 a = 6 := h
  by_cases hb : b = a
  · subst hb; simp [pF, va_up, up2, sL, sK, sI, sR, sM, sE, sZ, sN, sA, sO, h2]
  · simp [pF, va_up, up2, sL, sK, sI, sR, sM, sE, sZ, sN, sA, sO, hb]
theorem pNw_6 (E : EV) (S : PS) (a b : Nat) : va_up (pF E S) a (.inr (7, [.int 0, .int 0, .int 0, .int 0, .int 0, .int 0])) b = pF E (nw S a 6) b := by by_cases hb : b = a <;> simp [pF, va_up, va_rf, nI_0, sL, sK, sI, sR, sM, sE, sZ, sN, sA, sO, hb]
theorem pUp_48 (E : EV) (S : PS) {a : Nat} (h : sK S a = 7) (v : Option Nat) (b : Nat) : va_up (pF E S) a (.inr (8, [va_rf v, va_rf (sR S 49 a), .int (sI S 50 a)])) b = pF E (uR S 48 a v) b := by
  have h2 : S.2.1 a = 7 := h
  by_cases hb : b = a
  · subst hb; simp [pF, va_up, up2, sL, sK, sI, sR, sM, sE, sZ, sN, sA, sO, h2]
  · simp [pF, va_up, up2, sL, sK, sI, sR, sM, sE, sZ, sN, sA, sO, hb]
theorem pUp_49 (E : EV) (S : PS) {a : Nat} (h : sK S a = 7) (v : Option Nat) (b : Nat) : va_up (pF E S) a (.inr (8, [va_rf (sR S 48 a), va_rf v, .int (sI S 50 a)])) b = pF E (uR S 49 a v) b := by
  have h2 : S.2.1 a = 7 := h
  by_cases hb : b = a
  · subst hb; simp [pF, va_up, up2, sL, sK, sI, sR, sM, sE, sZ, sN, sA, sO, h2]
  · simp [pF, va_up, up2, sL, sK, sI, sR, sM, sE, sZ, sN, sA, sO, hb]
theorem pUp_50 (E : EV) (S : PS) {a : Nat} (h : sK S a = 7) (v : Int32) (b : Nat) : va_up (pF E S) a (.inr (8, [va_rf (sR S 48 a), va_rf (sR S 49 a), .int v])) b = pF E (uI S 50 a v) b := by
  have h2 : S.2.1 a = 7 := h
  by_cases hb : b = a
  · subst hb; simp [pF, va_up, up2, sL, sK, sI, sR, sM, sE, sZ, sN, sA, sO, h2]
  · simp [pF, va_up, up2, sL, sK, sI, sR, sM, sE, sZ, sN, sA, sO, hb]
theorem pNw_7 (E : EV) (S : PS) (a b : Nat) : va_up (pF E S) a (.inr (8, [.null, .null, .int 0])) b = pF E (nw S a 7) b := by by_cases hb : b = a <;> simp [pF, va_up, va_rf, nI_0, sL, sK, sI, sR, sM, sE, sZ, sN, sA, sO, hb]
theorem pUp_51 (E : EV) (S : PS) {a : Nat} (h : sK S a = 8) (v : Int32) (b : Nat) : va_up (pF E S) a (.inr (0, [.int v, va_rf (sE S a), .int (nI (sZ S a))])) b = pF E (uI S 51 a v) b := by
  have h2 : S.2.1 a = 8 := h
  by_cases hb : b = a
  · subst hb; simp [pF, va_up, up2, sL, sK, sI, sR, sM, sE, sZ, sN, sA, sO, h2]
  · simp [pF, va_up, up2, sL, sK, sI, sR, sM, sE, sZ, sN, sA, sO, hb]
theorem pUp_52 (E : EV) (S : PS) {a : Nat} (h : sK S a = 8) (v : Option Nat) (b : Nat) : va_up (pF E S) a (.inr (0, [.int (sI S 51 a), va_rf v, .int (nI (sZ S a))])) b = pF E (uE S a v) b := by
  have h2 : S.2.1 a = 8 := h
  by_cases hb : b = a
  · subst hb; simp [pF, va_up, up2, sL, sK, sI, sR, sM, sE, sZ, sN, sA, sO, h2]
  · simp [pF, va_up, up2, sL, sK, sI, sR, sM, sE, sZ, sN, sA, sO, hb]
theorem pUp_53 (E : EV) (S : PS) {a : Nat} (h : sK S a = 8) (v : Nat) (b : Nat) : va_up (pF E S) a (.inr (0, [.int (sI S 51 a), va_rf (sE S a), .int (nI v)])) b = pF E (uZ S a v) b := by
  have h2 : S.2.1 a = 8 := h
  by_cases hb : b = a
  · subst hb; simp [pF, va_up, up2, sL, sK, sI, sR, sM, sE, sZ, sN, sA, sO, h2]
  · simp [pF, va_up, up2, sL, sK, sI, sR, sM, sE, sZ, sN, sA, sO, hb]
theorem pNw_8 (E : EV) (S : PS) (a b : Nat) : va_up (pF E S) a (.inr (0, [.int 0, .null, .int 0])) b = pF E (nw S a 8) b := by by_cases hb : b = a <;> simp [pF, va_up, va_rf, nI_0, sL, sK, sI, sR, sM, sE, sZ, sN, sA, sO, hb]
theorem pUp_A (E : EV) (S : PS) {a : Nat} (h : sK S a = 9) (v : Nat → Int32) (b : Nat) : va_up (pF E S) a (.inl (E.2.1, sN S a, .inl v)) b = pF E (uA S a v) b := by
  have h2 : S.2.1 a = 9 := h
  by_cases hb : b = a
  · subst hb; simp [pF, va_up, sL, sK, sI, sR, sM, sE, sZ, sN, sA, sO, h2]
  · simp [pF, va_up, sL, sK, sI, sR, sM, sE, sZ, sN, sA, sO, hb]
theorem pUp_O (E : EV) (S : PS) {a : Nat} (h : sK S a = 10) (v : Nat → Option Nat) (b : Nat) : va_up (pF E S) a (.inl (E.2.2.1, sN S a, .inr (.inr (.inr (.inr v))))) b = pF E (uO S a v) b := by
  have h2 : S.2.1 a = 10 := h
  by_cases hb : b = a
  · subst hb; simp [pF, va_up, sL, sK, sI, sR, sM, sE, sZ, sN, sA, sO, h2]
  · simp [pF, va_up, sL, sK, sI, sR, sM, sE, sZ, sN, sA, sO, hb]
theorem pNw_A (E : EV) (S : PS) (a n : Nat) (r : Nat → Int32) (b : Nat) : va_up (pF E S) a (.inl (E.2.1, n, .inl r)) b = pF E (nwA S a n r) b := by by_cases hb : b = a <;> simp [pF, va_up, sL, sK, sI, sR, sM, sE, sZ, sN, sA, sO, hb]
theorem pNw_O (E : EV) (S : PS) (a n : Nat) (r : Nat → Option Nat) (b : Nat) : va_up (pF E S) a (.inl (E.2.2.1, n, .inr (.inr (.inr (.inr r))))) b = pF E (nwO S a n r) b := by by_cases hb : b = a <;> simp [pF, va_up, sL, sK, sI, sR, sM, sE, sZ, sN, sA, sO, hb]
theorem pGet {E : EV} {S : PS} {a : Nat} (h : a ∈ sL S) : ∃ k : Nat, (pool E S)[k]? = some (a, pF E S a) := by
  have := va_pl_get (X := []) (f := pF E S) h
  simpa using this
theorem pSet {E : EV} {S S' : PS} {A : Nat → Prop} {a k : Nat} {e : va_E} (hD : va_D A (pool E S)) (hL : a ∈ sL S) (hk : (pool E S)[k]? = some (a, pF E S a)) (hL' : sL S' = sL S) (hu : ∀ b, va_up (pF E S) a e b = pF E S' b) : (pool E S).set k (a, e) = pool E S' := by
  have h := va_pl_set (X := []) (f := pF E S) (e := e) hD hL hk
  simp only [List.nil_append] at h
  show (va_pl (sL S) (pF E S)).set k (a, e) = va_pl (sL S') (pF E S')
  rw [h, hL']
  exact va_pl_congr hu
theorem pPush {E : EV} {S S' : PS} {a : Nat} {e : va_E} (ha : a ∉ sL S) (hL' : sL S' = sL S ++ [a]) (hu : ∀ b, va_up (pF E S) a e b = pF E S' b) : pool E S ++ [(a, e)] = pool E S' := by
  show va_pl (sL S) (pF E S) ++ [(a, e)] = va_pl (sL S') (pF E S')
  rw [va_pl_push ha, hL']
  exact va_pl_congr hu
end
section
/-! the machine over the pool: what a run's heap holds (HP), what stays beside it (VP), a method's frame (MC), and J: from every heap that holds the pool S, with locals lv and stack st, the walk reaches its goal -/
abbrev eB (E : EV) : Nat := E.2.2.2.1
def AE (E : EV) : Nat → Prop := fun q => eB E ≤ q
abbrev tyE (E : EV) : List (ClassId × FieldType) := [(E.2.1, .int), (E.2.2.1, .object "java/lang/Object")]
def HP (E : EV) (S : PS) (H : Heap) : Prop := eB E ≤ H.size ∧ va_P E.1 vwCl (pool E S) H ∧ va_D (AE E) (pool E S)
def isNw (w : Cond) : Bool := match w with | .fieldLinkNest .. => true | .methodLinkNest .. => true | .castable .. => true | .declares .. => true | _ => false
def rwV : Nat → Int32 := fun k => [-1, -1, 0, 1, 1, 1, 0, -1].getD k 0
def clV : Nat → Int32 := fun k => [0, 1, 1, 1, 0, -1, -1, -1].getD k 0
def TX (E : EV) (U : State) (H : Heap) : Prop := vx_Zq Bundle.tN "UNASSIGNED_STACK" Bundle.steD (AE E) U H ∧ vx_Zq Bundle.tN "SUPPRESSED_SENTINEL" Bundle.listD (AE E) U H
def TA (E : EV) (U : State) (H : Heap) : Prop :=
  (va_Z "Slewyard" "ROW_STEPS" "[I" (.ref E.2.2.2.2.1) (AE E) U H ∧ va_T .int E.2.2.2.2.1 8 (fun k => .int (rwV k)) (AE E) U H) ∧
  (va_Z "Slewyard" "COLUMN_STEPS" "[I" (.ref E.2.2.2.2.2.1) (AE E) U H ∧ va_T .int E.2.2.2.2.2.1 8 (fun k => .int (clV k)) (AE E) U H) ∧
  (va_Z "java/util/ArrayList" "DEFAULTCAPACITY_EMPTY_ELEMENTDATA" "[Ljava/lang/Object;" (.ref E.2.2.2.2.2.2) (AE E) U H ∧ va_T (.object "java/lang/Object") E.2.2.2.2.2.2 0 (fun _ => .null) (AE E) U H)
def VP (E : EV) (U : State) (H : Heap) : Prop := va_K E.1 vwCl (tyE E) U ∧ (∀ w ∈ lw_tbl, isNw w = true → va_Nw w U) ∧ TA E U H ∧ TX E U H ∧ ∀ own k tx, Cond.stringRef own k tx ∈ lw_tbl → ∃ a, vk_R own k tx a U
theorem nw_warm {w : Cond} {s U : State} (hw : isNw w = true) (hW : s.WarmedH U.vm) (h : va_Nw w s) : va_Nw w U := by
  cases w <;> first | (simp [isNw] at hw; done) | exact va_Nw.warmF hW h | exact va_Nw.warmM hW h | exact va_Nw.warmC hW h | exact va_Nw.warmD hW h
theorem TA.go {E : EV} {s U : State} {H H1 : Heap} (h : TA E s H) (hvm : s.vm.Alike U.vm) (hq : ∀ a : Nat, a < H.size → ¬ AE E a → H1[a]? = H[a]?) : TA E U H1 :=
  ⟨⟨(h.1.1.moved hvm).kept hq, (h.1.2.moved hvm).kept hq⟩, ⟨(h.2.1.1.moved hvm).kept hq, (h.2.1.2.moved hvm).kept hq⟩, ⟨(h.2.2.1.moved hvm).kept hq, (h.2.2.2.moved hvm).kept hq⟩⟩
theorem VP.go {E : EV} {s U : State} {H H1 : Heap} (h : VP E s H) (hW : s.WarmedH U.vm) (hq : ∀ a : Nat, a < H.size → ¬ AE E a → H1[a]? = H[a]?) : VP E U H1 :=
  ⟨va_K.moved hW.alike h.1, fun w hw hn => nw_warm hn hW (h.2.1 w hw hn), h.2.2.1.go hW.alike hq, ⟨(h.2.2.2.1.1.moved hW.alike).kept hq, (h.2.2.2.1.2.moved hW.alike).kept hq⟩, fun own k tx hw => by
    obtain ⟨a, ha⟩ := h.2.2.2.2 own k tx hw
    exact ⟨a, ha.warm hW⟩⟩
theorem VP.blind {E : EV} {U : State} {g : JFrame} {mk : MethodId} {a : Array Value} (h : VP E U U.heap) : VP E (U.calling g mk a) (U.calling g mk a).heap :=
  ⟨va_K.moved (u := U) (U := U.calling g mk a) (Vm.Alike.refl U.vm) h.1, fun w hw hn => va_Nw.same (u := U) (U := U.calling g mk a) (by cases w <;> first | (simp [isNw] at hn; done) | rfl) rfl (h.2.1 w hw hn), h.2.2.1.go (s := U) (U := U.calling g mk a) (Vm.Alike.refl U.vm) (fun _ _ _ => rfl), ⟨(h.2.2.2.1.1.moved (u := U) (U := U.calling g mk a) (Vm.Alike.refl U.vm)), (h.2.2.2.1.2.moved (u := U) (U := U.calling g mk a) (Vm.Alike.refl U.vm))⟩, fun own k tx hw => by
    obtain ⟨a, ha⟩ := h.2.2.2.2 own k tx hw
    exact ⟨a, vk_R.same rfl ha⟩⟩
/-- locals by their places -/
def lvg : List (Nat × Value) → Nat → Option Value
  | [], _ => none
  | (i, v) :: t, k => if i = k then some v else lvg t k
theorem lvg_mem : ∀ {lv : List (Nat × Value)} {k : Nat} {v : Value}, lvg lv k = some v → (k, v) ∈ lv
  | [], _, _, h => by cases h
  | (i, w) :: t, k, v, h => by
    unfold lvg at h
    by_cases e : i = k
    · rw [if_pos e] at h
      cases h
      rw [e]
      exact List.mem_cons_self
    · rw [if_neg e] at h
      exact List.mem_cons_of_mem _ (lvg_mem h)
theorem lvg_at {ls : Array Slot} {nL : Nat} {lv : List (Nat × Value)} {k : Nat} {v : Value} (hl : lv_has ls nL lv) (h : lvg lv k = some v) : ls[k]? = some (.val v) := hl.2.2 (k, v) (lvg_mem h)
/-- a frame of a method of the claim -/
def MC (E : EV) (p : Program) (s : State) (m : MethodId) (args : Array Value) (meth : Method) (c : Code) (cc : ByteArray) (own : String) (nL : Nat) (ret : Option FieldType) : Prop :=
  p.tables.exec = Jvm.exec ∧ c.code = cc ∧ c.maxLocals = nL ∧ s.vm.findClass own = some m.cls ∧ (∀ w ∈ wsU, w.before args s = true) ∧ VP E s s.heap ∧ meth.locks = false ∧ eB E ≤ s.heap.size ∧ meth.sig.returnType = ret
def J (p : Program) (l : Launch) (e : Env) (R : Room) (s : State) (m : MethodId) (args : Array Value) (below : List Frame) (meth : Method) (c : Code) (Q : State → Prop) (E : EV) (nL pc : Nat) (lv : List (Nat × Value)) (st : List Value) (S : PS) (cells slots : Nat) : Prop :=
  ∀ (H : Heap) (locs : List Loc) (ls : Array Slot), HP E S H → va_S (AE E) s.heap H locs → lv_has ls nL lv → W p l e R s m args below meth c H locs cells slots Q (F0 m pc ls st)
/-- what a call owes: an answer and a pool behind it, nothing older changed -/
def QC (E : EV) (post : Option Value → PS → Prop) : Array Value → State → Outcome → State → Prop := fun _ st oc t => (∃ (v : Option Value) (u : PS), oc = .returned v ∧ post v u ∧ HP E u t.heap) ∧ va_F (AE E) st t
def PC (E : EV) (av : List Value) (S : PS) : Array Value → State → Prop := va_Pc av (fun U => HP E S U.heap ∧ VP E U U.heap)
def CT (l : Launch) (y : MethodName) (cb : ByteArray) (mxL : Nat) (ret : Option FieldType) (fr lo mc ms : Nat) (E : EV) (av : List Value) (S : PS) (post : Option Value → PS → Prop) : Prop :=
  Met l y (.code y cb mxL ret :: wsU) { frames := fr, cells := mc, slots := ms, locals := lo } (PC E av S) (QC E post) mc ms (AE E)
theorem PC.blind {E : EV} {av : List Value} {S : PS} : FrameBlind (PC E av S) := fun _ _ _ _ h => ⟨h.1, h.2.1, h.2.2.blind⟩
section FR
variable {p : Program} {l : Launch} {e : Env} {R : Room} {s : State} {m : MethodId} {args : Array Value} {below : List Frame} {meth : Method} {c : Code} {Q : State → Prop} {E : EV} {nL pc : Nat} {lv lv' : List (Nat × Value)} {st : List Value} {S : PS} {cells slots : Nat} {cc : ByteArray} {own : String} {ret : Option FieldType}
theorem HP.free {H : Heap} {locs : List Loc} (hS : va_S (AE E) s.heap H locs) : ∀ q ∈ locs, (AE E) q.base := hS.2.2
theorem j_widen {k n : Nat} (h1 : cells ≤ k) (h2 : slots ≤ n) (K : J p l e R s m args below meth c Q E nL pc lv st S k n) : J p l e R s m args below meth c Q E nL pc lv st S cells slots :=
  fun H locs ls hH hS hl => W.widen h1 h2 (K H locs ls hH hS hl)
theorem j_locals (hlv : ∀ q ∈ lv', q ∈ lv) (K : J p l e R s m args below meth c Q E nL pc lv' st S cells slots) : J p l e R s m args below meth c Q E nL pc lv st S cells slots :=
  fun H locs ls hH hS hl => K H locs ls hH hS ⟨hl.1, hl.2.1, fun q hq => hl.2.2 q (hlv q hq)⟩
theorem j_eq {lv2 : List (Nat × Value)} {st2 : List Value} {S2 : PS} (h1 : lv = lv2) (h2 : st = st2) (h3 : S = S2) (K : J p l e R s m args below meth c Q E nL pc lv2 st2 S2 cells slots) : J p l e R s m args below meth c Q E nL pc lv st S cells slots := by rw [h1, h2, h3]; exact K
end FR
end
section
section RW
variable {p : Program} {l : Launch} {e : Env} {R : Room} {s : State} {m : MethodId} {args : Array Value} {below : List Frame} {meth : Method} {c : Code} {Q : State → Prop} {E : EV} {nL pc : Nat} {lv lv' : List (Nat × Value)} {st : List Value} {S : PS} {cells slots : Nat} {cc : ByteArray} {own : String} {ret : Option FieldType}
theorem MC.hx (M : MC E p s m args meth c cc own nL ret) : p.tables.exec = Jvm.exec := M.1
theorem MC.hb (M : MC E p s m args meth c cc own nL ret) : c.code = cc := M.2.1
theorem MC.hml (M : MC E p s m args meth c cc own nL ret) : c.maxLocals = nL := M.2.2.1
theorem MC.hown (M : MC E p s m args meth c cc own nL ret) : s.vm.findClass own = some m.cls := M.2.2.2.1
theorem MC.hts (M : MC E p s m args meth c cc own nL ret) : ∀ w ∈ wsU, w.before args s = true := M.2.2.2.2.1
theorem MC.vp (M : MC E p s m args meth c cc own nL ret) : VP E s s.heap := M.2.2.2.2.2.1
theorem MC.hlk (M : MC E p s m args meth c cc own nL ret) : meth.locks = false := M.2.2.2.2.2.2.1
theorem MC.hsz (M : MC E p s m args meth c cc own nL ret) : eB E ≤ s.heap.size := M.2.2.2.2.2.2.2.1
theorem MC.hr (M : MC E p s m args meth c cc own nL ret) : meth.sig.returnType = ret := M.2.2.2.2.2.2.2.2
theorem MC.hK (M : MC E p s m args meth c cc own nL ret) : va_K E.1 vwCl (tyE E) s := M.vp.1
theorem MC.hA (M : MC E p s m args meth c cc own nL ret) : ∀ q : Nat, s.heap.size ≤ q → AE E q := fun _ h => Nat.le_trans M.hsz h
theorem j_iload_n (M : MC E p s m args meth c cc own nL ret) {k : Fin 4} {x : Int32} (hdg : decode cc pc = .ok (.iload_n k, 1)) (h : lvg lv k = some (.int x)) (K : J p l e R s m args below meth c Q E nL (pc + 1) lv (.int x :: st) S cells slots) : J p l e R s m args below meth c Q E nL (pc) lv (st) S cells slots :=
  fun H locs ls hH hS hl => lv_iload_n M.hx M.hb hdg rfl (lvg_at hl h) (K H locs ls hH hS hl)
theorem j_iload (M : MC E p s m args meth c cc own nL ret) {i : Nat} {x : Int32} (hdg : decode cc pc = .ok (.iload i, 2)) (h : lvg lv i = some (.int x)) (K : J p l e R s m args below meth c Q E nL (pc + 2) lv (.int x :: st) S cells slots) : J p l e R s m args below meth c Q E nL (pc) lv (st) S cells slots :=
  fun H locs ls hH hS hl => lv_iload M.hx M.hb hdg (lvg_at hl h) (K H locs ls hH hS hl)
theorem j_lload_n (M : MC E p s m args meth c cc own nL ret) {k : Fin 4} {x : Int64} (hdg : decode cc pc = .ok (.lload_n k, 1)) (h : lvg lv k = some (.long x)) (K : J p l e R s m args below meth c Q E nL (pc + 1) lv (.long x :: st) S cells slots) : J p l e R s m args below meth c Q E nL (pc) lv (st) S cells slots :=
  fun H locs ls hH hS hl => lv_lload_n M.hx M.hb hdg rfl (lvg_at hl h) (K H locs ls hH hS hl)
theorem j_lload (M : MC E p s m args meth c cc own nL ret) {i : Nat} {x : Int64} (hdg : decode cc pc = .ok (.lload i, 2)) (h : lvg lv i = some (.long x)) (K : J p l e R s m args below meth c Q E nL (pc + 2) lv (.long x :: st) S cells slots) : J p l e R s m args below meth c Q E nL (pc) lv (st) S cells slots :=
  fun H locs ls hH hS hl => lv_lload M.hx M.hb hdg (lvg_at hl h) (K H locs ls hH hS hl)
theorem j_aload_n (M : MC E p s m args meth c cc own nL ret) {k : Fin 4} {x : Nat} (hdg : decode cc pc = .ok (.aload_n k, 1)) (h : lvg lv k = some (.ref x)) (K : J p l e R s m args below meth c Q E nL (pc + 1) lv (.ref x :: st) S cells slots) : J p l e R s m args below meth c Q E nL (pc) lv (st) S cells slots :=
  fun H locs ls hH hS hl => lv_aload_n M.hx M.hb hdg rfl (lvg_at hl h) (K H locs ls hH hS hl)
theorem j_aload (M : MC E p s m args meth c cc own nL ret) {i : Nat} {x : Nat} (hdg : decode cc pc = .ok (.aload i, 2)) (h : lvg lv i = some (.ref x)) (K : J p l e R s m args below meth c Q E nL (pc + 2) lv (.ref x :: st) S cells slots) : J p l e R s m args below meth c Q E nL (pc) lv (st) S cells slots :=
  fun H locs ls hH hS hl => lv_aload M.hx M.hb hdg (lvg_at hl h) (K H locs ls hH hS hl)
theorem j_istore_n (M : MC E p s m args meth c cc own nL ret) {k : Fin 4} {i : Nat} {x : Int32} (hdg : decode cc pc = .ok (.istore_n k, 1)) (hi : (k : Nat) = i) (hn : i < nL) (hl' : (i, Value.int x) :: lv.filter (fun q => !(q.1 == i) && !(q.1 + 1 == i && q.2.category == 2)) = lv') (K : J p l e R s m args below meth c Q E nL (pc + 1) lv' (st) S cells slots) : J p l e R s m args below meth c Q E nL (pc) lv (.int x :: st) S cells slots :=
  fun H locs ls hH hS hl => lv_istore_n M.hx M.hb hdg hi hl hn hl' (fun ls' h2 => K H locs ls' hH hS h2)
theorem j_istore (M : MC E p s m args meth c cc own nL ret) {i : Nat} {x : Int32} (hdg : decode cc pc = .ok (.istore i, 2)) (hn : i < nL) (hl' : (i, Value.int x) :: lv.filter (fun q => !(q.1 == i) && !(q.1 + 1 == i && q.2.category == 2)) = lv') (K : J p l e R s m args below meth c Q E nL (pc + 2) lv' (st) S cells slots) : J p l e R s m args below meth c Q E nL (pc) lv (.int x :: st) S cells slots :=
  fun H locs ls hH hS hl => lv_istore M.hx M.hb hdg hl hn hl' (fun ls' h2 => K H locs ls' hH hS h2)
theorem j_lstore_n (M : MC E p s m args meth c cc own nL ret) {k : Fin 4} {i : Nat} {x : Int64} (hdg : decode cc pc = .ok (.lstore_n k, 1)) (hi : (k : Nat) = i) (hn : i + 1 < nL) (hl' : (i, Value.long x) :: lv.filter (fun q => !(q.1 == i) && (!(q.1 == i + 1) && !(q.1 + 1 == i && q.2.category == 2))) = lv') (K : J p l e R s m args below meth c Q E nL (pc + 1) lv' (st) S cells slots) : J p l e R s m args below meth c Q E nL (pc) lv (.long x :: st) S cells slots :=
  fun H locs ls hH hS hl => lv_lstore_n M.hx M.hb hdg hi hl hn hl' (fun ls' h2 => K H locs ls' hH hS h2)
theorem j_lstore (M : MC E p s m args meth c cc own nL ret) {i : Nat} {x : Int64} (hdg : decode cc pc = .ok (.lstore i, 2)) (hn : i + 1 < nL) (hl' : (i, Value.long x) :: lv.filter (fun q => !(q.1 == i) && (!(q.1 == i + 1) && !(q.1 + 1 == i && q.2.category == 2))) = lv') (K : J p l e R s m args below meth c Q E nL (pc + 2) lv' (st) S cells slots) : J p l e R s m args below meth c Q E nL (pc) lv (.long x :: st) S cells slots :=
  fun H locs ls hH hS hl => lv_lstore M.hx M.hb hdg hl hn hl' (fun ls' h2 => K H locs ls' hH hS h2)
theorem j_astore_n (M : MC E p s m args meth c cc own nL ret) {k : Fin 4} {i : Nat} {x : Nat} (hdg : decode cc pc = .ok (.astore_n k, 1)) (hi : (k : Nat) = i) (hn : i < nL) (hl' : (i, Value.ref x) :: lv.filter (fun q => !(q.1 == i) && !(q.1 + 1 == i && q.2.category == 2)) = lv') (K : J p l e R s m args below meth c Q E nL (pc + 1) lv' (st) S cells slots) : J p l e R s m args below meth c Q E nL (pc) lv (.ref x :: st) S cells slots :=
  fun H locs ls hH hS hl => lv_astore_n M.hx M.hb hdg hi hl hn hl' (fun ls' h2 => K H locs ls' hH hS h2)
theorem j_astore (M : MC E p s m args meth c cc own nL ret) {i : Nat} {x : Nat} (hdg : decode cc pc = .ok (.astore i, 2)) (hn : i < nL) (hl' : (i, Value.ref x) :: lv.filter (fun q => !(q.1 == i) && !(q.1 + 1 == i && q.2.category == 2)) = lv') (K : J p l e R s m args below meth c Q E nL (pc + 2) lv' (st) S cells slots) : J p l e R s m args below meth c Q E nL (pc) lv (.ref x :: st) S cells slots :=
  fun H locs ls hH hS hl => lv_astore M.hx M.hb hdg hl hn hl' (fun ls' h2 => K H locs ls' hH hS h2)
theorem j_iinc (M : MC E p s m args meth c cc own nL ret) {i : Nat} {n : Int} {x v : Int32} (hdg : decode cc pc = .ok (.iinc i n, 3)) (h : lvg lv i = some (.int x)) (hv : x + Int32.ofInt n = v) (hn : i < nL) (hl' : (i, Value.int v) :: lv.filter (fun q => !(q.1 == i) && !(q.1 + 1 == i && q.2.category == 2)) = lv') (K : J p l e R s m args below meth c Q E nL (pc + 3) lv' (st) S cells slots) : J p l e R s m args below meth c Q E nL (pc) lv (st) S cells slots := by
  obtain ⟨k, hk⟩ := List.getElem?_of_mem (lvg_mem h)
  exact fun H locs ls hH hS hl => lv_iinc M.hx M.hb hdg hl hk hv hn hl' (fun ls' h2 => K H locs ls' hH hS h2)
theorem j_iconst (M : MC E p s m args meth c cc own nL ret) {n : Int} {v : Int32} (hdg : decode cc pc = .ok (.iconst n, 1)) (hv : Int32.ofInt n = v) (K : J p l e R s m args below meth c Q E nL (pc + 1) lv (.int v :: st) S cells slots) : J p l e R s m args below meth c Q E nL (pc) lv (st) S cells slots :=
  fun H locs ls hH hS hl => lv_iconst M.hx M.hb hdg hv (K H locs ls hH hS hl)
theorem j_bipush (M : MC E p s m args meth c cc own nL ret) {n : Int} {v : Int32} (hdg : decode cc pc = .ok (.bipush n, 2)) (hv : (Int8.ofInt n).toInt32 = v) (K : J p l e R s m args below meth c Q E nL (pc + 2) lv (.int v :: st) S cells slots) : J p l e R s m args below meth c Q E nL (pc) lv (st) S cells slots :=
  fun H locs ls hH hS hl => lv_bipush M.hx M.hb hdg hv (K H locs ls hH hS hl)
theorem j_sipush (M : MC E p s m args meth c cc own nL ret) {n : Int} {v : Int32} (hdg : decode cc pc = .ok (.sipush n, 3)) (hv : (Int16.ofInt n).toInt32 = v) (K : J p l e R s m args below meth c Q E nL (pc + 3) lv (.int v :: st) S cells slots) : J p l e R s m args below meth c Q E nL (pc) lv (st) S cells slots :=
  fun H locs ls hH hS hl => lv_sipush M.hx M.hb hdg hv (K H locs ls hH hS hl)
theorem j_ldc (M : MC E p s m args meth c cc own nL ret) {index : Nat} {v : Int32} (hc : Cond.constant own index v ∈ wsU) (hdg : decode cc pc = .ok (.ldc index, 2)) (K : J p l e R s m args below meth c Q E nL (pc + 2) lv (.int v :: st) S cells slots) : J p l e R s m args below meth c Q E nL (pc) lv (st) S cells slots :=
  fun H locs ls hH hS hl => lv_ldc M.hx M.hb M.hown (M.hts _ hc) hdg (K H locs ls hH hS hl)
theorem j_ldcw (M : MC E p s m args meth c cc own nL ret) {index : Nat} {v : Int32} (hc : Cond.constant own index v ∈ wsU) (hdg : decode cc pc = .ok (.ldc_w index, 3)) (K : J p l e R s m args below meth c Q E nL (pc + 3) lv (.int v :: st) S cells slots) : J p l e R s m args below meth c Q E nL (pc) lv (st) S cells slots :=
  fun H locs ls hH hS hl => lv_ldcw M.hx M.hb M.hown (M.hts _ hc) hdg (K H locs ls hH hS hl)
theorem j_ldc2 (M : MC E p s m args meth c cc own nL ret) {index : Nat} {v : Int64} (hc : Cond.constantLong own index v ∈ wsU) (hdg : decode cc pc = .ok (.ldc2_w index, 3)) (K : J p l e R s m args below meth c Q E nL (pc + 3) lv (.long v :: st) S cells slots) : J p l e R s m args below meth c Q E nL (pc) lv (st) S cells slots :=
  fun H locs ls hH hS hl => lv_ldc2 M.hx M.hb M.hown (M.hts _ hc) hdg (K H locs ls hH hS hl)
theorem j_null (M : MC E p s m args meth c cc own nL ret) (hdg : decode cc pc = .ok (.aconst_null, 1)) (K : J p l e R s m args below meth c Q E nL (pc + 1) lv (.null :: st) S cells slots) : J p l e R s m args below meth c Q E nL (pc) lv (st) S cells slots :=
  fun H locs ls hH hS hl => lv_null M.hx M.hb hdg (K H locs ls hH hS hl)
theorem j_iadd (M : MC E p s m args meth c cc own nL ret) {x y : Int32} (hdg : decode cc pc = .ok (.iadd, 1)) (K : J p l e R s m args below meth c Q E nL (pc + 1) lv (.int (x + y) :: st) S cells slots) : J p l e R s m args below meth c Q E nL (pc) lv (.int y :: .int x :: st) S cells slots :=
  fun H locs ls hH hS hl => lv_iadd M.hx M.hb hdg (K H locs ls hH hS hl)
theorem j_isub (M : MC E p s m args meth c cc own nL ret) {x y : Int32} (hdg : decode cc pc = .ok (.isub, 1)) (K : J p l e R s m args below meth c Q E nL (pc + 1) lv (.int (x - y) :: st) S cells slots) : J p l e R s m args below meth c Q E nL (pc) lv (.int y :: .int x :: st) S cells slots :=
  fun H locs ls hH hS hl => lv_isub M.hx M.hb hdg (K H locs ls hH hS hl)
theorem j_imul (M : MC E p s m args meth c cc own nL ret) {x y : Int32} (hdg : decode cc pc = .ok (.imul, 1)) (K : J p l e R s m args below meth c Q E nL (pc + 1) lv (.int (x * y) :: st) S cells slots) : J p l e R s m args below meth c Q E nL (pc) lv (.int y :: .int x :: st) S cells slots :=
  fun H locs ls hH hS hl => lv_imul M.hx M.hb hdg (K H locs ls hH hS hl)
theorem j_iand (M : MC E p s m args meth c cc own nL ret) {x y : Int32} (hdg : decode cc pc = .ok (.iand, 1)) (K : J p l e R s m args below meth c Q E nL (pc + 1) lv (.int (x &&& y) :: st) S cells slots) : J p l e R s m args below meth c Q E nL (pc) lv (.int y :: .int x :: st) S cells slots :=
  fun H locs ls hH hS hl => lv_iand M.hx M.hb hdg (K H locs ls hH hS hl)
theorem j_ior (M : MC E p s m args meth c cc own nL ret) {x y : Int32} (hdg : decode cc pc = .ok (.ior, 1)) (K : J p l e R s m args below meth c Q E nL (pc + 1) lv (.int (x ||| y) :: st) S cells slots) : J p l e R s m args below meth c Q E nL (pc) lv (.int y :: .int x :: st) S cells slots :=
  fun H locs ls hH hS hl => lv_ior M.hx M.hb hdg (K H locs ls hH hS hl)
theorem j_ishl (M : MC E p s m args meth c cc own nL ret) {x y : Int32} (hdg : decode cc pc = .ok (.ishl, 1)) (K : J p l e R s m args below meth c Q E nL (pc + 1) lv (.int (x <<< (y &&& 31)) :: st) S cells slots) : J p l e R s m args below meth c Q E nL (pc) lv (.int y :: .int x :: st) S cells slots :=
  fun H locs ls hH hS hl => lv_ishl M.hx M.hb hdg (K H locs ls hH hS hl)
theorem j_ishr (M : MC E p s m args meth c cc own nL ret) {x y : Int32} (hdg : decode cc pc = .ok (.ishr, 1)) (K : J p l e R s m args below meth c Q E nL (pc + 1) lv (.int (x >>> (y &&& 31)) :: st) S cells slots) : J p l e R s m args below meth c Q E nL (pc) lv (.int y :: .int x :: st) S cells slots :=
  fun H locs ls hH hS hl => lv_ishr M.hx M.hb hdg (K H locs ls hH hS hl)
theorem j_idiv (M : MC E p s m args meth c cc own nL ret) {x y : Int32} (hdg : decode cc pc = .ok (.idiv, 1)) (hne : ¬ y = 0) (K : J p l e R s m args below meth c Q E nL (pc + 1) lv (.int (x / y) :: st) S cells slots) : J p l e R s m args below meth c Q E nL (pc) lv (.int y :: .int x :: st) S cells slots :=
  fun H locs ls hH hS hl => lv_idiv M.hx M.hb hdg hne (K H locs ls hH hS hl)
theorem j_irem (M : MC E p s m args meth c cc own nL ret) {x y : Int32} (hdg : decode cc pc = .ok (.irem, 1)) (hne : ¬ y = 0) (K : J p l e R s m args below meth c Q E nL (pc + 1) lv (.int (x - x / y * y) :: st) S cells slots) : J p l e R s m args below meth c Q E nL (pc) lv (.int y :: .int x :: st) S cells slots :=
  fun H locs ls hH hS hl => lv_irem M.hx M.hb hdg hne (K H locs ls hH hS hl)
theorem j_iushr (M : MC E p s m args meth c cc own nL ret) {x y v : Int32} (hdg : decode cc pc = .ok (.iushr, 1)) (hv : (x.toUInt32 >>> (y.toUInt32 &&& Int32.toUInt32 31)).toInt32 = v) (K : J p l e R s m args below meth c Q E nL (pc + 1) lv (.int v :: st) S cells slots) : J p l e R s m args below meth c Q E nL (pc) lv (.int y :: .int x :: st) S cells slots :=
  fun H locs ls hH hS hl => lv_iushr M.hx M.hb hdg hv (K H locs ls hH hS hl)
theorem j_ineg (M : MC E p s m args meth c cc own nL ret) {x : Int32} (hdg : decode cc pc = .ok (.ineg, 1)) (K : J p l e R s m args below meth c Q E nL (pc + 1) lv (.int (-x) :: st) S cells slots) : J p l e R s m args below meth c Q E nL (pc) lv (.int x :: st) S cells slots :=
  fun H locs ls hH hS hl => lv_ineg M.hx M.hb hdg (K H locs ls hH hS hl)
theorem j_i2l (M : MC E p s m args meth c cc own nL ret) {x : Int32} (hdg : decode cc pc = .ok (.i2l, 1)) (K : J p l e R s m args below meth c Q E nL (pc + 1) lv (.long x.toInt64 :: st) S cells slots) : J p l e R s m args below meth c Q E nL (pc) lv (.int x :: st) S cells slots :=
  fun H locs ls hH hS hl => lv_i2l M.hx M.hb hdg rfl (K H locs ls hH hS hl)
theorem j_ladd (M : MC E p s m args meth c cc own nL ret) {x y : Int64} (hdg : decode cc pc = .ok (.ladd, 1)) (K : J p l e R s m args below meth c Q E nL (pc + 1) lv (.long (x + y) :: st) S cells slots) : J p l e R s m args below meth c Q E nL (pc) lv (.long y :: .long x :: st) S cells slots :=
  fun H locs ls hH hS hl => lv_ladd M.hx M.hb hdg (K H locs ls hH hS hl)
theorem j_lmul (M : MC E p s m args meth c cc own nL ret) {x y : Int64} (hdg : decode cc pc = .ok (.lmul, 1)) (K : J p l e R s m args below meth c Q E nL (pc + 1) lv (.long (x * y) :: st) S cells slots) : J p l e R s m args below meth c Q E nL (pc) lv (.long y :: .long x :: st) S cells slots :=
  fun H locs ls hH hS hl => lv_lmul M.hx M.hb hdg (K H locs ls hH hS hl)
theorem j_lcmp (M : MC E p s m args meth c cc own nL ret) {x y : Int64} (hdg : decode cc pc = .ok (.lcmp, 1)) (K : J p l e R s m args below meth c Q E nL (pc + 1) lv (.int (lg_cmp x y) :: st) S cells slots) : J p l e R s m args below meth c Q E nL (pc) lv (.long y :: .long x :: st) S cells slots :=
  fun H locs ls hH hS hl => W.lcmp M.hx M.hb hdg (K H locs ls hH hS hl)
theorem j_dup (M : MC E p s m args meth c cc own nL ret) {v : Value} (hdg : decode cc pc = .ok (.dup, 1)) (hv : v.category = 1) (K : J p l e R s m args below meth c Q E nL (pc + 1) lv (v :: v :: st) S cells slots) : J p l e R s m args below meth c Q E nL (pc) lv (v :: st) S cells slots :=
  fun H locs ls hH hS hl => lv_dup M.hx M.hb hdg hv (K H locs ls hH hS hl)
theorem j_pop (M : MC E p s m args meth c cc own nL ret) {v : Value} (hdg : decode cc pc = .ok (.pop, 1)) (hv : v.category = 1) (K : J p l e R s m args below meth c Q E nL (pc + 1) lv (st) S cells slots) : J p l e R s m args below meth c Q E nL (pc) lv (v :: st) S cells slots :=
  fun H locs ls hH hS hl => lv_pop M.hx M.hb hdg hv (K H locs ls hH hS hl)
theorem j_dup_x1 (M : MC E p s m args meth c cc own nL ret) {v w : Value} (hdg : decode cc pc = .ok (.dup_x1, 1)) (hv : v.category = 1) (hw : w.category = 1) (K : J p l e R s m args below meth c Q E nL (pc + 1) lv (v :: w :: v :: st) S cells slots) : J p l e R s m args below meth c Q E nL (pc) lv (v :: w :: st) S cells slots :=
  fun H locs ls hH hS hl => lv_dup_x1 M.hx M.hb hdg hv hw (K H locs ls hH hS hl)
theorem j_if_eq (M : MC E p s m args meth c cc own nL ret) {x : Int32} {off : Int} {tgt : Nat} (hdg : decode cc pc = .ok (.ifCond .eq off, 3)) (ht : (pc : Int) + off = (tgt : Int)) (kt : x = 0 → J p l e R s m args below meth c Q E nL (tgt) lv (st) S cells slots) (kf : ¬ x = 0 → J p l e R s m args below meth c Q E nL (pc + 3) lv (st) S cells slots) : J p l e R s m args below meth c Q E nL (pc) lv (.int x :: st) S cells slots :=
  fun H locs ls hH hS hl => lv_if_eq M.hx M.hb hdg ht (fun q => kt q H locs ls hH hS hl) (fun q => kf q H locs ls hH hS hl)
theorem j_icmp_eq (M : MC E p s m args meth c cc own nL ret) {x y : Int32} {off : Int} {tgt : Nat} (hdg : decode cc pc = .ok (.if_icmp .eq off, 3)) (ht : (pc : Int) + off = (tgt : Int)) (kt : x = y → J p l e R s m args below meth c Q E nL (tgt) lv (st) S cells slots) (kf : ¬ x = y → J p l e R s m args below meth c Q E nL (pc + 3) lv (st) S cells slots) : J p l e R s m args below meth c Q E nL (pc) lv (.int y :: .int x :: st) S cells slots :=
  fun H locs ls hH hS hl => lv_icmp_eq M.hx M.hb hdg ht (fun q => kt q H locs ls hH hS hl) (fun q => kf q H locs ls hH hS hl)
theorem j_if_ne (M : MC E p s m args meth c cc own nL ret) {x : Int32} {off : Int} {tgt : Nat} (hdg : decode cc pc = .ok (.ifCond .ne off, 3)) (ht : (pc : Int) + off = (tgt : Int)) (kt : ¬ x = 0 → J p l e R s m args below meth c Q E nL (tgt) lv (st) S cells slots) (kf : x = 0 → J p l e R s m args below meth c Q E nL (pc + 3) lv (st) S cells slots) : J p l e R s m args below meth c Q E nL (pc) lv (.int x :: st) S cells slots :=
  fun H locs ls hH hS hl => lv_if_ne M.hx M.hb hdg ht (fun q => kt q H locs ls hH hS hl) (fun q => kf q H locs ls hH hS hl)
theorem j_icmp_ne (M : MC E p s m args meth c cc own nL ret) {x y : Int32} {off : Int} {tgt : Nat} (hdg : decode cc pc = .ok (.if_icmp .ne off, 3)) (ht : (pc : Int) + off = (tgt : Int)) (kt : ¬ x = y → J p l e R s m args below meth c Q E nL (tgt) lv (st) S cells slots) (kf : x = y → J p l e R s m args below meth c Q E nL (pc + 3) lv (st) S cells slots) : J p l e R s m args below meth c Q E nL (pc) lv (.int y :: .int x :: st) S cells slots :=
  fun H locs ls hH hS hl => lv_icmp_ne M.hx M.hb hdg ht (fun q => kt q H locs ls hH hS hl) (fun q => kf q H locs ls hH hS hl)
theorem j_if_lt (M : MC E p s m args meth c cc own nL ret) {x : Int32} {off : Int} {tgt : Nat} (hdg : decode cc pc = .ok (.ifCond .lt off, 3)) (ht : (pc : Int) + off = (tgt : Int)) (kt : x < 0 → J p l e R s m args below meth c Q E nL (tgt) lv (st) S cells slots) (kf : ¬ x < 0 → J p l e R s m args below meth c Q E nL (pc + 3) lv (st) S cells slots) : J p l e R s m args below meth c Q E nL (pc) lv (.int x :: st) S cells slots :=
  fun H locs ls hH hS hl => lv_if_lt M.hx M.hb hdg ht (fun q => kt q H locs ls hH hS hl) (fun q => kf q H locs ls hH hS hl)
theorem j_icmp_lt (M : MC E p s m args meth c cc own nL ret) {x y : Int32} {off : Int} {tgt : Nat} (hdg : decode cc pc = .ok (.if_icmp .lt off, 3)) (ht : (pc : Int) + off = (tgt : Int)) (kt : x < y → J p l e R s m args below meth c Q E nL (tgt) lv (st) S cells slots) (kf : ¬ x < y → J p l e R s m args below meth c Q E nL (pc + 3) lv (st) S cells slots) : J p l e R s m args below meth c Q E nL (pc) lv (.int y :: .int x :: st) S cells slots :=
  fun H locs ls hH hS hl => lv_icmp_lt M.hx M.hb hdg ht (fun q => kt q H locs ls hH hS hl) (fun q => kf q H locs ls hH hS hl)
theorem j_if_ge (M : MC E p s m args meth c cc own nL ret) {x : Int32} {off : Int} {tgt : Nat} (hdg : decode cc pc = .ok (.ifCond .ge off, 3)) (ht : (pc : Int) + off = (tgt : Int)) (kt : 0 ≤ x → J p l e R s m args below meth c Q E nL (tgt) lv (st) S cells slots) (kf : ¬ 0 ≤ x → J p l e R s m args below meth c Q E nL (pc + 3) lv (st) S cells slots) : J p l e R s m args below meth c Q E nL (pc) lv (.int x :: st) S cells slots :=
  fun H locs ls hH hS hl => lv_if_ge M.hx M.hb hdg ht (fun q => kt q H locs ls hH hS hl) (fun q => kf q H locs ls hH hS hl)
theorem j_icmp_ge (M : MC E p s m args meth c cc own nL ret) {x y : Int32} {off : Int} {tgt : Nat} (hdg : decode cc pc = .ok (.if_icmp .ge off, 3)) (ht : (pc : Int) + off = (tgt : Int)) (kt : y ≤ x → J p l e R s m args below meth c Q E nL (tgt) lv (st) S cells slots) (kf : ¬ y ≤ x → J p l e R s m args below meth c Q E nL (pc + 3) lv (st) S cells slots) : J p l e R s m args below meth c Q E nL (pc) lv (.int y :: .int x :: st) S cells slots :=
  fun H locs ls hH hS hl => lv_icmp_ge M.hx M.hb hdg ht (fun q => kt q H locs ls hH hS hl) (fun q => kf q H locs ls hH hS hl)
theorem j_if_gt (M : MC E p s m args meth c cc own nL ret) {x : Int32} {off : Int} {tgt : Nat} (hdg : decode cc pc = .ok (.ifCond .gt off, 3)) (ht : (pc : Int) + off = (tgt : Int)) (kt : 0 < x → J p l e R s m args below meth c Q E nL (tgt) lv (st) S cells slots) (kf : ¬ 0 < x → J p l e R s m args below meth c Q E nL (pc + 3) lv (st) S cells slots) : J p l e R s m args below meth c Q E nL (pc) lv (.int x :: st) S cells slots :=
  fun H locs ls hH hS hl => lv_if_gt M.hx M.hb hdg ht (fun q => kt q H locs ls hH hS hl) (fun q => kf q H locs ls hH hS hl)
theorem j_icmp_gt (M : MC E p s m args meth c cc own nL ret) {x y : Int32} {off : Int} {tgt : Nat} (hdg : decode cc pc = .ok (.if_icmp .gt off, 3)) (ht : (pc : Int) + off = (tgt : Int)) (kt : y < x → J p l e R s m args below meth c Q E nL (tgt) lv (st) S cells slots) (kf : ¬ y < x → J p l e R s m args below meth c Q E nL (pc + 3) lv (st) S cells slots) : J p l e R s m args below meth c Q E nL (pc) lv (.int y :: .int x :: st) S cells slots :=
  fun H locs ls hH hS hl => lv_icmp_gt M.hx M.hb hdg ht (fun q => kt q H locs ls hH hS hl) (fun q => kf q H locs ls hH hS hl)
theorem j_if_le (M : MC E p s m args meth c cc own nL ret) {x : Int32} {off : Int} {tgt : Nat} (hdg : decode cc pc = .ok (.ifCond .le off, 3)) (ht : (pc : Int) + off = (tgt : Int)) (kt : x ≤ 0 → J p l e R s m args below meth c Q E nL (tgt) lv (st) S cells slots) (kf : ¬ x ≤ 0 → J p l e R s m args below meth c Q E nL (pc + 3) lv (st) S cells slots) : J p l e R s m args below meth c Q E nL (pc) lv (.int x :: st) S cells slots :=
  fun H locs ls hH hS hl => lv_if_le M.hx M.hb hdg ht (fun q => kt q H locs ls hH hS hl) (fun q => kf q H locs ls hH hS hl)
theorem j_icmp_le (M : MC E p s m args meth c cc own nL ret) {x y : Int32} {off : Int} {tgt : Nat} (hdg : decode cc pc = .ok (.if_icmp .le off, 3)) (ht : (pc : Int) + off = (tgt : Int)) (kt : x ≤ y → J p l e R s m args below meth c Q E nL (tgt) lv (st) S cells slots) (kf : ¬ x ≤ y → J p l e R s m args below meth c Q E nL (pc + 3) lv (st) S cells slots) : J p l e R s m args below meth c Q E nL (pc) lv (.int y :: .int x :: st) S cells slots :=
  fun H locs ls hH hS hl => lv_icmp_le M.hx M.hb hdg ht (fun q => kt q H locs ls hH hS hl) (fun q => kf q H locs ls hH hS hl)
theorem j_acmp_eq (M : MC E p s m args meth c cc own nL ret) {a b : Nat} {off : Int} {tgt : Nat} (hdg : decode cc pc = .ok (.if_acmp .eq off, 3)) (ht : (pc : Int) + off = (tgt : Int)) (kt : a = b → J p l e R s m args below meth c Q E nL (tgt) lv (st) S cells slots) (kf : ¬ a = b → J p l e R s m args below meth c Q E nL (pc + 3) lv (st) S cells slots) : J p l e R s m args below meth c Q E nL (pc) lv (.ref b :: .ref a :: st) S cells slots :=
  fun H locs ls hH hS hl => lv_acmp_eq (rx := some a) (ry := some b) M.hx M.hb hdg ht (fun q => kt (Option.some.inj q) H locs ls hH hS hl) (fun q => kf (fun z => q (congrArg some z)) H locs ls hH hS hl)
theorem j_acmp_ne (M : MC E p s m args meth c cc own nL ret) {a b : Nat} {off : Int} {tgt : Nat} (hdg : decode cc pc = .ok (.if_acmp .ne off, 3)) (ht : (pc : Int) + off = (tgt : Int)) (kt : ¬ a = b → J p l e R s m args below meth c Q E nL (tgt) lv (st) S cells slots) (kf : a = b → J p l e R s m args below meth c Q E nL (pc + 3) lv (st) S cells slots) : J p l e R s m args below meth c Q E nL (pc) lv (.ref b :: .ref a :: st) S cells slots :=
  fun H locs ls hH hS hl => lv_acmp_ne (rx := some a) (ry := some b) M.hx M.hb hdg ht (fun q => kt (fun z => q (congrArg some z)) H locs ls hH hS hl) (fun q => kf (Option.some.inj q) H locs ls hH hS hl)
theorem j_ifnull (M : MC E p s m args meth c cc own nL ret) {a : Nat} {off : Int} (hdg : decode cc pc = .ok (.ifnull off, 3)) (K : J p l e R s m args below meth c Q E nL (pc + 3) lv (st) S cells slots) : J p l e R s m args below meth c Q E nL (pc) lv (.ref a :: st) S cells slots :=
  fun H locs ls hH hS hl => lv_ifnull M.hx M.hb hdg (K H locs ls hH hS hl)
theorem j_ifnullN (M : MC E p s m args meth c cc own nL ret) {off : Int} {tgt : Nat} (hdg : decode cc pc = .ok (.ifnull off, 3)) (ht : (pc : Int) + off = (tgt : Int)) (K : J p l e R s m args below meth c Q E nL (tgt) lv (st) S cells slots) : J p l e R s m args below meth c Q E nL (pc) lv (.null :: st) S cells slots :=
  fun H locs ls hH hS hl => lv_ifnullN M.hx M.hb hdg ht (K H locs ls hH hS hl)
theorem j_ifnonnull (M : MC E p s m args meth c cc own nL ret) {a : Nat} {off : Int} {tgt : Nat} (hdg : decode cc pc = .ok (.ifnonnull off, 3)) (ht : (pc : Int) + off = (tgt : Int)) (K : J p l e R s m args below meth c Q E nL (tgt) lv (st) S cells slots) : J p l e R s m args below meth c Q E nL (pc) lv (.ref a :: st) S cells slots :=
  fun H locs ls hH hS hl => lv_ifnonnull M.hx M.hb hdg ht (K H locs ls hH hS hl)
theorem j_ifnonnullN (M : MC E p s m args meth c cc own nL ret) {off : Int} (hdg : decode cc pc = .ok (.ifnonnull off, 3)) (K : J p l e R s m args below meth c Q E nL (pc + 3) lv (st) S cells slots) : J p l e R s m args below meth c Q E nL (pc) lv (.null :: st) S cells slots :=
  fun H locs ls hH hS hl => lv_ifnonnullN M.hx M.hb hdg (K H locs ls hH hS hl)
theorem j_goto (M : MC E p s m args meth c cc own nL ret) {off : Int} {tgt : Nat} (hdg : decode cc pc = .ok (.goto off, 3)) (ht : (pc : Int) + off = (tgt : Int)) (K : J p l e R s m args below meth c Q E nL (tgt) lv (st) S cells slots) : J p l e R s m args below meth c Q E nL (pc) lv (st) S cells slots :=
  fun H locs ls hH hS hl => lv_goto M.hx M.hb hdg ht (K H locs ls hH hS hl)
theorem j_tableOut (M : MC E p s m args meth c cc own nL ret) {dflt lo hi : Int} {offs : Array Int} {len tgt : Nat} {x : Int32} (hdg : decode cc pc = .ok (.tableswitch dflt lo hi offs, len)) (h : x.toInt < lo ∨ hi < x.toInt) (ht : (pc : Int) + dflt = (tgt : Int)) (K : J p l e R s m args below meth c Q E nL (tgt) lv (st) S cells slots) : J p l e R s m args below meth c Q E nL (pc) lv (.int x :: st) S cells slots :=
  fun H locs ls hH hS hl => lv_tableOut M.hx M.hb hdg h ht (K H locs ls hH hS hl)
theorem j_tableIn (M : MC E p s m args meth c cc own nL ret) {dflt lo hi off : Int} {offs : Array Int} {len tgt : Nat} {x : Int32} (hdg : decode cc pc = .ok (.tableswitch dflt lo hi offs, len)) (h1 : ¬ x.toInt < lo) (h2 : ¬ hi < x.toInt) (ho : offs[(x.toInt - lo).toNat]? = some off) (ht : (pc : Int) + off = (tgt : Int)) (K : J p l e R s m args below meth c Q E nL (tgt) lv (st) S cells slots) : J p l e R s m args below meth c Q E nL (pc) lv (.int x :: st) S cells slots :=
  fun H locs ls hH hS hl => lv_tableIn M.hx M.hb hdg h1 h2 ho ht (K H locs ls hH hS hl)
theorem j_name {e0 : Int32} (K : ∀ x : Int32, x = e0 → J p l e R s m args below meth c Q E nL (pc) lv (.int x :: st) S cells slots) : J p l e R s m args below meth c Q E nL (pc) lv (.int e0 :: st) S cells slots := K e0 rfl
theorem j_get (M : MC E p s m args meth c cc own nL ret) {ref C : String} {T : u_T} {N ci index a : Nat} {fs : List Value} {v : Value} (haL : a ∈ sL S) (hF : pF E S a = .inr (ci, fs)) (hc : vwCl[ci]? = some (C, T, N)) (hin : ∀ w ∈ u_ws C T N, w ∈ wsU) (k : Nat) (hk : k < N) (hlink : Cond.fieldLink own index ref (T k).2.1 (T k).2.2.1 ∈ wsU) (hsame : ∀ x, s.fieldFound? (T k).1 (T k).2.1 (T k).2.2.1 = some x → s.fieldFound? ref (T k).2.1 (T k).2.2.1 = some x) (hv : fs[k]? = some v) (hdg : decode cc pc = .ok (.getfield index, 3)) (K : J p l e R s m args below meth c Q E nL (pc + 3) lv (v :: st) S cells slots) : J p l e R s m args below meth c Q E nL (pc) lv (.ref a :: st) S cells slots := by
  intro H locs ls hH hS hl
  obtain ⟨q0, hq⟩ := pGet (E := E) haL
  rw [hF] at hq
  exact va_get M.hx M.hb M.hts hin M.hown M.hK hH.2.1 q0 hq hc k hk (M.hts _ hlink) hsame hv hdg (K H locs ls hH hS hl)
theorem j_getN (M : MC E p s m args meth c cc own nL ret) {ref C : String} {T : u_T} {N ci index a : Nat} {fs : List Value} {v : Value} (haL : a ∈ sL S) (hF : pF E S a = .inr (ci, fs)) (hc : vwCl[ci]? = some (C, T, N)) (hin : ∀ w ∈ u_ws C T N, w ∈ wsU) (k : Nat) (hk : k < N) {host : String} (hlink : Cond.fieldLinkNest own index ref (T k).2.1 (T k).2.2.1 host ∈ lw_tbl) (hsame : ∀ x, s.fieldFound? (T k).1 (T k).2.1 (T k).2.2.1 = some x → s.fieldFound? ref (T k).2.1 (T k).2.2.1 = some x) (hv : fs[k]? = some v) (hdg : decode cc pc = .ok (.getfield index, 3)) (K : J p l e R s m args below meth c Q E nL (pc + 3) lv (v :: st) S cells slots) : J p l e R s m args below meth c Q E nL (pc) lv (.ref a :: st) S cells slots := by
  intro H locs ls hH hS hl
  obtain ⟨q0, hq⟩ := pGet (E := E) haL
  rw [hF] at hq
  exact va_getN M.hx M.hb M.hts hin M.hown M.hK hH.2.1 q0 hq hc k hk (va_Nw.use rfl (M.vp.2.1 _ hlink rfl)) hsame hv hdg (K H locs ls hH hS hl)
theorem j_put (M : MC E p s m args meth c cc own nL ret) {host : String} {ref C : String} {T : u_T} {N ci index a : Nat} {fs : List Value} {v : Value} (haL : a ∈ sL S) (hF : pF E S a = .inr (ci, fs)) (hc : vwCl[ci]? = some (C, T, N)) (hin : ∀ w ∈ u_ws C T N, w ∈ wsU) (k : Nat) (hk : k < N) (ty0 : Nat → FieldType) (hty : ∀ k, k < N → parseFieldDescriptor (T k).2.2.1 = some (ty0 k)) (hnm : ∀ a, a < N → ∀ b, b < N → a ≠ b → (T a).2.1 ≠ (T b).2.1) (hlink : Cond.fieldLink own index ref (T k).2.1 (T k).2.2.1 ∈ wsU) (hsame : ∀ x, s.fieldFound? (T k).1 (T k).2.1 (T k).2.2.1 = some x → s.fieldFound? ref (T k).2.1 (T k).2.2.1 = some x) (hfin : (T k).2.2.2 = false) {ty : FieldType} (hd : parseFieldDescriptor (T k).2.2.1 = some ty) (hn : narrow ty v = v) (hfit : fits ty v = true) (hl0 : k < fs.length) {S2 : PS} (hL2 : sL S2 = sL S) (hu : ∀ b, va_up (pF E S) a (.inr (ci, fs.set k v)) b = pF E S2 b) (hdg : decode cc pc = .ok (.putfield index, 3)) (K : J p l e R s m args below meth c Q E nL (pc + 3) lv (st) S2 cells slots) : J p l e R s m args below meth c Q E nL (pc) lv (v :: .ref a :: st) S cells slots := by
  intro H locs ls hH hS hl
  obtain ⟨q0, hq⟩ := pGet (E := E) haL
  have hq1 := hq
  rw [hF] at hq
  refine va_put M.hx M.hb M.hts hin ty0 hty hnm M.hown M.hK hH.2.1 hH.2.2 hS q0 hq hc k hk (M.hts _ hlink) hsame hfin hd hn hfit hl0 hdg (fun H1 locs1 hP1 hD1 hS1 => ?_)
  have e := pSet (e := .inr (ci, fs.set k v)) hH.2.2 haL hq1 hL2 hu
  rw [e] at hP1 hD1
  exact K H1 locs1 ls ⟨Nat.le_trans M.hsz hS1.1, hP1, hD1⟩ hS1 hl
theorem j_putN (M : MC E p s m args meth c cc own nL ret) {host : String} {ref C : String} {T : u_T} {N ci index a : Nat} {fs : List Value} {v : Value} (haL : a ∈ sL S) (hF : pF E S a = .inr (ci, fs)) (hc : vwCl[ci]? = some (C, T, N)) (hin : ∀ w ∈ u_ws C T N, w ∈ wsU) (k : Nat) (hk : k < N) (ty0 : Nat → FieldType) (hty : ∀ k, k < N → parseFieldDescriptor (T k).2.2.1 = some (ty0 k)) (hnm : ∀ a, a < N → ∀ b, b < N → a ≠ b → (T a).2.1 ≠ (T b).2.1) (hlink : Cond.fieldLinkNest own index ref (T k).2.1 (T k).2.2.1 host ∈ lw_tbl) (hsame : ∀ x, s.fieldFound? (T k).1 (T k).2.1 (T k).2.2.1 = some x → s.fieldFound? ref (T k).2.1 (T k).2.2.1 = some x) (hfin : (T k).2.2.2 = false) {ty : FieldType} (hd : parseFieldDescriptor (T k).2.2.1 = some ty) (hn : narrow ty v = v) (hfit : fits ty v = true) (hl0 : k < fs.length) {S2 : PS} (hL2 : sL S2 = sL S) (hu : ∀ b, va_up (pF E S) a (.inr (ci, fs.set k v)) b = pF E S2 b) (hdg : decode cc pc = .ok (.putfield index, 3)) (K : J p l e R s m args below meth c Q E nL (pc + 3) lv (st) S2 cells slots) : J p l e R s m args below meth c Q E nL (pc) lv (v :: .ref a :: st) S cells slots := by
  intro H locs ls hH hS hl
  obtain ⟨q0, hq⟩ := pGet (E := E) haL
  have hq1 := hq
  rw [hF] at hq
  refine va_putN M.hx M.hb M.hts hin ty0 hty hnm M.hown M.hK hH.2.1 hH.2.2 hS q0 hq hc k hk (va_Nw.use rfl (M.vp.2.1 _ hlink rfl)) hsame hfin hd hn hfit hl0 hdg (fun H1 locs1 hP1 hD1 hS1 => ?_)
  have e := pSet (e := .inr (ci, fs.set k v)) hH.2.2 haL hq1 hL2 hu
  rw [e] at hP1 hD1
  exact K H1 locs1 ls ⟨Nat.le_trans M.hsz hS1.1, hP1, hD1⟩ hS1 hl
theorem j_putF (M : MC E p s m args meth c cc own nL ret) {host : String} {ref C : String} {T : u_T} {N ci index a : Nat} {fs : List Value} {v : Value} (haL : a ∈ sL S) (hF : pF E S a = .inr (ci, fs)) (hc : vwCl[ci]? = some (C, T, N)) (hin : ∀ w ∈ u_ws C T N, w ∈ wsU) (k : Nat) (hk : k < N) (ty0 : Nat → FieldType) (hty : ∀ k, k < N → parseFieldDescriptor (T k).2.2.1 = some (ty0 k)) (hnm : ∀ a, a < N → ∀ b, b < N → a ≠ b → (T a).2.1 ≠ (T b).2.1) (hlink : Cond.fieldLink own index ref (T k).2.1 (T k).2.2.1 ∈ wsU) (hsame : ∀ x, s.fieldFound? (T k).1 (T k).2.1 (T k).2.2.1 = some x → s.fieldFound? ref (T k).2.1 (T k).2.2.1 = some x) (hfin : (T k).2.2.2 = true) (hin2 : meth.name = "<init>") (hdecl : (T k).1 = own) {ty : FieldType} (hd : parseFieldDescriptor (T k).2.2.1 = some ty) (hn : narrow ty v = v) (hfit : fits ty v = true) (hl0 : k < fs.length) {S2 : PS} (hL2 : sL S2 = sL S) (hu : ∀ b, va_up (pF E S) a (.inr (ci, fs.set k v)) b = pF E S2 b) (hdg : decode cc pc = .ok (.putfield index, 3)) (K : J p l e R s m args below meth c Q E nL (pc + 3) lv (st) S2 cells slots) : J p l e R s m args below meth c Q E nL (pc) lv (v :: .ref a :: st) S cells slots := by
  intro H locs ls hH hS hl
  obtain ⟨q0, hq⟩ := pGet (E := E) haL
  have hq1 := hq
  rw [hF] at hq
  refine va_putF M.hx M.hb M.hts hin ty0 hty hnm M.hown M.hK hH.2.1 hH.2.2 hS q0 hq hc k hk (M.hts _ hlink) hsame hfin hin2 hdecl hd hn hfit hl0 hdg (fun H1 locs1 hP1 hD1 hS1 => ?_)
  have e := pSet (e := .inr (ci, fs.set k v)) hH.2.2 haL hq1 hL2 hu
  rw [e] at hP1 hD1
  exact K H1 locs1 ls ⟨Nat.le_trans M.hsz hS1.1, hP1, hD1⟩ hS1 hl
theorem j_iald (M : MC E p s m args meth c cc own nL ret) {a : Nat} {i : Int32} (haL : a ∈ sL S) (hk : sK S a = 9) (hin : vp_in i (sN S a)) (hdg : decode cc pc = .ok (.iaload, 1)) (K : J p l e R s m args below meth c Q E nL (pc + 1) lv (.int (sA S a i.toNatClampNeg) :: st) S cells slots) : J p l e R s m args below meth c Q E nL (pc) lv (.int i :: .ref a :: st) S cells slots := by
  intro H locs ls hH hS hl
  obtain ⟨q0, hq⟩ := pGet (E := E) haL
  rw [pAt_9 E S hk] at hq
  exact va_iald M.hx M.hb M.hK hH.2.1 q0 0 hq rfl hin hdg (K H locs ls hH hS hl)
theorem j_iast (M : MC E p s m args meth c cc own nL ret) {a : Nat} {i x : Int32} (haL : a ∈ sL S) (hk : sK S a = 9) (hin : vp_in i (sN S a)) (hdg : decode cc pc = .ok (.iastore, 1)) (K : J p l e R s m args below meth c Q E nL (pc + 1) lv (st) (uA S a (upd (sA S a) i.toNatClampNeg x)) cells slots) : J p l e R s m args below meth c Q E nL (pc) lv (.int x :: .int i :: .ref a :: st) S cells slots := by
  intro H locs ls hH hS hl
  obtain ⟨q0, hq⟩ := pGet (E := E) haL
  have hq1 := hq
  rw [pAt_9 E S hk] at hq
  refine va_iast M.hx M.hb M.hK hH.2.1 hH.2.2 hS q0 0 hq rfl hin hdg (fun H1 locs1 hP1 hD1 hS1 => ?_)
  have e := pSet (S' := uA S a (upd (sA S a) i.toNatClampNeg x)) (e := .inl (E.2.1, sN S a, .inl (upd (sA S a) i.toNatClampNeg x))) hH.2.2 haL hq1 rfl (pUp_A E S hk _)
  rw [e] at hP1 hD1
  exact K H1 locs1 ls ⟨Nat.le_trans M.hsz hS1.1, hP1, hD1⟩ hS1 hl
theorem j_alen (M : MC E p s m args meth c cc own nL ret) {a : Nat} (haL : a ∈ sL S) (hk : sK S a = 9) (hdg : decode cc pc = .ok (.arraylength, 1)) (K : J p l e R s m args below meth c Q E nL (pc + 1) lv (.int (nI (sN S a)) :: st) S cells slots) : J p l e R s m args below meth c Q E nL (pc) lv (.ref a :: st) S cells slots := by
  intro H locs ls hH hS hl
  obtain ⟨q0, hq⟩ := pGet (E := E) haL
  rw [pAt_9 E S hk] at hq
  exact va_alen M.hx M.hb M.hK hH.2.1 q0 0 hq rfl rfl hdg (K H locs ls hH hS hl)
end RW
end
section
/-! calls, returns, what is made, in J's words -/
abbrev imax (x y : Int32) : Int32 := if x < y then y else x
abbrev imin (x y : Int32) : Int32 := if y < x then y else x
abbrev iabs (x : Int32) : Int32 := if 0 ≤ x then x else 0 - x
theorem gU_of {ws : List Cond} (h : ∀ w ∈ ws, w ∈ wsU) : GoodIn wsU ws := fun w hw => ⟨h w hw, good_of_word (uG w (h w hw))⟩
/-- what a call of a method needs of the tables, whoever calls -/
def CFv (y : MethodName) (C : String) (cb : ByteArray) (mxL : Nat) (ret : Option FieldType) (n : Nat) : Prop :=
  Cond.code y cb mxL ret ∈ wsU ∧ Cond.instanceMethod y ∈ wsU ∧ Cond.selects C y y ∈ wsU ∧ Cond.initialized C ∈ wsU ∧ (y.cls = C ∧ y.cls ≠ "java/lang/invoke/MethodHandle" ∧ y.cls ≠ "java/lang/invoke/VarHandle" ∧ (parseMethodDescriptor y.desc).map (fun d => d.parameters.length) = some n)
def CFs (y : MethodName) (cb : ByteArray) (mxL : Nat) (ret : Option FieldType) (n : Nat) : Prop :=
  Cond.code y cb mxL ret ∈ wsU ∧ Cond.static y ∈ wsU ∧ Cond.initialized y.cls ∈ wsU ∧ (y.cls ≠ "java/lang/invoke/MethodHandle" ∧ y.cls ≠ "java/lang/invoke/VarHandle" ∧ (parseMethodDescriptor y.desc).map (fun d => d.parameters.length) = some n)
def CFi (y : MethodName) (cb : ByteArray) (mxL : Nat) (n : Nat) : Prop :=
  Cond.code y cb mxL none ∈ wsU ∧ Cond.instanceMethod y ∈ wsU ∧ Cond.initialized y.cls ∈ wsU ∧ y.name = "<init>" ∧ (y.cls ≠ "java/lang/invoke/MethodHandle" ∧ y.cls ≠ "java/lang/invoke/VarHandle" ∧ (parseMethodDescriptor y.desc).map (fun d => d.parameters.length) = some n)
theorem notin_push {E : EV} {S : PS} {A : Nat → Prop} {q : Nat} {e : va_E} (hD : va_D A (pool E S ++ [(q, e)])) : q ∉ sL S := by
  intro h
  obtain ⟨k, hk⟩ := pGet (E := E) h
  have hlt : k < (pool E S).length := (List.getElem?_eq_some_iff.mp hk).1
  have h1 : (pool E S ++ [(q, e)])[k]? = some (q, pF E S q) := by rw [List.getElem?_append_left hlt]; exact hk
  have h2 : (pool E S ++ [(q, e)])[(pool E S).length]? = some (q, e) := by rw [List.getElem?_append_right (Nat.le_refl _)]; simp
  have := hD.1 _ _ _ _ h1 h2 rfl
  omega
section CR
variable {p : Program} {l : Launch} {e : Env} {R : Room} {s : State} {m : MethodId} {args : Array Value} {below : List Frame} {meth : Method} {c : Code} {Q : State → Prop} {E : EV} {nL pc : Nat} {lv lv' : List (Nat × Value)} {st st0 : List Value} {S : PS} {cells slots : Nat} {cc : ByteArray} {own : String} {ret : Option FieldType}
theorem ct_go {H : Heap} {locs : List Loc} {ls : Array Slot} {mc ms : Nat} {post : Option Value → PS → Prop} {a : Array Value} (hr : va_Run p l e R s m args below meth c H locs cells slots mc ms (F0 m pc ls st0) st (QC E post a) (AE E)) (hS : va_S (AE E) s.heap H locs)
    (kk : ∀ (v : Option Value) (u : PS) (H1 : Heap) (locs1 : List Loc), post v u → HP E u H1 → va_S (AE E) s.heap H1 locs1 → W p l e R s m args below meth c H1 locs1 (cells + mc) (slots + ms) Q (F0 m (pc + 3) ls (v.toList ++ st))) : W p l e R s m args below meth c H locs cells slots Q (F0 m pc ls st0) := by
  intro T hT X
  obtain ⟨v, st₀, t, T', L, h0, X', hL, e1, e2, ⟨⟨r, u, hv, hp, hb⟩, hz, hk⟩, stp⟩ := hr T hT X
  cases hv
  rw [h0] at hz hk
  obtain ⟨t2, a1, b1⟩ := kk _ u T'.heap (locs ++ L) hp (by rw [e1]; exact hb)
    ⟨Nat.le_trans hS.1 (by rw [e1]; exact hz), fun q h1 h2 => by rw [e1, hk q (Nat.lt_of_lt_of_le h1 hS.1) h2]; exact hS.2.1 q h1 h2, fun q hq => by
      rcases List.mem_append.mp hq with h | h
      · exact hS.2.2 q h
      · exact hL q h⟩ T' rfl X'
  exact ⟨t2, stp t2 a1, b1⟩
theorem MC.pre (M : MC E p s m args meth c cc own nL ret) {H : Heap} {locs : List Loc} (hH : HP E S H) (hS : va_S (AE E) s.heap H locs) (av : List Value) : ∀ U : State, U.heap = H → s.WarmedH U.vm → PC E av S av.toArray U :=
  fun U hU hW => ⟨rfl, by rw [hU]; exact hH, by rw [hU]; exact M.vp.go hW (fun q h1 h2 => hS.2.1 q h1 h2)⟩
theorem j_callV (M : MC E p s m args meth c cc own nL ret) {y : MethodName} {C : String} {cb : ByteArray} {mxL n fr lo mc ms index b ci N : Nat} {rt : Option FieldType} {As : List Value} {post : Option Value → PS → Prop} {fs : List Value} {T : u_T} (F : CFv y C cb mxL rt n) (hl' : Cond.methodLink own index y ∈ wsU)
    (hC : CT l y cb mxL rt fr lo mc ms E (.ref b :: As) S post) (hbL : b ∈ sL S) (hF : pF E S b = .inr (ci, fs)) (hci : vwCl[ci]? = some (C, T, N)) (hn : As.length = n) (hR : fr + 1 ≤ R.frames ∧ 8 + (mxL + 11) + lo ≤ R.locals) (hW : (st.map fun v => v.category).sum ≤ 8) (hcs : cells + mc ≤ R.cells ∧ slots + ms ≤ R.slots)
    (hdg : decode cc pc = .ok (.invokevirtual index, 3)) (hst : st0 = As.reverse ++ .ref b :: st) (K : ∀ (v : Option Value) (u : PS), post v u → J p l e R s m args below meth c Q E nL (pc + 3) lv (v.toList ++ st) u (cells + mc) (slots + ms)) : J p l e R s m args below meth c Q E nL pc lv st0 S cells slots := by
  intro H locs ls hH hS hl
  obtain ⟨f1, f2, f3, f4, f5⟩ := F
  obtain ⟨q0, hq⟩ := pGet (E := E) hbL
  rw [hF] at hq
  have hG : GoodIn wsU (wsV own index C y (.code y cb mxL rt :: wsU)) := gU_of fun w hw => by
    rcases List.mem_append.mp hw with h | h
    · simp only [List.mem_cons, List.not_mem_nil, or_false] at h
      rcases h with rfl | rfl | rfl | rfl
      · exact hl'
      · exact f2
      · exact f3
      · exact f4
    · rcases List.mem_cons.mp h with rfl | h
      · exact f1
      · exact h
  refine ct_go (a := (Value.ref b :: As).toArray) (va_runV ⟨M.hx, M.hb, M.hml, M.hown, M.hts⟩ hC (cwV n M.hts hG rfl rfl rfl f5 hR) ⟨PC.blind, va_recv M.hK hH.2.1 hci hq, M.pre hH hS _⟩ rfl hn hl.1 hst (lv_room hW) hdg hcs) hS (fun v u H1 locs1 hp hH1 hS1 => K v u hp H1 locs1 ls hH1 hS1 hl)
theorem j_callS (M : MC E p s m args meth c cc own nL ret) {y : MethodName} {cb : ByteArray} {mxL n fr lo mc ms index : Nat} {rt : Option FieldType} {As : List Value} {post : Option Value → PS → Prop} (F : CFs y cb mxL rt n) (hl' : Cond.methodLink own index y ∈ wsU)
    (hC : CT l y cb mxL rt fr lo mc ms E As S post) (hn : As.length = n) (hR : fr + 1 ≤ R.frames ∧ 8 + (mxL + 11) + lo ≤ R.locals) (hW : (st.map fun v => v.category).sum ≤ 8) (hcs : cells + mc ≤ R.cells ∧ slots + ms ≤ R.slots)
    (hdg : decode cc pc = .ok (.invokestatic index, 3)) (hst : st0 = As.reverse ++ st) (K : ∀ (v : Option Value) (u : PS), post v u → J p l e R s m args below meth c Q E nL (pc + 3) lv (v.toList ++ st) u (cells + mc) (slots + ms)) : J p l e R s m args below meth c Q E nL pc lv st0 S cells slots := by
  intro H locs ls hH hS hl
  obtain ⟨f1, f2, f4, f5⟩ := F
  have hG : GoodIn wsU (va_wsS own index y (.code y cb mxL rt :: wsU)) := gU_of fun w hw => by
    rcases List.mem_append.mp hw with h | h
    · simp only [List.mem_cons, List.not_mem_nil, or_false] at h
      rcases h with rfl | rfl | rfl
      · exact hl'
      · exact f2
      · exact f4
    · rcases List.mem_cons.mp h with rfl | h
      · exact f1
      · exact h
  refine ct_go (a := As.toArray) (va_runS ⟨M.hx, M.hb, M.hml, M.hown, M.hts⟩ hC (va_cwS n M.hts hG rfl rfl rfl f5 hR) ⟨PC.blind, M.pre hH hS _⟩ rfl hn hl.1 hst (lv_room hW) hdg hcs) hS (fun v u H1 locs1 hp hH1 hS1 => K v u hp H1 locs1 ls hH1 hS1 hl)
theorem j_callI (M : MC E p s m args meth c cc own nL ret) {y : MethodName} {cb : ByteArray} {mxL n fr lo mc ms index b : Nat} {As : List Value} {post : Option Value → PS → Prop} (F : CFi y cb mxL n) (hl' : Cond.methodLink own index y ∈ wsU)
    (hC : CT l y cb mxL none fr lo mc ms E (.ref b :: As) S post) (hn : As.length = n) (hR : fr + 1 ≤ R.frames ∧ 8 + (mxL + 11) + lo ≤ R.locals) (hW : (st.map fun v => v.category).sum ≤ 8) (hcs : cells + mc ≤ R.cells ∧ slots + ms ≤ R.slots)
    (hdg : decode cc pc = .ok (.invokespecial index, 3)) (hst : st0 = As.reverse ++ .ref b :: st) (K : ∀ (v : Option Value) (u : PS), post v u → J p l e R s m args below meth c Q E nL (pc + 3) lv (v.toList ++ st) u (cells + mc) (slots + ms)) : J p l e R s m args below meth c Q E nL pc lv st0 S cells slots := by
  intro H locs ls hH hS hl
  obtain ⟨f1, f2, f4, f6, f5⟩ := F
  have hG : GoodIn wsU (.code y cb mxL none :: wsU) := gU_of fun w hw => by
    rcases List.mem_cons.mp hw with rfl | h
    · exact f1
    · exact h
  refine ct_go (a := (Value.ref b :: As).toArray) (va_runI ⟨M.hx, M.hb, M.hml, M.hown, M.hts⟩ hC (cwI n M.hts hG rfl rfl rfl (M.hts _ f4) (M.hts _ hl') (M.hts _ f2) f6 f5 hR) ⟨PC.blind, M.pre hH hS _⟩ rfl hn hl.1 hst (lv_room hW) hdg hcs) hS (fun v u H1 locs1 hp hH1 hS1 => K v u hp H1 locs1 ls hH1 hS1 hl)
theorem j_callIN (M : MC E p s m args meth c cc own nL ret) {y : MethodName} {host : String} {cb : ByteArray} {mxL n fr lo mc ms index b : Nat} {As : List Value} {post : Option Value → PS → Prop} (F : CFi y cb mxL n) (hl' : Cond.methodLinkNest own index y host ∈ lw_tbl)
    (hC : CT l y cb mxL none fr lo mc ms E (.ref b :: As) S post) (hn : As.length = n) (hR : fr + 1 ≤ R.frames ∧ 8 + (mxL + 11) + lo ≤ R.locals) (hW : (st.map fun v => v.category).sum ≤ 8) (hcs : cells + mc ≤ R.cells ∧ slots + ms ≤ R.slots)
    (hdg : decode cc pc = .ok (.invokespecial index, 3)) (hst : st0 = As.reverse ++ .ref b :: st) (K : ∀ (v : Option Value) (u : PS), post v u → J p l e R s m args below meth c Q E nL (pc + 3) lv (v.toList ++ st) u (cells + mc) (slots + ms)) : J p l e R s m args below meth c Q E nL pc lv st0 S cells slots := by
  intro H locs ls hH hS hl
  obtain ⟨f1, f2, f4, f6, f5⟩ := F
  have hG : GoodIn wsU (.code y cb mxL none :: wsU) := gU_of fun w hw => by
    rcases List.mem_cons.mp hw with rfl | h
    · exact f1
    · exact h
  refine ct_go (a := (Value.ref b :: As).toArray) (va_runIN ⟨M.hx, M.hb, M.hml, M.hown, M.hts⟩ hC ⟨va_cnB n M.hts hG rfl rfl rfl (M.vp.2.1 _ hl' rfl) (M.hts _ f4) f5 hR, f6, M.hts _ f2⟩ ⟨PC.blind, M.pre hH hS _⟩ rfl hn hl.1 hst (lv_room hW) hdg hcs) hS (fun v u H1 locs1 hp hH1 hS1 => K v u hp H1 locs1 ls hH1 hS1 hl)
theorem j_obj (M : MC E p s m args meth c cc own nL ret) {index a : Nat} (hl' : Cond.methodLink own index objectInit ∈ wsU) (hI : Cond.instanceMethod objectInit ∈ wsU) (hc : Cond.code objectInit ⟨#[0xb1]⟩ 1 none ∈ wsU) (hdg : decode cc pc = .ok (.invokespecial index, 3)) (hf : 1 ≤ R.frames) (hlo : (st.map fun v => v.category).sum + 12 ≤ R.locals)
    (K : J p l e R s m args below meth c Q E nL (pc + 3) lv st S cells slots) : J p l e R s m args below meth c Q E nL pc lv (.ref a :: st) S cells slots :=
  fun H locs ls hH hS hl => W.objInit M.hx M.hb M.hown (M.hts _ hl') (M.hts _ hI) (M.hts _ hc) (g := F0 m pc ls (.ref a :: st)) rfl (hl.1.trans M.hml.symm) rfl hdg hf (by show 2 * 0 + _ + 12 ≤ _; omega) (K H locs ls hH hS hl)
theorem j_max (M : MC E p s m args meth c cc own nL ret) {index : Nat} {x y : Int32} (hl' : Cond.methodLink own index Lib.Math.max.name ∈ wsU) (hdg : decode cc pc = .ok (.invokestatic index, 3)) (hf : 1 ≤ R.frames) (hlo : (st.map fun v => v.category).sum + 13 ≤ R.locals) (hcs : cells ≤ R.cells ∧ slots ≤ R.slots)
    (K : J p l e R s m args below meth c Q E nL (pc + 3) lv (.int (imax x y) :: st) S cells slots) : J p l e R s m args below meth c Q E nL pc lv (.int y :: .int x :: st) S cells slots :=
  fun H locs ls hH hS hl => va_mmax M.hx M.hb (M.hml.trans hl.1.symm) M.hown (M.hts _ hl') (M.hts _ wS_Lib_Math_max_name) (M.hts _ wN_Math) (M.hts _ wC_Lib_Math_max_name) hf hlo hcs.1 hcs.2 hdg (K H locs ls hH hS hl)
theorem j_min (M : MC E p s m args meth c cc own nL ret) {index : Nat} {x y : Int32} (hl' : Cond.methodLink own index Lib.Math.min.name ∈ wsU) (hdg : decode cc pc = .ok (.invokestatic index, 3)) (hf : 1 ≤ R.frames) (hlo : (st.map fun v => v.category).sum + 13 ≤ R.locals) (hcs : cells ≤ R.cells ∧ slots ≤ R.slots)
    (K : J p l e R s m args below meth c Q E nL (pc + 3) lv (.int (imin x y) :: st) S cells slots) : J p l e R s m args below meth c Q E nL pc lv (.int y :: .int x :: st) S cells slots :=
  fun H locs ls hH hS hl => va_mmin M.hx M.hb (M.hml.trans hl.1.symm) M.hown (M.hts _ hl') (M.hts _ wS_Lib_Math_min_name) (M.hts _ wN_Math) (M.hts _ wC_Lib_Math_min_name) hf hlo hcs.1 hcs.2 hdg (K H locs ls hH hS hl)
theorem j_abs (M : MC E p s m args meth c cc own nL ret) {index : Nat} {x : Int32} (hl' : Cond.methodLink own index Lib.Math.abs.name ∈ wsU) (hdg : decode cc pc = .ok (.invokestatic index, 3)) (hf : 1 ≤ R.frames) (hlo : (st.map fun v => v.category).sum + 13 ≤ R.locals) (hcs : cells ≤ R.cells ∧ slots ≤ R.slots)
    (K : J p l e R s m args below meth c Q E nL (pc + 3) lv (.int (iabs x) :: st) S cells slots) : J p l e R s m args below meth c Q E nL pc lv (.int x :: st) S cells slots :=
  fun H locs ls hH hS hl => va_mabs M.hx M.hb (M.hml.trans hl.1.symm) M.hown (M.hts _ hl') (M.hts _ wS_Lib_Math_abs_name) (M.hts _ wN_Math) (M.hts _ wC_Lib_Math_abs_name) hf hlo hcs.1 hcs.2 hdg (K H locs ls hH hS hl)
theorem j_cast (M : MC E p s m args meth c cc own nL ret) {C : String} {T : u_T} {N ci index a : Nat} {fs : List Value} (haL : a ∈ sL S) (hF : pF E S a = .inr (ci, fs)) (hc : vwCl[ci]? = some (C, T, N)) (hlink : Cond.classLink own index C ∈ wsU) (hdg : decode cc pc = .ok (.checkcast index, 3))
    (K : J p l e R s m args below meth c Q E nL (pc + 3) lv (.ref a :: st) S cells slots) : J p l e R s m args below meth c Q E nL pc lv (.ref a :: st) S cells slots := by
  intro H locs ls hH hS hl
  obtain ⟨q0, hq⟩ := pGet (E := E) haL
  rw [hF] at hq
  exact va_castS M.hx M.hb M.hown (M.hts _ hlink) (M.hK.1 ci _ hc).2 (va_recv M.hK hH.2.1 hc hq) hdg (K H locs ls hH hS hl)
theorem j_row (M : MC E p s m args meth c cc own nL ret) {index : Nat} {host : String} (hlink : Cond.fieldLinkNest own index "Slewyard" "ROW_STEPS" "[I" host ∈ lw_tbl) (hdg : decode cc pc = .ok (.getstatic index, 3)) (K : J p l e R s m args below meth c Q E nL (pc + 3) lv (.ref E.2.2.2.2.1 :: st) S cells slots) : J p l e R s m args below meth c Q E nL pc lv st S cells slots :=
  fun H locs ls hH hS hl => va_getsN M.hx M.hb M.vp.2.2.1.1.1 hS M.hown (va_Nw.use rfl (M.vp.2.1 _ hlink rfl)) (fun _ h => h) hdg (K H locs ls hH hS hl)
theorem j_col (M : MC E p s m args meth c cc own nL ret) {index : Nat} {host : String} (hlink : Cond.fieldLinkNest own index "Slewyard" "COLUMN_STEPS" "[I" host ∈ lw_tbl) (hdg : decode cc pc = .ok (.getstatic index, 3)) (K : J p l e R s m args below meth c Q E nL (pc + 3) lv (.ref E.2.2.2.2.2.1 :: st) S cells slots) : J p l e R s m args below meth c Q E nL pc lv st S cells slots :=
  fun H locs ls hH hS hl => va_getsN M.hx M.hb M.vp.2.2.1.2.1.1 hS M.hown (va_Nw.use rfl (M.vp.2.1 _ hlink rfl)) (fun _ h => h) hdg (K H locs ls hH hS hl)
theorem j_rowi (M : MC E p s m args meth c cc own nL ret) {i : Int32} (hin : vp_in i 8) (hdg : decode cc pc = .ok (.iaload, 1)) (K : J p l e R s m args below meth c Q E nL (pc + 1) lv (.int (rwV i.toNatClampNeg) :: st) S cells slots) : J p l e R s m args below meth c Q E nL pc lv (.int i :: .ref E.2.2.2.2.1 :: st) S cells slots :=
  fun H locs ls hH hS hl => va_ti M.hx M.hb M.vp.2.2.1.1.2 hS hin rfl hdg (K H locs ls hH hS hl)
theorem j_coli (M : MC E p s m args meth c cc own nL ret) {i : Int32} (hin : vp_in i 8) (hdg : decode cc pc = .ok (.iaload, 1)) (K : J p l e R s m args below meth c Q E nL (pc + 1) lv (.int (clV i.toNatClampNeg) :: st) S cells slots) : J p l e R s m args below meth c Q E nL pc lv (.int i :: .ref E.2.2.2.2.2.1 :: st) S cells slots :=
  fun H locs ls hH hS hl => va_ti M.hx M.hb M.vp.2.2.1.2.1.2 hS hin rfl hdg (K H locs ls hH hS hl)
theorem j_new (M : MC E p s m args meth c cc own nL ret) {C : String} {T : u_T} {N ci index k : Nat} {fs : List Value} (hc : vwCl[ci]? = some (C, T, N)) (hin : ∀ w ∈ u_ws C T N, w ∈ wsU) (ty : Nat → FieldType) (hty : ∀ k, k < N → parseFieldDescriptor (T k).2.2.1 = some (ty k)) (hcl : Cond.classLink own index C ∈ wsU) (hinst : Cond.instantiable C N ∈ wsU) (hini : Cond.initialized C ∈ wsU)
    (hfs : ∀ j, j < N → defaultValue (ty j) = vp_V fs j) (hu : ∀ (q b : Nat), va_up (pF E S) q (.inr (ci, fs)) b = pF E (nw S q k) b) (hcs : cells + 1 ≤ R.cells ∧ slots + N ≤ R.slots) (hdg : decode cc pc = .ok (.new index, 3))
    (K : ∀ q : Nat, q ∉ sL S → J p l e R s m args below meth c Q E nL (pc + 3) lv (.ref q :: st) (nw S q k) (cells + 1) (slots + N)) : J p l e R s m args below meth c Q E nL pc lv st S cells slots := by
  intro H locs ls hH hS hl
  refine va_new M.hx M.hb M.hts hin ty hty M.hown (M.hts _ hcl) (M.hts _ hinst) (M.hts _ hini) M.hK hH.2.1 hH.2.2 hS M.hA hc hfs hcs.1 hcs.2 hdg (fun q H1 hP1 hD1 hS1 => ?_)
  have hq := notin_push hD1
  rw [pPush (S' := nw S q k) hq rfl (hu q)] at hP1 hD1
  exact K q hq H1 locs ls ⟨Nat.le_trans M.hsz hS1.1, hP1, hD1⟩ hS1 hl
theorem j_newi (M : MC E p s m args meth c cc own nL ret) {n : Int32} (hn : ¬ n < 0) (hN : n.toNatClampNeg * 4 ≤ 536870912) (hcs : cells + 1 ≤ R.cells ∧ slots + n.toNatClampNeg ≤ R.slots) (hdg : decode cc pc = .ok (.newarray .int, 2))
    (K : ∀ q : Nat, q ∉ sL S → J p l e R s m args below meth c Q E nL (pc + 2) lv (.ref q :: st) (nwA S q n.toNatClampNeg (fun _ => 0)) (cells + 1) (slots + n.toNatClampNeg)) : J p l e R s m args below meth c Q E nL pc lv (.int n :: st) S cells slots := by
  intro H locs ls hH hS hl
  refine va_newa (atype := .int) (ty := .int) (a0 := (n.toNatClampNeg, .inl (fun _ => 0))) M.hx M.hb (M.hts _ wA_int) rfl M.hK hH.2.1 hH.2.2 hS M.hA (fun _ => rfl) hn rfl hN hcs.1 hcs.2 hdg (fun q cA H1 hK1 hP1 hD1 hS1 => ?_)
  have hq := notin_push hD1
  have e1 : cA = E.2.1 := by
    have a1 : va_RA s cA .int := (hK1.2 2 _ rfl).2
    have a2 : va_RA s E.2.1 .int := (hK1.2 0 _ rfl).2
    exact Option.some.inj (Eq.trans (Eq.symm a1) a2)
  subst e1
  rw [pPush (S' := nwA S q n.toNatClampNeg (fun _ => 0)) hq rfl (pNw_A E S q _ _)] at hP1 hD1
  exact K q hq H1 locs ls ⟨Nat.le_trans M.hsz hS1.1, hP1, hD1⟩ hS1 hl
-- returns
theorem j_iret {post : Option Value → PS → Prop} {mc ms : Nat} {v : Int32} (M : MC E p s m args meth c cc own nL (some .int)) (hdg : decode cc pc = .ok (.ireturn, 1)) (hc : cells ≤ mc) (hs : slots ≤ ms) (hp : post (some (.int v)) S) : J p l e R s m args below meth c (MQ below (QC E post) args s mc ms (AE E)) E nL pc lv [.int v] S cells slots :=
  fun H locs ls hH hS hl => W.widen hc hs (W.iret M.hx M.hb M.hr (fun t ht _ => ⟨⟨_, S, rfl, hp, by rw [ht]; exact hH⟩, hS.F ht⟩) hS.2.2 hdg M.hlk)
theorem j_zret {post : Option Value → PS → Prop} {mc ms : Nat} {v : Int32} (M : MC E p s m args meth c cc own nL (some .boolean)) (hdg : decode cc pc = .ok (.ireturn, 1)) (hc : cells ≤ mc) (hs : slots ≤ ms) (hn : narrow .boolean (.int v) = .int v) (hp : post (some (.int v)) S) : J p l e R s m args below meth c (MQ below (QC E post) args s mc ms (AE E)) E nL pc lv [.int v] S cells slots :=
  fun H locs ls hH hS hl => W.widen hc hs (W.zret M.hx M.hb M.hr hn (fun t ht _ => ⟨⟨_, S, rfl, hp, by rw [ht]; exact hH⟩, hS.F ht⟩) hS.2.2 hdg M.hlk)
theorem j_vret {post : Option Value → PS → Prop} {mc ms : Nat} (M : MC E p s m args meth c cc own nL none) (hdg : decode cc pc = .ok (.return_, 1)) (hc : cells ≤ mc) (hs : slots ≤ ms) (hp : post none S) : J p l e R s m args below meth c (MQ below (QC E post) args s mc ms (AE E)) E nL pc lv [] S cells slots :=
  fun H locs ls hH hS hl => W.widen hc hs (W.vret M.hx M.hb M.hr (fun t ht _ => ⟨⟨_, S, rfl, hp, by rw [ht]; exact hH⟩, hS.F ht⟩) hS.2.2 hdg M.hlk)
theorem j_aret {post : Option Value → PS → Prop} {mc ms : Nat} {v : Value} {rt : FieldType} (M : MC E p s m args meth c cc own nL (some rt)) (hrt : (∃ n, rt = .object n) ∨ ∃ t, rt = .array t) (hv : v = .null ∨ ∃ a, v = .ref a) (hdg : decode cc pc = .ok (.areturn, 1)) (hc : cells ≤ mc) (hs : slots ≤ ms) (hp : post (some v) S) : J p l e R s m args below meth c (MQ below (QC E post) args s mc ms (AE E)) E nL pc lv [v] S cells slots :=
  fun H locs ls hH hS hl => W.widen hc hs (W.aret M.hx M.hb M.hr hrt hv (fun t ht _ => ⟨⟨_, S, rfl, hp, by rw [ht]; exact hH⟩, hS.F ht⟩) hS.2.2 hdg M.hlk)
theorem j_lret {post : Option Value → PS → Prop} {mc ms : Nat} {v : Int64} (M : MC E p s m args meth c cc own nL (some .long)) (hdg : decode cc pc = .ok (.lreturn, 1)) (hc : cells ≤ mc) (hs : slots ≤ ms) (hp : post (some (.long v)) S) : J p l e R s m args below meth c (MQ below (QC E post) args s mc ms (AE E)) E nL pc lv [.long v] S cells slots :=
  fun H locs ls hH hS hl => W.widen hc hs (W.lret M.hx M.hb M.hr (fun t ht _ => ⟨⟨_, S, rfl, hp, by rw [ht]; exact hH⟩, hS.F ht⟩) hS.2.2 hdg M.hlk)
end CR
/-- a contract out of its body's walk -/
theorem CT.of {l : Launch} {y : MethodName} {cb : ByteArray} {mxL fr lo mc ms : Nat} {ret : Option FieldType} {E : EV} {av : List Value} {S : PS} {post : Option Value → PS → Prop} (hy : plainName y.cls = true) (hlen : (lg_sl av).length ≤ mxL)
    (body : ∀ (p : Program) (e : Env) (s : State) (m : MethodId) (below : List Frame) (meth : Method) (c : Code), MC E p s m av.toArray meth c cb y.cls mxL ret → meth.name = y.name →
      J p l e { frames := fr, cells := mc, slots := ms, locals := lo } s m av.toArray below meth c (MQ below (QC E post) av.toArray s mc ms (AE E)) E mxL 0 (lv_args 0 av) [] S 0 0) : CT l y cb mxL ret fr lo mc ms E av S post := by
  refine Met.ofW (cc := cb) (maxL := mxL) (ret := ret) hy rfl ?_
  intro p e s m args below meth c s₁ B hml hv
  obtain ⟨rfl, hP, hV⟩ := hv
  have hts := atoms_spec (ws := .code y cb mxL ret :: wsU) B.pre
  have hl := lv_entry av (n := mxL) hlen
  rw [lg_entry_eq]
  exact body p e s m below meth c ⟨B.exec, B.bytes, hml, findClass_of_methodNamed B.named, fun w hw => hts w (List.mem_cons_of_mem _ hw), hV, B.notSynchronized, hP.1, B.returns⟩ (name_of_methodNamed B.named B.method).1 s.heap [] _ hP va_S.rf hl
theorem CT.mono {l : Launch} {y : MethodName} {cb : ByteArray} {mxL fr lo mc ms : Nat} {ret : Option FieldType} {E : EV} {av : List Value} {S : PS} {post post2 : Option Value → PS → Prop} (h : CT l y cb mxL ret fr lo mc ms E av S post) (hp : ∀ v u, post v u → post2 v u) : CT l y cb mxL ret fr lo mc ms E av S post2 := by
  intro p e ha hc hk s m args below hf hs hP hK
  obtain ⟨k, o, h1, h2, h3, ⟨⟨v, u, e1, e2, e3⟩, e4⟩, h5⟩ := h p e ha hc hk s m args below hf hs hP hK
  exact ⟨k, o, h1, h2, h3, ⟨⟨v, u, e1, hp v u e2, e3⟩, e4⟩, h5⟩
end
section
/-! how a site's objects hang together (WS: nothing in it speaks of whole numbers or of what hangs), calls with one known answer -/
abbrev InK (S : PS) (a k : Nat) : Prop := a ∈ sL S ∧ sK S a = k
def el (S : PS) (h j : Nat) : Nat := (sO S ((sE S h).getD 0) j).getD 0
def LSt (S : PS) (h k B : Nat) : Prop := InK S h 8 ∧ sZ S h ≤ B ∧ ∀ j, j < sZ S h → ∃ t, sE S h = some t ∧ InK S t 10 ∧ j < sN S t ∧ sN S t ≤ 64 ∧ sO S t j = some (el S h j) ∧ InK S (el S h j) k
/-- K: 0 the Slewyard, 1 Site, 2 Ground, 3 Plans, 4 trial, 5 calm, 6 levels, 7 steps, 8 poses, 9 takers, 10 leaving, 11 reports, 12 zones, 13 cranes, 14 loads -/
def WS (K : Nat → Nat) (S : PS) : Prop :=
  (InK S (K 0) 7 ∧ InK S (K 1) 5 ∧ InK S (K 2) 1 ∧ InK S (K 3) 3 ∧ InK S (K 4) 0 ∧ InK S (K 5) 4) ∧
  (InK S (K 6) 9 ∧ InK S (K 7) 9 ∧ InK S (K 8) 9 ∧ InK S (K 9) 9 ∧ InK S (K 10) 9) ∧
  (sR S 48 (K 0) = some (K 1) ∧ sR S 49 (K 0) = some (K 3)) ∧
  (sR S 32 (K 1) = some (K 2) ∧ sR S 33 (K 1) = some (K 11) ∧ sR S 34 (K 1) = some (K 12) ∧ sR S 35 (K 1) = some (K 13) ∧ sR S 36 (K 1) = some (K 14) ∧ sR S 37 (K 1) = some (K 5) ∧ sR S 38 (K 1) = some (K 4)) ∧
  sR S 16 (K 2) = some (K 6) ∧
  (sR S 23 (K 3) = some (K 1) ∧ sR S 24 (K 3) = some (K 4) ∧ sR S 25 (K 3) = some (K 7) ∧ sR S 26 (K 3) = some (K 8) ∧ sR S 27 (K 3) = some (K 9) ∧ sR S 28 (K 3) = some (K 10)) ∧
  (∀ a, InK S a 0 → sR S 0 a = some (K 2)) ∧
  (sN S (K 6) = 196 ∧ sN S (K 7) = 196 ∧ sN S (K 8) = 72 ∧ sN S (K 9) = 4 ∧ sN S (K 10) = 4) ∧
  (LSt S (K 11) 4 12 ∧ LSt S (K 12) 6 4 ∧ LSt S (K 13) 0 4 ∧ LSt S (K 14) 2 8)
section WSS
variable {K : Nat → Nat} {S : PS}
theorem WS.uI {f a : Nat} {v : Int32} (h : WS K S) : WS K (uI S f a v) := h
theorem WS.uM {f a : Nat} {v : Option Nat} (h : WS K S) : WS K (uM S f a v) := h
theorem WS.uA {a : Nat} {v : Nat → Int32} (h : WS K S) : WS K (uA S a v) := h
theorem WS.k0 (h : WS K S) : InK S (K 0) 7 := h.1.1
theorem WS.k1 (h : WS K S) : InK S (K 1) 5 := h.1.2.1
theorem WS.k2 (h : WS K S) : InK S (K 2) 1 := h.1.2.2.1
theorem WS.k3 (h : WS K S) : InK S (K 3) 3 := h.1.2.2.2.1
theorem WS.k4 (h : WS K S) : InK S (K 4) 0 := h.1.2.2.2.2.1
theorem WS.k5 (h : WS K S) : InK S (K 5) 4 := h.1.2.2.2.2.2
theorem WS.k6 (h : WS K S) : InK S (K 6) 9 := h.2.1.1
theorem WS.k7 (h : WS K S) : InK S (K 7) 9 := h.2.1.2.1
theorem WS.k8 (h : WS K S) : InK S (K 8) 9 := h.2.1.2.2.1
theorem WS.k9 (h : WS K S) : InK S (K 9) 9 := h.2.1.2.2.2.1
theorem WS.k10 (h : WS K S) : InK S (K 10) 9 := h.2.1.2.2.2.2
theorem WS.r48 (h : WS K S) : sR S 48 (K 0) = some (K 1) := h.2.2.1.1
theorem WS.r49 (h : WS K S) : sR S 49 (K 0) = some (K 3) := h.2.2.1.2
theorem WS.r32 (h : WS K S) : sR S 32 (K 1) = some (K 2) := h.2.2.2.1.1
theorem WS.r33 (h : WS K S) : sR S 33 (K 1) = some (K 11) := h.2.2.2.1.2.1
theorem WS.r34 (h : WS K S) : sR S 34 (K 1) = some (K 12) := h.2.2.2.1.2.2.1
theorem WS.r35 (h : WS K S) : sR S 35 (K 1) = some (K 13) := h.2.2.2.1.2.2.2.1
theorem WS.r36 (h : WS K S) : sR S 36 (K 1) = some (K 14) := h.2.2.2.1.2.2.2.2.1
theorem WS.r37 (h : WS K S) : sR S 37 (K 1) = some (K 5) := h.2.2.2.1.2.2.2.2.2.1
theorem WS.r38 (h : WS K S) : sR S 38 (K 1) = some (K 4) := h.2.2.2.1.2.2.2.2.2.2
theorem WS.r16 (h : WS K S) : sR S 16 (K 2) = some (K 6) := h.2.2.2.2.1
theorem WS.r23 (h : WS K S) : sR S 23 (K 3) = some (K 1) := h.2.2.2.2.2.1.1
theorem WS.r24 (h : WS K S) : sR S 24 (K 3) = some (K 4) := h.2.2.2.2.2.1.2.1
theorem WS.r25 (h : WS K S) : sR S 25 (K 3) = some (K 7) := h.2.2.2.2.2.1.2.2.1
theorem WS.r26 (h : WS K S) : sR S 26 (K 3) = some (K 8) := h.2.2.2.2.2.1.2.2.2.1
theorem WS.r27 (h : WS K S) : sR S 27 (K 3) = some (K 9) := h.2.2.2.2.2.1.2.2.2.2.1
theorem WS.r28 (h : WS K S) : sR S 28 (K 3) = some (K 10) := h.2.2.2.2.2.1.2.2.2.2.2
theorem WS.r0 (h : WS K S) {a : Nat} (ha : InK S a 0) : sR S 0 a = some (K 2) := h.2.2.2.2.2.2.1 a ha
theorem WS.n6 (h : WS K S) : sN S (K 6) = 196 := h.2.2.2.2.2.2.2.1.1
theorem WS.n7 (h : WS K S) : sN S (K 7) = 196 := h.2.2.2.2.2.2.2.1.2.1
theorem WS.n8 (h : WS K S) : sN S (K 8) = 72 := h.2.2.2.2.2.2.2.1.2.2.1
theorem WS.n9 (h : WS K S) : sN S (K 9) = 4 := h.2.2.2.2.2.2.2.1.2.2.2.1
theorem WS.n10 (h : WS K S) : sN S (K 10) = 4 := h.2.2.2.2.2.2.2.1.2.2.2.2
theorem WS.l11 (h : WS K S) : LSt S (K 11) 4 12 := h.2.2.2.2.2.2.2.2.1
theorem WS.l12 (h : WS K S) : LSt S (K 12) 6 4 := h.2.2.2.2.2.2.2.2.2.1
theorem WS.l13 (h : WS K S) : LSt S (K 13) 0 4 := h.2.2.2.2.2.2.2.2.2.2.1
theorem WS.l14 (h : WS K S) : LSt S (K 14) 2 8 := h.2.2.2.2.2.2.2.2.2.2.2
end WSS
theorem rfv {x : Option Nat} {g : Nat} (h : x = some g) : some (va_rf x) = some (Value.ref g) := by rw [h]; rfl
theorem rfn {x : Option Nat} (h : x = none) : some (va_rf x) = some Value.null := by rw [h]; rfl
theorem ivu {g : Nat → Nat → Int32} {f a : Nat} {v : Int32} : some (Value.int (up2 g f a v f a)) = some (Value.int v) := by rw [up2_s]
theorem ivn {g : Nat → Nat → Int32} {f a b : Nat} {v : Int32} (h : b ≠ a) : some (Value.int (up2 g f a v f b)) = some (Value.int (g f b)) := by rw [up2_a _ _ _ _ h]
theorem ne1_of {x : Int32} (h : ¬ x < 1) : ¬ x = 0 := fun e => h (by rw [e]; decide)
def pv (x : Value) (S2 : PS) : Option Value → PS → Prop := fun v u => v = some x ∧ u = S2
def p0 (S2 : PS) : Option Value → PS → Prop := fun v u => v = none ∧ u = S2
theorem vp_of {i : Int32} {n : Nat} (hn : n < 2 ^ 31) (h1 : ¬ i < 0) (h2 : ¬ nI n ≤ i) : vp_in i n := by
  obtain ⟨j, hj, rfl⟩ := nI_of h1
  rw [nI_leI hn hj] at h2
  exact vp_in_nI (by omega) (by omega)
theorem vp_196 {i : Int32} {n : Nat} (hn : n = 196) (h1 : ¬ i < 0) (h2 : ¬ nI n ≤ i) : vp_in i n := vp_of (by omega) h1 h2
theorem ne0_of {x : Int32} (h : ¬ x ≤ 0) : ¬ x = 0 := fun e => h (by rw [e]; decide)
theorem and7_in (x : Int32) : vp_in (x &&& 7) 8 := pk_andIn x 3 (by decide) (by decide)
section CW
variable {p : Program} {l : Launch} {e : Env} {R : Room} {s : State} {m : MethodId} {args : Array Value} {below : List Frame} {meth : Method} {c : Code} {Q : State → Prop} {E : EV} {nL pc : Nat} {lv lv' : List (Nat × Value)} {st st0 : List Value} {S S2 : PS} {cells slots : Nat} {cc : ByteArray} {own : String} {ret : Option FieldType}
theorem j_callV1 (M : MC E p s m args meth c cc own nL ret) {y : MethodName} {C : String} {cb : ByteArray} {mxL n fr lo index b ci N : Nat} {rt : Option FieldType} {As : List Value} {x : Value} {fs : List Value} {T : u_T} (F : CFv y C cb mxL rt n) (hl' : Cond.methodLink own index y ∈ wsU)
    (hC : CT l y cb mxL rt fr lo 0 0 E (.ref b :: As) S (pv x S2)) (hbL : b ∈ sL S) (hF : pF E S b = .inr (ci, fs)) (hci : vwCl[ci]? = some (C, T, N)) (hn : As.length = n) (hR : fr + 1 ≤ R.frames ∧ 8 + (mxL + 11) + lo ≤ R.locals) (hW : (st.map fun v => v.category).sum ≤ 8) (hcs : cells ≤ R.cells ∧ slots ≤ R.slots)
    (hdg : decode cc pc = .ok (.invokevirtual index, 3)) (hst : st0 = As.reverse ++ .ref b :: st) (K : J p l e R s m args below meth c Q E nL (pc + 3) lv (x :: st) S2 cells slots) : J p l e R s m args below meth c Q E nL pc lv st0 S cells slots :=
  j_callV M F hl' hC hbL hF hci hn hR hW hcs hdg hst (fun v u h => by obtain ⟨rfl, rfl⟩ := h; exact K)
theorem j_callV0 (M : MC E p s m args meth c cc own nL ret) {y : MethodName} {C : String} {cb : ByteArray} {mxL n fr lo index b ci N : Nat} {rt : Option FieldType} {As : List Value} {fs : List Value} {T : u_T} (F : CFv y C cb mxL rt n) (hl' : Cond.methodLink own index y ∈ wsU)
    (hC : CT l y cb mxL rt fr lo 0 0 E (.ref b :: As) S (p0 S2)) (hbL : b ∈ sL S) (hF : pF E S b = .inr (ci, fs)) (hci : vwCl[ci]? = some (C, T, N)) (hn : As.length = n) (hR : fr + 1 ≤ R.frames ∧ 8 + (mxL + 11) + lo ≤ R.locals) (hW : (st.map fun v => v.category).sum ≤ 8) (hcs : cells ≤ R.cells ∧ slots ≤ R.slots)
    (hdg : decode cc pc = .ok (.invokevirtual index, 3)) (hst : st0 = As.reverse ++ .ref b :: st) (K : J p l e R s m args below meth c Q E nL (pc + 3) lv st S2 cells slots) : J p l e R s m args below meth c Q E nL pc lv st0 S cells slots :=
  j_callV M F hl' hC hbL hF hci hn hR hW hcs hdg hst (fun v u h => by obtain ⟨rfl, rfl⟩ := h; exact K)
theorem j_callS1 (M : MC E p s m args meth c cc own nL ret) {y : MethodName} {cb : ByteArray} {mxL n fr lo index : Nat} {rt : Option FieldType} {As : List Value} {x : Value} (F : CFs y cb mxL rt n) (hl' : Cond.methodLink own index y ∈ wsU)
    (hC : CT l y cb mxL rt fr lo 0 0 E As S (pv x S2)) (hn : As.length = n) (hR : fr + 1 ≤ R.frames ∧ 8 + (mxL + 11) + lo ≤ R.locals) (hW : (st.map fun v => v.category).sum ≤ 8) (hcs : cells ≤ R.cells ∧ slots ≤ R.slots)
    (hdg : decode cc pc = .ok (.invokestatic index, 3)) (hst : st0 = As.reverse ++ st) (K : J p l e R s m args below meth c Q E nL (pc + 3) lv (x :: st) S2 cells slots) : J p l e R s m args below meth c Q E nL pc lv st0 S cells slots :=
  j_callS M F hl' hC hn hR hW hcs hdg hst (fun v u h => by obtain ⟨rfl, rfl⟩ := h; exact K)
theorem j_callS0 (M : MC E p s m args meth c cc own nL ret) {y : MethodName} {cb : ByteArray} {mxL n fr lo index : Nat} {rt : Option FieldType} {As : List Value} (F : CFs y cb mxL rt n) (hl' : Cond.methodLink own index y ∈ wsU)
    (hC : CT l y cb mxL rt fr lo 0 0 E As S (p0 S2)) (hn : As.length = n) (hR : fr + 1 ≤ R.frames ∧ 8 + (mxL + 11) + lo ≤ R.locals) (hW : (st.map fun v => v.category).sum ≤ 8) (hcs : cells ≤ R.cells ∧ slots ≤ R.slots)
    (hdg : decode cc pc = .ok (.invokestatic index, 3)) (hst : st0 = As.reverse ++ st) (K : J p l e R s m args below meth c Q E nL (pc + 3) lv st S2 cells slots) : J p l e R s m args below meth c Q E nL pc lv st0 S cells slots :=
  j_callS M F hl' hC hn hR hW hcs hdg hst (fun v u h => by obtain ⟨rfl, rfl⟩ := h; exact K)
end CW
end
section
/-! ArrayList's size and get, Arrays.fill: the library's own code, walked -/
section LR
variable {p : Program} {l : Launch} {e : Env} {R : Room} {s : State} {m : MethodId} {args : Array Value} {below : List Frame} {meth : Method} {c : Code} {Q : State → Prop} {E : EV} {nL pc : Nat} {lv lv' : List (Nat × Value)} {st st0 : List Value} {S S2 : PS} {cells slots : Nat} {cc : ByteArray} {own : String} {ret : Option FieldType}
theorem j_aald (M : MC E p s m args meth c cc own nL ret) {a : Nat} {i : Int32} (haL : a ∈ sL S) (hk : sK S a = 10) (hin : vp_in i (sN S a)) (hdg : decode cc pc = .ok (.aaload, 1)) (K : J p l e R s m args below meth c Q E nL (pc + 1) lv (va_rf (sO S a i.toNatClampNeg) :: st) S cells slots) : J p l e R s m args below meth c Q E nL pc lv (.int i :: .ref a :: st) S cells slots := by
  intro H locs ls hH hS hl
  obtain ⟨q0, hq⟩ := pGet (E := E) haL
  rw [pAt_10 E S hk] at hq
  exact va_aldq M.hx M.hb M.hK hH.2.1 q0 1 hq rfl hin hdg (K H locs ls hH hS hl)
end LR
theorem cf_J3_checkIndex : CFs yJ3_checkIndex_8e157 cJ3_checkIndex_8e157 3 (some .int) 3 := ⟨wC_J3_checkIndex_8e157, wS_J3_checkIndex_8e157, wN_J3, by decide +kernel⟩
theorem cf_J15_checkIndex : CFs yJ15_checkIndex_7cf53 cJ15_checkIndex_7cf53 2 (some .int) 2 := ⟨wC_J15_checkIndex_7cf53, wS_J15_checkIndex_7cf53, wN_J15, by decide +kernel⟩
theorem cf_elementData : CFv yJx4a65c_elementData_915e3 RJx4a65c cJx4a65c_elementData_915e3 2 (some (.object "java/lang/Object")) 1 := ⟨wC_Jx4a65c_elementData_915e3, wI_Jx4a65c_elementData_915e3, wV_Jx4a65c_Jx4a65c_elementData_915e3, wN_Jx4a65c, by decide +kernel⟩
theorem cf_get : CFv yJx4a65c_get_915e3 RJx4a65c cJx4a65c_get_915e3 2 (some (.object "java/lang/Object")) 1 := ⟨wC_Jx4a65c_get_915e3, wI_Jx4a65c_get_915e3, wV_Jx4a65c_Jx4a65c_get_915e3, wN_Jx4a65c, by decide +kernel⟩
theorem cf_size : CFv yJx4a65c_size_8abf5 RJx4a65c cJx4a65c_size_8abf5 1 (some .int) 0 := ⟨wC_Jx4a65c_size_8abf5, wI_Jx4a65c_size_8abf5, wV_Jx4a65c_Jx4a65c_size_8abf5, wN_Jx4a65c, by decide +kernel⟩
set_option maxRecDepth 100000 in
theorem c_J3_checkIndex {l : Launch} {E : EV} {S : PS} {j n : Nat} (hj : j < n) (hn : n < 2 ^ 31) : CT l yJ3_checkIndex_8e157 cJ3_checkIndex_8e157 3 (some .int) 0 0 0 0 E [.int (nI j), .int (nI n), .null] S (pv (.int (nI j)) S) := by
  refine CT.of (by decide) (Nat.le_of_ble_eq_true rfl) ?_
  intro p e s m below meth c M hin
  show J p l e _ s m _ below meth c _ E 3 0 [(0, .int (nI j)), (1, .int (nI n)), (2, .null)] [] S 0 0
  refine j_iload_n M dJ3_checkIndex_8e157_0 rfl ?_
  refine j_if_lt (tgt := 9) M dJ3_checkIndex_8e157_1 (by decide) (fun c1 => absurd c1 (nI_pos (by omega))) (fun c1 => ?_)
  refine j_iload_n M dJ3_checkIndex_8e157_4 rfl ?_
  refine j_iload_n M dJ3_checkIndex_8e157_5 rfl ?_
  refine j_icmp_lt (tgt := 16) M dJ3_checkIndex_8e157_6 (by decide) (fun c1 => ?_) (fun c1 => absurd (nI_lt hj (by omega)) c1)
  refine j_iload_n M dJ3_checkIndex_8e157_16 rfl ?_
  exact j_iret M dJ3_checkIndex_8e157_17 (Nat.le_refl _) (Nat.le_refl _) ⟨rfl, rfl⟩
set_option maxRecDepth 100000 in
theorem c_J15_checkIndex {l : Launch} {E : EV} {S : PS} {j n : Nat} (hj : j < n) (hn : n < 2 ^ 31) : CT l yJ15_checkIndex_7cf53 cJ15_checkIndex_7cf53 2 (some .int) 1 22 0 0 E [.int (nI j), .int (nI n)] S (pv (.int (nI j)) S) := by
  refine CT.of (by decide) (Nat.le_of_ble_eq_true rfl) ?_
  intro p e s m below meth c M hin
  have M : MC E p s m _ meth c cJ15_checkIndex_7cf53 RJ15 2 (some .int) := M
  show J p l e _ s m _ below meth c _ E 2 0 [(0, .int (nI j)), (1, .int (nI n))] [] S 0 0
  refine j_iload_n M dJ15_checkIndex_7cf53_0 rfl ?_
  refine j_iload_n M dJ15_checkIndex_7cf53_1 rfl ?_
  refine j_null M dJ15_checkIndex_7cf53_2 ?_
  refine j_callS1 (As := [.int (nI j), .int (nI n), .null]) M cf_J3_checkIndex wM_J15_105 (c_J3_checkIndex hj hn) rfl ⟨Nat.le_of_ble_eq_true rfl, Nat.le_of_ble_eq_true rfl⟩ (Nat.le_of_ble_eq_true rfl) ⟨Nat.le_refl _, Nat.le_refl _⟩ dJ15_checkIndex_7cf53_3 rfl ?_
  exact j_iret M dJ15_checkIndex_7cf53_6 (Nat.le_refl _) (Nat.le_refl _) ⟨rfl, rfl⟩
set_option maxRecDepth 100000 in
theorem c_size {l : Launch} {E : EV} {S : PS} {h k B : Nat} (hL : LSt S h k B) : CT l yJx4a65c_size_8abf5 cJx4a65c_size_8abf5 1 (some .int) 0 0 0 0 E [.ref h] S (pv (.int (nI (sZ S h))) S) := by
  refine CT.of (by decide) (Nat.le_of_ble_eq_true rfl) ?_
  intro p e s m below meth c M hin
  have M : MC E p s m _ meth c cJx4a65c_size_8abf5 RJx4a65c 1 (some .int) := M
  show J p l e _ s m _ below meth c _ E 1 0 [(0, .ref h)] [] S 0 0
  refine j_aload_n M dJx4a65c_size_8abf5_0 rfl ?_
  refine j_get (v := .int (nI (sZ S h))) M hL.1.1 (pAt_8 E S hL.1.2) rfl inU_Jx4a65c 2 (by decide) wF_Jx4a65c_48 (fun _ h => h) rfl dJx4a65c_size_8abf5_1 ?_
  exact j_iret M dJx4a65c_size_8abf5_4 (Nat.le_refl _) (Nat.le_refl _) ⟨rfl, rfl⟩
set_option maxRecDepth 100000 in
theorem c_elementData {l : Launch} {E : EV} {S : PS} {h k B j : Nat} (hL : LSt S h k B) (hj : j < sZ S h) : CT l yJx4a65c_elementData_915e3 cJx4a65c_elementData_915e3 2 (some (.object "java/lang/Object")) 0 0 0 0 E [.ref h, .int (nI j)] S (pv (.ref (el S h j)) S) := by
  obtain ⟨t, e1, e2, e3, e4, e5, e6⟩ := hL.2.2 j hj
  refine CT.of (by decide) (Nat.le_of_ble_eq_true rfl) ?_
  intro p e s m below meth c M hin
  have M : MC E p s m _ meth c cJx4a65c_elementData_915e3 RJx4a65c 2 (some (.object "java/lang/Object")) := M
  show J p l e _ s m _ below meth c _ E 2 0 [(0, .ref h), (1, .int (nI j))] [] S 0 0
  refine j_aload_n M dJx4a65c_elementData_915e3_0 rfl ?_
  refine j_get (v := .ref t) M hL.1.1 (pAt_8 E S hL.1.2) rfl inU_Jx4a65c 1 (by decide) wF_Jx4a65c_9 (fun _ h => h) (rfv e1) dJx4a65c_elementData_915e3_1 ?_
  refine j_iload_n M dJx4a65c_elementData_915e3_4 rfl ?_
  refine j_aald M e2.1 e2.2 (vp_in_nI e3 (by omega)) dJx4a65c_elementData_915e3_5 ?_
  have ev : va_rf (sO S t (nI j).toNatClampNeg) = .ref (el S h j) := by rw [nI_clamp (by omega), e5]; rfl
  rw [ev]
  exact j_aret M (Or.inl ⟨_, rfl⟩) (Or.inr ⟨_, rfl⟩) dJx4a65c_elementData_915e3_6 (Nat.le_refl _) (Nat.le_refl _) ⟨rfl, rfl⟩
set_option maxRecDepth 100000 in
theorem c_get {l : Launch} {E : EV} {S : PS} {h k B j : Nat} (hL : LSt S h k B) (hB : B < 2 ^ 31) (hj : j < sZ S h) : CT l yJx4a65c_get_915e3 cJx4a65c_get_915e3 2 (some (.object "java/lang/Object")) 2 43 0 0 E [.ref h, .int (nI j)] S (pv (.ref (el S h j)) S) := by
  have hz := hL.2.1
  refine CT.of (by decide) (Nat.le_of_ble_eq_true rfl) ?_
  intro p e s m below meth c M hin
  have M : MC E p s m _ meth c cJx4a65c_get_915e3 RJx4a65c 2 (some (.object "java/lang/Object")) := M
  show J p l e _ s m _ below meth c _ E 2 0 [(0, .ref h), (1, .int (nI j))] [] S 0 0
  refine j_iload_n M dJx4a65c_get_915e3_0 rfl ?_
  refine j_aload_n M dJx4a65c_get_915e3_1 rfl ?_
  refine j_get (v := .int (nI (sZ S h))) M hL.1.1 (pAt_8 E S hL.1.2) rfl inU_Jx4a65c 2 (by decide) wF_Jx4a65c_48 (fun _ h => h) rfl dJx4a65c_get_915e3_2 ?_
  refine j_callS1 (As := [.int (nI j), .int (nI (sZ S h))]) M cf_J15_checkIndex wM_Jx4a65c_118 (c_J15_checkIndex hj (by omega)) rfl ⟨Nat.le_of_ble_eq_true rfl, Nat.le_of_ble_eq_true rfl⟩ (Nat.le_of_ble_eq_true rfl) ⟨Nat.le_refl _, Nat.le_refl _⟩ dJx4a65c_get_915e3_5 rfl ?_
  refine j_pop M dJx4a65c_get_915e3_8 rfl ?_
  refine j_aload_n M dJx4a65c_get_915e3_9 rfl ?_
  refine j_iload_n M dJx4a65c_get_915e3_10 rfl ?_
  refine j_callV1 (As := [.int (nI j)]) M cf_elementData wM_Jx4a65c_123 (c_elementData hL hj) hL.1.1 (pAt_8 E S hL.1.2) rfl rfl ⟨Nat.le_of_ble_eq_true rfl, Nat.le_of_ble_eq_true rfl⟩ (Nat.le_of_ble_eq_true rfl) ⟨Nat.le_refl _, Nat.le_refl _⟩ dJx4a65c_get_915e3_11 rfl ?_
  exact j_aret M (Or.inl ⟨_, rfl⟩) (Or.inr ⟨_, rfl⟩) dJx4a65c_get_915e3_14 (Nat.le_refl _) (Nat.le_refl _) ⟨rfl, rfl⟩
end
section
def m_cells (K : Nat → Nat) (S : PS) : Int32 :=
  (sI S 17 (K 2)) * (sI S 18 (K 2))
theorem cf_X1_cells : CFv yX1_cells RX1 cX1_cells 1 (some .int) 0 := ⟨wC_X1_cells, wI_X1_cells, wV_X1_X1_cells, wN_X1, by decide +kernel⟩
set_option maxHeartbeats 4000000 in
set_option maxRecDepth 100000 in
theorem c_cells {l : Launch} {E : EV} {K : Nat → Nat} {S : PS} (hW : WS K S) : CT l yX1_cells cX1_cells 1 (some .int) 0 0 0 0 E [.ref (K 2)] S (pv (.int (m_cells K S)) S) := by
  refine CT.of (by decide) (Nat.le_of_ble_eq_true rfl) ?_
  intro p e s m below meth c M hin
  have M : MC E p s m _ meth c cX1_cells RX1 1 (some .int) := M
  show J p l e _ s m _ below meth c _ E 1 0 [(0, .ref (K 2))] [] S 0 0
  refine j_aload_n M dX1_cells_0 rfl ?_
  refine j_get (v := .int (sI S 17 (K 2))) M hW.k2.1 (pAt_1 E _ hW.k2.2) rfl inU_X1 1 (by decide) wF_X1_15 (fun _ h => h) rfl dX1_cells_1 ?_
  refine j_aload_n M dX1_cells_4 rfl ?_
  refine j_get (v := .int (sI S 18 (K 2))) M hW.k2.1 (pAt_1 E _ hW.k2.2) rfl inU_X1 2 (by decide) wF_X1_19 (fun _ h => h) rfl dX1_cells_5 ?_
  refine j_imul M dX1_cells_8 ?_
  exact j_iret (v := ((sI S 17 (K 2)) * (sI S 18 (K 2)))) M dX1_cells_9 (Nat.le_refl _) (Nat.le_refl _) ⟨congrArg (fun z => some (Value.int z)) (show ((sI S 17 (K 2)) * (sI S 18 (K 2))) = m_cells K S from rfl), rfl⟩
def m_hasCell (K : Nat → Nat) (S : PS) (x : Int32) : Int32 :=
  if x < 0 then
    0
  else
    if (m_cells K S) ≤ x then
      0
    else
      1
theorem cf_X1_hasCell : CFv yX1_hasCell RX1 cX1_hasCell 2 (some .boolean) 1 := ⟨wC_X1_hasCell, wI_X1_hasCell, wV_X1_X1_hasCell, wN_X1, by decide +kernel⟩
set_option maxHeartbeats 4000000 in
set_option maxRecDepth 100000 in
theorem c_hasCell {l : Launch} {E : EV} {K : Nat → Nat} {S : PS} (hW : WS K S) (x : Int32) : CT l yX1_hasCell cX1_hasCell 2 (some .boolean) 1 20 0 0 E [.ref (K 2), .int x] S (pv (.int (m_hasCell K S x)) S) := by
  refine CT.of (by decide) (Nat.le_of_ble_eq_true rfl) ?_
  intro p e s m below meth c M hin
  have M : MC E p s m _ meth c cX1_hasCell RX1 2 (some .boolean) := M
  show J p l e _ s m _ below meth c _ E 2 0 [(0, .ref (K 2)), (1, .int x)] [] S 0 0
  refine j_iload_n M dX1_hasCell_0 rfl ?_
  refine j_if_lt (tgt := 16) M dX1_hasCell_1 (by decide) (fun c1 => ?_) (fun c1 => ?_)
  · refine j_iconst (v := 0) M dX1_hasCell_16 (by decide) ?_
    exact j_zret (v := 0) M dX1_hasCell_17 (Nat.le_refl _) (Nat.le_refl _) rfl ⟨congrArg (fun z => some (Value.int z)) (show 0 = m_hasCell K S x from (by unfold m_hasCell; rw [if_pos c1])), rfl⟩
  · refine j_iload_n M dX1_hasCell_4 rfl ?_
    refine j_aload_n M dX1_hasCell_5 rfl ?_
    refine j_callV1 (As := []) M cf_X1_cells wM_X1_28 (c_cells hW) hW.k2.1 (pAt_1 E _ hW.k2.2) rfl rfl ⟨Nat.le_of_ble_eq_true rfl, Nat.le_of_ble_eq_true rfl⟩ (Nat.le_of_ble_eq_true rfl) ⟨Nat.zero_le _, Nat.zero_le _⟩ dX1_hasCell_6 rfl ?_
    refine j_icmp_ge (tgt := 16) M dX1_hasCell_9 (by decide) (fun c2 => ?_) (fun c2 => ?_)
    · refine j_iconst (v := 0) M dX1_hasCell_16 (by decide) ?_
      exact j_zret (v := 0) M dX1_hasCell_17 (Nat.le_refl _) (Nat.le_refl _) rfl ⟨congrArg (fun z => some (Value.int z)) (show 0 = m_hasCell K S x from (by unfold m_hasCell; rw [if_neg c1, if_pos c2])), rfl⟩
    · refine j_iconst (v := 1) M dX1_hasCell_12 (by decide) ?_
      refine j_goto (tgt := 17) M dX1_hasCell_13 (by decide) ?_
      exact j_zret (v := 1) M dX1_hasCell_17 (Nat.le_refl _) (Nat.le_refl _) rfl ⟨congrArg (fun z => some (Value.int z)) (show 1 = m_hasCell K S x from (by unfold m_hasCell; rw [if_neg c1, if_neg c2])), rfl⟩
def m_hasPlace (K : Nat → Nat) (S : PS) (r : Int32) (q : Int32) : Int32 :=
  if r < 0 then
    0
  else
    if (sI S 18 (K 2)) ≤ r then
      0
    else
      if q < 0 then
        0
      else
        if (sI S 17 (K 2)) ≤ q then
          0
        else
          1
theorem cf_X1_hasPlace : CFv yX1_hasPlace RX1 cX1_hasPlace 3 (some .boolean) 2 := ⟨wC_X1_hasPlace, wI_X1_hasPlace, wV_X1_X1_hasPlace, wN_X1, by decide +kernel⟩
set_option maxHeartbeats 4000000 in
set_option maxRecDepth 100000 in
theorem c_hasPlace {l : Launch} {E : EV} {K : Nat → Nat} {S : PS} (hW : WS K S) (r : Int32) (q : Int32) : CT l yX1_hasPlace cX1_hasPlace 3 (some .boolean) 0 0 0 0 E [.ref (K 2), .int r, .int q] S (pv (.int (m_hasPlace K S r q)) S) := by
  refine CT.of (by decide) (Nat.le_of_ble_eq_true rfl) ?_
  intro p e s m below meth c M hin
  have M : MC E p s m _ meth c cX1_hasPlace RX1 3 (some .boolean) := M
  show J p l e _ s m _ below meth c _ E 3 0 [(0, .ref (K 2)), (1, .int r), (2, .int q)] [] S 0 0
  refine j_iload_n M dX1_hasPlace_0 rfl ?_
  refine j_if_lt (tgt := 28) M dX1_hasPlace_1 (by decide) (fun c1 => ?_) (fun c1 => ?_)
  · refine j_iconst (v := 0) M dX1_hasPlace_28 (by decide) ?_
    exact j_zret (v := 0) M dX1_hasPlace_29 (Nat.le_refl _) (Nat.le_refl _) rfl ⟨congrArg (fun z => some (Value.int z)) (show 0 = m_hasPlace K S r q from (by unfold m_hasPlace; rw [if_pos c1])), rfl⟩
  · refine j_iload_n M dX1_hasPlace_4 rfl ?_
    refine j_aload_n M dX1_hasPlace_5 rfl ?_
    refine j_get (v := .int (sI S 18 (K 2))) M hW.k2.1 (pAt_1 E _ hW.k2.2) rfl inU_X1 2 (by decide) wF_X1_19 (fun _ h => h) rfl dX1_hasPlace_6 ?_
    refine j_icmp_ge (tgt := 28) M dX1_hasPlace_9 (by decide) (fun c2 => ?_) (fun c2 => ?_)
    · refine j_iconst (v := 0) M dX1_hasPlace_28 (by decide) ?_
      exact j_zret (v := 0) M dX1_hasPlace_29 (Nat.le_refl _) (Nat.le_refl _) rfl ⟨congrArg (fun z => some (Value.int z)) (show 0 = m_hasPlace K S r q from (by unfold m_hasPlace; rw [if_neg c1, if_pos c2])), rfl⟩
    · refine j_iload_n M dX1_hasPlace_12 rfl ?_
      refine j_if_lt (tgt := 28) M dX1_hasPlace_13 (by decide) (fun c3 => ?_) (fun c3 => ?_)
      · refine j_iconst (v := 0) M dX1_hasPlace_28 (by decide) ?_
        exact j_zret (v := 0) M dX1_hasPlace_29 (Nat.le_refl _) (Nat.le_refl _) rfl ⟨congrArg (fun z => some (Value.int z)) (show 0 = m_hasPlace K S r q from (by unfold m_hasPlace; rw [if_neg c1, if_neg c2, if_pos c3])), rfl⟩
      · refine j_iload_n M dX1_hasPlace_16 rfl ?_
        refine j_aload_n M dX1_hasPlace_17 rfl ?_
        refine j_get (v := .int (sI S 17 (K 2))) M hW.k2.1 (pAt_1 E _ hW.k2.2) rfl inU_X1 1 (by decide) wF_X1_15 (fun _ h => h) rfl dX1_hasPlace_18 ?_
        refine j_icmp_ge (tgt := 28) M dX1_hasPlace_21 (by decide) (fun c4 => ?_) (fun c4 => ?_)
        · refine j_iconst (v := 0) M dX1_hasPlace_28 (by decide) ?_
          exact j_zret (v := 0) M dX1_hasPlace_29 (Nat.le_refl _) (Nat.le_refl _) rfl ⟨congrArg (fun z => some (Value.int z)) (show 0 = m_hasPlace K S r q from (by unfold m_hasPlace; rw [if_neg c1, if_neg c2, if_neg c3, if_pos c4])), rfl⟩
        · refine j_iconst (v := 1) M dX1_hasPlace_24 (by decide) ?_
          refine j_goto (tgt := 29) M dX1_hasPlace_25 (by decide) ?_
          exact j_zret (v := 1) M dX1_hasPlace_29 (Nat.le_refl _) (Nat.le_refl _) rfl ⟨congrArg (fun z => some (Value.int z)) (show 1 = m_hasPlace K S r q from (by unfold m_hasPlace; rw [if_neg c1, if_neg c2, if_neg c3, if_neg c4])), rfl⟩
def m_cellAt (K : Nat → Nat) (S : PS) (r : Int32) (q : Int32) : Int32 :=
  if (m_hasPlace K S r q) = 0 then
    (-1)
  else
    (r * (sI S 17 (K 2))) + q
theorem cf_X1_cellAt : CFv yX1_cellAt RX1 cX1_cellAt 3 (some .int) 2 := ⟨wC_X1_cellAt, wI_X1_cellAt, wV_X1_X1_cellAt, wN_X1, by decide +kernel⟩
set_option maxHeartbeats 4000000 in
set_option maxRecDepth 100000 in
theorem c_cellAt {l : Launch} {E : EV} {K : Nat → Nat} {S : PS} (hW : WS K S) (r : Int32) (q : Int32) : CT l yX1_cellAt cX1_cellAt 3 (some .int) 1 22 0 0 E [.ref (K 2), .int r, .int q] S (pv (.int (m_cellAt K S r q)) S) := by
  refine CT.of (by decide) (Nat.le_of_ble_eq_true rfl) ?_
  intro p e s m below meth c M hin
  have M : MC E p s m _ meth c cX1_cellAt RX1 3 (some .int) := M
  show J p l e _ s m _ below meth c _ E 3 0 [(0, .ref (K 2)), (1, .int r), (2, .int q)] [] S 0 0
  refine j_aload_n M dX1_cellAt_0 rfl ?_
  refine j_iload_n M dX1_cellAt_1 rfl ?_
  refine j_iload_n M dX1_cellAt_2 rfl ?_
  refine j_callV1 (As := [.int r, .int q]) M cf_X1_hasPlace wM_X1_32 (c_hasPlace hW r q) hW.k2.1 (pAt_1 E _ hW.k2.2) rfl rfl ⟨Nat.le_of_ble_eq_true rfl, Nat.le_of_ble_eq_true rfl⟩ (Nat.le_of_ble_eq_true rfl) ⟨Nat.zero_le _, Nat.zero_le _⟩ dX1_cellAt_3 rfl ?_
  refine j_if_eq (tgt := 20) M dX1_cellAt_6 (by decide) (fun c1 => ?_) (fun c1 => ?_)
  · refine j_iconst (v := (-1)) M dX1_cellAt_20 (by decide) ?_
    exact j_iret (v := (-1)) M dX1_cellAt_21 (Nat.le_refl _) (Nat.le_refl _) ⟨congrArg (fun z => some (Value.int z)) (show (-1) = m_cellAt K S r q from (by unfold m_cellAt; rw [if_pos c1])), rfl⟩
  · refine j_iload_n M dX1_cellAt_9 rfl ?_
    refine j_aload_n M dX1_cellAt_10 rfl ?_
    refine j_get (v := .int (sI S 17 (K 2))) M hW.k2.1 (pAt_1 E _ hW.k2.2) rfl inU_X1 1 (by decide) wF_X1_15 (fun _ h => h) rfl dX1_cellAt_11 ?_
    refine j_imul M dX1_cellAt_14 ?_
    refine j_iload_n M dX1_cellAt_15 rfl ?_
    refine j_iadd M dX1_cellAt_16 ?_
    refine j_goto (tgt := 21) M dX1_cellAt_17 (by decide) ?_
    exact j_iret (v := ((r * (sI S 17 (K 2))) + q)) M dX1_cellAt_21 (Nat.le_refl _) (Nat.le_refl _) ⟨congrArg (fun z => some (Value.int z)) (show ((r * (sI S 17 (K 2))) + q) = m_cellAt K S r q from (by unfold m_cellAt; rw [if_neg c1])), rfl⟩
def m_rowOf (K : Nat → Nat) (S : PS) (x : Int32) : Int32 :=
  if (sI S 17 (K 2)) ≤ 0 then
    0
  else
    x / (sI S 17 (K 2))
theorem cf_X1_rowOf : CFv yX1_rowOf RX1 cX1_rowOf 2 (some .int) 1 := ⟨wC_X1_rowOf, wI_X1_rowOf, wV_X1_X1_rowOf, wN_X1, by decide +kernel⟩
set_option maxHeartbeats 4000000 in
set_option maxRecDepth 100000 in
theorem c_rowOf {l : Launch} {E : EV} {K : Nat → Nat} {S : PS} (hW : WS K S) (x : Int32) : CT l yX1_rowOf cX1_rowOf 2 (some .int) 0 0 0 0 E [.ref (K 2), .int x] S (pv (.int (m_rowOf K S x)) S) := by
  refine CT.of (by decide) (Nat.le_of_ble_eq_true rfl) ?_
  intro p e s m below meth c M hin
  have M : MC E p s m _ meth c cX1_rowOf RX1 2 (some .int) := M
  show J p l e _ s m _ below meth c _ E 2 0 [(0, .ref (K 2)), (1, .int x)] [] S 0 0
  refine j_aload_n M dX1_rowOf_0 rfl ?_
  refine j_get (v := .int (sI S 17 (K 2))) M hW.k2.1 (pAt_1 E _ hW.k2.2) rfl inU_X1 1 (by decide) wF_X1_15 (fun _ h => h) rfl dX1_rowOf_1 ?_
  refine j_if_le (tgt := 16) M dX1_rowOf_4 (by decide) (fun c1 => ?_) (fun c1 => ?_)
  · refine j_iconst (v := 0) M dX1_rowOf_16 (by decide) ?_
    exact j_iret (v := 0) M dX1_rowOf_17 (Nat.le_refl _) (Nat.le_refl _) ⟨congrArg (fun z => some (Value.int z)) (show 0 = m_rowOf K S x from (by unfold m_rowOf; rw [if_pos c1])), rfl⟩
  · refine j_iload_n M dX1_rowOf_7 rfl ?_
    refine j_aload_n M dX1_rowOf_8 rfl ?_
    refine j_get (v := .int (sI S 17 (K 2))) M hW.k2.1 (pAt_1 E _ hW.k2.2) rfl inU_X1 1 (by decide) wF_X1_15 (fun _ h => h) rfl dX1_rowOf_9 ?_
    refine j_idiv M dX1_rowOf_12 (ne0_of c1) ?_
    refine j_goto (tgt := 17) M dX1_rowOf_13 (by decide) ?_
    exact j_iret (v := (x / (sI S 17 (K 2)))) M dX1_rowOf_17 (Nat.le_refl _) (Nat.le_refl _) ⟨congrArg (fun z => some (Value.int z)) (show (x / (sI S 17 (K 2))) = m_rowOf K S x from (by unfold m_rowOf; rw [if_neg c1])), rfl⟩
def m_columnOf (K : Nat → Nat) (S : PS) (x : Int32) : Int32 :=
  if (sI S 17 (K 2)) ≤ 0 then
    0
  else
    x - x / (sI S 17 (K 2)) * (sI S 17 (K 2))
theorem cf_X1_columnOf : CFv yX1_columnOf RX1 cX1_columnOf 2 (some .int) 1 := ⟨wC_X1_columnOf, wI_X1_columnOf, wV_X1_X1_columnOf, wN_X1, by decide +kernel⟩
set_option maxHeartbeats 4000000 in
set_option maxRecDepth 100000 in
theorem c_columnOf {l : Launch} {E : EV} {K : Nat → Nat} {S : PS} (hW : WS K S) (x : Int32) : CT l yX1_columnOf cX1_columnOf 2 (some .int) 0 0 0 0 E [.ref (K 2), .int x] S (pv (.int (m_columnOf K S x)) S) := by
  refine CT.of (by decide) (Nat.le_of_ble_eq_true rfl) ?_
  intro p e s m below meth c M hin
  have M : MC E p s m _ meth c cX1_columnOf RX1 2 (some .int) := M
  show J p l e _ s m _ below meth c _ E 2 0 [(0, .ref (K 2)), (1, .int x)] [] S 0 0
  refine j_aload_n M dX1_columnOf_0 rfl ?_
  refine j_get (v := .int (sI S 17 (K 2))) M hW.k2.1 (pAt_1 E _ hW.k2.2) rfl inU_X1 1 (by decide) wF_X1_15 (fun _ h => h) rfl dX1_columnOf_1 ?_
  refine j_if_le (tgt := 16) M dX1_columnOf_4 (by decide) (fun c1 => ?_) (fun c1 => ?_)
  · refine j_iconst (v := 0) M dX1_columnOf_16 (by decide) ?_
    exact j_iret (v := 0) M dX1_columnOf_17 (Nat.le_refl _) (Nat.le_refl _) ⟨congrArg (fun z => some (Value.int z)) (show 0 = m_columnOf K S x from (by unfold m_columnOf; rw [if_pos c1])), rfl⟩
  · refine j_iload_n M dX1_columnOf_7 rfl ?_
    refine j_aload_n M dX1_columnOf_8 rfl ?_
    refine j_get (v := .int (sI S 17 (K 2))) M hW.k2.1 (pAt_1 E _ hW.k2.2) rfl inU_X1 1 (by decide) wF_X1_15 (fun _ h => h) rfl dX1_columnOf_9 ?_
    refine j_irem M dX1_columnOf_12 (ne0_of c1) ?_
    refine j_goto (tgt := 17) M dX1_columnOf_13 (by decide) ?_
    exact j_iret (v := (x - x / (sI S 17 (K 2)) * (sI S 17 (K 2)))) M dX1_columnOf_17 (Nat.le_refl _) (Nat.le_refl _) ⟨congrArg (fun z => some (Value.int z)) (show (x - x / (sI S 17 (K 2)) * (sI S 17 (K 2))) = m_columnOf K S x from (by unfold m_columnOf; rw [if_neg c1])), rfl⟩
def m_levelOf (K : Nat → Nat) (S : PS) (x : Int32) : Int32 :=
  if x < 0 then
    0
  else
    if (nI (sN S (K 6))) ≤ x then
      0
    else
      sA S (K 6) x.toNatClampNeg
theorem cf_X1_levelOf : CFv yX1_levelOf RX1 cX1_levelOf 2 (some .int) 1 := ⟨wC_X1_levelOf, wI_X1_levelOf, wV_X1_X1_levelOf, wN_X1, by decide +kernel⟩
set_option maxHeartbeats 4000000 in
set_option maxRecDepth 100000 in
theorem c_levelOf {l : Launch} {E : EV} {K : Nat → Nat} {S : PS} (hW : WS K S) (x : Int32) : CT l yX1_levelOf cX1_levelOf 2 (some .int) 0 0 0 0 E [.ref (K 2), .int x] S (pv (.int (m_levelOf K S x)) S) := by
  refine CT.of (by decide) (Nat.le_of_ble_eq_true rfl) ?_
  intro p e s m below meth c M hin
  have M : MC E p s m _ meth c cX1_levelOf RX1 2 (some .int) := M
  show J p l e _ s m _ below meth c _ E 2 0 [(0, .ref (K 2)), (1, .int x)] [] S 0 0
  refine j_iload_n M dX1_levelOf_0 rfl ?_
  refine j_if_lt (tgt := 22) M dX1_levelOf_1 (by decide) (fun c1 => ?_) (fun c1 => ?_)
  · refine j_iconst (v := 0) M dX1_levelOf_22 (by decide) ?_
    exact j_iret (v := 0) M dX1_levelOf_23 (Nat.le_refl _) (Nat.le_refl _) ⟨congrArg (fun z => some (Value.int z)) (show 0 = m_levelOf K S x from (by unfold m_levelOf; rw [if_pos c1])), rfl⟩
  · refine j_iload_n M dX1_levelOf_4 rfl ?_
    refine j_aload_n M dX1_levelOf_5 rfl ?_
    refine j_get (v := .ref (K 6)) M hW.k2.1 (pAt_1 E _ hW.k2.2) rfl inU_X1 0 (by decide) wF_X1_9 (fun _ h => h) (rfv hW.r16) dX1_levelOf_6 ?_
    refine j_alen M hW.k6.1 hW.k6.2 dX1_levelOf_9 ?_
    refine j_icmp_ge (tgt := 22) M dX1_levelOf_10 (by decide) (fun c2 => ?_) (fun c2 => ?_)
    · refine j_iconst (v := 0) M dX1_levelOf_22 (by decide) ?_
      exact j_iret (v := 0) M dX1_levelOf_23 (Nat.le_refl _) (Nat.le_refl _) ⟨congrArg (fun z => some (Value.int z)) (show 0 = m_levelOf K S x from (by unfold m_levelOf; rw [if_neg c1, if_pos c2])), rfl⟩
    · refine j_aload_n M dX1_levelOf_13 rfl ?_
      refine j_get (v := .ref (K 6)) M hW.k2.1 (pAt_1 E _ hW.k2.2) rfl inU_X1 0 (by decide) wF_X1_9 (fun _ h => h) (rfv hW.r16) dX1_levelOf_14 ?_
      refine j_iload_n M dX1_levelOf_17 rfl ?_
      refine j_iald M hW.k6.1 hW.k6.2 (vp_of (by rw [hW.n6]; decide) c1 c2) dX1_levelOf_18 ?_
      refine j_goto (tgt := 23) M dX1_levelOf_19 (by decide) ?_
      exact j_iret (v := (sA S (K 6) x.toNatClampNeg)) M dX1_levelOf_23 (Nat.le_refl _) (Nat.le_refl _) ⟨congrArg (fun z => some (Value.int z)) (show (sA S (K 6) x.toNatClampNeg) = m_levelOf K S x from (by unfold m_levelOf; rw [if_neg c1, if_neg c2])), rfl⟩
def m_rowAt (K : Nat → Nat) (S : PS) (a : Nat) (d : Int32) : Int32 :=
  (sI S 3 a) + (d * (rwV ((sI S 8 a) &&& 7).toNatClampNeg))
theorem cf_X0_rowAt : CFv yX0_rowAt RX0 cX0_rowAt 2 (some .int) 1 := ⟨wC_X0_rowAt, wI_X0_rowAt, wV_X0_X0_rowAt, wN_X0, by decide +kernel⟩
set_option maxHeartbeats 4000000 in
set_option maxRecDepth 100000 in
theorem c_rowAt {l : Launch} {E : EV} {K : Nat → Nat} {S : PS} (hW : WS K S) {a : Nat} (haL : a ∈ sL S) (haK : sK S a = 0) (d : Int32) : CT l yX0_rowAt cX0_rowAt 2 (some .int) 0 0 0 0 E [.ref a, .int d] S (pv (.int (m_rowAt K S a d)) S) := by
  refine CT.of (by decide) (Nat.le_of_ble_eq_true rfl) ?_
  intro p e s m below meth c M hin
  have M : MC E p s m _ meth c cX0_rowAt RX0 2 (some .int) := M
  show J p l e _ s m _ below meth c _ E 2 0 [(0, .ref a), (1, .int d)] [] S 0 0
  refine j_aload_n M dX0_rowAt_0 rfl ?_
  refine j_get (v := .int (sI S 3 a)) M haL (pAt_0 E _ haK) rfl inU_X0 3 (by decide) wF_X0_50 (fun _ h => h) rfl dX0_rowAt_1 ?_
  refine j_iload_n M dX0_rowAt_4 rfl ?_
  refine j_row M nF_X0_97 dX0_rowAt_5 ?_
  refine j_aload_n M dX0_rowAt_8 rfl ?_
  refine j_get (v := .int (sI S 8 a)) M haL (pAt_0 E _ haK) rfl inU_X0 8 (by decide) wF_X0_9 (fun _ h => h) rfl dX0_rowAt_9 ?_
  refine j_bipush (v := 7) M dX0_rowAt_12 (by decide) ?_
  refine j_iand M dX0_rowAt_14 ?_
  refine j_rowi M (and7_in _) dX0_rowAt_15 ?_
  refine j_imul M dX0_rowAt_16 ?_
  refine j_iadd M dX0_rowAt_17 ?_
  exact j_iret (v := ((sI S 3 a) + (d * (rwV ((sI S 8 a) &&& 7).toNatClampNeg)))) M dX0_rowAt_18 (Nat.le_refl _) (Nat.le_refl _) ⟨congrArg (fun z => some (Value.int z)) (show ((sI S 3 a) + (d * (rwV ((sI S 8 a) &&& 7).toNatClampNeg))) = m_rowAt K S a d from rfl), rfl⟩
def m_columnAt (K : Nat → Nat) (S : PS) (a : Nat) (d : Int32) : Int32 :=
  (sI S 4 a) + (d * (clV ((sI S 8 a) &&& 7).toNatClampNeg))
theorem cf_X0_columnAt : CFv yX0_columnAt RX0 cX0_columnAt 2 (some .int) 1 := ⟨wC_X0_columnAt, wI_X0_columnAt, wV_X0_X0_columnAt, wN_X0, by decide +kernel⟩
set_option maxHeartbeats 4000000 in
set_option maxRecDepth 100000 in
theorem c_columnAt {l : Launch} {E : EV} {K : Nat → Nat} {S : PS} (hW : WS K S) {a : Nat} (haL : a ∈ sL S) (haK : sK S a = 0) (d : Int32) : CT l yX0_columnAt cX0_columnAt 2 (some .int) 0 0 0 0 E [.ref a, .int d] S (pv (.int (m_columnAt K S a d)) S) := by
  refine CT.of (by decide) (Nat.le_of_ble_eq_true rfl) ?_
  intro p e s m below meth c M hin
  have M : MC E p s m _ meth c cX0_columnAt RX0 2 (some .int) := M
  show J p l e _ s m _ below meth c _ E 2 0 [(0, .ref a), (1, .int d)] [] S 0 0
  refine j_aload_n M dX0_columnAt_0 rfl ?_
  refine j_get (v := .int (sI S 4 a)) M haL (pAt_0 E _ haK) rfl inU_X0 4 (by decide) wF_X0_56 (fun _ h => h) rfl dX0_columnAt_1 ?_
  refine j_iload_n M dX0_columnAt_4 rfl ?_
  refine j_col M nF_X0_101 dX0_columnAt_5 ?_
  refine j_aload_n M dX0_columnAt_8 rfl ?_
  refine j_get (v := .int (sI S 8 a)) M haL (pAt_0 E _ haK) rfl inU_X0 8 (by decide) wF_X0_9 (fun _ h => h) rfl dX0_columnAt_9 ?_
  refine j_bipush (v := 7) M dX0_columnAt_12 (by decide) ?_
  refine j_iand M dX0_columnAt_14 ?_
  refine j_coli M (and7_in _) dX0_columnAt_15 ?_
  refine j_imul M dX0_columnAt_16 ?_
  refine j_iadd M dX0_columnAt_17 ?_
  exact j_iret (v := ((sI S 4 a) + (d * (clV ((sI S 8 a) &&& 7).toNatClampNeg)))) M dX0_columnAt_18 (Nat.le_refl _) (Nat.le_refl _) ⟨congrArg (fun z => some (Value.int z)) (show ((sI S 4 a) + (d * (clV ((sI S 8 a) &&& 7).toNatClampNeg))) = m_columnAt K S a d from rfl), rfl⟩
def m_plumb (K : Nat → Nat) (S : PS) (a : Nat) : Int32 :=
  m_cellAt K S (m_rowAt K S a (sI S 10 a)) (m_columnAt K S a (sI S 10 a))
theorem cf_X0_plumb : CFv yX0_plumb RX0 cX0_plumb 1 (some .int) 0 := ⟨wC_X0_plumb, wI_X0_plumb, wV_X0_X0_plumb, wN_X0, by decide +kernel⟩
set_option maxHeartbeats 4000000 in
set_option maxRecDepth 100000 in
theorem c_plumb {l : Launch} {E : EV} {K : Nat → Nat} {S : PS} (hW : WS K S) {a : Nat} (haL : a ∈ sL S) (haK : sK S a = 0) : CT l yX0_plumb cX0_plumb 1 (some .int) 2 44 0 0 E [.ref a] S (pv (.int (m_plumb K S a)) S) := by
  refine CT.of (by decide) (Nat.le_of_ble_eq_true rfl) ?_
  intro p e s m below meth c M hin
  have M : MC E p s m _ meth c cX0_plumb RX0 1 (some .int) := M
  show J p l e _ s m _ below meth c _ E 1 0 [(0, .ref a)] [] S 0 0
  refine j_aload_n M dX0_plumb_0 rfl ?_
  refine j_get (v := .ref (K 2)) M haL (pAt_0 E _ haK) rfl inU_X0 0 (by decide) wF_X0_34 (fun _ h => h) (rfv (hW.r0 ⟨haL, haK⟩)) dX0_plumb_1 ?_
  refine j_aload_n M dX0_plumb_4 rfl ?_
  refine j_aload_n M dX0_plumb_5 rfl ?_
  refine j_get (v := .int (sI S 10 a)) M haL (pAt_0 E _ haK) rfl inU_X0 10 (by decide) wF_X0_18 (fun _ h => h) rfl dX0_plumb_6 ?_
  refine j_callV1 (As := [.int (sI S 10 a)]) M cf_X0_rowAt wM_X0_71 (c_rowAt hW haL haK (sI S 10 a)) haL (pAt_0 E _ haK) rfl rfl ⟨Nat.le_of_ble_eq_true rfl, Nat.le_of_ble_eq_true rfl⟩ (Nat.le_of_ble_eq_true rfl) ⟨Nat.zero_le _, Nat.zero_le _⟩ dX0_plumb_9 rfl ?_
  refine j_aload_n M dX0_plumb_12 rfl ?_
  refine j_aload_n M dX0_plumb_13 rfl ?_
  refine j_get (v := .int (sI S 10 a)) M haL (pAt_0 E _ haK) rfl inU_X0 10 (by decide) wF_X0_18 (fun _ h => h) rfl dX0_plumb_14 ?_
  refine j_callV1 (As := [.int (sI S 10 a)]) M cf_X0_columnAt wM_X0_74 (c_columnAt hW haL haK (sI S 10 a)) haL (pAt_0 E _ haK) rfl rfl ⟨Nat.le_of_ble_eq_true rfl, Nat.le_of_ble_eq_true rfl⟩ (Nat.le_of_ble_eq_true rfl) ⟨Nat.zero_le _, Nat.zero_le _⟩ dX0_plumb_17 rfl ?_
  refine j_callV1 (As := [.int (m_rowAt K S a (sI S 10 a)), .int (m_columnAt K S a (sI S 10 a))]) M cf_X1_cellAt wM_X0_104 (c_cellAt hW (m_rowAt K S a (sI S 10 a)) (m_columnAt K S a (sI S 10 a))) hW.k2.1 (pAt_1 E _ hW.k2.2) rfl rfl ⟨Nat.le_of_ble_eq_true rfl, Nat.le_of_ble_eq_true rfl⟩ (Nat.le_of_ble_eq_true rfl) ⟨Nat.zero_le _, Nat.zero_le _⟩ dX0_plumb_20 rfl ?_
  exact j_iret (v := (m_cellAt K S (m_rowAt K S a (sI S 10 a)) (m_columnAt K S a (sI S 10 a)))) M dX0_plumb_23 (Nat.le_refl _) (Nat.le_refl _) ⟨congrArg (fun z => some (Value.int z)) (show (m_cellAt K S (m_rowAt K S a (sI S 10 a)) (m_columnAt K S a (sI S 10 a))) = m_plumb K S a from rfl), rfl⟩
def m_above (K : Nat → Nat) (S : PS) (a : Nat) : Int32 :=
  (sI S 11 a) - (m_levelOf K S (m_plumb K S a))
theorem cf_X0_above : CFv yX0_above RX0 cX0_above 1 (some .int) 0 := ⟨wC_X0_above, wI_X0_above, wV_X0_X0_above, wN_X0, by decide +kernel⟩
set_option maxHeartbeats 4000000 in
set_option maxRecDepth 100000 in
theorem c_above {l : Launch} {E : EV} {K : Nat → Nat} {S : PS} (hW : WS K S) {a : Nat} (haL : a ∈ sL S) (haK : sK S a = 0) : CT l yX0_above cX0_above 1 (some .int) 3 64 0 0 E [.ref a] S (pv (.int (m_above K S a)) S) := by
  refine CT.of (by decide) (Nat.le_of_ble_eq_true rfl) ?_
  intro p e s m below meth c M hin
  have M : MC E p s m _ meth c cX0_above RX0 1 (some .int) := M
  show J p l e _ s m _ below meth c _ E 1 0 [(0, .ref a)] [] S 0 0
  refine j_aload_n M dX0_above_0 rfl ?_
  refine j_get (v := .int (sI S 11 a)) M haL (pAt_0 E _ haK) rfl inU_X0 11 (by decide) wF_X0_68 (fun _ h => h) rfl dX0_above_1 ?_
  refine j_aload_n M dX0_above_4 rfl ?_
  refine j_get (v := .ref (K 2)) M haL (pAt_0 E _ haK) rfl inU_X0 0 (by decide) wF_X0_34 (fun _ h => h) (rfv (hW.r0 ⟨haL, haK⟩)) dX0_above_5 ?_
  refine j_aload_n M dX0_above_8 rfl ?_
  refine j_callV1 (As := []) M cf_X0_plumb wM_X0_107 (c_plumb hW haL haK) haL (pAt_0 E _ haK) rfl rfl ⟨Nat.le_of_ble_eq_true rfl, Nat.le_of_ble_eq_true rfl⟩ (Nat.le_of_ble_eq_true rfl) ⟨Nat.zero_le _, Nat.zero_le _⟩ dX0_above_9 rfl ?_
  refine j_callV1 (As := [.int (m_plumb K S a)]) M cf_X1_levelOf wM_X0_111 (c_levelOf hW (m_plumb K S a)) hW.k2.1 (pAt_1 E _ hW.k2.2) rfl rfl ⟨Nat.le_of_ble_eq_true rfl, Nat.le_of_ble_eq_true rfl⟩ (Nat.le_of_ble_eq_true rfl) ⟨Nat.zero_le _, Nat.zero_le _⟩ dX0_above_12 rfl ?_
  refine j_isub M dX0_above_15 ?_
  exact j_iret (v := ((sI S 11 a) - (m_levelOf K S (m_plumb K S a)))) M dX0_above_16 (Nat.le_refl _) (Nat.le_refl _) ⟨congrArg (fun z => some (Value.int z)) (show ((sI S 11 a) - (m_levelOf K S (m_plumb K S a))) = m_above K S a from rfl), rfl⟩
def m_isCalm (K : Nat → Nat) (S : PS) (a : Nat) : Int32 :=
  if 1 < (sI S 12 a) then
    0
  else
    1
theorem cf_X0_isCalm : CFv yX0_isCalm RX0 cX0_isCalm 1 (some .boolean) 0 := ⟨wC_X0_isCalm, wI_X0_isCalm, wV_X0_X0_isCalm, wN_X0, by decide +kernel⟩
set_option maxHeartbeats 4000000 in
set_option maxRecDepth 100000 in
theorem c_isCalm {l : Launch} {E : EV} {K : Nat → Nat} {S : PS} (hW : WS K S) {a : Nat} (haL : a ∈ sL S) (haK : sK S a = 0) : CT l yX0_isCalm cX0_isCalm 1 (some .boolean) 0 0 0 0 E [.ref a] S (pv (.int (m_isCalm K S a)) S) := by
  refine CT.of (by decide) (Nat.le_of_ble_eq_true rfl) ?_
  intro p e s m below meth c M hin
  have M : MC E p s m _ meth c cX0_isCalm RX0 1 (some .boolean) := M
  show J p l e _ s m _ below meth c _ E 1 0 [(0, .ref a)] [] S 0 0
  refine j_aload_n M dX0_isCalm_0 rfl ?_
  refine j_get (v := .int (sI S 12 a)) M haL (pAt_0 E _ haK) rfl inU_X0 12 (by decide) wF_X0_21 (fun _ h => h) rfl dX0_isCalm_1 ?_
  refine j_iconst (v := 1) M dX0_isCalm_4 (by decide) ?_
  refine j_icmp_gt (tgt := 12) M dX0_isCalm_5 (by decide) (fun c1 => ?_) (fun c1 => ?_)
  · refine j_iconst (v := 0) M dX0_isCalm_12 (by decide) ?_
    exact j_zret (v := 0) M dX0_isCalm_13 (Nat.le_refl _) (Nat.le_refl _) rfl ⟨congrArg (fun z => some (Value.int z)) (show 0 = m_isCalm K S a from (by unfold m_isCalm; rw [if_pos c1])), rfl⟩
  · refine j_iconst (v := 1) M dX0_isCalm_8 (by decide) ?_
    refine j_goto (tgt := 13) M dX0_isCalm_9 (by decide) ?_
    exact j_zret (v := 1) M dX0_isCalm_13 (Nat.le_refl _) (Nat.le_refl _) rfl ⟨congrArg (fun z => some (Value.int z)) (show 1 = m_isCalm K S a from (by unfold m_isCalm; rw [if_neg c1])), rfl⟩
def m_isJustAbove (K : Nat → Nat) (S : PS) (a : Nat) : Int32 :=
  if (m_isCalm K S a) = 0 then
    0
  else
    if (m_above K S a) = 1 then
      1
    else
      0
theorem cf_X0_isJustAbove : CFv yX0_isJustAbove RX0 cX0_isJustAbove 1 (some .boolean) 0 := ⟨wC_X0_isJustAbove, wI_X0_isJustAbove, wV_X0_X0_isJustAbove, wN_X0, by decide +kernel⟩
set_option maxHeartbeats 4000000 in
set_option maxRecDepth 100000 in
theorem c_isJustAbove {l : Launch} {E : EV} {K : Nat → Nat} {S : PS} (hW : WS K S) {a : Nat} (haL : a ∈ sL S) (haK : sK S a = 0) : CT l yX0_isJustAbove cX0_isJustAbove 1 (some .boolean) 4 84 0 0 E [.ref a] S (pv (.int (m_isJustAbove K S a)) S) := by
  refine CT.of (by decide) (Nat.le_of_ble_eq_true rfl) ?_
  intro p e s m below meth c M hin
  have M : MC E p s m _ meth c cX0_isJustAbove RX0 1 (some .boolean) := M
  show J p l e _ s m _ below meth c _ E 1 0 [(0, .ref a)] [] S 0 0
  refine j_aload_n M dX0_isJustAbove_0 rfl ?_
  refine j_callV1 (As := []) M cf_X0_isCalm wM_X0_114 (c_isCalm hW haL haK) haL (pAt_0 E _ haK) rfl rfl ⟨Nat.le_of_ble_eq_true rfl, Nat.le_of_ble_eq_true rfl⟩ (Nat.le_of_ble_eq_true rfl) ⟨Nat.zero_le _, Nat.zero_le _⟩ dX0_isJustAbove_1 rfl ?_
  refine j_if_eq (tgt := 19) M dX0_isJustAbove_4 (by decide) (fun c1 => ?_) (fun c1 => ?_)
  · refine j_iconst (v := 0) M dX0_isJustAbove_19 (by decide) ?_
    exact j_zret (v := 0) M dX0_isJustAbove_20 (Nat.le_refl _) (Nat.le_refl _) rfl ⟨congrArg (fun z => some (Value.int z)) (show 0 = m_isJustAbove K S a from (by unfold m_isJustAbove; rw [if_pos c1])), rfl⟩
  · refine j_aload_n M dX0_isJustAbove_7 rfl ?_
    refine j_callV1 (As := []) M cf_X0_above wM_X0_118 (c_above hW haL haK) haL (pAt_0 E _ haK) rfl rfl ⟨Nat.le_of_ble_eq_true rfl, Nat.le_of_ble_eq_true rfl⟩ (Nat.le_of_ble_eq_true rfl) ⟨Nat.zero_le _, Nat.zero_le _⟩ dX0_isJustAbove_8 rfl ?_
    refine j_iconst (v := 1) M dX0_isJustAbove_11 (by decide) ?_
    refine j_icmp_ne (tgt := 19) M dX0_isJustAbove_12 (by decide) (fun c2 => ?_) (fun c2 => ?_)
    · refine j_iconst (v := 0) M dX0_isJustAbove_19 (by decide) ?_
      exact j_zret (v := 0) M dX0_isJustAbove_20 (Nat.le_refl _) (Nat.le_refl _) rfl ⟨congrArg (fun z => some (Value.int z)) (show 0 = m_isJustAbove K S a from (by unfold m_isJustAbove; rw [if_neg c1, if_neg c2])), rfl⟩
    · refine j_iconst (v := 1) M dX0_isJustAbove_15 (by decide) ?_
      refine j_goto (tgt := 20) M dX0_isJustAbove_16 (by decide) ?_
      exact j_zret (v := 1) M dX0_isJustAbove_20 (Nat.le_refl _) (Nat.le_refl _) rfl ⟨congrArg (fun z => some (Value.int z)) (show 1 = m_isJustAbove K S a from (by unfold m_isJustAbove; rw [if_neg c1, if_pos c2])), rfl⟩
def m_isPossible (K : Nat → Nat) (S : PS) (a : Nat) : Int32 :=
  if (sI S 10 a) < 1 then
    0
  else
    if (sI S 9 a) < (sI S 10 a) then
      0
    else
      if ((sI S 5 a) - 1) < (sI S 11 a) then
        0
      else
        1
theorem cf_X0_isPossible : CFv yX0_isPossible RX0 cX0_isPossible 1 (some .boolean) 0 := ⟨wC_X0_isPossible, wI_X0_isPossible, wV_X0_X0_isPossible, wN_X0, by decide +kernel⟩
set_option maxHeartbeats 4000000 in
set_option maxRecDepth 100000 in
theorem c_isPossible {l : Launch} {E : EV} {K : Nat → Nat} {S : PS} (hW : WS K S) {a : Nat} (haL : a ∈ sL S) (haK : sK S a = 0) : CT l yX0_isPossible cX0_isPossible 1 (some .boolean) 0 0 0 0 E [.ref a] S (pv (.int (m_isPossible K S a)) S) := by
  refine CT.of (by decide) (Nat.le_of_ble_eq_true rfl) ?_
  intro p e s m below meth c M hin
  have M : MC E p s m _ meth c cX0_isPossible RX0 1 (some .boolean) := M
  show J p l e _ s m _ below meth c _ E 1 0 [(0, .ref a)] [] S 0 0
  refine j_aload_n M dX0_isPossible_0 rfl ?_
  refine j_get (v := .int (sI S 10 a)) M haL (pAt_0 E _ haK) rfl inU_X0 10 (by decide) wF_X0_18 (fun _ h => h) rfl dX0_isPossible_1 ?_
  refine j_iconst (v := 1) M dX0_isPossible_4 (by decide) ?_
  refine j_icmp_lt (tgt := 36) M dX0_isPossible_5 (by decide) (fun c1 => ?_) (fun c1 => ?_)
  · refine j_iconst (v := 0) M dX0_isPossible_36 (by decide) ?_
    exact j_zret (v := 0) M dX0_isPossible_37 (Nat.le_refl _) (Nat.le_refl _) rfl ⟨congrArg (fun z => some (Value.int z)) (show 0 = m_isPossible K S a from (by unfold m_isPossible; rw [if_pos c1])), rfl⟩
  · refine j_aload_n M dX0_isPossible_8 rfl ?_
    refine j_get (v := .int (sI S 10 a)) M haL (pAt_0 E _ haK) rfl inU_X0 10 (by decide) wF_X0_18 (fun _ h => h) rfl dX0_isPossible_9 ?_
    refine j_aload_n M dX0_isPossible_12 rfl ?_
    refine j_get (v := .int (sI S 9 a)) M haL (pAt_0 E _ haK) rfl inU_X0 9 (by decide) wF_X0_15 (fun _ h => h) rfl dX0_isPossible_13 ?_
    refine j_icmp_gt (tgt := 36) M dX0_isPossible_16 (by decide) (fun c2 => ?_) (fun c2 => ?_)
    · refine j_iconst (v := 0) M dX0_isPossible_36 (by decide) ?_
      exact j_zret (v := 0) M dX0_isPossible_37 (Nat.le_refl _) (Nat.le_refl _) rfl ⟨congrArg (fun z => some (Value.int z)) (show 0 = m_isPossible K S a from (by unfold m_isPossible; rw [if_neg c1, if_pos c2])), rfl⟩
    · refine j_aload_n M dX0_isPossible_19 rfl ?_
      refine j_get (v := .int (sI S 11 a)) M haL (pAt_0 E _ haK) rfl inU_X0 11 (by decide) wF_X0_68 (fun _ h => h) rfl dX0_isPossible_20 ?_
      refine j_aload_n M dX0_isPossible_23 rfl ?_
      refine j_get (v := .int (sI S 5 a)) M haL (pAt_0 E _ haK) rfl inU_X0 5 (by decide) wF_X0_59 (fun _ h => h) rfl dX0_isPossible_24 ?_
      refine j_iconst (v := 1) M dX0_isPossible_27 (by decide) ?_
      refine j_isub M dX0_isPossible_28 ?_
      refine j_icmp_gt (tgt := 36) M dX0_isPossible_29 (by decide) (fun c3 => ?_) (fun c3 => ?_)
      · refine j_iconst (v := 0) M dX0_isPossible_36 (by decide) ?_
        exact j_zret (v := 0) M dX0_isPossible_37 (Nat.le_refl _) (Nat.le_refl _) rfl ⟨congrArg (fun z => some (Value.int z)) (show 0 = m_isPossible K S a from (by unfold m_isPossible; rw [if_neg c1, if_neg c2, if_pos c3])), rfl⟩
      · refine j_iconst (v := 1) M dX0_isPossible_32 (by decide) ?_
        refine j_goto (tgt := 37) M dX0_isPossible_33 (by decide) ?_
        exact j_zret (v := 1) M dX0_isPossible_37 (Nat.le_refl _) (Nat.le_refl _) rfl ⟨congrArg (fun z => some (Value.int z)) (show 1 = m_isPossible K S a from (by unfold m_isPossible; rw [if_neg c1, if_neg c2, if_neg c3])), rfl⟩
def m_canMeet (K : Nat → Nat) (S : PS) (a : Nat) (b : Nat) : Int32 :=
  if 2 < (imax (iabs ((m_rowAt K S a (sI S 10 a)) - (m_rowAt K S b (sI S 10 b)))) (iabs ((m_columnAt K S a (sI S 10 a)) - (m_columnAt K S b (sI S 10 b))))) then
    0
  else
    if 2 < (iabs ((sI S 11 a) - (sI S 11 b))) then
      0
    else
      if (m_isCalm K S a) = 0 then
        0
      else
        if (m_isCalm K S b) = 0 then
          0
        else
          1
theorem cf_X0_canMeet : CFv yX0_canMeet RX0 cX0_canMeet 4 (some .boolean) 1 := ⟨wC_X0_canMeet, wI_X0_canMeet, wV_X0_X0_canMeet, wN_X0, by decide +kernel⟩
set_option maxHeartbeats 4000000 in
set_option maxRecDepth 100000 in
theorem c_canMeet {l : Launch} {E : EV} {K : Nat → Nat} {S : PS} (hW : WS K S) {a : Nat} (haL : a ∈ sL S) (haK : sK S a = 0) {b : Nat} (hbL : b ∈ sL S) (hbK : sK S b = 0) : CT l yX0_canMeet cX0_canMeet 4 (some .boolean) 1 21 0 0 E [.ref a, .ref b] S (pv (.int (m_canMeet K S a b)) S) := by
  refine CT.of (by decide) (Nat.le_of_ble_eq_true rfl) ?_
  intro p e s m below meth c M hin
  have M : MC E p s m _ meth c cX0_canMeet RX0 4 (some .boolean) := M
  show J p l e _ s m _ below meth c _ E 4 0 [(0, .ref a), (1, .ref b)] [] S 0 0
  refine j_aload_n M dX0_canMeet_0 rfl ?_
  refine j_aload_n M dX0_canMeet_1 rfl ?_
  refine j_get (v := .int (sI S 10 a)) M haL (pAt_0 E _ haK) rfl inU_X0 10 (by decide) wF_X0_18 (fun _ h => h) rfl dX0_canMeet_2 ?_
  refine j_callV1 (As := [.int (sI S 10 a)]) M cf_X0_rowAt wM_X0_71 (c_rowAt hW haL haK (sI S 10 a)) haL (pAt_0 E _ haK) rfl rfl ⟨Nat.le_of_ble_eq_true rfl, Nat.le_of_ble_eq_true rfl⟩ (Nat.le_of_ble_eq_true rfl) ⟨Nat.zero_le _, Nat.zero_le _⟩ dX0_canMeet_5 rfl ?_
  refine j_aload_n M dX0_canMeet_8 rfl ?_
  refine j_aload_n M dX0_canMeet_9 rfl ?_
  refine j_get (v := .int (sI S 10 b)) M hbL (pAt_0 E _ hbK) rfl inU_X0 10 (by decide) wF_X0_18 (fun _ h => h) rfl dX0_canMeet_10 ?_
  refine j_callV1 (As := [.int (sI S 10 b)]) M cf_X0_rowAt wM_X0_71 (c_rowAt hW hbL hbK (sI S 10 b)) hbL (pAt_0 E _ hbK) rfl rfl ⟨Nat.le_of_ble_eq_true rfl, Nat.le_of_ble_eq_true rfl⟩ (Nat.le_of_ble_eq_true rfl) ⟨Nat.zero_le _, Nat.zero_le _⟩ dX0_canMeet_13 rfl ?_
  refine j_isub M dX0_canMeet_16 ?_
  refine j_abs M wM_X0_121 dX0_canMeet_17 (Nat.le_of_ble_eq_true rfl) (Nat.le_of_ble_eq_true rfl) ⟨Nat.zero_le _, Nat.zero_le _⟩ ?_
  refine j_istore_n (lv' := [(2, .int (iabs ((m_rowAt K S a (sI S 10 a)) - (m_rowAt K S b (sI S 10 b))))), (0, .ref a), (1, .ref b)]) M dX0_canMeet_20 rfl (by decide) rfl ?_
  refine j_aload_n M dX0_canMeet_21 rfl ?_
  refine j_aload_n M dX0_canMeet_22 rfl ?_
  refine j_get (v := .int (sI S 10 a)) M haL (pAt_0 E _ haK) rfl inU_X0 10 (by decide) wF_X0_18 (fun _ h => h) rfl dX0_canMeet_23 ?_
  refine j_callV1 (As := [.int (sI S 10 a)]) M cf_X0_columnAt wM_X0_74 (c_columnAt hW haL haK (sI S 10 a)) haL (pAt_0 E _ haK) rfl rfl ⟨Nat.le_of_ble_eq_true rfl, Nat.le_of_ble_eq_true rfl⟩ (Nat.le_of_ble_eq_true rfl) ⟨Nat.zero_le _, Nat.zero_le _⟩ dX0_canMeet_26 rfl ?_
  refine j_aload_n M dX0_canMeet_29 rfl ?_
  refine j_aload_n M dX0_canMeet_30 rfl ?_
  refine j_get (v := .int (sI S 10 b)) M hbL (pAt_0 E _ hbK) rfl inU_X0 10 (by decide) wF_X0_18 (fun _ h => h) rfl dX0_canMeet_31 ?_
  refine j_callV1 (As := [.int (sI S 10 b)]) M cf_X0_columnAt wM_X0_74 (c_columnAt hW hbL hbK (sI S 10 b)) hbL (pAt_0 E _ hbK) rfl rfl ⟨Nat.le_of_ble_eq_true rfl, Nat.le_of_ble_eq_true rfl⟩ (Nat.le_of_ble_eq_true rfl) ⟨Nat.zero_le _, Nat.zero_le _⟩ dX0_canMeet_34 rfl ?_
  refine j_isub M dX0_canMeet_37 ?_
  refine j_abs M wM_X0_121 dX0_canMeet_38 (Nat.le_of_ble_eq_true rfl) (Nat.le_of_ble_eq_true rfl) ⟨Nat.zero_le _, Nat.zero_le _⟩ ?_
  refine j_istore_n (lv' := [(3, .int (iabs ((m_columnAt K S a (sI S 10 a)) - (m_columnAt K S b (sI S 10 b))))), (2, .int (iabs ((m_rowAt K S a (sI S 10 a)) - (m_rowAt K S b (sI S 10 b))))), (0, .ref a), (1, .ref b)]) M dX0_canMeet_41 rfl (by decide) rfl ?_
  refine j_iload_n M dX0_canMeet_42 rfl ?_
  refine j_iload_n M dX0_canMeet_43 rfl ?_
  refine j_max M wM_X0_94 dX0_canMeet_44 (Nat.le_of_ble_eq_true rfl) (Nat.le_of_ble_eq_true rfl) ⟨Nat.zero_le _, Nat.zero_le _⟩ ?_
  refine j_iconst (v := 2) M dX0_canMeet_47 (by decide) ?_
  refine j_icmp_gt (tgt := 85) M dX0_canMeet_48 (by decide) (fun c1 => ?_) (fun c1 => ?_)
  · refine j_iconst (v := 0) M dX0_canMeet_85 (by decide) ?_
    exact j_zret (v := 0) M dX0_canMeet_86 (Nat.le_refl _) (Nat.le_refl _) rfl ⟨congrArg (fun z => some (Value.int z)) (show 0 = m_canMeet K S a b from (by unfold m_canMeet; rw [if_pos c1])), rfl⟩
  · refine j_aload_n M dX0_canMeet_51 rfl ?_
    refine j_get (v := .int (sI S 11 a)) M haL (pAt_0 E _ haK) rfl inU_X0 11 (by decide) wF_X0_68 (fun _ h => h) rfl dX0_canMeet_52 ?_
    refine j_aload_n M dX0_canMeet_55 rfl ?_
    refine j_get (v := .int (sI S 11 b)) M hbL (pAt_0 E _ hbK) rfl inU_X0 11 (by decide) wF_X0_68 (fun _ h => h) rfl dX0_canMeet_56 ?_
    refine j_isub M dX0_canMeet_59 ?_
    refine j_abs M wM_X0_121 dX0_canMeet_60 (Nat.le_of_ble_eq_true rfl) (Nat.le_of_ble_eq_true rfl) ⟨Nat.zero_le _, Nat.zero_le _⟩ ?_
    refine j_iconst (v := 2) M dX0_canMeet_63 (by decide) ?_
    refine j_icmp_gt (tgt := 85) M dX0_canMeet_64 (by decide) (fun c2 => ?_) (fun c2 => ?_)
    · refine j_iconst (v := 0) M dX0_canMeet_85 (by decide) ?_
      exact j_zret (v := 0) M dX0_canMeet_86 (Nat.le_refl _) (Nat.le_refl _) rfl ⟨congrArg (fun z => some (Value.int z)) (show 0 = m_canMeet K S a b from (by unfold m_canMeet; rw [if_neg c1, if_pos c2])), rfl⟩
    · refine j_aload_n M dX0_canMeet_67 rfl ?_
      refine j_callV1 (As := []) M cf_X0_isCalm wM_X0_114 (c_isCalm hW haL haK) haL (pAt_0 E _ haK) rfl rfl ⟨Nat.le_of_ble_eq_true rfl, Nat.le_of_ble_eq_true rfl⟩ (Nat.le_of_ble_eq_true rfl) ⟨Nat.zero_le _, Nat.zero_le _⟩ dX0_canMeet_68 rfl ?_
      refine j_if_eq (tgt := 85) M dX0_canMeet_71 (by decide) (fun c3 => ?_) (fun c3 => ?_)
      · refine j_iconst (v := 0) M dX0_canMeet_85 (by decide) ?_
        exact j_zret (v := 0) M dX0_canMeet_86 (Nat.le_refl _) (Nat.le_refl _) rfl ⟨congrArg (fun z => some (Value.int z)) (show 0 = m_canMeet K S a b from (by unfold m_canMeet; rw [if_neg c1, if_neg c2, if_pos c3])), rfl⟩
      · refine j_aload_n M dX0_canMeet_74 rfl ?_
        refine j_callV1 (As := []) M cf_X0_isCalm wM_X0_114 (c_isCalm hW hbL hbK) hbL (pAt_0 E _ hbK) rfl rfl ⟨Nat.le_of_ble_eq_true rfl, Nat.le_of_ble_eq_true rfl⟩ (Nat.le_of_ble_eq_true rfl) ⟨Nat.zero_le _, Nat.zero_le _⟩ dX0_canMeet_75 rfl ?_
        refine j_if_eq (tgt := 85) M dX0_canMeet_78 (by decide) (fun c4 => ?_) (fun c4 => ?_)
        · refine j_iconst (v := 0) M dX0_canMeet_85 (by decide) ?_
          exact j_zret (v := 0) M dX0_canMeet_86 (Nat.le_refl _) (Nat.le_refl _) rfl ⟨congrArg (fun z => some (Value.int z)) (show 0 = m_canMeet K S a b from (by unfold m_canMeet; rw [if_neg c1, if_neg c2, if_neg c3, if_pos c4])), rfl⟩
        · refine j_iconst (v := 1) M dX0_canMeet_81 (by decide) ?_
          refine j_goto (tgt := 86) M dX0_canMeet_82 (by decide) ?_
          exact j_zret (v := 1) M dX0_canMeet_86 (Nat.le_refl _) (Nat.le_refl _) rfl ⟨congrArg (fun z => some (Value.int z)) (show 1 = m_canMeet K S a b from (by unfold m_canMeet; rw [if_neg c1, if_neg c2, if_neg c3, if_neg c4])), rfl⟩
def m_weight (K : Nat → Nat) (S : PS) (a : Nat) : Int32 :=
  (sI S 5 a) + (sI S 6 a)
theorem cf_X0_weight : CFv yX0_weight RX0 cX0_weight 1 (some .int) 0 := ⟨wC_X0_weight, wI_X0_weight, wV_X0_X0_weight, wN_X0, by decide +kernel⟩
set_option maxHeartbeats 4000000 in
set_option maxRecDepth 100000 in
theorem c_weight {l : Launch} {E : EV} {K : Nat → Nat} {S : PS} (hW : WS K S) {a : Nat} (haL : a ∈ sL S) (haK : sK S a = 0) : CT l yX0_weight cX0_weight 1 (some .int) 0 0 0 0 E [.ref a] S (pv (.int (m_weight K S a)) S) := by
  refine CT.of (by decide) (Nat.le_of_ble_eq_true rfl) ?_
  intro p e s m below meth c M hin
  have M : MC E p s m _ meth c cX0_weight RX0 1 (some .int) := M
  show J p l e _ s m _ below meth c _ E 1 0 [(0, .ref a)] [] S 0 0
  refine j_aload_n M dX0_weight_0 rfl ?_
  refine j_get (v := .int (sI S 5 a)) M haL (pAt_0 E _ haK) rfl inU_X0 5 (by decide) wF_X0_59 (fun _ h => h) rfl dX0_weight_1 ?_
  refine j_aload_n M dX0_weight_4 rfl ?_
  refine j_get (v := .int (sI S 6 a)) M haL (pAt_0 E _ haK) rfl inU_X0 6 (by decide) wF_X0_62 (fun _ h => h) rfl dX0_weight_5 ?_
  refine j_iadd M dX0_weight_8 ?_
  exact j_iret (v := ((sI S 5 a) + (sI S 6 a))) M dX0_weight_9 (Nat.le_refl _) (Nat.le_refl _) ⟨congrArg (fun z => some (Value.int z)) (show ((sI S 5 a) + (sI S 6 a)) = m_weight K S a from rfl), rfl⟩
def m_apartFromJib (K : Nat → Nat) (S : PS) (a : Nat) (r : Int32) (q : Int32) : Int32 :=
  if (rwV ((sI S 8 a) &&& 7).toNatClampNeg) = 0 then
    imax (iabs ((r - (sI S 3 a)) - ((imax 0 (imin (((r - (sI S 3 a)) * (rwV ((sI S 8 a) &&& 7).toNatClampNeg)) + ((q - (sI S 4 a)) * (clV ((sI S 8 a) &&& 7).toNatClampNeg))) (sI S 9 a))) * (rwV ((sI S 8 a) &&& 7).toNatClampNeg)))) (iabs ((q - (sI S 4 a)) - ((imax 0 (imin (((r - (sI S 3 a)) * (rwV ((sI S 8 a) &&& 7).toNatClampNeg)) + ((q - (sI S 4 a)) * (clV ((sI S 8 a) &&& 7).toNatClampNeg))) (sI S 9 a))) * (clV ((sI S 8 a) &&& 7).toNatClampNeg))))
  else
    if (clV ((sI S 8 a) &&& 7).toNatClampNeg) = 0 then
      imax (iabs ((r - (sI S 3 a)) - ((imax 0 (imin (((r - (sI S 3 a)) * (rwV ((sI S 8 a) &&& 7).toNatClampNeg)) + ((q - (sI S 4 a)) * (clV ((sI S 8 a) &&& 7).toNatClampNeg))) (sI S 9 a))) * (rwV ((sI S 8 a) &&& 7).toNatClampNeg)))) (iabs ((q - (sI S 4 a)) - ((imax 0 (imin (((r - (sI S 3 a)) * (rwV ((sI S 8 a) &&& 7).toNatClampNeg)) + ((q - (sI S 4 a)) * (clV ((sI S 8 a) &&& 7).toNatClampNeg))) (sI S 9 a))) * (clV ((sI S 8 a) &&& 7).toNatClampNeg))))
    else
      imax (iabs ((r - (sI S 3 a)) - ((imax 0 (imin ((((r - (sI S 3 a)) * (rwV ((sI S 8 a) &&& 7).toNatClampNeg)) + ((q - (sI S 4 a)) * (clV ((sI S 8 a) &&& 7).toNatClampNeg))) >>> (1 &&& 31)) (sI S 9 a))) * (rwV ((sI S 8 a) &&& 7).toNatClampNeg)))) (iabs ((q - (sI S 4 a)) - ((imax 0 (imin ((((r - (sI S 3 a)) * (rwV ((sI S 8 a) &&& 7).toNatClampNeg)) + ((q - (sI S 4 a)) * (clV ((sI S 8 a) &&& 7).toNatClampNeg))) >>> (1 &&& 31)) (sI S 9 a))) * (clV ((sI S 8 a) &&& 7).toNatClampNeg))))
theorem cf_X0_apartFromJib : CFv yX0_apartFromJib RX0 cX0_apartFromJib 8 (some .int) 2 := ⟨wC_X0_apartFromJib, wI_X0_apartFromJib, wV_X0_X0_apartFromJib, wN_X0, by decide +kernel⟩
set_option maxHeartbeats 4000000 in
set_option maxRecDepth 100000 in
theorem c_apartFromJib {l : Launch} {E : EV} {K : Nat → Nat} {S : PS} (hW : WS K S) {a : Nat} (haL : a ∈ sL S) (haK : sK S a = 0) (r : Int32) (q : Int32) : CT l yX0_apartFromJib cX0_apartFromJib 8 (some .int) 1 14 0 0 E [.ref a, .int r, .int q] S (pv (.int (m_apartFromJib K S a r q)) S) := by
  refine CT.of (by decide) (Nat.le_of_ble_eq_true rfl) ?_
  intro p e s m below meth c M hin
  have M : MC E p s m _ meth c cX0_apartFromJib RX0 8 (some .int) := M
  show J p l e _ s m _ below meth c _ E 8 0 [(0, .ref a), (1, .int r), (2, .int q)] [] S 0 0
  refine j_row M nF_X0_97 dX0_apartFromJib_0 ?_
  refine j_aload_n M dX0_apartFromJib_3 rfl ?_
  refine j_get (v := .int (sI S 8 a)) M haL (pAt_0 E _ haK) rfl inU_X0 8 (by decide) wF_X0_9 (fun _ h => h) rfl dX0_apartFromJib_4 ?_
  refine j_bipush (v := 7) M dX0_apartFromJib_7 (by decide) ?_
  refine j_iand M dX0_apartFromJib_9 ?_
  refine j_rowi M (and7_in _) dX0_apartFromJib_10 ?_
  refine j_istore_n (lv' := [(3, .int (rwV ((sI S 8 a) &&& 7).toNatClampNeg)), (0, .ref a), (1, .int r), (2, .int q)]) M dX0_apartFromJib_11 rfl (by decide) rfl ?_
  refine j_col M nF_X0_101 dX0_apartFromJib_12 ?_
  refine j_aload_n M dX0_apartFromJib_15 rfl ?_
  refine j_get (v := .int (sI S 8 a)) M haL (pAt_0 E _ haK) rfl inU_X0 8 (by decide) wF_X0_9 (fun _ h => h) rfl dX0_apartFromJib_16 ?_
  refine j_bipush (v := 7) M dX0_apartFromJib_19 (by decide) ?_
  refine j_iand M dX0_apartFromJib_21 ?_
  refine j_coli M (and7_in _) dX0_apartFromJib_22 ?_
  refine j_istore (lv' := [(4, .int (clV ((sI S 8 a) &&& 7).toNatClampNeg)), (3, .int (rwV ((sI S 8 a) &&& 7).toNatClampNeg)), (0, .ref a), (1, .int r), (2, .int q)]) M dX0_apartFromJib_23 (by decide) rfl ?_
  refine j_iload_n M dX0_apartFromJib_25 rfl ?_
  refine j_aload_n M dX0_apartFromJib_26 rfl ?_
  refine j_get (v := .int (sI S 3 a)) M haL (pAt_0 E _ haK) rfl inU_X0 3 (by decide) wF_X0_50 (fun _ h => h) rfl dX0_apartFromJib_27 ?_
  refine j_isub M dX0_apartFromJib_30 ?_
  refine j_istore (lv' := [(5, .int (r - (sI S 3 a))), (4, .int (clV ((sI S 8 a) &&& 7).toNatClampNeg)), (3, .int (rwV ((sI S 8 a) &&& 7).toNatClampNeg)), (0, .ref a), (1, .int r), (2, .int q)]) M dX0_apartFromJib_31 (by decide) rfl ?_
  refine j_iload_n M dX0_apartFromJib_33 rfl ?_
  refine j_aload_n M dX0_apartFromJib_34 rfl ?_
  refine j_get (v := .int (sI S 4 a)) M haL (pAt_0 E _ haK) rfl inU_X0 4 (by decide) wF_X0_56 (fun _ h => h) rfl dX0_apartFromJib_35 ?_
  refine j_isub M dX0_apartFromJib_38 ?_
  refine j_istore (lv' := [(6, .int (q - (sI S 4 a))), (5, .int (r - (sI S 3 a))), (4, .int (clV ((sI S 8 a) &&& 7).toNatClampNeg)), (3, .int (rwV ((sI S 8 a) &&& 7).toNatClampNeg)), (0, .ref a), (1, .int r), (2, .int q)]) M dX0_apartFromJib_39 (by decide) rfl ?_
  refine j_iload M dX0_apartFromJib_41 rfl ?_
  refine j_iload_n M dX0_apartFromJib_43 rfl ?_
  refine j_imul M dX0_apartFromJib_44 ?_
  refine j_iload M dX0_apartFromJib_45 rfl ?_
  refine j_iload M dX0_apartFromJib_47 rfl ?_
  refine j_imul M dX0_apartFromJib_49 ?_
  refine j_iadd M dX0_apartFromJib_50 ?_
  refine j_istore (lv' := [(7, .int (((r - (sI S 3 a)) * (rwV ((sI S 8 a) &&& 7).toNatClampNeg)) + ((q - (sI S 4 a)) * (clV ((sI S 8 a) &&& 7).toNatClampNeg)))), (6, .int (q - (sI S 4 a))), (5, .int (r - (sI S 3 a))), (4, .int (clV ((sI S 8 a) &&& 7).toNatClampNeg)), (3, .int (rwV ((sI S 8 a) &&& 7).toNatClampNeg)), (0, .ref a), (1, .int r), (2, .int q)]) M dX0_apartFromJib_51 (by decide) rfl ?_
  refine j_iload_n M dX0_apartFromJib_53 rfl ?_
  refine j_if_eq (tgt := 68) M dX0_apartFromJib_54 (by decide) (fun c1 => ?_) (fun c1 => ?_)
  · refine j_iconst (v := 0) M dX0_apartFromJib_68 (by decide) ?_
    refine j_iload M dX0_apartFromJib_69 rfl ?_
    refine j_aload_n M dX0_apartFromJib_71 rfl ?_
    refine j_get (v := .int (sI S 9 a)) M haL (pAt_0 E _ haK) rfl inU_X0 9 (by decide) wF_X0_15 (fun _ h => h) rfl dX0_apartFromJib_72 ?_
    refine j_min M wM_X0_85 dX0_apartFromJib_75 (Nat.le_of_ble_eq_true rfl) (Nat.le_of_ble_eq_true rfl) ⟨Nat.zero_le _, Nat.zero_le _⟩ ?_
    refine j_max M wM_X0_94 dX0_apartFromJib_78 (Nat.le_of_ble_eq_true rfl) (Nat.le_of_ble_eq_true rfl) ⟨Nat.zero_le _, Nat.zero_le _⟩ ?_
    refine j_istore (lv' := [(7, .int (imax 0 (imin (((r - (sI S 3 a)) * (rwV ((sI S 8 a) &&& 7).toNatClampNeg)) + ((q - (sI S 4 a)) * (clV ((sI S 8 a) &&& 7).toNatClampNeg))) (sI S 9 a)))), (6, .int (q - (sI S 4 a))), (5, .int (r - (sI S 3 a))), (4, .int (clV ((sI S 8 a) &&& 7).toNatClampNeg)), (3, .int (rwV ((sI S 8 a) &&& 7).toNatClampNeg)), (0, .ref a), (1, .int r), (2, .int q)]) M dX0_apartFromJib_81 (by decide) rfl ?_
    refine j_iload M dX0_apartFromJib_83 rfl ?_
    refine j_iload M dX0_apartFromJib_85 rfl ?_
    refine j_iload_n M dX0_apartFromJib_87 rfl ?_
    refine j_imul M dX0_apartFromJib_88 ?_
    refine j_isub M dX0_apartFromJib_89 ?_
    refine j_abs M wM_X0_121 dX0_apartFromJib_90 (Nat.le_of_ble_eq_true rfl) (Nat.le_of_ble_eq_true rfl) ⟨Nat.zero_le _, Nat.zero_le _⟩ ?_
    refine j_iload M dX0_apartFromJib_93 rfl ?_
    refine j_iload M dX0_apartFromJib_95 rfl ?_
    refine j_iload M dX0_apartFromJib_97 rfl ?_
    refine j_imul M dX0_apartFromJib_99 ?_
    refine j_isub M dX0_apartFromJib_100 ?_
    refine j_abs M wM_X0_121 dX0_apartFromJib_101 (Nat.le_of_ble_eq_true rfl) (Nat.le_of_ble_eq_true rfl) ⟨Nat.zero_le _, Nat.zero_le _⟩ ?_
    refine j_max M wM_X0_94 dX0_apartFromJib_104 (Nat.le_of_ble_eq_true rfl) (Nat.le_of_ble_eq_true rfl) ⟨Nat.zero_le _, Nat.zero_le _⟩ ?_
    exact j_iret (v := (imax (iabs ((r - (sI S 3 a)) - ((imax 0 (imin (((r - (sI S 3 a)) * (rwV ((sI S 8 a) &&& 7).toNatClampNeg)) + ((q - (sI S 4 a)) * (clV ((sI S 8 a) &&& 7).toNatClampNeg))) (sI S 9 a))) * (rwV ((sI S 8 a) &&& 7).toNatClampNeg)))) (iabs ((q - (sI S 4 a)) - ((imax 0 (imin (((r - (sI S 3 a)) * (rwV ((sI S 8 a) &&& 7).toNatClampNeg)) + ((q - (sI S 4 a)) * (clV ((sI S 8 a) &&& 7).toNatClampNeg))) (sI S 9 a))) * (clV ((sI S 8 a) &&& 7).toNatClampNeg)))))) M dX0_apartFromJib_107 (Nat.le_refl _) (Nat.le_refl _) ⟨congrArg (fun z => some (Value.int z)) (show (imax (iabs ((r - (sI S 3 a)) - ((imax 0 (imin (((r - (sI S 3 a)) * (rwV ((sI S 8 a) &&& 7).toNatClampNeg)) + ((q - (sI S 4 a)) * (clV ((sI S 8 a) &&& 7).toNatClampNeg))) (sI S 9 a))) * (rwV ((sI S 8 a) &&& 7).toNatClampNeg)))) (iabs ((q - (sI S 4 a)) - ((imax 0 (imin (((r - (sI S 3 a)) * (rwV ((sI S 8 a) &&& 7).toNatClampNeg)) + ((q - (sI S 4 a)) * (clV ((sI S 8 a) &&& 7).toNatClampNeg))) (sI S 9 a))) * (clV ((sI S 8 a) &&& 7).toNatClampNeg))))) = m_apartFromJib K S a r q from (by unfold m_apartFromJib; rw [if_pos c1])), rfl⟩
  · refine j_iload M dX0_apartFromJib_57 rfl ?_
    refine j_if_eq (tgt := 68) M dX0_apartFromJib_59 (by decide) (fun c2 => ?_) (fun c2 => ?_)
    · refine j_iconst (v := 0) M dX0_apartFromJib_68 (by decide) ?_
      refine j_iload M dX0_apartFromJib_69 rfl ?_
      refine j_aload_n M dX0_apartFromJib_71 rfl ?_
      refine j_get (v := .int (sI S 9 a)) M haL (pAt_0 E _ haK) rfl inU_X0 9 (by decide) wF_X0_15 (fun _ h => h) rfl dX0_apartFromJib_72 ?_
      refine j_min M wM_X0_85 dX0_apartFromJib_75 (Nat.le_of_ble_eq_true rfl) (Nat.le_of_ble_eq_true rfl) ⟨Nat.zero_le _, Nat.zero_le _⟩ ?_
      refine j_max M wM_X0_94 dX0_apartFromJib_78 (Nat.le_of_ble_eq_true rfl) (Nat.le_of_ble_eq_true rfl) ⟨Nat.zero_le _, Nat.zero_le _⟩ ?_
      refine j_istore (lv' := [(7, .int (imax 0 (imin (((r - (sI S 3 a)) * (rwV ((sI S 8 a) &&& 7).toNatClampNeg)) + ((q - (sI S 4 a)) * (clV ((sI S 8 a) &&& 7).toNatClampNeg))) (sI S 9 a)))), (6, .int (q - (sI S 4 a))), (5, .int (r - (sI S 3 a))), (4, .int (clV ((sI S 8 a) &&& 7).toNatClampNeg)), (3, .int (rwV ((sI S 8 a) &&& 7).toNatClampNeg)), (0, .ref a), (1, .int r), (2, .int q)]) M dX0_apartFromJib_81 (by decide) rfl ?_
      refine j_iload M dX0_apartFromJib_83 rfl ?_
      refine j_iload M dX0_apartFromJib_85 rfl ?_
      refine j_iload_n M dX0_apartFromJib_87 rfl ?_
      refine j_imul M dX0_apartFromJib_88 ?_
      refine j_isub M dX0_apartFromJib_89 ?_
      refine j_abs M wM_X0_121 dX0_apartFromJib_90 (Nat.le_of_ble_eq_true rfl) (Nat.le_of_ble_eq_true rfl) ⟨Nat.zero_le _, Nat.zero_le _⟩ ?_
      refine j_iload M dX0_apartFromJib_93 rfl ?_
      refine j_iload M dX0_apartFromJib_95 rfl ?_
      refine j_iload M dX0_apartFromJib_97 rfl ?_
      refine j_imul M dX0_apartFromJib_99 ?_
      refine j_isub M dX0_apartFromJib_100 ?_
      refine j_abs M wM_X0_121 dX0_apartFromJib_101 (Nat.le_of_ble_eq_true rfl) (Nat.le_of_ble_eq_true rfl) ⟨Nat.zero_le _, Nat.zero_le _⟩ ?_
      refine j_max M wM_X0_94 dX0_apartFromJib_104 (Nat.le_of_ble_eq_true rfl) (Nat.le_of_ble_eq_true rfl) ⟨Nat.zero_le _, Nat.zero_le _⟩ ?_
      exact j_iret (v := (imax (iabs ((r - (sI S 3 a)) - ((imax 0 (imin (((r - (sI S 3 a)) * (rwV ((sI S 8 a) &&& 7).toNatClampNeg)) + ((q - (sI S 4 a)) * (clV ((sI S 8 a) &&& 7).toNatClampNeg))) (sI S 9 a))) * (rwV ((sI S 8 a) &&& 7).toNatClampNeg)))) (iabs ((q - (sI S 4 a)) - ((imax 0 (imin (((r - (sI S 3 a)) * (rwV ((sI S 8 a) &&& 7).toNatClampNeg)) + ((q - (sI S 4 a)) * (clV ((sI S 8 a) &&& 7).toNatClampNeg))) (sI S 9 a))) * (clV ((sI S 8 a) &&& 7).toNatClampNeg)))))) M dX0_apartFromJib_107 (Nat.le_refl _) (Nat.le_refl _) ⟨congrArg (fun z => some (Value.int z)) (show (imax (iabs ((r - (sI S 3 a)) - ((imax 0 (imin (((r - (sI S 3 a)) * (rwV ((sI S 8 a) &&& 7).toNatClampNeg)) + ((q - (sI S 4 a)) * (clV ((sI S 8 a) &&& 7).toNatClampNeg))) (sI S 9 a))) * (rwV ((sI S 8 a) &&& 7).toNatClampNeg)))) (iabs ((q - (sI S 4 a)) - ((imax 0 (imin (((r - (sI S 3 a)) * (rwV ((sI S 8 a) &&& 7).toNatClampNeg)) + ((q - (sI S 4 a)) * (clV ((sI S 8 a) &&& 7).toNatClampNeg))) (sI S 9 a))) * (clV ((sI S 8 a) &&& 7).toNatClampNeg))))) = m_apartFromJib K S a r q from (by unfold m_apartFromJib; rw [if_neg c1, if_pos c2])), rfl⟩
    · refine j_iload M dX0_apartFromJib_62 rfl ?_
      refine j_iconst (v := 1) M dX0_apartFromJib_64 (by decide) ?_
      refine j_ishr M dX0_apartFromJib_65 ?_
      refine j_istore (lv' := [(7, .int ((((r - (sI S 3 a)) * (rwV ((sI S 8 a) &&& 7).toNatClampNeg)) + ((q - (sI S 4 a)) * (clV ((sI S 8 a) &&& 7).toNatClampNeg))) >>> (1 &&& 31))), (6, .int (q - (sI S 4 a))), (5, .int (r - (sI S 3 a))), (4, .int (clV ((sI S 8 a) &&& 7).toNatClampNeg)), (3, .int (rwV ((sI S 8 a) &&& 7).toNatClampNeg)), (0, .ref a), (1, .int r), (2, .int q)]) M dX0_apartFromJib_66 (by decide) rfl ?_
      refine j_iconst (v := 0) M dX0_apartFromJib_68 (by decide) ?_
      refine j_iload M dX0_apartFromJib_69 rfl ?_
      refine j_aload_n M dX0_apartFromJib_71 rfl ?_
      refine j_get (v := .int (sI S 9 a)) M haL (pAt_0 E _ haK) rfl inU_X0 9 (by decide) wF_X0_15 (fun _ h => h) rfl dX0_apartFromJib_72 ?_
      refine j_min M wM_X0_85 dX0_apartFromJib_75 (Nat.le_of_ble_eq_true rfl) (Nat.le_of_ble_eq_true rfl) ⟨Nat.zero_le _, Nat.zero_le _⟩ ?_
      refine j_max M wM_X0_94 dX0_apartFromJib_78 (Nat.le_of_ble_eq_true rfl) (Nat.le_of_ble_eq_true rfl) ⟨Nat.zero_le _, Nat.zero_le _⟩ ?_
      refine j_istore (lv' := [(7, .int (imax 0 (imin ((((r - (sI S 3 a)) * (rwV ((sI S 8 a) &&& 7).toNatClampNeg)) + ((q - (sI S 4 a)) * (clV ((sI S 8 a) &&& 7).toNatClampNeg))) >>> (1 &&& 31)) (sI S 9 a)))), (6, .int (q - (sI S 4 a))), (5, .int (r - (sI S 3 a))), (4, .int (clV ((sI S 8 a) &&& 7).toNatClampNeg)), (3, .int (rwV ((sI S 8 a) &&& 7).toNatClampNeg)), (0, .ref a), (1, .int r), (2, .int q)]) M dX0_apartFromJib_81 (by decide) rfl ?_
      refine j_iload M dX0_apartFromJib_83 rfl ?_
      refine j_iload M dX0_apartFromJib_85 rfl ?_
      refine j_iload_n M dX0_apartFromJib_87 rfl ?_
      refine j_imul M dX0_apartFromJib_88 ?_
      refine j_isub M dX0_apartFromJib_89 ?_
      refine j_abs M wM_X0_121 dX0_apartFromJib_90 (Nat.le_of_ble_eq_true rfl) (Nat.le_of_ble_eq_true rfl) ⟨Nat.zero_le _, Nat.zero_le _⟩ ?_
      refine j_iload M dX0_apartFromJib_93 rfl ?_
      refine j_iload M dX0_apartFromJib_95 rfl ?_
      refine j_iload M dX0_apartFromJib_97 rfl ?_
      refine j_imul M dX0_apartFromJib_99 ?_
      refine j_isub M dX0_apartFromJib_100 ?_
      refine j_abs M wM_X0_121 dX0_apartFromJib_101 (Nat.le_of_ble_eq_true rfl) (Nat.le_of_ble_eq_true rfl) ⟨Nat.zero_le _, Nat.zero_le _⟩ ?_
      refine j_max M wM_X0_94 dX0_apartFromJib_104 (Nat.le_of_ble_eq_true rfl) (Nat.le_of_ble_eq_true rfl) ⟨Nat.zero_le _, Nat.zero_le _⟩ ?_
      exact j_iret (v := (imax (iabs ((r - (sI S 3 a)) - ((imax 0 (imin ((((r - (sI S 3 a)) * (rwV ((sI S 8 a) &&& 7).toNatClampNeg)) + ((q - (sI S 4 a)) * (clV ((sI S 8 a) &&& 7).toNatClampNeg))) >>> (1 &&& 31)) (sI S 9 a))) * (rwV ((sI S 8 a) &&& 7).toNatClampNeg)))) (iabs ((q - (sI S 4 a)) - ((imax 0 (imin ((((r - (sI S 3 a)) * (rwV ((sI S 8 a) &&& 7).toNatClampNeg)) + ((q - (sI S 4 a)) * (clV ((sI S 8 a) &&& 7).toNatClampNeg))) >>> (1 &&& 31)) (sI S 9 a))) * (clV ((sI S 8 a) &&& 7).toNatClampNeg)))))) M dX0_apartFromJib_107 (Nat.le_refl _) (Nat.le_refl _) ⟨congrArg (fun z => some (Value.int z)) (show (imax (iabs ((r - (sI S 3 a)) - ((imax 0 (imin ((((r - (sI S 3 a)) * (rwV ((sI S 8 a) &&& 7).toNatClampNeg)) + ((q - (sI S 4 a)) * (clV ((sI S 8 a) &&& 7).toNatClampNeg))) >>> (1 &&& 31)) (sI S 9 a))) * (rwV ((sI S 8 a) &&& 7).toNatClampNeg)))) (iabs ((q - (sI S 4 a)) - ((imax 0 (imin ((((r - (sI S 3 a)) * (rwV ((sI S 8 a) &&& 7).toNatClampNeg)) + ((q - (sI S 4 a)) * (clV ((sI S 8 a) &&& 7).toNatClampNeg))) >>> (1 &&& 31)) (sI S 9 a))) * (clV ((sI S 8 a) &&& 7).toNatClampNeg))))) = m_apartFromJib K S a r q from (by unfold m_apartFromJib; rw [if_neg c1, if_neg c2])), rfl⟩
def m_sweepsOn (K : Nat → Nat) (S : PS) (a : Nat) (b : Nat) (t : Int32) : Int32 :=
  if (sI S 5 b) ≤ ((sI S 5 a) - 3) then
    0
  else
    if t < (m_apartFromJib K S a (sI S 3 b) (sI S 4 b)) then
      0
    else
      1
theorem cf_X0_sweepsOn : CFv yX0_sweepsOn RX0 cX0_sweepsOn 3 (some .boolean) 2 := ⟨wC_X0_sweepsOn, wI_X0_sweepsOn, wV_X0_X0_sweepsOn, wN_X0, by decide +kernel⟩
set_option maxHeartbeats 4000000 in
set_option maxRecDepth 100000 in
theorem c_sweepsOn {l : Launch} {E : EV} {K : Nat → Nat} {S : PS} (hW : WS K S) {a : Nat} (haL : a ∈ sL S) (haK : sK S a = 0) {b : Nat} (hbL : b ∈ sL S) (hbK : sK S b = 0) (t : Int32) : CT l yX0_sweepsOn cX0_sweepsOn 3 (some .boolean) 2 41 0 0 E [.ref a, .ref b, .int t] S (pv (.int (m_sweepsOn K S a b t)) S) := by
  refine CT.of (by decide) (Nat.le_of_ble_eq_true rfl) ?_
  intro p e s m below meth c M hin
  have M : MC E p s m _ meth c cX0_sweepsOn RX0 3 (some .boolean) := M
  show J p l e _ s m _ below meth c _ E 3 0 [(0, .ref a), (1, .ref b), (2, .int t)] [] S 0 0
  refine j_aload_n M dX0_sweepsOn_0 rfl ?_
  refine j_get (v := .int (sI S 5 b)) M hbL (pAt_0 E _ hbK) rfl inU_X0 5 (by decide) wF_X0_59 (fun _ h => h) rfl dX0_sweepsOn_1 ?_
  refine j_aload_n M dX0_sweepsOn_4 rfl ?_
  refine j_get (v := .int (sI S 5 a)) M haL (pAt_0 E _ haK) rfl inU_X0 5 (by decide) wF_X0_59 (fun _ h => h) rfl dX0_sweepsOn_5 ?_
  refine j_iconst (v := 3) M dX0_sweepsOn_8 (by decide) ?_
  refine j_isub M dX0_sweepsOn_9 ?_
  refine j_icmp_le (tgt := 33) M dX0_sweepsOn_10 (by decide) (fun c1 => ?_) (fun c1 => ?_)
  · refine j_iconst (v := 0) M dX0_sweepsOn_33 (by decide) ?_
    exact j_zret (v := 0) M dX0_sweepsOn_34 (Nat.le_refl _) (Nat.le_refl _) rfl ⟨congrArg (fun z => some (Value.int z)) (show 0 = m_sweepsOn K S a b t from (by unfold m_sweepsOn; rw [if_pos c1])), rfl⟩
  · refine j_aload_n M dX0_sweepsOn_13 rfl ?_
    refine j_aload_n M dX0_sweepsOn_14 rfl ?_
    refine j_get (v := .int (sI S 3 b)) M hbL (pAt_0 E _ hbK) rfl inU_X0 3 (by decide) wF_X0_50 (fun _ h => h) rfl dX0_sweepsOn_15 ?_
    refine j_aload_n M dX0_sweepsOn_18 rfl ?_
    refine j_get (v := .int (sI S 4 b)) M hbL (pAt_0 E _ hbK) rfl inU_X0 4 (by decide) wF_X0_56 (fun _ h => h) rfl dX0_sweepsOn_19 ?_
    refine j_callV1 (As := [.int (sI S 3 b), .int (sI S 4 b)]) M cf_X0_apartFromJib wM_X0_124 (c_apartFromJib hW haL haK (sI S 3 b) (sI S 4 b)) haL (pAt_0 E _ haK) rfl rfl ⟨Nat.le_of_ble_eq_true rfl, Nat.le_of_ble_eq_true rfl⟩ (Nat.le_of_ble_eq_true rfl) ⟨Nat.zero_le _, Nat.zero_le _⟩ dX0_sweepsOn_22 rfl ?_
    refine j_iload_n M dX0_sweepsOn_25 rfl ?_
    refine j_icmp_gt (tgt := 33) M dX0_sweepsOn_26 (by decide) (fun c2 => ?_) (fun c2 => ?_)
    · refine j_iconst (v := 0) M dX0_sweepsOn_33 (by decide) ?_
      exact j_zret (v := 0) M dX0_sweepsOn_34 (Nat.le_refl _) (Nat.le_refl _) rfl ⟨congrArg (fun z => some (Value.int z)) (show 0 = m_sweepsOn K S a b t from (by unfold m_sweepsOn; rw [if_neg c1, if_pos c2])), rfl⟩
    · refine j_iconst (v := 1) M dX0_sweepsOn_29 (by decide) ?_
      refine j_goto (tgt := 34) M dX0_sweepsOn_30 (by decide) ?_
      exact j_zret (v := 1) M dX0_sweepsOn_34 (Nat.le_refl _) (Nat.le_refl _) rfl ⟨congrArg (fun z => some (Value.int z)) (show 1 = m_sweepsOn K S a b t from (by unfold m_sweepsOn; rw [if_neg c1, if_neg c2])), rfl⟩
def m_isWithinBounds (K : Nat → Nat) (S : PS) (a : Nat) : Int32 :=
  if (sI S 10 a) < 1 then
    0
  else
    if (sI S 6 a) < (sI S 10 a) then
      0
    else
      if (sI S 11 a) < 1 then
        0
      else
        if ((sI S 5 a) - 1) < (sI S 11 a) then
          0
        else
          if (sI S 12 a) < 0 then
            0
          else
            if 20 < (sI S 12 a) then
              0
            else
              if (m_plumb K S a) = (-1) then
                0
              else
                1
theorem cf_X0_isWithinBounds : CFv yX0_isWithinBounds RX0 cX0_isWithinBounds 1 (some .boolean) 0 := ⟨wC_X0_isWithinBounds, wI_X0_isWithinBounds, wV_X0_X0_isWithinBounds, wN_X0, by decide +kernel⟩
set_option maxHeartbeats 4000000 in
set_option maxRecDepth 100000 in
theorem c_isWithinBounds {l : Launch} {E : EV} {K : Nat → Nat} {S : PS} (hW : WS K S) {a : Nat} (haL : a ∈ sL S) (haK : sK S a = 0) : CT l yX0_isWithinBounds cX0_isWithinBounds 1 (some .boolean) 3 64 0 0 E [.ref a] S (pv (.int (m_isWithinBounds K S a)) S) := by
  refine CT.of (by decide) (Nat.le_of_ble_eq_true rfl) ?_
  intro p e s m below meth c M hin
  have M : MC E p s m _ meth c cX0_isWithinBounds RX0 1 (some .boolean) := M
  show J p l e _ s m _ below meth c _ E 1 0 [(0, .ref a)] [] S 0 0
  refine j_aload_n M dX0_isWithinBounds_0 rfl ?_
  refine j_get (v := .int (sI S 10 a)) M haL (pAt_0 E _ haK) rfl inU_X0 10 (by decide) wF_X0_18 (fun _ h => h) rfl dX0_isWithinBounds_1 ?_
  refine j_iconst (v := 1) M dX0_isWithinBounds_4 (by decide) ?_
  refine j_icmp_lt (tgt := 68) M dX0_isWithinBounds_5 (by decide) (fun c1 => ?_) (fun c1 => ?_)
  · refine j_iconst (v := 0) M dX0_isWithinBounds_68 (by decide) ?_
    exact j_zret (v := 0) M dX0_isWithinBounds_69 (Nat.le_refl _) (Nat.le_refl _) rfl ⟨congrArg (fun z => some (Value.int z)) (show 0 = m_isWithinBounds K S a from (by unfold m_isWithinBounds; rw [if_pos c1])), rfl⟩
  · refine j_aload_n M dX0_isWithinBounds_8 rfl ?_
    refine j_get (v := .int (sI S 10 a)) M haL (pAt_0 E _ haK) rfl inU_X0 10 (by decide) wF_X0_18 (fun _ h => h) rfl dX0_isWithinBounds_9 ?_
    refine j_aload_n M dX0_isWithinBounds_12 rfl ?_
    refine j_get (v := .int (sI S 6 a)) M haL (pAt_0 E _ haK) rfl inU_X0 6 (by decide) wF_X0_62 (fun _ h => h) rfl dX0_isWithinBounds_13 ?_
    refine j_icmp_gt (tgt := 68) M dX0_isWithinBounds_16 (by decide) (fun c2 => ?_) (fun c2 => ?_)
    · refine j_iconst (v := 0) M dX0_isWithinBounds_68 (by decide) ?_
      exact j_zret (v := 0) M dX0_isWithinBounds_69 (Nat.le_refl _) (Nat.le_refl _) rfl ⟨congrArg (fun z => some (Value.int z)) (show 0 = m_isWithinBounds K S a from (by unfold m_isWithinBounds; rw [if_neg c1, if_pos c2])), rfl⟩
    · refine j_aload_n M dX0_isWithinBounds_19 rfl ?_
      refine j_get (v := .int (sI S 11 a)) M haL (pAt_0 E _ haK) rfl inU_X0 11 (by decide) wF_X0_68 (fun _ h => h) rfl dX0_isWithinBounds_20 ?_
      refine j_iconst (v := 1) M dX0_isWithinBounds_23 (by decide) ?_
      refine j_icmp_lt (tgt := 68) M dX0_isWithinBounds_24 (by decide) (fun c3 => ?_) (fun c3 => ?_)
      · refine j_iconst (v := 0) M dX0_isWithinBounds_68 (by decide) ?_
        exact j_zret (v := 0) M dX0_isWithinBounds_69 (Nat.le_refl _) (Nat.le_refl _) rfl ⟨congrArg (fun z => some (Value.int z)) (show 0 = m_isWithinBounds K S a from (by unfold m_isWithinBounds; rw [if_neg c1, if_neg c2, if_pos c3])), rfl⟩
      · refine j_aload_n M dX0_isWithinBounds_27 rfl ?_
        refine j_get (v := .int (sI S 11 a)) M haL (pAt_0 E _ haK) rfl inU_X0 11 (by decide) wF_X0_68 (fun _ h => h) rfl dX0_isWithinBounds_28 ?_
        refine j_aload_n M dX0_isWithinBounds_31 rfl ?_
        refine j_get (v := .int (sI S 5 a)) M haL (pAt_0 E _ haK) rfl inU_X0 5 (by decide) wF_X0_59 (fun _ h => h) rfl dX0_isWithinBounds_32 ?_
        refine j_iconst (v := 1) M dX0_isWithinBounds_35 (by decide) ?_
        refine j_isub M dX0_isWithinBounds_36 ?_
        refine j_icmp_gt (tgt := 68) M dX0_isWithinBounds_37 (by decide) (fun c4 => ?_) (fun c4 => ?_)
        · refine j_iconst (v := 0) M dX0_isWithinBounds_68 (by decide) ?_
          exact j_zret (v := 0) M dX0_isWithinBounds_69 (Nat.le_refl _) (Nat.le_refl _) rfl ⟨congrArg (fun z => some (Value.int z)) (show 0 = m_isWithinBounds K S a from (by unfold m_isWithinBounds; rw [if_neg c1, if_neg c2, if_neg c3, if_pos c4])), rfl⟩
        · refine j_aload_n M dX0_isWithinBounds_40 rfl ?_
          refine j_get (v := .int (sI S 12 a)) M haL (pAt_0 E _ haK) rfl inU_X0 12 (by decide) wF_X0_21 (fun _ h => h) rfl dX0_isWithinBounds_41 ?_
          refine j_if_lt (tgt := 68) M dX0_isWithinBounds_44 (by decide) (fun c5 => ?_) (fun c5 => ?_)
          · refine j_iconst (v := 0) M dX0_isWithinBounds_68 (by decide) ?_
            exact j_zret (v := 0) M dX0_isWithinBounds_69 (Nat.le_refl _) (Nat.le_refl _) rfl ⟨congrArg (fun z => some (Value.int z)) (show 0 = m_isWithinBounds K S a from (by unfold m_isWithinBounds; rw [if_neg c1, if_neg c2, if_neg c3, if_neg c4, if_pos c5])), rfl⟩
          · refine j_aload_n M dX0_isWithinBounds_47 rfl ?_
            refine j_get (v := .int (sI S 12 a)) M haL (pAt_0 E _ haK) rfl inU_X0 12 (by decide) wF_X0_21 (fun _ h => h) rfl dX0_isWithinBounds_48 ?_
            refine j_bipush (v := 20) M dX0_isWithinBounds_51 (by decide) ?_
            refine j_icmp_gt (tgt := 68) M dX0_isWithinBounds_53 (by decide) (fun c6 => ?_) (fun c6 => ?_)
            · refine j_iconst (v := 0) M dX0_isWithinBounds_68 (by decide) ?_
              exact j_zret (v := 0) M dX0_isWithinBounds_69 (Nat.le_refl _) (Nat.le_refl _) rfl ⟨congrArg (fun z => some (Value.int z)) (show 0 = m_isWithinBounds K S a from (by unfold m_isWithinBounds; rw [if_neg c1, if_neg c2, if_neg c3, if_neg c4, if_neg c5, if_pos c6])), rfl⟩
            · refine j_aload_n M dX0_isWithinBounds_56 rfl ?_
              refine j_callV1 (As := []) M cf_X0_plumb wM_X0_107 (c_plumb hW haL haK) haL (pAt_0 E _ haK) rfl rfl ⟨Nat.le_of_ble_eq_true rfl, Nat.le_of_ble_eq_true rfl⟩ (Nat.le_of_ble_eq_true rfl) ⟨Nat.zero_le _, Nat.zero_le _⟩ dX0_isWithinBounds_57 rfl ?_
              refine j_iconst (v := (-1)) M dX0_isWithinBounds_60 (by decide) ?_
              refine j_icmp_eq (tgt := 68) M dX0_isWithinBounds_61 (by decide) (fun c7 => ?_) (fun c7 => ?_)
              · refine j_iconst (v := 0) M dX0_isWithinBounds_68 (by decide) ?_
                exact j_zret (v := 0) M dX0_isWithinBounds_69 (Nat.le_refl _) (Nat.le_refl _) rfl ⟨congrArg (fun z => some (Value.int z)) (show 0 = m_isWithinBounds K S a from (by unfold m_isWithinBounds; rw [if_neg c1, if_neg c2, if_neg c3, if_neg c4, if_neg c5, if_neg c6, if_pos c7])), rfl⟩
              · refine j_iconst (v := 1) M dX0_isWithinBounds_64 (by decide) ?_
                refine j_goto (tgt := 69) M dX0_isWithinBounds_65 (by decide) ?_
                exact j_zret (v := 1) M dX0_isWithinBounds_69 (Nat.le_refl _) (Nat.le_refl _) rfl ⟨congrArg (fun z => some (Value.int z)) (show 1 = m_isWithinBounds K S a from (by unfold m_isWithinBounds; rw [if_neg c1, if_neg c2, if_neg c3, if_neg c4, if_neg c5, if_neg c6, if_neg c7])), rfl⟩
def m_hour (K : Nat → Nat) (S : PS) : Int32 :=
  ((sI S 39 (K 1)) / 20) - ((sI S 39 (K 1)) / 20) / 24 * 24
theorem cf_X5_hour : CFv yX5_hour RX5 cX5_hour 1 (some .int) 0 := ⟨wC_X5_hour, wI_X5_hour, wV_X5_X5_hour, wN_X5, by decide +kernel⟩
set_option maxHeartbeats 4000000 in
set_option maxRecDepth 100000 in
theorem c_hour {l : Launch} {E : EV} {K : Nat → Nat} {S : PS} (hW : WS K S) : CT l yX5_hour cX5_hour 1 (some .int) 0 0 0 0 E [.ref (K 1)] S (pv (.int (m_hour K S)) S) := by
  refine CT.of (by decide) (Nat.le_of_ble_eq_true rfl) ?_
  intro p e s m below meth c M hin
  have M : MC E p s m _ meth c cX5_hour RX5 1 (some .int) := M
  show J p l e _ s m _ below meth c _ E 1 0 [(0, .ref (K 1))] [] S 0 0
  refine j_aload_n M dX5_hour_0 rfl ?_
  refine j_get (v := .int (sI S 39 (K 1))) M hW.k1.1 (pAt_5 E _ hW.k1.2) rfl inU_X5 7 (by decide) wF_X5_36 (fun _ h => h) rfl dX5_hour_1 ?_
  refine j_bipush (v := 20) M dX5_hour_4 (by decide) ?_
  refine j_idiv M dX5_hour_6 (by decide) ?_
  refine j_bipush (v := 24) M dX5_hour_7 (by decide) ?_
  refine j_irem M dX5_hour_9 (by decide) ?_
  exact j_iret (v := (((sI S 39 (K 1)) / 20) - ((sI S 39 (K 1)) / 20) / 24 * 24)) M dX5_hour_10 (Nat.le_refl _) (Nat.le_refl _) ⟨congrArg (fun z => some (Value.int z)) (show (((sI S 39 (K 1)) / 20) - ((sI S 39 (K 1)) / 20) / 24 * 24) = m_hour K S from rfl), rfl⟩
def m_covers (K : Nat → Nat) (S : PS) (a : Nat) (r : Int32) (q : Int32) : Int32 :=
  if r < (sI S 42 a) then
    0
  else
    if (sI S 44 a) < r then
      0
    else
      if q < (sI S 43 a) then
        0
      else
        if (sI S 45 a) < q then
          0
        else
          1
theorem cf_X6_covers : CFv yX6_covers RX6 cX6_covers 3 (some .boolean) 2 := ⟨wC_X6_covers, wI_X6_covers, wV_X6_X6_covers, wN_X6, by decide +kernel⟩
set_option maxHeartbeats 4000000 in
set_option maxRecDepth 100000 in
theorem c_covers {l : Launch} {E : EV} {K : Nat → Nat} {S : PS} (hW : WS K S) {a : Nat} (haL : a ∈ sL S) (haK : sK S a = 6) (r : Int32) (q : Int32) : CT l yX6_covers cX6_covers 3 (some .boolean) 0 0 0 0 E [.ref a, .int r, .int q] S (pv (.int (m_covers K S a r q)) S) := by
  refine CT.of (by decide) (Nat.le_of_ble_eq_true rfl) ?_
  intro p e s m below meth c M hin
  have M : MC E p s m _ meth c cX6_covers RX6 3 (some .boolean) := M
  show J p l e _ s m _ below meth c _ E 3 0 [(0, .ref a), (1, .int r), (2, .int q)] [] S 0 0
  refine j_iload_n M dX6_covers_0 rfl ?_
  refine j_aload_n M dX6_covers_1 rfl ?_
  refine j_get (v := .int (sI S 42 a)) M haL (pAt_6 E _ haK) rfl inU_X6 0 (by decide) wF_X6_7 (fun _ h => h) rfl dX6_covers_2 ?_
  refine j_icmp_lt (tgt := 36) M dX6_covers_5 (by decide) (fun c1 => ?_) (fun c1 => ?_)
  · refine j_iconst (v := 0) M dX6_covers_36 (by decide) ?_
    exact j_zret (v := 0) M dX6_covers_37 (Nat.le_refl _) (Nat.le_refl _) rfl ⟨congrArg (fun z => some (Value.int z)) (show 0 = m_covers K S a r q from (by unfold m_covers; rw [if_pos c1])), rfl⟩
  · refine j_iload_n M dX6_covers_8 rfl ?_
    refine j_aload_n M dX6_covers_9 rfl ?_
    refine j_get (v := .int (sI S 44 a)) M haL (pAt_6 E _ haK) rfl inU_X6 2 (by decide) wF_X6_16 (fun _ h => h) rfl dX6_covers_10 ?_
    refine j_icmp_gt (tgt := 36) M dX6_covers_13 (by decide) (fun c2 => ?_) (fun c2 => ?_)
    · refine j_iconst (v := 0) M dX6_covers_36 (by decide) ?_
      exact j_zret (v := 0) M dX6_covers_37 (Nat.le_refl _) (Nat.le_refl _) rfl ⟨congrArg (fun z => some (Value.int z)) (show 0 = m_covers K S a r q from (by unfold m_covers; rw [if_neg c1, if_pos c2])), rfl⟩
    · refine j_iload_n M dX6_covers_16 rfl ?_
      refine j_aload_n M dX6_covers_17 rfl ?_
      refine j_get (v := .int (sI S 43 a)) M haL (pAt_6 E _ haK) rfl inU_X6 1 (by decide) wF_X6_13 (fun _ h => h) rfl dX6_covers_18 ?_
      refine j_icmp_lt (tgt := 36) M dX6_covers_21 (by decide) (fun c3 => ?_) (fun c3 => ?_)
      · refine j_iconst (v := 0) M dX6_covers_36 (by decide) ?_
        exact j_zret (v := 0) M dX6_covers_37 (Nat.le_refl _) (Nat.le_refl _) rfl ⟨congrArg (fun z => some (Value.int z)) (show 0 = m_covers K S a r q from (by unfold m_covers; rw [if_neg c1, if_neg c2, if_pos c3])), rfl⟩
      · refine j_iload_n M dX6_covers_24 rfl ?_
        refine j_aload_n M dX6_covers_25 rfl ?_
        refine j_get (v := .int (sI S 45 a)) M haL (pAt_6 E _ haK) rfl inU_X6 3 (by decide) wF_X6_19 (fun _ h => h) rfl dX6_covers_26 ?_
        refine j_icmp_gt (tgt := 36) M dX6_covers_29 (by decide) (fun c4 => ?_) (fun c4 => ?_)
        · refine j_iconst (v := 0) M dX6_covers_36 (by decide) ?_
          exact j_zret (v := 0) M dX6_covers_37 (Nat.le_refl _) (Nat.le_refl _) rfl ⟨congrArg (fun z => some (Value.int z)) (show 0 = m_covers K S a r q from (by unfold m_covers; rw [if_neg c1, if_neg c2, if_neg c3, if_pos c4])), rfl⟩
        · refine j_iconst (v := 1) M dX6_covers_32 (by decide) ?_
          refine j_goto (tgt := 37) M dX6_covers_33 (by decide) ?_
          exact j_zret (v := 1) M dX6_covers_37 (Nat.le_refl _) (Nat.le_refl _) rfl ⟨congrArg (fun z => some (Value.int z)) (show 1 = m_covers K S a r q from (by unfold m_covers; rw [if_neg c1, if_neg c2, if_neg c3, if_neg c4])), rfl⟩
def m_isShutAt (K : Nat → Nat) (S : PS) (a : Nat) (h : Int32) : Int32 :=
  if (sI S 46 a) ≤ (sI S 47 a) then
    if h < (sI S 46 a) then
      0
    else
      if (sI S 47 a) < h then
        0
      else
        1
  else
    if (sI S 46 a) ≤ h then
      1
    else
      if (sI S 47 a) < h then
        0
      else
        1
theorem cf_X6_isShutAt : CFv yX6_isShutAt RX6 cX6_isShutAt 2 (some .boolean) 1 := ⟨wC_X6_isShutAt, wI_X6_isShutAt, wV_X6_X6_isShutAt, wN_X6, by decide +kernel⟩
set_option maxHeartbeats 4000000 in
set_option maxRecDepth 100000 in
theorem c_isShutAt {l : Launch} {E : EV} {K : Nat → Nat} {S : PS} (hW : WS K S) {a : Nat} (haL : a ∈ sL S) (haK : sK S a = 6) (h : Int32) : CT l yX6_isShutAt cX6_isShutAt 2 (some .boolean) 0 0 0 0 E [.ref a, .int h] S (pv (.int (m_isShutAt K S a h)) S) := by
  refine CT.of (by decide) (Nat.le_of_ble_eq_true rfl) ?_
  intro p e s m below meth c M hin
  have M : MC E p s m _ meth c cX6_isShutAt RX6 2 (some .boolean) := M
  show J p l e _ s m _ below meth c _ E 2 0 [(0, .ref a), (1, .int h)] [] S 0 0
  refine j_aload_n M dX6_isShutAt_0 rfl ?_
  refine j_get (v := .int (sI S 46 a)) M haL (pAt_6 E _ haK) rfl inU_X6 4 (by decide) wF_X6_22 (fun _ h => h) rfl dX6_isShutAt_1 ?_
  refine j_aload_n M dX6_isShutAt_4 rfl ?_
  refine j_get (v := .int (sI S 47 a)) M haL (pAt_6 E _ haK) rfl inU_X6 5 (by decide) wF_X6_25 (fun _ h => h) rfl dX6_isShutAt_5 ?_
  refine j_icmp_le (tgt := 33) M dX6_isShutAt_8 (by decide) (fun c1 => ?_) (fun c1 => ?_)
  · refine j_iload_n M dX6_isShutAt_33 rfl ?_
    refine j_aload_n M dX6_isShutAt_34 rfl ?_
    refine j_get (v := .int (sI S 46 a)) M haL (pAt_6 E _ haK) rfl inU_X6 4 (by decide) wF_X6_22 (fun _ h => h) rfl dX6_isShutAt_35 ?_
    refine j_icmp_lt (tgt := 53) M dX6_isShutAt_38 (by decide) (fun c2 => ?_) (fun c2 => ?_)
    · refine j_iconst (v := 0) M dX6_isShutAt_53 (by decide) ?_
      exact j_zret (v := 0) M dX6_isShutAt_54 (Nat.le_refl _) (Nat.le_refl _) rfl ⟨congrArg (fun z => some (Value.int z)) (show 0 = m_isShutAt K S a h from (by unfold m_isShutAt; rw [if_pos c1, if_pos c2])), rfl⟩
    · refine j_iload_n M dX6_isShutAt_41 rfl ?_
      refine j_aload_n M dX6_isShutAt_42 rfl ?_
      refine j_get (v := .int (sI S 47 a)) M haL (pAt_6 E _ haK) rfl inU_X6 5 (by decide) wF_X6_25 (fun _ h => h) rfl dX6_isShutAt_43 ?_
      refine j_icmp_gt (tgt := 53) M dX6_isShutAt_46 (by decide) (fun c3 => ?_) (fun c3 => ?_)
      · refine j_iconst (v := 0) M dX6_isShutAt_53 (by decide) ?_
        exact j_zret (v := 0) M dX6_isShutAt_54 (Nat.le_refl _) (Nat.le_refl _) rfl ⟨congrArg (fun z => some (Value.int z)) (show 0 = m_isShutAt K S a h from (by unfold m_isShutAt; rw [if_pos c1, if_neg c2, if_pos c3])), rfl⟩
      · refine j_iconst (v := 1) M dX6_isShutAt_49 (by decide) ?_
        refine j_goto (tgt := 54) M dX6_isShutAt_50 (by decide) ?_
        exact j_zret (v := 1) M dX6_isShutAt_54 (Nat.le_refl _) (Nat.le_refl _) rfl ⟨congrArg (fun z => some (Value.int z)) (show 1 = m_isShutAt K S a h from (by unfold m_isShutAt; rw [if_pos c1, if_neg c2, if_neg c3])), rfl⟩
  · refine j_iload_n M dX6_isShutAt_11 rfl ?_
    refine j_aload_n M dX6_isShutAt_12 rfl ?_
    refine j_get (v := .int (sI S 46 a)) M haL (pAt_6 E _ haK) rfl inU_X6 4 (by decide) wF_X6_22 (fun _ h => h) rfl dX6_isShutAt_13 ?_
    refine j_icmp_ge (tgt := 27) M dX6_isShutAt_16 (by decide) (fun c4 => ?_) (fun c4 => ?_)
    · refine j_iconst (v := 1) M dX6_isShutAt_27 (by decide) ?_
      refine j_goto (tgt := 32) M dX6_isShutAt_28 (by decide) ?_
      exact j_zret (v := 1) M dX6_isShutAt_32 (Nat.le_refl _) (Nat.le_refl _) rfl ⟨congrArg (fun z => some (Value.int z)) (show 1 = m_isShutAt K S a h from (by unfold m_isShutAt; rw [if_neg c1, if_pos c4])), rfl⟩
    · refine j_iload_n M dX6_isShutAt_19 rfl ?_
      refine j_aload_n M dX6_isShutAt_20 rfl ?_
      refine j_get (v := .int (sI S 47 a)) M haL (pAt_6 E _ haK) rfl inU_X6 5 (by decide) wF_X6_25 (fun _ h => h) rfl dX6_isShutAt_21 ?_
      refine j_icmp_gt (tgt := 31) M dX6_isShutAt_24 (by decide) (fun c5 => ?_) (fun c5 => ?_)
      · refine j_iconst (v := 0) M dX6_isShutAt_31 (by decide) ?_
        exact j_zret (v := 0) M dX6_isShutAt_32 (Nat.le_refl _) (Nat.le_refl _) rfl ⟨congrArg (fun z => some (Value.int z)) (show 0 = m_isShutAt K S a h from (by unfold m_isShutAt; rw [if_neg c1, if_neg c4, if_pos c5])), rfl⟩
      · refine j_iconst (v := 1) M dX6_isShutAt_27 (by decide) ?_
        refine j_goto (tgt := 32) M dX6_isShutAt_28 (by decide) ?_
        exact j_zret (v := 1) M dX6_isShutAt_32 (Nat.le_refl _) (Nat.le_refl _) rfl ⟨congrArg (fun z => some (Value.int z)) (show 1 = m_isShutAt K S a h from (by unfold m_isShutAt; rw [if_neg c1, if_neg c4, if_neg c5])), rfl⟩
end
section
/-! what all cranes' arms are at most; whom references name; loops' small rows -/
def AW (S : PS) : Prop := ∀ a, InK S a 0 → ¬ sI S 9 a < 0 ∧ sI S 9 a ≤ 20 ∧ sI S 6 a ≤ 20
def WM (S : PS) : Prop := (∀ a, InK S a 0 → ∀ q, sM S 14 a = some q → InK S q 2) ∧ ∀ a, InK S a 2 → ∀ q, sM S 22 a = some q → InK S q 0
theorem LSt.el {S : PS} {h k B j : Nat} (hL : LSt S h k B) (hj : j < sZ S h) : InK S (el S h j) k := by
  obtain ⟨t, -, -, -, -, -, e⟩ := hL.2.2 j hj
  exact e
theorem WM.ld {S : PS} (h : WM S) {a : Nat} (h1 : a ∈ sL S) (h2 : sK S a = 0) (hs : sM S 14 a = some ((sM S 14 a).getD 0)) : InK S ((sM S 14 a).getD 0) 2 := h.1 a ⟨h1, h2⟩ _ hs
theorem WM.ca {S : PS} (h : WM S) {a : Nat} (h1 : a ∈ sL S) (h2 : sK S a = 2) (hs : sM S 22 a = some ((sM S 22 a).getD 0)) : InK S ((sM S 22 a).getD 0) 0 := h.2 a ⟨h1, h2⟩ _ hs
theorem arm_nat {x : Int32} (h1 : ¬ x < 0) (h2 : x ≤ 20) : x = nI x.toNatClampNeg ∧ x.toNatClampNeg ≤ 20 := by
  obtain ⟨j, hj, rfl⟩ := nI_of h1
  have h3 : nI j ≤ nI 20 := h2
  rw [nI_leI hj (by decide)] at h3
  rw [nI_clamp hj]
  exact ⟨rfl, h3⟩
section OP
variable {p : Program} {l : Launch} {e : Env} {R : Room} {s : State} {m : MethodId} {args : Array Value} {below : List Frame} {meth : Method} {c : Code} {Q : State → Prop} {E : EV} {nL pc : Nat} {lv lv' : List (Nat × Value)} {st st0 : List Value} {S S2 : PS} {cells slots : Nat}
theorem j_opt {x : Option Nat} (kn : x = none → J p l e R s m args below meth c Q E nL pc lv (.null :: st) S cells slots) (ks : x = some (x.getD 0) → ¬ x = none → J p l e R s m args below meth c Q E nL pc lv (.ref (x.getD 0) :: st) S cells slots) : J p l e R s m args below meth c Q E nL pc lv (va_rf x :: st) S cells slots := by
  cases x with
  | none => exact kn rfl
  | some q => exact ks rfl (fun h => by cases h)
theorem j_pick (ks : List Nat) (h : lv_pick lv ks = lv') (K : J p l e R s m args below meth c Q E nL pc lv' st S cells slots) : J p l e R s m args below meth c Q E nL pc lv st S cells slots :=
  fun H locs ls hH hS hl => K H locs ls hH hS (lv_sub hl ks h)
end OP
end
section
def m_liesOn (K : Nat → Nat) (S : PS) (a : Nat) (x : Int32) : Int32 :=
  if sM S 22 a = none then
    if (sI S 21 a) = x then
      1
    else
      0
  else
    0
theorem cf_X2_liesOn : CFv yX2_liesOn RX2 cX2_liesOn 2 (some .boolean) 1 := ⟨wC_X2_liesOn, wI_X2_liesOn, wV_X2_X2_liesOn, wN_X2, by decide +kernel⟩
set_option maxHeartbeats 4000000 in
set_option maxRecDepth 100000 in
theorem c_liesOn {l : Launch} {E : EV} {K : Nat → Nat} {S : PS} (hW : WS K S) (hA : AW S) (hM : WM S) {a : Nat} (haL : a ∈ sL S) (haK : sK S a = 2) (x : Int32) : CT l yX2_liesOn cX2_liesOn 2 (some .boolean) 0 0 0 0 E [.ref a, .int x] S (pv (.int (m_liesOn K S a x)) S) := by
  refine CT.of (by decide) (Nat.le_of_ble_eq_true rfl) ?_
  intro p e s m below meth c M hin
  have M : MC E p s m _ meth c cX2_liesOn RX2 2 (some .boolean) := M
  show J p l e _ s m _ below meth c _ E 2 0 [(0, .ref a), (1, .int x)] [] S 0 0
  refine j_aload_n M dX2_liesOn_0 rfl ?_
  refine j_get (v := va_rf (sM S 22 a)) M haL (pAt_2 E _ haK) rfl inU_X2 3 (by decide) wF_X2_7 (fun _ h => h) rfl dX2_liesOn_1 ?_
  refine j_opt (fun c1 => ?_) (fun c1s c1 => ?_)
  · refine j_ifnonnullN M dX2_liesOn_4 ?_
    refine j_aload_n M dX2_liesOn_7 rfl ?_
    refine j_get (v := .int (sI S 21 a)) M haL (pAt_2 E _ haK) rfl inU_X2 2 (by decide) wF_X2_17 (fun _ h => h) rfl dX2_liesOn_8 ?_
    refine j_iload_n M dX2_liesOn_11 rfl ?_
    refine j_icmp_ne (tgt := 19) M dX2_liesOn_12 (by decide) (fun c2 => ?_) (fun c2 => ?_)
    · refine j_iconst (v := 0) M dX2_liesOn_19 (by decide) ?_
      exact j_zret (v := 0) M dX2_liesOn_20 (Nat.le_refl _) (Nat.le_refl _) rfl ⟨congrArg (fun z => some (Value.int z)) (show 0 = m_liesOn K S a x from (by unfold m_liesOn; rw [if_pos c1, if_neg c2])), rfl⟩
    · refine j_iconst (v := 1) M dX2_liesOn_15 (by decide) ?_
      refine j_goto (tgt := 20) M dX2_liesOn_16 (by decide) ?_
      exact j_zret (v := 1) M dX2_liesOn_20 (Nat.le_refl _) (Nat.le_refl _) rfl ⟨congrArg (fun z => some (Value.int z)) (show 1 = m_liesOn K S a x from (by unfold m_liesOn; rw [if_pos c1, if_pos c2])), rfl⟩
  · refine j_ifnonnull (tgt := 19) M dX2_liesOn_4 (by decide) ?_
    refine j_iconst (v := 0) M dX2_liesOn_19 (by decide) ?_
    exact j_zret (v := 0) M dX2_liesOn_20 (Nat.le_refl _) (Nat.le_refl _) rfl ⟨congrArg (fun z => some (Value.int z)) (show 0 = m_liesOn K S a x from (by unfold m_liesOn; rw [if_neg c1])), rfl⟩
def m_place (K : Nat → Nat) (S : PS) (a : Nat) : Int32 :=
  if sM S 22 a = none then
    sI S 21 a
  else
    m_plumb K S ((sM S 22 a).getD 0)
theorem cf_X2_place : CFv yX2_place RX2 cX2_place 1 (some .int) 0 := ⟨wC_X2_place, wI_X2_place, wV_X2_X2_place, wN_X2, by decide +kernel⟩
set_option maxHeartbeats 4000000 in
set_option maxRecDepth 100000 in
theorem c_place {l : Launch} {E : EV} {K : Nat → Nat} {S : PS} (hW : WS K S) (hA : AW S) (hM : WM S) {a : Nat} (haL : a ∈ sL S) (haK : sK S a = 2) : CT l yX2_place cX2_place 1 (some .int) 3 64 0 0 E [.ref a] S (pv (.int (m_place K S a)) S) := by
  refine CT.of (by decide) (Nat.le_of_ble_eq_true rfl) ?_
  intro p e s m below meth c M hin
  have M : MC E p s m _ meth c cX2_place RX2 1 (some .int) := M
  show J p l e _ s m _ below meth c _ E 1 0 [(0, .ref a)] [] S 0 0
  refine j_aload_n M dX2_place_0 rfl ?_
  refine j_get (v := va_rf (sM S 22 a)) M haL (pAt_2 E _ haK) rfl inU_X2 3 (by decide) wF_X2_7 (fun _ h => h) rfl dX2_place_1 ?_
  refine j_opt (fun c1 => ?_) (fun c1s c1 => ?_)
  · refine j_ifnonnullN M dX2_place_4 ?_
    refine j_aload_n M dX2_place_7 rfl ?_
    refine j_get (v := .int (sI S 21 a)) M haL (pAt_2 E _ haK) rfl inU_X2 2 (by decide) wF_X2_17 (fun _ h => h) rfl dX2_place_8 ?_
    refine j_goto (tgt := 21) M dX2_place_11 (by decide) ?_
    exact j_iret (v := (sI S 21 a)) M dX2_place_21 (Nat.le_refl _) (Nat.le_refl _) ⟨congrArg (fun z => some (Value.int z)) (show (sI S 21 a) = m_place K S a from (by unfold m_place; rw [if_pos c1])), rfl⟩
  · refine j_ifnonnull (tgt := 14) M dX2_place_4 (by decide) ?_
    refine j_aload_n M dX2_place_14 rfl ?_
    refine j_get (v := .ref ((sM S 22 a).getD 0)) M haL (pAt_2 E _ haK) rfl inU_X2 3 (by decide) wF_X2_7 (fun _ h => h) (rfv c1s) dX2_place_15 ?_
    refine j_callV1 (As := []) M cf_X0_plumb wM_X2_23 (c_plumb hW ((hM.ca haL haK c1s).1) ((hM.ca haL haK c1s).2)) ((hM.ca haL haK c1s).1) (pAt_0 E _ ((hM.ca haL haK c1s).2)) rfl rfl ⟨Nat.le_of_ble_eq_true rfl, Nat.le_of_ble_eq_true rfl⟩ (Nat.le_of_ble_eq_true rfl) ⟨Nat.zero_le _, Nat.zero_le _⟩ dX2_place_18 rfl ?_
    exact j_iret (v := (m_plumb K S ((sM S 22 a).getD 0))) M dX2_place_21 (Nat.le_refl _) (Nat.le_refl _) ⟨congrArg (fun z => some (Value.int z)) (show (m_plumb K S ((sM S 22 a).getD 0)) = m_place K S a from (by unfold m_place; rw [if_neg c1])), rfl⟩
def m_towerOn_lp (K : Nat → Nat) (S : PS) (x : Int32) : Nat → Nat → Int32
  | 0, j => (-1)
  | r + 1, j => if (sI S 2 (el S (K 13) j)) = x then
      nI j
    else
      m_towerOn_lp K S x r (j + 1)
def m_towerOn (K : Nat → Nat) (S : PS) (x : Int32) : Int32 :=
  m_towerOn_lp K S x (sZ S (K 13)) 0
theorem cf_X5_towerOn : CFv yX5_towerOn RX5 cX5_towerOn 3 (some .int) 1 := ⟨wC_X5_towerOn, wI_X5_towerOn, wV_X5_X5_towerOn, wN_X5, by decide +kernel⟩
set_option maxHeartbeats 4000000 in
set_option maxRecDepth 100000 in
theorem c_towerOn {l : Launch} {E : EV} {K : Nat → Nat} {S : PS} (hW : WS K S) (hA : AW S) (hM : WM S) (x : Int32) : CT l yX5_towerOn cX5_towerOn 3 (some .int) 3 64 0 0 E [.ref (K 1), .int x] S (pv (.int (m_towerOn K S x)) S) := by
  refine CT.of (by decide) (Nat.le_of_ble_eq_true rfl) ?_
  intro p e s m below meth c M hin
  have M : MC E p s m _ meth c cX5_towerOn RX5 3 (some .int) := M
  show J p l e _ s m _ below meth c _ E 3 0 [(0, .ref (K 1)), (1, .int x)] [] S 0 0
  refine j_iconst (v := 0) M dX5_towerOn_0 (by decide) ?_
  refine j_istore_n (lv' := [(2, .int 0), (0, .ref (K 1)), (1, .int x)]) M dX5_towerOn_1 rfl (by decide) rfl ?_
  have hz13 := hW.l13.2.1
  have lp : ∀ (r j : Nat), j + r = sZ S (K 13) → m_towerOn K S x = m_towerOn_lp K S x r j → J p l e { frames := 3, cells := 0, slots := 0, locals := 64 } s m ([.ref (K 1), .int x] : List Value).toArray below meth c (MQ below (QC E (pv (.int (m_towerOn K S x)) S)) ([.ref (K 1), .int x] : List Value).toArray s 0 0 (AE E)) E 3 2 [(0, .ref (K 1)), (1, .int x), (2, .int (nI j))] [] S 0 0 := by
    intro r
    induction r with
    | zero =>
      intro j hj hq
      refine j_iload_n M dX5_towerOn_2 rfl ?_
      refine j_aload_n M dX5_towerOn_3 rfl ?_
      refine j_get (v := .ref (K 13)) M hW.k1.1 (pAt_5 E _ hW.k1.2) rfl inU_X5 3 (by decide) wF_X5_21 (fun _ h => h) (rfv hW.r35) dX5_towerOn_4 ?_
      refine j_callV1 (As := []) (x := .int (nI (sZ S (K 13)))) M cf_size wM_X5_68 (c_size hW.l13) hW.l13.1.1 (pAt_8 E _ hW.l13.1.2) rfl rfl ⟨Nat.le_of_ble_eq_true rfl, Nat.le_of_ble_eq_true rfl⟩ (Nat.le_of_ble_eq_true rfl) ⟨Nat.zero_le _, Nat.zero_le _⟩ dX5_towerOn_7 rfl ?_
      refine j_icmp_ge (tgt := 39) M dX5_towerOn_10 (by decide) (fun _ => ?_) (fun z => absurd (nI_le (by omega) (by omega)) z)
      refine j_iconst (v := (-1)) M dX5_towerOn_39 (by decide) ?_
      exact j_iret (v := (-1)) M dX5_towerOn_40 (Nat.le_refl _) (Nat.le_refl _) ⟨congrArg (fun z => some (Value.int z)) (show (-1) = m_towerOn K S x from (hq.trans (by simp only [m_towerOn_lp])).symm), rfl⟩
    | succ r ih =>
      intro j hj hq
      refine j_iload_n M dX5_towerOn_2 rfl ?_
      refine j_aload_n M dX5_towerOn_3 rfl ?_
      refine j_get (v := .ref (K 13)) M hW.k1.1 (pAt_5 E _ hW.k1.2) rfl inU_X5 3 (by decide) wF_X5_21 (fun _ h => h) (rfv hW.r35) dX5_towerOn_4 ?_
      refine j_callV1 (As := []) (x := .int (nI (sZ S (K 13)))) M cf_size wM_X5_68 (c_size hW.l13) hW.l13.1.1 (pAt_8 E _ hW.l13.1.2) rfl rfl ⟨Nat.le_of_ble_eq_true rfl, Nat.le_of_ble_eq_true rfl⟩ (Nat.le_of_ble_eq_true rfl) ⟨Nat.zero_le _, Nat.zero_le _⟩ dX5_towerOn_7 rfl ?_
      refine j_icmp_ge (tgt := 39) M dX5_towerOn_10 (by decide) (fun z => absurd z (nI_ge (by omega) (by omega))) (fun _ => ?_)
      refine j_aload_n M dX5_towerOn_13 rfl ?_
      refine j_get (v := .ref (K 13)) M hW.k1.1 (pAt_5 E _ hW.k1.2) rfl inU_X5 3 (by decide) wF_X5_21 (fun _ h => h) (rfv hW.r35) dX5_towerOn_14 ?_
      refine j_iload_n M dX5_towerOn_17 rfl ?_
      refine j_callV1 (As := [.int (nI j)]) (x := .ref (el S (K 13) j)) M cf_get wM_X5_72 (c_get hW.l13 (by decide) (show j < sZ S (K 13) by omega)) hW.l13.1.1 (pAt_8 E _ hW.l13.1.2) rfl rfl ⟨Nat.le_of_ble_eq_true rfl, Nat.le_of_ble_eq_true rfl⟩ (Nat.le_of_ble_eq_true rfl) ⟨Nat.zero_le _, Nat.zero_le _⟩ dX5_towerOn_18 rfl ?_
      refine j_cast M ((LSt.el hW.l13 (show j < sZ S (K 13) by omega)).1) (pAt_0 E _ ((LSt.el hW.l13 (show j < sZ S (K 13) by omega)).2)) rfl wL_X5_50 dX5_towerOn_21 ?_
      refine j_getN (v := .int (sI S 2 (el S (K 13) j))) M ((LSt.el hW.l13 (show j < sZ S (K 13) by omega)).1) (pAt_0 E _ ((LSt.el hW.l13 (show j < sZ S (K 13) by omega)).2)) rfl inU_X0 2 (by decide) nF_X5_107 (fun _ h => h) rfl dX5_towerOn_24 ?_
      refine j_iload_n M dX5_towerOn_27 rfl ?_
      refine j_icmp_ne (tgt := 33) M dX5_towerOn_28 (by decide) (fun c1 => ?_) (fun c1 => ?_)
      · refine j_iinc (v := (nI (j + 1))) (lv' := [(2, .int (nI (j + 1))), (0, .ref (K 1)), (1, .int x)]) M dX5_towerOn_33 rfl (nI_1 _) (by decide) rfl ?_
        refine j_goto (tgt := 2) M dX5_towerOn_36 (by decide) ?_
        refine j_pick [1, 2, 0] rfl ?_
        exact ih (j + 1) (by omega) (hq.trans (by simp only [m_towerOn_lp, if_neg c1]))
      · refine j_iload_n M dX5_towerOn_31 rfl ?_
        exact j_iret (v := (nI j)) M dX5_towerOn_32 (Nat.le_refl _) (Nat.le_refl _) ⟨congrArg (fun z => some (Value.int z)) (show (nI j) = m_towerOn K S x from (hq.trans (by simp only [m_towerOn_lp, if_pos c1])).symm), rfl⟩
  refine j_pick (lv' := [(0, .ref (K 1)), (1, .int x), (2, .int (nI 0))]) [1, 2, 0] rfl ?_
  exact lp (sZ S (K 13)) 0 (by omega) (by unfold m_towerOn; rfl)
def m_loadsOn_lp (K : Nat → Nat) (S : PS) (x : Int32) : Nat → Nat → Int32 → Int32
  | 0, j, n => n
  | r + 1, j, n => if (m_liesOn K S (el S (K 14) j) x) = 0 then
      m_loadsOn_lp K S x r (j + 1) n
    else
      m_loadsOn_lp K S x r (j + 1) (n + 1)
def m_loadsOn (K : Nat → Nat) (S : PS) (x : Int32) : Int32 :=
  m_loadsOn_lp K S x (sZ S (K 14)) 0 0
theorem cf_X5_loadsOn : CFv yX5_loadsOn RX5 cX5_loadsOn 4 (some .int) 1 := ⟨wC_X5_loadsOn, wI_X5_loadsOn, wV_X5_X5_loadsOn, wN_X5, by decide +kernel⟩
set_option maxHeartbeats 4000000 in
set_option maxRecDepth 100000 in
theorem c_loadsOn {l : Launch} {E : EV} {K : Nat → Nat} {S : PS} (hW : WS K S) (hA : AW S) (hM : WM S) (x : Int32) : CT l yX5_loadsOn cX5_loadsOn 4 (some .int) 3 64 0 0 E [.ref (K 1), .int x] S (pv (.int (m_loadsOn K S x)) S) := by
  refine CT.of (by decide) (Nat.le_of_ble_eq_true rfl) ?_
  intro p e s m below meth c M hin
  have M : MC E p s m _ meth c cX5_loadsOn RX5 4 (some .int) := M
  show J p l e _ s m _ below meth c _ E 4 0 [(0, .ref (K 1)), (1, .int x)] [] S 0 0
  refine j_iconst (v := 0) M dX5_loadsOn_0 (by decide) ?_
  refine j_istore_n (lv' := [(2, .int 0), (0, .ref (K 1)), (1, .int x)]) M dX5_loadsOn_1 rfl (by decide) rfl ?_
  refine j_iconst (v := 0) M dX5_loadsOn_2 (by decide) ?_
  refine j_istore_n (lv' := [(3, .int 0), (2, .int 0), (0, .ref (K 1)), (1, .int x)]) M dX5_loadsOn_3 rfl (by decide) rfl ?_
  have hz14 := hW.l14.2.1
  have lp : ∀ (r j : Nat) (n : Int32), j + r = sZ S (K 14) → m_loadsOn K S x = m_loadsOn_lp K S x r j n → J p l e { frames := 3, cells := 0, slots := 0, locals := 64 } s m ([.ref (K 1), .int x] : List Value).toArray below meth c (MQ below (QC E (pv (.int (m_loadsOn K S x)) S)) ([.ref (K 1), .int x] : List Value).toArray s 0 0 (AE E)) E 4 4 [(0, .ref (K 1)), (1, .int x), (2, .int n), (3, .int (nI j))] [] S 0 0 := by
    intro r
    induction r with
    | zero =>
      intro j n hj hq
      refine j_iload_n M dX5_loadsOn_4 rfl ?_
      refine j_aload_n M dX5_loadsOn_5 rfl ?_
      refine j_get (v := .ref (K 14)) M hW.k1.1 (pAt_5 E _ hW.k1.2) rfl inU_X5 4 (by decide) wF_X5_24 (fun _ h => h) (rfv hW.r36) dX5_loadsOn_6 ?_
      refine j_callV1 (As := []) (x := .int (nI (sZ S (K 14)))) M cf_size wM_X5_68 (c_size hW.l14) hW.l14.1.1 (pAt_8 E _ hW.l14.1.2) rfl rfl ⟨Nat.le_of_ble_eq_true rfl, Nat.le_of_ble_eq_true rfl⟩ (Nat.le_of_ble_eq_true rfl) ⟨Nat.zero_le _, Nat.zero_le _⟩ dX5_loadsOn_9 rfl ?_
      refine j_icmp_ge (tgt := 42) M dX5_loadsOn_12 (by decide) (fun _ => ?_) (fun z => absurd (nI_le (by omega) (by omega)) z)
      refine j_iload_n M dX5_loadsOn_42 rfl ?_
      exact j_iret (v := n) M dX5_loadsOn_43 (Nat.le_refl _) (Nat.le_refl _) ⟨congrArg (fun z => some (Value.int z)) (show n = m_loadsOn K S x from (hq.trans (by simp only [m_loadsOn_lp])).symm), rfl⟩
    | succ r ih =>
      intro j n hj hq
      refine j_iload_n M dX5_loadsOn_4 rfl ?_
      refine j_aload_n M dX5_loadsOn_5 rfl ?_
      refine j_get (v := .ref (K 14)) M hW.k1.1 (pAt_5 E _ hW.k1.2) rfl inU_X5 4 (by decide) wF_X5_24 (fun _ h => h) (rfv hW.r36) dX5_loadsOn_6 ?_
      refine j_callV1 (As := []) (x := .int (nI (sZ S (K 14)))) M cf_size wM_X5_68 (c_size hW.l14) hW.l14.1.1 (pAt_8 E _ hW.l14.1.2) rfl rfl ⟨Nat.le_of_ble_eq_true rfl, Nat.le_of_ble_eq_true rfl⟩ (Nat.le_of_ble_eq_true rfl) ⟨Nat.zero_le _, Nat.zero_le _⟩ dX5_loadsOn_9 rfl ?_
      refine j_icmp_ge (tgt := 42) M dX5_loadsOn_12 (by decide) (fun z => absurd z (nI_ge (by omega) (by omega))) (fun _ => ?_)
      refine j_aload_n M dX5_loadsOn_15 rfl ?_
      refine j_get (v := .ref (K 14)) M hW.k1.1 (pAt_5 E _ hW.k1.2) rfl inU_X5 4 (by decide) wF_X5_24 (fun _ h => h) (rfv hW.r36) dX5_loadsOn_16 ?_
      refine j_iload_n M dX5_loadsOn_19 rfl ?_
      refine j_callV1 (As := [.int (nI j)]) (x := .ref (el S (K 14) j)) M cf_get wM_X5_72 (c_get hW.l14 (by decide) (show j < sZ S (K 14) by omega)) hW.l14.1.1 (pAt_8 E _ hW.l14.1.2) rfl rfl ⟨Nat.le_of_ble_eq_true rfl, Nat.le_of_ble_eq_true rfl⟩ (Nat.le_of_ble_eq_true rfl) ⟨Nat.zero_le _, Nat.zero_le _⟩ dX5_loadsOn_20 rfl ?_
      refine j_cast M ((LSt.el hW.l14 (show j < sZ S (K 14) by omega)).1) (pAt_2 E _ ((LSt.el hW.l14 (show j < sZ S (K 14) by omega)).2)) rfl wL_X5_110 dX5_loadsOn_23 ?_
      refine j_iload_n M dX5_loadsOn_26 rfl ?_
      refine j_callV1 (As := [.int x]) M cf_X2_liesOn wM_X5_112 (c_liesOn hW hA hM ((LSt.el hW.l14 (show j < sZ S (K 14) by omega)).1) ((LSt.el hW.l14 (show j < sZ S (K 14) by omega)).2) x) ((LSt.el hW.l14 (show j < sZ S (K 14) by omega)).1) (pAt_2 E _ ((LSt.el hW.l14 (show j < sZ S (K 14) by omega)).2)) rfl rfl ⟨Nat.le_of_ble_eq_true rfl, Nat.le_of_ble_eq_true rfl⟩ (Nat.le_of_ble_eq_true rfl) ⟨Nat.zero_le _, Nat.zero_le _⟩ dX5_loadsOn_27 rfl ?_
      refine j_if_eq (tgt := 36) M dX5_loadsOn_30 (by decide) (fun c1 => ?_) (fun c1 => ?_)
      · refine j_iinc (v := (nI (j + 1))) (lv' := [(3, .int (nI (j + 1))), (0, .ref (K 1)), (1, .int x), (2, .int n)]) M dX5_loadsOn_36 rfl (nI_1 _) (by decide) rfl ?_
        refine j_goto (tgt := 4) M dX5_loadsOn_39 (by decide) ?_
        refine j_pick [1, 2, 3, 0] rfl ?_
        exact ih (j + 1) n (by omega) (hq.trans (by simp only [m_loadsOn_lp, if_pos c1]))
      · refine j_iinc (v := (n + 1)) (lv' := [(2, .int (n + 1)), (0, .ref (K 1)), (1, .int x), (3, .int (nI j))]) M dX5_loadsOn_33 rfl rfl (by decide) rfl ?_
        refine j_iinc (v := (nI (j + 1))) (lv' := [(3, .int (nI (j + 1))), (2, .int (n + 1)), (0, .ref (K 1)), (1, .int x)]) M dX5_loadsOn_36 rfl (nI_1 _) (by decide) rfl ?_
        refine j_goto (tgt := 4) M dX5_loadsOn_39 (by decide) ?_
        refine j_pick [2, 3, 1, 0] rfl ?_
        exact ih (j + 1) (n + 1) (by omega) (hq.trans (by simp only [m_loadsOn_lp, if_neg c1]))
  refine j_pick (lv' := [(0, .ref (K 1)), (1, .int x), (2, .int 0), (3, .int (nI 0))]) [2, 3, 1, 0] rfl ?_
  exact lp (sZ S (K 14)) 0 0 (by omega) (by unfold m_loadsOn; rfl)
end
